set_option maxHeartbeats 400000 in
set_option maxRecDepth 100000 in
theorem c_X8_checksum (l : Launch) {G : mG} {K : Nat → Nat} {I : Nat → Nat → Int32} {R : Nat → Nat → Option Nat} {F : Nat → UInt32} {A : Nat → Nat → Int32} {N : Nat → Nat} {L : Nat → List Nat} {T : Nat → List Int32} {J : Nat → Nat → Int64} {D : Nat → Nat → UInt64} {o : Nat} {cd : Nat → Nat} {Z : Nat → Int32} {M : Nat → Nat → Int32}  (hs : c_sim K I R N A L T o cd Z M) : Met l yX8_checksum wsX8_checksum ({ frames := 3, cells := 0, slots := 0, locals := 100 } : Room) (va_Pc [.ref o] (m_B G K I R F A N L T J D)) (va_Ql (fun (r : Int64) (_ : Unit) => r = o_ck M (L (cd 1)).length) (fun u : Unit => m_B G K I R F A N L T J D) (m_A G)) 0 0 (m_A G) := by
  refine Met.ofW (cc := cX8_checksum) (maxL := 5) (ret := (some .long)) (by decide) rfl ?_
  intro p e s m args below meth c s₁ B hml hv
  obtain ⟨rfl, hB⟩ := hv
  have hx := B.exec
  have hb := B.bytes
  have hr := B.returns
  have hts := atoms_spec (ws := wsX8_checksum) B.pre
  have hown : s.vm.findClass RX8 = some m.cls := findClass_of_methodNamed B.named
  have hlocks := B.notSynchronized
  have hw := m_wo_in hB
  have hl := lv_entry ([.ref o]) (n := 5) (Nat.le_of_ble_eq_true rfl)
  rw [lg_entry_eq]
  generalize (lg_sl ([.ref o]) ++ List.replicate (5 - (lg_sl ([.ref o])).length) Slot.unset).toArray = ls at hl ⊢
  have hl : lv_has ls 5 [(0, .ref o)] := hl
  have hok := hs.1
  have hel0 := q_el0 hs
  have hel1 := q_el1 hs
  have hel5 := q_el5 hs
  have hel7 := q_el7 hs
  have hel9 := q_el9 hs
  have hlen := m_len hw hok.2.2.2.2.2.2.2.2.2.2.2.1
  refine lv_ldc2 (v := 7) hx hb hown (hts (.constantLong RX8 324 7) (by decide +kernel)) dX8_checksum_0 ?_
  refine lv_lstore_n (lv' := [(1, .long 7), (0, .ref o)]) hx hb dX8_checksum_3 rfl hl (by decide) rfl (fun ls hl => ?_)
  refine lv_iconst (v := 0) hx hb dX8_checksum_4 (by decide) ?_
  refine lv_istore_n (lv' := [(3, .int 0), (1, .long 7), (0, .ref o)]) hx hb dX8_checksum_5 rfl hl (by decide) rfl (fun ls hl => ?_)
  refine m_loop (σ := Nat × Int64) (fun a => (L (cd 1)).length - (a.1)) (fun a H locs ls => ((a.1) ≤ (L (cd 1)).length ∧ (a.2) = o_ck M (a.1)) ∧ m_wo G K I R F A N L T J D s H locs ∧ lv_has ls 5 [(0, .ref o), (1, .long (a.2)), (3, .int (nI (a.1)))]) ?_ (0, 7) ⟨⟨Nat.zero_le _, rfl⟩, hw, lv_sub hl [2, 1, 0] rfl⟩
  rintro ⟨i, y9⟩ H locs ls ⟨hinv, hw, hl⟩ ih
  dsimp only at hinv hw hl
  obtain ⟨hi0, hx0⟩ := hinv
  refine lv_iload_n hx hb dX8_checksum_6 rfl (lv_at hl 2 rfl) ?_
  refine lv_aload_n hx hb dX8_checksum_7 rfl (lv_at hl 0 rfl) ?_
  refine g_9_1 (r := some (cd 1)) hx hb hts (by decide +kernel) hown hw hok.1 (hts (.fieldLink RX8 16 "Pirateindex" "log" "Ljava/util/ArrayList;") (by decide +kernel)) hok.2.2.1 dX8_checksum_8 ?_
  refine m_ci (va_runV (As := []) (rest := [.int (nI i)]) ⟨hx, hb, hml, hown, hts⟩ (c_Jx4a65c_size_8abf5 l hok.2.2.2.2.2.2.2.2.2.2.2.1) (cwV 0 hts gX8_checksum_Jx4a65c_size_8abf5 rfl rfl rfl (by decide +kernel) ⟨Nat.le_of_ble_eq_true rfl, Nat.le_of_ble_eq_true rfl⟩) ⟨m_blind m_B_calling, m_recv hw (m_ent_11 hok.2.2.2.2.2.2.2.2.2.2.2.1) rfl, fun U hU hW => ⟨rfl, m_wo_call hw hU hW⟩⟩ rfl rfl hl.1 rfl (lv_room (Nat.le_of_ble_eq_true rfl)) dX8_checksum_11 ⟨Nat.le_of_ble_eq_true rfl, Nat.le_of_ble_eq_true rfl⟩) hw (fun r_11 u_11 H locs hp_11 hw => ?_)
  obtain rfl : r_11 = (nI (L (cd 1)).length) := hp_11
  refine lv_icmp_ge (tgt := 89) hx hb dX8_checksum_14 (by decide) (fun c_14 => ?_) (fun c_14 => ?_)
  · skip
    rw [nI_leI (by omega) (by omega)] at c_14
    have hi : i = (L (cd 1)).length := by omega
    refine lv_lload_n hx hb dX8_checksum_89 rfl (lv_at hl 1 rfl) ?_
    exact W.lret (v := y9) hx hb hr (fun t ht hW => ⟨⟨y9, (), rfl, (by rw [hx0, hi]), m_wo_out hw ht hW.alike⟩, m_wo_F hw ht⟩) (m_wo_L hw) dX8_checksum_90
  · skip
    rw [nI_leI (by omega) (by omega)] at c_14
    have hi : i < (L (cd 1)).length := by omega
    refine lv_aload_n hx hb dX8_checksum_17 rfl (lv_at hl 0 rfl) ?_
    refine g_9_1 (r := some (cd 1)) hx hb hts (by decide +kernel) hown hw hok.1 (hts (.fieldLink RX8 16 "Pirateindex" "log" "Ljava/util/ArrayList;") (by decide +kernel)) hok.2.2.1 dX8_checksum_18 ?_
    refine lv_iload_n hx hb dX8_checksum_21 rfl (lv_at hl 2 rfl) ?_
    obtain ⟨ai, ha⟩ : ∃ z, (L (cd 1))[i]? = some z := ⟨_, lg_some hi⟩
    have hka : K ai = 1 := hel1 ai (List.mem_of_getElem? ha)
    refine m_cq (va_runV (As := [.int (nI i)]) (rest := []) ⟨hx, hb, hml, hown, hts⟩ (c_Jx4a65c_get_915e3 l hok.2.2.2.2.2.2.2.2.2.2.2.1 hi) (cwV 1 hts gX8_checksum_Jx4a65c_get_915e3 rfl rfl rfl (by decide +kernel) ⟨Nat.le_of_ble_eq_true rfl, Nat.le_of_ble_eq_true rfl⟩) ⟨m_blind m_B_calling, m_recv hw (m_ent_11 hok.2.2.2.2.2.2.2.2.2.2.2.1) rfl, fun U hU hW => ⟨rfl, m_wo_call hw hU hW⟩⟩ rfl rfl hl.1 rfl (lv_room (Nat.le_of_ble_eq_true rfl)) dX8_checksum_22 ⟨Nat.le_of_ble_eq_true rfl, Nat.le_of_ble_eq_true rfl⟩) hw (fun r_22 u_22 H locs hp_22 hw => ?_)
    obtain rfl : r_22 = some ai := hp_22.trans ha
    obtain ⟨-, -, f11, f12, f13, f16, -⟩ := hs.2.2.1.2.2 i ai ha
    refine va_castS hx hb hown (hts (.classLink RX8 95 "Pirateindex$Find") (by decide +kernel)) (hw.1.1 5 _ rfl).2 (m_recv hw (m_ent_1 hka) rfl) dX8_checksum_25 ?_
    refine lv_astore (lv' := [(4, .ref ai), (0, .ref o), (1, .long y9), (3, .int (nI i))]) hx hb dX8_checksum_28 hl (by decide) rfl (fun ls hl => ?_)
    refine lv_ldc2 (v := 31) hx hb hown (hts (.constantLong RX8 326 31) (by decide +kernel)) dX8_checksum_30 ?_
    refine lv_lload_n hx hb dX8_checksum_33 rfl (lv_at hl 2 rfl) ?_
    refine lv_lmul hx hb dX8_checksum_34 ?_
    refine lv_aload hx hb dX8_checksum_35 (lv_at hl 0 rfl) ?_
    refine g_1_1 hx hb hts (by decide +kernel) hown hw hka (hts (.fieldLink RX8 328 "Pirateindex$Find" "word" "I") (by decide +kernel)) dX8_checksum_37 ?_
    rw [f11]
    refine lv_i2l (v := ((M 11 i)).toInt64) hx hb dX8_checksum_40 rfl ?_
    refine lv_ladd hx hb dX8_checksum_41 ?_
    refine lv_lstore_n (lv' := [(1, .long ((31 * y9) + (((M 11 i)).toInt64))), (4, .ref ai), (0, .ref o), (3, .int (nI i))]) hx hb dX8_checksum_42 rfl hl (by decide) rfl (fun ls hl => ?_)
    refine lv_ldc2 (v := 31) hx hb hown (hts (.constantLong RX8 326 31) (by decide +kernel)) dX8_checksum_43 ?_
    refine lv_lload_n hx hb dX8_checksum_46 rfl (lv_at hl 0 rfl) ?_
    refine lv_lmul hx hb dX8_checksum_47 ?_
    refine lv_aload hx hb dX8_checksum_48 (lv_at hl 1 rfl) ?_
    refine g_1_2 hx hb hts (by decide +kernel) hown hw hka (hts (.fieldLink RX8 331 "Pirateindex$Find" "island" "I") (by decide +kernel)) dX8_checksum_50 ?_
    rw [f12]
    refine lv_i2l (v := ((M 12 i)).toInt64) hx hb dX8_checksum_53 rfl ?_
    refine lv_ladd hx hb dX8_checksum_54 ?_
    refine lv_lstore_n (lv' := [(1, .long ((31 * ((31 * y9) + (((M 11 i)).toInt64))) + (((M 12 i)).toInt64))), (4, .ref ai), (0, .ref o), (3, .int (nI i))]) hx hb dX8_checksum_55 rfl hl (by decide) rfl (fun ls hl => ?_)
    refine lv_ldc2 (v := 31) hx hb hown (hts (.constantLong RX8 326 31) (by decide +kernel)) dX8_checksum_56 ?_
    refine lv_lload_n hx hb dX8_checksum_59 rfl (lv_at hl 0 rfl) ?_
    refine lv_lmul hx hb dX8_checksum_60 ?_
    refine lv_aload hx hb dX8_checksum_61 (lv_at hl 1 rfl) ?_
    refine g_1_3 hx hb hts (by decide +kernel) hown hw hka (hts (.fieldLink RX8 334 "Pirateindex$Find" "place" "I") (by decide +kernel)) dX8_checksum_63 ?_
    rw [f13]
    refine lv_i2l (v := ((M 13 i)).toInt64) hx hb dX8_checksum_66 rfl ?_
    refine lv_ladd hx hb dX8_checksum_67 ?_
    refine lv_lstore_n (lv' := [(1, .long ((31 * ((31 * ((31 * y9) + (((M 11 i)).toInt64))) + (((M 12 i)).toInt64))) + (((M 13 i)).toInt64))), (4, .ref ai), (0, .ref o), (3, .int (nI i))]) hx hb dX8_checksum_68 rfl hl (by decide) rfl (fun ls hl => ?_)
    refine lv_aload hx hb dX8_checksum_69 (lv_at hl 1 rfl) ?_
    refine g_1_6 hx hb hts (by decide +kernel) hown hw hka (hts (.fieldLink RX8 296 "Pirateindex$Find" "struck" "Z") (by decide +kernel)) dX8_checksum_71 ?_
    rw [f16]
    refine lv_if_eq (tgt := 83) hx hb dX8_checksum_74 (by decide) (fun c_74 => ?_) (fun c_74 => ?_)
    · skip
      have hx1 : (31 * (31 * (31 * y9 + (M 11 i).toInt64) + (M 12 i).toInt64) + (M 13 i).toInt64) = o_ck M (i + 1) := by rw [hx0]; show _ = _ + (if M 16 i = 0 then (0 : Int32) else 100).toInt64; rw [if_pos c_74]; exact (Int64.add_zero _).symm
      refine lv_iinc (v := nI (i + 1)) (lv' := [(3, .int (nI (i + 1))), (1, .long ((31 * ((31 * ((31 * y9) + (((M 11 i)).toInt64))) + (((M 12 i)).toInt64))) + (((M 13 i)).toInt64))), (4, .ref ai), (0, .ref o)]) hx hb dX8_checksum_83 hl (k := 3) rfl (nI_1 _) (by decide) rfl (fun ls hl => ?_)
      refine lv_goto (tgt := 6) hx hb dX8_checksum_86 (by decide) ?_
      exact ih (i + 1, ((31 * ((31 * ((31 * y9) + (((M 11 i)).toInt64))) + (((M 12 i)).toInt64))) + (((M 13 i)).toInt64))) _ _ _ (by dsimp only; omega) ⟨⟨by omega, hx1⟩, hw, lv_sub hl [3, 1, 0] rfl⟩
    · skip
      have hx1 : (31 * (31 * (31 * y9 + (M 11 i).toInt64) + (M 12 i).toInt64) + (M 13 i).toInt64) + 100 = o_ck M (i + 1) := by rw [hx0]; show _ = _ + (if M 16 i = 0 then (0 : Int32) else 100).toInt64; rw [if_neg c_74]; rfl
      refine lv_lload_n hx hb dX8_checksum_77 rfl (lv_at hl 0 rfl) ?_
      refine lv_ldc2 (v := 100) hx hb hown (hts (.constantLong RX8 337 100) (by decide +kernel)) dX8_checksum_78 ?_
      refine lv_ladd hx hb dX8_checksum_81 ?_
      refine lv_lstore_n (lv' := [(1, .long (((31 * ((31 * ((31 * y9) + (((M 11 i)).toInt64))) + (((M 12 i)).toInt64))) + (((M 13 i)).toInt64)) + 100)), (4, .ref ai), (0, .ref o), (3, .int (nI i))]) hx hb dX8_checksum_82 rfl hl (by decide) rfl (fun ls hl => ?_)
      refine lv_iinc (v := nI (i + 1)) (lv' := [(3, .int (nI (i + 1))), (1, .long (((31 * ((31 * ((31 * y9) + (((M 11 i)).toInt64))) + (((M 12 i)).toInt64))) + (((M 13 i)).toInt64)) + 100)), (4, .ref ai), (0, .ref o)]) hx hb dX8_checksum_83 hl (k := 3) rfl (nI_1 _) (by decide) rfl (fun ls hl => ?_)
      refine lv_goto (tgt := 6) hx hb dX8_checksum_86 (by decide) ?_
      exact ih (i + 1, (((31 * ((31 * ((31 * y9) + (((M 11 i)).toInt64))) + (((M 12 i)).toInt64))) + (((M 13 i)).toInt64)) + 100)) _ _ _ (by dsimp only; omega) ⟨⟨by omega, hx1⟩, hw, lv_sub hl [3, 1, 0] rfl⟩
set_option maxHeartbeats 400000 in
set_option maxRecDepth 100000 in
theorem c_X8_hits (l : Launch) (hnt : l.stackTraces = false) {G : mG} {K : Nat → Nat} {I : Nat → Nat → Int32} {R : Nat → Nat → Option Nat} {F : Nat → UInt32} {A : Nat → Nat → Int32} {N : Nat → Nat} {L : Nat → List Nat} {T : Nat → List Int32} {J : Nat → Nat → Int64} {D : Nat → Nat → UInt64} {o : Nat} {cd : Nat → Nat} {Z : Nat → Int32} {M : Nat → Nat → Int32}  (hs : c_sim K I R N A L T o cd Z M) (hlt : ∀ i, o_hitT Z M i < 2 ^ 31) : vx_Met l yX8_hits wsX8_hits ({ frames := 9, cells := 1, slots := 6, locals := 320 } : Room) (va_Pc [.ref o] (fun U => m_B G K I R F A N L T J D U ∧ c_str U)) (va_Qi (fun (r : Int32) (u : Nat → Nat → Int32) => t_b (decide (0 < Z 29)) = 0 ∧ r = nI (cntB (fun f => decide (0 < o_hitT Z M (nI f))) (L (cd 0)).length) ∧ c_sim K I R N u L T o cd Z M ∧ c_fr K I R N A K I R N u) (fun u : Nat → Nat → Int32 => m_B G K I R F u N L T J D) (m_A G)) (vx_X (fun (u : Unit) => ¬ t_b (decide (0 < Z 29)) = 0) (fun E (u : Unit) t => E = "java/lang/UnsupportedOperationException" ∧ m_B G K I R F A N L T J D t) (m_A G)) 1 6 (m_A G) := by
  refine vx_ofW (cc := cX8_hits) (maxL := 3) (ret := (some .int)) (by decide) rfl ?_
  intro p e s m args below meth c s₁ B hml hxt hv
  obtain ⟨rfl, hB, hcs⟩ := hv
  have hx := B.exec
  have hb := B.bytes
  have hr := B.returns
  have hts := atoms_spec (ws := wsX8_hits) B.pre
  have hown : s.vm.findClass RX8 = some m.cls := findClass_of_methodNamed B.named
  have hlocks := B.notSynchronized
  have hw := m_wo_in hB
  have hl := lv_entry ([.ref o]) (n := 3) (Nat.le_of_ble_eq_true rfl)
  rw [lg_entry_eq]
  generalize (lg_sl ([.ref o]) ++ List.replicate (3 - (lg_sl ([.ref o])).length) Slot.unset).toArray = ls at hl ⊢
  have hl : lv_has ls 3 [(0, .ref o)] := hl
  have hok := hs.1
  have hel0 := q_el0 hs
  have hel1 := q_el1 hs
  have hel5 := q_el5 hs
  have hel7 := q_el7 hs
  have hel9 := q_el9 hs
  obtain ⟨n, ht1, ht2, ht3, ht4⟩ := hs.2.2.2.2.2.2.1
  have hp42 : I 42 (cd 6) = nI n := ht2.2.2.2.2.2.2.2.1
  have hn4 : n ≤ 4 := ht2.2.2.2.2.2.2.2.2.1
  have hrw := q_rw hs
  have hlen := m_len hw hok.2.2.2.2.2.2.2.2.2.2.1
  have hnw := c_dw hok
  refine lv_aload_n hx hb dX8_hits_0 rfl (lv_at hl 0 rfl) ?_
  refine m_xv (vx_runV (As := []) (rest := []) ⟨hx, hb, hml, hown, hts⟩ (c_X8_requireMap l hnt hok) (cwV 0 hts gX8_hits_X8_requireMap rfl rfl rfl (by decide +kernel) ⟨Nat.le_of_ble_eq_true rfl, Nat.le_of_ble_eq_true rfl⟩) ⟨m_blind (fun U g mk a h => ⟨m_B_calling U g mk a h.1, c_str_calling U g mk a h.2⟩), m_recv hw (m_ent_9 hok.1) rfl, fun U hU hW => ⟨rfl, m_wo_call hw hU hW, c_str_warm hW hcs⟩⟩ rfl rfl hl.1 rfl (lv_room (Nat.le_of_ble_eq_true rfl)) dX8_hits_1 ⟨Nat.le_of_ble_eq_true rfl, Nat.le_of_ble_eq_true rfl⟩) hw (fun E_ ce_ q9_ u_1x H locs hpx hw hce hcv hcl => ?_) (fun u_1 H locs hp_1 hw => ?_)
  · skip
    obtain ⟨hpx, rfl⟩ := hpx
    exact vx_out (fun x hx9 => absurd (hxt x hx9) id) hlocks hce hcv hcl (fun t ht9 hA9 => ⟨(), (fun z => absurd (of_decide_eq_true (q_tb0.mp z)) (by rw [ht1, ← hp42, hpx]; decide)), ⟨rfl, m_wo_out hw ht9 hA9⟩, m_wo_F hw ht9⟩) (m_wo_L hw) (Nat.le_of_ble_eq_true rfl) (Nat.le_of_ble_eq_true rfl)
  have hn0 : n ≠ 0 := fun z => hp_1 (by rw [hp42, z]; rfl)
  have hz29 : 0 < Z 29 := by rw [ht1]; exact q_pos (by omega) (fun z => hp_1 (hp42.trans z))
  refine lv_iconst (v := 0) hx hb dX8_hits_4 (by decide) ?_
  refine lv_istore_n (lv' := [(1, .int 0), (0, .ref o)]) hx hb dX8_hits_5 rfl hl (by decide) rfl (fun ls hl => ?_)
  refine lv_iconst (v := 0) hx hb dX8_hits_6 (by decide) ?_
  refine lv_istore_n (lv' := [(2, .int 0), (1, .int 0), (0, .ref o)]) hx hb dX8_hits_7 rfl hl (by decide) rfl (fun ls hl => ?_)
  refine m_loop (σ := Nat × Int32 × (Nat → Nat → Int32)) (fun a => (L (cd 0)).length - (a.1)) (fun a H locs ls => ((a.1) ≤ (L (cd 0)).length ∧ (a.2.1) = nI (cntB (fun f9 => decide (0 < o_hitT Z M (nI f9))) (a.1)) ∧ ∀ b9, b9 ≠ cd 11 → b9 ≠ cd 12 → (a.2.2) b9 = A b9) ∧ m_wo G K I R F (a.2.2) N L T J D s H locs ∧ lv_has ls 3 [(0, .ref o), (1, .int (a.2.1)), (2, .int (nI (a.1)))]) ?_ (0, 0, A) ⟨⟨Nat.zero_le _, rfl, fun _ _ _ => rfl⟩, hw, lv_sub hl [2, 1, 0] rfl⟩
  rintro ⟨i, y9, Aa⟩ H locs ls ⟨hinv, hw, hl⟩ ih
  dsimp only at hinv hw hl
  obtain ⟨hi0, hx0, hA0⟩ := hinv
  have hph1 : c_ph K R N I Aa (cd 6) (cd 13) (cd 14) n := c_ph_A ht2 (hA0 _ hnw.2.2.1 hnw.2.2.2)
  refine lv_iload_n hx hb dX8_hits_8 rfl (lv_at hl 2 rfl) ?_
  refine lv_aload_n hx hb dX8_hits_9 rfl (lv_at hl 0 rfl) ?_
  refine g_9_0 (r := some (cd 0)) hx hb hts (by decide +kernel) hown hw hok.1 (hts (.fieldLink RX8 10 "Pirateindex" "isles" "Ljava/util/ArrayList;") (by decide +kernel)) hok.2.1 dX8_hits_10 ?_
  refine m_ci (va_runV (As := []) (rest := [.int (nI i)]) ⟨hx, hb, hml, hown, hts⟩ (c_Jx4a65c_size_8abf5 l hok.2.2.2.2.2.2.2.2.2.2.1) (cwV 0 hts gX8_hits_Jx4a65c_size_8abf5 rfl rfl rfl (by decide +kernel) ⟨Nat.le_of_ble_eq_true rfl, Nat.le_of_ble_eq_true rfl⟩) ⟨m_blind m_B_calling, m_recv hw (m_ent_11 hok.2.2.2.2.2.2.2.2.2.2.1) rfl, fun U hU hW => ⟨rfl, m_wo_call hw hU hW⟩⟩ rfl rfl hl.1 rfl (lv_room (Nat.le_of_ble_eq_true rfl)) dX8_hits_13 ⟨Nat.le_of_ble_eq_true rfl, Nat.le_of_ble_eq_true rfl⟩) hw (fun r_13 u_13 H locs hp_13 hw => ?_)
  obtain rfl : r_13 = (nI (L (cd 0)).length) := hp_13
  refine lv_icmp_ge (tgt := 50) hx hb dX8_hits_16 (by decide) (fun c_16 => ?_) (fun c_16 => ?_)
  · skip
    rw [nI_leI (by omega) (by omega)] at c_16
    have hi : i = (L (cd 0)).length := by omega
    refine lv_iload_n hx hb dX8_hits_50 rfl (lv_at hl 1 rfl) ?_
    refine vx_ret ?_
    exact W.iret (v := y9) hx hb hr (fun t ht hW => ⟨⟨y9, Aa, rfl, ⟨q_tb0.mpr (decide_eq_true hz29), by rw [hx0, hi], c_sim_scr hs c_chg_rf (fun _ _ => rfl) (fun b h1 h2 _ => hA0 b h1 h2) hs.2.2.2.2.2.2.2.2, c_fr_A2 hok hA0⟩, m_wo_out hw ht hW.alike⟩, m_wo_F hw ht⟩) (m_wo_L hw) dX8_hits_51
  · skip
    rw [nI_leI (by omega) (by omega)] at c_16
    have hi : i < (L (cd 0)).length := by omega
    refine lv_aload_n hx hb dX8_hits_19 rfl (lv_at hl 0 rfl) ?_
    refine lv_aload_n hx hb dX8_hits_20 rfl (lv_at hl 0 rfl) ?_
    refine g_9_6 (r := some (cd 6)) hx hb hts (by decide +kernel) hown hw hok.1 (hts (.fieldLink RX8 46 "Pirateindex" "typed" "LPirateindex$Phrase;") (by decide +kernel)) hok.2.2.2.2.2.2.2.1 dX8_hits_21 ?_
    refine lv_aload_n hx hb dX8_hits_24 rfl (lv_at hl 0 rfl) ?_
    refine g_9_0 (r := some (cd 0)) hx hb hts (by decide +kernel) hown hw hok.1 (hts (.fieldLink RX8 10 "Pirateindex" "isles" "Ljava/util/ArrayList;") (by decide +kernel)) hok.2.1 dX8_hits_25 ?_
    refine lv_iload_n hx hb dX8_hits_28 rfl (lv_at hl 2 rfl) ?_
    obtain ⟨ai, ha⟩ : ∃ z, (L (cd 0))[i]? = some z := ⟨_, lg_some hi⟩
    have hka : K ai = 3 := hel0 ai (List.mem_of_getElem? ha)
    refine m_cq (va_runV (As := [.int (nI i)]) (rest := [.ref (cd 6), .ref o]) ⟨hx, hb, hml, hown, hts⟩ (c_Jx4a65c_get_915e3 l hok.2.2.2.2.2.2.2.2.2.2.1 hi) (cwV 1 hts gX8_hits_Jx4a65c_get_915e3 rfl rfl rfl (by decide +kernel) ⟨Nat.le_of_ble_eq_true rfl, Nat.le_of_ble_eq_true rfl⟩) ⟨m_blind m_B_calling, m_recv hw (m_ent_11 hok.2.2.2.2.2.2.2.2.2.2.1) rfl, fun U hU hW => ⟨rfl, m_wo_call hw hU hW⟩⟩ rfl rfl hl.1 rfl (lv_room (Nat.le_of_ble_eq_true rfl)) dX8_hits_29 ⟨Nat.le_of_ble_eq_true rfl, Nat.le_of_ble_eq_true rfl⟩) hw (fun r_29 u_29 H locs hp_29 hw => ?_)
    obtain rfl : r_29 = some ai := hp_29.trans ha
    refine va_castS hx hb hown (hts (.classLink RX8 75 "Pirateindex$Isle") (by decide +kernel)) (hw.1.1 7 _ rfl).2 (m_recv hw (m_ent_3 hka) rfl) dX8_hits_32 ?_
    refine m_ci (va_runV (As := [.ref (cd 6), .ref ai]) (rest := []) ⟨hx, hb, hml, hown, hts⟩ (c_X8_isHit l hok hka hph1 hrw) (cwV 2 hts gX8_hits_X8_isHit rfl rfl rfl (by decide +kernel) ⟨Nat.le_of_ble_eq_true rfl, Nat.le_of_ble_eq_true rfl⟩) ⟨m_blind m_B_calling, m_recv hw (m_ent_9 hok.1) rfl, fun U hU hW => ⟨rfl, m_wo_call hw hU hW⟩⟩ rfl rfl hl.1 rfl (lv_room (Nat.le_of_ble_eq_true rfl)) dX8_hits_35 ⟨Nat.le_of_ble_eq_true rfl, Nat.le_of_ble_eq_true rfl⟩) hw (fun r_35 u_35 H locs hp_35 hw => ?_)
    have hw : m_wo G K I R F u_35 N L T J D s H locs := hw
    obtain ⟨hA1, hr1⟩ := hp_35
    rw [c_hit_A (A := A) (hA0 _ hnw.1 hnw.2.1) (hA0 _ hnw.2.2.1 hnw.2.2.2), (hs.2.1.2.2 i ai ha).2.1, q_hitT hs ht1 hn0 hn4 ht3 ht4] at hr1
    have hq9 : decide (0 < nI (o_hitT Z M (nI i))) = (fun f9 => decide (0 < o_hitT Z M (nI f9))) i := decide_eq_decide.mpr (nI_ltI (a := 0) (b := o_hitT Z M (nI i)) (by decide) (hlt _))
    rw [hq9] at hr1
    obtain rfl : r_35 = b2i ((fun f9 => decide (0 < o_hitT Z M (nI f9))) i) := hr1
    have hB0 : ∀ b9, b9 ≠ cd 11 → b9 ≠ cd 12 → u_35 b9 = A b9 := fun b9 h1 h2 => (hA1 b9 h1 h2).trans (hA0 b9 h1 h2)
    refine lv_if_eq (tgt := 44) hx hb dX8_hits_38 (by decide) (fun c_38 => ?_) (fun c_38 => ?_)
    · skip
      have hq := (b2i_eq _).mp c_38
      have hx1 : y9 = nI (cntB (fun f9 => decide (0 < o_hitT Z M (nI f9))) (i + 1)) := by rw [hx0]; show _ = nI (cntB (fun f9 => decide (0 < o_hitT Z M (nI f9))) i + if (fun f9 => decide (0 < o_hitT Z M (nI f9))) i = true then 1 else 0); rw [if_neg (by rw [hq]; decide)]; rfl
      refine lv_iinc (v := nI (i + 1)) (lv' := [(2, .int (nI (i + 1))), (0, .ref o), (1, .int y9)]) hx hb dX8_hits_44 hl (k := 2) rfl (nI_1 _) (by decide) rfl (fun ls hl => ?_)
      refine lv_goto (tgt := 8) hx hb dX8_hits_47 (by decide) ?_
      exact ih (i + 1, y9, u_35) _ _ _ (by dsimp only; omega) ⟨⟨by omega, hx1, hB0⟩, hw, lv_sub hl [1, 2, 0] rfl⟩
    · skip
      have hq := (b2i_ne _).mp c_38
      have hx1 : y9 + 1 = nI (cntB (fun f9 => decide (0 < o_hitT Z M (nI f9))) (i + 1)) := by rw [hx0]; show _ = nI (cntB (fun f9 => decide (0 < o_hitT Z M (nI f9))) i + if (fun f9 => decide (0 < o_hitT Z M (nI f9))) i = true then 1 else 0); rw [if_pos hq]; exact nI_1 _
      refine lv_iinc (v := y9 + 1) (lv' := [(1, .int (y9 + 1)), (0, .ref o), (2, .int (nI i))]) hx hb dX8_hits_41 hl (k := 1) rfl rfl (by decide) rfl (fun ls hl => ?_)
      refine lv_iinc (v := nI (i + 1)) (lv' := [(2, .int (nI (i + 1))), (1, .int (y9 + 1)), (0, .ref o)]) hx hb dX8_hits_44 hl (k := 2) rfl (nI_1 _) (by decide) rfl (fun ls hl => ?_)
      refine lv_goto (tgt := 8) hx hb dX8_hits_47 (by decide) ?_
      exact ih (i + 1, y9 + 1, u_35) _ _ _ (by dsimp only; omega) ⟨⟨by omega, hx1, hB0⟩, hw, lv_sub hl [2, 1, 0] rfl⟩
