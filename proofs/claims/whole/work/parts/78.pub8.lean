theorem q_add (a b : Nat) : nI a + nI b = nI (a + b) := by
  induction b with
  | zero => exact Int32.add_zero _
  | succ n ih => rw [← nI_1, ← Int32.add_assoc, ih, nI_1]; rfl
theorem q_in_all {K : Nat → Nat} {I : Nat → Nat → Int32} {R : Nat → Nat → Option Nat} {N : Nat → Nat} {A : Nat → Nat → Int32} {L : Nat → List Nat} {T : Nat → List Int32} {x : Nat} {cd : Nat → Nat} {Z : mZ} {M : mM} (h : c_sim K I R N A L T x cd Z M) : (c_all R L (L (cd 10))).length = o_in M (L (cd 1)).length := by
  have h1 := q_all_q h (fun _ => true)
  rw [List.countP_true] at h1
  rw [h1, ← cnt_list]
  unfold o_in
  refine cntB_congr (fun j hj => ?_)
  have hb : (L (cd 1))[j]? = some ((L (cd 1)).getD j 0) := by
    rw [List.getD_eq_getElem?_getD, List.getElem?_eq_getElem hj]
    rfl
  show (true && (R 15 _).isSome) = _
  rw [Bool.true_and, q_som h hb]
set_option maxHeartbeats 400000 in
set_option maxRecDepth 100000 in
theorem c_X8_struckShare (l : Launch) (hnt : l.stackTraces = false) {G : mG} {K : Nat → Nat} {I : Nat → Nat → Int32} {R : Nat → Nat → Option Nat} {F : Nat → UInt32} {A : Nat → Nat → Int32} {N : Nat → Nat} {L : Nat → List Nat} {T : Nat → List Int32} {J : Nat → Nat → Int64} {D : Nat → Nat → UInt64} {o : Nat} {cd : Nat → Nat} {Z : Nat → Int32} {M : Nat → Nat → Int32}  (hs : c_sim K I R N A L T o cd Z M) (hne : 0 < (L (cd 1)).length → vf_n32 (o_share M (L (cd 1)).length)) : vx_Met l yX8_struckShare wsX8_struckShare ({ frames := 9, cells := 1, slots := 6, locals := 260 } : Room) (va_Pc [.ref o] (fun U => m_B G K I R F A N L T J D U ∧ c_str U)) (va_Qf (fun (r : UInt32) (_ : Unit) => t_b (decide (0 < (L (cd 1)).length)) = 0 ∧ r = o_share M (L (cd 1)).length) (fun u : Unit => m_B G K I R F A N L T J D) (m_A G)) (vx_X (fun (u : Unit) => ¬ t_b (decide (0 < (L (cd 1)).length)) = 0) (fun E (u : Unit) t => E = "java/lang/ArithmeticException" ∧ m_B G K I R F A N L T J D t) (m_A G)) 1 6 (m_A G) := by
  refine vx_ofW (cc := cX8_struckShare) (maxL := 3) (ret := (some .float)) (by decide) rfl ?_
  intro p e s m args below meth c s₁ B hml hxt hv
  obtain ⟨rfl, hB, hcs⟩ := hv
  have hx := B.exec
  have hb := B.bytes
  have hr := B.returns
  have hts := atoms_spec (ws := wsX8_struckShare) B.pre
  have hown : s.vm.findClass RX8 = some m.cls := findClass_of_methodNamed B.named
  have hlocks := B.notSynchronized
  have hw := m_wo_in hB
  have hl := lv_entry ([.ref o]) (n := 3) (Nat.le_of_ble_eq_true rfl)
  rw [lg_entry_eq]
  generalize (lg_sl ([.ref o]) ++ List.replicate (3 - (lg_sl ([.ref o])).length) Slot.unset).toArray = ls at hl ⊢
  have hl : lv_has ls 3 [(0, .ref o)] := hl
  have hok := hs.1
  have hel0 := q_el0 hs
  have hel1 := q_el1 hs
  have hel5 := q_el5 hs
  have hel7 := q_el7 hs
  have hel9 := q_el9 hs
  have hlen := m_len hw hok.2.2.2.2.2.2.2.2.2.2.2.1
  refine lv_aload_n hx hb dX8_struckShare_0 rfl (lv_at hl 0 rfl) ?_
  refine g_9_1 (r := some (cd 1)) hx hb hts (by decide +kernel) hown hw hok.1 (hts (.fieldLink RX8 16 "Pirateindex" "log" "Ljava/util/ArrayList;") (by decide +kernel)) hok.2.2.1 dX8_struckShare_1 ?_
  refine m_ci (va_runV (As := []) (rest := []) ⟨hx, hb, hml, hown, hts⟩ (c_Jx4a65c_isEmpty_aae02 l hok.2.2.2.2.2.2.2.2.2.2.2.1) (cwV 0 hts gX8_struckShare_Jx4a65c_isEmpty_aae02 rfl rfl rfl (by decide +kernel) ⟨Nat.le_of_ble_eq_true rfl, Nat.le_of_ble_eq_true rfl⟩) ⟨m_blind m_B_calling, m_recv hw (m_ent_11 hok.2.2.2.2.2.2.2.2.2.2.2.1) rfl, fun U hU hW => ⟨rfl, m_wo_call hw hU hW⟩⟩ rfl rfl hl.1 rfl (lv_room (Nat.le_of_ble_eq_true rfl)) dX8_struckShare_4 ⟨Nat.le_of_ble_eq_true rfl, Nat.le_of_ble_eq_true rfl⟩) hw (fun r_4 u_4 H locs hp_4 hw => ?_)
  obtain rfl : r_4 = (b2i (decide ((L (cd 1)).length = 0))) := hp_4
  refine lv_if_eq (tgt := 21) hx hb dX8_struckShare_7 (by decide) (fun c_7 => ?_) (fun c_7 => ?_)
  · skip
    have hq := of_decide_eq_false ((b2i_eq _).mp c_7)
    have h0 : 0 < (L (cd 1)).length := Nat.pos_of_ne_zero hq
    have hns := hne h0
    unfold o_share at hns
    refine lv_iconst (v := 0) hx hb dX8_struckShare_21 (by decide) ?_
    refine lv_istore_n (lv' := [(1, .int 0), (0, .ref o)]) hx hb dX8_struckShare_22 rfl hl (by decide) rfl (fun ls hl => ?_)
    refine lv_iconst (v := 0) hx hb dX8_struckShare_23 (by decide) ?_
    refine lv_istore_n (lv' := [(2, .int 0), (1, .int 0), (0, .ref o)]) hx hb dX8_struckShare_24 rfl hl (by decide) rfl (fun ls hl => ?_)
    refine m_loop (σ := Nat × Int32) (fun a => (L (cd 1)).length - (a.1)) (fun a H locs ls => ((a.1) ≤ (L (cd 1)).length ∧ (a.2) = nI (cntB (fun f9 => !decide (M 16 f9 = 0)) (a.1))) ∧ m_wo G K I R F A N L T J D s H locs ∧ lv_has ls 3 [(0, .ref o), (1, .int (a.2)), (2, .int (nI (a.1)))]) ?_ (0, 0) ⟨⟨Nat.zero_le _, rfl⟩, hw, lv_sub hl [2, 1, 0] rfl⟩
    rintro ⟨i, y9⟩ H locs ls ⟨hinv, hw, hl⟩ ih
    dsimp only at hinv hw hl
    obtain ⟨hi0, hx0⟩ := hinv
    refine lv_iload_n hx hb dX8_struckShare_25 rfl (lv_at hl 2 rfl) ?_
    refine lv_aload_n hx hb dX8_struckShare_26 rfl (lv_at hl 0 rfl) ?_
    refine g_9_1 (r := some (cd 1)) hx hb hts (by decide +kernel) hown hw hok.1 (hts (.fieldLink RX8 16 "Pirateindex" "log" "Ljava/util/ArrayList;") (by decide +kernel)) hok.2.2.1 dX8_struckShare_27 ?_
    refine m_ci (va_runV (As := []) (rest := [.int (nI i)]) ⟨hx, hb, hml, hown, hts⟩ (c_Jx4a65c_size_8abf5 l hok.2.2.2.2.2.2.2.2.2.2.2.1) (cwV 0 hts gX8_struckShare_Jx4a65c_size_8abf5 rfl rfl rfl (by decide +kernel) ⟨Nat.le_of_ble_eq_true rfl, Nat.le_of_ble_eq_true rfl⟩) ⟨m_blind m_B_calling, m_recv hw (m_ent_11 hok.2.2.2.2.2.2.2.2.2.2.2.1) rfl, fun U hU hW => ⟨rfl, m_wo_call hw hU hW⟩⟩ rfl rfl hl.1 rfl (lv_room (Nat.le_of_ble_eq_true rfl)) dX8_struckShare_30 ⟨Nat.le_of_ble_eq_true rfl, Nat.le_of_ble_eq_true rfl⟩) hw (fun r_30 u_30 H locs hp_30 hw => ?_)
    obtain rfl : r_30 = (nI (L (cd 1)).length) := hp_30
    refine lv_icmp_ge (tgt := 62) hx hb dX8_struckShare_33 (by decide) (fun c_33 => ?_) (fun c_33 => ?_)
    · skip
      rw [nI_leI (by omega) (by omega)] at c_33
      have hi : i = (L (cd 1)).length := by omega
      refine lv_iload_n hx hb dX8_struckShare_62 rfl (lv_at hl 1 rfl) ?_
      refine lv_i2f hx hb dX8_struckShare_63 ?_
      refine lv_aload_n hx hb dX8_struckShare_64 rfl (lv_at hl 0 rfl) ?_
      refine g_9_1 (r := some (cd 1)) hx hb hts (by decide +kernel) hown hw hok.1 (hts (.fieldLink RX8 16 "Pirateindex" "log" "Ljava/util/ArrayList;") (by decide +kernel)) hok.2.2.1 dX8_struckShare_65 ?_
      refine m_ci (va_runV (As := []) (rest := [.float (FP.i2f y9)]) ⟨hx, hb, hml, hown, hts⟩ (c_Jx4a65c_size_8abf5 l hok.2.2.2.2.2.2.2.2.2.2.2.1) (cwV 0 hts gX8_struckShare_Jx4a65c_size_8abf5 rfl rfl rfl (by decide +kernel) ⟨Nat.le_of_ble_eq_true rfl, Nat.le_of_ble_eq_true rfl⟩) ⟨m_blind m_B_calling, m_recv hw (m_ent_11 hok.2.2.2.2.2.2.2.2.2.2.2.1) rfl, fun U hU hW => ⟨rfl, m_wo_call hw hU hW⟩⟩ rfl rfl hl.1 rfl (lv_room (Nat.le_of_ble_eq_true rfl)) dX8_struckShare_68 ⟨Nat.le_of_ble_eq_true rfl, Nat.le_of_ble_eq_true rfl⟩) hw (fun r_68 u_68 H locs hp_68 hw => ?_)
      obtain rfl : r_68 = (nI (L (cd 1)).length) := hp_68
      refine lv_i2f hx hb dX8_struckShare_71 ?_
      refine lv_fdiv hx hb dX8_struckShare_72 (by rw [hx0, hi]; exact hns) ?_
      refine vx_ret ?_
      refine W.widen (k := 1) (n := 6) (by omega) (by omega) ?_
      exact W.fret (v := (FP.fdiv (FP.i2f y9) (FP.i2f (nI (L (cd 1)).length)))) hx hb hr (fun t ht hW => ⟨⟨(FP.fdiv (FP.i2f y9) (FP.i2f (nI (L (cd 1)).length))), (), rfl, ⟨q_tb0.mpr (decide_eq_true h0), by rw [hx0, hi]; rfl⟩, m_wo_out hw ht hW.alike⟩, m_wo_F hw ht⟩) (m_wo_L hw) dX8_struckShare_73
    · skip
      rw [nI_leI (by omega) (by omega)] at c_33
      have hi : i < (L (cd 1)).length := by omega
      refine lv_aload_n hx hb dX8_struckShare_36 rfl (lv_at hl 0 rfl) ?_
      refine g_9_1 (r := some (cd 1)) hx hb hts (by decide +kernel) hown hw hok.1 (hts (.fieldLink RX8 16 "Pirateindex" "log" "Ljava/util/ArrayList;") (by decide +kernel)) hok.2.2.1 dX8_struckShare_37 ?_
      refine lv_iload_n hx hb dX8_struckShare_40 rfl (lv_at hl 2 rfl) ?_
      obtain ⟨ai, ha⟩ : ∃ z, (L (cd 1))[i]? = some z := ⟨_, lg_some hi⟩
      have hka : K ai = 1 := hel1 ai (List.mem_of_getElem? ha)
      refine m_cq (va_runV (As := [.int (nI i)]) (rest := []) ⟨hx, hb, hml, hown, hts⟩ (c_Jx4a65c_get_915e3 l hok.2.2.2.2.2.2.2.2.2.2.2.1 hi) (cwV 1 hts gX8_struckShare_Jx4a65c_get_915e3 rfl rfl rfl (by decide +kernel) ⟨Nat.le_of_ble_eq_true rfl, Nat.le_of_ble_eq_true rfl⟩) ⟨m_blind m_B_calling, m_recv hw (m_ent_11 hok.2.2.2.2.2.2.2.2.2.2.2.1) rfl, fun U hU hW => ⟨rfl, m_wo_call hw hU hW⟩⟩ rfl rfl hl.1 rfl (lv_room (Nat.le_of_ble_eq_true rfl)) dX8_struckShare_41 ⟨Nat.le_of_ble_eq_true rfl, Nat.le_of_ble_eq_true rfl⟩) hw (fun r_41 u_41 H locs hp_41 hw => ?_)
      obtain rfl : r_41 = some ai := hp_41.trans ha
      have f16 := (hs.2.2.1.2.2 i ai ha).2.2.2.2.2.1
      refine va_castS hx hb hown (hts (.classLink RX8 95 "Pirateindex$Find") (by decide +kernel)) (hw.1.1 5 _ rfl).2 (m_recv hw (m_ent_1 hka) rfl) dX8_struckShare_44 ?_
      refine g_1_6 hx hb hts (by decide +kernel) hown hw hka (hts (.fieldLink RX8 296 "Pirateindex$Find" "struck" "Z") (by decide +kernel)) dX8_struckShare_47 ?_
      rw [f16]
      refine lv_if_eq (tgt := 56) hx hb dX8_struckShare_50 (by decide) (fun c_50 => ?_) (fun c_50 => ?_)
      · skip
        have hx1 : y9 = nI (cntB (fun f9 => !decide (M 16 f9 = 0)) (i + 1)) := by rw [hx0]; show _ = nI (cntB (fun f9 => !decide (M 16 f9 = 0)) i + if (fun f9 => !decide (M 16 f9 = 0)) i = true then 1 else 0); rw [if_neg (by simp [c_50])]; rfl
        refine lv_iinc (v := nI (i + 1)) (lv' := [(2, .int (nI (i + 1))), (0, .ref o), (1, .int y9)]) hx hb dX8_struckShare_56 hl (k := 2) rfl (nI_1 _) (by decide) rfl (fun ls hl => ?_)
        refine lv_goto (tgt := 25) hx hb dX8_struckShare_59 (by decide) ?_
        exact ih (i + 1, y9) _ _ _ (by dsimp only; omega) ⟨⟨by omega, hx1⟩, hw, lv_sub hl [1, 2, 0] rfl⟩
      · skip
        have hx1 : y9 + 1 = nI (cntB (fun f9 => !decide (M 16 f9 = 0)) (i + 1)) := by rw [hx0]; show _ = nI (cntB (fun f9 => !decide (M 16 f9 = 0)) i + if (fun f9 => !decide (M 16 f9 = 0)) i = true then 1 else 0); rw [if_pos (by simp [c_50])]; exact nI_1 _
        refine lv_iinc (v := y9 + 1) (lv' := [(1, .int (y9 + 1)), (0, .ref o), (2, .int (nI i))]) hx hb dX8_struckShare_53 hl (k := 1) rfl rfl (by decide) rfl (fun ls hl => ?_)
        refine lv_iinc (v := nI (i + 1)) (lv' := [(2, .int (nI (i + 1))), (1, .int (y9 + 1)), (0, .ref o)]) hx hb dX8_struckShare_56 hl (k := 2) rfl (nI_1 _) (by decide) rfl (fun ls hl => ?_)
        refine lv_goto (tgt := 25) hx hb dX8_struckShare_59 (by decide) ?_
        exact ih (i + 1, y9 + 1) _ _ _ (by dsimp only; omega) ⟨⟨by omega, hx1⟩, hw, lv_sub hl [2, 1, 0] rfl⟩
  · skip
    have hq := of_decide_eq_true ((b2i_ne _).mp c_7)
    obtain ⟨sa, hsa⟩ := hcs.1 (313, "there are no finds") (by decide)
    refine vx_throwSW (names := ["java/lang/RuntimeException", "java/lang/Exception"]) hx hb hnt hown (by decide) (by decide) (hts (.classLink RX8 311 "java/lang/ArithmeticException") (by decide +kernel)) (hts (.initialized "java/lang/ArithmeticException") (by decide +kernel)) hsa (vx_hat (B := .castable "java/lang/ArithmeticException" "java/lang/ArithmeticException" :: [.declares (Bundle.initS "java/lang/RuntimeException"), .declares (Bundle.initS "java/lang/Exception"), .declares (Bundle.initS Bundle.tN)]) (fun w h => hts w ((by decide +kernel : ∀ w ∈ (vx_atS RX8 315 "java/lang/ArithmeticException" ["java/lang/RuntimeException", "java/lang/Exception"]).filter goodWord, w ∈ wsX8_struckShare) w h)) (by decide +kernel) (vx_c (m_wo_cas hw (by decide)) (c_str_dc hcs))) (by decide +kernel) hw.2.1.1 hw.2.1.2.1 hw.2.2.2.1 (hl.1.trans hml.symm) dX8_struckShare_10 dX8_struckShare_13 dX8_struckShare_14 dX8_struckShare_17 dX8_struckShare_20 (fun x hx9 => absurd (hxt x hx9) id) (Nat.le_of_ble_eq_true rfl) (Nat.le_of_ble_eq_true rfl) (Nat.le_of_ble_eq_true rfl) (Nat.le_of_ble_eq_true rfl) hlocks (fun t hA9 hs9 hq9 => ⟨(), (fun z => absurd (of_decide_eq_true (q_tb0.mp z)) (by omega)), ⟨rfl, m_wo_up hw hA9 hs9 hq9⟩, m_wo_uF hw hs9 hq9⟩) (m_wo_L hw) (Nat.le_of_ble_eq_true rfl) (Nat.le_of_ble_eq_true rfl)
set_option maxHeartbeats 400000 in
set_option maxRecDepth 100000 in
theorem c_X8_meanSize (l : Launch) {G : mG} {K : Nat → Nat} {I : Nat → Nat → Int32} {R : Nat → Nat → Option Nat} {F : Nat → UInt32} {A : Nat → Nat → Int32} {N : Nat → Nat} {L : Nat → List Nat} {T : Nat → List Int32} {J : Nat → Nat → Int64} {D : Nat → Nat → UInt64} {o : Nat} {cd : Nat → Nat} {Z : Nat → Int32} {M : Nat → Nat → Int32}  (hs : c_sim K I R N A L T o cd Z M) (hne : ¬ Z 3 = 0 → vf_n64 (FP.ddiv (FP.i2d (nI (o_in M (L (cd 1)).length))) (FP.i2d (Z 3)))) : Met l yX8_meanSize wsX8_meanSize ({ frames := 3, cells := 0, slots := 0, locals := 120 } : Room) (va_Pc [.ref o] (m_B G K I R F A N L T J D)) (va_Qd (fun (r : UInt64) (_ : Unit) => r = o_mean M (L (cd 1)).length (Z 3)) (fun u : Unit => m_B G K I R F A N L T J D) (m_A G)) 0 0 (m_A G) := by
  refine Met.ofW (cc := cX8_meanSize) (maxL := 3) (ret := (some .double)) (by decide) rfl ?_
  intro p e s m args below meth c s₁ B hml hv
  obtain ⟨rfl, hB⟩ := hv
  have hx := B.exec
  have hb := B.bytes
  have hr := B.returns
  have hts := atoms_spec (ws := wsX8_meanSize) B.pre
  have hown : s.vm.findClass RX8 = some m.cls := findClass_of_methodNamed B.named
  have hlocks := B.notSynchronized
  have hw := m_wo_in hB
  have hl := lv_entry ([.ref o]) (n := 3) (Nat.le_of_ble_eq_true rfl)
  rw [lg_entry_eq]
  generalize (lg_sl ([.ref o]) ++ List.replicate (3 - (lg_sl ([.ref o])).length) Slot.unset).toArray = ls at hl ⊢
  have hl : lv_has ls 3 [(0, .ref o)] := hl
  have hok := hs.1
  have hel0 := q_el0 hs
  have hel1 := q_el1 hs
  have hel5 := q_el5 hs
  have hel7 := q_el7 hs
  have hel9 := q_el9 hs
  have hlen := hs.2.2.2.2.1.2.1
  have hz3 := hs.2.2.2.2.1.1
  refine lv_aload_n hx hb dX8_meanSize_0 rfl (lv_at hl 0 rfl) ?_
  refine g_9_4 (r := some (cd 4)) hx hb hts (by decide +kernel) hown hw hok.1 (hts (.fieldLink RX8 36 "Pirateindex" "shelf" "LPirateindex$Shelf;") (by decide +kernel)) hok.2.2.2.2.2.1 dX8_meanSize_1 ?_
  refine g_6_0 (r := some (cd 10)) hx hb hts (by decide +kernel) hown hw hok.2.2.2.2.2.2.2.2.2.2.2.2.2.2.1 (hts (.fieldLink RX8 137 "Pirateindex$Shelf" "row" "Ljava/util/ArrayList;") (by decide +kernel)) hok.2.2.2.2.2.2.2.2.2.2.2.2.2.2.2.2.2.2.2.2.2.2.2.2.2.2.1 dX8_meanSize_4 ?_
  refine m_ci (va_runV (As := []) (rest := []) ⟨hx, hb, hml, hown, hts⟩ (c_Jx4a65c_isEmpty_aae02 l hok.2.2.2.2.2.2.2.2.2.2.2.2.2.2.2.2.2.2.2.2.1) (cwV 0 hts gX8_meanSize_Jx4a65c_isEmpty_aae02 rfl rfl rfl (by decide +kernel) ⟨Nat.le_of_ble_eq_true rfl, Nat.le_of_ble_eq_true rfl⟩) ⟨m_blind m_B_calling, m_recv hw (m_ent_11 hok.2.2.2.2.2.2.2.2.2.2.2.2.2.2.2.2.2.2.2.2.1) rfl, fun U hU hW => ⟨rfl, m_wo_call hw hU hW⟩⟩ rfl rfl hl.1 rfl (lv_room (Nat.le_of_ble_eq_true rfl)) dX8_meanSize_7 ⟨Nat.le_of_ble_eq_true rfl, Nat.le_of_ble_eq_true rfl⟩) hw (fun r_7 u_7 H locs hp_7 hw => ?_)
  obtain rfl : r_7 = (b2i (decide ((L (cd 10)).length = 0))) := hp_7
  refine lv_if_eq (tgt := 15) hx hb dX8_meanSize_10 (by decide) (fun c_10 => ?_) (fun c_10 => ?_)
  · skip
    have hq := of_decide_eq_false ((b2i_eq _).mp c_10)
    have h0 : ¬ Z 3 = 0 := by rw [hz3]; exact fun z => hq ((nI_eq (a := (L (cd 10)).length) (b := 0) (by omega) (by decide)).mp z)
    have hns := hne h0
    refine lv_iconst (v := 0) hx hb dX8_meanSize_15 (by decide) ?_
    refine lv_istore_n (lv' := [(1, .int 0), (0, .ref o)]) hx hb dX8_meanSize_16 rfl hl (by decide) rfl (fun ls hl => ?_)
    refine lv_iconst (v := 0) hx hb dX8_meanSize_17 (by decide) ?_
    refine lv_istore_n (lv' := [(2, .int 0), (1, .int 0), (0, .ref o)]) hx hb dX8_meanSize_18 rfl hl (by decide) rfl (fun ls hl => ?_)
    refine m_loop (σ := Nat × Int32) (fun a => (L (cd 10)).length - (a.1)) (fun a H locs ls => ((a.1) ≤ (L (cd 10)).length ∧ (a.2) = nI ((c_all R L ((L (cd 10)).take (a.1))).length)) ∧ m_wo G K I R F A N L T J D s H locs ∧ lv_has ls 3 [(0, .ref o), (1, .int (a.2)), (2, .int (nI (a.1)))]) ?_ (0, 0) ⟨⟨Nat.zero_le _, rfl⟩, hw, lv_sub hl [2, 1, 0] rfl⟩
    rintro ⟨i, y9⟩ H locs ls ⟨hinv, hw, hl⟩ ih
    dsimp only at hinv hw hl
    obtain ⟨hi0, hx0⟩ := hinv
    refine lv_iload_n hx hb dX8_meanSize_19 rfl (lv_at hl 2 rfl) ?_
    refine lv_aload_n hx hb dX8_meanSize_20 rfl (lv_at hl 0 rfl) ?_
    refine g_9_4 (r := some (cd 4)) hx hb hts (by decide +kernel) hown hw hok.1 (hts (.fieldLink RX8 36 "Pirateindex" "shelf" "LPirateindex$Shelf;") (by decide +kernel)) hok.2.2.2.2.2.1 dX8_meanSize_21 ?_
    refine g_6_0 (r := some (cd 10)) hx hb hts (by decide +kernel) hown hw hok.2.2.2.2.2.2.2.2.2.2.2.2.2.2.1 (hts (.fieldLink RX8 137 "Pirateindex$Shelf" "row" "Ljava/util/ArrayList;") (by decide +kernel)) hok.2.2.2.2.2.2.2.2.2.2.2.2.2.2.2.2.2.2.2.2.2.2.2.2.2.2.1 dX8_meanSize_24 ?_
    refine m_ci (va_runV (As := []) (rest := [.int (nI i)]) ⟨hx, hb, hml, hown, hts⟩ (c_Jx4a65c_size_8abf5 l hok.2.2.2.2.2.2.2.2.2.2.2.2.2.2.2.2.2.2.2.2.1) (cwV 0 hts gX8_meanSize_Jx4a65c_size_8abf5 rfl rfl rfl (by decide +kernel) ⟨Nat.le_of_ble_eq_true rfl, Nat.le_of_ble_eq_true rfl⟩) ⟨m_blind m_B_calling, m_recv hw (m_ent_11 hok.2.2.2.2.2.2.2.2.2.2.2.2.2.2.2.2.2.2.2.2.1) rfl, fun U hU hW => ⟨rfl, m_wo_call hw hU hW⟩⟩ rfl rfl hl.1 rfl (lv_room (Nat.le_of_ble_eq_true rfl)) dX8_meanSize_27 ⟨Nat.le_of_ble_eq_true rfl, Nat.le_of_ble_eq_true rfl⟩) hw (fun r_27 u_27 H locs hp_27 hw => ?_)
    obtain rfl : r_27 = (nI (L (cd 10)).length) := hp_27
    refine lv_icmp_ge (tgt := 62) hx hb dX8_meanSize_30 (by decide) (fun c_30 => ?_) (fun c_30 => ?_)
    · skip
      rw [nI_leI (by omega) (by omega)] at c_30
      have hi : i = (L (cd 10)).length := by omega
      refine lv_iload_n hx hb dX8_meanSize_62 rfl (lv_at hl 1 rfl) ?_
      refine lv_i2d hx hb dX8_meanSize_63 ?_
      refine lv_aload_n hx hb dX8_meanSize_64 rfl (lv_at hl 0 rfl) ?_
      refine g_9_4 (r := some (cd 4)) hx hb hts (by decide +kernel) hown hw hok.1 (hts (.fieldLink RX8 36 "Pirateindex" "shelf" "LPirateindex$Shelf;") (by decide +kernel)) hok.2.2.2.2.2.1 dX8_meanSize_65 ?_
      refine g_6_0 (r := some (cd 10)) hx hb hts (by decide +kernel) hown hw hok.2.2.2.2.2.2.2.2.2.2.2.2.2.2.1 (hts (.fieldLink RX8 137 "Pirateindex$Shelf" "row" "Ljava/util/ArrayList;") (by decide +kernel)) hok.2.2.2.2.2.2.2.2.2.2.2.2.2.2.2.2.2.2.2.2.2.2.2.2.2.2.1 dX8_meanSize_68 ?_
      refine m_ci (va_runV (As := []) (rest := [.double (FP.i2d y9)]) ⟨hx, hb, hml, hown, hts⟩ (c_Jx4a65c_size_8abf5 l hok.2.2.2.2.2.2.2.2.2.2.2.2.2.2.2.2.2.2.2.2.1) (cwV 0 hts gX8_meanSize_Jx4a65c_size_8abf5 rfl rfl rfl (by decide +kernel) ⟨Nat.le_of_ble_eq_true rfl, Nat.le_of_ble_eq_true rfl⟩) ⟨m_blind m_B_calling, m_recv hw (m_ent_11 hok.2.2.2.2.2.2.2.2.2.2.2.2.2.2.2.2.2.2.2.2.1) rfl, fun U hU hW => ⟨rfl, m_wo_call hw hU hW⟩⟩ rfl rfl hl.1 rfl (lv_room (Nat.le_of_ble_eq_true rfl)) dX8_meanSize_71 ⟨Nat.le_of_ble_eq_true rfl, Nat.le_of_ble_eq_true rfl⟩) hw (fun r_71 u_71 H locs hp_71 hw => ?_)
      obtain rfl : r_71 = (nI (L (cd 10)).length) := hp_71
      refine lv_i2d hx hb dX8_meanSize_74 ?_
      refine lv_ddiv hx hb dX8_meanSize_75 (by rw [hx0, hi, List.take_length, q_in_all hs, ← hz3]; exact hns) ?_
      exact W.dret (v := (FP.ddiv (FP.i2d y9) (FP.i2d (nI (L (cd 10)).length)))) hx hb hr (fun t ht hW => ⟨⟨(FP.ddiv (FP.i2d y9) (FP.i2d (nI (L (cd 10)).length))), (), rfl, (by unfold o_mean; rw [if_neg h0, hx0, hi, List.take_length, q_in_all hs, hz3]), m_wo_out hw ht hW.alike⟩, m_wo_F hw ht⟩) (m_wo_L hw) dX8_meanSize_76
    · skip
      rw [nI_leI (by omega) (by omega)] at c_30
      have hi : i < (L (cd 10)).length := by omega
      refine lv_iload_n hx hb dX8_meanSize_33 rfl (lv_at hl 1 rfl) ?_
      refine lv_aload_n hx hb dX8_meanSize_34 rfl (lv_at hl 0 rfl) ?_
      refine g_9_4 (r := some (cd 4)) hx hb hts (by decide +kernel) hown hw hok.1 (hts (.fieldLink RX8 36 "Pirateindex" "shelf" "LPirateindex$Shelf;") (by decide +kernel)) hok.2.2.2.2.2.1 dX8_meanSize_35 ?_
      refine g_6_0 (r := some (cd 10)) hx hb hts (by decide +kernel) hown hw hok.2.2.2.2.2.2.2.2.2.2.2.2.2.2.1 (hts (.fieldLink RX8 137 "Pirateindex$Shelf" "row" "Ljava/util/ArrayList;") (by decide +kernel)) hok.2.2.2.2.2.2.2.2.2.2.2.2.2.2.2.2.2.2.2.2.2.2.2.2.2.2.1 dX8_meanSize_38 ?_
      refine lv_iload_n hx hb dX8_meanSize_41 rfl (lv_at hl 2 rfl) ?_
      obtain ⟨ai, ha⟩ : ∃ z, (L (cd 10))[i]? = some z := ⟨_, lg_some hi⟩
      have hka : K ai = 5 := hel5 ai (List.mem_of_getElem? ha)
      refine m_cq (va_runV (As := [.int (nI i)]) (rest := [.int y9]) ⟨hx, hb, hml, hown, hts⟩ (c_Jx4a65c_get_915e3 l hok.2.2.2.2.2.2.2.2.2.2.2.2.2.2.2.2.2.2.2.2.1 hi) (cwV 1 hts gX8_meanSize_Jx4a65c_get_915e3 rfl rfl rfl (by decide +kernel) ⟨Nat.le_of_ble_eq_true rfl, Nat.le_of_ble_eq_true rfl⟩) ⟨m_blind m_B_calling, m_recv hw (m_ent_11 hok.2.2.2.2.2.2.2.2.2.2.2.2.2.2.2.2.2.2.2.2.1) rfl, fun U hU hW => ⟨rfl, m_wo_call hw hU hW⟩⟩ rfl rfl hl.1 rfl (lv_room (Nat.le_of_ble_eq_true rfl)) dX8_meanSize_42 ⟨Nat.le_of_ble_eq_true rfl, Nat.le_of_ble_eq_true rfl⟩) hw (fun r_42 u_42 H locs hp_42 hw => ?_)
      obtain rfl : r_42 = some ai := hp_42.trans ha
      obtain ⟨-, -, fl, hfl, hkf, -, -, hpm⟩ := hs.2.2.2.2.1.2.2.1 i ai ha
      have hal := c_all_take R L ha hfl
      refine va_castS hx hb hown (hts (.classLink RX8 145 "Pirateindex$Segment") (by decide +kernel)) (hw.1.1 9 _ rfl).2 (m_recv hw (m_ent_5 hka) rfl) dX8_meanSize_45 ?_
      refine g_5_1 (r := some fl) hx hb hts (by decide +kernel) hown hw hka (hts (.fieldLink RX8 152 "Pirateindex$Segment" "finds" "Ljava/util/ArrayList;") (by decide +kernel)) hfl dX8_meanSize_48 ?_
      refine m_ci (va_runV (As := []) (rest := [.int y9]) ⟨hx, hb, hml, hown, hts⟩ (c_Jx4a65c_size_8abf5 l hkf) (cwV 0 hts gX8_meanSize_Jx4a65c_size_8abf5 rfl rfl rfl (by decide +kernel) ⟨Nat.le_of_ble_eq_true rfl, Nat.le_of_ble_eq_true rfl⟩) ⟨m_blind m_B_calling, m_recv hw (m_ent_11 hkf) rfl, fun U hU hW => ⟨rfl, m_wo_call hw hU hW⟩⟩ rfl rfl hl.1 rfl (lv_room (Nat.le_of_ble_eq_true rfl)) dX8_meanSize_51 ⟨Nat.le_of_ble_eq_true rfl, Nat.le_of_ble_eq_true rfl⟩) hw (fun r_51 u_51 H locs hp_51 hw => ?_)
      obtain rfl : r_51 = (nI (L fl).length) := hp_51
      refine lv_iadd hx hb dX8_meanSize_54 ?_
      have hx1 : y9 + nI (L fl).length = nI ((c_all R L ((L (cd 10)).take (i + 1))).length) := by rw [hal, List.length_append, hx0]; exact q_add _ _
      refine lv_istore_n (lv' := [(1, .int (y9 + (nI (L fl).length))), (0, .ref o), (2, .int (nI i))]) hx hb dX8_meanSize_55 rfl hl (by decide) rfl (fun ls hl => ?_)
      refine lv_iinc (v := nI (i + 1)) (lv' := [(2, .int (nI (i + 1))), (1, .int (y9 + (nI (L fl).length))), (0, .ref o)]) hx hb dX8_meanSize_56 hl (k := 2) rfl (nI_1 _) (by decide) rfl (fun ls hl => ?_)
      refine lv_goto (tgt := 19) hx hb dX8_meanSize_59 (by decide) ?_
      exact ih (i + 1, (y9 + (nI (L fl).length))) _ _ _ (by dsimp only; omega) ⟨⟨by omega, hx1⟩, hw, lv_sub hl [2, 1, 0] rfl⟩
  · skip
    have hq := of_decide_eq_true ((b2i_ne _).mp c_10)
    refine lv_dconst0 hx hb dX8_meanSize_13 ?_
    exact W.dret (v := FP.dconst0) hx hb hr (fun t ht hW => ⟨⟨FP.dconst0, (), rfl, (by unfold o_mean; rw [if_pos (by rw [hz3, hq]; rfl)]), m_wo_out hw ht hW.alike⟩, m_wo_F hw ht⟩) (m_wo_L hw) dX8_meanSize_14
