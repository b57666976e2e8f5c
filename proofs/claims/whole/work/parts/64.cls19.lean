/-- the causes of a merge that can't be -/
def c_mca (one other op : Option Nat) : List Int32 := (if one = none then [nI 115] else []) ++ (if other = none then [nI 115] else []) ++ (if (one ≠ none ∧ one = op) ∨ (other ≠ none ∧ other = op) then [nI 111] else [])
theorem c_mca_ss {a b : Nat} {op : Option Nat} : c_mca (some a) (some b) op = if some a = op ∨ some b = op then [nI 111] else [] := by simp [c_mca]
theorem c_mca_sn {a : Nat} {op : Option Nat} : c_mca (some a) none op = nI 115 :: (if some a = op then [nI 111] else []) := by simp [c_mca]
theorem c_mca_ns {b : Nat} {op : Option Nat} : c_mca none (some b) op = nI 115 :: (if some b = op then [nI 111] else []) := by simp [c_mca]
theorem c_mca_nn {op : Option Nat} : c_mca none none op = [nI 115, nI 115] := by simp [c_mca]
set_option maxHeartbeats 400000 in
set_option maxRecDepth 100000 in
theorem c_X8_isTrue (l : Launch) {G : mG} {K : Nat → Nat} {I : Nat → Nat → Int32} {R : Nat → Nat → Option Nat} {F : Nat → UInt32} {A : Nat → Nat → Int32} {N : Nat → Nat} {L : Nat → List Nat} {T : Nat → List Int32} {J : Nat → Nat → Int64} {D : Nat → Nat → UInt64} {o : Nat} {cd : Nat → Nat} {n : Nat} (hok : c_ok K R N o cd) (hel0 : ∀ a, a ∈ L (cd 0) → K a = 3) (hel1 : ∀ a, a ∈ L (cd 1) → K a = 1) (hel5 : ∀ a, a ∈ L (cd 10) → K a = 5) (hel9 : ∀ a, a ∈ L (cd 9) → K a = 1) (hsg : ∀ a, a ∈ L (cd 10) → ∃ fl, R 51 a = some fl ∧ K fl = 11 ∧ ∀ b, b ∈ L fl → K b = 1) (hcnt : ∀ a, a ∈ L (cd 1) → (c_all R L (L (cd 10))).count a = if (R 15 a).isSome = true then 1 else 0) (hel7 : ∀ a, a ∈ L (cd 5) → K a = 7) (hpu : ∀ a, a ∈ L (cd 5) → 0 ≤ I 72 a) (hag : ∀ q : Nat → Bool, ((c_all R L (L (cd 10))).filter (c_us I)).countP q = (L (cd 9)).countP q) (hph : c_ph K R N I A (cd 6) (cd 13) (cd 14) n) (hrw : c_rwd K I R (L (cd 9))) (hcg : m_cap R N (cd 8) ≤ 1000) (hgf : ∀ a, a ∈ L (cd 10) → R 51 a ≠ some (cd 8)) (h120 : (c_all R L (L (cd 10))).length ≤ 120) (hcp : ∀ a, a ∈ c_all R L (L (cd 10)) → ∃ p, p < 41 ∧ I 13 a = nI p) (hc15 : ∀ a, a ∈ c_all R L (L (cd 10)) → R 15 a ≠ none) : Met l yX8_isTrue wsX8_isTrue ({ frames := 11, cells := 120, slots := 1000, locals := 480 } : Room) (va_Pc [.ref o] (m_B G K I R F A N L T J D)) (va_Qi (fun (r : Int32) (u : (Nat → Nat) × (Nat → Nat → Int32) × (Nat → Nat → Option Nat) × (Nat → Nat) × (Nat → List Nat) × (Nat → Nat → Int32)) => r = 1 ∧ c_chg K I R N u.1 u.2.1 u.2.2.1 u.2.2.2.1 c_no c_no ∧ u.2.2.2.2.1 = m_up L (cd 8) ((c_all R L (L (cd 10))).filter (c_us I)) ∧ m_cap u.2.2.1 u.2.2.2.1 (cd 8) ≤ 1000 ∧ (∀ b, b ≠ cd 11 → b ≠ cd 12 → u.2.2.2.2.2 b = A b)) (fun u : (Nat → Nat) × (Nat → Nat → Int32) × (Nat → Nat → Option Nat) × (Nat → Nat) × (Nat → List Nat) × (Nat → Nat → Int32) => m_B G (u.1) (u.2.1) (u.2.2.1) F (u.2.2.2.2.2) (u.2.2.2.1) (u.2.2.2.2.1) T J D) (m_A G)) 120 1000 (m_A G) := by
  refine Met.ofW (cc := cX8_isTrue) (maxL := 1) (ret := (some .boolean)) (by decide) rfl ?_
  intro p e s m args below meth c s₁ B hml hv
  obtain ⟨rfl, hB⟩ := hv
  have hx := B.exec
  have hb := B.bytes
  have hr := B.returns
  have hts := atoms_spec (ws := wsX8_isTrue) B.pre
  have hown : s.vm.findClass RX8 = some m.cls := findClass_of_methodNamed B.named
  have hlocks := B.notSynchronized
  have hw := m_wo_in hB
  have hl := lv_entry ([.ref o]) (n := 1) (Nat.le_of_ble_eq_true rfl)
  rw [lg_entry_eq]
  generalize (lg_sl ([.ref o]) ++ List.replicate (1 - (lg_sl ([.ref o])).length) Slot.unset).toArray = ls at hl ⊢
  have hl : lv_has ls 1 [(0, .ref o)] := hl
  refine lv_aload_n hx hb dX8_isTrue_0 rfl (lv_at hl 0 rfl) ?_
  refine m_ci (va_runV (As := []) (rest := []) ⟨hx, hb, hml, hown, hts⟩ (c_X8_findsAreInOneSegment l hok hel1 hel5 hsg hcnt) (cwV 0 hts gX8_isTrue_X8_findsAreInOneSegment rfl rfl rfl (by decide +kernel) ⟨Nat.le_of_ble_eq_true rfl, Nat.le_of_ble_eq_true rfl⟩) ⟨m_blind m_B_calling, m_recv hw (m_ent_9 hok.1) rfl, fun U hU hW => ⟨rfl, m_wo_call hw hU hW⟩⟩ rfl rfl hl.1 rfl (lv_room (Nat.le_of_ble_eq_true rfl)) dX8_isTrue_1 ⟨Nat.le_of_ble_eq_true rfl, Nat.le_of_ble_eq_true rfl⟩) hw (fun r_1 u_1 H locs hp_1 hw => ?_)
  obtain rfl : r_1 = 1 := hp_1
  refine lv_if_eq (tgt := 32) hx hb dX8_isTrue_4 (by decide) (fun c_4 => absurd c_4 (by decide)) (fun c_4 => ?_)
  refine lv_aload_n hx hb dX8_isTrue_7 rfl (lv_at hl 0 rfl) ?_
  refine m_ci (va_runV (As := []) (rest := []) ⟨hx, hb, hml, hown, hts⟩ (c_X8_postingsAreUnstruck l hok hel9 hrw.2.2) (cwV 0 hts gX8_isTrue_X8_postingsAreUnstruck rfl rfl rfl (by decide +kernel) ⟨Nat.le_of_ble_eq_true rfl, Nat.le_of_ble_eq_true rfl⟩) ⟨m_blind m_B_calling, m_recv hw (m_ent_9 hok.1) rfl, fun U hU hW => ⟨rfl, m_wo_call hw hU hW⟩⟩ rfl rfl hl.1 rfl (lv_room (Nat.le_of_ble_eq_true rfl)) dX8_isTrue_8 ⟨Nat.le_of_ble_eq_true rfl, Nat.le_of_ble_eq_true rfl⟩) hw (fun r_8 u_8 H locs hp_8 hw => ?_)
  obtain rfl : r_8 = 1 := hp_8
  refine lv_if_eq (tgt := 32) hx hb dX8_isTrue_11 (by decide) (fun c_11 => absurd c_11 (by decide)) (fun c_11 => ?_)
  refine lv_aload_n hx hb dX8_isTrue_14 rfl (lv_at hl 0 rfl) ?_
  refine m_ci (va_runV (As := []) (rest := []) ⟨hx, hb, hml, hown, hts⟩ (c_X8_pursesHold l hok hel7 hpu) (cwV 0 hts gX8_isTrue_X8_pursesHold rfl rfl rfl (by decide +kernel) ⟨Nat.le_of_ble_eq_true rfl, Nat.le_of_ble_eq_true rfl⟩) ⟨m_blind m_B_calling, m_recv hw (m_ent_9 hok.1) rfl, fun U hU hW => ⟨rfl, m_wo_call hw hU hW⟩⟩ rfl rfl hl.1 rfl (lv_room (Nat.le_of_ble_eq_true rfl)) dX8_isTrue_15 ⟨Nat.le_of_ble_eq_true rfl, Nat.le_of_ble_eq_true rfl⟩) hw (fun r_15 u_15 H locs hp_15 hw => ?_)
  obtain rfl : r_15 = 1 := hp_15
  refine lv_if_eq (tgt := 32) hx hb dX8_isTrue_18 (by decide) (fun c_18 => absurd c_18 (by decide)) (fun c_18 => ?_)
  refine lv_aload_n hx hb dX8_isTrue_21 rfl (lv_at hl 0 rfl) ?_
  refine m_ci (va_runV (As := []) (rest := []) ⟨hx, hb, hml, hown, hts⟩ (c_X8_hitsAgree l hok hel0 hel5 hsg hag hph hrw hcg hgf h120 hcp hc15) (cwV 0 hts gX8_isTrue_X8_hitsAgree rfl rfl rfl (by decide +kernel) ⟨Nat.le_of_ble_eq_true rfl, Nat.le_of_ble_eq_true rfl⟩) ⟨m_blind m_B_calling, m_recv hw (m_ent_9 hok.1) rfl, fun U hU hW => ⟨rfl, m_wo_call hw hU hW⟩⟩ rfl rfl hl.1 rfl (lv_room (Nat.le_of_ble_eq_true rfl)) dX8_isTrue_22 ⟨Nat.le_of_ble_eq_true rfl, Nat.le_of_ble_eq_true rfl⟩) hw (fun r_22 u_22 H locs hp_22 hw => ?_)
  obtain ⟨K_1, I_2, R_3, N_4, L_5, A_6⟩ := u_22
  have hw : m_wo G K_1 I_2 R_3 F A_6 N_4 L_5 T J D s H locs := hw
  dsimp only at hp_22
  obtain ⟨rfl, hrest⟩ := hp_22
  refine lv_if_eq (tgt := 32) hx hb dX8_isTrue_25 (by decide) (fun c_25 => absurd c_25 (by decide)) (fun c_25 => ?_)
  refine lv_iconst (v := 1) hx hb dX8_isTrue_28 (by decide) ?_
  refine lv_goto (tgt := 33) hx hb dX8_isTrue_29 (by decide) ?_
  exact W.zret (v := 1) hx hb hr (by rfl) (fun t ht hW => ⟨⟨1, (K_1, I_2, R_3, N_4, L_5, A_6), rfl, ⟨rfl, hrest⟩, m_wo_out hw ht hW.alike⟩, m_wo_F hw ht⟩) (m_wo_L hw) dX8_isTrue_33
set_option maxHeartbeats 400000 in
set_option maxRecDepth 100000 in
theorem c_X8_requireRoomForFind_o (l : Launch) (hnt : l.stackTraces = false) {G : mG} {K : Nat → Nat} {I : Nat → Nat → Int32} {R : Nat → Nat → Option Nat} {F : Nat → UInt32} {A : Nat → Nat → Int32} {N : Nat → Nat} {L : Nat → List Nat} {T : Nat → List Int32} {J : Nat → Nat → Int64} {D : Nat → Nat → UInt64} {o : Nat} {cd : Nat → Nat} {sg fl : Nat} (hok : c_ok K R N o cd) (hel5 : ∀ a, a ∈ L (cd 10) → K a = 5) (hop : R 61 (cd 4) = some sg) (hksg : K sg = 5) (hfl : R 51 sg = some fl) (hkf : K fl = 11) : vx_Met l yX8_requireRoomForFind wsX8_requireRoomForFind ({ frames := 8, cells := 1, slots := 6, locals := 200 } : Room) (va_Pc [.ref o] (fun U => m_B G K I R F A N L T J D U ∧ c_str U)) (va_Qv (fun (_ : Unit) => ((L (cd 1)).length < 120 ∧ c_room (10 - nI (L fl).length) (nI (L (cd 10)).length) 1 = true)) (fun u : Unit => m_B G K I R F A N L T J D) (m_A G)) (vx_X (fun (u : Unit) => ¬ ((L (cd 1)).length < 120 ∧ c_room (10 - nI (L fl).length) (nI (L (cd 10)).length) 1 = true)) (fun E (u : Unit) t => E = "java/lang/IllegalStateException" ∧ m_B G K I R F A N L T J D t) (m_A G)) 1 6 (m_A G) := by
  refine vx_ofW (cc := cX8_requireRoomForFind) (maxL := 1) (ret := none) (by decide) rfl ?_
  intro p e s m args below meth c s₁ B hml hxt hv
  obtain ⟨rfl, hB, hcs⟩ := hv
  have hx := B.exec
  have hb := B.bytes
  have hr := B.returns
  have hts := atoms_spec (ws := wsX8_requireRoomForFind) B.pre
  have hown : s.vm.findClass RX8 = some m.cls := findClass_of_methodNamed B.named
  have hlocks := B.notSynchronized
  have hw := m_wo_in hB
  have hl := lv_entry ([.ref o]) (n := 1) (Nat.le_of_ble_eq_true rfl)
  rw [lg_entry_eq]
  generalize (lg_sl ([.ref o]) ++ List.replicate (1 - (lg_sl ([.ref o])).length) Slot.unset).toArray = ls at hl ⊢
  have hl : lv_has ls 1 [(0, .ref o)] := hl
  have hlen := m_len hw hok.2.2.2.2.2.2.2.2.2.2.2.1
  refine lv_aload_n hx hb dX8_requireRoomForFind_0 rfl (lv_at hl 0 rfl) ?_
  refine g_9_1 (r := some (cd 1)) hx hb hts (by decide +kernel) hown hw hok.1 (hts (.fieldLink RX8 16 "Pirateindex" "log" "Ljava/util/ArrayList;") (by decide +kernel)) hok.2.2.1 dX8_requireRoomForFind_1 ?_
  refine m_ci (va_runV (As := []) (rest := []) ⟨hx, hb, hml, hown, hts⟩ (c_Jx4a65c_size_8abf5 l hok.2.2.2.2.2.2.2.2.2.2.2.1) (cwV 0 hts gX8_requireRoomForFind_Jx4a65c_size_8abf5 rfl rfl rfl (by decide +kernel) ⟨Nat.le_of_ble_eq_true rfl, Nat.le_of_ble_eq_true rfl⟩) ⟨m_blind m_B_calling, m_recv hw (m_ent_11 hok.2.2.2.2.2.2.2.2.2.2.2.1) rfl, fun U hU hW => ⟨rfl, m_wo_call hw hU hW⟩⟩ rfl rfl hl.1 rfl (lv_room (Nat.le_of_ble_eq_true rfl)) dX8_requireRoomForFind_4 ⟨Nat.le_of_ble_eq_true rfl, Nat.le_of_ble_eq_true rfl⟩) hw (fun r_4 u_4 H locs hp_4 hw => ?_)
  obtain rfl : r_4 = (nI (L (cd 1)).length) := hp_4
  refine lv_bipush (v := 120) hx hb dX8_requireRoomForFind_7 (by decide) ?_
  refine lv_icmp_lt (tgt := 23) hx hb dX8_requireRoomForFind_9 (by decide) (fun c_9 => ?_) (fun c_9 => ?_)
  · skip
    have h120 : (L (cd 1)).length < 120 := nI_ltN (n := 120) (by omega) (by decide) c_9
    refine lv_aload_n hx hb dX8_requireRoomForFind_23 rfl (lv_at hl 0 rfl) ?_
    refine g_9_4 (r := some (cd 4)) hx hb hts (by decide +kernel) hown hw hok.1 (hts (.fieldLink RX8 36 "Pirateindex" "shelf" "LPirateindex$Shelf;") (by decide +kernel)) hok.2.2.2.2.2.1 dX8_requireRoomForFind_24 ?_
    refine lv_iconst (v := 1) hx hb dX8_requireRoomForFind_27 (by decide) ?_
    refine m_ci (va_runV (As := [.int 1]) (rest := []) ⟨hx, hb, hml, hown, hts⟩ (c_X5_hasRoomFor_o l hok.2.2.2.2.2.2.2.2.2.2.2.2.2.2.1 hok.2.2.2.2.2.2.2.2.2.2.2.2.2.2.2.2.2.2.2.2.2.2.2.2.2.2.1 hok.2.2.2.2.2.2.2.2.2.2.2.2.2.2.2.2.2.2.2.2.1 hel5 hop hksg hfl hkf) (cwV 1 hts gX8_requireRoomForFind_X5_hasRoomFor rfl rfl rfl (by decide +kernel) ⟨Nat.le_of_ble_eq_true rfl, Nat.le_of_ble_eq_true rfl⟩) ⟨m_blind m_B_calling, m_recv hw (m_ent_6 hok.2.2.2.2.2.2.2.2.2.2.2.2.2.2.1) rfl, fun U hU hW => ⟨rfl, m_wo_call hw hU hW⟩⟩ rfl rfl hl.1 rfl (lv_room (Nat.le_of_ble_eq_true rfl)) dX8_requireRoomForFind_28 ⟨Nat.le_of_ble_eq_true rfl, Nat.le_of_ble_eq_true rfl⟩) hw (fun r_28 u_28 H locs hp_28 hw => ?_)
    obtain rfl : r_28 = b2i (c_room (10 - nI (L fl).length) (nI (L (cd 10)).length) 1) := hp_28
    refine lv_if_ne (tgt := 45) hx hb dX8_requireRoomForFind_31 (by decide) (fun c_31 => ?_) (fun c_31 => ?_)
    · skip
      have hq := (b2i_ne _).mp c_31
      refine vx_ret ?_
      refine W.widen (k := 1) (n := 6) (by omega) (by omega) ?_
      exact W.vret hx hb hr (fun t ht hW => ⟨⟨(), rfl, ⟨h120, hq⟩, m_wo_out hw ht hW.alike⟩, m_wo_F hw ht⟩) (m_wo_L hw) dX8_requireRoomForFind_45
    · skip
      have hbad : ¬ ((L (cd 1)).length < 120 ∧ c_room (10 - nI (L fl).length) (nI (L (cd 10)).length) 1 = true) := fun h => by rw [(b2i_eq _).mp c_31] at h; exact absurd h.2 (by decide)
      obtain ⟨sa, hsa⟩ := hcs.1 (372, "there are 20 segments") (by decide)
      refine vx_throwSW (names := ["java/lang/RuntimeException", "java/lang/Exception"]) hx hb hnt hown (by decide) (by decide) (hts (.classLink RX8 68 "java/lang/IllegalStateException") (by decide +kernel)) (hts (.initialized "java/lang/IllegalStateException") (by decide +kernel)) hsa (vx_hat (B := .castable "java/lang/IllegalStateException" "java/lang/IllegalStateException" :: [.declares (Bundle.initS "java/lang/RuntimeException"), .declares (Bundle.initS "java/lang/Exception"), .declares (Bundle.initS Bundle.tN)]) (fun w h => hts w ((by decide +kernel : ∀ w ∈ (vx_atS RX8 72 "java/lang/IllegalStateException" ["java/lang/RuntimeException", "java/lang/Exception"]).filter goodWord, w ∈ wsX8_requireRoomForFind) w h)) (by decide +kernel) (vx_c (m_wo_cas hw (by decide)) (c_str_dc hcs))) (by decide +kernel) hw.2.1.1 hw.2.1.2.1 hw.2.2.2.1 (hl.1.trans hml.symm) dX8_requireRoomForFind_34 dX8_requireRoomForFind_37 dX8_requireRoomForFind_38 dX8_requireRoomForFind_41 dX8_requireRoomForFind_44 (fun x hx9 => absurd (hxt x hx9) id) (Nat.le_of_ble_eq_true rfl) (Nat.le_of_ble_eq_true rfl) (Nat.le_of_ble_eq_true rfl) (Nat.le_of_ble_eq_true rfl) hlocks (fun t hA9 hs9 hq9 => ⟨(), hbad, ⟨rfl, m_wo_up hw hA9 hs9 hq9⟩, m_wo_uF hw hs9 hq9⟩) (m_wo_L hw) (Nat.le_of_ble_eq_true rfl) (Nat.le_of_ble_eq_true rfl)
  · skip
    have hbad : ¬ ((L (cd 1)).length < 120 ∧ c_room (10 - nI (L fl).length) (nI (L (cd 10)).length) 1 = true) := fun h => c_9 ((nI_ltI (a := (L (cd 1)).length) (b := 120) (by omega) (by decide)).mpr h.1)
    obtain ⟨sa, hsa⟩ := hcs.1 (370, "there are 120 finds") (by decide)
    refine vx_throwSW (names := ["java/lang/RuntimeException", "java/lang/Exception"]) hx hb hnt hown (by decide) (by decide) (hts (.classLink RX8 68 "java/lang/IllegalStateException") (by decide +kernel)) (hts (.initialized "java/lang/IllegalStateException") (by decide +kernel)) hsa (vx_hat (B := .castable "java/lang/IllegalStateException" "java/lang/IllegalStateException" :: [.declares (Bundle.initS "java/lang/RuntimeException"), .declares (Bundle.initS "java/lang/Exception"), .declares (Bundle.initS Bundle.tN)]) (fun w h => hts w ((by decide +kernel : ∀ w ∈ (vx_atS RX8 72 "java/lang/IllegalStateException" ["java/lang/RuntimeException", "java/lang/Exception"]).filter goodWord, w ∈ wsX8_requireRoomForFind) w h)) (by decide +kernel) (vx_c (m_wo_cas hw (by decide)) (c_str_dc hcs))) (by decide +kernel) hw.2.1.1 hw.2.1.2.1 hw.2.2.2.1 (hl.1.trans hml.symm) dX8_requireRoomForFind_12 dX8_requireRoomForFind_15 dX8_requireRoomForFind_16 dX8_requireRoomForFind_19 dX8_requireRoomForFind_22 (fun x hx9 => absurd (hxt x hx9) id) (Nat.le_of_ble_eq_true rfl) (Nat.le_of_ble_eq_true rfl) (Nat.le_of_ble_eq_true rfl) (Nat.le_of_ble_eq_true rfl) hlocks (fun t hA9 hs9 hq9 => ⟨(), hbad, ⟨rfl, m_wo_up hw hA9 hs9 hq9⟩, m_wo_uF hw hs9 hq9⟩) (m_wo_L hw) (Nat.le_of_ble_eq_true rfl) (Nat.le_of_ble_eq_true rfl)
set_option maxHeartbeats 400000 in
set_option maxRecDepth 100000 in
theorem c_X8_requireRoomForFind_n (l : Launch) (hnt : l.stackTraces = false) {G : mG} {K : Nat → Nat} {I : Nat → Nat → Int32} {R : Nat → Nat → Option Nat} {F : Nat → UInt32} {A : Nat → Nat → Int32} {N : Nat → Nat} {L : Nat → List Nat} {T : Nat → List Int32} {J : Nat → Nat → Int64} {D : Nat → Nat → UInt64} {o : Nat} {cd : Nat → Nat}  (hok : c_ok K R N o cd) (hel5 : ∀ a, a ∈ L (cd 10) → K a = 5) (hop : R 61 (cd 4) = none) : vx_Met l yX8_requireRoomForFind wsX8_requireRoomForFind ({ frames := 8, cells := 1, slots := 6, locals := 200 } : Room) (va_Pc [.ref o] (fun U => m_B G K I R F A N L T J D U ∧ c_str U)) (va_Qv (fun (_ : Unit) => ((L (cd 1)).length < 120 ∧ c_room 0 (nI (L (cd 10)).length) 1 = true)) (fun u : Unit => m_B G K I R F A N L T J D) (m_A G)) (vx_X (fun (u : Unit) => ¬ ((L (cd 1)).length < 120 ∧ c_room 0 (nI (L (cd 10)).length) 1 = true)) (fun E (u : Unit) t => E = "java/lang/IllegalStateException" ∧ m_B G K I R F A N L T J D t) (m_A G)) 1 6 (m_A G) := by
  refine vx_ofW (cc := cX8_requireRoomForFind) (maxL := 1) (ret := none) (by decide) rfl ?_
  intro p e s m args below meth c s₁ B hml hxt hv
  obtain ⟨rfl, hB, hcs⟩ := hv
  have hx := B.exec
  have hb := B.bytes
  have hr := B.returns
  have hts := atoms_spec (ws := wsX8_requireRoomForFind) B.pre
  have hown : s.vm.findClass RX8 = some m.cls := findClass_of_methodNamed B.named
  have hlocks := B.notSynchronized
  have hw := m_wo_in hB
  have hl := lv_entry ([.ref o]) (n := 1) (Nat.le_of_ble_eq_true rfl)
  rw [lg_entry_eq]
  generalize (lg_sl ([.ref o]) ++ List.replicate (1 - (lg_sl ([.ref o])).length) Slot.unset).toArray = ls at hl ⊢
  have hl : lv_has ls 1 [(0, .ref o)] := hl
  have hlen := m_len hw hok.2.2.2.2.2.2.2.2.2.2.2.1
  refine lv_aload_n hx hb dX8_requireRoomForFind_0 rfl (lv_at hl 0 rfl) ?_
  refine g_9_1 (r := some (cd 1)) hx hb hts (by decide +kernel) hown hw hok.1 (hts (.fieldLink RX8 16 "Pirateindex" "log" "Ljava/util/ArrayList;") (by decide +kernel)) hok.2.2.1 dX8_requireRoomForFind_1 ?_
  refine m_ci (va_runV (As := []) (rest := []) ⟨hx, hb, hml, hown, hts⟩ (c_Jx4a65c_size_8abf5 l hok.2.2.2.2.2.2.2.2.2.2.2.1) (cwV 0 hts gX8_requireRoomForFind_Jx4a65c_size_8abf5 rfl rfl rfl (by decide +kernel) ⟨Nat.le_of_ble_eq_true rfl, Nat.le_of_ble_eq_true rfl⟩) ⟨m_blind m_B_calling, m_recv hw (m_ent_11 hok.2.2.2.2.2.2.2.2.2.2.2.1) rfl, fun U hU hW => ⟨rfl, m_wo_call hw hU hW⟩⟩ rfl rfl hl.1 rfl (lv_room (Nat.le_of_ble_eq_true rfl)) dX8_requireRoomForFind_4 ⟨Nat.le_of_ble_eq_true rfl, Nat.le_of_ble_eq_true rfl⟩) hw (fun r_4 u_4 H locs hp_4 hw => ?_)
  obtain rfl : r_4 = (nI (L (cd 1)).length) := hp_4
  refine lv_bipush (v := 120) hx hb dX8_requireRoomForFind_7 (by decide) ?_
  refine lv_icmp_lt (tgt := 23) hx hb dX8_requireRoomForFind_9 (by decide) (fun c_9 => ?_) (fun c_9 => ?_)
  · skip
    have h120 : (L (cd 1)).length < 120 := nI_ltN (n := 120) (by omega) (by decide) c_9
    refine lv_aload_n hx hb dX8_requireRoomForFind_23 rfl (lv_at hl 0 rfl) ?_
    refine g_9_4 (r := some (cd 4)) hx hb hts (by decide +kernel) hown hw hok.1 (hts (.fieldLink RX8 36 "Pirateindex" "shelf" "LPirateindex$Shelf;") (by decide +kernel)) hok.2.2.2.2.2.1 dX8_requireRoomForFind_24 ?_
    refine lv_iconst (v := 1) hx hb dX8_requireRoomForFind_27 (by decide) ?_
    refine m_ci (va_runV (As := [.int 1]) (rest := []) ⟨hx, hb, hml, hown, hts⟩ (c_X5_hasRoomFor_n l hok.2.2.2.2.2.2.2.2.2.2.2.2.2.2.1 hok.2.2.2.2.2.2.2.2.2.2.2.2.2.2.2.2.2.2.2.2.2.2.2.2.2.2.1 hok.2.2.2.2.2.2.2.2.2.2.2.2.2.2.2.2.2.2.2.2.1 hel5 hop) (cwV 1 hts gX8_requireRoomForFind_X5_hasRoomFor rfl rfl rfl (by decide +kernel) ⟨Nat.le_of_ble_eq_true rfl, Nat.le_of_ble_eq_true rfl⟩) ⟨m_blind m_B_calling, m_recv hw (m_ent_6 hok.2.2.2.2.2.2.2.2.2.2.2.2.2.2.1) rfl, fun U hU hW => ⟨rfl, m_wo_call hw hU hW⟩⟩ rfl rfl hl.1 rfl (lv_room (Nat.le_of_ble_eq_true rfl)) dX8_requireRoomForFind_28 ⟨Nat.le_of_ble_eq_true rfl, Nat.le_of_ble_eq_true rfl⟩) hw (fun r_28 u_28 H locs hp_28 hw => ?_)
    obtain rfl : r_28 = b2i (c_room 0 (nI (L (cd 10)).length) 1) := hp_28
    refine lv_if_ne (tgt := 45) hx hb dX8_requireRoomForFind_31 (by decide) (fun c_31 => ?_) (fun c_31 => ?_)
    · skip
      have hq := (b2i_ne _).mp c_31
      refine vx_ret ?_
      refine W.widen (k := 1) (n := 6) (by omega) (by omega) ?_
      exact W.vret hx hb hr (fun t ht hW => ⟨⟨(), rfl, ⟨h120, hq⟩, m_wo_out hw ht hW.alike⟩, m_wo_F hw ht⟩) (m_wo_L hw) dX8_requireRoomForFind_45
    · skip
      have hbad : ¬ ((L (cd 1)).length < 120 ∧ c_room 0 (nI (L (cd 10)).length) 1 = true) := fun h => by rw [(b2i_eq _).mp c_31] at h; exact absurd h.2 (by decide)
      obtain ⟨sa, hsa⟩ := hcs.1 (372, "there are 20 segments") (by decide)
      refine vx_throwSW (names := ["java/lang/RuntimeException", "java/lang/Exception"]) hx hb hnt hown (by decide) (by decide) (hts (.classLink RX8 68 "java/lang/IllegalStateException") (by decide +kernel)) (hts (.initialized "java/lang/IllegalStateException") (by decide +kernel)) hsa (vx_hat (B := .castable "java/lang/IllegalStateException" "java/lang/IllegalStateException" :: [.declares (Bundle.initS "java/lang/RuntimeException"), .declares (Bundle.initS "java/lang/Exception"), .declares (Bundle.initS Bundle.tN)]) (fun w h => hts w ((by decide +kernel : ∀ w ∈ (vx_atS RX8 72 "java/lang/IllegalStateException" ["java/lang/RuntimeException", "java/lang/Exception"]).filter goodWord, w ∈ wsX8_requireRoomForFind) w h)) (by decide +kernel) (vx_c (m_wo_cas hw (by decide)) (c_str_dc hcs))) (by decide +kernel) hw.2.1.1 hw.2.1.2.1 hw.2.2.2.1 (hl.1.trans hml.symm) dX8_requireRoomForFind_34 dX8_requireRoomForFind_37 dX8_requireRoomForFind_38 dX8_requireRoomForFind_41 dX8_requireRoomForFind_44 (fun x hx9 => absurd (hxt x hx9) id) (Nat.le_of_ble_eq_true rfl) (Nat.le_of_ble_eq_true rfl) (Nat.le_of_ble_eq_true rfl) (Nat.le_of_ble_eq_true rfl) hlocks (fun t hA9 hs9 hq9 => ⟨(), hbad, ⟨rfl, m_wo_up hw hA9 hs9 hq9⟩, m_wo_uF hw hs9 hq9⟩) (m_wo_L hw) (Nat.le_of_ble_eq_true rfl) (Nat.le_of_ble_eq_true rfl)
  · skip
    have hbad : ¬ ((L (cd 1)).length < 120 ∧ c_room 0 (nI (L (cd 10)).length) 1 = true) := fun h => c_9 ((nI_ltI (a := (L (cd 1)).length) (b := 120) (by omega) (by decide)).mpr h.1)
    obtain ⟨sa, hsa⟩ := hcs.1 (370, "there are 120 finds") (by decide)
    refine vx_throwSW (names := ["java/lang/RuntimeException", "java/lang/Exception"]) hx hb hnt hown (by decide) (by decide) (hts (.classLink RX8 68 "java/lang/IllegalStateException") (by decide +kernel)) (hts (.initialized "java/lang/IllegalStateException") (by decide +kernel)) hsa (vx_hat (B := .castable "java/lang/IllegalStateException" "java/lang/IllegalStateException" :: [.declares (Bundle.initS "java/lang/RuntimeException"), .declares (Bundle.initS "java/lang/Exception"), .declares (Bundle.initS Bundle.tN)]) (fun w h => hts w ((by decide +kernel : ∀ w ∈ (vx_atS RX8 72 "java/lang/IllegalStateException" ["java/lang/RuntimeException", "java/lang/Exception"]).filter goodWord, w ∈ wsX8_requireRoomForFind) w h)) (by decide +kernel) (vx_c (m_wo_cas hw (by decide)) (c_str_dc hcs))) (by decide +kernel) hw.2.1.1 hw.2.1.2.1 hw.2.2.2.1 (hl.1.trans hml.symm) dX8_requireRoomForFind_12 dX8_requireRoomForFind_15 dX8_requireRoomForFind_16 dX8_requireRoomForFind_19 dX8_requireRoomForFind_22 (fun x hx9 => absurd (hxt x hx9) id) (Nat.le_of_ble_eq_true rfl) (Nat.le_of_ble_eq_true rfl) (Nat.le_of_ble_eq_true rfl) (Nat.le_of_ble_eq_true rfl) hlocks (fun t hA9 hs9 hq9 => ⟨(), hbad, ⟨rfl, m_wo_up hw hA9 hs9 hq9⟩, m_wo_uF hw hs9 hq9⟩) (m_wo_L hw) (Nat.le_of_ble_eq_true rfl) (Nat.le_of_ble_eq_true rfl)
set_option maxHeartbeats 1600000 in
set_option maxRecDepth 100000 in
theorem c_X8_leaveMergeCauses_ss (l : Launch) {G : mG} {K : Nat → Nat} {I : Nat → Nat → Int32} {R : Nat → Nat → Option Nat} {F : Nat → UInt32} {A : Nat → Nat → Int32} {N : Nat → Nat} {L : Nat → List Nat} {T : Nat → List Int32} {J : Nat → Nat → Int64} {D : Nat → Nat → UInt64} {o : Nat} {cd : Nat → Nat} {one : Nat} {other : Nat} (hok : c_ok K R N o cd) : Met l yX8_leaveMergeCauses wsX8_leaveMergeCauses ({ frames := 3, cells := 0, slots := 0, locals := 160 } : Room) (va_Pc [.ref o, .ref one, .ref other] (m_B G K I R F A N L T J D)) (va_Qv (fun (u : (Nat → Nat → Int32) × (Nat → Nat → Int32) × (Nat → List Int32)) => (∀ f b, f ≠ 121 → u.1 f b = I f b) ∧ (∀ b, K b ≠ 41 → u.2.1 b = A b) ∧ u.2.2 = if c_mca (some one) (some other) (R 61 (cd 4)) = [] then T else m_up T (cd 7) (c_mca (some one) (some other) (R 61 (cd 4)))) (fun u : (Nat → Nat → Int32) × (Nat → Nat → Int32) × (Nat → List Int32) => m_B G K (u.1) R F (u.2.1) N L (u.2.2) J D) (m_A G)) 0 0 (m_A G) := by
  refine Met.ofW (cc := cX8_leaveMergeCauses) (maxL := 5) (ret := none) (by decide) rfl ?_
  intro p e s m args below meth c s₁ B hml hv
  obtain ⟨rfl, hB⟩ := hv
  have hx := B.exec
  have hb := B.bytes
  have hr := B.returns
  have hts := atoms_spec (ws := wsX8_leaveMergeCauses) B.pre
  have hown : s.vm.findClass RX8 = some m.cls := findClass_of_methodNamed B.named
  have hlocks := B.notSynchronized
  have hw := m_wo_in hB
  have hl := lv_entry ([.ref o, .ref one, .ref other]) (n := 5) (Nat.le_of_ble_eq_true rfl)
  rw [lg_entry_eq]
  generalize (lg_sl ([.ref o, .ref one, .ref other]) ++ List.replicate (5 - (lg_sl ([.ref o, .ref one, .ref other])).length) Slot.unset).toArray = ls at hl ⊢
  have hl : lv_has ls 5 [(0, .ref o), (1, .ref one), (2, .ref other)] := hl
  have hI0 : ∀ f b, f ≠ 121 → I f b = I f b := fun _ _ _ => rfl
  have hA0 : ∀ b, K b ≠ 41 → A b = A b := fun _ _ => rfl
  refine lv_aload_n hx hb dX8_leaveMergeCauses_0 rfl (lv_at hl 1 rfl) ?_
  refine lv_ifnull hx hb dX8_leaveMergeCauses_1 ?_
  refine lv_aload_n hx hb dX8_leaveMergeCauses_4 rfl (lv_at hl 2 rfl) ?_
  refine lv_ifnonnull (tgt := 12) hx hb dX8_leaveMergeCauses_5 (by decide) ?_
  refine lv_iconst (v := 0) hx hb dX8_leaveMergeCauses_12 (by decide) ?_
  refine lv_istore_n (lv' := [(3, .int 0), (0, .ref o), (1, .ref one), (2, .ref other)]) hx hb dX8_leaveMergeCauses_13 rfl hl (by decide) rfl (fun ls hl => ?_)
  refine lv_aload_n hx hb dX8_leaveMergeCauses_14 rfl (lv_at hl 1 rfl) ?_
  refine g_9_4 (r := some (cd 4)) hx hb hts (by decide +kernel) hown hw hok.1 (hts (.fieldLink RX8 36 "Pirateindex" "shelf" "LPirateindex$Shelf;") (by decide +kernel)) hok.2.2.2.2.2.1 dX8_leaveMergeCauses_15 ?_
  refine lv_aload_n hx hb dX8_leaveMergeCauses_18 rfl (lv_at hl 2 rfl) ?_
  refine m_ci (va_runV (As := [.ref one]) (rest := []) ⟨hx, hb, hml, hown, hts⟩ (c_X5_isOpen l hok.2.2.2.2.2.2.2.2.2.2.2.2.2.2.1) (cwV 1 hts gX8_leaveMergeCauses_X5_isOpen rfl rfl rfl (by decide +kernel) ⟨Nat.le_of_ble_eq_true rfl, Nat.le_of_ble_eq_true rfl⟩) ⟨m_blind m_B_calling, m_recv hw (m_ent_6 hok.2.2.2.2.2.2.2.2.2.2.2.2.2.2.1) rfl, fun U hU hW => ⟨rfl, m_wo_call hw hU hW⟩⟩ rfl rfl hl.1 rfl (lv_room (Nat.le_of_ble_eq_true rfl)) dX8_leaveMergeCauses_19 ⟨Nat.le_of_ble_eq_true rfl, Nat.le_of_ble_eq_true rfl⟩) hw (fun r_19 u_19 H locs hp_19 hw => ?_)
  obtain rfl : r_19 = (b2i (decide (some one = R 61 (cd 4)))) := hp_19
  refine lv_if_ne (tgt := 36) hx hb dX8_leaveMergeCauses_22 (by decide) (fun c_22 => ?_) (fun c_22 => ?_)
  · skip
    have d_22 := of_decide_eq_true ((b2i_ne _).mp c_22)
    refine lv_iconst (v := 1) hx hb dX8_leaveMergeCauses_36 (by decide) ?_
    refine lv_goto (tgt := 41) hx hb dX8_leaveMergeCauses_37 (by decide) ?_
    refine lv_istore (lv' := [(4, .int 1), (3, .int 0), (0, .ref o), (1, .ref one), (2, .ref other)]) hx hb dX8_leaveMergeCauses_41 hl (by decide) rfl (fun ls hl => ?_)
    refine lv_iload_n hx hb dX8_leaveMergeCauses_43 rfl (lv_at hl 1 rfl) ?_
    refine lv_if_ne (tgt := 53) hx hb dX8_leaveMergeCauses_44 (by decide) (fun c_44 => absurd (by decide) c_44) (fun c_44 => ?_)
    refine lv_iload hx hb dX8_leaveMergeCauses_47 (lv_at hl 0 rfl) ?_
    refine lv_if_ne (tgt := 53) hx hb dX8_leaveMergeCauses_49 (by decide) (fun c_49 => ?_) (fun c_49 => absurd c_49 (by decide))
    refine lv_aload_n hx hb dX8_leaveMergeCauses_53 rfl (lv_at hl 2 rfl) ?_
    refine g_9_7 (r := some (cd 7)) hx hb hts (by decide +kernel) hown hw hok.1 (hts (.fieldLink RX8 53 "Pirateindex" "causeRow" "Ljava/lang/StringBuilder;") (by decide +kernel)) hok.2.2.2.2.2.2.2.2.1 dX8_leaveMergeCauses_54 ?_
    refine lv_iconst (v := 0) hx hb dX8_leaveMergeCauses_57 (by decide) ?_
    refine m_cv (va_runV (As := [.int 0]) (rest := []) ⟨hx, hb, hml, hown, hts⟩ (c_J4_setLength_d00df l hok.2.2.2.2.2.2.2.2.2.2.2.2.2.2.2.2.2.1 hok.2.2.2.2.2.2.2.2.2.2.2.2.2.2.2.2.2.2.2.2.2.2.2.2.2.2.2.2.2.2.2.2.2.2.2.2.2.2.2.2.2.1) (cwV 1 hts gX8_leaveMergeCauses_J4_setLength_d00df rfl rfl rfl (by decide +kernel) ⟨Nat.le_of_ble_eq_true rfl, Nat.le_of_ble_eq_true rfl⟩) ⟨m_blind m_B_calling, m_recv hw (m_ent_12 hok.2.2.2.2.2.2.2.2.2.2.2.2.2.2.2.2.2.1) rfl, fun U hU hW => ⟨rfl, m_wo_call hw hU hW⟩⟩ rfl rfl hl.1 rfl (lv_room (Nat.le_of_ble_eq_true rfl)) dX8_leaveMergeCauses_58 ⟨Nat.le_of_ble_eq_true rfl, Nat.le_of_ble_eq_true rfl⟩) hw (fun u_58 H locs hp_58 hw => ?_)
    obtain ⟨I_1, T_2⟩ := u_58
    have hw : m_wo G K I_1 R F A N L T_2 J D s H locs := hw
    dsimp only at hp_58
    obtain ⟨hI0, eT1⟩ := hp_58
    have hT0 : T_2 = m_up T (cd 7) [] := eT1
    refine lv_aload_n hx hb dX8_leaveMergeCauses_61 rfl (lv_at hl 3 rfl) ?_
    refine lv_ifnonnull (tgt := 75) hx hb dX8_leaveMergeCauses_62 (by decide) ?_
    refine lv_aload_n hx hb dX8_leaveMergeCauses_75 rfl (lv_at hl 4 rfl) ?_
    refine lv_ifnonnull (tgt := 89) hx hb dX8_leaveMergeCauses_76 (by decide) ?_
    refine lv_iload hx hb dX8_leaveMergeCauses_89 (lv_at hl 0 rfl) ?_
    refine lv_if_eq (tgt := 104) hx hb dX8_leaveMergeCauses_91 (by decide) (fun c_91 => absurd c_91 (by decide)) (fun c_91 => ?_)
    refine lv_aload_n hx hb dX8_leaveMergeCauses_94 rfl (lv_at hl 2 rfl) ?_
    refine g_9_7 (r := some (cd 7)) hx hb hts (by decide +kernel) hown hw hok.1 (hts (.fieldLink RX8 53 "Pirateindex" "causeRow" "Ljava/lang/StringBuilder;") (by decide +kernel)) hok.2.2.2.2.2.2.2.2.1 dX8_leaveMergeCauses_95 ?_
    refine lv_bipush (v := 111) hx hb dX8_leaveMergeCauses_98 (by decide) ?_
    refine m_cq (va_runV (As := [.int 111]) (rest := []) ⟨hx, hb, hml, hown, hts⟩ (c_J4_append_cf468 l (ch := 111) hok.2.2.2.2.2.2.2.2.2.2.2.2.2.2.2.2.2.1 hok.2.2.2.2.2.2.2.2.2.2.2.2.2.2.2.2.2.2.2.2.2.2.2.2.2.2.2.2.2.2.2.2.2.2.2.2.2.2.2.2.2.1 (by rw [hT0, m_up_self]; decide) (by decide)) (cwV 1 hts gX8_leaveMergeCauses_J4_append_cf468 rfl rfl rfl (by decide +kernel) ⟨Nat.le_of_ble_eq_true rfl, Nat.le_of_ble_eq_true rfl⟩) ⟨m_blind m_B_calling, m_recv hw (m_ent_12 hok.2.2.2.2.2.2.2.2.2.2.2.2.2.2.2.2.2.1) rfl, fun U hU hW => ⟨rfl, m_wo_call hw hU hW⟩⟩ rfl rfl hl.1 rfl (lv_room (Nat.le_of_ble_eq_true rfl)) dX8_leaveMergeCauses_100 ⟨Nat.le_of_ble_eq_true rfl, Nat.le_of_ble_eq_true rfl⟩) hw (fun r_100 u_100 H locs hp_100 hw => ?_)
    obtain ⟨A_3, T_4⟩ := u_100
    have hw : m_wo G K I_1 R F A_3 N L T_4 J D s H locs := hw
    dsimp only at hp_100
    obtain ⟨hr9, hA1, eT1⟩ := hp_100
    obtain rfl : r_100 = some (cd 7) := hr9
    have hA0 : ∀ b, K b ≠ 41 → A_3 b = A b := fun b hb => (hA1 b hb).trans (hA0 b hb)
    have hT0 : T_4 = m_up T (cd 7) [nI 111] := by rw [eT1, hT0, m_up_self, m_up_up]; rfl
    refine lv_pop hx hb dX8_leaveMergeCauses_103 rfl ?_
    exact W.vret hx hb hr (fun t ht hW => ⟨⟨(I_1, A_3, T_4), rfl, ⟨hI0, hA0, (by show T_4 = _; rw [show c_mca (some one) (some other) (R 61 (cd 4)) = [nI 111] from by rw [c_mca_ss]; simp [d_22], if_neg (by simp)]; exact hT0)⟩, m_wo_out hw ht hW.alike⟩, m_wo_F hw ht⟩) (m_wo_L hw) dX8_leaveMergeCauses_104
  · skip
    have d_22 := of_decide_eq_false ((b2i_eq _).mp c_22)
    refine lv_aload_n hx hb dX8_leaveMergeCauses_25 rfl (lv_at hl 1 rfl) ?_
    refine g_9_4 (r := some (cd 4)) hx hb hts (by decide +kernel) hown hw hok.1 (hts (.fieldLink RX8 36 "Pirateindex" "shelf" "LPirateindex$Shelf;") (by decide +kernel)) hok.2.2.2.2.2.1 dX8_leaveMergeCauses_26 ?_
    refine lv_aload_n hx hb dX8_leaveMergeCauses_29 rfl (lv_at hl 3 rfl) ?_
    refine m_ci (va_runV (As := [.ref other]) (rest := []) ⟨hx, hb, hml, hown, hts⟩ (c_X5_isOpen l hok.2.2.2.2.2.2.2.2.2.2.2.2.2.2.1) (cwV 1 hts gX8_leaveMergeCauses_X5_isOpen rfl rfl rfl (by decide +kernel) ⟨Nat.le_of_ble_eq_true rfl, Nat.le_of_ble_eq_true rfl⟩) ⟨m_blind m_B_calling, m_recv hw (m_ent_6 hok.2.2.2.2.2.2.2.2.2.2.2.2.2.2.1) rfl, fun U hU hW => ⟨rfl, m_wo_call hw hU hW⟩⟩ rfl rfl hl.1 rfl (lv_room (Nat.le_of_ble_eq_true rfl)) dX8_leaveMergeCauses_30 ⟨Nat.le_of_ble_eq_true rfl, Nat.le_of_ble_eq_true rfl⟩) hw (fun r_30 u_30 H locs hp_30 hw => ?_)
    obtain rfl : r_30 = (b2i (decide (some other = R 61 (cd 4)))) := hp_30
    refine lv_if_eq (tgt := 40) hx hb dX8_leaveMergeCauses_33 (by decide) (fun c_33 => ?_) (fun c_33 => ?_)
    · skip
      have d_33 := of_decide_eq_false ((b2i_eq _).mp c_33)
      refine lv_iconst (v := 0) hx hb dX8_leaveMergeCauses_40 (by decide) ?_
      refine lv_istore (lv' := [(4, .int 0), (3, .int 0), (0, .ref o), (1, .ref one), (2, .ref other)]) hx hb dX8_leaveMergeCauses_41 hl (by decide) rfl (fun ls hl => ?_)
      refine lv_iload_n hx hb dX8_leaveMergeCauses_43 rfl (lv_at hl 1 rfl) ?_
      refine lv_if_ne (tgt := 53) hx hb dX8_leaveMergeCauses_44 (by decide) (fun c_44 => absurd (by decide) c_44) (fun c_44 => ?_)
      refine lv_iload hx hb dX8_leaveMergeCauses_47 (lv_at hl 0 rfl) ?_
      refine lv_if_ne (tgt := 53) hx hb dX8_leaveMergeCauses_49 (by decide) (fun c_49 => absurd (by decide) c_49) (fun c_49 => ?_)
      exact W.vret hx hb hr (fun t ht hW => ⟨⟨(I, A, T), rfl, ⟨hI0, hA0, (by show T = _; rw [if_pos (by rw [c_mca_ss]; simp [d_22, d_33])])⟩, m_wo_out hw ht hW.alike⟩, m_wo_F hw ht⟩) (m_wo_L hw) dX8_leaveMergeCauses_52
    · skip
      have d_33 := of_decide_eq_true ((b2i_ne _).mp c_33)
      refine lv_iconst (v := 1) hx hb dX8_leaveMergeCauses_36 (by decide) ?_
      refine lv_goto (tgt := 41) hx hb dX8_leaveMergeCauses_37 (by decide) ?_
      refine lv_istore (lv' := [(4, .int 1), (3, .int 0), (0, .ref o), (1, .ref one), (2, .ref other)]) hx hb dX8_leaveMergeCauses_41 hl (by decide) rfl (fun ls hl => ?_)
      refine lv_iload_n hx hb dX8_leaveMergeCauses_43 rfl (lv_at hl 1 rfl) ?_
      refine lv_if_ne (tgt := 53) hx hb dX8_leaveMergeCauses_44 (by decide) (fun c_44 => absurd (by decide) c_44) (fun c_44 => ?_)
      refine lv_iload hx hb dX8_leaveMergeCauses_47 (lv_at hl 0 rfl) ?_
      refine lv_if_ne (tgt := 53) hx hb dX8_leaveMergeCauses_49 (by decide) (fun c_49 => ?_) (fun c_49 => absurd c_49 (by decide))
      refine lv_aload_n hx hb dX8_leaveMergeCauses_53 rfl (lv_at hl 2 rfl) ?_
      refine g_9_7 (r := some (cd 7)) hx hb hts (by decide +kernel) hown hw hok.1 (hts (.fieldLink RX8 53 "Pirateindex" "causeRow" "Ljava/lang/StringBuilder;") (by decide +kernel)) hok.2.2.2.2.2.2.2.2.1 dX8_leaveMergeCauses_54 ?_
      refine lv_iconst (v := 0) hx hb dX8_leaveMergeCauses_57 (by decide) ?_
      refine m_cv (va_runV (As := [.int 0]) (rest := []) ⟨hx, hb, hml, hown, hts⟩ (c_J4_setLength_d00df l hok.2.2.2.2.2.2.2.2.2.2.2.2.2.2.2.2.2.1 hok.2.2.2.2.2.2.2.2.2.2.2.2.2.2.2.2.2.2.2.2.2.2.2.2.2.2.2.2.2.2.2.2.2.2.2.2.2.2.2.2.2.1) (cwV 1 hts gX8_leaveMergeCauses_J4_setLength_d00df rfl rfl rfl (by decide +kernel) ⟨Nat.le_of_ble_eq_true rfl, Nat.le_of_ble_eq_true rfl⟩) ⟨m_blind m_B_calling, m_recv hw (m_ent_12 hok.2.2.2.2.2.2.2.2.2.2.2.2.2.2.2.2.2.1) rfl, fun U hU hW => ⟨rfl, m_wo_call hw hU hW⟩⟩ rfl rfl hl.1 rfl (lv_room (Nat.le_of_ble_eq_true rfl)) dX8_leaveMergeCauses_58 ⟨Nat.le_of_ble_eq_true rfl, Nat.le_of_ble_eq_true rfl⟩) hw (fun u_58 H locs hp_58 hw => ?_)
      obtain ⟨I_5, T_6⟩ := u_58
      have hw : m_wo G K I_5 R F A N L T_6 J D s H locs := hw
      dsimp only at hp_58
      obtain ⟨hI0, eT1⟩ := hp_58
      have hT0 : T_6 = m_up T (cd 7) [] := eT1
      refine lv_aload_n hx hb dX8_leaveMergeCauses_61 rfl (lv_at hl 3 rfl) ?_
      refine lv_ifnonnull (tgt := 75) hx hb dX8_leaveMergeCauses_62 (by decide) ?_
      refine lv_aload_n hx hb dX8_leaveMergeCauses_75 rfl (lv_at hl 4 rfl) ?_
      refine lv_ifnonnull (tgt := 89) hx hb dX8_leaveMergeCauses_76 (by decide) ?_
      refine lv_iload hx hb dX8_leaveMergeCauses_89 (lv_at hl 0 rfl) ?_
      refine lv_if_eq (tgt := 104) hx hb dX8_leaveMergeCauses_91 (by decide) (fun c_91 => absurd c_91 (by decide)) (fun c_91 => ?_)
      refine lv_aload_n hx hb dX8_leaveMergeCauses_94 rfl (lv_at hl 2 rfl) ?_
      refine g_9_7 (r := some (cd 7)) hx hb hts (by decide +kernel) hown hw hok.1 (hts (.fieldLink RX8 53 "Pirateindex" "causeRow" "Ljava/lang/StringBuilder;") (by decide +kernel)) hok.2.2.2.2.2.2.2.2.1 dX8_leaveMergeCauses_95 ?_
      refine lv_bipush (v := 111) hx hb dX8_leaveMergeCauses_98 (by decide) ?_
      refine m_cq (va_runV (As := [.int 111]) (rest := []) ⟨hx, hb, hml, hown, hts⟩ (c_J4_append_cf468 l (ch := 111) hok.2.2.2.2.2.2.2.2.2.2.2.2.2.2.2.2.2.1 hok.2.2.2.2.2.2.2.2.2.2.2.2.2.2.2.2.2.2.2.2.2.2.2.2.2.2.2.2.2.2.2.2.2.2.2.2.2.2.2.2.2.1 (by rw [hT0, m_up_self]; decide) (by decide)) (cwV 1 hts gX8_leaveMergeCauses_J4_append_cf468 rfl rfl rfl (by decide +kernel) ⟨Nat.le_of_ble_eq_true rfl, Nat.le_of_ble_eq_true rfl⟩) ⟨m_blind m_B_calling, m_recv hw (m_ent_12 hok.2.2.2.2.2.2.2.2.2.2.2.2.2.2.2.2.2.1) rfl, fun U hU hW => ⟨rfl, m_wo_call hw hU hW⟩⟩ rfl rfl hl.1 rfl (lv_room (Nat.le_of_ble_eq_true rfl)) dX8_leaveMergeCauses_100 ⟨Nat.le_of_ble_eq_true rfl, Nat.le_of_ble_eq_true rfl⟩) hw (fun r_100 u_100 H locs hp_100 hw => ?_)
      obtain ⟨A_7, T_8⟩ := u_100
      have hw : m_wo G K I_5 R F A_7 N L T_8 J D s H locs := hw
      dsimp only at hp_100
      obtain ⟨hr9, hA1, eT1⟩ := hp_100
      obtain rfl : r_100 = some (cd 7) := hr9
      have hA0 : ∀ b, K b ≠ 41 → A_7 b = A b := fun b hb => (hA1 b hb).trans (hA0 b hb)
      have hT0 : T_8 = m_up T (cd 7) [nI 111] := by rw [eT1, hT0, m_up_self, m_up_up]; rfl
      refine lv_pop hx hb dX8_leaveMergeCauses_103 rfl ?_
      exact W.vret hx hb hr (fun t ht hW => ⟨⟨(I_5, A_7, T_8), rfl, ⟨hI0, hA0, (by show T_8 = _; rw [show c_mca (some one) (some other) (R 61 (cd 4)) = [nI 111] from by rw [c_mca_ss]; simp [d_22, d_33], if_neg (by simp)]; exact hT0)⟩, m_wo_out hw ht hW.alike⟩, m_wo_F hw ht⟩) (m_wo_L hw) dX8_leaveMergeCauses_104
set_option maxHeartbeats 1600000 in
set_option maxRecDepth 100000 in
theorem c_X8_leaveMergeCauses_sn (l : Launch) {G : mG} {K : Nat → Nat} {I : Nat → Nat → Int32} {R : Nat → Nat → Option Nat} {F : Nat → UInt32} {A : Nat → Nat → Int32} {N : Nat → Nat} {L : Nat → List Nat} {T : Nat → List Int32} {J : Nat → Nat → Int64} {D : Nat → Nat → UInt64} {o : Nat} {cd : Nat → Nat} {one : Nat}  (hok : c_ok K R N o cd) : Met l yX8_leaveMergeCauses wsX8_leaveMergeCauses ({ frames := 3, cells := 0, slots := 0, locals := 160 } : Room) (va_Pc [.ref o, .ref one, .null] (m_B G K I R F A N L T J D)) (va_Qv (fun (u : (Nat → Nat → Int32) × (Nat → Nat → Int32) × (Nat → List Int32)) => (∀ f b, f ≠ 121 → u.1 f b = I f b) ∧ (∀ b, K b ≠ 41 → u.2.1 b = A b) ∧ u.2.2 = if c_mca (some one) none (R 61 (cd 4)) = [] then T else m_up T (cd 7) (c_mca (some one) none (R 61 (cd 4)))) (fun u : (Nat → Nat → Int32) × (Nat → Nat → Int32) × (Nat → List Int32) => m_B G K (u.1) R F (u.2.1) N L (u.2.2) J D) (m_A G)) 0 0 (m_A G) := by
  refine Met.ofW (cc := cX8_leaveMergeCauses) (maxL := 5) (ret := none) (by decide) rfl ?_
  intro p e s m args below meth c s₁ B hml hv
  obtain ⟨rfl, hB⟩ := hv
  have hx := B.exec
  have hb := B.bytes
  have hr := B.returns
  have hts := atoms_spec (ws := wsX8_leaveMergeCauses) B.pre
  have hown : s.vm.findClass RX8 = some m.cls := findClass_of_methodNamed B.named
  have hlocks := B.notSynchronized
  have hw := m_wo_in hB
  have hl := lv_entry ([.ref o, .ref one, .null]) (n := 5) (Nat.le_of_ble_eq_true rfl)
  rw [lg_entry_eq]
  generalize (lg_sl ([.ref o, .ref one, .null]) ++ List.replicate (5 - (lg_sl ([.ref o, .ref one, .null])).length) Slot.unset).toArray = ls at hl ⊢
  have hl : lv_has ls 5 [(0, .ref o), (1, .ref one), (2, .null)] := hl
  have hI0 : ∀ f b, f ≠ 121 → I f b = I f b := fun _ _ _ => rfl
  have hA0 : ∀ b, K b ≠ 41 → A b = A b := fun _ _ => rfl
  refine lv_aload_n hx hb dX8_leaveMergeCauses_0 rfl (lv_at hl 1 rfl) ?_
  refine lv_ifnull hx hb dX8_leaveMergeCauses_1 ?_
  refine lv_aload_nN hx hb dX8_leaveMergeCauses_4 rfl (lv_at hl 2 rfl) ?_
  refine lv_ifnonnullN hx hb dX8_leaveMergeCauses_5 ?_
  refine lv_iconst (v := 1) hx hb dX8_leaveMergeCauses_8 (by decide) ?_
  refine lv_goto (tgt := 13) hx hb dX8_leaveMergeCauses_9 (by decide) ?_
  refine lv_istore_n (lv' := [(3, .int 1), (0, .ref o), (1, .ref one), (2, .null)]) hx hb dX8_leaveMergeCauses_13 rfl hl (by decide) rfl (fun ls hl => ?_)
  refine lv_aload_n hx hb dX8_leaveMergeCauses_14 rfl (lv_at hl 1 rfl) ?_
  refine g_9_4 (r := some (cd 4)) hx hb hts (by decide +kernel) hown hw hok.1 (hts (.fieldLink RX8 36 "Pirateindex" "shelf" "LPirateindex$Shelf;") (by decide +kernel)) hok.2.2.2.2.2.1 dX8_leaveMergeCauses_15 ?_
  refine lv_aload_n hx hb dX8_leaveMergeCauses_18 rfl (lv_at hl 2 rfl) ?_
  refine m_ci (va_runV (As := [.ref one]) (rest := []) ⟨hx, hb, hml, hown, hts⟩ (c_X5_isOpen l hok.2.2.2.2.2.2.2.2.2.2.2.2.2.2.1) (cwV 1 hts gX8_leaveMergeCauses_X5_isOpen rfl rfl rfl (by decide +kernel) ⟨Nat.le_of_ble_eq_true rfl, Nat.le_of_ble_eq_true rfl⟩) ⟨m_blind m_B_calling, m_recv hw (m_ent_6 hok.2.2.2.2.2.2.2.2.2.2.2.2.2.2.1) rfl, fun U hU hW => ⟨rfl, m_wo_call hw hU hW⟩⟩ rfl rfl hl.1 rfl (lv_room (Nat.le_of_ble_eq_true rfl)) dX8_leaveMergeCauses_19 ⟨Nat.le_of_ble_eq_true rfl, Nat.le_of_ble_eq_true rfl⟩) hw (fun r_19 u_19 H locs hp_19 hw => ?_)
  obtain rfl : r_19 = (b2i (decide (some one = R 61 (cd 4)))) := hp_19
  refine lv_if_ne (tgt := 36) hx hb dX8_leaveMergeCauses_22 (by decide) (fun c_22 => ?_) (fun c_22 => ?_)
  · skip
    have d_22 := of_decide_eq_true ((b2i_ne _).mp c_22)
    refine lv_iconst (v := 1) hx hb dX8_leaveMergeCauses_36 (by decide) ?_
    refine lv_goto (tgt := 41) hx hb dX8_leaveMergeCauses_37 (by decide) ?_
    refine lv_istore (lv' := [(4, .int 1), (3, .int 1), (0, .ref o), (1, .ref one), (2, .null)]) hx hb dX8_leaveMergeCauses_41 hl (by decide) rfl (fun ls hl => ?_)
    refine lv_iload_n hx hb dX8_leaveMergeCauses_43 rfl (lv_at hl 1 rfl) ?_
    refine lv_if_ne (tgt := 53) hx hb dX8_leaveMergeCauses_44 (by decide) (fun c_44 => ?_) (fun c_44 => absurd c_44 (by decide))
    refine lv_aload_n hx hb dX8_leaveMergeCauses_53 rfl (lv_at hl 2 rfl) ?_
    refine g_9_7 (r := some (cd 7)) hx hb hts (by decide +kernel) hown hw hok.1 (hts (.fieldLink RX8 53 "Pirateindex" "causeRow" "Ljava/lang/StringBuilder;") (by decide +kernel)) hok.2.2.2.2.2.2.2.2.1 dX8_leaveMergeCauses_54 ?_
    refine lv_iconst (v := 0) hx hb dX8_leaveMergeCauses_57 (by decide) ?_
    refine m_cv (va_runV (As := [.int 0]) (rest := []) ⟨hx, hb, hml, hown, hts⟩ (c_J4_setLength_d00df l hok.2.2.2.2.2.2.2.2.2.2.2.2.2.2.2.2.2.1 hok.2.2.2.2.2.2.2.2.2.2.2.2.2.2.2.2.2.2.2.2.2.2.2.2.2.2.2.2.2.2.2.2.2.2.2.2.2.2.2.2.2.1) (cwV 1 hts gX8_leaveMergeCauses_J4_setLength_d00df rfl rfl rfl (by decide +kernel) ⟨Nat.le_of_ble_eq_true rfl, Nat.le_of_ble_eq_true rfl⟩) ⟨m_blind m_B_calling, m_recv hw (m_ent_12 hok.2.2.2.2.2.2.2.2.2.2.2.2.2.2.2.2.2.1) rfl, fun U hU hW => ⟨rfl, m_wo_call hw hU hW⟩⟩ rfl rfl hl.1 rfl (lv_room (Nat.le_of_ble_eq_true rfl)) dX8_leaveMergeCauses_58 ⟨Nat.le_of_ble_eq_true rfl, Nat.le_of_ble_eq_true rfl⟩) hw (fun u_58 H locs hp_58 hw => ?_)
    obtain ⟨I_1, T_2⟩ := u_58
    have hw : m_wo G K I_1 R F A N L T_2 J D s H locs := hw
    dsimp only at hp_58
    obtain ⟨hI0, eT1⟩ := hp_58
    have hT0 : T_2 = m_up T (cd 7) [] := eT1
    refine lv_aload_n hx hb dX8_leaveMergeCauses_61 rfl (lv_at hl 3 rfl) ?_
    refine lv_ifnonnull (tgt := 75) hx hb dX8_leaveMergeCauses_62 (by decide) ?_
    refine lv_aload_nN hx hb dX8_leaveMergeCauses_75 rfl (lv_at hl 4 rfl) ?_
    refine lv_ifnonnullN hx hb dX8_leaveMergeCauses_76 ?_
    refine lv_aload_n hx hb dX8_leaveMergeCauses_79 rfl (lv_at hl 2 rfl) ?_
    refine g_9_7 (r := some (cd 7)) hx hb hts (by decide +kernel) hown hw hok.1 (hts (.fieldLink RX8 53 "Pirateindex" "causeRow" "Ljava/lang/StringBuilder;") (by decide +kernel)) hok.2.2.2.2.2.2.2.2.1 dX8_leaveMergeCauses_80 ?_
    refine lv_bipush (v := 115) hx hb dX8_leaveMergeCauses_83 (by decide) ?_
    refine m_cq (va_runV (As := [.int 115]) (rest := []) ⟨hx, hb, hml, hown, hts⟩ (c_J4_append_cf468 l (ch := 115) hok.2.2.2.2.2.2.2.2.2.2.2.2.2.2.2.2.2.1 hok.2.2.2.2.2.2.2.2.2.2.2.2.2.2.2.2.2.2.2.2.2.2.2.2.2.2.2.2.2.2.2.2.2.2.2.2.2.2.2.2.2.1 (by rw [hT0, m_up_self]; decide) (by decide)) (cwV 1 hts gX8_leaveMergeCauses_J4_append_cf468 rfl rfl rfl (by decide +kernel) ⟨Nat.le_of_ble_eq_true rfl, Nat.le_of_ble_eq_true rfl⟩) ⟨m_blind m_B_calling, m_recv hw (m_ent_12 hok.2.2.2.2.2.2.2.2.2.2.2.2.2.2.2.2.2.1) rfl, fun U hU hW => ⟨rfl, m_wo_call hw hU hW⟩⟩ rfl rfl hl.1 rfl (lv_room (Nat.le_of_ble_eq_true rfl)) dX8_leaveMergeCauses_85 ⟨Nat.le_of_ble_eq_true rfl, Nat.le_of_ble_eq_true rfl⟩) hw (fun r_85 u_85 H locs hp_85 hw => ?_)
    obtain ⟨A_3, T_4⟩ := u_85
    have hw : m_wo G K I_1 R F A_3 N L T_4 J D s H locs := hw
    dsimp only at hp_85
    obtain ⟨hr9, hA1, eT1⟩ := hp_85
    obtain rfl : r_85 = some (cd 7) := hr9
    have hA0 : ∀ b, K b ≠ 41 → A_3 b = A b := fun b hb => (hA1 b hb).trans (hA0 b hb)
    have hT0 : T_4 = m_up T (cd 7) [nI 115] := by rw [eT1, hT0, m_up_self, m_up_up]; rfl
    refine lv_pop hx hb dX8_leaveMergeCauses_88 rfl ?_
    refine lv_iload hx hb dX8_leaveMergeCauses_89 (lv_at hl 0 rfl) ?_
    refine lv_if_eq (tgt := 104) hx hb dX8_leaveMergeCauses_91 (by decide) (fun c_91 => absurd c_91 (by decide)) (fun c_91 => ?_)
    refine lv_aload_n hx hb dX8_leaveMergeCauses_94 rfl (lv_at hl 2 rfl) ?_
    refine g_9_7 (r := some (cd 7)) hx hb hts (by decide +kernel) hown hw hok.1 (hts (.fieldLink RX8 53 "Pirateindex" "causeRow" "Ljava/lang/StringBuilder;") (by decide +kernel)) hok.2.2.2.2.2.2.2.2.1 dX8_leaveMergeCauses_95 ?_
    refine lv_bipush (v := 111) hx hb dX8_leaveMergeCauses_98 (by decide) ?_
    refine m_cq (va_runV (As := [.int 111]) (rest := []) ⟨hx, hb, hml, hown, hts⟩ (c_J4_append_cf468 l (ch := 111) hok.2.2.2.2.2.2.2.2.2.2.2.2.2.2.2.2.2.1 hok.2.2.2.2.2.2.2.2.2.2.2.2.2.2.2.2.2.2.2.2.2.2.2.2.2.2.2.2.2.2.2.2.2.2.2.2.2.2.2.2.2.1 (by rw [hT0, m_up_self]; decide) (by decide)) (cwV 1 hts gX8_leaveMergeCauses_J4_append_cf468 rfl rfl rfl (by decide +kernel) ⟨Nat.le_of_ble_eq_true rfl, Nat.le_of_ble_eq_true rfl⟩) ⟨m_blind m_B_calling, m_recv hw (m_ent_12 hok.2.2.2.2.2.2.2.2.2.2.2.2.2.2.2.2.2.1) rfl, fun U hU hW => ⟨rfl, m_wo_call hw hU hW⟩⟩ rfl rfl hl.1 rfl (lv_room (Nat.le_of_ble_eq_true rfl)) dX8_leaveMergeCauses_100 ⟨Nat.le_of_ble_eq_true rfl, Nat.le_of_ble_eq_true rfl⟩) hw (fun r_100 u_100 H locs hp_100 hw => ?_)
    obtain ⟨A_5, T_6⟩ := u_100
    have hw : m_wo G K I_1 R F A_5 N L T_6 J D s H locs := hw
    dsimp only at hp_100
    obtain ⟨hr9, hA1, eT1⟩ := hp_100
    obtain rfl : r_100 = some (cd 7) := hr9
    have hA0 : ∀ b, K b ≠ 41 → A_5 b = A b := fun b hb => (hA1 b hb).trans (hA0 b hb)
    have hT0 : T_6 = m_up T (cd 7) [nI 115, nI 111] := by rw [eT1, hT0, m_up_self, m_up_up]; rfl
    refine lv_pop hx hb dX8_leaveMergeCauses_103 rfl ?_
    exact W.vret hx hb hr (fun t ht hW => ⟨⟨(I_1, A_5, T_6), rfl, ⟨hI0, hA0, (by show T_6 = _; rw [show c_mca (some one) none (R 61 (cd 4)) = [nI 115, nI 111] from by rw [c_mca_sn]; simp [d_22], if_neg (by simp)]; exact hT0)⟩, m_wo_out hw ht hW.alike⟩, m_wo_F hw ht⟩) (m_wo_L hw) dX8_leaveMergeCauses_104
  · skip
    have d_22 := of_decide_eq_false ((b2i_eq _).mp c_22)
    refine lv_aload_n hx hb dX8_leaveMergeCauses_25 rfl (lv_at hl 1 rfl) ?_
    refine g_9_4 (r := some (cd 4)) hx hb hts (by decide +kernel) hown hw hok.1 (hts (.fieldLink RX8 36 "Pirateindex" "shelf" "LPirateindex$Shelf;") (by decide +kernel)) hok.2.2.2.2.2.1 dX8_leaveMergeCauses_26 ?_
    refine lv_aload_nN hx hb dX8_leaveMergeCauses_29 rfl (lv_at hl 3 rfl) ?_
    refine m_ci (va_runV (As := [.null]) (rest := []) ⟨hx, hb, hml, hown, hts⟩ (c_X5_isOpen_n l hok.2.2.2.2.2.2.2.2.2.2.2.2.2.2.1) (cwV 1 hts gX8_leaveMergeCauses_X5_isOpen rfl rfl rfl (by decide +kernel) ⟨Nat.le_of_ble_eq_true rfl, Nat.le_of_ble_eq_true rfl⟩) ⟨m_blind m_B_calling, m_recv hw (m_ent_6 hok.2.2.2.2.2.2.2.2.2.2.2.2.2.2.1) rfl, fun U hU hW => ⟨rfl, m_wo_call hw hU hW⟩⟩ rfl rfl hl.1 rfl (lv_room (Nat.le_of_ble_eq_true rfl)) dX8_leaveMergeCauses_30 ⟨Nat.le_of_ble_eq_true rfl, Nat.le_of_ble_eq_true rfl⟩) hw (fun r_30 u_30 H locs hp_30 hw => ?_)
    obtain rfl : r_30 = 0 := hp_30
    refine lv_if_eq (tgt := 40) hx hb dX8_leaveMergeCauses_33 (by decide) (fun c_33 => ?_) (fun c_33 => absurd (by decide) c_33)
    refine lv_iconst (v := 0) hx hb dX8_leaveMergeCauses_40 (by decide) ?_
    refine lv_istore (lv' := [(4, .int 0), (3, .int 1), (0, .ref o), (1, .ref one), (2, .null)]) hx hb dX8_leaveMergeCauses_41 hl (by decide) rfl (fun ls hl => ?_)
    refine lv_iload_n hx hb dX8_leaveMergeCauses_43 rfl (lv_at hl 1 rfl) ?_
    refine lv_if_ne (tgt := 53) hx hb dX8_leaveMergeCauses_44 (by decide) (fun c_44 => ?_) (fun c_44 => absurd c_44 (by decide))
    refine lv_aload_n hx hb dX8_leaveMergeCauses_53 rfl (lv_at hl 2 rfl) ?_
    refine g_9_7 (r := some (cd 7)) hx hb hts (by decide +kernel) hown hw hok.1 (hts (.fieldLink RX8 53 "Pirateindex" "causeRow" "Ljava/lang/StringBuilder;") (by decide +kernel)) hok.2.2.2.2.2.2.2.2.1 dX8_leaveMergeCauses_54 ?_
    refine lv_iconst (v := 0) hx hb dX8_leaveMergeCauses_57 (by decide) ?_
    refine m_cv (va_runV (As := [.int 0]) (rest := []) ⟨hx, hb, hml, hown, hts⟩ (c_J4_setLength_d00df l hok.2.2.2.2.2.2.2.2.2.2.2.2.2.2.2.2.2.1 hok.2.2.2.2.2.2.2.2.2.2.2.2.2.2.2.2.2.2.2.2.2.2.2.2.2.2.2.2.2.2.2.2.2.2.2.2.2.2.2.2.2.1) (cwV 1 hts gX8_leaveMergeCauses_J4_setLength_d00df rfl rfl rfl (by decide +kernel) ⟨Nat.le_of_ble_eq_true rfl, Nat.le_of_ble_eq_true rfl⟩) ⟨m_blind m_B_calling, m_recv hw (m_ent_12 hok.2.2.2.2.2.2.2.2.2.2.2.2.2.2.2.2.2.1) rfl, fun U hU hW => ⟨rfl, m_wo_call hw hU hW⟩⟩ rfl rfl hl.1 rfl (lv_room (Nat.le_of_ble_eq_true rfl)) dX8_leaveMergeCauses_58 ⟨Nat.le_of_ble_eq_true rfl, Nat.le_of_ble_eq_true rfl⟩) hw (fun u_58 H locs hp_58 hw => ?_)
    obtain ⟨I_7, T_8⟩ := u_58
    have hw : m_wo G K I_7 R F A N L T_8 J D s H locs := hw
    dsimp only at hp_58
    obtain ⟨hI0, eT1⟩ := hp_58
    have hT0 : T_8 = m_up T (cd 7) [] := eT1
    refine lv_aload_n hx hb dX8_leaveMergeCauses_61 rfl (lv_at hl 3 rfl) ?_
    refine lv_ifnonnull (tgt := 75) hx hb dX8_leaveMergeCauses_62 (by decide) ?_
    refine lv_aload_nN hx hb dX8_leaveMergeCauses_75 rfl (lv_at hl 4 rfl) ?_
    refine lv_ifnonnullN hx hb dX8_leaveMergeCauses_76 ?_
    refine lv_aload_n hx hb dX8_leaveMergeCauses_79 rfl (lv_at hl 2 rfl) ?_
    refine g_9_7 (r := some (cd 7)) hx hb hts (by decide +kernel) hown hw hok.1 (hts (.fieldLink RX8 53 "Pirateindex" "causeRow" "Ljava/lang/StringBuilder;") (by decide +kernel)) hok.2.2.2.2.2.2.2.2.1 dX8_leaveMergeCauses_80 ?_
    refine lv_bipush (v := 115) hx hb dX8_leaveMergeCauses_83 (by decide) ?_
    refine m_cq (va_runV (As := [.int 115]) (rest := []) ⟨hx, hb, hml, hown, hts⟩ (c_J4_append_cf468 l (ch := 115) hok.2.2.2.2.2.2.2.2.2.2.2.2.2.2.2.2.2.1 hok.2.2.2.2.2.2.2.2.2.2.2.2.2.2.2.2.2.2.2.2.2.2.2.2.2.2.2.2.2.2.2.2.2.2.2.2.2.2.2.2.2.1 (by rw [hT0, m_up_self]; decide) (by decide)) (cwV 1 hts gX8_leaveMergeCauses_J4_append_cf468 rfl rfl rfl (by decide +kernel) ⟨Nat.le_of_ble_eq_true rfl, Nat.le_of_ble_eq_true rfl⟩) ⟨m_blind m_B_calling, m_recv hw (m_ent_12 hok.2.2.2.2.2.2.2.2.2.2.2.2.2.2.2.2.2.1) rfl, fun U hU hW => ⟨rfl, m_wo_call hw hU hW⟩⟩ rfl rfl hl.1 rfl (lv_room (Nat.le_of_ble_eq_true rfl)) dX8_leaveMergeCauses_85 ⟨Nat.le_of_ble_eq_true rfl, Nat.le_of_ble_eq_true rfl⟩) hw (fun r_85 u_85 H locs hp_85 hw => ?_)
    obtain ⟨A_9, T_10⟩ := u_85
    have hw : m_wo G K I_7 R F A_9 N L T_10 J D s H locs := hw
    dsimp only at hp_85
    obtain ⟨hr9, hA1, eT1⟩ := hp_85
    obtain rfl : r_85 = some (cd 7) := hr9
    have hA0 : ∀ b, K b ≠ 41 → A_9 b = A b := fun b hb => (hA1 b hb).trans (hA0 b hb)
    have hT0 : T_10 = m_up T (cd 7) [nI 115] := by rw [eT1, hT0, m_up_self, m_up_up]; rfl
    refine lv_pop hx hb dX8_leaveMergeCauses_88 rfl ?_
    refine lv_iload hx hb dX8_leaveMergeCauses_89 (lv_at hl 0 rfl) ?_
    refine lv_if_eq (tgt := 104) hx hb dX8_leaveMergeCauses_91 (by decide) (fun c_91 => ?_) (fun c_91 => absurd (by decide) c_91)
    exact W.vret hx hb hr (fun t ht hW => ⟨⟨(I_7, A_9, T_10), rfl, ⟨hI0, hA0, (by show T_10 = _; rw [show c_mca (some one) none (R 61 (cd 4)) = [nI 115] from by rw [c_mca_sn]; simp [d_22], if_neg (by simp)]; exact hT0)⟩, m_wo_out hw ht hW.alike⟩, m_wo_F hw ht⟩) (m_wo_L hw) dX8_leaveMergeCauses_104
set_option maxHeartbeats 1600000 in
set_option maxRecDepth 100000 in
theorem c_X8_leaveMergeCauses_ns (l : Launch) {G : mG} {K : Nat → Nat} {I : Nat → Nat → Int32} {R : Nat → Nat → Option Nat} {F : Nat → UInt32} {A : Nat → Nat → Int32} {N : Nat → Nat} {L : Nat → List Nat} {T : Nat → List Int32} {J : Nat → Nat → Int64} {D : Nat → Nat → UInt64} {o : Nat} {cd : Nat → Nat} {other : Nat} (hok : c_ok K R N o cd) : Met l yX8_leaveMergeCauses wsX8_leaveMergeCauses ({ frames := 3, cells := 0, slots := 0, locals := 160 } : Room) (va_Pc [.ref o, .null, .ref other] (m_B G K I R F A N L T J D)) (va_Qv (fun (u : (Nat → Nat → Int32) × (Nat → Nat → Int32) × (Nat → List Int32)) => (∀ f b, f ≠ 121 → u.1 f b = I f b) ∧ (∀ b, K b ≠ 41 → u.2.1 b = A b) ∧ u.2.2 = if c_mca none (some other) (R 61 (cd 4)) = [] then T else m_up T (cd 7) (c_mca none (some other) (R 61 (cd 4)))) (fun u : (Nat → Nat → Int32) × (Nat → Nat → Int32) × (Nat → List Int32) => m_B G K (u.1) R F (u.2.1) N L (u.2.2) J D) (m_A G)) 0 0 (m_A G) := by
  refine Met.ofW (cc := cX8_leaveMergeCauses) (maxL := 5) (ret := none) (by decide) rfl ?_
  intro p e s m args below meth c s₁ B hml hv
  obtain ⟨rfl, hB⟩ := hv
  have hx := B.exec
  have hb := B.bytes
  have hr := B.returns
  have hts := atoms_spec (ws := wsX8_leaveMergeCauses) B.pre
  have hown : s.vm.findClass RX8 = some m.cls := findClass_of_methodNamed B.named
  have hlocks := B.notSynchronized
  have hw := m_wo_in hB
  have hl := lv_entry ([.ref o, .null, .ref other]) (n := 5) (Nat.le_of_ble_eq_true rfl)
  rw [lg_entry_eq]
  generalize (lg_sl ([.ref o, .null, .ref other]) ++ List.replicate (5 - (lg_sl ([.ref o, .null, .ref other])).length) Slot.unset).toArray = ls at hl ⊢
  have hl : lv_has ls 5 [(0, .ref o), (1, .null), (2, .ref other)] := hl
  have hI0 : ∀ f b, f ≠ 121 → I f b = I f b := fun _ _ _ => rfl
  have hA0 : ∀ b, K b ≠ 41 → A b = A b := fun _ _ => rfl
  refine lv_aload_nN hx hb dX8_leaveMergeCauses_0 rfl (lv_at hl 1 rfl) ?_
  refine lv_ifnullN (tgt := 8) hx hb dX8_leaveMergeCauses_1 (by decide) ?_
  refine lv_iconst (v := 1) hx hb dX8_leaveMergeCauses_8 (by decide) ?_
  refine lv_goto (tgt := 13) hx hb dX8_leaveMergeCauses_9 (by decide) ?_
  refine lv_istore_n (lv' := [(3, .int 1), (0, .ref o), (1, .null), (2, .ref other)]) hx hb dX8_leaveMergeCauses_13 rfl hl (by decide) rfl (fun ls hl => ?_)
  refine lv_aload_n hx hb dX8_leaveMergeCauses_14 rfl (lv_at hl 1 rfl) ?_
  refine g_9_4 (r := some (cd 4)) hx hb hts (by decide +kernel) hown hw hok.1 (hts (.fieldLink RX8 36 "Pirateindex" "shelf" "LPirateindex$Shelf;") (by decide +kernel)) hok.2.2.2.2.2.1 dX8_leaveMergeCauses_15 ?_
  refine lv_aload_nN hx hb dX8_leaveMergeCauses_18 rfl (lv_at hl 2 rfl) ?_
  refine m_ci (va_runV (As := [.null]) (rest := []) ⟨hx, hb, hml, hown, hts⟩ (c_X5_isOpen_n l hok.2.2.2.2.2.2.2.2.2.2.2.2.2.2.1) (cwV 1 hts gX8_leaveMergeCauses_X5_isOpen rfl rfl rfl (by decide +kernel) ⟨Nat.le_of_ble_eq_true rfl, Nat.le_of_ble_eq_true rfl⟩) ⟨m_blind m_B_calling, m_recv hw (m_ent_6 hok.2.2.2.2.2.2.2.2.2.2.2.2.2.2.1) rfl, fun U hU hW => ⟨rfl, m_wo_call hw hU hW⟩⟩ rfl rfl hl.1 rfl (lv_room (Nat.le_of_ble_eq_true rfl)) dX8_leaveMergeCauses_19 ⟨Nat.le_of_ble_eq_true rfl, Nat.le_of_ble_eq_true rfl⟩) hw (fun r_19 u_19 H locs hp_19 hw => ?_)
  obtain rfl : r_19 = 0 := hp_19
  refine lv_if_ne (tgt := 36) hx hb dX8_leaveMergeCauses_22 (by decide) (fun c_22 => absurd (by decide) c_22) (fun c_22 => ?_)
  refine lv_aload_n hx hb dX8_leaveMergeCauses_25 rfl (lv_at hl 1 rfl) ?_
  refine g_9_4 (r := some (cd 4)) hx hb hts (by decide +kernel) hown hw hok.1 (hts (.fieldLink RX8 36 "Pirateindex" "shelf" "LPirateindex$Shelf;") (by decide +kernel)) hok.2.2.2.2.2.1 dX8_leaveMergeCauses_26 ?_
  refine lv_aload_n hx hb dX8_leaveMergeCauses_29 rfl (lv_at hl 3 rfl) ?_
  refine m_ci (va_runV (As := [.ref other]) (rest := []) ⟨hx, hb, hml, hown, hts⟩ (c_X5_isOpen l hok.2.2.2.2.2.2.2.2.2.2.2.2.2.2.1) (cwV 1 hts gX8_leaveMergeCauses_X5_isOpen rfl rfl rfl (by decide +kernel) ⟨Nat.le_of_ble_eq_true rfl, Nat.le_of_ble_eq_true rfl⟩) ⟨m_blind m_B_calling, m_recv hw (m_ent_6 hok.2.2.2.2.2.2.2.2.2.2.2.2.2.2.1) rfl, fun U hU hW => ⟨rfl, m_wo_call hw hU hW⟩⟩ rfl rfl hl.1 rfl (lv_room (Nat.le_of_ble_eq_true rfl)) dX8_leaveMergeCauses_30 ⟨Nat.le_of_ble_eq_true rfl, Nat.le_of_ble_eq_true rfl⟩) hw (fun r_30 u_30 H locs hp_30 hw => ?_)
  obtain rfl : r_30 = (b2i (decide (some other = R 61 (cd 4)))) := hp_30
  refine lv_if_eq (tgt := 40) hx hb dX8_leaveMergeCauses_33 (by decide) (fun c_33 => ?_) (fun c_33 => ?_)
  · skip
    have d_33 := of_decide_eq_false ((b2i_eq _).mp c_33)
    refine lv_iconst (v := 0) hx hb dX8_leaveMergeCauses_40 (by decide) ?_
    refine lv_istore (lv' := [(4, .int 0), (3, .int 1), (0, .ref o), (1, .null), (2, .ref other)]) hx hb dX8_leaveMergeCauses_41 hl (by decide) rfl (fun ls hl => ?_)
    refine lv_iload_n hx hb dX8_leaveMergeCauses_43 rfl (lv_at hl 1 rfl) ?_
    refine lv_if_ne (tgt := 53) hx hb dX8_leaveMergeCauses_44 (by decide) (fun c_44 => ?_) (fun c_44 => absurd c_44 (by decide))
    refine lv_aload_n hx hb dX8_leaveMergeCauses_53 rfl (lv_at hl 2 rfl) ?_
    refine g_9_7 (r := some (cd 7)) hx hb hts (by decide +kernel) hown hw hok.1 (hts (.fieldLink RX8 53 "Pirateindex" "causeRow" "Ljava/lang/StringBuilder;") (by decide +kernel)) hok.2.2.2.2.2.2.2.2.1 dX8_leaveMergeCauses_54 ?_
    refine lv_iconst (v := 0) hx hb dX8_leaveMergeCauses_57 (by decide) ?_
    refine m_cv (va_runV (As := [.int 0]) (rest := []) ⟨hx, hb, hml, hown, hts⟩ (c_J4_setLength_d00df l hok.2.2.2.2.2.2.2.2.2.2.2.2.2.2.2.2.2.1 hok.2.2.2.2.2.2.2.2.2.2.2.2.2.2.2.2.2.2.2.2.2.2.2.2.2.2.2.2.2.2.2.2.2.2.2.2.2.2.2.2.2.1) (cwV 1 hts gX8_leaveMergeCauses_J4_setLength_d00df rfl rfl rfl (by decide +kernel) ⟨Nat.le_of_ble_eq_true rfl, Nat.le_of_ble_eq_true rfl⟩) ⟨m_blind m_B_calling, m_recv hw (m_ent_12 hok.2.2.2.2.2.2.2.2.2.2.2.2.2.2.2.2.2.1) rfl, fun U hU hW => ⟨rfl, m_wo_call hw hU hW⟩⟩ rfl rfl hl.1 rfl (lv_room (Nat.le_of_ble_eq_true rfl)) dX8_leaveMergeCauses_58 ⟨Nat.le_of_ble_eq_true rfl, Nat.le_of_ble_eq_true rfl⟩) hw (fun u_58 H locs hp_58 hw => ?_)
    obtain ⟨I_1, T_2⟩ := u_58
    have hw : m_wo G K I_1 R F A N L T_2 J D s H locs := hw
    dsimp only at hp_58
    obtain ⟨hI0, eT1⟩ := hp_58
    have hT0 : T_2 = m_up T (cd 7) [] := eT1
    refine lv_aload_nN hx hb dX8_leaveMergeCauses_61 rfl (lv_at hl 3 rfl) ?_
    refine lv_ifnonnullN hx hb dX8_leaveMergeCauses_62 ?_
    refine lv_aload_n hx hb dX8_leaveMergeCauses_65 rfl (lv_at hl 2 rfl) ?_
    refine g_9_7 (r := some (cd 7)) hx hb hts (by decide +kernel) hown hw hok.1 (hts (.fieldLink RX8 53 "Pirateindex" "causeRow" "Ljava/lang/StringBuilder;") (by decide +kernel)) hok.2.2.2.2.2.2.2.2.1 dX8_leaveMergeCauses_66 ?_
    refine lv_bipush (v := 115) hx hb dX8_leaveMergeCauses_69 (by decide) ?_
    refine m_cq (va_runV (As := [.int 115]) (rest := []) ⟨hx, hb, hml, hown, hts⟩ (c_J4_append_cf468 l (ch := 115) hok.2.2.2.2.2.2.2.2.2.2.2.2.2.2.2.2.2.1 hok.2.2.2.2.2.2.2.2.2.2.2.2.2.2.2.2.2.2.2.2.2.2.2.2.2.2.2.2.2.2.2.2.2.2.2.2.2.2.2.2.2.1 (by rw [hT0, m_up_self]; decide) (by decide)) (cwV 1 hts gX8_leaveMergeCauses_J4_append_cf468 rfl rfl rfl (by decide +kernel) ⟨Nat.le_of_ble_eq_true rfl, Nat.le_of_ble_eq_true rfl⟩) ⟨m_blind m_B_calling, m_recv hw (m_ent_12 hok.2.2.2.2.2.2.2.2.2.2.2.2.2.2.2.2.2.1) rfl, fun U hU hW => ⟨rfl, m_wo_call hw hU hW⟩⟩ rfl rfl hl.1 rfl (lv_room (Nat.le_of_ble_eq_true rfl)) dX8_leaveMergeCauses_71 ⟨Nat.le_of_ble_eq_true rfl, Nat.le_of_ble_eq_true rfl⟩) hw (fun r_71 u_71 H locs hp_71 hw => ?_)
    obtain ⟨A_3, T_4⟩ := u_71
    have hw : m_wo G K I_1 R F A_3 N L T_4 J D s H locs := hw
    dsimp only at hp_71
    obtain ⟨hr9, hA1, eT1⟩ := hp_71
    obtain rfl : r_71 = some (cd 7) := hr9
    have hA0 : ∀ b, K b ≠ 41 → A_3 b = A b := fun b hb => (hA1 b hb).trans (hA0 b hb)
    have hT0 : T_4 = m_up T (cd 7) [nI 115] := by rw [eT1, hT0, m_up_self, m_up_up]; rfl
    refine lv_pop hx hb dX8_leaveMergeCauses_74 rfl ?_
    refine lv_aload_n hx hb dX8_leaveMergeCauses_75 rfl (lv_at hl 4 rfl) ?_
    refine lv_ifnonnull (tgt := 89) hx hb dX8_leaveMergeCauses_76 (by decide) ?_
    refine lv_iload hx hb dX8_leaveMergeCauses_89 (lv_at hl 0 rfl) ?_
    refine lv_if_eq (tgt := 104) hx hb dX8_leaveMergeCauses_91 (by decide) (fun c_91 => ?_) (fun c_91 => absurd (by decide) c_91)
    exact W.vret hx hb hr (fun t ht hW => ⟨⟨(I_1, A_3, T_4), rfl, ⟨hI0, hA0, (by show T_4 = _; rw [show c_mca none (some other) (R 61 (cd 4)) = [nI 115] from by rw [c_mca_ns]; simp [d_33], if_neg (by simp)]; exact hT0)⟩, m_wo_out hw ht hW.alike⟩, m_wo_F hw ht⟩) (m_wo_L hw) dX8_leaveMergeCauses_104
  · skip
    have d_33 := of_decide_eq_true ((b2i_ne _).mp c_33)
    refine lv_iconst (v := 1) hx hb dX8_leaveMergeCauses_36 (by decide) ?_
    refine lv_goto (tgt := 41) hx hb dX8_leaveMergeCauses_37 (by decide) ?_
    refine lv_istore (lv' := [(4, .int 1), (3, .int 1), (0, .ref o), (1, .null), (2, .ref other)]) hx hb dX8_leaveMergeCauses_41 hl (by decide) rfl (fun ls hl => ?_)
    refine lv_iload_n hx hb dX8_leaveMergeCauses_43 rfl (lv_at hl 1 rfl) ?_
    refine lv_if_ne (tgt := 53) hx hb dX8_leaveMergeCauses_44 (by decide) (fun c_44 => ?_) (fun c_44 => absurd c_44 (by decide))
    refine lv_aload_n hx hb dX8_leaveMergeCauses_53 rfl (lv_at hl 2 rfl) ?_
    refine g_9_7 (r := some (cd 7)) hx hb hts (by decide +kernel) hown hw hok.1 (hts (.fieldLink RX8 53 "Pirateindex" "causeRow" "Ljava/lang/StringBuilder;") (by decide +kernel)) hok.2.2.2.2.2.2.2.2.1 dX8_leaveMergeCauses_54 ?_
    refine lv_iconst (v := 0) hx hb dX8_leaveMergeCauses_57 (by decide) ?_
    refine m_cv (va_runV (As := [.int 0]) (rest := []) ⟨hx, hb, hml, hown, hts⟩ (c_J4_setLength_d00df l hok.2.2.2.2.2.2.2.2.2.2.2.2.2.2.2.2.2.1 hok.2.2.2.2.2.2.2.2.2.2.2.2.2.2.2.2.2.2.2.2.2.2.2.2.2.2.2.2.2.2.2.2.2.2.2.2.2.2.2.2.2.1) (cwV 1 hts gX8_leaveMergeCauses_J4_setLength_d00df rfl rfl rfl (by decide +kernel) ⟨Nat.le_of_ble_eq_true rfl, Nat.le_of_ble_eq_true rfl⟩) ⟨m_blind m_B_calling, m_recv hw (m_ent_12 hok.2.2.2.2.2.2.2.2.2.2.2.2.2.2.2.2.2.1) rfl, fun U hU hW => ⟨rfl, m_wo_call hw hU hW⟩⟩ rfl rfl hl.1 rfl (lv_room (Nat.le_of_ble_eq_true rfl)) dX8_leaveMergeCauses_58 ⟨Nat.le_of_ble_eq_true rfl, Nat.le_of_ble_eq_true rfl⟩) hw (fun u_58 H locs hp_58 hw => ?_)
    obtain ⟨I_5, T_6⟩ := u_58
    have hw : m_wo G K I_5 R F A N L T_6 J D s H locs := hw
    dsimp only at hp_58
    obtain ⟨hI0, eT1⟩ := hp_58
    have hT0 : T_6 = m_up T (cd 7) [] := eT1
    refine lv_aload_nN hx hb dX8_leaveMergeCauses_61 rfl (lv_at hl 3 rfl) ?_
    refine lv_ifnonnullN hx hb dX8_leaveMergeCauses_62 ?_
    refine lv_aload_n hx hb dX8_leaveMergeCauses_65 rfl (lv_at hl 2 rfl) ?_
    refine g_9_7 (r := some (cd 7)) hx hb hts (by decide +kernel) hown hw hok.1 (hts (.fieldLink RX8 53 "Pirateindex" "causeRow" "Ljava/lang/StringBuilder;") (by decide +kernel)) hok.2.2.2.2.2.2.2.2.1 dX8_leaveMergeCauses_66 ?_
    refine lv_bipush (v := 115) hx hb dX8_leaveMergeCauses_69 (by decide) ?_
    refine m_cq (va_runV (As := [.int 115]) (rest := []) ⟨hx, hb, hml, hown, hts⟩ (c_J4_append_cf468 l (ch := 115) hok.2.2.2.2.2.2.2.2.2.2.2.2.2.2.2.2.2.1 hok.2.2.2.2.2.2.2.2.2.2.2.2.2.2.2.2.2.2.2.2.2.2.2.2.2.2.2.2.2.2.2.2.2.2.2.2.2.2.2.2.2.1 (by rw [hT0, m_up_self]; decide) (by decide)) (cwV 1 hts gX8_leaveMergeCauses_J4_append_cf468 rfl rfl rfl (by decide +kernel) ⟨Nat.le_of_ble_eq_true rfl, Nat.le_of_ble_eq_true rfl⟩) ⟨m_blind m_B_calling, m_recv hw (m_ent_12 hok.2.2.2.2.2.2.2.2.2.2.2.2.2.2.2.2.2.1) rfl, fun U hU hW => ⟨rfl, m_wo_call hw hU hW⟩⟩ rfl rfl hl.1 rfl (lv_room (Nat.le_of_ble_eq_true rfl)) dX8_leaveMergeCauses_71 ⟨Nat.le_of_ble_eq_true rfl, Nat.le_of_ble_eq_true rfl⟩) hw (fun r_71 u_71 H locs hp_71 hw => ?_)
    obtain ⟨A_7, T_8⟩ := u_71
    have hw : m_wo G K I_5 R F A_7 N L T_8 J D s H locs := hw
    dsimp only at hp_71
    obtain ⟨hr9, hA1, eT1⟩ := hp_71
    obtain rfl : r_71 = some (cd 7) := hr9
    have hA0 : ∀ b, K b ≠ 41 → A_7 b = A b := fun b hb => (hA1 b hb).trans (hA0 b hb)
    have hT0 : T_8 = m_up T (cd 7) [nI 115] := by rw [eT1, hT0, m_up_self, m_up_up]; rfl
    refine lv_pop hx hb dX8_leaveMergeCauses_74 rfl ?_
    refine lv_aload_n hx hb dX8_leaveMergeCauses_75 rfl (lv_at hl 4 rfl) ?_
    refine lv_ifnonnull (tgt := 89) hx hb dX8_leaveMergeCauses_76 (by decide) ?_
    refine lv_iload hx hb dX8_leaveMergeCauses_89 (lv_at hl 0 rfl) ?_
    refine lv_if_eq (tgt := 104) hx hb dX8_leaveMergeCauses_91 (by decide) (fun c_91 => absurd c_91 (by decide)) (fun c_91 => ?_)
    refine lv_aload_n hx hb dX8_leaveMergeCauses_94 rfl (lv_at hl 2 rfl) ?_
    refine g_9_7 (r := some (cd 7)) hx hb hts (by decide +kernel) hown hw hok.1 (hts (.fieldLink RX8 53 "Pirateindex" "causeRow" "Ljava/lang/StringBuilder;") (by decide +kernel)) hok.2.2.2.2.2.2.2.2.1 dX8_leaveMergeCauses_95 ?_
    refine lv_bipush (v := 111) hx hb dX8_leaveMergeCauses_98 (by decide) ?_
    refine m_cq (va_runV (As := [.int 111]) (rest := []) ⟨hx, hb, hml, hown, hts⟩ (c_J4_append_cf468 l (ch := 111) hok.2.2.2.2.2.2.2.2.2.2.2.2.2.2.2.2.2.1 hok.2.2.2.2.2.2.2.2.2.2.2.2.2.2.2.2.2.2.2.2.2.2.2.2.2.2.2.2.2.2.2.2.2.2.2.2.2.2.2.2.2.1 (by rw [hT0, m_up_self]; decide) (by decide)) (cwV 1 hts gX8_leaveMergeCauses_J4_append_cf468 rfl rfl rfl (by decide +kernel) ⟨Nat.le_of_ble_eq_true rfl, Nat.le_of_ble_eq_true rfl⟩) ⟨m_blind m_B_calling, m_recv hw (m_ent_12 hok.2.2.2.2.2.2.2.2.2.2.2.2.2.2.2.2.2.1) rfl, fun U hU hW => ⟨rfl, m_wo_call hw hU hW⟩⟩ rfl rfl hl.1 rfl (lv_room (Nat.le_of_ble_eq_true rfl)) dX8_leaveMergeCauses_100 ⟨Nat.le_of_ble_eq_true rfl, Nat.le_of_ble_eq_true rfl⟩) hw (fun r_100 u_100 H locs hp_100 hw => ?_)
    obtain ⟨A_9, T_10⟩ := u_100
    have hw : m_wo G K I_5 R F A_9 N L T_10 J D s H locs := hw
    dsimp only at hp_100
    obtain ⟨hr9, hA1, eT1⟩ := hp_100
    obtain rfl : r_100 = some (cd 7) := hr9
    have hA0 : ∀ b, K b ≠ 41 → A_9 b = A b := fun b hb => (hA1 b hb).trans (hA0 b hb)
    have hT0 : T_10 = m_up T (cd 7) [nI 115, nI 111] := by rw [eT1, hT0, m_up_self, m_up_up]; rfl
    refine lv_pop hx hb dX8_leaveMergeCauses_103 rfl ?_
    exact W.vret hx hb hr (fun t ht hW => ⟨⟨(I_5, A_9, T_10), rfl, ⟨hI0, hA0, (by show T_10 = _; rw [show c_mca none (some other) (R 61 (cd 4)) = [nI 115, nI 111] from by rw [c_mca_ns]; simp [d_33], if_neg (by simp)]; exact hT0)⟩, m_wo_out hw ht hW.alike⟩, m_wo_F hw ht⟩) (m_wo_L hw) dX8_leaveMergeCauses_104
set_option maxHeartbeats 1600000 in
set_option maxRecDepth 100000 in
theorem c_X8_leaveMergeCauses_nn (l : Launch) {G : mG} {K : Nat → Nat} {I : Nat → Nat → Int32} {R : Nat → Nat → Option Nat} {F : Nat → UInt32} {A : Nat → Nat → Int32} {N : Nat → Nat} {L : Nat → List Nat} {T : Nat → List Int32} {J : Nat → Nat → Int64} {D : Nat → Nat → UInt64} {o : Nat} {cd : Nat → Nat}  (hok : c_ok K R N o cd) : Met l yX8_leaveMergeCauses wsX8_leaveMergeCauses ({ frames := 3, cells := 0, slots := 0, locals := 160 } : Room) (va_Pc [.ref o, .null, .null] (m_B G K I R F A N L T J D)) (va_Qv (fun (u : (Nat → Nat → Int32) × (Nat → Nat → Int32) × (Nat → List Int32)) => (∀ f b, f ≠ 121 → u.1 f b = I f b) ∧ (∀ b, K b ≠ 41 → u.2.1 b = A b) ∧ u.2.2 = if c_mca none none (R 61 (cd 4)) = [] then T else m_up T (cd 7) (c_mca none none (R 61 (cd 4)))) (fun u : (Nat → Nat → Int32) × (Nat → Nat → Int32) × (Nat → List Int32) => m_B G K (u.1) R F (u.2.1) N L (u.2.2) J D) (m_A G)) 0 0 (m_A G) := by
  refine Met.ofW (cc := cX8_leaveMergeCauses) (maxL := 5) (ret := none) (by decide) rfl ?_
  intro p e s m args below meth c s₁ B hml hv
  obtain ⟨rfl, hB⟩ := hv
  have hx := B.exec
  have hb := B.bytes
  have hr := B.returns
  have hts := atoms_spec (ws := wsX8_leaveMergeCauses) B.pre
  have hown : s.vm.findClass RX8 = some m.cls := findClass_of_methodNamed B.named
  have hlocks := B.notSynchronized
  have hw := m_wo_in hB
  have hl := lv_entry ([.ref o, .null, .null]) (n := 5) (Nat.le_of_ble_eq_true rfl)
  rw [lg_entry_eq]
  generalize (lg_sl ([.ref o, .null, .null]) ++ List.replicate (5 - (lg_sl ([.ref o, .null, .null])).length) Slot.unset).toArray = ls at hl ⊢
  have hl : lv_has ls 5 [(0, .ref o), (1, .null), (2, .null)] := hl
  have hI0 : ∀ f b, f ≠ 121 → I f b = I f b := fun _ _ _ => rfl
  have hA0 : ∀ b, K b ≠ 41 → A b = A b := fun _ _ => rfl
  refine lv_aload_nN hx hb dX8_leaveMergeCauses_0 rfl (lv_at hl 1 rfl) ?_
  refine lv_ifnullN (tgt := 8) hx hb dX8_leaveMergeCauses_1 (by decide) ?_
  refine lv_iconst (v := 1) hx hb dX8_leaveMergeCauses_8 (by decide) ?_
  refine lv_goto (tgt := 13) hx hb dX8_leaveMergeCauses_9 (by decide) ?_
  refine lv_istore_n (lv' := [(3, .int 1), (0, .ref o), (1, .null), (2, .null)]) hx hb dX8_leaveMergeCauses_13 rfl hl (by decide) rfl (fun ls hl => ?_)
  refine lv_aload_n hx hb dX8_leaveMergeCauses_14 rfl (lv_at hl 1 rfl) ?_
  refine g_9_4 (r := some (cd 4)) hx hb hts (by decide +kernel) hown hw hok.1 (hts (.fieldLink RX8 36 "Pirateindex" "shelf" "LPirateindex$Shelf;") (by decide +kernel)) hok.2.2.2.2.2.1 dX8_leaveMergeCauses_15 ?_
  refine lv_aload_nN hx hb dX8_leaveMergeCauses_18 rfl (lv_at hl 2 rfl) ?_
  refine m_ci (va_runV (As := [.null]) (rest := []) ⟨hx, hb, hml, hown, hts⟩ (c_X5_isOpen_n l hok.2.2.2.2.2.2.2.2.2.2.2.2.2.2.1) (cwV 1 hts gX8_leaveMergeCauses_X5_isOpen rfl rfl rfl (by decide +kernel) ⟨Nat.le_of_ble_eq_true rfl, Nat.le_of_ble_eq_true rfl⟩) ⟨m_blind m_B_calling, m_recv hw (m_ent_6 hok.2.2.2.2.2.2.2.2.2.2.2.2.2.2.1) rfl, fun U hU hW => ⟨rfl, m_wo_call hw hU hW⟩⟩ rfl rfl hl.1 rfl (lv_room (Nat.le_of_ble_eq_true rfl)) dX8_leaveMergeCauses_19 ⟨Nat.le_of_ble_eq_true rfl, Nat.le_of_ble_eq_true rfl⟩) hw (fun r_19 u_19 H locs hp_19 hw => ?_)
  obtain rfl : r_19 = 0 := hp_19
  refine lv_if_ne (tgt := 36) hx hb dX8_leaveMergeCauses_22 (by decide) (fun c_22 => absurd (by decide) c_22) (fun c_22 => ?_)
  refine lv_aload_n hx hb dX8_leaveMergeCauses_25 rfl (lv_at hl 1 rfl) ?_
  refine g_9_4 (r := some (cd 4)) hx hb hts (by decide +kernel) hown hw hok.1 (hts (.fieldLink RX8 36 "Pirateindex" "shelf" "LPirateindex$Shelf;") (by decide +kernel)) hok.2.2.2.2.2.1 dX8_leaveMergeCauses_26 ?_
  refine lv_aload_nN hx hb dX8_leaveMergeCauses_29 rfl (lv_at hl 3 rfl) ?_
  refine m_ci (va_runV (As := [.null]) (rest := []) ⟨hx, hb, hml, hown, hts⟩ (c_X5_isOpen_n l hok.2.2.2.2.2.2.2.2.2.2.2.2.2.2.1) (cwV 1 hts gX8_leaveMergeCauses_X5_isOpen rfl rfl rfl (by decide +kernel) ⟨Nat.le_of_ble_eq_true rfl, Nat.le_of_ble_eq_true rfl⟩) ⟨m_blind m_B_calling, m_recv hw (m_ent_6 hok.2.2.2.2.2.2.2.2.2.2.2.2.2.2.1) rfl, fun U hU hW => ⟨rfl, m_wo_call hw hU hW⟩⟩ rfl rfl hl.1 rfl (lv_room (Nat.le_of_ble_eq_true rfl)) dX8_leaveMergeCauses_30 ⟨Nat.le_of_ble_eq_true rfl, Nat.le_of_ble_eq_true rfl⟩) hw (fun r_30 u_30 H locs hp_30 hw => ?_)
  obtain rfl : r_30 = 0 := hp_30
  refine lv_if_eq (tgt := 40) hx hb dX8_leaveMergeCauses_33 (by decide) (fun c_33 => ?_) (fun c_33 => absurd (by decide) c_33)
  refine lv_iconst (v := 0) hx hb dX8_leaveMergeCauses_40 (by decide) ?_
  refine lv_istore (lv' := [(4, .int 0), (3, .int 1), (0, .ref o), (1, .null), (2, .null)]) hx hb dX8_leaveMergeCauses_41 hl (by decide) rfl (fun ls hl => ?_)
  refine lv_iload_n hx hb dX8_leaveMergeCauses_43 rfl (lv_at hl 1 rfl) ?_
  refine lv_if_ne (tgt := 53) hx hb dX8_leaveMergeCauses_44 (by decide) (fun c_44 => ?_) (fun c_44 => absurd c_44 (by decide))
  refine lv_aload_n hx hb dX8_leaveMergeCauses_53 rfl (lv_at hl 2 rfl) ?_
  refine g_9_7 (r := some (cd 7)) hx hb hts (by decide +kernel) hown hw hok.1 (hts (.fieldLink RX8 53 "Pirateindex" "causeRow" "Ljava/lang/StringBuilder;") (by decide +kernel)) hok.2.2.2.2.2.2.2.2.1 dX8_leaveMergeCauses_54 ?_
  refine lv_iconst (v := 0) hx hb dX8_leaveMergeCauses_57 (by decide) ?_
  refine m_cv (va_runV (As := [.int 0]) (rest := []) ⟨hx, hb, hml, hown, hts⟩ (c_J4_setLength_d00df l hok.2.2.2.2.2.2.2.2.2.2.2.2.2.2.2.2.2.1 hok.2.2.2.2.2.2.2.2.2.2.2.2.2.2.2.2.2.2.2.2.2.2.2.2.2.2.2.2.2.2.2.2.2.2.2.2.2.2.2.2.2.1) (cwV 1 hts gX8_leaveMergeCauses_J4_setLength_d00df rfl rfl rfl (by decide +kernel) ⟨Nat.le_of_ble_eq_true rfl, Nat.le_of_ble_eq_true rfl⟩) ⟨m_blind m_B_calling, m_recv hw (m_ent_12 hok.2.2.2.2.2.2.2.2.2.2.2.2.2.2.2.2.2.1) rfl, fun U hU hW => ⟨rfl, m_wo_call hw hU hW⟩⟩ rfl rfl hl.1 rfl (lv_room (Nat.le_of_ble_eq_true rfl)) dX8_leaveMergeCauses_58 ⟨Nat.le_of_ble_eq_true rfl, Nat.le_of_ble_eq_true rfl⟩) hw (fun u_58 H locs hp_58 hw => ?_)
  obtain ⟨I_1, T_2⟩ := u_58
  have hw : m_wo G K I_1 R F A N L T_2 J D s H locs := hw
  dsimp only at hp_58
  obtain ⟨hI0, eT1⟩ := hp_58
  have hT0 : T_2 = m_up T (cd 7) [] := eT1
  refine lv_aload_nN hx hb dX8_leaveMergeCauses_61 rfl (lv_at hl 3 rfl) ?_
  refine lv_ifnonnullN hx hb dX8_leaveMergeCauses_62 ?_
  refine lv_aload_n hx hb dX8_leaveMergeCauses_65 rfl (lv_at hl 2 rfl) ?_
  refine g_9_7 (r := some (cd 7)) hx hb hts (by decide +kernel) hown hw hok.1 (hts (.fieldLink RX8 53 "Pirateindex" "causeRow" "Ljava/lang/StringBuilder;") (by decide +kernel)) hok.2.2.2.2.2.2.2.2.1 dX8_leaveMergeCauses_66 ?_
  refine lv_bipush (v := 115) hx hb dX8_leaveMergeCauses_69 (by decide) ?_
  refine m_cq (va_runV (As := [.int 115]) (rest := []) ⟨hx, hb, hml, hown, hts⟩ (c_J4_append_cf468 l (ch := 115) hok.2.2.2.2.2.2.2.2.2.2.2.2.2.2.2.2.2.1 hok.2.2.2.2.2.2.2.2.2.2.2.2.2.2.2.2.2.2.2.2.2.2.2.2.2.2.2.2.2.2.2.2.2.2.2.2.2.2.2.2.2.1 (by rw [hT0, m_up_self]; decide) (by decide)) (cwV 1 hts gX8_leaveMergeCauses_J4_append_cf468 rfl rfl rfl (by decide +kernel) ⟨Nat.le_of_ble_eq_true rfl, Nat.le_of_ble_eq_true rfl⟩) ⟨m_blind m_B_calling, m_recv hw (m_ent_12 hok.2.2.2.2.2.2.2.2.2.2.2.2.2.2.2.2.2.1) rfl, fun U hU hW => ⟨rfl, m_wo_call hw hU hW⟩⟩ rfl rfl hl.1 rfl (lv_room (Nat.le_of_ble_eq_true rfl)) dX8_leaveMergeCauses_71 ⟨Nat.le_of_ble_eq_true rfl, Nat.le_of_ble_eq_true rfl⟩) hw (fun r_71 u_71 H locs hp_71 hw => ?_)
  obtain ⟨A_3, T_4⟩ := u_71
  have hw : m_wo G K I_1 R F A_3 N L T_4 J D s H locs := hw
  dsimp only at hp_71
  obtain ⟨hr9, hA1, eT1⟩ := hp_71
  obtain rfl : r_71 = some (cd 7) := hr9
  have hA0 : ∀ b, K b ≠ 41 → A_3 b = A b := fun b hb => (hA1 b hb).trans (hA0 b hb)
  have hT0 : T_4 = m_up T (cd 7) [nI 115] := by rw [eT1, hT0, m_up_self, m_up_up]; rfl
  refine lv_pop hx hb dX8_leaveMergeCauses_74 rfl ?_
  refine lv_aload_nN hx hb dX8_leaveMergeCauses_75 rfl (lv_at hl 4 rfl) ?_
  refine lv_ifnonnullN hx hb dX8_leaveMergeCauses_76 ?_
  refine lv_aload_n hx hb dX8_leaveMergeCauses_79 rfl (lv_at hl 2 rfl) ?_
  refine g_9_7 (r := some (cd 7)) hx hb hts (by decide +kernel) hown hw hok.1 (hts (.fieldLink RX8 53 "Pirateindex" "causeRow" "Ljava/lang/StringBuilder;") (by decide +kernel)) hok.2.2.2.2.2.2.2.2.1 dX8_leaveMergeCauses_80 ?_
  refine lv_bipush (v := 115) hx hb dX8_leaveMergeCauses_83 (by decide) ?_
  refine m_cq (va_runV (As := [.int 115]) (rest := []) ⟨hx, hb, hml, hown, hts⟩ (c_J4_append_cf468 l (ch := 115) hok.2.2.2.2.2.2.2.2.2.2.2.2.2.2.2.2.2.1 hok.2.2.2.2.2.2.2.2.2.2.2.2.2.2.2.2.2.2.2.2.2.2.2.2.2.2.2.2.2.2.2.2.2.2.2.2.2.2.2.2.2.1 (by rw [hT0, m_up_self]; decide) (by decide)) (cwV 1 hts gX8_leaveMergeCauses_J4_append_cf468 rfl rfl rfl (by decide +kernel) ⟨Nat.le_of_ble_eq_true rfl, Nat.le_of_ble_eq_true rfl⟩) ⟨m_blind m_B_calling, m_recv hw (m_ent_12 hok.2.2.2.2.2.2.2.2.2.2.2.2.2.2.2.2.2.1) rfl, fun U hU hW => ⟨rfl, m_wo_call hw hU hW⟩⟩ rfl rfl hl.1 rfl (lv_room (Nat.le_of_ble_eq_true rfl)) dX8_leaveMergeCauses_85 ⟨Nat.le_of_ble_eq_true rfl, Nat.le_of_ble_eq_true rfl⟩) hw (fun r_85 u_85 H locs hp_85 hw => ?_)
  obtain ⟨A_5, T_6⟩ := u_85
  have hw : m_wo G K I_1 R F A_5 N L T_6 J D s H locs := hw
  dsimp only at hp_85
  obtain ⟨hr9, hA1, eT1⟩ := hp_85
  obtain rfl : r_85 = some (cd 7) := hr9
  have hA0 : ∀ b, K b ≠ 41 → A_5 b = A b := fun b hb => (hA1 b hb).trans (hA0 b hb)
  have hT0 : T_6 = m_up T (cd 7) [nI 115, nI 115] := by rw [eT1, hT0, m_up_self, m_up_up]; rfl
  refine lv_pop hx hb dX8_leaveMergeCauses_88 rfl ?_
  refine lv_iload hx hb dX8_leaveMergeCauses_89 (lv_at hl 0 rfl) ?_
  refine lv_if_eq (tgt := 104) hx hb dX8_leaveMergeCauses_91 (by decide) (fun c_91 => ?_) (fun c_91 => absurd (by decide) c_91)
  exact W.vret hx hb hr (fun t ht hW => ⟨⟨(I_1, A_5, T_6), rfl, ⟨hI0, hA0, (by show T_6 = _; rw [show c_mca none none (R 61 (cd 4)) = [nI 115, nI 115] from by exact c_mca_nn, if_neg (by simp)]; exact hT0)⟩, m_wo_out hw ht hW.alike⟩, m_wo_F hw ht⟩) (m_wo_L hw) dX8_leaveMergeCauses_104
