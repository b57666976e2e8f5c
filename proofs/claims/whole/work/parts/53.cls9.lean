set_option maxHeartbeats 400000 in
set_option maxRecDepth 100000 in
theorem c_X6_init (l : Launch) {G : mG} {K : Nat → Nat} {I : Nat → Nat → Int32} {R : Nat → Nat → Option Nat} {F : Nat → UInt32} {A : Nat → Nat → Int32} {N : Nat → Nat} {L : Nat → List Nat} {T : Nat → List Int32} {J : Nat → Nat → Int64} {D : Nat → Nat → UInt64} {o is9 : Nat} (hko : K o = 7) : Met l yX6_init wsX6_init ({ frames := 3, cells := 3, slots := 11, locals := 80 } : Room) (va_Pc [.ref o, .ref is9] (m_B G K I R F A N L T J D)) (va_Qv (fun (u : (Nat → Nat) × (Nat → Nat → Int32) × (Nat → Nat → Option Nat) × (Nat → Nat)) => ∃ ph q1 q2, K ph = 0 ∧ m_up K ph 4 q1 = 0 ∧ m_up (m_up K ph 4) q1 21 q2 = 0 ∧ I 42 ph = 0 ∧ u.1 = m_up (m_up (m_up K ph 4) q1 21) q2 22 ∧ u.2.1 = m_up2 I 72 o 100 ∧ u.2.2.1 = m_up2 (m_up2 (m_up2 (m_up2 (m_up2 R 40 ph (some q1)) 41 ph (some q2)) 70 o (some ph)) 71 o (some is9)) 73 o (some is9) ∧ u.2.2.2 = m_up (m_up N q1 4) q2 4) (fun u : (Nat → Nat) × (Nat → Nat → Int32) × (Nat → Nat → Option Nat) × (Nat → Nat) => m_B G (u.1) (u.2.1) (u.2.2.1) F A (u.2.2.2) L T J D) (m_A G)) 3 11 (m_A G) := by
  refine Met.ofW (cc := cX6_init) (maxL := 2) (ret := none) (by decide) rfl ?_
  intro p e s m args below meth c s₁ B hml hv
  obtain ⟨rfl, hB⟩ := hv
  have hx := B.exec
  have hb := B.bytes
  have hr := B.returns
  have hts := atoms_spec (ws := wsX6_init) B.pre
  have hown : s.vm.findClass RX6 = some m.cls := findClass_of_methodNamed B.named
  have hlocks := B.notSynchronized
  have hin2 : meth.name = "<init>" := (name_of_methodNamed B.named B.method).1
  have hw := m_wo_in hB
  have hl := lv_entry ([.ref o, .ref is9]) (n := 2) (Nat.le_of_ble_eq_true rfl)
  rw [lg_entry_eq]
  generalize (lg_sl ([.ref o, .ref is9]) ++ List.replicate (2 - (lg_sl ([.ref o, .ref is9])).length) Slot.unset).toArray = ls at hl ⊢
  have hl : lv_has ls 2 [(0, .ref o), (1, .ref is9)] := hl
  refine lv_aload_n hx hb dX6_init_0 rfl (lv_at hl 0 rfl) ?_
  refine W.objInit hx hb hown (hts (.methodLink RX6 3 objectInit) (by decide +kernel)) (hts (.instanceMethod objectInit) (by decide +kernel)) (hts (.code objectInit ⟨#[0xb1]⟩ 1 none) (by decide +kernel)) rfl (by rw [hml]; exact hl.1) rfl dX6_init_1 (Nat.le_of_ble_eq_true rfl) (Nat.le_of_ble_eq_true rfl) ?_
  refine W.eq (g2 := F0 m 4 ls []) rfl ?_
  refine lv_aload_n hx hb dX6_init_4 rfl (lv_at hl 0 rfl) ?_
  refine m_new_4 hx hb hts (by decide +kernel) hown (hts (.classLink RX6 9 RX3) (by decide +kernel)) (hts (.instantiable RX3 3) (by decide +kernel)) (hts (.initialized RX3) (by decide +kernel)) hw (Nat.le_of_ble_eq_true rfl) (Nat.le_of_ble_eq_true rfl) dX6_init_5 (fun q_5 H hz_5 hd_5 hw => ?_)
  have hk_5 : m_up K q_5 4 q_5 = 4 := m_up_self _ _ _
  have hko := m_up_k (k := 4) hz_5 hko (by decide)
  refine lv_dup hx hb dX6_init_8 rfl ?_
  refine m_cv (va_runI (As := []) (rest := [.ref q_5, .ref o]) ⟨hx, hb, hml, hown, hts⟩ (c_X3_init l hk_5) (cwI 0 hts gX6_init_X3_init rfl rfl rfl (hts (.initialized RX3) (by decide +kernel)) (hts (.methodLink RX6 11 yX3_init) (by decide +kernel)) (hts (.instanceMethod yX3_init) (by decide +kernel)) rfl (by decide +kernel) ⟨Nat.le_of_ble_eq_true rfl, Nat.le_of_ble_eq_true rfl⟩) ⟨m_blind m_B_calling, fun U hU hW => ⟨rfl, m_wo_call hw hU hW⟩⟩ rfl rfl hl.1 rfl (lv_room (Nat.le_of_ble_eq_true rfl)) dX6_init_9 ⟨Nat.le_of_ble_eq_true rfl, Nat.le_of_ble_eq_true rfl⟩) hw (fun u_9 H locs hp_9 hw => ?_)
  obtain ⟨K_1, R_2, N_3⟩ := u_9
  have hw : m_wo G K_1 I R_2 F A N_3 L T J D s H locs := hw
  dsimp only at hp_9
  obtain ⟨q1, q2, hq1, hq2, eK, eR, eN⟩ := hp_9
  have hko : K_1 o = 7 := by rw [eK]; exact m_up_k hq2 (m_up_k hq1 hko (by decide)) (by decide)
  refine p_7_0 hx hb hts (by decide +kernel) hown hw hko (hts (.fieldLink RX6 12 "Pirateindex$Ship" "map" "LPirateindex$Phrase;") (by decide +kernel)) hin2 (some q_5) dX6_init_12 (fun H locs hw => ?_)
  refine lv_aload_n hx hb dX6_init_15 rfl (lv_at hl 0 rfl) ?_
  refine lv_aload_n hx hb dX6_init_16 rfl (lv_at hl 1 rfl) ?_
  refine p_7_1 hx hb hts (by decide +kernel) hown hw hko (hts (.fieldLink RX6 18 "Pirateindex$Ship" "where" "LPirateindex$Isle;") (by decide +kernel)) (some is9) dX6_init_17 (fun H locs hw => ?_)
  refine lv_aload_n hx hb dX6_init_20 rfl (lv_at hl 0 rfl) ?_
  refine lv_aload_n hx hb dX6_init_21 rfl (lv_at hl 1 rfl) ?_
  refine p_7_3 hx hb hts (by decide +kernel) hown hw hko (hts (.fieldLink RX6 22 "Pirateindex$Ship" "cameFrom" "LPirateindex$Isle;") (by decide +kernel)) (some is9) dX6_init_22 (fun H locs hw => ?_)
  refine lv_aload_n hx hb dX6_init_25 rfl (lv_at hl 0 rfl) ?_
  refine lv_bipush (v := 100) hx hb dX6_init_26 (by decide) ?_
  refine p_7_2 hx hb hts (by decide +kernel) hown hw hko (hts (.fieldLink RX6 25 "Pirateindex$Ship" "purse" "I") (by decide +kernel)) dX6_init_28 (fun H locs hw => ?_)
  exact W.vret hx hb hr (fun t ht hW => ⟨⟨(K_1, m_up2 I 72 o 100, m_up2 (m_up2 (m_up2 R_2 70 o (some q_5)) 71 o (some is9)) 73 o (some is9), N_3), rfl, ⟨q_5, q1, q2, hz_5, hq1, hq2, hd_5.1 42, eK, rfl, by rw [eR], eN⟩, m_wo_out hw ht hW.alike⟩, m_wo_F hw ht⟩) (m_wo_L hw) dX6_init_31
set_option maxHeartbeats 400000 in
set_option maxRecDepth 100000 in
theorem c_X6_sailTo (l : Launch) {G : mG} {K : Nat → Nat} {I : Nat → Nat → Int32} {R : Nat → Nat → Option Nat} {F : Nat → UInt32} {A : Nat → Nat → Int32} {N : Nat → Nat} {L : Nat → List Nat} {T : Nat → List Int32} {J : Nat → Nat → Int64} {D : Nat → Nat → UInt64} {o goal by9 was ph w9 d9 w2 d2 n : Nat} {pr : Int32} (hko : K o = 7) (hph : R 70 o = some ph) (hkp : K ph = 4) (hrw : R 40 ph = some w9) (hkw : K w9 = 21) (hNw : N w9 = 4) (hrd : R 41 ph = some d9) (hkd : K d9 = 22) (hNd : N d9 = 4) (hk2 : K by9 = 4) (hrw2 : R 40 by9 = some w2) (hkw2 : K w2 = 21) (hNw2 : N w2 = 4) (hrd2 : R 41 by9 = some d2) (hkd2 : K d2 = 22) (hNd2 : N d2 = 4) (hn : I 42 by9 = nI n) (hn4 : n ≤ 4) (hoo : by9 ≠ ph) (hww : w2 ≠ w9) (hdd : d2 ≠ d9) (hwas : R 71 o = some was) : Met l yX6_sailTo wsX6_sailTo ({ frames := 3, cells := 0, slots := 0, locals := 100 } : Room) (va_Pc [.ref o, .ref goal, .ref by9, .int pr] (m_B G K I R F A N L T J D)) (va_Qv (fun (u : (Nat → Nat → Int32) × (Nat → Nat → Option Nat) × (Nat → Nat → Int32)) => u.1 = m_up2 (m_up2 (m_up2 I 72 o (I 72 o - (if I 72 o < pr then I 72 o else pr))) 42 ph (nI n)) 74 o 0 ∧ u.2.1 = m_up2 (m_up2 R 73 o (some was)) 71 o (some goal) ∧ (∀ b, b ≠ w9 → b ≠ d9 → u.2.2 b = A b) ∧ (∀ k, k < n → u.2.2 w9 k = A w2 k) ∧ ∀ k, k < n → u.2.2 d9 k = A d2 k) (fun u : (Nat → Nat → Int32) × (Nat → Nat → Option Nat) × (Nat → Nat → Int32) => m_B G K (u.1) (u.2.1) F (u.2.2) N L T J D) (m_A G)) 0 0 (m_A G) := by
  refine Met.ofW (cc := cX6_sailTo) (maxL := 4) (ret := none) (by decide) rfl ?_
  intro p e s m args below meth c s₁ B hml hv
  obtain ⟨rfl, hB⟩ := hv
  have hx := B.exec
  have hb := B.bytes
  have hr := B.returns
  have hts := atoms_spec (ws := wsX6_sailTo) B.pre
  have hown : s.vm.findClass RX6 = some m.cls := findClass_of_methodNamed B.named
  have hlocks := B.notSynchronized
  have hw := m_wo_in hB
  have hl := lv_entry ([.ref o, .ref goal, .ref by9, .int pr]) (n := 4) (Nat.le_of_ble_eq_true rfl)
  rw [lg_entry_eq]
  generalize (lg_sl ([.ref o, .ref goal, .ref by9, .int pr]) ++ List.replicate (4 - (lg_sl ([.ref o, .ref goal, .ref by9, .int pr])).length) Slot.unset).toArray = ls at hl ⊢
  have hl : lv_has ls 4 [(0, .ref o), (1, .ref goal), (2, .ref by9), (3, .int pr)] := hl
  refine lv_aload_n hx hb dX6_sailTo_0 rfl (lv_at hl 0 rfl) ?_
  refine lv_iload_n hx hb dX6_sailTo_1 rfl (lv_at hl 3 rfl) ?_
  refine m_cv (va_runV (As := [.int pr]) (rest := []) ⟨hx, hb, hml, hown, hts⟩ (c_X6_pay l hko) (cwV 1 hts gX6_sailTo_X6_pay rfl rfl rfl (by decide +kernel) ⟨Nat.le_of_ble_eq_true rfl, Nat.le_of_ble_eq_true rfl⟩) ⟨m_blind m_B_calling, m_recv hw (m_ent_7 hko) rfl, fun U hU hW => ⟨rfl, m_wo_call hw hU hW⟩⟩ rfl rfl hl.1 rfl (lv_room (Nat.le_of_ble_eq_true rfl)) dX6_sailTo_2 ⟨Nat.le_of_ble_eq_true rfl, Nat.le_of_ble_eq_true rfl⟩) hw (fun u_2 H locs hp_2 hw => ?_)
  have hw : m_wo G K u_2 R F A N L T J D s H locs := hw
  have eI1 : u_2 = m_up2 I 72 o (I 72 o - (if I 72 o < pr then I 72 o else pr)) := hp_2
  refine lv_aload_n hx hb dX6_sailTo_5 rfl (lv_at hl 0 rfl) ?_
  refine g_7_0 (r := some ph) hx hb hts (by decide +kernel) hown hw hko (hts (.fieldLink RX6 12 "Pirateindex$Ship" "map" "LPirateindex$Phrase;") (by decide +kernel)) hph dX6_sailTo_6 ?_
  refine lv_aload_n hx hb dX6_sailTo_9 rfl (lv_at hl 2 rfl) ?_
  refine m_cv (va_runV (As := [.ref by9]) (rest := []) ⟨hx, hb, hml, hown, hts⟩ (c_X3_copyFrom l hkp hrw hkw hNw hrd hkd hNd hk2 hrw2 hkw2 hNw2 hrd2 hkd2 hNd2 (by rw [eI1, m_up2_ni _ _ (by decide)]; exact hn) hn4 hoo hww hdd) (cwV 1 hts gX6_sailTo_X3_copyFrom rfl rfl rfl (by decide +kernel) ⟨Nat.le_of_ble_eq_true rfl, Nat.le_of_ble_eq_true rfl⟩) ⟨m_blind m_B_calling, m_recv hw (m_ent_4 hkp) rfl, fun U hU hW => ⟨rfl, m_wo_call hw hU hW⟩⟩ rfl rfl hl.1 rfl (lv_room (Nat.le_of_ble_eq_true rfl)) dX6_sailTo_10 ⟨Nat.le_of_ble_eq_true rfl, Nat.le_of_ble_eq_true rfl⟩) hw (fun u_10 H locs hp_10 hw => ?_)
  obtain ⟨I_2, A_3⟩ := u_10
  have hw : m_wo G K I_2 R F A_3 N L T J D s H locs := hw
  dsimp only at hp_10
  obtain ⟨eI2, hA1, hA2, hA3⟩ := hp_10
  refine lv_aload_n hx hb dX6_sailTo_13 rfl (lv_at hl 0 rfl) ?_
  refine lv_aload_n hx hb dX6_sailTo_14 rfl (lv_at hl 0 rfl) ?_
  refine g_7_1 (r := some was) hx hb hts (by decide +kernel) hown hw hko (hts (.fieldLink RX6 18 "Pirateindex$Ship" "where" "LPirateindex$Isle;") (by decide +kernel)) hwas dX6_sailTo_15 ?_
  refine p_7_3 hx hb hts (by decide +kernel) hown hw hko (hts (.fieldLink RX6 22 "Pirateindex$Ship" "cameFrom" "LPirateindex$Isle;") (by decide +kernel)) (some was) dX6_sailTo_18 (fun H locs hw => ?_)
  refine lv_aload_n hx hb dX6_sailTo_21 rfl (lv_at hl 0 rfl) ?_
  refine lv_aload_n hx hb dX6_sailTo_22 rfl (lv_at hl 1 rfl) ?_
  refine p_7_1 hx hb hts (by decide +kernel) hown hw hko (hts (.fieldLink RX6 18 "Pirateindex$Ship" "where" "LPirateindex$Isle;") (by decide +kernel)) (some goal) dX6_sailTo_23 (fun H locs hw => ?_)
  refine lv_aload_n hx hb dX6_sailTo_26 rfl (lv_at hl 0 rfl) ?_
  refine lv_iconst (v := 0) hx hb dX6_sailTo_27 (by decide) ?_
  refine p_7_4 hx hb hts (by decide +kernel) hown hw hko (hts (.fieldLink RX6 43 "Pirateindex$Ship" "dug" "Z") (by decide +kernel)) (Or.inl rfl) dX6_sailTo_28 (fun H locs hw => ?_)
  exact W.vret hx hb hr (fun t ht hW => ⟨⟨(m_up2 I_2 74 o 0, m_up2 (m_up2 R 73 o (some was)) 71 o (some goal), A_3), rfl, ⟨by rw [eI2, eI1], rfl, hA1, hA2, hA3⟩, m_wo_out hw ht hW.alike⟩, m_wo_F hw ht⟩) (m_wo_L hw) dX6_sailTo_31
set_option maxHeartbeats 400000 in
set_option maxRecDepth 100000 in
theorem c_X6_takeTreasure (l : Launch) {G : mG} {K : Nat → Nat} {I : Nat → Nat → Int32} {R : Nat → Nat → Option Nat} {F : Nat → UInt32} {A : Nat → Nat → Int32} {N : Nat → Nat} {L : Nat → List Nat} {T : Nat → List Int32} {J : Nat → Nat → Int64} {D : Nat → Nat → UInt64} {o is9 : Nat} (hko : K o = 7) (hwh : R 71 o = some is9) (hki : K is9 = 3) : Met l yX6_takeTreasure wsX6_takeTreasure ({ frames := 0, cells := 0, slots := 0, locals := 0 } : Room) (va_Pc [.ref o] (m_B G K I R F A N L T J D)) (va_Qi (fun (r : Int32) (u : Nat → Nat → Int32) => r = I 33 is9 ∧ u = m_up2 (m_up2 (m_up2 I 34 is9 0) 72 o (I 72 o + I 33 is9)) 74 o 1) (fun u : Nat → Nat → Int32 => m_B G K u R F A N L T J D) (m_A G)) 0 0 (m_A G) := by
  refine Met.ofW (cc := cX6_takeTreasure) (maxL := 1) (ret := (some .int)) (by decide) rfl ?_
  intro p e s m args below meth c s₁ B hml hv
  obtain ⟨rfl, hB⟩ := hv
  have hx := B.exec
  have hb := B.bytes
  have hr := B.returns
  have hts := atoms_spec (ws := wsX6_takeTreasure) B.pre
  have hown : s.vm.findClass RX6 = some m.cls := findClass_of_methodNamed B.named
  have hlocks := B.notSynchronized
  have hw := m_wo_in hB
  have hl := lv_entry ([.ref o]) (n := 1) (Nat.le_of_ble_eq_true rfl)
  rw [lg_entry_eq]
  generalize (lg_sl ([.ref o]) ++ List.replicate (1 - (lg_sl ([.ref o])).length) Slot.unset).toArray = ls at hl ⊢
  have hl : lv_has ls 1 [(0, .ref o)] := hl
  refine lv_aload_n hx hb dX6_takeTreasure_0 rfl (lv_at hl 0 rfl) ?_
  refine g_7_1 (r := some is9) hx hb hts (by decide +kernel) hown hw hko (hts (.fieldLink RX6 18 "Pirateindex$Ship" "where" "LPirateindex$Isle;") (by decide +kernel)) hwh dX6_takeTreasure_1 ?_
  refine lv_iconst (v := 0) hx hb dX6_takeTreasure_4 (by decide) ?_
  refine p_3_4 hx hb hts (by decide +kernel) hown hw hki (hts (.fieldLink RX6 47 "Pirateindex$Isle" "treasureThere" "Z") (by decide +kernel)) (Or.inl rfl) dX6_takeTreasure_5 (fun H locs hw => ?_)
  refine lv_aload_n hx hb dX6_takeTreasure_8 rfl (lv_at hl 0 rfl) ?_
  refine lv_dup hx hb dX6_takeTreasure_9 rfl ?_
  refine g_7_2 hx hb hts (by decide +kernel) hown hw hko (hts (.fieldLink RX6 25 "Pirateindex$Ship" "purse" "I") (by decide +kernel)) dX6_takeTreasure_10 ?_
  rw [show (m_up2 I 34 is9 0 72 o) = I 72 o from by rw [m_up2_ni _ _ (by decide)]]
  refine lv_aload_n hx hb dX6_takeTreasure_13 rfl (lv_at hl 0 rfl) ?_
  refine g_7_1 (r := some is9) hx hb hts (by decide +kernel) hown hw hko (hts (.fieldLink RX6 18 "Pirateindex$Ship" "where" "LPirateindex$Isle;") (by decide +kernel)) hwh dX6_takeTreasure_14 ?_
  refine g_3_3 hx hb hts (by decide +kernel) hown hw hki (hts (.fieldLink RX6 52 "Pirateindex$Isle" "treasure" "I") (by decide +kernel)) dX6_takeTreasure_17 ?_
  rw [show (m_up2 I 34 is9 0 33 is9) = I 33 is9 from by rw [m_up2_ni _ _ (by decide)]]
  refine lv_iadd hx hb dX6_takeTreasure_20 ?_
  refine p_7_2 hx hb hts (by decide +kernel) hown hw hko (hts (.fieldLink RX6 25 "Pirateindex$Ship" "purse" "I") (by decide +kernel)) dX6_takeTreasure_21 (fun H locs hw => ?_)
  refine lv_aload_n hx hb dX6_takeTreasure_24 rfl (lv_at hl 0 rfl) ?_
  refine lv_iconst (v := 1) hx hb dX6_takeTreasure_25 (by decide) ?_
  refine p_7_4 hx hb hts (by decide +kernel) hown hw hko (hts (.fieldLink RX6 43 "Pirateindex$Ship" "dug" "Z") (by decide +kernel)) (Or.inr rfl) dX6_takeTreasure_26 (fun H locs hw => ?_)
  refine lv_aload_n hx hb dX6_takeTreasure_29 rfl (lv_at hl 0 rfl) ?_
  refine g_7_1 (r := some is9) hx hb hts (by decide +kernel) hown hw hko (hts (.fieldLink RX6 18 "Pirateindex$Ship" "where" "LPirateindex$Isle;") (by decide +kernel)) hwh dX6_takeTreasure_30 ?_
  refine g_3_3 hx hb hts (by decide +kernel) hown hw hki (hts (.fieldLink RX6 52 "Pirateindex$Isle" "treasure" "I") (by decide +kernel)) dX6_takeTreasure_33 ?_
  rw [show (m_up2 (m_up2 (m_up2 I 34 is9 0) 72 o ((I 72 o) + (I 33 is9))) 74 o 1 33 is9) = I 33 is9 from by rw [m_up2_ni _ _ (by decide), m_up2_ni _ _ (by decide), m_up2_ni _ _ (by decide)]]
  exact W.iret (v := (I 33 is9)) hx hb hr (fun t ht hW => ⟨⟨(I 33 is9), m_up2 (m_up2 (m_up2 I 34 is9 0) 72 o ((I 72 o) + (I 33 is9))) 74 o 1, rfl, ⟨rfl, rfl⟩, m_wo_out hw ht hW.alike⟩, m_wo_F hw ht⟩) (m_wo_L hw) dX6_takeTreasure_36
set_option maxHeartbeats 400000 in
set_option maxRecDepth 100000 in
theorem c_X6_goBack_d (l : Launch) {G : mG} {K : Nat → Nat} {I : Nat → Nat → Int32} {R : Nat → Nat → Option Nat} {F : Nat → UInt32} {A : Nat → Nat → Int32} {N : Nat → Nat} {L : Nat → List Nat} {T : Nat → List Int32} {J : Nat → Nat → Int64} {D : Nat → Nat → UInt64} {o is9 came ph : Nat} (hko : K o = 7) (hwh : R 71 o = some is9) (hki : K is9 = 3) (hcm : R 73 o = some came) (hph : R 70 o = some ph) (hkp : K ph = 4) (hdg : I 74 o = 1) : Met l yX6_goBack wsX6_goBack ({ frames := 2, cells := 0, slots := 0, locals := 60 } : Room) (va_Pc [.ref o] (m_B G K I R F A N L T J D)) (va_Qv (fun (u : (Nat → Nat → Int32) × (Nat → Nat → Option Nat)) => u.1 = m_up2 (m_up2 (m_up2 I 72 o (I 72 o - (if I 72 o < I 33 is9 then I 72 o else I 33 is9))) 34 is9 1) 42 ph 0 ∧ u.2 = m_up2 R 71 o (some came)) (fun u : (Nat → Nat → Int32) × (Nat → Nat → Option Nat) => m_B G K (u.1) (u.2) F A N L T J D) (m_A G)) 0 0 (m_A G) := by
  refine Met.ofW (cc := cX6_goBack) (maxL := 1) (ret := none) (by decide) rfl ?_
  intro p e s m args below meth c s₁ B hml hv
  obtain ⟨rfl, hB⟩ := hv
  have hx := B.exec
  have hb := B.bytes
  have hr := B.returns
  have hts := atoms_spec (ws := wsX6_goBack) B.pre
  have hown : s.vm.findClass RX6 = some m.cls := findClass_of_methodNamed B.named
  have hlocks := B.notSynchronized
  have hw := m_wo_in hB
  have hl := lv_entry ([.ref o]) (n := 1) (Nat.le_of_ble_eq_true rfl)
  rw [lg_entry_eq]
  generalize (lg_sl ([.ref o]) ++ List.replicate (1 - (lg_sl ([.ref o])).length) Slot.unset).toArray = ls at hl ⊢
  have hl : lv_has ls 1 [(0, .ref o)] := hl
  refine lv_aload_n hx hb dX6_goBack_0 rfl (lv_at hl 0 rfl) ?_
  refine g_7_4 hx hb hts (by decide +kernel) hown hw hko (hts (.fieldLink RX6 43 "Pirateindex$Ship" "dug" "Z") (by decide +kernel)) dX6_goBack_1 ?_
  rw [hdg]
  refine lv_if_eq (tgt := 26) hx hb dX6_goBack_4 (by decide) (fun c_4 => absurd c_4 (by decide)) (fun c_4 => ?_)
  refine lv_aload_n hx hb dX6_goBack_7 rfl (lv_at hl 0 rfl) ?_
  refine lv_aload_n hx hb dX6_goBack_8 rfl (lv_at hl 0 rfl) ?_
  refine g_7_1 (r := some is9) hx hb hts (by decide +kernel) hown hw hko (hts (.fieldLink RX6 18 "Pirateindex$Ship" "where" "LPirateindex$Isle;") (by decide +kernel)) hwh dX6_goBack_9 ?_
  refine g_3_3 hx hb hts (by decide +kernel) hown hw hki (hts (.fieldLink RX6 52 "Pirateindex$Isle" "treasure" "I") (by decide +kernel)) dX6_goBack_12 ?_
  refine m_cv (va_runV (As := [.int (I 33 is9)]) (rest := []) ⟨hx, hb, hml, hown, hts⟩ (c_X6_pay l hko) (cwV 1 hts gX6_goBack_X6_pay rfl rfl rfl (by decide +kernel) ⟨Nat.le_of_ble_eq_true rfl, Nat.le_of_ble_eq_true rfl⟩) ⟨m_blind m_B_calling, m_recv hw (m_ent_7 hko) rfl, fun U hU hW => ⟨rfl, m_wo_call hw hU hW⟩⟩ rfl rfl hl.1 rfl (lv_room (Nat.le_of_ble_eq_true rfl)) dX6_goBack_15 ⟨Nat.le_of_ble_eq_true rfl, Nat.le_of_ble_eq_true rfl⟩) hw (fun u_15 H locs hp_15 hw => ?_)
  have hw : m_wo G K u_15 R F A N L T J D s H locs := hw
  have eI1 : u_15 = m_up2 I 72 o (I 72 o - (if I 72 o < I 33 is9 then I 72 o else I 33 is9)) := hp_15
  refine lv_aload_n hx hb dX6_goBack_18 rfl (lv_at hl 0 rfl) ?_
  refine g_7_1 (r := some is9) hx hb hts (by decide +kernel) hown hw hko (hts (.fieldLink RX6 18 "Pirateindex$Ship" "where" "LPirateindex$Isle;") (by decide +kernel)) hwh dX6_goBack_19 ?_
  refine lv_iconst (v := 1) hx hb dX6_goBack_22 (by decide) ?_
  refine p_3_4 hx hb hts (by decide +kernel) hown hw hki (hts (.fieldLink RX6 47 "Pirateindex$Isle" "treasureThere" "Z") (by decide +kernel)) (Or.inr rfl) dX6_goBack_23 (fun H locs hw => ?_)
  refine lv_aload_n hx hb dX6_goBack_26 rfl (lv_at hl 0 rfl) ?_
  refine lv_aload_n hx hb dX6_goBack_27 rfl (lv_at hl 0 rfl) ?_
  refine g_7_3 (r := some came) hx hb hts (by decide +kernel) hown hw hko (hts (.fieldLink RX6 22 "Pirateindex$Ship" "cameFrom" "LPirateindex$Isle;") (by decide +kernel)) hcm dX6_goBack_28 ?_
  refine p_7_1 hx hb hts (by decide +kernel) hown hw hko (hts (.fieldLink RX6 18 "Pirateindex$Ship" "where" "LPirateindex$Isle;") (by decide +kernel)) (some came) dX6_goBack_31 (fun H locs hw => ?_)
  refine lv_aload_n hx hb dX6_goBack_34 rfl (lv_at hl 0 rfl) ?_
  refine g_7_0 (r := some ph) hx hb hts (by decide +kernel) hown hw hko (hts (.fieldLink RX6 12 "Pirateindex$Ship" "map" "LPirateindex$Phrase;") (by decide +kernel)) hph dX6_goBack_35 ?_
  refine m_cv (va_runV (As := []) (rest := []) ⟨hx, hb, hml, hown, hts⟩ (c_X3_clear l hkp) (cwV 0 hts gX6_goBack_X3_clear rfl rfl rfl (by decide +kernel) ⟨Nat.le_of_ble_eq_true rfl, Nat.le_of_ble_eq_true rfl⟩) ⟨m_blind m_B_calling, m_recv hw (m_ent_4 hkp) rfl, fun U hU hW => ⟨rfl, m_wo_call hw hU hW⟩⟩ rfl rfl hl.1 rfl (lv_room (Nat.le_of_ble_eq_true rfl)) dX6_goBack_38 ⟨Nat.le_of_ble_eq_true rfl, Nat.le_of_ble_eq_true rfl⟩) hw (fun u_38 H locs hp_38 hw => ?_)
  have hw : m_wo G K u_38 (m_up2 R 71 o (some came)) F A N L T J D s H locs := hw
  have eI2 := hp_38
  exact W.vret hx hb hr (fun t ht hW => ⟨⟨(u_38, m_up2 R 71 o (some came)), rfl, ⟨by rw [eI2, eI1], rfl⟩, m_wo_out hw ht hW.alike⟩, m_wo_F hw ht⟩) (m_wo_L hw) dX6_goBack_41
set_option maxHeartbeats 400000 in
set_option maxRecDepth 100000 in
theorem c_X6_goBack_n (l : Launch) {G : mG} {K : Nat → Nat} {I : Nat → Nat → Int32} {R : Nat → Nat → Option Nat} {F : Nat → UInt32} {A : Nat → Nat → Int32} {N : Nat → Nat} {L : Nat → List Nat} {T : Nat → List Int32} {J : Nat → Nat → Int64} {D : Nat → Nat → UInt64} {o is9 came ph : Nat} (hko : K o = 7) (hwh : R 71 o = some is9) (hki : K is9 = 3) (hcm : R 73 o = some came) (hph : R 70 o = some ph) (hkp : K ph = 4) (hdg : I 74 o = 0) : Met l yX6_goBack wsX6_goBack ({ frames := 2, cells := 0, slots := 0, locals := 60 } : Room) (va_Pc [.ref o] (m_B G K I R F A N L T J D)) (va_Qv (fun (u : (Nat → Nat → Int32) × (Nat → Nat → Option Nat)) => u.1 = m_up2 I 42 ph 0 ∧ u.2 = m_up2 R 71 o (some came)) (fun u : (Nat → Nat → Int32) × (Nat → Nat → Option Nat) => m_B G K (u.1) (u.2) F A N L T J D) (m_A G)) 0 0 (m_A G) := by
  refine Met.ofW (cc := cX6_goBack) (maxL := 1) (ret := none) (by decide) rfl ?_
  intro p e s m args below meth c s₁ B hml hv
  obtain ⟨rfl, hB⟩ := hv
  have hx := B.exec
  have hb := B.bytes
  have hr := B.returns
  have hts := atoms_spec (ws := wsX6_goBack) B.pre
  have hown : s.vm.findClass RX6 = some m.cls := findClass_of_methodNamed B.named
  have hlocks := B.notSynchronized
  have hw := m_wo_in hB
  have hl := lv_entry ([.ref o]) (n := 1) (Nat.le_of_ble_eq_true rfl)
  rw [lg_entry_eq]
  generalize (lg_sl ([.ref o]) ++ List.replicate (1 - (lg_sl ([.ref o])).length) Slot.unset).toArray = ls at hl ⊢
  have hl : lv_has ls 1 [(0, .ref o)] := hl
  refine lv_aload_n hx hb dX6_goBack_0 rfl (lv_at hl 0 rfl) ?_
  refine g_7_4 hx hb hts (by decide +kernel) hown hw hko (hts (.fieldLink RX6 43 "Pirateindex$Ship" "dug" "Z") (by decide +kernel)) dX6_goBack_1 ?_
  rw [hdg]
  refine lv_if_eq (tgt := 26) hx hb dX6_goBack_4 (by decide) (fun c_4 => ?_) (fun c_4 => absurd (by decide) c_4)
  refine lv_aload_n hx hb dX6_goBack_26 rfl (lv_at hl 0 rfl) ?_
  refine lv_aload_n hx hb dX6_goBack_27 rfl (lv_at hl 0 rfl) ?_
  refine g_7_3 (r := some came) hx hb hts (by decide +kernel) hown hw hko (hts (.fieldLink RX6 22 "Pirateindex$Ship" "cameFrom" "LPirateindex$Isle;") (by decide +kernel)) hcm dX6_goBack_28 ?_
  refine p_7_1 hx hb hts (by decide +kernel) hown hw hko (hts (.fieldLink RX6 18 "Pirateindex$Ship" "where" "LPirateindex$Isle;") (by decide +kernel)) (some came) dX6_goBack_31 (fun H locs hw => ?_)
  refine lv_aload_n hx hb dX6_goBack_34 rfl (lv_at hl 0 rfl) ?_
  refine g_7_0 (r := some ph) hx hb hts (by decide +kernel) hown hw hko (hts (.fieldLink RX6 12 "Pirateindex$Ship" "map" "LPirateindex$Phrase;") (by decide +kernel)) hph dX6_goBack_35 ?_
  refine m_cv (va_runV (As := []) (rest := []) ⟨hx, hb, hml, hown, hts⟩ (c_X3_clear l hkp) (cwV 0 hts gX6_goBack_X3_clear rfl rfl rfl (by decide +kernel) ⟨Nat.le_of_ble_eq_true rfl, Nat.le_of_ble_eq_true rfl⟩) ⟨m_blind m_B_calling, m_recv hw (m_ent_4 hkp) rfl, fun U hU hW => ⟨rfl, m_wo_call hw hU hW⟩⟩ rfl rfl hl.1 rfl (lv_room (Nat.le_of_ble_eq_true rfl)) dX6_goBack_38 ⟨Nat.le_of_ble_eq_true rfl, Nat.le_of_ble_eq_true rfl⟩) hw (fun u_38 H locs hp_38 hw => ?_)
  have hw : m_wo G K u_38 (m_up2 R 71 o (some came)) F A N L T J D s H locs := hw
  have eI2 := hp_38
  exact W.vret hx hb hr (fun t ht hW => ⟨⟨(u_38, m_up2 R 71 o (some came)), rfl, ⟨eI2, rfl⟩, m_wo_out hw ht hW.alike⟩, m_wo_F hw ht⟩) (m_wo_L hw) dX6_goBack_41
