theorem m_up_k {K : Nat → Nat} {q k b j : Nat} (hq : K q = 0) (hb : K b = j) (hj : j ≠ 0) : m_up K q k b = j := (m_up_ne _ _ (fun z => by rw [z, hq] at hb; exact hj hb.symm)).trans hb
theorem m_up_nq {K : Nat → Nat} {q b j : Nat} (hq : K q = 0) (hb : K b = j) (hj : j ≠ 0) : b ≠ q := fun z => by rw [z, hq] at hb; exact hj hb.symm
theorem m_hid_k {o b j : Nat} {K : Nat → Nat} {I : Nat → Nat → Int32} {R : Nat → Nat → Option Nat} {N : Nat → Nat} {K' : Nat → Nat} {I' : Nat → Nat → Int32} {R' : Nat → Nat → Option Nat} {N' : Nat → Nat} (h : m_hid o K I R N K' I' R' N') (hb : K b = j) (h0 : j ≠ 0) (h4 : j ≠ 40) : K' b = j := (h.1 b (by rw [hb]; exact h0) (by rw [hb]; exact h4)).trans hb
set_option maxHeartbeats 400000 in
set_option maxRecDepth 100000 in
theorem c_X0_init (l : Launch) {G : mG} {K : Nat → Nat} {I : Nat → Nat → Int32} {R : Nat → Nat → Option Nat} {F : Nat → UInt32} {A : Nat → Nat → Int32} {N : Nat → Nat} {L : Nat → List Nat} {T : Nat → List Int32} {J : Nat → Nat → Int64} {D : Nat → Nat → UInt64} {o : Nat} {rv : Nat} {i1 i2 i3 i4 : Int32} (hko : K o = 1) : Met l yX0_init wsX0_init ({ frames := 1, cells := 0, slots := 0, locals := 30 } : Room) (va_Pc [.ref o, .int i1, .int i2, .int i3, .int i4, .ref rv] (m_B G K I R F A N L T J D)) (va_Qv (fun (u : (Nat → Nat → Int32) × (Nat → Nat → Option Nat)) => u.1 = m_up2 (m_up2 (m_up2 (m_up2 I 10 o i1) 11 o i2) 12 o i3) 13 o i4 ∧ u.2 = m_up2 R 14 o (some rv)) (fun u : (Nat → Nat → Int32) × (Nat → Nat → Option Nat) => m_B G K (u.1) (u.2) F A N L T J D) (m_A G)) 0 0 (m_A G) := by
  refine Met.ofW (cc := cX0_init) (maxL := 6) (ret := none) (by decide) rfl ?_
  intro p e s m args below meth c s₁ B hml hv
  obtain ⟨rfl, hB⟩ := hv
  have hx := B.exec
  have hb := B.bytes
  have hr := B.returns
  have hts := atoms_spec (ws := wsX0_init) B.pre
  have hown : s.vm.findClass RX0 = some m.cls := findClass_of_methodNamed B.named
  have hlocks := B.notSynchronized
  have hin2 : meth.name = "<init>" := (name_of_methodNamed B.named B.method).1
  have hw := m_wo_in hB
  have hl := lv_entry ([.ref o, .int i1, .int i2, .int i3, .int i4, .ref rv]) (n := 6) (Nat.le_of_ble_eq_true rfl)
  rw [lg_entry_eq]
  generalize (lg_sl ([.ref o, .int i1, .int i2, .int i3, .int i4, .ref rv]) ++ List.replicate (6 - (lg_sl ([.ref o, .int i1, .int i2, .int i3, .int i4, .ref rv])).length) Slot.unset).toArray = ls at hl ⊢
  have hl : lv_has ls 6 [(0, .ref o), (1, .int i1), (2, .int i2), (3, .int i3), (4, .int i4), (5, .ref rv)] := hl
  refine lv_aload_n hx hb dX0_init_0 rfl (lv_at hl 0 rfl) ?_
  refine W.objInit hx hb hown (hts (.methodLink RX0 1 objectInit) (by decide +kernel)) (hts (.instanceMethod objectInit) (by decide +kernel)) (hts (.code objectInit ⟨#[0xb1]⟩ 1 none) (by decide +kernel)) rfl (by rw [hml]; exact hl.1) rfl dX0_init_1 (Nat.le_of_ble_eq_true rfl) (Nat.le_of_ble_eq_true rfl) ?_
  refine W.eq (g2 := F0 m 4 ls []) rfl ?_
  refine lv_aload_n hx hb dX0_init_4 rfl (lv_at hl 0 rfl) ?_
  refine lv_iload_n hx hb dX0_init_5 rfl (lv_at hl 1 rfl) ?_
  refine p_1_0 hx hb hts (by decide +kernel) hown hw hko (hts (.fieldLink RX0 7 "Pirateindex$Find" "number" "I") (by decide +kernel)) hin2 dX0_init_6 (fun H locs hw => ?_)
  refine lv_aload_n hx hb dX0_init_9 rfl (lv_at hl 0 rfl) ?_
  refine lv_iload_n hx hb dX0_init_10 rfl (lv_at hl 2 rfl) ?_
  refine p_1_1 hx hb hts (by decide +kernel) hown hw hko (hts (.fieldLink RX0 13 "Pirateindex$Find" "word" "I") (by decide +kernel)) hin2 dX0_init_11 (fun H locs hw => ?_)
  refine lv_aload_n hx hb dX0_init_14 rfl (lv_at hl 0 rfl) ?_
  refine lv_iload_n hx hb dX0_init_15 rfl (lv_at hl 3 rfl) ?_
  refine p_1_2 hx hb hts (by decide +kernel) hown hw hko (hts (.fieldLink RX0 16 "Pirateindex$Find" "island" "I") (by decide +kernel)) hin2 dX0_init_16 (fun H locs hw => ?_)
  refine lv_aload_n hx hb dX0_init_19 rfl (lv_at hl 0 rfl) ?_
  refine lv_iload hx hb dX0_init_20 (lv_at hl 4 rfl) ?_
  refine p_1_3 hx hb hts (by decide +kernel) hown hw hko (hts (.fieldLink RX0 19 "Pirateindex$Find" "place" "I") (by decide +kernel)) hin2 dX0_init_22 (fun H locs hw => ?_)
  refine lv_aload_n hx hb dX0_init_25 rfl (lv_at hl 0 rfl) ?_
  refine lv_aload hx hb dX0_init_26 (lv_at hl 5 rfl) ?_
  refine p_1_4 hx hb hts (by decide +kernel) hown hw hko (hts (.fieldLink RX0 22 "Pirateindex$Find" "rival" "LPirateindex$Ship;") (by decide +kernel)) hin2 (some rv) dX0_init_28 (fun H locs hw => ?_)
  exact W.vret hx hb hr (fun t ht hW => ⟨⟨(m_up2 (m_up2 (m_up2 (m_up2 I 10 o i1) 11 o i2) 12 o i3) 13 o i4, m_up2 R 14 o (some rv)), rfl, ⟨rfl, rfl⟩, m_wo_out hw ht hW.alike⟩, m_wo_F hw ht⟩) (m_wo_L hw) dX0_init_31
set_option maxHeartbeats 400000 in
set_option maxRecDepth 100000 in
theorem c_X0_init_n (l : Launch) {G : mG} {K : Nat → Nat} {I : Nat → Nat → Int32} {R : Nat → Nat → Option Nat} {F : Nat → UInt32} {A : Nat → Nat → Int32} {N : Nat → Nat} {L : Nat → List Nat} {T : Nat → List Int32} {J : Nat → Nat → Int64} {D : Nat → Nat → UInt64} {o : Nat} {i1 i2 i3 i4 : Int32} (hko : K o = 1) : Met l yX0_init wsX0_init ({ frames := 1, cells := 0, slots := 0, locals := 30 } : Room) (va_Pc [.ref o, .int i1, .int i2, .int i3, .int i4, .null] (m_B G K I R F A N L T J D)) (va_Qv (fun (u : (Nat → Nat → Int32) × (Nat → Nat → Option Nat)) => u.1 = m_up2 (m_up2 (m_up2 (m_up2 I 10 o i1) 11 o i2) 12 o i3) 13 o i4 ∧ u.2 = m_up2 R 14 o none) (fun u : (Nat → Nat → Int32) × (Nat → Nat → Option Nat) => m_B G K (u.1) (u.2) F A N L T J D) (m_A G)) 0 0 (m_A G) := by
  refine Met.ofW (cc := cX0_init) (maxL := 6) (ret := none) (by decide) rfl ?_
  intro p e s m args below meth c s₁ B hml hv
  obtain ⟨rfl, hB⟩ := hv
  have hx := B.exec
  have hb := B.bytes
  have hr := B.returns
  have hts := atoms_spec (ws := wsX0_init) B.pre
  have hown : s.vm.findClass RX0 = some m.cls := findClass_of_methodNamed B.named
  have hlocks := B.notSynchronized
  have hin2 : meth.name = "<init>" := (name_of_methodNamed B.named B.method).1
  have hw := m_wo_in hB
  have hl := lv_entry ([.ref o, .int i1, .int i2, .int i3, .int i4, .null]) (n := 6) (Nat.le_of_ble_eq_true rfl)
  rw [lg_entry_eq]
  generalize (lg_sl ([.ref o, .int i1, .int i2, .int i3, .int i4, .null]) ++ List.replicate (6 - (lg_sl ([.ref o, .int i1, .int i2, .int i3, .int i4, .null])).length) Slot.unset).toArray = ls at hl ⊢
  have hl : lv_has ls 6 [(0, .ref o), (1, .int i1), (2, .int i2), (3, .int i3), (4, .int i4), (5, .null)] := hl
  refine lv_aload_n hx hb dX0_init_0 rfl (lv_at hl 0 rfl) ?_
  refine W.objInit hx hb hown (hts (.methodLink RX0 1 objectInit) (by decide +kernel)) (hts (.instanceMethod objectInit) (by decide +kernel)) (hts (.code objectInit ⟨#[0xb1]⟩ 1 none) (by decide +kernel)) rfl (by rw [hml]; exact hl.1) rfl dX0_init_1 (Nat.le_of_ble_eq_true rfl) (Nat.le_of_ble_eq_true rfl) ?_
  refine W.eq (g2 := F0 m 4 ls []) rfl ?_
  refine lv_aload_n hx hb dX0_init_4 rfl (lv_at hl 0 rfl) ?_
  refine lv_iload_n hx hb dX0_init_5 rfl (lv_at hl 1 rfl) ?_
  refine p_1_0 hx hb hts (by decide +kernel) hown hw hko (hts (.fieldLink RX0 7 "Pirateindex$Find" "number" "I") (by decide +kernel)) hin2 dX0_init_6 (fun H locs hw => ?_)
  refine lv_aload_n hx hb dX0_init_9 rfl (lv_at hl 0 rfl) ?_
  refine lv_iload_n hx hb dX0_init_10 rfl (lv_at hl 2 rfl) ?_
  refine p_1_1 hx hb hts (by decide +kernel) hown hw hko (hts (.fieldLink RX0 13 "Pirateindex$Find" "word" "I") (by decide +kernel)) hin2 dX0_init_11 (fun H locs hw => ?_)
  refine lv_aload_n hx hb dX0_init_14 rfl (lv_at hl 0 rfl) ?_
  refine lv_iload_n hx hb dX0_init_15 rfl (lv_at hl 3 rfl) ?_
  refine p_1_2 hx hb hts (by decide +kernel) hown hw hko (hts (.fieldLink RX0 16 "Pirateindex$Find" "island" "I") (by decide +kernel)) hin2 dX0_init_16 (fun H locs hw => ?_)
  refine lv_aload_n hx hb dX0_init_19 rfl (lv_at hl 0 rfl) ?_
  refine lv_iload hx hb dX0_init_20 (lv_at hl 4 rfl) ?_
  refine p_1_3 hx hb hts (by decide +kernel) hown hw hko (hts (.fieldLink RX0 19 "Pirateindex$Find" "place" "I") (by decide +kernel)) hin2 dX0_init_22 (fun H locs hw => ?_)
  refine lv_aload_n hx hb dX0_init_25 rfl (lv_at hl 0 rfl) ?_
  refine lv_aloadN hx hb dX0_init_26 (lv_at hl 5 rfl) ?_
  refine p_1_4 hx hb hts (by decide +kernel) hown hw hko (hts (.fieldLink RX0 22 "Pirateindex$Find" "rival" "LPirateindex$Ship;") (by decide +kernel)) hin2 none dX0_init_28 (fun H locs hw => ?_)
  exact W.vret hx hb hr (fun t ht hW => ⟨⟨(m_up2 (m_up2 (m_up2 (m_up2 I 10 o i1) 11 o i2) 12 o i3) 13 o i4, m_up2 R 14 o none), rfl, ⟨rfl, rfl⟩, m_wo_out hw ht hW.alike⟩, m_wo_F hw ht⟩) (m_wo_L hw) dX0_init_31
set_option maxHeartbeats 400000 in
set_option maxRecDepth 100000 in
theorem c_X2_init (l : Launch) {G : mG} {K : Nat → Nat} {I : Nat → Nat → Int32} {R : Nat → Nat → Option Nat} {F : Nat → UInt32} {A : Nat → Nat → Int32} {N : Nat → Nat} {L : Nat → List Nat} {T : Nat → List Int32} {J : Nat → Nat → Int64} {D : Nat → Nat → UInt64} {o : Nat} {i1 i2 i3 i4 : Int32} (hko : K o = 3) : Met l yX2_init wsX2_init ({ frames := 1, cells := 0, slots := 0, locals := 30 } : Room) (va_Pc [.ref o, .int i1, .int i2, .int i3, .int i4] (m_B G K I R F A N L T J D)) (va_Qv (fun (u : Nat → Nat → Int32) => u = m_up2 (m_up2 (m_up2 (m_up2 (m_up2 I 30 o i1) 31 o i2) 32 o i3) 33 o i4) 34 o 1) (fun u : Nat → Nat → Int32 => m_B G K u R F A N L T J D) (m_A G)) 0 0 (m_A G) := by
  refine Met.ofW (cc := cX2_init) (maxL := 5) (ret := none) (by decide) rfl ?_
  intro p e s m args below meth c s₁ B hml hv
  obtain ⟨rfl, hB⟩ := hv
  have hx := B.exec
  have hb := B.bytes
  have hr := B.returns
  have hts := atoms_spec (ws := wsX2_init) B.pre
  have hown : s.vm.findClass RX2 = some m.cls := findClass_of_methodNamed B.named
  have hlocks := B.notSynchronized
  have hin2 : meth.name = "<init>" := (name_of_methodNamed B.named B.method).1
  have hw := m_wo_in hB
  have hl := lv_entry ([.ref o, .int i1, .int i2, .int i3, .int i4]) (n := 5) (Nat.le_of_ble_eq_true rfl)
  rw [lg_entry_eq]
  generalize (lg_sl ([.ref o, .int i1, .int i2, .int i3, .int i4]) ++ List.replicate (5 - (lg_sl ([.ref o, .int i1, .int i2, .int i3, .int i4])).length) Slot.unset).toArray = ls at hl ⊢
  have hl : lv_has ls 5 [(0, .ref o), (1, .int i1), (2, .int i2), (3, .int i3), (4, .int i4)] := hl
  refine lv_aload_n hx hb dX2_init_0 rfl (lv_at hl 0 rfl) ?_
  refine W.objInit hx hb hown (hts (.methodLink RX2 1 objectInit) (by decide +kernel)) (hts (.instanceMethod objectInit) (by decide +kernel)) (hts (.code objectInit ⟨#[0xb1]⟩ 1 none) (by decide +kernel)) rfl (by rw [hml]; exact hl.1) rfl dX2_init_1 (Nat.le_of_ble_eq_true rfl) (Nat.le_of_ble_eq_true rfl) ?_
  refine W.eq (g2 := F0 m 4 ls []) rfl ?_
  refine lv_aload_n hx hb dX2_init_4 rfl (lv_at hl 0 rfl) ?_
  refine lv_iload_n hx hb dX2_init_5 rfl (lv_at hl 1 rfl) ?_
  refine p_3_0 hx hb hts (by decide +kernel) hown hw hko (hts (.fieldLink RX2 7 "Pirateindex$Isle" "number" "I") (by decide +kernel)) hin2 dX2_init_6 (fun H locs hw => ?_)
  refine lv_aload_n hx hb dX2_init_9 rfl (lv_at hl 0 rfl) ?_
  refine lv_iload_n hx hb dX2_init_10 rfl (lv_at hl 2 rfl) ?_
  refine p_3_1 hx hb hts (by decide +kernel) hown hw hko (hts (.fieldLink RX2 13 "Pirateindex$Isle" "x" "I") (by decide +kernel)) hin2 dX2_init_11 (fun H locs hw => ?_)
  refine lv_aload_n hx hb dX2_init_14 rfl (lv_at hl 0 rfl) ?_
  refine lv_iload_n hx hb dX2_init_15 rfl (lv_at hl 3 rfl) ?_
  refine p_3_2 hx hb hts (by decide +kernel) hown hw hko (hts (.fieldLink RX2 16 "Pirateindex$Isle" "y" "I") (by decide +kernel)) hin2 dX2_init_16 (fun H locs hw => ?_)
  refine lv_aload_n hx hb dX2_init_19 rfl (lv_at hl 0 rfl) ?_
  refine lv_iload hx hb dX2_init_20 (lv_at hl 4 rfl) ?_
  refine p_3_3 hx hb hts (by decide +kernel) hown hw hko (hts (.fieldLink RX2 19 "Pirateindex$Isle" "treasure" "I") (by decide +kernel)) hin2 dX2_init_22 (fun H locs hw => ?_)
  refine lv_aload_n hx hb dX2_init_25 rfl (lv_at hl 0 rfl) ?_
  refine lv_iconst (v := 1) hx hb dX2_init_26 (by decide) ?_
  refine p_3_4 hx hb hts (by decide +kernel) hown hw hko (hts (.fieldLink RX2 22 "Pirateindex$Isle" "treasureThere" "Z") (by decide +kernel)) (Or.inr rfl) dX2_init_27 (fun H locs hw => ?_)
  exact W.vret hx hb hr (fun t ht hW => ⟨⟨m_up2 (m_up2 (m_up2 (m_up2 (m_up2 I 30 o i1) 31 o i2) 32 o i3) 33 o i4) 34 o 1, rfl, rfl, m_wo_out hw ht hW.alike⟩, m_wo_F hw ht⟩) (m_wo_L hw) dX2_init_30
set_option maxHeartbeats 400000 in
set_option maxRecDepth 100000 in
theorem c_X3_init (l : Launch) {G : mG} {K : Nat → Nat} {I : Nat → Nat → Int32} {R : Nat → Nat → Option Nat} {F : Nat → UInt32} {A : Nat → Nat → Int32} {N : Nat → Nat} {L : Nat → List Nat} {T : Nat → List Int32} {J : Nat → Nat → Int64} {D : Nat → Nat → UInt64} {o : Nat} (hko : K o = 4) : Met l yX3_init wsX3_init ({ frames := 1, cells := 2, slots := 8, locals := 30 } : Room) (va_Pc [.ref o] (m_B G K I R F A N L T J D)) (va_Qv (fun (u : (Nat → Nat) × (Nat → Nat → Option Nat) × (Nat → Nat)) => ∃ q1 q2, K q1 = 0 ∧ m_up K q1 21 q2 = 0 ∧ u.1 = m_up (m_up K q1 21) q2 22 ∧ u.2.1 = m_up2 (m_up2 R 40 o (some q1)) 41 o (some q2) ∧ u.2.2 = m_up (m_up N q1 4) q2 4) (fun u : (Nat → Nat) × (Nat → Nat → Option Nat) × (Nat → Nat) => m_B G (u.1) I (u.2.1) F A (u.2.2) L T J D) (m_A G)) 2 8 (m_A G) := by
  refine Met.ofW (cc := cX3_init) (maxL := 1) (ret := none) (by decide) rfl ?_
  intro p e s m args below meth c s₁ B hml hv
  obtain ⟨rfl, hB⟩ := hv
  have hx := B.exec
  have hb := B.bytes
  have hr := B.returns
  have hts := atoms_spec (ws := wsX3_init) B.pre
  have hown : s.vm.findClass RX3 = some m.cls := findClass_of_methodNamed B.named
  have hlocks := B.notSynchronized
  have hin2 : meth.name = "<init>" := (name_of_methodNamed B.named B.method).1
  have hw := m_wo_in hB
  have hl := lv_entry ([.ref o]) (n := 1) (Nat.le_of_ble_eq_true rfl)
  rw [lg_entry_eq]
  generalize (lg_sl ([.ref o]) ++ List.replicate (1 - (lg_sl ([.ref o])).length) Slot.unset).toArray = ls at hl ⊢
  have hl : lv_has ls 1 [(0, .ref o)] := hl
  refine lv_aload_n hx hb dX3_init_0 rfl (lv_at hl 0 rfl) ?_
  refine W.objInit hx hb hown (hts (.methodLink RX3 3 objectInit) (by decide +kernel)) (hts (.instanceMethod objectInit) (by decide +kernel)) (hts (.code objectInit ⟨#[0xb1]⟩ 1 none) (by decide +kernel)) rfl (by rw [hml]; exact hl.1) rfl dX3_init_1 (Nat.le_of_ble_eq_true rfl) (Nat.le_of_ble_eq_true rfl) ?_
  refine W.eq (g2 := F0 m 4 ls []) rfl ?_
  refine lv_aload_n hx hb dX3_init_4 rfl (lv_at hl 0 rfl) ?_
  refine lv_iconst (v := 4) hx hb dX3_init_5 (by decide) ?_
  refine m_newa_21 hx hb (hts (.arrayClass .int) (by decide +kernel)) hw (n := 4) (N' := 4) (by decide) (by decide) (by decide) (Nat.le_of_ble_eq_true rfl) (Nat.le_of_ble_eq_true rfl) dX3_init_6 (fun q_6 H hz_6 hd_6 hw => ?_)
  have hk_6 : m_up K q_6 21 q_6 = 21 := m_up_self _ _ _
  have hko := m_up_k (k := 21) hz_6 hko (by decide)
  refine p_4_0 hx hb hts (by decide +kernel) hown hw hko (hts (.fieldLink RX3 9 "Pirateindex$Phrase" "words" "[I") (by decide +kernel)) hin2 (some q_6) dX3_init_8 (fun H locs hw => ?_)
  refine lv_aload_n hx hb dX3_init_11 rfl (lv_at hl 0 rfl) ?_
  refine lv_iconst (v := 4) hx hb dX3_init_12 (by decide) ?_
  refine m_newa_22 hx hb (hts (.arrayClass .int) (by decide +kernel)) hw (n := 4) (N' := 4) (by decide) (by decide) (by decide) (Nat.le_of_ble_eq_true rfl) (Nat.le_of_ble_eq_true rfl) dX3_init_13 (fun q_13 H hz_13 hd_13 hw => ?_)
  have hk_13 : m_up (m_up K q_6 21) q_13 22 q_13 = 22 := m_up_self _ _ _
  have hko := m_up_k (k := 22) hz_13 hko (by decide)
  have hk_6 := m_up_k (k := 22) hz_13 hk_6 (by decide)
  refine p_4_1 hx hb hts (by decide +kernel) hown hw hko (hts (.fieldLink RX3 15 "Pirateindex$Phrase" "distances" "[I") (by decide +kernel)) hin2 (some q_13) dX3_init_15 (fun H locs hw => ?_)
  exact W.vret hx hb hr (fun t ht hW => ⟨⟨(m_up (m_up K q_6 21) q_13 22, m_up2 (m_up2 R 40 o (some q_6)) 41 o (some q_13), m_up (m_up N q_6 4) q_13 4), rfl, ⟨q_6, q_13, hz_6, hz_13, rfl, rfl, rfl⟩, m_wo_out hw ht hW.alike⟩, m_wo_F hw ht⟩) (m_wo_L hw) dX3_init_18
set_option maxHeartbeats 400000 in
set_option maxRecDepth 100000 in
theorem c_X7_init (l : Launch) {G : mG} {K : Nat → Nat} {I : Nat → Nat → Int32} {R : Nat → Nat → Option Nat} {F : Nat → UInt32} {A : Nat → Nat → Int32} {N : Nat → Nat} {L : Nat → List Nat} {T : Nat → List Int32} {J : Nat → Nat → Int64} {D : Nat → Nat → UInt64} {o : Nat} (hko : K o = 8) : Met l yX7_init wsX7_init ({ frames := 1, cells := 2, slots := 82, locals := 30 } : Room) (va_Pc [.ref o] (m_B G K I R F A N L T J D)) (va_Qv (fun (u : (Nat → Nat) × (Nat → Nat → Option Nat) × (Nat → Nat)) => ∃ q1 q2, K q1 = 0 ∧ m_up K q1 23 q2 = 0 ∧ u.1 = m_up (m_up K q1 23) q2 24 ∧ u.2.1 = m_up2 (m_up2 R 80 o (some q1)) 81 o (some q2) ∧ u.2.2 = m_up (m_up N q1 41) q2 41) (fun u : (Nat → Nat) × (Nat → Nat → Option Nat) × (Nat → Nat) => m_B G (u.1) I (u.2.1) F A (u.2.2) L T J D) (m_A G)) 2 82 (m_A G) := by
  refine Met.ofW (cc := cX7_init) (maxL := 1) (ret := none) (by decide) rfl ?_
  intro p e s m args below meth c s₁ B hml hv
  obtain ⟨rfl, hB⟩ := hv
  have hx := B.exec
  have hb := B.bytes
  have hr := B.returns
  have hts := atoms_spec (ws := wsX7_init) B.pre
  have hown : s.vm.findClass RX7 = some m.cls := findClass_of_methodNamed B.named
  have hlocks := B.notSynchronized
  have hin2 : meth.name = "<init>" := (name_of_methodNamed B.named B.method).1
  have hw := m_wo_in hB
  have hl := lv_entry ([.ref o]) (n := 1) (Nat.le_of_ble_eq_true rfl)
  rw [lg_entry_eq]
  generalize (lg_sl ([.ref o]) ++ List.replicate (1 - (lg_sl ([.ref o])).length) Slot.unset).toArray = ls at hl ⊢
  have hl : lv_has ls 1 [(0, .ref o)] := hl
  refine lv_aload_n hx hb dX7_init_0 rfl (lv_at hl 0 rfl) ?_
  refine W.objInit hx hb hown (hts (.methodLink RX7 3 objectInit) (by decide +kernel)) (hts (.instanceMethod objectInit) (by decide +kernel)) (hts (.code objectInit ⟨#[0xb1]⟩ 1 none) (by decide +kernel)) rfl (by rw [hml]; exact hl.1) rfl dX7_init_1 (Nat.le_of_ble_eq_true rfl) (Nat.le_of_ble_eq_true rfl) ?_
  refine W.eq (g2 := F0 m 4 ls []) rfl ?_
  refine lv_aload_n hx hb dX7_init_4 rfl (lv_at hl 0 rfl) ?_
  refine lv_bipush (v := 41) hx hb dX7_init_5 (by decide) ?_
  refine m_newa_23 hx hb (hts (.arrayClass .int) (by decide +kernel)) hw (n := 41) (N' := 41) (by decide) (by decide) (by decide) (Nat.le_of_ble_eq_true rfl) (Nat.le_of_ble_eq_true rfl) dX7_init_7 (fun q_7 H hz_7 hd_7 hw => ?_)
  have hk_7 : m_up K q_7 23 q_7 = 23 := m_up_self _ _ _
  have hko := m_up_k (k := 23) hz_7 hko (by decide)
  refine p_8_0 hx hb hts (by decide +kernel) hown hw hko (hts (.fieldLink RX7 9 "Pirateindex$Tally" "here" "[I") (by decide +kernel)) hin2 (some q_7) dX7_init_9 (fun H locs hw => ?_)
  refine lv_aload_n hx hb dX7_init_12 rfl (lv_at hl 0 rfl) ?_
  refine lv_bipush (v := 41) hx hb dX7_init_13 (by decide) ?_
  refine m_newa_24 hx hb (hts (.arrayClass .int) (by decide +kernel)) hw (n := 41) (N' := 41) (by decide) (by decide) (by decide) (Nat.le_of_ble_eq_true rfl) (Nat.le_of_ble_eq_true rfl) dX7_init_15 (fun q_15 H hz_15 hd_15 hw => ?_)
  have hk_15 : m_up (m_up K q_7 23) q_15 24 q_15 = 24 := m_up_self _ _ _
  have hko := m_up_k (k := 24) hz_15 hko (by decide)
  have hk_7 := m_up_k (k := 24) hz_15 hk_7 (by decide)
  refine p_8_1 hx hb hts (by decide +kernel) hown hw hko (hts (.fieldLink RX7 15 "Pirateindex$Tally" "ends" "[I") (by decide +kernel)) hin2 (some q_15) dX7_init_17 (fun H locs hw => ?_)
  exact W.vret hx hb hr (fun t ht hW => ⟨⟨(m_up (m_up K q_7 23) q_15 24, m_up2 (m_up2 R 80 o (some q_7)) 81 o (some q_15), m_up (m_up N q_7 41) q_15 41), rfl, ⟨q_7, q_15, hz_7, hz_15, rfl, rfl, rfl⟩, m_wo_out hw ht hW.alike⟩, m_wo_F hw ht⟩) (m_wo_L hw) dX7_init_20
set_option maxHeartbeats 400000 in
set_option maxRecDepth 100000 in
theorem c_X1_init (l : Launch) {G : mG} {K : Nat → Nat} {I : Nat → Nat → Int32} {R : Nat → Nat → Option Nat} {F : Nat → UInt32} {A : Nat → Nat → Int32} {N : Nat → Nat} {L : Nat → List Nat} {T : Nat → List Int32} {J : Nat → Nat → Int64} {D : Nat → Nat → UInt64} {o : Nat} (hko : K o = 2) : Met l yX1_init wsX1_init ({ frames := 4, cells := 1, slots := 3, locals := 110 } : Room) (va_Pc [.ref o] (m_B G K I R F A N L T J D)) (va_Qv (fun (u : (Nat → Nat) × (Nat → Nat → Int32) × (Nat → Nat → Option Nat)) => ∃ q, L q = [] ∧ K q = 0 ∧ u.1 = m_up K q 11 ∧ u.2.1 = m_up2 I 110 q 0 ∧ u.2.2 = m_up2 (m_up2 R 111 q (some G.2.2.2)) 20 o (some q)) (fun u : (Nat → Nat) × (Nat → Nat → Int32) × (Nat → Nat → Option Nat) => m_B G (u.1) (u.2.1) (u.2.2) F A N L T J D) (m_A G)) 1 3 (m_A G) := by
  refine Met.ofW (cc := cX1_init) (maxL := 1) (ret := none) (by decide) rfl ?_
  intro p e s m args below meth c s₁ B hml hv
  obtain ⟨rfl, hB⟩ := hv
  have hx := B.exec
  have hb := B.bytes
  have hr := B.returns
  have hts := atoms_spec (ws := wsX1_init) B.pre
  have hown : s.vm.findClass RX1 = some m.cls := findClass_of_methodNamed B.named
  have hlocks := B.notSynchronized
  have hin2 : meth.name = "<init>" := (name_of_methodNamed B.named B.method).1
  have hw := m_wo_in hB
  have hl := lv_entry ([.ref o]) (n := 1) (Nat.le_of_ble_eq_true rfl)
  rw [lg_entry_eq]
  generalize (lg_sl ([.ref o]) ++ List.replicate (1 - (lg_sl ([.ref o])).length) Slot.unset).toArray = ls at hl ⊢
  have hl : lv_has ls 1 [(0, .ref o)] := hl
  refine lv_aload_n hx hb dX1_init_0 rfl (lv_at hl 0 rfl) ?_
  refine W.objInit hx hb hown (hts (.methodLink RX1 3 objectInit) (by decide +kernel)) (hts (.instanceMethod objectInit) (by decide +kernel)) (hts (.code objectInit ⟨#[0xb1]⟩ 1 none) (by decide +kernel)) rfl (by rw [hml]; exact hl.1) rfl dX1_init_1 (Nat.le_of_ble_eq_true rfl) (Nat.le_of_ble_eq_true rfl) ?_
  refine W.eq (g2 := F0 m 4 ls []) rfl ?_
  refine lv_aload_n hx hb dX1_init_4 rfl (lv_at hl 0 rfl) ?_
  refine m_new_11 hx hb hts (by decide +kernel) hown (hts (.classLink RX1 9 RJx4a65c) (by decide +kernel)) (hts (.instantiable RJx4a65c 3) (by decide +kernel)) (hts (.initialized RJx4a65c) (by decide +kernel)) hw (Nat.le_of_ble_eq_true rfl) (Nat.le_of_ble_eq_true rfl) dX1_init_5 (fun q_5 H hz_5 hd_5 hw => ?_)
  have hk_5 : m_up K q_5 11 q_5 = 11 := m_up_self _ _ _
  have hko := m_up_k (k := 11) hz_5 hko (by decide)
  refine lv_dup hx hb dX1_init_8 rfl ?_
  refine m_cv (va_runI (As := []) (rest := [.ref q_5, .ref o]) ⟨hx, hb, hml, hown, hts⟩ (c_Jx4a65c_init_da8c8 l hk_5 (hd_5.2.1 111) hd_5.2.2.2.2.2.1) (cwI 0 hts gX1_init_Jx4a65c_init_da8c8 rfl rfl rfl (hts (.initialized RJx4a65c) (by decide +kernel)) (hts (.methodLink RX1 11 yJx4a65c_init_da8c8) (by decide +kernel)) (hts (.instanceMethod yJx4a65c_init_da8c8) (by decide +kernel)) rfl (by decide +kernel) ⟨Nat.le_of_ble_eq_true rfl, Nat.le_of_ble_eq_true rfl⟩) ⟨m_blind m_B_calling, fun U hU hW => ⟨rfl, m_wo_call hw hU hW⟩⟩ rfl rfl hl.1 rfl (lv_room (Nat.le_of_ble_eq_true rfl)) dX1_init_9 ⟨Nat.le_of_ble_eq_true rfl, Nat.le_of_ble_eq_true rfl⟩) hw (fun u_9 H locs hp_9 hw => ?_)
  refine p_2_0 hx hb hts (by decide +kernel) hown hw hko (hts (.fieldLink RX1 12 "Pirateindex$Index" "row" "Ljava/util/ArrayList;") (by decide +kernel)) hin2 (some q_5) dX1_init_12 (fun H locs hw => ?_)
  exact W.vret hx hb hr (fun t ht hW => ⟨⟨(m_up K q_5 11, m_up2 I 110 q_5 0, m_up2 (m_up2 R 111 q_5 (some G.2.2.2)) 20 o (some q_5)), rfl, ⟨q_5, hd_5.2.2.2.2.2.1, hz_5, rfl, rfl, rfl⟩, m_wo_out hw ht hW.alike⟩, m_wo_F hw ht⟩) (m_wo_L hw) dX1_init_15
set_option maxHeartbeats 400000 in
set_option maxRecDepth 100000 in
theorem c_X4_init (l : Launch) {G : mG} {K : Nat → Nat} {I : Nat → Nat → Int32} {R : Nat → Nat → Option Nat} {F : Nat → UInt32} {A : Nat → Nat → Int32} {N : Nat → Nat} {L : Nat → List Nat} {T : Nat → List Int32} {J : Nat → Nat → Int64} {D : Nat → Nat → UInt64} {o : Nat} {nn : Int32} (hko : K o = 5) : Met l yX4_init wsX4_init ({ frames := 4, cells := 1, slots := 3, locals := 110 } : Room) (va_Pc [.ref o, .int nn] (m_B G K I R F A N L T J D)) (va_Qv (fun (u : (Nat → Nat) × (Nat → Nat → Int32) × (Nat → Nat → Option Nat)) => ∃ q, L q = [] ∧ K q = 0 ∧ u.1 = m_up K q 11 ∧ u.2.1 = m_up2 (m_up2 I 50 o nn) 110 q 0 ∧ u.2.2 = m_up2 (m_up2 R 111 q (some G.2.2.2)) 51 o (some q)) (fun u : (Nat → Nat) × (Nat → Nat → Int32) × (Nat → Nat → Option Nat) => m_B G (u.1) (u.2.1) (u.2.2) F A N L T J D) (m_A G)) 1 3 (m_A G) := by
  refine Met.ofW (cc := cX4_init) (maxL := 2) (ret := none) (by decide) rfl ?_
  intro p e s m args below meth c s₁ B hml hv
  obtain ⟨rfl, hB⟩ := hv
  have hx := B.exec
  have hb := B.bytes
  have hr := B.returns
  have hts := atoms_spec (ws := wsX4_init) B.pre
  have hown : s.vm.findClass RX4 = some m.cls := findClass_of_methodNamed B.named
  have hlocks := B.notSynchronized
  have hin2 : meth.name = "<init>" := (name_of_methodNamed B.named B.method).1
  have hw := m_wo_in hB
  have hl := lv_entry ([.ref o, .int nn]) (n := 2) (Nat.le_of_ble_eq_true rfl)
  rw [lg_entry_eq]
  generalize (lg_sl ([.ref o, .int nn]) ++ List.replicate (2 - (lg_sl ([.ref o, .int nn])).length) Slot.unset).toArray = ls at hl ⊢
  have hl : lv_has ls 2 [(0, .ref o), (1, .int nn)] := hl
  refine lv_aload_n hx hb dX4_init_0 rfl (lv_at hl 0 rfl) ?_
  refine W.objInit hx hb hown (hts (.methodLink RX4 1 objectInit) (by decide +kernel)) (hts (.instanceMethod objectInit) (by decide +kernel)) (hts (.code objectInit ⟨#[0xb1]⟩ 1 none) (by decide +kernel)) rfl (by rw [hml]; exact hl.1) rfl dX4_init_1 (Nat.le_of_ble_eq_true rfl) (Nat.le_of_ble_eq_true rfl) ?_
  refine W.eq (g2 := F0 m 4 ls []) rfl ?_
  refine lv_aload_n hx hb dX4_init_4 rfl (lv_at hl 0 rfl) ?_
  refine lv_iload_n hx hb dX4_init_5 rfl (lv_at hl 1 rfl) ?_
  refine p_5_0 hx hb hts (by decide +kernel) hown hw hko (hts (.fieldLink RX4 7 "Pirateindex$Segment" "number" "I") (by decide +kernel)) hin2 dX4_init_6 (fun H locs hw => ?_)
  refine lv_aload_n hx hb dX4_init_9 rfl (lv_at hl 0 rfl) ?_
  refine m_new_11 hx hb hts (by decide +kernel) hown (hts (.classLink RX4 13 RJx4a65c) (by decide +kernel)) (hts (.instantiable RJx4a65c 3) (by decide +kernel)) (hts (.initialized RJx4a65c) (by decide +kernel)) hw (Nat.le_of_ble_eq_true rfl) (Nat.le_of_ble_eq_true rfl) dX4_init_10 (fun q_10 H hz_10 hd_10 hw => ?_)
  have hk_10 : m_up K q_10 11 q_10 = 11 := m_up_self _ _ _
  have hko := m_up_k (k := 11) hz_10 hko (by decide)
  refine lv_dup hx hb dX4_init_13 rfl ?_
  refine m_cv (va_runI (As := []) (rest := [.ref q_10, .ref o]) ⟨hx, hb, hml, hown, hts⟩ (c_Jx4a65c_init_da8c8 l hk_10 (hd_10.2.1 111) hd_10.2.2.2.2.2.1) (cwI 0 hts gX4_init_Jx4a65c_init_da8c8 rfl rfl rfl (hts (.initialized RJx4a65c) (by decide +kernel)) (hts (.methodLink RX4 15 yJx4a65c_init_da8c8) (by decide +kernel)) (hts (.instanceMethod yJx4a65c_init_da8c8) (by decide +kernel)) rfl (by decide +kernel) ⟨Nat.le_of_ble_eq_true rfl, Nat.le_of_ble_eq_true rfl⟩) ⟨m_blind m_B_calling, fun U hU hW => ⟨rfl, m_wo_call hw hU hW⟩⟩ rfl rfl hl.1 rfl (lv_room (Nat.le_of_ble_eq_true rfl)) dX4_init_14 ⟨Nat.le_of_ble_eq_true rfl, Nat.le_of_ble_eq_true rfl⟩) hw (fun u_14 H locs hp_14 hw => ?_)
  refine p_5_1 hx hb hts (by decide +kernel) hown hw hko (hts (.fieldLink RX4 16 "Pirateindex$Segment" "finds" "Ljava/util/ArrayList;") (by decide +kernel)) hin2 (some q_10) dX4_init_17 (fun H locs hw => ?_)
  exact W.vret hx hb hr (fun t ht hW => ⟨⟨(m_up K q_10 11, m_up2 (m_up2 I 50 o nn) 110 q_10 0, m_up2 (m_up2 R 111 q_10 (some G.2.2.2)) 51 o (some q_10)), rfl, ⟨q_10, hd_10.2.2.2.2.2.1, hz_10, rfl, rfl, rfl⟩, m_wo_out hw ht hW.alike⟩, m_wo_F hw ht⟩) (m_wo_L hw) dX4_init_20
