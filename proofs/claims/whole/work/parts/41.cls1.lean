/-- is the find a posting of the word -/
def c_pw (I : Nat → Nat → Int32) (R : Nat → Nat → Option Nat) (w9 : Int32) (a : Nat) : Bool := decide (I 11 a = w9) && ((R 15 a).isSome && decide (I 16 a = 0))
def c_lost (I : Nat → Nat → Int32) (R : Nat → Nat → Option Nat) (a : Nat) : Bool := (R 15 a).isNone && decide (I 16 a = 0)
def c_lt (I : Nat → Nat → Int32) (a b : Nat) : Bool := if I 12 a = I 12 b then (if I 13 a = I 13 b then decide (I 10 a < I 10 b) else decide (I 13 a < I 13 b)) else decide (I 12 a < I 12 b)
/-- all are postings of their words -/
def c_pst (I : Nat → Nat → Int32) (R : Nat → Nat → Option Nat) (l : List Nat) : Prop := ∀ a, a ∈ l → R 15 a ≠ none ∧ I 16 a = 0
theorem c_pw_n {I : Nat → Nat → Int32} {R : Nat → Nat → Option Nat} {w9 : Int32} {a : Nat} (h : ¬ I 11 a = w9) : c_pw I R w9 a = false := by
  unfold c_pw
  rw [decide_eq_false h]
  rfl
theorem c_pw_t {I : Nat → Nat → Int32} {R : Nat → Nat → Option Nat} {w9 : Int32} {a : Nat} (h : I 11 a = w9) (h2 : R 15 a ≠ none ∧ I 16 a = 0) : c_pw I R w9 a = true := by
  unfold c_pw
  rw [decide_eq_true h, decide_eq_true h2.2]
  cases hr : R 15 a with
  | none => exact absurd hr h2.1
  | some z => rfl
def c_sq (I : Nat → Nat → Int32) (a b : Nat) : Int32 := (I 31 a - I 31 b) * (I 31 a - I 31 b) + (I 32 a - I 32 b) * (I 32 a - I 32 b)
def c_ahead (I : Nat → Nat → Int32) (F : Nat → UInt32) (a b fr : Nat) : Bool := if o_cmp (F a) (F b) = 0 then (if c_sq I a fr = c_sq I b fr then decide (I 30 a < I 30 b) else decide (c_sq I a fr < c_sq I b fr)) else decide (0 < o_cmp (F a) (F b))
set_option maxHeartbeats 400000 in
set_option maxRecDepth 100000 in
theorem c_X0_isLost (l : Launch) {G : mG} {K : Nat → Nat} {I : Nat → Nat → Int32} {R : Nat → Nat → Option Nat} {F : Nat → UInt32} {A : Nat → Nat → Int32} {N : Nat → Nat} {L : Nat → List Nat} {T : Nat → List Int32} {J : Nat → Nat → Int64} {D : Nat → Nat → UInt64} {o : Nat} (hko : K o = 1) : Met l yX0_isLost wsX0_isLost ({ frames := 0, cells := 0, slots := 0, locals := 0 } : Room) (va_Pc [.ref o] (m_B G K I R F A N L T J D)) (va_Qi (fun (r : Int32) (_ : Unit) => r = b2i (c_lost I R o)) (fun u : Unit => m_B G K I R F A N L T J D) (m_A G)) 0 0 (m_A G) := by
  refine Met.ofW (cc := cX0_isLost) (maxL := 1) (ret := (some .boolean)) (by decide) rfl ?_
  intro p e s m args below meth c s₁ B hml hv
  obtain ⟨rfl, hB⟩ := hv
  have hx := B.exec
  have hb := B.bytes
  have hr := B.returns
  have hts := atoms_spec (ws := wsX0_isLost) B.pre
  have hown : s.vm.findClass RX0 = some m.cls := findClass_of_methodNamed B.named
  have hlocks := B.notSynchronized
  have hw := m_wo_in hB
  have hl := lv_entry ([.ref o]) (n := 1) (Nat.le_of_ble_eq_true rfl)
  rw [lg_entry_eq]
  generalize (lg_sl ([.ref o]) ++ List.replicate (1 - (lg_sl ([.ref o])).length) Slot.unset).toArray = ls at hl ⊢
  have hl : lv_has ls 1 [(0, .ref o)] := hl
  refine lv_aload_n hx hb dX0_isLost_0 rfl (lv_at hl 0 rfl) ?_
  refine g_1_5 (r := (R 15 o)) hx hb hts (by decide +kernel) hown hw hko (hts (.fieldLink RX0 26 "Pirateindex$Find" "segment" "LPirateindex$Segment;") (by decide +kernel)) rfl dX0_isLost_1 ?_
  refine m_ifnonnullQ (tgt := 18) hx hb dX0_isLost_4 (by decide) (fun c_4 => ?_) (fun z_4 c_4 => ?_)
  · skip
    refine lv_aload_n hx hb dX0_isLost_7 rfl (lv_at hl 0 rfl) ?_
    refine g_1_6 hx hb hts (by decide +kernel) hown hw hko (hts (.fieldLink RX0 30 "Pirateindex$Find" "struck" "Z") (by decide +kernel)) dX0_isLost_8 ?_
    refine lv_if_ne (tgt := 18) hx hb dX0_isLost_11 (by decide) (fun c_11 => ?_) (fun c_11 => ?_)
    · skip
      refine lv_iconst (v := 0) hx hb dX0_isLost_18 (by decide) ?_
      exact W.zret (v := 0) hx hb hr (by rfl) (fun t ht hW => ⟨⟨0, (), rfl, (by simp [c_lost, b2i, c_4, c_11]), m_wo_out hw ht hW.alike⟩, m_wo_F hw ht⟩) (m_wo_L hw) dX0_isLost_19
    · skip
      refine lv_iconst (v := 1) hx hb dX0_isLost_14 (by decide) ?_
      refine lv_goto (tgt := 19) hx hb dX0_isLost_15 (by decide) ?_
      exact W.zret (v := 1) hx hb hr (by rfl) (fun t ht hW => ⟨⟨1, (), rfl, (by simp [c_lost, b2i, c_4, c_11]), m_wo_out hw ht hW.alike⟩, m_wo_F hw ht⟩) (m_wo_L hw) dX0_isLost_19
  · skip
    refine lv_iconst (v := 0) hx hb dX0_isLost_18 (by decide) ?_
    exact W.zret (v := 0) hx hb hr (by rfl) (fun t ht hW => ⟨⟨0, (), rfl, (by simp [c_lost, b2i, c_4]), m_wo_out hw ht hW.alike⟩, m_wo_F hw ht⟩) (m_wo_L hw) dX0_isLost_19
set_option maxHeartbeats 400000 in
set_option maxRecDepth 100000 in
theorem c_X0_standsBefore (l : Launch) {G : mG} {K : Nat → Nat} {I : Nat → Nat → Int32} {R : Nat → Nat → Option Nat} {F : Nat → UInt32} {A : Nat → Nat → Int32} {N : Nat → Nat} {L : Nat → List Nat} {T : Nat → List Int32} {J : Nat → Nat → Int64} {D : Nat → Nat → UInt64} {o o2 : Nat} (hko : K o = 1) (hk2 : K o2 = 1) : Met l yX0_standsBefore wsX0_standsBefore ({ frames := 0, cells := 0, slots := 0, locals := 0 } : Room) (va_Pc [.ref o, .ref o2] (m_B G K I R F A N L T J D)) (va_Qi (fun (r : Int32) (_ : Unit) => r = b2i (c_lt I o o2)) (fun u : Unit => m_B G K I R F A N L T J D) (m_A G)) 0 0 (m_A G) := by
  refine Met.ofW (cc := cX0_standsBefore) (maxL := 2) (ret := (some .boolean)) (by decide) rfl ?_
  intro p e s m args below meth c s₁ B hml hv
  obtain ⟨rfl, hB⟩ := hv
  have hx := B.exec
  have hb := B.bytes
  have hr := B.returns
  have hts := atoms_spec (ws := wsX0_standsBefore) B.pre
  have hown : s.vm.findClass RX0 = some m.cls := findClass_of_methodNamed B.named
  have hlocks := B.notSynchronized
  have hw := m_wo_in hB
  have hl := lv_entry ([.ref o, .ref o2]) (n := 2) (Nat.le_of_ble_eq_true rfl)
  rw [lg_entry_eq]
  generalize (lg_sl ([.ref o, .ref o2]) ++ List.replicate (2 - (lg_sl ([.ref o, .ref o2])).length) Slot.unset).toArray = ls at hl ⊢
  have hl : lv_has ls 2 [(0, .ref o), (1, .ref o2)] := hl
  refine lv_aload_n hx hb dX0_standsBefore_0 rfl (lv_at hl 0 rfl) ?_
  refine g_1_2 hx hb hts (by decide +kernel) hown hw hko (hts (.fieldLink RX0 16 "Pirateindex$Find" "island" "I") (by decide +kernel)) dX0_standsBefore_1 ?_
  refine lv_aload_n hx hb dX0_standsBefore_4 rfl (lv_at hl 1 rfl) ?_
  refine g_1_2 hx hb hts (by decide +kernel) hown hw hk2 (hts (.fieldLink RX0 16 "Pirateindex$Find" "island" "I") (by decide +kernel)) dX0_standsBefore_5 ?_
  refine lv_icmp_eq (tgt := 28) hx hb dX0_standsBefore_8 (by decide) (fun c_8 => ?_) (fun c_8 => ?_)
  · skip
    refine lv_aload_n hx hb dX0_standsBefore_28 rfl (lv_at hl 0 rfl) ?_
    refine g_1_3 hx hb hts (by decide +kernel) hown hw hko (hts (.fieldLink RX0 19 "Pirateindex$Find" "place" "I") (by decide +kernel)) dX0_standsBefore_29 ?_
    refine lv_aload_n hx hb dX0_standsBefore_32 rfl (lv_at hl 1 rfl) ?_
    refine g_1_3 hx hb hts (by decide +kernel) hown hw hk2 (hts (.fieldLink RX0 19 "Pirateindex$Find" "place" "I") (by decide +kernel)) dX0_standsBefore_33 ?_
    refine lv_icmp_eq (tgt := 58) hx hb dX0_standsBefore_36 (by decide) (fun c_36 => ?_) (fun c_36 => ?_)
    · skip
      refine lv_aload_n hx hb dX0_standsBefore_58 rfl (lv_at hl 0 rfl) ?_
      refine g_1_0 hx hb hts (by decide +kernel) hown hw hko (hts (.fieldLink RX0 7 "Pirateindex$Find" "number" "I") (by decide +kernel)) dX0_standsBefore_59 ?_
      refine lv_aload_n hx hb dX0_standsBefore_62 rfl (lv_at hl 1 rfl) ?_
      refine g_1_0 hx hb hts (by decide +kernel) hown hw hk2 (hts (.fieldLink RX0 7 "Pirateindex$Find" "number" "I") (by decide +kernel)) dX0_standsBefore_63 ?_
      refine lv_icmp_ge (tgt := 73) hx hb dX0_standsBefore_66 (by decide) (fun c_66 => ?_) (fun c_66 => ?_)
      · skip
        refine lv_iconst (v := 0) hx hb dX0_standsBefore_73 (by decide) ?_
        exact W.zret (v := 0) hx hb hr (by rfl) (fun t ht hW => ⟨⟨0, (), rfl, (by simp [c_lt, b2i, ← Int32.not_le, c_8, c_36, c_66]), m_wo_out hw ht hW.alike⟩, m_wo_F hw ht⟩) (m_wo_L hw) dX0_standsBefore_74
      · skip
        refine lv_iconst (v := 1) hx hb dX0_standsBefore_69 (by decide) ?_
        refine lv_goto (tgt := 74) hx hb dX0_standsBefore_70 (by decide) ?_
        exact W.zret (v := 1) hx hb hr (by rfl) (fun t ht hW => ⟨⟨1, (), rfl, (by simp [c_lt, b2i, ← Int32.not_le, c_8, c_36, c_66]), m_wo_out hw ht hW.alike⟩, m_wo_F hw ht⟩) (m_wo_L hw) dX0_standsBefore_74
    · skip
      refine lv_aload_n hx hb dX0_standsBefore_39 rfl (lv_at hl 0 rfl) ?_
      refine g_1_3 hx hb hts (by decide +kernel) hown hw hko (hts (.fieldLink RX0 19 "Pirateindex$Find" "place" "I") (by decide +kernel)) dX0_standsBefore_40 ?_
      refine lv_aload_n hx hb dX0_standsBefore_43 rfl (lv_at hl 1 rfl) ?_
      refine g_1_3 hx hb hts (by decide +kernel) hown hw hk2 (hts (.fieldLink RX0 19 "Pirateindex$Find" "place" "I") (by decide +kernel)) dX0_standsBefore_44 ?_
      refine lv_icmp_ge (tgt := 54) hx hb dX0_standsBefore_47 (by decide) (fun c_47 => ?_) (fun c_47 => ?_)
      · skip
        refine lv_iconst (v := 0) hx hb dX0_standsBefore_54 (by decide) ?_
        refine lv_goto (tgt := 74) hx hb dX0_standsBefore_55 (by decide) ?_
        exact W.zret (v := 0) hx hb hr (by rfl) (fun t ht hW => ⟨⟨0, (), rfl, (by simp [c_lt, b2i, ← Int32.not_le, c_8, c_36, c_47]), m_wo_out hw ht hW.alike⟩, m_wo_F hw ht⟩) (m_wo_L hw) dX0_standsBefore_74
      · skip
        refine lv_iconst (v := 1) hx hb dX0_standsBefore_50 (by decide) ?_
        refine lv_goto (tgt := 74) hx hb dX0_standsBefore_51 (by decide) ?_
        exact W.zret (v := 1) hx hb hr (by rfl) (fun t ht hW => ⟨⟨1, (), rfl, (by simp [c_lt, b2i, ← Int32.not_le, c_8, c_36, c_47]), m_wo_out hw ht hW.alike⟩, m_wo_F hw ht⟩) (m_wo_L hw) dX0_standsBefore_74
  · skip
    refine lv_aload_n hx hb dX0_standsBefore_11 rfl (lv_at hl 0 rfl) ?_
    refine g_1_2 hx hb hts (by decide +kernel) hown hw hko (hts (.fieldLink RX0 16 "Pirateindex$Find" "island" "I") (by decide +kernel)) dX0_standsBefore_12 ?_
    refine lv_aload_n hx hb dX0_standsBefore_15 rfl (lv_at hl 1 rfl) ?_
    refine g_1_2 hx hb hts (by decide +kernel) hown hw hk2 (hts (.fieldLink RX0 16 "Pirateindex$Find" "island" "I") (by decide +kernel)) dX0_standsBefore_16 ?_
    refine lv_icmp_ge (tgt := 26) hx hb dX0_standsBefore_19 (by decide) (fun c_19 => ?_) (fun c_19 => ?_)
    · skip
      refine lv_iconst (v := 0) hx hb dX0_standsBefore_26 (by decide) ?_
      exact W.zret (v := 0) hx hb hr (by rfl) (fun t ht hW => ⟨⟨0, (), rfl, (by simp [c_lt, b2i, ← Int32.not_le, c_8, c_19]), m_wo_out hw ht hW.alike⟩, m_wo_F hw ht⟩) (m_wo_L hw) dX0_standsBefore_27
    · skip
      refine lv_iconst (v := 1) hx hb dX0_standsBefore_22 (by decide) ?_
      refine lv_goto (tgt := 27) hx hb dX0_standsBefore_23 (by decide) ?_
      exact W.zret (v := 1) hx hb hr (by rfl) (fun t ht hW => ⟨⟨1, (), rfl, (by simp [c_lt, b2i, ← Int32.not_le, c_8, c_19]), m_wo_out hw ht hW.alike⟩, m_wo_F hw ht⟩) (m_wo_L hw) dX0_standsBefore_27
set_option maxHeartbeats 400000 in
set_option maxRecDepth 100000 in
theorem c_X2_squareTo (l : Launch) {G : mG} {K : Nat → Nat} {I : Nat → Nat → Int32} {R : Nat → Nat → Option Nat} {F : Nat → UInt32} {A : Nat → Nat → Int32} {N : Nat → Nat} {L : Nat → List Nat} {T : Nat → List Int32} {J : Nat → Nat → Int64} {D : Nat → Nat → UInt64} {o o2 : Nat} (hko : K o = 3) (hk2 : K o2 = 3) : Met l yX2_squareTo wsX2_squareTo ({ frames := 0, cells := 0, slots := 0, locals := 0 } : Room) (va_Pc [.ref o, .ref o2] (m_B G K I R F A N L T J D)) (va_Qi (fun (r : Int32) (_ : Unit) => r = c_sq I o o2) (fun u : Unit => m_B G K I R F A N L T J D) (m_A G)) 0 0 (m_A G) := by
  refine Met.ofW (cc := cX2_squareTo) (maxL := 4) (ret := (some .int)) (by decide) rfl ?_
  intro p e s m args below meth c s₁ B hml hv
  obtain ⟨rfl, hB⟩ := hv
  have hx := B.exec
  have hb := B.bytes
  have hr := B.returns
  have hts := atoms_spec (ws := wsX2_squareTo) B.pre
  have hown : s.vm.findClass RX2 = some m.cls := findClass_of_methodNamed B.named
  have hlocks := B.notSynchronized
  have hw := m_wo_in hB
  have hl := lv_entry ([.ref o, .ref o2]) (n := 4) (Nat.le_of_ble_eq_true rfl)
  rw [lg_entry_eq]
  generalize (lg_sl ([.ref o, .ref o2]) ++ List.replicate (4 - (lg_sl ([.ref o, .ref o2])).length) Slot.unset).toArray = ls at hl ⊢
  have hl : lv_has ls 4 [(0, .ref o), (1, .ref o2)] := hl
  refine lv_aload_n hx hb dX2_squareTo_0 rfl (lv_at hl 0 rfl) ?_
  refine g_3_1 hx hb hts (by decide +kernel) hown hw hko (hts (.fieldLink RX2 13 "Pirateindex$Isle" "x" "I") (by decide +kernel)) dX2_squareTo_1 ?_
  refine lv_aload_n hx hb dX2_squareTo_4 rfl (lv_at hl 1 rfl) ?_
  refine g_3_1 hx hb hts (by decide +kernel) hown hw hk2 (hts (.fieldLink RX2 13 "Pirateindex$Isle" "x" "I") (by decide +kernel)) dX2_squareTo_5 ?_
  refine lv_isub hx hb dX2_squareTo_8 ?_
  refine lv_istore_n (lv' := [(2, .int ((I 31 o) - (I 31 o2))), (0, .ref o), (1, .ref o2)]) hx hb dX2_squareTo_9 rfl hl (by decide) rfl (fun ls hl => ?_)
  refine lv_aload_n hx hb dX2_squareTo_10 rfl (lv_at hl 1 rfl) ?_
  refine g_3_2 hx hb hts (by decide +kernel) hown hw hko (hts (.fieldLink RX2 16 "Pirateindex$Isle" "y" "I") (by decide +kernel)) dX2_squareTo_11 ?_
  refine lv_aload_n hx hb dX2_squareTo_14 rfl (lv_at hl 2 rfl) ?_
  refine g_3_2 hx hb hts (by decide +kernel) hown hw hk2 (hts (.fieldLink RX2 16 "Pirateindex$Isle" "y" "I") (by decide +kernel)) dX2_squareTo_15 ?_
  refine lv_isub hx hb dX2_squareTo_18 ?_
  refine lv_istore_n (lv' := [(3, .int ((I 32 o) - (I 32 o2))), (2, .int ((I 31 o) - (I 31 o2))), (0, .ref o), (1, .ref o2)]) hx hb dX2_squareTo_19 rfl hl (by decide) rfl (fun ls hl => ?_)
  refine lv_iload_n hx hb dX2_squareTo_20 rfl (lv_at hl 1 rfl) ?_
  refine lv_iload_n hx hb dX2_squareTo_21 rfl (lv_at hl 1 rfl) ?_
  refine lv_imul hx hb dX2_squareTo_22 ?_
  refine lv_iload_n hx hb dX2_squareTo_23 rfl (lv_at hl 0 rfl) ?_
  refine lv_iload_n hx hb dX2_squareTo_24 rfl (lv_at hl 0 rfl) ?_
  refine lv_imul hx hb dX2_squareTo_25 ?_
  refine lv_iadd hx hb dX2_squareTo_26 ?_
  exact W.iret (v := ((((I 31 o) - (I 31 o2)) * ((I 31 o) - (I 31 o2))) + (((I 32 o) - (I 32 o2)) * ((I 32 o) - (I 32 o2))))) hx hb hr (fun t ht hW => ⟨⟨((((I 31 o) - (I 31 o2)) * ((I 31 o) - (I 31 o2))) + (((I 32 o) - (I 32 o2)) * ((I 32 o) - (I 32 o2)))), (), rfl, rfl, m_wo_out hw ht hW.alike⟩, m_wo_F hw ht⟩) (m_wo_L hw) dX2_squareTo_27
set_option maxHeartbeats 400000 in
set_option maxRecDepth 100000 in
theorem c_X2_ranksAheadOf (l : Launch) {G : mG} {K : Nat → Nat} {I : Nat → Nat → Int32} {R : Nat → Nat → Option Nat} {F : Nat → UInt32} {A : Nat → Nat → Int32} {N : Nat → Nat} {L : Nat → List Nat} {T : Nat → List Int32} {J : Nat → Nat → Int64} {D : Nat → Nat → UInt64} {o o2 fr : Nat} (hko : K o = 3) (hk2 : K o2 = 3) (hk3 : K fr = 3) : Met l yX2_ranksAheadOf wsX2_ranksAheadOf ({ frames := 1, cells := 0, slots := 0, locals := 40 } : Room) (va_Pc [.ref o, .ref o2, .ref fr] (m_B G K I R F A N L T J D)) (va_Qi (fun (r : Int32) (_ : Unit) => r = b2i (c_ahead I F o o2 fr)) (fun u : Unit => m_B G K I R F A N L T J D) (m_A G)) 0 0 (m_A G) := by
  refine Met.ofW (cc := cX2_ranksAheadOf) (maxL := 5) (ret := (some .boolean)) (by decide) rfl ?_
  intro p e s m args below meth c s₁ B hml hv
  obtain ⟨rfl, hB⟩ := hv
  have hx := B.exec
  have hb := B.bytes
  have hr := B.returns
  have hts := atoms_spec (ws := wsX2_ranksAheadOf) B.pre
  have hown : s.vm.findClass RX2 = some m.cls := findClass_of_methodNamed B.named
  have hlocks := B.notSynchronized
  have hw := m_wo_in hB
  have hl := lv_entry ([.ref o, .ref o2, .ref fr]) (n := 5) (Nat.le_of_ble_eq_true rfl)
  rw [lg_entry_eq]
  generalize (lg_sl ([.ref o, .ref o2, .ref fr]) ++ List.replicate (5 - (lg_sl ([.ref o, .ref o2, .ref fr])).length) Slot.unset).toArray = ls at hl ⊢
  have hl : lv_has ls 5 [(0, .ref o), (1, .ref o2), (2, .ref fr)] := hl
  refine lv_aload_n hx hb dX2_ranksAheadOf_0 rfl (lv_at hl 0 rfl) ?_
  refine g_3_5 hx hb hts (by decide +kernel) hown hw hko (hts (.fieldLink RX2 26 "Pirateindex$Isle" "score" "F") (by decide +kernel)) dX2_ranksAheadOf_1 ?_
  refine lv_aload_n hx hb dX2_ranksAheadOf_4 rfl (lv_at hl 1 rfl) ?_
  refine g_3_5 hx hb hts (by decide +kernel) hown hw hk2 (hts (.fieldLink RX2 26 "Pirateindex$Isle" "score" "F") (by decide +kernel)) dX2_ranksAheadOf_5 ?_
  refine lv_fcmp hx hb dX2_ranksAheadOf_8 ?_
  refine lv_if_eq (tgt := 30) hx hb dX2_ranksAheadOf_9 (by decide) (fun c_9 => ?_) (fun c_9 => ?_)
  · skip
    refine lv_aload_n hx hb dX2_ranksAheadOf_30 rfl (lv_at hl 0 rfl) ?_
    refine lv_aload_n hx hb dX2_ranksAheadOf_31 rfl (lv_at hl 2 rfl) ?_
    refine m_ci (va_runV (As := [.ref fr]) (rest := []) ⟨hx, hb, hml, hown, hts⟩ (c_X2_squareTo l (o := o) hko hk3) (cwV 1 hts gX2_ranksAheadOf_X2_squareTo rfl rfl rfl (by decide +kernel) ⟨Nat.le_of_ble_eq_true rfl, Nat.le_of_ble_eq_true rfl⟩) ⟨m_blind m_B_calling, m_recv hw (m_ent_3 hko) rfl, fun U hU hW => ⟨rfl, m_wo_call hw hU hW⟩⟩ rfl rfl hl.1 rfl (lv_room (Nat.le_of_ble_eq_true rfl)) dX2_ranksAheadOf_32 ⟨Nat.le_of_ble_eq_true rfl, Nat.le_of_ble_eq_true rfl⟩) hw (fun r_32 u_32 H locs hp_32 hw => ?_)
    obtain rfl : r_32 = c_sq I o fr := hp_32
    refine lv_istore_n (lv' := [(3, .int (c_sq I o fr)), (0, .ref o), (1, .ref o2), (2, .ref fr)]) hx hb dX2_ranksAheadOf_35 rfl hl (by decide) rfl (fun ls hl => ?_)
    refine lv_aload_n hx hb dX2_ranksAheadOf_36 rfl (lv_at hl 2 rfl) ?_
    refine lv_aload_n hx hb dX2_ranksAheadOf_37 rfl (lv_at hl 3 rfl) ?_
    refine m_ci (va_runV (As := [.ref fr]) (rest := []) ⟨hx, hb, hml, hown, hts⟩ (c_X2_squareTo l (o := o2) hk2 hk3) (cwV 1 hts gX2_ranksAheadOf_X2_squareTo rfl rfl rfl (by decide +kernel) ⟨Nat.le_of_ble_eq_true rfl, Nat.le_of_ble_eq_true rfl⟩) ⟨m_blind m_B_calling, m_recv hw (m_ent_3 hk2) rfl, fun U hU hW => ⟨rfl, m_wo_call hw hU hW⟩⟩ rfl rfl hl.1 rfl (lv_room (Nat.le_of_ble_eq_true rfl)) dX2_ranksAheadOf_38 ⟨Nat.le_of_ble_eq_true rfl, Nat.le_of_ble_eq_true rfl⟩) hw (fun r_38 u_38 H locs hp_38 hw => ?_)
    obtain rfl : r_38 = c_sq I o2 fr := hp_38
    refine lv_istore (lv' := [(4, .int (c_sq I o2 fr)), (3, .int (c_sq I o fr)), (0, .ref o), (1, .ref o2), (2, .ref fr)]) hx hb dX2_ranksAheadOf_41 hl (by decide) rfl (fun ls hl => ?_)
    refine lv_iload_n hx hb dX2_ranksAheadOf_43 rfl (lv_at hl 1 rfl) ?_
    refine lv_iload hx hb dX2_ranksAheadOf_44 (lv_at hl 0 rfl) ?_
    refine lv_icmp_eq (tgt := 63) hx hb dX2_ranksAheadOf_46 (by decide) (fun c_46 => ?_) (fun c_46 => ?_)
    · skip
      refine lv_aload_n hx hb dX2_ranksAheadOf_63 rfl (lv_at hl 2 rfl) ?_
      refine g_3_0 hx hb hts (by decide +kernel) hown hw hko (hts (.fieldLink RX2 7 "Pirateindex$Isle" "number" "I") (by decide +kernel)) dX2_ranksAheadOf_64 ?_
      refine lv_aload_n hx hb dX2_ranksAheadOf_67 rfl (lv_at hl 3 rfl) ?_
      refine g_3_0 hx hb hts (by decide +kernel) hown hw hk2 (hts (.fieldLink RX2 7 "Pirateindex$Isle" "number" "I") (by decide +kernel)) dX2_ranksAheadOf_68 ?_
      refine lv_icmp_ge (tgt := 78) hx hb dX2_ranksAheadOf_71 (by decide) (fun c_71 => ?_) (fun c_71 => ?_)
      · skip
        refine lv_iconst (v := 0) hx hb dX2_ranksAheadOf_78 (by decide) ?_
        exact W.zret (v := 0) hx hb hr (by rfl) (fun t ht hW => ⟨⟨0, (), rfl, (by simp [c_ahead, o_cmp, b2i, ← Int32.not_le, c_9, c_46, c_71]), m_wo_out hw ht hW.alike⟩, m_wo_F hw ht⟩) (m_wo_L hw) dX2_ranksAheadOf_79
      · skip
        refine lv_iconst (v := 1) hx hb dX2_ranksAheadOf_74 (by decide) ?_
        refine lv_goto (tgt := 79) hx hb dX2_ranksAheadOf_75 (by decide) ?_
        exact W.zret (v := 1) hx hb hr (by rfl) (fun t ht hW => ⟨⟨1, (), rfl, (by simp [c_ahead, o_cmp, b2i, ← Int32.not_le, c_9, c_46, c_71]), m_wo_out hw ht hW.alike⟩, m_wo_F hw ht⟩) (m_wo_L hw) dX2_ranksAheadOf_79
    · skip
      refine lv_iload_n hx hb dX2_ranksAheadOf_49 rfl (lv_at hl 1 rfl) ?_
      refine lv_iload hx hb dX2_ranksAheadOf_50 (lv_at hl 0 rfl) ?_
      refine lv_icmp_ge (tgt := 59) hx hb dX2_ranksAheadOf_52 (by decide) (fun c_52 => ?_) (fun c_52 => ?_)
      · skip
        refine lv_iconst (v := 0) hx hb dX2_ranksAheadOf_59 (by decide) ?_
        refine lv_goto (tgt := 79) hx hb dX2_ranksAheadOf_60 (by decide) ?_
        exact W.zret (v := 0) hx hb hr (by rfl) (fun t ht hW => ⟨⟨0, (), rfl, (by simp [c_ahead, o_cmp, b2i, ← Int32.not_le, c_9, c_46, c_52]), m_wo_out hw ht hW.alike⟩, m_wo_F hw ht⟩) (m_wo_L hw) dX2_ranksAheadOf_79
      · skip
        refine lv_iconst (v := 1) hx hb dX2_ranksAheadOf_55 (by decide) ?_
        refine lv_goto (tgt := 79) hx hb dX2_ranksAheadOf_56 (by decide) ?_
        exact W.zret (v := 1) hx hb hr (by rfl) (fun t ht hW => ⟨⟨1, (), rfl, (by simp [c_ahead, o_cmp, b2i, ← Int32.not_le, c_9, c_46, c_52]), m_wo_out hw ht hW.alike⟩, m_wo_F hw ht⟩) (m_wo_L hw) dX2_ranksAheadOf_79
  · skip
    refine lv_aload_n hx hb dX2_ranksAheadOf_12 rfl (lv_at hl 0 rfl) ?_
    refine g_3_5 hx hb hts (by decide +kernel) hown hw hko (hts (.fieldLink RX2 26 "Pirateindex$Isle" "score" "F") (by decide +kernel)) dX2_ranksAheadOf_13 ?_
    refine lv_aload_n hx hb dX2_ranksAheadOf_16 rfl (lv_at hl 1 rfl) ?_
    refine g_3_5 hx hb hts (by decide +kernel) hown hw hk2 (hts (.fieldLink RX2 26 "Pirateindex$Isle" "score" "F") (by decide +kernel)) dX2_ranksAheadOf_17 ?_
    refine lv_fcmp hx hb dX2_ranksAheadOf_20 ?_
    refine lv_if_le (tgt := 28) hx hb dX2_ranksAheadOf_21 (by decide) (fun c_21 => ?_) (fun c_21 => ?_)
    · skip
      refine lv_iconst (v := 0) hx hb dX2_ranksAheadOf_28 (by decide) ?_
      exact W.zret (v := 0) hx hb hr (by rfl) (fun t ht hW => ⟨⟨0, (), rfl, (by simp [c_ahead, o_cmp, b2i, ← Int32.not_le, c_9, c_21]), m_wo_out hw ht hW.alike⟩, m_wo_F hw ht⟩) (m_wo_L hw) dX2_ranksAheadOf_29
    · skip
      refine lv_iconst (v := 1) hx hb dX2_ranksAheadOf_24 (by decide) ?_
      refine lv_goto (tgt := 29) hx hb dX2_ranksAheadOf_25 (by decide) ?_
      exact W.zret (v := 1) hx hb hr (by rfl) (fun t ht hW => ⟨⟨1, (), rfl, (by simp [c_ahead, o_cmp, b2i, ← Int32.not_le, c_9, c_21]), m_wo_out hw ht hW.alike⟩, m_wo_F hw ht⟩) (m_wo_L hw) dX2_ranksAheadOf_29
set_option maxHeartbeats 400000 in
set_option maxRecDepth 100000 in
theorem c_X3_isEmpty (l : Launch) {G : mG} {K : Nat → Nat} {I : Nat → Nat → Int32} {R : Nat → Nat → Option Nat} {F : Nat → UInt32} {A : Nat → Nat → Int32} {N : Nat → Nat} {L : Nat → List Nat} {T : Nat → List Int32} {J : Nat → Nat → Int64} {D : Nat → Nat → UInt64} {o : Nat} (hko : K o = 4) : Met l yX3_isEmpty wsX3_isEmpty ({ frames := 0, cells := 0, slots := 0, locals := 0 } : Room) (va_Pc [.ref o] (m_B G K I R F A N L T J D)) (va_Qi (fun (r : Int32) (_ : Unit) => r = b2i (decide (I 42 o = 0))) (fun u : Unit => m_B G K I R F A N L T J D) (m_A G)) 0 0 (m_A G) := by
  refine Met.ofW (cc := cX3_isEmpty) (maxL := 1) (ret := (some .boolean)) (by decide) rfl ?_
  intro p e s m args below meth c s₁ B hml hv
  obtain ⟨rfl, hB⟩ := hv
  have hx := B.exec
  have hb := B.bytes
  have hr := B.returns
  have hts := atoms_spec (ws := wsX3_isEmpty) B.pre
  have hown : s.vm.findClass RX3 = some m.cls := findClass_of_methodNamed B.named
  have hlocks := B.notSynchronized
  have hw := m_wo_in hB
  have hl := lv_entry ([.ref o]) (n := 1) (Nat.le_of_ble_eq_true rfl)
  rw [lg_entry_eq]
  generalize (lg_sl ([.ref o]) ++ List.replicate (1 - (lg_sl ([.ref o])).length) Slot.unset).toArray = ls at hl ⊢
  have hl : lv_has ls 1 [(0, .ref o)] := hl
  refine lv_aload_n hx hb dX3_isEmpty_0 rfl (lv_at hl 0 rfl) ?_
  refine g_4_2 hx hb hts (by decide +kernel) hown hw hko (hts (.fieldLink RX3 18 "Pirateindex$Phrase" "length" "I") (by decide +kernel)) dX3_isEmpty_1 ?_
  refine lv_if_ne (tgt := 11) hx hb dX3_isEmpty_4 (by decide) (fun c_4 => ?_) (fun c_4 => ?_)
  · skip
    refine lv_iconst (v := 0) hx hb dX3_isEmpty_11 (by decide) ?_
    exact W.zret (v := 0) hx hb hr (by rfl) (fun t ht hW => ⟨⟨0, (), rfl, (by simp [b2i, c_4]), m_wo_out hw ht hW.alike⟩, m_wo_F hw ht⟩) (m_wo_L hw) dX3_isEmpty_12
  · skip
    refine lv_iconst (v := 1) hx hb dX3_isEmpty_7 (by decide) ?_
    refine lv_goto (tgt := 12) hx hb dX3_isEmpty_8 (by decide) ?_
    exact W.zret (v := 1) hx hb hr (by rfl) (fun t ht hW => ⟨⟨1, (), rfl, (by simp [b2i, c_4]), m_wo_out hw ht hW.alike⟩, m_wo_F hw ht⟩) (m_wo_L hw) dX3_isEmpty_12
set_option maxHeartbeats 400000 in
set_option maxRecDepth 100000 in
theorem c_X3_wordAt (l : Launch) {G : mG} {K : Nat → Nat} {I : Nat → Nat → Int32} {R : Nat → Nat → Option Nat} {F : Nat → UInt32} {A : Nat → Nat → Int32} {N : Nat → Nat} {L : Nat → List Nat} {T : Nat → List Int32} {J : Nat → Nat → Int64} {D : Nat → Nat → UInt64} {o w9 i : Nat} (hko : K o = 4) (hrw : R 40 o = some w9) (hkw : K w9 = 21) (hN : N w9 = 4) (hi : i < 4) : Met l yX3_wordAt wsX3_wordAt ({ frames := 0, cells := 0, slots := 0, locals := 0 } : Room) (va_Pc [.ref o, .int (nI i)] (m_B G K I R F A N L T J D)) (va_Qi (fun (r : Int32) (_ : Unit) => r = A w9 i) (fun u : Unit => m_B G K I R F A N L T J D) (m_A G)) 0 0 (m_A G) := by
  refine Met.ofW (cc := cX3_wordAt) (maxL := 2) (ret := (some .int)) (by decide) rfl ?_
  intro p e s m args below meth c s₁ B hml hv
  obtain ⟨rfl, hB⟩ := hv
  have hx := B.exec
  have hb := B.bytes
  have hr := B.returns
  have hts := atoms_spec (ws := wsX3_wordAt) B.pre
  have hown : s.vm.findClass RX3 = some m.cls := findClass_of_methodNamed B.named
  have hlocks := B.notSynchronized
  have hw := m_wo_in hB
  have hl := lv_entry ([.ref o, .int (nI i)]) (n := 2) (Nat.le_of_ble_eq_true rfl)
  rw [lg_entry_eq]
  generalize (lg_sl ([.ref o, .int (nI i)]) ++ List.replicate (2 - (lg_sl ([.ref o, .int (nI i)])).length) Slot.unset).toArray = ls at hl ⊢
  have hl : lv_has ls 2 [(0, .ref o), (1, .int (nI i))] := hl
  refine lv_iload_n hx hb dX3_wordAt_0 rfl (lv_at hl 1 rfl) ?_
  refine lv_if_lt (tgt := 22) hx hb dX3_wordAt_1 (by decide) (fun c_1 => absurd c_1 (nI_pos (by omega))) (fun c_1 => ?_)
  refine lv_iload_n hx hb dX3_wordAt_4 rfl (lv_at hl 1 rfl) ?_
  refine lv_aload_n hx hb dX3_wordAt_5 rfl (lv_at hl 0 rfl) ?_
  refine g_4_0 (r := some w9) hx hb hts (by decide +kernel) hown hw hko (hts (.fieldLink RX3 9 "Pirateindex$Phrase" "words" "[I") (by decide +kernel)) hrw dX3_wordAt_6 ?_
  refine m_alen_21 hx hb hw hkw dX3_wordAt_9 ?_
  refine lv_icmp_ge (tgt := 22) hx hb dX3_wordAt_10 (by decide) (fun c_10 => absurd c_10 (by rw [hN]; exact nI_ge hi (by decide))) (fun c_10 => ?_)
  refine lv_aload_n hx hb dX3_wordAt_13 rfl (lv_at hl 0 rfl) ?_
  refine g_4_0 (r := some w9) hx hb hts (by decide +kernel) hown hw hko (hts (.fieldLink RX3 9 "Pirateindex$Phrase" "words" "[I") (by decide +kernel)) hrw dX3_wordAt_14 ?_
  refine lv_iload_n hx hb dX3_wordAt_17 rfl (lv_at hl 1 rfl) ?_
  refine m_iaload_21 hx hb hw hkw (by rw [hN]; exact vp_in_nI hi (by decide)) dX3_wordAt_18 ?_
  refine lv_goto (tgt := 23) hx hb dX3_wordAt_19 (by decide) ?_
  exact W.iret (v := (A w9 (nI i).toNatClampNeg)) hx hb hr (fun t ht hW => ⟨⟨(A w9 (nI i).toNatClampNeg), (), rfl, (by rw [nI_clamp (by omega)]), m_wo_out hw ht hW.alike⟩, m_wo_F hw ht⟩) (m_wo_L hw) dX3_wordAt_23
set_option maxHeartbeats 400000 in
set_option maxRecDepth 100000 in
theorem c_X3_distanceAt (l : Launch) {G : mG} {K : Nat → Nat} {I : Nat → Nat → Int32} {R : Nat → Nat → Option Nat} {F : Nat → UInt32} {A : Nat → Nat → Int32} {N : Nat → Nat} {L : Nat → List Nat} {T : Nat → List Int32} {J : Nat → Nat → Int64} {D : Nat → Nat → UInt64} {o w9 i : Nat} (hko : K o = 4) (hrw : R 41 o = some w9) (hkw : K w9 = 22) (hN : N w9 = 4) (hi : i < 4) : Met l yX3_distanceAt wsX3_distanceAt ({ frames := 0, cells := 0, slots := 0, locals := 0 } : Room) (va_Pc [.ref o, .int (nI i)] (m_B G K I R F A N L T J D)) (va_Qi (fun (r : Int32) (_ : Unit) => r = A w9 i) (fun u : Unit => m_B G K I R F A N L T J D) (m_A G)) 0 0 (m_A G) := by
  refine Met.ofW (cc := cX3_distanceAt) (maxL := 2) (ret := (some .int)) (by decide) rfl ?_
  intro p e s m args below meth c s₁ B hml hv
  obtain ⟨rfl, hB⟩ := hv
  have hx := B.exec
  have hb := B.bytes
  have hr := B.returns
  have hts := atoms_spec (ws := wsX3_distanceAt) B.pre
  have hown : s.vm.findClass RX3 = some m.cls := findClass_of_methodNamed B.named
  have hlocks := B.notSynchronized
  have hw := m_wo_in hB
  have hl := lv_entry ([.ref o, .int (nI i)]) (n := 2) (Nat.le_of_ble_eq_true rfl)
  rw [lg_entry_eq]
  generalize (lg_sl ([.ref o, .int (nI i)]) ++ List.replicate (2 - (lg_sl ([.ref o, .int (nI i)])).length) Slot.unset).toArray = ls at hl ⊢
  have hl : lv_has ls 2 [(0, .ref o), (1, .int (nI i))] := hl
  refine lv_iload_n hx hb dX3_distanceAt_0 rfl (lv_at hl 1 rfl) ?_
  refine lv_if_lt (tgt := 22) hx hb dX3_distanceAt_1 (by decide) (fun c_1 => absurd c_1 (nI_pos (by omega))) (fun c_1 => ?_)
  refine lv_iload_n hx hb dX3_distanceAt_4 rfl (lv_at hl 1 rfl) ?_
  refine lv_aload_n hx hb dX3_distanceAt_5 rfl (lv_at hl 0 rfl) ?_
  refine g_4_1 (r := some w9) hx hb hts (by decide +kernel) hown hw hko (hts (.fieldLink RX3 15 "Pirateindex$Phrase" "distances" "[I") (by decide +kernel)) hrw dX3_distanceAt_6 ?_
  refine m_alen_22 hx hb hw hkw dX3_distanceAt_9 ?_
  refine lv_icmp_ge (tgt := 22) hx hb dX3_distanceAt_10 (by decide) (fun c_10 => absurd c_10 (by rw [hN]; exact nI_ge hi (by decide))) (fun c_10 => ?_)
  refine lv_aload_n hx hb dX3_distanceAt_13 rfl (lv_at hl 0 rfl) ?_
  refine g_4_1 (r := some w9) hx hb hts (by decide +kernel) hown hw hko (hts (.fieldLink RX3 15 "Pirateindex$Phrase" "distances" "[I") (by decide +kernel)) hrw dX3_distanceAt_14 ?_
  refine lv_iload_n hx hb dX3_distanceAt_17 rfl (lv_at hl 1 rfl) ?_
  refine m_iaload_22 hx hb hw hkw (by rw [hN]; exact vp_in_nI hi (by decide)) dX3_distanceAt_18 ?_
  refine lv_goto (tgt := 23) hx hb dX3_distanceAt_19 (by decide) ?_
  exact W.iret (v := (A w9 (nI i).toNatClampNeg)) hx hb hr (fun t ht hW => ⟨⟨(A w9 (nI i).toNatClampNeg), (), rfl, (by rw [nI_clamp (by omega)]), m_wo_out hw ht hW.alike⟩, m_wo_F hw ht⟩) (m_wo_L hw) dX3_distanceAt_23
set_option maxHeartbeats 400000 in
set_option maxRecDepth 100000 in
theorem c_X3_append (l : Launch) {G : mG} {K : Nat → Nat} {I : Nat → Nat → Int32} {R : Nat → Nat → Option Nat} {F : Nat → UInt32} {A : Nat → Nat → Int32} {N : Nat → Nat} {L : Nat → List Nat} {T : Nat → List Int32} {J : Nat → Nat → Int64} {D : Nat → Nat → UInt64} {o w9 d9 n : Nat} {wv dv : Int32} (hko : K o = 4) (hrw : R 40 o = some w9) (hkw : K w9 = 21) (hNw : N w9 = 4) (hrd : R 41 o = some d9) (hkd : K d9 = 22) (hNd : N d9 = 4) (hn : I 42 o = nI n) (hn4 : n < 4) : Met l yX3_append wsX3_append ({ frames := 0, cells := 0, slots := 0, locals := 0 } : Room) (va_Pc [.ref o, .int wv, .int dv] (m_B G K I R F A N L T J D)) (va_Qv (fun (u : (Nat → Nat → Int32) × (Nat → Nat → Int32)) => u.1 = m_up2 I 42 o (nI (n + 1)) ∧ u.2 = m_up (m_up A w9 (upd (A w9) n wv)) d9 (upd (A d9) n dv)) (fun u : (Nat → Nat → Int32) × (Nat → Nat → Int32) => m_B G K (u.1) R F (u.2) N L T J D) (m_A G)) 0 0 (m_A G) := by
  refine Met.ofW (cc := cX3_append) (maxL := 3) (ret := none) (by decide) rfl ?_
  intro p e s m args below meth c s₁ B hml hv
  obtain ⟨rfl, hB⟩ := hv
  have hx := B.exec
  have hb := B.bytes
  have hr := B.returns
  have hts := atoms_spec (ws := wsX3_append) B.pre
  have hown : s.vm.findClass RX3 = some m.cls := findClass_of_methodNamed B.named
  have hlocks := B.notSynchronized
  have hw := m_wo_in hB
  have hl := lv_entry ([.ref o, .int wv, .int dv]) (n := 3) (Nat.le_of_ble_eq_true rfl)
  rw [lg_entry_eq]
  generalize (lg_sl ([.ref o, .int wv, .int dv]) ++ List.replicate (3 - (lg_sl ([.ref o, .int wv, .int dv])).length) Slot.unset).toArray = ls at hl ⊢
  have hl : lv_has ls 3 [(0, .ref o), (1, .int wv), (2, .int dv)] := hl
  have hwd : d9 ≠ w9 := fun z => by rw [z, hkw] at hkd; exact absurd hkd (by decide)
  refine lv_aload_n hx hb dX3_append_0 rfl (lv_at hl 0 rfl) ?_
  refine g_4_2 hx hb hts (by decide +kernel) hown hw hko (hts (.fieldLink RX3 18 "Pirateindex$Phrase" "length" "I") (by decide +kernel)) dX3_append_1 ?_
  rw [hn]
  refine lv_if_lt (tgt := 61) hx hb dX3_append_4 (by decide) (fun c_4 => absurd c_4 (nI_pos (by omega))) (fun c_4 => ?_)
  refine lv_aload_n hx hb dX3_append_7 rfl (lv_at hl 0 rfl) ?_
  refine g_4_2 hx hb hts (by decide +kernel) hown hw hko (hts (.fieldLink RX3 18 "Pirateindex$Phrase" "length" "I") (by decide +kernel)) dX3_append_8 ?_
  rw [hn]
  refine lv_aload_n hx hb dX3_append_11 rfl (lv_at hl 0 rfl) ?_
  refine g_4_0 (r := some w9) hx hb hts (by decide +kernel) hown hw hko (hts (.fieldLink RX3 9 "Pirateindex$Phrase" "words" "[I") (by decide +kernel)) hrw dX3_append_12 ?_
  refine m_alen_21 hx hb hw hkw dX3_append_15 ?_
  refine lv_icmp_ge (tgt := 61) hx hb dX3_append_16 (by decide) (fun c_16 => absurd c_16 (by rw [hNw]; exact nI_ge hn4 (by decide))) (fun c_16 => ?_)
  refine lv_aload_n hx hb dX3_append_19 rfl (lv_at hl 0 rfl) ?_
  refine g_4_2 hx hb hts (by decide +kernel) hown hw hko (hts (.fieldLink RX3 18 "Pirateindex$Phrase" "length" "I") (by decide +kernel)) dX3_append_20 ?_
  rw [hn]
  refine lv_aload_n hx hb dX3_append_23 rfl (lv_at hl 0 rfl) ?_
  refine g_4_1 (r := some d9) hx hb hts (by decide +kernel) hown hw hko (hts (.fieldLink RX3 15 "Pirateindex$Phrase" "distances" "[I") (by decide +kernel)) hrd dX3_append_24 ?_
  refine m_alen_22 hx hb hw hkd dX3_append_27 ?_
  refine lv_icmp_ge (tgt := 61) hx hb dX3_append_28 (by decide) (fun c_28 => absurd c_28 (by rw [hNd]; exact nI_ge hn4 (by decide))) (fun c_28 => ?_)
  refine lv_aload_n hx hb dX3_append_31 rfl (lv_at hl 0 rfl) ?_
  refine g_4_0 (r := some w9) hx hb hts (by decide +kernel) hown hw hko (hts (.fieldLink RX3 9 "Pirateindex$Phrase" "words" "[I") (by decide +kernel)) hrw dX3_append_32 ?_
  refine lv_aload_n hx hb dX3_append_35 rfl (lv_at hl 0 rfl) ?_
  refine g_4_2 hx hb hts (by decide +kernel) hown hw hko (hts (.fieldLink RX3 18 "Pirateindex$Phrase" "length" "I") (by decide +kernel)) dX3_append_36 ?_
  rw [hn]
  refine lv_iload_n hx hb dX3_append_39 rfl (lv_at hl 1 rfl) ?_
  refine m_iastore_21 hx hb hw hkw (by rw [hNw]; exact vp_in_nI hn4 (by decide))  dX3_append_40 (fun H locs hw => ?_)
  refine lv_aload_n hx hb dX3_append_41 rfl (lv_at hl 0 rfl) ?_
  refine g_4_1 (r := some d9) hx hb hts (by decide +kernel) hown hw hko (hts (.fieldLink RX3 15 "Pirateindex$Phrase" "distances" "[I") (by decide +kernel)) hrd dX3_append_42 ?_
  refine lv_aload_n hx hb dX3_append_45 rfl (lv_at hl 0 rfl) ?_
  refine g_4_2 hx hb hts (by decide +kernel) hown hw hko (hts (.fieldLink RX3 18 "Pirateindex$Phrase" "length" "I") (by decide +kernel)) dX3_append_46 ?_
  rw [hn]
  refine lv_iload_n hx hb dX3_append_49 rfl (lv_at hl 2 rfl) ?_
  refine m_iastore_22 hx hb hw hkd (by rw [hNd]; exact vp_in_nI hn4 (by decide))  dX3_append_50 (fun H locs hw => ?_)
  refine lv_aload_n hx hb dX3_append_51 rfl (lv_at hl 0 rfl) ?_
  refine lv_dup hx hb dX3_append_52 rfl ?_
  refine g_4_2 hx hb hts (by decide +kernel) hown hw hko (hts (.fieldLink RX3 18 "Pirateindex$Phrase" "length" "I") (by decide +kernel)) dX3_append_53 ?_
  rw [hn]
  refine lv_iconst (v := 1) hx hb dX3_append_56 (by decide) ?_
  refine lv_iadd hx hb dX3_append_57 ?_
  refine p_4_2 hx hb hts (by decide +kernel) hown hw hko (hts (.fieldLink RX3 18 "Pirateindex$Phrase" "length" "I") (by decide +kernel)) dX3_append_58 (fun H locs hw => ?_)
  exact W.vret hx hb hr (fun t ht hW => ⟨⟨(m_up2 I 42 o ((nI n) + 1), m_up (m_up A w9 (upd (A w9) (nI n).toNatClampNeg wv)) d9 (upd (m_up A w9 (upd (A w9) (nI n).toNatClampNeg wv) d9) (nI n).toNatClampNeg dv)), rfl, ⟨by rw [nI_1], by rw [nI_clamp (by omega), m_up_ne _ _ hwd]⟩, m_wo_out hw ht hW.alike⟩, m_wo_F hw ht⟩) (m_wo_L hw) dX3_append_61
set_option maxHeartbeats 400000 in
set_option maxRecDepth 100000 in
theorem c_X3_clear (l : Launch) {G : mG} {K : Nat → Nat} {I : Nat → Nat → Int32} {R : Nat → Nat → Option Nat} {F : Nat → UInt32} {A : Nat → Nat → Int32} {N : Nat → Nat} {L : Nat → List Nat} {T : Nat → List Int32} {J : Nat → Nat → Int64} {D : Nat → Nat → UInt64} {o : Nat} (hko : K o = 4) : Met l yX3_clear wsX3_clear ({ frames := 0, cells := 0, slots := 0, locals := 0 } : Room) (va_Pc [.ref o] (m_B G K I R F A N L T J D)) (va_Qv (fun (u : Nat → Nat → Int32) => u = m_up2 I 42 o 0) (fun u : Nat → Nat → Int32 => m_B G K u R F A N L T J D) (m_A G)) 0 0 (m_A G) := by
  refine Met.ofW (cc := cX3_clear) (maxL := 1) (ret := none) (by decide) rfl ?_
  intro p e s m args below meth c s₁ B hml hv
  obtain ⟨rfl, hB⟩ := hv
  have hx := B.exec
  have hb := B.bytes
  have hr := B.returns
  have hts := atoms_spec (ws := wsX3_clear) B.pre
  have hown : s.vm.findClass RX3 = some m.cls := findClass_of_methodNamed B.named
  have hlocks := B.notSynchronized
  have hw := m_wo_in hB
  have hl := lv_entry ([.ref o]) (n := 1) (Nat.le_of_ble_eq_true rfl)
  rw [lg_entry_eq]
  generalize (lg_sl ([.ref o]) ++ List.replicate (1 - (lg_sl ([.ref o])).length) Slot.unset).toArray = ls at hl ⊢
  have hl : lv_has ls 1 [(0, .ref o)] := hl
  refine lv_aload_n hx hb dX3_clear_0 rfl (lv_at hl 0 rfl) ?_
  refine lv_iconst (v := 0) hx hb dX3_clear_1 (by decide) ?_
  refine p_4_2 hx hb hts (by decide +kernel) hown hw hko (hts (.fieldLink RX3 18 "Pirateindex$Phrase" "length" "I") (by decide +kernel)) dX3_clear_2 (fun H locs hw => ?_)
  exact W.vret hx hb hr (fun t ht hW => ⟨⟨m_up2 I 42 o 0, rfl, rfl, m_wo_out hw ht hW.alike⟩, m_wo_F hw ht⟩) (m_wo_L hw) dX3_clear_5
set_option maxHeartbeats 400000 in
set_option maxRecDepth 100000 in
theorem c_X3_copyFrom (l : Launch) {G : mG} {K : Nat → Nat} {I : Nat → Nat → Int32} {R : Nat → Nat → Option Nat} {F : Nat → UInt32} {A : Nat → Nat → Int32} {N : Nat → Nat} {L : Nat → List Nat} {T : Nat → List Int32} {J : Nat → Nat → Int64} {D : Nat → Nat → UInt64} {o o2 w9 d9 w2 d2 n : Nat} (hko : K o = 4) (hrw : R 40 o = some w9) (hkw : K w9 = 21) (hNw : N w9 = 4) (hrd : R 41 o = some d9) (hkd : K d9 = 22) (hNd : N d9 = 4) (hk2 : K o2 = 4) (hrw2 : R 40 o2 = some w2) (hkw2 : K w2 = 21) (hNw2 : N w2 = 4) (hrd2 : R 41 o2 = some d2) (hkd2 : K d2 = 22) (hNd2 : N d2 = 4) (hn : I 42 o2 = nI n) (hn4 : n ≤ 4) (hoo : o2 ≠ o) (hww : w2 ≠ w9) (hdd : d2 ≠ d9) : Met l yX3_copyFrom wsX3_copyFrom ({ frames := 1, cells := 0, slots := 0, locals := 50 } : Room) (va_Pc [.ref o, .ref o2] (m_B G K I R F A N L T J D)) (va_Qv (fun (u : (Nat → Nat → Int32) × (Nat → Nat → Int32)) => u.1 = m_up2 I 42 o (nI n) ∧ (∀ b, b ≠ w9 → b ≠ d9 → u.2 b = A b) ∧ (∀ k, k < n → u.2 w9 k = A w2 k) ∧ ∀ k, k < n → u.2 d9 k = A d2 k) (fun u : (Nat → Nat → Int32) × (Nat → Nat → Int32) => m_B G K (u.1) R F (u.2) N L T J D) (m_A G)) 0 0 (m_A G) := by
  refine Met.ofW (cc := cX3_copyFrom) (maxL := 3) (ret := none) (by decide) rfl ?_
  intro p e s m args below meth c s₁ B hml hv
  obtain ⟨rfl, hB⟩ := hv
  have hx := B.exec
  have hb := B.bytes
  have hr := B.returns
  have hts := atoms_spec (ws := wsX3_copyFrom) B.pre
  have hown : s.vm.findClass RX3 = some m.cls := findClass_of_methodNamed B.named
  have hlocks := B.notSynchronized
  have hw := m_wo_in hB
  have hl := lv_entry ([.ref o, .ref o2]) (n := 3) (Nat.le_of_ble_eq_true rfl)
  rw [lg_entry_eq]
  generalize (lg_sl ([.ref o, .ref o2]) ++ List.replicate (3 - (lg_sl ([.ref o, .ref o2])).length) Slot.unset).toArray = ls at hl ⊢
  have hl : lv_has ls 3 [(0, .ref o), (1, .ref o2)] := hl
  have hwd : d9 ≠ w9 := fun z => by rw [z, hkw] at hkd; exact absurd hkd (by decide)
  have hwd2 : d9 ≠ w2 := fun z => by rw [z, hkw2] at hkd; exact absurd hkd (by decide)
  have hdw2 : d2 ≠ w9 := fun z => by rw [z, hkw] at hkd2; exact absurd hkd2 (by decide)
  refine lv_aload_n hx hb dX3_copyFrom_0 rfl (lv_at hl 0 rfl) ?_
  refine m_cv (va_runV (As := []) (rest := []) ⟨hx, hb, hml, hown, hts⟩ (c_X3_clear l hko) (cwV 0 hts gX3_copyFrom_X3_clear rfl rfl rfl (by decide +kernel) ⟨Nat.le_of_ble_eq_true rfl, Nat.le_of_ble_eq_true rfl⟩) ⟨m_blind m_B_calling, m_recv hw (m_ent_4 hko) rfl, fun U hU hW => ⟨rfl, m_wo_call hw hU hW⟩⟩ rfl rfl hl.1 rfl (lv_room (Nat.le_of_ble_eq_true rfl)) dX3_copyFrom_1 ⟨Nat.le_of_ble_eq_true rfl, Nat.le_of_ble_eq_true rfl⟩) hw (fun u_1 H locs hp_1 hw => ?_)
  have hw : m_wo G K u_1 R F A N L T J D s H locs := hw
  have eI0 : u_1 = m_up2 I 42 o 0 := hp_1
  refine lv_iconst (v := 0) hx hb dX3_copyFrom_4 (by decide) ?_
  refine lv_istore_n (lv' := [(2, .int 0), (0, .ref o), (1, .ref o2)]) hx hb dX3_copyFrom_5 rfl hl (by decide) rfl (fun ls hl => ?_)
  refine m_loop (σ := Nat × (Nat → Nat → Int32) × (Nat → Nat → Int32)) (fun a => n - (a.1)) (fun a H locs ls => ((a.1) ≤ n ∧ (a.2.1) = m_up2 I 42 o (nI (a.1)) ∧ (∀ b, b ≠ w9 → b ≠ d9 → (a.2.2) b = A b) ∧ (∀ k, k < (a.1) → (a.2.2) w9 k = A w2 k) ∧ ∀ k, k < (a.1) → (a.2.2) d9 k = A d2 k) ∧ m_wo G K (a.2.1) R F (a.2.2) N L T J D s H locs ∧ lv_has ls 3 [(0, .ref o), (1, .ref o2), (2, .int (nI (a.1)))]) ?_ (0, u_1, A) ⟨⟨Nat.zero_le _, eI0, fun _ _ _ => rfl, fun _ h => absurd h (Nat.not_lt_zero _), fun _ h => absurd h (Nat.not_lt_zero _)⟩, hw, lv_sub hl [1, 2, 0] rfl⟩
  rintro ⟨i, Ii, Ai⟩ H locs ls ⟨hinv, hw, hl⟩ ih
  dsimp only at hinv hw hl
  obtain ⟨hi0, eIi, hA1, hA2, hA3⟩ := hinv
  have hlen : Ii 42 o2 = nI n := by rw [eIi, m_up2_ne _ _ hoo]; exact hn
  have hlo : Ii 42 o = nI i := by rw [eIi, m_up2_self]
  refine lv_iload_n hx hb dX3_copyFrom_6 rfl (lv_at hl 2 rfl) ?_
  refine lv_aload_n hx hb dX3_copyFrom_7 rfl (lv_at hl 1 rfl) ?_
  refine g_4_2 hx hb hts (by decide +kernel) hown hw hk2 (hts (.fieldLink RX3 18 "Pirateindex$Phrase" "length" "I") (by decide +kernel)) dX3_copyFrom_8 ?_
  rw [hlen]
  refine lv_icmp_ge (tgt := 34) hx hb dX3_copyFrom_11 (by decide) (fun c_11 => ?_) (fun c_11 => ?_)
  · skip
    rw [nI_leI (by omega) (by omega)] at c_11
    have hi : i = n := by omega
    rw [hi] at eIi hA2 hA3
    exact W.vret hx hb hr (fun t ht hW => ⟨⟨(Ii, Ai), rfl, ⟨eIi, hA1, hA2, hA3⟩, m_wo_out hw ht hW.alike⟩, m_wo_F hw ht⟩) (m_wo_L hw) dX3_copyFrom_34
  · skip
    rw [nI_leI (by omega) (by omega)] at c_11
    refine lv_aload_n hx hb dX3_copyFrom_14 rfl (lv_at hl 0 rfl) ?_
    refine lv_aload_n hx hb dX3_copyFrom_15 rfl (lv_at hl 1 rfl) ?_
    refine lv_iload_n hx hb dX3_copyFrom_16 rfl (lv_at hl 2 rfl) ?_
    refine m_ci (va_runV (As := [.int (nI i)]) (rest := [.ref o]) ⟨hx, hb, hml, hown, hts⟩ (c_X3_wordAt l hk2 hrw2 hkw2 hNw2 (by omega)) (cwV 1 hts gX3_copyFrom_X3_wordAt rfl rfl rfl (by decide +kernel) ⟨Nat.le_of_ble_eq_true rfl, Nat.le_of_ble_eq_true rfl⟩) ⟨m_blind m_B_calling, m_recv hw (m_ent_4 hk2) rfl, fun U hU hW => ⟨rfl, m_wo_call hw hU hW⟩⟩ rfl rfl hl.1 rfl (lv_room (Nat.le_of_ble_eq_true rfl)) dX3_copyFrom_17 ⟨Nat.le_of_ble_eq_true rfl, Nat.le_of_ble_eq_true rfl⟩) hw (fun r_17 u_17 H locs hp_17 hw => ?_)
    obtain rfl : r_17 = A w2 i := by rw [hp_17, hA1 w2 hww (Ne.symm hwd2)]
    refine lv_aload_n hx hb dX3_copyFrom_20 rfl (lv_at hl 1 rfl) ?_
    refine lv_iload_n hx hb dX3_copyFrom_21 rfl (lv_at hl 2 rfl) ?_
    refine m_ci (va_runV (As := [.int (nI i)]) (rest := [.int (A w2 i), .ref o]) ⟨hx, hb, hml, hown, hts⟩ (c_X3_distanceAt l hk2 hrd2 hkd2 hNd2 (by omega)) (cwV 1 hts gX3_copyFrom_X3_distanceAt rfl rfl rfl (by decide +kernel) ⟨Nat.le_of_ble_eq_true rfl, Nat.le_of_ble_eq_true rfl⟩) ⟨m_blind m_B_calling, m_recv hw (m_ent_4 hk2) rfl, fun U hU hW => ⟨rfl, m_wo_call hw hU hW⟩⟩ rfl rfl hl.1 rfl (lv_room (Nat.le_of_ble_eq_true rfl)) dX3_copyFrom_22 ⟨Nat.le_of_ble_eq_true rfl, Nat.le_of_ble_eq_true rfl⟩) hw (fun r_22 u_22 H locs hp_22 hw => ?_)
    obtain rfl : r_22 = A d2 i := by rw [hp_22, hA1 d2 hdw2 hdd]
    refine m_cv (va_runV (As := [.int (A w2 i), .int (A d2 i)]) (rest := []) ⟨hx, hb, hml, hown, hts⟩ (c_X3_append l hko hrw hkw hNw hrd hkd hNd hlo (by omega)) (cwV 2 hts gX3_copyFrom_X3_append rfl rfl rfl (by decide +kernel) ⟨Nat.le_of_ble_eq_true rfl, Nat.le_of_ble_eq_true rfl⟩) ⟨m_blind m_B_calling, m_recv hw (m_ent_4 hko) rfl, fun U hU hW => ⟨rfl, m_wo_call hw hU hW⟩⟩ rfl rfl hl.1 rfl (lv_room (Nat.le_of_ble_eq_true rfl)) dX3_copyFrom_25 ⟨Nat.le_of_ble_eq_true rfl, Nat.le_of_ble_eq_true rfl⟩) hw (fun u_25 H locs hp_25 hw => ?_)
    obtain ⟨I_2, A_3⟩ := u_25
    have hw : m_wo G K I_2 R F A_3 N L T J D s H locs := hw
    dsimp only at hp_25
    obtain ⟨e1I, e1A⟩ := hp_25
    have hI9 : I_2 = m_up2 I 42 o (nI (i + 1)) := by rw [e1I, eIi]; funext f b; unfold m_up2; split <;> simp_all
    have hB1 : ∀ b, b ≠ w9 → b ≠ d9 → A_3 b = A b := fun b h1 h2 => by rw [e1A, m_up_ne _ _ h2, m_up_ne _ _ h1]; exact hA1 b h1 h2
    have hB2 : ∀ k, k < i + 1 → A_3 w9 k = A w2 k := fun k hk => by
      rw [e1A, m_up_ne _ _ (Ne.symm hwd), m_up_self]
      unfold upd
      by_cases h : k = i
      · rw [if_pos h, h]
      · rw [if_neg h]; exact hA2 k (by omega)
    have hB3 : ∀ k, k < i + 1 → A_3 d9 k = A d2 k := fun k hk => by
      rw [e1A, m_up_self]
      unfold upd
      by_cases h : k = i
      · rw [if_pos h, h]
      · rw [if_neg h]; exact hA3 k (by omega)
    refine lv_iinc (v := nI (i + 1)) (lv' := [(2, .int (nI (i + 1))), (0, .ref o), (1, .ref o2)]) hx hb dX3_copyFrom_28 hl (k := 2) rfl (nI_1 _) (by decide) rfl (fun ls hl => ?_)
    refine lv_goto (tgt := 6) hx hb dX3_copyFrom_31 (by decide) ?_
    exact ih (i + 1, I_2, A_3) _ _ _ (by dsimp only; omega) ⟨⟨by omega, hI9, hB1, hB2, hB3⟩, hw, lv_sub hl [1, 2, 0] rfl⟩
set_option maxHeartbeats 400000 in
set_option maxRecDepth 100000 in
theorem c_X5_isOpen (l : Launch) {G : mG} {K : Nat → Nat} {I : Nat → Nat → Int32} {R : Nat → Nat → Option Nat} {F : Nat → UInt32} {A : Nat → Nat → Int32} {N : Nat → Nat} {L : Nat → List Nat} {T : Nat → List Int32} {J : Nat → Nat → Int64} {D : Nat → Nat → UInt64} {o : Nat} {sg9 : Nat} (hko : K o = 6) : Met l yX5_isOpen wsX5_isOpen ({ frames := 0, cells := 0, slots := 0, locals := 0 } : Room) (va_Pc [.ref o, .ref sg9] (m_B G K I R F A N L T J D)) (va_Qi (fun (r : Int32) (_ : Unit) => r = b2i (decide (some sg9 = R 61 o))) (fun u : Unit => m_B G K I R F A N L T J D) (m_A G)) 0 0 (m_A G) := by
  refine Met.ofW (cc := cX5_isOpen) (maxL := 2) (ret := (some .boolean)) (by decide) rfl ?_
  intro p e s m args below meth c s₁ B hml hv
  obtain ⟨rfl, hB⟩ := hv
  have hx := B.exec
  have hb := B.bytes
  have hr := B.returns
  have hts := atoms_spec (ws := wsX5_isOpen) B.pre
  have hown : s.vm.findClass RX5 = some m.cls := findClass_of_methodNamed B.named
  have hlocks := B.notSynchronized
  have hw := m_wo_in hB
  have hl := lv_entry ([.ref o, .ref sg9]) (n := 2) (Nat.le_of_ble_eq_true rfl)
  rw [lg_entry_eq]
  generalize (lg_sl ([.ref o, .ref sg9]) ++ List.replicate (2 - (lg_sl ([.ref o, .ref sg9])).length) Slot.unset).toArray = ls at hl ⊢
  have hl : lv_has ls 2 [(0, .ref o), (1, .ref sg9)] := hl
  refine lv_aload_n hx hb dX5_isOpen_0 rfl (lv_at hl 1 rfl) ?_
  refine lv_ifnull hx hb dX5_isOpen_1 ?_
  refine lv_aload_n hx hb dX5_isOpen_4 rfl (lv_at hl 1 rfl) ?_
  refine lv_aload_n hx hb dX5_isOpen_5 rfl (lv_at hl 0 rfl) ?_
  refine g_6_1 (r := (R 61 o)) hx hb hts (by decide +kernel) hown hw hko (hts (.fieldLink RX5 23 "Pirateindex$Shelf" "open" "LPirateindex$Segment;") (by decide +kernel)) rfl dX5_isOpen_6 ?_
  refine lv_acmp_ne (rx := (some sg9)) (ry := (R 61 o)) (tgt := 16) hx hb dX5_isOpen_9 (by decide) (fun c_9 => ?_) (fun c_9 => ?_)
  · skip
    refine lv_iconst (v := 0) hx hb dX5_isOpen_16 (by decide) ?_
    exact W.zret (v := 0) hx hb hr (by rfl) (fun t ht hW => ⟨⟨0, (), rfl, (by simp [b2i, c_9]), m_wo_out hw ht hW.alike⟩, m_wo_F hw ht⟩) (m_wo_L hw) dX5_isOpen_17
  · skip
    refine lv_iconst (v := 1) hx hb dX5_isOpen_12 (by decide) ?_
    refine lv_goto (tgt := 17) hx hb dX5_isOpen_13 (by decide) ?_
    exact W.zret (v := 1) hx hb hr (by rfl) (fun t ht hW => ⟨⟨1, (), rfl, (by simp [b2i, c_9]), m_wo_out hw ht hW.alike⟩, m_wo_F hw ht⟩) (m_wo_L hw) dX5_isOpen_17
set_option maxHeartbeats 400000 in
set_option maxRecDepth 100000 in
theorem c_X5_isOpen_n (l : Launch) {G : mG} {K : Nat → Nat} {I : Nat → Nat → Int32} {R : Nat → Nat → Option Nat} {F : Nat → UInt32} {A : Nat → Nat → Int32} {N : Nat → Nat} {L : Nat → List Nat} {T : Nat → List Int32} {J : Nat → Nat → Int64} {D : Nat → Nat → UInt64} {o : Nat} (hko : K o = 6) : Met l yX5_isOpen wsX5_isOpen ({ frames := 0, cells := 0, slots := 0, locals := 0 } : Room) (va_Pc [.ref o, .null] (m_B G K I R F A N L T J D)) (va_Qi (fun (r : Int32) (_ : Unit) => r = b2i (decide (False))) (fun u : Unit => m_B G K I R F A N L T J D) (m_A G)) 0 0 (m_A G) := by
  refine Met.ofW (cc := cX5_isOpen) (maxL := 2) (ret := (some .boolean)) (by decide) rfl ?_
  intro p e s m args below meth c s₁ B hml hv
  obtain ⟨rfl, hB⟩ := hv
  have hx := B.exec
  have hb := B.bytes
  have hr := B.returns
  have hts := atoms_spec (ws := wsX5_isOpen) B.pre
  have hown : s.vm.findClass RX5 = some m.cls := findClass_of_methodNamed B.named
  have hlocks := B.notSynchronized
  have hw := m_wo_in hB
  have hl := lv_entry ([.ref o, .null]) (n := 2) (Nat.le_of_ble_eq_true rfl)
  rw [lg_entry_eq]
  generalize (lg_sl ([.ref o, .null]) ++ List.replicate (2 - (lg_sl ([.ref o, .null])).length) Slot.unset).toArray = ls at hl ⊢
  have hl : lv_has ls 2 [(0, .ref o), (1, .null)] := hl
  refine lv_aload_nN hx hb dX5_isOpen_0 rfl (lv_at hl 1 rfl) ?_
  refine lv_ifnullN (tgt := 16) hx hb dX5_isOpen_1 (by decide) ?_
  refine lv_iconst (v := 0) hx hb dX5_isOpen_16 (by decide) ?_
  exact W.zret (v := 0) hx hb hr (by rfl) (fun t ht hW => ⟨⟨0, (), rfl, (by simp [b2i, ]), m_wo_out hw ht hW.alike⟩, m_wo_F hw ht⟩) (m_wo_L hw) dX5_isOpen_17
set_option maxHeartbeats 400000 in
set_option maxRecDepth 100000 in
theorem c_X6_pay (l : Launch) {G : mG} {K : Nat → Nat} {I : Nat → Nat → Int32} {R : Nat → Nat → Option Nat} {F : Nat → UInt32} {A : Nat → Nat → Int32} {N : Nat → Nat} {L : Nat → List Nat} {T : Nat → List Int32} {J : Nat → Nat → Int64} {D : Nat → Nat → UInt64} {o : Nat} {pr : Int32} (hko : K o = 7) : Met l yX6_pay wsX6_pay ({ frames := 1, cells := 0, slots := 0, locals := 30 } : Room) (va_Pc [.ref o, .int pr] (m_B G K I R F A N L T J D)) (va_Qv (fun (u : Nat → Nat → Int32) => u = m_up2 I 72 o (I 72 o - (if I 72 o < pr then I 72 o else pr))) (fun u : Nat → Nat → Int32 => m_B G K u R F A N L T J D) (m_A G)) 0 0 (m_A G) := by
  refine Met.ofW (cc := cX6_pay) (maxL := 2) (ret := none) (by decide) rfl ?_
  intro p e s m args below meth c s₁ B hml hv
  obtain ⟨rfl, hB⟩ := hv
  have hx := B.exec
  have hb := B.bytes
  have hr := B.returns
  have hts := atoms_spec (ws := wsX6_pay) B.pre
  have hown : s.vm.findClass RX6 = some m.cls := findClass_of_methodNamed B.named
  have hlocks := B.notSynchronized
  have hw := m_wo_in hB
  have hl := lv_entry ([.ref o, .int pr]) (n := 2) (Nat.le_of_ble_eq_true rfl)
  rw [lg_entry_eq]
  generalize (lg_sl ([.ref o, .int pr]) ++ List.replicate (2 - (lg_sl ([.ref o, .int pr])).length) Slot.unset).toArray = ls at hl ⊢
  have hl : lv_has ls 2 [(0, .ref o), (1, .int pr)] := hl
  refine lv_aload_n hx hb dX6_pay_0 rfl (lv_at hl 0 rfl) ?_
  refine lv_dup hx hb dX6_pay_1 rfl ?_
  refine g_7_2 hx hb hts (by decide +kernel) hown hw hko (hts (.fieldLink RX6 25 "Pirateindex$Ship" "purse" "I") (by decide +kernel)) dX6_pay_2 ?_
  refine lv_iload_n hx hb dX6_pay_5 rfl (lv_at hl 1 rfl) ?_
  refine lv_aload_n hx hb dX6_pay_6 rfl (lv_at hl 0 rfl) ?_
  refine g_7_2 hx hb hts (by decide +kernel) hown hw hko (hts (.fieldLink RX6 25 "Pirateindex$Ship" "purse" "I") (by decide +kernel)) dX6_pay_7 ?_
  refine va_mmin hx hb (by rw [hml]; exact hl.1.symm) hown (hts (.methodLink RX6 29 Lib.Math.min.name) (by decide +kernel)) (hts (.static Lib.Math.min.name) (by decide +kernel)) (hts (.initialized "java/lang/Math") (by decide +kernel)) (hts (.code Lib.Math.min.name Lib.Math.min.code 2 (some .int)) (by decide +kernel)) (Nat.le_of_ble_eq_true rfl) (Nat.le_of_ble_eq_true rfl) (Nat.le_of_ble_eq_true rfl) (Nat.le_of_ble_eq_true rfl) dX6_pay_10 ?_
  refine lv_isub hx hb dX6_pay_13 ?_
  refine p_7_2 hx hb hts (by decide +kernel) hown hw hko (hts (.fieldLink RX6 25 "Pirateindex$Ship" "purse" "I") (by decide +kernel)) dX6_pay_14 (fun H locs hw => ?_)
  exact W.vret hx hb hr (fun t ht hW => ⟨⟨m_up2 I 72 o ((I 72 o) - (if (I 72 o) < pr then (I 72 o) else pr)), rfl, rfl, m_wo_out hw ht hW.alike⟩, m_wo_F hw ht⟩) (m_wo_L hw) dX6_pay_17
