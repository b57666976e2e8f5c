set_option maxHeartbeats 400000 in
set_option maxRecDepth 100000 in
theorem c_J5_append_3fe6f (l : Launch) {G : mG} {K : Nat → Nat} {I : Nat → Nat → Int32} {R : Nat → Nat → Option Nat} {F : Nat → UInt32} {A : Nat → Nat → Int32} {N : Nat → Nat} {L : Nat → List Nat} {T : Nat → List Int32} {J : Nat → Nat → Int64} {D : Nat → Nat → UInt64} {o ch : Nat} (hko : K o = 12) (hr1 : R 120 o ≠ none) (hlt : (T o).length < 16) (hch : ch < 256) : Met l yJ5_append_3fe6f wsJ5_append_3fe6f ({ frames := 1, cells := 0, slots := 0, locals := 40 } : Room) (va_Pc [.ref o, .int (nI ch)] (m_B G K I R F A N L T J D)) (va_Qq (fun (r : Option Nat) (u : (Nat → Nat → Int32) × (Nat → List Int32)) => r = some o ∧ (∀ b, K b ≠ 41 → u.1 b = A b) ∧ u.2 = m_up T o (T o ++ [nI ch])) (fun u : (Nat → Nat → Int32) × (Nat → List Int32) => m_B G K I R F (u.1) N L (u.2) J D) (m_A G)) 0 0 (m_A G) := by
  refine Met.ofW (cc := cJ5_append_3fe6f) (maxL := 2) (ret := (some (.object "java/lang/AbstractStringBuilder"))) (by decide) rfl ?_
  intro p e s m args below meth c s₁ B hml hv
  obtain ⟨rfl, hB⟩ := hv
  have hx := B.exec
  have hb := B.bytes
  have hr := B.returns
  have hts := atoms_spec (ws := wsJ5_append_3fe6f) B.pre
  have hown : s.vm.findClass RJ5 = some m.cls := findClass_of_methodNamed B.named
  have hlocks := B.notSynchronized
  have hw := m_wo_in hB
  have hl := lv_entry ([.ref o, .int (nI ch)]) (n := 2) (Nat.le_of_ble_eq_true rfl)
  rw [lg_entry_eq]
  generalize (lg_sl ([.ref o, .int (nI ch)]) ++ List.replicate (2 - (lg_sl ([.ref o, .int (nI ch)])).length) Slot.unset).toArray = ls at hl ⊢
  have hl : lv_has ls 2 [(0, .ref o), (1, .int (nI ch))] := hl
  obtain ⟨e1, hr0, hke, hoe, hle, h16, h1k, hcs⟩ := m_text hw hko hr1
  have hoq : o ≠ e1 := fun z => by rw [← z, hko] at hke; exact absurd hke (by decide)
  refine lv_aload_n hx hb dJ5_append_3fe6f_0 rfl (lv_at hl 0 rfl) ?_
  refine lv_aload_n hx hb dJ5_append_3fe6f_1 rfl (lv_at hl 0 rfl) ?_
  refine g_12_3 hx hb hts (by decide +kernel) hown hw hko (fun _ h9 => h9) (hts (.fieldLink RJ5 79 "java/lang/AbstractStringBuilder" "count" "I") (by decide +kernel)) dJ5_append_3fe6f_2 ?_
  refine lv_iconst (v := 1) hx hb dJ5_append_3fe6f_5 (by decide) ?_
  refine lv_iadd hx hb dJ5_append_3fe6f_6 ?_
  rw [nI_1]
  refine m_cv (va_runU (As := [.int (nI ((T o).length + 1))]) (rest := []) ⟨hx, hb, hml, hown, hts⟩ (c_J5_ensureCapacityInternal_d00df l hko hr1 (by omega)) (va_cwU 1 hts gJ5_append_3fe6f_J5_ensureCapacityInternal_d00df_u100J4 rfl rfl rfl rfl (by decide +kernel) ⟨Nat.le_of_ble_eq_true rfl, Nat.le_of_ble_eq_true rfl⟩) ⟨m_blind m_B_calling, m_recv hw (m_ent_12 hko) rfl, fun U hU hW => ⟨rfl, m_wo_call hw hU hW⟩⟩ rfl rfl hl.1 rfl (lv_room (Nat.le_of_ble_eq_true rfl)) dJ5_append_3fe6f_7 ⟨Nat.le_of_ble_eq_true rfl, Nat.le_of_ble_eq_true rfl⟩) hw (fun u_7 H locs hp_7 hw => ?_)
  refine lv_aload_n hx hb dJ5_append_3fe6f_10 rfl (lv_at hl 0 rfl) ?_
  refine m_ci (va_runU (As := []) (rest := []) ⟨hx, hb, hml, hown, hts⟩ (c_J5_isLatin1_aae02 l hko) (va_cwU 0 hts gJ5_append_3fe6f_J5_isLatin1_aae02_u83J4 rfl rfl rfl rfl (by decide +kernel) ⟨Nat.le_of_ble_eq_true rfl, Nat.le_of_ble_eq_true rfl⟩) ⟨m_blind m_B_calling, m_recv hw (m_ent_12 hko) rfl, fun U hU hW => ⟨rfl, m_wo_call hw hU hW⟩⟩ rfl rfl hl.1 rfl (lv_room (Nat.le_of_ble_eq_true rfl)) dJ5_append_3fe6f_11 ⟨Nat.le_of_ble_eq_true rfl, Nat.le_of_ble_eq_true rfl⟩) hw (fun r_11 u_11 H locs hp_11 hw => ?_)
  obtain rfl : r_11 = 1 := hp_11
  refine lv_if_eq (tgt := 45) hx hb dJ5_append_3fe6f_14 (by decide) (fun c_14 => absurd c_14 (by decide)) (fun c_14 => ?_)
  refine lv_iload_n hx hb dJ5_append_3fe6f_17 rfl (lv_at hl 1 rfl) ?_
  refine m_ci (va_runS (As := [.int (nI ch)]) (rest := []) ⟨hx, hb, hml, hown, hts⟩ (c_J1_canEncode_fc78d l hch) (va_cwS 1 hts gJ5_append_3fe6f_J1_canEncode_fc78d rfl rfl rfl (by decide +kernel) ⟨Nat.le_of_ble_eq_true rfl, Nat.le_of_ble_eq_true rfl⟩) ⟨m_blind m_B_calling, fun U hU hW => ⟨rfl, m_wo_call hw hU hW⟩⟩ rfl rfl hl.1 rfl (lv_room (Nat.le_of_ble_eq_true rfl)) dJ5_append_3fe6f_18 ⟨Nat.le_of_ble_eq_true rfl, Nat.le_of_ble_eq_true rfl⟩) hw (fun r_18 u_18 H locs hp_18 hw => ?_)
  obtain rfl : r_18 = 1 := hp_18
  refine lv_if_eq (tgt := 45) hx hb dJ5_append_3fe6f_21 (by decide) (fun c_21 => absurd c_21 (by decide)) (fun c_21 => ?_)
  refine lv_aload_n hx hb dJ5_append_3fe6f_24 rfl (lv_at hl 0 rfl) ?_
  refine g_12_0 (r9 := (some e1)) hx hb hts (by decide +kernel) hown hw hko (fun _ h9 => h9) (hts (.fieldLink RJ5 15 "java/lang/AbstractStringBuilder" "value" "[B") (by decide +kernel)) hr0 dJ5_append_3fe6f_25 ?_
  refine lv_aload_n hx hb dJ5_append_3fe6f_28 rfl (lv_at hl 0 rfl) ?_
  refine lv_dup hx hb dJ5_append_3fe6f_29 rfl ?_
  refine g_12_3 hx hb hts (by decide +kernel) hown hw hko (fun _ h9 => h9) (hts (.fieldLink RJ5 79 "java/lang/AbstractStringBuilder" "count" "I") (by decide +kernel)) dJ5_append_3fe6f_30 ?_
  refine lv_dup_x1 hx hb dJ5_append_3fe6f_33 rfl rfl ?_
  refine lv_iconst (v := 1) hx hb dJ5_append_3fe6f_34 (by decide) ?_
  refine lv_iadd hx hb dJ5_append_3fe6f_35 ?_
  have hoB := (hw.2.2.1.1 o (by rw [hko]; decide)).1
  have hqB := (hw.2.2.1.1 e1 (by rw [hke]; decide)).1
  have hLL := hw.2.2.2.1.2.2
  have hE9 := hw.2.2.1.2.1 e1 _ (m_ent_41 hke)
  rw [nI_1]
  refine y_put hx hb hts (by decide +kernel) tyJ4 tyJ4_ok nmJ4 hown hw.1 (hw.2.2.1.2.1 o _ (m_ent_12 hko)) rfl 3 (by decide) (hts (.fieldLink RJ5 79 "java/lang/AbstractStringBuilder" "count" "I") (by decide +kernel)) (fun _ h9 => h9) (by decide) (ty := .int) (by decide +kernel) rfl rfl (by simp) dJ5_append_3fe6f_36 (fun H1 k9 hz1 hq1 hat1 => ?_)
  refine lv_iload_n hx hb dJ5_append_3fe6f_39 rfl (lv_at hl 1 rfl) ?_
  refine lv_i2b hx hb dJ5_append_3fe6f_40 rfl ?_
  refine y_bast hx hb hw.1 (hE9.kept (hq1 e1 (Ne.symm hoq))) (vp_in_nI (by omega) (by omega)) dJ5_append_3fe6f_41 (fun H2 k8 hz2 hq2 hat2 => ?_)
  rw [nI_clamp (by omega), vp_nar_byte] at hat2
  have hbb : (nI ch).toInt8.toInt32.toInt8.toInt32 = sb_b ch := by unfold sb_b; simp
  have hlen2 : (T o ++ [nI ch]).length = (T o).length + 1 := by rw [List.length_append]; rfl
  have hLL2 : ∀ q : Loc, q ∈ (locs ++ [(⟨o, k9⟩ : Loc)]) ++ [(⟨e1, k8⟩ : Loc)] → G.2.2.1 ≤ q.base := fun q hq => by
    simp only [List.mem_append, List.mem_singleton] at hq
    rcases hq with (h | rfl) | rfl
    · exact hLL q (by simpa using h)
    · exact hoB
    · exact hqB
  have hw := m_fin_T (t' := T o ++ [nI ch]) hw hko hr0 hke hoe (by rw [hlen2]; omega) h16 h1k (fun j hj => by
    rw [hlen2] at hj
    by_cases hj2 : j = (T o).length
    · refine ⟨ch, hch, by rw [hj2]; simp, ?_⟩
      unfold upd
      rw [if_pos hj2]
      exact hbb
    · obtain ⟨c9, h1, h2, h3⟩ := hcs j (by omega)
      refine ⟨c9, h1, by rw [List.getElem?_append_left (by omega)]; exact h2, ?_⟩
      unfold upd
      rw [if_neg hj2]
      exact h3) (by omega) (fun b b1 b2 => (hq2 b b2).trans (hq1 b b1)) hLL2 (by rw [hlen2]; simpa [hr0, va_rf] using hat1.kept (hq2 o hoq)) hat2
  refine lv_goto (tgt := 75) hx hb dJ5_append_3fe6f_42 (by decide) ?_
  refine lv_aload_n hx hb dJ5_append_3fe6f_75 rfl (lv_at hl 0 rfl) ?_
  exact W.aret (v := .ref o) hx hb hr (Or.inl ⟨_, rfl⟩) (Or.inr ⟨_, rfl⟩) (fun t ht hW => ⟨⟨(some o), (m_up A e1 (upd (A e1) (T o).length (nI ch).toInt8.toInt32.toInt8.toInt32), m_up T o (T o ++ [nI ch])), rfl, ⟨rfl, fun b hb => m_up_ne _ _ (fun z => hb (by rw [z]; exact hke)), rfl⟩, m_wo_out hw ht hW.alike⟩, m_wo_F hw ht⟩) (m_wo_L hw) dJ5_append_3fe6f_76
set_option maxHeartbeats 400000 in
set_option maxRecDepth 100000 in
theorem c_J4_append_cf468 (l : Launch) {G : mG} {K : Nat → Nat} {I : Nat → Nat → Int32} {R : Nat → Nat → Option Nat} {F : Nat → UInt32} {A : Nat → Nat → Int32} {N : Nat → Nat} {L : Nat → List Nat} {T : Nat → List Int32} {J : Nat → Nat → Int64} {D : Nat → Nat → UInt64} {o ch : Nat} (hko : K o = 12) (hr1 : R 120 o ≠ none) (hlt : (T o).length < 16) (hch : ch < 256) : Met l yJ4_append_cf468 wsJ4_append_cf468 ({ frames := 2, cells := 0, slots := 0, locals := 70 } : Room) (va_Pc [.ref o, .int (nI ch)] (m_B G K I R F A N L T J D)) (va_Qq (fun (r : Option Nat) (u : (Nat → Nat → Int32) × (Nat → List Int32)) => r = some o ∧ (∀ b, K b ≠ 41 → u.1 b = A b) ∧ u.2 = m_up T o (T o ++ [nI ch])) (fun u : (Nat → Nat → Int32) × (Nat → List Int32) => m_B G K I R F (u.1) N L (u.2) J D) (m_A G)) 0 0 (m_A G) := by
  refine Met.ofW (cc := cJ4_append_cf468) (maxL := 2) (ret := (some (.object "java/lang/StringBuilder"))) (by decide) rfl ?_
  intro p e s m args below meth c s₁ B hml hv
  obtain ⟨rfl, hB⟩ := hv
  have hx := B.exec
  have hb := B.bytes
  have hr := B.returns
  have hts := atoms_spec (ws := wsJ4_append_cf468) B.pre
  have hown : s.vm.findClass RJ4 = some m.cls := findClass_of_methodNamed B.named
  have hlocks := B.notSynchronized
  have hw := m_wo_in hB
  have hl := lv_entry ([.ref o, .int (nI ch)]) (n := 2) (Nat.le_of_ble_eq_true rfl)
  rw [lg_entry_eq]
  generalize (lg_sl ([.ref o, .int (nI ch)]) ++ List.replicate (2 - (lg_sl ([.ref o, .int (nI ch)])).length) Slot.unset).toArray = ls at hl ⊢
  have hl : lv_has ls 2 [(0, .ref o), (1, .int (nI ch))] := hl
  refine lv_aload_n hx hb dJ4_append_cf468_0 rfl (lv_at hl 0 rfl) ?_
  refine lv_iload_n hx hb dJ4_append_cf468_1 rfl (lv_at hl 1 rfl) ?_
  refine m_cq (va_runSU (As := [.int (nI ch)]) (rest := []) (hw.1.1 1 _ rfl).2 ⟨hx, hb, hml, hown, hts⟩ (c_J5_append_3fe6f l hko hr1 hlt hch) (va_cwSU 1 hts gJ4_append_cf468_J5_append_3fe6f_s50 rfl rfl rfl (by decide +kernel) ⟨Nat.le_of_ble_eq_true rfl, Nat.le_of_ble_eq_true rfl⟩) ⟨m_blind m_B_calling, m_recv hw (m_ent_12 hko) rfl, fun U hU hW => ⟨rfl, m_wo_call hw hU hW⟩⟩ rfl rfl hl.1 rfl (lv_room (Nat.le_of_ble_eq_true rfl)) dJ4_append_cf468_2 ⟨Nat.le_of_ble_eq_true rfl, Nat.le_of_ble_eq_true rfl⟩) hw (fun r_2 u_2 H locs hp_2 hw => ?_)
  obtain ⟨A_1, T_2⟩ := u_2
  have hw : m_wo G K I R F A_1 N L T_2 J D s H locs := hw
  dsimp only at hp_2
  obtain ⟨hr9, hp9⟩ := hp_2
  obtain rfl : r_2 = some o := hr9
  refine lv_pop hx hb dJ4_append_cf468_5 rfl ?_
  refine lv_aload_n hx hb dJ4_append_cf468_6 rfl (lv_at hl 0 rfl) ?_
  exact W.aret (v := .ref o) hx hb hr (Or.inl ⟨_, rfl⟩) (Or.inr ⟨_, rfl⟩) (fun t ht hW => ⟨⟨(some o), (A_1, T_2), rfl, ⟨rfl, hp9⟩, m_wo_out hw ht hW.alike⟩, m_wo_F hw ht⟩) (m_wo_L hw) dJ4_append_cf468_7
set_option maxHeartbeats 400000 in
set_option maxRecDepth 100000 in
theorem c_J0_checkIndex_df160 (l : Launch) {G : mG} {K : Nat → Nat} {I : Nat → Nat → Int32} {R : Nat → Nat → Option Nat} {F : Nat → UInt32} {A : Nat → Nat → Int32} {N : Nat → Nat} {L : Nat → List Nat} {T : Nat → List Int32} {J : Nat → Nat → Int64} {D : Nat → Nat → UInt64} {i n : Nat} (hi : i < n) (hn : n ≤ 1000) : Met l yJ0_checkIndex_df160 wsJ0_checkIndex_df160 ({ frames := 1, cells := 0, slots := 0, locals := 40 } : Room) (va_Pc [.int (nI i), .int (nI n)] (m_B G K I R F A N L T J D)) (va_Qv (fun (_ : Unit) => True) (fun u : Unit => m_B G K I R F A N L T J D) (m_A G)) 0 0 (m_A G) := by
  refine Met.ofW (cc := cJ0_checkIndex_df160) (maxL := 2) (ret := none) (by decide) rfl ?_
  intro p e s m args below meth c s₁ B hml hv
  obtain ⟨rfl, hB⟩ := hv
  have hx := B.exec
  have hb := B.bytes
  have hr := B.returns
  have hts := atoms_spec (ws := wsJ0_checkIndex_df160) B.pre
  have hown : s.vm.findClass RJ0 = some m.cls := findClass_of_methodNamed B.named
  have hlocks := B.notSynchronized
  have hw := m_wo_in hB
  have hl := lv_entry ([.int (nI i), .int (nI n)]) (n := 2) (Nat.le_of_ble_eq_true rfl)
  rw [lg_entry_eq]
  generalize (lg_sl ([.int (nI i), .int (nI n)]) ++ List.replicate (2 - (lg_sl ([.int (nI i), .int (nI n)])).length) Slot.unset).toArray = ls at hl ⊢
  have hl : lv_has ls 2 [(0, .int (nI i)), (1, .int (nI n))] := hl
  refine lv_iload_n hx hb dJ0_checkIndex_df160_0 rfl (lv_at hl 0 rfl) ?_
  refine lv_iload_n hx hb dJ0_checkIndex_df160_1 rfl (lv_at hl 1 rfl) ?_
  rcases hw.2.1.2.2.2.2.2.2.2.2.2.2.1 with hz9 | ⟨t9, hz9⟩
  · skip
    refine va_gets hx hb hz9 hw.2.2.2.1 hown (hts (.fieldLink RJ0 1053 "jdk/internal/util/Preconditions" "SIOOBE_FORMATTER" "Ljava/util/function/BiFunction;") (by decide +kernel)) (fun _ h9 => h9) dJ0_checkIndex_df160_2 ?_
    refine m_ci (va_runS (As := [.int (nI i), .int (nI n), .null]) (rest := []) ⟨hx, hb, hml, hown, hts⟩ (c_J3_checkIndex_8e157 l hi hn) (va_cwS 3 hts gJ0_checkIndex_df160_J3_checkIndex_8e157 rfl rfl rfl (by decide +kernel) ⟨Nat.le_of_ble_eq_true rfl, Nat.le_of_ble_eq_true rfl⟩) ⟨m_blind m_B_calling, fun U hU hW => ⟨rfl, m_wo_call hw hU hW⟩⟩ rfl rfl hl.1 rfl (lv_room (Nat.le_of_ble_eq_true rfl)) dJ0_checkIndex_df160_5 ⟨Nat.le_of_ble_eq_true rfl, Nat.le_of_ble_eq_true rfl⟩) hw (fun r_5 u_5 H locs hp_5 hw => ?_)
    refine lv_pop hx hb dJ0_checkIndex_df160_8 rfl ?_
    exact W.vret hx hb hr (fun t ht hW => ⟨⟨(), rfl, trivial, m_wo_out hw ht hW.alike⟩, m_wo_F hw ht⟩) (m_wo_L hw) dJ0_checkIndex_df160_9
  · skip
    refine va_gets hx hb hz9 hw.2.2.2.1 hown (hts (.fieldLink RJ0 1053 "jdk/internal/util/Preconditions" "SIOOBE_FORMATTER" "Ljava/util/function/BiFunction;") (by decide +kernel)) (fun _ h9 => h9) dJ0_checkIndex_df160_2 ?_
    refine m_ci (va_runS (As := [.int (nI i), .int (nI n), .ref t9]) (rest := []) ⟨hx, hb, hml, hown, hts⟩ (c_J3_checkIndex_8e157_r l hi hn) (va_cwS 3 hts gJ0_checkIndex_df160_J3_checkIndex_8e157 rfl rfl rfl (by decide +kernel) ⟨Nat.le_of_ble_eq_true rfl, Nat.le_of_ble_eq_true rfl⟩) ⟨m_blind m_B_calling, fun U hU hW => ⟨rfl, m_wo_call hw hU hW⟩⟩ rfl rfl hl.1 rfl (lv_room (Nat.le_of_ble_eq_true rfl)) dJ0_checkIndex_df160_5 ⟨Nat.le_of_ble_eq_true rfl, Nat.le_of_ble_eq_true rfl⟩) hw (fun r_5 u_5 H locs hp_5 hw => ?_)
    refine lv_pop hx hb dJ0_checkIndex_df160_8 rfl ?_
    exact W.vret hx hb hr (fun t ht hW => ⟨⟨(), rfl, trivial, m_wo_out hw ht hW.alike⟩, m_wo_F hw ht⟩) (m_wo_L hw) dJ0_checkIndex_df160_9
set_option maxHeartbeats 400000 in
set_option maxRecDepth 100000 in
theorem c_J5_charAt_5068e (l : Launch) {G : mG} {K : Nat → Nat} {I : Nat → Nat → Int32} {R : Nat → Nat → Option Nat} {F : Nat → UInt32} {A : Nat → Nat → Int32} {N : Nat → Nat} {L : Nat → List Nat} {T : Nat → List Int32} {J : Nat → Nat → Int64} {D : Nat → Nat → UInt64} {o i : Nat} (hko : K o = 12) (hr1 : R 120 o ≠ none) (hi : i < (T o).length) : Met l yJ5_charAt_5068e wsJ5_charAt_5068e ({ frames := 2, cells := 0, slots := 0, locals := 80 } : Room) (va_Pc [.ref o, .int (nI i)] (m_B G K I R F A N L T J D)) (va_Qi (fun (r : Int32) (_ : Unit) => (T o)[i]? = some r) (fun u : Unit => m_B G K I R F A N L T J D) (m_A G)) 0 0 (m_A G) := by
  refine Met.ofW (cc := cJ5_charAt_5068e) (maxL := 5) (ret := (some .char)) (by decide) rfl ?_
  intro p e s m args below meth c s₁ B hml hv
  obtain ⟨rfl, hB⟩ := hv
  have hx := B.exec
  have hb := B.bytes
  have hr := B.returns
  have hts := atoms_spec (ws := wsJ5_charAt_5068e) B.pre
  have hown : s.vm.findClass RJ5 = some m.cls := findClass_of_methodNamed B.named
  have hlocks := B.notSynchronized
  have hw := m_wo_in hB
  have hl := lv_entry ([.ref o, .int (nI i)]) (n := 5) (Nat.le_of_ble_eq_true rfl)
  rw [lg_entry_eq]
  generalize (lg_sl ([.ref o, .int (nI i)]) ++ List.replicate (5 - (lg_sl ([.ref o, .int (nI i)])).length) Slot.unset).toArray = ls at hl ⊢
  have hl : lv_has ls 5 [(0, .ref o), (1, .int (nI i))] := hl
  obtain ⟨e1, hr0, hke, hoe, hle, h16, h1k, hcs⟩ := m_text hw hko hr1
  obtain ⟨c9, hc1, hc2, hc3⟩ := hcs i hi
  refine lv_aload_n hx hb dJ5_charAt_5068e_0 rfl (lv_at hl 0 rfl) ?_
  refine g_12_1 hx hb hts (by decide +kernel) hown hw hko (fun _ h9 => h9) (hts (.fieldLink RJ5 22 "java/lang/AbstractStringBuilder" "coder" "B") (by decide +kernel)) dJ5_charAt_5068e_1 ?_
  refine lv_istore_n (lv' := [(2, .int 0), (0, .ref o), (1, .int (nI i))]) hx hb dJ5_charAt_5068e_4 rfl hl (by decide) rfl (fun ls hl => ?_)
  refine lv_aload_n hx hb dJ5_charAt_5068e_5 rfl (lv_at hl 1 rfl) ?_
  refine g_12_0 (r9 := (some e1)) hx hb hts (by decide +kernel) hown hw hko (fun _ h9 => h9) (hts (.fieldLink RJ5 15 "java/lang/AbstractStringBuilder" "value" "[B") (by decide +kernel)) hr0 dJ5_charAt_5068e_6 ?_
  refine lv_astore_n (lv' := [(3, .ref e1), (2, .int 0), (0, .ref o), (1, .int (nI i))]) hx hb dJ5_charAt_5068e_9 rfl hl (by decide) rfl (fun ls hl => ?_)
  refine lv_aload_n hx hb dJ5_charAt_5068e_10 rfl (lv_at hl 2 rfl) ?_
  refine g_12_3 hx hb hts (by decide +kernel) hown hw hko (fun _ h9 => h9) (hts (.fieldLink RJ5 79 "java/lang/AbstractStringBuilder" "count" "I") (by decide +kernel)) dJ5_charAt_5068e_11 ?_
  refine lv_aload_n hx hb dJ5_charAt_5068e_14 rfl (lv_at hl 0 rfl) ?_
  refine m_alen_41 hx hb hw hke dJ5_charAt_5068e_15 ?_
  refine lv_iload_n hx hb dJ5_charAt_5068e_16 rfl (lv_at hl 1 rfl) ?_
  refine lv_ishr hx hb dJ5_charAt_5068e_17 ?_
  rw [show (nI (N e1) >>> ((0 : Int32) &&& 31)) = nI (N e1) from by rw [show ((0 : Int32) &&& 31) = 0 from by decide, pk_shrN (by omega) 0 0 (by decide)]; simp]
  refine va_mmin hx hb (by rw [hml]; exact hl.1.symm) hown (hts (.methodLink RJ5 138 Lib.Math.min.name) (by decide +kernel)) (hts (.static Lib.Math.min.name) (by decide +kernel)) (hts (.initialized "java/lang/Math") (by decide +kernel)) (hts (.code Lib.Math.min.name Lib.Math.min.code 2 (some .int)) (by decide +kernel)) (Nat.le_of_ble_eq_true rfl) (Nat.le_of_ble_eq_true rfl) (Nat.le_of_ble_eq_true rfl) (Nat.le_of_ble_eq_true rfl) dJ5_charAt_5068e_18 ?_
  rw [show (if (nI (N e1)) < (nI (T o).length) then (nI (N e1)) else (nI (T o).length)) = (nI (T o).length) from (nI_min (by omega) (by omega)).trans (congrArg nI (Nat.min_eq_left hle))]
  refine lv_istore (lv' := [(4, .int (nI (T o).length)), (3, .ref e1), (2, .int 0), (0, .ref o), (1, .int (nI i))]) hx hb dJ5_charAt_5068e_21 hl (by decide) rfl (fun ls hl => ?_)
  refine lv_iload_n hx hb dJ5_charAt_5068e_23 rfl (lv_at hl 4 rfl) ?_
  refine lv_iload hx hb dJ5_charAt_5068e_24 (lv_at hl 0 rfl) ?_
  refine m_cv (va_runS (As := [.int (nI i), .int (nI (T o).length)]) (rest := []) ⟨hx, hb, hml, hown, hts⟩ (c_J0_checkIndex_df160 l hi (by omega)) (va_cwS 2 hts gJ5_charAt_5068e_J0_checkIndex_df160 rfl rfl rfl (by decide +kernel) ⟨Nat.le_of_ble_eq_true rfl, Nat.le_of_ble_eq_true rfl⟩) ⟨m_blind m_B_calling, fun U hU hW => ⟨rfl, m_wo_call hw hU hW⟩⟩ rfl rfl hl.1 rfl (lv_room (Nat.le_of_ble_eq_true rfl)) dJ5_charAt_5068e_26 ⟨Nat.le_of_ble_eq_true rfl, Nat.le_of_ble_eq_true rfl⟩) hw (fun u_26 H locs hp_26 hw => ?_)
  refine lv_iload_n hx hb dJ5_charAt_5068e_29 rfl (lv_at hl 2 rfl) ?_
  refine lv_if_ne (tgt := 42) hx hb dJ5_charAt_5068e_30 (by decide) (fun c_30 => absurd rfl c_30) (fun c_30 => ?_)
  refine lv_aload_n hx hb dJ5_charAt_5068e_33 rfl (lv_at hl 1 rfl) ?_
  refine lv_iload_n hx hb dJ5_charAt_5068e_34 rfl (lv_at hl 4 rfl) ?_
  refine va_bald hx hb hw.1 (m_P1 hw (m_ent_41 hke)) 0 6 rfl rfl (vp_in_nI (by omega) (by omega)) dJ5_charAt_5068e_35 ?_
  rw [nI_clamp (by omega), hc3]
  refine lv_sipush (v := 255) hx hb dJ5_charAt_5068e_36 (by decide) ?_
  refine lv_iand hx hb dJ5_charAt_5068e_39 ?_
  rw [(sb_byte c9 hc1).1]
  refine lv_i2c hx hb dJ5_charAt_5068e_40 (sb_byte c9 hc1).2.1 ?_
  exact W.zret (v := nI c9) hx hb hr (pk_charN (by omega)).1 (fun t ht hW => ⟨⟨nI c9, (), rfl, hc2, m_wo_out hw ht hW.alike⟩, m_wo_F hw ht⟩) (m_wo_L hw) dJ5_charAt_5068e_41
set_option maxHeartbeats 400000 in
set_option maxRecDepth 100000 in
theorem c_J4_charAt_5068e (l : Launch) {G : mG} {K : Nat → Nat} {I : Nat → Nat → Int32} {R : Nat → Nat → Option Nat} {F : Nat → UInt32} {A : Nat → Nat → Int32} {N : Nat → Nat} {L : Nat → List Nat} {T : Nat → List Int32} {J : Nat → Nat → Int64} {D : Nat → Nat → UInt64} {o i : Nat} (hko : K o = 12) (hr1 : R 120 o ≠ none) (hi : i < (T o).length) : Met l yJ4_charAt_5068e wsJ4_charAt_5068e ({ frames := 3, cells := 0, slots := 0, locals := 120 } : Room) (va_Pc [.ref o, .int (nI i)] (m_B G K I R F A N L T J D)) (va_Qi (fun (r : Int32) (_ : Unit) => (T o)[i]? = some r) (fun u : Unit => m_B G K I R F A N L T J D) (m_A G)) 0 0 (m_A G) := by
  refine Met.ofW (cc := cJ4_charAt_5068e) (maxL := 2) (ret := (some .char)) (by decide) rfl ?_
  intro p e s m args below meth c s₁ B hml hv
  obtain ⟨rfl, hB⟩ := hv
  have hx := B.exec
  have hb := B.bytes
  have hr := B.returns
  have hts := atoms_spec (ws := wsJ4_charAt_5068e) B.pre
  have hown : s.vm.findClass RJ4 = some m.cls := findClass_of_methodNamed B.named
  have hlocks := B.notSynchronized
  have hw := m_wo_in hB
  have hl := lv_entry ([.ref o, .int (nI i)]) (n := 2) (Nat.le_of_ble_eq_true rfl)
  rw [lg_entry_eq]
  generalize (lg_sl ([.ref o, .int (nI i)]) ++ List.replicate (2 - (lg_sl ([.ref o, .int (nI i)])).length) Slot.unset).toArray = ls at hl ⊢
  have hl : lv_has ls 2 [(0, .ref o), (1, .int (nI i))] := hl
  obtain ⟨e1, hr0, hke, hoe, hle, h16, h1k, hcs⟩ := m_text hw hko hr1
  obtain ⟨c9, hc1, hc2, hc3⟩ := hcs i hi
  refine lv_aload_n hx hb dJ4_charAt_5068e_0 rfl (lv_at hl 0 rfl) ?_
  refine lv_iload_n hx hb dJ4_charAt_5068e_1 rfl (lv_at hl 1 rfl) ?_
  refine m_ci (va_runSU (As := [.int (nI i)]) (rest := []) (hw.1.1 1 _ rfl).2 ⟨hx, hb, hml, hown, hts⟩ (c_J5_charAt_5068e l hko hr1 hi) (va_cwSU 1 hts gJ4_charAt_5068e_J5_charAt_5068e_s329 rfl rfl rfl (by decide +kernel) ⟨Nat.le_of_ble_eq_true rfl, Nat.le_of_ble_eq_true rfl⟩) ⟨m_blind m_B_calling, m_recv hw (m_ent_12 hko) rfl, fun U hU hW => ⟨rfl, m_wo_call hw hU hW⟩⟩ rfl rfl hl.1 rfl (lv_room (Nat.le_of_ble_eq_true rfl)) dJ4_charAt_5068e_2 ⟨Nat.le_of_ble_eq_true rfl, Nat.le_of_ble_eq_true rfl⟩) hw (fun r_2 u_2 H locs hp_2 hw => ?_)
  obtain rfl : r_2 = nI c9 := Option.some.inj (hp_2.symm.trans hc2)
  exact W.zret (v := (nI c9)) hx hb hr (pk_charN (by omega)).1 (fun t ht hW => ⟨⟨(nI c9), (), rfl, hc2, m_wo_out hw ht hW.alike⟩, m_wo_F hw ht⟩) (m_wo_L hw) dJ4_charAt_5068e_5
set_option maxHeartbeats 400000 in
set_option maxRecDepth 100000 in
theorem c_J5_init_d00df (l : Launch) {G : mG} {K : Nat → Nat} {I : Nat → Nat → Int32} {R : Nat → Nat → Option Nat} {F : Nat → UInt32} {A : Nat → Nat → Int32} {N : Nat → Nat} {L : Nat → List Nat} {T : Nat → List Int32} {J : Nat → Nat → Int64} {D : Nat → Nat → UInt64} {o : Nat} (hko : K o = 12) (hro : R 120 o = none) (hto : T o = []) : Met l yJ5_init_d00df wsJ5_init_d00df ({ frames := 1, cells := 1, slots := 16, locals := 40 } : Room) (va_Pc [.ref o, .int 16] (m_B G K I R F A N L T J D)) (va_Qv (fun (u : (Nat → Nat) × (Nat → Nat → Option Nat) × (Nat → Nat)) => ∃ q, K q = 0 ∧ u.1 = m_up K q 41 ∧ u.2.1 = m_up2 (m_up2 R 99 q (some o)) 120 o (some q) ∧ u.2.2 = m_up N q 16) (fun u : (Nat → Nat) × (Nat → Nat → Option Nat) × (Nat → Nat) => m_B G (u.1) I (u.2.1) F A (u.2.2) L T J D) (m_A G)) 1 16 (m_A G) := by
  refine Met.ofW (cc := cJ5_init_d00df) (maxL := 2) (ret := none) (by decide) rfl ?_
  intro p e s m args below meth c s₁ B hml hv
  obtain ⟨rfl, hB⟩ := hv
  have hx := B.exec
  have hb := B.bytes
  have hr := B.returns
  have hts := atoms_spec (ws := wsJ5_init_d00df) B.pre
  have hown : s.vm.findClass RJ5 = some m.cls := findClass_of_methodNamed B.named
  have hlocks := B.notSynchronized
  have hin2 : meth.name = "<init>" := (name_of_methodNamed B.named B.method).1
  have hw := m_wo_in hB
  have hl := lv_entry ([.ref o, .int 16]) (n := 2) (Nat.le_of_ble_eq_true rfl)
  rw [lg_entry_eq]
  generalize (lg_sl ([.ref o, .int 16]) ++ List.replicate (2 - (lg_sl ([.ref o, .int 16])).length) Slot.unset).toArray = ls at hl ⊢
  have hl : lv_has ls 2 [(0, .ref o), (1, .int 16)] := hl
  refine lv_aload_n hx hb dJ5_init_d00df_0 rfl (lv_at hl 0 rfl) ?_
  refine W.objInit hx hb hown (hts (.methodLink RJ5 3 objectInit) (by decide +kernel)) (hts (.instanceMethod objectInit) (by decide +kernel)) (hts (.code objectInit ⟨#[0xb1]⟩ 1 none) (by decide +kernel)) rfl (by rw [hml]; exact hl.1) rfl dJ5_init_d00df_1 (Nat.le_of_ble_eq_true rfl) (Nat.le_of_ble_eq_true rfl) ?_
  refine W.eq (g2 := F0 m 4 ls []) rfl ?_
  refine va_gets hx hb hw.2.1.2.2.2.2.2.2.2.2.2.1 hw.2.2.2.1 hown (hts (.fieldLink RJ5 18 "java/lang/String" "COMPACT_STRINGS" "Z") (by decide +kernel)) (fun _ h9 => h9) dJ5_init_d00df_4 ?_
  refine lv_if_eq (tgt := 25) hx hb dJ5_init_d00df_7 (by decide) (fun c_7 => absurd c_7 (by decide)) (fun c_7 => ?_)
  refine lv_aload_n hx hb dJ5_init_d00df_10 rfl (lv_at hl 0 rfl) ?_
  refine lv_iload_n hx hb dJ5_init_d00df_11 rfl (lv_at hl 1 rfl) ?_
  refine y_newb hx hb (hts (.arrayClass .byte) (by decide +kernel)) hw.1 (N' := 16) (by decide) (by decide) (by decide) (Nat.le_of_ble_eq_true rfl) (Nat.le_of_ble_eq_true rfl) dJ5_init_d00df_12 (fun H1 hz1 hq1 hatA => ?_)
  have hq0 : K s.heap.size = 0 := Classical.byContradiction fun z => Nat.lt_irrefl _ (hw.2.2.1.1 _ z).2
  have hoL := (hw.2.2.1.1 o (by rw [hko]; decide)).2
  have hoB := (hw.2.2.1.1 o (by rw [hko]; decide)).1
  have hbq : G.2.2.1 ≤ s.heap.size := hw.2.2.2.2
  have hqo : s.heap.size ≠ o := fun z => by omega
  refine y_put hx hb hts (by decide +kernel) tyJ4 tyJ4_ok nmJ4 hown hw.1 ((hw.2.2.1.2.1 o _ (m_ent_12 hko)).kept (hq1 o hoL)) rfl 0 (by decide) (hts (.fieldLink RJ5 15 "java/lang/AbstractStringBuilder" "value" "[B") (by decide +kernel)) (fun _ h9 => h9) (by decide) (ty := .array .byte) (by decide +kernel) rfl rfl (by simp) dJ5_init_d00df_14 (fun H2 k9 hz2 hq2 hat2 => ?_)
  have hw := m_fin_TI (locs1 := [] ++ [⟨o, k9⟩]) hw hko hro hto hq0 ⟨hbq, by omega⟩ (by omega) (fun b a b1 b2 => (hq2 b b1).trans (hq1 b a)) (fun q hq => by
    simp only [List.nil_append, List.mem_singleton] at hq
    rw [hq]; exact hoB) (by simpa [va_rf] using hat2) (hatA.kept (hq2 s.heap.size hqo))
  have hko9 : m_up K s.heap.size 41 o = 12 := (m_up_ne _ _ (Ne.symm hqo)).trans hko
  refine lv_aload_n hx hb dJ5_init_d00df_17 rfl (lv_at hl 0 rfl) ?_
  refine lv_iconst (v := 0) hx hb dJ5_init_d00df_18 (by decide) ?_
  refine y_put hx hb hts (by decide +kernel) tyJ4 tyJ4_ok nmJ4 hown hw.1 (hw.2.2.1.2.1 o _ (m_ent_12 hko9)) rfl 1 (by decide) (hts (.fieldLink RJ5 22 "java/lang/AbstractStringBuilder" "coder" "B") (by decide +kernel)) (fun _ h9 => h9) (by decide) (ty := .byte) (by decide +kernel) rfl rfl (by simp) dJ5_init_d00df_19 (fun H3 k8 hz3 hq3 hat3 => ?_)
  have hw := m_fin_S (k9 := k8) hw (by rw [hko9]; decide) (fun eb hb9 => (Option.some.inj ((m_ent_12 hko9).symm.trans hb9)).symm) hz3 hq3 (by simpa using hat3)
  refine lv_goto (tgt := 38) hx hb dJ5_init_d00df_22 (by decide) ?_
  exact W.vret hx hb hr (fun t ht hW => ⟨⟨(m_up K s.heap.size 41, m_up2 (m_up2 R 99 s.heap.size (some o)) 120 o (some s.heap.size), m_up N s.heap.size 16), rfl, ⟨s.heap.size, hq0, rfl, rfl, rfl⟩, m_wo_out hw ht hW.alike⟩, m_wo_F hw ht⟩) (m_wo_L hw) dJ5_init_d00df_38
set_option maxHeartbeats 400000 in
set_option maxRecDepth 100000 in
theorem c_J4_init_da8c8 (l : Launch) {G : mG} {K : Nat → Nat} {I : Nat → Nat → Int32} {R : Nat → Nat → Option Nat} {F : Nat → UInt32} {A : Nat → Nat → Int32} {N : Nat → Nat} {L : Nat → List Nat} {T : Nat → List Int32} {J : Nat → Nat → Int64} {D : Nat → Nat → UInt64} {o : Nat} (hko : K o = 12) (hro : R 120 o = none) (hto : T o = []) : Met l yJ4_init_da8c8 wsJ4_init_da8c8 ({ frames := 2, cells := 1, slots := 16, locals := 80 } : Room) (va_Pc [.ref o] (m_B G K I R F A N L T J D)) (va_Qv (fun (u : (Nat → Nat) × (Nat → Nat → Option Nat) × (Nat → Nat)) => ∃ q, K q = 0 ∧ u.1 = m_up K q 41 ∧ u.2.1 = m_up2 (m_up2 R 99 q (some o)) 120 o (some q) ∧ u.2.2 = m_up N q 16) (fun u : (Nat → Nat) × (Nat → Nat → Option Nat) × (Nat → Nat) => m_B G (u.1) I (u.2.1) F A (u.2.2) L T J D) (m_A G)) 1 16 (m_A G) := by
  refine Met.ofW (cc := cJ4_init_da8c8) (maxL := 1) (ret := none) (by decide) rfl ?_
  intro p e s m args below meth c s₁ B hml hv
  obtain ⟨rfl, hB⟩ := hv
  have hx := B.exec
  have hb := B.bytes
  have hr := B.returns
  have hts := atoms_spec (ws := wsJ4_init_da8c8) B.pre
  have hown : s.vm.findClass RJ4 = some m.cls := findClass_of_methodNamed B.named
  have hlocks := B.notSynchronized
  have hin2 : meth.name = "<init>" := (name_of_methodNamed B.named B.method).1
  have hw := m_wo_in hB
  have hl := lv_entry ([.ref o]) (n := 1) (Nat.le_of_ble_eq_true rfl)
  rw [lg_entry_eq]
  generalize (lg_sl ([.ref o]) ++ List.replicate (1 - (lg_sl ([.ref o])).length) Slot.unset).toArray = ls at hl ⊢
  have hl : lv_has ls 1 [(0, .ref o)] := hl
  refine lv_aload_n hx hb dJ4_init_da8c8_0 rfl (lv_at hl 0 rfl) ?_
  refine lv_bipush (v := 16) hx hb dJ4_init_da8c8_1 (by decide) ?_
  refine m_cv (va_runI (As := [.int 16]) (rest := []) ⟨hx, hb, hml, hown, hts⟩ (c_J5_init_d00df l hko hro hto) (cwI 1 hts gJ4_init_da8c8_J5_init_d00df rfl rfl rfl (hts (.initialized RJ5) (by decide +kernel)) (hts (.methodLink RJ4 1 yJ5_init_d00df) (by decide +kernel)) (hts (.instanceMethod yJ5_init_d00df) (by decide +kernel)) rfl (by decide +kernel) ⟨Nat.le_of_ble_eq_true rfl, Nat.le_of_ble_eq_true rfl⟩) ⟨m_blind m_B_calling, fun U hU hW => ⟨rfl, m_wo_call hw hU hW⟩⟩ rfl rfl hl.1 rfl (lv_room (Nat.le_of_ble_eq_true rfl)) dJ4_init_da8c8_3 ⟨Nat.le_of_ble_eq_true rfl, Nat.le_of_ble_eq_true rfl⟩) hw (fun u_3 H locs hp_3 hw => ?_)
  obtain ⟨K_1, R_2, N_3⟩ := u_3
  have hw : m_wo G K_1 I R_2 F A N_3 L T J D s H locs := hw
  dsimp only at hp_3
  exact W.vret hx hb hr (fun t ht hW => ⟨⟨(K_1, R_2, N_3), rfl, hp_3, m_wo_out hw ht hW.alike⟩, m_wo_F hw ht⟩) (m_wo_L hw) dJ4_init_da8c8_6
