set_option maxHeartbeats 400000 in
set_option maxRecDepth 100000 in
theorem c_Jx4a65c_add_7a177 (l : Launch) {G : mG} {K : Nat → Nat} {I : Nat → Nat → Int32} {R : Nat → Nat → Option Nat} {F : Nat → UInt32} {A : Nat → Nat → Int32} {N : Nat → Nat} {L : Nat → List Nat} {T : Nat → List Int32} {J : Nat → Nat → Int64} {D : Nat → Nat → UInt64} {o i a9 : Nat} (hko : K o = 11) (hr1 : R 111 o ≠ none) (ha9 : m_elt K a9) (hel : ∀ y, y ∈ L o → m_elt K y) (hc6 : (L o).length ≤ 600) (hi : i ≤ (L o).length) : Met l yJx4a65c_add_7a177 wsJx4a65c_add_7a177 ({ frames := 5, cells := (if (L o).length = m_cap R N o then 1 else 0), slots := (if (L o).length = m_cap R N o then m_nc (L o).length else 0), locals := 220 } : Room) (va_Pc [.ref o, .int (nI i), .ref a9] (m_B G K I R F A N L T J D)) (va_Qv (fun (u : (Nat → Nat) × (Nat → Nat → Int32) × (Nat → Nat → Option Nat) × (Nat → Nat) × (Nat → List Nat)) => m_hid o K I R N u.1 u.2.1 u.2.2.1 u.2.2.2.1 ∧ m_cap u.2.2.1 u.2.2.2.1 o = m_cap R N o + m_dc (L o).length (m_cap R N o) ∧ u.2.2.2.2 = m_up L o (y_ins (L o) i a9)) (fun u : (Nat → Nat) × (Nat → Nat → Int32) × (Nat → Nat → Option Nat) × (Nat → Nat) × (Nat → List Nat) => m_B G (u.1) (u.2.1) (u.2.2.1) F A (u.2.2.2.1) (u.2.2.2.2) T J D) (m_A G)) (if (L o).length = m_cap R N o then 1 else 0) (if (L o).length = m_cap R N o then m_nc (L o).length else 0) (m_A G) := by
  refine Met.ofW (cc := cJx4a65c_add_7a177) (maxL := 5) (ret := none) (by decide) rfl ?_
  intro p e s m args below meth c s₁ B hml hv
  obtain ⟨rfl, hB⟩ := hv
  have hx := B.exec
  have hb := B.bytes
  have hr := B.returns
  have hts := atoms_spec (ws := wsJx4a65c_add_7a177) B.pre
  have hown : s.vm.findClass RJx4a65c = some m.cls := findClass_of_methodNamed B.named
  have hlocks := B.notSynchronized
  have hw := m_wo_in hB
  have hl := lv_entry ([.ref o, .int (nI i), .ref a9]) (n := 5) (Nat.le_of_ble_eq_true rfl)
  rw [lg_entry_eq]
  generalize (lg_sl ([.ref o, .int (nI i), .ref a9]) ++ List.replicate (5 - (lg_sl ([.ref o, .int (nI i), .ref a9])).length) Slot.unset).toArray = ls at hl ⊢
  have hl : lv_has ls 5 [(0, .ref o), (1, .int (nI i)), (2, .ref a9)] := hl
  obtain ⟨ed, hred⟩ : ∃ ed, R 111 o = some ed := Option.ne_none_iff_exists'.mp hr1
  by_cases hfl : (L o).length = m_cap R N o
  · skip
    refine lv_aload_n hx hb dJx4a65c_add_7a177_0 rfl (lv_at hl 0 rfl) ?_
    refine lv_iload_n hx hb dJx4a65c_add_7a177_1 rfl (lv_at hl 1 rfl) ?_
    refine m_cv (va_runV (As := [.int (nI i)]) (rest := []) ⟨hx, hb, hml, hown, hts⟩ (c_Jx4a65c_rangeCheckForAdd_d00df l hko hi) (cwV 1 hts gJx4a65c_add_7a177_Jx4a65c_rangeCheckForAdd_d00df rfl rfl rfl (by decide +kernel) ⟨Nat.le_of_ble_eq_true rfl, Nat.le_of_ble_eq_true rfl⟩) ⟨m_blind m_B_calling, m_recv hw (m_ent_11 hko) rfl, fun U hU hW => ⟨rfl, m_wo_call hw hU hW⟩⟩ rfl rfl hl.1 rfl (lv_room (Nat.le_of_ble_eq_true rfl)) dJx4a65c_add_7a177_2 ⟨Nat.le_of_ble_eq_true rfl, Nat.le_of_ble_eq_true rfl⟩) hw (fun u_2 H locs hp_2 hw => ?_)
    refine lv_aload_n hx hb dJx4a65c_add_7a177_5 rfl (lv_at hl 0 rfl) ?_
    refine lv_dup hx hb dJx4a65c_add_7a177_6 rfl ?_
    refine g_11_0 hx hb hts (by decide +kernel) hown hw hko (u_same (hts (.sameField "java/util/ArrayList" "java/util/AbstractList" "modCount" "I") (by decide +kernel))) (hts (.fieldLink RJx4a65c 63 "java/util/ArrayList" "modCount" "I") (by decide +kernel)) dJx4a65c_add_7a177_7 ?_
    refine lv_iconst (v := 1) hx hb dJx4a65c_add_7a177_10 (by decide) ?_
    refine lv_iadd hx hb dJx4a65c_add_7a177_11 ?_
    refine p_11_0 hx hb hts (by decide +kernel) hown hw hko (u_same (hts (.sameField "java/util/ArrayList" "java/util/AbstractList" "modCount" "I") (by decide +kernel))) (hts (.fieldLink RJx4a65c 63 "java/util/ArrayList" "modCount" "I") (by decide +kernel)) dJx4a65c_add_7a177_12 (fun H locs hw => ?_)
    refine lv_aload_n hx hb dJx4a65c_add_7a177_15 rfl (lv_at hl 0 rfl) ?_
    refine g_11_2 hx hb hts (by decide +kernel) hown hw hko (hts (.fieldLink RJx4a65c 48 "java/util/ArrayList" "size" "I") (by decide +kernel)) dJx4a65c_add_7a177_16 ?_
    refine lv_dup hx hb dJx4a65c_add_7a177_19 rfl ?_
    refine lv_istore_n (lv' := [(3, .int (nI (L o).length)), (0, .ref o), (1, .int (nI i)), (2, .ref a9)]) hx hb dJx4a65c_add_7a177_20 rfl hl (by decide) rfl (fun ls hl => ?_)
    refine lv_aload_n hx hb dJx4a65c_add_7a177_21 rfl (lv_at hl 1 rfl) ?_
    refine g_11_1 (r9 := (some ed)) hx hb hts (by decide +kernel) hown hw hko (hts (.fieldLink RJx4a65c 9 "java/util/ArrayList" "elementData" "[Ljava/lang/Object;") (by decide +kernel)) hred dJx4a65c_add_7a177_22 ?_
    refine lv_dup hx hb dJx4a65c_add_7a177_25 rfl ?_
    refine lv_astore (lv' := [(4, .ref ed), (3, .int (nI (L o).length)), (0, .ref o), (1, .int (nI i)), (2, .ref a9)]) hx hb dJx4a65c_add_7a177_26 hl (by decide) rfl (fun ls hl => ?_)
    refine lenOf hx hb hw hko hred hfl dJx4a65c_add_7a177_28 ?_
    refine lv_icmp_ne (tgt := 38) hx hb dJx4a65c_add_7a177_29 (by decide) (fun c_29 => absurd rfl c_29) (fun c_29 => ?_)
    refine lv_aload_n hx hb dJx4a65c_add_7a177_32 rfl (lv_at hl 2 rfl) ?_
    refine m_cq (va_runV (As := []) (rest := []) ⟨hx, hb, hml, hown, hts⟩ (c_Jx4a65c_grow_d5877 l hko hr1 hfl hc6 hel) (cwV 0 hts gJx4a65c_add_7a177_Jx4a65c_grow_d5877 rfl rfl rfl (by decide +kernel) ⟨Nat.le_of_ble_eq_true rfl, Nat.le_of_ble_eq_true rfl⟩) ⟨m_blind m_B_calling, m_recv hw (m_ent_11 hko) rfl, fun U hU hW => ⟨rfl, m_wo_call hw hU hW⟩⟩ rfl rfl hl.1 rfl (lv_room (Nat.le_of_ble_eq_true rfl)) dJx4a65c_add_7a177_33 ⟨by show 0 + 0 + 1 ≤ (if _ then _ else _); rw [if_pos hfl]; exact Nat.le_refl _, by show 0 + 0 + m_nc (L o).length ≤ (if _ then _ else _); rw [if_pos hfl]; omega⟩) hw (fun r_33 u_33 H locs hp_33 hw => ?_)
    obtain ⟨K_1, R_2, N_3⟩ := u_33
    have hw : m_wo G K_1 (m_up2 I 110 o ((I 110 o) + 1)) R_2 F A N_3 L T J D s H locs := hw
    dsimp only at hp_33
    obtain ⟨q9, hr9, hq9, eK9, eR9, eN9⟩ := hp_33
    obtain rfl : r_33 = some q9 := hr9
    have hhid : m_hid o K (m_up2 I 110 o ((I 110 o) + 1)) R N K_1 (m_up2 I 110 o ((I 110 o) + 1)) R_2 N_3 := by rw [eK9, eR9, eN9]; exact m_hid_G hq9
    have hke9 : K_1 q9 = 40 := by rw [eK9]; exact if_pos rfl
    have hr09 : R_2 111 o = some q9 := by rw [eR9]; exact m_up2_self _ _ _ _
    have hoe9 : R_2 99 q9 = some o := by rw [eR9]; unfold m_gR; rw [m_up2_ni _ _ (by decide), m_up2_self]
    have hN9 : N_3 q9 = m_nc (L o).length := by rw [eN9]; exact m_up_self _ _ _
    have hcap : m_cap R_2 N_3 o = m_cap R N o + m_dc (L o).length (m_cap R N o) := by rw [eR9, eN9, m_cap_G]; unfold m_dc; rw [if_pos hfl, ← hfl]; have := m_nc_gt (L o).length; omega
    have hcls : K_1 o = 11 := (hhid.1 o (by rw [hko]; decide) (by rw [hko]; decide)).trans hko
    have ha99 : m_elt K_1 a9 := m_elt_hid hhid ha9
    have hlt9 : (L o).length < N_3 q9 := by rw [hN9]; exact m_nc_gt _
    have hel9 : ∀ y, y ∈ L o → m_elt K_1 y := fun y hy => m_elt_hid hhid (hel y hy)
    have hN99 : N_3 q9 ≤ 1000 := by rw [hN9]; exact m_nc_le hc6
    refine lv_astore (lv' := [(4, .ref q9), (3, .int (nI (L o).length)), (0, .ref o), (1, .int (nI i)), (2, .ref a9)]) hx hb dJx4a65c_add_7a177_36 hl (by decide) rfl (fun ls hl => ?_)
    obtain ⟨ci9, r99, vs9, hv9, hc99, hca9⟩ := y_elt hw ha99
    have hE9 := hw.2.2.1.2.1 q9 _ (m_ent_40 hke9)
    rw [hoe9] at hE9
    simp only [Option.getD_some] at hE9
    have hoB := (hw.2.2.1.1 o (by rw [hcls]; decide)).1
    have hqB := (hw.2.2.1.1 q9 (by rw [hke9]; decide)).1
    have hoq : o ≠ q9 := fun z => by rw [← z, hcls] at hke9; exact absurd hke9 (by decide)
    have hLL := hw.2.2.2.1.2.2
    have haq : a9 ≠ q9 := fun z => by have h9 := (m_elt_0 ha99).2; rw [z] at h9; exact h9 hke9
    refine lv_aload hx hb dJx4a65c_add_7a177_38 (lv_at hl 0 rfl) ?_
    refine lv_iload_n hx hb dJx4a65c_add_7a177_40 rfl (lv_at hl 3 rfl) ?_
    refine lv_aload hx hb dJx4a65c_add_7a177_41 (lv_at hl 0 rfl) ?_
    refine lv_iload_n hx hb dJx4a65c_add_7a177_43 rfl (lv_at hl 3 rfl) ?_
    refine lv_iconst (v := 1) hx hb dJx4a65c_add_7a177_44 (by decide) ?_
    refine lv_iadd hx hb dJx4a65c_add_7a177_45 ?_
    rw [nI_1]
    refine lv_iload_n hx hb dJx4a65c_add_7a177_46 rfl (lv_at hl 1 rfl) ?_
    refine lv_iload_n hx hb dJx4a65c_add_7a177_47 rfl (lv_at hl 3 rfl) ?_
    refine lv_isub hx hb dJx4a65c_add_7a177_48 ?_
    rw [pk_sub hi]
    refine y_copyq hx hb (by rw [hml]; exact hl.1.symm) hown (hts (.methodLink RJx4a65c 112 arraycopyName) (by decide +kernel)) (hts (.native arraycopyName) (by decide +kernel)) (hts (.static arraycopyName) (by decide +kernel)) (hts (.initialized "java/lang/System") (by decide +kernel)) hw.1 hE9 hE9 (nI_pos (by omega)) (nI_pos (by omega)) (nI_pos (by omega)) (by rw [nI_clamp (by omega), nI_clamp (by omega)]; omega) (by rw [nI_clamp (by omega), nI_clamp (by omega)]; omega) (fun i9 _ y9 hy9 => by obtain ⟨ci, r8, vs, h1, h2, h3⟩ := y_elt hw (hel9 y9 (List.mem_of_getElem? hy9)); exact ⟨ci, r8, vs, h1, h2, h3⟩) (Nat.le_of_ble_eq_true rfl) (Nat.le_of_ble_eq_true rfl) dJx4a65c_add_7a177_49 (fun H1 locs1 hz1 hq1 hL1 hat1 => ?_)
    rw [nI_clamp (by omega), nI_clamp (by omega), nI_clamp (by omega)] at hat1
    refine lv_aload hx hb dJx4a65c_add_7a177_52 (lv_at hl 0 rfl) ?_
    refine lv_iload_n hx hb dJx4a65c_add_7a177_54 rfl (lv_at hl 3 rfl) ?_
    refine lv_aload_n hx hb dJx4a65c_add_7a177_55 rfl (lv_at hl 4 rfl) ?_
    refine y_astq hx hb hw.1 hat1 hca9 (hv9.kept (hq1 a9 haq)) hc99 (vp_in_nI (by omega) (by omega)) dJx4a65c_add_7a177_56 (fun H2 k8 hz2 hq2 hat2 => ?_)
    rw [nI_clamp (by omega), y_insE _ _ hi] at hat2
    refine lv_aload_n hx hb dJx4a65c_add_7a177_57 rfl (lv_at hl 2 rfl) ?_
    refine lv_iload_n hx hb dJx4a65c_add_7a177_58 rfl (lv_at hl 1 rfl) ?_
    refine lv_iconst (v := 1) hx hb dJx4a65c_add_7a177_59 (by decide) ?_
    refine lv_iadd hx hb dJx4a65c_add_7a177_60 ?_
    rw [nI_1]
    refine y_put hx hb hts (by decide +kernel) tyJx4a65c tyJx4a65c_ok nmJx4a65c hown hw.1 (((hw.2.2.1.2.1 o _ (m_ent_11 hcls)).kept (hq1 o hoq)).kept (hq2 o hoq)) rfl 2 (by decide) (hts (.fieldLink RJx4a65c 48 "java/util/ArrayList" "size" "I") (by decide +kernel)) (fun _ h9 => h9) (by decide) (ty := .int) (by decide +kernel) rfl rfl (by simp) dJx4a65c_add_7a177_61 (fun H3 k9 hz3 hq3 hat3 => ?_)
    have hlen2 := y_ins_len (L o) a9 hi
    have hLL2 : ∀ q : Loc, q ∈ ((locs ++ locs1) ++ [(⟨q9, k8⟩ : Loc)]) ++ [(⟨o, k9⟩ : Loc)] → G.2.2.1 ≤ q.base := fun q hq => by
      simp only [List.mem_append, List.mem_singleton] at hq
      rcases hq with ((h | h) | rfl) | rfl
      · exact hLL q h
      · rw [hL1 q h]; exact hqB
      · exact hqB
      · exact hoB
    have hw := m_fin_L (l' := y_ins (L o) i a9) hw hcls hr09 hke9 hoe9 (by rw [hlen2]; omega) (by omega) (fun b b1 b2 => (hq3 b b1).trans ((hq2 b b2).trans (hq1 b b2))) hLL2 (by rw [hlen2]; simpa [hr09, va_rf] using hat3) (hat2.kept (hq3 q9 (Ne.symm hoq)))
    refine W.widen (k := (if (L o).length = m_cap R N o then 1 else 0)) (n := (if (L o).length = m_cap R N o then m_nc (L o).length else 0)) (by first | (rw [if_pos hfl]; done) | (rw [if_pos hfl]; omega) | exact Nat.zero_le _) (by first | (rw [if_pos hfl]; done) | (rw [if_pos hfl]; omega) | exact Nat.zero_le _) ?_
    exact W.vret hx hb hr (fun t ht hW => ⟨⟨(K_1, m_up2 I 110 o ((I 110 o) + 1), R_2, N_3, m_up L o (y_ins (L o) i a9)), rfl, ⟨⟨hhid.1, hhid.2.1, fun f b hf => m_up2_ni _ _ hf, hhid.2.2.2⟩, hcap, rfl⟩, m_wo_out hw ht hW.alike⟩, m_wo_F hw ht⟩) (m_wo_L hw) dJx4a65c_add_7a177_64
  · skip
    obtain ⟨hr0, hl0, hc0⟩ | ⟨e0, hr0, hke, hoe, hle, hN0, hN1, hc0, hne⟩ := m_list hw hko hr1
    · exact absurd (by rw [hl0, hc0]; rfl) hfl
    have hlt : (L o).length < N e0 := by omega
    refine lv_aload_n hx hb dJx4a65c_add_7a177_0 rfl (lv_at hl 0 rfl) ?_
    refine lv_iload_n hx hb dJx4a65c_add_7a177_1 rfl (lv_at hl 1 rfl) ?_
    refine m_cv (va_runV (As := [.int (nI i)]) (rest := []) ⟨hx, hb, hml, hown, hts⟩ (c_Jx4a65c_rangeCheckForAdd_d00df l hko hi) (cwV 1 hts gJx4a65c_add_7a177_Jx4a65c_rangeCheckForAdd_d00df rfl rfl rfl (by decide +kernel) ⟨Nat.le_of_ble_eq_true rfl, Nat.le_of_ble_eq_true rfl⟩) ⟨m_blind m_B_calling, m_recv hw (m_ent_11 hko) rfl, fun U hU hW => ⟨rfl, m_wo_call hw hU hW⟩⟩ rfl rfl hl.1 rfl (lv_room (Nat.le_of_ble_eq_true rfl)) dJx4a65c_add_7a177_2 ⟨Nat.le_of_ble_eq_true rfl, Nat.le_of_ble_eq_true rfl⟩) hw (fun u_2 H locs hp_2 hw => ?_)
    refine lv_aload_n hx hb dJx4a65c_add_7a177_5 rfl (lv_at hl 0 rfl) ?_
    refine lv_dup hx hb dJx4a65c_add_7a177_6 rfl ?_
    refine g_11_0 hx hb hts (by decide +kernel) hown hw hko (u_same (hts (.sameField "java/util/ArrayList" "java/util/AbstractList" "modCount" "I") (by decide +kernel))) (hts (.fieldLink RJx4a65c 63 "java/util/ArrayList" "modCount" "I") (by decide +kernel)) dJx4a65c_add_7a177_7 ?_
    refine lv_iconst (v := 1) hx hb dJx4a65c_add_7a177_10 (by decide) ?_
    refine lv_iadd hx hb dJx4a65c_add_7a177_11 ?_
    refine p_11_0 hx hb hts (by decide +kernel) hown hw hko (u_same (hts (.sameField "java/util/ArrayList" "java/util/AbstractList" "modCount" "I") (by decide +kernel))) (hts (.fieldLink RJx4a65c 63 "java/util/ArrayList" "modCount" "I") (by decide +kernel)) dJx4a65c_add_7a177_12 (fun H locs hw => ?_)
    refine lv_aload_n hx hb dJx4a65c_add_7a177_15 rfl (lv_at hl 0 rfl) ?_
    refine g_11_2 hx hb hts (by decide +kernel) hown hw hko (hts (.fieldLink RJx4a65c 48 "java/util/ArrayList" "size" "I") (by decide +kernel)) dJx4a65c_add_7a177_16 ?_
    refine lv_dup hx hb dJx4a65c_add_7a177_19 rfl ?_
    refine lv_istore_n (lv' := [(3, .int (nI (L o).length)), (0, .ref o), (1, .int (nI i)), (2, .ref a9)]) hx hb dJx4a65c_add_7a177_20 rfl hl (by decide) rfl (fun ls hl => ?_)
    refine lv_aload_n hx hb dJx4a65c_add_7a177_21 rfl (lv_at hl 1 rfl) ?_
    refine g_11_1 (r9 := (some e0)) hx hb hts (by decide +kernel) hown hw hko (hts (.fieldLink RJx4a65c 9 "java/util/ArrayList" "elementData" "[Ljava/lang/Object;") (by decide +kernel)) hr0 dJx4a65c_add_7a177_22 ?_
    refine lv_dup hx hb dJx4a65c_add_7a177_25 rfl ?_
    refine lv_astore (lv' := [(4, .ref e0), (3, .int (nI (L o).length)), (0, .ref o), (1, .int (nI i)), (2, .ref a9)]) hx hb dJx4a65c_add_7a177_26 hl (by decide) rfl (fun ls hl => ?_)
    refine m_alen_40 hx hb hw hke dJx4a65c_add_7a177_28 ?_
    refine lv_icmp_ne (tgt := 38) hx hb dJx4a65c_add_7a177_29 (by decide) (fun c_29 => ?_) (fun c_29 => absurd c_29 (fun z => absurd ((nI_eq (by omega) (by omega)).mp z) (by omega)))
    have hhid : m_hid o K (m_up2 I 110 o ((I 110 o) + 1)) R N K (m_up2 I 110 o ((I 110 o) + 1)) R N := ⟨fun _ _ _ => rfl, fun _ _ _ _ => rfl, fun _ _ _ => rfl, fun _ _ _ _ => rfl, fun _ _ => rfl, fun _ _ => rfl, hr1⟩
    have hcap : m_cap R N o = m_cap R N o + m_dc (L o).length (m_cap R N o) := by unfold m_dc; rw [if_neg hfl]; rfl
    have hcls := hko
    have ha99 := ha9
    have hel9 := hel
    have hke9 := hke
    have hr09 := hr0
    have hoe9 := hoe
    have hlt9 := hlt
    have hN99 := hN1
    obtain ⟨ci9, r99, vs9, hv9, hc99, hca9⟩ := y_elt hw ha99
    have hE9 := hw.2.2.1.2.1 e0 _ (m_ent_40 hke9)
    rw [hoe9] at hE9
    simp only [Option.getD_some] at hE9
    have hoB := (hw.2.2.1.1 o (by rw [hcls]; decide)).1
    have hqB := (hw.2.2.1.1 e0 (by rw [hke9]; decide)).1
    have hoq : o ≠ e0 := fun z => by rw [← z, hcls] at hke9; exact absurd hke9 (by decide)
    have hLL := hw.2.2.2.1.2.2
    have haq : a9 ≠ e0 := fun z => by have h9 := (m_elt_0 ha99).2; rw [z] at h9; exact h9 hke9
    refine lv_aload hx hb dJx4a65c_add_7a177_38 (lv_at hl 0 rfl) ?_
    refine lv_iload_n hx hb dJx4a65c_add_7a177_40 rfl (lv_at hl 3 rfl) ?_
    refine lv_aload hx hb dJx4a65c_add_7a177_41 (lv_at hl 0 rfl) ?_
    refine lv_iload_n hx hb dJx4a65c_add_7a177_43 rfl (lv_at hl 3 rfl) ?_
    refine lv_iconst (v := 1) hx hb dJx4a65c_add_7a177_44 (by decide) ?_
    refine lv_iadd hx hb dJx4a65c_add_7a177_45 ?_
    rw [nI_1]
    refine lv_iload_n hx hb dJx4a65c_add_7a177_46 rfl (lv_at hl 1 rfl) ?_
    refine lv_iload_n hx hb dJx4a65c_add_7a177_47 rfl (lv_at hl 3 rfl) ?_
    refine lv_isub hx hb dJx4a65c_add_7a177_48 ?_
    rw [pk_sub hi]
    refine y_copyq hx hb (by rw [hml]; exact hl.1.symm) hown (hts (.methodLink RJx4a65c 112 arraycopyName) (by decide +kernel)) (hts (.native arraycopyName) (by decide +kernel)) (hts (.static arraycopyName) (by decide +kernel)) (hts (.initialized "java/lang/System") (by decide +kernel)) hw.1 hE9 hE9 (nI_pos (by omega)) (nI_pos (by omega)) (nI_pos (by omega)) (by rw [nI_clamp (by omega), nI_clamp (by omega)]; omega) (by rw [nI_clamp (by omega), nI_clamp (by omega)]; omega) (fun i9 _ y9 hy9 => by obtain ⟨ci, r8, vs, h1, h2, h3⟩ := y_elt hw (hel9 y9 (List.mem_of_getElem? hy9)); exact ⟨ci, r8, vs, h1, h2, h3⟩) (Nat.le_of_ble_eq_true rfl) (Nat.le_of_ble_eq_true rfl) dJx4a65c_add_7a177_49 (fun H1 locs1 hz1 hq1 hL1 hat1 => ?_)
    rw [nI_clamp (by omega), nI_clamp (by omega), nI_clamp (by omega)] at hat1
    refine lv_aload hx hb dJx4a65c_add_7a177_52 (lv_at hl 0 rfl) ?_
    refine lv_iload_n hx hb dJx4a65c_add_7a177_54 rfl (lv_at hl 3 rfl) ?_
    refine lv_aload_n hx hb dJx4a65c_add_7a177_55 rfl (lv_at hl 4 rfl) ?_
    refine y_astq hx hb hw.1 hat1 hca9 (hv9.kept (hq1 a9 haq)) hc99 (vp_in_nI (by omega) (by omega)) dJx4a65c_add_7a177_56 (fun H2 k8 hz2 hq2 hat2 => ?_)
    rw [nI_clamp (by omega), y_insE _ _ hi] at hat2
    refine lv_aload_n hx hb dJx4a65c_add_7a177_57 rfl (lv_at hl 2 rfl) ?_
    refine lv_iload_n hx hb dJx4a65c_add_7a177_58 rfl (lv_at hl 1 rfl) ?_
    refine lv_iconst (v := 1) hx hb dJx4a65c_add_7a177_59 (by decide) ?_
    refine lv_iadd hx hb dJx4a65c_add_7a177_60 ?_
    rw [nI_1]
    refine y_put hx hb hts (by decide +kernel) tyJx4a65c tyJx4a65c_ok nmJx4a65c hown hw.1 (((hw.2.2.1.2.1 o _ (m_ent_11 hcls)).kept (hq1 o hoq)).kept (hq2 o hoq)) rfl 2 (by decide) (hts (.fieldLink RJx4a65c 48 "java/util/ArrayList" "size" "I") (by decide +kernel)) (fun _ h9 => h9) (by decide) (ty := .int) (by decide +kernel) rfl rfl (by simp) dJx4a65c_add_7a177_61 (fun H3 k9 hz3 hq3 hat3 => ?_)
    have hlen2 := y_ins_len (L o) a9 hi
    have hLL2 : ∀ q : Loc, q ∈ ((locs ++ locs1) ++ [(⟨e0, k8⟩ : Loc)]) ++ [(⟨o, k9⟩ : Loc)] → G.2.2.1 ≤ q.base := fun q hq => by
      simp only [List.mem_append, List.mem_singleton] at hq
      rcases hq with ((h | h) | rfl) | rfl
      · exact hLL q h
      · rw [hL1 q h]; exact hqB
      · exact hqB
      · exact hoB
    have hw := m_fin_L (l' := y_ins (L o) i a9) hw hcls hr09 hke9 hoe9 (by rw [hlen2]; omega) (by omega) (fun b b1 b2 => (hq3 b b1).trans ((hq2 b b2).trans (hq1 b b2))) hLL2 (by rw [hlen2]; simpa [hr09, va_rf] using hat3) (hat2.kept (hq3 e0 (Ne.symm hoq)))
    refine W.widen (k := (if (L o).length = m_cap R N o then 1 else 0)) (n := (if (L o).length = m_cap R N o then m_nc (L o).length else 0)) (by first | (rw [if_pos hfl]; done) | (rw [if_pos hfl]; omega) | exact Nat.zero_le _) (by first | (rw [if_pos hfl]; done) | (rw [if_pos hfl]; omega) | exact Nat.zero_le _) ?_
    exact W.vret hx hb hr (fun t ht hW => ⟨⟨(K, m_up2 I 110 o ((I 110 o) + 1), R, N, m_up L o (y_ins (L o) i a9)), rfl, ⟨⟨hhid.1, hhid.2.1, fun f b hf => m_up2_ni _ _ hf, hhid.2.2.2⟩, hcap, rfl⟩, m_wo_out hw ht hW.alike⟩, m_wo_F hw ht⟩) (m_wo_L hw) dJx4a65c_add_7a177_64
set_option maxHeartbeats 400000 in
set_option maxRecDepth 100000 in
theorem c_Jx4a65c_fastRemove_b59b0 (l : Launch) {G : mG} {K : Nat → Nat} {I : Nat → Nat → Int32} {R : Nat → Nat → Option Nat} {F : Nat → UInt32} {A : Nat → Nat → Int32} {N : Nat → Nat} {L : Nat → List Nat} {T : Nat → List Int32} {J : Nat → Nat → Int64} {D : Nat → Nat → UInt64} {o e0 i : Nat} (hko : K o = 11) (hr0 : R 111 o = some e0) (hi : i < (L o).length) (hel9 : ∀ y, y ∈ L o → m_elt K y) : Met l yJx4a65c_fastRemove_b59b0 wsJx4a65c_fastRemove_b59b0 ({ frames := 1, cells := 0, slots := 0, locals := 60 } : Room) (va_Pc [.ref o, .ref e0, .int (nI i)] (m_B G K I R F A N L T J D)) (va_Qv (fun (u : (Nat → Nat → Int32) × (Nat → List Nat)) => (∀ f b, f ≠ 110 → u.1 f b = I f b) ∧ u.2 = m_up L o ((L o).eraseIdx i)) (fun u : (Nat → Nat → Int32) × (Nat → List Nat) => m_B G K (u.1) R F A N (u.2) T J D) (m_A G)) 0 0 (m_A G) := by
  refine Met.ofW (cc := cJx4a65c_fastRemove_b59b0) (maxL := 4) (ret := none) (by decide) rfl ?_
  intro p e s m args below meth c s₁ B hml hv
  obtain ⟨rfl, hB⟩ := hv
  have hx := B.exec
  have hb := B.bytes
  have hr := B.returns
  have hts := atoms_spec (ws := wsJx4a65c_fastRemove_b59b0) B.pre
  have hown : s.vm.findClass RJx4a65c = some m.cls := findClass_of_methodNamed B.named
  have hlocks := B.notSynchronized
  have hw := m_wo_in hB
  have hl := lv_entry ([.ref o, .ref e0, .int (nI i)]) (n := 4) (Nat.le_of_ble_eq_true rfl)
  rw [lg_entry_eq]
  generalize (lg_sl ([.ref o, .ref e0, .int (nI i)]) ++ List.replicate (4 - (lg_sl ([.ref o, .ref e0, .int (nI i)])).length) Slot.unset).toArray = ls at hl ⊢
  have hl : lv_has ls 4 [(0, .ref o), (1, .ref e0), (2, .int (nI i))] := hl
  obtain ⟨e1, hr9, hke, hoe, hle, hNe⟩ := m_back hw hko hi
  obtain rfl : e0 = e1 := Option.some.inj (hr0.symm.trans hr9)
  have hoq : o ≠ e0 := fun z => by rw [← z, hko] at hke; exact absurd hke (by decide)
  refine lv_aload_n hx hb dJx4a65c_fastRemove_b59b0_0 rfl (lv_at hl 0 rfl) ?_
  refine lv_dup hx hb dJx4a65c_fastRemove_b59b0_1 rfl ?_
  refine g_11_0 hx hb hts (by decide +kernel) hown hw hko (u_same (hts (.sameField "java/util/ArrayList" "java/util/AbstractList" "modCount" "I") (by decide +kernel))) (hts (.fieldLink RJx4a65c 63 "java/util/ArrayList" "modCount" "I") (by decide +kernel)) dJx4a65c_fastRemove_b59b0_2 ?_
  refine lv_iconst (v := 1) hx hb dJx4a65c_fastRemove_b59b0_5 (by decide) ?_
  refine lv_iadd hx hb dJx4a65c_fastRemove_b59b0_6 ?_
  refine p_11_0 hx hb hts (by decide +kernel) hown hw hko (u_same (hts (.sameField "java/util/ArrayList" "java/util/AbstractList" "modCount" "I") (by decide +kernel))) (hts (.fieldLink RJx4a65c 63 "java/util/ArrayList" "modCount" "I") (by decide +kernel)) dJx4a65c_fastRemove_b59b0_7 (fun H locs hw => ?_)
  refine lv_aload_n hx hb dJx4a65c_fastRemove_b59b0_10 rfl (lv_at hl 0 rfl) ?_
  refine g_11_2 hx hb hts (by decide +kernel) hown hw hko (hts (.fieldLink RJx4a65c 48 "java/util/ArrayList" "size" "I") (by decide +kernel)) dJx4a65c_fastRemove_b59b0_11 ?_
  refine lv_iconst (v := 1) hx hb dJx4a65c_fastRemove_b59b0_14 (by decide) ?_
  refine lv_isub hx hb dJx4a65c_fastRemove_b59b0_15 ?_
  rw [show nI (L o).length - 1 = nI ((L o).length - 1) from pk_sub (a := (L o).length) (b := 1) (by omega)]
  have hE9 := hw.2.2.1.2.1 e0 _ (m_ent_40 hke)
  rw [hoe] at hE9
  simp only [Option.getD_some] at hE9
  have hO9 := hw.2.2.1.2.1 o _ (m_ent_11 hko)
  have hoB := (hw.2.2.1.1 o (by rw [hko]; decide)).1
  have hqB := (hw.2.2.1.1 e0 (by rw [hke]; decide)).1
  have hLL := hw.2.2.2.1.2.2
  refine lv_dup hx hb dJx4a65c_fastRemove_b59b0_16 rfl ?_
  refine lv_istore_n (lv' := [(3, .int (nI ((L o).length - 1))), (0, .ref o), (1, .ref e0), (2, .int (nI i))]) hx hb dJx4a65c_fastRemove_b59b0_17 rfl hl (by decide) rfl (fun ls hl => ?_)
  refine lv_iload_n hx hb dJx4a65c_fastRemove_b59b0_18 rfl (lv_at hl 3 rfl) ?_
  refine lv_icmp_le (tgt := 34) hx hb dJx4a65c_fastRemove_b59b0_19 (by decide) (fun c_19 => ?_) (fun c_19 => ?_)
  · skip
    rw [nI_leI (by omega) (by omega)] at c_19
    have hz1 : H.size = H.size := rfl
    have hq1 : ∀ q : Nat, q ≠ e0 → H[q]? = H[q]? := fun _ _ => rfl
    have hat1 := hE9
    have hL1 : ∀ q ∈ locs, G.2.2.1 ≤ q.base := hLL
    have hf1 : ∀ j, j < (L o).length - 1 → (L o)[j]? = if j < i then (L o)[j]? else (L o)[j + 1]? := fun j hj => by rw [if_pos (by omega)]
    have hf2 : ∀ j, (L o).length ≤ j → (L o)[j]? = none := fun j hj => List.getElem?_eq_none hj
    refine lv_aload_n hx hb dJx4a65c_fastRemove_b59b0_34 rfl (lv_at hl 2 rfl) ?_
    refine lv_aload_n hx hb dJx4a65c_fastRemove_b59b0_35 rfl (lv_at hl 1 rfl) ?_
    refine lv_iload_n hx hb dJx4a65c_fastRemove_b59b0_36 rfl (lv_at hl 0 rfl) ?_
    refine lv_dup_x1 hx hb dJx4a65c_fastRemove_b59b0_37 rfl rfl ?_
    refine y_put hx hb hts (by decide +kernel) tyJx4a65c tyJx4a65c_ok nmJx4a65c hown hw.1 (hO9.kept (hq1 o hoq)) rfl 2 (by decide) (hts (.fieldLink RJx4a65c 48 "java/util/ArrayList" "size" "I") (by decide +kernel)) (fun _ h9 => h9) (by decide) (ty := .int) (by decide +kernel) rfl rfl (by simp) dJx4a65c_fastRemove_b59b0_38 (fun H2 k9 hz2 hq2 hat2 => ?_)
    refine lv_null hx hb dJx4a65c_fastRemove_b59b0_41 ?_
    refine y_astqN hx hb hw.1 (hat1.kept (hq2 e0 (Ne.symm hoq))) (vp_in_nI (by omega) (by omega)) dJx4a65c_fastRemove_b59b0_42 (fun H3 k8 hz3 hq3 hat3 => ?_)
    rw [nI_clamp (by omega), y_delE (L o) hi _ hf1 hf2] at hat3
    have hlen2 : ((L o).eraseIdx i).length = (L o).length - 1 := List.length_eraseIdx_of_lt hi
    have hLL2 : ∀ q : Loc, q ∈ (locs ++ [(⟨o, k9⟩ : Loc)]) ++ [(⟨e0, k8⟩ : Loc)] → G.2.2.1 ≤ q.base := fun q hq => by
      simp only [List.mem_append, List.mem_singleton] at hq
      rcases hq with (h | rfl) | rfl
      · exact hL1 q (by simpa using h)
      · exact hoB
      · exact hqB
    have hw := m_fin_L (l' := (L o).eraseIdx i) hw hko hr0 hke hoe (by rw [hlen2]; omega) (by omega) (fun b b1 b2 => (hq3 b b2).trans ((hq2 b b1).trans (hq1 b b2))) hLL2 (by rw [hlen2]; simpa [hr0, va_rf] using hat2.kept (hq3 o hoq)) hat3
    exact W.vret hx hb hr (fun t ht hW => ⟨⟨(m_up2 I 110 o ((I 110 o) + 1), m_up L o ((L o).eraseIdx i)), rfl, ⟨fun f b hf => m_up2_ni _ _ hf, rfl⟩, m_wo_out hw ht hW.alike⟩, m_wo_F hw ht⟩) (m_wo_L hw) dJx4a65c_fastRemove_b59b0_43
  · skip
    rw [nI_leI (by omega) (by omega)] at c_19
    refine lv_aload_n hx hb dJx4a65c_fastRemove_b59b0_22 rfl (lv_at hl 2 rfl) ?_
    refine lv_iload_n hx hb dJx4a65c_fastRemove_b59b0_23 rfl (lv_at hl 3 rfl) ?_
    refine lv_iconst (v := 1) hx hb dJx4a65c_fastRemove_b59b0_24 (by decide) ?_
    refine lv_iadd hx hb dJx4a65c_fastRemove_b59b0_25 ?_
    rw [nI_1]
    refine lv_aload_n hx hb dJx4a65c_fastRemove_b59b0_26 rfl (lv_at hl 2 rfl) ?_
    refine lv_iload_n hx hb dJx4a65c_fastRemove_b59b0_27 rfl (lv_at hl 3 rfl) ?_
    refine lv_iload_n hx hb dJx4a65c_fastRemove_b59b0_28 rfl (lv_at hl 0 rfl) ?_
    refine lv_iload_n hx hb dJx4a65c_fastRemove_b59b0_29 rfl (lv_at hl 3 rfl) ?_
    refine lv_isub hx hb dJx4a65c_fastRemove_b59b0_30 ?_
    rw [pk_sub (show i ≤ (L o).length - 1 by omega)]
    refine y_copyq hx hb (by rw [hml]; exact hl.1.symm) hown (hts (.methodLink RJx4a65c 112 arraycopyName) (by decide +kernel)) (hts (.native arraycopyName) (by decide +kernel)) (hts (.static arraycopyName) (by decide +kernel)) (hts (.initialized "java/lang/System") (by decide +kernel)) hw.1 hE9 hE9 (nI_pos (by omega)) (nI_pos (by omega)) (nI_pos (by omega)) (by rw [nI_clamp (by omega), nI_clamp (by omega)]; omega) (by rw [nI_clamp (by omega), nI_clamp (by omega)]; omega) (fun i9 _ y9 hy9 => by obtain ⟨ci, r8, vs, h1, h2, h3⟩ := y_elt hw (hel9 y9 (List.mem_of_getElem? hy9)); exact ⟨ci, r8, vs, h1, h2, h3⟩) (Nat.le_of_ble_eq_true rfl) (Nat.le_of_ble_eq_true rfl) dJx4a65c_fastRemove_b59b0_31 (fun H1 locs1 hz1 hq1 hL0 hat1 => ?_)
    rw [nI_clamp (by omega), nI_clamp (by omega), nI_clamp (by omega)] at hat1
    have hL1 : ∀ q ∈ locs ++ locs1, G.2.2.1 ≤ q.base := fun q hq => by
      rcases List.mem_append.mp hq with h | h
      · exact hLL q h
      · rw [hL0 q h]; exact hqB
    have hf1 : ∀ j, j < (L o).length - 1 → va_cpy (fun i => (L o)[i]?) (fun i => (L o)[i]?) (i + 1) i ((L o).length - 1 - i) j = if j < i then (L o)[j]? else (L o)[j + 1]? := fun j hj => by
      rw [y_cpy]
      by_cases h : j < i
      · rw [if_neg (by omega), if_pos h]
      · rw [if_pos (by omega), if_neg h]
        congr 1
        omega
    have hf2 : ∀ j, (L o).length ≤ j → va_cpy (fun i => (L o)[i]?) (fun i => (L o)[i]?) (i + 1) i ((L o).length - 1 - i) j = none := fun j hj => by
      rw [y_cpy, if_neg (by omega)]
      exact List.getElem?_eq_none hj
    refine lv_aload_n hx hb dJx4a65c_fastRemove_b59b0_34 rfl (lv_at hl 2 rfl) ?_
    refine lv_aload_n hx hb dJx4a65c_fastRemove_b59b0_35 rfl (lv_at hl 1 rfl) ?_
    refine lv_iload_n hx hb dJx4a65c_fastRemove_b59b0_36 rfl (lv_at hl 0 rfl) ?_
    refine lv_dup_x1 hx hb dJx4a65c_fastRemove_b59b0_37 rfl rfl ?_
    refine y_put hx hb hts (by decide +kernel) tyJx4a65c tyJx4a65c_ok nmJx4a65c hown hw.1 (hO9.kept (hq1 o hoq)) rfl 2 (by decide) (hts (.fieldLink RJx4a65c 48 "java/util/ArrayList" "size" "I") (by decide +kernel)) (fun _ h9 => h9) (by decide) (ty := .int) (by decide +kernel) rfl rfl (by simp) dJx4a65c_fastRemove_b59b0_38 (fun H2 k9 hz2 hq2 hat2 => ?_)
    refine lv_null hx hb dJx4a65c_fastRemove_b59b0_41 ?_
    refine y_astqN hx hb hw.1 (hat1.kept (hq2 e0 (Ne.symm hoq))) (vp_in_nI (by omega) (by omega)) dJx4a65c_fastRemove_b59b0_42 (fun H3 k8 hz3 hq3 hat3 => ?_)
    rw [nI_clamp (by omega), y_delE (L o) hi _ hf1 hf2] at hat3
    have hlen2 : ((L o).eraseIdx i).length = (L o).length - 1 := List.length_eraseIdx_of_lt hi
    have hLL2 : ∀ q : Loc, q ∈ ((locs ++ locs1) ++ [(⟨o, k9⟩ : Loc)]) ++ [(⟨e0, k8⟩ : Loc)] → G.2.2.1 ≤ q.base := fun q hq => by
      simp only [List.mem_append, List.mem_singleton] at hq
      rcases hq with (h | rfl) | rfl
      · exact hL1 q (by simpa using h)
      · exact hoB
      · exact hqB
    have hw := m_fin_L (l' := (L o).eraseIdx i) hw hko hr0 hke hoe (by rw [hlen2]; omega) (by omega) (fun b b1 b2 => (hq3 b b2).trans ((hq2 b b1).trans (hq1 b b2))) hLL2 (by rw [hlen2]; simpa [hr0, va_rf] using hat2.kept (hq3 o hoq)) hat3
    exact W.vret hx hb hr (fun t ht hW => ⟨⟨(m_up2 I 110 o ((I 110 o) + 1), m_up L o ((L o).eraseIdx i)), rfl, ⟨fun f b hf => m_up2_ni _ _ hf, rfl⟩, m_wo_out hw ht hW.alike⟩, m_wo_F hw ht⟩) (m_wo_L hw) dJx4a65c_fastRemove_b59b0_43
set_option maxHeartbeats 400000 in
set_option maxRecDepth 100000 in
theorem c_Jx4a65c_remove_915e3 (l : Launch) {G : mG} {K : Nat → Nat} {I : Nat → Nat → Int32} {R : Nat → Nat → Option Nat} {F : Nat → UInt32} {A : Nat → Nat → Int32} {N : Nat → Nat} {L : Nat → List Nat} {T : Nat → List Int32} {J : Nat → Nat → Int64} {D : Nat → Nat → UInt64} {o i : Nat} (hko : K o = 11) (hi : i < (L o).length) (hel9 : ∀ y, y ∈ L o → m_elt K y) : Met l yJx4a65c_remove_915e3 wsJx4a65c_remove_915e3 ({ frames := 2, cells := 0, slots := 0, locals := 90 } : Room) (va_Pc [.ref o, .int (nI i)] (m_B G K I R F A N L T J D)) (va_Qq (fun (r : Option Nat) (u : (Nat → Nat → Int32) × (Nat → List Nat)) => r = (L o)[i]? ∧ (∀ f b, f ≠ 110 → u.1 f b = I f b) ∧ u.2 = m_up L o ((L o).eraseIdx i)) (fun u : (Nat → Nat → Int32) × (Nat → List Nat) => m_B G K (u.1) R F A N (u.2) T J D) (m_A G)) 0 0 (m_A G) := by
  refine Met.ofW (cc := cJx4a65c_remove_915e3) (maxL := 4) (ret := (some (.object "java/lang/Object"))) (by decide) rfl ?_
  intro p e s m args below meth c s₁ B hml hv
  obtain ⟨rfl, hB⟩ := hv
  have hx := B.exec
  have hb := B.bytes
  have hr := B.returns
  have hts := atoms_spec (ws := wsJx4a65c_remove_915e3) B.pre
  have hown : s.vm.findClass RJx4a65c = some m.cls := findClass_of_methodNamed B.named
  have hlocks := B.notSynchronized
  have hw := m_wo_in hB
  have hl := lv_entry ([.ref o, .int (nI i)]) (n := 4) (Nat.le_of_ble_eq_true rfl)
  rw [lg_entry_eq]
  generalize (lg_sl ([.ref o, .int (nI i)]) ++ List.replicate (4 - (lg_sl ([.ref o, .int (nI i)])).length) Slot.unset).toArray = ls at hl ⊢
  have hl : lv_has ls 4 [(0, .ref o), (1, .int (nI i))] := hl
  obtain ⟨e0, hr0, hke, hoe, hle, hNe⟩ := m_back hw hko hi
  refine lv_iload_n hx hb dJx4a65c_remove_915e3_0 rfl (lv_at hl 1 rfl) ?_
  refine lv_aload_n hx hb dJx4a65c_remove_915e3_1 rfl (lv_at hl 0 rfl) ?_
  refine g_11_2 hx hb hts (by decide +kernel) hown hw hko (hts (.fieldLink RJx4a65c 48 "java/util/ArrayList" "size" "I") (by decide +kernel)) dJx4a65c_remove_915e3_2 ?_
  refine m_ci (va_runS (As := [.int (nI i), .int (nI (L o).length)]) (rest := []) ⟨hx, hb, hml, hown, hts⟩ (c_J15_checkIndex_7cf53 l hi (m_len hw hko)) (va_cwS 2 hts gJx4a65c_remove_915e3_J15_checkIndex_7cf53 rfl rfl rfl (by decide +kernel) ⟨Nat.le_of_ble_eq_true rfl, Nat.le_of_ble_eq_true rfl⟩) ⟨m_blind m_B_calling, fun U hU hW => ⟨rfl, m_wo_call hw hU hW⟩⟩ rfl rfl hl.1 rfl (lv_room (Nat.le_of_ble_eq_true rfl)) dJx4a65c_remove_915e3_5 ⟨Nat.le_of_ble_eq_true rfl, Nat.le_of_ble_eq_true rfl⟩) hw (fun r_5 u_5 H locs hp_5 hw => ?_)
  refine lv_pop hx hb dJx4a65c_remove_915e3_8 rfl ?_
  refine lv_aload_n hx hb dJx4a65c_remove_915e3_9 rfl (lv_at hl 0 rfl) ?_
  refine g_11_1 (r9 := (some e0)) hx hb hts (by decide +kernel) hown hw hko (hts (.fieldLink RJx4a65c 9 "java/util/ArrayList" "elementData" "[Ljava/lang/Object;") (by decide +kernel)) hr0 dJx4a65c_remove_915e3_10 ?_
  refine lv_astore_n (lv' := [(2, .ref e0), (0, .ref o), (1, .int (nI i))]) hx hb dJx4a65c_remove_915e3_13 rfl hl (by decide) rfl (fun ls hl => ?_)
  refine lv_aload_n hx hb dJx4a65c_remove_915e3_14 rfl (lv_at hl 0 rfl) ?_
  refine lv_iload_n hx hb dJx4a65c_remove_915e3_15 rfl (lv_at hl 2 rfl) ?_
  refine m_aald_40 hx hb hw hke hoe (vp_in_nI (by omega) (by omega)) dJx4a65c_remove_915e3_16 ?_
  rw [nI_clamp (by omega)]
  refine m_astore_nQ (lv' := [(3, va_rf ((L o)[i]?)), (2, .ref e0), (0, .ref o), (1, .int (nI i))]) hx hb dJx4a65c_remove_915e3_17 rfl hl (by decide) rfl (fun ls hl => ?_)
  refine lv_aload_n hx hb dJx4a65c_remove_915e3_18 rfl (lv_at hl 2 rfl) ?_
  refine lv_aload_n hx hb dJx4a65c_remove_915e3_19 rfl (lv_at hl 1 rfl) ?_
  refine lv_iload_n hx hb dJx4a65c_remove_915e3_20 rfl (lv_at hl 3 rfl) ?_
  refine m_cv (va_runV (As := [.ref e0, .int (nI i)]) (rest := []) ⟨hx, hb, hml, hown, hts⟩ (c_Jx4a65c_fastRemove_b59b0 l hko hr0 hi hel9) (cwV 2 hts gJx4a65c_remove_915e3_Jx4a65c_fastRemove_b59b0 rfl rfl rfl (by decide +kernel) ⟨Nat.le_of_ble_eq_true rfl, Nat.le_of_ble_eq_true rfl⟩) ⟨m_blind m_B_calling, m_recv hw (m_ent_11 hko) rfl, fun U hU hW => ⟨rfl, m_wo_call hw hU hW⟩⟩ rfl rfl hl.1 rfl (lv_room (Nat.le_of_ble_eq_true rfl)) dJx4a65c_remove_915e3_21 ⟨Nat.le_of_ble_eq_true rfl, Nat.le_of_ble_eq_true rfl⟩) hw (fun u_21 H locs hp_21 hw => ?_)
  obtain ⟨I_1, L_2⟩ := u_21
  have hw : m_wo G K I_1 R F A N L_2 T J D s H locs := hw
  dsimp only at hp_21
  refine m_aload_nQ hx hb dJx4a65c_remove_915e3_24 rfl (lv_at hl 0 rfl) ?_
  exact W.aret (v := va_rf ((L o)[i]?)) hx hb hr (Or.inl ⟨_, rfl⟩) (va_rf_or _) (fun t ht hW => ⟨⟨((L o)[i]?), (I_1, L_2), rfl, ⟨rfl, hp_21⟩, m_wo_out hw ht hW.alike⟩, m_wo_F hw ht⟩) (m_wo_L hw) dJx4a65c_remove_915e3_25
