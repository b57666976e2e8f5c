section
variable {p : Program} {l : Launch} {e : Env} {R0 : Room} {s : State} {m : MethodId} {args : Array Value} {below : List Frame} {meth : Method} {c : Code} {H : Heap} {locs : List Loc} {cells slots : Nat} {Q : State → Prop} {cc : ByteArray} {pc : Nat} {ls : Array Slot} {rest : List Value} {G : mG} {K : Nat → Nat} {I : Nat → Nat → Int32} {R : Nat → Nat → Option Nat} {F : Nat → UInt32} {A : Nat → Nat → Int32} {N : Nat → Nat} {L : Nat → List Nat} {T : Nat → List Int32} {J : Nat → Nat → Int64} {D : Nat → Nat → UInt64}
theorem lenOf (hexec : p.tables.exec = Jvm.exec) (hb : c.code = cc) {o ed : Nat} (hw : m_wo G K I R F A N L T J D s H locs) (hk : K o = 11) (hr : R 111 o = some ed) (hf : (L o).length = m_cap R N o) (hdg : decode cc pc = .ok (.arraylength, 1)) (kk : W p l e R0 s m args below meth c H locs cells slots Q (F0 m (pc + 1) ls (.int (nI (L o).length) :: rest))) : W p l e R0 s m args below meth c H locs cells slots Q (F0 m pc ls (.ref ed :: rest)) := by
  rcases m_list hw hk (by rw [hr]; simp) with ⟨h1, h2, h3⟩ | ⟨e0, h1, h2, h3, h4, h5, h6, h7, h8⟩
  · obtain rfl : ed = G.2.2.2 := Option.some.inj (hr.symm.trans h1)
    refine m_alen_0 hexec hb hw hdg ?_
    rw [h2] at kk
    exact kk
  · obtain rfl : ed = e0 := Option.some.inj (hr.symm.trans h1)
    refine m_alen_40 hexec hb hw h2 hdg ?_
    rw [hf, h7] at kk
    exact kk
end
set_option maxHeartbeats 400000 in
set_option maxRecDepth 100000 in
theorem c_Jx4a65c_add_72be8 (l : Launch) {G : mG} {K : Nat → Nat} {I : Nat → Nat → Int32} {R : Nat → Nat → Option Nat} {F : Nat → UInt32} {A : Nat → Nat → Int32} {N : Nat → Nat} {L : Nat → List Nat} {T : Nat → List Int32} {J : Nat → Nat → Int64} {D : Nat → Nat → UInt64} {o a9 ed : Nat} (hko : K o = 11) (hr1 : R 111 o ≠ none) (ha9 : m_elt K a9) (hel : ∀ y, y ∈ L o → m_elt K y) (hc6 : (L o).length ≤ 600) (hred : R 111 o = some ed) : Met l yJx4a65c_add_72be8 wsJx4a65c_add_72be8 ({ frames := 5, cells := (if (L o).length = m_cap R N o then 1 else 0), slots := (if (L o).length = m_cap R N o then m_nc (L o).length else 0), locals := 200 } : Room) (va_Pc [.ref o, .ref a9, .ref ed, .int (nI (L o).length)] (m_B G K I R F A N L T J D)) (va_Qv (fun (u : (Nat → Nat) × (Nat → Nat → Int32) × (Nat → Nat → Option Nat) × (Nat → Nat) × (Nat → List Nat)) => m_hid o K I R N u.1 u.2.1 u.2.2.1 u.2.2.2.1 ∧ m_cap u.2.2.1 u.2.2.2.1 o = m_cap R N o + m_dc (L o).length (m_cap R N o) ∧ u.2.1 = I ∧ u.2.2.2.2 = m_up L o (L o ++ [a9])) (fun u : (Nat → Nat) × (Nat → Nat → Int32) × (Nat → Nat → Option Nat) × (Nat → Nat) × (Nat → List Nat) => m_B G (u.1) (u.2.1) (u.2.2.1) F A (u.2.2.2.1) (u.2.2.2.2) T J D) (m_A G)) (if (L o).length = m_cap R N o then 1 else 0) (if (L o).length = m_cap R N o then m_nc (L o).length else 0) (m_A G) := by
  refine Met.ofW (cc := cJx4a65c_add_72be8) (maxL := 4) (ret := none) (by decide) rfl ?_
  intro p e s m args below meth c s₁ B hml hv
  obtain ⟨rfl, hB⟩ := hv
  have hx := B.exec
  have hb := B.bytes
  have hr := B.returns
  have hts := atoms_spec (ws := wsJx4a65c_add_72be8) B.pre
  have hown : s.vm.findClass RJx4a65c = some m.cls := findClass_of_methodNamed B.named
  have hlocks := B.notSynchronized
  have hw := m_wo_in hB
  have hl := lv_entry ([.ref o, .ref a9, .ref ed, .int (nI (L o).length)]) (n := 4) (Nat.le_of_ble_eq_true rfl)
  rw [lg_entry_eq]
  generalize (lg_sl ([.ref o, .ref a9, .ref ed, .int (nI (L o).length)]) ++ List.replicate (4 - (lg_sl ([.ref o, .ref a9, .ref ed, .int (nI (L o).length)])).length) Slot.unset).toArray = ls at hl ⊢
  have hl : lv_has ls 4 [(0, .ref o), (1, .ref a9), (2, .ref ed), (3, .int (nI (L o).length))] := hl
  by_cases hfl : (L o).length = m_cap R N o
  · skip
    refine lv_iload_n hx hb dJx4a65c_add_72be8_0 rfl (lv_at hl 3 rfl) ?_
    refine lv_aload_n hx hb dJx4a65c_add_72be8_1 rfl (lv_at hl 2 rfl) ?_
    obtain ⟨n9, hn9, hn91, hn92⟩ : ∃ n9, (n9 = (L o).length) ∧ n9 ≤ 1000 ∧ ∀ Q9 : Nat → Prop, Q9 n9 → Q9 (L o).length := ⟨_, rfl, by omega, fun _ h => h⟩
    refine lenOf hx hb hw hko hred hfl dJx4a65c_add_72be8_2 ?_
    refine lv_icmp_ne (tgt := 11) hx hb dJx4a65c_add_72be8_3 (by decide) (fun c_3 => absurd rfl c_3) (fun c_3 => ?_)
    refine lv_aload_n hx hb dJx4a65c_add_72be8_6 rfl (lv_at hl 0 rfl) ?_
    refine m_cq (va_runV (As := []) (rest := []) ⟨hx, hb, hml, hown, hts⟩ (c_Jx4a65c_grow_d5877 l hko hr1 hfl hc6 hel) (cwV 0 hts gJx4a65c_add_72be8_Jx4a65c_grow_d5877 rfl rfl rfl (by decide +kernel) ⟨Nat.le_of_ble_eq_true rfl, Nat.le_of_ble_eq_true rfl⟩) ⟨m_blind m_B_calling, m_recv hw (m_ent_11 hko) rfl, fun U hU hW => ⟨rfl, m_wo_call hw hU hW⟩⟩ rfl rfl hl.1 rfl (lv_room (Nat.le_of_ble_eq_true rfl)) dJx4a65c_add_72be8_7 ⟨by show 0 + 1 ≤ (if _ then _ else _); rw [if_pos hfl]; exact Nat.le_refl _, by show 0 + m_nc (L o).length ≤ (if _ then _ else _); rw [if_pos hfl]; omega⟩) hw (fun r_7 u_7 H locs hp_7 hw => ?_)
    obtain ⟨K_1, R_2, N_3⟩ := u_7
    have hw : m_wo G K_1 I R_2 F A N_3 L T J D s H locs := hw
    dsimp only at hp_7
    obtain ⟨q9, hr9, hq9, eK9, eR9, eN9⟩ := hp_7
    obtain rfl : r_7 = some q9 := hr9
    have hhid : m_hid o K I R N K_1 I R_2 N_3 := by rw [eK9, eR9, eN9]; exact m_hid_G hq9
    have hke9 : K_1 q9 = 40 := by rw [eK9]; exact if_pos rfl
    have hr09 : R_2 111 o = some q9 := by rw [eR9]; exact m_up2_self _ _ _ _
    have hoe9 : R_2 99 q9 = some o := by rw [eR9]; unfold m_gR; rw [m_up2_ni _ _ (by decide), m_up2_self]
    have hN9 : N_3 q9 = m_nc (L o).length := by rw [eN9]; exact m_up_self _ _ _
    have hcap : m_cap R_2 N_3 o = m_cap R N o + m_dc (L o).length (m_cap R N o) := by rw [eR9, eN9, m_cap_G]; unfold m_dc; rw [if_pos hfl, ← hfl]; have := m_nc_gt (L o).length; omega
    have hcls : K_1 o = 11 := (hhid.1 o (by rw [hko]; decide) (by rw [hko]; decide)).trans hko
    have ha99 : m_elt K_1 a9 := m_elt_hid hhid ha9
    have hlt9 : (L o).length < N_3 q9 := by rw [hN9]; exact m_nc_gt _
    have hel9 : ∀ y, y ∈ L o → m_elt K_1 y := fun y hy => m_elt_hid hhid (hel y hy)
    have hN99 : N_3 q9 ≤ 1000 := by rw [hN9]; exact m_nc_le hc6
    refine lv_astore_n (lv' := [(2, .ref q9), (0, .ref o), (1, .ref a9), (3, .int (nI (L o).length))]) hx hb dJx4a65c_add_72be8_10 rfl hl (by decide) rfl (fun ls hl => ?_)
    refine lv_aload_n hx hb dJx4a65c_add_72be8_11 rfl (lv_at hl 0 rfl) ?_
    refine lv_iload_n hx hb dJx4a65c_add_72be8_12 rfl (lv_at hl 3 rfl) ?_
    refine lv_aload_n hx hb dJx4a65c_add_72be8_13 rfl (lv_at hl 2 rfl) ?_
    obtain ⟨ci9, r99, vs9, hv9, hc99, hca9⟩ := y_elt hw ha99
    have hE9 := hw.2.2.1.2.1 q9 _ (m_ent_40 hke9)
    rw [hoe9] at hE9
    simp only [Option.getD_some] at hE9
    have hoB := (hw.2.2.1.1 o (by rw [hcls]; decide)).1
    have hqB := (hw.2.2.1.1 q9 (by rw [hke9]; decide)).1
    have hoq : o ≠ q9 := fun z => by rw [← z, hcls] at hke9; exact absurd hke9 (by decide)
    have hLL := hw.2.2.2.1.2.2
    refine y_astq hx hb hw.1 hE9 hca9 hv9 hc99 (vp_in_nI hlt9 (by omega)) dJx4a65c_add_72be8_14 (fun H1 k8 hz1 hq1 hat1 => ?_)
    rw [nI_clamp (by omega), y_snoc] at hat1
    refine lv_aload_n hx hb dJx4a65c_add_72be8_15 rfl (lv_at hl 1 rfl) ?_
    refine lv_iload_n hx hb dJx4a65c_add_72be8_16 rfl (lv_at hl 3 rfl) ?_
    refine lv_iconst (v := 1) hx hb dJx4a65c_add_72be8_17 (by decide) ?_
    refine lv_iadd hx hb dJx4a65c_add_72be8_18 ?_
    rw [nI_1]
    refine y_put hx hb hts (by decide +kernel) tyJx4a65c tyJx4a65c_ok nmJx4a65c hown hw.1 ((hw.2.2.1.2.1 o _ (m_ent_11 hcls)).kept (hq1 o hoq)) rfl 2 (by decide) (hts (.fieldLink RJx4a65c 48 "java/util/ArrayList" "size" "I") (by decide +kernel)) (fun _ h9 => h9) (by decide) (ty := .int) (by decide +kernel) rfl rfl (by simp) dJx4a65c_add_72be8_19 (fun H2 k9 hz2 hq2 hat2 => ?_)
    have hlen2 : (L o ++ [a9]).length = (L o).length + 1 := by rw [List.length_append]; rfl
    have hLL2 : ∀ q : Loc, q ∈ (locs ++ [(⟨q9, k8⟩ : Loc)]) ++ [(⟨o, k9⟩ : Loc)] → G.2.2.1 ≤ q.base := fun q hq => by
      simp only [List.mem_append, List.mem_singleton] at hq
      rcases hq with (h | rfl) | rfl
      · exact hLL q h
      · exact hqB
      · exact hoB
    have hw := m_fin_L (l' := L o ++ [a9]) hw hcls hr09 hke9 hoe9 (by rw [hlen2]; omega) (by omega) (fun b b1 b2 => (hq2 b b1).trans (hq1 b b2)) hLL2 (by rw [hlen2]; simpa [hr09, va_rf] using hat2) (hat1.kept (hq2 q9 (Ne.symm hoq)))
    refine W.widen (k := (if (L o).length = m_cap R N o then 1 else 0)) (n := (if (L o).length = m_cap R N o then m_nc (L o).length else 0)) (by first | (rw [if_pos hfl]; done) | (rw [if_pos hfl]; omega) | exact Nat.zero_le _) (by first | (rw [if_pos hfl]; done) | (rw [if_pos hfl]; omega) | exact Nat.zero_le _) ?_
    exact W.vret hx hb hr (fun t ht hW => ⟨⟨(K_1, I, R_2, N_3, m_up L o (L o ++ [a9])), rfl, ⟨hhid, hcap, rfl, rfl⟩, m_wo_out hw ht hW.alike⟩, m_wo_F hw ht⟩) (m_wo_L hw) dJx4a65c_add_72be8_22
  · skip
    obtain ⟨hr0, hl0, hc0⟩ | ⟨e0, hr0, hke, hoe, hle, hN0, hN1, hc0, hne⟩ := m_list hw hko hr1
    · exact absurd (by rw [hl0, hc0]; rfl) hfl
    have hlt : (L o).length < N e0 := by omega
    refine lv_iload_n hx hb dJx4a65c_add_72be8_0 rfl (lv_at hl 3 rfl) ?_
    refine lv_aload_n hx hb dJx4a65c_add_72be8_1 rfl (lv_at hl 2 rfl) ?_
    obtain rfl : ed = e0 := Option.some.inj (hred.symm.trans hr0)
    refine m_alen_40 hx hb hw hke dJx4a65c_add_72be8_2 ?_
    refine lv_icmp_ne (tgt := 11) hx hb dJx4a65c_add_72be8_3 (by decide) (fun c_3 => ?_) (fun c_3 => absurd c_3 (fun z => absurd ((nI_eq (by omega) (by omega)).mp z) (by omega)))
    have hhid : m_hid o K I R N K I R N := ⟨fun _ _ _ => rfl, fun _ _ _ _ => rfl, fun _ _ _ => rfl, fun _ _ _ _ => rfl, fun _ _ => rfl, fun _ _ => rfl, hr1⟩
    have hcap : m_cap R N o = m_cap R N o + m_dc (L o).length (m_cap R N o) := by unfold m_dc; rw [if_neg hfl]; rfl
    have hcls := hko
    have ha99 := ha9
    have hel9 := hel
    have hke9 := hke
    have hr09 := hr0
    have hoe9 := hoe
    have hlt9 := hlt
    have hN99 := hN1
    refine lv_aload_n hx hb dJx4a65c_add_72be8_11 rfl (lv_at hl 2 rfl) ?_
    refine lv_iload_n hx hb dJx4a65c_add_72be8_12 rfl (lv_at hl 3 rfl) ?_
    refine lv_aload_n hx hb dJx4a65c_add_72be8_13 rfl (lv_at hl 1 rfl) ?_
    obtain ⟨ci9, r99, vs9, hv9, hc99, hca9⟩ := y_elt hw ha99
    have hE9 := hw.2.2.1.2.1 ed _ (m_ent_40 hke9)
    rw [hoe9] at hE9
    simp only [Option.getD_some] at hE9
    have hoB := (hw.2.2.1.1 o (by rw [hcls]; decide)).1
    have hqB := (hw.2.2.1.1 ed (by rw [hke9]; decide)).1
    have hoq : o ≠ ed := fun z => by rw [← z, hcls] at hke9; exact absurd hke9 (by decide)
    have hLL := hw.2.2.2.1.2.2
    refine y_astq hx hb hw.1 hE9 hca9 hv9 hc99 (vp_in_nI hlt9 (by omega)) dJx4a65c_add_72be8_14 (fun H1 k8 hz1 hq1 hat1 => ?_)
    rw [nI_clamp (by omega), y_snoc] at hat1
    refine lv_aload_n hx hb dJx4a65c_add_72be8_15 rfl (lv_at hl 0 rfl) ?_
    refine lv_iload_n hx hb dJx4a65c_add_72be8_16 rfl (lv_at hl 3 rfl) ?_
    refine lv_iconst (v := 1) hx hb dJx4a65c_add_72be8_17 (by decide) ?_
    refine lv_iadd hx hb dJx4a65c_add_72be8_18 ?_
    rw [nI_1]
    refine y_put hx hb hts (by decide +kernel) tyJx4a65c tyJx4a65c_ok nmJx4a65c hown hw.1 ((hw.2.2.1.2.1 o _ (m_ent_11 hcls)).kept (hq1 o hoq)) rfl 2 (by decide) (hts (.fieldLink RJx4a65c 48 "java/util/ArrayList" "size" "I") (by decide +kernel)) (fun _ h9 => h9) (by decide) (ty := .int) (by decide +kernel) rfl rfl (by simp) dJx4a65c_add_72be8_19 (fun H2 k9 hz2 hq2 hat2 => ?_)
    have hlen2 : (L o ++ [a9]).length = (L o).length + 1 := by rw [List.length_append]; rfl
    have hLL2 : ∀ q : Loc, q ∈ (([] : List Loc) ++ [(⟨ed, k8⟩ : Loc)]) ++ [(⟨o, k9⟩ : Loc)] → G.2.2.1 ≤ q.base := fun q hq => by
      simp only [List.mem_append, List.mem_singleton] at hq
      rcases hq with (h | rfl) | rfl
      · exact hLL q h
      · exact hqB
      · exact hoB
    have hw := m_fin_L (l' := L o ++ [a9]) hw hcls hr09 hke9 hoe9 (by rw [hlen2]; omega) (by omega) (fun b b1 b2 => (hq2 b b1).trans (hq1 b b2)) hLL2 (by rw [hlen2]; simpa [hr09, va_rf] using hat2) (hat1.kept (hq2 ed (Ne.symm hoq)))
    refine W.widen (k := (if (L o).length = m_cap R N o then 1 else 0)) (n := (if (L o).length = m_cap R N o then m_nc (L o).length else 0)) (by first | (rw [if_pos hfl]; done) | (rw [if_pos hfl]; omega) | exact Nat.zero_le _) (by first | (rw [if_pos hfl]; done) | (rw [if_pos hfl]; omega) | exact Nat.zero_le _) ?_
    exact W.vret hx hb hr (fun t ht hW => ⟨⟨(K, I, R, N, m_up L o (L o ++ [a9])), rfl, ⟨hhid, hcap, rfl, rfl⟩, m_wo_out hw ht hW.alike⟩, m_wo_F hw ht⟩) (m_wo_L hw) dJx4a65c_add_72be8_22
set_option maxHeartbeats 400000 in
set_option maxRecDepth 100000 in
theorem c_Jx4a65c_add_9ea2d (l : Launch) {G : mG} {K : Nat → Nat} {I : Nat → Nat → Int32} {R : Nat → Nat → Option Nat} {F : Nat → UInt32} {A : Nat → Nat → Int32} {N : Nat → Nat} {L : Nat → List Nat} {T : Nat → List Int32} {J : Nat → Nat → Int64} {D : Nat → Nat → UInt64} {o a9 : Nat} (hko : K o = 11) (hr1 : R 111 o ≠ none) (ha9 : m_elt K a9) (hel : ∀ y, y ∈ L o → m_elt K y) (hc6 : (L o).length ≤ 600) : Met l yJx4a65c_add_9ea2d wsJx4a65c_add_9ea2d ({ frames := 6, cells := (if (L o).length = m_cap R N o then 1 else 0), slots := (if (L o).length = m_cap R N o then m_nc (L o).length else 0), locals := 240 } : Room) (va_Pc [.ref o, .ref a9] (m_B G K I R F A N L T J D)) (va_Qi (fun (r : Int32) (u : (Nat → Nat) × (Nat → Nat → Int32) × (Nat → Nat → Option Nat) × (Nat → Nat) × (Nat → List Nat)) => m_hid o K I R N u.1 u.2.1 u.2.2.1 u.2.2.2.1 ∧ m_cap u.2.2.1 u.2.2.2.1 o = m_cap R N o + m_dc (L o).length (m_cap R N o) ∧ u.2.2.2.2 = m_up L o (L o ++ [a9])) (fun u : (Nat → Nat) × (Nat → Nat → Int32) × (Nat → Nat → Option Nat) × (Nat → Nat) × (Nat → List Nat) => m_B G (u.1) (u.2.1) (u.2.2.1) F A (u.2.2.2.1) (u.2.2.2.2) T J D) (m_A G)) (if (L o).length = m_cap R N o then 1 else 0) (if (L o).length = m_cap R N o then m_nc (L o).length else 0) (m_A G) := by
  refine Met.ofW (cc := cJx4a65c_add_9ea2d) (maxL := 2) (ret := (some .boolean)) (by decide) rfl ?_
  intro p e s m args below meth c s₁ B hml hv
  obtain ⟨rfl, hB⟩ := hv
  have hx := B.exec
  have hb := B.bytes
  have hr := B.returns
  have hts := atoms_spec (ws := wsJx4a65c_add_9ea2d) B.pre
  have hown : s.vm.findClass RJx4a65c = some m.cls := findClass_of_methodNamed B.named
  have hlocks := B.notSynchronized
  have hw := m_wo_in hB
  have hl := lv_entry ([.ref o, .ref a9]) (n := 2) (Nat.le_of_ble_eq_true rfl)
  rw [lg_entry_eq]
  generalize (lg_sl ([.ref o, .ref a9]) ++ List.replicate (2 - (lg_sl ([.ref o, .ref a9])).length) Slot.unset).toArray = ls at hl ⊢
  have hl : lv_has ls 2 [(0, .ref o), (1, .ref a9)] := hl
  obtain ⟨ed, hred⟩ : ∃ ed, R 111 o = some ed := Option.ne_none_iff_exists'.mp hr1
  refine lv_aload_n hx hb dJx4a65c_add_9ea2d_0 rfl (lv_at hl 0 rfl) ?_
  refine lv_dup hx hb dJx4a65c_add_9ea2d_1 rfl ?_
  refine g_11_0 hx hb hts (by decide +kernel) hown hw hko (u_same (hts (.sameField "java/util/ArrayList" "java/util/AbstractList" "modCount" "I") (by decide +kernel))) (hts (.fieldLink RJx4a65c 63 "java/util/ArrayList" "modCount" "I") (by decide +kernel)) dJx4a65c_add_9ea2d_2 ?_
  refine lv_iconst (v := 1) hx hb dJx4a65c_add_9ea2d_5 (by decide) ?_
  refine lv_iadd hx hb dJx4a65c_add_9ea2d_6 ?_
  refine p_11_0 hx hb hts (by decide +kernel) hown hw hko (u_same (hts (.sameField "java/util/ArrayList" "java/util/AbstractList" "modCount" "I") (by decide +kernel))) (hts (.fieldLink RJx4a65c 63 "java/util/ArrayList" "modCount" "I") (by decide +kernel)) dJx4a65c_add_9ea2d_7 (fun H locs hw => ?_)
  refine lv_aload_n hx hb dJx4a65c_add_9ea2d_10 rfl (lv_at hl 0 rfl) ?_
  refine lv_aload_n hx hb dJx4a65c_add_9ea2d_11 rfl (lv_at hl 1 rfl) ?_
  refine lv_aload_n hx hb dJx4a65c_add_9ea2d_12 rfl (lv_at hl 0 rfl) ?_
  refine g_11_1 (r9 := (some ed)) hx hb hts (by decide +kernel) hown hw hko (hts (.fieldLink RJx4a65c 9 "java/util/ArrayList" "elementData" "[Ljava/lang/Object;") (by decide +kernel)) hred dJx4a65c_add_9ea2d_13 ?_
  refine lv_aload_n hx hb dJx4a65c_add_9ea2d_16 rfl (lv_at hl 0 rfl) ?_
  refine g_11_2 hx hb hts (by decide +kernel) hown hw hko (hts (.fieldLink RJx4a65c 48 "java/util/ArrayList" "size" "I") (by decide +kernel)) dJx4a65c_add_9ea2d_17 ?_
  refine m_cv (va_runV (As := [.ref a9, .ref ed, .int (nI (L o).length)]) (rest := []) ⟨hx, hb, hml, hown, hts⟩ (c_Jx4a65c_add_72be8 l hko hr1 ha9 hel hc6 hred) (cwV 3 hts gJx4a65c_add_9ea2d_Jx4a65c_add_72be8 rfl rfl rfl (by decide +kernel) ⟨Nat.le_of_ble_eq_true rfl, Nat.le_of_ble_eq_true rfl⟩) ⟨m_blind m_B_calling, m_recv hw (m_ent_11 hko) rfl, fun U hU hW => ⟨rfl, m_wo_call hw hU hW⟩⟩ rfl rfl hl.1 rfl (lv_room (Nat.le_of_ble_eq_true rfl)) dJx4a65c_add_9ea2d_20 ⟨by show 0 + (if _ then _ else _) ≤ _; rw [Nat.zero_add]; exact Nat.le_refl _, by show 0 + (if _ then _ else _) ≤ _; rw [Nat.zero_add]; exact Nat.le_refl _⟩) hw (fun u_20 H locs hp_20 hw => ?_)
  obtain ⟨K_1, I_2, R_3, N_4, L_5⟩ := u_20
  have hw : m_wo G K_1 I_2 R_3 F A N_4 L_5 T J D s H locs := hw
  dsimp only at hp_20
  obtain ⟨hh9, hcap9, hI9, hL9⟩ := hp_20
  refine lv_iconst (v := 1) hx hb dJx4a65c_add_9ea2d_23 (by decide) ?_
  refine W.widen (k := (if (L o).length = m_cap R N o then 1 else 0)) (n := (if (L o).length = m_cap R N o then m_nc (L o).length else 0)) (by rw [Nat.zero_add]; exact Nat.le_refl _) (by rw [Nat.zero_add]; exact Nat.le_refl _) ?_
  exact W.zret (v := 1) hx hb hr (by rfl) (fun t ht hW => ⟨⟨1, (K_1, I_2, R_3, N_4, L_5), rfl, ⟨⟨hh9.1, hh9.2.1, fun f b hf => (hh9.2.2.1 f b hf).trans (m_up2_ni _ _ hf), hh9.2.2.2⟩, hcap9, hL9⟩, m_wo_out hw ht hW.alike⟩, m_wo_F hw ht⟩) (m_wo_L hw) dJx4a65c_add_9ea2d_24
