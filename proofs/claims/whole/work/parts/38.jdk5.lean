theorem fill_0 (A : Nat → Nat → Int32) (a9 : Nat) (v9 : Int32) : A = m_up A a9 (fun j => if j < 0 then v9 else A a9 j) := by
  funext b j
  unfold m_up
  split
  · rename_i h; rw [h]; rfl
  · rfl
theorem fill_1 (A : Nat → Nat → Int32) (a9 : Nat) (v9 : Int32) (i : Nat) : m_up (m_up A a9 (fun j => if j < i then v9 else A a9 j)) a9 (upd (m_up A a9 (fun j => if j < i then v9 else A a9 j) a9) i v9) = m_up A a9 (fun j => if j < i + 1 then v9 else A a9 j) := by
  funext b j
  unfold m_up upd
  by_cases hb : b = a9
  · subst hb
    simp only [if_true]
    by_cases h : j = i
    · rw [if_pos h, if_pos (by omega)]
    · rw [if_neg h]
      by_cases h2 : j < i
      · rw [if_pos h2, if_pos (by omega)]
      · rw [if_neg h2, if_neg (by omega)]
  · simp only [hb, if_false]
set_option maxHeartbeats 400000 in
set_option maxRecDepth 100000 in
theorem c_Jx4a65c_clear_da8c8 (l : Launch) {G : mG} {K : Nat → Nat} {I : Nat → Nat → Int32} {R : Nat → Nat → Option Nat} {F : Nat → UInt32} {A : Nat → Nat → Int32} {N : Nat → Nat} {L : Nat → List Nat} {T : Nat → List Int32} {J : Nat → Nat → Int64} {D : Nat → Nat → UInt64} {o : Nat} (hko : K o = 11) (hr1 : R 111 o ≠ none) : Met l yJx4a65c_clear_da8c8 wsJx4a65c_clear_da8c8 ({ frames := 0, cells := 0, slots := 0, locals := 0 } : Room) (va_Pc [.ref o] (m_B G K I R F A N L T J D)) (va_Qv (fun (u : (Nat → Nat → Int32) × (Nat → List Nat)) => (∀ f b, f ≠ 110 → u.1 f b = I f b) ∧ u.2 = m_up L o []) (fun u : (Nat → Nat → Int32) × (Nat → List Nat) => m_B G K (u.1) R F A N (u.2) T J D) (m_A G)) 0 0 (m_A G) := by
  refine Met.ofW (cc := cJx4a65c_clear_da8c8) (maxL := 4) (ret := none) (by decide) rfl ?_
  intro p e s m args below meth c s₁ B hml hv
  obtain ⟨rfl, hB⟩ := hv
  have hx := B.exec
  have hb := B.bytes
  have hr := B.returns
  have hts := atoms_spec (ws := wsJx4a65c_clear_da8c8) B.pre
  have hown : s.vm.findClass RJx4a65c = some m.cls := findClass_of_methodNamed B.named
  have hlocks := B.notSynchronized
  have hw := m_wo_in hB
  have hl := lv_entry ([.ref o]) (n := 4) (Nat.le_of_ble_eq_true rfl)
  rw [lg_entry_eq]
  generalize (lg_sl ([.ref o]) ++ List.replicate (4 - (lg_sl ([.ref o])).length) Slot.unset).toArray = ls at hl ⊢
  have hl : lv_has ls 4 [(0, .ref o)] := hl
  rcases m_list hw hko hr1 with ⟨hr0, hl0, hc0⟩ | ⟨e0, hr0, hke, hoe, hle, hN0, hN1, hc0, hne⟩
  · skip
    refine lv_aload_n hx hb dJx4a65c_clear_da8c8_0 rfl (lv_at hl 0 rfl) ?_
    refine lv_dup hx hb dJx4a65c_clear_da8c8_1 rfl ?_
    refine g_11_0 hx hb hts (by decide +kernel) hown hw hko (u_same (hts (.sameField "java/util/ArrayList" "java/util/AbstractList" "modCount" "I") (by decide +kernel))) (hts (.fieldLink RJx4a65c 63 "java/util/ArrayList" "modCount" "I") (by decide +kernel)) dJx4a65c_clear_da8c8_2 ?_
    refine lv_iconst (v := 1) hx hb dJx4a65c_clear_da8c8_5 (by decide) ?_
    refine lv_iadd hx hb dJx4a65c_clear_da8c8_6 ?_
    refine p_11_0 hx hb hts (by decide +kernel) hown hw hko (u_same (hts (.sameField "java/util/ArrayList" "java/util/AbstractList" "modCount" "I") (by decide +kernel))) (hts (.fieldLink RJx4a65c 63 "java/util/ArrayList" "modCount" "I") (by decide +kernel)) dJx4a65c_clear_da8c8_7 (fun H locs hw => ?_)
    refine lv_aload_n hx hb dJx4a65c_clear_da8c8_10 rfl (lv_at hl 0 rfl) ?_
    refine g_11_1 (r9 := (some (G.2.2.2))) hx hb hts (by decide +kernel) hown hw hko (hts (.fieldLink RJx4a65c 9 "java/util/ArrayList" "elementData" "[Ljava/lang/Object;") (by decide +kernel)) hr0 dJx4a65c_clear_da8c8_11 ?_
    refine lv_astore_n (lv' := [(1, .ref (G.2.2.2)), (0, .ref o)]) hx hb dJx4a65c_clear_da8c8_14 rfl hl (by decide) rfl (fun ls hl => ?_)
    refine lv_aload_n hx hb dJx4a65c_clear_da8c8_15 rfl (lv_at hl 1 rfl) ?_
    refine g_11_2 hx hb hts (by decide +kernel) hown hw hko (hts (.fieldLink RJx4a65c 48 "java/util/ArrayList" "size" "I") (by decide +kernel)) dJx4a65c_clear_da8c8_16 ?_
    refine lv_istore_n (lv' := [(2, .int (nI (L o).length)), (1, .ref (G.2.2.2)), (0, .ref o)]) hx hb dJx4a65c_clear_da8c8_19 rfl hl (by decide) rfl (fun ls hl => ?_)
    refine lv_aload_n hx hb dJx4a65c_clear_da8c8_20 rfl (lv_at hl 2 rfl) ?_
    refine lv_iconst (v := 0) hx hb dJx4a65c_clear_da8c8_21 (by decide) ?_
    refine lv_dup_x1 hx hb dJx4a65c_clear_da8c8_22 rfl rfl ?_
    refine y_put hx hb hts (by decide +kernel) tyJx4a65c tyJx4a65c_ok nmJx4a65c hown hw.1 (hw.2.2.1.2.1 o _ (m_ent_11 hko)) rfl 2 (by decide) (hts (.fieldLink RJx4a65c 48 "java/util/ArrayList" "size" "I") (by decide +kernel)) (fun _ h9 => h9) (by decide) (ty := .int) (by decide +kernel) rfl rfl (by simp) dJx4a65c_clear_da8c8_23 (fun H1 k9 hz1 hq1 hat1 => ?_)
    have hw := m_fin_S (k9 := k9) hw (by rw [hko]; decide) (fun eb hb9 => (Option.some.inj ((m_ent_11 hko).symm.trans hb9)).symm) hz1 hq1 (by simpa [hl0, nI_0] using hat1)
    refine lv_istore_n (lv' := [(3, .int 0), (2, .int (nI (L o).length)), (1, .ref (G.2.2.2)), (0, .ref o)]) hx hb dJx4a65c_clear_da8c8_26 rfl hl (by decide) rfl (fun ls hl => ?_)
    refine lv_iload_n hx hb dJx4a65c_clear_da8c8_27 rfl (lv_at hl 0 rfl) ?_
    refine lv_iload_n hx hb dJx4a65c_clear_da8c8_28 rfl (lv_at hl 1 rfl) ?_
    refine lv_icmp_ge (tgt := 42) hx hb dJx4a65c_clear_da8c8_29 (by decide) (fun c_29 => ?_) (fun c_29 => absurd (by rw [hl0]; exact Int32.le_refl _) c_29)
    have hw : m_wo G K (m_up2 I 110 o (I 110 o + 1)) R F A N (m_up L o []) T J D s H1 _ := (show m_up L o [] = L from by rw [← hl0]; funext b; unfold m_up; split <;> simp_all) ▸ hw
    exact W.vret hx hb hr (fun t ht hW => ⟨⟨(m_up2 I 110 o ((I 110 o) + 1), m_up L o []), rfl, ⟨fun f b hf => m_up2_ni _ _ hf, rfl⟩, m_wo_out hw ht hW.alike⟩, m_wo_F hw ht⟩) (m_wo_L hw) dJx4a65c_clear_da8c8_42
  · skip
    refine lv_aload_n hx hb dJx4a65c_clear_da8c8_0 rfl (lv_at hl 0 rfl) ?_
    refine lv_dup hx hb dJx4a65c_clear_da8c8_1 rfl ?_
    refine g_11_0 hx hb hts (by decide +kernel) hown hw hko (u_same (hts (.sameField "java/util/ArrayList" "java/util/AbstractList" "modCount" "I") (by decide +kernel))) (hts (.fieldLink RJx4a65c 63 "java/util/ArrayList" "modCount" "I") (by decide +kernel)) dJx4a65c_clear_da8c8_2 ?_
    refine lv_iconst (v := 1) hx hb dJx4a65c_clear_da8c8_5 (by decide) ?_
    refine lv_iadd hx hb dJx4a65c_clear_da8c8_6 ?_
    refine p_11_0 hx hb hts (by decide +kernel) hown hw hko (u_same (hts (.sameField "java/util/ArrayList" "java/util/AbstractList" "modCount" "I") (by decide +kernel))) (hts (.fieldLink RJx4a65c 63 "java/util/ArrayList" "modCount" "I") (by decide +kernel)) dJx4a65c_clear_da8c8_7 (fun H locs hw => ?_)
    refine lv_aload_n hx hb dJx4a65c_clear_da8c8_10 rfl (lv_at hl 0 rfl) ?_
    refine g_11_1 (r9 := (some e0)) hx hb hts (by decide +kernel) hown hw hko (hts (.fieldLink RJx4a65c 9 "java/util/ArrayList" "elementData" "[Ljava/lang/Object;") (by decide +kernel)) hr0 dJx4a65c_clear_da8c8_11 ?_
    refine lv_astore_n (lv' := [(1, .ref e0), (0, .ref o)]) hx hb dJx4a65c_clear_da8c8_14 rfl hl (by decide) rfl (fun ls hl => ?_)
    refine lv_aload_n hx hb dJx4a65c_clear_da8c8_15 rfl (lv_at hl 1 rfl) ?_
    refine g_11_2 hx hb hts (by decide +kernel) hown hw hko (hts (.fieldLink RJx4a65c 48 "java/util/ArrayList" "size" "I") (by decide +kernel)) dJx4a65c_clear_da8c8_16 ?_
    refine lv_istore_n (lv' := [(2, .int (nI (L o).length)), (1, .ref e0), (0, .ref o)]) hx hb dJx4a65c_clear_da8c8_19 rfl hl (by decide) rfl (fun ls hl => ?_)
    refine lv_aload_n hx hb dJx4a65c_clear_da8c8_20 rfl (lv_at hl 2 rfl) ?_
    refine lv_iconst (v := 0) hx hb dJx4a65c_clear_da8c8_21 (by decide) ?_
    refine lv_dup_x1 hx hb dJx4a65c_clear_da8c8_22 rfl rfl ?_
    refine y_put hx hb hts (by decide +kernel) tyJx4a65c tyJx4a65c_ok nmJx4a65c hown hw.1 (hw.2.2.1.2.1 o _ (m_ent_11 hko)) rfl 2 (by decide) (hts (.fieldLink RJx4a65c 48 "java/util/ArrayList" "size" "I") (by decide +kernel)) (fun _ h9 => h9) (by decide) (ty := .int) (by decide +kernel) rfl rfl (by simp) dJx4a65c_clear_da8c8_23 (fun H1 k9 hz1 hq1 hat1 => ?_)
    have hoB := (hw.2.2.1.1 o (by rw [hko]; decide)).1
    have hqB := (hw.2.2.1.1 e0 (by rw [hke]; decide)).1
    have hoq : o ≠ e0 := fun z => by rw [← z, hko] at hke; exact absurd hke (by decide)
    have hLL := hw.2.2.2.1.2.2
    have hE9 := hw.2.2.1.2.1 e0 _ (m_ent_40 hke)
    rw [hoe] at hE9
    simp only [Option.getD_some] at hE9
    have hlen := m_len hw hko
    refine lv_istore_n (lv' := [(3, .int 0), (2, .int (nI (L o).length)), (1, .ref e0), (0, .ref o)]) hx hb dJx4a65c_clear_da8c8_26 rfl hl (by decide) rfl (fun ls hl => ?_)
    refine m_loop (σ := Nat) (fun i => (L o).length - i) (fun i H2 locs2 ls => i ≤ (L o).length ∧ H2.size = H.size ∧ (∀ q : Nat, q ≠ o → q ≠ e0 → H2[q]? = H[q]?) ∧ (∀ q : Loc, q ∈ locs2 → G.2.2.1 ≤ q.base) ∧ va_at G.1 vwCl (o, .inr (4, [.int (m_up2 I 110 o (I 110 o + 1) 110 o), va_rf (R 111 o), .int 0])) H2 ∧ va_at G.1 vwCl (e0, .inl (G.2.1 5, (N e0, .inr (.inr (.inr (.inr (fun j => if j < i then none else (L o)[j]?))))))) H2 ∧ lv_has ls 4 [(3, .int (nI i)), (2, .int (nI (L o).length)), (1, .ref e0), (0, .ref o)]) ?_ 0 ⟨Nat.zero_le _, hz1, fun q h1 _ => hq1 q h1, fun q hq => ?_, by simpa using hat1, by simpa using hE9.kept (hq1 e0 (Ne.symm hoq)), hl⟩
    · rintro i H2 locs2 ls ⟨hi, hz2, hq2, hLL2, hO2, hE2, hl⟩ ih
      refine lv_iload_n hx hb dJx4a65c_clear_da8c8_27 rfl (lv_at hl 0 rfl) ?_
      refine lv_iload_n hx hb dJx4a65c_clear_da8c8_28 rfl (lv_at hl 1 rfl) ?_
      refine lv_icmp_ge (tgt := 42) hx hb dJx4a65c_clear_da8c8_29 (by decide) (fun c_29 => ?_) (fun c_29 => ?_)
      · rw [nI_leI (by omega) (by omega)] at c_29
        have hi9 : i = (L o).length := by omega
        have hz9 : (fun j => if j < i then none else (L o)[j]?) = (fun j => ([] : List Nat)[j]?) := by
          funext j
          by_cases h : j < i
          · rw [if_pos h]; rfl
          · rw [if_neg h, List.getElem?_eq_none (by omega)]; rfl
        rw [hz9] at hE2
        have hw := m_fin_L (l' := []) hw hko hr0 hke hoe (Nat.zero_le _) hz2 hq2 hLL2 (by simpa [hr0, va_rf, nI_0] using hO2) hE2
        exact W.vret hx hb hr (fun t ht hW => ⟨⟨(m_up2 I 110 o (I 110 o + 1), m_up L o []), rfl, ⟨fun f b hf => m_up2_ni _ _ hf, rfl⟩, m_wo_out hw ht hW.alike⟩, m_wo_F hw ht⟩) (m_wo_L hw) dJx4a65c_clear_da8c8_42
      · rw [nI_leI (by omega) (by omega)] at c_29
        refine lv_aload_n hx hb dJx4a65c_clear_da8c8_32 rfl (lv_at hl 2 rfl) ?_
        refine lv_iload_n hx hb dJx4a65c_clear_da8c8_33 rfl (lv_at hl 0 rfl) ?_
        refine lv_null hx hb dJx4a65c_clear_da8c8_34 ?_
        refine y_astqN hx hb hw.1 hE2 (vp_in_nI (by omega) (by omega)) dJx4a65c_clear_da8c8_35 (fun H3 k8 hz3 hq3 hat3 => ?_)
        refine lv_iinc (v := nI (i + 1)) (lv' := [(3, .int (nI (i + 1))), (2, .int (nI (L o).length)), (1, .ref e0), (0, .ref o)]) hx hb dJx4a65c_clear_da8c8_36 hl (k := 0) rfl (nI_1 _) (by decide) rfl (fun ls hl => ?_)
        refine lv_goto (tgt := 27) hx hb dJx4a65c_clear_da8c8_39 (by decide) ?_
        refine ih (i + 1) H3 _ ls (by show (L o).length - (i + 1) < (L o).length - i; omega) ⟨by omega, by omega, fun q h1 h2 => (hq3 q h2).trans (hq2 q h1 h2), fun q hq => ?_, hO2.kept (hq3 o hoq), ?_, hl⟩
        · simp only [List.mem_append, List.mem_singleton] at hq
          rcases hq with h | rfl
          · exact hLL2 q h
          · exact hqB
        · rw [nI_clamp (by omega)] at hat3
          have hz8 : va_up (fun j => if j < i then none else (L o)[j]?) i none = fun j => if j < i + 1 then none else (L o)[j]? := by
            funext j
            unfold va_up
            by_cases h : j = i
            · rw [if_pos h, if_pos (by omega)]
            · rw [if_neg h]
              show (if j < i then none else (L o)[j]?) = _
              by_cases h2 : j < i
              · rw [if_pos h2, if_pos (by omega)]
              · rw [if_neg h2, if_neg (by omega)]
          rw [hz8] at hat3
          exact hat3
    · simp only [List.mem_append, List.mem_singleton] at hq
      rcases hq with h | rfl
      · exact hLL q h
      · exact hoB
set_option maxHeartbeats 400000 in
set_option maxRecDepth 100000 in
theorem c_J7_fill_53178_23 (l : Launch) {G : mG} {K : Nat → Nat} {I : Nat → Nat → Int32} {R : Nat → Nat → Option Nat} {F : Nat → UInt32} {A : Nat → Nat → Int32} {N : Nat → Nat} {L : Nat → List Nat} {T : Nat → List Int32} {J : Nat → Nat → Int64} {D : Nat → Nat → UInt64} {a9 : Nat} {v9 : Int32} (hka : K a9 = 23) (hn9 : N a9 ≤ 1000) : Met l yJ7_fill_53178 wsJ7_fill_53178 ({ frames := 0, cells := 0, slots := 0, locals := 0 } : Room) (va_Pc [.ref a9, .int v9] (m_B G K I R F A N L T J D)) (va_Qv (fun (u : Nat → Nat → Int32) => u = m_up A a9 (fun j => if j < N a9 then v9 else A a9 j)) (fun u : Nat → Nat → Int32 => m_B G K I R F u N L T J D) (m_A G)) 0 0 (m_A G) := by
  refine Met.ofW (cc := cJ7_fill_53178) (maxL := 4) (ret := none) (by decide) rfl ?_
  intro p e s m args below meth c s₁ B hml hv
  obtain ⟨rfl, hB⟩ := hv
  have hx := B.exec
  have hb := B.bytes
  have hr := B.returns
  have hts := atoms_spec (ws := wsJ7_fill_53178) B.pre
  have hown : s.vm.findClass RJ7 = some m.cls := findClass_of_methodNamed B.named
  have hlocks := B.notSynchronized
  have hw := m_wo_in hB
  have hl := lv_entry ([.ref a9, .int v9]) (n := 4) (Nat.le_of_ble_eq_true rfl)
  rw [lg_entry_eq]
  generalize (lg_sl ([.ref a9, .int v9]) ++ List.replicate (4 - (lg_sl ([.ref a9, .int v9])).length) Slot.unset).toArray = ls at hl ⊢
  have hl : lv_has ls 4 [(0, .ref a9), (1, .int v9)] := hl
  refine lv_iconst (v := 0) hx hb dJ7_fill_53178_0 (by decide) ?_
  refine lv_istore_n (lv' := [(2, .int 0), (0, .ref a9), (1, .int v9)]) hx hb dJ7_fill_53178_1 rfl hl (by decide) rfl (fun ls hl => ?_)
  refine lv_aload_n hx hb dJ7_fill_53178_2 rfl (lv_at hl 1 rfl) ?_
  refine m_alen_23 hx hb hw hka dJ7_fill_53178_3 ?_
  refine lv_istore_n (lv' := [(3, .int (nI (N a9))), (2, .int 0), (0, .ref a9), (1, .int v9)]) hx hb dJ7_fill_53178_4 rfl hl (by decide) rfl (fun ls hl => ?_)
  refine m_loop (σ := Nat × (Nat → Nat → Int32)) (fun a => N a9 - (a.1)) (fun a H locs ls => ((a.1) ≤ N a9 ∧ (a.2) = m_up A a9 (fun j => if j < (a.1) then v9 else A a9 j)) ∧ m_wo G K I R F (a.2) N L T J D s H locs ∧ lv_has ls 4 [(0, .ref a9), (1, .int v9), (2, .int (nI (a.1))), (3, .int (nI (N a9)))]) ?_ (0, A) ⟨⟨Nat.zero_le _, fill_0 A a9 v9⟩, hw, lv_sub hl [2, 3, 1, 0] rfl⟩
  rintro ⟨i, Aa⟩ H locs ls ⟨hinv, hw, hl⟩ ih
  dsimp only at hinv hw hl
  obtain ⟨hi0, hAa⟩ := hinv
  refine lv_iload_n hx hb dJ7_fill_53178_5 rfl (lv_at hl 2 rfl) ?_
  refine lv_iload_n hx hb dJ7_fill_53178_6 rfl (lv_at hl 3 rfl) ?_
  refine lv_icmp_ge (tgt := 20) hx hb dJ7_fill_53178_7 (by decide) (fun c_7 => ?_) (fun c_7 => ?_)
  · skip
    rw [nI_leI (by omega) (by omega)] at c_7
    have hi : i = N a9 := by omega
    rw [hi] at hAa
    exact W.vret hx hb hr (fun t ht hW => ⟨⟨Aa, rfl, hAa, m_wo_out hw ht hW.alike⟩, m_wo_F hw ht⟩) (m_wo_L hw) dJ7_fill_53178_20
  · skip
    rw [nI_leI (by omega) (by omega)] at c_7
    refine lv_aload_n hx hb dJ7_fill_53178_10 rfl (lv_at hl 0 rfl) ?_
    refine lv_iload_n hx hb dJ7_fill_53178_11 rfl (lv_at hl 2 rfl) ?_
    refine lv_iload_n hx hb dJ7_fill_53178_12 rfl (lv_at hl 1 rfl) ?_
    refine m_iastore_23 hx hb hw hka (vp_in_nI (by omega) (by omega))  dJ7_fill_53178_13 (fun H locs hw => ?_)
    refine lv_iinc (v := nI (i + 1)) (lv' := [(2, .int (nI (i + 1))), (0, .ref a9), (1, .int v9), (3, .int (nI (N a9)))]) hx hb dJ7_fill_53178_14 hl (k := 2) rfl (nI_1 _) (by decide) rfl (fun ls hl => ?_)
    refine lv_goto (tgt := 5) hx hb dJ7_fill_53178_17 (by decide) ?_
    exact ih (i + 1, m_up Aa a9 (upd (Aa a9) (nI i).toNatClampNeg v9)) _ _ _ (by dsimp only; omega) ⟨⟨by omega, by rw [hAa, nI_clamp (by omega)]; exact fill_1 A a9 v9 i⟩, hw, lv_sub hl [1, 2, 0, 3] rfl⟩
set_option maxHeartbeats 400000 in
set_option maxRecDepth 100000 in
theorem c_J7_fill_53178_24 (l : Launch) {G : mG} {K : Nat → Nat} {I : Nat → Nat → Int32} {R : Nat → Nat → Option Nat} {F : Nat → UInt32} {A : Nat → Nat → Int32} {N : Nat → Nat} {L : Nat → List Nat} {T : Nat → List Int32} {J : Nat → Nat → Int64} {D : Nat → Nat → UInt64} {a9 : Nat} {v9 : Int32} (hka : K a9 = 24) (hn9 : N a9 ≤ 1000) : Met l yJ7_fill_53178 wsJ7_fill_53178 ({ frames := 0, cells := 0, slots := 0, locals := 0 } : Room) (va_Pc [.ref a9, .int v9] (m_B G K I R F A N L T J D)) (va_Qv (fun (u : Nat → Nat → Int32) => u = m_up A a9 (fun j => if j < N a9 then v9 else A a9 j)) (fun u : Nat → Nat → Int32 => m_B G K I R F u N L T J D) (m_A G)) 0 0 (m_A G) := by
  refine Met.ofW (cc := cJ7_fill_53178) (maxL := 4) (ret := none) (by decide) rfl ?_
  intro p e s m args below meth c s₁ B hml hv
  obtain ⟨rfl, hB⟩ := hv
  have hx := B.exec
  have hb := B.bytes
  have hr := B.returns
  have hts := atoms_spec (ws := wsJ7_fill_53178) B.pre
  have hown : s.vm.findClass RJ7 = some m.cls := findClass_of_methodNamed B.named
  have hlocks := B.notSynchronized
  have hw := m_wo_in hB
  have hl := lv_entry ([.ref a9, .int v9]) (n := 4) (Nat.le_of_ble_eq_true rfl)
  rw [lg_entry_eq]
  generalize (lg_sl ([.ref a9, .int v9]) ++ List.replicate (4 - (lg_sl ([.ref a9, .int v9])).length) Slot.unset).toArray = ls at hl ⊢
  have hl : lv_has ls 4 [(0, .ref a9), (1, .int v9)] := hl
  refine lv_iconst (v := 0) hx hb dJ7_fill_53178_0 (by decide) ?_
  refine lv_istore_n (lv' := [(2, .int 0), (0, .ref a9), (1, .int v9)]) hx hb dJ7_fill_53178_1 rfl hl (by decide) rfl (fun ls hl => ?_)
  refine lv_aload_n hx hb dJ7_fill_53178_2 rfl (lv_at hl 1 rfl) ?_
  refine m_alen_24 hx hb hw hka dJ7_fill_53178_3 ?_
  refine lv_istore_n (lv' := [(3, .int (nI (N a9))), (2, .int 0), (0, .ref a9), (1, .int v9)]) hx hb dJ7_fill_53178_4 rfl hl (by decide) rfl (fun ls hl => ?_)
  refine m_loop (σ := Nat × (Nat → Nat → Int32)) (fun a => N a9 - (a.1)) (fun a H locs ls => ((a.1) ≤ N a9 ∧ (a.2) = m_up A a9 (fun j => if j < (a.1) then v9 else A a9 j)) ∧ m_wo G K I R F (a.2) N L T J D s H locs ∧ lv_has ls 4 [(0, .ref a9), (1, .int v9), (2, .int (nI (a.1))), (3, .int (nI (N a9)))]) ?_ (0, A) ⟨⟨Nat.zero_le _, fill_0 A a9 v9⟩, hw, lv_sub hl [2, 3, 1, 0] rfl⟩
  rintro ⟨i, Aa⟩ H locs ls ⟨hinv, hw, hl⟩ ih
  dsimp only at hinv hw hl
  obtain ⟨hi0, hAa⟩ := hinv
  refine lv_iload_n hx hb dJ7_fill_53178_5 rfl (lv_at hl 2 rfl) ?_
  refine lv_iload_n hx hb dJ7_fill_53178_6 rfl (lv_at hl 3 rfl) ?_
  refine lv_icmp_ge (tgt := 20) hx hb dJ7_fill_53178_7 (by decide) (fun c_7 => ?_) (fun c_7 => ?_)
  · skip
    rw [nI_leI (by omega) (by omega)] at c_7
    have hi : i = N a9 := by omega
    rw [hi] at hAa
    exact W.vret hx hb hr (fun t ht hW => ⟨⟨Aa, rfl, hAa, m_wo_out hw ht hW.alike⟩, m_wo_F hw ht⟩) (m_wo_L hw) dJ7_fill_53178_20
  · skip
    rw [nI_leI (by omega) (by omega)] at c_7
    refine lv_aload_n hx hb dJ7_fill_53178_10 rfl (lv_at hl 0 rfl) ?_
    refine lv_iload_n hx hb dJ7_fill_53178_11 rfl (lv_at hl 2 rfl) ?_
    refine lv_iload_n hx hb dJ7_fill_53178_12 rfl (lv_at hl 1 rfl) ?_
    refine m_iastore_24 hx hb hw hka (vp_in_nI (by omega) (by omega))  dJ7_fill_53178_13 (fun H locs hw => ?_)
    refine lv_iinc (v := nI (i + 1)) (lv' := [(2, .int (nI (i + 1))), (0, .ref a9), (1, .int v9), (3, .int (nI (N a9)))]) hx hb dJ7_fill_53178_14 hl (k := 2) rfl (nI_1 _) (by decide) rfl (fun ls hl => ?_)
    refine lv_goto (tgt := 5) hx hb dJ7_fill_53178_17 (by decide) ?_
    exact ih (i + 1, m_up Aa a9 (upd (Aa a9) (nI i).toNatClampNeg v9)) _ _ _ (by dsimp only; omega) ⟨⟨by omega, by rw [hAa, nI_clamp (by omega)]; exact fill_1 A a9 v9 i⟩, hw, lv_sub hl [1, 2, 0, 3] rfl⟩
set_option maxHeartbeats 400000 in
set_option maxRecDepth 100000 in
theorem c_J5_isLatin1_aae02 (l : Launch) {G : mG} {K : Nat → Nat} {I : Nat → Nat → Int32} {R : Nat → Nat → Option Nat} {F : Nat → UInt32} {A : Nat → Nat → Int32} {N : Nat → Nat} {L : Nat → List Nat} {T : Nat → List Int32} {J : Nat → Nat → Int64} {D : Nat → Nat → UInt64} {o : Nat} (hko : K o = 12) : Met l yJ5_isLatin1_aae02 wsJ5_isLatin1_aae02 ({ frames := 0, cells := 0, slots := 0, locals := 0 } : Room) (va_Pc [.ref o] (m_B G K I R F A N L T J D)) (va_Qi (fun (r : Int32) (_ : Unit) => r = 1) (fun u : Unit => m_B G K I R F A N L T J D) (m_A G)) 0 0 (m_A G) := by
  refine Met.ofW (cc := cJ5_isLatin1_aae02) (maxL := 1) (ret := (some .boolean)) (by decide) rfl ?_
  intro p e s m args below meth c s₁ B hml hv
  obtain ⟨rfl, hB⟩ := hv
  have hx := B.exec
  have hb := B.bytes
  have hr := B.returns
  have hts := atoms_spec (ws := wsJ5_isLatin1_aae02) B.pre
  have hown : s.vm.findClass RJ5 = some m.cls := findClass_of_methodNamed B.named
  have hlocks := B.notSynchronized
  have hw := m_wo_in hB
  have hl := lv_entry ([.ref o]) (n := 1) (Nat.le_of_ble_eq_true rfl)
  rw [lg_entry_eq]
  generalize (lg_sl ([.ref o]) ++ List.replicate (1 - (lg_sl ([.ref o])).length) Slot.unset).toArray = ls at hl ⊢
  have hl : lv_has ls 1 [(0, .ref o)] := hl
  refine va_gets hx hb hw.2.1.2.2.2.2.2.2.2.2.2.1 hw.2.2.2.1 hown (hts (.fieldLink RJ5 18 "java/lang/String" "COMPACT_STRINGS" "Z") (by decide +kernel)) (fun _ h9 => h9) dJ5_isLatin1_aae02_0 ?_
  refine lv_if_eq (tgt := 17) hx hb dJ5_isLatin1_aae02_3 (by decide) (fun c_3 => absurd c_3 (by decide)) (fun c_3 => ?_)
  refine lv_aload_n hx hb dJ5_isLatin1_aae02_6 rfl (lv_at hl 0 rfl) ?_
  refine g_12_1 hx hb hts (by decide +kernel) hown hw hko (fun _ h9 => h9) (hts (.fieldLink RJ5 22 "java/lang/AbstractStringBuilder" "coder" "B") (by decide +kernel)) dJ5_isLatin1_aae02_7 ?_
  refine lv_if_ne (tgt := 17) hx hb dJ5_isLatin1_aae02_10 (by decide) (fun c_10 => absurd rfl c_10) (fun c_10 => ?_)
  refine lv_iconst (v := 1) hx hb dJ5_isLatin1_aae02_13 (by decide) ?_
  refine lv_goto (tgt := 18) hx hb dJ5_isLatin1_aae02_14 (by decide) ?_
  exact W.zret (v := 1) hx hb hr (by rfl) (fun t ht hW => ⟨⟨1, (), rfl, rfl, m_wo_out hw ht hW.alike⟩, m_wo_F hw ht⟩) (m_wo_L hw) dJ5_isLatin1_aae02_18
set_option maxHeartbeats 400000 in
set_option maxRecDepth 100000 in
theorem c_J1_canEncode_fc78d (l : Launch) {G : mG} {K : Nat → Nat} {I : Nat → Nat → Int32} {R : Nat → Nat → Option Nat} {F : Nat → UInt32} {A : Nat → Nat → Int32} {N : Nat → Nat} {L : Nat → List Nat} {T : Nat → List Int32} {J : Nat → Nat → Int64} {D : Nat → Nat → UInt64} {ch : Nat} (hch : ch < 256) : Met l yJ1_canEncode_fc78d wsJ1_canEncode_fc78d ({ frames := 0, cells := 0, slots := 0, locals := 0 } : Room) (va_Pc [.int (nI ch)] (m_B G K I R F A N L T J D)) (va_Qi (fun (r : Int32) (_ : Unit) => r = 1) (fun u : Unit => m_B G K I R F A N L T J D) (m_A G)) 0 0 (m_A G) := by
  refine Met.ofW (cc := cJ1_canEncode_fc78d) (maxL := 1) (ret := (some .boolean)) (by decide) rfl ?_
  intro p e s m args below meth c s₁ B hml hv
  obtain ⟨rfl, hB⟩ := hv
  have hx := B.exec
  have hb := B.bytes
  have hr := B.returns
  have hts := atoms_spec (ws := wsJ1_canEncode_fc78d) B.pre
  have hown : s.vm.findClass RJ1 = some m.cls := findClass_of_methodNamed B.named
  have hlocks := B.notSynchronized
  have hw := m_wo_in hB
  have hl := lv_entry ([.int (nI ch)]) (n := 1) (Nat.le_of_ble_eq_true rfl)
  rw [lg_entry_eq]
  generalize (lg_sl ([.int (nI ch)]) ++ List.replicate (1 - (lg_sl ([.int (nI ch)])).length) Slot.unset).toArray = ls at hl ⊢
  have hl : lv_has ls 1 [(0, .int (nI ch))] := hl
  refine lv_iload_n hx hb dJ1_canEncode_fc78d_0 rfl (lv_at hl 0 rfl) ?_
  refine lv_sipush (v := 255) hx hb dJ1_canEncode_fc78d_1 (by decide) ?_
  refine lv_icmp_gt (tgt := 11) hx hb dJ1_canEncode_fc78d_4 (by decide) (fun c_4 => absurd c_4 (by rw [show (255 : Int32) = nI 255 from rfl]; exact nI_nlt (by omega) (by decide))) (fun c_4 => ?_)
  refine lv_iconst (v := 1) hx hb dJ1_canEncode_fc78d_7 (by decide) ?_
  refine lv_goto (tgt := 12) hx hb dJ1_canEncode_fc78d_8 (by decide) ?_
  exact W.zret (v := 1) hx hb hr (by rfl) (fun t ht hW => ⟨⟨1, (), rfl, rfl, m_wo_out hw ht hW.alike⟩, m_wo_F hw ht⟩) (m_wo_L hw) dJ1_canEncode_fc78d_12
set_option maxHeartbeats 400000 in
set_option maxRecDepth 100000 in
theorem c_J5_ensureCapacityInternal_d00df (l : Launch) {G : mG} {K : Nat → Nat} {I : Nat → Nat → Int32} {R : Nat → Nat → Option Nat} {F : Nat → UInt32} {A : Nat → Nat → Int32} {N : Nat → Nat} {L : Nat → List Nat} {T : Nat → List Int32} {J : Nat → Nat → Int64} {D : Nat → Nat → UInt64} {o n : Nat} (hko : K o = 12) (hr1 : R 120 o ≠ none) (hn : n ≤ 16) : Met l yJ5_ensureCapacityInternal_d00df wsJ5_ensureCapacityInternal_d00df ({ frames := 0, cells := 0, slots := 0, locals := 0 } : Room) (va_Pc [.ref o, .int (nI n)] (m_B G K I R F A N L T J D)) (va_Qv (fun (_ : Unit) => True) (fun u : Unit => m_B G K I R F A N L T J D) (m_A G)) 0 0 (m_A G) := by
  refine Met.ofW (cc := cJ5_ensureCapacityInternal_d00df) (maxL := 3) (ret := none) (by decide) rfl ?_
  intro p e s m args below meth c s₁ B hml hv
  obtain ⟨rfl, hB⟩ := hv
  have hx := B.exec
  have hb := B.bytes
  have hr := B.returns
  have hts := atoms_spec (ws := wsJ5_ensureCapacityInternal_d00df) B.pre
  have hown : s.vm.findClass RJ5 = some m.cls := findClass_of_methodNamed B.named
  have hlocks := B.notSynchronized
  have hw := m_wo_in hB
  have hl := lv_entry ([.ref o, .int (nI n)]) (n := 3) (Nat.le_of_ble_eq_true rfl)
  rw [lg_entry_eq]
  generalize (lg_sl ([.ref o, .int (nI n)]) ++ List.replicate (3 - (lg_sl ([.ref o, .int (nI n)])).length) Slot.unset).toArray = ls at hl ⊢
  have hl : lv_has ls 3 [(0, .ref o), (1, .int (nI n))] := hl
  obtain ⟨e1, hr0, hke, hoe, hle, h16, h1k, hch⟩ := m_text hw hko hr1
  refine lv_aload_n hx hb dJ5_ensureCapacityInternal_d00df_0 rfl (lv_at hl 0 rfl) ?_
  refine g_12_0 (r9 := (some e1)) hx hb hts (by decide +kernel) hown hw hko (fun _ h9 => h9) (hts (.fieldLink RJ5 15 "java/lang/AbstractStringBuilder" "value" "[B") (by decide +kernel)) hr0 dJ5_ensureCapacityInternal_d00df_1 ?_
  refine m_alen_41 hx hb hw hke dJ5_ensureCapacityInternal_d00df_4 ?_
  refine lv_aload_n hx hb dJ5_ensureCapacityInternal_d00df_5 rfl (lv_at hl 0 rfl) ?_
  refine g_12_1 hx hb hts (by decide +kernel) hown hw hko (fun _ h9 => h9) (hts (.fieldLink RJ5 22 "java/lang/AbstractStringBuilder" "coder" "B") (by decide +kernel)) dJ5_ensureCapacityInternal_d00df_6 ?_
  refine lv_ishr hx hb dJ5_ensureCapacityInternal_d00df_9 ?_
  rw [show (nI (N e1) >>> ((0 : Int32) &&& 31)) = nI (N e1) from by rw [show ((0 : Int32) &&& 31) = 0 from by decide, pk_shrN (by omega) 0 0 (by decide)]; simp]
  refine lv_istore_n (lv' := [(2, .int (nI (N e1))), (0, .ref o), (1, .int (nI n))]) hx hb dJ5_ensureCapacityInternal_d00df_10 rfl hl (by decide) rfl (fun ls hl => ?_)
  refine lv_iload_n hx hb dJ5_ensureCapacityInternal_d00df_11 rfl (lv_at hl 2 rfl) ?_
  refine lv_iload_n hx hb dJ5_ensureCapacityInternal_d00df_12 rfl (lv_at hl 0 rfl) ?_
  refine lv_isub hx hb dJ5_ensureCapacityInternal_d00df_13 ?_
  refine lv_if_le (tgt := 38) hx hb dJ5_ensureCapacityInternal_d00df_14 (by decide) (fun c_14 => ?_) (fun c_14 => absurd (by rw [Int32.le_iff_toInt_le, pk_sub_toInt (by omega) (by omega)]; show (n : Int) - N e1 ≤ 0; omega) c_14)
  exact W.vret hx hb hr (fun t ht hW => ⟨⟨(), rfl, trivial, m_wo_out hw ht hW.alike⟩, m_wo_F hw ht⟩) (m_wo_L hw) dJ5_ensureCapacityInternal_d00df_38
set_option maxHeartbeats 400000 in
set_option maxRecDepth 100000 in
theorem c_J5_setLength_d00df (l : Launch) {G : mG} {K : Nat → Nat} {I : Nat → Nat → Int32} {R : Nat → Nat → Option Nat} {F : Nat → UInt32} {A : Nat → Nat → Int32} {N : Nat → Nat} {L : Nat → List Nat} {T : Nat → List Int32} {J : Nat → Nat → Int64} {D : Nat → Nat → UInt64} {o : Nat} (hko : K o = 12) (hr1 : R 120 o ≠ none) : Met l yJ5_setLength_d00df wsJ5_setLength_d00df ({ frames := 1, cells := 0, slots := 0, locals := 40 } : Room) (va_Pc [.ref o, .int 0] (m_B G K I R F A N L T J D)) (va_Qv (fun (u : (Nat → Nat → Int32) × (Nat → List Int32)) => (∀ f b, f ≠ 121 → u.1 f b = I f b) ∧ u.2 = m_up T o []) (fun u : (Nat → Nat → Int32) × (Nat → List Int32) => m_B G K (u.1) R F A N L (u.2) J D) (m_A G)) 0 0 (m_A G) := by
  refine Met.ofW (cc := cJ5_setLength_d00df) (maxL := 2) (ret := none) (by decide) rfl ?_
  intro p e s m args below meth c s₁ B hml hv
  obtain ⟨rfl, hB⟩ := hv
  have hx := B.exec
  have hb := B.bytes
  have hr := B.returns
  have hts := atoms_spec (ws := wsJ5_setLength_d00df) B.pre
  have hown : s.vm.findClass RJ5 = some m.cls := findClass_of_methodNamed B.named
  have hlocks := B.notSynchronized
  have hw := m_wo_in hB
  have hl := lv_entry ([.ref o, .int 0]) (n := 2) (Nat.le_of_ble_eq_true rfl)
  rw [lg_entry_eq]
  generalize (lg_sl ([.ref o, .int 0]) ++ List.replicate (2 - (lg_sl ([.ref o, .int 0])).length) Slot.unset).toArray = ls at hl ⊢
  have hl : lv_has ls 2 [(0, .ref o), (1, .int 0)] := hl
  obtain ⟨e1, hr0, hke, hoe, hle, h16, h1k, hch⟩ := m_text hw hko hr1
  refine lv_iload_n hx hb dJ5_setLength_d00df_0 rfl (lv_at hl 1 rfl) ?_
  refine lv_if_ge (tgt := 13) hx hb dJ5_setLength_d00df_1 (by decide) (fun c_1 => ?_) (fun c_1 => absurd (by decide) c_1)
  refine lv_aload_n hx hb dJ5_setLength_d00df_13 rfl (lv_at hl 0 rfl) ?_
  refine lv_iload_n hx hb dJ5_setLength_d00df_14 rfl (lv_at hl 1 rfl) ?_
  refine m_cv (va_runU (As := [.int 0]) (rest := []) ⟨hx, hb, hml, hown, hts⟩ (c_J5_ensureCapacityInternal_d00df l (n := 0) hko hr1 (by decide)) (va_cwU 1 hts gJ5_setLength_d00df_J5_ensureCapacityInternal_d00df_u100J4 rfl rfl rfl rfl (by decide +kernel) ⟨Nat.le_of_ble_eq_true rfl, Nat.le_of_ble_eq_true rfl⟩) ⟨m_blind m_B_calling, m_recv hw (m_ent_12 hko) rfl, fun U hU hW => ⟨rfl, m_wo_call hw hU hW⟩⟩ rfl rfl hl.1 rfl (lv_room (Nat.le_of_ble_eq_true rfl)) dJ5_setLength_d00df_15 ⟨Nat.le_of_ble_eq_true rfl, Nat.le_of_ble_eq_true rfl⟩) hw (fun u_15 H locs hp_15 hw => ?_)
  refine lv_aload_n hx hb dJ5_setLength_d00df_18 rfl (lv_at hl 0 rfl) ?_
  refine g_12_3 hx hb hts (by decide +kernel) hown hw hko (fun _ h9 => h9) (hts (.fieldLink RJ5 79 "java/lang/AbstractStringBuilder" "count" "I") (by decide +kernel)) dJ5_setLength_d00df_19 ?_
  refine lv_iload_n hx hb dJ5_setLength_d00df_22 rfl (lv_at hl 1 rfl) ?_
  refine lv_icmp_ge (tgt := 63) hx hb dJ5_setLength_d00df_23 (by decide) (fun c_23 => ?_) (fun c_23 => absurd (nI_pos' (by omega)) c_23)
  refine lv_aload_n hx hb dJ5_setLength_d00df_63 rfl (lv_at hl 0 rfl) ?_
  refine g_12_3 hx hb hts (by decide +kernel) hown hw hko (fun _ h9 => h9) (hts (.fieldLink RJ5 79 "java/lang/AbstractStringBuilder" "count" "I") (by decide +kernel)) dJ5_setLength_d00df_64 ?_
  refine lv_iload_n hx hb dJ5_setLength_d00df_67 rfl (lv_at hl 1 rfl) ?_
  refine lv_icmp_le (tgt := 76) hx hb dJ5_setLength_d00df_68 (by decide) (fun c_68 => ?_) (fun c_68 => ?_)
  · skip
    refine lv_aload_n hx hb dJ5_setLength_d00df_76 rfl (lv_at hl 0 rfl) ?_
    refine lv_iload_n hx hb dJ5_setLength_d00df_77 rfl (lv_at hl 1 rfl) ?_
    refine y_put hx hb hts (by decide +kernel) tyJ4 tyJ4_ok nmJ4 hown hw.1 (hw.2.2.1.2.1 o _ (m_ent_12 hko)) rfl 3 (by decide) (hts (.fieldLink RJ5 79 "java/lang/AbstractStringBuilder" "count" "I") (by decide +kernel)) (fun _ h9 => h9) (by decide) (ty := .int) (by decide +kernel) rfl rfl (by simp) dJ5_setLength_d00df_78 (fun H1 k9 hz1 hq1 hat1 => ?_)
    have hw := m_fin_T0 (k9 := k9) hw hko hz1 hq1 (by simpa [nI_0] using hat1)
    exact W.vret hx hb hr (fun t ht hW => ⟨⟨(I, m_up T o []), rfl, ⟨fun f b hf => rfl, rfl⟩, m_wo_out hw ht hW.alike⟩, m_wo_F hw ht⟩) (m_wo_L hw) dJ5_setLength_d00df_81
  · skip
    refine lv_aload_n hx hb dJ5_setLength_d00df_71 rfl (lv_at hl 0 rfl) ?_
    refine lv_iconst (v := 1) hx hb dJ5_setLength_d00df_72 (by decide) ?_
    refine p_12_2 hx hb hts (by decide +kernel) hown hw hko (fun _ h9 => h9) (hts (.fieldLink RJ5 73 "java/lang/AbstractStringBuilder" "maybeLatin1" "Z") (by decide +kernel)) (Or.inr rfl) dJ5_setLength_d00df_73 (fun H locs hw => ?_)
    refine lv_aload_n hx hb dJ5_setLength_d00df_76 rfl (lv_at hl 0 rfl) ?_
    refine lv_iload_n hx hb dJ5_setLength_d00df_77 rfl (lv_at hl 1 rfl) ?_
    refine y_put hx hb hts (by decide +kernel) tyJ4 tyJ4_ok nmJ4 hown hw.1 (hw.2.2.1.2.1 o _ (m_ent_12 hko)) rfl 3 (by decide) (hts (.fieldLink RJ5 79 "java/lang/AbstractStringBuilder" "count" "I") (by decide +kernel)) (fun _ h9 => h9) (by decide) (ty := .int) (by decide +kernel) rfl rfl (by simp) dJ5_setLength_d00df_78 (fun H1 k9 hz1 hq1 hat1 => ?_)
    have hw := m_fin_T0 (k9 := k9) hw hko hz1 hq1 (by simpa [nI_0] using hat1)
    exact W.vret hx hb hr (fun t ht hW => ⟨⟨(m_up2 I 121 o 1, m_up T o []), rfl, ⟨fun f b hf => m_up2_ni _ _ hf, rfl⟩, m_wo_out hw ht hW.alike⟩, m_wo_F hw ht⟩) (m_wo_L hw) dJ5_setLength_d00df_81
set_option maxHeartbeats 400000 in
set_option maxRecDepth 100000 in
theorem c_J4_setLength_d00df (l : Launch) {G : mG} {K : Nat → Nat} {I : Nat → Nat → Int32} {R : Nat → Nat → Option Nat} {F : Nat → UInt32} {A : Nat → Nat → Int32} {N : Nat → Nat} {L : Nat → List Nat} {T : Nat → List Int32} {J : Nat → Nat → Int64} {D : Nat → Nat → UInt64} {o : Nat} (hko : K o = 12) (hr1 : R 120 o ≠ none) : Met l yJ4_setLength_d00df wsJ4_setLength_d00df ({ frames := 2, cells := 0, slots := 0, locals := 70 } : Room) (va_Pc [.ref o, .int 0] (m_B G K I R F A N L T J D)) (va_Qv (fun (u : (Nat → Nat → Int32) × (Nat → List Int32)) => (∀ f b, f ≠ 121 → u.1 f b = I f b) ∧ u.2 = m_up T o []) (fun u : (Nat → Nat → Int32) × (Nat → List Int32) => m_B G K (u.1) R F A N L (u.2) J D) (m_A G)) 0 0 (m_A G) := by
  refine Met.ofW (cc := cJ4_setLength_d00df) (maxL := 2) (ret := none) (by decide) rfl ?_
  intro p e s m args below meth c s₁ B hml hv
  obtain ⟨rfl, hB⟩ := hv
  have hx := B.exec
  have hb := B.bytes
  have hr := B.returns
  have hts := atoms_spec (ws := wsJ4_setLength_d00df) B.pre
  have hown : s.vm.findClass RJ4 = some m.cls := findClass_of_methodNamed B.named
  have hlocks := B.notSynchronized
  have hw := m_wo_in hB
  have hl := lv_entry ([.ref o, .int 0]) (n := 2) (Nat.le_of_ble_eq_true rfl)
  rw [lg_entry_eq]
  generalize (lg_sl ([.ref o, .int 0]) ++ List.replicate (2 - (lg_sl ([.ref o, .int 0])).length) Slot.unset).toArray = ls at hl ⊢
  have hl : lv_has ls 2 [(0, .ref o), (1, .int 0)] := hl
  refine lv_aload_n hx hb dJ4_setLength_d00df_0 rfl (lv_at hl 0 rfl) ?_
  refine lv_iload_n hx hb dJ4_setLength_d00df_1 rfl (lv_at hl 1 rfl) ?_
  refine m_cv (va_runSU (As := [.int 0]) (rest := []) (hw.1.1 1 _ rfl).2 ⟨hx, hb, hml, hown, hts⟩ (c_J5_setLength_d00df l hko hr1) (va_cwSU 1 hts gJ4_setLength_d00df_J5_setLength_d00df_s333 rfl rfl rfl (by decide +kernel) ⟨Nat.le_of_ble_eq_true rfl, Nat.le_of_ble_eq_true rfl⟩) ⟨m_blind m_B_calling, m_recv hw (m_ent_12 hko) rfl, fun U hU hW => ⟨rfl, m_wo_call hw hU hW⟩⟩ rfl rfl hl.1 rfl (lv_room (Nat.le_of_ble_eq_true rfl)) dJ4_setLength_d00df_2 ⟨Nat.le_of_ble_eq_true rfl, Nat.le_of_ble_eq_true rfl⟩) hw (fun u_2 H locs hp_2 hw => ?_)
  obtain ⟨I_1, T_2⟩ := u_2
  have hw : m_wo G K I_1 R F A N L T_2 J D s H locs := hw
  dsimp only at hp_2
  exact W.vret hx hb hr (fun t ht hW => ⟨⟨(I_1, T_2), rfl, hp_2, m_wo_out hw ht hW.alike⟩, m_wo_F hw ht⟩) (m_wo_L hw) dJ4_setLength_d00df_5
set_option maxHeartbeats 400000 in
set_option maxRecDepth 100000 in
theorem c_J5_length_8abf5 (l : Launch) {G : mG} {K : Nat → Nat} {I : Nat → Nat → Int32} {R : Nat → Nat → Option Nat} {F : Nat → UInt32} {A : Nat → Nat → Int32} {N : Nat → Nat} {L : Nat → List Nat} {T : Nat → List Int32} {J : Nat → Nat → Int64} {D : Nat → Nat → UInt64} {o : Nat} (hko : K o = 12) : Met l yJ5_length_8abf5 wsJ5_length_8abf5 ({ frames := 0, cells := 0, slots := 0, locals := 0 } : Room) (va_Pc [.ref o] (m_B G K I R F A N L T J D)) (va_Qi (fun (r : Int32) (_ : Unit) => r = nI (T o).length) (fun u : Unit => m_B G K I R F A N L T J D) (m_A G)) 0 0 (m_A G) := by
  refine Met.ofW (cc := cJ5_length_8abf5) (maxL := 1) (ret := (some .int)) (by decide) rfl ?_
  intro p e s m args below meth c s₁ B hml hv
  obtain ⟨rfl, hB⟩ := hv
  have hx := B.exec
  have hb := B.bytes
  have hr := B.returns
  have hts := atoms_spec (ws := wsJ5_length_8abf5) B.pre
  have hown : s.vm.findClass RJ5 = some m.cls := findClass_of_methodNamed B.named
  have hlocks := B.notSynchronized
  have hw := m_wo_in hB
  have hl := lv_entry ([.ref o]) (n := 1) (Nat.le_of_ble_eq_true rfl)
  rw [lg_entry_eq]
  generalize (lg_sl ([.ref o]) ++ List.replicate (1 - (lg_sl ([.ref o])).length) Slot.unset).toArray = ls at hl ⊢
  have hl : lv_has ls 1 [(0, .ref o)] := hl
  refine lv_aload_n hx hb dJ5_length_8abf5_0 rfl (lv_at hl 0 rfl) ?_
  refine g_12_3 hx hb hts (by decide +kernel) hown hw hko (fun _ h9 => h9) (hts (.fieldLink RJ5 79 "java/lang/AbstractStringBuilder" "count" "I") (by decide +kernel)) dJ5_length_8abf5_1 ?_
  exact W.iret (v := (nI (T o).length)) hx hb hr (fun t ht hW => ⟨⟨(nI (T o).length), (), rfl, rfl, m_wo_out hw ht hW.alike⟩, m_wo_F hw ht⟩) (m_wo_L hw) dJ5_length_8abf5_4
set_option maxHeartbeats 400000 in
set_option maxRecDepth 100000 in
theorem c_J4_length_8abf5 (l : Launch) {G : mG} {K : Nat → Nat} {I : Nat → Nat → Int32} {R : Nat → Nat → Option Nat} {F : Nat → UInt32} {A : Nat → Nat → Int32} {N : Nat → Nat} {L : Nat → List Nat} {T : Nat → List Int32} {J : Nat → Nat → Int64} {D : Nat → Nat → UInt64} {o : Nat} (hko : K o = 12) : Met l yJ4_length_8abf5 wsJ4_length_8abf5 ({ frames := 1, cells := 0, slots := 0, locals := 30 } : Room) (va_Pc [.ref o] (m_B G K I R F A N L T J D)) (va_Qi (fun (r : Int32) (_ : Unit) => r = nI (T o).length) (fun u : Unit => m_B G K I R F A N L T J D) (m_A G)) 0 0 (m_A G) := by
  refine Met.ofW (cc := cJ4_length_8abf5) (maxL := 1) (ret := (some .int)) (by decide) rfl ?_
  intro p e s m args below meth c s₁ B hml hv
  obtain ⟨rfl, hB⟩ := hv
  have hx := B.exec
  have hb := B.bytes
  have hr := B.returns
  have hts := atoms_spec (ws := wsJ4_length_8abf5) B.pre
  have hown : s.vm.findClass RJ4 = some m.cls := findClass_of_methodNamed B.named
  have hlocks := B.notSynchronized
  have hw := m_wo_in hB
  have hl := lv_entry ([.ref o]) (n := 1) (Nat.le_of_ble_eq_true rfl)
  rw [lg_entry_eq]
  generalize (lg_sl ([.ref o]) ++ List.replicate (1 - (lg_sl ([.ref o])).length) Slot.unset).toArray = ls at hl ⊢
  have hl : lv_has ls 1 [(0, .ref o)] := hl
  refine lv_aload_n hx hb dJ4_length_8abf5_0 rfl (lv_at hl 0 rfl) ?_
  refine m_ci (va_runSU (As := []) (rest := []) (hw.1.1 1 _ rfl).2 ⟨hx, hb, hml, hown, hts⟩ (c_J5_length_8abf5 l hko) (va_cwSU 0 hts gJ4_length_8abf5_J5_length_8abf5_s343 rfl rfl rfl (by decide +kernel) ⟨Nat.le_of_ble_eq_true rfl, Nat.le_of_ble_eq_true rfl⟩) ⟨m_blind m_B_calling, m_recv hw (m_ent_12 hko) rfl, fun U hU hW => ⟨rfl, m_wo_call hw hU hW⟩⟩ rfl rfl hl.1 rfl (lv_room (Nat.le_of_ble_eq_true rfl)) dJ4_length_8abf5_1 ⟨Nat.le_of_ble_eq_true rfl, Nat.le_of_ble_eq_true rfl⟩) hw (fun r_1 u_1 H locs hp_1 hw => ?_)
  exact W.iret (v := r_1) hx hb hr (fun t ht hW => ⟨⟨r_1, (), rfl, hp_1, m_wo_out hw ht hW.alike⟩, m_wo_F hw ht⟩) (m_wo_L hw) dJ4_length_8abf5_4
