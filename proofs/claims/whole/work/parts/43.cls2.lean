theorem er_no {L : Nat → List Nat} {lr f9 : Nat} (h : ∀ j, j < (L lr).length → (L lr).getD j 0 ≠ f9) : L = m_up L lr ((L lr).erase f9) := by
  have hn : f9 ∉ L lr := fun hm => by
    obtain ⟨j, hj, hj2⟩ := List.getElem_of_mem hm
    exact h j hj (lg_get (List.getElem?_eq_some_iff.mpr ⟨hj, hj2⟩))
  rw [List.erase_of_not_mem hn]
  funext b
  unfold m_up
  split
  · rename_i e; rw [e]
  · rfl
theorem pa_none {I : Nat → Nat → Int32} {R : Nat → Nat → Option Nat} {l9 : List Nat} {w9 ix : Int32} {i : Nat} (hi : i = l9.length) (hx : ∀ k, ix = nI k → k < 2 ^ 31 → cntB (fun j => c_pw I R w9 (l9.getD j 0)) i ≤ k) : (none : Option Nat) = if ix < 0 then none else (l9.filter (c_pw I R w9))[ix.toNatClampNeg]? := by
  by_cases h : ix < 0
  · rw [if_pos h]
  · rw [if_neg h]
    obtain ⟨k, hk1, hk2⟩ := nI_of h
    rw [hk2, nI_clamp hk1]
    exact (filt_none (c_pw I R w9) (by rw [← hi]; exact hx k hk2 hk1)).symm
set_option maxHeartbeats 400000 in
set_option maxRecDepth 100000 in
theorem c_X1_postingsOf (l : Launch) {G : mG} {K : Nat → Nat} {I : Nat → Nat → Int32} {R : Nat → Nat → Option Nat} {F : Nat → UInt32} {A : Nat → Nat → Int32} {N : Nat → Nat} {L : Nat → List Nat} {T : Nat → List Int32} {J : Nat → Nat → Int64} {D : Nat → Nat → UInt64} {o lr : Nat} {w9 : Int32} (hko : K o = 2) (hrow : R 20 o = some lr) (hlr : K lr = 11) (hel : ∀ a, a ∈ L lr → K a = 1) (hps : c_pst I R (L lr)) : Met l yX1_postingsOf wsX1_postingsOf ({ frames := 3, cells := 0, slots := 0, locals := 90 } : Room) (va_Pc [.ref o, .int w9] (m_B G K I R F A N L T J D)) (va_Qi (fun (r : Int32) (_ : Unit) => r = nI ((L lr).countP (c_pw I R w9))) (fun u : Unit => m_B G K I R F A N L T J D) (m_A G)) 0 0 (m_A G) := by
  refine Met.ofW (cc := cX1_postingsOf) (maxL := 4) (ret := (some .int)) (by decide) rfl ?_
  intro p e s m args below meth c s₁ B hml hv
  obtain ⟨rfl, hB⟩ := hv
  have hx := B.exec
  have hb := B.bytes
  have hr := B.returns
  have hts := atoms_spec (ws := wsX1_postingsOf) B.pre
  have hown : s.vm.findClass RX1 = some m.cls := findClass_of_methodNamed B.named
  have hlocks := B.notSynchronized
  have hw := m_wo_in hB
  have hl := lv_entry ([.ref o, .int w9]) (n := 4) (Nat.le_of_ble_eq_true rfl)
  rw [lg_entry_eq]
  generalize (lg_sl ([.ref o, .int w9]) ++ List.replicate (4 - (lg_sl ([.ref o, .int w9])).length) Slot.unset).toArray = ls at hl ⊢
  have hl : lv_has ls 4 [(0, .ref o), (1, .int w9)] := hl
  have hlen := m_len hw hlr
  refine lv_iconst (v := 0) hx hb dX1_postingsOf_0 (by decide) ?_
  refine lv_istore_n (lv' := [(2, .int 0), (0, .ref o), (1, .int w9)]) hx hb dX1_postingsOf_1 rfl hl (by decide) rfl (fun ls hl => ?_)
  refine lv_iconst (v := 0) hx hb dX1_postingsOf_2 (by decide) ?_
  refine lv_istore_n (lv' := [(3, .int 0), (2, .int 0), (0, .ref o), (1, .int w9)]) hx hb dX1_postingsOf_3 rfl hl (by decide) rfl (fun ls hl => ?_)
  refine m_loop (σ := Nat × Int32) (fun a => (L lr).length - (a.1)) (fun a H locs ls => ((a.1) ≤ (L lr).length ∧ (a.2) = nI (cntB (fun j => c_pw I R w9 ((L lr).getD j 0)) (a.1))) ∧ m_wo G K I R F A N L T J D s H locs ∧ lv_has ls 4 [(0, .ref o), (1, .int w9), (2, .int (a.2)), (3, .int (nI (a.1)))]) ?_ (0, 0) ⟨⟨Nat.zero_le _, rfl⟩, hw, lv_sub hl [2, 3, 1, 0] rfl⟩
  rintro ⟨i, x⟩ H locs ls ⟨hinv, hw, hl⟩ ih
  dsimp only at hinv hw hl
  obtain ⟨hi0, hx0⟩ := hinv
  refine lv_iload_n hx hb dX1_postingsOf_4 rfl (lv_at hl 3 rfl) ?_
  refine lv_aload_n hx hb dX1_postingsOf_5 rfl (lv_at hl 0 rfl) ?_
  refine g_2_0 (r := some lr) hx hb hts (by decide +kernel) hown hw hko (hts (.fieldLink RX1 12 "Pirateindex$Index" "row" "Ljava/util/ArrayList;") (by decide +kernel)) hrow dX1_postingsOf_6 ?_
  refine m_ci (va_runV (As := []) (rest := [.int (nI i)]) ⟨hx, hb, hml, hown, hts⟩ (c_Jx4a65c_size_8abf5 l hlr) (cwV 0 hts gX1_postingsOf_Jx4a65c_size_8abf5 rfl rfl rfl (by decide +kernel) ⟨Nat.le_of_ble_eq_true rfl, Nat.le_of_ble_eq_true rfl⟩) ⟨m_blind m_B_calling, m_recv hw (m_ent_11 hlr) rfl, fun U hU hW => ⟨rfl, m_wo_call hw hU hW⟩⟩ rfl rfl hl.1 rfl (lv_room (Nat.le_of_ble_eq_true rfl)) dX1_postingsOf_9 ⟨Nat.le_of_ble_eq_true rfl, Nat.le_of_ble_eq_true rfl⟩) hw (fun r_9 u_9 H locs hp_9 hw => ?_)
  obtain rfl : r_9 = (nI (L lr).length) := hp_9
  refine lv_icmp_ge (tgt := 42) hx hb dX1_postingsOf_12 (by decide) (fun c_12 => ?_) (fun c_12 => ?_)
  · skip
    rw [nI_leI (by omega) (by omega)] at c_12
    have hi : i = (L lr).length := by omega
    refine lv_iload_n hx hb dX1_postingsOf_42 rfl (lv_at hl 2 rfl) ?_
    exact W.iret (v := x) hx hb hr (fun t ht hW => ⟨⟨x, (), rfl, (by rw [hx0, hi]; exact congrArg nI (cnt_list (c_pw I R w9) (L lr))), m_wo_out hw ht hW.alike⟩, m_wo_F hw ht⟩) (m_wo_L hw) dX1_postingsOf_43
  · skip
    rw [nI_leI (by omega) (by omega)] at c_12
    have hi : i < (L lr).length := by omega
    refine lv_aload_n hx hb dX1_postingsOf_15 rfl (lv_at hl 0 rfl) ?_
    refine g_2_0 (r := some lr) hx hb hts (by decide +kernel) hown hw hko (hts (.fieldLink RX1 12 "Pirateindex$Index" "row" "Ljava/util/ArrayList;") (by decide +kernel)) hrow dX1_postingsOf_16 ?_
    refine lv_iload_n hx hb dX1_postingsOf_19 rfl (lv_at hl 3 rfl) ?_
    obtain ⟨ai, ha⟩ : ∃ z, (L lr)[i]? = some z := ⟨_, lg_some hi⟩
    have hka : K ai = 1 := hel ai (List.mem_of_getElem? ha)
    refine m_cq (va_runV (As := [.int (nI i)]) (rest := []) ⟨hx, hb, hml, hown, hts⟩ (c_Jx4a65c_get_915e3 l hlr hi) (cwV 1 hts gX1_postingsOf_Jx4a65c_get_915e3 rfl rfl rfl (by decide +kernel) ⟨Nat.le_of_ble_eq_true rfl, Nat.le_of_ble_eq_true rfl⟩) ⟨m_blind m_B_calling, m_recv hw (m_ent_11 hlr) rfl, fun U hU hW => ⟨rfl, m_wo_call hw hU hW⟩⟩ rfl rfl hl.1 rfl (lv_room (Nat.le_of_ble_eq_true rfl)) dX1_postingsOf_20 ⟨Nat.le_of_ble_eq_true rfl, Nat.le_of_ble_eq_true rfl⟩) hw (fun r_20 u_20 H locs hp_20 hw => ?_)
    obtain rfl : r_20 = some ai := hp_20.trans ha
    refine va_castS hx hb hown (hts (.classLink RX1 26 "Pirateindex$Find") (by decide +kernel)) (hw.1.1 5 _ rfl).2 (m_recv hw (m_ent_1 hka) rfl) dX1_postingsOf_23 ?_
    refine g_1_1 hx hb hts (by decide +kernel) hown hw hka (hts (.fieldLink RX1 39 "Pirateindex$Find" "word" "I") (by decide +kernel)) dX1_postingsOf_26 ?_
    refine lv_iload_n hx hb dX1_postingsOf_29 rfl (lv_at hl 1 rfl) ?_
    refine lv_icmp_ne (tgt := 36) hx hb dX1_postingsOf_30 (by decide) (fun c_30 => ?_) (fun c_30 => ?_)
    · skip
      have hq : c_pw I R w9 ai = false := c_pw_n c_30
      have hx1 : x = nI (cntB (fun j => c_pw I R w9 ((L lr).getD j 0)) (i + 1)) := by rw [cnt_F (c_pw I R w9) ha hq]; exact hx0
      refine lv_iinc (v := nI (i + 1)) (lv' := [(3, .int (nI (i + 1))), (0, .ref o), (1, .int w9), (2, .int x)]) hx hb dX1_postingsOf_36 hl (k := 3) rfl (nI_1 _) (by decide) rfl (fun ls hl => ?_)
      refine lv_goto (tgt := 4) hx hb dX1_postingsOf_39 (by decide) ?_
      exact ih (i + 1, x) _ _ _ (by dsimp only; omega) ⟨⟨by omega, hx1⟩, hw, lv_sub hl [1, 2, 3, 0] rfl⟩
    · skip
      have hq : c_pw I R w9 ai = true := c_pw_t c_30 (hps ai (List.mem_of_getElem? ha))
      have hx1 : x + 1 = nI (cntB (fun j => c_pw I R w9 ((L lr).getD j 0)) (i + 1)) := by rw [cnt_T (c_pw I R w9) ha hq, hx0]; exact nI_1 _
      refine lv_iinc (v := x + 1) (lv' := [(2, .int (x + 1)), (0, .ref o), (1, .int w9), (3, .int (nI i))]) hx hb dX1_postingsOf_33 hl (k := 2) rfl rfl (by decide) rfl (fun ls hl => ?_)
      refine lv_iinc (v := nI (i + 1)) (lv' := [(3, .int (nI (i + 1))), (2, .int (x + 1)), (0, .ref o), (1, .int w9)]) hx hb dX1_postingsOf_36 hl (k := 3) rfl (nI_1 _) (by decide) rfl (fun ls hl => ?_)
      refine lv_goto (tgt := 4) hx hb dX1_postingsOf_39 (by decide) ?_
      exact ih (i + 1, x + 1) _ _ _ (by dsimp only; omega) ⟨⟨by omega, hx1⟩, hw, lv_sub hl [2, 3, 1, 0] rfl⟩
set_option maxHeartbeats 400000 in
set_option maxRecDepth 100000 in
theorem c_X1_postingAt (l : Launch) {G : mG} {K : Nat → Nat} {I : Nat → Nat → Int32} {R : Nat → Nat → Option Nat} {F : Nat → UInt32} {A : Nat → Nat → Int32} {N : Nat → Nat} {L : Nat → List Nat} {T : Nat → List Int32} {J : Nat → Nat → Int64} {D : Nat → Nat → UInt64} {o lr : Nat} {w9 ix : Int32} (hko : K o = 2) (hrow : R 20 o = some lr) (hlr : K lr = 11) (hel : ∀ a, a ∈ L lr → K a = 1) (hps : c_pst I R (L lr)) : Met l yX1_postingAt wsX1_postingAt ({ frames := 3, cells := 0, slots := 0, locals := 90 } : Room) (va_Pc [.ref o, .int w9, .int ix] (m_B G K I R F A N L T J D)) (va_Qq (fun (r : Option Nat) (_ : Unit) => r = if ix < 0 then none else ((L lr).filter (c_pw I R w9))[ix.toNatClampNeg]?) (fun u : Unit => m_B G K I R F A N L T J D) (m_A G)) 0 0 (m_A G) := by
  refine Met.ofW (cc := cX1_postingAt) (maxL := 6) (ret := (some (.object "Pirateindex$Find"))) (by decide) rfl ?_
  intro p e s m args below meth c s₁ B hml hv
  obtain ⟨rfl, hB⟩ := hv
  have hx := B.exec
  have hb := B.bytes
  have hr := B.returns
  have hts := atoms_spec (ws := wsX1_postingAt) B.pre
  have hown : s.vm.findClass RX1 = some m.cls := findClass_of_methodNamed B.named
  have hlocks := B.notSynchronized
  have hw := m_wo_in hB
  have hl := lv_entry ([.ref o, .int w9, .int ix]) (n := 6) (Nat.le_of_ble_eq_true rfl)
  rw [lg_entry_eq]
  generalize (lg_sl ([.ref o, .int w9, .int ix]) ++ List.replicate (6 - (lg_sl ([.ref o, .int w9, .int ix])).length) Slot.unset).toArray = ls at hl ⊢
  have hl : lv_has ls 6 [(0, .ref o), (1, .int w9), (2, .int ix)] := hl
  have hlen := m_len hw hlr
  refine lv_iconst (v := 0) hx hb dX1_postingAt_0 (by decide) ?_
  refine lv_istore_n (lv' := [(3, .int 0), (0, .ref o), (1, .int w9), (2, .int ix)]) hx hb dX1_postingAt_1 rfl hl (by decide) rfl (fun ls hl => ?_)
  refine lv_iconst (v := 0) hx hb dX1_postingAt_2 (by decide) ?_
  refine lv_istore (lv' := [(4, .int 0), (3, .int 0), (0, .ref o), (1, .int w9), (2, .int ix)]) hx hb dX1_postingAt_3 hl (by decide) rfl (fun ls hl => ?_)
  refine m_loop (σ := Nat) (fun a => (L lr).length - (a)) (fun a H locs ls => ((a) ≤ (L lr).length ∧ ∀ k, ix = nI k → k < 2 ^ 31 → cntB (fun j => c_pw I R w9 ((L lr).getD j 0)) (a) ≤ k) ∧ m_wo G K I R F A N L T J D s H locs ∧ lv_has ls 6 [(0, .ref o), (1, .int w9), (2, .int ix), (3, .int (nI (cntB (fun j => c_pw I R w9 ((L lr).getD j 0)) (a)))), (4, .int (nI (a)))]) ?_ (0) ⟨⟨Nat.zero_le _, fun k _ _ => Nat.zero_le _⟩, hw, lv_sub hl [2, 3, 4, 1, 0] rfl⟩
  rintro i H locs ls ⟨hinv, hw, hl⟩ ih
  try dsimp only at hinv hw hl
  obtain ⟨hi0, hx0⟩ := hinv
  have hcl := cntB_le (fun j => c_pw I R w9 ((L lr).getD j 0)) i
  refine lv_iload hx hb dX1_postingAt_5 (lv_at hl 4 rfl) ?_
  refine lv_aload_n hx hb dX1_postingAt_7 rfl (lv_at hl 0 rfl) ?_
  refine g_2_0 (r := some lr) hx hb hts (by decide +kernel) hown hw hko (hts (.fieldLink RX1 12 "Pirateindex$Index" "row" "Ljava/util/ArrayList;") (by decide +kernel)) hrow dX1_postingAt_8 ?_
  refine m_ci (va_runV (As := []) (rest := [.int (nI i)]) ⟨hx, hb, hml, hown, hts⟩ (c_Jx4a65c_size_8abf5 l hlr) (cwV 0 hts gX1_postingAt_Jx4a65c_size_8abf5 rfl rfl rfl (by decide +kernel) ⟨Nat.le_of_ble_eq_true rfl, Nat.le_of_ble_eq_true rfl⟩) ⟨m_blind m_B_calling, m_recv hw (m_ent_11 hlr) rfl, fun U hU hW => ⟨rfl, m_wo_call hw hU hW⟩⟩ rfl rfl hl.1 rfl (lv_room (Nat.le_of_ble_eq_true rfl)) dX1_postingAt_11 ⟨Nat.le_of_ble_eq_true rfl, Nat.le_of_ble_eq_true rfl⟩) hw (fun r_11 u_11 H locs hp_11 hw => ?_)
  obtain rfl : r_11 = (nI (L lr).length) := hp_11
  refine lv_icmp_ge (tgt := 57) hx hb dX1_postingAt_14 (by decide) (fun c_14 => ?_) (fun c_14 => ?_)
  · skip
    rw [nI_leI (by omega) (by omega)] at c_14
    have hi : i = (L lr).length := by omega
    refine lv_null hx hb dX1_postingAt_57 ?_
    exact W.aret (v := .null) hx hb hr (Or.inl ⟨_, rfl⟩) (Or.inl rfl) (fun t ht hW => ⟨⟨none, (), rfl, (pa_none hi hx0), m_wo_out hw ht hW.alike⟩, m_wo_F hw ht⟩) (m_wo_L hw) dX1_postingAt_58
  · skip
    rw [nI_leI (by omega) (by omega)] at c_14
    have hi : i < (L lr).length := by omega
    refine lv_aload_n hx hb dX1_postingAt_17 rfl (lv_at hl 0 rfl) ?_
    refine g_2_0 (r := some lr) hx hb hts (by decide +kernel) hown hw hko (hts (.fieldLink RX1 12 "Pirateindex$Index" "row" "Ljava/util/ArrayList;") (by decide +kernel)) hrow dX1_postingAt_18 ?_
    refine lv_iload hx hb dX1_postingAt_21 (lv_at hl 4 rfl) ?_
    obtain ⟨ai, ha⟩ : ∃ z, (L lr)[i]? = some z := ⟨_, lg_some hi⟩
    have hka : K ai = 1 := hel ai (List.mem_of_getElem? ha)
    refine m_cq (va_runV (As := [.int (nI i)]) (rest := []) ⟨hx, hb, hml, hown, hts⟩ (c_Jx4a65c_get_915e3 l hlr hi) (cwV 1 hts gX1_postingAt_Jx4a65c_get_915e3 rfl rfl rfl (by decide +kernel) ⟨Nat.le_of_ble_eq_true rfl, Nat.le_of_ble_eq_true rfl⟩) ⟨m_blind m_B_calling, m_recv hw (m_ent_11 hlr) rfl, fun U hU hW => ⟨rfl, m_wo_call hw hU hW⟩⟩ rfl rfl hl.1 rfl (lv_room (Nat.le_of_ble_eq_true rfl)) dX1_postingAt_23 ⟨Nat.le_of_ble_eq_true rfl, Nat.le_of_ble_eq_true rfl⟩) hw (fun r_23 u_23 H locs hp_23 hw => ?_)
    obtain rfl : r_23 = some ai := hp_23.trans ha
    refine va_castS hx hb hown (hts (.classLink RX1 26 "Pirateindex$Find") (by decide +kernel)) (hw.1.1 5 _ rfl).2 (m_recv hw (m_ent_1 hka) rfl) dX1_postingAt_26 ?_
    refine lv_astore (lv' := [(5, .ref ai), (0, .ref o), (1, .int w9), (2, .int ix), (3, .int (nI (cntB (fun j => c_pw I R w9 ((L lr).getD j 0)) i))), (4, .int (nI i))]) hx hb dX1_postingAt_29 hl (by decide) rfl (fun ls hl => ?_)
    refine lv_aload hx hb dX1_postingAt_31 (lv_at hl 0 rfl) ?_
    refine g_1_1 hx hb hts (by decide +kernel) hown hw hka (hts (.fieldLink RX1 39 "Pirateindex$Find" "word" "I") (by decide +kernel)) dX1_postingAt_33 ?_
    refine lv_iload_n hx hb dX1_postingAt_36 rfl (lv_at hl 2 rfl) ?_
    refine lv_icmp_ne (tgt := 51) hx hb dX1_postingAt_37 (by decide) (fun c_37 => ?_) (fun c_37 => ?_)
    · skip
      have hq : c_pw I R w9 ai = false := c_pw_n c_37
      have hc1 : cntB (fun j => c_pw I R w9 ((L lr).getD j 0)) i = cntB (fun j => c_pw I R w9 ((L lr).getD j 0)) (i + 1) := (cnt_F (c_pw I R w9) ha hq).symm
      have hx1 : ∀ k, ix = nI k → k < 2 ^ 31 → cntB (fun j => c_pw I R w9 ((L lr).getD j 0)) (i + 1) ≤ k := fun k h1 h2 => by rw [← hc1]; exact hx0 k h1 h2
      rw [hc1] at hl
      have hl : lv_has ls 6 [(5, .ref ai), (0, .ref o), (1, .int w9), (2, .int ix), (3, .int (nI (cntB (fun j => c_pw I R w9 ((L lr).getD j 0)) (i + 1)))), (4, .int (nI i))] := hl
      refine lv_iinc (v := nI (i + 1)) (lv' := [(4, .int (nI (i + 1))), (5, .ref ai), (0, .ref o), (1, .int w9), (2, .int ix), (3, .int (nI (cntB (fun j => c_pw I R w9 ((L lr).getD j 0)) (i + 1))))]) hx hb dX1_postingAt_51 hl (k := 5) rfl (nI_1 _) (by decide) rfl (fun ls hl => ?_)
      refine lv_goto (tgt := 5) hx hb dX1_postingAt_54 (by decide) ?_
      exact ih (i + 1) _ _ _ (by omega) ⟨⟨by omega, hx1⟩, hw, lv_sub hl [2, 3, 4, 5, 0] rfl⟩
    · skip
      have hq : c_pw I R w9 ai = true := c_pw_t c_37 (hps ai (List.mem_of_getElem? ha))
      have hc1 : cntB (fun j => c_pw I R w9 ((L lr).getD j 0)) (i + 1) = cntB (fun j => c_pw I R w9 ((L lr).getD j 0)) i + 1 := cnt_T (c_pw I R w9) ha hq
      refine lv_iload_n hx hb dX1_postingAt_40 rfl (lv_at hl 4 rfl) ?_
      refine lv_iload_n hx hb dX1_postingAt_41 rfl (lv_at hl 3 rfl) ?_
      refine lv_icmp_ne (tgt := 48) hx hb dX1_postingAt_42 (by decide) (fun c_42 => ?_) (fun c_42 => ?_)
      · skip
        have hx1 : ∀ k, ix = nI k → k < 2 ^ 31 → cntB (fun j => c_pw I R w9 ((L lr).getD j 0)) (i + 1) ≤ k := fun k h1 h2 => by
          rw [hc1]
          have h3 := hx0 k h1 h2
          rcases Nat.lt_or_ge (cntB (fun j => c_pw I R w9 ((L lr).getD j 0)) i) k with h | h
          · exact h
          · exact absurd (by rw [h1]; exact congrArg nI (by omega)) c_42
        refine lv_iinc (v := nI ((cntB (fun j => c_pw I R w9 ((L lr).getD j 0)) i) + 1)) (lv' := [(3, .int (nI ((cntB (fun j => c_pw I R w9 ((L lr).getD j 0)) i) + 1))), (5, .ref ai), (0, .ref o), (1, .int w9), (2, .int ix), (4, .int (nI i))]) hx hb dX1_postingAt_48 hl (k := 4) rfl (nI_1 _) (by decide) rfl (fun ls hl => ?_)
        rw [← hc1] at hl
        have hl : lv_has ls 6 [(3, .int (nI (cntB (fun j => c_pw I R w9 ((L lr).getD j 0)) (i + 1)))), (5, .ref ai), (0, .ref o), (1, .int w9), (2, .int ix), (4, .int (nI i))] := hl
        refine lv_iinc (v := nI (i + 1)) (lv' := [(4, .int (nI (i + 1))), (3, .int (nI (cntB (fun j => c_pw I R w9 ((L lr).getD j 0)) (i + 1)))), (5, .ref ai), (0, .ref o), (1, .int w9), (2, .int ix)]) hx hb dX1_postingAt_51 hl (k := 5) rfl (nI_1 _) (by decide) rfl (fun ls hl => ?_)
        refine lv_goto (tgt := 5) hx hb dX1_postingAt_54 (by decide) ?_
        exact ih (i + 1) _ _ _ (by omega) ⟨⟨by omega, hx1⟩, hw, lv_sub hl [3, 4, 5, 1, 0] rfl⟩
      · skip
        refine lv_aload hx hb dX1_postingAt_45 (lv_at hl 0 rfl) ?_
        exact W.aret (v := .ref ai) hx hb hr (Or.inl ⟨_, rfl⟩) (Or.inr ⟨_, rfl⟩) (fun t ht hW => ⟨⟨(some ai), (), rfl, (by rw [← c_42, if_neg (nI_pos (by omega)), nI_clamp (by omega)]; exact (filt_at (c_pw I R w9) ha hq).symm), m_wo_out hw ht hW.alike⟩, m_wo_F hw ht⟩) (m_wo_L hw) dX1_postingAt_47
set_option maxHeartbeats 400000 in
set_option maxRecDepth 100000 in
theorem c_X1_islandsOf (l : Launch) {G : mG} {K : Nat → Nat} {I : Nat → Nat → Int32} {R : Nat → Nat → Option Nat} {F : Nat → UInt32} {A : Nat → Nat → Int32} {N : Nat → Nat} {L : Nat → List Nat} {T : Nat → List Int32} {J : Nat → Nat → Int64} {D : Nat → Nat → UInt64} {o lr : Nat} {w9 : Int32} (hko : K o = 2) (hrow : R 20 o = some lr) (hlr : K lr = 11) (hel : ∀ a, a ∈ L lr → K a = 1) (hps : c_pst I R (L lr)) : Met l yX1_islandsOf wsX1_islandsOf ({ frames := 3, cells := 0, slots := 0, locals := 90 } : Room) (va_Pc [.ref o, .int w9] (m_B G K I R F A N L T J D)) (va_Qi (fun (r : Int32) (_ : Unit) => r = nI (c_il I (c_pw I R w9) (fun j => (L lr).getD j 0) (L lr).length).1) (fun u : Unit => m_B G K I R F A N L T J D) (m_A G)) 0 0 (m_A G) := by
  refine Met.ofW (cc := cX1_islandsOf) (maxL := 6) (ret := (some .int)) (by decide) rfl ?_
  intro p e s m args below meth c s₁ B hml hv
  obtain ⟨rfl, hB⟩ := hv
  have hx := B.exec
  have hb := B.bytes
  have hr := B.returns
  have hts := atoms_spec (ws := wsX1_islandsOf) B.pre
  have hown : s.vm.findClass RX1 = some m.cls := findClass_of_methodNamed B.named
  have hlocks := B.notSynchronized
  have hw := m_wo_in hB
  have hl := lv_entry ([.ref o, .int w9]) (n := 6) (Nat.le_of_ble_eq_true rfl)
  rw [lg_entry_eq]
  generalize (lg_sl ([.ref o, .int w9]) ++ List.replicate (6 - (lg_sl ([.ref o, .int w9])).length) Slot.unset).toArray = ls at hl ⊢
  have hl : lv_has ls 6 [(0, .ref o), (1, .int w9)] := hl
  have hlen := m_len hw hlr
  refine lv_iconst (v := 0) hx hb dX1_islandsOf_0 (by decide) ?_
  refine lv_istore_n (lv' := [(2, .int 0), (0, .ref o), (1, .int w9)]) hx hb dX1_islandsOf_1 rfl hl (by decide) rfl (fun ls hl => ?_)
  refine lv_iconst (v := (-1)) hx hb dX1_islandsOf_2 (by decide) ?_
  refine lv_istore_n (lv' := [(3, .int (-1)), (2, .int 0), (0, .ref o), (1, .int w9)]) hx hb dX1_islandsOf_3 rfl hl (by decide) rfl (fun ls hl => ?_)
  refine lv_iconst (v := 0) hx hb dX1_islandsOf_4 (by decide) ?_
  refine lv_istore (lv' := [(4, .int 0), (3, .int (-1)), (2, .int 0), (0, .ref o), (1, .int w9)]) hx hb dX1_islandsOf_5 hl (by decide) rfl (fun ls hl => ?_)
  refine m_loop (σ := Nat × Int32 × Int32) (fun a => (L lr).length - (a.1)) (fun a H locs ls => ((a.1) ≤ (L lr).length ∧ (a.2.1) = nI (c_il I (c_pw I R w9) (fun j => (L lr).getD j 0) (a.1)).1 ∧ (a.2.2) = (c_il I (c_pw I R w9) (fun j => (L lr).getD j 0) (a.1)).2) ∧ m_wo G K I R F A N L T J D s H locs ∧ lv_has ls 6 [(0, .ref o), (1, .int w9), (2, .int (a.2.1)), (3, .int (a.2.2)), (4, .int (nI (a.1)))]) ?_ (0, 0, (-1)) ⟨⟨Nat.zero_le _, rfl, rfl⟩, hw, lv_sub hl [3, 4, 2, 1, 0] rfl⟩
  rintro ⟨i, x, y⟩ H locs ls ⟨hinv, hw, hl⟩ ih
  dsimp only at hinv hw hl
  obtain ⟨hi0, hx0, hy0⟩ := hinv
  refine lv_iload hx hb dX1_islandsOf_7 (lv_at hl 4 rfl) ?_
  refine lv_aload_n hx hb dX1_islandsOf_9 rfl (lv_at hl 0 rfl) ?_
  refine g_2_0 (r := some lr) hx hb hts (by decide +kernel) hown hw hko (hts (.fieldLink RX1 12 "Pirateindex$Index" "row" "Ljava/util/ArrayList;") (by decide +kernel)) hrow dX1_islandsOf_10 ?_
  refine m_ci (va_runV (As := []) (rest := [.int (nI i)]) ⟨hx, hb, hml, hown, hts⟩ (c_Jx4a65c_size_8abf5 l hlr) (cwV 0 hts gX1_islandsOf_Jx4a65c_size_8abf5 rfl rfl rfl (by decide +kernel) ⟨Nat.le_of_ble_eq_true rfl, Nat.le_of_ble_eq_true rfl⟩) ⟨m_blind m_B_calling, m_recv hw (m_ent_11 hlr) rfl, fun U hU hW => ⟨rfl, m_wo_call hw hU hW⟩⟩ rfl rfl hl.1 rfl (lv_room (Nat.le_of_ble_eq_true rfl)) dX1_islandsOf_13 ⟨Nat.le_of_ble_eq_true rfl, Nat.le_of_ble_eq_true rfl⟩) hw (fun r_13 u_13 H locs hp_13 hw => ?_)
  obtain rfl : r_13 = (nI (L lr).length) := hp_13
  refine lv_icmp_ge (tgt := 66) hx hb dX1_islandsOf_16 (by decide) (fun c_16 => ?_) (fun c_16 => ?_)
  · skip
    rw [nI_leI (by omega) (by omega)] at c_16
    have hi : i = (L lr).length := by omega
    refine lv_iload_n hx hb dX1_islandsOf_66 rfl (lv_at hl 2 rfl) ?_
    exact W.iret (v := x) hx hb hr (fun t ht hW => ⟨⟨x, (), rfl, (by rw [hx0, hi]), m_wo_out hw ht hW.alike⟩, m_wo_F hw ht⟩) (m_wo_L hw) dX1_islandsOf_67
  · skip
    rw [nI_leI (by omega) (by omega)] at c_16
    have hi : i < (L lr).length := by omega
    refine lv_aload_n hx hb dX1_islandsOf_19 rfl (lv_at hl 0 rfl) ?_
    refine g_2_0 (r := some lr) hx hb hts (by decide +kernel) hown hw hko (hts (.fieldLink RX1 12 "Pirateindex$Index" "row" "Ljava/util/ArrayList;") (by decide +kernel)) hrow dX1_islandsOf_20 ?_
    refine lv_iload hx hb dX1_islandsOf_23 (lv_at hl 4 rfl) ?_
    obtain ⟨ai, ha⟩ : ∃ z, (L lr)[i]? = some z := ⟨_, lg_some hi⟩
    have hka : K ai = 1 := hel ai (List.mem_of_getElem? ha)
    refine m_cq (va_runV (As := [.int (nI i)]) (rest := []) ⟨hx, hb, hml, hown, hts⟩ (c_Jx4a65c_get_915e3 l hlr hi) (cwV 1 hts gX1_islandsOf_Jx4a65c_get_915e3 rfl rfl rfl (by decide +kernel) ⟨Nat.le_of_ble_eq_true rfl, Nat.le_of_ble_eq_true rfl⟩) ⟨m_blind m_B_calling, m_recv hw (m_ent_11 hlr) rfl, fun U hU hW => ⟨rfl, m_wo_call hw hU hW⟩⟩ rfl rfl hl.1 rfl (lv_room (Nat.le_of_ble_eq_true rfl)) dX1_islandsOf_25 ⟨Nat.le_of_ble_eq_true rfl, Nat.le_of_ble_eq_true rfl⟩) hw (fun r_25 u_25 H locs hp_25 hw => ?_)
    obtain rfl : r_25 = some ai := hp_25.trans ha
    refine va_castS hx hb hown (hts (.classLink RX1 26 "Pirateindex$Find") (by decide +kernel)) (hw.1.1 5 _ rfl).2 (m_recv hw (m_ent_1 hka) rfl) dX1_islandsOf_28 ?_
    refine lv_astore (lv' := [(5, .ref ai), (0, .ref o), (1, .int w9), (2, .int x), (3, .int y), (4, .int (nI i))]) hx hb dX1_islandsOf_31 hl (by decide) rfl (fun ls hl => ?_)
    refine lv_aload hx hb dX1_islandsOf_33 (lv_at hl 0 rfl) ?_
    refine g_1_1 hx hb hts (by decide +kernel) hown hw hka (hts (.fieldLink RX1 39 "Pirateindex$Find" "word" "I") (by decide +kernel)) dX1_islandsOf_35 ?_
    refine lv_iload_n hx hb dX1_islandsOf_38 rfl (lv_at hl 2 rfl) ?_
    refine lv_icmp_ne (tgt := 60) hx hb dX1_islandsOf_39 (by decide) (fun c_39 => ?_) (fun c_39 => ?_)
    · skip
      have hq : c_pw I R w9 ai = false := c_pw_n c_39
      have hc1 : (c_il I (c_pw I R w9) (fun j => (L lr).getD j 0) (i + 1)) = (c_il I (c_pw I R w9) (fun j => (L lr).getD j 0) i) := by simp only [c_il]; rw [lg_get ha, hq]; rfl
      have hx1 : x = nI (c_il I (c_pw I R w9) (fun j => (L lr).getD j 0) (i + 1)).1 := by rw [hc1]; exact hx0
      have hy1 : y = (c_il I (c_pw I R w9) (fun j => (L lr).getD j 0) (i + 1)).2 := by rw [hc1]; exact hy0
      refine lv_iinc (v := nI (i + 1)) (lv' := [(4, .int (nI (i + 1))), (5, .ref ai), (0, .ref o), (1, .int w9), (2, .int x), (3, .int y)]) hx hb dX1_islandsOf_60 hl (k := 5) rfl (nI_1 _) (by decide) rfl (fun ls hl => ?_)
      refine lv_goto (tgt := 7) hx hb dX1_islandsOf_63 (by decide) ?_
      exact ih (i + 1, x, y) _ _ _ (by dsimp only; omega) ⟨⟨by omega, hx1, hy1⟩, hw, lv_sub hl [2, 3, 4, 5, 0] rfl⟩
    · skip
      have hq : c_pw I R w9 ai = true := c_pw_t c_39 (hps ai (List.mem_of_getElem? ha))
      refine lv_aload hx hb dX1_islandsOf_42 (lv_at hl 0 rfl) ?_
      refine g_1_2 hx hb hts (by decide +kernel) hown hw hka (hts (.fieldLink RX1 43 "Pirateindex$Find" "island" "I") (by decide +kernel)) dX1_islandsOf_44 ?_
      refine lv_iload_n hx hb dX1_islandsOf_47 rfl (lv_at hl 4 rfl) ?_
      refine lv_icmp_eq (tgt := 60) hx hb dX1_islandsOf_48 (by decide) (fun c_48 => ?_) (fun c_48 => ?_)
      · skip
        have hc1 : (c_il I (c_pw I R w9) (fun j => (L lr).getD j 0) (i + 1)) = (c_il I (c_pw I R w9) (fun j => (L lr).getD j 0) i) := by simp only [c_il]; rw [lg_get ha, hq, if_pos rfl, if_pos (c_48.trans hy0)]
        have hx1 : x = nI (c_il I (c_pw I R w9) (fun j => (L lr).getD j 0) (i + 1)).1 := by rw [hc1]; exact hx0
        have hy1 : y = (c_il I (c_pw I R w9) (fun j => (L lr).getD j 0) (i + 1)).2 := by rw [hc1]; exact hy0
        refine lv_iinc (v := nI (i + 1)) (lv' := [(4, .int (nI (i + 1))), (5, .ref ai), (0, .ref o), (1, .int w9), (2, .int x), (3, .int y)]) hx hb dX1_islandsOf_60 hl (k := 5) rfl (nI_1 _) (by decide) rfl (fun ls hl => ?_)
        refine lv_goto (tgt := 7) hx hb dX1_islandsOf_63 (by decide) ?_
        exact ih (i + 1, x, y) _ _ _ (by dsimp only; omega) ⟨⟨by omega, hx1, hy1⟩, hw, lv_sub hl [2, 3, 4, 5, 0] rfl⟩
      · skip
        have hc1 : (c_il I (c_pw I R w9) (fun j => (L lr).getD j 0) (i + 1)) = ((c_il I (c_pw I R w9) (fun j => (L lr).getD j 0) i).1 + 1, I 12 ai) := by simp only [c_il]; rw [lg_get ha, hq, if_pos rfl, if_neg (fun z => c_48 (z.trans hy0.symm))]
        have hx1 : x + 1 = nI (c_il I (c_pw I R w9) (fun j => (L lr).getD j 0) (i + 1)).1 := by rw [hc1, hx0]; exact nI_1 _
        have hy1 : I 12 ai = (c_il I (c_pw I R w9) (fun j => (L lr).getD j 0) (i + 1)).2 := by rw [hc1]
        refine lv_iinc (v := x + 1) (lv' := [(2, .int (x + 1)), (5, .ref ai), (0, .ref o), (1, .int w9), (3, .int y), (4, .int (nI i))]) hx hb dX1_islandsOf_51 hl (k := 3) rfl rfl (by decide) rfl (fun ls hl => ?_)
        refine lv_aload hx hb dX1_islandsOf_54 (lv_at hl 1 rfl) ?_
        refine g_1_2 hx hb hts (by decide +kernel) hown hw hka (hts (.fieldLink RX1 43 "Pirateindex$Find" "island" "I") (by decide +kernel)) dX1_islandsOf_56 ?_
        refine lv_istore_n (lv' := [(3, .int (I 12 ai)), (2, .int (x + 1)), (5, .ref ai), (0, .ref o), (1, .int w9), (4, .int (nI i))]) hx hb dX1_islandsOf_59 rfl hl (by decide) rfl (fun ls hl => ?_)
        refine lv_iinc (v := nI (i + 1)) (lv' := [(4, .int (nI (i + 1))), (3, .int (I 12 ai)), (2, .int (x + 1)), (5, .ref ai), (0, .ref o), (1, .int w9)]) hx hb dX1_islandsOf_60 hl (k := 5) rfl (nI_1 _) (by decide) rfl (fun ls hl => ?_)
        refine lv_goto (tgt := 7) hx hb dX1_islandsOf_63 (by decide) ?_
        exact ih (i + 1, x + 1, (I 12 ai)) _ _ _ (by dsimp only; omega) ⟨⟨by omega, hx1, hy1⟩, hw, lv_sub hl [4, 5, 2, 1, 0] rfl⟩
set_option maxHeartbeats 400000 in
set_option maxRecDepth 100000 in
theorem c_X1_leave (l : Launch) {G : mG} {K : Nat → Nat} {I : Nat → Nat → Int32} {R : Nat → Nat → Option Nat} {F : Nat → UInt32} {A : Nat → Nat → Int32} {N : Nat → Nat} {L : Nat → List Nat} {T : Nat → List Int32} {J : Nat → Nat → Int64} {D : Nat → Nat → UInt64} {o lr : Nat} {f9 : Nat} (hko : K o = 2) (hrow : R 20 o = some lr) (hlr : K lr = 11) (hel : ∀ a, a ∈ L lr → K a = 1) : Met l yX1_leave wsX1_leave ({ frames := 3, cells := 0, slots := 0, locals := 120 } : Room) (va_Pc [.ref o, .ref f9] (m_B G K I R F A N L T J D)) (va_Qv (fun (u : (Nat → Nat → Int32) × (Nat → List Nat)) => (∀ f b, f ≠ 110 → u.1 f b = I f b) ∧ u.2 = m_up L lr ((L lr).erase f9)) (fun u : (Nat → Nat → Int32) × (Nat → List Nat) => m_B G K (u.1) R F A N (u.2) T J D) (m_A G)) 0 0 (m_A G) := by
  refine Met.ofW (cc := cX1_leave) (maxL := 3) (ret := none) (by decide) rfl ?_
  intro p e s m args below meth c s₁ B hml hv
  obtain ⟨rfl, hB⟩ := hv
  have hx := B.exec
  have hb := B.bytes
  have hr := B.returns
  have hts := atoms_spec (ws := wsX1_leave) B.pre
  have hown : s.vm.findClass RX1 = some m.cls := findClass_of_methodNamed B.named
  have hlocks := B.notSynchronized
  have hw := m_wo_in hB
  have hl := lv_entry ([.ref o, .ref f9]) (n := 3) (Nat.le_of_ble_eq_true rfl)
  rw [lg_entry_eq]
  generalize (lg_sl ([.ref o, .ref f9]) ++ List.replicate (3 - (lg_sl ([.ref o, .ref f9])).length) Slot.unset).toArray = ls at hl ⊢
  have hl : lv_has ls 3 [(0, .ref o), (1, .ref f9)] := hl
  have hlen := m_len hw hlr
  refine lv_iconst (v := 0) hx hb dX1_leave_0 (by decide) ?_
  refine lv_istore_n (lv' := [(2, .int 0), (0, .ref o), (1, .ref f9)]) hx hb dX1_leave_1 rfl hl (by decide) rfl (fun ls hl => ?_)
  refine m_loop (σ := Nat) (fun a => (L lr).length - (a)) (fun a H locs ls => ((a) ≤ (L lr).length ∧ ∀ j, j < (a) → (L lr).getD j 0 ≠ f9) ∧ m_wo G K I R F A N L T J D s H locs ∧ lv_has ls 3 [(0, .ref o), (1, .ref f9), (2, .int (nI (a)))]) ?_ (0) ⟨⟨Nat.zero_le _, fun _ h => absurd h (Nat.not_lt_zero _)⟩, hw, lv_sub hl [1, 2, 0] rfl⟩
  rintro i H locs ls ⟨hinv, hw, hl⟩ ih
  try dsimp only at hinv hw hl
  obtain ⟨hi0, hx0⟩ := hinv
  refine lv_iload_n hx hb dX1_leave_2 rfl (lv_at hl 2 rfl) ?_
  refine lv_aload_n hx hb dX1_leave_3 rfl (lv_at hl 0 rfl) ?_
  refine g_2_0 (r := some lr) hx hb hts (by decide +kernel) hown hw hko (hts (.fieldLink RX1 12 "Pirateindex$Index" "row" "Ljava/util/ArrayList;") (by decide +kernel)) hrow dX1_leave_4 ?_
  refine m_ci (va_runV (As := []) (rest := [.int (nI i)]) ⟨hx, hb, hml, hown, hts⟩ (c_Jx4a65c_size_8abf5 l hlr) (cwV 0 hts gX1_leave_Jx4a65c_size_8abf5 rfl rfl rfl (by decide +kernel) ⟨Nat.le_of_ble_eq_true rfl, Nat.le_of_ble_eq_true rfl⟩) ⟨m_blind m_B_calling, m_recv hw (m_ent_11 hlr) rfl, fun U hU hW => ⟨rfl, m_wo_call hw hU hW⟩⟩ rfl rfl hl.1 rfl (lv_room (Nat.le_of_ble_eq_true rfl)) dX1_leave_7 ⟨Nat.le_of_ble_eq_true rfl, Nat.le_of_ble_eq_true rfl⟩) hw (fun r_7 u_7 H locs hp_7 hw => ?_)
  obtain rfl : r_7 = (nI (L lr).length) := hp_7
  refine lv_icmp_ge (tgt := 41) hx hb dX1_leave_10 (by decide) (fun c_10 => ?_) (fun c_10 => ?_)
  · skip
    rw [nI_leI (by omega) (by omega)] at c_10
    have hi : i = (L lr).length := by omega
    exact W.vret hx hb hr (fun t ht hW => ⟨⟨(I, L), rfl, ⟨fun _ _ _ => rfl, er_no (L := L) (lr := lr) (f9 := f9) (fun j hj => hx0 j (by omega))⟩, m_wo_out hw ht hW.alike⟩, m_wo_F hw ht⟩) (m_wo_L hw) dX1_leave_41
  · skip
    rw [nI_leI (by omega) (by omega)] at c_10
    have hi : i < (L lr).length := by omega
    refine lv_aload_n hx hb dX1_leave_13 rfl (lv_at hl 0 rfl) ?_
    refine g_2_0 (r := some lr) hx hb hts (by decide +kernel) hown hw hko (hts (.fieldLink RX1 12 "Pirateindex$Index" "row" "Ljava/util/ArrayList;") (by decide +kernel)) hrow dX1_leave_14 ?_
    refine lv_iload_n hx hb dX1_leave_17 rfl (lv_at hl 2 rfl) ?_
    obtain ⟨ai, ha⟩ : ∃ z, (L lr)[i]? = some z := ⟨_, lg_some hi⟩
    have hka : K ai = 1 := hel ai (List.mem_of_getElem? ha)
    refine m_cq (va_runV (As := [.int (nI i)]) (rest := []) ⟨hx, hb, hml, hown, hts⟩ (c_Jx4a65c_get_915e3 l hlr hi) (cwV 1 hts gX1_leave_Jx4a65c_get_915e3 rfl rfl rfl (by decide +kernel) ⟨Nat.le_of_ble_eq_true rfl, Nat.le_of_ble_eq_true rfl⟩) ⟨m_blind m_B_calling, m_recv hw (m_ent_11 hlr) rfl, fun U hU hW => ⟨rfl, m_wo_call hw hU hW⟩⟩ rfl rfl hl.1 rfl (lv_room (Nat.le_of_ble_eq_true rfl)) dX1_leave_18 ⟨Nat.le_of_ble_eq_true rfl, Nat.le_of_ble_eq_true rfl⟩) hw (fun r_18 u_18 H locs hp_18 hw => ?_)
    obtain rfl : r_18 = some ai := hp_18.trans ha
    refine lv_aload_n hx hb dX1_leave_21 rfl (lv_at hl 1 rfl) ?_
    refine lv_acmp_ne (rx := (some ai)) (ry := (some f9)) (tgt := 35) hx hb dX1_leave_22 (by decide) (fun c_22 => ?_) (fun c_22 => ?_)
    · skip
      have hx1 : ∀ j, j < i + 1 → (L lr).getD j 0 ≠ f9 := fun j hj => by
        by_cases h : j = i
        · rw [h, lg_get ha]; exact fun z => c_22 (congrArg some z)
        · exact hx0 j (by omega)
      refine lv_iinc (v := nI (i + 1)) (lv' := [(2, .int (nI (i + 1))), (0, .ref o), (1, .ref f9)]) hx hb dX1_leave_35 hl (k := 2) rfl (nI_1 _) (by decide) rfl (fun ls hl => ?_)
      refine lv_goto (tgt := 2) hx hb dX1_leave_38 (by decide) ?_
      exact ih (i + 1) _ _ _ (by omega) ⟨⟨by omega, hx1⟩, hw, lv_sub hl [1, 2, 0] rfl⟩
    · skip
      obtain rfl : ai = f9 := Option.some.inj c_22
      refine lv_aload_n hx hb dX1_leave_25 rfl (lv_at hl 0 rfl) ?_
      refine g_2_0 (r := some lr) hx hb hts (by decide +kernel) hown hw hko (hts (.fieldLink RX1 12 "Pirateindex$Index" "row" "Ljava/util/ArrayList;") (by decide +kernel)) hrow dX1_leave_26 ?_
      refine lv_iload_n hx hb dX1_leave_29 rfl (lv_at hl 2 rfl) ?_
      refine m_cq (va_runV (As := [.int (nI i)]) (rest := []) ⟨hx, hb, hml, hown, hts⟩ (c_Jx4a65c_remove_915e3 l (i := i) hlr hi (fun y hy => Or.inl (hel y hy))) (cwV 1 hts gX1_leave_Jx4a65c_remove_915e3 rfl rfl rfl (by decide +kernel) ⟨Nat.le_of_ble_eq_true rfl, Nat.le_of_ble_eq_true rfl⟩) ⟨m_blind m_B_calling, m_recv hw (m_ent_11 hlr) rfl, fun U hU hW => ⟨rfl, m_wo_call hw hU hW⟩⟩ rfl rfl hl.1 rfl (lv_room (Nat.le_of_ble_eq_true rfl)) dX1_leave_30 ⟨Nat.le_of_ble_eq_true rfl, Nat.le_of_ble_eq_true rfl⟩) hw (fun r_30 u_30 H locs hp_30 hw => ?_)
      obtain ⟨I_1, L_2⟩ := u_30
      have hw : m_wo G K I_1 R F A N L_2 T J D s H locs := hw
      dsimp only at hp_30
      obtain ⟨hr9, hI9, hL9⟩ := hp_30
      obtain rfl : r_30 = some ai := hr9.trans ha
      refine lv_pop hx hb dX1_leave_33 rfl ?_
      exact W.vret hx hb hr (fun t ht hW => ⟨⟨(I_1, L_2), rfl, ⟨hI9, by rw [hL9, erase_at ha hx0]⟩, m_wo_out hw ht hW.alike⟩, m_wo_F hw ht⟩) (m_wo_L hw) dX1_leave_34
set_option maxHeartbeats 400000 in
set_option maxRecDepth 100000 in
theorem c_X5_numbered (l : Launch) {G : mG} {K : Nat → Nat} {I : Nat → Nat → Int32} {R : Nat → Nat → Option Nat} {F : Nat → UInt32} {A : Nat → Nat → Int32} {N : Nat → Nat} {L : Nat → List Nat} {T : Nat → List Int32} {J : Nat → Nat → Int64} {D : Nat → Nat → UInt64} {o lr : Nat} {nn : Int32} (hko : K o = 6) (hrow : R 60 o = some lr) (hlr : K lr = 11) (hel : ∀ a, a ∈ L lr → K a = 5) : Met l yX5_numbered wsX5_numbered ({ frames := 3, cells := 0, slots := 0, locals := 120 } : Room) (va_Pc [.ref o, .int nn] (m_B G K I R F A N L T J D)) (va_Qq (fun (r : Option Nat) (_ : Unit) => r = (L lr).find? (fun a => decide (I 50 a = nn))) (fun u : Unit => m_B G K I R F A N L T J D) (m_A G)) 0 0 (m_A G) := by
  refine Met.ofW (cc := cX5_numbered) (maxL := 3) (ret := (some (.object "Pirateindex$Segment"))) (by decide) rfl ?_
  intro p e s m args below meth c s₁ B hml hv
  obtain ⟨rfl, hB⟩ := hv
  have hx := B.exec
  have hb := B.bytes
  have hr := B.returns
  have hts := atoms_spec (ws := wsX5_numbered) B.pre
  have hown : s.vm.findClass RX5 = some m.cls := findClass_of_methodNamed B.named
  have hlocks := B.notSynchronized
  have hw := m_wo_in hB
  have hl := lv_entry ([.ref o, .int nn]) (n := 3) (Nat.le_of_ble_eq_true rfl)
  rw [lg_entry_eq]
  generalize (lg_sl ([.ref o, .int nn]) ++ List.replicate (3 - (lg_sl ([.ref o, .int nn])).length) Slot.unset).toArray = ls at hl ⊢
  have hl : lv_has ls 3 [(0, .ref o), (1, .int nn)] := hl
  have hlen := m_len hw hlr
  refine lv_iconst (v := 0) hx hb dX5_numbered_0 (by decide) ?_
  refine lv_istore_n (lv' := [(2, .int 0), (0, .ref o), (1, .int nn)]) hx hb dX5_numbered_1 rfl hl (by decide) rfl (fun ls hl => ?_)
  refine m_loop (σ := Nat) (fun a => (L lr).length - (a)) (fun a H locs ls => ((a) ≤ (L lr).length ∧ ∀ j, j < (a) → decide (I 50 ((L lr).getD j 0) = nn) = false) ∧ m_wo G K I R F A N L T J D s H locs ∧ lv_has ls 3 [(0, .ref o), (1, .int nn), (2, .int (nI (a)))]) ?_ (0) ⟨⟨Nat.zero_le _, fun _ h => absurd h (Nat.not_lt_zero _)⟩, hw, lv_sub hl [1, 2, 0] rfl⟩
  rintro i H locs ls ⟨hinv, hw, hl⟩ ih
  try dsimp only at hinv hw hl
  obtain ⟨hi0, hx0⟩ := hinv
  refine lv_iload_n hx hb dX5_numbered_2 rfl (lv_at hl 2 rfl) ?_
  refine lv_aload_n hx hb dX5_numbered_3 rfl (lv_at hl 0 rfl) ?_
  refine g_6_0 (r := some lr) hx hb hts (by decide +kernel) hown hw hko (hts (.fieldLink RX5 12 "Pirateindex$Shelf" "row" "Ljava/util/ArrayList;") (by decide +kernel)) hrow dX5_numbered_4 ?_
  refine m_ci (va_runV (As := []) (rest := [.int (nI i)]) ⟨hx, hb, hml, hown, hts⟩ (c_Jx4a65c_size_8abf5 l hlr) (cwV 0 hts gX5_numbered_Jx4a65c_size_8abf5 rfl rfl rfl (by decide +kernel) ⟨Nat.le_of_ble_eq_true rfl, Nat.le_of_ble_eq_true rfl⟩) ⟨m_blind m_B_calling, m_recv hw (m_ent_11 hlr) rfl, fun U hU hW => ⟨rfl, m_wo_call hw hU hW⟩⟩ rfl rfl hl.1 rfl (lv_room (Nat.le_of_ble_eq_true rfl)) dX5_numbered_7 ⟨Nat.le_of_ble_eq_true rfl, Nat.le_of_ble_eq_true rfl⟩) hw (fun r_7 u_7 H locs hp_7 hw => ?_)
  obtain rfl : r_7 = (nI (L lr).length) := hp_7
  refine lv_icmp_ge (tgt := 49) hx hb dX5_numbered_10 (by decide) (fun c_10 => ?_) (fun c_10 => ?_)
  · skip
    rw [nI_leI (by omega) (by omega)] at c_10
    have hi : i = (L lr).length := by omega
    refine lv_null hx hb dX5_numbered_49 ?_
    exact W.aret (v := .null) hx hb hr (Or.inl ⟨_, rfl⟩) (Or.inl rfl) (fun t ht hW => ⟨⟨none, (), rfl, (find_no _ (fun j hj => hx0 j (by omega))).symm, m_wo_out hw ht hW.alike⟩, m_wo_F hw ht⟩) (m_wo_L hw) dX5_numbered_50
  · skip
    rw [nI_leI (by omega) (by omega)] at c_10
    have hi : i < (L lr).length := by omega
    refine lv_aload_n hx hb dX5_numbered_13 rfl (lv_at hl 0 rfl) ?_
    refine g_6_0 (r := some lr) hx hb hts (by decide +kernel) hown hw hko (hts (.fieldLink RX5 12 "Pirateindex$Shelf" "row" "Ljava/util/ArrayList;") (by decide +kernel)) hrow dX5_numbered_14 ?_
    refine lv_iload_n hx hb dX5_numbered_17 rfl (lv_at hl 2 rfl) ?_
    obtain ⟨ai, ha⟩ : ∃ z, (L lr)[i]? = some z := ⟨_, lg_some hi⟩
    have hka : K ai = 5 := hel ai (List.mem_of_getElem? ha)
    refine m_cq (va_runV (As := [.int (nI i)]) (rest := []) ⟨hx, hb, hml, hown, hts⟩ (c_Jx4a65c_get_915e3 l hlr hi) (cwV 1 hts gX5_numbered_Jx4a65c_get_915e3 rfl rfl rfl (by decide +kernel) ⟨Nat.le_of_ble_eq_true rfl, Nat.le_of_ble_eq_true rfl⟩) ⟨m_blind m_B_calling, m_recv hw (m_ent_11 hlr) rfl, fun U hU hW => ⟨rfl, m_wo_call hw hU hW⟩⟩ rfl rfl hl.1 rfl (lv_room (Nat.le_of_ble_eq_true rfl)) dX5_numbered_18 ⟨Nat.le_of_ble_eq_true rfl, Nat.le_of_ble_eq_true rfl⟩) hw (fun r_18 u_18 H locs hp_18 hw => ?_)
    obtain rfl : r_18 = some ai := hp_18.trans ha
    refine va_castS hx hb hown (hts (.classLink RX5 18 "Pirateindex$Segment") (by decide +kernel)) (hw.1.1 9 _ rfl).2 (m_recv hw (m_ent_5 hka) rfl) dX5_numbered_21 ?_
    refine g_5_0 hx hb hts (by decide +kernel) hown hw hka (hts (.fieldLink RX5 43 "Pirateindex$Segment" "number" "I") (by decide +kernel)) dX5_numbered_24 ?_
    refine lv_iload_n hx hb dX5_numbered_27 rfl (lv_at hl 1 rfl) ?_
    refine lv_icmp_ne (tgt := 43) hx hb dX5_numbered_28 (by decide) (fun c_28 => ?_) (fun c_28 => ?_)
    · skip
      have hx1 : ∀ j, j < i + 1 → decide (I 50 ((L lr).getD j 0) = nn) = false := fun j hj => by
        by_cases h : j = i
        · rw [h, lg_get ha]; exact decide_eq_false c_28
        · exact hx0 j (by omega)
      refine lv_iinc (v := nI (i + 1)) (lv' := [(2, .int (nI (i + 1))), (0, .ref o), (1, .int nn)]) hx hb dX5_numbered_43 hl (k := 2) rfl (nI_1 _) (by decide) rfl (fun ls hl => ?_)
      refine lv_goto (tgt := 2) hx hb dX5_numbered_46 (by decide) ?_
      exact ih (i + 1) _ _ _ (by omega) ⟨⟨by omega, hx1⟩, hw, lv_sub hl [1, 2, 0] rfl⟩
    · skip
      refine lv_aload_n hx hb dX5_numbered_31 rfl (lv_at hl 0 rfl) ?_
      refine g_6_0 (r := some lr) hx hb hts (by decide +kernel) hown hw hko (hts (.fieldLink RX5 12 "Pirateindex$Shelf" "row" "Ljava/util/ArrayList;") (by decide +kernel)) hrow dX5_numbered_32 ?_
      refine lv_iload_n hx hb dX5_numbered_35 rfl (lv_at hl 2 rfl) ?_
      obtain ⟨bi, hb9⟩ : ∃ z, (L lr)[i]? = some z := ⟨_, lg_some hi⟩
      have hkb : K bi = 5 := hel bi (List.mem_of_getElem? hb9)
      refine m_cq (va_runV (As := [.int (nI i)]) (rest := []) ⟨hx, hb, hml, hown, hts⟩ (c_Jx4a65c_get_915e3 l hlr hi) (cwV 1 hts gX5_numbered_Jx4a65c_get_915e3 rfl rfl rfl (by decide +kernel) ⟨Nat.le_of_ble_eq_true rfl, Nat.le_of_ble_eq_true rfl⟩) ⟨m_blind m_B_calling, m_recv hw (m_ent_11 hlr) rfl, fun U hU hW => ⟨rfl, m_wo_call hw hU hW⟩⟩ rfl rfl hl.1 rfl (lv_room (Nat.le_of_ble_eq_true rfl)) dX5_numbered_36 ⟨Nat.le_of_ble_eq_true rfl, Nat.le_of_ble_eq_true rfl⟩) hw (fun r_36 u_36 H locs hp_36 hw => ?_)
      obtain rfl : r_36 = some bi := hp_36.trans hb9
      refine va_castS hx hb hown (hts (.classLink RX5 18 "Pirateindex$Segment") (by decide +kernel)) (hw.1.1 9 _ rfl).2 (m_recv hw (m_ent_5 hkb) rfl) dX5_numbered_39 ?_
      exact W.aret (v := .ref bi) hx hb hr (Or.inl ⟨_, rfl⟩) (Or.inr ⟨_, rfl⟩) (fun t ht hW => ⟨⟨(some bi), (), rfl, (find_at _ hb9 (by obtain rfl : ai = bi := Option.some.inj (ha.symm.trans hb9); exact decide_eq_true c_28) hx0).symm, m_wo_out hw ht hW.alike⟩, m_wo_F hw ht⟩) (m_wo_L hw) dX5_numbered_42
set_option maxHeartbeats 400000 in
set_option maxRecDepth 100000 in
theorem c_X5_takeOff (l : Launch) {G : mG} {K : Nat → Nat} {I : Nat → Nat → Int32} {R : Nat → Nat → Option Nat} {F : Nat → UInt32} {A : Nat → Nat → Int32} {N : Nat → Nat} {L : Nat → List Nat} {T : Nat → List Int32} {J : Nat → Nat → Int64} {D : Nat → Nat → UInt64} {o lr : Nat} {sg : Nat} (hko : K o = 6) (hrow : R 60 o = some lr) (hlr : K lr = 11) (hel : ∀ a, a ∈ L lr → K a = 5) (hsg : sg ∈ L lr) : Met l yX5_takeOff wsX5_takeOff ({ frames := 3, cells := 0, slots := 0, locals := 120 } : Room) (va_Pc [.ref o, .ref sg] (m_B G K I R F A N L T J D)) (va_Qv (fun (u : (Nat → Nat → Int32) × (Nat → List Nat)) => (∀ f b, f ≠ 110 → u.1 f b = I f b) ∧ u.2 = m_up L lr ((L lr).erase sg)) (fun u : (Nat → Nat → Int32) × (Nat → List Nat) => m_B G K (u.1) R F A N (u.2) T J D) (m_A G)) 0 0 (m_A G) := by
  refine Met.ofW (cc := cX5_takeOff) (maxL := 3) (ret := none) (by decide) rfl ?_
  intro p e s m args below meth c s₁ B hml hv
  obtain ⟨rfl, hB⟩ := hv
  have hx := B.exec
  have hb := B.bytes
  have hr := B.returns
  have hts := atoms_spec (ws := wsX5_takeOff) B.pre
  have hown : s.vm.findClass RX5 = some m.cls := findClass_of_methodNamed B.named
  have hlocks := B.notSynchronized
  have hw := m_wo_in hB
  have hl := lv_entry ([.ref o, .ref sg]) (n := 3) (Nat.le_of_ble_eq_true rfl)
  rw [lg_entry_eq]
  generalize (lg_sl ([.ref o, .ref sg]) ++ List.replicate (3 - (lg_sl ([.ref o, .ref sg])).length) Slot.unset).toArray = ls at hl ⊢
  have hl : lv_has ls 3 [(0, .ref o), (1, .ref sg)] := hl
  have hlen := m_len hw hlr
  refine lv_iconst (v := 0) hx hb dX5_takeOff_0 (by decide) ?_
  refine lv_istore_n (lv' := [(2, .int 0), (0, .ref o), (1, .ref sg)]) hx hb dX5_takeOff_1 rfl hl (by decide) rfl (fun ls hl => ?_)
  refine m_loop (σ := Nat) (fun a => (L lr).length - (a)) (fun a H locs ls => ((a) ≤ (L lr).length ∧ ∀ j, j < (a) → (L lr).getD j 0 ≠ sg) ∧ m_wo G K I R F A N L T J D s H locs ∧ lv_has ls 3 [(0, .ref o), (1, .ref sg), (2, .int (nI (a)))]) ?_ (0) ⟨⟨Nat.zero_le _, fun _ h => absurd h (Nat.not_lt_zero _)⟩, hw, lv_sub hl [1, 2, 0] rfl⟩
  rintro i H locs ls ⟨hinv, hw, hl⟩ ih
  try dsimp only at hinv hw hl
  obtain ⟨hi0, hx0⟩ := hinv
  refine lv_iload_n hx hb dX5_takeOff_2 rfl (lv_at hl 2 rfl) ?_
  refine lv_aload_n hx hb dX5_takeOff_3 rfl (lv_at hl 0 rfl) ?_
  refine g_6_0 (r := some lr) hx hb hts (by decide +kernel) hown hw hko (hts (.fieldLink RX5 12 "Pirateindex$Shelf" "row" "Ljava/util/ArrayList;") (by decide +kernel)) hrow dX5_takeOff_4 ?_
  refine m_ci (va_runV (As := []) (rest := [.int (nI i)]) ⟨hx, hb, hml, hown, hts⟩ (c_Jx4a65c_size_8abf5 l hlr) (cwV 0 hts gX5_takeOff_Jx4a65c_size_8abf5 rfl rfl rfl (by decide +kernel) ⟨Nat.le_of_ble_eq_true rfl, Nat.le_of_ble_eq_true rfl⟩) ⟨m_blind m_B_calling, m_recv hw (m_ent_11 hlr) rfl, fun U hU hW => ⟨rfl, m_wo_call hw hU hW⟩⟩ rfl rfl hl.1 rfl (lv_room (Nat.le_of_ble_eq_true rfl)) dX5_takeOff_7 ⟨Nat.le_of_ble_eq_true rfl, Nat.le_of_ble_eq_true rfl⟩) hw (fun r_7 u_7 H locs hp_7 hw => ?_)
  obtain rfl : r_7 = (nI (L lr).length) := hp_7
  refine lv_icmp_ge (tgt := 41) hx hb dX5_takeOff_10 (by decide) (fun c_10 => ?_) (fun c_10 => ?_)
  · skip
    rw [nI_leI (by omega) (by omega)] at c_10
    have hi : i = (L lr).length := by omega
    obtain ⟨j9, hj9, hj8⟩ := List.getElem_of_mem hsg
    exact absurd (lg_get (List.getElem?_eq_some_iff.mpr ⟨hj9, hj8⟩)) (hx0 j9 (by omega))
  · skip
    rw [nI_leI (by omega) (by omega)] at c_10
    have hi : i < (L lr).length := by omega
    refine lv_aload_n hx hb dX5_takeOff_13 rfl (lv_at hl 0 rfl) ?_
    refine g_6_0 (r := some lr) hx hb hts (by decide +kernel) hown hw hko (hts (.fieldLink RX5 12 "Pirateindex$Shelf" "row" "Ljava/util/ArrayList;") (by decide +kernel)) hrow dX5_takeOff_14 ?_
    refine lv_iload_n hx hb dX5_takeOff_17 rfl (lv_at hl 2 rfl) ?_
    obtain ⟨ai, ha⟩ : ∃ z, (L lr)[i]? = some z := ⟨_, lg_some hi⟩
    have hka : K ai = 5 := hel ai (List.mem_of_getElem? ha)
    refine m_cq (va_runV (As := [.int (nI i)]) (rest := []) ⟨hx, hb, hml, hown, hts⟩ (c_Jx4a65c_get_915e3 l hlr hi) (cwV 1 hts gX5_takeOff_Jx4a65c_get_915e3 rfl rfl rfl (by decide +kernel) ⟨Nat.le_of_ble_eq_true rfl, Nat.le_of_ble_eq_true rfl⟩) ⟨m_blind m_B_calling, m_recv hw (m_ent_11 hlr) rfl, fun U hU hW => ⟨rfl, m_wo_call hw hU hW⟩⟩ rfl rfl hl.1 rfl (lv_room (Nat.le_of_ble_eq_true rfl)) dX5_takeOff_18 ⟨Nat.le_of_ble_eq_true rfl, Nat.le_of_ble_eq_true rfl⟩) hw (fun r_18 u_18 H locs hp_18 hw => ?_)
    obtain rfl : r_18 = some ai := hp_18.trans ha
    refine lv_aload_n hx hb dX5_takeOff_21 rfl (lv_at hl 1 rfl) ?_
    refine lv_acmp_ne (rx := (some ai)) (ry := (some sg)) (tgt := 35) hx hb dX5_takeOff_22 (by decide) (fun c_22 => ?_) (fun c_22 => ?_)
    · skip
      have hx1 : ∀ j, j < i + 1 → (L lr).getD j 0 ≠ sg := fun j hj => by
        by_cases h : j = i
        · rw [h, lg_get ha]; exact fun z => c_22 (congrArg some z)
        · exact hx0 j (by omega)
      refine lv_iinc (v := nI (i + 1)) (lv' := [(2, .int (nI (i + 1))), (0, .ref o), (1, .ref sg)]) hx hb dX5_takeOff_35 hl (k := 2) rfl (nI_1 _) (by decide) rfl (fun ls hl => ?_)
      refine lv_goto (tgt := 2) hx hb dX5_takeOff_38 (by decide) ?_
      exact ih (i + 1) _ _ _ (by omega) ⟨⟨by omega, hx1⟩, hw, lv_sub hl [1, 2, 0] rfl⟩
    · skip
      obtain rfl : ai = sg := Option.some.inj c_22
      refine lv_aload_n hx hb dX5_takeOff_25 rfl (lv_at hl 0 rfl) ?_
      refine g_6_0 (r := some lr) hx hb hts (by decide +kernel) hown hw hko (hts (.fieldLink RX5 12 "Pirateindex$Shelf" "row" "Ljava/util/ArrayList;") (by decide +kernel)) hrow dX5_takeOff_26 ?_
      refine lv_iload_n hx hb dX5_takeOff_29 rfl (lv_at hl 2 rfl) ?_
      refine m_cq (va_runV (As := [.int (nI i)]) (rest := []) ⟨hx, hb, hml, hown, hts⟩ (c_Jx4a65c_remove_915e3 l (i := i) hlr hi (fun y hy => Or.inr (Or.inr (Or.inl (hel y hy))))) (cwV 1 hts gX5_takeOff_Jx4a65c_remove_915e3 rfl rfl rfl (by decide +kernel) ⟨Nat.le_of_ble_eq_true rfl, Nat.le_of_ble_eq_true rfl⟩) ⟨m_blind m_B_calling, m_recv hw (m_ent_11 hlr) rfl, fun U hU hW => ⟨rfl, m_wo_call hw hU hW⟩⟩ rfl rfl hl.1 rfl (lv_room (Nat.le_of_ble_eq_true rfl)) dX5_takeOff_30 ⟨Nat.le_of_ble_eq_true rfl, Nat.le_of_ble_eq_true rfl⟩) hw (fun r_30 u_30 H locs hp_30 hw => ?_)
      obtain ⟨I_1, L_2⟩ := u_30
      have hw : m_wo G K I_1 R F A N L_2 T J D s H locs := hw
      dsimp only at hp_30
      obtain ⟨hr9, hI9, hL9⟩ := hp_30
      obtain rfl : r_30 = some ai := hr9.trans ha
      refine lv_pop hx hb dX5_takeOff_33 rfl ?_
      exact W.vret hx hb hr (fun t ht hW => ⟨⟨(I_1, L_2), rfl, ⟨hI9, by rw [hL9, erase_at ha hx0]⟩, m_wo_out hw ht hW.alike⟩, m_wo_F hw ht⟩) (m_wo_L hw) dX5_takeOff_34
