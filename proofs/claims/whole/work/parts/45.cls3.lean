def c_at (I : Nat → Nat → Int32) (R : Nat → Nat → Option Nat) (w9 isl : Int32) (p : Nat) (a : Nat) : Bool := c_pw I R w9 a && (decide (I 12 a = isl) && decide (I 13 a = nI p))
def c_cnt (I : Nat → Nat → Int32) (R : Nat → Nat → Option Nat) (A : Nat → Nat → Int32) (l9 : List Nat) (w9 : Nat) (isl : Int32) (k p : Nat) : Nat := l9.countP (c_at I R (A w9 k) isl p)
theorem c_fi (k d : Nat) (hk : k ≤ 41) (hd : d ≤ 9) : (if nI k - 1 - nI d < 0 then 0 else nI k - 1 - nI d) = nI (k - (d + 1)) := by
  have e : nI k - 1 - nI d = nI k - nI (d + 1) := by
    rw [← nI_1, Int32.sub_eq_add_neg, Int32.sub_eq_add_neg, Int32.sub_eq_add_neg, Int32.neg_add, Int32.add_assoc, Int32.add_comm (-1) (-nI d)]
    rw [Int32.sub_eq_add_neg]
  rw [e]
  by_cases h : k < d + 1
  · rw [if_pos (pk_sneg (by omega) h), show k - (d + 1) = 0 by omega]
    rfl
  · rw [pk_sub (by omega), if_neg (nI_pos (by omega))]
theorem c_win (f : Nat → Nat) (k d : Nat) (f' : Nat → Nat) (h : ∀ q, q < k → f' q = f q) : sumN (fun j => f' (k - (d + 1) + j)) (k - (k - (d + 1))) = o_win f k d := by
  unfold o_win
  have e1 : sumN (fun j => f' (k - (d + 1) + j)) (k - (k - (d + 1))) = sumN (fun j => f (k - (d + 1) + j)) (k - (k - (d + 1))) := sumN_congr (fun j hj => h _ (by omega))
  rw [e1, sumN_rev, show k - (k - (d + 1)) = min (d + 1) k by omega]
  exact sumN_congr (fun j hj => by
    rw [show k - (d + 1) + (min (d + 1) k - (j + 1)) = k - (j + 1) by omega])
theorem c_sum41 (a : Nat → Nat → Nat) (g : Nat → Nat) (n : Nat) : sumN (fun j => (fun p => if n = 0 then 0 else o_ways a g (n - 1) p) (0 + j)) (41 - 0) = if n = 0 then 0 else o_hits a g n := by
  by_cases h : n = 0
  · rw [if_pos h]
    have : ∀ m, sumN (fun j => (fun p => if n = 0 then 0 else o_ways a g (n - 1) p) (0 + j)) m = 0 := by
      intro m
      induction m with
      | zero => rfl
      | succ m ih => show _ + _ = 0; rw [ih]; simp [h]
    exact this _
  · rw [if_neg h]
    unfold o_hits
    exact sumN_congr (fun j _ => by show (if n = 0 then 0 else o_ways a g (n - 1) (0 + j)) = _; rw [if_neg h, Nat.zero_add])
set_option maxHeartbeats 400000 in
set_option maxRecDepth 100000 in
theorem c_X7_lookFor (l : Launch) {G : mG} {K : Nat → Nat} {I : Nat → Nat → Int32} {R : Nat → Nat → Option Nat} {F : Nat → UInt32} {A : Nat → Nat → Int32} {N : Nat → Nat} {L : Nat → List Nat} {T : Nat → List Int32} {J : Nat → Nat → Int64} {D : Nat → Nat → UInt64} {o lf h9 : Nat} {w9 isl : Int32} (hko : K o = 8) (hrh : R 80 o = some h9) (hkh : K h9 = 23) (hNh : N h9 = 41) (hlf : K lf = 11) (hel : ∀ a, a ∈ L lf → K a = 1) (hpl : ∀ a, a ∈ L lf → ∃ p, p < 41 ∧ I 13 a = nI p) (hps : c_pst I R (L lf)) : Met l yX7_lookFor wsX7_lookFor ({ frames := 3, cells := 0, slots := 0, locals := 100 } : Room) (va_Pc [.ref o, .ref lf, .int w9, .int isl] (m_B G K I R F A N L T J D)) (va_Qv (fun (u : Nat → Nat → Int32) => (∀ b, b ≠ h9 → u b = A b) ∧ ∀ p, p < 41 → u h9 p = nI ((L lf).countP (c_at I R w9 isl p))) (fun u : Nat → Nat → Int32 => m_B G K I R F u N L T J D) (m_A G)) 0 0 (m_A G) := by
  refine Met.ofW (cc := cX7_lookFor) (maxL := 7) (ret := none) (by decide) rfl ?_
  intro p e s m args below meth c s₁ B hml hv
  obtain ⟨rfl, hB⟩ := hv
  have hx := B.exec
  have hb := B.bytes
  have hr := B.returns
  have hts := atoms_spec (ws := wsX7_lookFor) B.pre
  have hown : s.vm.findClass RX7 = some m.cls := findClass_of_methodNamed B.named
  have hlocks := B.notSynchronized
  have hw := m_wo_in hB
  have hl := lv_entry ([.ref o, .ref lf, .int w9, .int isl]) (n := 7) (Nat.le_of_ble_eq_true rfl)
  rw [lg_entry_eq]
  generalize (lg_sl ([.ref o, .ref lf, .int w9, .int isl]) ++ List.replicate (7 - (lg_sl ([.ref o, .ref lf, .int w9, .int isl])).length) Slot.unset).toArray = ls at hl ⊢
  have hl : lv_has ls 7 [(0, .ref o), (1, .ref lf), (2, .int w9), (3, .int isl)] := hl
  have hlen := m_len hw hlf
  refine lv_aload_n hx hb dX7_lookFor_0 rfl (lv_at hl 0 rfl) ?_
  refine g_8_0 (r := some h9) hx hb hts (by decide +kernel) hown hw hko (hts (.fieldLink RX7 9 "Pirateindex$Tally" "here" "[I") (by decide +kernel)) hrh dX7_lookFor_1 ?_
  refine lv_iconst (v := 0) hx hb dX7_lookFor_4 (by decide) ?_
  refine m_cv (va_runS (As := [.ref h9, .int 0]) (rest := []) ⟨hx, hb, hml, hown, hts⟩ (c_J7_fill_53178_23 l hkh (by rw [hNh]; decide)) (va_cwS 2 hts gX7_lookFor_J7_fill_53178 rfl rfl rfl (by decide +kernel) ⟨Nat.le_of_ble_eq_true rfl, Nat.le_of_ble_eq_true rfl⟩) ⟨m_blind m_B_calling, fun U hU hW => ⟨rfl, m_wo_call hw hU hW⟩⟩ rfl rfl hl.1 rfl (lv_room (Nat.le_of_ble_eq_true rfl)) dX7_lookFor_5 ⟨Nat.le_of_ble_eq_true rfl, Nat.le_of_ble_eq_true rfl⟩) hw (fun u_5 H locs hp_5 hw => ?_)
  have hw : m_wo G K I R F u_5 N L T J D s H locs := hw
  have eA0 : u_5 = m_up A h9 (fun j => if j < N h9 then 0 else A h9 j) := hp_5
  refine lv_iconst (v := 0) hx hb dX7_lookFor_8 (by decide) ?_
  refine lv_istore (lv' := [(4, .int 0), (0, .ref o), (1, .ref lf), (2, .int w9), (3, .int isl)]) hx hb dX7_lookFor_9 hl (by decide) rfl (fun ls hl => ?_)
  refine m_loop (σ := Nat × (Nat → Nat → Int32)) (fun a => (L lf).length - (a.1)) (fun a H locs ls => ((a.1) ≤ (L lf).length ∧ (∀ b, b ≠ h9 → (a.2) b = A b) ∧ ∀ p, p < 41 → (a.2) h9 p = nI (cntB (fun j => c_at I R w9 isl p ((L lf).getD j 0)) (a.1))) ∧ m_wo G K I R F (a.2) N L T J D s H locs ∧ lv_has ls 7 [(0, .ref o), (1, .ref lf), (2, .int w9), (3, .int isl), (4, .int (nI (a.1)))]) ?_ (0, u_5) ⟨⟨Nat.zero_le _, fun b hb => by rw [eA0]; exact m_up_ne _ _ hb, fun p hp => by show u_5 h9 p = nI 0; rw [eA0, m_up_self, hNh]; exact if_pos hp⟩, hw, lv_sub hl [1, 2, 3, 4, 0] rfl⟩
  rintro ⟨i, Aa⟩ H locs ls ⟨hinv, hw, hl⟩ ih
  dsimp only at hinv hw hl
  obtain ⟨hi0, hA0, hA1⟩ := hinv
  refine lv_iload hx hb dX7_lookFor_11 (lv_at hl 4 rfl) ?_
  refine lv_aload_n hx hb dX7_lookFor_13 rfl (lv_at hl 1 rfl) ?_
  refine m_ci (va_runV (As := []) (rest := [.int (nI i)]) ⟨hx, hb, hml, hown, hts⟩ (c_Jx4a65c_size_8abf5 l hlf) (cwV 0 hts gX7_lookFor_Jx4a65c_size_8abf5 rfl rfl rfl (by decide +kernel) ⟨Nat.le_of_ble_eq_true rfl, Nat.le_of_ble_eq_true rfl⟩) ⟨m_blind m_B_calling, m_recv hw (m_ent_11 hlf) rfl, fun U hU hW => ⟨rfl, m_wo_call hw hU hW⟩⟩ rfl rfl hl.1 rfl (lv_room (Nat.le_of_ble_eq_true rfl)) dX7_lookFor_14 ⟨Nat.le_of_ble_eq_true rfl, Nat.le_of_ble_eq_true rfl⟩) hw (fun r_14 u_14 H locs hp_14 hw => ?_)
  obtain rfl : r_14 = (nI (L lf).length) := hp_14
  refine lv_icmp_ge (tgt := 102) hx hb dX7_lookFor_17 (by decide) (fun c_17 => ?_) (fun c_17 => ?_)
  · skip
    rw [nI_leI (by omega) (by omega)] at c_17
    have hi : i = (L lf).length := by omega
    exact W.vret hx hb hr (fun t ht hW => ⟨⟨Aa, rfl, ⟨hA0, fun p hp => by rw [hA1 p hp, hi]; exact congrArg nI (cnt_list (c_at I R w9 isl p) (L lf))⟩, m_wo_out hw ht hW.alike⟩, m_wo_F hw ht⟩) (m_wo_L hw) dX7_lookFor_102
  · skip
    rw [nI_leI (by omega) (by omega)] at c_17
    have hi : i < (L lf).length := by omega
    refine lv_aload_n hx hb dX7_lookFor_20 rfl (lv_at hl 1 rfl) ?_
    refine lv_iload hx hb dX7_lookFor_21 (lv_at hl 4 rfl) ?_
    obtain ⟨ai, ha⟩ : ∃ z, (L lf)[i]? = some z := ⟨_, lg_some hi⟩
    have hka : K ai = 1 := hel ai (List.mem_of_getElem? ha)
    refine m_cq (va_runV (As := [.int (nI i)]) (rest := []) ⟨hx, hb, hml, hown, hts⟩ (c_Jx4a65c_get_915e3 l hlf hi) (cwV 1 hts gX7_lookFor_Jx4a65c_get_915e3 rfl rfl rfl (by decide +kernel) ⟨Nat.le_of_ble_eq_true rfl, Nat.le_of_ble_eq_true rfl⟩) ⟨m_blind m_B_calling, m_recv hw (m_ent_11 hlf) rfl, fun U hU hW => ⟨rfl, m_wo_call hw hU hW⟩⟩ rfl rfl hl.1 rfl (lv_room (Nat.le_of_ble_eq_true rfl)) dX7_lookFor_23 ⟨Nat.le_of_ble_eq_true rfl, Nat.le_of_ble_eq_true rfl⟩) hw (fun r_23 u_23 H locs hp_23 hw => ?_)
    obtain rfl : r_23 = some ai := hp_23.trans ha
    refine va_castS hx hb hown (hts (.classLink RX7 62 "Pirateindex$Find") (by decide +kernel)) (hw.1.1 5 _ rfl).2 (m_recv hw (m_ent_1 hka) rfl) dX7_lookFor_26 ?_
    refine lv_astore (lv' := [(5, .ref ai), (0, .ref o), (1, .ref lf), (2, .int w9), (3, .int isl), (4, .int (nI i))]) hx hb dX7_lookFor_29 hl (by decide) rfl (fun ls hl => ?_)
    refine lv_aload hx hb dX7_lookFor_31 (lv_at hl 0 rfl) ?_
    refine g_1_1 hx hb hts (by decide +kernel) hown hw hka (hts (.fieldLink RX7 64 "Pirateindex$Find" "word" "I") (by decide +kernel)) dX7_lookFor_33 ?_
    refine lv_iload_n hx hb dX7_lookFor_36 rfl (lv_at hl 3 rfl) ?_
    refine lv_icmp_ne (tgt := 53) hx hb dX7_lookFor_37 (by decide) (fun c_37 => ?_) (fun c_37 => ?_)
    · skip
      have hq : c_pw I R w9 ai = false := c_pw_n c_37
      have hB0 := hA0
      have hB1 : ∀ p, p < 41 → Aa h9 p = nI (cntB (fun j => c_at I R w9 isl p ((L lf).getD j 0)) (i + 1)) := fun p hp => by rw [cnt_F (c_at I R w9 isl p) ha (by unfold c_at; rw [hq]; rfl)]; exact hA1 p hp
      refine lv_iconst (v := 0) hx hb dX7_lookFor_53 (by decide) ?_
      refine lv_istore (lv' := [(6, .int 0), (5, .ref ai), (0, .ref o), (1, .ref lf), (2, .int w9), (3, .int isl), (4, .int (nI i))]) hx hb dX7_lookFor_54 hl (by decide) rfl (fun ls hl => ?_)
      refine lv_iload hx hb dX7_lookFor_56 (lv_at hl 0 rfl) ?_
      refine lv_if_eq (tgt := 96) hx hb dX7_lookFor_58 (by decide) (fun c_58 => ?_) (fun c_58 => absurd (by decide) c_58)
      refine lv_iinc (v := nI (i + 1)) (lv' := [(4, .int (nI (i + 1))), (6, .int 0), (5, .ref ai), (0, .ref o), (1, .ref lf), (2, .int w9), (3, .int isl)]) hx hb dX7_lookFor_96 hl (k := 6) rfl (nI_1 _) (by decide) rfl (fun ls hl => ?_)
      refine lv_goto (tgt := 11) hx hb dX7_lookFor_99 (by decide) ?_
      exact ih (i + 1, Aa) _ _ _ (by dsimp only; omega) ⟨⟨by omega, hB0, hB1⟩, hw, lv_sub hl [3, 4, 5, 6, 0] rfl⟩
    · skip
      have hq : c_pw I R w9 ai = true := c_pw_t c_37 (hps ai (List.mem_of_getElem? ha))
      refine lv_aload hx hb dX7_lookFor_40 (lv_at hl 0 rfl) ?_
      refine g_1_2 hx hb hts (by decide +kernel) hown hw hka (hts (.fieldLink RX7 67 "Pirateindex$Find" "island" "I") (by decide +kernel)) dX7_lookFor_42 ?_
      refine lv_iload_n hx hb dX7_lookFor_45 rfl (lv_at hl 4 rfl) ?_
      refine lv_icmp_ne (tgt := 53) hx hb dX7_lookFor_46 (by decide) (fun c_46 => ?_) (fun c_46 => ?_)
      · skip
        have hB0 := hA0
        have hB1 : ∀ p, p < 41 → Aa h9 p = nI (cntB (fun j => c_at I R w9 isl p ((L lf).getD j 0)) (i + 1)) := fun p hp => by rw [cnt_F (c_at I R w9 isl p) ha (by unfold c_at; rw [decide_eq_false c_46, Bool.false_and, Bool.and_false])]; exact hA1 p hp
        refine lv_iconst (v := 0) hx hb dX7_lookFor_53 (by decide) ?_
        refine lv_istore (lv' := [(6, .int 0), (5, .ref ai), (0, .ref o), (1, .ref lf), (2, .int w9), (3, .int isl), (4, .int (nI i))]) hx hb dX7_lookFor_54 hl (by decide) rfl (fun ls hl => ?_)
        refine lv_iload hx hb dX7_lookFor_56 (lv_at hl 0 rfl) ?_
        refine lv_if_eq (tgt := 96) hx hb dX7_lookFor_58 (by decide) (fun c_58 => ?_) (fun c_58 => absurd (by decide) c_58)
        refine lv_iinc (v := nI (i + 1)) (lv' := [(4, .int (nI (i + 1))), (6, .int 0), (5, .ref ai), (0, .ref o), (1, .ref lf), (2, .int w9), (3, .int isl)]) hx hb dX7_lookFor_96 hl (k := 6) rfl (nI_1 _) (by decide) rfl (fun ls hl => ?_)
        refine lv_goto (tgt := 11) hx hb dX7_lookFor_99 (by decide) ?_
        exact ih (i + 1, Aa) _ _ _ (by dsimp only; omega) ⟨⟨by omega, hB0, hB1⟩, hw, lv_sub hl [3, 4, 5, 6, 0] rfl⟩
      · skip
        obtain ⟨p9, hp41, hpe⟩ := hpl ai (List.mem_of_getElem? ha)
        refine lv_iconst (v := 1) hx hb dX7_lookFor_49 (by decide) ?_
        refine lv_goto (tgt := 54) hx hb dX7_lookFor_50 (by decide) ?_
        refine lv_istore (lv' := [(6, .int 1), (5, .ref ai), (0, .ref o), (1, .ref lf), (2, .int w9), (3, .int isl), (4, .int (nI i))]) hx hb dX7_lookFor_54 hl (by decide) rfl (fun ls hl => ?_)
        refine lv_iload hx hb dX7_lookFor_56 (lv_at hl 0 rfl) ?_
        refine lv_if_eq (tgt := 96) hx hb dX7_lookFor_58 (by decide) (fun c_58 => absurd c_58 (by decide)) (fun c_58 => ?_)
        refine lv_aload hx hb dX7_lookFor_61 (lv_at hl 1 rfl) ?_
        refine g_1_3 hx hb hts (by decide +kernel) hown hw hka (hts (.fieldLink RX7 70 "Pirateindex$Find" "place" "I") (by decide +kernel)) dX7_lookFor_63 ?_
        rw [hpe]
        refine lv_if_lt (tgt := 96) hx hb dX7_lookFor_66 (by decide) (fun c_66 => absurd c_66 (nI_pos (by omega))) (fun c_66 => ?_)
        refine lv_aload hx hb dX7_lookFor_69 (lv_at hl 1 rfl) ?_
        refine g_1_3 hx hb hts (by decide +kernel) hown hw hka (hts (.fieldLink RX7 70 "Pirateindex$Find" "place" "I") (by decide +kernel)) dX7_lookFor_71 ?_
        rw [hpe]
        refine lv_aload_n hx hb dX7_lookFor_74 rfl (lv_at hl 2 rfl) ?_
        refine g_8_0 (r := some h9) hx hb hts (by decide +kernel) hown hw hko (hts (.fieldLink RX7 9 "Pirateindex$Tally" "here" "[I") (by decide +kernel)) hrh dX7_lookFor_75 ?_
        refine m_alen_23 hx hb hw hkh dX7_lookFor_78 ?_
        refine lv_icmp_ge (tgt := 96) hx hb dX7_lookFor_79 (by decide) (fun c_79 => absurd c_79 (by rw [hNh]; exact nI_ge hp41 (by decide))) (fun c_79 => ?_)
        refine lv_aload_n hx hb dX7_lookFor_82 rfl (lv_at hl 2 rfl) ?_
        refine g_8_0 (r := some h9) hx hb hts (by decide +kernel) hown hw hko (hts (.fieldLink RX7 9 "Pirateindex$Tally" "here" "[I") (by decide +kernel)) hrh dX7_lookFor_83 ?_
        refine lv_aload hx hb dX7_lookFor_86 (lv_at hl 1 rfl) ?_
        refine g_1_3 hx hb hts (by decide +kernel) hown hw hka (hts (.fieldLink RX7 70 "Pirateindex$Find" "place" "I") (by decide +kernel)) dX7_lookFor_88 ?_
        rw [hpe]
        refine lv_dup2_11 hx hb dX7_lookFor_91 rfl rfl ?_
        refine m_iaload_23 hx hb hw hkh (by rw [hNh]; exact vp_in_nI hp41 (by decide)) dX7_lookFor_92 ?_
        refine lv_iconst (v := 1) hx hb dX7_lookFor_93 (by decide) ?_
        refine lv_iadd hx hb dX7_lookFor_94 ?_
        refine m_iastore_23 hx hb hw hkh (by rw [hNh]; exact vp_in_nI hp41 (by decide))  dX7_lookFor_95 (fun H locs hw => ?_)
        have hB0 : ∀ b, b ≠ h9 → (m_up Aa h9 (upd (Aa h9) p9 (Aa h9 p9 + 1))) b = A b := fun b hb => (m_up_ne _ _ hb).trans (hA0 b hb)
        have hB1 : ∀ p, p < 41 → (m_up Aa h9 (upd (Aa h9) p9 (Aa h9 p9 + 1))) h9 p = nI (cntB (fun j => c_at I R w9 isl p ((L lf).getD j 0)) (i + 1)) := fun p hp => by
          rw [m_up_self]
          unfold upd
          by_cases h : p = p9
          · rw [if_pos h, h, cnt_T (c_at I R w9 isl p9) ha (by unfold c_at; rw [hq, decide_eq_true c_46, decide_eq_true hpe]; rfl), hA1 p9 hp41]; exact nI_1 _
          · rw [if_neg h, cnt_F (c_at I R w9 isl p) ha (by unfold c_at; rw [decide_eq_false (fun z => h (((nI_eq (by omega) (by omega)).mp (hpe.symm.trans z)).symm)), Bool.and_false, Bool.and_false])]; exact hA1 p hp
        rw [nI_clamp (show p9 < 2 ^ 31 by omega)] at hw
        refine lv_iinc (v := nI (i + 1)) (lv' := [(4, .int (nI (i + 1))), (6, .int 1), (5, .ref ai), (0, .ref o), (1, .ref lf), (2, .int w9), (3, .int isl)]) hx hb dX7_lookFor_96 hl (k := 6) rfl (nI_1 _) (by decide) rfl (fun ls hl => ?_)
        refine lv_goto (tgt := 11) hx hb dX7_lookFor_99 (by decide) ?_
        exact ih (i + 1, m_up Aa h9 (upd (Aa h9) p9 (Aa h9 p9 + 1))) _ _ _ (by dsimp only; omega) ⟨⟨by omega, hB0, hB1⟩, hw, lv_sub hl [3, 4, 5, 6, 0] rfl⟩
set_option maxHeartbeats 400000 in
set_option maxRecDepth 100000 in
theorem c_X7_begin (l : Launch) {G : mG} {K : Nat → Nat} {I : Nat → Nat → Int32} {R : Nat → Nat → Option Nat} {F : Nat → UInt32} {A : Nat → Nat → Int32} {N : Nat → Nat} {L : Nat → List Nat} {T : Nat → List Int32} {J : Nat → Nat → Int64} {D : Nat → Nat → UInt64} {o h9 e9 : Nat} (hko : K o = 8) (hrh : R 80 o = some h9) (hkh : K h9 = 23) (hNh : N h9 = 41) (hre : R 81 o = some e9) (hke : K e9 = 24) (hNe : N e9 = 41) : Met l yX7_begin wsX7_begin ({ frames := 1, cells := 0, slots := 0, locals := 40 } : Room) (va_Pc [.ref o] (m_B G K I R F A N L T J D)) (va_Qv (fun (u : Nat → Nat → Int32) => u = m_up A e9 (va_cpy (A h9) (A e9) 0 0 41)) (fun u : Nat → Nat → Int32 => m_B G K I R F u N L T J D) (m_A G)) 0 0 (m_A G) := by
  refine Met.ofW (cc := cX7_begin) (maxL := 1) (ret := none) (by decide) rfl ?_
  intro p e s m args below meth c s₁ B hml hv
  obtain ⟨rfl, hB⟩ := hv
  have hx := B.exec
  have hb := B.bytes
  have hr := B.returns
  have hts := atoms_spec (ws := wsX7_begin) B.pre
  have hown : s.vm.findClass RX7 = some m.cls := findClass_of_methodNamed B.named
  have hlocks := B.notSynchronized
  have hw := m_wo_in hB
  have hl := lv_entry ([.ref o]) (n := 1) (Nat.le_of_ble_eq_true rfl)
  rw [lg_entry_eq]
  generalize (lg_sl ([.ref o]) ++ List.replicate (1 - (lg_sl ([.ref o])).length) Slot.unset).toArray = ls at hl ⊢
  have hl : lv_has ls 1 [(0, .ref o)] := hl
  refine lv_aload_n hx hb dX7_begin_0 rfl (lv_at hl 0 rfl) ?_
  refine g_8_0 (r := some h9) hx hb hts (by decide +kernel) hown hw hko (hts (.fieldLink RX7 9 "Pirateindex$Tally" "here" "[I") (by decide +kernel)) hrh dX7_begin_1 ?_
  refine lv_iconst (v := 0) hx hb dX7_begin_4 (by decide) ?_
  refine lv_aload_n hx hb dX7_begin_5 rfl (lv_at hl 0 rfl) ?_
  refine g_8_1 (r := some e9) hx hb hts (by decide +kernel) hown hw hko (hts (.fieldLink RX7 15 "Pirateindex$Tally" "ends" "[I") (by decide +kernel)) hre dX7_begin_6 ?_
  refine lv_iconst (v := 0) hx hb dX7_begin_9 (by decide) ?_
  refine lv_aload_n hx hb dX7_begin_10 rfl (lv_at hl 0 rfl) ?_
  refine g_8_0 (r := some h9) hx hb hts (by decide +kernel) hown hw hko (hts (.fieldLink RX7 9 "Pirateindex$Tally" "here" "[I") (by decide +kernel)) hrh dX7_begin_11 ?_
  refine m_alen_23 hx hb hw hkh dX7_begin_14 ?_
  refine lv_aload_n hx hb dX7_begin_15 rfl (lv_at hl 0 rfl) ?_
  refine g_8_1 (r := some e9) hx hb hts (by decide +kernel) hown hw hko (hts (.fieldLink RX7 15 "Pirateindex$Tally" "ends" "[I") (by decide +kernel)) hre dX7_begin_16 ?_
  refine m_alen_24 hx hb hw hke dX7_begin_19 ?_
  refine va_mmin hx hb (by rw [hml]; exact hl.1.symm) hown (hts (.methodLink RX7 73 Lib.Math.min.name) (by decide +kernel)) (hts (.static Lib.Math.min.name) (by decide +kernel)) (hts (.initialized "java/lang/Math") (by decide +kernel)) (hts (.code Lib.Math.min.name Lib.Math.min.code 2 (some .int)) (by decide +kernel)) (Nat.le_of_ble_eq_true rfl) (Nat.le_of_ble_eq_true rfl) (Nat.le_of_ble_eq_true rfl) (Nat.le_of_ble_eq_true rfl) dX7_begin_20 ?_
  rw [show (if (nI (N e9)) < (nI (N h9)) then (nI (N e9)) else (nI (N h9))) = (nI 41) from by rw [hNh, hNe]; decide]
  refine m_copy_2324 hx hb (by rw [hml]; exact hl.1.symm) hown (hts (.methodLink RX7 78 arraycopyName) (by decide +kernel)) (hts (.native arraycopyName) (by decide +kernel)) (hts (.static arraycopyName) (by decide +kernel)) (hts (.initialized "java/lang/System") (by decide +kernel)) hw hkh hke hNh hNe (by decide) (Nat.le_of_ble_eq_true rfl) (Nat.le_of_ble_eq_true rfl) dX7_begin_23 (fun H locs hw => ?_)
  exact W.vret hx hb hr (fun t ht hW => ⟨⟨m_up A e9 (va_cpy (A h9) (A e9) 0 0 41), rfl, rfl, m_wo_out hw ht hW.alike⟩, m_wo_F hw ht⟩) (m_wo_L hw) dX7_begin_26
set_option maxHeartbeats 400000 in
set_option maxRecDepth 100000 in
theorem c_X7_sumOfEnds (l : Launch) {G : mG} {K : Nat → Nat} {I : Nat → Nat → Int32} {R : Nat → Nat → Option Nat} {F : Nat → UInt32} {A : Nat → Nat → Int32} {N : Nat → Nat} {L : Nat → List Nat} {T : Nat → List Int32} {J : Nat → Nat → Int64} {D : Nat → Nat → UInt64} {o e9 lo hi : Nat} {fi la : Int32} (f9 : Nat → Nat) (hko : K o = 8) (hre : R 81 o = some e9) (hke : K e9 = 24) (hNe : N e9 = 41) (hfi : (if fi < 0 then 0 else fi) = nI lo) (hla : ∀ q, q ≤ 41 → (nI q ≤ la ↔ q < hi)) (hhi : hi ≤ 41) (hlo : lo ≤ 41) (hf9 : ∀ q, q < 41 → A e9 q = nI (f9 q)) : Met l yX7_sumOfEnds wsX7_sumOfEnds ({ frames := 1, cells := 0, slots := 0, locals := 40 } : Room) (va_Pc [.ref o, .int fi, .int la] (m_B G K I R F A N L T J D)) (va_Qi (fun (r : Int32) (_ : Unit) => r = nI (sumN (fun j => f9 (lo + j)) (hi - lo))) (fun u : Unit => m_B G K I R F A N L T J D) (m_A G)) 0 0 (m_A G) := by
  refine Met.ofW (cc := cX7_sumOfEnds) (maxL := 5) (ret := (some .int)) (by decide) rfl ?_
  intro p e s m args below meth c s₁ B hml hv
  obtain ⟨rfl, hB⟩ := hv
  have hx := B.exec
  have hb := B.bytes
  have hr := B.returns
  have hts := atoms_spec (ws := wsX7_sumOfEnds) B.pre
  have hown : s.vm.findClass RX7 = some m.cls := findClass_of_methodNamed B.named
  have hlocks := B.notSynchronized
  have hw := m_wo_in hB
  have hl := lv_entry ([.ref o, .int fi, .int la]) (n := 5) (Nat.le_of_ble_eq_true rfl)
  rw [lg_entry_eq]
  generalize (lg_sl ([.ref o, .int fi, .int la]) ++ List.replicate (5 - (lg_sl ([.ref o, .int fi, .int la])).length) Slot.unset).toArray = ls at hl ⊢
  have hl : lv_has ls 5 [(0, .ref o), (1, .int fi), (2, .int la)] := hl
  refine lv_iconst (v := 0) hx hb dX7_sumOfEnds_0 (by decide) ?_
  refine lv_istore_n (lv' := [(3, .int 0), (0, .ref o), (1, .int fi), (2, .int la)]) hx hb dX7_sumOfEnds_1 rfl hl (by decide) rfl (fun ls hl => ?_)
  refine m_joinH (σ := Int32) 11 (fun b H locs => b = (nI lo) ∧ m_wo G K I R F A N L T J D s H locs) (fun b => .int b :: []) ?_ (fun J_1 => ?_)
  · rintro _ H locs ⟨rfl, hw⟩
    refine lv_istore (lv' := [(4, .int (nI lo)), (3, .int 0), (0, .ref o), (1, .int fi), (2, .int la)]) hx hb dX7_sumOfEnds_11 hl (by decide) rfl (fun ls hl => ?_)
    refine m_loop (σ := Nat × Int32) (fun a => 41 - (lo + (a.1))) (fun a H locs ls => (lo + (a.1) ≤ 41 ∧ ((a.1) ≤ hi - lo ∨ (a.1) = 0) ∧ (a.2) = nI (sumN (fun j => f9 (lo + j)) (a.1))) ∧ m_wo G K I R F A N L T J D s H locs ∧ lv_has ls 5 [(0, .ref o), (1, .int fi), (2, .int la), (3, .int (a.2)), (4, .int (nI (lo + (a.1))))]) ?_ (0, 0) ⟨⟨hlo, Or.inr rfl, rfl⟩, hw, lv_sub hl [2, 3, 4, 1, 0] rfl⟩
    rintro ⟨k, x⟩ H locs ls ⟨hinv, hw, hl⟩ ih
    dsimp only at hinv hw hl
    obtain ⟨hk0, hk1, hx0⟩ := hinv
    refine lv_iload hx hb dX7_sumOfEnds_13 (lv_at hl 4 rfl) ?_
    refine lv_iload_n hx hb dX7_sumOfEnds_15 rfl (lv_at hl 2 rfl) ?_
    refine lv_icmp_gt (tgt := 45) hx hb dX7_sumOfEnds_16 (by decide) (fun c_16 => ?_) (fun c_16 => ?_)
    · skip
      have h12 : ¬ lo + k < hi := fun h => Int32.not_lt.mpr ((hla (lo + k) hk0).mpr h) c_16
      have hk9 : hi - lo = k := by omega
      refine lv_iload_n hx hb dX7_sumOfEnds_45 rfl (lv_at hl 3 rfl) ?_
      exact W.iret (v := x) hx hb hr (fun t ht hW => ⟨⟨x, (), rfl, (by rw [hx0, hk9]), m_wo_out hw ht hW.alike⟩, m_wo_F hw ht⟩) (m_wo_L hw) dX7_sumOfEnds_46
    · skip
      have h12 : lo + k < hi := (hla (lo + k) hk0).mp (Int32.not_lt.mp c_16)
      refine lv_iload hx hb dX7_sumOfEnds_19 (lv_at hl 4 rfl) ?_
      refine lv_aload_n hx hb dX7_sumOfEnds_21 rfl (lv_at hl 0 rfl) ?_
      refine g_8_1 (r := some e9) hx hb hts (by decide +kernel) hown hw hko (hts (.fieldLink RX7 15 "Pirateindex$Tally" "ends" "[I") (by decide +kernel)) hre dX7_sumOfEnds_22 ?_
      refine m_alen_24 hx hb hw hke dX7_sumOfEnds_25 ?_
      refine lv_icmp_ge (tgt := 45) hx hb dX7_sumOfEnds_26 (by decide) (fun c_26 => absurd c_26 (by rw [hNe]; exact nI_ge (by omega) (by decide))) (fun c_26 => ?_)
      refine lv_iload_n hx hb dX7_sumOfEnds_29 rfl (lv_at hl 3 rfl) ?_
      refine lv_aload_n hx hb dX7_sumOfEnds_30 rfl (lv_at hl 0 rfl) ?_
      refine g_8_1 (r := some e9) hx hb hts (by decide +kernel) hown hw hko (hts (.fieldLink RX7 15 "Pirateindex$Tally" "ends" "[I") (by decide +kernel)) hre dX7_sumOfEnds_31 ?_
      refine lv_iload hx hb dX7_sumOfEnds_34 (lv_at hl 4 rfl) ?_
      refine m_iaload_24 hx hb hw hke (by rw [hNe]; exact vp_in_nI (by omega) (by decide)) dX7_sumOfEnds_36 ?_
      rw [nI_clamp (show lo + k < 2 ^ 31 by omega), hf9 (lo + k) (by omega)]
      refine lv_iadd hx hb dX7_sumOfEnds_37 ?_
      refine lv_istore_n (lv' := [(3, .int (x + (nI (f9 (lo + k))))), (0, .ref o), (1, .int fi), (2, .int la), (4, .int (nI (lo + k)))]) hx hb dX7_sumOfEnds_38 rfl hl (by decide) rfl (fun ls hl => ?_)
      refine lv_iinc (v := nI ((lo + k) + 1)) (lv' := [(4, .int (nI ((lo + k) + 1))), (3, .int (x + (nI (f9 (lo + k))))), (0, .ref o), (1, .int fi), (2, .int la)]) hx hb dX7_sumOfEnds_39 hl (k := 4) rfl (nI_1 _) (by decide) rfl (fun ls hl => ?_)
      refine lv_goto (tgt := 13) hx hb dX7_sumOfEnds_42 (by decide) ?_
      exact ih (k + 1, (x + (nI (f9 (lo + k))))) _ _ _ (by dsimp only; omega) ⟨⟨by omega, Or.inl (by omega), by rw [hx0]; exact nI_add _ _⟩, hw, lv_sub hl [2, 3, 4, 1, 0] rfl⟩
  · skip
    refine lv_iload_n hx hb dX7_sumOfEnds_2 rfl (lv_at hl 2 rfl) ?_
    refine lv_if_ge (tgt := 10) hx hb dX7_sumOfEnds_3 (by decide) (fun c_3 => ?_) (fun c_3 => ?_)
    · skip
      refine lv_iload_n hx hb dX7_sumOfEnds_10 rfl (lv_at hl 2 rfl) ?_
      exact J_1 fi _ _ ⟨(by rw [← hfi, if_neg (Int32.not_lt.mpr c_3)]), hw⟩
    · skip
      refine lv_iconst (v := 0) hx hb dX7_sumOfEnds_6 (by decide) ?_
      refine lv_goto (tgt := 11) hx hb dX7_sumOfEnds_7 (by decide) ?_
      exact J_1 0 _ _ ⟨(by rw [← hfi, if_pos (Int32.not_le.mp c_3)]), hw⟩
set_option maxHeartbeats 400000 in
set_option maxRecDepth 100000 in
theorem c_X7_follow (l : Launch) {G : mG} {K : Nat → Nat} {I : Nat → Nat → Int32} {R : Nat → Nat → Option Nat} {F : Nat → UInt32} {A : Nat → Nat → Int32} {N : Nat → Nat} {L : Nat → List Nat} {T : Nat → List Int32} {J : Nat → Nat → Int64} {D : Nat → Nat → UInt64} {o h9 e9 d9 : Nat} (f9 g9 : Nat → Nat) (hko : K o = 8) (hrh : R 80 o = some h9) (hkh : K h9 = 23) (hNh : N h9 = 41) (hre : R 81 o = some e9) (hke : K e9 = 24) (hNe : N e9 = 41) (hd9 : d9 ≤ 9) (hf9 : ∀ q, q < 41 → A e9 q = nI (f9 q)) (hg9 : ∀ q, q < 41 → A h9 q = nI (g9 q)) : Met l yX7_follow wsX7_follow ({ frames := 2, cells := 0, slots := 0, locals := 80 } : Room) (va_Pc [.ref o, .int (nI d9)] (m_B G K I R F A N L T J D)) (va_Qv (fun (u : Nat → Nat → Int32) => (∀ b, b ≠ e9 → u b = A b) ∧ ∀ p, p < 41 → u e9 p = nI (o_win f9 p d9 * g9 p)) (fun u : Nat → Nat → Int32 => m_B G K I R F u N L T J D) (m_A G)) 0 0 (m_A G) := by
  refine Met.ofW (cc := cX7_follow) (maxL := 3) (ret := none) (by decide) rfl ?_
  intro p e s m args below meth c s₁ B hml hv
  obtain ⟨rfl, hB⟩ := hv
  have hx := B.exec
  have hb := B.bytes
  have hr := B.returns
  have hts := atoms_spec (ws := wsX7_follow) B.pre
  have hown : s.vm.findClass RX7 = some m.cls := findClass_of_methodNamed B.named
  have hlocks := B.notSynchronized
  have hw := m_wo_in hB
  have hl := lv_entry ([.ref o, .int (nI d9)]) (n := 3) (Nat.le_of_ble_eq_true rfl)
  rw [lg_entry_eq]
  generalize (lg_sl ([.ref o, .int (nI d9)]) ++ List.replicate (3 - (lg_sl ([.ref o, .int (nI d9)])).length) Slot.unset).toArray = ls at hl ⊢
  have hl : lv_has ls 3 [(0, .ref o), (1, .int (nI d9))] := hl
  have hhe : h9 ≠ e9 := fun z => by rw [z, hke] at hkh; exact absurd hkh (by decide)
  refine lv_aload_n hx hb dX7_follow_0 rfl (lv_at hl 0 rfl) ?_
  refine g_8_0 (r := some h9) hx hb hts (by decide +kernel) hown hw hko (hts (.fieldLink RX7 9 "Pirateindex$Tally" "here" "[I") (by decide +kernel)) hrh dX7_follow_1 ?_
  refine m_alen_23 hx hb hw hkh dX7_follow_4 ?_
  refine lv_aload_n hx hb dX7_follow_5 rfl (lv_at hl 0 rfl) ?_
  refine g_8_1 (r := some e9) hx hb hts (by decide +kernel) hown hw hko (hts (.fieldLink RX7 15 "Pirateindex$Tally" "ends" "[I") (by decide +kernel)) hre dX7_follow_6 ?_
  refine m_alen_24 hx hb hw hke dX7_follow_9 ?_
  refine va_mmin hx hb (by rw [hml]; exact hl.1.symm) hown (hts (.methodLink RX7 73 Lib.Math.min.name) (by decide +kernel)) (hts (.static Lib.Math.min.name) (by decide +kernel)) (hts (.initialized "java/lang/Math") (by decide +kernel)) (hts (.code Lib.Math.min.name Lib.Math.min.code 2 (some .int)) (by decide +kernel)) (Nat.le_of_ble_eq_true rfl) (Nat.le_of_ble_eq_true rfl) (Nat.le_of_ble_eq_true rfl) (Nat.le_of_ble_eq_true rfl) dX7_follow_10 ?_
  rw [show (if (nI (N e9)) < (nI (N h9)) then (nI (N e9)) else (nI (N h9))) = (nI 41) from by rw [hNh, hNe]; decide]
  refine lv_iconst (v := 1) hx hb dX7_follow_13 (by decide) ?_
  refine lv_isub hx hb dX7_follow_14 ?_
  refine lv_istore_n (lv' := [(2, .int ((nI 41) - 1)), (0, .ref o), (1, .int (nI d9))]) hx hb dX7_follow_15 rfl hl (by decide) rfl (fun ls hl => ?_)
  rw [show (nI 41 - 1 : Int32) = c_pr 41 from by decide] at hl
  refine m_loop (σ := Nat × (Nat → Nat → Int32)) (fun a => (a.1)) (fun a H locs ls => ((a.1) ≤ 41 ∧ (∀ b, b ≠ e9 → (a.2) b = A b) ∧ ∀ p, p < 41 → (a.2) e9 p = nI (if p < (a.1) then f9 p else o_win f9 p d9 * g9 p)) ∧ m_wo G K I R F (a.2) N L T J D s H locs ∧ lv_has ls 3 [(0, .ref o), (1, .int (nI d9)), (2, .int (c_pr (a.1)))]) ?_ (41, A) ⟨⟨Nat.le_refl _, fun _ _ => rfl, fun p hp => by rw [if_pos hp]; exact hf9 p hp⟩, hw, lv_sub hl [1, 2, 0] rfl⟩
  rintro ⟨k, Aa⟩ H locs ls ⟨hinv, hw, hl⟩ ih
  dsimp only at hinv hw hl
  obtain ⟨hk0, hA0, hA1⟩ := hinv
  refine lv_iload_n hx hb dX7_follow_16 rfl (lv_at hl 2 rfl) ?_
  refine lv_if_lt (tgt := 51) hx hb dX7_follow_17 (by decide) (fun c_17 => ?_) (fun c_17 => ?_)
  · skip
    have hk1 : k = 0 := (c_pr_neg (by omega)).mp c_17
    subst hk1
    exact W.vret hx hb hr (fun t ht hW => ⟨⟨Aa, rfl, ⟨hA0, fun p hp => by rw [hA1 p hp, if_neg (Nat.not_lt_zero _)]⟩, m_wo_out hw ht hW.alike⟩, m_wo_F hw ht⟩) (m_wo_L hw) dX7_follow_51
  · skip
    have hk1 : k ≠ 0 := fun z => c_17 ((c_pr_neg (by omega)).mpr z)
    obtain ⟨k9, rfl⟩ : ∃ z, k = z + 1 := ⟨k - 1, by omega⟩
    rw [c_pr_s] at hl
    refine lv_aload_n hx hb dX7_follow_20 rfl (lv_at hl 0 rfl) ?_
    refine g_8_1 (r := some e9) hx hb hts (by decide +kernel) hown hw hko (hts (.fieldLink RX7 15 "Pirateindex$Tally" "ends" "[I") (by decide +kernel)) hre dX7_follow_21 ?_
    refine lv_iload_n hx hb dX7_follow_24 rfl (lv_at hl 2 rfl) ?_
    refine lv_aload_n hx hb dX7_follow_25 rfl (lv_at hl 0 rfl) ?_
    refine g_8_0 (r := some h9) hx hb hts (by decide +kernel) hown hw hko (hts (.fieldLink RX7 9 "Pirateindex$Tally" "here" "[I") (by decide +kernel)) hrh dX7_follow_26 ?_
    refine lv_iload_n hx hb dX7_follow_29 rfl (lv_at hl 2 rfl) ?_
    refine m_iaload_23 hx hb hw hkh (by rw [hNh]; exact vp_in_nI (by omega) (by decide)) dX7_follow_30 ?_
    rw [nI_clamp (show k9 < 2 ^ 31 by omega), hA0 h9 hhe, hg9 k9 (by omega)]
    refine lv_aload_n hx hb dX7_follow_31 rfl (lv_at hl 0 rfl) ?_
    refine lv_iload_n hx hb dX7_follow_32 rfl (lv_at hl 2 rfl) ?_
    refine lv_iconst (v := 1) hx hb dX7_follow_33 (by decide) ?_
    refine lv_isub hx hb dX7_follow_34 ?_
    refine lv_iload_n hx hb dX7_follow_35 rfl (lv_at hl 1 rfl) ?_
    refine lv_isub hx hb dX7_follow_36 ?_
    refine lv_iload_n hx hb dX7_follow_37 rfl (lv_at hl 2 rfl) ?_
    refine lv_iconst (v := 1) hx hb dX7_follow_38 (by decide) ?_
    refine lv_isub hx hb dX7_follow_39 ?_
    refine m_ci (va_runV (As := [.int (((nI k9) - 1) - (nI d9)), .int ((nI k9) - 1)]) (rest := [.int (nI (g9 k9)), .int (nI k9), .ref e9]) ⟨hx, hb, hml, hown, hts⟩ (c_X7_sumOfEnds l (lo := k9 - (d9 + 1)) (hi := k9) (fun p => (if p < k9 + 1 then f9 p else o_win f9 p d9 * g9 p)) hko hre hke hNe (c_fi k9 d9 (by omega) hd9) (fun q hq => c_pr_le (by omega) (by omega)) (by omega) (by omega) (fun q hq => hA1 q hq)) (cwV 2 hts gX7_follow_X7_sumOfEnds rfl rfl rfl (by decide +kernel) ⟨Nat.le_of_ble_eq_true rfl, Nat.le_of_ble_eq_true rfl⟩) ⟨m_blind m_B_calling, m_recv hw (m_ent_8 hko) rfl, fun U hU hW => ⟨rfl, m_wo_call hw hU hW⟩⟩ rfl rfl hl.1 rfl (lv_room (Nat.le_of_ble_eq_true rfl)) dX7_follow_40 ⟨Nat.le_of_ble_eq_true rfl, Nat.le_of_ble_eq_true rfl⟩) hw (fun r_40 u_40 H locs hp_40 hw => ?_)
    obtain rfl : r_40 = nI (o_win f9 k9 d9) := by rw [hp_40]; exact congrArg nI (c_win f9 k9 d9 (fun p => (if p < k9 + 1 then f9 p else o_win f9 p d9 * g9 p)) (fun q hq => if_pos (by omega)))
    refine lv_imul hx hb dX7_follow_43 ?_
    rw [pk_mul, Nat.mul_comm]
    refine m_iastore_24 hx hb hw hke (by rw [hNe]; exact vp_in_nI (by omega) (by decide))  dX7_follow_44 (fun H locs hw => ?_)
    refine lv_iinc (v := (nI k9) + (-1)) (lv' := [(2, .int ((nI k9) + (-1))), (0, .ref o), (1, .int (nI d9))]) hx hb dX7_follow_45 hl (k := 2) rfl rfl (by decide) rfl (fun ls hl => ?_)
    rw [show nI k9 + (-1) = c_pr k9 from by unfold c_pr; rw [Int32.sub_eq_add_neg]] at hl
    rw [nI_clamp (show k9 < 2 ^ 31 by omega)] at hw
    have hB0 : ∀ b, b ≠ e9 → (m_up Aa e9 (upd (Aa e9) k9 (nI (o_win f9 k9 d9 * g9 k9)))) b = A b := fun b hb => (m_up_ne _ _ hb).trans (hA0 b hb)
    have hB1 : ∀ p, p < 41 → (m_up Aa e9 (upd (Aa e9) k9 (nI (o_win f9 k9 d9 * g9 k9)))) e9 p = nI (if p < k9 then f9 p else o_win f9 p d9 * g9 p) := fun p hp => by
      rw [m_up_self]
      unfold upd
      by_cases h : p = k9
      · rw [if_pos h, h, if_neg (Nat.lt_irrefl _)]
      · rw [if_neg h, hA1 p hp]
        by_cases h2 : p < k9
        · rw [if_pos h2, if_pos (by omega)]
        · rw [if_neg h2, if_neg (by omega)]
    have hl : lv_has ls 3 [(2, .int (c_pr k9)), (0, .ref o), (1, .int (nI d9))] := hl
    refine lv_goto (tgt := 16) hx hb dX7_follow_48 (by decide) ?_
    exact ih (k9, m_up Aa e9 (upd (Aa e9) k9 (nI (o_win f9 k9 d9 * g9 k9)))) _ _ _ (by dsimp only; omega) ⟨⟨by omega, hB0, hB1⟩, hw, lv_sub hl [1, 2, 0] rfl⟩
set_option maxHeartbeats 400000 in
set_option maxRecDepth 100000 in
theorem c_X7_choices (l : Launch) {G : mG} {K : Nat → Nat} {I : Nat → Nat → Int32} {R : Nat → Nat → Option Nat} {F : Nat → UInt32} {A : Nat → Nat → Int32} {N : Nat → Nat} {L : Nat → List Nat} {T : Nat → List Int32} {J : Nat → Nat → Int64} {D : Nat → Nat → UInt64} {o lf o2 h9 e9 w9 d9 n : Nat} {isl : Int32} (hko : K o = 8) (hrh : R 80 o = some h9) (hkh : K h9 = 23) (hNh : N h9 = 41) (hre : R 81 o = some e9) (hke : K e9 = 24) (hNe : N e9 = 41) (hlf : K lf = 11) (hel : ∀ a, a ∈ L lf → K a = 1) (hpl : ∀ a, a ∈ L lf → ∃ p, p < 41 ∧ I 13 a = nI p) (hps : c_pst I R (L lf)) (hk2 : K o2 = 4) (hrw : R 40 o2 = some w9) (hkw : K w9 = 21) (hNw : N w9 = 4) (hrd : R 41 o2 = some d9) (hkd : K d9 = 22) (hNd : N d9 = 4) (hn : I 42 o2 = nI n) (hn4 : n ≤ 4) (hdi : ∀ k, 1 ≤ k → k < n → ∃ g, g ≤ 9 ∧ A d9 k = nI g) : Met l yX7_choices wsX7_choices ({ frames := 4, cells := 0, slots := 0, locals := 140 } : Room) (va_Pc [.ref o, .ref lf, .ref o2, .int isl] (m_B G K I R F A N L T J D)) (va_Qi (fun (r : Int32) (u : Nat → Nat → Int32) => (∀ b, b ≠ h9 → b ≠ e9 → u b = A b) ∧ r = nI (if n = 0 then 0 else o_hits (c_cnt I R A (L lf) w9 isl) (fun k => (A d9 k).toNatClampNeg) n)) (fun u : Nat → Nat → Int32 => m_B G K I R F u N L T J D) (m_A G)) 0 0 (m_A G) := by
  refine Met.ofW (cc := cX7_choices) (maxL := 5) (ret := (some .int)) (by decide) rfl ?_
  intro p e s m args below meth c s₁ B hml hv
  obtain ⟨rfl, hB⟩ := hv
  have hx := B.exec
  have hb := B.bytes
  have hr := B.returns
  have hts := atoms_spec (ws := wsX7_choices) B.pre
  have hown : s.vm.findClass RX7 = some m.cls := findClass_of_methodNamed B.named
  have hlocks := B.notSynchronized
  have hw := m_wo_in hB
  have hl := lv_entry ([.ref o, .ref lf, .ref o2, .int isl]) (n := 5) (Nat.le_of_ble_eq_true rfl)
  rw [lg_entry_eq]
  generalize (lg_sl ([.ref o, .ref lf, .ref o2, .int isl]) ++ List.replicate (5 - (lg_sl ([.ref o, .ref lf, .ref o2, .int isl])).length) Slot.unset).toArray = ls at hl ⊢
  have hl : lv_has ls 5 [(0, .ref o), (1, .ref lf), (2, .ref o2), (3, .int isl)] := hl
  have hwh : w9 ≠ h9 := fun z => by rw [z, hkh] at hkw; exact absurd hkw (by decide)
  have hwe : w9 ≠ e9 := fun z => by rw [z, hke] at hkw; exact absurd hkw (by decide)
  have hdh : d9 ≠ h9 := fun z => by rw [z, hkh] at hkd; exact absurd hkd (by decide)
  have hde : d9 ≠ e9 := fun z => by rw [z, hke] at hkd; exact absurd hkd (by decide)
  have hhe : h9 ≠ e9 := fun z => by rw [z, hke] at hkh; exact absurd hkh (by decide)
  refine lv_aload_n hx hb dX7_choices_0 rfl (lv_at hl 0 rfl) ?_
  refine g_8_1 (r := some e9) hx hb hts (by decide +kernel) hown hw hko (hts (.fieldLink RX7 15 "Pirateindex$Tally" "ends" "[I") (by decide +kernel)) hre dX7_choices_1 ?_
  refine lv_iconst (v := 0) hx hb dX7_choices_4 (by decide) ?_
  refine m_cv (va_runS (As := [.ref e9, .int 0]) (rest := []) ⟨hx, hb, hml, hown, hts⟩ (c_J7_fill_53178_24 l hke (by rw [hNe]; decide)) (va_cwS 2 hts gX7_choices_J7_fill_53178 rfl rfl rfl (by decide +kernel) ⟨Nat.le_of_ble_eq_true rfl, Nat.le_of_ble_eq_true rfl⟩) ⟨m_blind m_B_calling, fun U hU hW => ⟨rfl, m_wo_call hw hU hW⟩⟩ rfl rfl hl.1 rfl (lv_room (Nat.le_of_ble_eq_true rfl)) dX7_choices_5 ⟨Nat.le_of_ble_eq_true rfl, Nat.le_of_ble_eq_true rfl⟩) hw (fun u_5 H locs hp_5 hw => ?_)
  have hw : m_wo G K I R F u_5 N L T J D s H locs := hw
  have eA0 : u_5 = m_up A e9 (fun j => if j < N e9 then 0 else A e9 j) := hp_5
  refine lv_iconst (v := 0) hx hb dX7_choices_8 (by decide) ?_
  refine lv_istore (lv' := [(4, .int 0), (0, .ref o), (1, .ref lf), (2, .ref o2), (3, .int isl)]) hx hb dX7_choices_9 hl (by decide) rfl (fun ls hl => ?_)
  refine m_loop (σ := Nat × (Nat → Nat → Int32)) (fun a => n - (a.1)) (fun a H locs ls => ((a.1) ≤ n ∧ (∀ b, b ≠ h9 → b ≠ e9 → (a.2) b = A b) ∧ ∀ p, p < 41 → (a.2) e9 p = nI (if (a.1) = 0 then 0 else o_ways (c_cnt I R A (L lf) w9 isl) (fun k => (A d9 k).toNatClampNeg) ((a.1) - 1) p)) ∧ m_wo G K I R F (a.2) N L T J D s H locs ∧ lv_has ls 5 [(0, .ref o), (1, .ref lf), (2, .ref o2), (3, .int isl), (4, .int (nI (a.1)))]) ?_ (0, u_5) ⟨⟨Nat.zero_le _, fun b _ hb => by rw [eA0]; exact m_up_ne _ _ hb, fun p hp => by show u_5 e9 p = nI 0; rw [eA0, m_up_self, hNe]; exact if_pos hp⟩, hw, lv_sub hl [1, 2, 3, 4, 0] rfl⟩
  rintro ⟨i, Aa⟩ H locs ls ⟨hinv, hw, hl⟩ ih
  dsimp only at hinv hw hl
  obtain ⟨hi0, hA0, hA1⟩ := hinv
  refine lv_iload hx hb dX7_choices_11 (lv_at hl 4 rfl) ?_
  refine lv_aload_n hx hb dX7_choices_13 rfl (lv_at hl 2 rfl) ?_
  refine g_4_2 hx hb hts (by decide +kernel) hown hw hk2 (hts (.fieldLink RX7 24 "Pirateindex$Phrase" "length" "I") (by decide +kernel)) dX7_choices_14 ?_
  rw [hn]
  refine lv_icmp_ge (tgt := 60) hx hb dX7_choices_17 (by decide) (fun c_17 => ?_) (fun c_17 => ?_)
  · skip
    rw [nI_leI (by omega) (by omega)] at c_17
    have hi : i = n := by omega
    refine lv_aload_n hx hb dX7_choices_60 rfl (lv_at hl 0 rfl) ?_
    refine lv_iconst (v := 0) hx hb dX7_choices_61 (by decide) ?_
    refine lv_bipush (v := 40) hx hb dX7_choices_62 (by decide) ?_
    refine m_ci (va_runV (As := [.int 0, .int 40]) (rest := []) ⟨hx, hb, hml, hown, hts⟩ (c_X7_sumOfEnds l (lo := 0) (hi := 41) (fun p => (if i = 0 then 0 else o_ways (c_cnt I R A (L lf) w9 isl) (fun k => (A d9 k).toNatClampNeg) (i - 1) p)) hko hre hke hNe (by decide) (fun q hq => by rw [show (40 : Int32) = nI 40 from rfl, nI_leI (by omega) (by decide)]; omega) (by decide) (by decide) hA1) (cwV 2 hts gX7_choices_X7_sumOfEnds rfl rfl rfl (by decide +kernel) ⟨Nat.le_of_ble_eq_true rfl, Nat.le_of_ble_eq_true rfl⟩) ⟨m_blind m_B_calling, m_recv hw (m_ent_8 hko) rfl, fun U hU hW => ⟨rfl, m_wo_call hw hU hW⟩⟩ rfl rfl hl.1 rfl (lv_room (Nat.le_of_ble_eq_true rfl)) dX7_choices_64 ⟨Nat.le_of_ble_eq_true rfl, Nat.le_of_ble_eq_true rfl⟩) hw (fun r_64 u_64 H locs hp_64 hw => ?_)
    exact W.iret (v := r_64) hx hb hr (fun t ht hW => ⟨⟨r_64, Aa, rfl, ⟨hA0, by rw [hp_64, hi]; exact congrArg nI (c_sum41 (c_cnt I R A (L lf) w9 isl) (fun k => (A d9 k).toNatClampNeg) n)⟩, m_wo_out hw ht hW.alike⟩, m_wo_F hw ht⟩) (m_wo_L hw) dX7_choices_67
  · skip
    rw [nI_leI (by omega) (by omega)] at c_17
    have hi : i < n := by omega
    refine lv_aload_n hx hb dX7_choices_20 rfl (lv_at hl 0 rfl) ?_
    refine lv_aload_n hx hb dX7_choices_21 rfl (lv_at hl 1 rfl) ?_
    refine lv_aload_n hx hb dX7_choices_22 rfl (lv_at hl 2 rfl) ?_
    refine lv_iload hx hb dX7_choices_23 (lv_at hl 4 rfl) ?_
    refine m_ci (va_runV (As := [.int (nI i)]) (rest := [.ref lf, .ref o]) ⟨hx, hb, hml, hown, hts⟩ (c_X3_wordAt l hk2 hrw hkw hNw (by omega)) (cwV 1 hts gX7_choices_X3_wordAt rfl rfl rfl (by decide +kernel) ⟨Nat.le_of_ble_eq_true rfl, Nat.le_of_ble_eq_true rfl⟩) ⟨m_blind m_B_calling, m_recv hw (m_ent_4 hk2) rfl, fun U hU hW => ⟨rfl, m_wo_call hw hU hW⟩⟩ rfl rfl hl.1 rfl (lv_room (Nat.le_of_ble_eq_true rfl)) dX7_choices_25 ⟨Nat.le_of_ble_eq_true rfl, Nat.le_of_ble_eq_true rfl⟩) hw (fun r_25 u_25 H locs hp_25 hw => ?_)
    obtain rfl : r_25 = A w9 i := by rw [hp_25, hA0 w9 hwh hwe]
    refine lv_iload_n hx hb dX7_choices_28 rfl (lv_at hl 3 rfl) ?_
    refine m_cv (va_runV (As := [.ref lf, .int (A w9 i), .int isl]) (rest := []) ⟨hx, hb, hml, hown, hts⟩ (c_X7_lookFor l hko hrh hkh hNh hlf hel hpl hps) (cwV 3 hts gX7_choices_X7_lookFor rfl rfl rfl (by decide +kernel) ⟨Nat.le_of_ble_eq_true rfl, Nat.le_of_ble_eq_true rfl⟩) ⟨m_blind m_B_calling, m_recv hw (m_ent_8 hko) rfl, fun U hU hW => ⟨rfl, m_wo_call hw hU hW⟩⟩ rfl rfl hl.1 rfl (lv_room (Nat.le_of_ble_eq_true rfl)) dX7_choices_29 ⟨Nat.le_of_ble_eq_true rfl, Nat.le_of_ble_eq_true rfl⟩) hw (fun u_29 H locs hp_29 hw => ?_)
    have hw : m_wo G K I R F u_29 N L T J D s H locs := hw
    obtain ⟨hC0, hC1⟩ := hp_29
    have hC1 : ∀ p, p < 41 → u_29 h9 p = nI ((c_cnt I R A (L lf) w9 isl) i p) := hC1
    have hCe : ∀ p, p < 41 → u_29 e9 p = nI (if i = 0 then 0 else o_ways (c_cnt I R A (L lf) w9 isl) (fun k => (A d9 k).toNatClampNeg) (i - 1) p) := fun p hp => by rw [hC0 e9 (Ne.symm hhe)]; exact hA1 p hp
    refine lv_iload hx hb dX7_choices_32 (lv_at hl 4 rfl) ?_
    refine lv_if_ne (tgt := 44) hx hb dX7_choices_34 (by decide) (fun c_34 => ?_) (fun c_34 => ?_)
    · skip
      have hi9 : i ≠ 0 := fun z => c_34 (by rw [z]; rfl)
      refine lv_aload_n hx hb dX7_choices_44 rfl (lv_at hl 0 rfl) ?_
      refine lv_aload_n hx hb dX7_choices_45 rfl (lv_at hl 2 rfl) ?_
      refine lv_iload hx hb dX7_choices_46 (lv_at hl 4 rfl) ?_
      obtain ⟨g8, hg8, hge⟩ := hdi i (by omega) hi
      have hge2 : u_29 d9 i = nI g8 := by rw [hC0 d9 hdh, hA0 d9 hdh hde]; exact hge
      refine m_ci (va_runV (As := [.int (nI i)]) (rest := [.ref o]) ⟨hx, hb, hml, hown, hts⟩ (c_X3_distanceAt l hk2 hrd hkd hNd (by omega)) (cwV 1 hts gX7_choices_X3_distanceAt rfl rfl rfl (by decide +kernel) ⟨Nat.le_of_ble_eq_true rfl, Nat.le_of_ble_eq_true rfl⟩) ⟨m_blind m_B_calling, m_recv hw (m_ent_4 hk2) rfl, fun U hU hW => ⟨rfl, m_wo_call hw hU hW⟩⟩ rfl rfl hl.1 rfl (lv_room (Nat.le_of_ble_eq_true rfl)) dX7_choices_48 ⟨Nat.le_of_ble_eq_true rfl, Nat.le_of_ble_eq_true rfl⟩) hw (fun r_48 u_48 H locs hp_48 hw => ?_)
      obtain rfl : r_48 = nI g8 := hp_48.trans hge2
      refine m_cv (va_runV (As := [.int (nI g8)]) (rest := []) ⟨hx, hb, hml, hown, hts⟩ (c_X7_follow l (o_ways (c_cnt I R A (L lf) w9 isl) (fun k => (A d9 k).toNatClampNeg) (i - 1)) ((c_cnt I R A (L lf) w9 isl) i) hko hrh hkh hNh hre hke hNe hg8 (fun q hq => by rw [hCe q hq, if_neg hi9]) hC1) (cwV 1 hts gX7_choices_X7_follow rfl rfl rfl (by decide +kernel) ⟨Nat.le_of_ble_eq_true rfl, Nat.le_of_ble_eq_true rfl⟩) ⟨m_blind m_B_calling, m_recv hw (m_ent_8 hko) rfl, fun U hU hW => ⟨rfl, m_wo_call hw hU hW⟩⟩ rfl rfl hl.1 rfl (lv_room (Nat.le_of_ble_eq_true rfl)) dX7_choices_51 ⟨Nat.le_of_ble_eq_true rfl, Nat.le_of_ble_eq_true rfl⟩) hw (fun u_51 H locs hp_51 hw => ?_)
      have hw : m_wo G K I R F u_51 N L T J D s H locs := hw
      obtain ⟨hD0, hD1⟩ := hp_51
      have hB0 : ∀ b, b ≠ h9 → b ≠ e9 → u_51 b = A b := fun b h1 h2 => by rw [hD0 b h2, hC0 b h1]; exact hA0 b h1 h2
      have hB1 : ∀ p, p < 41 → u_51 e9 p = nI (if i + 1 = 0 then 0 else o_ways (c_cnt I R A (L lf) w9 isl) (fun k => (A d9 k).toNatClampNeg) (i + 1 - 1) p) := fun p hp => by
        rw [hD1 p hp, if_neg (by omega), Nat.add_sub_cancel]
        obtain ⟨i9, rfl⟩ : ∃ z, i = z + 1 := ⟨i - 1, by omega⟩
        simp only [o_ways, Nat.add_sub_cancel]
        rw [hge, nI_clamp (show g8 < 2 ^ 31 by omega)]
      refine lv_iinc (v := nI (i + 1)) (lv' := [(4, .int (nI (i + 1))), (0, .ref o), (1, .ref lf), (2, .ref o2), (3, .int isl)]) hx hb dX7_choices_54 hl (k := 4) rfl (nI_1 _) (by decide) rfl (fun ls hl => ?_)
      refine lv_goto (tgt := 11) hx hb dX7_choices_57 (by decide) ?_
      exact ih (i + 1, u_51) _ _ _ (by dsimp only; omega) ⟨⟨by omega, hB0, hB1⟩, hw, lv_sub hl [1, 2, 3, 4, 0] rfl⟩
    · skip
      have hi9 : i = 0 := (nI_eq (a := i) (b := 0) (by omega) (by decide)).mp c_34
      refine lv_aload_n hx hb dX7_choices_37 rfl (lv_at hl 0 rfl) ?_
      refine m_cv (va_runV (As := []) (rest := []) ⟨hx, hb, hml, hown, hts⟩ (c_X7_begin l hko hrh hkh hNh hre hke hNe) (cwV 0 hts gX7_choices_X7_begin rfl rfl rfl (by decide +kernel) ⟨Nat.le_of_ble_eq_true rfl, Nat.le_of_ble_eq_true rfl⟩) ⟨m_blind m_B_calling, m_recv hw (m_ent_8 hko) rfl, fun U hU hW => ⟨rfl, m_wo_call hw hU hW⟩⟩ rfl rfl hl.1 rfl (lv_room (Nat.le_of_ble_eq_true rfl)) dX7_choices_38 ⟨Nat.le_of_ble_eq_true rfl, Nat.le_of_ble_eq_true rfl⟩) hw (fun u_38 H locs hp_38 hw => ?_)
      have hw : m_wo G K I R F u_38 N L T J D s H locs := hw
      have hB0 : ∀ b, b ≠ h9 → b ≠ e9 → u_38 b = A b := fun b h1 h2 => by rw [hp_38, m_up_ne _ _ h2, hC0 b h1]; exact hA0 b h1 h2
      have hB1 : ∀ p, p < 41 → u_38 e9 p = nI (if i + 1 = 0 then 0 else o_ways (c_cnt I R A (L lf) w9 isl) (fun k => (A d9 k).toNatClampNeg) (i + 1 - 1) p) := fun p hp => by
        rw [hp_38, m_up_self, pk_cpy_in (Nat.zero_le _) (by omega), if_neg (by omega), hi9]
        rw [hi9] at hC1
        rw [show 0 + (p - 0) = p by omega]
        exact hC1 p hp
      refine lv_goto (tgt := 54) hx hb dX7_choices_41 (by decide) ?_
      refine lv_iinc (v := nI (i + 1)) (lv' := [(4, .int (nI (i + 1))), (0, .ref o), (1, .ref lf), (2, .ref o2), (3, .int isl)]) hx hb dX7_choices_54 hl (k := 4) rfl (nI_1 _) (by decide) rfl (fun ls hl => ?_)
      refine lv_goto (tgt := 11) hx hb dX7_choices_57 (by decide) ?_
      exact ih (i + 1, u_38) _ _ _ (by dsimp only; omega) ⟨⟨by omega, hB0, hB1⟩, hw, lv_sub hl [1, 2, 3, 4, 0] rfl⟩
