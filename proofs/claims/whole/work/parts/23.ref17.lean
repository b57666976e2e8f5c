set_option maxHeartbeats 400000 in
set_option maxRecDepth 100000 in
theorem c_X9_better (l : Launch) {G : mG} {K : Nat → Nat} {I : Nat → Nat → Int32} {R : Nat → Nat → Option Nat} {F : Nat → UInt32} {A : Nat → Nat → Int32} {N : Nat → Nat} {L : Nat → List Nat} {T : Nat → List Int32} {J : Nat → Nat → Int64} {D : Nat → Nat → UInt64} {o : Nat} {ad : Nat → Nat} {Z : Nat → Int32} {M : Nat → Nat → Int32} {th : Int32} {nf ni na at0 : Nat} (sh a b : Nat) (hro : r_ok K R N o ad) (hz : r_st K o ad I A I A Z M th) (hnf : Z 1 = nI nf) (hn : nf ≤ 120) (hna : Z 30 = nI na) (h1a : 1 ≤ na) (h4a : na ≤ 4) (hga : ∀ k, 1 ≤ k → k < na → ∃ g, g ≤ 9 ∧ M 28 k = nI g) (hni : Z 0 = nI ni) (hn12 : ni ≤ 12) (hne : o_nan Z M nf ni na) (hsh : sh < 5) (ha : a < 12) (hb9 : b < 12) (hat : M 18 sh = nI at0) (hat0 : at0 < 12) : Met l yX9_better wsX9_better ({ frames := 4, cells := 0, slots := 0, locals := 120 } : Room) (va_Pc [.ref o, .int (nI sh), .int (nI a), .int (nI b)] (m_B G K I R F A N L T J D)) (va_Qi (fun (r : Int32) (u : (Nat → Nat → Int32) × (Nat → Nat → Int32)) => (∃ M' : Nat → Nat → Int32, r_st K o ad I A u.1 u.2 Z M' th ∧ m_eq M M') ∧ r = b2i (o_bet Z M nf ni na sh a b)) (fun u : (Nat → Nat → Int32) × (Nat → Nat → Int32) => m_B G K (u.1) R F (u.2) N L T J D) (m_A G)) 0 0 (m_A G) := by
  refine Met.ofW (cc := cX9_better) (maxL := 7) (ret := (some .boolean)) (by decide) rfl ?_
  intro p e s m args below meth c s₁ B hml hv
  obtain ⟨rfl, hB⟩ := hv
  have hx := B.exec
  have hb := B.bytes
  have hr := B.returns
  have hts := atoms_spec (ws := wsX9_better) B.pre
  have hown : s.vm.findClass RX9 = some m.cls := findClass_of_methodNamed B.named
  have hlocks := B.notSynchronized
  have hw := m_wo_in hB
  have hl := lv_entry ([.ref o, .int (nI sh), .int (nI a), .int (nI b)]) (n := 7) (Nat.le_of_ble_eq_true rfl)
  rw [lg_entry_eq]
  generalize (lg_sl ([.ref o, .int (nI sh), .int (nI a), .int (nI b)]) ++ List.replicate (7 - (lg_sl ([.ref o, .int (nI sh), .int (nI a), .int (nI b)])).length) Slot.unset).toArray = ls at hl ⊢
  have hl : lv_has ls 7 [(0, .ref o), (1, .int (nI sh)), (2, .int (nI a)), (3, .int (nI b))] := hl
  have his := hz
  have hsc : m_eq M M := m_eq_rf _
  refine lv_aload_n hx hb dX9_better_0 rfl (lv_at hl 0 rfl) ?_
  refine lv_iload_n hx hb dX9_better_1 rfl (lv_at hl 2 rfl) ?_
  refine m_cf (va_runV (As := [.int (nI a)]) (rest := []) ⟨hx, hb, hml, hown, hts⟩ (c_X9_scoreOf l (Z := Z) (M := M) (th := th) (nI a) hro (r_st_self his) hnf hn hna h1a h4a (fun k h1 h2 => by rw [hsc 28 (by decide) (by decide)]; exact hga k h1 h2) hni hn12 (o_nan_eq hsc hne)) (cwV 1 hts gX9_better_X9_scoreOf rfl rfl rfl (by decide +kernel) ⟨Nat.le_of_ble_eq_true rfl, Nat.le_of_ble_eq_true rfl⟩) ⟨m_blind m_B_calling, m_recv hw (m_ent_10 hro.1) rfl, fun U hU hW => ⟨rfl, m_wo_call hw hU hW⟩⟩ rfl rfl hl.1 rfl (lv_room (Nat.le_of_ble_eq_true rfl)) dX9_better_2 ⟨Nat.le_of_ble_eq_true rfl, Nat.le_of_ble_eq_true rfl⟩) hw (fun r_2 u_2 H locs hp_2 hw => ?_)
  obtain ⟨I_1, A_2⟩ := u_2
  have hw : m_wo G K I_1 R F A_2 N L T J D s H locs := hw
  dsimp only at hp_2
  obtain ⟨⟨M_3, hiM_3, hmM_3⟩, hrM_3⟩ := hp_2
  have his := r_st_tr his hiM_3
  obtain rfl : r_2 = (o_score Z M nf ni na (nI a)) := hrM_3
  rw [o_score_eq hsc]
  have hsc := m_eq_tr hsc hmM_3
  refine lv_fstore (lv' := [(4, .float (o_score Z M nf ni na (nI a))), (0, .ref o), (1, .int (nI sh)), (2, .int (nI a)), (3, .int (nI b))]) hx hb dX9_better_5 hl (by decide) rfl (fun ls hl => ?_)
  refine lv_aload_n hx hb dX9_better_7 rfl (lv_at hl 1 rfl) ?_
  refine lv_iload_n hx hb dX9_better_8 rfl (lv_at hl 4 rfl) ?_
  refine m_cf (va_runV (As := [.int (nI b)]) (rest := []) ⟨hx, hb, hml, hown, hts⟩ (c_X9_scoreOf l (Z := Z) (M := M_3) (th := th) (nI b) hro (r_st_self his) hnf hn hna h1a h4a (fun k h1 h2 => by rw [hsc 28 (by decide) (by decide)]; exact hga k h1 h2) hni hn12 (o_nan_eq hsc hne)) (cwV 1 hts gX9_better_X9_scoreOf rfl rfl rfl (by decide +kernel) ⟨Nat.le_of_ble_eq_true rfl, Nat.le_of_ble_eq_true rfl⟩) ⟨m_blind m_B_calling, m_recv hw (m_ent_10 hro.1) rfl, fun U hU hW => ⟨rfl, m_wo_call hw hU hW⟩⟩ rfl rfl hl.1 rfl (lv_room (Nat.le_of_ble_eq_true rfl)) dX9_better_9 ⟨Nat.le_of_ble_eq_true rfl, Nat.le_of_ble_eq_true rfl⟩) hw (fun r_9 u_9 H locs hp_9 hw => ?_)
  obtain ⟨I_4, A_5⟩ := u_9
  have hw : m_wo G K I_4 R F A_5 N L T J D s H locs := hw
  dsimp only at hp_9
  obtain ⟨⟨M_6, hiM_6, hmM_6⟩, hrM_6⟩ := hp_9
  have his := r_st_tr his hiM_6
  obtain rfl : r_9 = (o_score Z M_3 nf ni na (nI b)) := hrM_6
  rw [o_score_eq hsc]
  have hsc := m_eq_tr hsc hmM_6
  refine lv_fstore (lv' := [(5, .float (o_score Z M nf ni na (nI b))), (4, .float (o_score Z M nf ni na (nI a))), (0, .ref o), (1, .int (nI sh)), (2, .int (nI a)), (3, .int (nI b))]) hx hb dX9_better_12 hl (by decide) rfl (fun ls hl => ?_)
  refine lv_fload hx hb dX9_better_14 (lv_at hl 1 rfl) ?_
  refine lv_fload hx hb dX9_better_16 (lv_at hl 0 rfl) ?_
  refine lv_fcmp hx hb dX9_better_18 ?_
  refine lv_if_eq (tgt := 36) hx hb dX9_better_19 (by decide) (fun c_19 => ?_) (fun c_19 => ?_)
  · skip
    refine lv_aload_n hx hb dX9_better_36 rfl (lv_at hl 2 rfl) ?_
    refine lv_iload_n hx hb dX9_better_37 rfl (lv_at hl 3 rfl) ?_
    refine lv_iload_n hx hb dX9_better_38 rfl (lv_at hl 4 rfl) ?_
    refine m_ci (va_runV (As := [.int (nI sh), .int (nI a)]) (rest := []) ⟨hx, hb, hml, hown, hts⟩ (c_X9_far l (Z := Z) (M := M_6) (th := th) sh a hro (r_st_self his) hsh (by omega) (by rw [hsc 18 (by decide) (by decide)]; exact hat) hat0) (cwV 2 hts gX9_better_X9_far rfl rfl rfl (by decide +kernel) ⟨Nat.le_of_ble_eq_true rfl, Nat.le_of_ble_eq_true rfl⟩) ⟨m_blind m_B_calling, m_recv hw (m_ent_10 hro.1) rfl, fun U hU hW => ⟨rfl, m_wo_call hw hU hW⟩⟩ rfl rfl hl.1 rfl (lv_room (Nat.le_of_ble_eq_true rfl)) dX9_better_39 ⟨Nat.le_of_ble_eq_true rfl, Nat.le_of_ble_eq_true rfl⟩) hw (fun r_39 u_39 H locs hp_39 hw => ?_)
    obtain rfl : r_39 = (o_far M_6 sh a) := hp_39
    rw [show o_far M_6 sh a = o_far M sh a from by unfold o_far; rw [hsc 7 (by decide) (by decide), hsc 8 (by decide) (by decide), hsc 18 (by decide) (by decide)]]
    refine lv_aload_n hx hb dX9_better_42 rfl (lv_at hl 2 rfl) ?_
    refine lv_iload_n hx hb dX9_better_43 rfl (lv_at hl 3 rfl) ?_
    refine lv_iload_n hx hb dX9_better_44 rfl (lv_at hl 5 rfl) ?_
    refine m_ci (va_runV (As := [.int (nI sh), .int (nI b)]) (rest := [.int (o_far M sh a)]) ⟨hx, hb, hml, hown, hts⟩ (c_X9_far l (Z := Z) (M := M_6) (th := th) sh b hro (r_st_self his) hsh (by omega) (by rw [hsc 18 (by decide) (by decide)]; exact hat) hat0) (cwV 2 hts gX9_better_X9_far rfl rfl rfl (by decide +kernel) ⟨Nat.le_of_ble_eq_true rfl, Nat.le_of_ble_eq_true rfl⟩) ⟨m_blind m_B_calling, m_recv hw (m_ent_10 hro.1) rfl, fun U hU hW => ⟨rfl, m_wo_call hw hU hW⟩⟩ rfl rfl hl.1 rfl (lv_room (Nat.le_of_ble_eq_true rfl)) dX9_better_45 ⟨Nat.le_of_ble_eq_true rfl, Nat.le_of_ble_eq_true rfl⟩) hw (fun r_45 u_45 H locs hp_45 hw => ?_)
    obtain rfl : r_45 = (o_far M_6 sh b) := hp_45
    rw [show o_far M_6 sh b = o_far M sh b from by unfold o_far; rw [hsc 7 (by decide) (by decide), hsc 8 (by decide) (by decide), hsc 18 (by decide) (by decide)]]
    refine lv_isub hx hb dX9_better_48 ?_
    refine lv_istore (lv' := [(6, .int ((o_far M sh a) - (o_far M sh b))), (5, .float (o_score Z M nf ni na (nI b))), (4, .float (o_score Z M nf ni na (nI a))), (0, .ref o), (1, .int (nI sh)), (2, .int (nI a)), (3, .int (nI b))]) hx hb dX9_better_49 hl (by decide) rfl (fun ls hl => ?_)
    refine lv_iload hx hb dX9_better_51 (lv_at hl 0 rfl) ?_
    refine lv_if_eq (tgt := 69) hx hb dX9_better_53 (by decide) (fun c_53 => ?_) (fun c_53 => ?_)
    · skip
      refine lv_iload_n hx hb dX9_better_69 rfl (lv_at hl 5 rfl) ?_
      refine lv_iload_n hx hb dX9_better_70 rfl (lv_at hl 6 rfl) ?_
      refine lv_icmp_ge (tgt := 78) hx hb dX9_better_71 (by decide) (fun c_71 => ?_) (fun c_71 => ?_)
      · skip
        have h71 : ¬ a < b := by have h9 := c_71; rw [nI_leI (by omega) (by omega)] at h9; omega
        refine lv_iconst (v := 0) hx hb dX9_better_78 (by decide) ?_
        exact W.zret (v := 0) hx hb hr (by rfl) (fun t ht hW => ⟨⟨0, (I_4, A_5), rfl, ⟨⟨M_6, his, hsc⟩, by simp [o_bet, o_cmp, b2i, ← Int32.not_le, c_19, c_53, h71]⟩, m_wo_out hw ht hW.alike⟩, m_wo_F hw ht⟩) (m_wo_L hw) dX9_better_79
      · skip
        have h71 : a < b := by have h9 := c_71; rw [nI_leI (by omega) (by omega)] at h9; omega
        refine lv_iconst (v := 1) hx hb dX9_better_74 (by decide) ?_
        refine lv_goto (tgt := 79) hx hb dX9_better_75 (by decide) ?_
        exact W.zret (v := 1) hx hb hr (by rfl) (fun t ht hW => ⟨⟨1, (I_4, A_5), rfl, ⟨⟨M_6, his, hsc⟩, by simp [o_bet, o_cmp, b2i, ← Int32.not_le, c_19, c_53, h71]⟩, m_wo_out hw ht hW.alike⟩, m_wo_F hw ht⟩) (m_wo_L hw) dX9_better_79
    · skip
      refine lv_iload hx hb dX9_better_56 (lv_at hl 0 rfl) ?_
      refine lv_if_ge (tgt := 65) hx hb dX9_better_58 (by decide) (fun c_58 => ?_) (fun c_58 => ?_)
      · skip
        refine lv_iconst (v := 0) hx hb dX9_better_65 (by decide) ?_
        refine lv_goto (tgt := 79) hx hb dX9_better_66 (by decide) ?_
        exact W.zret (v := 0) hx hb hr (by rfl) (fun t ht hW => ⟨⟨0, (I_4, A_5), rfl, ⟨⟨M_6, his, hsc⟩, by simp [o_bet, o_cmp, b2i, ← Int32.not_le, c_19, c_53, c_58]⟩, m_wo_out hw ht hW.alike⟩, m_wo_F hw ht⟩) (m_wo_L hw) dX9_better_79
      · skip
        refine lv_iconst (v := 1) hx hb dX9_better_61 (by decide) ?_
        refine lv_goto (tgt := 79) hx hb dX9_better_62 (by decide) ?_
        exact W.zret (v := 1) hx hb hr (by rfl) (fun t ht hW => ⟨⟨1, (I_4, A_5), rfl, ⟨⟨M_6, his, hsc⟩, by simp [o_bet, o_cmp, b2i, ← Int32.not_le, c_19, c_53, c_58]⟩, m_wo_out hw ht hW.alike⟩, m_wo_F hw ht⟩) (m_wo_L hw) dX9_better_79
  · skip
    refine lv_fload hx hb dX9_better_22 (lv_at hl 1 rfl) ?_
    refine lv_fload hx hb dX9_better_24 (lv_at hl 0 rfl) ?_
    refine lv_fcmp hx hb dX9_better_26 ?_
    refine lv_if_le (tgt := 34) hx hb dX9_better_27 (by decide) (fun c_27 => ?_) (fun c_27 => ?_)
    · skip
      refine lv_iconst (v := 0) hx hb dX9_better_34 (by decide) ?_
      exact W.zret (v := 0) hx hb hr (by rfl) (fun t ht hW => ⟨⟨0, (I_4, A_5), rfl, ⟨⟨M_6, his, hsc⟩, by simp [o_bet, o_cmp, b2i, ← Int32.not_le, c_19, c_27]⟩, m_wo_out hw ht hW.alike⟩, m_wo_F hw ht⟩) (m_wo_L hw) dX9_better_35
    · skip
      refine lv_iconst (v := 1) hx hb dX9_better_30 (by decide) ?_
      refine lv_goto (tgt := 35) hx hb dX9_better_31 (by decide) ?_
      exact W.zret (v := 1) hx hb hr (by rfl) (fun t ht hW => ⟨⟨1, (I_4, A_5), rfl, ⟨⟨M_6, his, hsc⟩, by simp [o_bet, o_cmp, b2i, ← Int32.not_le, c_19, c_27]⟩, m_wo_out hw ht hW.alike⟩, m_wo_F hw ht⟩) (m_wo_L hw) dX9_better_35

