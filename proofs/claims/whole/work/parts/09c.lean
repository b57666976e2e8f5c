set_option maxHeartbeats 400000 in
set_option maxRecDepth 100000 in
theorem c_X9_segmentOf (l : Launch) {G : mG} {K : Nat → Nat} {I : Nat → Nat → Int32} {R : Nat → Nat → Option Nat} {F : Nat → UInt32} {A : Nat → Nat → Int32} {N : Nat → Nat} {L : Nat → List Nat} {T : Nat → List Int32} {J : Nat → Nat → Int64} {D : Nat → Nat → UInt64} {o : Nat} {ad : Nat → Nat} {Z : Nat → Int32} {M : Nat → Nat → Int32} {th : Int32} {nf : Nat} (v : Int32) (hro : r_ok K R N o ad) (hz : r_st K o ad I A I A Z M th) (hnf : Z 1 = nI nf) (hn : nf ≤ 120) : Met l yX9_segmentOf wsX9_segmentOf ({ frames := 1, cells := 0, slots := 0, locals := 22 } : Room) (va_Pc [.ref o, .int v] (m_B G K I R F A N L T J D)) (va_Qi (fun (r : Int32) (u : (Nat → Nat → Int32) × (Nat → Nat → Int32)) => (r_st K o ad I A u.1 u.2 Z M (t_segmentOf Z M v)) ∧ (t_segmentOf Z M v = 0 → r = M 14 v.toNatClampNeg)) (fun u : (Nat → Nat → Int32) × (Nat → Nat → Int32) => m_B G K (u.1) R F (u.2) N L T J D) (m_A G)) 0 0 (m_A G) := by
  refine Met.ofW (cc := cX9_segmentOf) (maxL := 2) (ret := (some .int)) (by decide) rfl ?_
  intro p e s m args below meth c s₁ B hml hv
  obtain ⟨rfl, hB⟩ := hv
  have hx := B.exec
  have hb := B.bytes
  have hr := B.returns
  have hts := atoms_spec (ws := wsX9_segmentOf) B.pre
  have hown : s.vm.findClass RX9 = some m.cls := findClass_of_methodNamed B.named
  have hlocks := B.notSynchronized
  have hw := m_wo_in hB
  have hl := lv_entry ([.ref o, .int v]) (n := 2) (Nat.le_of_ble_eq_true rfl)
  rw [lg_entry_eq]
  generalize (lg_sl ([.ref o, .int v]) ++ List.replicate (2 - (lg_sl ([.ref o, .int v])).length) Slot.unset).toArray = ls at hl ⊢
  have hl : lv_has ls 2 [(0, .ref o), (1, .int v)] := hl
  have his := hz
  refine lv_aload_n hx hb dX9_segmentOf_0 rfl (lv_at hl 0 rfl) ?_
  refine lv_iload_n hx hb dX9_segmentOf_1 rfl (lv_at hl 1 rfl) ?_
  refine lv_iconst (v := 0) hx hb dX9_segmentOf_2 (by decide) ?_
  refine lv_aload_n hx hb dX9_segmentOf_3 rfl (lv_at hl 0 rfl) ?_
  refine g_10_1 hx hb hts (by decide +kernel) hown hw hro.1 (hts (.fieldLink RX9 118 "PirateindexModel" "finds" "I") (by decide +kernel)) dX9_segmentOf_4 ?_
  rw [show I 1001 o = Z 1 from his.1 1 (by decide)]
  refine lv_iconst (v := 1) hx hb dX9_segmentOf_7 (by decide) ?_
  refine lv_isub hx hb dX9_segmentOf_8 ?_
  refine m_ci (va_runS (As := [.int v, .int 0, .int ((Z 1) - 1)]) (rest := [.ref o]) ⟨hx, hb, hml, hown, hts⟩ (c_X9_isIn l v 0 ((Z 1) - 1)) (va_cwS 3 hts gX9_segmentOf_X9_isIn rfl rfl rfl (by decide +kernel) ⟨Nat.le_of_ble_eq_true rfl, Nat.le_of_ble_eq_true rfl⟩) ⟨m_blind m_B_calling, fun U hU hW => ⟨rfl, m_wo_call hw hU hW⟩⟩ rfl rfl hl.1 rfl (lv_room (Nat.le_of_ble_eq_true rfl)) dX9_segmentOf_9 ⟨Nat.le_of_ble_eq_true rfl, Nat.le_of_ble_eq_true rfl⟩) hw (fun r_9 u_9 H locs hp_9 hw => ?_)
  obtain rfl : r_9 = (b2i (o_rng v 0 ((Z 1) - 1))) := hp_9
  refine lv_iconst (v := 1) hx hb dX9_segmentOf_12 (by decide) ?_
  refine m_ci (va_runV (As := [.int (b2i (o_rng v 0 ((Z 1) - 1))), .int 1]) (rest := []) ⟨hx, hb, hml, hown, hts⟩ (c_X9_no l (Z := Z) (M := M) (th := th) (o_rng v 0 ((Z 1) - 1)) 1 hro (r_st_self his) ) (cwV 2 hts gX9_segmentOf_X9_no rfl rfl rfl (by decide +kernel) ⟨Nat.le_of_ble_eq_true rfl, Nat.le_of_ble_eq_true rfl⟩) ⟨m_blind m_B_calling, m_recv hw (m_ent_10 hro.1) rfl, fun U hU hW => ⟨rfl, m_wo_call hw hU hW⟩⟩ rfl rfl hl.1 rfl (lv_room (Nat.le_of_ble_eq_true rfl)) dX9_segmentOf_13 ⟨Nat.le_of_ble_eq_true rfl, Nat.le_of_ble_eq_true rfl⟩) hw (fun r_13 u_13 H locs hp_13 hw => ?_)
  obtain ⟨I_1, A_2⟩ := u_13
  have hw : m_wo G K I_1 R F A_2 N L T J D s H locs := hw
  dsimp only at hp_13
  have his := r_st_tr his hp_13.1
  obtain rfl : r_13 = (b2i (!(o_rng v 0 ((Z 1) - 1)))) := hp_13.2
  refine lv_if_ne (tgt := 42) hx hb dX9_segmentOf_16 (by decide) (fun c_16 => ?_) (fun c_16 => ?_)
  · skip
    have q_16 : (o_rng v 0 ((Z 1) - 1)) = false := by first | (have := (b2i_ne _).mp c_16; simpa using this) | (have := (b2i_eq _).mp c_16; simpa using this)
    refine lv_iconst (v := 0) hx hb dX9_segmentOf_42 (by decide) ?_
    refine lv_goto (tgt := 52) hx hb dX9_segmentOf_43 (by decide) ?_
    exact W.iret (v := 0) hx hb hr (fun t ht hW => ⟨⟨0, (I_1, A_2), rfl, (by have ht : t_segmentOf Z M v = 1 := (by simp [t_segmentOf, q_16]); rw [ht]; exact ⟨by first | exact his | simpa [q_16] using his, fun h => absurd h (by decide)⟩), m_wo_out hw ht hW.alike⟩, m_wo_F hw ht⟩) (m_wo_L hw) dX9_segmentOf_52
  · skip
    have q_16 : (o_rng v 0 ((Z 1) - 1)) = true := by first | (have := (b2i_ne _).mp c_16; simpa using this) | (have := (b2i_eq _).mp c_16; simpa using this)
    obtain ⟨i, hi, hk⟩ := o_isl_nat (Z := fun _ => Z 1) q_16 hnf (by omega)
    refine lv_aload_n hx hb dX9_segmentOf_19 rfl (lv_at hl 0 rfl) ?_
    refine lv_aload_n hx hb dX9_segmentOf_20 rfl (lv_at hl 0 rfl) ?_
    refine g_10_14 (r := some (ad 14)) hx hb hts (by decide +kernel) hown hw hro.1 (hts (.fieldLink RX9 32 "PirateindexModel" "within" "[I") (by decide +kernel)) (hro.2.1 14 rfl).1 dX9_segmentOf_21 ?_
    refine lv_iload_n hx hb dX9_segmentOf_24 rfl (lv_at hl 1 rfl) ?_
    refine m_iaload_20 hx hb hw (hro.2.1 14 rfl).2.1 (by rw [show v = nI v.toNatClampNeg from by rw [hk, nI_clamp (by omega)]]; exact r_in hro 14 rfl (n := 120) rfl (show v.toNatClampNeg < 120 by rw [hk, nI_clamp (by omega)]; omega)) dX9_segmentOf_25 ?_
    rw [show A_2 (ad 14) = M 14 from his.2.1 14 rfl]
    refine lv_iconst (v := (-1)) hx hb dX9_segmentOf_26 (by decide) ?_
    refine lv_icmp_eq (tgt := 34) hx hb dX9_segmentOf_27 (by decide) (fun c_27 => ?_) (fun c_27 => ?_)
    · skip
      refine lv_iconst (v := 0) hx hb dX9_segmentOf_34 (by decide) ?_
      refine lv_iconst (v := 2) hx hb dX9_segmentOf_35 (by decide) ?_
      refine m_ci (va_runV (As := [.int 0, .int 2]) (rest := []) ⟨hx, hb, hml, hown, hts⟩ (c_X9_no l (Z := Z) (M := M) (th := (if (o_rng v 0 ((Z 1) - 1)) then 0 else 1)) false 2 hro (r_st_self his) ) (cwV 2 hts gX9_segmentOf_X9_no rfl rfl rfl (by decide +kernel) ⟨Nat.le_of_ble_eq_true rfl, Nat.le_of_ble_eq_true rfl⟩) ⟨m_blind m_B_calling, m_recv hw (m_ent_10 hro.1) rfl, fun U hU hW => ⟨rfl, m_wo_call hw hU hW⟩⟩ rfl rfl hl.1 rfl (lv_room (Nat.le_of_ble_eq_true rfl)) dX9_segmentOf_36 ⟨Nat.le_of_ble_eq_true rfl, Nat.le_of_ble_eq_true rfl⟩) hw (fun r_36 u_36 H locs hp_36 hw => ?_)
      obtain ⟨I_3, A_4⟩ := u_36
      have hw : m_wo G K I_3 R F A_4 N L T J D s H locs := hw
      dsimp only at hp_36
      have his := r_st_tr his hp_36.1
      obtain rfl : r_36 = (b2i (!false)) := hp_36.2
      refine lv_if_eq (tgt := 46) hx hb dX9_segmentOf_39 (by decide) (fun c_39 => absurd c_39 (by decide)) (fun c_39 => ?_)
      refine lv_iconst (v := 0) hx hb dX9_segmentOf_42 (by decide) ?_
      refine lv_goto (tgt := 52) hx hb dX9_segmentOf_43 (by decide) ?_
      exact W.iret (v := 0) hx hb hr (fun t ht hW => ⟨⟨0, (I_3, A_4), rfl, (by have ht : t_segmentOf Z M v = 2 := (by simp [t_segmentOf, q_16, c_27]); rw [ht]; exact ⟨by first | exact his | simpa [q_16, c_27] using his, fun h => absurd h (by decide)⟩), m_wo_out hw ht hW.alike⟩, m_wo_F hw ht⟩) (m_wo_L hw) dX9_segmentOf_52
    · skip
      refine lv_iconst (v := 1) hx hb dX9_segmentOf_30 (by decide) ?_
      refine lv_goto (tgt := 35) hx hb dX9_segmentOf_31 (by decide) ?_
      refine lv_iconst (v := 2) hx hb dX9_segmentOf_35 (by decide) ?_
      refine m_ci (va_runV (As := [.int 1, .int 2]) (rest := []) ⟨hx, hb, hml, hown, hts⟩ (c_X9_no l (Z := Z) (M := M) (th := (if (o_rng v 0 ((Z 1) - 1)) then 0 else 1)) true 2 hro (r_st_self his) ) (cwV 2 hts gX9_segmentOf_X9_no rfl rfl rfl (by decide +kernel) ⟨Nat.le_of_ble_eq_true rfl, Nat.le_of_ble_eq_true rfl⟩) ⟨m_blind m_B_calling, m_recv hw (m_ent_10 hro.1) rfl, fun U hU hW => ⟨rfl, m_wo_call hw hU hW⟩⟩ rfl rfl hl.1 rfl (lv_room (Nat.le_of_ble_eq_true rfl)) dX9_segmentOf_36 ⟨Nat.le_of_ble_eq_true rfl, Nat.le_of_ble_eq_true rfl⟩) hw (fun r_36 u_36 H locs hp_36 hw => ?_)
      obtain ⟨I_5, A_6⟩ := u_36
      have hw : m_wo G K I_5 R F A_6 N L T J D s H locs := hw
      dsimp only at hp_36
      have his := r_st_tr his hp_36.1
      obtain rfl : r_36 = (b2i (!true)) := hp_36.2
      refine lv_if_eq (tgt := 46) hx hb dX9_segmentOf_39 (by decide) (fun c_39 => ?_) (fun c_39 => absurd (by decide) c_39)
      refine lv_aload_n hx hb dX9_segmentOf_46 rfl (lv_at hl 0 rfl) ?_
      refine g_10_14 (r := some (ad 14)) hx hb hts (by decide +kernel) hown hw hro.1 (hts (.fieldLink RX9 32 "PirateindexModel" "within" "[I") (by decide +kernel)) (hro.2.1 14 rfl).1 dX9_segmentOf_47 ?_
      refine lv_iload_n hx hb dX9_segmentOf_50 rfl (lv_at hl 1 rfl) ?_
      refine m_iaload_20 hx hb hw (hro.2.1 14 rfl).2.1 (by rw [show v = nI v.toNatClampNeg from by rw [hk, nI_clamp (by omega)]]; exact r_in hro 14 rfl (n := 120) rfl (show v.toNatClampNeg < 120 by rw [hk, nI_clamp (by omega)]; omega)) dX9_segmentOf_51 ?_
      rw [show A_6 (ad 14) = M 14 from his.2.1 14 rfl]
      exact W.iret (v := (M 14 (v.toNatClampNeg))) hx hb hr (fun t ht hW => ⟨⟨(M 14 (v.toNatClampNeg)), (I_5, A_6), rfl, (by have ht : t_segmentOf Z M v = 0 := (by simp [t_segmentOf, q_16, c_27]); rw [ht]; exact ⟨by first | exact his | simpa [q_16, c_27] using his, fun _ => rfl⟩), m_wo_out hw ht hW.alike⟩, m_wo_F hw ht⟩) (m_wo_L hw) dX9_segmentOf_52

set_option maxHeartbeats 400000 in
set_option maxRecDepth 100000 in
theorem c_X9_postings (l : Launch) {G : mG} {K : Nat → Nat} {I : Nat → Nat → Int32} {R : Nat → Nat → Option Nat} {F : Nat → UInt32} {A : Nat → Nat → Int32} {N : Nat → Nat} {L : Nat → List Nat} {T : Nat → List Int32} {J : Nat → Nat → Int64} {D : Nat → Nat → UInt64} {o : Nat} {ad : Nat → Nat} {Z : Nat → Int32} {M : Nat → Nat → Int32} {th : Int32} {nf : Nat} (v : Int32) (hro : r_ok K R N o ad) (hz : r_st K o ad I A I A Z M th) (hnf : Z 1 = nI nf) (hn : nf ≤ 120) : Met l yX9_postings wsX9_postings ({ frames := 1, cells := 0, slots := 0, locals := 22 } : Room) (va_Pc [.ref o, .int v] (m_B G K I R F A N L T J D)) (va_Qi (fun (r : Int32) (u : (Nat → Nat → Int32) × (Nat → Nat → Int32)) => (r_st K o ad I A u.1 u.2 Z M (t_postings v)) ∧ (t_postings v = 0 → r = nI (cntB (fun f => o_pst M f v) nf))) (fun u : (Nat → Nat → Int32) × (Nat → Nat → Int32) => m_B G K (u.1) R F (u.2) N L T J D) (m_A G)) 0 0 (m_A G) := by
  refine Met.ofW (cc := cX9_postings) (maxL := 4) (ret := (some .int)) (by decide) rfl ?_
  intro p e s m args below meth c s₁ B hml hv
  obtain ⟨rfl, hB⟩ := hv
  have hx := B.exec
  have hb := B.bytes
  have hr := B.returns
  have hts := atoms_spec (ws := wsX9_postings) B.pre
  have hown : s.vm.findClass RX9 = some m.cls := findClass_of_methodNamed B.named
  have hlocks := B.notSynchronized
  have hw := m_wo_in hB
  have hl := lv_entry ([.ref o, .int v]) (n := 4) (Nat.le_of_ble_eq_true rfl)
  rw [lg_entry_eq]
  generalize (lg_sl ([.ref o, .int v]) ++ List.replicate (4 - (lg_sl ([.ref o, .int v])).length) Slot.unset).toArray = ls at hl ⊢
  have hl : lv_has ls 4 [(0, .ref o), (1, .int v)] := hl
  have his := hz
  refine lv_aload_n hx hb dX9_postings_0 rfl (lv_at hl 0 rfl) ?_
  refine lv_iload_n hx hb dX9_postings_1 rfl (lv_at hl 1 rfl) ?_
  refine lv_iconst (v := 0) hx hb dX9_postings_2 (by decide) ?_
  refine lv_bipush (v := 30) hx hb dX9_postings_3 (by decide) ?_
  refine m_ci (va_runS (As := [.int v, .int 0, .int 30]) (rest := [.ref o]) ⟨hx, hb, hml, hown, hts⟩ (c_X9_isIn l v 0 30) (va_cwS 3 hts gX9_postings_X9_isIn rfl rfl rfl (by decide +kernel) ⟨Nat.le_of_ble_eq_true rfl, Nat.le_of_ble_eq_true rfl⟩) ⟨m_blind m_B_calling, fun U hU hW => ⟨rfl, m_wo_call hw hU hW⟩⟩ rfl rfl hl.1 rfl (lv_room (Nat.le_of_ble_eq_true rfl)) dX9_postings_5 ⟨Nat.le_of_ble_eq_true rfl, Nat.le_of_ble_eq_true rfl⟩) hw (fun r_5 u_5 H locs hp_5 hw => ?_)
  obtain rfl : r_5 = (b2i (o_rng v 0 30)) := hp_5
  refine lv_iconst (v := 1) hx hb dX9_postings_8 (by decide) ?_
  refine m_ci (va_runV (As := [.int (b2i (o_rng v 0 30)), .int 1]) (rest := []) ⟨hx, hb, hml, hown, hts⟩ (c_X9_no l (Z := Z) (M := M) (th := th) (o_rng v 0 30) 1 hro (r_st_self his) ) (cwV 2 hts gX9_postings_X9_no rfl rfl rfl (by decide +kernel) ⟨Nat.le_of_ble_eq_true rfl, Nat.le_of_ble_eq_true rfl⟩) ⟨m_blind m_B_calling, m_recv hw (m_ent_10 hro.1) rfl, fun U hU hW => ⟨rfl, m_wo_call hw hU hW⟩⟩ rfl rfl hl.1 rfl (lv_room (Nat.le_of_ble_eq_true rfl)) dX9_postings_9 ⟨Nat.le_of_ble_eq_true rfl, Nat.le_of_ble_eq_true rfl⟩) hw (fun r_9 u_9 H locs hp_9 hw => ?_)
  obtain ⟨I_1, A_2⟩ := u_9
  have hw : m_wo G K I_1 R F A_2 N L T J D s H locs := hw
  dsimp only at hp_9
  have his := r_st_tr his hp_9.1
  obtain rfl : r_9 = (b2i (!(o_rng v 0 30))) := hp_9.2
  refine lv_if_eq (tgt := 17) hx hb dX9_postings_12 (by decide) (fun c_12 => ?_) (fun c_12 => ?_)
  · skip
    have q_12 : (o_rng v 0 30) = true := by first | (have := (b2i_ne _).mp c_12; simpa using this) | (have := (b2i_eq _).mp c_12; simpa using this)
    refine lv_iconst (v := 0) hx hb dX9_postings_17 (by decide) ?_
    refine lv_istore_n (lv' := [(2, .int 0), (0, .ref o), (1, .int v)]) hx hb dX9_postings_18 rfl hl (by decide) rfl (fun ls hl => ?_)
    refine lv_iconst (v := 0) hx hb dX9_postings_19 (by decide) ?_
    refine lv_istore_n (lv' := [(3, .int 0), (2, .int 0), (0, .ref o), (1, .int v)]) hx hb dX9_postings_20 rfl hl (by decide) rfl (fun ls hl => ?_)
    refine m_loop (σ := Nat × Int32) (fun a => nf - (a.1)) (fun a H locs ls => ((a.1) ≤ nf ∧ (a.2) = nI (cntB (fun f => o_pst M f v) (a.1))) ∧ m_wo G K I_1 R F A_2 N L T J D s H locs ∧ lv_has ls 4 [(0, .ref o), (1, .int v), (2, .int (a.2)), (3, .int (nI (a.1)))]) ?_ (0, 0) ⟨⟨Nat.zero_le _, rfl⟩, hw, lv_sub hl [2, 3, 1, 0] rfl⟩
    rintro ⟨i, x⟩ H locs ls ⟨hinv, hw, hl⟩ ih
    dsimp only at hinv hw hl
    refine lv_iload_n hx hb dX9_postings_21 rfl (lv_at hl 3 rfl) ?_
    refine lv_aload_n hx hb dX9_postings_22 rfl (lv_at hl 0 rfl) ?_
    refine g_10_1 hx hb hts (by decide +kernel) hown hw hro.1 (hts (.fieldLink RX9 118 "PirateindexModel" "finds" "I") (by decide +kernel)) dX9_postings_23 ?_
    rw [show I_1 1001 o = Z 1 from his.1 1 (by decide)]
    rw [hnf]
    refine lv_icmp_ge (tgt := 52) hx hb dX9_postings_26 (by decide) (fun c_26 => ?_) (fun c_26 => ?_)
    · skip
      rw [nI_leI (by omega) (by omega)] at c_26
      have hi : i = nf := by omega
      subst hi
      refine lv_iload_n hx hb dX9_postings_52 rfl (lv_at hl 2 rfl) ?_
      exact W.iret (v := x) hx hb hr (fun t ht hW => ⟨⟨x, (I_1, A_2), rfl, (by have ht : t_postings v = 0 := (by simp [t_postings, q_12]); rw [ht]; exact ⟨by first | exact his | simpa [q_12] using his, fun _ => hinv.2⟩), m_wo_out hw ht hW.alike⟩, m_wo_F hw ht⟩) (m_wo_L hw) dX9_postings_53
    · skip
      rw [nI_leI (by omega) (by omega)] at c_26
      have hi : i < nf := by omega
      refine lv_iload_n hx hb dX9_postings_29 rfl (lv_at hl 2 rfl) ?_
      refine lv_aload_n hx hb dX9_postings_30 rfl (lv_at hl 0 rfl) ?_
      refine lv_iload_n hx hb dX9_postings_31 rfl (lv_at hl 3 rfl) ?_
      refine lv_iload_n hx hb dX9_postings_32 rfl (lv_at hl 1 rfl) ?_
      refine m_ci (va_runV (As := [.int (nI i), .int v]) (rest := [.int x]) ⟨hx, hb, hml, hown, hts⟩ (c_X9_isPosting l (Z := Z) (M := M) (th := (if (o_rng v 0 30) then 0 else 1)) i v hro (r_st_self his) (by omega)) (cwV 2 hts gX9_postings_X9_isPosting rfl rfl rfl (by decide +kernel) ⟨Nat.le_of_ble_eq_true rfl, Nat.le_of_ble_eq_true rfl⟩) ⟨m_blind m_B_calling, m_recv hw (m_ent_10 hro.1) rfl, fun U hU hW => ⟨rfl, m_wo_call hw hU hW⟩⟩ rfl rfl hl.1 rfl (lv_room (Nat.le_of_ble_eq_true rfl)) dX9_postings_33 ⟨Nat.le_of_ble_eq_true rfl, Nat.le_of_ble_eq_true rfl⟩) hw (fun r_33 u_33 H locs hp_33 hw => ?_)
      obtain rfl : r_33 = (b2i (o_pst M i v)) := hp_33
      refine lv_if_eq (tgt := 43) hx hb dX9_postings_36 (by decide) (fun c_36 => ?_) (fun c_36 => ?_)
      · skip
        have q_36 : (o_pst M i v) = false := by first | (have := (b2i_ne _).mp c_36; simpa using this) | (have := (b2i_eq _).mp c_36; simpa using this)
        refine lv_iconst (v := 0) hx hb dX9_postings_43 (by decide) ?_
        refine lv_iadd hx hb dX9_postings_44 ?_
        refine lv_istore_n (lv' := [(2, .int (x + 0)), (0, .ref o), (1, .int v), (3, .int (nI i))]) hx hb dX9_postings_45 rfl hl (by decide) rfl (fun ls hl => ?_)
        refine lv_iinc (v := nI (i + 1)) (lv' := [(3, .int (nI (i + 1))), (2, .int (x + 0)), (0, .ref o), (1, .int v)]) hx hb dX9_postings_46 hl (k := 3) rfl (nI_1 _) (by decide) rfl (fun ls hl => ?_)
        refine lv_goto (tgt := 21) hx hb dX9_postings_49 (by decide) ?_
        exact ih (i + 1, (x + 0)) _ _ _ (by dsimp only; omega) ⟨⟨by omega, cntB_step hinv.2 q_36⟩, hw, lv_sub hl [2, 3, 1, 0] rfl⟩
      · skip
        have q_36 : (o_pst M i v) = true := by first | (have := (b2i_ne _).mp c_36; simpa using this) | (have := (b2i_eq _).mp c_36; simpa using this)
        refine lv_iconst (v := 1) hx hb dX9_postings_39 (by decide) ?_
        refine lv_goto (tgt := 44) hx hb dX9_postings_40 (by decide) ?_
        refine lv_iadd hx hb dX9_postings_44 ?_
        refine lv_istore_n (lv' := [(2, .int (x + 1)), (0, .ref o), (1, .int v), (3, .int (nI i))]) hx hb dX9_postings_45 rfl hl (by decide) rfl (fun ls hl => ?_)
        refine lv_iinc (v := nI (i + 1)) (lv' := [(3, .int (nI (i + 1))), (2, .int (x + 1)), (0, .ref o), (1, .int v)]) hx hb dX9_postings_46 hl (k := 3) rfl (nI_1 _) (by decide) rfl (fun ls hl => ?_)
        refine lv_goto (tgt := 21) hx hb dX9_postings_49 (by decide) ?_
        exact ih (i + 1, (x + 1)) _ _ _ (by dsimp only; omega) ⟨⟨by omega, cntB_step hinv.2 q_36⟩, hw, lv_sub hl [2, 3, 1, 0] rfl⟩
  · skip
    have q_12 : (o_rng v 0 30) = false := by first | (have := (b2i_ne _).mp c_12; simpa using this) | (have := (b2i_eq _).mp c_12; simpa using this)
    refine lv_iconst (v := 0) hx hb dX9_postings_15 (by decide) ?_
    exact W.iret (v := 0) hx hb hr (fun t ht hW => ⟨⟨0, (I_1, A_2), rfl, (by have ht : t_postings v = 1 := (by simp [t_postings, q_12]); rw [ht]; exact ⟨by first | exact his | simpa [q_12] using his, fun h => absurd h (by decide)⟩), m_wo_out hw ht hW.alike⟩, m_wo_F hw ht⟩) (m_wo_L hw) dX9_postings_16

set_option maxHeartbeats 400000 in
set_option maxRecDepth 100000 in
theorem c_X9_ahead (l : Launch) {G : mG} {K : Nat → Nat} {I : Nat → Nat → Int32} {R : Nat → Nat → Option Nat} {F : Nat → UInt32} {A : Nat → Nat → Int32} {N : Nat → Nat} {L : Nat → List Nat} {T : Nat → List Int32} {J : Nat → Nat → Int64} {D : Nat → Nat → UInt64} {o : Nat} {ad : Nat → Nat} {Z : Nat → Int32} {M : Nat → Nat → Int32} {th : Int32} (f k : Nat) (hro : r_ok K R N o ad) (hz : r_st K o ad I A I A Z M th) (hf : f < 120) (hk : k < 120) : Met l yX9_ahead wsX9_ahead ({ frames := 0, cells := 0, slots := 0, locals := 0 } : Room) (va_Pc [.ref o, .int (nI f), .int (nI k)] (m_B G K I R F A N L T J D)) (va_Qi (fun (r : Int32) (_ : Unit) => r = b2i (o_ahead M f k)) (fun u : Unit => m_B G K I R F A N L T J D) (m_A G)) 0 0 (m_A G) := by
  refine Met.ofW (cc := cX9_ahead) (maxL := 3) (ret := (some .boolean)) (by decide) rfl ?_
  intro p e s m args below meth c s₁ B hml hv
  obtain ⟨rfl, hB⟩ := hv
  have hx := B.exec
  have hb := B.bytes
  have hr := B.returns
  have hts := atoms_spec (ws := wsX9_ahead) B.pre
  have hown : s.vm.findClass RX9 = some m.cls := findClass_of_methodNamed B.named
  have hlocks := B.notSynchronized
  have hw := m_wo_in hB
  have hl := lv_entry ([.ref o, .int (nI f), .int (nI k)]) (n := 3) (Nat.le_of_ble_eq_true rfl)
  rw [lg_entry_eq]
  generalize (lg_sl ([.ref o, .int (nI f), .int (nI k)]) ++ List.replicate (3 - (lg_sl ([.ref o, .int (nI f), .int (nI k)])).length) Slot.unset).toArray = ls at hl ⊢
  have hl : lv_has ls 3 [(0, .ref o), (1, .int (nI f)), (2, .int (nI k))] := hl
  have his := hz
  refine lv_aload_n hx hb dX9_ahead_0 rfl (lv_at hl 0 rfl) ?_
  refine g_10_12 (r := some (ad 12)) hx hb hts (by decide +kernel) hown hw hro.1 (hts (.fieldLink RX9 26 "PirateindexModel" "on" "[I") (by decide +kernel)) (hro.2.1 12 rfl).1 dX9_ahead_1 ?_
  refine lv_iload_n hx hb dX9_ahead_4 rfl (lv_at hl 1 rfl) ?_
  refine m_iaload_20 hx hb hw (hro.2.1 12 rfl).2.1 (r_in hro 12 rfl (n := 120) rfl (by omega)) dX9_ahead_5 ?_
  rw [show A (ad 12) = M 12 from his.2.1 12 rfl]
  rw [nI_clamp (show f < 2 ^ 31 by omega)]
  refine lv_aload_n hx hb dX9_ahead_6 rfl (lv_at hl 0 rfl) ?_
  refine g_10_12 (r := some (ad 12)) hx hb hts (by decide +kernel) hown hw hro.1 (hts (.fieldLink RX9 26 "PirateindexModel" "on" "[I") (by decide +kernel)) (hro.2.1 12 rfl).1 dX9_ahead_7 ?_
  refine lv_iload_n hx hb dX9_ahead_10 rfl (lv_at hl 2 rfl) ?_
  refine m_iaload_20 hx hb hw (hro.2.1 12 rfl).2.1 (r_in hro 12 rfl (n := 120) rfl (by omega)) dX9_ahead_11 ?_
  rw [show A (ad 12) = M 12 from his.2.1 12 rfl]
  rw [nI_clamp (show k < 2 ^ 31 by omega)]
  refine lv_icmp_eq (tgt := 36) hx hb dX9_ahead_12 (by decide) (fun c_12 => ?_) (fun c_12 => ?_)
  · skip
    refine lv_aload_n hx hb dX9_ahead_36 rfl (lv_at hl 0 rfl) ?_
    refine g_10_13 (r := some (ad 13)) hx hb hts (by decide +kernel) hown hw hro.1 (hts (.fieldLink RX9 29 "PirateindexModel" "places" "[I") (by decide +kernel)) (hro.2.1 13 rfl).1 dX9_ahead_37 ?_
    refine lv_iload_n hx hb dX9_ahead_40 rfl (lv_at hl 1 rfl) ?_
    refine m_iaload_20 hx hb hw (hro.2.1 13 rfl).2.1 (r_in hro 13 rfl (n := 120) rfl (by omega)) dX9_ahead_41 ?_
    rw [show A (ad 13) = M 13 from his.2.1 13 rfl]
    rw [nI_clamp (show f < 2 ^ 31 by omega)]
    refine lv_aload_n hx hb dX9_ahead_42 rfl (lv_at hl 0 rfl) ?_
    refine g_10_13 (r := some (ad 13)) hx hb hts (by decide +kernel) hown hw hro.1 (hts (.fieldLink RX9 29 "PirateindexModel" "places" "[I") (by decide +kernel)) (hro.2.1 13 rfl).1 dX9_ahead_43 ?_
    refine lv_iload_n hx hb dX9_ahead_46 rfl (lv_at hl 2 rfl) ?_
    refine m_iaload_20 hx hb hw (hro.2.1 13 rfl).2.1 (r_in hro 13 rfl (n := 120) rfl (by omega)) dX9_ahead_47 ?_
    rw [show A (ad 13) = M 13 from his.2.1 13 rfl]
    rw [nI_clamp (show k < 2 ^ 31 by omega)]
    refine lv_icmp_eq (tgt := 74) hx hb dX9_ahead_48 (by decide) (fun c_48 => ?_) (fun c_48 => ?_)
    · skip
      refine lv_iload_n hx hb dX9_ahead_74 rfl (lv_at hl 1 rfl) ?_
      refine lv_iload_n hx hb dX9_ahead_75 rfl (lv_at hl 2 rfl) ?_
      refine lv_icmp_ge (tgt := 83) hx hb dX9_ahead_76 (by decide) (fun c_76 => ?_) (fun c_76 => ?_)
      · skip
        have h76 : ¬ f < k := by have h9 := c_76; rw [nI_leI (by omega) (by omega)] at h9; omega
        refine lv_iconst (v := 0) hx hb dX9_ahead_83 (by decide) ?_
        exact W.zret (v := 0) hx hb hr (by rfl) (fun t ht hW => ⟨⟨0, (), rfl, (by simp [o_ahead, b2i, c_12, c_48, h76]), m_wo_out hw ht hW.alike⟩, m_wo_F hw ht⟩) (m_wo_L hw) dX9_ahead_84
      · skip
        have h76 : f < k := by have h9 := c_76; rw [nI_leI (by omega) (by omega)] at h9; omega
        refine lv_iconst (v := 1) hx hb dX9_ahead_79 (by decide) ?_
        refine lv_goto (tgt := 84) hx hb dX9_ahead_80 (by decide) ?_
        exact W.zret (v := 1) hx hb hr (by rfl) (fun t ht hW => ⟨⟨1, (), rfl, (by simp [o_ahead, b2i, c_12, c_48, h76]), m_wo_out hw ht hW.alike⟩, m_wo_F hw ht⟩) (m_wo_L hw) dX9_ahead_84
    · skip
      refine lv_aload_n hx hb dX9_ahead_51 rfl (lv_at hl 0 rfl) ?_
      refine g_10_13 (r := some (ad 13)) hx hb hts (by decide +kernel) hown hw hro.1 (hts (.fieldLink RX9 29 "PirateindexModel" "places" "[I") (by decide +kernel)) (hro.2.1 13 rfl).1 dX9_ahead_52 ?_
      refine lv_iload_n hx hb dX9_ahead_55 rfl (lv_at hl 1 rfl) ?_
      refine m_iaload_20 hx hb hw (hro.2.1 13 rfl).2.1 (r_in hro 13 rfl (n := 120) rfl (by omega)) dX9_ahead_56 ?_
      rw [show A (ad 13) = M 13 from his.2.1 13 rfl]
      rw [nI_clamp (show f < 2 ^ 31 by omega)]
      refine lv_aload_n hx hb dX9_ahead_57 rfl (lv_at hl 0 rfl) ?_
      refine g_10_13 (r := some (ad 13)) hx hb hts (by decide +kernel) hown hw hro.1 (hts (.fieldLink RX9 29 "PirateindexModel" "places" "[I") (by decide +kernel)) (hro.2.1 13 rfl).1 dX9_ahead_58 ?_
      refine lv_iload_n hx hb dX9_ahead_61 rfl (lv_at hl 2 rfl) ?_
      refine m_iaload_20 hx hb hw (hro.2.1 13 rfl).2.1 (r_in hro 13 rfl (n := 120) rfl (by omega)) dX9_ahead_62 ?_
      rw [show A (ad 13) = M 13 from his.2.1 13 rfl]
      rw [nI_clamp (show k < 2 ^ 31 by omega)]
      refine lv_icmp_ge (tgt := 70) hx hb dX9_ahead_63 (by decide) (fun c_63 => ?_) (fun c_63 => ?_)
      · skip
        refine lv_iconst (v := 0) hx hb dX9_ahead_70 (by decide) ?_
        refine lv_goto (tgt := 84) hx hb dX9_ahead_71 (by decide) ?_
        exact W.zret (v := 0) hx hb hr (by rfl) (fun t ht hW => ⟨⟨0, (), rfl, (by simp [o_ahead, b2i, c_12, c_48, c_63]), m_wo_out hw ht hW.alike⟩, m_wo_F hw ht⟩) (m_wo_L hw) dX9_ahead_84
      · skip
        refine lv_iconst (v := 1) hx hb dX9_ahead_66 (by decide) ?_
        refine lv_goto (tgt := 84) hx hb dX9_ahead_67 (by decide) ?_
        exact W.zret (v := 1) hx hb hr (by rfl) (fun t ht hW => ⟨⟨1, (), rfl, (by simp [o_ahead, b2i, c_12, c_48, c_63]), m_wo_out hw ht hW.alike⟩, m_wo_F hw ht⟩) (m_wo_L hw) dX9_ahead_84
  · skip
    refine lv_aload_n hx hb dX9_ahead_15 rfl (lv_at hl 0 rfl) ?_
    refine g_10_12 (r := some (ad 12)) hx hb hts (by decide +kernel) hown hw hro.1 (hts (.fieldLink RX9 26 "PirateindexModel" "on" "[I") (by decide +kernel)) (hro.2.1 12 rfl).1 dX9_ahead_16 ?_
    refine lv_iload_n hx hb dX9_ahead_19 rfl (lv_at hl 1 rfl) ?_
    refine m_iaload_20 hx hb hw (hro.2.1 12 rfl).2.1 (r_in hro 12 rfl (n := 120) rfl (by omega)) dX9_ahead_20 ?_
    rw [show A (ad 12) = M 12 from his.2.1 12 rfl]
    rw [nI_clamp (show f < 2 ^ 31 by omega)]
    refine lv_aload_n hx hb dX9_ahead_21 rfl (lv_at hl 0 rfl) ?_
    refine g_10_12 (r := some (ad 12)) hx hb hts (by decide +kernel) hown hw hro.1 (hts (.fieldLink RX9 26 "PirateindexModel" "on" "[I") (by decide +kernel)) (hro.2.1 12 rfl).1 dX9_ahead_22 ?_
    refine lv_iload_n hx hb dX9_ahead_25 rfl (lv_at hl 2 rfl) ?_
    refine m_iaload_20 hx hb hw (hro.2.1 12 rfl).2.1 (r_in hro 12 rfl (n := 120) rfl (by omega)) dX9_ahead_26 ?_
    rw [show A (ad 12) = M 12 from his.2.1 12 rfl]
    rw [nI_clamp (show k < 2 ^ 31 by omega)]
    refine lv_icmp_ge (tgt := 34) hx hb dX9_ahead_27 (by decide) (fun c_27 => ?_) (fun c_27 => ?_)
    · skip
      refine lv_iconst (v := 0) hx hb dX9_ahead_34 (by decide) ?_
      exact W.zret (v := 0) hx hb hr (by rfl) (fun t ht hW => ⟨⟨0, (), rfl, (by simp [o_ahead, b2i, c_12, c_27]), m_wo_out hw ht hW.alike⟩, m_wo_F hw ht⟩) (m_wo_L hw) dX9_ahead_35
    · skip
      refine lv_iconst (v := 1) hx hb dX9_ahead_30 (by decide) ?_
      refine lv_goto (tgt := 35) hx hb dX9_ahead_31 (by decide) ?_
      exact W.zret (v := 1) hx hb hr (by rfl) (fun t ht hW => ⟨⟨1, (), rfl, (by simp [o_ahead, b2i, c_12, c_27]), m_wo_out hw ht hW.alike⟩, m_wo_F hw ht⟩) (m_wo_L hw) dX9_ahead_35

