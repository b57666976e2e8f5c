set_option maxHeartbeats 400000 in
set_option maxRecDepth 100000 in
theorem c_X9_segmentOf (l : Launch) {G : mG} {K : Nat → Nat} {I : Nat → Nat → Int32} {R : Nat → Nat → Option Nat} {F : Nat → UInt32} {A : Nat → Nat → Int32} {N : Nat → Nat} {L : Nat → List Nat} {T : Nat → List Int32} {J : Nat → Nat → Int64} {D : Nat → Nat → UInt64} {o : Nat} {ad : Nat → Nat} {Z : Nat → Int32} {M : Nat → Nat → Int32} {th : Int32} {nf : Nat} (v : Int32) (hro : r_ok K R N o ad) (hz : r_st K o ad I A I A Z M th) (hnf : Z 1 = nI nf) (hn : nf ≤ 120) : Met l yX9_segmentOf wsX9_segmentOf ({ frames := 1, cells := 0, slots := 0, locals := 22 } : Room) (va_Pc [.ref o, .int v] (m_B G K I R F A N L T J D)) (va_Qi (fun (r : Int32) (u : (Nat → Nat → Int32) × (Nat → Nat → Int32)) => (r_st K o ad I A u.1 u.2 Z M (t_segmentOf Z M v)) ∧ (t_segmentOf Z M v = 0 → r = M 14 v.toNatClampNeg)) (fun u : (Nat → Nat → Int32) × (Nat → Nat → Int32) => m_B G K (u.1) R F (u.2) N L T J D) (m_A G)) 0 0 (m_A G) := by
  refine Met.ofW (cc := cX9_segmentOf) (maxL := 2) (ret := (some .int)) (by decide) rfl ?_
  intro p e s m args below meth c s₁ B hml hv
  obtain ⟨rfl, hB⟩ := hv
  have hx := B.exec
  have hb := B.bytes
  have hr := B.returns
  have hts := atoms_spec (ws := wsX9_segmentOf) B.pre
  have hown : s.vm.findClass RX9 = some m.cls := findClass_of_methodNamed B.named
  have hlocks := B.notSynchronized
  have hw := m_wo_in hB
  have hl := lv_entry ([.ref o, .int v]) (n := 2) (Nat.le_of_ble_eq_true rfl)
  rw [lg_entry_eq]
  generalize (lg_sl ([.ref o, .int v]) ++ List.replicate (2 - (lg_sl ([.ref o, .int v])).length) Slot.unset).toArray = ls at hl ⊢
  have hl : lv_has ls 2 [(0, .ref o), (1, .int v)] := hl
  have his := hz
  refine lv_aload_n hx hb dX9_segmentOf_0 rfl (lv_at hl 0 rfl) ?_
  refine lv_iload_n hx hb dX9_segmentOf_1 rfl (lv_at hl 1 rfl) ?_
  refine lv_iconst (v := 0) hx hb dX9_segmentOf_2 (by decide) ?_
  refine lv_aload_n hx hb dX9_segmentOf_3 rfl (lv_at hl 0 rfl) ?_
  refine g_10_1 hx hb hts (by decide +kernel) hown hw hro.1 (hts (.fieldLink RX9 118 "PirateindexModel" "finds" "I") (by decide +kernel)) dX9_segmentOf_4 ?_
  rw [show I 1001 o = Z 1 from his.1 1 (by decide)]
  refine lv_iconst (v := 1) hx hb dX9_segmentOf_7 (by decide) ?_
  refine lv_isub hx hb dX9_segmentOf_8 ?_
  refine m_ci (va_runS (As := [.int v, .int 0, .int ((Z 1) - 1)]) (rest := [.ref o]) ⟨hx, hb, hml, hown, hts⟩ (c_X9_isIn l v 0 ((Z 1) - 1)) (va_cwS 3 hts gX9_segmentOf_X9_isIn rfl rfl rfl (by decide +kernel) ⟨Nat.le_of_ble_eq_true rfl, Nat.le_of_ble_eq_true rfl⟩) ⟨m_blind m_B_calling, fun U hU hW => ⟨rfl, m_wo_call hw hU hW⟩⟩ rfl rfl hl.1 rfl (lv_room (Nat.le_of_ble_eq_true rfl)) dX9_segmentOf_9 ⟨Nat.le_of_ble_eq_true rfl, Nat.le_of_ble_eq_true rfl⟩) hw (fun r_9 u_9 H locs hp_9 hw => ?_)
  obtain rfl : r_9 = (b2i (o_rng v 0 ((Z 1) - 1))) := hp_9
  refine lv_iconst (v := 1) hx hb dX9_segmentOf_12 (by decide) ?_
  refine m_ci (va_runV (As := [.int (b2i (o_rng v 0 ((Z 1) - 1))), .int 1]) (rest := []) ⟨hx, hb, hml, hown, hts⟩ (c_X9_no l (Z := Z) (M := M) (th := th) (o_rng v 0 ((Z 1) - 1)) 1 hro (r_st_self his) ) (cwV 2 hts gX9_segmentOf_X9_no rfl rfl rfl (by decide +kernel) ⟨Nat.le_of_ble_eq_true rfl, Nat.le_of_ble_eq_true rfl⟩) ⟨m_blind m_B_calling, m_recv hw (m_ent_10 hro.1) rfl, fun U hU hW => ⟨rfl, m_wo_call hw hU hW⟩⟩ rfl rfl hl.1 rfl (lv_room (Nat.le_of_ble_eq_true rfl)) dX9_segmentOf_13 ⟨Nat.le_of_ble_eq_true rfl, Nat.le_of_ble_eq_true rfl⟩) hw (fun r_13 u_13 H locs hp_13 hw => ?_)
  obtain ⟨I_1, A_2⟩ := u_13
  have hw : m_wo G K I_1 R F A_2 N L T J D s H locs := hw
  dsimp only at hp_13
  have his := r_st_tr his hp_13.1
  obtain rfl : r_13 = (b2i (!(o_rng v 0 ((Z 1) - 1)))) := hp_13.2
  refine lv_if_ne (tgt := 42) hx hb dX9_segmentOf_16 (by decide) (fun c_16 => ?_) (fun c_16 => ?_)
  · skip
    have q_16 : (o_rng v 0 ((Z 1) - 1)) = false := by first | (have := (b2i_ne _).mp c_16; simpa using this) | (have := (b2i_eq _).mp c_16; simpa using this)
    refine lv_iconst (v := 0) hx hb dX9_segmentOf_42 (by decide) ?_
    refine lv_goto (tgt := 52) hx hb dX9_segmentOf_43 (by decide) ?_
    exact W.iret (v := 0) hx hb hr (fun t ht hW => ⟨⟨0, (I_1, A_2), rfl, (by have ht : t_segmentOf Z M v = 1 := (by simp [t_segmentOf, q_16]); rw [ht]; exact ⟨by first | exact his | simpa [q_16] using his, fun h => absurd h (by decide)⟩), m_wo_out hw ht hW.alike⟩, m_wo_F hw ht⟩) (m_wo_L hw) dX9_segmentOf_52
  · skip
    have q_16 : (o_rng v 0 ((Z 1) - 1)) = true := by first | (have := (b2i_ne _).mp c_16; simpa using this) | (have := (b2i_eq _).mp c_16; simpa using this)
    obtain ⟨i, hi, hk⟩ := o_isl_nat (Z := fun _ => Z 1) q_16 hnf (by omega)
    refine lv_aload_n hx hb dX9_segmentOf_19 rfl (lv_at hl 0 rfl) ?_
    refine lv_aload_n hx hb dX9_segmentOf_20 rfl (lv_at hl 0 rfl) ?_
    refine g_10_14 (r := some (ad 14)) hx hb hts (by decide +kernel) hown hw hro.1 (hts (.fieldLink RX9 32 "PirateindexModel" "within" "[I") (by decide +kernel)) (hro.2.1 14 rfl).1 dX9_segmentOf_21 ?_
    refine lv_iload_n hx hb dX9_segmentOf_24 rfl (lv_at hl 1 rfl) ?_
    refine m_iaload_20 hx hb hw (hro.2.1 14 rfl).2.1 (by rw [show v = nI v.toNatClampNeg from by rw [hk, nI_clamp (by omega)]]; exact r_in hro 14 rfl (n := 120) rfl (show v.toNatClampNeg < 120 by rw [hk, nI_clamp (by omega)]; omega)) dX9_segmentOf_25 ?_
    rw [show A_2 (ad 14) = M 14 from his.2.1 14 rfl]
    refine lv_iconst (v := (-1)) hx hb dX9_segmentOf_26 (by decide) ?_
    refine lv_icmp_eq (tgt := 34) hx hb dX9_segmentOf_27 (by decide) (fun c_27 => ?_) (fun c_27 => ?_)
    · skip
      refine lv_iconst (v := 0) hx hb dX9_segmentOf_34 (by decide) ?_
      refine lv_iconst (v := 2) hx hb dX9_segmentOf_35 (by decide) ?_
      refine m_ci (va_runV (As := [.int 0, .int 2]) (rest := []) ⟨hx, hb, hml, hown, hts⟩ (c_X9_no l (Z := Z) (M := M) (th := (if (o_rng v 0 ((Z 1) - 1)) then 0 else 1)) false 2 hro (r_st_self his) ) (cwV 2 hts gX9_segmentOf_X9_no rfl rfl rfl (by decide +kernel) ⟨Nat.le_of_ble_eq_true rfl, Nat.le_of_ble_eq_true rfl⟩) ⟨m_blind m_B_calling, m_recv hw (m_ent_10 hro.1) rfl, fun U hU hW => ⟨rfl, m_wo_call hw hU hW⟩⟩ rfl rfl hl.1 rfl (lv_room (Nat.le_of_ble_eq_true rfl)) dX9_segmentOf_36 ⟨Nat.le_of_ble_eq_true rfl, Nat.le_of_ble_eq_true rfl⟩) hw (fun r_36 u_36 H locs hp_36 hw => ?_)
      obtain ⟨I_3, A_4⟩ := u_36
      have hw : m_wo G K I_3 R F A_4 N L T J D s H locs := hw
      dsimp only at hp_36
      have his := r_st_tr his hp_36.1
      obtain rfl : r_36 = (b2i (!false)) := hp_36.2
      refine lv_if_eq (tgt := 46) hx hb dX9_segmentOf_39 (by decide) (fun c_39 => absurd c_39 (by decide)) (fun c_39 => ?_)
      refine lv_iconst (v := 0) hx hb dX9_segmentOf_42 (by decide) ?_
      refine lv_goto (tgt := 52) hx hb dX9_segmentOf_43 (by decide) ?_
      exact W.iret (v := 0) hx hb hr (fun t ht hW => ⟨⟨0, (I_3, A_4), rfl, (by have ht : t_segmentOf Z M v = 2 := (by simp [t_segmentOf, q_16, c_27]); rw [ht]; exact ⟨by first | exact his | simpa [q_16, c_27] using his, fun h => absurd h (by decide)⟩), m_wo_out hw ht hW.alike⟩, m_wo_F hw ht⟩) (m_wo_L hw) dX9_segmentOf_52
    · skip
      refine lv_iconst (v := 1) hx hb dX9_segmentOf_30 (by decide) ?_
      refine lv_goto (tgt := 35) hx hb dX9_segmentOf_31 (by decide) ?_
      refine lv_iconst (v := 2) hx hb dX9_segmentOf_35 (by decide) ?_
      refine m_ci (va_runV (As := [.int 1, .int 2]) (rest := []) ⟨hx, hb, hml, hown, hts⟩ (c_X9_no l (Z := Z) (M := M) (th := (if (o_rng v 0 ((Z 1) - 1)) then 0 else 1)) true 2 hro (r_st_self his) ) (cwV 2 hts gX9_segmentOf_X9_no rfl rfl rfl (by decide +kernel) ⟨Nat.le_of_ble_eq_true rfl, Nat.le_of_ble_eq_true rfl⟩) ⟨m_blind m_B_calling, m_recv hw (m_ent_10 hro.1) rfl, fun U hU hW => ⟨rfl, m_wo_call hw hU hW⟩⟩ rfl rfl hl.1 rfl (lv_room (Nat.le_of_ble_eq_true rfl)) dX9_segmentOf_36 ⟨Nat.le_of_ble_eq_true rfl, Nat.le_of_ble_eq_true rfl⟩) hw (fun r_36 u_36 H locs hp_36 hw => ?_)
      obtain ⟨I_5, A_6⟩ := u_36
      have hw : m_wo G K I_5 R F A_6 N L T J D s H locs := hw
      dsimp only at hp_36
      have his := r_st_tr his hp_36.1
      obtain rfl : r_36 = (b2i (!true)) := hp_36.2
      refine lv_if_eq (tgt := 46) hx hb dX9_segmentOf_39 (by decide) (fun c_39 => ?_) (fun c_39 => absurd (by decide) c_39)
      refine lv_aload_n hx hb dX9_segmentOf_46 rfl (lv_at hl 0 rfl) ?_
      refine g_10_14 (r := some (ad 14)) hx hb hts (by decide +kernel) hown hw hro.1 (hts (.fieldLink RX9 32 "PirateindexModel" "within" "[I") (by decide +kernel)) (hro.2.1 14 rfl).1 dX9_segmentOf_47 ?_
      refine lv_iload_n hx hb dX9_segmentOf_50 rfl (lv_at hl 1 rfl) ?_
      refine m_iaload_20 hx hb hw (hro.2.1 14 rfl).2.1 (by rw [show v = nI v.toNatClampNeg from by rw [hk, nI_clamp (by omega)]]; exact r_in hro 14 rfl (n := 120) rfl (show v.toNatClampNeg < 120 by rw [hk, nI_clamp (by omega)]; omega)) dX9_segmentOf_51 ?_
      rw [show A_6 (ad 14) = M 14 from his.2.1 14 rfl]
      exact W.iret (v := (M 14 (v.toNatClampNeg))) hx hb hr (fun t ht hW => ⟨⟨(M 14 (v.toNatClampNeg)), (I_5, A_6), rfl, (by have ht : t_segmentOf Z M v = 0 := (by simp [t_segmentOf, q_16, c_27]); rw [ht]; exact ⟨by first | exact his | simpa [q_16, c_27] using his, fun _ => rfl⟩), m_wo_out hw ht hW.alike⟩, m_wo_F hw ht⟩) (m_wo_L hw) dX9_segmentOf_52

set_option maxHeartbeats 400000 in
set_option maxRecDepth 100000 in
theorem c_X9_postings (l : Launch) {G : mG} {K : Nat → Nat} {I : Nat → Nat → Int32} {R : Nat → Nat → Option Nat} {F : Nat → UInt32} {A : Nat → Nat → Int32} {N : Nat → Nat} {L : Nat → List Nat} {T : Nat → List Int32} {J : Nat → Nat → Int64} {D : Nat → Nat → UInt64} {o : Nat} {ad : Nat → Nat} {Z : Nat → Int32} {M : Nat → Nat → Int32} {th : Int32} {nf : Nat} (v : Int32) (hro : r_ok K R N o ad) (hz : r_st K o ad I A I A Z M th) (hnf : Z 1 = nI nf) (hn : nf ≤ 120) : Met l yX9_postings wsX9_postings ({ frames := 1, cells := 0, slots := 0, locals := 22 } : Room) (va_Pc [.ref o, .int v] (m_B G K I R F A N L T J D)) (va_Qi (fun (r : Int32) (u : (Nat → Nat → Int32) × (Nat → Nat → Int32)) => (r_st K o ad I A u.1 u.2 Z M (t_postings v)) ∧ (t_postings v = 0 → r = nI (cntB (fun f => o_pst M f v) nf))) (fun u : (Nat → Nat → Int32) × (Nat → Nat → Int32) => m_B G K (u.1) R F (u.2) N L T J D) (m_A G)) 0 0 (m_A G) := by
  refine Met.ofW (cc := cX9_postings) (maxL := 4) (ret := (some .int)) (by decide) rfl ?_
  intro p e s m args below meth c s₁ B hml hv
  obtain ⟨rfl, hB⟩ := hv
  have hx := B.exec
  have hb := B.bytes
  have hr := B.returns
  have hts := atoms_spec (ws := wsX9_postings) B.pre
  have hown : s.vm.findClass RX9 = some m.cls := findClass_of_methodNamed B.named
  have hlocks := B.notSynchronized
  have hw := m_wo_in hB
  have hl := lv_entry ([.ref o, .int v]) (n := 4) (Nat.le_of_ble_eq_true rfl)
  rw [lg_entry_eq]
  generalize (lg_sl ([.ref o, .int v]) ++ List.replicate (4 - (lg_sl ([.ref o, .int v])).length) Slot.unset).toArray = ls at hl ⊢
  have hl : lv_has ls 4 [(0, .ref o), (1, .int v)] := hl
  have his := hz
  refine lv_aload_n hx hb dX9_postings_0 rfl (lv_at hl 0 rfl) ?_
  refine lv_iload_n hx hb dX9_postings_1 rfl (lv_at hl 1 rfl) ?_
  refine lv_iconst (v := 0) hx hb dX9_postings_2 (by decide) ?_
  refine lv_bipush (v := 30) hx hb dX9_postings_3 (by decide) ?_
  refine m_ci (va_runS (As := [.int v, .int 0, .int 30]) (rest := [.ref o]) ⟨hx, hb, hml, hown, hts⟩ (c_X9_isIn l v 0 30) (va_cwS 3 hts gX9_postings_X9_isIn rfl rfl rfl (by decide +kernel) ⟨Nat.le_of_ble_eq_true rfl, Nat.le_of_ble_eq_true rfl⟩) ⟨m_blind m_B_calling, fun U hU hW => ⟨rfl, m_wo_call hw hU hW⟩⟩ rfl rfl hl.1 rfl (lv_room (Nat.le_of_ble_eq_true rfl)) dX9_postings_5 ⟨Nat.le_of_ble_eq_true rfl, Nat.le_of_ble_eq_true rfl⟩) hw (fun r_5 u_5 H locs hp_5 hw => ?_)
  obtain rfl : r_5 = (b2i (o_rng v 0 30)) := hp_5
  refine lv_iconst (v := 1) hx hb dX9_postings_8 (by decide) ?_
  refine m_ci (va_runV (As := [.int (b2i (o_rng v 0 30)), .int 1]) (rest := []) ⟨hx, hb, hml, hown, hts⟩ (c_X9_no l (Z := Z) (M := M) (th := th) (o_rng v 0 30) 1 hro (r_st_self his) ) (cwV 2 hts gX9_postings_X9_no rfl rfl rfl (by decide +kernel) ⟨Nat.le_of_ble_eq_true rfl, Nat.le_of_ble_eq_true rfl⟩) ⟨m_blind m_B_calling, m_recv hw (m_ent_10 hro.1) rfl, fun U hU hW => ⟨rfl, m_wo_call hw hU hW⟩⟩ rfl rfl hl.1 rfl (lv_room (Nat.le_of_ble_eq_true rfl)) dX9_postings_9 ⟨Nat.le_of_ble_eq_true rfl, Nat.le_of_ble_eq_true rfl⟩) hw (fun r_9 u_9 H locs hp_9 hw => ?_)
  obtain ⟨I_1, A_2⟩ := u_9
  have hw : m_wo G K I_1 R F A_2 N L T J D s H locs := hw
  dsimp only at hp_9
  have his := r_st_tr his hp_9.1
  obtain rfl : r_9 = (b2i (!(o_rng v 0 30))) := hp_9.2
  refine lv_if_eq (tgt := 17) hx hb dX9_postings_12 (by decide) (fun c_12 => ?_) (fun c_12 => ?_)
  · skip
    have q_12 : (o_rng v 0 30) = true := by first | (have := (b2i_ne _).mp c_12; simpa using this) | (have := (b2i_eq _).mp c_12; simpa using this)
    refine lv_iconst (v := 0) hx hb dX9_postings_17 (by decide) ?_
    refine lv_istore_n (lv' := [(2, .int 0), (0, .ref o), (1, .int v)]) hx hb dX9_postings_18 rfl hl (by decide) rfl (fun ls hl => ?_)
    refine lv_iconst (v := 0) hx hb dX9_postings_19 (by decide) ?_
    refine lv_istore_n (lv' := [(3, .int 0), (2, .int 0), (0, .ref o), (1, .int v)]) hx hb dX9_postings_20 rfl hl (by decide) rfl (fun ls hl => ?_)
    refine m_loop (σ := Nat × Int32) (fun a => nf - (a.1)) (fun a H locs ls => ((a.1) ≤ nf ∧ (a.2) = nI (cntB (fun f => o_pst M f v) (a.1))) ∧ m_wo G K I_1 R F A_2 N L T J D s H locs ∧ lv_has ls 4 [(0, .ref o), (1, .int v), (2, .int (a.2)), (3, .int (nI (a.1)))]) ?_ (0, 0) ⟨⟨Nat.zero_le _, rfl⟩, hw, lv_sub hl [2, 3, 1, 0] rfl⟩
    rintro ⟨i, x⟩ H locs ls ⟨hinv, hw, hl⟩ ih
    dsimp only at hinv hw hl
    refine lv_iload_n hx hb dX9_postings_21 rfl (lv_at hl 3 rfl) ?_
    refine lv_aload_n hx hb dX9_postings_22 rfl (lv_at hl 0 rfl) ?_
    refine g_10_1 hx hb hts (by decide +kernel) hown hw hro.1 (hts (.fieldLink RX9 118 "PirateindexModel" "finds" "I") (by decide +kernel)) dX9_postings_23 ?_
    rw [show I_1 1001 o = Z 1 from his.1 1 (by decide)]
    rw [hnf]
    refine lv_icmp_ge (tgt := 52) hx hb dX9_postings_26 (by decide) (fun c_26 => ?_) (fun c_26 => ?_)
    · skip
      rw [nI_leI (by omega) (by omega)] at c_26
      have hi : i = nf := by omega
      subst hi
      refine lv_iload_n hx hb dX9_postings_52 rfl (lv_at hl 2 rfl) ?_
      exact W.iret (v := x) hx hb hr (fun t ht hW => ⟨⟨x, (I_1, A_2), rfl, (by have ht : t_postings v = 0 := (by simp [t_postings, q_12]); rw [ht]; exact ⟨by first | exact his | simpa [q_12] using his, fun _ => hinv.2⟩), m_wo_out hw ht hW.alike⟩, m_wo_F hw ht⟩) (m_wo_L hw) dX9_postings_53
    · skip
      rw [nI_leI (by omega) (by omega)] at c_26
      have hi : i < nf := by omega
      refine lv_iload_n hx hb dX9_postings_29 rfl (lv_at hl 2 rfl) ?_
      refine lv_aload_n hx hb dX9_postings_30 rfl (lv_at hl 0 rfl) ?_
      refine lv_iload_n hx hb dX9_postings_31 rfl (lv_at hl 3 rfl) ?_
      refine lv_iload_n hx hb dX9_postings_32 rfl (lv_at hl 1 rfl) ?_
      refine m_ci (va_runV (As := [.int (nI i), .int v]) (rest := [.int x]) ⟨hx, hb, hml, hown, hts⟩ (c_X9_isPosting l (Z := Z) (M := M) (th := (if (o_rng v 0 30) then 0 else 1)) i v hro (r_st_self his) (by omega)) (cwV 2 hts gX9_postings_X9_isPosting rfl rfl rfl (by decide +kernel) ⟨Nat.le_of_ble_eq_true rfl, Nat.le_of_ble_eq_true rfl⟩) ⟨m_blind m_B_calling, m_recv hw (m_ent_10 hro.1) rfl, fun U hU hW => ⟨rfl, m_wo_call hw hU hW⟩⟩ rfl rfl hl.1 rfl (lv_room (Nat.le_of_ble_eq_true rfl)) dX9_postings_33 ⟨Nat.le_of_ble_eq_true rfl, Nat.le_of_ble_eq_true rfl⟩) hw (fun r_33 u_33 H locs hp_33 hw => ?_)
      obtain rfl : r_33 = (b2i (o_pst M i v)) := hp_33
      refine lv_if_eq (tgt := 43) hx hb dX9_postings_36 (by decide) (fun c_36 => ?_) (fun c_36 => ?_)
      · skip
        have q_36 : (o_pst M i v) = false := by first | (have := (b2i_ne _).mp c_36; simpa using this) | (have := (b2i_eq _).mp c_36; simpa using this)
        refine lv_iconst (v := 0) hx hb dX9_postings_43 (by decide) ?_
        refine lv_iadd hx hb dX9_postings_44 ?_
        refine lv_istore_n (lv' := [(2, .int (x + 0)), (0, .ref o), (1, .int v), (3, .int (nI i))]) hx hb dX9_postings_45 rfl hl (by decide) rfl (fun ls hl => ?_)
        refine lv_iinc (v := nI (i + 1)) (lv' := [(3, .int (nI (i + 1))), (2, .int (x + 0)), (0, .ref o), (1, .int v)]) hx hb dX9_postings_46 hl (k := 3) rfl (nI_1 _) (by decide) rfl (fun ls hl => ?_)
        refine lv_goto (tgt := 21) hx hb dX9_postings_49 (by decide) ?_
        exact ih (i + 1, (x + 0)) _ _ _ (by dsimp only; omega) ⟨⟨by omega, cntB_step hinv.2 q_36⟩, hw, lv_sub hl [2, 3, 1, 0] rfl⟩
      · skip
        have q_36 : (o_pst M i v) = true := by first | (have := (b2i_ne _).mp c_36; simpa using this) | (have := (b2i_eq _).mp c_36; simpa using this)
        refine lv_iconst (v := 1) hx hb dX9_postings_39 (by decide) ?_
        refine lv_goto (tgt := 44) hx hb dX9_postings_40 (by decide) ?_
        refine lv_iadd hx hb dX9_postings_44 ?_
        refine lv_istore_n (lv' := [(2, .int (x + 1)), (0, .ref o), (1, .int v), (3, .int (nI i))]) hx hb dX9_postings_45 rfl hl (by decide) rfl (fun ls hl => ?_)
        refine lv_iinc (v := nI (i + 1)) (lv' := [(3, .int (nI (i + 1))), (2, .int (x + 1)), (0, .ref o), (1, .int v)]) hx hb dX9_postings_46 hl (k := 3) rfl (nI_1 _) (by decide) rfl (fun ls hl => ?_)
        refine lv_goto (tgt := 21) hx hb dX9_postings_49 (by decide) ?_
        exact ih (i + 1, (x + 1)) _ _ _ (by dsimp only; omega) ⟨⟨by omega, cntB_step hinv.2 q_36⟩, hw, lv_sub hl [2, 3, 1, 0] rfl⟩
  · skip
    have q_12 : (o_rng v 0 30) = false := by first | (have := (b2i_ne _).mp c_12; simpa using this) | (have := (b2i_eq _).mp c_12; simpa using this)
    refine lv_iconst (v := 0) hx hb dX9_postings_15 (by decide) ?_
    exact W.iret (v := 0) hx hb hr (fun t ht hW => ⟨⟨0, (I_1, A_2), rfl, (by have ht : t_postings v = 1 := (by simp [t_postings, q_12]); rw [ht]; exact ⟨by first | exact his | simpa [q_12] using his, fun h => absurd h (by decide)⟩), m_wo_out hw ht hW.alike⟩, m_wo_F hw ht⟩) (m_wo_L hw) dX9_postings_16

set_option maxHeartbeats 400000 in
set_option maxRecDepth 100000 in
theorem c_X9_ahead (l : Launch) {G : mG} {K : Nat → Nat} {I : Nat → Nat → Int32} {R : Nat → Nat → Option Nat} {F : Nat → UInt32} {A : Nat → Nat → Int32} {N : Nat → Nat} {L : Nat → List Nat} {T : Nat → List Int32} {J : Nat → Nat → Int64} {D : Nat → Nat → UInt64} {o : Nat} {ad : Nat → Nat} {Z : Nat → Int32} {M : Nat → Nat → Int32} {th : Int32} (f k : Nat) (hro : r_ok K R N o ad) (hz : r_st K o ad I A I A Z M th) (hf : f < 120) (hk : k < 120) : Met l yX9_ahead wsX9_ahead ({ frames := 0, cells := 0, slots := 0, locals := 0 } : Room) (va_Pc [.ref o, .int (nI f), .int (nI k)] (m_B G K I R F A N L T J D)) (va_Qi (fun (r : Int32) (_ : Unit) => r = b2i (o_ahead M f k)) (fun u : Unit => m_B G K I R F A N L T J D) (m_A G)) 0 0 (m_A G) := by
  refine Met.ofW (cc := cX9_ahead) (maxL := 3) (ret := (some .boolean)) (by decide) rfl ?_
  intro p e s m args below meth c s₁ B hml hv
  obtain ⟨rfl, hB⟩ := hv
  have hx := B.exec
  have hb := B.bytes
  have hr := B.returns
  have hts := atoms_spec (ws := wsX9_ahead) B.pre
  have hown : s.vm.findClass RX9 = some m.cls := findClass_of_methodNamed B.named
  have hlocks := B.notSynchronized
  have hw := m_wo_in hB
  have hl := lv_entry ([.ref o, .int (nI f), .int (nI k)]) (n := 3) (Nat.le_of_ble_eq_true rfl)
  rw [lg_entry_eq]
  generalize (lg_sl ([.ref o, .int (nI f), .int (nI k)]) ++ List.replicate (3 - (lg_sl ([.ref o, .int (nI f), .int (nI k)])).length) Slot.unset).toArray = ls at hl ⊢
  have hl : lv_has ls 3 [(0, .ref o), (1, .int (nI f)), (2, .int (nI k))] := hl
  have his := hz
  refine lv_aload_n hx hb dX9_ahead_0 rfl (lv_at hl 0 rfl) ?_
  refine g_10_12 (r := some (ad 12)) hx hb hts (by decide +kernel) hown hw hro.1 (hts (.fieldLink RX9 26 "PirateindexModel" "on" "[I") (by decide +kernel)) (hro.2.1 12 rfl).1 dX9_ahead_1 ?_
  refine lv_iload_n hx hb dX9_ahead_4 rfl (lv_at hl 1 rfl) ?_
  refine m_iaload_20 hx hb hw (hro.2.1 12 rfl).2.1 (r_in hro 12 rfl (n := 120) rfl (by omega)) dX9_ahead_5 ?_
  rw [show A (ad 12) = M 12 from his.2.1 12 rfl]
  rw [nI_clamp (show f < 2 ^ 31 by omega)]
  refine lv_aload_n hx hb dX9_ahead_6 rfl (lv_at hl 0 rfl) ?_
  refine g_10_12 (r := some (ad 12)) hx hb hts (by decide +kernel) hown hw hro.1 (hts (.fieldLink RX9 26 "PirateindexModel" "on" "[I") (by decide +kernel)) (hro.2.1 12 rfl).1 dX9_ahead_7 ?_
  refine lv_iload_n hx hb dX9_ahead_10 rfl (lv_at hl 2 rfl) ?_
  refine m_iaload_20 hx hb hw (hro.2.1 12 rfl).2.1 (r_in hro 12 rfl (n := 120) rfl (by omega)) dX9_ahead_11 ?_
  rw [show A (ad 12) = M 12 from his.2.1 12 rfl]
  rw [nI_clamp (show k < 2 ^ 31 by omega)]
  refine lv_icmp_eq (tgt := 36) hx hb dX9_ahead_12 (by decide) (fun c_12 => ?_) (fun c_12 => ?_)
  · skip
    refine lv_aload_n hx hb dX9_ahead_36 rfl (lv_at hl 0 rfl) ?_
    refine g_10_13 (r := some (ad 13)) hx hb hts (by decide +kernel) hown hw hro.1 (hts (.fieldLink RX9 29 "PirateindexModel" "places" "[I") (by decide +kernel)) (hro.2.1 13 rfl).1 dX9_ahead_37 ?_
    refine lv_iload_n hx hb dX9_ahead_40 rfl (lv_at hl 1 rfl) ?_
    refine m_iaload_20 hx hb hw (hro.2.1 13 rfl).2.1 (r_in hro 13 rfl (n := 120) rfl (by omega)) dX9_ahead_41 ?_
    rw [show A (ad 13) = M 13 from his.2.1 13 rfl]
    rw [nI_clamp (show f < 2 ^ 31 by omega)]
    refine lv_aload_n hx hb dX9_ahead_42 rfl (lv_at hl 0 rfl) ?_
    refine g_10_13 (r := some (ad 13)) hx hb hts (by decide +kernel) hown hw hro.1 (hts (.fieldLink RX9 29 "PirateindexModel" "places" "[I") (by decide +kernel)) (hro.2.1 13 rfl).1 dX9_ahead_43 ?_
    refine lv_iload_n hx hb dX9_ahead_46 rfl (lv_at hl 2 rfl) ?_
    refine m_iaload_20 hx hb hw (hro.2.1 13 rfl).2.1 (r_in hro 13 rfl (n := 120) rfl (by omega)) dX9_ahead_47 ?_
    rw [show A (ad 13) = M 13 from his.2.1 13 rfl]
    rw [nI_clamp (show k < 2 ^ 31 by omega)]
    refine lv_icmp_eq (tgt := 74) hx hb dX9_ahead_48 (by decide) (fun c_48 => ?_) (fun c_48 => ?_)
    · skip
      refine lv_iload_n hx hb dX9_ahead_74 rfl (lv_at hl 1 rfl) ?_
      refine lv_iload_n hx hb dX9_ahead_75 rfl (lv_at hl 2 rfl) ?_
      refine lv_icmp_ge (tgt := 83) hx hb dX9_ahead_76 (by decide) (fun c_76 => ?_) (fun c_76 => ?_)
      · skip
        have h76 : ¬ f < k := by have h9 := c_76; rw [nI_leI (by omega) (by omega)] at h9; omega
        refine lv_iconst (v := 0) hx hb dX9_ahead_83 (by decide) ?_
        exact W.zret (v := 0) hx hb hr (by rfl) (fun t ht hW => ⟨⟨0, (), rfl, (by simp [o_ahead, b2i, c_12, c_48, h76]), m_wo_out hw ht hW.alike⟩, m_wo_F hw ht⟩) (m_wo_L hw) dX9_ahead_84
      · skip
        have h76 : f < k := by have h9 := c_76; rw [nI_leI (by omega) (by omega)] at h9; omega
        refine lv_iconst (v := 1) hx hb dX9_ahead_79 (by decide) ?_
        refine lv_goto (tgt := 84) hx hb dX9_ahead_80 (by decide) ?_
        exact W.zret (v := 1) hx hb hr (by rfl) (fun t ht hW => ⟨⟨1, (), rfl, (by simp [o_ahead, b2i, c_12, c_48, h76]), m_wo_out hw ht hW.alike⟩, m_wo_F hw ht⟩) (m_wo_L hw) dX9_ahead_84
    · skip
      refine lv_aload_n hx hb dX9_ahead_51 rfl (lv_at hl 0 rfl) ?_
      refine g_10_13 (r := some (ad 13)) hx hb hts (by decide +kernel) hown hw hro.1 (hts (.fieldLink RX9 29 "PirateindexModel" "places" "[I") (by decide +kernel)) (hro.2.1 13 rfl).1 dX9_ahead_52 ?_
      refine lv_iload_n hx hb dX9_ahead_55 rfl (lv_at hl 1 rfl) ?_
      refine m_iaload_20 hx hb hw (hro.2.1 13 rfl).2.1 (r_in hro 13 rfl (n := 120) rfl (by omega)) dX9_ahead_56 ?_
      rw [show A (ad 13) = M 13 from his.2.1 13 rfl]
      rw [nI_clamp (show f < 2 ^ 31 by omega)]
      refine lv_aload_n hx hb dX9_ahead_57 rfl (lv_at hl 0 rfl) ?_
      refine g_10_13 (r := some (ad 13)) hx hb hts (by decide +kernel) hown hw hro.1 (hts (.fieldLink RX9 29 "PirateindexModel" "places" "[I") (by decide +kernel)) (hro.2.1 13 rfl).1 dX9_ahead_58 ?_
      refine lv_iload_n hx hb dX9_ahead_61 rfl (lv_at hl 2 rfl) ?_
      refine m_iaload_20 hx hb hw (hro.2.1 13 rfl).2.1 (r_in hro 13 rfl (n := 120) rfl (by omega)) dX9_ahead_62 ?_
      rw [show A (ad 13) = M 13 from his.2.1 13 rfl]
      rw [nI_clamp (show k < 2 ^ 31 by omega)]
      refine lv_icmp_ge (tgt := 70) hx hb dX9_ahead_63 (by decide) (fun c_63 => ?_) (fun c_63 => ?_)
      · skip
        refine lv_iconst (v := 0) hx hb dX9_ahead_70 (by decide) ?_
        refine lv_goto (tgt := 84) hx hb dX9_ahead_71 (by decide) ?_
        exact W.zret (v := 0) hx hb hr (by rfl) (fun t ht hW => ⟨⟨0, (), rfl, (by simp [o_ahead, b2i, c_12, c_48, c_63]), m_wo_out hw ht hW.alike⟩, m_wo_F hw ht⟩) (m_wo_L hw) dX9_ahead_84
      · skip
        refine lv_iconst (v := 1) hx hb dX9_ahead_66 (by decide) ?_
        refine lv_goto (tgt := 84) hx hb dX9_ahead_67 (by decide) ?_
        exact W.zret (v := 1) hx hb hr (by rfl) (fun t ht hW => ⟨⟨1, (), rfl, (by simp [o_ahead, b2i, c_12, c_48, c_63]), m_wo_out hw ht hW.alike⟩, m_wo_F hw ht⟩) (m_wo_L hw) dX9_ahead_84
  · skip
    refine lv_aload_n hx hb dX9_ahead_15 rfl (lv_at hl 0 rfl) ?_
    refine g_10_12 (r := some (ad 12)) hx hb hts (by decide +kernel) hown hw hro.1 (hts (.fieldLink RX9 26 "PirateindexModel" "on" "[I") (by decide +kernel)) (hro.2.1 12 rfl).1 dX9_ahead_16 ?_
    refine lv_iload_n hx hb dX9_ahead_19 rfl (lv_at hl 1 rfl) ?_
    refine m_iaload_20 hx hb hw (hro.2.1 12 rfl).2.1 (r_in hro 12 rfl (n := 120) rfl (by omega)) dX9_ahead_20 ?_
    rw [show A (ad 12) = M 12 from his.2.1 12 rfl]
    rw [nI_clamp (show f < 2 ^ 31 by omega)]
    refine lv_aload_n hx hb dX9_ahead_21 rfl (lv_at hl 0 rfl) ?_
    refine g_10_12 (r := some (ad 12)) hx hb hts (by decide +kernel) hown hw hro.1 (hts (.fieldLink RX9 26 "PirateindexModel" "on" "[I") (by decide +kernel)) (hro.2.1 12 rfl).1 dX9_ahead_22 ?_
    refine lv_iload_n hx hb dX9_ahead_25 rfl (lv_at hl 2 rfl) ?_
    refine m_iaload_20 hx hb hw (hro.2.1 12 rfl).2.1 (r_in hro 12 rfl (n := 120) rfl (by omega)) dX9_ahead_26 ?_
    rw [show A (ad 12) = M 12 from his.2.1 12 rfl]
    rw [nI_clamp (show k < 2 ^ 31 by omega)]
    refine lv_icmp_ge (tgt := 34) hx hb dX9_ahead_27 (by decide) (fun c_27 => ?_) (fun c_27 => ?_)
    · skip
      refine lv_iconst (v := 0) hx hb dX9_ahead_34 (by decide) ?_
      exact W.zret (v := 0) hx hb hr (by rfl) (fun t ht hW => ⟨⟨0, (), rfl, (by simp [o_ahead, b2i, c_12, c_27]), m_wo_out hw ht hW.alike⟩, m_wo_F hw ht⟩) (m_wo_L hw) dX9_ahead_35
    · skip
      refine lv_iconst (v := 1) hx hb dX9_ahead_30 (by decide) ?_
      refine lv_goto (tgt := 35) hx hb dX9_ahead_31 (by decide) ?_
      exact W.zret (v := 1) hx hb hr (by rfl) (fun t ht hW => ⟨⟨1, (), rfl, (by simp [o_ahead, b2i, c_12, c_27]), m_wo_out hw ht hW.alike⟩, m_wo_F hw ht⟩) (m_wo_L hw) dX9_ahead_35

set_option maxHeartbeats 400000 in
set_option maxRecDepth 100000 in
theorem c_X9_word (l : Launch) {G : mG} {K : Nat → Nat} {I : Nat → Nat → Int32} {R : Nat → Nat → Option Nat} {F : Nat → UInt32} {A : Nat → Nat → Int32} {N : Nat → Nat} {L : Nat → List Nat} {T : Nat → List Int32} {J : Nat → Nat → Int64} {D : Nat → Nat → UInt64} {o : Nat} {ad : Nat → Nat} {Z : Nat → Int32} {M : Nat → Nat → Int32} {th : Int32} {nt : Nat} (v g : Int32) (hro : r_ok K R N o ad) (hz : r_st K o ad I A I A Z M th) (hnt : Z 29 = nI nt) (hn : nt ≤ 4) : Met l yX9_word wsX9_word ({ frames := 1, cells := 0, slots := 0, locals := 22 } : Room) (va_Pc [.ref o, .int v, .int g] (m_B G K I R F A N L T J D)) (va_Qi (fun (r : Int32) (u : (Nat → Nat → Int32) × (Nat → Nat → Int32)) => (r_st K o ad I A u.1 u.2 (if t_word Z v g = 0 then p_word (Z, M) v g else (Z, M)).1 (if t_word Z v g = 0 then p_word (Z, M) v g else (Z, M)).2 (t_word Z v g)) ∧ (t_word Z v g = 0 → r = Z 29 + 1)) (fun u : (Nat → Nat → Int32) × (Nat → Nat → Int32) => m_B G K (u.1) R F (u.2) N L T J D) (m_A G)) 0 0 (m_A G) := by
  refine Met.ofW (cc := cX9_word) (maxL := 3) (ret := (some .int)) (by decide) rfl ?_
  intro p e s m args below meth c s₁ B hml hv
  obtain ⟨rfl, hB⟩ := hv
  have hx := B.exec
  have hb := B.bytes
  have hr := B.returns
  have hts := atoms_spec (ws := wsX9_word) B.pre
  have hown : s.vm.findClass RX9 = some m.cls := findClass_of_methodNamed B.named
  have hlocks := B.notSynchronized
  have hw := m_wo_in hB
  have hl := lv_entry ([.ref o, .int v, .int g]) (n := 3) (Nat.le_of_ble_eq_true rfl)
  rw [lg_entry_eq]
  generalize (lg_sl ([.ref o, .int v, .int g]) ++ List.replicate (3 - (lg_sl ([.ref o, .int v, .int g])).length) Slot.unset).toArray = ls at hl ⊢
  have hl : lv_has ls 3 [(0, .ref o), (1, .int v), (2, .int g)] := hl
  have his := hz
  refine lv_aload_n hx hb dX9_word_0 rfl (lv_at hl 0 rfl) ?_
  refine lv_iload_n hx hb dX9_word_1 rfl (lv_at hl 1 rfl) ?_
  refine lv_iconst (v := 0) hx hb dX9_word_2 (by decide) ?_
  refine lv_bipush (v := 30) hx hb dX9_word_3 (by decide) ?_
  refine m_ci (va_runS (As := [.int v, .int 0, .int 30]) (rest := [.ref o]) ⟨hx, hb, hml, hown, hts⟩ (c_X9_isIn l v 0 30) (va_cwS 3 hts gX9_word_X9_isIn rfl rfl rfl (by decide +kernel) ⟨Nat.le_of_ble_eq_true rfl, Nat.le_of_ble_eq_true rfl⟩) ⟨m_blind m_B_calling, fun U hU hW => ⟨rfl, m_wo_call hw hU hW⟩⟩ rfl rfl hl.1 rfl (lv_room (Nat.le_of_ble_eq_true rfl)) dX9_word_5 ⟨Nat.le_of_ble_eq_true rfl, Nat.le_of_ble_eq_true rfl⟩) hw (fun r_5 u_5 H locs hp_5 hw => ?_)
  obtain rfl : r_5 = (b2i (o_rng v 0 30)) := hp_5
  refine lv_if_eq (tgt := 32) hx hb dX9_word_8 (by decide) (fun c_8 => ?_) (fun c_8 => ?_)
  · skip
    have q_8 : (o_rng v 0 30) = false := by first | (have := (b2i_ne _).mp c_8; simpa using this) | (have := (b2i_eq _).mp c_8; simpa using this)
    refine lv_iconst (v := 0) hx hb dX9_word_32 (by decide) ?_
    refine lv_iconst (v := 1) hx hb dX9_word_33 (by decide) ?_
    refine m_ci (va_runV (As := [.int 0, .int 1]) (rest := []) ⟨hx, hb, hml, hown, hts⟩ (c_X9_no l (Z := Z) (M := M) (th := th) false 1 hro (r_st_self his) ) (cwV 2 hts gX9_word_X9_no rfl rfl rfl (by decide +kernel) ⟨Nat.le_of_ble_eq_true rfl, Nat.le_of_ble_eq_true rfl⟩) ⟨m_blind m_B_calling, m_recv hw (m_ent_10 hro.1) rfl, fun U hU hW => ⟨rfl, m_wo_call hw hU hW⟩⟩ rfl rfl hl.1 rfl (lv_room (Nat.le_of_ble_eq_true rfl)) dX9_word_34 ⟨Nat.le_of_ble_eq_true rfl, Nat.le_of_ble_eq_true rfl⟩) hw (fun r_34 u_34 H locs hp_34 hw => ?_)
    obtain ⟨I_1, A_2⟩ := u_34
    have hw : m_wo G K I_1 R F A_2 N L T J D s H locs := hw
    dsimp only at hp_34
    have his := r_st_tr his hp_34.1
    obtain rfl : r_34 = (b2i (!false)) := hp_34.2
    refine lv_if_ne (tgt := 61) hx hb dX9_word_37 (by decide) (fun c_37 => ?_) (fun c_37 => absurd c_37 (by decide))
    refine lv_iconst (v := 0) hx hb dX9_word_61 (by decide) ?_
    exact W.iret (v := 0) hx hb hr (fun t ht hW => ⟨⟨0, (I_1, A_2), rfl, (by have ht : t_word Z v g = 1 := (by simp [t_word, q_8]); rw [ht]; exact ⟨by first | exact his | simpa [q_8] using his, fun h => absurd h (by decide)⟩), m_wo_out hw ht hW.alike⟩, m_wo_F hw ht⟩) (m_wo_L hw) dX9_word_62
  · skip
    have q_8 : (o_rng v 0 30) = true := by first | (have := (b2i_ne _).mp c_8; simpa using this) | (have := (b2i_eq _).mp c_8; simpa using this)
    refine lv_aload_n hx hb dX9_word_11 rfl (lv_at hl 0 rfl) ?_
    refine g_10_29 hx hb hts (by decide +kernel) hown hw hro.1 (hts (.fieldLink RX9 170 "PirateindexModel" "typed" "I") (by decide +kernel)) dX9_word_12 ?_
    rw [show I 1029 o = Z 29 from his.1 29 (by decide)]
    refine lv_if_eq (tgt := 28) hx hb dX9_word_15 (by decide) (fun c_15 => ?_) (fun c_15 => ?_)
    · skip
      refine lv_iconst (v := 1) hx hb dX9_word_28 (by decide) ?_
      refine lv_goto (tgt := 33) hx hb dX9_word_29 (by decide) ?_
      refine lv_iconst (v := 1) hx hb dX9_word_33 (by decide) ?_
      refine m_ci (va_runV (As := [.int 1, .int 1]) (rest := []) ⟨hx, hb, hml, hown, hts⟩ (c_X9_no l (Z := Z) (M := M) (th := th) true 1 hro (r_st_self his) ) (cwV 2 hts gX9_word_X9_no rfl rfl rfl (by decide +kernel) ⟨Nat.le_of_ble_eq_true rfl, Nat.le_of_ble_eq_true rfl⟩) ⟨m_blind m_B_calling, m_recv hw (m_ent_10 hro.1) rfl, fun U hU hW => ⟨rfl, m_wo_call hw hU hW⟩⟩ rfl rfl hl.1 rfl (lv_room (Nat.le_of_ble_eq_true rfl)) dX9_word_34 ⟨Nat.le_of_ble_eq_true rfl, Nat.le_of_ble_eq_true rfl⟩) hw (fun r_34 u_34 H locs hp_34 hw => ?_)
      obtain ⟨I_3, A_4⟩ := u_34
      have hw : m_wo G K I_3 R F A_4 N L T J D s H locs := hw
      dsimp only at hp_34
      have his := r_st_tr his hp_34.1
      obtain rfl : r_34 = (b2i (!true)) := hp_34.2
      refine lv_if_ne (tgt := 61) hx hb dX9_word_37 (by decide) (fun c_37 => absurd (by decide) c_37) (fun c_37 => ?_)
      refine lv_aload_n hx hb dX9_word_40 rfl (lv_at hl 0 rfl) ?_
      refine lv_aload_n hx hb dX9_word_41 rfl (lv_at hl 0 rfl) ?_
      refine g_10_29 hx hb hts (by decide +kernel) hown hw hro.1 (hts (.fieldLink RX9 170 "PirateindexModel" "typed" "I") (by decide +kernel)) dX9_word_42 ?_
      rw [show I_3 1029 o = Z 29 from his.1 29 (by decide)]
      refine lv_iconst (v := 4) hx hb dX9_word_45 (by decide) ?_
      refine lv_icmp_ge (tgt := 53) hx hb dX9_word_46 (by decide) (fun c_46 => ?_) (fun c_46 => ?_)
      · skip
        rw [c_15] at c_46
        exact absurd c_46 (by decide)
      · skip
        refine lv_iconst (v := 1) hx hb dX9_word_49 (by decide) ?_
        refine lv_goto (tgt := 54) hx hb dX9_word_50 (by decide) ?_
        refine lv_iconst (v := 2) hx hb dX9_word_54 (by decide) ?_
        refine m_ci (va_runV (As := [.int 1, .int 2]) (rest := []) ⟨hx, hb, hml, hown, hts⟩ (c_X9_no l (Z := Z) (M := M) (th := 0) true 2 hro (r_st_self his) ) (cwV 2 hts gX9_word_X9_no rfl rfl rfl (by decide +kernel) ⟨Nat.le_of_ble_eq_true rfl, Nat.le_of_ble_eq_true rfl⟩) ⟨m_blind m_B_calling, m_recv hw (m_ent_10 hro.1) rfl, fun U hU hW => ⟨rfl, m_wo_call hw hU hW⟩⟩ rfl rfl hl.1 rfl (lv_room (Nat.le_of_ble_eq_true rfl)) dX9_word_55 ⟨Nat.le_of_ble_eq_true rfl, Nat.le_of_ble_eq_true rfl⟩) hw (fun r_55 u_55 H locs hp_55 hw => ?_)
        obtain ⟨I_5, A_6⟩ := u_55
        have hw : m_wo G K I_5 R F A_6 N L T J D s H locs := hw
        dsimp only at hp_55
        have his := r_st_tr his hp_55.1
        obtain rfl : r_55 = (b2i (!true)) := hp_55.2
        refine lv_if_eq (tgt := 63) hx hb dX9_word_58 (by decide) (fun c_58 => ?_) (fun c_58 => absurd (by decide) c_58)
        have hn2 : nt < 4 := by have h9 := c_46; rw [hnt, show (4 : Int32) = nI 4 from rfl, nI_leI (by decide) (by omega)] at h9; omega
        refine lv_aload_n hx hb dX9_word_63 rfl (lv_at hl 0 rfl) ?_
        refine g_10_25 (r := some (ad 25)) hx hb hts (by decide +kernel) hown hw hro.1 (hts (.fieldLink RX9 65 "PirateindexModel" "mapWord" "[I") (by decide +kernel)) (hro.2.1 25 rfl).1 dX9_word_64 ?_
        refine lv_aload_n hx hb dX9_word_67 rfl (lv_at hl 0 rfl) ?_
        refine g_10_29 hx hb hts (by decide +kernel) hown hw hro.1 (hts (.fieldLink RX9 170 "PirateindexModel" "typed" "I") (by decide +kernel)) dX9_word_68 ?_
        rw [show I_5 1029 o = Z 29 from his.1 29 (by decide)]
        refine lv_iload_n hx hb dX9_word_71 rfl (lv_at hl 1 rfl) ?_
        refine m_iastore_20 hx hb hw (hro.2.1 25 rfl).2.1 (by rw [hnt]; exact r_in hro 25 rfl (n := 4) rfl hn2)  dX9_word_72 (fun H locs hw => ?_)
        obtain ⟨A_7, eA_7⟩ : ∃ z, z = m_up A_6 (ad 25) (upd (A_6 (ad 25)) (Z 29).toNatClampNeg v) := ⟨_, rfl⟩
        rw [← eA_7] at hw
        obtain ⟨M_8, eM_8⟩ : ∃ z, z = m1 M 25 nt v := ⟨_, rfl⟩
        have his : r_st K o ad I A I_5 A_7 Z M_8 0 := by rw [eA_7, eM_8, show (Z 29).toNatClampNeg = nt from by rw [hnt]; exact nI_clamp (by omega)]; exact r_st_m his hro 25 rfl nt v
        refine lv_aload_n hx hb dX9_word_73 rfl (lv_at hl 0 rfl) ?_
        refine g_10_26 (r := some (ad 26)) hx hb hts (by decide +kernel) hown hw hro.1 (hts (.fieldLink RX9 68 "PirateindexModel" "mapGap" "[I") (by decide +kernel)) (hro.2.1 26 rfl).1 dX9_word_74 ?_
        refine lv_aload_n hx hb dX9_word_77 rfl (lv_at hl 0 rfl) ?_
        refine g_10_29 hx hb hts (by decide +kernel) hown hw hro.1 (hts (.fieldLink RX9 170 "PirateindexModel" "typed" "I") (by decide +kernel)) dX9_word_78 ?_
        rw [show I_5 1029 o = Z 29 from his.1 29 (by decide)]
        refine lv_iload_n hx hb dX9_word_81 rfl (lv_at hl 2 rfl) ?_
        refine m_iastore_20 hx hb hw (hro.2.1 26 rfl).2.1 (by rw [hnt]; exact r_in hro 26 rfl (n := 4) rfl hn2)  dX9_word_82 (fun H locs hw => ?_)
        obtain ⟨A_9, eA_9⟩ : ∃ z, z = m_up A_7 (ad 26) (upd (A_7 (ad 26)) (Z 29).toNatClampNeg g) := ⟨_, rfl⟩
        rw [← eA_9] at hw
        obtain ⟨M_10, eM_10⟩ : ∃ z, z = m1 M_8 26 nt g := ⟨_, rfl⟩
        have his : r_st K o ad I A I_5 A_9 Z M_10 0 := by rw [eA_9, eM_10, show (Z 29).toNatClampNeg = nt from by rw [hnt]; exact nI_clamp (by omega)]; exact r_st_m his hro 26 rfl nt g
        refine lv_aload_n hx hb dX9_word_83 rfl (lv_at hl 0 rfl) ?_
        refine lv_dup hx hb dX9_word_84 rfl ?_
        refine g_10_29 hx hb hts (by decide +kernel) hown hw hro.1 (hts (.fieldLink RX9 170 "PirateindexModel" "typed" "I") (by decide +kernel)) dX9_word_85 ?_
        rw [show I_5 1029 o = Z 29 from his.1 29 (by decide)]
        refine lv_iconst (v := 1) hx hb dX9_word_88 (by decide) ?_
        refine lv_iadd hx hb dX9_word_89 ?_
        refine p_10_29 hx hb hts (by decide +kernel) hown hw hro.1 (hts (.fieldLink RX9 170 "PirateindexModel" "typed" "I") (by decide +kernel)) dX9_word_90 (fun H locs hw => ?_)
        obtain ⟨I_11, eI_11⟩ : ∃ z, z = m_up2 I_5 1029 o ((Z 29) + 1) := ⟨_, rfl⟩
        rw [← eI_11] at hw
        obtain ⟨Z_12, eZ_12⟩ : ∃ z, z = z1 Z 29 ((Z 29) + 1) := ⟨_, rfl⟩
        have his : r_st K o ad I A I_11 A_9 Z_12 M_10 0 := by rw [eI_11, eZ_12]; exact r_st_z his 29 ((Z 29) + 1) hro.1 (by decide)
        refine lv_aload_n hx hb dX9_word_93 rfl (lv_at hl 0 rfl) ?_
        refine g_10_29 hx hb hts (by decide +kernel) hown hw hro.1 (hts (.fieldLink RX9 170 "PirateindexModel" "typed" "I") (by decide +kernel)) dX9_word_94 ?_
        rw [show I_11 1029 o = Z_12 29 from his.1 29 (by decide)]
        exact W.iret (v := (Z_12 29)) hx hb hr (fun t ht hW => ⟨⟨(Z_12 29), (I_11, A_9), rfl, (by have ht : t_word Z v g = 0 := (by simp [t_word, q_8, c_15, c_46]); have e9 : (Z_12, M_10) = p_word (Z, M) v g := (by simp only [p_word, eM_8, eM_10, eZ_12, show zn Z 29 = nt from by unfold zn; rw [hnt]; exact nI_clamp (by omega)]); rw [ht, if_pos rfl, ← e9]; exact ⟨by first | exact his | simpa [q_8, c_15, c_46] using his, fun _ => (by rw [eZ_12, z1_s])⟩), m_wo_out hw ht hW.alike⟩, m_wo_F hw ht⟩) (m_wo_L hw) dX9_word_97
    · skip
      refine lv_iload_n hx hb dX9_word_18 rfl (lv_at hl 2 rfl) ?_
      refine lv_iconst (v := 0) hx hb dX9_word_19 (by decide) ?_
      refine lv_bipush (v := 9) hx hb dX9_word_20 (by decide) ?_
      refine m_ci (va_runS (As := [.int g, .int 0, .int 9]) (rest := [.ref o]) ⟨hx, hb, hml, hown, hts⟩ (c_X9_isIn l g 0 9) (va_cwS 3 hts gX9_word_X9_isIn rfl rfl rfl (by decide +kernel) ⟨Nat.le_of_ble_eq_true rfl, Nat.le_of_ble_eq_true rfl⟩) ⟨m_blind m_B_calling, fun U hU hW => ⟨rfl, m_wo_call hw hU hW⟩⟩ rfl rfl hl.1 rfl (lv_room (Nat.le_of_ble_eq_true rfl)) dX9_word_22 ⟨Nat.le_of_ble_eq_true rfl, Nat.le_of_ble_eq_true rfl⟩) hw (fun r_22 u_22 H locs hp_22 hw => ?_)
      obtain rfl : r_22 = (b2i (o_rng g 0 9)) := hp_22
      refine lv_if_eq (tgt := 32) hx hb dX9_word_25 (by decide) (fun c_25 => ?_) (fun c_25 => ?_)
      · skip
        have q_25 : (o_rng g 0 9) = false := by first | (have := (b2i_ne _).mp c_25; simpa using this) | (have := (b2i_eq _).mp c_25; simpa using this)
        refine lv_iconst (v := 0) hx hb dX9_word_32 (by decide) ?_
        refine lv_iconst (v := 1) hx hb dX9_word_33 (by decide) ?_
        refine m_ci (va_runV (As := [.int 0, .int 1]) (rest := []) ⟨hx, hb, hml, hown, hts⟩ (c_X9_no l (Z := Z) (M := M) (th := th) false 1 hro (r_st_self his) ) (cwV 2 hts gX9_word_X9_no rfl rfl rfl (by decide +kernel) ⟨Nat.le_of_ble_eq_true rfl, Nat.le_of_ble_eq_true rfl⟩) ⟨m_blind m_B_calling, m_recv hw (m_ent_10 hro.1) rfl, fun U hU hW => ⟨rfl, m_wo_call hw hU hW⟩⟩ rfl rfl hl.1 rfl (lv_room (Nat.le_of_ble_eq_true rfl)) dX9_word_34 ⟨Nat.le_of_ble_eq_true rfl, Nat.le_of_ble_eq_true rfl⟩) hw (fun r_34 u_34 H locs hp_34 hw => ?_)
        obtain ⟨I_13, A_14⟩ := u_34
        have hw : m_wo G K I_13 R F A_14 N L T J D s H locs := hw
        dsimp only at hp_34
        have his := r_st_tr his hp_34.1
        obtain rfl : r_34 = (b2i (!false)) := hp_34.2
        refine lv_if_ne (tgt := 61) hx hb dX9_word_37 (by decide) (fun c_37 => ?_) (fun c_37 => absurd c_37 (by decide))
        refine lv_iconst (v := 0) hx hb dX9_word_61 (by decide) ?_
        exact W.iret (v := 0) hx hb hr (fun t ht hW => ⟨⟨0, (I_13, A_14), rfl, (by have ht : t_word Z v g = 1 := (by simp [t_word, q_8, c_15, q_25]); rw [ht]; exact ⟨by first | exact his | simpa [q_8, c_15, q_25] using his, fun h => absurd h (by decide)⟩), m_wo_out hw ht hW.alike⟩, m_wo_F hw ht⟩) (m_wo_L hw) dX9_word_62
      · skip
        have q_25 : (o_rng g 0 9) = true := by first | (have := (b2i_ne _).mp c_25; simpa using this) | (have := (b2i_eq _).mp c_25; simpa using this)
        refine lv_iconst (v := 1) hx hb dX9_word_28 (by decide) ?_
        refine lv_goto (tgt := 33) hx hb dX9_word_29 (by decide) ?_
        refine lv_iconst (v := 1) hx hb dX9_word_33 (by decide) ?_
        refine m_ci (va_runV (As := [.int 1, .int 1]) (rest := []) ⟨hx, hb, hml, hown, hts⟩ (c_X9_no l (Z := Z) (M := M) (th := th) true 1 hro (r_st_self his) ) (cwV 2 hts gX9_word_X9_no rfl rfl rfl (by decide +kernel) ⟨Nat.le_of_ble_eq_true rfl, Nat.le_of_ble_eq_true rfl⟩) ⟨m_blind m_B_calling, m_recv hw (m_ent_10 hro.1) rfl, fun U hU hW => ⟨rfl, m_wo_call hw hU hW⟩⟩ rfl rfl hl.1 rfl (lv_room (Nat.le_of_ble_eq_true rfl)) dX9_word_34 ⟨Nat.le_of_ble_eq_true rfl, Nat.le_of_ble_eq_true rfl⟩) hw (fun r_34 u_34 H locs hp_34 hw => ?_)
        obtain ⟨I_15, A_16⟩ := u_34
        have hw : m_wo G K I_15 R F A_16 N L T J D s H locs := hw
        dsimp only at hp_34
        have his := r_st_tr his hp_34.1
        obtain rfl : r_34 = (b2i (!true)) := hp_34.2
        refine lv_if_ne (tgt := 61) hx hb dX9_word_37 (by decide) (fun c_37 => absurd (by decide) c_37) (fun c_37 => ?_)
        refine lv_aload_n hx hb dX9_word_40 rfl (lv_at hl 0 rfl) ?_
        refine lv_aload_n hx hb dX9_word_41 rfl (lv_at hl 0 rfl) ?_
        refine g_10_29 hx hb hts (by decide +kernel) hown hw hro.1 (hts (.fieldLink RX9 170 "PirateindexModel" "typed" "I") (by decide +kernel)) dX9_word_42 ?_
        rw [show I_15 1029 o = Z 29 from his.1 29 (by decide)]
        refine lv_iconst (v := 4) hx hb dX9_word_45 (by decide) ?_
        refine lv_icmp_ge (tgt := 53) hx hb dX9_word_46 (by decide) (fun c_46 => ?_) (fun c_46 => ?_)
        · skip
          refine lv_iconst (v := 0) hx hb dX9_word_53 (by decide) ?_
          refine lv_iconst (v := 2) hx hb dX9_word_54 (by decide) ?_
          refine m_ci (va_runV (As := [.int 0, .int 2]) (rest := []) ⟨hx, hb, hml, hown, hts⟩ (c_X9_no l (Z := Z) (M := M) (th := 0) false 2 hro (r_st_self his) ) (cwV 2 hts gX9_word_X9_no rfl rfl rfl (by decide +kernel) ⟨Nat.le_of_ble_eq_true rfl, Nat.le_of_ble_eq_true rfl⟩) ⟨m_blind m_B_calling, m_recv hw (m_ent_10 hro.1) rfl, fun U hU hW => ⟨rfl, m_wo_call hw hU hW⟩⟩ rfl rfl hl.1 rfl (lv_room (Nat.le_of_ble_eq_true rfl)) dX9_word_55 ⟨Nat.le_of_ble_eq_true rfl, Nat.le_of_ble_eq_true rfl⟩) hw (fun r_55 u_55 H locs hp_55 hw => ?_)
          obtain ⟨I_17, A_18⟩ := u_55
          have hw : m_wo G K I_17 R F A_18 N L T J D s H locs := hw
          dsimp only at hp_55
          have his := r_st_tr his hp_55.1
          obtain rfl : r_55 = (b2i (!false)) := hp_55.2
          refine lv_if_eq (tgt := 63) hx hb dX9_word_58 (by decide) (fun c_58 => absurd c_58 (by decide)) (fun c_58 => ?_)
          refine lv_iconst (v := 0) hx hb dX9_word_61 (by decide) ?_
          exact W.iret (v := 0) hx hb hr (fun t ht hW => ⟨⟨0, (I_17, A_18), rfl, (by have ht : t_word Z v g = 2 := (by simp [t_word, q_8, c_15, q_25, c_46]); rw [ht]; exact ⟨by first | exact his | simpa [q_8, c_15, q_25, c_46] using his, fun h => absurd h (by decide)⟩), m_wo_out hw ht hW.alike⟩, m_wo_F hw ht⟩) (m_wo_L hw) dX9_word_62
        · skip
          refine lv_iconst (v := 1) hx hb dX9_word_49 (by decide) ?_
          refine lv_goto (tgt := 54) hx hb dX9_word_50 (by decide) ?_
          refine lv_iconst (v := 2) hx hb dX9_word_54 (by decide) ?_
          refine m_ci (va_runV (As := [.int 1, .int 2]) (rest := []) ⟨hx, hb, hml, hown, hts⟩ (c_X9_no l (Z := Z) (M := M) (th := 0) true 2 hro (r_st_self his) ) (cwV 2 hts gX9_word_X9_no rfl rfl rfl (by decide +kernel) ⟨Nat.le_of_ble_eq_true rfl, Nat.le_of_ble_eq_true rfl⟩) ⟨m_blind m_B_calling, m_recv hw (m_ent_10 hro.1) rfl, fun U hU hW => ⟨rfl, m_wo_call hw hU hW⟩⟩ rfl rfl hl.1 rfl (lv_room (Nat.le_of_ble_eq_true rfl)) dX9_word_55 ⟨Nat.le_of_ble_eq_true rfl, Nat.le_of_ble_eq_true rfl⟩) hw (fun r_55 u_55 H locs hp_55 hw => ?_)
          obtain ⟨I_19, A_20⟩ := u_55
          have hw : m_wo G K I_19 R F A_20 N L T J D s H locs := hw
          dsimp only at hp_55
          have his := r_st_tr his hp_55.1
          obtain rfl : r_55 = (b2i (!true)) := hp_55.2
          refine lv_if_eq (tgt := 63) hx hb dX9_word_58 (by decide) (fun c_58 => ?_) (fun c_58 => absurd (by decide) c_58)
          have hn2 : nt < 4 := by have h9 := c_46; rw [hnt, show (4 : Int32) = nI 4 from rfl, nI_leI (by decide) (by omega)] at h9; omega
          refine lv_aload_n hx hb dX9_word_63 rfl (lv_at hl 0 rfl) ?_
          refine g_10_25 (r := some (ad 25)) hx hb hts (by decide +kernel) hown hw hro.1 (hts (.fieldLink RX9 65 "PirateindexModel" "mapWord" "[I") (by decide +kernel)) (hro.2.1 25 rfl).1 dX9_word_64 ?_
          refine lv_aload_n hx hb dX9_word_67 rfl (lv_at hl 0 rfl) ?_
          refine g_10_29 hx hb hts (by decide +kernel) hown hw hro.1 (hts (.fieldLink RX9 170 "PirateindexModel" "typed" "I") (by decide +kernel)) dX9_word_68 ?_
          rw [show I_19 1029 o = Z 29 from his.1 29 (by decide)]
          refine lv_iload_n hx hb dX9_word_71 rfl (lv_at hl 1 rfl) ?_
          refine m_iastore_20 hx hb hw (hro.2.1 25 rfl).2.1 (by rw [hnt]; exact r_in hro 25 rfl (n := 4) rfl hn2)  dX9_word_72 (fun H locs hw => ?_)
          obtain ⟨A_21, eA_21⟩ : ∃ z, z = m_up A_20 (ad 25) (upd (A_20 (ad 25)) (Z 29).toNatClampNeg v) := ⟨_, rfl⟩
          rw [← eA_21] at hw
          obtain ⟨M_22, eM_22⟩ : ∃ z, z = m1 M 25 nt v := ⟨_, rfl⟩
          have his : r_st K o ad I A I_19 A_21 Z M_22 0 := by rw [eA_21, eM_22, show (Z 29).toNatClampNeg = nt from by rw [hnt]; exact nI_clamp (by omega)]; exact r_st_m his hro 25 rfl nt v
          refine lv_aload_n hx hb dX9_word_73 rfl (lv_at hl 0 rfl) ?_
          refine g_10_26 (r := some (ad 26)) hx hb hts (by decide +kernel) hown hw hro.1 (hts (.fieldLink RX9 68 "PirateindexModel" "mapGap" "[I") (by decide +kernel)) (hro.2.1 26 rfl).1 dX9_word_74 ?_
          refine lv_aload_n hx hb dX9_word_77 rfl (lv_at hl 0 rfl) ?_
          refine g_10_29 hx hb hts (by decide +kernel) hown hw hro.1 (hts (.fieldLink RX9 170 "PirateindexModel" "typed" "I") (by decide +kernel)) dX9_word_78 ?_
          rw [show I_19 1029 o = Z 29 from his.1 29 (by decide)]
          refine lv_iload_n hx hb dX9_word_81 rfl (lv_at hl 2 rfl) ?_
          refine m_iastore_20 hx hb hw (hro.2.1 26 rfl).2.1 (by rw [hnt]; exact r_in hro 26 rfl (n := 4) rfl hn2)  dX9_word_82 (fun H locs hw => ?_)
          obtain ⟨A_23, eA_23⟩ : ∃ z, z = m_up A_21 (ad 26) (upd (A_21 (ad 26)) (Z 29).toNatClampNeg g) := ⟨_, rfl⟩
          rw [← eA_23] at hw
          obtain ⟨M_24, eM_24⟩ : ∃ z, z = m1 M_22 26 nt g := ⟨_, rfl⟩
          have his : r_st K o ad I A I_19 A_23 Z M_24 0 := by rw [eA_23, eM_24, show (Z 29).toNatClampNeg = nt from by rw [hnt]; exact nI_clamp (by omega)]; exact r_st_m his hro 26 rfl nt g
          refine lv_aload_n hx hb dX9_word_83 rfl (lv_at hl 0 rfl) ?_
          refine lv_dup hx hb dX9_word_84 rfl ?_
          refine g_10_29 hx hb hts (by decide +kernel) hown hw hro.1 (hts (.fieldLink RX9 170 "PirateindexModel" "typed" "I") (by decide +kernel)) dX9_word_85 ?_
          rw [show I_19 1029 o = Z 29 from his.1 29 (by decide)]
          refine lv_iconst (v := 1) hx hb dX9_word_88 (by decide) ?_
          refine lv_iadd hx hb dX9_word_89 ?_
          refine p_10_29 hx hb hts (by decide +kernel) hown hw hro.1 (hts (.fieldLink RX9 170 "PirateindexModel" "typed" "I") (by decide +kernel)) dX9_word_90 (fun H locs hw => ?_)
          obtain ⟨I_25, eI_25⟩ : ∃ z, z = m_up2 I_19 1029 o ((Z 29) + 1) := ⟨_, rfl⟩
          rw [← eI_25] at hw
          obtain ⟨Z_26, eZ_26⟩ : ∃ z, z = z1 Z 29 ((Z 29) + 1) := ⟨_, rfl⟩
          have his : r_st K o ad I A I_25 A_23 Z_26 M_24 0 := by rw [eI_25, eZ_26]; exact r_st_z his 29 ((Z 29) + 1) hro.1 (by decide)
          refine lv_aload_n hx hb dX9_word_93 rfl (lv_at hl 0 rfl) ?_
          refine g_10_29 hx hb hts (by decide +kernel) hown hw hro.1 (hts (.fieldLink RX9 170 "PirateindexModel" "typed" "I") (by decide +kernel)) dX9_word_94 ?_
          rw [show I_25 1029 o = Z_26 29 from his.1 29 (by decide)]
          exact W.iret (v := (Z_26 29)) hx hb hr (fun t ht hW => ⟨⟨(Z_26 29), (I_25, A_23), rfl, (by have ht : t_word Z v g = 0 := (by simp [t_word, q_8, c_15, q_25, c_46]); have e9 : (Z_26, M_24) = p_word (Z, M) v g := (by simp only [p_word, eM_22, eM_24, eZ_26, show zn Z 29 = nt from by unfold zn; rw [hnt]; exact nI_clamp (by omega)]); rw [ht, if_pos rfl, ← e9]; exact ⟨by first | exact his | simpa [q_8, c_15, q_25, c_46] using his, fun _ => (by rw [eZ_26, z1_s])⟩), m_wo_out hw ht hW.alike⟩, m_wo_F hw ht⟩) (m_wo_L hw) dX9_word_97

set_option maxHeartbeats 400000 in
set_option maxRecDepth 100000 in
theorem c_X9_wipe (l : Launch) {G : mG} {K : Nat → Nat} {I : Nat → Nat → Int32} {R : Nat → Nat → Option Nat} {F : Nat → UInt32} {A : Nat → Nat → Int32} {N : Nat → Nat} {L : Nat → List Nat} {T : Nat → List Int32} {J : Nat → Nat → Int64} {D : Nat → Nat → UInt64} {o : Nat} {ad : Nat → Nat} {Z : Nat → Int32} {M : Nat → Nat → Int32} {th : Int32}  (hro : r_ok K R N o ad) (hz : r_st K o ad I A I A Z M th)  : Met l yX9_wipe wsX9_wipe ({ frames := 0, cells := 0, slots := 0, locals := 0 } : Room) (va_Pc [.ref o] (m_B G K I R F A N L T J D)) (va_Qi (fun (r : Int32) (u : (Nat → Nat → Int32) × (Nat → Nat → Int32)) => (r_st K o ad I A u.1 u.2 (z1 Z 29 0) M th) ∧ r = Z 29) (fun u : (Nat → Nat → Int32) × (Nat → Nat → Int32) => m_B G K (u.1) R F (u.2) N L T J D) (m_A G)) 0 0 (m_A G) := by
  refine Met.ofW (cc := cX9_wipe) (maxL := 2) (ret := (some .int)) (by decide) rfl ?_
  intro p e s m args below meth c s₁ B hml hv
  obtain ⟨rfl, hB⟩ := hv
  have hx := B.exec
  have hb := B.bytes
  have hr := B.returns
  have hts := atoms_spec (ws := wsX9_wipe) B.pre
  have hown : s.vm.findClass RX9 = some m.cls := findClass_of_methodNamed B.named
  have hlocks := B.notSynchronized
  have hw := m_wo_in hB
  have hl := lv_entry ([.ref o]) (n := 2) (Nat.le_of_ble_eq_true rfl)
  rw [lg_entry_eq]
  generalize (lg_sl ([.ref o]) ++ List.replicate (2 - (lg_sl ([.ref o])).length) Slot.unset).toArray = ls at hl ⊢
  have hl : lv_has ls 2 [(0, .ref o)] := hl
  have his := hz
  refine lv_aload_n hx hb dX9_wipe_0 rfl (lv_at hl 0 rfl) ?_
  refine g_10_29 hx hb hts (by decide +kernel) hown hw hro.1 (hts (.fieldLink RX9 170 "PirateindexModel" "typed" "I") (by decide +kernel)) dX9_wipe_1 ?_
  rw [show I 1029 o = Z 29 from his.1 29 (by decide)]
  refine lv_istore_n (lv' := [(1, .int (Z 29)), (0, .ref o)]) hx hb dX9_wipe_4 rfl hl (by decide) rfl (fun ls hl => ?_)
  refine lv_aload_n hx hb dX9_wipe_5 rfl (lv_at hl 1 rfl) ?_
  refine lv_iconst (v := 0) hx hb dX9_wipe_6 (by decide) ?_
  refine p_10_29 hx hb hts (by decide +kernel) hown hw hro.1 (hts (.fieldLink RX9 170 "PirateindexModel" "typed" "I") (by decide +kernel)) dX9_wipe_7 (fun H locs hw => ?_)
  obtain ⟨I_1, eI_1⟩ : ∃ z, z = m_up2 I 1029 o 0 := ⟨_, rfl⟩
  rw [← eI_1] at hw
  obtain ⟨Z_2, eZ_2⟩ : ∃ z, z = z1 Z 29 0 := ⟨_, rfl⟩
  have his : r_st K o ad I A I_1 A Z_2 M th := by rw [eI_1, eZ_2]; exact r_st_z his 29 0 hro.1 (by decide)
  refine lv_iload_n hx hb dX9_wipe_10 rfl (lv_at hl 0 rfl) ?_
  exact W.iret (v := (Z 29)) hx hb hr (fun t ht hW => ⟨⟨(Z 29), (I_1, A), rfl, ⟨by rw [← eZ_2]; exact his, rfl⟩, m_wo_out hw ht hW.alike⟩, m_wo_F hw ht⟩) (m_wo_L hw) dX9_wipe_11

