set_option maxHeartbeats 4000000 in
set_option maxRecDepth 100000 in
theorem c_X9_puts (l : Launch) {G : mG} {K : Nat → Nat} {I : Nat → Nat → Int32} {R : Nat → Nat → Option Nat} {F : Nat → UInt32} {A : Nat → Nat → Int32} {N : Nat → Nat} {L : Nat → List Nat} {T : Nat → List Int32} {J : Nat → Nat → Int64} {D : Nat → Nat → UInt64} {o : Nat} {ad : Nat → Nat} {Z : Nat → Int32} {M : Nat → Nat → Int32} {th : Int32} {nf k : Nat} (f : Nat) (hro : r_ok K R N o ad) (hz : r_st K o ad I A I A Z M th) (hf : f < 120) (hnf : Z 1 = nI nf) (hn : nf ≤ 120) (hsg : Z 3 = nI k) (hk : k < 24) : Met l yX9_puts wsX9_puts ({ frames := 2, cells := 0, slots := 0, locals := 60 } : Room) (va_Pc [.ref o, .int (nI f)] (m_B G K I R F A N L T J D)) (va_Qv (fun (u : (Nat → Nat → Int32) × (Nat → Nat → Int32)) => r_st K o ad I A u.1 u.2 (o_puts (Z, M) f).1 (o_puts (Z, M) f).2 th) (fun u : (Nat → Nat → Int32) × (Nat → Nat → Int32) => m_B G K (u.1) R F (u.2) N L T J D) (m_A G)) 0 0 (m_A G) := by
  refine Met.ofW (cc := cX9_puts) (maxL := 2) (ret := none) (by decide) rfl ?_
  intro p e s m args below meth c s₁ B hml hv
  obtain ⟨rfl, hB⟩ := hv
  have hx := B.exec
  have hb := B.bytes
  have hr := B.returns
  have hts := atoms_spec (ws := wsX9_puts) B.pre
  have hown : s.vm.findClass RX9 = some m.cls := findClass_of_methodNamed B.named
  have hlocks := B.notSynchronized
  have hw := m_wo_in hB
  have hl := lv_entry ([.ref o, .int (nI f)]) (n := 2) (Nat.le_of_ble_eq_true rfl)
  rw [lg_entry_eq]
  generalize (lg_sl ([.ref o, .int (nI f)]) ++ List.replicate (2 - (lg_sl ([.ref o, .int (nI f)])).length) Slot.unset).toArray = ls at hl ⊢
  have hl : lv_has ls 2 [(0, .ref o), (1, .int (nI f))] := hl
  have his := hz
  refine lv_aload_n hx hb dX9_puts_0 rfl (lv_at hl 0 rfl) ?_
  refine g_10_5 hx hb hts (by decide +kernel) hown hw hro.1 (hts (.fieldLink RX9 91 "PirateindexModel" "open" "I") (by decide +kernel)) dX9_puts_1 ?_
  rw [show I 1005 o = Z 5 from his.1 5 (by decide)]
  refine lv_iconst (v := (-1)) hx hb dX9_puts_4 (by decide) ?_
  refine lv_icmp_ne (tgt := 16) hx hb dX9_puts_5 (by decide) (fun c_5 => ?_) (fun c_5 => ?_)
  · skip
    have e0 : (Z, M) = o_puts0 (Z, M) := by unfold o_puts0; rw [if_neg (by exact c_5)]
    have hz1 : Z 1 = nI nf := by rw [show Z = (o_puts0 (Z, M)).1 from congrArg Prod.fst e0]; unfold o_puts0; split <;> simpa [z1, o_opens] using hnf
    refine lv_aload_n hx hb dX9_puts_16 rfl (lv_at hl 0 rfl) ?_
    refine g_10_14 (r := some (ad 14)) hx hb hts (by decide +kernel) hown hw hro.1 (hts (.fieldLink RX9 32 "PirateindexModel" "within" "[I") (by decide +kernel)) (hro.2.1 14 rfl).1 dX9_puts_17 ?_
    refine lv_iload_n hx hb dX9_puts_20 rfl (lv_at hl 1 rfl) ?_
    refine lv_aload_n hx hb dX9_puts_21 rfl (lv_at hl 0 rfl) ?_
    refine g_10_5 hx hb hts (by decide +kernel) hown hw hro.1 (hts (.fieldLink RX9 91 "PirateindexModel" "open" "I") (by decide +kernel)) dX9_puts_22 ?_
    rw [show I 1005 o = Z 5 from his.1 5 (by decide)]
    refine m_iastore_20 hx hb hw (hro.2.1 14 rfl).2.1 (r_in hro 14 rfl (n := 120) rfl (by omega))  dX9_puts_25 (fun H locs hw => ?_)
    obtain ⟨A_1, eA_1⟩ : ∃ z, z = m_up A (ad 14) (upd (A (ad 14)) (nI f).toNatClampNeg (Z 5)) := ⟨_, rfl⟩
    rw [← eA_1] at hw
    obtain ⟨M_2, eM_2⟩ : ∃ z, z = m1 M 14 f (Z 5) := ⟨_, rfl⟩
    have his : r_st K o ad I A I A_1 Z M_2 th := by rw [eA_1, eM_2, nI_clamp (show f < 2 ^ 31 by omega)]; exact r_st_m his hro 14 rfl f (Z 5)
    have e1 : (Z, M_2) = o_puts1 (Z, M) f := by unfold o_puts1; rw [← e0, eM_2]
    have hzn : zn Z 1 = nf := by unfold zn; rw [hz1]; exact nI_clamp (by omega)
    refine lv_aload_n hx hb dX9_puts_26 rfl (lv_at hl 0 rfl) ?_
    refine lv_aload_n hx hb dX9_puts_27 rfl (lv_at hl 0 rfl) ?_
    refine g_10_5 hx hb hts (by decide +kernel) hown hw hro.1 (hts (.fieldLink RX9 91 "PirateindexModel" "open" "I") (by decide +kernel)) dX9_puts_28 ?_
    rw [show I 1005 o = Z 5 from his.1 5 (by decide)]
    refine m_ci (va_runV (As := [.int (Z 5)]) (rest := []) ⟨hx, hb, hml, hown, hts⟩ (c_X9_sizeOf l (Z := Z) (M := M_2) (th := th) (Z 5) hro (r_st_self his) hz1 hn) (cwV 1 hts gX9_puts_X9_sizeOf rfl rfl rfl (by decide +kernel) ⟨Nat.le_of_ble_eq_true rfl, Nat.le_of_ble_eq_true rfl⟩) ⟨m_blind m_B_calling, m_recv hw (m_ent_10 hro.1) rfl, fun U hU hW => ⟨rfl, m_wo_call hw hU hW⟩⟩ rfl rfl hl.1 rfl (lv_room (Nat.le_of_ble_eq_true rfl)) dX9_puts_31 ⟨Nat.le_of_ble_eq_true rfl, Nat.le_of_ble_eq_true rfl⟩) hw (fun r_31 u_31 H locs hp_31 hw => ?_)
    obtain rfl : r_31 = (nI (cntB (fun f => decide (M_2 14 f = (Z 5))) nf)) := hp_31
    refine lv_bipush (v := 10) hx hb dX9_puts_34 (by decide) ?_
    refine lv_icmp_ne (tgt := 44) hx hb dX9_puts_36 (by decide) (fun c_36 => ?_) (fun c_36 => ?_)
    · skip
      exact W.vret hx hb hr (fun t ht hW => ⟨⟨(I, A_1), rfl, (by have e2 : (Z, M_2) = o_puts (Z, M) f := (by unfold o_puts; rw [← e1]; dsimp only; rw [if_neg (by unfold o_size; rw [hzn]; have h9 := c_36; rw [show (10 : Int32) = nI 10 from rfl, nI_eq (by have := cntB_le (fun f => decide (M_2 14 f = Z 5)) nf; omega) (by omega)] at h9; exact h9)]); rw [← e2]; exact his), m_wo_out hw ht hW.alike⟩, m_wo_F hw ht⟩) (m_wo_L hw) dX9_puts_44
    · skip
      refine lv_aload_n hx hb dX9_puts_39 rfl (lv_at hl 0 rfl) ?_
      refine lv_iconst (v := (-1)) hx hb dX9_puts_40 (by decide) ?_
      refine p_10_5 hx hb hts (by decide +kernel) hown hw hro.1 (hts (.fieldLink RX9 91 "PirateindexModel" "open" "I") (by decide +kernel)) dX9_puts_41 (fun H locs hw => ?_)
      obtain ⟨I_3, eI_3⟩ : ∃ z, z = m_up2 I 1005 o (-1) := ⟨_, rfl⟩
      rw [← eI_3] at hw
      obtain ⟨Z_4, eZ_4⟩ : ∃ z, z = z1 Z 5 (-1) := ⟨_, rfl⟩
      have his : r_st K o ad I A I_3 A_1 Z_4 M_2 th := by rw [eI_3, eZ_4]; exact r_st_z his 5 (-1) hro.1 (by decide)
      exact W.vret hx hb hr (fun t ht hW => ⟨⟨(I_3, A_1), rfl, (by have e2 : (Z_4, M_2) = o_puts (Z, M) f := (by unfold o_puts; rw [← e1]; dsimp only; rw [if_pos (by unfold o_size; rw [hzn]; have h9 := c_36; rw [show (10 : Int32) = nI 10 from rfl, nI_eq (by have := cntB_le (fun f => decide (M_2 14 f = Z 5)) nf; omega) (by omega)] at h9; exact h9), eZ_4]); rw [← e2]; exact his), m_wo_out hw ht hW.alike⟩, m_wo_F hw ht⟩) (m_wo_L hw) dX9_puts_44
  · skip
    refine lv_aload_n hx hb dX9_puts_8 rfl (lv_at hl 0 rfl) ?_
    refine lv_aload_n hx hb dX9_puts_9 rfl (lv_at hl 0 rfl) ?_
    refine m_ci (va_runV (As := []) (rest := [.ref o]) ⟨hx, hb, hml, hown, hts⟩ (c_X9_opens l (Z := Z) (M := M) (th := th)  hro (r_st_self his) hsg hk) (cwV 0 hts gX9_puts_X9_opens rfl rfl rfl (by decide +kernel) ⟨Nat.le_of_ble_eq_true rfl, Nat.le_of_ble_eq_true rfl⟩) ⟨m_blind m_B_calling, m_recv hw (m_ent_10 hro.1) rfl, fun U hU hW => ⟨rfl, m_wo_call hw hU hW⟩⟩ rfl rfl hl.1 rfl (lv_room (Nat.le_of_ble_eq_true rfl)) dX9_puts_10 ⟨Nat.le_of_ble_eq_true rfl, Nat.le_of_ble_eq_true rfl⟩) hw (fun r_10 u_10 H locs hp_10 hw => ?_)
    obtain ⟨I_5, A_6⟩ := u_10
    have hw : m_wo G K I_5 R F A_6 N L T J D s H locs := hw
    dsimp only at hp_10
    have his := r_st_tr his hp_10.1
    obtain ⟨Z_7, eZ_7⟩ : ∃ z : Nat → Int32, z = (o_opens (Z, M)).1 := ⟨_, rfl⟩
    rw [← eZ_7] at his
    obtain ⟨M_8, eM_8⟩ : ∃ z : Nat → Nat → Int32, z = (o_opens (Z, M)).2 := ⟨_, rfl⟩
    rw [← eM_8] at his
    obtain rfl : r_10 = (Z 4) := hp_10.2
    refine p_10_5 hx hb hts (by decide +kernel) hown hw hro.1 (hts (.fieldLink RX9 91 "PirateindexModel" "open" "I") (by decide +kernel)) dX9_puts_13 (fun H locs hw => ?_)
    obtain ⟨I_9, eI_9⟩ : ∃ z, z = m_up2 I_5 1005 o (Z 4) := ⟨_, rfl⟩
    rw [← eI_9] at hw
    obtain ⟨Z_10, eZ_10⟩ : ∃ z, z = z1 Z_7 5 (Z 4) := ⟨_, rfl⟩
    have his : r_st K o ad I A I_9 A_6 Z_10 M_8 th := by rw [eI_9, eZ_10]; exact r_st_z his 5 (Z 4) hro.1 (by decide)
    have e0 : (Z_10, M_8) = o_puts0 (Z, M) := by unfold o_puts0; rw [if_pos (by exact c_5)]; simp only [eZ_7, eM_8, eZ_10]
    have hz1 : Z_10 1 = nI nf := by rw [show Z_10 = (o_puts0 (Z, M)).1 from congrArg Prod.fst e0]; unfold o_puts0; split <;> simpa [z1, o_opens] using hnf
    refine lv_aload_n hx hb dX9_puts_16 rfl (lv_at hl 0 rfl) ?_
    refine g_10_14 (r := some (ad 14)) hx hb hts (by decide +kernel) hown hw hro.1 (hts (.fieldLink RX9 32 "PirateindexModel" "within" "[I") (by decide +kernel)) (hro.2.1 14 rfl).1 dX9_puts_17 ?_
    refine lv_iload_n hx hb dX9_puts_20 rfl (lv_at hl 1 rfl) ?_
    refine lv_aload_n hx hb dX9_puts_21 rfl (lv_at hl 0 rfl) ?_
    refine g_10_5 hx hb hts (by decide +kernel) hown hw hro.1 (hts (.fieldLink RX9 91 "PirateindexModel" "open" "I") (by decide +kernel)) dX9_puts_22 ?_
    rw [show I_9 1005 o = Z_10 5 from his.1 5 (by decide)]
    refine m_iastore_20 hx hb hw (hro.2.1 14 rfl).2.1 (r_in hro 14 rfl (n := 120) rfl (by omega))  dX9_puts_25 (fun H locs hw => ?_)
    obtain ⟨A_11, eA_11⟩ : ∃ z, z = m_up A_6 (ad 14) (upd (A_6 (ad 14)) (nI f).toNatClampNeg (Z_10 5)) := ⟨_, rfl⟩
    rw [← eA_11] at hw
    obtain ⟨M_12, eM_12⟩ : ∃ z, z = m1 M_8 14 f (Z_10 5) := ⟨_, rfl⟩
    have his : r_st K o ad I A I_9 A_11 Z_10 M_12 th := by rw [eA_11, eM_12, nI_clamp (show f < 2 ^ 31 by omega)]; exact r_st_m his hro 14 rfl f (Z_10 5)
    have e1 : (Z_10, M_12) = o_puts1 (Z, M) f := by unfold o_puts1; rw [← e0, eM_12]
    have hzn : zn Z_10 1 = nf := by unfold zn; rw [hz1]; exact nI_clamp (by omega)
    refine lv_aload_n hx hb dX9_puts_26 rfl (lv_at hl 0 rfl) ?_
    refine lv_aload_n hx hb dX9_puts_27 rfl (lv_at hl 0 rfl) ?_
    refine g_10_5 hx hb hts (by decide +kernel) hown hw hro.1 (hts (.fieldLink RX9 91 "PirateindexModel" "open" "I") (by decide +kernel)) dX9_puts_28 ?_
    rw [show I_9 1005 o = Z_10 5 from his.1 5 (by decide)]
    refine m_ci (va_runV (As := [.int (Z_10 5)]) (rest := []) ⟨hx, hb, hml, hown, hts⟩ (c_X9_sizeOf l (Z := Z_10) (M := M_12) (th := th) (Z_10 5) hro (r_st_self his) hz1 hn) (cwV 1 hts gX9_puts_X9_sizeOf rfl rfl rfl (by decide +kernel) ⟨Nat.le_of_ble_eq_true rfl, Nat.le_of_ble_eq_true rfl⟩) ⟨m_blind m_B_calling, m_recv hw (m_ent_10 hro.1) rfl, fun U hU hW => ⟨rfl, m_wo_call hw hU hW⟩⟩ rfl rfl hl.1 rfl (lv_room (Nat.le_of_ble_eq_true rfl)) dX9_puts_31 ⟨Nat.le_of_ble_eq_true rfl, Nat.le_of_ble_eq_true rfl⟩) hw (fun r_31 u_31 H locs hp_31 hw => ?_)
    obtain rfl : r_31 = (nI (cntB (fun f => decide (M_12 14 f = (Z_10 5))) nf)) := hp_31
    obtain rfl : r_31 = (nI (cntB (fun f => decide (M_2 14 f = (Z_10 5))) nf)) := hp_31
    refine lv_bipush (v := 10) hx hb dX9_puts_34 (by decide) ?_
    refine lv_icmp_ne (tgt := 44) hx hb dX9_puts_36 (by decide) (fun c_36 => ?_) (fun c_36 => ?_)
    · skip
      exact W.vret hx hb hr (fun t ht hW => ⟨⟨(I_9, A_11), rfl, (by have e2 : (Z_10, M_12) = o_puts (Z, M) f := (by unfold o_puts; rw [← e1]; dsimp only; rw [if_neg (by unfold o_size; rw [hzn]; have h9 := c_36; rw [show (10 : Int32) = nI 10 from rfl, nI_eq (by have := cntB_le (fun f => decide (M_12 14 f = Z_10 5)) nf; omega) (by omega)] at h9; exact h9)]); rw [← e2]; exact his), m_wo_out hw ht hW.alike⟩, m_wo_F hw ht⟩) (m_wo_L hw) dX9_puts_44
    · skip
      refine lv_aload_n hx hb dX9_puts_39 rfl (lv_at hl 0 rfl) ?_
      refine lv_iconst (v := (-1)) hx hb dX9_puts_40 (by decide) ?_
      refine p_10_5 hx hb hts (by decide +kernel) hown hw hro.1 (hts (.fieldLink RX9 91 "PirateindexModel" "open" "I") (by decide +kernel)) dX9_puts_41 (fun H locs hw => ?_)
      obtain ⟨I_13, eI_13⟩ : ∃ z, z = m_up2 I_9 1005 o (-1) := ⟨_, rfl⟩
      rw [← eI_13] at hw
      obtain ⟨Z_14, eZ_14⟩ : ∃ z, z = z1 Z_10 5 (-1) := ⟨_, rfl⟩
      have his : r_st K o ad I A I_13 A_11 Z_14 M_12 th := by rw [eI_13, eZ_14]; exact r_st_z his 5 (-1) hro.1 (by decide)
      exact W.vret hx hb hr (fun t ht hW => ⟨⟨(I_13, A_11), rfl, (by have e2 : (Z_14, M_12) = o_puts (Z, M) f := (by unfold o_puts; rw [← e1]; dsimp only; rw [if_pos (by unfold o_size; rw [hzn]; have h9 := c_36; rw [show (10 : Int32) = nI 10 from rfl, nI_eq (by have := cntB_le (fun f => decide (M_12 14 f = Z_10 5)) nf; omega) (by omega)] at h9; exact h9), eZ_14]); rw [← e2]; exact his), m_wo_out hw ht hW.alike⟩, m_wo_F hw ht⟩) (m_wo_L hw) dX9_puts_44

