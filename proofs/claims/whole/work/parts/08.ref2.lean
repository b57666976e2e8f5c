set_option maxHeartbeats 400000 in
set_option maxRecDepth 100000 in
theorem c_X9_puts (l : Launch) {G : mG} {K : Nat → Nat} {I : Nat → Nat → Int32} {R : Nat → Nat → Option Nat} {F : Nat → UInt32} {A : Nat → Nat → Int32} {N : Nat → Nat} {L : Nat → List Nat} {T : Nat → List Int32} {J : Nat → Nat → Int64} {D : Nat → Nat → UInt64} {o : Nat} {ad : Nat → Nat} {Z : Nat → Int32} {M : Nat → Nat → Int32} {th : Int32} {nf k : Nat} (f : Nat) (hro : r_ok K R N o ad) (hz : r_st K o ad I A I A Z M th) (hf : f < 120) (hnf : Z 1 = nI nf) (hn : nf ≤ 120) (hsg : Z 3 = nI k) (hk : k < 24) : Met l yX9_puts wsX9_puts ({ frames := 2, cells := 0, slots := 0, locals := 60 } : Room) (va_Pc [.ref o, .int (nI f)] (m_B G K I R F A N L T J D)) (va_Qv (fun (u : (Nat → Nat → Int32) × (Nat → Nat → Int32)) => (r_st K o ad I A u.1 u.2 (o_puts (Z, M) f).1 (o_puts (Z, M) f).2 th) ∧ True) (fun u : (Nat → Nat → Int32) × (Nat → Nat → Int32) => m_B G K (u.1) R F (u.2) N L T J D) (m_A G)) 0 0 (m_A G) := by
  refine Met.ofW (cc := cX9_puts) (maxL := 2) (ret := none) (by decide) rfl ?_
  intro p e s m args below meth c s₁ B hml hv
  obtain ⟨rfl, hB⟩ := hv
  have hx := B.exec
  have hb := B.bytes
  have hr := B.returns
  have hts := atoms_spec (ws := wsX9_puts) B.pre
  have hown : s.vm.findClass RX9 = some m.cls := findClass_of_methodNamed B.named
  have hlocks := B.notSynchronized
  have hw := m_wo_in hB
  have hl := lv_entry ([.ref o, .int (nI f)]) (n := 2) (Nat.le_of_ble_eq_true rfl)
  rw [lg_entry_eq]
  generalize (lg_sl ([.ref o, .int (nI f)]) ++ List.replicate (2 - (lg_sl ([.ref o, .int (nI f)])).length) Slot.unset).toArray = ls at hl ⊢
  have hl : lv_has ls 2 [(0, .ref o), (1, .int (nI f))] := hl
  have his := hz
  refine lv_aload_n hx hb dX9_puts_0 rfl (lv_at hl 0 rfl) ?_
  refine g_10_5 hx hb hts (by decide +kernel) hown hw hro.1 (hts (.fieldLink RX9 91 "PirateindexModel" "open" "I") (by decide +kernel)) dX9_puts_1 ?_
  rw [show I 1005 o = Z 5 from his.1 5 (by decide)]
  refine lv_iconst (v := (-1)) hx hb dX9_puts_4 (by decide) ?_
  refine lv_icmp_ne (tgt := 16) hx hb dX9_puts_5 (by decide) (fun c_5 => ?_) (fun c_5 => ?_)
  · skip
    have e0 : (Z, M) = o_puts0 (Z, M) := by unfold o_puts0; rw [if_neg (by exact c_5)]
    have hz1 : Z 1 = nI nf := by rw [show Z = (o_puts0 (Z, M)).1 from congrArg Prod.fst e0]; unfold o_puts0; split <;> simpa [z1, o_opens] using hnf
    refine lv_aload_n hx hb dX9_puts_16 rfl (lv_at hl 0 rfl) ?_
    refine g_10_14 (r := some (ad 14)) hx hb hts (by decide +kernel) hown hw hro.1 (hts (.fieldLink RX9 32 "PirateindexModel" "within" "[I") (by decide +kernel)) (hro.2.1 14 rfl).1 dX9_puts_17 ?_
    refine lv_iload_n hx hb dX9_puts_20 rfl (lv_at hl 1 rfl) ?_
    refine lv_aload_n hx hb dX9_puts_21 rfl (lv_at hl 0 rfl) ?_
    refine g_10_5 hx hb hts (by decide +kernel) hown hw hro.1 (hts (.fieldLink RX9 91 "PirateindexModel" "open" "I") (by decide +kernel)) dX9_puts_22 ?_
    rw [show I 1005 o = Z 5 from his.1 5 (by decide)]
    refine m_iastore_20 hx hb hw (hro.2.1 14 rfl).2.1 (r_in hro 14 rfl (n := 120) rfl (by omega))  dX9_puts_25 (fun H locs hw => ?_)
    obtain ⟨A_1, eA_1⟩ : ∃ z, z = m_up A (ad 14) (upd (A (ad 14)) (nI f).toNatClampNeg (Z 5)) := ⟨_, rfl⟩
    rw [← eA_1] at hw
    obtain ⟨M_2, eM_2⟩ : ∃ z, z = m1 M 14 f (Z 5) := ⟨_, rfl⟩
    have his : r_st K o ad I A I A_1 Z M_2 th := by rw [eA_1, eM_2, nI_clamp (show f < 2 ^ 31 by omega)]; exact r_st_m his hro 14 rfl f (Z 5)
    have e1 : (Z, M_2) = o_puts1 (Z, M) f := by unfold o_puts1; rw [← e0, eM_2]
    have hzn : zn Z 1 = nf := by unfold zn; rw [hz1]; exact nI_clamp (by omega)
    refine lv_aload_n hx hb dX9_puts_26 rfl (lv_at hl 0 rfl) ?_
    refine lv_aload_n hx hb dX9_puts_27 rfl (lv_at hl 0 rfl) ?_
    refine g_10_5 hx hb hts (by decide +kernel) hown hw hro.1 (hts (.fieldLink RX9 91 "PirateindexModel" "open" "I") (by decide +kernel)) dX9_puts_28 ?_
    rw [show I 1005 o = Z 5 from his.1 5 (by decide)]
    refine m_ci (va_runV (As := [.int (Z 5)]) (rest := []) ⟨hx, hb, hml, hown, hts⟩ (c_X9_sizeOf l (Z := Z) (M := M_2) (th := th) (Z 5) hro (r_st_self his) hz1 hn) (cwV 1 hts gX9_puts_X9_sizeOf rfl rfl rfl (by decide +kernel) ⟨Nat.le_of_ble_eq_true rfl, Nat.le_of_ble_eq_true rfl⟩) ⟨m_blind m_B_calling, m_recv hw (m_ent_10 hro.1) rfl, fun U hU hW => ⟨rfl, m_wo_call hw hU hW⟩⟩ rfl rfl hl.1 rfl (lv_room (Nat.le_of_ble_eq_true rfl)) dX9_puts_31 ⟨Nat.le_of_ble_eq_true rfl, Nat.le_of_ble_eq_true rfl⟩) hw (fun r_31 u_31 H locs hp_31 hw => ?_)
    obtain rfl : r_31 = (nI (o_size Z M_2 (Z 5))) := hp_31
    refine lv_bipush (v := 10) hx hb dX9_puts_34 (by decide) ?_
    refine lv_icmp_ne (tgt := 44) hx hb dX9_puts_36 (by decide) (fun c_36 => ?_) (fun c_36 => ?_)
    · skip
      exact W.vret hx hb hr (fun t ht hW => ⟨⟨(I, A_1), rfl, (by have e2 : (Z, M_2) = o_puts (Z, M) f := (by unfold o_puts; rw [← e1]; dsimp only; rw [if_neg (by have h9 := c_36; rw [show (10 : Int32) = nI 10 from rfl, nI_eq (by have := o_size_le (M := M_2) (v := Z 5) hz1 hn; omega) (by omega)] at h9; exact h9)]); rw [← e2]; exact ⟨his, trivial⟩), m_wo_out hw ht hW.alike⟩, m_wo_F hw ht⟩) (m_wo_L hw) dX9_puts_44
    · skip
      refine lv_aload_n hx hb dX9_puts_39 rfl (lv_at hl 0 rfl) ?_
      refine lv_iconst (v := (-1)) hx hb dX9_puts_40 (by decide) ?_
      refine p_10_5 hx hb hts (by decide +kernel) hown hw hro.1 (hts (.fieldLink RX9 91 "PirateindexModel" "open" "I") (by decide +kernel)) dX9_puts_41 (fun H locs hw => ?_)
      obtain ⟨I_3, eI_3⟩ : ∃ z, z = m_up2 I 1005 o (-1) := ⟨_, rfl⟩
      rw [← eI_3] at hw
      obtain ⟨Z_4, eZ_4⟩ : ∃ z, z = z1 Z 5 (-1) := ⟨_, rfl⟩
      have his : r_st K o ad I A I_3 A_1 Z_4 M_2 th := by rw [eI_3, eZ_4]; exact r_st_z his 5 (-1) hro.1 (by decide)
      exact W.vret hx hb hr (fun t ht hW => ⟨⟨(I_3, A_1), rfl, (by have e2 : (Z_4, M_2) = o_puts (Z, M) f := (by unfold o_puts; rw [← e1]; dsimp only; rw [if_pos (by have h9 := c_36; rw [show (10 : Int32) = nI 10 from rfl, nI_eq (by have := o_size_le (M := M_2) (v := Z 5) hz1 hn; omega) (by omega)] at h9; exact h9), eZ_4]); rw [← e2]; exact ⟨his, trivial⟩), m_wo_out hw ht hW.alike⟩, m_wo_F hw ht⟩) (m_wo_L hw) dX9_puts_44
  · skip
    refine lv_aload_n hx hb dX9_puts_8 rfl (lv_at hl 0 rfl) ?_
    refine lv_aload_n hx hb dX9_puts_9 rfl (lv_at hl 0 rfl) ?_
    refine m_ci (va_runV (As := []) (rest := [.ref o]) ⟨hx, hb, hml, hown, hts⟩ (c_X9_opens l (Z := Z) (M := M) (th := th)  hro (r_st_self his) hsg hk) (cwV 0 hts gX9_puts_X9_opens rfl rfl rfl (by decide +kernel) ⟨Nat.le_of_ble_eq_true rfl, Nat.le_of_ble_eq_true rfl⟩) ⟨m_blind m_B_calling, m_recv hw (m_ent_10 hro.1) rfl, fun U hU hW => ⟨rfl, m_wo_call hw hU hW⟩⟩ rfl rfl hl.1 rfl (lv_room (Nat.le_of_ble_eq_true rfl)) dX9_puts_10 ⟨Nat.le_of_ble_eq_true rfl, Nat.le_of_ble_eq_true rfl⟩) hw (fun r_10 u_10 H locs hp_10 hw => ?_)
    obtain ⟨I_5, A_6⟩ := u_10
    have hw : m_wo G K I_5 R F A_6 N L T J D s H locs := hw
    dsimp only at hp_10
    have his := r_st_tr his hp_10.1
    obtain ⟨Z_7, eZ_7⟩ : ∃ z : Nat → Int32, z = (o_opens (Z, M)).1 := ⟨_, rfl⟩
    rw [← eZ_7] at his
    obtain ⟨M_8, eM_8⟩ : ∃ z : Nat → Nat → Int32, z = (o_opens (Z, M)).2 := ⟨_, rfl⟩
    rw [← eM_8] at his
    obtain rfl : r_10 = (Z 4) := hp_10.2
    refine p_10_5 hx hb hts (by decide +kernel) hown hw hro.1 (hts (.fieldLink RX9 91 "PirateindexModel" "open" "I") (by decide +kernel)) dX9_puts_13 (fun H locs hw => ?_)
    obtain ⟨I_9, eI_9⟩ : ∃ z, z = m_up2 I_5 1005 o (Z 4) := ⟨_, rfl⟩
    rw [← eI_9] at hw
    obtain ⟨Z_10, eZ_10⟩ : ∃ z, z = z1 Z_7 5 (Z 4) := ⟨_, rfl⟩
    have his : r_st K o ad I A I_9 A_6 Z_10 M_8 th := by rw [eI_9, eZ_10]; exact r_st_z his 5 (Z 4) hro.1 (by decide)
    have e0 : (Z_10, M_8) = o_puts0 (Z, M) := by unfold o_puts0; rw [if_pos (by exact c_5)]; simp only [eZ_7, eM_8, eZ_10]
    have hz1 : Z_10 1 = nI nf := by rw [show Z_10 = (o_puts0 (Z, M)).1 from congrArg Prod.fst e0]; unfold o_puts0; split <;> simpa [z1, o_opens] using hnf
    refine lv_aload_n hx hb dX9_puts_16 rfl (lv_at hl 0 rfl) ?_
    refine g_10_14 (r := some (ad 14)) hx hb hts (by decide +kernel) hown hw hro.1 (hts (.fieldLink RX9 32 "PirateindexModel" "within" "[I") (by decide +kernel)) (hro.2.1 14 rfl).1 dX9_puts_17 ?_
    refine lv_iload_n hx hb dX9_puts_20 rfl (lv_at hl 1 rfl) ?_
    refine lv_aload_n hx hb dX9_puts_21 rfl (lv_at hl 0 rfl) ?_
    refine g_10_5 hx hb hts (by decide +kernel) hown hw hro.1 (hts (.fieldLink RX9 91 "PirateindexModel" "open" "I") (by decide +kernel)) dX9_puts_22 ?_
    rw [show I_9 1005 o = Z_10 5 from his.1 5 (by decide)]
    refine m_iastore_20 hx hb hw (hro.2.1 14 rfl).2.1 (r_in hro 14 rfl (n := 120) rfl (by omega))  dX9_puts_25 (fun H locs hw => ?_)
    obtain ⟨A_11, eA_11⟩ : ∃ z, z = m_up A_6 (ad 14) (upd (A_6 (ad 14)) (nI f).toNatClampNeg (Z_10 5)) := ⟨_, rfl⟩
    rw [← eA_11] at hw
    obtain ⟨M_12, eM_12⟩ : ∃ z, z = m1 M_8 14 f (Z_10 5) := ⟨_, rfl⟩
    have his : r_st K o ad I A I_9 A_11 Z_10 M_12 th := by rw [eA_11, eM_12, nI_clamp (show f < 2 ^ 31 by omega)]; exact r_st_m his hro 14 rfl f (Z_10 5)
    have e1 : (Z_10, M_12) = o_puts1 (Z, M) f := by unfold o_puts1; rw [← e0, eM_12]
    have hzn : zn Z_10 1 = nf := by unfold zn; rw [hz1]; exact nI_clamp (by omega)
    refine lv_aload_n hx hb dX9_puts_26 rfl (lv_at hl 0 rfl) ?_
    refine lv_aload_n hx hb dX9_puts_27 rfl (lv_at hl 0 rfl) ?_
    refine g_10_5 hx hb hts (by decide +kernel) hown hw hro.1 (hts (.fieldLink RX9 91 "PirateindexModel" "open" "I") (by decide +kernel)) dX9_puts_28 ?_
    rw [show I_9 1005 o = Z_10 5 from his.1 5 (by decide)]
    refine m_ci (va_runV (As := [.int (Z_10 5)]) (rest := []) ⟨hx, hb, hml, hown, hts⟩ (c_X9_sizeOf l (Z := Z_10) (M := M_12) (th := th) (Z_10 5) hro (r_st_self his) hz1 hn) (cwV 1 hts gX9_puts_X9_sizeOf rfl rfl rfl (by decide +kernel) ⟨Nat.le_of_ble_eq_true rfl, Nat.le_of_ble_eq_true rfl⟩) ⟨m_blind m_B_calling, m_recv hw (m_ent_10 hro.1) rfl, fun U hU hW => ⟨rfl, m_wo_call hw hU hW⟩⟩ rfl rfl hl.1 rfl (lv_room (Nat.le_of_ble_eq_true rfl)) dX9_puts_31 ⟨Nat.le_of_ble_eq_true rfl, Nat.le_of_ble_eq_true rfl⟩) hw (fun r_31 u_31 H locs hp_31 hw => ?_)
    obtain rfl : r_31 = (nI (o_size Z_10 M_12 (Z_10 5))) := hp_31
    refine lv_bipush (v := 10) hx hb dX9_puts_34 (by decide) ?_
    refine lv_icmp_ne (tgt := 44) hx hb dX9_puts_36 (by decide) (fun c_36 => ?_) (fun c_36 => ?_)
    · skip
      exact W.vret hx hb hr (fun t ht hW => ⟨⟨(I_9, A_11), rfl, (by have e2 : (Z_10, M_12) = o_puts (Z, M) f := (by unfold o_puts; rw [← e1]; dsimp only; rw [if_neg (by have h9 := c_36; rw [show (10 : Int32) = nI 10 from rfl, nI_eq (by have := o_size_le (M := M_12) (v := Z_10 5) hz1 hn; omega) (by omega)] at h9; exact h9)]); rw [← e2]; exact ⟨his, trivial⟩), m_wo_out hw ht hW.alike⟩, m_wo_F hw ht⟩) (m_wo_L hw) dX9_puts_44
    · skip
      refine lv_aload_n hx hb dX9_puts_39 rfl (lv_at hl 0 rfl) ?_
      refine lv_iconst (v := (-1)) hx hb dX9_puts_40 (by decide) ?_
      refine p_10_5 hx hb hts (by decide +kernel) hown hw hro.1 (hts (.fieldLink RX9 91 "PirateindexModel" "open" "I") (by decide +kernel)) dX9_puts_41 (fun H locs hw => ?_)
      obtain ⟨I_13, eI_13⟩ : ∃ z, z = m_up2 I_9 1005 o (-1) := ⟨_, rfl⟩
      rw [← eI_13] at hw
      obtain ⟨Z_14, eZ_14⟩ : ∃ z, z = z1 Z_10 5 (-1) := ⟨_, rfl⟩
      have his : r_st K o ad I A I_13 A_11 Z_14 M_12 th := by rw [eI_13, eZ_14]; exact r_st_z his 5 (-1) hro.1 (by decide)
      exact W.vret hx hb hr (fun t ht hW => ⟨⟨(I_13, A_11), rfl, (by have e2 : (Z_14, M_12) = o_puts (Z, M) f := (by unfold o_puts; rw [← e1]; dsimp only; rw [if_pos (by have h9 := c_36; rw [show (10 : Int32) = nI 10 from rfl, nI_eq (by have := o_size_le (M := M_12) (v := Z_10 5) hz1 hn; omega) (by omega)] at h9; exact h9), eZ_14]); rw [← e2]; exact ⟨his, trivial⟩), m_wo_out hw ht hW.alike⟩, m_wo_F hw ht⟩) (m_wo_L hw) dX9_puts_44

set_option maxHeartbeats 400000 in
set_option maxRecDepth 100000 in
theorem c_X9_hasRoom (l : Launch) {G : mG} {K : Nat → Nat} {I : Nat → Nat → Int32} {R : Nat → Nat → Option Nat} {F : Nat → UInt32} {A : Nat → Nat → Int32} {N : Nat → Nat} {L : Nat → List Nat} {T : Nat → List Int32} {J : Nat → Nat → Int64} {D : Nat → Nat → UInt64} {o : Nat} {ad : Nat → Nat} {Z : Nat → Int32} {M : Nat → Nat → Int32} {th : Int32}  (hro : r_ok K R N o ad) (hz : r_st K o ad I A I A Z M th)  : Met l yX9_hasRoom wsX9_hasRoom ({ frames := 0, cells := 0, slots := 0, locals := 0 } : Room) (va_Pc [.ref o] (m_B G K I R F A N L T J D)) (va_Qi (fun (r : Int32) (_ : Unit) => r = b2i (o_room Z)) (fun u : Unit => m_B G K I R F A N L T J D) (m_A G)) 0 0 (m_A G) := by
  refine Met.ofW (cc := cX9_hasRoom) (maxL := 1) (ret := (some .boolean)) (by decide) rfl ?_
  intro p e s m args below meth c s₁ B hml hv
  obtain ⟨rfl, hB⟩ := hv
  have hx := B.exec
  have hb := B.bytes
  have hr := B.returns
  have hts := atoms_spec (ws := wsX9_hasRoom) B.pre
  have hown : s.vm.findClass RX9 = some m.cls := findClass_of_methodNamed B.named
  have hlocks := B.notSynchronized
  have hw := m_wo_in hB
  have hl := lv_entry ([.ref o]) (n := 1) (Nat.le_of_ble_eq_true rfl)
  rw [lg_entry_eq]
  generalize (lg_sl ([.ref o]) ++ List.replicate (1 - (lg_sl ([.ref o])).length) Slot.unset).toArray = ls at hl ⊢
  have hl : lv_has ls 1 [(0, .ref o)] := hl
  have his := hz
  refine lv_aload_n hx hb dX9_hasRoom_0 rfl (lv_at hl 0 rfl) ?_
  refine g_10_1 hx hb hts (by decide +kernel) hown hw hro.1 (hts (.fieldLink RX9 118 "PirateindexModel" "finds" "I") (by decide +kernel)) dX9_hasRoom_1 ?_
  rw [show I 1001 o = Z 1 from his.1 1 (by decide)]
  refine lv_bipush (v := 120) hx hb dX9_hasRoom_4 (by decide) ?_
  refine lv_icmp_ge (tgt := 30) hx hb dX9_hasRoom_6 (by decide) (fun c_6 => ?_) (fun c_6 => ?_)
  · skip
    refine lv_iconst (v := 0) hx hb dX9_hasRoom_30 (by decide) ?_
    exact W.zret (v := 0) hx hb hr (by rfl) (fun t ht hW => ⟨⟨0, (), rfl, (by simp [o_room, b2i, c_6]), m_wo_out hw ht hW.alike⟩, m_wo_F hw ht⟩) (m_wo_L hw) dX9_hasRoom_31
  · skip
    refine lv_aload_n hx hb dX9_hasRoom_9 rfl (lv_at hl 0 rfl) ?_
    refine g_10_5 hx hb hts (by decide +kernel) hown hw hro.1 (hts (.fieldLink RX9 91 "PirateindexModel" "open" "I") (by decide +kernel)) dX9_hasRoom_10 ?_
    rw [show I 1005 o = Z 5 from his.1 5 (by decide)]
    refine lv_iconst (v := (-1)) hx hb dX9_hasRoom_13 (by decide) ?_
    refine lv_icmp_ne (tgt := 26) hx hb dX9_hasRoom_14 (by decide) (fun c_14 => ?_) (fun c_14 => ?_)
    · skip
      refine lv_iconst (v := 1) hx hb dX9_hasRoom_26 (by decide) ?_
      refine lv_goto (tgt := 31) hx hb dX9_hasRoom_27 (by decide) ?_
      exact W.zret (v := 1) hx hb hr (by rfl) (fun t ht hW => ⟨⟨1, (), rfl, (by simp [o_room, b2i, c_6, c_14]), m_wo_out hw ht hW.alike⟩, m_wo_F hw ht⟩) (m_wo_L hw) dX9_hasRoom_31
    · skip
      refine lv_aload_n hx hb dX9_hasRoom_17 rfl (lv_at hl 0 rfl) ?_
      refine g_10_3 hx hb hts (by decide +kernel) hown hw hro.1 (hts (.fieldLink RX9 112 "PirateindexModel" "segments" "I") (by decide +kernel)) dX9_hasRoom_18 ?_
      rw [show I 1003 o = Z 3 from his.1 3 (by decide)]
      refine lv_bipush (v := 20) hx hb dX9_hasRoom_21 (by decide) ?_
      refine lv_icmp_ge (tgt := 30) hx hb dX9_hasRoom_23 (by decide) (fun c_23 => ?_) (fun c_23 => ?_)
      · skip
        refine lv_iconst (v := 0) hx hb dX9_hasRoom_30 (by decide) ?_
        exact W.zret (v := 0) hx hb hr (by rfl) (fun t ht hW => ⟨⟨0, (), rfl, (by simp [o_room, b2i, c_6, c_14, c_23]), m_wo_out hw ht hW.alike⟩, m_wo_F hw ht⟩) (m_wo_L hw) dX9_hasRoom_31
      · skip
        refine lv_iconst (v := 1) hx hb dX9_hasRoom_26 (by decide) ?_
        refine lv_goto (tgt := 31) hx hb dX9_hasRoom_27 (by decide) ?_
        exact W.zret (v := 1) hx hb hr (by rfl) (fun t ht hW => ⟨⟨1, (), rfl, (by simp [o_room, b2i, c_6, c_14, c_23]), m_wo_out hw ht hW.alike⟩, m_wo_F hw ht⟩) (m_wo_L hw) dX9_hasRoom_31

set_option maxHeartbeats 400000 in
set_option maxRecDepth 100000 in
theorem c_X9_comes (l : Launch) {G : mG} {K : Nat → Nat} {I : Nat → Nat → Int32} {R : Nat → Nat → Option Nat} {F : Nat → UInt32} {A : Nat → Nat → Int32} {N : Nat → Nat} {L : Nat → List Nat} {T : Nat → List Int32} {J : Nat → Nat → Int64} {D : Nat → Nat → UInt64} {o : Nat} {ad : Nat → Nat} {Z : Nat → Int32} {M : Nat → Nat → Int32} {th : Int32} {nf k : Nat} (wd isl pl shp : Int32) (hro : r_ok K R N o ad) (hz : r_st K o ad I A I A Z M th) (hnf : Z 1 = nI nf) (hn : nf < 120) (hsg : Z 3 = nI k) (hk : k ≤ 20) : Met l yX9_comes wsX9_comes ({ frames := 3, cells := 0, slots := 0, locals := 90 } : Room) (va_Pc [.ref o, .int wd, .int isl, .int pl, .int shp] (m_B G K I R F A N L T J D)) (va_Qi (fun (r : Int32) (u : (Nat → Nat → Int32) × (Nat → Nat → Int32)) => (r_st K o ad I A u.1 u.2 (o_comes (Z, M) wd isl pl shp).1 (o_comes (Z, M) wd isl pl shp).2 th) ∧ r = Z 1) (fun u : (Nat → Nat → Int32) × (Nat → Nat → Int32) => m_B G K (u.1) R F (u.2) N L T J D) (m_A G)) 0 0 (m_A G) := by
  refine Met.ofW (cc := cX9_comes) (maxL := 5) (ret := (some .int)) (by decide) rfl ?_
  intro p e s m args below meth c s₁ B hml hv
  obtain ⟨rfl, hB⟩ := hv
  have hx := B.exec
  have hb := B.bytes
  have hr := B.returns
  have hts := atoms_spec (ws := wsX9_comes) B.pre
  have hown : s.vm.findClass RX9 = some m.cls := findClass_of_methodNamed B.named
  have hlocks := B.notSynchronized
  have hw := m_wo_in hB
  have hl := lv_entry ([.ref o, .int wd, .int isl, .int pl, .int shp]) (n := 5) (Nat.le_of_ble_eq_true rfl)
  rw [lg_entry_eq]
  generalize (lg_sl ([.ref o, .int wd, .int isl, .int pl, .int shp]) ++ List.replicate (5 - (lg_sl ([.ref o, .int wd, .int isl, .int pl, .int shp])).length) Slot.unset).toArray = ls at hl ⊢
  have hl : lv_has ls 5 [(0, .ref o), (1, .int wd), (2, .int isl), (3, .int pl), (4, .int shp)] := hl
  have his := hz
  refine lv_aload_n hx hb dX9_comes_0 rfl (lv_at hl 0 rfl) ?_
  refine g_10_11 (r := some (ad 11)) hx hb hts (by decide +kernel) hown hw hro.1 (hts (.fieldLink RX9 23 "PirateindexModel" "words" "[I") (by decide +kernel)) (hro.2.1 11 rfl).1 dX9_comes_1 ?_
  refine lv_aload_n hx hb dX9_comes_4 rfl (lv_at hl 0 rfl) ?_
  refine g_10_1 hx hb hts (by decide +kernel) hown hw hro.1 (hts (.fieldLink RX9 118 "PirateindexModel" "finds" "I") (by decide +kernel)) dX9_comes_5 ?_
  rw [show I 1001 o = Z 1 from his.1 1 (by decide)]
  refine lv_iload_n hx hb dX9_comes_8 rfl (lv_at hl 1 rfl) ?_
  refine m_iastore_20 hx hb hw (hro.2.1 11 rfl).2.1 (by rw [hnf]; exact r_in hro 11 rfl (n := 120) rfl hn)  dX9_comes_9 (fun H locs hw => ?_)
  obtain ⟨A_1, eA_1⟩ : ∃ z, z = m_up A (ad 11) (upd (A (ad 11)) (Z 1).toNatClampNeg wd) := ⟨_, rfl⟩
  rw [← eA_1] at hw
  obtain ⟨M_2, eM_2⟩ : ∃ z, z = m1 M 11 nf wd := ⟨_, rfl⟩
  have his : r_st K o ad I A I A_1 Z M_2 th := by rw [eA_1, eM_2, show (Z 1).toNatClampNeg = nf from by rw [hnf]; exact nI_clamp (by omega)]; exact r_st_m his hro 11 rfl nf wd
  refine lv_aload_n hx hb dX9_comes_10 rfl (lv_at hl 0 rfl) ?_
  refine g_10_12 (r := some (ad 12)) hx hb hts (by decide +kernel) hown hw hro.1 (hts (.fieldLink RX9 26 "PirateindexModel" "on" "[I") (by decide +kernel)) (hro.2.1 12 rfl).1 dX9_comes_11 ?_
  refine lv_aload_n hx hb dX9_comes_14 rfl (lv_at hl 0 rfl) ?_
  refine g_10_1 hx hb hts (by decide +kernel) hown hw hro.1 (hts (.fieldLink RX9 118 "PirateindexModel" "finds" "I") (by decide +kernel)) dX9_comes_15 ?_
  rw [show I 1001 o = Z 1 from his.1 1 (by decide)]
  refine lv_iload_n hx hb dX9_comes_18 rfl (lv_at hl 2 rfl) ?_
  refine m_iastore_20 hx hb hw (hro.2.1 12 rfl).2.1 (by rw [hnf]; exact r_in hro 12 rfl (n := 120) rfl hn)  dX9_comes_19 (fun H locs hw => ?_)
  obtain ⟨A_3, eA_3⟩ : ∃ z, z = m_up A_1 (ad 12) (upd (A_1 (ad 12)) (Z 1).toNatClampNeg isl) := ⟨_, rfl⟩
  rw [← eA_3] at hw
  obtain ⟨M_4, eM_4⟩ : ∃ z, z = m1 M_2 12 nf isl := ⟨_, rfl⟩
  have his : r_st K o ad I A I A_3 Z M_4 th := by rw [eA_3, eM_4, show (Z 1).toNatClampNeg = nf from by rw [hnf]; exact nI_clamp (by omega)]; exact r_st_m his hro 12 rfl nf isl
  refine lv_aload_n hx hb dX9_comes_20 rfl (lv_at hl 0 rfl) ?_
  refine g_10_13 (r := some (ad 13)) hx hb hts (by decide +kernel) hown hw hro.1 (hts (.fieldLink RX9 29 "PirateindexModel" "places" "[I") (by decide +kernel)) (hro.2.1 13 rfl).1 dX9_comes_21 ?_
  refine lv_aload_n hx hb dX9_comes_24 rfl (lv_at hl 0 rfl) ?_
  refine g_10_1 hx hb hts (by decide +kernel) hown hw hro.1 (hts (.fieldLink RX9 118 "PirateindexModel" "finds" "I") (by decide +kernel)) dX9_comes_25 ?_
  rw [show I 1001 o = Z 1 from his.1 1 (by decide)]
  refine lv_iload_n hx hb dX9_comes_28 rfl (lv_at hl 3 rfl) ?_
  refine m_iastore_20 hx hb hw (hro.2.1 13 rfl).2.1 (by rw [hnf]; exact r_in hro 13 rfl (n := 120) rfl hn)  dX9_comes_29 (fun H locs hw => ?_)
  obtain ⟨A_5, eA_5⟩ : ∃ z, z = m_up A_3 (ad 13) (upd (A_3 (ad 13)) (Z 1).toNatClampNeg pl) := ⟨_, rfl⟩
  rw [← eA_5] at hw
  obtain ⟨M_6, eM_6⟩ : ∃ z, z = m1 M_4 13 nf pl := ⟨_, rfl⟩
  have his : r_st K o ad I A I A_5 Z M_6 th := by rw [eA_5, eM_6, show (Z 1).toNatClampNeg = nf from by rw [hnf]; exact nI_clamp (by omega)]; exact r_st_m his hro 13 rfl nf pl
  refine lv_aload_n hx hb dX9_comes_30 rfl (lv_at hl 0 rfl) ?_
  refine g_10_15 (r := some (ad 15)) hx hb hts (by decide +kernel) hown hw hro.1 (hts (.fieldLink RX9 35 "PirateindexModel" "rival" "[I") (by decide +kernel)) (hro.2.1 15 rfl).1 dX9_comes_31 ?_
  refine lv_aload_n hx hb dX9_comes_34 rfl (lv_at hl 0 rfl) ?_
  refine g_10_1 hx hb hts (by decide +kernel) hown hw hro.1 (hts (.fieldLink RX9 118 "PirateindexModel" "finds" "I") (by decide +kernel)) dX9_comes_35 ?_
  rw [show I 1001 o = Z 1 from his.1 1 (by decide)]
  refine lv_iload hx hb dX9_comes_38 (lv_at hl 4 rfl) ?_
  refine m_iastore_20 hx hb hw (hro.2.1 15 rfl).2.1 (by rw [hnf]; exact r_in hro 15 rfl (n := 120) rfl hn)  dX9_comes_40 (fun H locs hw => ?_)
  obtain ⟨A_7, eA_7⟩ : ∃ z, z = m_up A_5 (ad 15) (upd (A_5 (ad 15)) (Z 1).toNatClampNeg shp) := ⟨_, rfl⟩
  rw [← eA_7] at hw
  obtain ⟨M_8, eM_8⟩ : ∃ z, z = m1 M_6 15 nf shp := ⟨_, rfl⟩
  have his : r_st K o ad I A I A_7 Z M_8 th := by rw [eA_7, eM_8, show (Z 1).toNatClampNeg = nf from by rw [hnf]; exact nI_clamp (by omega)]; exact r_st_m his hro 15 rfl nf shp
  refine lv_aload_n hx hb dX9_comes_41 rfl (lv_at hl 0 rfl) ?_
  refine g_10_16 (r := some (ad 16)) hx hb hts (by decide +kernel) hown hw hro.1 (hts (.fieldLink RX9 38 "PirateindexModel" "struck" "[Z") (by decide +kernel)) (hro.2.1 16 rfl).1 dX9_comes_42 ?_
  refine lv_aload_n hx hb dX9_comes_45 rfl (lv_at hl 0 rfl) ?_
  refine g_10_1 hx hb hts (by decide +kernel) hown hw hro.1 (hts (.fieldLink RX9 118 "PirateindexModel" "finds" "I") (by decide +kernel)) dX9_comes_46 ?_
  rw [show I 1001 o = Z 1 from his.1 1 (by decide)]
  refine lv_iconst (v := 0) hx hb dX9_comes_49 (by decide) ?_
  refine m_bastore_30 hx hb hw (hro.2.1 16 rfl).2.1 (by rw [hnf]; exact r_in hro 16 rfl (n := 120) rfl hn) (Or.inl rfl) dX9_comes_50 (fun H locs hw => ?_)
  obtain ⟨A_9, eA_9⟩ : ∃ z, z = m_up A_7 (ad 16) (upd (A_7 (ad 16)) (Z 1).toNatClampNeg 0) := ⟨_, rfl⟩
  rw [← eA_9] at hw
  obtain ⟨M_10, eM_10⟩ : ∃ z, z = m1 M_8 16 nf 0 := ⟨_, rfl⟩
  have his : r_st K o ad I A I A_9 Z M_10 th := by rw [eA_9, eM_10, show (Z 1).toNatClampNeg = nf from by rw [hnf]; exact nI_clamp (by omega)]; exact r_st_m his hro 16 rfl nf 0
  refine lv_aload_n hx hb dX9_comes_51 rfl (lv_at hl 0 rfl) ?_
  refine g_10_14 (r := some (ad 14)) hx hb hts (by decide +kernel) hown hw hro.1 (hts (.fieldLink RX9 32 "PirateindexModel" "within" "[I") (by decide +kernel)) (hro.2.1 14 rfl).1 dX9_comes_52 ?_
  refine lv_aload_n hx hb dX9_comes_55 rfl (lv_at hl 0 rfl) ?_
  refine g_10_1 hx hb hts (by decide +kernel) hown hw hro.1 (hts (.fieldLink RX9 118 "PirateindexModel" "finds" "I") (by decide +kernel)) dX9_comes_56 ?_
  rw [show I 1001 o = Z 1 from his.1 1 (by decide)]
  refine lv_iconst (v := (-1)) hx hb dX9_comes_59 (by decide) ?_
  refine m_iastore_20 hx hb hw (hro.2.1 14 rfl).2.1 (by rw [hnf]; exact r_in hro 14 rfl (n := 120) rfl hn)  dX9_comes_60 (fun H locs hw => ?_)
  obtain ⟨A_11, eA_11⟩ : ∃ z, z = m_up A_9 (ad 14) (upd (A_9 (ad 14)) (Z 1).toNatClampNeg (-1)) := ⟨_, rfl⟩
  rw [← eA_11] at hw
  obtain ⟨M_12, eM_12⟩ : ∃ z, z = m1 M_10 14 nf (-1) := ⟨_, rfl⟩
  have his : r_st K o ad I A I A_11 Z M_12 th := by rw [eA_11, eM_12, show (Z 1).toNatClampNeg = nf from by rw [hnf]; exact nI_clamp (by omega)]; exact r_st_m his hro 14 rfl nf (-1)
  refine lv_aload_n hx hb dX9_comes_61 rfl (lv_at hl 0 rfl) ?_
  refine lv_dup hx hb dX9_comes_62 rfl ?_
  refine g_10_1 hx hb hts (by decide +kernel) hown hw hro.1 (hts (.fieldLink RX9 118 "PirateindexModel" "finds" "I") (by decide +kernel)) dX9_comes_63 ?_
  rw [show I 1001 o = Z 1 from his.1 1 (by decide)]
  refine lv_iconst (v := 1) hx hb dX9_comes_66 (by decide) ?_
  refine lv_iadd hx hb dX9_comes_67 ?_
  refine p_10_1 hx hb hts (by decide +kernel) hown hw hro.1 (hts (.fieldLink RX9 118 "PirateindexModel" "finds" "I") (by decide +kernel)) dX9_comes_68 (fun H locs hw => ?_)
  obtain ⟨I_13, eI_13⟩ : ∃ z, z = m_up2 I 1001 o ((Z 1) + 1) := ⟨_, rfl⟩
  rw [← eI_13] at hw
  obtain ⟨Z_14, eZ_14⟩ : ∃ z, z = z1 Z 1 ((Z 1) + 1) := ⟨_, rfl⟩
  have his : r_st K o ad I A I_13 A_11 Z_14 M_12 th := by rw [eI_13, eZ_14]; exact r_st_z his 1 ((Z 1) + 1) hro.1 (by decide)
  refine lv_aload_n hx hb dX9_comes_71 rfl (lv_at hl 0 rfl) ?_
  refine lv_aload_n hx hb dX9_comes_72 rfl (lv_at hl 0 rfl) ?_
  refine g_10_1 hx hb hts (by decide +kernel) hown hw hro.1 (hts (.fieldLink RX9 118 "PirateindexModel" "finds" "I") (by decide +kernel)) dX9_comes_73 ?_
  rw [show I_13 1001 o = Z_14 1 from his.1 1 (by decide)]
  refine lv_iconst (v := 1) hx hb dX9_comes_76 (by decide) ?_
  refine lv_isub hx hb dX9_comes_77 ?_
  have e1 : (Z_14, M_12) = o_told (Z, M) wd isl pl shp := by unfold o_told; simp only [eM_2, eM_4, eM_6, eM_8, eM_10, eM_12, eZ_14, show zn Z 1 = nf from by unfold zn; rw [hnf]; exact nI_clamp (by omega)]
  have hz1 : Z_14 1 = nI (nf + 1) := by rw [eZ_14, z1_s, hnf]; exact nI_1 nf
  have hz3 : Z_14 3 = nI k := by rw [eZ_14]; exact hsg
  rw [show ((Z_14 1) - 1) = (nI nf) from by rw [hz1]; exact nI_pred nf]
  refine m_cv (va_runV (As := [.int (nI nf)]) (rest := []) ⟨hx, hb, hml, hown, hts⟩ (c_X9_puts l (Z := Z_14) (M := M_12) (th := th) nf hro (r_st_self his) (by omega) hz1 (by omega) hz3 (by omega)) (cwV 1 hts gX9_comes_X9_puts rfl rfl rfl (by decide +kernel) ⟨Nat.le_of_ble_eq_true rfl, Nat.le_of_ble_eq_true rfl⟩) ⟨m_blind m_B_calling, m_recv hw (m_ent_10 hro.1) rfl, fun U hU hW => ⟨rfl, m_wo_call hw hU hW⟩⟩ rfl rfl hl.1 rfl (lv_room (Nat.le_of_ble_eq_true rfl)) dX9_comes_78 ⟨Nat.le_of_ble_eq_true rfl, Nat.le_of_ble_eq_true rfl⟩) hw (fun u_78 H locs hp_78 hw => ?_)
  obtain ⟨I_15, A_16⟩ := u_78
  have hw : m_wo G K I_15 R F A_16 N L T J D s H locs := hw
  dsimp only at hp_78
  have his := r_st_tr his hp_78.1
  obtain ⟨Z_17, eZ_17⟩ : ∃ z : Nat → Int32, z = (o_puts (Z_14, M_12) nf).1 := ⟨_, rfl⟩
  rw [← eZ_17] at his
  obtain ⟨M_18, eM_18⟩ : ∃ z : Nat → Nat → Int32, z = (o_puts (Z_14, M_12) nf).2 := ⟨_, rfl⟩
  rw [← eM_18] at his
  refine lv_aload_n hx hb dX9_comes_81 rfl (lv_at hl 0 rfl) ?_
  refine g_10_1 hx hb hts (by decide +kernel) hown hw hro.1 (hts (.fieldLink RX9 118 "PirateindexModel" "finds" "I") (by decide +kernel)) dX9_comes_82 ?_
  rw [show I_15 1001 o = Z_17 1 from his.1 1 (by decide)]
  refine lv_iconst (v := 1) hx hb dX9_comes_85 (by decide) ?_
  refine lv_isub hx hb dX9_comes_86 ?_
  exact W.iret (v := ((Z_17 1) - 1)) hx hb hr (fun t ht hW => ⟨⟨((Z_17 1) - 1), (I_15, A_16), rfl, (by have e2 : (Z_17, M_18) = o_comes (Z, M) wd isl pl shp := (by unfold o_comes; rw [← e1, show zn Z 1 = nf from by unfold zn; rw [hnf]; exact nI_clamp (by omega)]; simp only [eZ_17, eM_18]); rw [← e2]; exact ⟨his, by rw [hnf, show Z_17 1 = nI (nf + 1) from by rw [eZ_17, o_puts_1]; exact hz1]; exact nI_pred nf⟩), m_wo_out hw ht hW.alike⟩, m_wo_F hw ht⟩) (m_wo_L hw) dX9_comes_87

set_option maxHeartbeats 400000 in
set_option maxRecDepth 100000 in
theorem c_X9_island (l : Launch) {G : mG} {K : Nat → Nat} {I : Nat → Nat → Int32} {R : Nat → Nat → Option Nat} {F : Nat → UInt32} {A : Nat → Nat → Int32} {N : Nat → Nat} {L : Nat → List Nat} {T : Nat → List Int32} {J : Nat → Nat → Int64} {D : Nat → Nat → UInt64} {o : Nat} {ad : Nat → Nat} {Z : Nat → Int32} {M : Nat → Nat → Int32} {th : Int32} {ni : Nat} (x y tr : Int32) (hro : r_ok K R N o ad) (hz : r_st K o ad I A I A Z M th) (hni : Z 0 = nI ni) (hn : ni ≤ 12) : Met l yX9_island wsX9_island ({ frames := 1, cells := 0, slots := 0, locals := 22 } : Room) (va_Pc [.ref o, .int x, .int y, .int tr] (m_B G K I R F A N L T J D)) (va_Qi (fun (r : Int32) (u : (Nat → Nat → Int32) × (Nat → Nat → Int32)) => (r_st K o ad I A u.1 u.2 (if t_island Z x y tr = 0 then p_island (Z, M) x y tr else (Z, M)).1 (if t_island Z x y tr = 0 then p_island (Z, M) x y tr else (Z, M)).2 (t_island Z x y tr)) ∧ (t_island Z x y tr = 0 → r = Z 0)) (fun u : (Nat → Nat → Int32) × (Nat → Nat → Int32) => m_B G K (u.1) R F (u.2) N L T J D) (m_A G)) 0 0 (m_A G) := by
  refine Met.ofW (cc := cX9_island) (maxL := 4) (ret := (some .int)) (by decide) rfl ?_
  intro p e s m args below meth c s₁ B hml hv
  obtain ⟨rfl, hB⟩ := hv
  have hx := B.exec
  have hb := B.bytes
  have hr := B.returns
  have hts := atoms_spec (ws := wsX9_island) B.pre
  have hown : s.vm.findClass RX9 = some m.cls := findClass_of_methodNamed B.named
  have hlocks := B.notSynchronized
  have hw := m_wo_in hB
  have hl := lv_entry ([.ref o, .int x, .int y, .int tr]) (n := 4) (Nat.le_of_ble_eq_true rfl)
  rw [lg_entry_eq]
  generalize (lg_sl ([.ref o, .int x, .int y, .int tr]) ++ List.replicate (4 - (lg_sl ([.ref o, .int x, .int y, .int tr])).length) Slot.unset).toArray = ls at hl ⊢
  have hl : lv_has ls 4 [(0, .ref o), (1, .int x), (2, .int y), (3, .int tr)] := hl
  have his := hz
  refine lv_aload_n hx hb dX9_island_0 rfl (lv_at hl 0 rfl) ?_
  refine lv_iload_n hx hb dX9_island_1 rfl (lv_at hl 1 rfl) ?_
  refine lv_iconst (v := 0) hx hb dX9_island_2 (by decide) ?_
  refine lv_bipush (v := 99) hx hb dX9_island_3 (by decide) ?_
  refine m_ci (va_runS (As := [.int x, .int 0, .int 99]) (rest := [.ref o]) ⟨hx, hb, hml, hown, hts⟩ (c_X9_isIn l x 0 99) (va_cwS 3 hts gX9_island_X9_isIn rfl rfl rfl (by decide +kernel) ⟨Nat.le_of_ble_eq_true rfl, Nat.le_of_ble_eq_true rfl⟩) ⟨m_blind m_B_calling, fun U hU hW => ⟨rfl, m_wo_call hw hU hW⟩⟩ rfl rfl hl.1 rfl (lv_room (Nat.le_of_ble_eq_true rfl)) dX9_island_5 ⟨Nat.le_of_ble_eq_true rfl, Nat.le_of_ble_eq_true rfl⟩) hw (fun r_5 u_5 H locs hp_5 hw => ?_)
  obtain rfl : r_5 = (b2i (o_rng x 0 99)) := hp_5
  refine lv_if_eq (tgt := 36) hx hb dX9_island_8 (by decide) (fun c_8 => ?_) (fun c_8 => ?_)
  · skip
    have q_8 : (o_rng x 0 99) = false := by first | (have := (b2i_ne _).mp c_8; simpa using this) | (have := (b2i_eq _).mp c_8; simpa using this)
    refine lv_iconst (v := 0) hx hb dX9_island_36 (by decide) ?_
    refine lv_iconst (v := 1) hx hb dX9_island_37 (by decide) ?_
    refine m_ci (va_runV (As := [.int 0, .int 1]) (rest := []) ⟨hx, hb, hml, hown, hts⟩ (c_X9_no l (Z := Z) (M := M) (th := th) false 1 hro (r_st_self his) ) (cwV 2 hts gX9_island_X9_no rfl rfl rfl (by decide +kernel) ⟨Nat.le_of_ble_eq_true rfl, Nat.le_of_ble_eq_true rfl⟩) ⟨m_blind m_B_calling, m_recv hw (m_ent_10 hro.1) rfl, fun U hU hW => ⟨rfl, m_wo_call hw hU hW⟩⟩ rfl rfl hl.1 rfl (lv_room (Nat.le_of_ble_eq_true rfl)) dX9_island_38 ⟨Nat.le_of_ble_eq_true rfl, Nat.le_of_ble_eq_true rfl⟩) hw (fun r_38 u_38 H locs hp_38 hw => ?_)
    obtain ⟨I_1, A_2⟩ := u_38
    have hw : m_wo G K I_1 R F A_2 N L T J D s H locs := hw
    dsimp only at hp_38
    have his := r_st_tr his hp_38.1
    obtain rfl : r_38 = (b2i (!false)) := hp_38.2
    refine lv_if_ne (tgt := 66) hx hb dX9_island_41 (by decide) (fun c_41 => ?_) (fun c_41 => absurd c_41 (by decide))
    refine lv_iconst (v := 0) hx hb dX9_island_66 (by decide) ?_
    exact W.iret (v := 0) hx hb hr (fun t ht hW => ⟨⟨0, (I_1, A_2), rfl, (by have ht : t_island Z x y tr = 1 := (by simp [t_island, q_8]); rw [ht]; exact ⟨by first | exact his | simpa [q_8] using his, fun h => absurd h (by decide)⟩), m_wo_out hw ht hW.alike⟩, m_wo_F hw ht⟩) (m_wo_L hw) dX9_island_67
  · skip
    have q_8 : (o_rng x 0 99) = true := by first | (have := (b2i_ne _).mp c_8; simpa using this) | (have := (b2i_eq _).mp c_8; simpa using this)
    refine lv_iload_n hx hb dX9_island_11 rfl (lv_at hl 2 rfl) ?_
    refine lv_iconst (v := 0) hx hb dX9_island_12 (by decide) ?_
    refine lv_bipush (v := 99) hx hb dX9_island_13 (by decide) ?_
    refine m_ci (va_runS (As := [.int y, .int 0, .int 99]) (rest := [.ref o]) ⟨hx, hb, hml, hown, hts⟩ (c_X9_isIn l y 0 99) (va_cwS 3 hts gX9_island_X9_isIn rfl rfl rfl (by decide +kernel) ⟨Nat.le_of_ble_eq_true rfl, Nat.le_of_ble_eq_true rfl⟩) ⟨m_blind m_B_calling, fun U hU hW => ⟨rfl, m_wo_call hw hU hW⟩⟩ rfl rfl hl.1 rfl (lv_room (Nat.le_of_ble_eq_true rfl)) dX9_island_15 ⟨Nat.le_of_ble_eq_true rfl, Nat.le_of_ble_eq_true rfl⟩) hw (fun r_15 u_15 H locs hp_15 hw => ?_)
    obtain rfl : r_15 = (b2i (o_rng y 0 99)) := hp_15
    refine lv_if_eq (tgt := 36) hx hb dX9_island_18 (by decide) (fun c_18 => ?_) (fun c_18 => ?_)
    · skip
      have q_18 : (o_rng y 0 99) = false := by first | (have := (b2i_ne _).mp c_18; simpa using this) | (have := (b2i_eq _).mp c_18; simpa using this)
      refine lv_iconst (v := 0) hx hb dX9_island_36 (by decide) ?_
      refine lv_iconst (v := 1) hx hb dX9_island_37 (by decide) ?_
      refine m_ci (va_runV (As := [.int 0, .int 1]) (rest := []) ⟨hx, hb, hml, hown, hts⟩ (c_X9_no l (Z := Z) (M := M) (th := th) false 1 hro (r_st_self his) ) (cwV 2 hts gX9_island_X9_no rfl rfl rfl (by decide +kernel) ⟨Nat.le_of_ble_eq_true rfl, Nat.le_of_ble_eq_true rfl⟩) ⟨m_blind m_B_calling, m_recv hw (m_ent_10 hro.1) rfl, fun U hU hW => ⟨rfl, m_wo_call hw hU hW⟩⟩ rfl rfl hl.1 rfl (lv_room (Nat.le_of_ble_eq_true rfl)) dX9_island_38 ⟨Nat.le_of_ble_eq_true rfl, Nat.le_of_ble_eq_true rfl⟩) hw (fun r_38 u_38 H locs hp_38 hw => ?_)
      obtain ⟨I_3, A_4⟩ := u_38
      have hw : m_wo G K I_3 R F A_4 N L T J D s H locs := hw
      dsimp only at hp_38
      have his := r_st_tr his hp_38.1
      obtain rfl : r_38 = (b2i (!false)) := hp_38.2
      refine lv_if_ne (tgt := 66) hx hb dX9_island_41 (by decide) (fun c_41 => ?_) (fun c_41 => absurd c_41 (by decide))
      refine lv_iconst (v := 0) hx hb dX9_island_66 (by decide) ?_
      exact W.iret (v := 0) hx hb hr (fun t ht hW => ⟨⟨0, (I_3, A_4), rfl, (by have ht : t_island Z x y tr = 1 := (by simp [t_island, q_8, q_18]); rw [ht]; exact ⟨by first | exact his | simpa [q_8, q_18] using his, fun h => absurd h (by decide)⟩), m_wo_out hw ht hW.alike⟩, m_wo_F hw ht⟩) (m_wo_L hw) dX9_island_67
    · skip
      have q_18 : (o_rng y 0 99) = true := by first | (have := (b2i_ne _).mp c_18; simpa using this) | (have := (b2i_eq _).mp c_18; simpa using this)
      refine lv_iload_n hx hb dX9_island_21 rfl (lv_at hl 3 rfl) ?_
      refine lv_iconst (v := 0) hx hb dX9_island_22 (by decide) ?_
      refine lv_sipush (v := 999) hx hb dX9_island_23 (by decide) ?_
      refine m_ci (va_runS (As := [.int tr, .int 0, .int 999]) (rest := [.ref o]) ⟨hx, hb, hml, hown, hts⟩ (c_X9_isIn l tr 0 999) (va_cwS 3 hts gX9_island_X9_isIn rfl rfl rfl (by decide +kernel) ⟨Nat.le_of_ble_eq_true rfl, Nat.le_of_ble_eq_true rfl⟩) ⟨m_blind m_B_calling, fun U hU hW => ⟨rfl, m_wo_call hw hU hW⟩⟩ rfl rfl hl.1 rfl (lv_room (Nat.le_of_ble_eq_true rfl)) dX9_island_26 ⟨Nat.le_of_ble_eq_true rfl, Nat.le_of_ble_eq_true rfl⟩) hw (fun r_26 u_26 H locs hp_26 hw => ?_)
      obtain rfl : r_26 = (b2i (o_rng tr 0 999)) := hp_26
      refine lv_if_eq (tgt := 36) hx hb dX9_island_29 (by decide) (fun c_29 => ?_) (fun c_29 => ?_)
      · skip
        have q_29 : (o_rng tr 0 999) = false := by first | (have := (b2i_ne _).mp c_29; simpa using this) | (have := (b2i_eq _).mp c_29; simpa using this)
        refine lv_iconst (v := 0) hx hb dX9_island_36 (by decide) ?_
        refine lv_iconst (v := 1) hx hb dX9_island_37 (by decide) ?_
        refine m_ci (va_runV (As := [.int 0, .int 1]) (rest := []) ⟨hx, hb, hml, hown, hts⟩ (c_X9_no l (Z := Z) (M := M) (th := th) false 1 hro (r_st_self his) ) (cwV 2 hts gX9_island_X9_no rfl rfl rfl (by decide +kernel) ⟨Nat.le_of_ble_eq_true rfl, Nat.le_of_ble_eq_true rfl⟩) ⟨m_blind m_B_calling, m_recv hw (m_ent_10 hro.1) rfl, fun U hU hW => ⟨rfl, m_wo_call hw hU hW⟩⟩ rfl rfl hl.1 rfl (lv_room (Nat.le_of_ble_eq_true rfl)) dX9_island_38 ⟨Nat.le_of_ble_eq_true rfl, Nat.le_of_ble_eq_true rfl⟩) hw (fun r_38 u_38 H locs hp_38 hw => ?_)
        obtain ⟨I_5, A_6⟩ := u_38
        have hw : m_wo G K I_5 R F A_6 N L T J D s H locs := hw
        dsimp only at hp_38
        have his := r_st_tr his hp_38.1
        obtain rfl : r_38 = (b2i (!false)) := hp_38.2
        refine lv_if_ne (tgt := 66) hx hb dX9_island_41 (by decide) (fun c_41 => ?_) (fun c_41 => absurd c_41 (by decide))
        refine lv_iconst (v := 0) hx hb dX9_island_66 (by decide) ?_
        exact W.iret (v := 0) hx hb hr (fun t ht hW => ⟨⟨0, (I_5, A_6), rfl, (by have ht : t_island Z x y tr = 1 := (by simp [t_island, q_8, q_18, q_29]); rw [ht]; exact ⟨by first | exact his | simpa [q_8, q_18, q_29] using his, fun h => absurd h (by decide)⟩), m_wo_out hw ht hW.alike⟩, m_wo_F hw ht⟩) (m_wo_L hw) dX9_island_67
      · skip
        have q_29 : (o_rng tr 0 999) = true := by first | (have := (b2i_ne _).mp c_29; simpa using this) | (have := (b2i_eq _).mp c_29; simpa using this)
        refine lv_iconst (v := 1) hx hb dX9_island_32 (by decide) ?_
        refine lv_goto (tgt := 37) hx hb dX9_island_33 (by decide) ?_
        refine lv_iconst (v := 1) hx hb dX9_island_37 (by decide) ?_
        refine m_ci (va_runV (As := [.int 1, .int 1]) (rest := []) ⟨hx, hb, hml, hown, hts⟩ (c_X9_no l (Z := Z) (M := M) (th := th) true 1 hro (r_st_self his) ) (cwV 2 hts gX9_island_X9_no rfl rfl rfl (by decide +kernel) ⟨Nat.le_of_ble_eq_true rfl, Nat.le_of_ble_eq_true rfl⟩) ⟨m_blind m_B_calling, m_recv hw (m_ent_10 hro.1) rfl, fun U hU hW => ⟨rfl, m_wo_call hw hU hW⟩⟩ rfl rfl hl.1 rfl (lv_room (Nat.le_of_ble_eq_true rfl)) dX9_island_38 ⟨Nat.le_of_ble_eq_true rfl, Nat.le_of_ble_eq_true rfl⟩) hw (fun r_38 u_38 H locs hp_38 hw => ?_)
        obtain ⟨I_7, A_8⟩ := u_38
        have hw : m_wo G K I_7 R F A_8 N L T J D s H locs := hw
        dsimp only at hp_38
        have his := r_st_tr his hp_38.1
        obtain rfl : r_38 = (b2i (!true)) := hp_38.2
        refine lv_if_ne (tgt := 66) hx hb dX9_island_41 (by decide) (fun c_41 => absurd (by decide) c_41) (fun c_41 => ?_)
        refine lv_aload_n hx hb dX9_island_44 rfl (lv_at hl 0 rfl) ?_
        refine lv_aload_n hx hb dX9_island_45 rfl (lv_at hl 0 rfl) ?_
        refine g_10_0 hx hb hts (by decide +kernel) hown hw hro.1 (hts (.fieldLink RX9 98 "PirateindexModel" "islands" "I") (by decide +kernel)) dX9_island_46 ?_
        rw [show I_7 1000 o = Z 0 from his.1 0 (by decide)]
        refine lv_bipush (v := 12) hx hb dX9_island_49 (by decide) ?_
        refine lv_icmp_ge (tgt := 58) hx hb dX9_island_51 (by decide) (fun c_51 => ?_) (fun c_51 => ?_)
        · skip
          refine lv_iconst (v := 0) hx hb dX9_island_58 (by decide) ?_
          refine lv_iconst (v := 2) hx hb dX9_island_59 (by decide) ?_
          refine m_ci (va_runV (As := [.int 0, .int 2]) (rest := []) ⟨hx, hb, hml, hown, hts⟩ (c_X9_no l (Z := Z) (M := M) (th := 0) false 2 hro (r_st_self his) ) (cwV 2 hts gX9_island_X9_no rfl rfl rfl (by decide +kernel) ⟨Nat.le_of_ble_eq_true rfl, Nat.le_of_ble_eq_true rfl⟩) ⟨m_blind m_B_calling, m_recv hw (m_ent_10 hro.1) rfl, fun U hU hW => ⟨rfl, m_wo_call hw hU hW⟩⟩ rfl rfl hl.1 rfl (lv_room (Nat.le_of_ble_eq_true rfl)) dX9_island_60 ⟨Nat.le_of_ble_eq_true rfl, Nat.le_of_ble_eq_true rfl⟩) hw (fun r_60 u_60 H locs hp_60 hw => ?_)
          obtain ⟨I_9, A_10⟩ := u_60
          have hw : m_wo G K I_9 R F A_10 N L T J D s H locs := hw
          dsimp only at hp_60
          have his := r_st_tr his hp_60.1
          obtain rfl : r_60 = (b2i (!false)) := hp_60.2
          refine lv_if_eq (tgt := 68) hx hb dX9_island_63 (by decide) (fun c_63 => absurd c_63 (by decide)) (fun c_63 => ?_)
          refine lv_iconst (v := 0) hx hb dX9_island_66 (by decide) ?_
          exact W.iret (v := 0) hx hb hr (fun t ht hW => ⟨⟨0, (I_9, A_10), rfl, (by have ht : t_island Z x y tr = 2 := (by simp [t_island, q_8, q_18, q_29, c_51]); rw [ht]; exact ⟨by first | exact his | simpa [q_8, q_18, q_29, c_51] using his, fun h => absurd h (by decide)⟩), m_wo_out hw ht hW.alike⟩, m_wo_F hw ht⟩) (m_wo_L hw) dX9_island_67
        · skip
          refine lv_iconst (v := 1) hx hb dX9_island_54 (by decide) ?_
          refine lv_goto (tgt := 59) hx hb dX9_island_55 (by decide) ?_
          refine lv_iconst (v := 2) hx hb dX9_island_59 (by decide) ?_
          refine m_ci (va_runV (As := [.int 1, .int 2]) (rest := []) ⟨hx, hb, hml, hown, hts⟩ (c_X9_no l (Z := Z) (M := M) (th := 0) true 2 hro (r_st_self his) ) (cwV 2 hts gX9_island_X9_no rfl rfl rfl (by decide +kernel) ⟨Nat.le_of_ble_eq_true rfl, Nat.le_of_ble_eq_true rfl⟩) ⟨m_blind m_B_calling, m_recv hw (m_ent_10 hro.1) rfl, fun U hU hW => ⟨rfl, m_wo_call hw hU hW⟩⟩ rfl rfl hl.1 rfl (lv_room (Nat.le_of_ble_eq_true rfl)) dX9_island_60 ⟨Nat.le_of_ble_eq_true rfl, Nat.le_of_ble_eq_true rfl⟩) hw (fun r_60 u_60 H locs hp_60 hw => ?_)
          obtain ⟨I_11, A_12⟩ := u_60
          have hw : m_wo G K I_11 R F A_12 N L T J D s H locs := hw
          dsimp only at hp_60
          have his := r_st_tr his hp_60.1
          obtain rfl : r_60 = (b2i (!true)) := hp_60.2
          refine lv_if_eq (tgt := 68) hx hb dX9_island_63 (by decide) (fun c_63 => ?_) (fun c_63 => absurd (by decide) c_63)
          have hn2 : ni < 12 := by have h9 := c_51; rw [hni, show (12 : Int32) = nI 12 from rfl, nI_leI (by decide) (by omega)] at h9; omega
          refine lv_aload_n hx hb dX9_island_68 rfl (lv_at hl 0 rfl) ?_
          refine g_10_7 (r := some (ad 7)) hx hb hts (by decide +kernel) hown hw hro.1 (hts (.fieldLink RX9 7 "PirateindexModel" "placeX" "[I") (by decide +kernel)) (hro.2.1 7 rfl).1 dX9_island_69 ?_
          refine lv_aload_n hx hb dX9_island_72 rfl (lv_at hl 0 rfl) ?_
          refine g_10_0 hx hb hts (by decide +kernel) hown hw hro.1 (hts (.fieldLink RX9 98 "PirateindexModel" "islands" "I") (by decide +kernel)) dX9_island_73 ?_
          rw [show I_11 1000 o = Z 0 from his.1 0 (by decide)]
          refine lv_iload_n hx hb dX9_island_76 rfl (lv_at hl 1 rfl) ?_
          refine m_iastore_20 hx hb hw (hro.2.1 7 rfl).2.1 (by rw [hni]; exact r_in hro 7 rfl (n := 12) rfl hn2)  dX9_island_77 (fun H locs hw => ?_)
          obtain ⟨A_13, eA_13⟩ : ∃ z, z = m_up A_12 (ad 7) (upd (A_12 (ad 7)) (Z 0).toNatClampNeg x) := ⟨_, rfl⟩
          rw [← eA_13] at hw
          obtain ⟨M_14, eM_14⟩ : ∃ z, z = m1 M 7 ni x := ⟨_, rfl⟩
          have his : r_st K o ad I A I_11 A_13 Z M_14 0 := by rw [eA_13, eM_14, show (Z 0).toNatClampNeg = ni from by rw [hni]; exact nI_clamp (by omega)]; exact r_st_m his hro 7 rfl ni x
          refine lv_aload_n hx hb dX9_island_78 rfl (lv_at hl 0 rfl) ?_
          refine g_10_8 (r := some (ad 8)) hx hb hts (by decide +kernel) hown hw hro.1 (hts (.fieldLink RX9 13 "PirateindexModel" "placeY" "[I") (by decide +kernel)) (hro.2.1 8 rfl).1 dX9_island_79 ?_
          refine lv_aload_n hx hb dX9_island_82 rfl (lv_at hl 0 rfl) ?_
          refine g_10_0 hx hb hts (by decide +kernel) hown hw hro.1 (hts (.fieldLink RX9 98 "PirateindexModel" "islands" "I") (by decide +kernel)) dX9_island_83 ?_
          rw [show I_11 1000 o = Z 0 from his.1 0 (by decide)]
          refine lv_iload_n hx hb dX9_island_86 rfl (lv_at hl 2 rfl) ?_
          refine m_iastore_20 hx hb hw (hro.2.1 8 rfl).2.1 (by rw [hni]; exact r_in hro 8 rfl (n := 12) rfl hn2)  dX9_island_87 (fun H locs hw => ?_)
          obtain ⟨A_15, eA_15⟩ : ∃ z, z = m_up A_13 (ad 8) (upd (A_13 (ad 8)) (Z 0).toNatClampNeg y) := ⟨_, rfl⟩
          rw [← eA_15] at hw
          obtain ⟨M_16, eM_16⟩ : ∃ z, z = m1 M_14 8 ni y := ⟨_, rfl⟩
          have his : r_st K o ad I A I_11 A_15 Z M_16 0 := by rw [eA_15, eM_16, show (Z 0).toNatClampNeg = ni from by rw [hni]; exact nI_clamp (by omega)]; exact r_st_m his hro 8 rfl ni y
          refine lv_aload_n hx hb dX9_island_88 rfl (lv_at hl 0 rfl) ?_
          refine g_10_9 (r := some (ad 9)) hx hb hts (by decide +kernel) hown hw hro.1 (hts (.fieldLink RX9 16 "PirateindexModel" "treasure" "[I") (by decide +kernel)) (hro.2.1 9 rfl).1 dX9_island_89 ?_
          refine lv_aload_n hx hb dX9_island_92 rfl (lv_at hl 0 rfl) ?_
          refine g_10_0 hx hb hts (by decide +kernel) hown hw hro.1 (hts (.fieldLink RX9 98 "PirateindexModel" "islands" "I") (by decide +kernel)) dX9_island_93 ?_
          rw [show I_11 1000 o = Z 0 from his.1 0 (by decide)]
          refine lv_iload_n hx hb dX9_island_96 rfl (lv_at hl 3 rfl) ?_
          refine m_iastore_20 hx hb hw (hro.2.1 9 rfl).2.1 (by rw [hni]; exact r_in hro 9 rfl (n := 12) rfl hn2)  dX9_island_97 (fun H locs hw => ?_)
          obtain ⟨A_17, eA_17⟩ : ∃ z, z = m_up A_15 (ad 9) (upd (A_15 (ad 9)) (Z 0).toNatClampNeg tr) := ⟨_, rfl⟩
          rw [← eA_17] at hw
          obtain ⟨M_18, eM_18⟩ : ∃ z, z = m1 M_16 9 ni tr := ⟨_, rfl⟩
          have his : r_st K o ad I A I_11 A_17 Z M_18 0 := by rw [eA_17, eM_18, show (Z 0).toNatClampNeg = ni from by rw [hni]; exact nI_clamp (by omega)]; exact r_st_m his hro 9 rfl ni tr
          refine lv_aload_n hx hb dX9_island_98 rfl (lv_at hl 0 rfl) ?_
          refine lv_dup hx hb dX9_island_99 rfl ?_
          refine g_10_0 hx hb hts (by decide +kernel) hown hw hro.1 (hts (.fieldLink RX9 98 "PirateindexModel" "islands" "I") (by decide +kernel)) dX9_island_100 ?_
          rw [show I_11 1000 o = Z 0 from his.1 0 (by decide)]
          refine lv_iconst (v := 1) hx hb dX9_island_103 (by decide) ?_
          refine lv_iadd hx hb dX9_island_104 ?_
          refine p_10_0 hx hb hts (by decide +kernel) hown hw hro.1 (hts (.fieldLink RX9 98 "PirateindexModel" "islands" "I") (by decide +kernel)) dX9_island_105 (fun H locs hw => ?_)
          obtain ⟨I_19, eI_19⟩ : ∃ z, z = m_up2 I_11 1000 o ((Z 0) + 1) := ⟨_, rfl⟩
          rw [← eI_19] at hw
          obtain ⟨Z_20, eZ_20⟩ : ∃ z, z = z1 Z 0 ((Z 0) + 1) := ⟨_, rfl⟩
          have his : r_st K o ad I A I_19 A_17 Z_20 M_18 0 := by rw [eI_19, eZ_20]; exact r_st_z his 0 ((Z 0) + 1) hro.1 (by decide)
          refine lv_aload_n hx hb dX9_island_108 rfl (lv_at hl 0 rfl) ?_
          refine g_10_0 hx hb hts (by decide +kernel) hown hw hro.1 (hts (.fieldLink RX9 98 "PirateindexModel" "islands" "I") (by decide +kernel)) dX9_island_109 ?_
          rw [show I_19 1000 o = Z_20 0 from his.1 0 (by decide)]
          refine lv_iconst (v := 1) hx hb dX9_island_112 (by decide) ?_
          refine lv_isub hx hb dX9_island_113 ?_
          exact W.iret (v := ((Z_20 0) - 1)) hx hb hr (fun t ht hW => ⟨⟨((Z_20 0) - 1), (I_19, A_17), rfl, (by have ht : t_island Z x y tr = 0 := (by simp [t_island, q_8, q_18, q_29, c_51]); have e9 : (Z_20, M_18) = p_island (Z, M) x y tr := (by simp only [p_island, eM_14, eM_16, eM_18, eZ_20, show zn Z 0 = ni from by unfold zn; rw [hni]; exact nI_clamp (by omega)]); rw [ht, if_pos rfl, ← e9]; exact ⟨by first | exact his | simpa [q_8, q_18, q_29, c_51] using his, fun _ => (by rw [eZ_20, z1_s, hni, nI_1]; exact nI_pred ni)⟩), m_wo_out hw ht hW.alike⟩, m_wo_F hw ht⟩) (m_wo_L hw) dX9_island_114

set_option maxHeartbeats 400000 in
set_option maxRecDepth 100000 in
theorem c_X9_find (l : Launch) {G : mG} {K : Nat → Nat} {I : Nat → Nat → Int32} {R : Nat → Nat → Option Nat} {F : Nat → UInt32} {A : Nat → Nat → Int32} {N : Nat → Nat} {L : Nat → List Nat} {T : Nat → List Int32} {J : Nat → Nat → Int64} {D : Nat → Nat → UInt64} {o : Nat} {ad : Nat → Nat} {Z : Nat → Int32} {M : Nat → Nat → Int32} {th : Int32} {nf k : Nat} (wd isl pl : Int32) (hro : r_ok K R N o ad) (hz : r_st K o ad I A I A Z M th) (hnf : Z 1 = nI nf) (hn : nf ≤ 120) (hsg : Z 3 = nI k) (hk : k ≤ 20)  : Met l yX9_find wsX9_find ({ frames := 4, cells := 0, slots := 0, locals := 120 } : Room) (va_Pc [.ref o, .int wd, .int isl, .int pl] (m_B G K I R F A N L T J D)) (va_Qi (fun (r : Int32) (u : (Nat → Nat → Int32) × (Nat → Nat → Int32)) => (r_st K o ad I A u.1 u.2 (if t_find Z wd isl pl = 0 then o_comes (Z, M) wd isl pl (-1) else (Z, M)).1 (if t_find Z wd isl pl = 0 then o_comes (Z, M) wd isl pl (-1) else (Z, M)).2 (t_find Z wd isl pl)) ∧ (t_find Z wd isl pl = 0 → r = Z 1)) (fun u : (Nat → Nat → Int32) × (Nat → Nat → Int32) => m_B G K (u.1) R F (u.2) N L T J D) (m_A G)) 0 0 (m_A G) := by
  refine Met.ofW (cc := cX9_find) (maxL := 4) (ret := (some .int)) (by decide) rfl ?_
  intro p e s m args below meth c s₁ B hml hv
  obtain ⟨rfl, hB⟩ := hv
  have hx := B.exec
  have hb := B.bytes
  have hr := B.returns
  have hts := atoms_spec (ws := wsX9_find) B.pre
  have hown : s.vm.findClass RX9 = some m.cls := findClass_of_methodNamed B.named
  have hlocks := B.notSynchronized
  have hw := m_wo_in hB
  have hl := lv_entry ([.ref o, .int wd, .int isl, .int pl]) (n := 4) (Nat.le_of_ble_eq_true rfl)
  rw [lg_entry_eq]
  generalize (lg_sl ([.ref o, .int wd, .int isl, .int pl]) ++ List.replicate (4 - (lg_sl ([.ref o, .int wd, .int isl, .int pl])).length) Slot.unset).toArray = ls at hl ⊢
  have hl : lv_has ls 4 [(0, .ref o), (1, .int wd), (2, .int isl), (3, .int pl)] := hl
  have his := hz
  refine lv_aload_n hx hb dX9_find_0 rfl (lv_at hl 0 rfl) ?_
  refine lv_aload_n hx hb dX9_find_1 rfl (lv_at hl 0 rfl) ?_
  refine lv_iload_n hx hb dX9_find_2 rfl (lv_at hl 2 rfl) ?_
  refine m_ci (va_runV (As := [.int isl]) (rest := [.ref o]) ⟨hx, hb, hml, hown, hts⟩ (c_X9_isIsland l (Z := Z) (M := M) (th := th) isl hro (r_st_self his) ) (cwV 1 hts gX9_find_X9_isIsland rfl rfl rfl (by decide +kernel) ⟨Nat.le_of_ble_eq_true rfl, Nat.le_of_ble_eq_true rfl⟩) ⟨m_blind m_B_calling, m_recv hw (m_ent_10 hro.1) rfl, fun U hU hW => ⟨rfl, m_wo_call hw hU hW⟩⟩ rfl rfl hl.1 rfl (lv_room (Nat.le_of_ble_eq_true rfl)) dX9_find_3 ⟨Nat.le_of_ble_eq_true rfl, Nat.le_of_ble_eq_true rfl⟩) hw (fun r_3 u_3 H locs hp_3 hw => ?_)
  obtain rfl : r_3 = (b2i (o_isl Z isl)) := hp_3
  refine lv_iconst (v := 1) hx hb dX9_find_6 (by decide) ?_
  refine m_ci (va_runV (As := [.int (b2i (o_isl Z isl)), .int 1]) (rest := []) ⟨hx, hb, hml, hown, hts⟩ (c_X9_no l (Z := Z) (M := M) (th := th) (o_isl Z isl) 1 hro (r_st_self his) ) (cwV 2 hts gX9_find_X9_no rfl rfl rfl (by decide +kernel) ⟨Nat.le_of_ble_eq_true rfl, Nat.le_of_ble_eq_true rfl⟩) ⟨m_blind m_B_calling, m_recv hw (m_ent_10 hro.1) rfl, fun U hU hW => ⟨rfl, m_wo_call hw hU hW⟩⟩ rfl rfl hl.1 rfl (lv_room (Nat.le_of_ble_eq_true rfl)) dX9_find_7 ⟨Nat.le_of_ble_eq_true rfl, Nat.le_of_ble_eq_true rfl⟩) hw (fun r_7 u_7 H locs hp_7 hw => ?_)
  obtain ⟨I_1, A_2⟩ := u_7
  have hw : m_wo G K I_1 R F A_2 N L T J D s H locs := hw
  dsimp only at hp_7
  have his := r_st_tr his hp_7.1
  obtain rfl : r_7 = (b2i (!(o_isl Z isl))) := hp_7.2
  refine lv_if_ne (tgt := 38) hx hb dX9_find_10 (by decide) (fun c_10 => ?_) (fun c_10 => ?_)
  · skip
    have q_10 : (o_isl Z isl) = false := by first | (have := (b2i_ne _).mp c_10; simpa using this) | (have := (b2i_eq _).mp c_10; simpa using this)
    refine lv_iconst (v := 0) hx hb dX9_find_38 (by decide) ?_
    exact W.iret (v := 0) hx hb hr (fun t ht hW => ⟨⟨0, (I_1, A_2), rfl, (by have ht : t_find Z wd isl pl = 1 := (by simp [t_find, q_10]); rw [ht]; exact ⟨by first | exact his | simpa [q_10] using his, fun h => absurd h (by decide)⟩), m_wo_out hw ht hW.alike⟩, m_wo_F hw ht⟩) (m_wo_L hw) dX9_find_39
  · skip
    have q_10 : (o_isl Z isl) = true := by first | (have := (b2i_ne _).mp c_10; simpa using this) | (have := (b2i_eq _).mp c_10; simpa using this)
    refine lv_aload_n hx hb dX9_find_13 rfl (lv_at hl 0 rfl) ?_
    refine lv_iload_n hx hb dX9_find_14 rfl (lv_at hl 1 rfl) ?_
    refine lv_iload_n hx hb dX9_find_15 rfl (lv_at hl 3 rfl) ?_
    refine m_ci (va_runS (As := [.int wd, .int pl]) (rest := [.ref o]) ⟨hx, hb, hml, hown, hts⟩ (c_X9_areWords l wd pl) (va_cwS 2 hts gX9_find_X9_areWords rfl rfl rfl (by decide +kernel) ⟨Nat.le_of_ble_eq_true rfl, Nat.le_of_ble_eq_true rfl⟩) ⟨m_blind m_B_calling, fun U hU hW => ⟨rfl, m_wo_call hw hU hW⟩⟩ rfl rfl hl.1 rfl (lv_room (Nat.le_of_ble_eq_true rfl)) dX9_find_16 ⟨Nat.le_of_ble_eq_true rfl, Nat.le_of_ble_eq_true rfl⟩) hw (fun r_16 u_16 H locs hp_16 hw => ?_)
    obtain rfl : r_16 = (b2i (o_wrd wd pl)) := hp_16
    refine lv_iconst (v := 2) hx hb dX9_find_19 (by decide) ?_
    refine m_ci (va_runV (As := [.int (b2i (o_wrd wd pl)), .int 2]) (rest := []) ⟨hx, hb, hml, hown, hts⟩ (c_X9_no l (Z := Z) (M := M) (th := (if (o_isl Z isl) then 0 else 1)) (o_wrd wd pl) 2 hro (r_st_self his) ) (cwV 2 hts gX9_find_X9_no rfl rfl rfl (by decide +kernel) ⟨Nat.le_of_ble_eq_true rfl, Nat.le_of_ble_eq_true rfl⟩) ⟨m_blind m_B_calling, m_recv hw (m_ent_10 hro.1) rfl, fun U hU hW => ⟨rfl, m_wo_call hw hU hW⟩⟩ rfl rfl hl.1 rfl (lv_room (Nat.le_of_ble_eq_true rfl)) dX9_find_20 ⟨Nat.le_of_ble_eq_true rfl, Nat.le_of_ble_eq_true rfl⟩) hw (fun r_20 u_20 H locs hp_20 hw => ?_)
    obtain ⟨I_3, A_4⟩ := u_20
    have hw : m_wo G K I_3 R F A_4 N L T J D s H locs := hw
    dsimp only at hp_20
    have his := r_st_tr his hp_20.1
    obtain rfl : r_20 = (b2i (!(o_wrd wd pl))) := hp_20.2
    refine lv_if_ne (tgt := 38) hx hb dX9_find_23 (by decide) (fun c_23 => ?_) (fun c_23 => ?_)
    · skip
      have q_23 : (o_wrd wd pl) = false := by first | (have := (b2i_ne _).mp c_23; simpa using this) | (have := (b2i_eq _).mp c_23; simpa using this)
      refine lv_iconst (v := 0) hx hb dX9_find_38 (by decide) ?_
      exact W.iret (v := 0) hx hb hr (fun t ht hW => ⟨⟨0, (I_3, A_4), rfl, (by have ht : t_find Z wd isl pl = 2 := (by simp [t_find, q_10, q_23]); rw [ht]; exact ⟨by first | exact his | simpa [q_10, q_23] using his, fun h => absurd h (by decide)⟩), m_wo_out hw ht hW.alike⟩, m_wo_F hw ht⟩) (m_wo_L hw) dX9_find_39
    · skip
      have q_23 : (o_wrd wd pl) = true := by first | (have := (b2i_ne _).mp c_23; simpa using this) | (have := (b2i_eq _).mp c_23; simpa using this)
      refine lv_aload_n hx hb dX9_find_26 rfl (lv_at hl 0 rfl) ?_
      refine lv_aload_n hx hb dX9_find_27 rfl (lv_at hl 0 rfl) ?_
      refine m_ci (va_runV (As := []) (rest := [.ref o]) ⟨hx, hb, hml, hown, hts⟩ (c_X9_hasRoom l (Z := Z) (M := M) (th := (if (o_wrd wd pl) then 0 else 2))  hro (r_st_self his) ) (cwV 0 hts gX9_find_X9_hasRoom rfl rfl rfl (by decide +kernel) ⟨Nat.le_of_ble_eq_true rfl, Nat.le_of_ble_eq_true rfl⟩) ⟨m_blind m_B_calling, m_recv hw (m_ent_10 hro.1) rfl, fun U hU hW => ⟨rfl, m_wo_call hw hU hW⟩⟩ rfl rfl hl.1 rfl (lv_room (Nat.le_of_ble_eq_true rfl)) dX9_find_28 ⟨Nat.le_of_ble_eq_true rfl, Nat.le_of_ble_eq_true rfl⟩) hw (fun r_28 u_28 H locs hp_28 hw => ?_)
      obtain rfl : r_28 = (b2i (o_room Z)) := hp_28
      refine lv_iconst (v := 3) hx hb dX9_find_31 (by decide) ?_
      refine m_ci (va_runV (As := [.int (b2i (o_room Z)), .int 3]) (rest := []) ⟨hx, hb, hml, hown, hts⟩ (c_X9_no l (Z := Z) (M := M) (th := (if (o_wrd wd pl) then 0 else 2)) (o_room Z) 3 hro (r_st_self his) ) (cwV 2 hts gX9_find_X9_no rfl rfl rfl (by decide +kernel) ⟨Nat.le_of_ble_eq_true rfl, Nat.le_of_ble_eq_true rfl⟩) ⟨m_blind m_B_calling, m_recv hw (m_ent_10 hro.1) rfl, fun U hU hW => ⟨rfl, m_wo_call hw hU hW⟩⟩ rfl rfl hl.1 rfl (lv_room (Nat.le_of_ble_eq_true rfl)) dX9_find_32 ⟨Nat.le_of_ble_eq_true rfl, Nat.le_of_ble_eq_true rfl⟩) hw (fun r_32 u_32 H locs hp_32 hw => ?_)
      obtain ⟨I_5, A_6⟩ := u_32
      have hw : m_wo G K I_5 R F A_6 N L T J D s H locs := hw
      dsimp only at hp_32
      have his := r_st_tr his hp_32.1
      obtain rfl : r_32 = (b2i (!(o_room Z))) := hp_32.2
      refine lv_if_eq (tgt := 40) hx hb dX9_find_35 (by decide) (fun c_35 => ?_) (fun c_35 => ?_)
      · skip
        have q_35 : (o_room Z) = true := by first | (have := (b2i_ne _).mp c_35; simpa using this) | (have := (b2i_eq _).mp c_35; simpa using this)
        refine lv_aload_n hx hb dX9_find_40 rfl (lv_at hl 0 rfl) ?_
        refine lv_iload_n hx hb dX9_find_41 rfl (lv_at hl 1 rfl) ?_
        refine lv_iload_n hx hb dX9_find_42 rfl (lv_at hl 2 rfl) ?_
        refine lv_iload_n hx hb dX9_find_43 rfl (lv_at hl 3 rfl) ?_
        refine lv_iconst (v := (-1)) hx hb dX9_find_44 (by decide) ?_
        refine m_ci (va_runV (As := [.int wd, .int isl, .int pl, .int (-1)]) (rest := []) ⟨hx, hb, hml, hown, hts⟩ (c_X9_comes l (Z := Z) (M := M) (th := (if (o_room Z) then 0 else 3)) wd isl pl (-1) hro (r_st_self his) hnf (o_room_lt q_35 hnf (by omega)) hsg hk) (cwV 4 hts gX9_find_X9_comes rfl rfl rfl (by decide +kernel) ⟨Nat.le_of_ble_eq_true rfl, Nat.le_of_ble_eq_true rfl⟩) ⟨m_blind m_B_calling, m_recv hw (m_ent_10 hro.1) rfl, fun U hU hW => ⟨rfl, m_wo_call hw hU hW⟩⟩ rfl rfl hl.1 rfl (lv_room (Nat.le_of_ble_eq_true rfl)) dX9_find_45 ⟨Nat.le_of_ble_eq_true rfl, Nat.le_of_ble_eq_true rfl⟩) hw (fun r_45 u_45 H locs hp_45 hw => ?_)
        obtain ⟨I_7, A_8⟩ := u_45
        have hw : m_wo G K I_7 R F A_8 N L T J D s H locs := hw
        dsimp only at hp_45
        have his := r_st_tr his hp_45.1
        obtain ⟨Z_9, eZ_9⟩ : ∃ z : Nat → Int32, z = (o_comes (Z, M) wd isl pl (-1)).1 := ⟨_, rfl⟩
        rw [← eZ_9] at his
        obtain ⟨M_10, eM_10⟩ : ∃ z : Nat → Nat → Int32, z = (o_comes (Z, M) wd isl pl (-1)).2 := ⟨_, rfl⟩
        rw [← eM_10] at his
        obtain rfl : r_45 = (Z 1) := hp_45.2
        exact W.iret (v := (Z 1)) hx hb hr (fun t ht hW => ⟨⟨(Z 1), (I_7, A_8), rfl, (by have ht : t_find Z wd isl pl = 0 := (by simp [t_find, q_10, q_23, q_35]); have e9 : (Z_9, M_10) = o_comes (Z, M) wd isl pl (-1) := (by simp only [eZ_9, eM_10]); rw [ht, if_pos rfl, ← e9]; exact ⟨by first | exact his | simpa [q_10, q_23, q_35] using his, fun _ => rfl⟩), m_wo_out hw ht hW.alike⟩, m_wo_F hw ht⟩) (m_wo_L hw) dX9_find_48
      · skip
        have q_35 : (o_room Z) = false := by first | (have := (b2i_ne _).mp c_35; simpa using this) | (have := (b2i_eq _).mp c_35; simpa using this)
        refine lv_iconst (v := 0) hx hb dX9_find_38 (by decide) ?_
        exact W.iret (v := 0) hx hb hr (fun t ht hW => ⟨⟨0, (I_5, A_6), rfl, (by have ht : t_find Z wd isl pl = 3 := (by simp [t_find, q_10, q_23, q_35]); rw [ht]; exact ⟨by first | exact his | simpa [q_10, q_23, q_35] using his, fun h => absurd h (by decide)⟩), m_wo_out hw ht hW.alike⟩, m_wo_F hw ht⟩) (m_wo_L hw) dX9_find_39

set_option maxHeartbeats 400000 in
set_option maxRecDepth 100000 in
theorem c_X9_ship (l : Launch) {G : mG} {K : Nat → Nat} {I : Nat → Nat → Int32} {R : Nat → Nat → Option Nat} {F : Nat → UInt32} {A : Nat → Nat → Int32} {N : Nat → Nat} {L : Nat → List Nat} {T : Nat → List Int32} {J : Nat → Nat → Int64} {D : Nat → Nat → UInt64} {o : Nat} {ad : Nat → Nat} {Z : Nat → Int32} {M : Nat → Nat → Int32} {th : Int32} {ns : Nat} (hro : r_ok K R N o ad) (hz : r_st K o ad I A I A Z M th) (hns : Z 2 = nI ns) (hn : ns ≤ 5) : Met l yX9_ship wsX9_ship ({ frames := 1, cells := 0, slots := 0, locals := 22 } : Room) (va_Pc [.ref o] (m_B G K I R F A N L T J D)) (va_Qi (fun (r : Int32) (u : (Nat → Nat → Int32) × (Nat → Nat → Int32)) => (r_st K o ad I A u.1 u.2 (if t_ship Z = 0 then p_ship (Z, M) else (Z, M)).1 (if t_ship Z = 0 then p_ship (Z, M) else (Z, M)).2 (t_ship Z)) ∧ (t_ship Z = 0 → r = Z 2)) (fun u : (Nat → Nat → Int32) × (Nat → Nat → Int32) => m_B G K (u.1) R F (u.2) N L T J D) (m_A G)) 0 0 (m_A G) := by
  refine Met.ofW (cc := cX9_ship) (maxL := 1) (ret := (some .int)) (by decide) rfl ?_
  intro p e s m args below meth c s₁ B hml hv
  obtain ⟨rfl, hB⟩ := hv
  have hx := B.exec
  have hb := B.bytes
  have hr := B.returns
  have hts := atoms_spec (ws := wsX9_ship) B.pre
  have hown : s.vm.findClass RX9 = some m.cls := findClass_of_methodNamed B.named
  have hlocks := B.notSynchronized
  have hw := m_wo_in hB
  have hl := lv_entry ([.ref o]) (n := 1) (Nat.le_of_ble_eq_true rfl)
  rw [lg_entry_eq]
  generalize (lg_sl ([.ref o]) ++ List.replicate (1 - (lg_sl ([.ref o])).length) Slot.unset).toArray = ls at hl ⊢
  have hl : lv_has ls 1 [(0, .ref o)] := hl
  have his := hz
  refine lv_aload_n hx hb dX9_ship_0 rfl (lv_at hl 0 rfl) ?_
  refine lv_aload_n hx hb dX9_ship_1 rfl (lv_at hl 0 rfl) ?_
  refine g_10_2 hx hb hts (by decide +kernel) hown hw hro.1 (hts (.fieldLink RX9 105 "PirateindexModel" "ships" "I") (by decide +kernel)) dX9_ship_2 ?_
  rw [show I 1002 o = Z 2 from his.1 2 (by decide)]
  refine lv_iconst (v := 5) hx hb dX9_ship_5 (by decide) ?_
  refine lv_icmp_ge (tgt := 20) hx hb dX9_ship_6 (by decide) (fun c_6 => ?_) (fun c_6 => ?_)
  · skip
    refine lv_iconst (v := 0) hx hb dX9_ship_20 (by decide) ?_
    refine lv_iconst (v := 1) hx hb dX9_ship_21 (by decide) ?_
    refine m_ci (va_runV (As := [.int 0, .int 1]) (rest := []) ⟨hx, hb, hml, hown, hts⟩ (c_X9_no l (Z := Z) (M := M) (th := th) false 1 hro (r_st_self his) ) (cwV 2 hts gX9_ship_X9_no rfl rfl rfl (by decide +kernel) ⟨Nat.le_of_ble_eq_true rfl, Nat.le_of_ble_eq_true rfl⟩) ⟨m_blind m_B_calling, m_recv hw (m_ent_10 hro.1) rfl, fun U hU hW => ⟨rfl, m_wo_call hw hU hW⟩⟩ rfl rfl hl.1 rfl (lv_room (Nat.le_of_ble_eq_true rfl)) dX9_ship_22 ⟨Nat.le_of_ble_eq_true rfl, Nat.le_of_ble_eq_true rfl⟩) hw (fun r_22 u_22 H locs hp_22 hw => ?_)
    obtain ⟨I_1, A_2⟩ := u_22
    have hw : m_wo G K I_1 R F A_2 N L T J D s H locs := hw
    dsimp only at hp_22
    have his := r_st_tr his hp_22.1
    obtain rfl : r_22 = (b2i (!false)) := hp_22.2
    refine lv_if_eq (tgt := 30) hx hb dX9_ship_25 (by decide) (fun c_25 => absurd c_25 (by decide)) (fun c_25 => ?_)
    refine lv_iconst (v := 0) hx hb dX9_ship_28 (by decide) ?_
    exact W.iret (v := 0) hx hb hr (fun t ht hW => ⟨⟨0, (I_1, A_2), rfl, (by have ht : t_ship Z = 1 := (by simp [t_ship, c_6]); rw [ht]; exact ⟨by first | exact his | simpa [c_6] using his, fun h => absurd h (by decide)⟩), m_wo_out hw ht hW.alike⟩, m_wo_F hw ht⟩) (m_wo_L hw) dX9_ship_29
  · skip
    refine lv_aload_n hx hb dX9_ship_9 rfl (lv_at hl 0 rfl) ?_
    refine g_10_0 hx hb hts (by decide +kernel) hown hw hro.1 (hts (.fieldLink RX9 98 "PirateindexModel" "islands" "I") (by decide +kernel)) dX9_ship_10 ?_
    rw [show I 1000 o = Z 0 from his.1 0 (by decide)]
    refine lv_if_le (tgt := 20) hx hb dX9_ship_13 (by decide) (fun c_13 => ?_) (fun c_13 => ?_)
    · skip
      refine lv_iconst (v := 0) hx hb dX9_ship_20 (by decide) ?_
      refine lv_iconst (v := 1) hx hb dX9_ship_21 (by decide) ?_
      refine m_ci (va_runV (As := [.int 0, .int 1]) (rest := []) ⟨hx, hb, hml, hown, hts⟩ (c_X9_no l (Z := Z) (M := M) (th := th) false 1 hro (r_st_self his) ) (cwV 2 hts gX9_ship_X9_no rfl rfl rfl (by decide +kernel) ⟨Nat.le_of_ble_eq_true rfl, Nat.le_of_ble_eq_true rfl⟩) ⟨m_blind m_B_calling, m_recv hw (m_ent_10 hro.1) rfl, fun U hU hW => ⟨rfl, m_wo_call hw hU hW⟩⟩ rfl rfl hl.1 rfl (lv_room (Nat.le_of_ble_eq_true rfl)) dX9_ship_22 ⟨Nat.le_of_ble_eq_true rfl, Nat.le_of_ble_eq_true rfl⟩) hw (fun r_22 u_22 H locs hp_22 hw => ?_)
      obtain ⟨I_3, A_4⟩ := u_22
      have hw : m_wo G K I_3 R F A_4 N L T J D s H locs := hw
      dsimp only at hp_22
      have his := r_st_tr his hp_22.1
      obtain rfl : r_22 = (b2i (!false)) := hp_22.2
      refine lv_if_eq (tgt := 30) hx hb dX9_ship_25 (by decide) (fun c_25 => absurd c_25 (by decide)) (fun c_25 => ?_)
      refine lv_iconst (v := 0) hx hb dX9_ship_28 (by decide) ?_
      exact W.iret (v := 0) hx hb hr (fun t ht hW => ⟨⟨0, (I_3, A_4), rfl, (by have ht : t_ship Z = 1 := (by simp [t_ship, c_6, c_13]); rw [ht]; exact ⟨by first | exact his | simpa [c_6, c_13] using his, fun h => absurd h (by decide)⟩), m_wo_out hw ht hW.alike⟩, m_wo_F hw ht⟩) (m_wo_L hw) dX9_ship_29
    · skip
      refine lv_iconst (v := 1) hx hb dX9_ship_16 (by decide) ?_
      refine lv_goto (tgt := 21) hx hb dX9_ship_17 (by decide) ?_
      refine lv_iconst (v := 1) hx hb dX9_ship_21 (by decide) ?_
      refine m_ci (va_runV (As := [.int 1, .int 1]) (rest := []) ⟨hx, hb, hml, hown, hts⟩ (c_X9_no l (Z := Z) (M := M) (th := th) true 1 hro (r_st_self his) ) (cwV 2 hts gX9_ship_X9_no rfl rfl rfl (by decide +kernel) ⟨Nat.le_of_ble_eq_true rfl, Nat.le_of_ble_eq_true rfl⟩) ⟨m_blind m_B_calling, m_recv hw (m_ent_10 hro.1) rfl, fun U hU hW => ⟨rfl, m_wo_call hw hU hW⟩⟩ rfl rfl hl.1 rfl (lv_room (Nat.le_of_ble_eq_true rfl)) dX9_ship_22 ⟨Nat.le_of_ble_eq_true rfl, Nat.le_of_ble_eq_true rfl⟩) hw (fun r_22 u_22 H locs hp_22 hw => ?_)
      obtain ⟨I_5, A_6⟩ := u_22
      have hw : m_wo G K I_5 R F A_6 N L T J D s H locs := hw
      dsimp only at hp_22
      have his := r_st_tr his hp_22.1
      obtain rfl : r_22 = (b2i (!true)) := hp_22.2
      refine lv_if_eq (tgt := 30) hx hb dX9_ship_25 (by decide) (fun c_25 => ?_) (fun c_25 => absurd (by decide) c_25)
      have hn2 : ns < 5 := by have h9 := c_6; rw [hns, show (5 : Int32) = nI 5 from rfl, nI_leI (by decide) (by omega)] at h9; omega
      refine lv_aload_n hx hb dX9_ship_30 rfl (lv_at hl 0 rfl) ?_
      refine g_10_18 (r := some (ad 18)) hx hb hts (by decide +kernel) hown hw hro.1 (hts (.fieldLink RX9 44 "PirateindexModel" "stands" "[I") (by decide +kernel)) (hro.2.1 18 rfl).1 dX9_ship_31 ?_
      refine lv_aload_n hx hb dX9_ship_34 rfl (lv_at hl 0 rfl) ?_
      refine g_10_2 hx hb hts (by decide +kernel) hown hw hro.1 (hts (.fieldLink RX9 105 "PirateindexModel" "ships" "I") (by decide +kernel)) dX9_ship_35 ?_
      rw [show I_5 1002 o = Z 2 from his.1 2 (by decide)]
      refine lv_iconst (v := 0) hx hb dX9_ship_38 (by decide) ?_
      refine m_iastore_20 hx hb hw (hro.2.1 18 rfl).2.1 (by rw [hns]; exact r_in hro 18 rfl (n := 5) rfl hn2)  dX9_ship_39 (fun H locs hw => ?_)
      obtain ⟨A_7, eA_7⟩ : ∃ z, z = m_up A_6 (ad 18) (upd (A_6 (ad 18)) (Z 2).toNatClampNeg 0) := ⟨_, rfl⟩
      rw [← eA_7] at hw
      obtain ⟨M_8, eM_8⟩ : ∃ z, z = m1 M 18 ns 0 := ⟨_, rfl⟩
      have his : r_st K o ad I A I_5 A_7 Z M_8 0 := by rw [eA_7, eM_8, show (Z 2).toNatClampNeg = ns from by rw [hns]; exact nI_clamp (by omega)]; exact r_st_m his hro 18 rfl ns 0
      refine lv_aload_n hx hb dX9_ship_40 rfl (lv_at hl 0 rfl) ?_
      refine g_10_19 (r := some (ad 19)) hx hb hts (by decide +kernel) hown hw hro.1 (hts (.fieldLink RX9 47 "PirateindexModel" "purse" "[I") (by decide +kernel)) (hro.2.1 19 rfl).1 dX9_ship_41 ?_
      refine lv_aload_n hx hb dX9_ship_44 rfl (lv_at hl 0 rfl) ?_
      refine g_10_2 hx hb hts (by decide +kernel) hown hw hro.1 (hts (.fieldLink RX9 105 "PirateindexModel" "ships" "I") (by decide +kernel)) dX9_ship_45 ?_
      rw [show I_5 1002 o = Z 2 from his.1 2 (by decide)]
      refine lv_bipush (v := 100) hx hb dX9_ship_48 (by decide) ?_
      refine m_iastore_20 hx hb hw (hro.2.1 19 rfl).2.1 (by rw [hns]; exact r_in hro 19 rfl (n := 5) rfl hn2)  dX9_ship_50 (fun H locs hw => ?_)
      obtain ⟨A_9, eA_9⟩ : ∃ z, z = m_up A_7 (ad 19) (upd (A_7 (ad 19)) (Z 2).toNatClampNeg 100) := ⟨_, rfl⟩
      rw [← eA_9] at hw
      obtain ⟨M_10, eM_10⟩ : ∃ z, z = m1 M_8 19 ns 100 := ⟨_, rfl⟩
      have his : r_st K o ad I A I_5 A_9 Z M_10 0 := by rw [eA_9, eM_10, show (Z 2).toNatClampNeg = ns from by rw [hns]; exact nI_clamp (by omega)]; exact r_st_m his hro 19 rfl ns 100
      refine lv_aload_n hx hb dX9_ship_51 rfl (lv_at hl 0 rfl) ?_
      refine g_10_22 (r := some (ad 22)) hx hb hts (by decide +kernel) hown hw hro.1 (hts (.fieldLink RX9 56 "PirateindexModel" "kept" "[I") (by decide +kernel)) (hro.2.1 22 rfl).1 dX9_ship_52 ?_
      refine lv_aload_n hx hb dX9_ship_55 rfl (lv_at hl 0 rfl) ?_
      refine g_10_2 hx hb hts (by decide +kernel) hown hw hro.1 (hts (.fieldLink RX9 105 "PirateindexModel" "ships" "I") (by decide +kernel)) dX9_ship_56 ?_
      rw [show I_5 1002 o = Z 2 from his.1 2 (by decide)]
      refine lv_iconst (v := 0) hx hb dX9_ship_59 (by decide) ?_
      refine m_iastore_20 hx hb hw (hro.2.1 22 rfl).2.1 (by rw [hns]; exact r_in hro 22 rfl (n := 5) rfl hn2)  dX9_ship_60 (fun H locs hw => ?_)
      obtain ⟨A_11, eA_11⟩ : ∃ z, z = m_up A_9 (ad 22) (upd (A_9 (ad 22)) (Z 2).toNatClampNeg 0) := ⟨_, rfl⟩
      rw [← eA_11] at hw
      obtain ⟨M_12, eM_12⟩ : ∃ z, z = m1 M_10 22 ns 0 := ⟨_, rfl⟩
      have his : r_st K o ad I A I_5 A_11 Z M_12 0 := by rw [eA_11, eM_12, show (Z 2).toNatClampNeg = ns from by rw [hns]; exact nI_clamp (by omega)]; exact r_st_m his hro 22 rfl ns 0
      refine lv_aload_n hx hb dX9_ship_61 rfl (lv_at hl 0 rfl) ?_
      refine g_10_21 (r := some (ad 21)) hx hb hts (by decide +kernel) hown hw hro.1 (hts (.fieldLink RX9 53 "PirateindexModel" "took" "[I") (by decide +kernel)) (hro.2.1 21 rfl).1 dX9_ship_62 ?_
      refine lv_aload_n hx hb dX9_ship_65 rfl (lv_at hl 0 rfl) ?_
      refine g_10_2 hx hb hts (by decide +kernel) hown hw hro.1 (hts (.fieldLink RX9 105 "PirateindexModel" "ships" "I") (by decide +kernel)) dX9_ship_66 ?_
      rw [show I_5 1002 o = Z 2 from his.1 2 (by decide)]
      refine lv_iconst (v := (-1)) hx hb dX9_ship_69 (by decide) ?_
      refine m_iastore_20 hx hb hw (hro.2.1 21 rfl).2.1 (by rw [hns]; exact r_in hro 21 rfl (n := 5) rfl hn2)  dX9_ship_70 (fun H locs hw => ?_)
      obtain ⟨A_13, eA_13⟩ : ∃ z, z = m_up A_11 (ad 21) (upd (A_11 (ad 21)) (Z 2).toNatClampNeg (-1)) := ⟨_, rfl⟩
      rw [← eA_13] at hw
      obtain ⟨M_14, eM_14⟩ : ∃ z, z = m1 M_12 21 ns (-1) := ⟨_, rfl⟩
      have his : r_st K o ad I A I_5 A_13 Z M_14 0 := by rw [eA_13, eM_14, show (Z 2).toNatClampNeg = ns from by rw [hns]; exact nI_clamp (by omega)]; exact r_st_m his hro 21 rfl ns (-1)
      refine lv_aload_n hx hb dX9_ship_71 rfl (lv_at hl 0 rfl) ?_
      refine lv_dup hx hb dX9_ship_72 rfl ?_
      refine g_10_2 hx hb hts (by decide +kernel) hown hw hro.1 (hts (.fieldLink RX9 105 "PirateindexModel" "ships" "I") (by decide +kernel)) dX9_ship_73 ?_
      rw [show I_5 1002 o = Z 2 from his.1 2 (by decide)]
      refine lv_iconst (v := 1) hx hb dX9_ship_76 (by decide) ?_
      refine lv_iadd hx hb dX9_ship_77 ?_
      refine p_10_2 hx hb hts (by decide +kernel) hown hw hro.1 (hts (.fieldLink RX9 105 "PirateindexModel" "ships" "I") (by decide +kernel)) dX9_ship_78 (fun H locs hw => ?_)
      obtain ⟨I_15, eI_15⟩ : ∃ z, z = m_up2 I_5 1002 o ((Z 2) + 1) := ⟨_, rfl⟩
      rw [← eI_15] at hw
      obtain ⟨Z_16, eZ_16⟩ : ∃ z, z = z1 Z 2 ((Z 2) + 1) := ⟨_, rfl⟩
      have his : r_st K o ad I A I_15 A_13 Z_16 M_14 0 := by rw [eI_15, eZ_16]; exact r_st_z his 2 ((Z 2) + 1) hro.1 (by decide)
      refine lv_aload_n hx hb dX9_ship_81 rfl (lv_at hl 0 rfl) ?_
      refine g_10_2 hx hb hts (by decide +kernel) hown hw hro.1 (hts (.fieldLink RX9 105 "PirateindexModel" "ships" "I") (by decide +kernel)) dX9_ship_82 ?_
      rw [show I_15 1002 o = Z_16 2 from his.1 2 (by decide)]
      refine lv_iconst (v := 1) hx hb dX9_ship_85 (by decide) ?_
      refine lv_isub hx hb dX9_ship_86 ?_
      exact W.iret (v := ((Z_16 2) - 1)) hx hb hr (fun t ht hW => ⟨⟨((Z_16 2) - 1), (I_15, A_13), rfl, (by have ht : t_ship Z = 0 := (by simp [t_ship, c_6, c_13]); have e9 : (Z_16, M_14) = p_ship (Z, M) := (by simp only [p_ship, eM_8, eM_10, eM_12, eM_14, eZ_16, show zn Z 2 = ns from by unfold zn; rw [hns]; exact nI_clamp (by omega)]); rw [ht, if_pos rfl, ← e9]; exact ⟨by first | exact his | simpa [c_6, c_13] using his, fun _ => (by rw [eZ_16, z1_s, hns, nI_1]; exact nI_pred ns)⟩), m_wo_out hw ht hW.alike⟩, m_wo_F hw ht⟩) (m_wo_L hw) dX9_ship_87

set_option maxHeartbeats 400000 in
set_option maxRecDepth 100000 in
theorem c_X9_plant (l : Launch) {G : mG} {K : Nat → Nat} {I : Nat → Nat → Int32} {R : Nat → Nat → Option Nat} {F : Nat → UInt32} {A : Nat → Nat → Int32} {N : Nat → Nat} {L : Nat → List Nat} {T : Nat → List Int32} {J : Nat → Nat → Int64} {D : Nat → Nat → UInt64} {o : Nat} {ad : Nat → Nat} {Z : Nat → Int32} {M : Nat → Nat → Int32} {th : Int32} {nf k : Nat} {ns : Nat} (sh wd isl pl : Int32) (hro : r_ok K R N o ad) (hz : r_st K o ad I A I A Z M th) (hnf : Z 1 = nI nf) (hn : nf ≤ 120) (hsg : Z 3 = nI k) (hk : k ≤ 20) (hns : Z 2 = nI ns) (hn5 : ns ≤ 5) : Met l yX9_plant wsX9_plant ({ frames := 4, cells := 0, slots := 0, locals := 120 } : Room) (va_Pc [.ref o, .int sh, .int wd, .int isl, .int pl] (m_B G K I R F A N L T J D)) (va_Qi (fun (r : Int32) (u : (Nat → Nat → Int32) × (Nat → Nat → Int32)) => (r_st K o ad I A u.1 u.2 (if t_plant Z M sh wd isl pl = 0 then p_plant (Z, M) sh wd isl pl else (Z, M)).1 (if t_plant Z M sh wd isl pl = 0 then p_plant (Z, M) sh wd isl pl else (Z, M)).2 (t_plant Z M sh wd isl pl)) ∧ (t_plant Z M sh wd isl pl = 0 → r = Z 1)) (fun u : (Nat → Nat → Int32) × (Nat → Nat → Int32) => m_B G K (u.1) R F (u.2) N L T J D) (m_A G)) 0 0 (m_A G) := by
  refine Met.ofW (cc := cX9_plant) (maxL := 5) (ret := (some .int)) (by decide) rfl ?_
  intro p e s m args below meth c s₁ B hml hv
  obtain ⟨rfl, hB⟩ := hv
  have hx := B.exec
  have hb := B.bytes
  have hr := B.returns
  have hts := atoms_spec (ws := wsX9_plant) B.pre
  have hown : s.vm.findClass RX9 = some m.cls := findClass_of_methodNamed B.named
  have hlocks := B.notSynchronized
  have hw := m_wo_in hB
  have hl := lv_entry ([.ref o, .int sh, .int wd, .int isl, .int pl]) (n := 5) (Nat.le_of_ble_eq_true rfl)
  rw [lg_entry_eq]
  generalize (lg_sl ([.ref o, .int sh, .int wd, .int isl, .int pl]) ++ List.replicate (5 - (lg_sl ([.ref o, .int sh, .int wd, .int isl, .int pl])).length) Slot.unset).toArray = ls at hl ⊢
  have hl : lv_has ls 5 [(0, .ref o), (1, .int sh), (2, .int wd), (3, .int isl), (4, .int pl)] := hl
  have his := hz
  refine lv_aload_n hx hb dX9_plant_0 rfl (lv_at hl 0 rfl) ?_
  refine lv_aload_n hx hb dX9_plant_1 rfl (lv_at hl 0 rfl) ?_
  refine lv_iload_n hx hb dX9_plant_2 rfl (lv_at hl 1 rfl) ?_
  refine m_ci (va_runV (As := [.int sh]) (rest := [.ref o]) ⟨hx, hb, hml, hown, hts⟩ (c_X9_isShip l (Z := Z) (M := M) (th := th) sh hro (r_st_self his) ) (cwV 1 hts gX9_plant_X9_isShip rfl rfl rfl (by decide +kernel) ⟨Nat.le_of_ble_eq_true rfl, Nat.le_of_ble_eq_true rfl⟩) ⟨m_blind m_B_calling, m_recv hw (m_ent_10 hro.1) rfl, fun U hU hW => ⟨rfl, m_wo_call hw hU hW⟩⟩ rfl rfl hl.1 rfl (lv_room (Nat.le_of_ble_eq_true rfl)) dX9_plant_3 ⟨Nat.le_of_ble_eq_true rfl, Nat.le_of_ble_eq_true rfl⟩) hw (fun r_3 u_3 H locs hp_3 hw => ?_)
  obtain rfl : r_3 = (b2i (o_shp Z sh)) := hp_3
  refine lv_if_eq (tgt := 21) hx hb dX9_plant_6 (by decide) (fun c_6 => ?_) (fun c_6 => ?_)
  · skip
    have q_6 : (o_shp Z sh) = false := by first | (have := (b2i_ne _).mp c_6; simpa using this) | (have := (b2i_eq _).mp c_6; simpa using this)
    refine lv_iconst (v := 0) hx hb dX9_plant_21 (by decide) ?_
    refine lv_iconst (v := 1) hx hb dX9_plant_22 (by decide) ?_
    refine m_ci (va_runV (As := [.int 0, .int 1]) (rest := []) ⟨hx, hb, hml, hown, hts⟩ (c_X9_no l (Z := Z) (M := M) (th := th) false 1 hro (r_st_self his) ) (cwV 2 hts gX9_plant_X9_no rfl rfl rfl (by decide +kernel) ⟨Nat.le_of_ble_eq_true rfl, Nat.le_of_ble_eq_true rfl⟩) ⟨m_blind m_B_calling, m_recv hw (m_ent_10 hro.1) rfl, fun U hU hW => ⟨rfl, m_wo_call hw hU hW⟩⟩ rfl rfl hl.1 rfl (lv_room (Nat.le_of_ble_eq_true rfl)) dX9_plant_23 ⟨Nat.le_of_ble_eq_true rfl, Nat.le_of_ble_eq_true rfl⟩) hw (fun r_23 u_23 H locs hp_23 hw => ?_)
    obtain ⟨I_1, A_2⟩ := u_23
    have hw : m_wo G K I_1 R F A_2 N L T J D s H locs := hw
    dsimp only at hp_23
    have his := r_st_tr his hp_23.1
    obtain rfl : r_23 = (b2i (!false)) := hp_23.2
    refine lv_if_ne (tgt := 78) hx hb dX9_plant_26 (by decide) (fun c_26 => ?_) (fun c_26 => absurd c_26 (by decide))
    refine lv_iconst (v := 0) hx hb dX9_plant_78 (by decide) ?_
    exact W.iret (v := 0) hx hb hr (fun t ht hW => ⟨⟨0, (I_1, A_2), rfl, (by have ht : t_plant Z M sh wd isl pl = 1 := (by simp [t_plant, q_6]); rw [ht]; exact ⟨by first | exact his | simpa [q_6] using his, fun h => absurd h (by decide)⟩), m_wo_out hw ht hW.alike⟩, m_wo_F hw ht⟩) (m_wo_L hw) dX9_plant_79
  · skip
    have q_6 : (o_shp Z sh) = true := by first | (have := (b2i_ne _).mp c_6; simpa using this) | (have := (b2i_eq _).mp c_6; simpa using this)
    refine lv_aload_n hx hb dX9_plant_9 rfl (lv_at hl 0 rfl) ?_
    refine lv_iload_n hx hb dX9_plant_10 rfl (lv_at hl 3 rfl) ?_
    refine m_ci (va_runV (As := [.int isl]) (rest := [.ref o]) ⟨hx, hb, hml, hown, hts⟩ (c_X9_isIsland l (Z := Z) (M := M) (th := th) isl hro (r_st_self his) ) (cwV 1 hts gX9_plant_X9_isIsland rfl rfl rfl (by decide +kernel) ⟨Nat.le_of_ble_eq_true rfl, Nat.le_of_ble_eq_true rfl⟩) ⟨m_blind m_B_calling, m_recv hw (m_ent_10 hro.1) rfl, fun U hU hW => ⟨rfl, m_wo_call hw hU hW⟩⟩ rfl rfl hl.1 rfl (lv_room (Nat.le_of_ble_eq_true rfl)) dX9_plant_11 ⟨Nat.le_of_ble_eq_true rfl, Nat.le_of_ble_eq_true rfl⟩) hw (fun r_11 u_11 H locs hp_11 hw => ?_)
    obtain rfl : r_11 = (b2i (o_isl Z isl)) := hp_11
    refine lv_if_eq (tgt := 21) hx hb dX9_plant_14 (by decide) (fun c_14 => ?_) (fun c_14 => ?_)
    · skip
      have q_14 : (o_isl Z isl) = false := by first | (have := (b2i_ne _).mp c_14; simpa using this) | (have := (b2i_eq _).mp c_14; simpa using this)
      refine lv_iconst (v := 0) hx hb dX9_plant_21 (by decide) ?_
      refine lv_iconst (v := 1) hx hb dX9_plant_22 (by decide) ?_
      refine m_ci (va_runV (As := [.int 0, .int 1]) (rest := []) ⟨hx, hb, hml, hown, hts⟩ (c_X9_no l (Z := Z) (M := M) (th := th) false 1 hro (r_st_self his) ) (cwV 2 hts gX9_plant_X9_no rfl rfl rfl (by decide +kernel) ⟨Nat.le_of_ble_eq_true rfl, Nat.le_of_ble_eq_true rfl⟩) ⟨m_blind m_B_calling, m_recv hw (m_ent_10 hro.1) rfl, fun U hU hW => ⟨rfl, m_wo_call hw hU hW⟩⟩ rfl rfl hl.1 rfl (lv_room (Nat.le_of_ble_eq_true rfl)) dX9_plant_23 ⟨Nat.le_of_ble_eq_true rfl, Nat.le_of_ble_eq_true rfl⟩) hw (fun r_23 u_23 H locs hp_23 hw => ?_)
      obtain ⟨I_3, A_4⟩ := u_23
      have hw : m_wo G K I_3 R F A_4 N L T J D s H locs := hw
      dsimp only at hp_23
      have his := r_st_tr his hp_23.1
      obtain rfl : r_23 = (b2i (!false)) := hp_23.2
      refine lv_if_ne (tgt := 78) hx hb dX9_plant_26 (by decide) (fun c_26 => ?_) (fun c_26 => absurd c_26 (by decide))
      refine lv_iconst (v := 0) hx hb dX9_plant_78 (by decide) ?_
      exact W.iret (v := 0) hx hb hr (fun t ht hW => ⟨⟨0, (I_3, A_4), rfl, (by have ht : t_plant Z M sh wd isl pl = 1 := (by simp [t_plant, q_6, q_14]); rw [ht]; exact ⟨by first | exact his | simpa [q_6, q_14] using his, fun h => absurd h (by decide)⟩), m_wo_out hw ht hW.alike⟩, m_wo_F hw ht⟩) (m_wo_L hw) dX9_plant_79
    · skip
      have q_14 : (o_isl Z isl) = true := by first | (have := (b2i_ne _).mp c_14; simpa using this) | (have := (b2i_eq _).mp c_14; simpa using this)
      refine lv_iconst (v := 1) hx hb dX9_plant_17 (by decide) ?_
      refine lv_goto (tgt := 22) hx hb dX9_plant_18 (by decide) ?_
      refine lv_iconst (v := 1) hx hb dX9_plant_22 (by decide) ?_
      refine m_ci (va_runV (As := [.int 1, .int 1]) (rest := []) ⟨hx, hb, hml, hown, hts⟩ (c_X9_no l (Z := Z) (M := M) (th := th) true 1 hro (r_st_self his) ) (cwV 2 hts gX9_plant_X9_no rfl rfl rfl (by decide +kernel) ⟨Nat.le_of_ble_eq_true rfl, Nat.le_of_ble_eq_true rfl⟩) ⟨m_blind m_B_calling, m_recv hw (m_ent_10 hro.1) rfl, fun U hU hW => ⟨rfl, m_wo_call hw hU hW⟩⟩ rfl rfl hl.1 rfl (lv_room (Nat.le_of_ble_eq_true rfl)) dX9_plant_23 ⟨Nat.le_of_ble_eq_true rfl, Nat.le_of_ble_eq_true rfl⟩) hw (fun r_23 u_23 H locs hp_23 hw => ?_)
      obtain ⟨I_5, A_6⟩ := u_23
      have hw : m_wo G K I_5 R F A_6 N L T J D s H locs := hw
      dsimp only at hp_23
      have his := r_st_tr his hp_23.1
      obtain rfl : r_23 = (b2i (!true)) := hp_23.2
      refine lv_if_ne (tgt := 78) hx hb dX9_plant_26 (by decide) (fun c_26 => absurd (by decide) c_26) (fun c_26 => ?_)
      refine lv_aload_n hx hb dX9_plant_29 rfl (lv_at hl 0 rfl) ?_
      refine lv_iload_n hx hb dX9_plant_30 rfl (lv_at hl 2 rfl) ?_
      refine lv_iload hx hb dX9_plant_31 (lv_at hl 4 rfl) ?_
      refine m_ci (va_runS (As := [.int wd, .int pl]) (rest := [.ref o]) ⟨hx, hb, hml, hown, hts⟩ (c_X9_areWords l wd pl) (va_cwS 2 hts gX9_plant_X9_areWords rfl rfl rfl (by decide +kernel) ⟨Nat.le_of_ble_eq_true rfl, Nat.le_of_ble_eq_true rfl⟩) ⟨m_blind m_B_calling, fun U hU hW => ⟨rfl, m_wo_call hw hU hW⟩⟩ rfl rfl hl.1 rfl (lv_room (Nat.le_of_ble_eq_true rfl)) dX9_plant_33 ⟨Nat.le_of_ble_eq_true rfl, Nat.le_of_ble_eq_true rfl⟩) hw (fun r_33 u_33 H locs hp_33 hw => ?_)
      obtain rfl : r_33 = (b2i (o_wrd wd pl)) := hp_33
      refine lv_iconst (v := 2) hx hb dX9_plant_36 (by decide) ?_
      refine m_ci (va_runV (As := [.int (b2i (o_wrd wd pl)), .int 2]) (rest := []) ⟨hx, hb, hml, hown, hts⟩ (c_X9_no l (Z := Z) (M := M) (th := 0) (o_wrd wd pl) 2 hro (r_st_self his) ) (cwV 2 hts gX9_plant_X9_no rfl rfl rfl (by decide +kernel) ⟨Nat.le_of_ble_eq_true rfl, Nat.le_of_ble_eq_true rfl⟩) ⟨m_blind m_B_calling, m_recv hw (m_ent_10 hro.1) rfl, fun U hU hW => ⟨rfl, m_wo_call hw hU hW⟩⟩ rfl rfl hl.1 rfl (lv_room (Nat.le_of_ble_eq_true rfl)) dX9_plant_37 ⟨Nat.le_of_ble_eq_true rfl, Nat.le_of_ble_eq_true rfl⟩) hw (fun r_37 u_37 H locs hp_37 hw => ?_)
      obtain ⟨I_7, A_8⟩ := u_37
      have hw : m_wo G K I_7 R F A_8 N L T J D s H locs := hw
      dsimp only at hp_37
      have his := r_st_tr his hp_37.1
      obtain rfl : r_37 = (b2i (!(o_wrd wd pl))) := hp_37.2
      refine lv_if_ne (tgt := 78) hx hb dX9_plant_40 (by decide) (fun c_40 => ?_) (fun c_40 => ?_)
      · skip
        have q_40 : (o_wrd wd pl) = false := by first | (have := (b2i_ne _).mp c_40; simpa using this) | (have := (b2i_eq _).mp c_40; simpa using this)
        refine lv_iconst (v := 0) hx hb dX9_plant_78 (by decide) ?_
        exact W.iret (v := 0) hx hb hr (fun t ht hW => ⟨⟨0, (I_7, A_8), rfl, (by have ht : t_plant Z M sh wd isl pl = 2 := (by simp [t_plant, q_6, q_14, q_40]); rw [ht]; exact ⟨by first | exact his | simpa [q_6, q_14, q_40] using his, fun h => absurd h (by decide)⟩), m_wo_out hw ht hW.alike⟩, m_wo_F hw ht⟩) (m_wo_L hw) dX9_plant_79
      · skip
        have q_40 : (o_wrd wd pl) = true := by first | (have := (b2i_ne _).mp c_40; simpa using this) | (have := (b2i_eq _).mp c_40; simpa using this)
        obtain ⟨i, hi, hsh⟩ := o_shp_nat q_6 hns (by omega)
        refine lv_aload_n hx hb dX9_plant_43 rfl (lv_at hl 0 rfl) ?_
        refine lv_aload_n hx hb dX9_plant_44 rfl (lv_at hl 0 rfl) ?_
        refine g_10_19 (r := some (ad 19)) hx hb hts (by decide +kernel) hown hw hro.1 (hts (.fieldLink RX9 47 "PirateindexModel" "purse" "[I") (by decide +kernel)) (hro.2.1 19 rfl).1 dX9_plant_45 ?_
        refine lv_iload_n hx hb dX9_plant_48 rfl (lv_at hl 1 rfl) ?_
        refine m_iaload_20 hx hb hw (hro.2.1 19 rfl).2.1 (by rw [show sh = nI sh.toNatClampNeg from by rw [hsh, nI_clamp (by omega)]]; exact r_in hro 19 rfl (n := 5) rfl (show sh.toNatClampNeg < 5 by rw [hsh, nI_clamp (by omega)]; omega)) dX9_plant_49 ?_
        rw [show A_8 (ad 19) = M 19 from his.2.1 19 rfl]
        refine lv_iconst (v := 5) hx hb dX9_plant_50 (by decide) ?_
        refine lv_icmp_lt (tgt := 58) hx hb dX9_plant_51 (by decide) (fun c_51 => ?_) (fun c_51 => ?_)
        · skip
          refine lv_iconst (v := 0) hx hb dX9_plant_58 (by decide) ?_
          refine lv_iconst (v := 3) hx hb dX9_plant_59 (by decide) ?_
          refine m_ci (va_runV (As := [.int 0, .int 3]) (rest := []) ⟨hx, hb, hml, hown, hts⟩ (c_X9_no l (Z := Z) (M := M) (th := (if (o_wrd wd pl) then 0 else 2)) false 3 hro (r_st_self his) ) (cwV 2 hts gX9_plant_X9_no rfl rfl rfl (by decide +kernel) ⟨Nat.le_of_ble_eq_true rfl, Nat.le_of_ble_eq_true rfl⟩) ⟨m_blind m_B_calling, m_recv hw (m_ent_10 hro.1) rfl, fun U hU hW => ⟨rfl, m_wo_call hw hU hW⟩⟩ rfl rfl hl.1 rfl (lv_room (Nat.le_of_ble_eq_true rfl)) dX9_plant_60 ⟨Nat.le_of_ble_eq_true rfl, Nat.le_of_ble_eq_true rfl⟩) hw (fun r_60 u_60 H locs hp_60 hw => ?_)
          obtain ⟨I_9, A_10⟩ := u_60
          have hw : m_wo G K I_9 R F A_10 N L T J D s H locs := hw
          dsimp only at hp_60
          have his := r_st_tr his hp_60.1
          obtain rfl : r_60 = (b2i (!false)) := hp_60.2
          refine lv_if_ne (tgt := 78) hx hb dX9_plant_63 (by decide) (fun c_63 => ?_) (fun c_63 => absurd c_63 (by decide))
          refine lv_iconst (v := 0) hx hb dX9_plant_78 (by decide) ?_
          exact W.iret (v := 0) hx hb hr (fun t ht hW => ⟨⟨0, (I_9, A_10), rfl, (by have ht : t_plant Z M sh wd isl pl = 3 := (by simp [t_plant, q_6, q_14, q_40, c_51]); rw [ht]; exact ⟨by first | exact his | simpa [q_6, q_14, q_40, c_51] using his, fun h => absurd h (by decide)⟩), m_wo_out hw ht hW.alike⟩, m_wo_F hw ht⟩) (m_wo_L hw) dX9_plant_79
        · skip
          refine lv_iconst (v := 1) hx hb dX9_plant_54 (by decide) ?_
          refine lv_goto (tgt := 59) hx hb dX9_plant_55 (by decide) ?_
          refine lv_iconst (v := 3) hx hb dX9_plant_59 (by decide) ?_
          refine m_ci (va_runV (As := [.int 1, .int 3]) (rest := []) ⟨hx, hb, hml, hown, hts⟩ (c_X9_no l (Z := Z) (M := M) (th := (if (o_wrd wd pl) then 0 else 2)) true 3 hro (r_st_self his) ) (cwV 2 hts gX9_plant_X9_no rfl rfl rfl (by decide +kernel) ⟨Nat.le_of_ble_eq_true rfl, Nat.le_of_ble_eq_true rfl⟩) ⟨m_blind m_B_calling, m_recv hw (m_ent_10 hro.1) rfl, fun U hU hW => ⟨rfl, m_wo_call hw hU hW⟩⟩ rfl rfl hl.1 rfl (lv_room (Nat.le_of_ble_eq_true rfl)) dX9_plant_60 ⟨Nat.le_of_ble_eq_true rfl, Nat.le_of_ble_eq_true rfl⟩) hw (fun r_60 u_60 H locs hp_60 hw => ?_)
          obtain ⟨I_11, A_12⟩ := u_60
          have hw : m_wo G K I_11 R F A_12 N L T J D s H locs := hw
          dsimp only at hp_60
          have his := r_st_tr his hp_60.1
          obtain rfl : r_60 = (b2i (!true)) := hp_60.2
          refine lv_if_ne (tgt := 78) hx hb dX9_plant_63 (by decide) (fun c_63 => absurd (by decide) c_63) (fun c_63 => ?_)
          refine lv_aload_n hx hb dX9_plant_66 rfl (lv_at hl 0 rfl) ?_
          refine lv_aload_n hx hb dX9_plant_67 rfl (lv_at hl 0 rfl) ?_
          refine m_ci (va_runV (As := []) (rest := [.ref o]) ⟨hx, hb, hml, hown, hts⟩ (c_X9_hasRoom l (Z := Z) (M := M) (th := 0)  hro (r_st_self his) ) (cwV 0 hts gX9_plant_X9_hasRoom rfl rfl rfl (by decide +kernel) ⟨Nat.le_of_ble_eq_true rfl, Nat.le_of_ble_eq_true rfl⟩) ⟨m_blind m_B_calling, m_recv hw (m_ent_10 hro.1) rfl, fun U hU hW => ⟨rfl, m_wo_call hw hU hW⟩⟩ rfl rfl hl.1 rfl (lv_room (Nat.le_of_ble_eq_true rfl)) dX9_plant_68 ⟨Nat.le_of_ble_eq_true rfl, Nat.le_of_ble_eq_true rfl⟩) hw (fun r_68 u_68 H locs hp_68 hw => ?_)
          obtain rfl : r_68 = (b2i (o_room Z)) := hp_68
          refine lv_iconst (v := 4) hx hb dX9_plant_71 (by decide) ?_
          refine m_ci (va_runV (As := [.int (b2i (o_room Z)), .int 4]) (rest := []) ⟨hx, hb, hml, hown, hts⟩ (c_X9_no l (Z := Z) (M := M) (th := 0) (o_room Z) 4 hro (r_st_self his) ) (cwV 2 hts gX9_plant_X9_no rfl rfl rfl (by decide +kernel) ⟨Nat.le_of_ble_eq_true rfl, Nat.le_of_ble_eq_true rfl⟩) ⟨m_blind m_B_calling, m_recv hw (m_ent_10 hro.1) rfl, fun U hU hW => ⟨rfl, m_wo_call hw hU hW⟩⟩ rfl rfl hl.1 rfl (lv_room (Nat.le_of_ble_eq_true rfl)) dX9_plant_72 ⟨Nat.le_of_ble_eq_true rfl, Nat.le_of_ble_eq_true rfl⟩) hw (fun r_72 u_72 H locs hp_72 hw => ?_)
          obtain ⟨I_13, A_14⟩ := u_72
          have hw : m_wo G K I_13 R F A_14 N L T J D s H locs := hw
          dsimp only at hp_72
          have his := r_st_tr his hp_72.1
          obtain rfl : r_72 = (b2i (!(o_room Z))) := hp_72.2
          refine lv_if_eq (tgt := 80) hx hb dX9_plant_75 (by decide) (fun c_75 => ?_) (fun c_75 => ?_)
          · skip
            have q_75 : (o_room Z) = true := by first | (have := (b2i_ne _).mp c_75; simpa using this) | (have := (b2i_eq _).mp c_75; simpa using this)
            refine lv_aload_n hx hb dX9_plant_80 rfl (lv_at hl 0 rfl) ?_
            refine g_10_19 (r := some (ad 19)) hx hb hts (by decide +kernel) hown hw hro.1 (hts (.fieldLink RX9 47 "PirateindexModel" "purse" "[I") (by decide +kernel)) (hro.2.1 19 rfl).1 dX9_plant_81 ?_
            refine lv_iload_n hx hb dX9_plant_84 rfl (lv_at hl 1 rfl) ?_
            refine lv_dup2_11 hx hb dX9_plant_85 rfl rfl ?_
            refine m_iaload_20 hx hb hw (hro.2.1 19 rfl).2.1 (by rw [show sh = nI sh.toNatClampNeg from by rw [hsh, nI_clamp (by omega)]]; exact r_in hro 19 rfl (n := 5) rfl (show sh.toNatClampNeg < 5 by rw [hsh, nI_clamp (by omega)]; omega)) dX9_plant_86 ?_
            rw [show A_14 (ad 19) = M 19 from his.2.1 19 rfl]
            refine lv_iconst (v := 5) hx hb dX9_plant_87 (by decide) ?_
            refine lv_isub hx hb dX9_plant_88 ?_
            refine m_iastore_20 hx hb hw (hro.2.1 19 rfl).2.1 (by rw [show sh = nI sh.toNatClampNeg from by rw [hsh, nI_clamp (by omega)]]; exact r_in hro 19 rfl (n := 5) rfl (show sh.toNatClampNeg < 5 by rw [hsh, nI_clamp (by omega)]; omega))  dX9_plant_89 (fun H locs hw => ?_)
            obtain ⟨A_15, eA_15⟩ : ∃ z, z = m_up A_14 (ad 19) (upd (A_14 (ad 19)) sh.toNatClampNeg ((M 19 (sh.toNatClampNeg)) - 5)) := ⟨_, rfl⟩
            rw [← eA_15] at hw
            obtain ⟨M_16, eM_16⟩ : ∃ z, z = m1 M 19 (sh.toNatClampNeg) ((M 19 (sh.toNatClampNeg)) - 5) := ⟨_, rfl⟩
            have his : r_st K o ad I A I_13 A_15 Z M_16 (if (o_room Z) then 0 else 4) := by rw [eA_15, eM_16]; exact r_st_m his hro 19 rfl (sh.toNatClampNeg) ((M 19 (sh.toNatClampNeg)) - 5)
            refine lv_aload_n hx hb dX9_plant_90 rfl (lv_at hl 0 rfl) ?_
            refine lv_iload_n hx hb dX9_plant_91 rfl (lv_at hl 2 rfl) ?_
            refine lv_iload_n hx hb dX9_plant_92 rfl (lv_at hl 3 rfl) ?_
            refine lv_iload hx hb dX9_plant_93 (lv_at hl 4 rfl) ?_
            refine lv_iload_n hx hb dX9_plant_95 rfl (lv_at hl 1 rfl) ?_
            refine m_ci (va_runV (As := [.int wd, .int isl, .int pl, .int sh]) (rest := []) ⟨hx, hb, hml, hown, hts⟩ (c_X9_comes l (Z := Z) (M := M_16) (th := (if (o_room Z) then 0 else 4)) wd isl pl sh hro (r_st_self his) hnf (o_room_lt q_75 hnf (by omega)) hsg hk) (cwV 4 hts gX9_plant_X9_comes rfl rfl rfl (by decide +kernel) ⟨Nat.le_of_ble_eq_true rfl, Nat.le_of_ble_eq_true rfl⟩) ⟨m_blind m_B_calling, m_recv hw (m_ent_10 hro.1) rfl, fun U hU hW => ⟨rfl, m_wo_call hw hU hW⟩⟩ rfl rfl hl.1 rfl (lv_room (Nat.le_of_ble_eq_true rfl)) dX9_plant_96 ⟨Nat.le_of_ble_eq_true rfl, Nat.le_of_ble_eq_true rfl⟩) hw (fun r_96 u_96 H locs hp_96 hw => ?_)
            obtain ⟨I_17, A_18⟩ := u_96
            have hw : m_wo G K I_17 R F A_18 N L T J D s H locs := hw
            dsimp only at hp_96
            have his := r_st_tr his hp_96.1
            obtain ⟨Z_19, eZ_19⟩ : ∃ z : Nat → Int32, z = (o_comes (Z, M_16) wd isl pl sh).1 := ⟨_, rfl⟩
            rw [← eZ_19] at his
            obtain ⟨M_20, eM_20⟩ : ∃ z : Nat → Nat → Int32, z = (o_comes (Z, M_16) wd isl pl sh).2 := ⟨_, rfl⟩
            rw [← eM_20] at his
            obtain rfl : r_96 = (Z 1) := hp_96.2
            exact W.iret (v := (Z 1)) hx hb hr (fun t ht hW => ⟨⟨(Z 1), (I_17, A_18), rfl, (by have ht : t_plant Z M sh wd isl pl = 0 := (by simp [t_plant, q_6, q_14, q_40, c_51, q_75]); have e9 : (Z_19, M_20) = p_plant (Z, M) sh wd isl pl := (by simp only [p_plant, eM_16, eZ_19, eM_20]); rw [ht, if_pos rfl, ← e9]; exact ⟨by first | exact his | simpa [q_6, q_14, q_40, c_51, q_75] using his, fun _ => rfl⟩), m_wo_out hw ht hW.alike⟩, m_wo_F hw ht⟩) (m_wo_L hw) dX9_plant_99
          · skip
            have q_75 : (o_room Z) = false := by first | (have := (b2i_ne _).mp c_75; simpa using this) | (have := (b2i_eq _).mp c_75; simpa using this)
            refine lv_iconst (v := 0) hx hb dX9_plant_78 (by decide) ?_
            exact W.iret (v := 0) hx hb hr (fun t ht hW => ⟨⟨0, (I_13, A_14), rfl, (by have ht : t_plant Z M sh wd isl pl = 4 := (by simp [t_plant, q_6, q_14, q_40, c_51, q_75]); rw [ht]; exact ⟨by first | exact his | simpa [q_6, q_14, q_40, c_51, q_75] using his, fun h => absurd h (by decide)⟩), m_wo_out hw ht hW.alike⟩, m_wo_F hw ht⟩) (m_wo_L hw) dX9_plant_79

set_option maxHeartbeats 400000 in
set_option maxRecDepth 100000 in
theorem c_X9_segments (l : Launch) {G : mG} {K : Nat → Nat} {I : Nat → Nat → Int32} {R : Nat → Nat → Option Nat} {F : Nat → UInt32} {A : Nat → Nat → Int32} {N : Nat → Nat} {L : Nat → List Nat} {T : Nat → List Int32} {J : Nat → Nat → Int64} {D : Nat → Nat → UInt64} {o : Nat} {ad : Nat → Nat} {Z : Nat → Int32} {M : Nat → Nat → Int32} {th : Int32}  (hro : r_ok K R N o ad) (hz : r_st K o ad I A I A Z M th)  : Met l yX9_segments wsX9_segments ({ frames := 0, cells := 0, slots := 0, locals := 0 } : Room) (va_Pc [.ref o] (m_B G K I R F A N L T J D)) (va_Qi (fun (r : Int32) (_ : Unit) => r = Z 3) (fun u : Unit => m_B G K I R F A N L T J D) (m_A G)) 0 0 (m_A G) := by
  refine Met.ofW (cc := cX9_segments) (maxL := 1) (ret := (some .int)) (by decide) rfl ?_
  intro p e s m args below meth c s₁ B hml hv
  obtain ⟨rfl, hB⟩ := hv
  have hx := B.exec
  have hb := B.bytes
  have hr := B.returns
  have hts := atoms_spec (ws := wsX9_segments) B.pre
  have hown : s.vm.findClass RX9 = some m.cls := findClass_of_methodNamed B.named
  have hlocks := B.notSynchronized
  have hw := m_wo_in hB
  have hl := lv_entry ([.ref o]) (n := 1) (Nat.le_of_ble_eq_true rfl)
  rw [lg_entry_eq]
  generalize (lg_sl ([.ref o]) ++ List.replicate (1 - (lg_sl ([.ref o])).length) Slot.unset).toArray = ls at hl ⊢
  have hl : lv_has ls 1 [(0, .ref o)] := hl
  have his := hz
  refine lv_aload_n hx hb dX9_segments_0 rfl (lv_at hl 0 rfl) ?_
  refine g_10_3 hx hb hts (by decide +kernel) hown hw hro.1 (hts (.fieldLink RX9 112 "PirateindexModel" "segments" "I") (by decide +kernel)) dX9_segments_1 ?_
  rw [show I 1003 o = Z 3 from his.1 3 (by decide)]
  exact W.iret (v := (Z 3)) hx hb hr (fun t ht hW => ⟨⟨(Z 3), (), rfl, rfl, m_wo_out hw ht hW.alike⟩, m_wo_F hw ht⟩) (m_wo_L hw) dX9_segments_4

set_option maxHeartbeats 400000 in
set_option maxRecDepth 100000 in
theorem c_X9_thrown (l : Launch) {G : mG} {K : Nat → Nat} {I : Nat → Nat → Int32} {R : Nat → Nat → Option Nat} {F : Nat → UInt32} {A : Nat → Nat → Int32} {N : Nat → Nat} {L : Nat → List Nat} {T : Nat → List Int32} {J : Nat → Nat → Int64} {D : Nat → Nat → UInt64} {o : Nat} {ad : Nat → Nat} {Z : Nat → Int32} {M : Nat → Nat → Int32} {th : Int32}  (hro : r_ok K R N o ad) (hz : r_st K o ad I A I A Z M th)  : Met l yX9_thrown wsX9_thrown ({ frames := 0, cells := 0, slots := 0, locals := 0 } : Room) (va_Pc [.ref o] (m_B G K I R F A N L T J D)) (va_Qi (fun (r : Int32) (_ : Unit) => r = th) (fun u : Unit => m_B G K I R F A N L T J D) (m_A G)) 0 0 (m_A G) := by
  refine Met.ofW (cc := cX9_thrown) (maxL := 1) (ret := (some .int)) (by decide) rfl ?_
  intro p e s m args below meth c s₁ B hml hv
  obtain ⟨rfl, hB⟩ := hv
  have hx := B.exec
  have hb := B.bytes
  have hr := B.returns
  have hts := atoms_spec (ws := wsX9_thrown) B.pre
  have hown : s.vm.findClass RX9 = some m.cls := findClass_of_methodNamed B.named
  have hlocks := B.notSynchronized
  have hw := m_wo_in hB
  have hl := lv_entry ([.ref o]) (n := 1) (Nat.le_of_ble_eq_true rfl)
  rw [lg_entry_eq]
  generalize (lg_sl ([.ref o]) ++ List.replicate (1 - (lg_sl ([.ref o])).length) Slot.unset).toArray = ls at hl ⊢
  have hl : lv_has ls 1 [(0, .ref o)] := hl
  have his := hz
  refine lv_aload_n hx hb dX9_thrown_0 rfl (lv_at hl 0 rfl) ?_
  refine g_10_6 hx hb hts (by decide +kernel) hown hw hro.1 (hts (.fieldLink RX9 95 "PirateindexModel" "thrown" "I") (by decide +kernel)) dX9_thrown_1 ?_
  rw [show I 1006 o = th from his.2.2.2.2]
  exact W.iret (v := th) hx hb hr (fun t ht hW => ⟨⟨th, (), rfl, rfl, m_wo_out hw ht hW.alike⟩, m_wo_F hw ht⟩) (m_wo_L hw) dX9_thrown_4

set_option maxHeartbeats 400000 in
set_option maxRecDepth 100000 in
theorem c_X9_causes (l : Launch) {G : mG} {K : Nat → Nat} {I : Nat → Nat → Int32} {R : Nat → Nat → Option Nat} {F : Nat → UInt32} {A : Nat → Nat → Int32} {N : Nat → Nat} {L : Nat → List Nat} {T : Nat → List Int32} {J : Nat → Nat → Int64} {D : Nat → Nat → UInt64} {o : Nat} {ad : Nat → Nat} {Z : Nat → Int32} {M : Nat → Nat → Int32} {th : Int32}  (hro : r_ok K R N o ad) (hz : r_st K o ad I A I A Z M th)  : Met l yX9_causes wsX9_causes ({ frames := 0, cells := 0, slots := 0, locals := 0 } : Room) (va_Pc [.ref o] (m_B G K I R F A N L T J D)) (va_Qi (fun (r : Int32) (_ : Unit) => r = Z 31) (fun u : Unit => m_B G K I R F A N L T J D) (m_A G)) 0 0 (m_A G) := by
  refine Met.ofW (cc := cX9_causes) (maxL := 1) (ret := (some .int)) (by decide) rfl ?_
  intro p e s m args below meth c s₁ B hml hv
  obtain ⟨rfl, hB⟩ := hv
  have hx := B.exec
  have hb := B.bytes
  have hr := B.returns
  have hts := atoms_spec (ws := wsX9_causes) B.pre
  have hown : s.vm.findClass RX9 = some m.cls := findClass_of_methodNamed B.named
  have hlocks := B.notSynchronized
  have hw := m_wo_in hB
  have hl := lv_entry ([.ref o]) (n := 1) (Nat.le_of_ble_eq_true rfl)
  rw [lg_entry_eq]
  generalize (lg_sl ([.ref o]) ++ List.replicate (1 - (lg_sl ([.ref o])).length) Slot.unset).toArray = ls at hl ⊢
  have hl : lv_has ls 1 [(0, .ref o)] := hl
  have his := hz
  refine lv_aload_n hx hb dX9_causes_0 rfl (lv_at hl 0 rfl) ?_
  refine g_10_31 hx hb hts (by decide +kernel) hown hw hro.1 (hts (.fieldLink RX9 151 "PirateindexModel" "causes" "I") (by decide +kernel)) dX9_causes_1 ?_
  rw [show I 1031 o = Z 31 from his.1 31 (by decide)]
  exact W.iret (v := (Z 31)) hx hb hr (fun t ht hW => ⟨⟨(Z 31), (), rfl, rfl, m_wo_out hw ht hW.alike⟩, m_wo_F hw ht⟩) (m_wo_L hw) dX9_causes_4

set_option maxHeartbeats 400000 in
set_option maxRecDepth 100000 in
theorem c_X9_segment (l : Launch) {G : mG} {K : Nat → Nat} {I : Nat → Nat → Int32} {R : Nat → Nat → Option Nat} {F : Nat → UInt32} {A : Nat → Nat → Int32} {N : Nat → Nat} {L : Nat → List Nat} {T : Nat → List Int32} {J : Nat → Nat → Int64} {D : Nat → Nat → UInt64} {o : Nat} {ad : Nat → Nat} {Z : Nat → Int32} {M : Nat → Nat → Int32} {th : Int32} {sg : Nat} (k : Int32) (hro : r_ok K R N o ad) (hz : r_st K o ad I A I A Z M th) (hsg : Z 3 = nI sg) (hn : sg ≤ 20) : Met l yX9_segment wsX9_segment ({ frames := 1, cells := 0, slots := 0, locals := 22 } : Room) (va_Pc [.ref o, .int k] (m_B G K I R F A N L T J D)) (va_Qi (fun (r : Int32) (u : (Nat → Nat → Int32) × (Nat → Nat → Int32)) => (r_st K o ad I A u.1 u.2 Z M (t_segment Z k)) ∧ (t_segment Z k = 0 → r = M 17 k.toNatClampNeg)) (fun u : (Nat → Nat → Int32) × (Nat → Nat → Int32) => m_B G K (u.1) R F (u.2) N L T J D) (m_A G)) 0 0 (m_A G) := by
  refine Met.ofW (cc := cX9_segment) (maxL := 2) (ret := (some .int)) (by decide) rfl ?_
  intro p e s m args below meth c s₁ B hml hv
  obtain ⟨rfl, hB⟩ := hv
  have hx := B.exec
  have hb := B.bytes
  have hr := B.returns
  have hts := atoms_spec (ws := wsX9_segment) B.pre
  have hown : s.vm.findClass RX9 = some m.cls := findClass_of_methodNamed B.named
  have hlocks := B.notSynchronized
  have hw := m_wo_in hB
  have hl := lv_entry ([.ref o, .int k]) (n := 2) (Nat.le_of_ble_eq_true rfl)
  rw [lg_entry_eq]
  generalize (lg_sl ([.ref o, .int k]) ++ List.replicate (2 - (lg_sl ([.ref o, .int k])).length) Slot.unset).toArray = ls at hl ⊢
  have hl : lv_has ls 2 [(0, .ref o), (1, .int k)] := hl
  have his := hz
  refine lv_aload_n hx hb dX9_segment_0 rfl (lv_at hl 0 rfl) ?_
  refine lv_iload_n hx hb dX9_segment_1 rfl (lv_at hl 1 rfl) ?_
  refine lv_iconst (v := 0) hx hb dX9_segment_2 (by decide) ?_
  refine lv_aload_n hx hb dX9_segment_3 rfl (lv_at hl 0 rfl) ?_
  refine g_10_3 hx hb hts (by decide +kernel) hown hw hro.1 (hts (.fieldLink RX9 112 "PirateindexModel" "segments" "I") (by decide +kernel)) dX9_segment_4 ?_
  rw [show I 1003 o = Z 3 from his.1 3 (by decide)]
  refine lv_iconst (v := 1) hx hb dX9_segment_7 (by decide) ?_
  refine lv_isub hx hb dX9_segment_8 ?_
  refine m_ci (va_runS (As := [.int k, .int 0, .int ((Z 3) - 1)]) (rest := [.ref o]) ⟨hx, hb, hml, hown, hts⟩ (c_X9_isIn l k 0 ((Z 3) - 1)) (va_cwS 3 hts gX9_segment_X9_isIn rfl rfl rfl (by decide +kernel) ⟨Nat.le_of_ble_eq_true rfl, Nat.le_of_ble_eq_true rfl⟩) ⟨m_blind m_B_calling, fun U hU hW => ⟨rfl, m_wo_call hw hU hW⟩⟩ rfl rfl hl.1 rfl (lv_room (Nat.le_of_ble_eq_true rfl)) dX9_segment_9 ⟨Nat.le_of_ble_eq_true rfl, Nat.le_of_ble_eq_true rfl⟩) hw (fun r_9 u_9 H locs hp_9 hw => ?_)
  obtain rfl : r_9 = (b2i (o_rng k 0 ((Z 3) - 1))) := hp_9
  refine lv_iconst (v := 1) hx hb dX9_segment_12 (by decide) ?_
  refine m_ci (va_runV (As := [.int (b2i (o_rng k 0 ((Z 3) - 1))), .int 1]) (rest := []) ⟨hx, hb, hml, hown, hts⟩ (c_X9_no l (Z := Z) (M := M) (th := th) (o_rng k 0 ((Z 3) - 1)) 1 hro (r_st_self his) ) (cwV 2 hts gX9_segment_X9_no rfl rfl rfl (by decide +kernel) ⟨Nat.le_of_ble_eq_true rfl, Nat.le_of_ble_eq_true rfl⟩) ⟨m_blind m_B_calling, m_recv hw (m_ent_10 hro.1) rfl, fun U hU hW => ⟨rfl, m_wo_call hw hU hW⟩⟩ rfl rfl hl.1 rfl (lv_room (Nat.le_of_ble_eq_true rfl)) dX9_segment_13 ⟨Nat.le_of_ble_eq_true rfl, Nat.le_of_ble_eq_true rfl⟩) hw (fun r_13 u_13 H locs hp_13 hw => ?_)
  obtain ⟨I_1, A_2⟩ := u_13
  have hw : m_wo G K I_1 R F A_2 N L T J D s H locs := hw
  dsimp only at hp_13
  have his := r_st_tr his hp_13.1
  obtain rfl : r_13 = (b2i (!(o_rng k 0 ((Z 3) - 1)))) := hp_13.2
  refine lv_if_eq (tgt := 23) hx hb dX9_segment_16 (by decide) (fun c_16 => ?_) (fun c_16 => ?_)
  · skip
    have q_16 : (o_rng k 0 ((Z 3) - 1)) = true := by first | (have := (b2i_ne _).mp c_16; simpa using this) | (have := (b2i_eq _).mp c_16; simpa using this)
    obtain ⟨i, hi, hk⟩ := o_isl_nat (Z := fun _ => Z 3) q_16 hsg (by omega)
    refine lv_aload_n hx hb dX9_segment_23 rfl (lv_at hl 0 rfl) ?_
    refine g_10_17 (r := some (ad 17)) hx hb hts (by decide +kernel) hown hw hro.1 (hts (.fieldLink RX9 41 "PirateindexModel" "numbers" "[I") (by decide +kernel)) (hro.2.1 17 rfl).1 dX9_segment_24 ?_
    refine lv_iload_n hx hb dX9_segment_27 rfl (lv_at hl 1 rfl) ?_
    refine m_iaload_20 hx hb hw (hro.2.1 17 rfl).2.1 (by rw [show k = nI k.toNatClampNeg from by rw [hk, nI_clamp (by omega)]]; exact r_in hro 17 rfl (n := 24) rfl (show k.toNatClampNeg < 24 by rw [hk, nI_clamp (by omega)]; omega)) dX9_segment_28 ?_
    rw [show A_2 (ad 17) = M 17 from his.2.1 17 rfl]
    exact W.iret (v := (M 17 (k.toNatClampNeg))) hx hb hr (fun t ht hW => ⟨⟨(M 17 (k.toNatClampNeg)), (I_1, A_2), rfl, (by have ht : t_segment Z k = 0 := (by simp [t_segment, q_16]); rw [ht]; exact ⟨by first | exact his | simpa [q_16] using his, fun _ => rfl⟩), m_wo_out hw ht hW.alike⟩, m_wo_F hw ht⟩) (m_wo_L hw) dX9_segment_29
  · skip
    have q_16 : (o_rng k 0 ((Z 3) - 1)) = false := by first | (have := (b2i_ne _).mp c_16; simpa using this) | (have := (b2i_eq _).mp c_16; simpa using this)
    refine lv_iconst (v := 0) hx hb dX9_segment_19 (by decide) ?_
    refine lv_goto (tgt := 29) hx hb dX9_segment_20 (by decide) ?_
    exact W.iret (v := 0) hx hb hr (fun t ht hW => ⟨⟨0, (I_1, A_2), rfl, (by have ht : t_segment Z k = 1 := (by simp [t_segment, q_16]); rw [ht]; exact ⟨by first | exact his | simpa [q_16] using his, fun h => absurd h (by decide)⟩), m_wo_out hw ht hW.alike⟩, m_wo_F hw ht⟩) (m_wo_L hw) dX9_segment_29

set_option maxHeartbeats 400000 in
set_option maxRecDepth 100000 in
theorem c_X9_isSegment (l : Launch) {G : mG} {K : Nat → Nat} {I : Nat → Nat → Int32} {R : Nat → Nat → Option Nat} {F : Nat → UInt32} {A : Nat → Nat → Int32} {N : Nat → Nat} {L : Nat → List Nat} {T : Nat → List Int32} {J : Nat → Nat → Int64} {D : Nat → Nat → UInt64} {o : Nat} {ad : Nat → Nat} {Z : Nat → Int32} {M : Nat → Nat → Int32} {th : Int32} {sg : Nat} (v : Int32) (hro : r_ok K R N o ad) (hz : r_st K o ad I A I A Z M th) (hsg : Z 3 = nI sg) (hn : sg ≤ 20) : Met l yX9_isSegment wsX9_isSegment ({ frames := 0, cells := 0, slots := 0, locals := 0 } : Room) (va_Pc [.ref o, .int v] (m_B G K I R F A N L T J D)) (va_Qi (fun (r : Int32) (_ : Unit) => r = b2i (anyB (fun k => decide (M 17 k = v)) sg)) (fun u : Unit => m_B G K I R F A N L T J D) (m_A G)) 0 0 (m_A G) := by
  refine Met.ofW (cc := cX9_isSegment) (maxL := 4) (ret := (some .boolean)) (by decide) rfl ?_
  intro p e s m args below meth c s₁ B hml hv
  obtain ⟨rfl, hB⟩ := hv
  have hx := B.exec
  have hb := B.bytes
  have hr := B.returns
  have hts := atoms_spec (ws := wsX9_isSegment) B.pre
  have hown : s.vm.findClass RX9 = some m.cls := findClass_of_methodNamed B.named
  have hlocks := B.notSynchronized
  have hw := m_wo_in hB
  have hl := lv_entry ([.ref o, .int v]) (n := 4) (Nat.le_of_ble_eq_true rfl)
  rw [lg_entry_eq]
  generalize (lg_sl ([.ref o, .int v]) ++ List.replicate (4 - (lg_sl ([.ref o, .int v])).length) Slot.unset).toArray = ls at hl ⊢
  have hl : lv_has ls 4 [(0, .ref o), (1, .int v)] := hl
  have his := hz
  refine lv_iconst (v := 0) hx hb dX9_isSegment_0 (by decide) ?_
  refine lv_istore_n (lv' := [(2, .int 0), (0, .ref o), (1, .int v)]) hx hb dX9_isSegment_1 rfl hl (by decide) rfl (fun ls hl => ?_)
  refine lv_iconst (v := 0) hx hb dX9_isSegment_2 (by decide) ?_
  refine lv_istore_n (lv' := [(3, .int 0), (2, .int 0), (0, .ref o), (1, .int v)]) hx hb dX9_isSegment_3 rfl hl (by decide) rfl (fun ls hl => ?_)
  refine m_loop (σ := Nat × Int32) (fun a => sg - (a.1)) (fun a H locs ls => ((a.1) ≤ sg ∧ (a.2) = b2i (anyB (fun k => decide (M 17 k = v)) (a.1))) ∧ m_wo G K I R F A N L T J D s H locs ∧ lv_has ls 4 [(0, .ref o), (1, .int v), (2, .int (a.2)), (3, .int (nI (a.1)))]) ?_ (0, 0) ⟨⟨Nat.zero_le _, rfl⟩, hw, lv_sub hl [2, 3, 1, 0] rfl⟩
  rintro ⟨i, x⟩ H locs ls ⟨hinv, hw, hl⟩ ih
  dsimp only at hinv hw hl
  refine lv_iload_n hx hb dX9_isSegment_4 rfl (lv_at hl 3 rfl) ?_
  refine lv_aload_n hx hb dX9_isSegment_5 rfl (lv_at hl 0 rfl) ?_
  refine g_10_3 hx hb hts (by decide +kernel) hown hw hro.1 (hts (.fieldLink RX9 112 "PirateindexModel" "segments" "I") (by decide +kernel)) dX9_isSegment_6 ?_
  rw [show I 1003 o = Z 3 from his.1 3 (by decide)]
  rw [hsg]
  refine lv_icmp_ge (tgt := 38) hx hb dX9_isSegment_9 (by decide) (fun c_9 => ?_) (fun c_9 => ?_)
  · skip
    rw [nI_leI (by omega) (by omega)] at c_9
    have hi : i = sg := by omega
    subst hi
    refine lv_iload_n hx hb dX9_isSegment_38 rfl (lv_at hl 2 rfl) ?_
    exact W.zret (v := x) hx hb hr (by rw [hinv.2]; exact b2i_nar _) (fun t ht hW => ⟨⟨x, (), rfl, hinv.2, m_wo_out hw ht hW.alike⟩, m_wo_F hw ht⟩) (m_wo_L hw) dX9_isSegment_39
  · skip
    rw [nI_leI (by omega) (by omega)] at c_9
    have hi : i < sg := by omega
    refine lv_iload_n hx hb dX9_isSegment_12 rfl (lv_at hl 2 rfl) ?_
    refine lv_if_ne (tgt := 26) hx hb dX9_isSegment_13 (by decide) (fun c_13 => ?_) (fun c_13 => ?_)
    · skip
      have h8 : anyB (fun k => decide (M 17 k = v)) i = true := (b2i_ne _).mp (hinv.2 ▸ c_13)
      refine lv_iconst (v := 1) hx hb dX9_isSegment_26 (by decide) ?_
      refine lv_goto (tgt := 31) hx hb dX9_isSegment_27 (by decide) ?_
      refine lv_istore_n (lv' := [(2, .int 1), (0, .ref o), (1, .int v), (3, .int (nI i))]) hx hb dX9_isSegment_31 rfl hl (by decide) rfl (fun ls hl => ?_)
      refine lv_iinc (v := nI (i + 1)) (lv' := [(3, .int (nI (i + 1))), (2, .int 1), (0, .ref o), (1, .int v)]) hx hb dX9_isSegment_32 hl (k := 3) rfl (nI_1 _) (by decide) rfl (fun ls hl => ?_)
      refine lv_goto (tgt := 4) hx hb dX9_isSegment_35 (by decide) ?_
      exact ih (i + 1, 1) _ _ _ (by dsimp only; omega) ⟨⟨by omega, by show _ = b2i (anyB (fun k => decide (M 17 k = v)) i || decide (M 17 i = v)); first | (rw [h8]; rfl) | (rw [h8, show decide (M 17 i = v) = true from decide_eq_true h7]; rfl) | (rw [h8, show decide (M 17 i = v) = false from decide_eq_false h7]; rfl)⟩, hw, lv_sub hl [2, 3, 1, 0] rfl⟩
    · skip
      have h8 : anyB (fun k => decide (M 17 k = v)) i = false := (b2i_eq _).mp (hinv.2 ▸ c_13)
      refine lv_aload_n hx hb dX9_isSegment_16 rfl (lv_at hl 0 rfl) ?_
      refine g_10_17 (r := some (ad 17)) hx hb hts (by decide +kernel) hown hw hro.1 (hts (.fieldLink RX9 41 "PirateindexModel" "numbers" "[I") (by decide +kernel)) (hro.2.1 17 rfl).1 dX9_isSegment_17 ?_
      refine lv_iload_n hx hb dX9_isSegment_20 rfl (lv_at hl 3 rfl) ?_
      refine m_iaload_20 hx hb hw (hro.2.1 17 rfl).2.1 (r_in hro 17 rfl (n := 24) rfl (by omega)) dX9_isSegment_21 ?_
      rw [show A (ad 17) = M 17 from his.2.1 17 rfl]
      rw [nI_clamp (show i < 2 ^ 31 by omega)]
      refine lv_iload_n hx hb dX9_isSegment_22 rfl (lv_at hl 1 rfl) ?_
      refine lv_icmp_ne (tgt := 30) hx hb dX9_isSegment_23 (by decide) (fun c_23 => ?_) (fun c_23 => ?_)
      · skip
        have h7 := c_23
        refine lv_iconst (v := 0) hx hb dX9_isSegment_30 (by decide) ?_
        refine lv_istore_n (lv' := [(2, .int 0), (0, .ref o), (1, .int v), (3, .int (nI i))]) hx hb dX9_isSegment_31 rfl hl (by decide) rfl (fun ls hl => ?_)
        refine lv_iinc (v := nI (i + 1)) (lv' := [(3, .int (nI (i + 1))), (2, .int 0), (0, .ref o), (1, .int v)]) hx hb dX9_isSegment_32 hl (k := 3) rfl (nI_1 _) (by decide) rfl (fun ls hl => ?_)
        refine lv_goto (tgt := 4) hx hb dX9_isSegment_35 (by decide) ?_
        exact ih (i + 1, 0) _ _ _ (by dsimp only; omega) ⟨⟨by omega, by show _ = b2i (anyB (fun k => decide (M 17 k = v)) i || decide (M 17 i = v)); first | (rw [h8]; rfl) | (rw [h8, show decide (M 17 i = v) = true from decide_eq_true h7]; rfl) | (rw [h8, show decide (M 17 i = v) = false from decide_eq_false h7]; rfl)⟩, hw, lv_sub hl [2, 3, 1, 0] rfl⟩
      · skip
        have h7 := c_23
        refine lv_iconst (v := 1) hx hb dX9_isSegment_26 (by decide) ?_
        refine lv_goto (tgt := 31) hx hb dX9_isSegment_27 (by decide) ?_
        refine lv_istore_n (lv' := [(2, .int 1), (0, .ref o), (1, .int v), (3, .int (nI i))]) hx hb dX9_isSegment_31 rfl hl (by decide) rfl (fun ls hl => ?_)
        refine lv_iinc (v := nI (i + 1)) (lv' := [(3, .int (nI (i + 1))), (2, .int 1), (0, .ref o), (1, .int v)]) hx hb dX9_isSegment_32 hl (k := 3) rfl (nI_1 _) (by decide) rfl (fun ls hl => ?_)
        refine lv_goto (tgt := 4) hx hb dX9_isSegment_35 (by decide) ?_
        exact ih (i + 1, 1) _ _ _ (by dsimp only; omega) ⟨⟨by omega, by show _ = b2i (anyB (fun k => decide (M 17 k = v)) i || decide (M 17 i = v)); first | (rw [h8]; rfl) | (rw [h8, show decide (M 17 i = v) = true from decide_eq_true h7]; rfl) | (rw [h8, show decide (M 17 i = v) = false from decide_eq_false h7]; rfl)⟩, hw, lv_sub hl [2, 3, 1, 0] rfl⟩

set_option maxHeartbeats 400000 in
set_option maxRecDepth 100000 in
theorem c_X9_size (l : Launch) {G : mG} {K : Nat → Nat} {I : Nat → Nat → Int32} {R : Nat → Nat → Option Nat} {F : Nat → UInt32} {A : Nat → Nat → Int32} {N : Nat → Nat} {L : Nat → List Nat} {T : Nat → List Int32} {J : Nat → Nat → Int64} {D : Nat → Nat → UInt64} {o : Nat} {ad : Nat → Nat} {Z : Nat → Int32} {M : Nat → Nat → Int32} {th : Int32} {nf sg : Nat} (v : Int32) (hro : r_ok K R N o ad) (hz : r_st K o ad I A I A Z M th) (hnf : Z 1 = nI nf) (hn : nf ≤ 120) (hsg : Z 3 = nI sg) (hk : sg ≤ 20) : Met l yX9_size wsX9_size ({ frames := 1, cells := 0, slots := 0, locals := 30 } : Room) (va_Pc [.ref o, .int v] (m_B G K I R F A N L T J D)) (va_Qi (fun (r : Int32) (u : (Nat → Nat → Int32) × (Nat → Nat → Int32)) => (r_st K o ad I A u.1 u.2 Z M (t_size Z M v)) ∧ (t_size Z M v = 0 → r = nI (o_size Z M v))) (fun u : (Nat → Nat → Int32) × (Nat → Nat → Int32) => m_B G K (u.1) R F (u.2) N L T J D) (m_A G)) 0 0 (m_A G) := by
  refine Met.ofW (cc := cX9_size) (maxL := 2) (ret := (some .int)) (by decide) rfl ?_
  intro p e s m args below meth c s₁ B hml hv
  obtain ⟨rfl, hB⟩ := hv
  have hx := B.exec
  have hb := B.bytes
  have hr := B.returns
  have hts := atoms_spec (ws := wsX9_size) B.pre
  have hown : s.vm.findClass RX9 = some m.cls := findClass_of_methodNamed B.named
  have hlocks := B.notSynchronized
  have hw := m_wo_in hB
  have hl := lv_entry ([.ref o, .int v]) (n := 2) (Nat.le_of_ble_eq_true rfl)
  rw [lg_entry_eq]
  generalize (lg_sl ([.ref o, .int v]) ++ List.replicate (2 - (lg_sl ([.ref o, .int v])).length) Slot.unset).toArray = ls at hl ⊢
  have hl : lv_has ls 2 [(0, .ref o), (1, .int v)] := hl
  have his := hz
  refine lv_aload_n hx hb dX9_size_0 rfl (lv_at hl 0 rfl) ?_
  refine lv_aload_n hx hb dX9_size_1 rfl (lv_at hl 0 rfl) ?_
  refine lv_iload_n hx hb dX9_size_2 rfl (lv_at hl 1 rfl) ?_
  refine m_ci (va_runV (As := [.int v]) (rest := [.ref o]) ⟨hx, hb, hml, hown, hts⟩ (c_X9_isSegment l (Z := Z) (M := M) (th := th) v hro (r_st_self his) hsg hk) (cwV 1 hts gX9_size_X9_isSegment rfl rfl rfl (by decide +kernel) ⟨Nat.le_of_ble_eq_true rfl, Nat.le_of_ble_eq_true rfl⟩) ⟨m_blind m_B_calling, m_recv hw (m_ent_10 hro.1) rfl, fun U hU hW => ⟨rfl, m_wo_call hw hU hW⟩⟩ rfl rfl hl.1 rfl (lv_room (Nat.le_of_ble_eq_true rfl)) dX9_size_3 ⟨Nat.le_of_ble_eq_true rfl, Nat.le_of_ble_eq_true rfl⟩) hw (fun r_3 u_3 H locs hp_3 hw => ?_)
  obtain rfl : r_3 = (b2i (anyB (fun k => decide (M 17 k = v)) sg)) := hp_3
  refine lv_iconst (v := 1) hx hb dX9_size_6 (by decide) ?_
  refine m_ci (va_runV (As := [.int (b2i (anyB (fun k => decide (M 17 k = v)) sg)), .int 1]) (rest := []) ⟨hx, hb, hml, hown, hts⟩ (c_X9_no l (Z := Z) (M := M) (th := th) (anyB (fun k => decide (M 17 k = v)) sg) 1 hro (r_st_self his) ) (cwV 2 hts gX9_size_X9_no rfl rfl rfl (by decide +kernel) ⟨Nat.le_of_ble_eq_true rfl, Nat.le_of_ble_eq_true rfl⟩) ⟨m_blind m_B_calling, m_recv hw (m_ent_10 hro.1) rfl, fun U hU hW => ⟨rfl, m_wo_call hw hU hW⟩⟩ rfl rfl hl.1 rfl (lv_room (Nat.le_of_ble_eq_true rfl)) dX9_size_7 ⟨Nat.le_of_ble_eq_true rfl, Nat.le_of_ble_eq_true rfl⟩) hw (fun r_7 u_7 H locs hp_7 hw => ?_)
  obtain ⟨I_1, A_2⟩ := u_7
  have hw : m_wo G K I_1 R F A_2 N L T J D s H locs := hw
  dsimp only at hp_7
  have his := r_st_tr his hp_7.1
  obtain rfl : r_7 = (b2i (!(anyB (fun k => decide (M 17 k = v)) sg))) := hp_7.2
  refine lv_if_eq (tgt := 17) hx hb dX9_size_10 (by decide) (fun c_10 => ?_) (fun c_10 => ?_)
  · skip
    have q_10 : (anyB (fun k => decide (M 17 k = v)) sg) = true := by first | (have := (b2i_ne _).mp c_10; simpa using this) | (have := (b2i_eq _).mp c_10; simpa using this)
    refine lv_aload_n hx hb dX9_size_17 rfl (lv_at hl 0 rfl) ?_
    refine lv_iload_n hx hb dX9_size_18 rfl (lv_at hl 1 rfl) ?_
    refine m_ci (va_runV (As := [.int v]) (rest := []) ⟨hx, hb, hml, hown, hts⟩ (c_X9_sizeOf l (Z := Z) (M := M) (th := (if (anyB (fun k => decide (M 17 k = v)) sg) then 0 else 1)) v hro (r_st_self his) hnf hn) (cwV 1 hts gX9_size_X9_sizeOf rfl rfl rfl (by decide +kernel) ⟨Nat.le_of_ble_eq_true rfl, Nat.le_of_ble_eq_true rfl⟩) ⟨m_blind m_B_calling, m_recv hw (m_ent_10 hro.1) rfl, fun U hU hW => ⟨rfl, m_wo_call hw hU hW⟩⟩ rfl rfl hl.1 rfl (lv_room (Nat.le_of_ble_eq_true rfl)) dX9_size_19 ⟨Nat.le_of_ble_eq_true rfl, Nat.le_of_ble_eq_true rfl⟩) hw (fun r_19 u_19 H locs hp_19 hw => ?_)
    obtain rfl : r_19 = (nI (o_size Z M v)) := hp_19
    exact W.iret (v := (nI (o_size Z M v))) hx hb hr (fun t ht hW => ⟨⟨(nI (o_size Z M v)), (I_1, A_2), rfl, (by have ht : t_size Z M v = 0 := (by simp [t_size, q_10, o_seg, show zn Z 3 = sg from by unfold zn; rw [hsg]; exact nI_clamp (by omega)]); rw [ht]; exact ⟨by first | exact his | simpa [q_10] using his, fun _ => rfl⟩), m_wo_out hw ht hW.alike⟩, m_wo_F hw ht⟩) (m_wo_L hw) dX9_size_22
  · skip
    have q_10 : (anyB (fun k => decide (M 17 k = v)) sg) = false := by first | (have := (b2i_ne _).mp c_10; simpa using this) | (have := (b2i_eq _).mp c_10; simpa using this)
    refine lv_iconst (v := 0) hx hb dX9_size_13 (by decide) ?_
    refine lv_goto (tgt := 22) hx hb dX9_size_14 (by decide) ?_
    exact W.iret (v := 0) hx hb hr (fun t ht hW => ⟨⟨0, (I_1, A_2), rfl, (by have ht : t_size Z M v = 1 := (by simp [t_size, q_10, o_seg, show zn Z 3 = sg from by unfold zn; rw [hsg]; exact nI_clamp (by omega)]); rw [ht]; exact ⟨by first | exact his | simpa [q_10] using his, fun h => absurd h (by decide)⟩), m_wo_out hw ht hW.alike⟩, m_wo_F hw ht⟩) (m_wo_L hw) dX9_size_22

