def o_str (M : mM) (nf : Nat) : Nat := cntB (fun f => !decide (M 16 f = 0)) nf
def o_share (M : mM) (nf : Nat) : UInt32 := FP.fdiv (FP.i2f (nI (o_str M nf))) (FP.i2f (nI nf))
set_option maxHeartbeats 400000 in
set_option maxRecDepth 100000 in
theorem c_X9_weight (l : Launch) {G : mG} {K : Nat → Nat} {I : Nat → Nat → Int32} {R : Nat → Nat → Option Nat} {F : Nat → UInt32} {A : Nat → Nat → Int32} {N : Nat → Nat} {L : Nat → List Nat} {T : Nat → List Int32} {J : Nat → Nat → Int64} {D : Nat → Nat → UInt64} {o : Nat} {ad : Nat → Nat} {Z : Nat → Int32} {M : Nat → Nat → Int32} {th : Int32} {nf ni : Nat} (wd : Int32) (hro : r_ok K R N o ad) (hz : r_st K o ad I A I A Z M th) (hnf : Z 1 = nI nf) (hn : nf ≤ 120) (hni : Z 0 = nI ni) (hn12 : ni ≤ 12) (hne : ∀ h, h ≤ ni → vf_n32 (FP.fdiv (FP.i2f (nI ni)) (FP.i2f (1 + nI h))) ∧ vf_n32 (o_wt ni h)) : Met l yX9_weight wsX9_weight ({ frames := 2, cells := 0, slots := 0, locals := 50 } : Room) (va_Pc [.ref o, .int wd] (m_B G K I R F A N L T J D)) (va_Qf (fun (r : UInt32) (u : (Nat → Nat → Int32) × (Nat → Nat → Int32)) => (r_st K o ad I A u.1 u.2 Z M (t_b (o_rng wd 0 30))) ∧ (t_b (o_rng wd 0 30) = 0 → r = o_wt ni (o_has M nf ni wd))) (fun u : (Nat → Nat → Int32) × (Nat → Nat → Int32) => m_B G K (u.1) R F (u.2) N L T J D) (m_A G)) 0 0 (m_A G) := by
  refine Met.ofW (cc := cX9_weight) (maxL := 2) (ret := (some .float)) (by decide) rfl ?_
  intro p e s m args below meth c s₁ B hml hv
  obtain ⟨rfl, hB⟩ := hv
  have hx := B.exec
  have hb := B.bytes
  have hr := B.returns
  have hts := atoms_spec (ws := wsX9_weight) B.pre
  have hown : s.vm.findClass RX9 = some m.cls := findClass_of_methodNamed B.named
  have hlocks := B.notSynchronized
  have hw := m_wo_in hB
  have hl := lv_entry ([.ref o, .int wd]) (n := 2) (Nat.le_of_ble_eq_true rfl)
  rw [lg_entry_eq]
  generalize (lg_sl ([.ref o, .int wd]) ++ List.replicate (2 - (lg_sl ([.ref o, .int wd])).length) Slot.unset).toArray = ls at hl ⊢
  have hl : lv_has ls 2 [(0, .ref o), (1, .int wd)] := hl
  have his := hz
  refine lv_aload_n hx hb dX9_weight_0 rfl (lv_at hl 0 rfl) ?_
  refine lv_iload_n hx hb dX9_weight_1 rfl (lv_at hl 1 rfl) ?_
  refine lv_iconst (v := 0) hx hb dX9_weight_2 (by decide) ?_
  refine lv_bipush (v := 30) hx hb dX9_weight_3 (by decide) ?_
  refine m_ci (va_runS (As := [.int wd, .int 0, .int 30]) (rest := [.ref o]) ⟨hx, hb, hml, hown, hts⟩ (c_X9_isIn l wd 0 30) (va_cwS 3 hts gX9_weight_X9_isIn rfl rfl rfl (by decide +kernel) ⟨Nat.le_of_ble_eq_true rfl, Nat.le_of_ble_eq_true rfl⟩) ⟨m_blind m_B_calling, fun U hU hW => ⟨rfl, m_wo_call hw hU hW⟩⟩ rfl rfl hl.1 rfl (lv_room (Nat.le_of_ble_eq_true rfl)) dX9_weight_5 ⟨Nat.le_of_ble_eq_true rfl, Nat.le_of_ble_eq_true rfl⟩) hw (fun r_5 u_5 H locs hp_5 hw => ?_)
  obtain rfl : r_5 = (b2i (o_rng wd 0 30)) := hp_5
  refine lv_iconst (v := 1) hx hb dX9_weight_8 (by decide) ?_
  refine m_ci (va_runV (As := [.int (b2i (o_rng wd 0 30)), .int 1]) (rest := []) ⟨hx, hb, hml, hown, hts⟩ (c_X9_no l (Z := Z) (M := M) (th := th) (o_rng wd 0 30) 1 hro (r_st_self his) ) (cwV 2 hts gX9_weight_X9_no rfl rfl rfl (by decide +kernel) ⟨Nat.le_of_ble_eq_true rfl, Nat.le_of_ble_eq_true rfl⟩) ⟨m_blind m_B_calling, m_recv hw (m_ent_10 hro.1) rfl, fun U hU hW => ⟨rfl, m_wo_call hw hU hW⟩⟩ rfl rfl hl.1 rfl (lv_room (Nat.le_of_ble_eq_true rfl)) dX9_weight_9 ⟨Nat.le_of_ble_eq_true rfl, Nat.le_of_ble_eq_true rfl⟩) hw (fun r_9 u_9 H locs hp_9 hw => ?_)
  obtain ⟨I_1, A_2⟩ := u_9
  have hw : m_wo G K I_1 R F A_2 N L T J D s H locs := hw
  dsimp only at hp_9
  have his := r_st_tr his hp_9.1
  obtain rfl : r_9 = (b2i (!(o_rng wd 0 30))) := hp_9.2
  refine lv_if_eq (tgt := 19) hx hb dX9_weight_12 (by decide) (fun c_12 => ?_) (fun c_12 => ?_)
  · skip
    have q_12 : (o_rng wd 0 30) = true := by first | (have := (b2i_ne _).mp c_12; simpa using this) | (have := (b2i_eq _).mp c_12; simpa using this)
    refine lv_aload_n hx hb dX9_weight_19 rfl (lv_at hl 0 rfl) ?_
    refine lv_iload_n hx hb dX9_weight_20 rfl (lv_at hl 1 rfl) ?_
    refine m_cf (va_runV (As := [.int wd]) (rest := []) ⟨hx, hb, hml, hown, hts⟩ (c_X9_weightOf l (Z := Z) (M := M) (th := (if (o_rng wd 0 30) then 0 else 1)) wd hro (r_st_self his) hnf hn hni hn12 hne) (cwV 1 hts gX9_weight_X9_weightOf rfl rfl rfl (by decide +kernel) ⟨Nat.le_of_ble_eq_true rfl, Nat.le_of_ble_eq_true rfl⟩) ⟨m_blind m_B_calling, m_recv hw (m_ent_10 hro.1) rfl, fun U hU hW => ⟨rfl, m_wo_call hw hU hW⟩⟩ rfl rfl hl.1 rfl (lv_room (Nat.le_of_ble_eq_true rfl)) dX9_weight_21 ⟨Nat.le_of_ble_eq_true rfl, Nat.le_of_ble_eq_true rfl⟩) hw (fun r_21 u_21 H locs hp_21 hw => ?_)
    obtain rfl : r_21 = (o_wt ni (o_has M nf ni wd)) := hp_21
    exact W.fret (v := (o_wt ni (o_has M nf ni wd))) hx hb hr (fun t ht hW => ⟨⟨(o_wt ni (o_has M nf ni wd)), (I_1, A_2), rfl, (by have ht : t_b (o_rng wd 0 30) = 0 := (by simp [t_b, q_12]); rw [ht]; exact ⟨by first | exact his | simpa [q_12] using his, fun _ => rfl⟩), m_wo_out hw ht hW.alike⟩, m_wo_F hw ht⟩) (m_wo_L hw) dX9_weight_24
  · skip
    have q_12 : (o_rng wd 0 30) = false := by first | (have := (b2i_ne _).mp c_12; simpa using this) | (have := (b2i_eq _).mp c_12; simpa using this)
    refine lv_fconst0 hx hb dX9_weight_15 ?_
    refine lv_goto (tgt := 24) hx hb dX9_weight_16 (by decide) ?_
    exact W.fret (v := FP.fconst0) hx hb hr (fun t ht hW => ⟨⟨FP.fconst0, (I_1, A_2), rfl, (by have ht : t_b (o_rng wd 0 30) = 1 := (by simp [t_b, q_12]); rw [ht]; exact ⟨by first | exact his | simpa [q_12] using his, fun h => absurd h (by decide)⟩), m_wo_out hw ht hW.alike⟩, m_wo_F hw ht⟩) (m_wo_L hw) dX9_weight_24

set_option maxHeartbeats 400000 in
set_option maxRecDepth 100000 in
theorem c_X9_struckShare (l : Launch) {G : mG} {K : Nat → Nat} {I : Nat → Nat → Int32} {R : Nat → Nat → Option Nat} {F : Nat → UInt32} {A : Nat → Nat → Int32} {N : Nat → Nat} {L : Nat → List Nat} {T : Nat → List Int32} {J : Nat → Nat → Int64} {D : Nat → Nat → UInt64} {o : Nat} {ad : Nat → Nat} {Z : Nat → Int32} {M : Nat → Nat → Int32} {th : Int32} {nf : Nat} (hro : r_ok K R N o ad) (hz : r_st K o ad I A I A Z M th) (hnf : Z 1 = nI nf) (hn : nf ≤ 120) (hne : 0 < nf → vf_n32 (o_share M nf)) : Met l yX9_struckShare wsX9_struckShare ({ frames := 1, cells := 0, slots := 0, locals := 22 } : Room) (va_Pc [.ref o] (m_B G K I R F A N L T J D)) (va_Qf (fun (r : UInt32) (u : (Nat → Nat → Int32) × (Nat → Nat → Int32)) => (r_st K o ad I A u.1 u.2 Z M (t_b (decide (0 < nf)))) ∧ (t_b (decide (0 < nf)) = 0 → r = o_share M nf)) (fun u : (Nat → Nat → Int32) × (Nat → Nat → Int32) => m_B G K (u.1) R F (u.2) N L T J D) (m_A G)) 0 0 (m_A G) := by
  refine Met.ofW (cc := cX9_struckShare) (maxL := 3) (ret := (some .float)) (by decide) rfl ?_
  intro p e s m args below meth c s₁ B hml hv
  obtain ⟨rfl, hB⟩ := hv
  have hx := B.exec
  have hb := B.bytes
  have hr := B.returns
  have hts := atoms_spec (ws := wsX9_struckShare) B.pre
  have hown : s.vm.findClass RX9 = some m.cls := findClass_of_methodNamed B.named
  have hlocks := B.notSynchronized
  have hw := m_wo_in hB
  have hl := lv_entry ([.ref o]) (n := 3) (Nat.le_of_ble_eq_true rfl)
  rw [lg_entry_eq]
  generalize (lg_sl ([.ref o]) ++ List.replicate (3 - (lg_sl ([.ref o])).length) Slot.unset).toArray = ls at hl ⊢
  have hl : lv_has ls 3 [(0, .ref o)] := hl
  have his := hz
  refine lv_iconst (v := 0) hx hb dX9_struckShare_0 (by decide) ?_
  refine lv_istore_n (lv' := [(1, .int 0), (0, .ref o)]) hx hb dX9_struckShare_1 rfl hl (by decide) rfl (fun ls hl => ?_)
  refine lv_iconst (v := 0) hx hb dX9_struckShare_2 (by decide) ?_
  refine lv_istore_n (lv' := [(2, .int 0), (1, .int 0), (0, .ref o)]) hx hb dX9_struckShare_3 rfl hl (by decide) rfl (fun ls hl => ?_)
  refine m_loop (σ := Nat × Int32) (fun a => nf - (a.1)) (fun a H locs ls => ((a.1) ≤ nf ∧ (a.2) = nI (o_str M (a.1))) ∧ m_wo G K I R F A N L T J D s H locs ∧ lv_has ls 3 [(0, .ref o), (1, .int (a.2)), (2, .int (nI (a.1)))]) ?_ (0, 0) ⟨⟨Nat.zero_le _, rfl⟩, hw, lv_sub hl [2, 1, 0] rfl⟩
  rintro ⟨i, x⟩ H locs ls ⟨hinv, hw, hl⟩ ih
  dsimp only at hinv hw hl
  have hx0 := hinv.2
  refine lv_iload_n hx hb dX9_struckShare_4 rfl (lv_at hl 2 rfl) ?_
  refine lv_aload_n hx hb dX9_struckShare_5 rfl (lv_at hl 0 rfl) ?_
  refine g_10_1 hx hb hts (by decide +kernel) hown hw hro.1 (hts (.fieldLink RX9 118 "PirateindexModel" "finds" "I") (by decide +kernel)) dX9_struckShare_6 ?_
  rw [show I 1001 o = Z 1 from his.1 1 (by decide)]
  rw [hnf]
  refine lv_icmp_ge (tgt := 35) hx hb dX9_struckShare_9 (by decide) (fun c_9 => ?_) (fun c_9 => ?_)
  · skip
    rw [nI_leI (by omega) (by omega)] at c_9
    have hi : i = nf := by omega
    rw [hi] at hx0
    refine lv_aload_n hx hb dX9_struckShare_35 rfl (lv_at hl 0 rfl) ?_
    refine lv_aload_n hx hb dX9_struckShare_36 rfl (lv_at hl 0 rfl) ?_
    refine g_10_1 hx hb hts (by decide +kernel) hown hw hro.1 (hts (.fieldLink RX9 118 "PirateindexModel" "finds" "I") (by decide +kernel)) dX9_struckShare_37 ?_
    rw [show I 1001 o = Z 1 from his.1 1 (by decide)]
    rw [hnf]
    refine lv_if_le (tgt := 47) hx hb dX9_struckShare_40 (by decide) (fun c_40 => ?_) (fun c_40 => ?_)
    · skip
      rw [show (0 : Int32) = nI 0 from rfl, nI_leI (by omega) (by decide)] at c_40
      have hz9 : ¬ 0 < nf := by omega
      refine lv_iconst (v := 0) hx hb dX9_struckShare_47 (by decide) ?_
      refine lv_iconst (v := 1) hx hb dX9_struckShare_48 (by decide) ?_
      refine m_ci (va_runV (As := [.int 0, .int 1]) (rest := []) ⟨hx, hb, hml, hown, hts⟩ (c_X9_no l (Z := Z) (M := M) (th := th) false 1 hro (r_st_self his) ) (cwV 2 hts gX9_struckShare_X9_no rfl rfl rfl (by decide +kernel) ⟨Nat.le_of_ble_eq_true rfl, Nat.le_of_ble_eq_true rfl⟩) ⟨m_blind m_B_calling, m_recv hw (m_ent_10 hro.1) rfl, fun U hU hW => ⟨rfl, m_wo_call hw hU hW⟩⟩ rfl rfl hl.1 rfl (lv_room (Nat.le_of_ble_eq_true rfl)) dX9_struckShare_49 ⟨Nat.le_of_ble_eq_true rfl, Nat.le_of_ble_eq_true rfl⟩) hw (fun r_49 u_49 H locs hp_49 hw => ?_)
      obtain ⟨I_1, A_2⟩ := u_49
      have hw : m_wo G K I_1 R F A_2 N L T J D s H locs := hw
      dsimp only at hp_49
      have his := r_st_tr his hp_49.1
      obtain rfl : r_49 = (b2i (!false)) := hp_49.2
      refine lv_if_eq (tgt := 59) hx hb dX9_struckShare_52 (by decide) (fun c_52 => absurd c_52 (by decide)) (fun c_52 => ?_)
      refine lv_fconst0 hx hb dX9_struckShare_55 ?_
      refine lv_goto (tgt := 67) hx hb dX9_struckShare_56 (by decide) ?_
      exact W.fret (v := FP.fconst0) hx hb hr (fun t ht hW => ⟨⟨FP.fconst0, (I_1, A_2), rfl, (by have ht : t_b (decide (0 < nf)) = 1 := (by simp [t_b, hz9]); rw [ht]; exact ⟨by first | exact his | simpa [hz9] using his, fun h => absurd h (by decide)⟩), m_wo_out hw ht hW.alike⟩, m_wo_F hw ht⟩) (m_wo_L hw) dX9_struckShare_67
    · skip
      rw [show (0 : Int32) = nI 0 from rfl, nI_leI (by omega) (by decide)] at c_40
      have hz9 : 0 < nf := by omega
      have hn9 := hne (by omega)
      unfold o_share at hn9
      refine lv_iconst (v := 1) hx hb dX9_struckShare_43 (by decide) ?_
      refine lv_goto (tgt := 48) hx hb dX9_struckShare_44 (by decide) ?_
      refine lv_iconst (v := 1) hx hb dX9_struckShare_48 (by decide) ?_
      refine m_ci (va_runV (As := [.int 1, .int 1]) (rest := []) ⟨hx, hb, hml, hown, hts⟩ (c_X9_no l (Z := Z) (M := M) (th := th) true 1 hro (r_st_self his) ) (cwV 2 hts gX9_struckShare_X9_no rfl rfl rfl (by decide +kernel) ⟨Nat.le_of_ble_eq_true rfl, Nat.le_of_ble_eq_true rfl⟩) ⟨m_blind m_B_calling, m_recv hw (m_ent_10 hro.1) rfl, fun U hU hW => ⟨rfl, m_wo_call hw hU hW⟩⟩ rfl rfl hl.1 rfl (lv_room (Nat.le_of_ble_eq_true rfl)) dX9_struckShare_49 ⟨Nat.le_of_ble_eq_true rfl, Nat.le_of_ble_eq_true rfl⟩) hw (fun r_49 u_49 H locs hp_49 hw => ?_)
      obtain ⟨I_3, A_4⟩ := u_49
      have hw : m_wo G K I_3 R F A_4 N L T J D s H locs := hw
      dsimp only at hp_49
      have his := r_st_tr his hp_49.1
      obtain rfl : r_49 = (b2i (!true)) := hp_49.2
      refine lv_if_eq (tgt := 59) hx hb dX9_struckShare_52 (by decide) (fun c_52 => ?_) (fun c_52 => absurd (by decide) c_52)
      refine lv_iload_n hx hb dX9_struckShare_59 rfl (lv_at hl 1 rfl) ?_
      refine lv_i2f hx hb dX9_struckShare_60 ?_
      refine lv_aload_n hx hb dX9_struckShare_61 rfl (lv_at hl 0 rfl) ?_
      refine g_10_1 hx hb hts (by decide +kernel) hown hw hro.1 (hts (.fieldLink RX9 118 "PirateindexModel" "finds" "I") (by decide +kernel)) dX9_struckShare_62 ?_
      rw [show I_3 1001 o = Z 1 from his.1 1 (by decide)]
      rw [hnf]
      refine lv_i2f hx hb dX9_struckShare_65 ?_
      refine lv_fdiv hx hb dX9_struckShare_66 (by rw [hx0]; exact hn9) ?_
      exact W.fret (v := (FP.fdiv (FP.i2f x) (FP.i2f (nI nf)))) hx hb hr (fun t ht hW => ⟨⟨(FP.fdiv (FP.i2f x) (FP.i2f (nI nf))), (I_3, A_4), rfl, (by have ht : t_b (decide (0 < nf)) = 0 := (by simp [t_b, hz9]); rw [ht]; exact ⟨by first | exact his | simpa [hz9] using his, fun _ => (by unfold o_share; rw [hx0])⟩), m_wo_out hw ht hW.alike⟩, m_wo_F hw ht⟩) (m_wo_L hw) dX9_struckShare_67
  · skip
    rw [nI_leI (by omega) (by omega)] at c_9
    have hi : i < nf := by omega
    refine lv_iload_n hx hb dX9_struckShare_12 rfl (lv_at hl 1 rfl) ?_
    refine lv_aload_n hx hb dX9_struckShare_13 rfl (lv_at hl 0 rfl) ?_
    refine g_10_16 (r := some (ad 16)) hx hb hts (by decide +kernel) hown hw hro.1 (hts (.fieldLink RX9 38 "PirateindexModel" "struck" "[Z") (by decide +kernel)) (hro.2.1 16 rfl).1 dX9_struckShare_14 ?_
    refine lv_iload_n hx hb dX9_struckShare_17 rfl (lv_at hl 2 rfl) ?_
    refine m_baload_30 hx hb hw (hro.2.1 16 rfl).2.1 (r_in hro 16 rfl (n := 120) rfl (by omega)) dX9_struckShare_18 ?_
    rw [show A (ad 16) = M 16 from his.2.1 16 rfl]
    rw [nI_clamp (show i < 2 ^ 31 by omega)]
    refine lv_if_eq (tgt := 26) hx hb dX9_struckShare_19 (by decide) (fun c_19 => ?_) (fun c_19 => ?_)
    · skip
      have hpi : (!decide (M 16 i = 0)) = false := by simp [c_19]
      refine lv_iconst (v := 0) hx hb dX9_struckShare_26 (by decide) ?_
      refine lv_iadd hx hb dX9_struckShare_27 ?_
      refine lv_istore_n (lv' := [(1, .int (x + 0)), (0, .ref o), (2, .int (nI i))]) hx hb dX9_struckShare_28 rfl hl (by decide) rfl (fun ls hl => ?_)
      refine lv_iinc (v := nI (i + 1)) (lv' := [(2, .int (nI (i + 1))), (1, .int (x + 0)), (0, .ref o)]) hx hb dX9_struckShare_29 hl (k := 2) rfl (nI_1 _) (by decide) rfl (fun ls hl => ?_)
      refine lv_goto (tgt := 4) hx hb dX9_struckShare_32 (by decide) ?_
      exact ih (i + 1, (x + 0)) _ _ _ (by dsimp only; omega) ⟨⟨by omega, cntB_step hx0 hpi⟩, hw, lv_sub hl [2, 1, 0] rfl⟩
    · skip
      have hpi : (!decide (M 16 i = 0)) = true := by simp [c_19]
      refine lv_iconst (v := 1) hx hb dX9_struckShare_22 (by decide) ?_
      refine lv_goto (tgt := 27) hx hb dX9_struckShare_23 (by decide) ?_
      refine lv_iadd hx hb dX9_struckShare_27 ?_
      refine lv_istore_n (lv' := [(1, .int (x + 1)), (0, .ref o), (2, .int (nI i))]) hx hb dX9_struckShare_28 rfl hl (by decide) rfl (fun ls hl => ?_)
      refine lv_iinc (v := nI (i + 1)) (lv' := [(2, .int (nI (i + 1))), (1, .int (x + 1)), (0, .ref o)]) hx hb dX9_struckShare_29 hl (k := 2) rfl (nI_1 _) (by decide) rfl (fun ls hl => ?_)
      refine lv_goto (tgt := 4) hx hb dX9_struckShare_32 (by decide) ?_
      exact ih (i + 1, (x + 1)) _ _ _ (by dsimp only; omega) ⟨⟨by omega, cntB_step hx0 hpi⟩, hw, lv_sub hl [2, 1, 0] rfl⟩

