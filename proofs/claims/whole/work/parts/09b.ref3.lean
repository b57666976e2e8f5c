set_option maxHeartbeats 400000 in
set_option maxRecDepth 100000 in
theorem c_X9_storm (l : Launch) {G : mG} {K : Nat → Nat} {I : Nat → Nat → Int32} {R : Nat → Nat → Option Nat} {F : Nat → UInt32} {A : Nat → Nat → Int32} {N : Nat → Nat} {L : Nat → List Nat} {T : Nat → List Int32} {J : Nat → Nat → Int64} {D : Nat → Nat → UInt64} {o : Nat} {ad : Nat → Nat} {Z : Nat → Int32} {M : Nat → Nat → Int32} {th : Int32} {nf sg : Nat} (v : Int32) (hro : r_ok K R N o ad) (hz : r_st K o ad I A I A Z M th) (hnf : Z 1 = nI nf) (hn : nf ≤ 120) (hsg : Z 3 = nI sg) (hk : sg ≤ 20) : Met l yX9_storm wsX9_storm ({ frames := 1, cells := 0, slots := 0, locals := 30 } : Room) (va_Pc [.ref o, .int v] (m_B G K I R F A N L T J D)) (va_Qi (fun (r : Int32) (u : (Nat → Nat → Int32) × (Nat → Nat → Int32)) => (r_st K o ad I A u.1 u.2 (if t_storm Z M v = 0 then p_storm (Z, M) v else (Z, M)).1 (if t_storm Z M v = 0 then p_storm (Z, M) v else (Z, M)).2 (t_storm Z M v)) ∧ (t_storm Z M v = 0 → r = nI (o_lost (p_storm (Z, M) v).1 (p_storm (Z, M) v).2))) (fun u : (Nat → Nat → Int32) × (Nat → Nat → Int32) => m_B G K (u.1) R F (u.2) N L T J D) (m_A G)) 0 0 (m_A G) := by
  refine Met.ofW (cc := cX9_storm) (maxL := 3) (ret := (some .int)) (by decide) rfl ?_
  intro p e s m args below meth c s₁ B hml hv
  obtain ⟨rfl, hB⟩ := hv
  have hx := B.exec
  have hb := B.bytes
  have hr := B.returns
  have hts := atoms_spec (ws := wsX9_storm) B.pre
  have hown : s.vm.findClass RX9 = some m.cls := findClass_of_methodNamed B.named
  have hlocks := B.notSynchronized
  have hw := m_wo_in hB
  have hl := lv_entry ([.ref o, .int v]) (n := 3) (Nat.le_of_ble_eq_true rfl)
  rw [lg_entry_eq]
  generalize (lg_sl ([.ref o, .int v]) ++ List.replicate (3 - (lg_sl ([.ref o, .int v])).length) Slot.unset).toArray = ls at hl ⊢
  have hl : lv_has ls 3 [(0, .ref o), (1, .int v)] := hl
  have his := hz
  refine lv_aload_n hx hb dX9_storm_0 rfl (lv_at hl 0 rfl) ?_
  refine lv_aload_n hx hb dX9_storm_1 rfl (lv_at hl 0 rfl) ?_
  refine lv_iload_n hx hb dX9_storm_2 rfl (lv_at hl 1 rfl) ?_
  refine m_ci (va_runV (As := [.int v]) (rest := [.ref o]) ⟨hx, hb, hml, hown, hts⟩ (c_X9_isSegment l (Z := Z) (M := M) (th := th) v hro (r_st_self his) hsg hk) (cwV 1 hts gX9_storm_X9_isSegment rfl rfl rfl (by decide +kernel) ⟨Nat.le_of_ble_eq_true rfl, Nat.le_of_ble_eq_true rfl⟩) ⟨m_blind m_B_calling, m_recv hw (m_ent_10 hro.1) rfl, fun U hU hW => ⟨rfl, m_wo_call hw hU hW⟩⟩ rfl rfl hl.1 rfl (lv_room (Nat.le_of_ble_eq_true rfl)) dX9_storm_3 ⟨Nat.le_of_ble_eq_true rfl, Nat.le_of_ble_eq_true rfl⟩) hw (fun r_3 u_3 H locs hp_3 hw => ?_)
  obtain rfl : r_3 = (b2i (anyB (fun k => decide (M 17 k = v)) sg)) := hp_3
  refine lv_iconst (v := 1) hx hb dX9_storm_6 (by decide) ?_
  refine m_ci (va_runV (As := [.int (b2i (anyB (fun k => decide (M 17 k = v)) sg)), .int 1]) (rest := []) ⟨hx, hb, hml, hown, hts⟩ (c_X9_no l (Z := Z) (M := M) (th := th) (anyB (fun k => decide (M 17 k = v)) sg) 1 hro (r_st_self his) ) (cwV 2 hts gX9_storm_X9_no rfl rfl rfl (by decide +kernel) ⟨Nat.le_of_ble_eq_true rfl, Nat.le_of_ble_eq_true rfl⟩) ⟨m_blind m_B_calling, m_recv hw (m_ent_10 hro.1) rfl, fun U hU hW => ⟨rfl, m_wo_call hw hU hW⟩⟩ rfl rfl hl.1 rfl (lv_room (Nat.le_of_ble_eq_true rfl)) dX9_storm_7 ⟨Nat.le_of_ble_eq_true rfl, Nat.le_of_ble_eq_true rfl⟩) hw (fun r_7 u_7 H locs hp_7 hw => ?_)
  obtain ⟨I_1, A_2⟩ := u_7
  have hw : m_wo G K I_1 R F A_2 N L T J D s H locs := hw
  dsimp only at hp_7
  have his := r_st_tr his hp_7.1
  obtain rfl : r_7 = (b2i (!(anyB (fun k => decide (M 17 k = v)) sg))) := hp_7.2
  refine lv_if_ne (tgt := 34) hx hb dX9_storm_10 (by decide) (fun c_10 => ?_) (fun c_10 => ?_)
  · skip
    have q_10 : (anyB (fun k => decide (M 17 k = v)) sg) = false := by first | (have := (b2i_ne _).mp c_10; simpa using this) | (have := (b2i_eq _).mp c_10; simpa using this)
    refine lv_iconst (v := 0) hx hb dX9_storm_34 (by decide) ?_
    exact W.iret (v := 0) hx hb hr (fun t ht hW => ⟨⟨0, (I_1, A_2), rfl, (by have ht : t_storm Z M v = 1 := (by simp [t_storm, q_10, o_seg, show zn Z 3 = sg from by unfold zn; rw [hsg]; exact nI_clamp (by omega)]); rw [ht]; exact ⟨by first | exact his | simpa [q_10] using his, fun h => absurd h (by decide)⟩), m_wo_out hw ht hW.alike⟩, m_wo_F hw ht⟩) (m_wo_L hw) dX9_storm_35
  · skip
    have q_10 : (anyB (fun k => decide (M 17 k = v)) sg) = true := by first | (have := (b2i_ne _).mp c_10; simpa using this) | (have := (b2i_eq _).mp c_10; simpa using this)
    refine lv_aload_n hx hb dX9_storm_13 rfl (lv_at hl 0 rfl) ?_
    refine lv_iload_n hx hb dX9_storm_14 rfl (lv_at hl 1 rfl) ?_
    refine lv_aload_n hx hb dX9_storm_15 rfl (lv_at hl 0 rfl) ?_
    refine g_10_5 hx hb hts (by decide +kernel) hown hw hro.1 (hts (.fieldLink RX9 91 "PirateindexModel" "open" "I") (by decide +kernel)) dX9_storm_16 ?_
    rw [show I_1 1005 o = Z 5 from his.1 5 (by decide)]
    refine lv_icmp_eq (tgt := 26) hx hb dX9_storm_19 (by decide) (fun c_19 => ?_) (fun c_19 => ?_)
    · skip
      refine lv_iconst (v := 0) hx hb dX9_storm_26 (by decide) ?_
      refine lv_iconst (v := 2) hx hb dX9_storm_27 (by decide) ?_
      refine m_ci (va_runV (As := [.int 0, .int 2]) (rest := []) ⟨hx, hb, hml, hown, hts⟩ (c_X9_no l (Z := Z) (M := M) (th := (if (anyB (fun k => decide (M 17 k = v)) sg) then 0 else 1)) false 2 hro (r_st_self his) ) (cwV 2 hts gX9_storm_X9_no rfl rfl rfl (by decide +kernel) ⟨Nat.le_of_ble_eq_true rfl, Nat.le_of_ble_eq_true rfl⟩) ⟨m_blind m_B_calling, m_recv hw (m_ent_10 hro.1) rfl, fun U hU hW => ⟨rfl, m_wo_call hw hU hW⟩⟩ rfl rfl hl.1 rfl (lv_room (Nat.le_of_ble_eq_true rfl)) dX9_storm_28 ⟨Nat.le_of_ble_eq_true rfl, Nat.le_of_ble_eq_true rfl⟩) hw (fun r_28 u_28 H locs hp_28 hw => ?_)
      obtain ⟨I_3, A_4⟩ := u_28
      have hw : m_wo G K I_3 R F A_4 N L T J D s H locs := hw
      dsimp only at hp_28
      have his := r_st_tr his hp_28.1
      obtain rfl : r_28 = (b2i (!false)) := hp_28.2
      refine lv_if_eq (tgt := 36) hx hb dX9_storm_31 (by decide) (fun c_31 => absurd c_31 (by decide)) (fun c_31 => ?_)
      refine lv_iconst (v := 0) hx hb dX9_storm_34 (by decide) ?_
      exact W.iret (v := 0) hx hb hr (fun t ht hW => ⟨⟨0, (I_3, A_4), rfl, (by have ht : t_storm Z M v = 2 := (by unfold t_storm; rw [if_pos (by unfold o_seg; rw [show zn Z 3 = sg from by unfold zn; rw [hsg]; exact nI_clamp (by omega)]; exact q_10), if_pos c_19]); rw [ht]; exact ⟨by first | exact his | simpa [q_10, c_19] using his, fun h => absurd h (by decide)⟩), m_wo_out hw ht hW.alike⟩, m_wo_F hw ht⟩) (m_wo_L hw) dX9_storm_35
    · skip
      refine lv_iconst (v := 1) hx hb dX9_storm_22 (by decide) ?_
      refine lv_goto (tgt := 27) hx hb dX9_storm_23 (by decide) ?_
      refine lv_iconst (v := 2) hx hb dX9_storm_27 (by decide) ?_
      refine m_ci (va_runV (As := [.int 1, .int 2]) (rest := []) ⟨hx, hb, hml, hown, hts⟩ (c_X9_no l (Z := Z) (M := M) (th := (if (anyB (fun k => decide (M 17 k = v)) sg) then 0 else 1)) true 2 hro (r_st_self his) ) (cwV 2 hts gX9_storm_X9_no rfl rfl rfl (by decide +kernel) ⟨Nat.le_of_ble_eq_true rfl, Nat.le_of_ble_eq_true rfl⟩) ⟨m_blind m_B_calling, m_recv hw (m_ent_10 hro.1) rfl, fun U hU hW => ⟨rfl, m_wo_call hw hU hW⟩⟩ rfl rfl hl.1 rfl (lv_room (Nat.le_of_ble_eq_true rfl)) dX9_storm_28 ⟨Nat.le_of_ble_eq_true rfl, Nat.le_of_ble_eq_true rfl⟩) hw (fun r_28 u_28 H locs hp_28 hw => ?_)
      obtain ⟨I_5, A_6⟩ := u_28
      have hw : m_wo G K I_5 R F A_6 N L T J D s H locs := hw
      dsimp only at hp_28
      have his := r_st_tr his hp_28.1
      obtain rfl : r_28 = (b2i (!true)) := hp_28.2
      refine lv_if_eq (tgt := 36) hx hb dX9_storm_31 (by decide) (fun c_31 => ?_) (fun c_31 => absurd (by decide) c_31)
      refine lv_aload_n hx hb dX9_storm_36 rfl (lv_at hl 0 rfl) ?_
      refine lv_iload_n hx hb dX9_storm_37 rfl (lv_at hl 1 rfl) ?_
      refine m_cv (va_runV (As := [.int v]) (rest := []) ⟨hx, hb, hml, hown, hts⟩ (c_X9_drops l (Z := Z) (M := M) (th := 0) v hro (r_st_self his) hsg (by omega)) (cwV 1 hts gX9_storm_X9_drops rfl rfl rfl (by decide +kernel) ⟨Nat.le_of_ble_eq_true rfl, Nat.le_of_ble_eq_true rfl⟩) ⟨m_blind m_B_calling, m_recv hw (m_ent_10 hro.1) rfl, fun U hU hW => ⟨rfl, m_wo_call hw hU hW⟩⟩ rfl rfl hl.1 rfl (lv_room (Nat.le_of_ble_eq_true rfl)) dX9_storm_38 ⟨Nat.le_of_ble_eq_true rfl, Nat.le_of_ble_eq_true rfl⟩) hw (fun u_38 H locs hp_38 hw => ?_)
      obtain ⟨I_7, A_8⟩ := u_38
      have hw : m_wo G K I_7 R F A_8 N L T J D s H locs := hw
      dsimp only at hp_38
      have his := r_st_tr his hp_38.1
      obtain ⟨Z_9, eZ_9⟩ : ∃ z : Nat → Int32, z = (o_drops (Z, M) v).1 := ⟨_, rfl⟩
      rw [← eZ_9] at his
      obtain ⟨M_10, eM_10⟩ : ∃ z : Nat → Nat → Int32, z = (o_drops (Z, M) v).2 := ⟨_, rfl⟩
      rw [← eM_10] at his
      obtain ⟨Z0, eZ0⟩ : ∃ z, z = Z_9 := ⟨_, rfl⟩
      obtain ⟨M0, eM0⟩ : ∃ z, z = M_10 := ⟨_, rfl⟩
      obtain ⟨I0, eI0⟩ : ∃ z, z = I_7 := ⟨_, rfl⟩
      have hz1 : Z0 1 = nI nf := by rw [eZ0, eZ_9]; exact hnf
      have h14 : M0 14 = M 14 := by rw [eM0, eM_10]; rfl
      rw [← eI0] at hw his
      rw [← eZ0, ← eM0] at his
      refine lv_iconst (v := 0) hx hb dX9_storm_41 (by decide) ?_
      refine lv_istore_n (lv' := [(2, .int 0), (0, .ref o), (1, .int v)]) hx hb dX9_storm_42 rfl hl (by decide) rfl (fun ls hl => ?_)
      refine m_loop (σ := Nat × (Nat → Nat → Int32)) (fun a => nf - (a.1)) (fun a H locs ls => ((a.1) ≤ nf ∧ r_st K o ad I A I0 (a.2) Z0 (mset M0 14 (fmp (M0 14) (fun (_ : Nat) (x : Int32) => if x = v then -1 else x) (a.1))) 0) ∧ m_wo G K I0 R F (a.2) N L T J D s H locs ∧ lv_has ls 3 [(0, .ref o), (1, .int v), (2, .int (nI (a.1)))]) ?_ (0, A_8) ⟨⟨Nat.zero_le _, by rw [fmp_0, mset_self]; exact his⟩, hw, lv_sub hl [1, 2, 0] rfl⟩
      rintro ⟨i, Aa⟩ H locs ls ⟨hinv, hw, hl⟩ ih
      dsimp only at hinv hw hl
      obtain ⟨hi0, his⟩ := hinv
      obtain ⟨Mi, eMi⟩ : ∃ z, z = mset M0 14 (fmp (M0 14) (fun (_ : Nat) (x : Int32) => if x = v then -1 else x) i) := ⟨_, rfl⟩
      rw [← eMi] at his
      have hat9 : Mi 14 i = M0 14 i := by rw [eMi, mset_s, fmp_at]
      refine lv_iload_n hx hb dX9_storm_43 rfl (lv_at hl 2 rfl) ?_
      refine lv_aload_n hx hb dX9_storm_44 rfl (lv_at hl 0 rfl) ?_
      refine g_10_1 hx hb hts (by decide +kernel) hown hw hro.1 (hts (.fieldLink RX9 118 "PirateindexModel" "finds" "I") (by decide +kernel)) dX9_storm_45 ?_
      rw [show I0 1001 o = Z0 1 from his.1 1 (by decide)]
      rw [hz1]
      refine lv_icmp_ge (tgt := 83) hx hb dX9_storm_48 (by decide) (fun c_48 => ?_) (fun c_48 => ?_)
      · skip
        rw [nI_leI (by omega) (by omega)] at c_48
        have hi : i = nf := by omega
        subst hi
        refine lv_aload_n hx hb dX9_storm_83 rfl (lv_at hl 0 rfl) ?_
        refine m_ci (va_runV (As := []) (rest := []) ⟨hx, hb, hml, hown, hts⟩ (c_X9_lost l (Z := Z0) (M := Mi) (th := 0)  hro (r_st_self his) hz1 hn) (cwV 0 hts gX9_storm_X9_lost rfl rfl rfl (by decide +kernel) ⟨Nat.le_of_ble_eq_true rfl, Nat.le_of_ble_eq_true rfl⟩) ⟨m_blind m_B_calling, m_recv hw (m_ent_10 hro.1) rfl, fun U hU hW => ⟨rfl, m_wo_call hw hU hW⟩⟩ rfl rfl hl.1 rfl (lv_room (Nat.le_of_ble_eq_true rfl)) dX9_storm_84 ⟨Nat.le_of_ble_eq_true rfl, Nat.le_of_ble_eq_true rfl⟩) hw (fun r_84 u_84 H locs hp_84 hw => ?_)
        obtain rfl : r_84 = (nI (o_lost Z0 Mi)) := hp_84
        exact W.iret (v := (nI (o_lost Z0 Mi))) hx hb hr (fun t ht hW => ⟨⟨(nI (o_lost Z0 Mi)), (I0, Aa), rfl, (by have ht : t_storm Z M v = 0 := (by simp [t_storm, q_10, c_19, o_seg, show zn Z 3 = sg from by unfold zn; rw [hsg]; exact nI_clamp (by omega)]); have e9 : (Z0, Mi) = p_storm (Z, M) v := (by unfold p_storm; rw [eMi, h14, eZ0, eM0, show zn Z 1 = i from by unfold zn; rw [hnf]; exact nI_clamp (by omega)]; simp only [eZ_9, eM_10]); rw [ht, if_pos rfl, ← e9]; exact ⟨his, fun _ => rfl⟩), m_wo_out hw ht hW.alike⟩, m_wo_F hw ht⟩) (m_wo_L hw) dX9_storm_87
      · skip
        rw [nI_leI (by omega) (by omega)] at c_48
        have hi : i < nf := by omega
        refine lv_aload_n hx hb dX9_storm_51 rfl (lv_at hl 0 rfl) ?_
        refine g_10_14 (r := some (ad 14)) hx hb hts (by decide +kernel) hown hw hro.1 (hts (.fieldLink RX9 32 "PirateindexModel" "within" "[I") (by decide +kernel)) (hro.2.1 14 rfl).1 dX9_storm_52 ?_
        refine lv_iload_n hx hb dX9_storm_55 rfl (lv_at hl 2 rfl) ?_
        refine lv_aload_n hx hb dX9_storm_56 rfl (lv_at hl 0 rfl) ?_
        refine g_10_14 (r := some (ad 14)) hx hb hts (by decide +kernel) hown hw hro.1 (hts (.fieldLink RX9 32 "PirateindexModel" "within" "[I") (by decide +kernel)) (hro.2.1 14 rfl).1 dX9_storm_57 ?_
        refine lv_iload_n hx hb dX9_storm_60 rfl (lv_at hl 2 rfl) ?_
        refine m_iaload_20 hx hb hw (hro.2.1 14 rfl).2.1 (r_in hro 14 rfl (n := 120) rfl (by omega)) dX9_storm_61 ?_
        rw [show Aa (ad 14) = Mi 14 from his.2.1 14 rfl]
        rw [nI_clamp (show i < 2 ^ 31 by omega)]
        refine lv_iload_n hx hb dX9_storm_62 rfl (lv_at hl 1 rfl) ?_
        refine lv_icmp_ne (tgt := 70) hx hb dX9_storm_63 (by decide) (fun c_63 => ?_) (fun c_63 => ?_)
        · skip
          have h_c : ¬ M0 14 i = v := by rw [← hat9]; exact c_63
          refine lv_aload_n hx hb dX9_storm_70 rfl (lv_at hl 0 rfl) ?_
          refine g_10_14 (r := some (ad 14)) hx hb hts (by decide +kernel) hown hw hro.1 (hts (.fieldLink RX9 32 "PirateindexModel" "within" "[I") (by decide +kernel)) (hro.2.1 14 rfl).1 dX9_storm_71 ?_
          refine lv_iload_n hx hb dX9_storm_74 rfl (lv_at hl 2 rfl) ?_
          refine m_iaload_20 hx hb hw (hro.2.1 14 rfl).2.1 (r_in hro 14 rfl (n := 120) rfl (by omega)) dX9_storm_75 ?_
          rw [show Aa (ad 14) = Mi 14 from his.2.1 14 rfl]
          rw [nI_clamp (show i < 2 ^ 31 by omega)]
          rw [hat9]
          refine m_iastore_20 hx hb hw (hro.2.1 14 rfl).2.1 (r_in hro 14 rfl (n := 120) rfl (by omega))  dX9_storm_76 (fun H locs hw => ?_)
          obtain ⟨A_11, eA_11⟩ : ∃ z, z = m_up Aa (ad 14) (upd (Aa (ad 14)) (nI i).toNatClampNeg (M0 14 i)) := ⟨_, rfl⟩
          rw [← eA_11] at hw
          obtain ⟨M_12, eM_12⟩ : ∃ z, z = m1 Mi 14 i (M0 14 i) := ⟨_, rfl⟩
          have his : r_st K o ad I A I0 A_11 Z0 M_12 0 := by rw [eA_11, eM_12, nI_clamp (show i < 2 ^ 31 by omega)]; exact r_st_m his hro 14 rfl i (M0 14 i)
          refine lv_iinc (v := nI (i + 1)) (lv' := [(2, .int (nI (i + 1))), (0, .ref o), (1, .int v)]) hx hb dX9_storm_77 hl (k := 2) rfl (nI_1 _) (by decide) rfl (fun ls hl => ?_)
          refine lv_goto (tgt := 43) hx hb dX9_storm_80 (by decide) ?_
          exact ih (i + 1, A_11) _ _ _ (by dsimp only; omega) ⟨⟨by omega, by rw [← fmp_step, ← mset_m1, ← eMi]; rw [eM_12] at his; simpa [h_c] using his⟩, hw, lv_sub hl [1, 2, 0] rfl⟩
        · skip
          have h_c : M0 14 i = v := by rw [← hat9]; exact c_63
          refine lv_iconst (v := (-1)) hx hb dX9_storm_66 (by decide) ?_
          refine lv_goto (tgt := 76) hx hb dX9_storm_67 (by decide) ?_
          refine m_iastore_20 hx hb hw (hro.2.1 14 rfl).2.1 (r_in hro 14 rfl (n := 120) rfl (by omega))  dX9_storm_76 (fun H locs hw => ?_)
          obtain ⟨A_13, eA_13⟩ : ∃ z, z = m_up Aa (ad 14) (upd (Aa (ad 14)) (nI i).toNatClampNeg (-1)) := ⟨_, rfl⟩
          rw [← eA_13] at hw
          obtain ⟨M_14, eM_14⟩ : ∃ z, z = m1 Mi 14 i (-1) := ⟨_, rfl⟩
          have his : r_st K o ad I A I0 A_13 Z0 M_14 0 := by rw [eA_13, eM_14, nI_clamp (show i < 2 ^ 31 by omega)]; exact r_st_m his hro 14 rfl i (-1)
          refine lv_iinc (v := nI (i + 1)) (lv' := [(2, .int (nI (i + 1))), (0, .ref o), (1, .int v)]) hx hb dX9_storm_77 hl (k := 2) rfl (nI_1 _) (by decide) rfl (fun ls hl => ?_)
          refine lv_goto (tgt := 43) hx hb dX9_storm_80 (by decide) ?_
          exact ih (i + 1, A_13) _ _ _ (by dsimp only; omega) ⟨⟨by omega, by rw [← fmp_step, ← mset_m1, ← eMi]; rw [eM_14] at his; simpa [h_c] using his⟩, hw, lv_sub hl [1, 2, 0] rfl⟩

