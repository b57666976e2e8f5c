theorem nI_nm1 {n : Nat} (h : n < 2 ^ 31) : ¬ nI n = -1 := fun q => by
  have h9 : (nI n).toInt = (-1 : Int32).toInt := congrArg Int32.toInt q
  rw [nI_toInt h, show (-1 : Int32).toInt = -1 from by decide] at h9
  omega
theorem o_rank_or (Z : mZ) (M : mM) (nf ni nt sh : Nat) (pl : Int32) : ∀ n, o_rank Z M nf ni nt sh pl n = -1 ∨ ∃ t, t < n ∧ o_rank Z M nf ni nt sh pl n = nI t
  | 0 => Or.inl rfl
  | n + 1 => by
    simp only [o_rank]
    split
    · rcases o_rank_or Z M nf ni nt sh pl n with h | ⟨t, ht, h⟩
      · exact Or.inl h
      · exact Or.inr ⟨t, by omega, h⟩
    · split
      · exact Or.inr ⟨n, by omega, rfl⟩
      · rcases o_rank_or Z M nf ni nt sh pl n with h | ⟨t, ht, h⟩
        · exact Or.inl h
        · exact Or.inr ⟨t, by omega, h⟩
def o_kcp (sh : Nat) (M : mM) : Nat → mM
  | 0 => M
  | k + 1 => m1 (m1 (o_kcp sh M k) 23 (4 * sh + k) (o_kcp sh M k 25 k)) 24 (4 * sh + k) (o_kcp sh M k 26 k)
theorem o_sc_z1 {Z Z' : mZ} {M M' : mM} (h : o_sc (Z, M) (Z', M')) (j : Nat) (v : Int32) : o_sc (z1 Z j v, M) (z1 Z' j v, M') := by
  refine ⟨fun i a => ?_, h.2⟩
  have h9 := h.1 i a
  show z1 Z' j v i = z1 Z j v i
  unfold z1
  split
  · rfl
  · exact h9
theorem o_sc_kcp {Z Z' : mZ} {M M' : mM} (h : o_sc (Z, M) (Z', M')) (sh : Nat) : ∀ k, o_sc (Z, o_kcp sh M k) (Z', o_kcp sh M' k)
  | 0 => h
  | k + 1 => by
    have ih := o_sc_kcp h sh k
    have h25 : o_kcp sh M' k 25 = o_kcp sh M k 25 := ih.2 25 (by decide) (by decide) (by decide) (by decide)
    have h26 : o_kcp sh M' k 26 = o_kcp sh M k 26 := ih.2 26 (by decide) (by decide) (by decide) (by decide)
    simp only [o_kcp]
    rw [h25, h26]
    exact o_sc_m1 (o_sc_m1 ih _ _ _) _ _ _
theorem o_sc_bl {Z Z' : mZ} {M M' : mM} (h : o_sc (Z, M) (Z', M')) (ch : Int32) : o_sc (o_blames (z1 Z 31 0, M) true ch) (o_blames (z1 Z' 31 0, M') true ch) := by
  have h1 := o_sc_m1 (o_sc_z1 (o_sc_z1 h 31 0) 31 (z1 Z 31 0 31 + 1)) 32 (zn (z1 Z 31 0) 31) ch
  exact h1
def o_goal (Z : mZ) (M : mM) (nf ni nt sh : Nat) : Int32 := o_rank Z M nf ni nt sh 0 ni
def o_cost (M : mM) (sh t : Nat) : Nat := o_root (o_far M sh t).toNatClampNeg
def t_sail0 (M : mM) (sh : Nat) (q : Int32) : Int32 := if q = -1 then 3 else if M 19 sh < nI (o_cost M sh q.toNatClampNeg) then 4 else 0
def t_sail (Z : mZ) (M : mM) (nf ni nt : Nat) (v : Int32) : Int32 := if o_shp Z v = true then (if 0 < Z 29 then t_sail0 M v.toNatClampNeg (o_goal Z M nf ni nt v.toNatClampNeg) else 2) else 1
def p_sail0 (Z : mZ) (M : mM) (sh t : Nat) : mS := (z1 Z 29 0, o_kcp sh (m1 (m1 (m1 (m1 (m1 M 19 sh (M 19 sh - nI (o_cost M sh t))) 20 sh (M 18 sh)) 18 sh (nI t)) 21 sh (-1)) 22 sh (Z 29)) (zn Z 29))
def p_sail (Z : mZ) (M : mM) (nf ni nt : Nat) (v : Int32) : mS := if t_sail Z M nf ni nt v = 0 then p_sail0 Z M v.toNatClampNeg (o_goal Z M nf ni nt v.toNatClampNeg).toNatClampNeg else if t_sail Z M nf ni nt v = 3 then o_blames (z1 Z 31 0, M) true 104 else if t_sail Z M nf ni nt v = 4 then o_blames (z1 Z 31 0, M) true 99 else (Z, M)
theorem o_far_sc {Z Z' : mZ} {M M' : mM} (h : o_sc (Z, M) (Z', M')) (s t : Nat) : o_far M' s t = o_far M s t := by
  unfold o_far
  rw [show M' 7 = M 7 from h.2 7 (by decide) (by decide) (by decide) (by decide), show M' 8 = M 8 from h.2 8 (by decide) (by decide) (by decide) (by decide), show M' 18 = M 18 from h.2 18 (by decide) (by decide) (by decide) (by decide)]
set_option maxHeartbeats 1600000 in
set_option maxRecDepth 100000 in
theorem c_X9_sail (l : Launch) {G : mG} {K : Nat → Nat} {I : Nat → Nat → Int32} {R : Nat → Nat → Option Nat} {F : Nat → UInt32} {A : Nat → Nat → Int32} {N : Nat → Nat} {L : Nat → List Nat} {T : Nat → List Int32} {J : Nat → Nat → Int64} {D : Nat → Nat → UInt64} {o : Nat} {ad : Nat → Nat} {Z : Nat → Int32} {M : Nat → Nat → Int32} {th : Int32} {nf ni nt ns : Nat} (v : Int32) (hro : r_ok K R N o ad) (hz : r_st K o ad I A I A Z M th) (hnf : Z 1 = nI nf) (hn : nf ≤ 120) (hni : Z 0 = nI ni) (hn12 : ni ≤ 12) (hnt : Z 29 = nI nt) (h4t : nt ≤ 4) (hgt : ∀ k, 1 ≤ k → k < nt → ∃ g, g ≤ 9 ∧ M 26 k = nI g) (hlt : ∀ i : Int32, o_hitT Z M i < 2 ^ 31) (hns : Z 2 = nI ns) (hn5 : ns ≤ 5) (hne : 0 < Z 29 → o_nan (o_askT (Z, M)).1 (o_askT (Z, M)).2 nf ni nt) (hw9 : ∀ s, s < ns → o_shW M s) (hfr : ∀ s t, s < ns → t < ni → ∃ n, n < 30000 ∧ o_far M s t = nI n) : Met l yX9_sail wsX9_sail ({ frames := 7, cells := 0, slots := 0, locals := 220 } : Room) (va_Pc [.ref o, .int v] (m_B G K I R F A N L T J D)) (va_Qi (fun (r : Int32) (u : (Nat → Nat → Int32) × (Nat → Nat → Int32)) => (∃ (Z' : Nat → Int32) (M' : Nat → Nat → Int32), r_st K o ad I A u.1 u.2 Z' M' (t_sail Z M nf ni nt v) ∧ o_sc (p_sail Z M nf ni nt v) (Z', M')) ∧ (t_sail Z M nf ni nt v = 0 → r = o_goal Z M nf ni nt v.toNatClampNeg)) (fun u : (Nat → Nat → Int32) × (Nat → Nat → Int32) => m_B G K (u.1) R F (u.2) N L T J D) (m_A G)) 0 0 (m_A G) := by
  refine Met.ofW (cc := cX9_sail) (maxL := 6) (ret := (some .int)) (by decide) rfl ?_
  intro p e s m args below meth c s₁ B hml hv
  obtain ⟨rfl, hB⟩ := hv
  have hx := B.exec
  have hb := B.bytes
  have hr := B.returns
  have hts := atoms_spec (ws := wsX9_sail) B.pre
  have hown : s.vm.findClass RX9 = some m.cls := findClass_of_methodNamed B.named
  have hlocks := B.notSynchronized
  have hw := m_wo_in hB
  have hl := lv_entry ([.ref o, .int v]) (n := 6) (Nat.le_of_ble_eq_true rfl)
  rw [lg_entry_eq]
  generalize (lg_sl ([.ref o, .int v]) ++ List.replicate (6 - (lg_sl ([.ref o, .int v])).length) Slot.unset).toArray = ls at hl ⊢
  have hl : lv_has ls 6 [(0, .ref o), (1, .int v)] := hl
  have his := hz
  refine lv_aload_n hx hb dX9_sail_0 rfl (lv_at hl 0 rfl) ?_
  refine lv_aload_n hx hb dX9_sail_1 rfl (lv_at hl 0 rfl) ?_
  refine lv_iload_n hx hb dX9_sail_2 rfl (lv_at hl 1 rfl) ?_
  refine m_ci (va_runV (As := [.int v]) (rest := [.ref o]) ⟨hx, hb, hml, hown, hts⟩ (c_X9_isShip l (Z := Z) (M := M) (th := th) v hro (r_st_self his) ) (cwV 1 hts gX9_sail_X9_isShip rfl rfl rfl (by decide +kernel) ⟨Nat.le_of_ble_eq_true rfl, Nat.le_of_ble_eq_true rfl⟩) ⟨m_blind m_B_calling, m_recv hw (m_ent_10 hro.1) rfl, fun U hU hW => ⟨rfl, m_wo_call hw hU hW⟩⟩ rfl rfl hl.1 rfl (lv_room (Nat.le_of_ble_eq_true rfl)) dX9_sail_3 ⟨Nat.le_of_ble_eq_true rfl, Nat.le_of_ble_eq_true rfl⟩) hw (fun r_3 u_3 H locs hp_3 hw => ?_)
  obtain rfl : r_3 = (b2i (o_shp Z v)) := hp_3
  refine lv_iconst (v := 1) hx hb dX9_sail_6 (by decide) ?_
  refine m_ci (va_runV (As := [.int (b2i (o_shp Z v)), .int 1]) (rest := []) ⟨hx, hb, hml, hown, hts⟩ (c_X9_no l (Z := Z) (M := M) (th := th) (o_shp Z v) 1 hro (r_st_self his) ) (cwV 2 hts gX9_sail_X9_no rfl rfl rfl (by decide +kernel) ⟨Nat.le_of_ble_eq_true rfl, Nat.le_of_ble_eq_true rfl⟩) ⟨m_blind m_B_calling, m_recv hw (m_ent_10 hro.1) rfl, fun U hU hW => ⟨rfl, m_wo_call hw hU hW⟩⟩ rfl rfl hl.1 rfl (lv_room (Nat.le_of_ble_eq_true rfl)) dX9_sail_7 ⟨Nat.le_of_ble_eq_true rfl, Nat.le_of_ble_eq_true rfl⟩) hw (fun r_7 u_7 H locs hp_7 hw => ?_)
  obtain ⟨I_1, A_2⟩ := u_7
  have hw : m_wo G K I_1 R F A_2 N L T J D s H locs := hw
  dsimp only at hp_7
  have his := r_st_tr his hp_7.1
  obtain rfl : r_7 = (b2i (!(o_shp Z v))) := hp_7.2
  refine lv_if_ne (tgt := 33) hx hb dX9_sail_10 (by decide) (fun c_10 => ?_) (fun c_10 => ?_)
  · skip
    have q_10 : (o_shp Z v) = false := by first | (have := (b2i_ne _).mp c_10; simpa using this) | (have := (b2i_eq _).mp c_10; simpa using this)
    refine lv_iconst (v := 0) hx hb dX9_sail_33 (by decide) ?_
    exact W.iret (v := 0) hx hb hr (fun t ht hW => ⟨⟨0, (I_1, A_2), rfl, (by have ht : t_sail Z M nf ni nt v = 1 := (by simp [t_sail, q_10]); have hth : ((if (o_shp Z v) then 0 else 1) : Int32) = 1 := (by first | rfl | simp [q_10]); rw [hth] at his; unfold p_sail; rw [ht]; exact ⟨⟨Z, M, his, o_sc_rf _⟩, fun h => absurd h (by decide)⟩), m_wo_out hw ht hW.alike⟩, m_wo_F hw ht⟩) (m_wo_L hw) dX9_sail_34
  · skip
    have q_10 : (o_shp Z v) = true := by first | (have := (b2i_ne _).mp c_10; simpa using this) | (have := (b2i_eq _).mp c_10; simpa using this)
    refine lv_aload_n hx hb dX9_sail_13 rfl (lv_at hl 0 rfl) ?_
    refine lv_aload_n hx hb dX9_sail_14 rfl (lv_at hl 0 rfl) ?_
    refine g_10_29 hx hb hts (by decide +kernel) hown hw hro.1 (hts (.fieldLink RX9 170 "PirateindexModel" "typed" "I") (by decide +kernel)) dX9_sail_15 ?_
    rw [show I_1 1029 o = Z 29 from his.1 29 (by decide)]
    refine lv_if_le (tgt := 25) hx hb dX9_sail_18 (by decide) (fun c_18 => ?_) (fun c_18 => ?_)
    · skip
      have htp : ¬ 0 < Z 29 := Int32.not_lt.mpr c_18
      refine lv_iconst (v := 0) hx hb dX9_sail_25 (by decide) ?_
      refine lv_iconst (v := 2) hx hb dX9_sail_26 (by decide) ?_
      refine m_ci (va_runV (As := [.int 0, .int 2]) (rest := []) ⟨hx, hb, hml, hown, hts⟩ (c_X9_no l (Z := Z) (M := M) (th := (if (o_shp Z v) then 0 else 1)) false 2 hro (r_st_self his) ) (cwV 2 hts gX9_sail_X9_no rfl rfl rfl (by decide +kernel) ⟨Nat.le_of_ble_eq_true rfl, Nat.le_of_ble_eq_true rfl⟩) ⟨m_blind m_B_calling, m_recv hw (m_ent_10 hro.1) rfl, fun U hU hW => ⟨rfl, m_wo_call hw hU hW⟩⟩ rfl rfl hl.1 rfl (lv_room (Nat.le_of_ble_eq_true rfl)) dX9_sail_27 ⟨Nat.le_of_ble_eq_true rfl, Nat.le_of_ble_eq_true rfl⟩) hw (fun r_27 u_27 H locs hp_27 hw => ?_)
      obtain ⟨I_3, A_4⟩ := u_27
      have hw : m_wo G K I_3 R F A_4 N L T J D s H locs := hw
      dsimp only at hp_27
      have his := r_st_tr his hp_27.1
      obtain rfl : r_27 = (b2i (!false)) := hp_27.2
      refine lv_if_eq (tgt := 35) hx hb dX9_sail_30 (by decide) (fun c_30 => absurd c_30 (by decide)) (fun c_30 => ?_)
      refine lv_iconst (v := 0) hx hb dX9_sail_33 (by decide) ?_
      exact W.iret (v := 0) hx hb hr (fun t ht hW => ⟨⟨0, (I_3, A_4), rfl, (by have ht : t_sail Z M nf ni nt v = 2 := (by simp [t_sail, q_10, htp]); have hth : (2 : Int32) = 2 := (by first | rfl | simp [q_10, htp]); rw [hth] at his; unfold p_sail; rw [ht]; exact ⟨⟨Z, M, his, o_sc_rf _⟩, fun h => absurd h (by decide)⟩), m_wo_out hw ht hW.alike⟩, m_wo_F hw ht⟩) (m_wo_L hw) dX9_sail_34
    · skip
      have htp : 0 < Z 29 := Int32.not_le.mp c_18
      refine lv_iconst (v := 1) hx hb dX9_sail_21 (by decide) ?_
      refine lv_goto (tgt := 26) hx hb dX9_sail_22 (by decide) ?_
      refine lv_iconst (v := 2) hx hb dX9_sail_26 (by decide) ?_
      refine m_ci (va_runV (As := [.int 1, .int 2]) (rest := []) ⟨hx, hb, hml, hown, hts⟩ (c_X9_no l (Z := Z) (M := M) (th := (if (o_shp Z v) then 0 else 1)) true 2 hro (r_st_self his) ) (cwV 2 hts gX9_sail_X9_no rfl rfl rfl (by decide +kernel) ⟨Nat.le_of_ble_eq_true rfl, Nat.le_of_ble_eq_true rfl⟩) ⟨m_blind m_B_calling, m_recv hw (m_ent_10 hro.1) rfl, fun U hU hW => ⟨rfl, m_wo_call hw hU hW⟩⟩ rfl rfl hl.1 rfl (lv_room (Nat.le_of_ble_eq_true rfl)) dX9_sail_27 ⟨Nat.le_of_ble_eq_true rfl, Nat.le_of_ble_eq_true rfl⟩) hw (fun r_27 u_27 H locs hp_27 hw => ?_)
      obtain ⟨I_5, A_6⟩ := u_27
      have hw : m_wo G K I_5 R F A_6 N L T J D s H locs := hw
      dsimp only at hp_27
      have his := r_st_tr his hp_27.1
      obtain rfl : r_27 = (b2i (!true)) := hp_27.2
      refine lv_if_eq (tgt := 35) hx hb dX9_sail_30 (by decide) (fun c_30 => ?_) (fun c_30 => absurd (by decide) c_30)
      have hisK := his
      obtain ⟨i, hi, rfl⟩ := o_shp_nat q_10 hns (by omega)
      have his := hisK
      obtain ⟨⟨q, hq12, hat⟩, _⟩ := hw9 i hi
      have hci : (nI i).toNatClampNeg = i := nI_clamp (by omega)
      refine lv_aload_n hx hb dX9_sail_35 rfl (lv_at hl 0 rfl) ?_
      refine lv_iload_n hx hb dX9_sail_36 rfl (lv_at hl 1 rfl) ?_
      refine lv_iconst (v := 0) hx hb dX9_sail_37 (by decide) ?_
      refine m_ci (va_runV (As := [.int (nI i), .int 0]) (rest := []) ⟨hx, hb, hml, hown, hts⟩ (c_X9_ranked l (Z := Z) (M := M) (th := 0) i 0 hro (r_st_self his) hnf hn hni hn12 hnt h4t hgt hlt (hne htp) (by omega) hat hq12 htp) (cwV 2 hts gX9_sail_X9_ranked rfl rfl rfl (by decide +kernel) ⟨Nat.le_of_ble_eq_true rfl, Nat.le_of_ble_eq_true rfl⟩) ⟨m_blind m_B_calling, m_recv hw (m_ent_10 hro.1) rfl, fun U hU hW => ⟨rfl, m_wo_call hw hU hW⟩⟩ rfl rfl hl.1 rfl (lv_room (Nat.le_of_ble_eq_true rfl)) dX9_sail_38 ⟨Nat.le_of_ble_eq_true rfl, Nat.le_of_ble_eq_true rfl⟩) hw (fun r_38 u_38 H locs hp_38 hw => ?_)
      obtain ⟨I_7, A_8⟩ := u_38
      have hw : m_wo G K I_7 R F A_8 N L T J D s H locs := hw
      dsimp only at hp_38
      obtain ⟨⟨Z_9, M_10, hiM_10, hsM_10⟩, hrM_10⟩ := hp_38
      have his := r_st_tr his hiM_10
      obtain rfl : r_38 = (o_rank Z M nf ni nt i 0 ni) := hrM_10
      rcases o_rank_or Z M nf ni nt i 0 ni with hq | ⟨t9, ht, hq⟩
      · skip
        rw [hq]
        have ht3 : t_sail Z M nf ni nt (nI i) = 3 := by unfold t_sail; rw [if_pos q_10, if_pos htp, hci, show o_goal Z M nf ni nt i = -1 from hq]; rfl
        refine lv_istore_n (lv' := [(2, .int (-1)), (0, .ref o), (1, .int (nI i))]) hx hb dX9_sail_41 rfl hl (by decide) rfl (fun ls hl => ?_)
        refine lv_iload_n hx hb dX9_sail_42 rfl (lv_at hl 0 rfl) ?_
        refine lv_iconst (v := (-1)) hx hb dX9_sail_43 (by decide) ?_
        refine lv_icmp_ne (tgt := 51) hx hb dX9_sail_44 (by decide) (fun c_44 => absurd rfl c_44) (fun c_44 => ?_)
        refine lv_iconst (v := 0) hx hb dX9_sail_47 (by decide) ?_
        refine lv_goto (tgt := 60) hx hb dX9_sail_48 (by decide) ?_
        refine lv_istore_n (lv' := [(3, .int 0), (2, .int (-1)), (0, .ref o), (1, .int (nI i))]) hx hb dX9_sail_60 rfl hl (by decide) rfl (fun ls hl => ?_)
        refine lv_iload_n hx hb dX9_sail_61 rfl (lv_at hl 1 rfl) ?_
        refine lv_iconst (v := (-1)) hx hb dX9_sail_62 (by decide) ?_
        refine lv_icmp_eq (tgt := 80) hx hb dX9_sail_63 (by decide) (fun c_63 => ?_) (fun c_63 => absurd rfl c_63)
        refine lv_iconst (v := 0) hx hb dX9_sail_80 (by decide) ?_
        refine lv_istore (lv' := [(4, .int 0), (3, .int 0), (2, .int (-1)), (0, .ref o), (1, .int (nI i))]) hx hb dX9_sail_81 hl (by decide) rfl (fun ls hl => ?_)
        refine lv_iload_n hx hb dX9_sail_83 rfl (lv_at hl 2 rfl) ?_
        refine lv_iconst (v := (-1)) hx hb dX9_sail_84 (by decide) ?_
        refine lv_icmp_eq (tgt := 93) hx hb dX9_sail_85 (by decide) (fun c_85 => ?_) (fun c_85 => absurd rfl c_85)
        refine lv_aload_n hx hb dX9_sail_93 rfl (lv_at hl 3 rfl) ?_
        refine lv_iconst (v := 0) hx hb dX9_sail_94 (by decide) ?_
        refine p_10_31 hx hb hts (by decide +kernel) hown hw hro.1 (hts (.fieldLink RX9 151 "PirateindexModel" "causes" "I") (by decide +kernel)) dX9_sail_95 (fun H locs hw => ?_)
        obtain ⟨I_11, eI_11⟩ : ∃ z, z = m_up2 I_7 1031 o 0 := ⟨_, rfl⟩
        rw [← eI_11] at hw
        obtain ⟨Z_12, eZ_12⟩ : ∃ z, z = z1 Z_9 31 0 := ⟨_, rfl⟩
        have his : r_st K o ad I A I_11 A_8 Z_12 M_10 0 := by rw [eI_11, eZ_12]; exact r_st_z his 31 0 hro.1 (by decide)
        refine lv_aload_n hx hb dX9_sail_98 rfl (lv_at hl 3 rfl) ?_
        refine lv_iconst (v := 1) hx hb dX9_sail_99 (by decide) ?_
        refine lv_iload hx hb dX9_sail_100 (lv_at hl 0 rfl) ?_
        refine lv_if_eq (tgt := 110) hx hb dX9_sail_102 (by decide) (fun c_102 => ?_) (fun c_102 => absurd (by decide) c_102)
        refine lv_bipush (v := 104) hx hb dX9_sail_110 (by decide) ?_
        refine m_cv (va_runV (As := [.int 1, .int 104]) (rest := []) ⟨hx, hb, hml, hown, hts⟩ (c_X9_blames l (Z := Z_12) (M := M_10) (th := 0) true 104 hro (r_st_self his) (by decide) (fun _ => ⟨0, by decide, by rw [eZ_12]; exact z1_s _ _ _⟩)) (cwV 2 hts gX9_sail_X9_blames rfl rfl rfl (by decide +kernel) ⟨Nat.le_of_ble_eq_true rfl, Nat.le_of_ble_eq_true rfl⟩) ⟨m_blind m_B_calling, m_recv hw (m_ent_10 hro.1) rfl, fun U hU hW => ⟨rfl, m_wo_call hw hU hW⟩⟩ rfl rfl hl.1 rfl (lv_room (Nat.le_of_ble_eq_true rfl)) dX9_sail_112 ⟨Nat.le_of_ble_eq_true rfl, Nat.le_of_ble_eq_true rfl⟩) hw (fun u_112 H locs hp_112 hw => ?_)
        obtain ⟨I_13, A_14⟩ := u_112
        have hw : m_wo G K I_13 R F A_14 N L T J D s H locs := hw
        dsimp only at hp_112
        have his := r_st_tr his hp_112.1
        obtain ⟨Z_15, eZ_15⟩ : ∃ z : Nat → Int32, z = (o_blames (Z_12, M_10) true 104).1 := ⟨_, rfl⟩
        rw [← eZ_15] at his
        obtain ⟨M_16, eM_16⟩ : ∃ z : Nat → Nat → Int32, z = (o_blames (Z_12, M_10) true 104).2 := ⟨_, rfl⟩
        rw [← eM_16] at his
        refine lv_aload_n hx hb dX9_sail_115 rfl (lv_at hl 3 rfl) ?_
        refine lv_iload_n hx hb dX9_sail_116 rfl (lv_at hl 2 rfl) ?_
        refine lv_iconst (v := (-1)) hx hb dX9_sail_117 (by decide) ?_
        refine lv_icmp_eq (tgt := 125) hx hb dX9_sail_118 (by decide) (fun c_118 => ?_) (fun c_118 => absurd rfl c_118)
        refine lv_iconst (v := 0) hx hb dX9_sail_125 (by decide) ?_
        refine lv_iconst (v := 3) hx hb dX9_sail_126 (by decide) ?_
        refine m_ci (va_runV (As := [.int 0, .int 3]) (rest := []) ⟨hx, hb, hml, hown, hts⟩ (c_X9_no l (Z := Z_15) (M := M_16) (th := 0) false 3 hro (r_st_self his) ) (cwV 2 hts gX9_sail_X9_no rfl rfl rfl (by decide +kernel) ⟨Nat.le_of_ble_eq_true rfl, Nat.le_of_ble_eq_true rfl⟩) ⟨m_blind m_B_calling, m_recv hw (m_ent_10 hro.1) rfl, fun U hU hW => ⟨rfl, m_wo_call hw hU hW⟩⟩ rfl rfl hl.1 rfl (lv_room (Nat.le_of_ble_eq_true rfl)) dX9_sail_127 ⟨Nat.le_of_ble_eq_true rfl, Nat.le_of_ble_eq_true rfl⟩) hw (fun r_127 u_127 H locs hp_127 hw => ?_)
        obtain ⟨I_17, A_18⟩ := u_127
        have hw : m_wo G K I_17 R F A_18 N L T J D s H locs := hw
        dsimp only at hp_127
        have his := r_st_tr his hp_127.1
        obtain rfl : r_127 = (b2i (!false)) := hp_127.2
        refine lv_if_ne (tgt := 151) hx hb dX9_sail_130 (by decide) (fun c_130 => ?_) (fun c_130 => absurd c_130 (by decide))
        refine lv_iconst (v := 0) hx hb dX9_sail_151 (by decide) ?_
        exact W.iret (v := 0) hx hb hr (fun t ht hW => ⟨⟨0, (I_17, A_18), rfl, (by unfold p_sail; rw [ht3, if_neg (by decide), if_pos rfl]; refine ⟨⟨Z_15, M_16, his, ?_⟩, fun h => absurd h (by decide)⟩; have h9 := o_sc_bl hsM_10 104; simpa only [eZ_12, eZ_15, eM_16] using h9), m_wo_out hw ht hW.alike⟩, m_wo_F hw ht⟩) (m_wo_L hw) dX9_sail_152
      · skip
        rw [hq]
        obtain ⟨n9, hn9, hfar⟩ := hfr i t9 hi ht
        have hc9 : o_cost M i t9 = o_root n9 := by unfold o_cost; rw [hfar, nI_clamp (by omega)]
        have htg : t_sail Z M nf ni nt (nI i) = if M 19 i < nI (o_root n9) then 4 else 0 := by unfold t_sail t_sail0; rw [if_pos q_10, if_pos htp, hci, show o_goal Z M nf ni nt i = nI t9 from hq, if_neg (nI_nm1 (by omega)), nI_clamp (by omega), hc9]
        refine lv_istore_n (lv' := [(2, .int (nI t9)), (0, .ref o), (1, .int (nI i))]) hx hb dX9_sail_41 rfl hl (by decide) rfl (fun ls hl => ?_)
        refine lv_iload_n hx hb dX9_sail_42 rfl (lv_at hl 0 rfl) ?_
        refine lv_iconst (v := (-1)) hx hb dX9_sail_43 (by decide) ?_
        refine lv_icmp_ne (tgt := 51) hx hb dX9_sail_44 (by decide) (fun c_44 => ?_) (fun c_44 => absurd c_44 (nI_nm1 (by omega)))
        refine lv_aload_n hx hb dX9_sail_51 rfl (lv_at hl 1 rfl) ?_
        refine lv_iload_n hx hb dX9_sail_52 rfl (lv_at hl 2 rfl) ?_
        refine lv_iload_n hx hb dX9_sail_53 rfl (lv_at hl 0 rfl) ?_
        refine m_ci (va_runV (As := [.int (nI i), .int (nI t9)]) (rest := []) ⟨hx, hb, hml, hown, hts⟩ (c_X9_far l (Z := Z_9) (M := M_10) (th := 0) i t9 hro (r_st_self his) (by omega) (by omega) (by rw [(show M_10 18 = M 18 from hsM_10.2 18 (by decide) (by decide) (by decide) (by decide))]; exact hat) hq12) (cwV 2 hts gX9_sail_X9_far rfl rfl rfl (by decide +kernel) ⟨Nat.le_of_ble_eq_true rfl, Nat.le_of_ble_eq_true rfl⟩) ⟨m_blind m_B_calling, m_recv hw (m_ent_10 hro.1) rfl, fun U hU hW => ⟨rfl, m_wo_call hw hU hW⟩⟩ rfl rfl hl.1 rfl (lv_room (Nat.le_of_ble_eq_true rfl)) dX9_sail_54 ⟨Nat.le_of_ble_eq_true rfl, Nat.le_of_ble_eq_true rfl⟩) hw (fun r_54 u_54 H locs hp_54 hw => ?_)
        obtain rfl : r_54 = (o_far M_10 i t9) := hp_54
        rw [o_far_sc hsM_10, hfar]
        refine m_ci (va_runS (As := [.int (nI n9)]) (rest := []) ⟨hx, hb, hml, hown, hts⟩ (c_X9_root l n9 hn9) (va_cwS 1 hts gX9_sail_X9_root rfl rfl rfl (by decide +kernel) ⟨Nat.le_of_ble_eq_true rfl, Nat.le_of_ble_eq_true rfl⟩) ⟨m_blind m_B_calling, fun U hU hW => ⟨rfl, m_wo_call hw hU hW⟩⟩ rfl rfl hl.1 rfl (lv_room (Nat.le_of_ble_eq_true rfl)) dX9_sail_57 ⟨Nat.le_of_ble_eq_true rfl, Nat.le_of_ble_eq_true rfl⟩) hw (fun r_57 u_57 H locs hp_57 hw => ?_)
        obtain rfl : r_57 = nI (o_root n9) := hp_57
        refine lv_istore_n (lv' := [(3, .int (nI (o_root n9))), (2, .int (nI t9)), (0, .ref o), (1, .int (nI i))]) hx hb dX9_sail_60 rfl hl (by decide) rfl (fun ls hl => ?_)
        refine lv_iload_n hx hb dX9_sail_61 rfl (lv_at hl 1 rfl) ?_
        refine lv_iconst (v := (-1)) hx hb dX9_sail_62 (by decide) ?_
        refine lv_icmp_eq (tgt := 80) hx hb dX9_sail_63 (by decide) (fun c_63 => absurd c_63 (nI_nm1 (by omega))) (fun c_63 => ?_)
        refine lv_iload_n hx hb dX9_sail_66 rfl (lv_at hl 0 rfl) ?_
        refine lv_aload_n hx hb dX9_sail_67 rfl (lv_at hl 2 rfl) ?_
        refine g_10_19 (r := some (ad 19)) hx hb hts (by decide +kernel) hown hw hro.1 (hts (.fieldLink RX9 47 "PirateindexModel" "purse" "[I") (by decide +kernel)) (hro.2.1 19 rfl).1 dX9_sail_68 ?_
        refine lv_iload_n hx hb dX9_sail_71 rfl (lv_at hl 3 rfl) ?_
        refine m_iaload_20 hx hb hw (hro.2.1 19 rfl).2.1 (r_in hro 19 rfl (n := 5) rfl (by omega)) dX9_sail_72 ?_
        rw [show A_8 (ad 19) = M_10 19 from his.2.1 19 rfl]
        rw [nI_clamp (show i < 2 ^ 31 by omega)]
        rw [show M_10 19 i = (M 19 i) from by have h9 : M_10 19 = M 19 := (hsM_10.2 19 (by decide) (by decide) (by decide) (by decide)); simp [m1, h9]]
        refine lv_icmp_le (tgt := 80) hx hb dX9_sail_73 (by decide) (fun c_73 => ?_) (fun c_73 => ?_)
        · skip
          have hpo : ¬ M 19 i < nI (o_root n9) := Int32.not_lt.mpr c_73
          have ht3 : t_sail Z M nf ni nt (nI i) = 0 := by rw [htg, if_neg hpo]
          refine lv_iconst (v := 0) hx hb dX9_sail_80 (by decide) ?_
          refine lv_istore (lv' := [(4, .int 0), (3, .int (nI (o_root n9))), (2, .int (nI t9)), (0, .ref o), (1, .int (nI i))]) hx hb dX9_sail_81 hl (by decide) rfl (fun ls hl => ?_)
          refine lv_iload_n hx hb dX9_sail_83 rfl (lv_at hl 2 rfl) ?_
          refine lv_iconst (v := (-1)) hx hb dX9_sail_84 (by decide) ?_
          refine lv_icmp_eq (tgt := 93) hx hb dX9_sail_85 (by decide) (fun c_85 => absurd c_85 (nI_nm1 (by omega))) (fun c_85 => ?_)
          refine lv_iload hx hb dX9_sail_88 (lv_at hl 0 rfl) ?_
          refine lv_if_eq (tgt := 115) hx hb dX9_sail_90 (by decide) (fun c_90 => ?_) (fun c_90 => absurd (by decide) c_90)
          refine lv_aload_n hx hb dX9_sail_115 rfl (lv_at hl 3 rfl) ?_
          refine lv_iload_n hx hb dX9_sail_116 rfl (lv_at hl 2 rfl) ?_
          refine lv_iconst (v := (-1)) hx hb dX9_sail_117 (by decide) ?_
          refine lv_icmp_eq (tgt := 125) hx hb dX9_sail_118 (by decide) (fun c_118 => absurd c_118 (nI_nm1 (by omega))) (fun c_118 => ?_)
          refine lv_iconst (v := 1) hx hb dX9_sail_121 (by decide) ?_
          refine lv_goto (tgt := 126) hx hb dX9_sail_122 (by decide) ?_
          refine lv_iconst (v := 3) hx hb dX9_sail_126 (by decide) ?_
          refine m_ci (va_runV (As := [.int 1, .int 3]) (rest := []) ⟨hx, hb, hml, hown, hts⟩ (c_X9_no l (Z := Z_9) (M := M_10) (th := 0) true 3 hro (r_st_self his) ) (cwV 2 hts gX9_sail_X9_no rfl rfl rfl (by decide +kernel) ⟨Nat.le_of_ble_eq_true rfl, Nat.le_of_ble_eq_true rfl⟩) ⟨m_blind m_B_calling, m_recv hw (m_ent_10 hro.1) rfl, fun U hU hW => ⟨rfl, m_wo_call hw hU hW⟩⟩ rfl rfl hl.1 rfl (lv_room (Nat.le_of_ble_eq_true rfl)) dX9_sail_127 ⟨Nat.le_of_ble_eq_true rfl, Nat.le_of_ble_eq_true rfl⟩) hw (fun r_127 u_127 H locs hp_127 hw => ?_)
          obtain ⟨I_19, A_20⟩ := u_127
          have hw : m_wo G K I_19 R F A_20 N L T J D s H locs := hw
          dsimp only at hp_127
          have his := r_st_tr his hp_127.1
          obtain rfl : r_127 = (b2i (!true)) := hp_127.2
          refine lv_if_ne (tgt := 151) hx hb dX9_sail_130 (by decide) (fun c_130 => absurd (by decide) c_130) (fun c_130 => ?_)
          refine lv_aload_n hx hb dX9_sail_133 rfl (lv_at hl 3 rfl) ?_
          refine lv_iload hx hb dX9_sail_134 (lv_at hl 0 rfl) ?_
          refine lv_if_ne (tgt := 143) hx hb dX9_sail_136 (by decide) (fun c_136 => absurd (by decide) c_136) (fun c_136 => ?_)
          refine lv_iconst (v := 1) hx hb dX9_sail_139 (by decide) ?_
          refine lv_goto (tgt := 144) hx hb dX9_sail_140 (by decide) ?_
          refine lv_iconst (v := 4) hx hb dX9_sail_144 (by decide) ?_
          refine m_ci (va_runV (As := [.int 1, .int 4]) (rest := []) ⟨hx, hb, hml, hown, hts⟩ (c_X9_no l (Z := Z_9) (M := M_10) (th := 0) true 4 hro (r_st_self his) ) (cwV 2 hts gX9_sail_X9_no rfl rfl rfl (by decide +kernel) ⟨Nat.le_of_ble_eq_true rfl, Nat.le_of_ble_eq_true rfl⟩) ⟨m_blind m_B_calling, m_recv hw (m_ent_10 hro.1) rfl, fun U hU hW => ⟨rfl, m_wo_call hw hU hW⟩⟩ rfl rfl hl.1 rfl (lv_room (Nat.le_of_ble_eq_true rfl)) dX9_sail_145 ⟨Nat.le_of_ble_eq_true rfl, Nat.le_of_ble_eq_true rfl⟩) hw (fun r_145 u_145 H locs hp_145 hw => ?_)
          obtain ⟨I_21, A_22⟩ := u_145
          have hw : m_wo G K I_21 R F A_22 N L T J D s H locs := hw
          dsimp only at hp_145
          have his := r_st_tr his hp_145.1
          obtain rfl : r_145 = (b2i (!true)) := hp_145.2
          refine lv_if_eq (tgt := 153) hx hb dX9_sail_148 (by decide) (fun c_148 => ?_) (fun c_148 => absurd (by decide) c_148)
          refine lv_aload_n hx hb dX9_sail_153 rfl (lv_at hl 3 rfl) ?_
          refine g_10_19 (r := some (ad 19)) hx hb hts (by decide +kernel) hown hw hro.1 (hts (.fieldLink RX9 47 "PirateindexModel" "purse" "[I") (by decide +kernel)) (hro.2.1 19 rfl).1 dX9_sail_154 ?_
          refine lv_iload_n hx hb dX9_sail_157 rfl (lv_at hl 4 rfl) ?_
          refine lv_dup2_11 hx hb dX9_sail_158 rfl rfl ?_
          refine m_iaload_20 hx hb hw (hro.2.1 19 rfl).2.1 (r_in hro 19 rfl (n := 5) rfl (by omega)) dX9_sail_159 ?_
          rw [show A_22 (ad 19) = M_10 19 from his.2.1 19 rfl]
          rw [nI_clamp (show i < 2 ^ 31 by omega)]
          rw [show M_10 19 i = (M 19 i) from by have h9 : M_10 19 = M 19 := (hsM_10.2 19 (by decide) (by decide) (by decide) (by decide)); simp [m1, h9]]
          refine lv_iload_n hx hb dX9_sail_160 rfl (lv_at hl 1 rfl) ?_
          refine lv_isub hx hb dX9_sail_161 ?_
          refine m_iastore_20 hx hb hw (hro.2.1 19 rfl).2.1 (r_in hro 19 rfl (n := 5) rfl (by omega))  dX9_sail_162 (fun H locs hw => ?_)
          obtain ⟨A_23, eA_23⟩ : ∃ z, z = m_up A_22 (ad 19) (upd (A_22 (ad 19)) (nI i).toNatClampNeg ((M 19 i) - (nI (o_root n9)))) := ⟨_, rfl⟩
          rw [← eA_23] at hw
          obtain ⟨M_24, eM_24⟩ : ∃ z, z = m1 M_10 19 i ((M 19 i) - (nI (o_root n9))) := ⟨_, rfl⟩
          have his : r_st K o ad I A I_21 A_23 Z_9 M_24 0 := by rw [eA_23, eM_24, nI_clamp (show i < 2 ^ 31 by omega)]; exact r_st_m his hro 19 rfl i ((M 19 i) - (nI (o_root n9)))
          refine lv_aload_n hx hb dX9_sail_163 rfl (lv_at hl 3 rfl) ?_
          refine g_10_20 (r := some (ad 20)) hx hb hts (by decide +kernel) hown hw hro.1 (hts (.fieldLink RX9 50 "PirateindexModel" "cameFrom" "[I") (by decide +kernel)) (hro.2.1 20 rfl).1 dX9_sail_164 ?_
          refine lv_iload_n hx hb dX9_sail_167 rfl (lv_at hl 4 rfl) ?_
          refine lv_aload_n hx hb dX9_sail_168 rfl (lv_at hl 3 rfl) ?_
          refine g_10_18 (r := some (ad 18)) hx hb hts (by decide +kernel) hown hw hro.1 (hts (.fieldLink RX9 44 "PirateindexModel" "stands" "[I") (by decide +kernel)) (hro.2.1 18 rfl).1 dX9_sail_169 ?_
          refine lv_iload_n hx hb dX9_sail_172 rfl (lv_at hl 4 rfl) ?_
          refine m_iaload_20 hx hb hw (hro.2.1 18 rfl).2.1 (r_in hro 18 rfl (n := 5) rfl (by omega)) dX9_sail_173 ?_
          rw [show A_23 (ad 18) = M_24 18 from his.2.1 18 rfl]
          rw [nI_clamp (show i < 2 ^ 31 by omega)]
          rw [show M_24 18 i = (M 18 i) from by have h9 : M_10 18 = M 18 := (hsM_10.2 18 (by decide) (by decide) (by decide) (by decide)); simp [eM_24, m1, h9]]
          refine m_iastore_20 hx hb hw (hro.2.1 20 rfl).2.1 (r_in hro 20 rfl (n := 5) rfl (by omega))  dX9_sail_174 (fun H locs hw => ?_)
          obtain ⟨A_25, eA_25⟩ : ∃ z, z = m_up A_23 (ad 20) (upd (A_23 (ad 20)) (nI i).toNatClampNeg (M 18 i)) := ⟨_, rfl⟩
          rw [← eA_25] at hw
          obtain ⟨M_26, eM_26⟩ : ∃ z, z = m1 M_24 20 i (M 18 i) := ⟨_, rfl⟩
          have his : r_st K o ad I A I_21 A_25 Z_9 M_26 0 := by rw [eA_25, eM_26, nI_clamp (show i < 2 ^ 31 by omega)]; exact r_st_m his hro 20 rfl i (M 18 i)
          refine lv_aload_n hx hb dX9_sail_175 rfl (lv_at hl 3 rfl) ?_
          refine g_10_18 (r := some (ad 18)) hx hb hts (by decide +kernel) hown hw hro.1 (hts (.fieldLink RX9 44 "PirateindexModel" "stands" "[I") (by decide +kernel)) (hro.2.1 18 rfl).1 dX9_sail_176 ?_
          refine lv_iload_n hx hb dX9_sail_179 rfl (lv_at hl 4 rfl) ?_
          refine lv_iload_n hx hb dX9_sail_180 rfl (lv_at hl 2 rfl) ?_
          refine m_iastore_20 hx hb hw (hro.2.1 18 rfl).2.1 (r_in hro 18 rfl (n := 5) rfl (by omega))  dX9_sail_181 (fun H locs hw => ?_)
          obtain ⟨A_27, eA_27⟩ : ∃ z, z = m_up A_25 (ad 18) (upd (A_25 (ad 18)) (nI i).toNatClampNeg (nI t9)) := ⟨_, rfl⟩
          rw [← eA_27] at hw
          obtain ⟨M_28, eM_28⟩ : ∃ z, z = m1 M_26 18 i (nI t9) := ⟨_, rfl⟩
          have his : r_st K o ad I A I_21 A_27 Z_9 M_28 0 := by rw [eA_27, eM_28, nI_clamp (show i < 2 ^ 31 by omega)]; exact r_st_m his hro 18 rfl i (nI t9)
          refine lv_aload_n hx hb dX9_sail_182 rfl (lv_at hl 3 rfl) ?_
          refine g_10_21 (r := some (ad 21)) hx hb hts (by decide +kernel) hown hw hro.1 (hts (.fieldLink RX9 53 "PirateindexModel" "took" "[I") (by decide +kernel)) (hro.2.1 21 rfl).1 dX9_sail_183 ?_
          refine lv_iload_n hx hb dX9_sail_186 rfl (lv_at hl 4 rfl) ?_
          refine lv_iconst (v := (-1)) hx hb dX9_sail_187 (by decide) ?_
          refine m_iastore_20 hx hb hw (hro.2.1 21 rfl).2.1 (r_in hro 21 rfl (n := 5) rfl (by omega))  dX9_sail_188 (fun H locs hw => ?_)
          obtain ⟨A_29, eA_29⟩ : ∃ z, z = m_up A_27 (ad 21) (upd (A_27 (ad 21)) (nI i).toNatClampNeg (-1)) := ⟨_, rfl⟩
          rw [← eA_29] at hw
          obtain ⟨M_30, eM_30⟩ : ∃ z, z = m1 M_28 21 i (-1) := ⟨_, rfl⟩
          have his : r_st K o ad I A I_21 A_29 Z_9 M_30 0 := by rw [eA_29, eM_30, nI_clamp (show i < 2 ^ 31 by omega)]; exact r_st_m his hro 21 rfl i (-1)
          refine lv_aload_n hx hb dX9_sail_189 rfl (lv_at hl 3 rfl) ?_
          refine g_10_22 (r := some (ad 22)) hx hb hts (by decide +kernel) hown hw hro.1 (hts (.fieldLink RX9 56 "PirateindexModel" "kept" "[I") (by decide +kernel)) (hro.2.1 22 rfl).1 dX9_sail_190 ?_
          refine lv_iload_n hx hb dX9_sail_193 rfl (lv_at hl 4 rfl) ?_
          refine lv_aload_n hx hb dX9_sail_194 rfl (lv_at hl 3 rfl) ?_
          refine g_10_29 hx hb hts (by decide +kernel) hown hw hro.1 (hts (.fieldLink RX9 170 "PirateindexModel" "typed" "I") (by decide +kernel)) dX9_sail_195 ?_
          rw [show I_21 1029 o = Z_9 29 from his.1 29 (by decide)]
          rw [show Z_9 29 = nI nt from (hsM_10.1 29 (by decide)).trans hnt]
          refine m_iastore_20 hx hb hw (hro.2.1 22 rfl).2.1 (r_in hro 22 rfl (n := 5) rfl (by omega))  dX9_sail_198 (fun H locs hw => ?_)
          obtain ⟨A_31, eA_31⟩ : ∃ z, z = m_up A_29 (ad 22) (upd (A_29 (ad 22)) (nI i).toNatClampNeg (nI nt)) := ⟨_, rfl⟩
          rw [← eA_31] at hw
          obtain ⟨M_32, eM_32⟩ : ∃ z, z = m1 M_30 22 i (nI nt) := ⟨_, rfl⟩
          have his : r_st K o ad I A I_21 A_31 Z_9 M_32 0 := by rw [eA_31, eM_32, nI_clamp (show i < 2 ^ 31 by omega)]; exact r_st_m his hro 22 rfl i (nI nt)
          obtain ⟨Mb, eMb⟩ : ∃ z, z = M_32 := ⟨_, rfl⟩
          rw [← eMb] at his
          have hz29 : Z_9 29 = nI nt := (hsM_10.1 29 (by decide)).trans hnt
          refine lv_iconst (v := 0) hx hb dX9_sail_199 (by decide) ?_
          refine lv_istore (lv' := [(5, .int 0), (4, .int 0), (3, .int (nI (o_root n9))), (2, .int (nI t9)), (0, .ref o), (1, .int (nI i))]) hx hb dX9_sail_200 hl (by decide) rfl (fun ls hl => ?_)
          refine m_loop (σ := Nat × (Nat → Nat → Int32) × (Nat → Nat → Int32)) (fun a => nt - (a.1)) (fun a H locs ls => ((a.1) ≤ nt ∧ r_st K o ad I A I_21 (a.2.1) Z_9 (a.2.2) 0 ∧ (a.2.2) = o_kcp i Mb (a.1)) ∧ m_wo G K I_21 R F (a.2.1) N L T J D s H locs ∧ lv_has ls 6 [(0, .ref o), (1, .int (nI i)), (2, .int (nI t9)), (5, .int (nI (a.1)))]) ?_ (0, A_31, Mb) ⟨⟨Nat.zero_le _, his, rfl⟩, hw, lv_sub hl [4, 5, 3, 0] rfl⟩
          rintro ⟨k, Aa, Mi⟩ H locs ls ⟨hinv, hw, hl⟩ ih
          dsimp only at hinv hw hl
          obtain ⟨hk0, his, eMi⟩ := hinv
          refine lv_iload hx hb dX9_sail_202 (lv_at hl 3 rfl) ?_
          refine lv_aload_n hx hb dX9_sail_204 rfl (lv_at hl 0 rfl) ?_
          refine g_10_29 hx hb hts (by decide +kernel) hown hw hro.1 (hts (.fieldLink RX9 170 "PirateindexModel" "typed" "I") (by decide +kernel)) dX9_sail_205 ?_
          rw [show I_21 1029 o = Z_9 29 from his.1 29 (by decide)]
          rw [show Z_9 29 = nI nt from hz29]
          refine lv_icmp_ge (tgt := 253) hx hb dX9_sail_208 (by decide) (fun c_208 => ?_) (fun c_208 => ?_)
          · skip
            rw [nI_leI (by omega) (by omega)] at c_208
            have hk : k = nt := by omega
            rw [hk] at eMi
            refine lv_aload_n hx hb dX9_sail_253 rfl (lv_at hl 0 rfl) ?_
            refine lv_iconst (v := 0) hx hb dX9_sail_254 (by decide) ?_
            refine p_10_29 hx hb hts (by decide +kernel) hown hw hro.1 (hts (.fieldLink RX9 170 "PirateindexModel" "typed" "I") (by decide +kernel)) dX9_sail_255 (fun H locs hw => ?_)
            obtain ⟨I_33, eI_33⟩ : ∃ z, z = m_up2 I_21 1029 o 0 := ⟨_, rfl⟩
            rw [← eI_33] at hw
            obtain ⟨Z_34, eZ_34⟩ : ∃ z, z = z1 Z_9 29 0 := ⟨_, rfl⟩
            have his : r_st K o ad I A I_33 Aa Z_34 Mi 0 := by rw [eI_33, eZ_34]; exact r_st_z his 29 0 hro.1 (by decide)
            refine lv_iload_n hx hb dX9_sail_258 rfl (lv_at hl 2 rfl) ?_
            exact W.iret (v := (nI t9)) hx hb hr (fun t ht hW => ⟨⟨(nI t9), (I_33, Aa), rfl, (by unfold p_sail; rw [ht3, if_pos rfl, hci, show o_goal Z M nf ni nt i = nI t9 from hq, nI_clamp (by omega)]; refine ⟨⟨Z_34, Mi, his, ?_⟩, fun _ => (by first | rfl | exact hq.symm)⟩; unfold p_sail0; rw [hc9, eMi, hnt, zn_of hnt (by omega), eZ_34]; refine o_sc_z1 (o_sc_kcp ?_ i nt) 29 0; rw [eMb]; have h9 := o_sc_m1 (o_sc_m1 (o_sc_m1 (o_sc_m1 (o_sc_m1 hsM_10 19 i (M 19 i - nI (o_root n9))) 20 i (M 18 i)) 18 i (nI t9)) 21 i (-1)) 22 i (nI nt); simpa only [eM_24, eM_26, eM_28, eM_30, eM_32] using h9), m_wo_out hw ht hW.alike⟩, m_wo_F hw ht⟩) (m_wo_L hw) dX9_sail_259
          · skip
            rw [nI_leI (by omega) (by omega)] at c_208
            have hk : k < nt := by omega
            refine lv_aload_n hx hb dX9_sail_211 rfl (lv_at hl 0 rfl) ?_
            refine g_10_23 (r := some (ad 23)) hx hb hts (by decide +kernel) hown hw hro.1 (hts (.fieldLink RX9 59 "PirateindexModel" "keptWord" "[I") (by decide +kernel)) (hro.2.1 23 rfl).1 dX9_sail_212 ?_
            refine lv_iconst (v := 4) hx hb dX9_sail_215 (by decide) ?_
            refine lv_iload_n hx hb dX9_sail_216 rfl (lv_at hl 1 rfl) ?_
            refine lv_imul hx hb dX9_sail_217 ?_
            refine lv_iload hx hb dX9_sail_218 (lv_at hl 3 rfl) ?_
            refine lv_iadd hx hb dX9_sail_220 ?_
            refine lv_aload_n hx hb dX9_sail_221 rfl (lv_at hl 0 rfl) ?_
            refine g_10_25 (r := some (ad 25)) hx hb hts (by decide +kernel) hown hw hro.1 (hts (.fieldLink RX9 65 "PirateindexModel" "mapWord" "[I") (by decide +kernel)) (hro.2.1 25 rfl).1 dX9_sail_222 ?_
            refine lv_iload hx hb dX9_sail_225 (lv_at hl 3 rfl) ?_
            refine m_iaload_20 hx hb hw (hro.2.1 25 rfl).2.1 (r_in hro 25 rfl (n := 4) rfl (by omega)) dX9_sail_227 ?_
            rw [show Aa (ad 25) = Mi 25 from his.2.1 25 rfl]
            rw [nI_clamp (show k < 2 ^ 31 by omega)]
            refine m_iastore_20 hx hb hw (hro.2.1 23 rfl).2.1 (by rw [show (4 : Int32) * nI i + nI k = nI (4 * i + k) from by rw [show (4 : Int32) = nI 4 from rfl, pk_mul, nI_add]]; exact r_in hro 23 rfl (n := 20) rfl (by omega))  dX9_sail_228 (fun H locs hw => ?_)
            obtain ⟨A_35, eA_35⟩ : ∃ z, z = m_up Aa (ad 23) (upd (Aa (ad 23)) ((4 * (nI i)) + (nI k)).toNatClampNeg (Mi 25 k)) := ⟨_, rfl⟩
            rw [← eA_35] at hw
            obtain ⟨M_36, eM_36⟩ : ∃ z, z = m1 Mi 23 (4 * i + k) (Mi 25 k) := ⟨_, rfl⟩
            have his : r_st K o ad I A I_21 A_35 Z_9 M_36 0 := by rw [eA_35, eM_36, show ((4 : Int32) * nI i + nI k).toNatClampNeg = 4 * i + k from by rw [show (4 : Int32) = nI 4 from rfl, pk_mul, nI_add]; exact nI_clamp (by omega)]; exact r_st_m his hro 23 rfl (4 * i + k) (Mi 25 k)
            refine lv_aload_n hx hb dX9_sail_229 rfl (lv_at hl 0 rfl) ?_
            refine g_10_24 (r := some (ad 24)) hx hb hts (by decide +kernel) hown hw hro.1 (hts (.fieldLink RX9 62 "PirateindexModel" "keptGap" "[I") (by decide +kernel)) (hro.2.1 24 rfl).1 dX9_sail_230 ?_
            refine lv_iconst (v := 4) hx hb dX9_sail_233 (by decide) ?_
            refine lv_iload_n hx hb dX9_sail_234 rfl (lv_at hl 1 rfl) ?_
            refine lv_imul hx hb dX9_sail_235 ?_
            refine lv_iload hx hb dX9_sail_236 (lv_at hl 3 rfl) ?_
            refine lv_iadd hx hb dX9_sail_238 ?_
            refine lv_aload_n hx hb dX9_sail_239 rfl (lv_at hl 0 rfl) ?_
            refine g_10_26 (r := some (ad 26)) hx hb hts (by decide +kernel) hown hw hro.1 (hts (.fieldLink RX9 68 "PirateindexModel" "mapGap" "[I") (by decide +kernel)) (hro.2.1 26 rfl).1 dX9_sail_240 ?_
            refine lv_iload hx hb dX9_sail_243 (lv_at hl 3 rfl) ?_
            refine m_iaload_20 hx hb hw (hro.2.1 26 rfl).2.1 (r_in hro 26 rfl (n := 4) rfl (by omega)) dX9_sail_245 ?_
            rw [show A_35 (ad 26) = M_36 26 from his.2.1 26 rfl]
            rw [nI_clamp (show k < 2 ^ 31 by omega)]
            rw [show M_36 26 k = Mi 26 k from by rw [eM_36, m1_n _ _ (by decide)]]
            refine m_iastore_20 hx hb hw (hro.2.1 24 rfl).2.1 (by rw [show (4 : Int32) * nI i + nI k = nI (4 * i + k) from by rw [show (4 : Int32) = nI 4 from rfl, pk_mul, nI_add]]; exact r_in hro 24 rfl (n := 20) rfl (by omega))  dX9_sail_246 (fun H locs hw => ?_)
            obtain ⟨A_37, eA_37⟩ : ∃ z, z = m_up A_35 (ad 24) (upd (A_35 (ad 24)) ((4 * (nI i)) + (nI k)).toNatClampNeg (Mi 26 k)) := ⟨_, rfl⟩
            rw [← eA_37] at hw
            obtain ⟨M_38, eM_38⟩ : ∃ z, z = m1 M_36 24 (4 * i + k) (Mi 26 k) := ⟨_, rfl⟩
            have his : r_st K o ad I A I_21 A_37 Z_9 M_38 0 := by rw [eA_37, eM_38, show ((4 : Int32) * nI i + nI k).toNatClampNeg = 4 * i + k from by rw [show (4 : Int32) = nI 4 from rfl, pk_mul, nI_add]; exact nI_clamp (by omega)]; exact r_st_m his hro 24 rfl (4 * i + k) (Mi 26 k)
            refine lv_iinc (v := nI (k + 1)) (lv' := [(5, .int (nI (k + 1))), (0, .ref o), (1, .int (nI i)), (2, .int (nI t9))]) hx hb dX9_sail_247 hl (k := 3) rfl (nI_1 _) (by decide) rfl (fun ls hl => ?_)
            refine lv_goto (tgt := 202) hx hb dX9_sail_250 (by decide) ?_
            exact ih (k + 1, A_37, M_38) _ _ _ (by dsimp only; omega) ⟨⟨by omega, his, by rw [eM_38, eM_36, eMi]; rfl⟩, hw, lv_sub hl [1, 2, 3, 0] rfl⟩
        · skip
          have hpo : M 19 i < nI (o_root n9) := Int32.not_le.mp c_73
          have ht3 : t_sail Z M nf ni nt (nI i) = 4 := by rw [htg, if_pos hpo]
          refine lv_iconst (v := 1) hx hb dX9_sail_76 (by decide) ?_
          refine lv_goto (tgt := 81) hx hb dX9_sail_77 (by decide) ?_
          refine lv_istore (lv' := [(4, .int 1), (3, .int (nI (o_root n9))), (2, .int (nI t9)), (0, .ref o), (1, .int (nI i))]) hx hb dX9_sail_81 hl (by decide) rfl (fun ls hl => ?_)
          refine lv_iload_n hx hb dX9_sail_83 rfl (lv_at hl 2 rfl) ?_
          refine lv_iconst (v := (-1)) hx hb dX9_sail_84 (by decide) ?_
          refine lv_icmp_eq (tgt := 93) hx hb dX9_sail_85 (by decide) (fun c_85 => absurd c_85 (nI_nm1 (by omega))) (fun c_85 => ?_)
          refine lv_iload hx hb dX9_sail_88 (lv_at hl 0 rfl) ?_
          refine lv_if_eq (tgt := 115) hx hb dX9_sail_90 (by decide) (fun c_90 => absurd c_90 (by decide)) (fun c_90 => ?_)
          refine lv_aload_n hx hb dX9_sail_93 rfl (lv_at hl 3 rfl) ?_
          refine lv_iconst (v := 0) hx hb dX9_sail_94 (by decide) ?_
          refine p_10_31 hx hb hts (by decide +kernel) hown hw hro.1 (hts (.fieldLink RX9 151 "PirateindexModel" "causes" "I") (by decide +kernel)) dX9_sail_95 (fun H locs hw => ?_)
          obtain ⟨I_39, eI_39⟩ : ∃ z, z = m_up2 I_7 1031 o 0 := ⟨_, rfl⟩
          rw [← eI_39] at hw
          obtain ⟨Z_40, eZ_40⟩ : ∃ z, z = z1 Z_9 31 0 := ⟨_, rfl⟩
          have his : r_st K o ad I A I_39 A_8 Z_40 M_10 0 := by rw [eI_39, eZ_40]; exact r_st_z his 31 0 hro.1 (by decide)
          refine lv_aload_n hx hb dX9_sail_98 rfl (lv_at hl 3 rfl) ?_
          refine lv_iconst (v := 1) hx hb dX9_sail_99 (by decide) ?_
          refine lv_iload hx hb dX9_sail_100 (lv_at hl 0 rfl) ?_
          refine lv_if_eq (tgt := 110) hx hb dX9_sail_102 (by decide) (fun c_102 => absurd c_102 (by decide)) (fun c_102 => ?_)
          refine lv_bipush (v := 99) hx hb dX9_sail_105 (by decide) ?_
          refine lv_goto (tgt := 112) hx hb dX9_sail_107 (by decide) ?_
          refine m_cv (va_runV (As := [.int 1, .int 99]) (rest := []) ⟨hx, hb, hml, hown, hts⟩ (c_X9_blames l (Z := Z_40) (M := M_10) (th := 0) true 99 hro (r_st_self his) (by decide) (fun _ => ⟨0, by decide, by rw [eZ_40]; exact z1_s _ _ _⟩)) (cwV 2 hts gX9_sail_X9_blames rfl rfl rfl (by decide +kernel) ⟨Nat.le_of_ble_eq_true rfl, Nat.le_of_ble_eq_true rfl⟩) ⟨m_blind m_B_calling, m_recv hw (m_ent_10 hro.1) rfl, fun U hU hW => ⟨rfl, m_wo_call hw hU hW⟩⟩ rfl rfl hl.1 rfl (lv_room (Nat.le_of_ble_eq_true rfl)) dX9_sail_112 ⟨Nat.le_of_ble_eq_true rfl, Nat.le_of_ble_eq_true rfl⟩) hw (fun u_112 H locs hp_112 hw => ?_)
          obtain ⟨I_41, A_42⟩ := u_112
          have hw : m_wo G K I_41 R F A_42 N L T J D s H locs := hw
          dsimp only at hp_112
          have his := r_st_tr his hp_112.1
          obtain ⟨Z_43, eZ_43⟩ : ∃ z : Nat → Int32, z = (o_blames (Z_40, M_10) true 99).1 := ⟨_, rfl⟩
          rw [← eZ_43] at his
          obtain ⟨M_44, eM_44⟩ : ∃ z : Nat → Nat → Int32, z = (o_blames (Z_40, M_10) true 99).2 := ⟨_, rfl⟩
          rw [← eM_44] at his
          refine lv_aload_n hx hb dX9_sail_115 rfl (lv_at hl 3 rfl) ?_
          refine lv_iload_n hx hb dX9_sail_116 rfl (lv_at hl 2 rfl) ?_
          refine lv_iconst (v := (-1)) hx hb dX9_sail_117 (by decide) ?_
          refine lv_icmp_eq (tgt := 125) hx hb dX9_sail_118 (by decide) (fun c_118 => absurd c_118 (nI_nm1 (by omega))) (fun c_118 => ?_)
          refine lv_iconst (v := 1) hx hb dX9_sail_121 (by decide) ?_
          refine lv_goto (tgt := 126) hx hb dX9_sail_122 (by decide) ?_
          refine lv_iconst (v := 3) hx hb dX9_sail_126 (by decide) ?_
          refine m_ci (va_runV (As := [.int 1, .int 3]) (rest := []) ⟨hx, hb, hml, hown, hts⟩ (c_X9_no l (Z := Z_43) (M := M_44) (th := 0) true 3 hro (r_st_self his) ) (cwV 2 hts gX9_sail_X9_no rfl rfl rfl (by decide +kernel) ⟨Nat.le_of_ble_eq_true rfl, Nat.le_of_ble_eq_true rfl⟩) ⟨m_blind m_B_calling, m_recv hw (m_ent_10 hro.1) rfl, fun U hU hW => ⟨rfl, m_wo_call hw hU hW⟩⟩ rfl rfl hl.1 rfl (lv_room (Nat.le_of_ble_eq_true rfl)) dX9_sail_127 ⟨Nat.le_of_ble_eq_true rfl, Nat.le_of_ble_eq_true rfl⟩) hw (fun r_127 u_127 H locs hp_127 hw => ?_)
          obtain ⟨I_45, A_46⟩ := u_127
          have hw : m_wo G K I_45 R F A_46 N L T J D s H locs := hw
          dsimp only at hp_127
          have his := r_st_tr his hp_127.1
          obtain rfl : r_127 = (b2i (!true)) := hp_127.2
          refine lv_if_ne (tgt := 151) hx hb dX9_sail_130 (by decide) (fun c_130 => absurd (by decide) c_130) (fun c_130 => ?_)
          refine lv_aload_n hx hb dX9_sail_133 rfl (lv_at hl 3 rfl) ?_
          refine lv_iload hx hb dX9_sail_134 (lv_at hl 0 rfl) ?_
          refine lv_if_ne (tgt := 143) hx hb dX9_sail_136 (by decide) (fun c_136 => ?_) (fun c_136 => absurd c_136 (by decide))
          refine lv_iconst (v := 0) hx hb dX9_sail_143 (by decide) ?_
          refine lv_iconst (v := 4) hx hb dX9_sail_144 (by decide) ?_
          refine m_ci (va_runV (As := [.int 0, .int 4]) (rest := []) ⟨hx, hb, hml, hown, hts⟩ (c_X9_no l (Z := Z_43) (M := M_44) (th := 0) false 4 hro (r_st_self his) ) (cwV 2 hts gX9_sail_X9_no rfl rfl rfl (by decide +kernel) ⟨Nat.le_of_ble_eq_true rfl, Nat.le_of_ble_eq_true rfl⟩) ⟨m_blind m_B_calling, m_recv hw (m_ent_10 hro.1) rfl, fun U hU hW => ⟨rfl, m_wo_call hw hU hW⟩⟩ rfl rfl hl.1 rfl (lv_room (Nat.le_of_ble_eq_true rfl)) dX9_sail_145 ⟨Nat.le_of_ble_eq_true rfl, Nat.le_of_ble_eq_true rfl⟩) hw (fun r_145 u_145 H locs hp_145 hw => ?_)
          obtain ⟨I_47, A_48⟩ := u_145
          have hw : m_wo G K I_47 R F A_48 N L T J D s H locs := hw
          dsimp only at hp_145
          have his := r_st_tr his hp_145.1
          obtain rfl : r_145 = (b2i (!false)) := hp_145.2
          refine lv_if_eq (tgt := 153) hx hb dX9_sail_148 (by decide) (fun c_148 => absurd c_148 (by decide)) (fun c_148 => ?_)
          refine lv_iconst (v := 0) hx hb dX9_sail_151 (by decide) ?_
          exact W.iret (v := 0) hx hb hr (fun t ht hW => ⟨⟨0, (I_47, A_48), rfl, (by unfold p_sail; rw [ht3, if_neg (by decide), if_neg (by decide), if_pos rfl]; refine ⟨⟨Z_43, M_44, his, ?_⟩, fun h => absurd h (by decide)⟩; have h9 := o_sc_bl hsM_10 99; simpa only [eZ_40, eZ_43, eM_44] using h9), m_wo_out hw ht hW.alike⟩, m_wo_F hw ht⟩) (m_wo_L hw) dX9_sail_152

