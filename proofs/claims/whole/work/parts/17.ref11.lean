/-- what a ship's slots hold -/
def o_shW (M : mM) (s : Nat) : Prop := (∃ q, q < 12 ∧ M 18 s = nI q) ∧ ∃ n, n ≤ 4 ∧ M 22 s = nI n ∧ ∀ k, 1 ≤ k → k < n → ∃ g, g ≤ 9 ∧ M 24 (4 * s + k) = nI g
theorem o_sc_m1 {Z Z' : mZ} {M M' : mM} (h : o_sc (Z, M) (Z', M')) (j k : Nat) (v : Int32) : o_sc (Z, m1 M j k v) (Z', m1 M' j k v) := by
  refine ⟨h.1, fun i a b c d => ?_⟩
  have h9 := h.2 i a b c d
  show m1 M' j k v i = m1 M j k v i
  unfold m1
  split
  · rw [show M' i = M i from h9]
  · exact h9
def o_digs (Z : mZ) (M : mM) (s : Nat) : Bool := decide (0 < M 22 s) && (decide (M 10 (M 18 s).toNatClampNeg = 0) && decide (0 < o_still Z M s))
def t_dig (Z : mZ) (M : mM) (v : Int32) : Int32 := if o_shp Z v = true then (if o_digs Z M v.toNatClampNeg = true then 0 else 2) else 1
def p_dig (M : mM) (s : Nat) : mM := m1 (m1 (m1 M 10 (M 18 s).toNatClampNeg 1) 21 s (M 9 (M 18 s).toNatClampNeg)) 19 s (M 19 s + M 9 (M 18 s).toNatClampNeg)
set_option maxHeartbeats 400000 in
set_option maxRecDepth 100000 in
theorem c_X9_dig (l : Launch) {G : mG} {K : Nat → Nat} {I : Nat → Nat → Int32} {R : Nat → Nat → Option Nat} {F : Nat → UInt32} {A : Nat → Nat → Int32} {N : Nat → Nat} {L : Nat → List Nat} {T : Nat → List Int32} {J : Nat → Nat → Int64} {D : Nat → Nat → UInt64} {o : Nat} {ad : Nat → Nat} {Z : Nat → Int32} {M : Nat → Nat → Int32} {th : Int32} {nf ns : Nat} (v : Int32) (hro : r_ok K R N o ad) (hz : r_st K o ad I A I A Z M th) (hnf : Z 1 = nI nf) (hn : nf ≤ 120) (hns : Z 2 = nI ns) (hn5 : ns ≤ 5) (hw9 : ∀ s, s < ns → o_shW M s) (hlt : ∀ s, o_still Z M s < 2 ^ 31) : Met l yX9_dig wsX9_dig ({ frames := 4, cells := 0, slots := 0, locals := 130 } : Room) (va_Pc [.ref o, .int v] (m_B G K I R F A N L T J D)) (va_Qi (fun (r : Int32) (u : (Nat → Nat → Int32) × (Nat → Nat → Int32)) => (∃ (Z' : Nat → Int32) (M' : Nat → Nat → Int32), r_st K o ad I A u.1 u.2 Z' M' (t_dig Z M v) ∧ o_sc (if t_dig Z M v = 0 then (Z, p_dig M v.toNatClampNeg) else (Z, M)) (Z', M')) ∧ (t_dig Z M v = 0 → r = M 9 (M 18 v.toNatClampNeg).toNatClampNeg)) (fun u : (Nat → Nat → Int32) × (Nat → Nat → Int32) => m_B G K (u.1) R F (u.2) N L T J D) (m_A G)) 0 0 (m_A G) := by
  refine Met.ofW (cc := cX9_dig) (maxL := 3) (ret := (some .int)) (by decide) rfl ?_
  intro p e s m args below meth c s₁ B hml hv
  obtain ⟨rfl, hB⟩ := hv
  have hx := B.exec
  have hb := B.bytes
  have hr := B.returns
  have hts := atoms_spec (ws := wsX9_dig) B.pre
  have hown : s.vm.findClass RX9 = some m.cls := findClass_of_methodNamed B.named
  have hlocks := B.notSynchronized
  have hw := m_wo_in hB
  have hl := lv_entry ([.ref o, .int v]) (n := 3) (Nat.le_of_ble_eq_true rfl)
  rw [lg_entry_eq]
  generalize (lg_sl ([.ref o, .int v]) ++ List.replicate (3 - (lg_sl ([.ref o, .int v])).length) Slot.unset).toArray = ls at hl ⊢
  have hl : lv_has ls 3 [(0, .ref o), (1, .int v)] := hl
  have his := hz
  refine lv_aload_n hx hb dX9_dig_0 rfl (lv_at hl 0 rfl) ?_
  refine lv_aload_n hx hb dX9_dig_1 rfl (lv_at hl 0 rfl) ?_
  refine lv_iload_n hx hb dX9_dig_2 rfl (lv_at hl 1 rfl) ?_
  refine m_ci (va_runV (As := [.int v]) (rest := [.ref o]) ⟨hx, hb, hml, hown, hts⟩ (c_X9_isShip l (Z := Z) (M := M) (th := th) v hro (r_st_self his) ) (cwV 1 hts gX9_dig_X9_isShip rfl rfl rfl (by decide +kernel) ⟨Nat.le_of_ble_eq_true rfl, Nat.le_of_ble_eq_true rfl⟩) ⟨m_blind m_B_calling, m_recv hw (m_ent_10 hro.1) rfl, fun U hU hW => ⟨rfl, m_wo_call hw hU hW⟩⟩ rfl rfl hl.1 rfl (lv_room (Nat.le_of_ble_eq_true rfl)) dX9_dig_3 ⟨Nat.le_of_ble_eq_true rfl, Nat.le_of_ble_eq_true rfl⟩) hw (fun r_3 u_3 H locs hp_3 hw => ?_)
  obtain rfl : r_3 = (b2i (o_shp Z v)) := hp_3
  refine lv_iconst (v := 1) hx hb dX9_dig_6 (by decide) ?_
  refine m_ci (va_runV (As := [.int (b2i (o_shp Z v)), .int 1]) (rest := []) ⟨hx, hb, hml, hown, hts⟩ (c_X9_no l (Z := Z) (M := M) (th := th) (o_shp Z v) 1 hro (r_st_self his) ) (cwV 2 hts gX9_dig_X9_no rfl rfl rfl (by decide +kernel) ⟨Nat.le_of_ble_eq_true rfl, Nat.le_of_ble_eq_true rfl⟩) ⟨m_blind m_B_calling, m_recv hw (m_ent_10 hro.1) rfl, fun U hU hW => ⟨rfl, m_wo_call hw hU hW⟩⟩ rfl rfl hl.1 rfl (lv_room (Nat.le_of_ble_eq_true rfl)) dX9_dig_7 ⟨Nat.le_of_ble_eq_true rfl, Nat.le_of_ble_eq_true rfl⟩) hw (fun r_7 u_7 H locs hp_7 hw => ?_)
  obtain ⟨I_1, A_2⟩ := u_7
  have hw : m_wo G K I_1 R F A_2 N L T J D s H locs := hw
  dsimp only at hp_7
  have his := r_st_tr his hp_7.1
  obtain rfl : r_7 = (b2i (!(o_shp Z v))) := hp_7.2
  refine lv_if_ne (tgt := 57) hx hb dX9_dig_10 (by decide) (fun c_10 => ?_) (fun c_10 => ?_)
  · skip
    have q_10 : (o_shp Z v) = false := by first | (have := (b2i_ne _).mp c_10; simpa using this) | (have := (b2i_eq _).mp c_10; simpa using this)
    refine lv_iconst (v := 0) hx hb dX9_dig_57 (by decide) ?_
    exact W.iret (v := 0) hx hb hr (fun t ht hW => ⟨⟨0, (I_1, A_2), rfl, (by have ht : t_dig Z M v = 1 := (by simp [t_dig, q_10]); have hth : ((if (o_shp Z v) then 0 else 1) : Int32) = 1 := (by simp [q_10]); rw [hth] at his; rw [ht]; exact ⟨⟨Z, M, his, o_sc_rf _⟩, fun h => absurd h (by decide)⟩), m_wo_out hw ht hW.alike⟩, m_wo_F hw ht⟩) (m_wo_L hw) dX9_dig_58
  · skip
    have q_10 : (o_shp Z v) = true := by first | (have := (b2i_ne _).mp c_10; simpa using this) | (have := (b2i_eq _).mp c_10; simpa using this)
    obtain ⟨i, hi, rfl⟩ := o_shp_nat q_10 hns (by omega)
    obtain ⟨⟨q, hq, hat⟩, nt, h4t, hnt, hgk⟩ := hw9 i hi
    have hci : (nI i).toNatClampNeg = i := nI_clamp (by omega)
    have hcq : (nI q).toNatClampNeg = q := nI_clamp (by omega)
    refine lv_aload_n hx hb dX9_dig_13 rfl (lv_at hl 0 rfl) ?_
    refine lv_aload_n hx hb dX9_dig_14 rfl (lv_at hl 0 rfl) ?_
    refine g_10_22 (r := some (ad 22)) hx hb hts (by decide +kernel) hown hw hro.1 (hts (.fieldLink RX9 56 "PirateindexModel" "kept" "[I") (by decide +kernel)) (hro.2.1 22 rfl).1 dX9_dig_15 ?_
    refine lv_iload_n hx hb dX9_dig_18 rfl (lv_at hl 1 rfl) ?_
    refine m_iaload_20 hx hb hw (hro.2.1 22 rfl).2.1 (r_in hro 22 rfl (n := 5) rfl (by omega)) dX9_dig_19 ?_
    rw [show A_2 (ad 22) = M 22 from his.2.1 22 rfl]
    rw [nI_clamp (show i < 2 ^ 31 by omega)]
    rw [hnt]
    refine lv_if_le (tgt := 49) hx hb dX9_dig_20 (by decide) (fun c_20 => ?_) (fun c_20 => ?_)
    · skip
      have h20 : ¬ 0 < M 22 i := by rw [hnt]; exact Int32.not_lt.mpr c_20
      have hd9 : o_digs Z M i = false := by simp [o_digs, h20]
      refine lv_iconst (v := 0) hx hb dX9_dig_49 (by decide) ?_
      refine lv_iconst (v := 2) hx hb dX9_dig_50 (by decide) ?_
      refine m_ci (va_runV (As := [.int 0, .int 2]) (rest := []) ⟨hx, hb, hml, hown, hts⟩ (c_X9_no l (Z := Z) (M := M) (th := (if (o_shp Z (nI i)) then 0 else 1)) false 2 hro (r_st_self his) ) (cwV 2 hts gX9_dig_X9_no rfl rfl rfl (by decide +kernel) ⟨Nat.le_of_ble_eq_true rfl, Nat.le_of_ble_eq_true rfl⟩) ⟨m_blind m_B_calling, m_recv hw (m_ent_10 hro.1) rfl, fun U hU hW => ⟨rfl, m_wo_call hw hU hW⟩⟩ rfl rfl hl.1 rfl (lv_room (Nat.le_of_ble_eq_true rfl)) dX9_dig_51 ⟨Nat.le_of_ble_eq_true rfl, Nat.le_of_ble_eq_true rfl⟩) hw (fun r_51 u_51 H locs hp_51 hw => ?_)
      obtain ⟨I_3, A_4⟩ := u_51
      have hw : m_wo G K I_3 R F A_4 N L T J D s H locs := hw
      dsimp only at hp_51
      have his := r_st_tr his hp_51.1
      obtain rfl : r_51 = (b2i (!false)) := hp_51.2
      refine lv_if_eq (tgt := 59) hx hb dX9_dig_54 (by decide) (fun c_54 => absurd c_54 (by decide)) (fun c_54 => ?_)
      refine lv_iconst (v := 0) hx hb dX9_dig_57 (by decide) ?_
      exact W.iret (v := 0) hx hb hr (fun t ht hW => ⟨⟨0, (I_3, A_4), rfl, (by have ht : t_dig Z M (nI i) = 2 := (by simp [t_dig, q_10, hci, hd9]); rw [ht]; exact ⟨⟨Z, M, his, (o_sc_rf (Z, M))⟩, fun h => absurd h (by decide)⟩), m_wo_out hw ht hW.alike⟩, m_wo_F hw ht⟩) (m_wo_L hw) dX9_dig_58
    · skip
      have h20 : 0 < M 22 i := by rw [hnt]; exact Int32.not_le.mp c_20
      have h1t : 1 ≤ nt := by have h9 := c_20; rw [show (0 : Int32) = nI 0 from rfl, nI_leI (by omega) (by decide)] at h9; omega
      refine lv_aload_n hx hb dX9_dig_23 rfl (lv_at hl 0 rfl) ?_
      refine g_10_10 (r := some (ad 10)) hx hb hts (by decide +kernel) hown hw hro.1 (hts (.fieldLink RX9 19 "PirateindexModel" "taken" "[Z") (by decide +kernel)) (hro.2.1 10 rfl).1 dX9_dig_24 ?_
      refine lv_aload_n hx hb dX9_dig_27 rfl (lv_at hl 0 rfl) ?_
      refine g_10_18 (r := some (ad 18)) hx hb hts (by decide +kernel) hown hw hro.1 (hts (.fieldLink RX9 44 "PirateindexModel" "stands" "[I") (by decide +kernel)) (hro.2.1 18 rfl).1 dX9_dig_28 ?_
      refine lv_iload_n hx hb dX9_dig_31 rfl (lv_at hl 1 rfl) ?_
      refine m_iaload_20 hx hb hw (hro.2.1 18 rfl).2.1 (r_in hro 18 rfl (n := 5) rfl (by omega)) dX9_dig_32 ?_
      rw [show A_2 (ad 18) = M 18 from his.2.1 18 rfl]
      rw [nI_clamp (show i < 2 ^ 31 by omega)]
      rw [hat]
      refine m_baload_30 hx hb hw (hro.2.1 10 rfl).2.1 (r_in hro 10 rfl (n := 12) rfl (by omega)) dX9_dig_33 ?_
      rw [show A_2 (ad 10) = M 10 from his.2.1 10 rfl]
      rw [nI_clamp (show q < 2 ^ 31 by omega)]
      refine lv_if_ne (tgt := 49) hx hb dX9_dig_34 (by decide) (fun c_34 => ?_) (fun c_34 => ?_)
      · skip
        have hd9 : o_digs Z M i = false := by simp [o_digs, hat, hcq, c_34]
        refine lv_iconst (v := 0) hx hb dX9_dig_49 (by decide) ?_
        refine lv_iconst (v := 2) hx hb dX9_dig_50 (by decide) ?_
        refine m_ci (va_runV (As := [.int 0, .int 2]) (rest := []) ⟨hx, hb, hml, hown, hts⟩ (c_X9_no l (Z := Z) (M := M) (th := (if (o_shp Z (nI i)) then 0 else 1)) false 2 hro (r_st_self his) ) (cwV 2 hts gX9_dig_X9_no rfl rfl rfl (by decide +kernel) ⟨Nat.le_of_ble_eq_true rfl, Nat.le_of_ble_eq_true rfl⟩) ⟨m_blind m_B_calling, m_recv hw (m_ent_10 hro.1) rfl, fun U hU hW => ⟨rfl, m_wo_call hw hU hW⟩⟩ rfl rfl hl.1 rfl (lv_room (Nat.le_of_ble_eq_true rfl)) dX9_dig_51 ⟨Nat.le_of_ble_eq_true rfl, Nat.le_of_ble_eq_true rfl⟩) hw (fun r_51 u_51 H locs hp_51 hw => ?_)
        obtain ⟨I_5, A_6⟩ := u_51
        have hw : m_wo G K I_5 R F A_6 N L T J D s H locs := hw
        dsimp only at hp_51
        have his := r_st_tr his hp_51.1
        obtain rfl : r_51 = (b2i (!false)) := hp_51.2
        refine lv_if_eq (tgt := 59) hx hb dX9_dig_54 (by decide) (fun c_54 => absurd c_54 (by decide)) (fun c_54 => ?_)
        refine lv_iconst (v := 0) hx hb dX9_dig_57 (by decide) ?_
        exact W.iret (v := 0) hx hb hr (fun t ht hW => ⟨⟨0, (I_5, A_6), rfl, (by have ht : t_dig Z M (nI i) = 2 := (by simp [t_dig, q_10, hci, hd9]); rw [ht]; exact ⟨⟨Z, M, his, (o_sc_rf (Z, M))⟩, fun h => absurd h (by decide)⟩), m_wo_out hw ht hW.alike⟩, m_wo_F hw ht⟩) (m_wo_L hw) dX9_dig_58
      · skip
        have h34 : M 10 (M 18 i).toNatClampNeg = 0 := by rw [hat, hcq]; first | exact c_34 | (simpa using c_34)
        refine lv_aload_n hx hb dX9_dig_37 rfl (lv_at hl 0 rfl) ?_
        refine lv_iload_n hx hb dX9_dig_38 rfl (lv_at hl 1 rfl) ?_
        refine m_ci (va_runV (As := [.int (nI i)]) (rest := [.ref o]) ⟨hx, hb, hml, hown, hts⟩ (c_X9_isStill l (Z := Z) (M := M) (th := (if (o_shp Z (nI i)) then 0 else 1)) i hro (r_st_self his) hnf hn hnt h1t h4t (by omega) hgk (hlt i)) (cwV 1 hts gX9_dig_X9_isStill rfl rfl rfl (by decide +kernel) ⟨Nat.le_of_ble_eq_true rfl, Nat.le_of_ble_eq_true rfl⟩) ⟨m_blind m_B_calling, m_recv hw (m_ent_10 hro.1) rfl, fun U hU hW => ⟨rfl, m_wo_call hw hU hW⟩⟩ rfl rfl hl.1 rfl (lv_room (Nat.le_of_ble_eq_true rfl)) dX9_dig_39 ⟨Nat.le_of_ble_eq_true rfl, Nat.le_of_ble_eq_true rfl⟩) hw (fun r_39 u_39 H locs hp_39 hw => ?_)
        obtain ⟨I_7, A_8⟩ := u_39
        have hw : m_wo G K I_7 R F A_8 N L T J D s H locs := hw
        dsimp only at hp_39
        obtain ⟨⟨Z_9, M_10, hiM_10, hsM_10⟩, hrM_10⟩ := hp_39
        have his := r_st_tr his hiM_10
        obtain rfl : r_39 = (b2i (decide (0 < o_still Z M i))) := hrM_10
        refine lv_if_eq (tgt := 49) hx hb dX9_dig_42 (by decide) (fun c_42 => ?_) (fun c_42 => ?_)
        · skip
          have hd9 : o_digs Z M i = false := by have h9 := (b2i_eq _).mp c_42; simp only [o_digs, h9, Bool.and_false]
          refine lv_iconst (v := 0) hx hb dX9_dig_49 (by decide) ?_
          refine lv_iconst (v := 2) hx hb dX9_dig_50 (by decide) ?_
          refine m_ci (va_runV (As := [.int 0, .int 2]) (rest := []) ⟨hx, hb, hml, hown, hts⟩ (c_X9_no l (Z := Z_9) (M := M_10) (th := (if (o_shp Z (nI i)) then 0 else 1)) false 2 hro (r_st_self his) ) (cwV 2 hts gX9_dig_X9_no rfl rfl rfl (by decide +kernel) ⟨Nat.le_of_ble_eq_true rfl, Nat.le_of_ble_eq_true rfl⟩) ⟨m_blind m_B_calling, m_recv hw (m_ent_10 hro.1) rfl, fun U hU hW => ⟨rfl, m_wo_call hw hU hW⟩⟩ rfl rfl hl.1 rfl (lv_room (Nat.le_of_ble_eq_true rfl)) dX9_dig_51 ⟨Nat.le_of_ble_eq_true rfl, Nat.le_of_ble_eq_true rfl⟩) hw (fun r_51 u_51 H locs hp_51 hw => ?_)
          obtain ⟨I_11, A_12⟩ := u_51
          have hw : m_wo G K I_11 R F A_12 N L T J D s H locs := hw
          dsimp only at hp_51
          have his := r_st_tr his hp_51.1
          obtain rfl : r_51 = (b2i (!false)) := hp_51.2
          refine lv_if_eq (tgt := 59) hx hb dX9_dig_54 (by decide) (fun c_54 => absurd c_54 (by decide)) (fun c_54 => ?_)
          refine lv_iconst (v := 0) hx hb dX9_dig_57 (by decide) ?_
          exact W.iret (v := 0) hx hb hr (fun t ht hW => ⟨⟨0, (I_11, A_12), rfl, (by have ht : t_dig Z M (nI i) = 2 := (by simp [t_dig, q_10, hci, hd9]); rw [ht]; exact ⟨⟨Z_9, M_10, his, hsM_10⟩, fun h => absurd h (by decide)⟩), m_wo_out hw ht hW.alike⟩, m_wo_F hw ht⟩) (m_wo_L hw) dX9_dig_58
        · skip
          have hd9 : o_digs Z M i = true := by have h9 := (b2i_ne _).mp c_42; simp only [o_digs, h9, h20, h34, decide_true, Bool.and_self]
          refine lv_iconst (v := 1) hx hb dX9_dig_45 (by decide) ?_
          refine lv_goto (tgt := 50) hx hb dX9_dig_46 (by decide) ?_
          refine lv_iconst (v := 2) hx hb dX9_dig_50 (by decide) ?_
          refine m_ci (va_runV (As := [.int 1, .int 2]) (rest := []) ⟨hx, hb, hml, hown, hts⟩ (c_X9_no l (Z := Z_9) (M := M_10) (th := (if (o_shp Z (nI i)) then 0 else 1)) true 2 hro (r_st_self his) ) (cwV 2 hts gX9_dig_X9_no rfl rfl rfl (by decide +kernel) ⟨Nat.le_of_ble_eq_true rfl, Nat.le_of_ble_eq_true rfl⟩) ⟨m_blind m_B_calling, m_recv hw (m_ent_10 hro.1) rfl, fun U hU hW => ⟨rfl, m_wo_call hw hU hW⟩⟩ rfl rfl hl.1 rfl (lv_room (Nat.le_of_ble_eq_true rfl)) dX9_dig_51 ⟨Nat.le_of_ble_eq_true rfl, Nat.le_of_ble_eq_true rfl⟩) hw (fun r_51 u_51 H locs hp_51 hw => ?_)
          obtain ⟨I_13, A_14⟩ := u_51
          have hw : m_wo G K I_13 R F A_14 N L T J D s H locs := hw
          dsimp only at hp_51
          have his := r_st_tr his hp_51.1
          obtain rfl : r_51 = (b2i (!true)) := hp_51.2
          refine lv_if_eq (tgt := 59) hx hb dX9_dig_54 (by decide) (fun c_54 => ?_) (fun c_54 => absurd (by decide) c_54)
          refine lv_aload_n hx hb dX9_dig_59 rfl (lv_at hl 0 rfl) ?_
          refine g_10_18 (r := some (ad 18)) hx hb hts (by decide +kernel) hown hw hro.1 (hts (.fieldLink RX9 44 "PirateindexModel" "stands" "[I") (by decide +kernel)) (hro.2.1 18 rfl).1 dX9_dig_60 ?_
          refine lv_iload_n hx hb dX9_dig_63 rfl (lv_at hl 1 rfl) ?_
          refine m_iaload_20 hx hb hw (hro.2.1 18 rfl).2.1 (r_in hro 18 rfl (n := 5) rfl (by omega)) dX9_dig_64 ?_
          rw [show A_14 (ad 18) = M_10 18 from his.2.1 18 rfl]
          rw [nI_clamp (show i < 2 ^ 31 by omega)]
          rw [show M_10 18 i = (nI q) from by have h9 : M_10 18 = M 18 := (hsM_10.2 18 (by decide) (by decide) (by decide) (by decide)); simp [m1, h9, hat]]
          refine lv_istore_n (lv' := [(2, .int (nI q)), (0, .ref o), (1, .int (nI i))]) hx hb dX9_dig_65 rfl hl (by decide) rfl (fun ls hl => ?_)
          refine lv_aload_n hx hb dX9_dig_66 rfl (lv_at hl 1 rfl) ?_
          refine g_10_10 (r := some (ad 10)) hx hb hts (by decide +kernel) hown hw hro.1 (hts (.fieldLink RX9 19 "PirateindexModel" "taken" "[Z") (by decide +kernel)) (hro.2.1 10 rfl).1 dX9_dig_67 ?_
          refine lv_iload_n hx hb dX9_dig_70 rfl (lv_at hl 0 rfl) ?_
          refine lv_iconst (v := 1) hx hb dX9_dig_71 (by decide) ?_
          refine m_bastore_30 hx hb hw (hro.2.1 10 rfl).2.1 (r_in hro 10 rfl (n := 12) rfl (by omega)) (Or.inr rfl) dX9_dig_72 (fun H locs hw => ?_)
          obtain ⟨A_15, eA_15⟩ : ∃ z, z = m_up A_14 (ad 10) (upd (A_14 (ad 10)) (nI q).toNatClampNeg 1) := ⟨_, rfl⟩
          rw [← eA_15] at hw
          obtain ⟨M_16, eM_16⟩ : ∃ z, z = m1 M_10 10 q 1 := ⟨_, rfl⟩
          have his : r_st K o ad I A I_13 A_15 Z_9 M_16 0 := by rw [eA_15, eM_16, nI_clamp (show q < 2 ^ 31 by omega)]; exact r_st_m his hro 10 rfl q 1
          refine lv_aload_n hx hb dX9_dig_73 rfl (lv_at hl 1 rfl) ?_
          refine g_10_21 (r := some (ad 21)) hx hb hts (by decide +kernel) hown hw hro.1 (hts (.fieldLink RX9 53 "PirateindexModel" "took" "[I") (by decide +kernel)) (hro.2.1 21 rfl).1 dX9_dig_74 ?_
          refine lv_iload_n hx hb dX9_dig_77 rfl (lv_at hl 2 rfl) ?_
          refine lv_aload_n hx hb dX9_dig_78 rfl (lv_at hl 1 rfl) ?_
          refine g_10_9 (r := some (ad 9)) hx hb hts (by decide +kernel) hown hw hro.1 (hts (.fieldLink RX9 16 "PirateindexModel" "treasure" "[I") (by decide +kernel)) (hro.2.1 9 rfl).1 dX9_dig_79 ?_
          refine lv_iload_n hx hb dX9_dig_82 rfl (lv_at hl 0 rfl) ?_
          refine m_iaload_20 hx hb hw (hro.2.1 9 rfl).2.1 (r_in hro 9 rfl (n := 12) rfl (by omega)) dX9_dig_83 ?_
          rw [show A_15 (ad 9) = M_16 9 from his.2.1 9 rfl]
          rw [nI_clamp (show q < 2 ^ 31 by omega)]
          rw [show M_16 9 q = (M 9 q) from by have h9 : M_10 9 = M 9 := (hsM_10.2 9 (by decide) (by decide) (by decide) (by decide)); simp [eM_16, m1, h9]]
          refine m_iastore_20 hx hb hw (hro.2.1 21 rfl).2.1 (r_in hro 21 rfl (n := 5) rfl (by omega))  dX9_dig_84 (fun H locs hw => ?_)
          obtain ⟨A_17, eA_17⟩ : ∃ z, z = m_up A_15 (ad 21) (upd (A_15 (ad 21)) (nI i).toNatClampNeg (M 9 q)) := ⟨_, rfl⟩
          rw [← eA_17] at hw
          obtain ⟨M_18, eM_18⟩ : ∃ z, z = m1 M_16 21 i (M 9 q) := ⟨_, rfl⟩
          have his : r_st K o ad I A I_13 A_17 Z_9 M_18 0 := by rw [eA_17, eM_18, nI_clamp (show i < 2 ^ 31 by omega)]; exact r_st_m his hro 21 rfl i (M 9 q)
          refine lv_aload_n hx hb dX9_dig_85 rfl (lv_at hl 1 rfl) ?_
          refine g_10_19 (r := some (ad 19)) hx hb hts (by decide +kernel) hown hw hro.1 (hts (.fieldLink RX9 47 "PirateindexModel" "purse" "[I") (by decide +kernel)) (hro.2.1 19 rfl).1 dX9_dig_86 ?_
          refine lv_iload_n hx hb dX9_dig_89 rfl (lv_at hl 2 rfl) ?_
          refine lv_dup2_11 hx hb dX9_dig_90 rfl rfl ?_
          refine m_iaload_20 hx hb hw (hro.2.1 19 rfl).2.1 (r_in hro 19 rfl (n := 5) rfl (by omega)) dX9_dig_91 ?_
          rw [show A_17 (ad 19) = M_18 19 from his.2.1 19 rfl]
          rw [nI_clamp (show i < 2 ^ 31 by omega)]
          rw [show M_18 19 i = (M 19 i) from by have h9 : M_10 19 = M 19 := (hsM_10.2 19 (by decide) (by decide) (by decide) (by decide)); simp [eM_16, eM_18, m1, h9]]
          refine lv_aload_n hx hb dX9_dig_92 rfl (lv_at hl 1 rfl) ?_
          refine g_10_9 (r := some (ad 9)) hx hb hts (by decide +kernel) hown hw hro.1 (hts (.fieldLink RX9 16 "PirateindexModel" "treasure" "[I") (by decide +kernel)) (hro.2.1 9 rfl).1 dX9_dig_93 ?_
          refine lv_iload_n hx hb dX9_dig_96 rfl (lv_at hl 0 rfl) ?_
          refine m_iaload_20 hx hb hw (hro.2.1 9 rfl).2.1 (r_in hro 9 rfl (n := 12) rfl (by omega)) dX9_dig_97 ?_
          rw [show A_17 (ad 9) = M_18 9 from his.2.1 9 rfl]
          rw [nI_clamp (show q < 2 ^ 31 by omega)]
          rw [show M_18 9 q = (M 9 q) from by have h9 : M_10 9 = M 9 := (hsM_10.2 9 (by decide) (by decide) (by decide) (by decide)); simp [eM_16, eM_18, m1, h9]]
          refine lv_iadd hx hb dX9_dig_98 ?_
          refine m_iastore_20 hx hb hw (hro.2.1 19 rfl).2.1 (r_in hro 19 rfl (n := 5) rfl (by omega))  dX9_dig_99 (fun H locs hw => ?_)
          obtain ⟨A_19, eA_19⟩ : ∃ z, z = m_up A_17 (ad 19) (upd (A_17 (ad 19)) (nI i).toNatClampNeg ((M 19 i) + (M 9 q))) := ⟨_, rfl⟩
          rw [← eA_19] at hw
          obtain ⟨M_20, eM_20⟩ : ∃ z, z = m1 M_18 19 i ((M 19 i) + (M 9 q)) := ⟨_, rfl⟩
          have his : r_st K o ad I A I_13 A_19 Z_9 M_20 0 := by rw [eA_19, eM_20, nI_clamp (show i < 2 ^ 31 by omega)]; exact r_st_m his hro 19 rfl i ((M 19 i) + (M 9 q))
          refine lv_aload_n hx hb dX9_dig_100 rfl (lv_at hl 1 rfl) ?_
          refine g_10_9 (r := some (ad 9)) hx hb hts (by decide +kernel) hown hw hro.1 (hts (.fieldLink RX9 16 "PirateindexModel" "treasure" "[I") (by decide +kernel)) (hro.2.1 9 rfl).1 dX9_dig_101 ?_
          refine lv_iload_n hx hb dX9_dig_104 rfl (lv_at hl 0 rfl) ?_
          refine m_iaload_20 hx hb hw (hro.2.1 9 rfl).2.1 (r_in hro 9 rfl (n := 12) rfl (by omega)) dX9_dig_105 ?_
          rw [show A_19 (ad 9) = M_20 9 from his.2.1 9 rfl]
          rw [nI_clamp (show q < 2 ^ 31 by omega)]
          rw [show M_20 9 q = (M 9 q) from by have h9 : M_10 9 = M 9 := (hsM_10.2 9 (by decide) (by decide) (by decide) (by decide)); simp [eM_16, eM_18, eM_20, m1, h9]]
          exact W.iret (v := (M 9 q)) hx hb hr (fun t ht hW => ⟨⟨(M 9 q), (I_13, A_19), rfl, (by have ht : t_dig Z M (nI i) = 0 := (by simp [t_dig, q_10, hci, hd9]); rw [ht, if_pos rfl]; refine ⟨⟨Z_9, M_20, his, ?_⟩, fun _ => (by simp only [hci, hat, hcq])⟩; have h9 := o_sc_m1 (o_sc_m1 (o_sc_m1 hsM_10 10 q 1) 21 i (M 9 q)) 19 i (M 19 i + M 9 q); unfold p_dig; simp only [hci, hat, hcq]; simpa only [eM_16, eM_18, eM_20] using h9), m_wo_out hw ht hW.alike⟩, m_wo_F hw ht⟩) (m_wo_L hw) dX9_dig_106

