def t_hit (Z : mZ) (M : mM) (nf ni nt : Nat) (v pl : Int32) : Int32 := if o_shp Z v = true then (if 0 < Z 29 then (if o_rank Z M nf ni nt v.toNatClampNeg pl ni = -1 then 3 else 0) else 2) else 1
set_option maxHeartbeats 400000 in
set_option maxRecDepth 100000 in
theorem c_X9_hit (l : Launch) {G : mG} {K : Nat → Nat} {I : Nat → Nat → Int32} {R : Nat → Nat → Option Nat} {F : Nat → UInt32} {A : Nat → Nat → Int32} {N : Nat → Nat} {L : Nat → List Nat} {T : Nat → List Int32} {J : Nat → Nat → Int64} {D : Nat → Nat → UInt64} {o : Nat} {ad : Nat → Nat} {Z : Nat → Int32} {M : Nat → Nat → Int32} {th : Int32} {nf ni nt ns : Nat} (v pl : Int32) (hro : r_ok K R N o ad) (hz : r_st K o ad I A I A Z M th) (hnf : Z 1 = nI nf) (hn : nf ≤ 120) (hni : Z 0 = nI ni) (hn12 : ni ≤ 12) (hnt : Z 29 = nI nt) (h4t : nt ≤ 4) (hgt : ∀ k, 1 ≤ k → k < nt → ∃ g, g ≤ 9 ∧ M 26 k = nI g) (hlt : ∀ i : Int32, o_hitT Z M i < 2 ^ 31) (hns : Z 2 = nI ns) (hn5 : ns ≤ 5) (hne : 0 < Z 29 → o_nan (o_askT (Z, M)).1 (o_askT (Z, M)).2 nf ni nt) (hw9 : ∀ s, s < ns → o_shW M s) : Met l yX9_hit wsX9_hit ({ frames := 6, cells := 0, slots := 0, locals := 190 } : Room) (va_Pc [.ref o, .int v, .int pl] (m_B G K I R F A N L T J D)) (va_Qi (fun (r : Int32) (u : (Nat → Nat → Int32) × (Nat → Nat → Int32)) => (∃ (Z' : Nat → Int32) (M' : Nat → Nat → Int32), r_st K o ad I A u.1 u.2 Z' M' (t_hit Z M nf ni nt v pl) ∧ o_sc (Z, M) (Z', M')) ∧ (t_hit Z M nf ni nt v pl = 0 → r = o_rank Z M nf ni nt v.toNatClampNeg pl ni)) (fun u : (Nat → Nat → Int32) × (Nat → Nat → Int32) => m_B G K (u.1) R F (u.2) N L T J D) (m_A G)) 0 0 (m_A G) := by
  refine Met.ofW (cc := cX9_hit) (maxL := 4) (ret := (some .int)) (by decide) rfl ?_
  intro p e s m args below meth c s₁ B hml hv
  obtain ⟨rfl, hB⟩ := hv
  have hx := B.exec
  have hb := B.bytes
  have hr := B.returns
  have hts := atoms_spec (ws := wsX9_hit) B.pre
  have hown : s.vm.findClass RX9 = some m.cls := findClass_of_methodNamed B.named
  have hlocks := B.notSynchronized
  have hw := m_wo_in hB
  have hl := lv_entry ([.ref o, .int v, .int pl]) (n := 4) (Nat.le_of_ble_eq_true rfl)
  rw [lg_entry_eq]
  generalize (lg_sl ([.ref o, .int v, .int pl]) ++ List.replicate (4 - (lg_sl ([.ref o, .int v, .int pl])).length) Slot.unset).toArray = ls at hl ⊢
  have hl : lv_has ls 4 [(0, .ref o), (1, .int v), (2, .int pl)] := hl
  have his := hz
  refine lv_aload_n hx hb dX9_hit_0 rfl (lv_at hl 0 rfl) ?_
  refine lv_aload_n hx hb dX9_hit_1 rfl (lv_at hl 0 rfl) ?_
  refine lv_iload_n hx hb dX9_hit_2 rfl (lv_at hl 1 rfl) ?_
  refine m_ci (va_runV (As := [.int v]) (rest := [.ref o]) ⟨hx, hb, hml, hown, hts⟩ (c_X9_isShip l (Z := Z) (M := M) (th := th) v hro (r_st_self his) ) (cwV 1 hts gX9_hit_X9_isShip rfl rfl rfl (by decide +kernel) ⟨Nat.le_of_ble_eq_true rfl, Nat.le_of_ble_eq_true rfl⟩) ⟨m_blind m_B_calling, m_recv hw (m_ent_10 hro.1) rfl, fun U hU hW => ⟨rfl, m_wo_call hw hU hW⟩⟩ rfl rfl hl.1 rfl (lv_room (Nat.le_of_ble_eq_true rfl)) dX9_hit_3 ⟨Nat.le_of_ble_eq_true rfl, Nat.le_of_ble_eq_true rfl⟩) hw (fun r_3 u_3 H locs hp_3 hw => ?_)
  obtain rfl : r_3 = (b2i (o_shp Z v)) := hp_3
  refine lv_iconst (v := 1) hx hb dX9_hit_6 (by decide) ?_
  refine m_ci (va_runV (As := [.int (b2i (o_shp Z v)), .int 1]) (rest := []) ⟨hx, hb, hml, hown, hts⟩ (c_X9_no l (Z := Z) (M := M) (th := th) (o_shp Z v) 1 hro (r_st_self his) ) (cwV 2 hts gX9_hit_X9_no rfl rfl rfl (by decide +kernel) ⟨Nat.le_of_ble_eq_true rfl, Nat.le_of_ble_eq_true rfl⟩) ⟨m_blind m_B_calling, m_recv hw (m_ent_10 hro.1) rfl, fun U hU hW => ⟨rfl, m_wo_call hw hU hW⟩⟩ rfl rfl hl.1 rfl (lv_room (Nat.le_of_ble_eq_true rfl)) dX9_hit_7 ⟨Nat.le_of_ble_eq_true rfl, Nat.le_of_ble_eq_true rfl⟩) hw (fun r_7 u_7 H locs hp_7 hw => ?_)
  obtain ⟨I_1, A_2⟩ := u_7
  have hw : m_wo G K I_1 R F A_2 N L T J D s H locs := hw
  dsimp only at hp_7
  have his := r_st_tr his hp_7.1
  obtain rfl : r_7 = (b2i (!(o_shp Z v))) := hp_7.2
  refine lv_if_ne (tgt := 33) hx hb dX9_hit_10 (by decide) (fun c_10 => ?_) (fun c_10 => ?_)
  · skip
    have q_10 : (o_shp Z v) = false := by first | (have := (b2i_ne _).mp c_10; simpa using this) | (have := (b2i_eq _).mp c_10; simpa using this)
    refine lv_iconst (v := 0) hx hb dX9_hit_33 (by decide) ?_
    exact W.iret (v := 0) hx hb hr (fun t ht hW => ⟨⟨0, (I_1, A_2), rfl, (by have ht : t_hit Z M nf ni nt v pl = 1 := (by simp [t_hit, q_10]); have hth : ((if (o_shp Z v) then 0 else 1) : Int32) = 1 := (by first | rfl | simp [q_10]); rw [hth] at his; rw [ht]; exact ⟨⟨Z, M, his, o_sc_rf _⟩, fun h => absurd h (by decide)⟩), m_wo_out hw ht hW.alike⟩, m_wo_F hw ht⟩) (m_wo_L hw) dX9_hit_34
  · skip
    have q_10 : (o_shp Z v) = true := by first | (have := (b2i_ne _).mp c_10; simpa using this) | (have := (b2i_eq _).mp c_10; simpa using this)
    refine lv_aload_n hx hb dX9_hit_13 rfl (lv_at hl 0 rfl) ?_
    refine lv_aload_n hx hb dX9_hit_14 rfl (lv_at hl 0 rfl) ?_
    refine g_10_29 hx hb hts (by decide +kernel) hown hw hro.1 (hts (.fieldLink RX9 170 "PirateindexModel" "typed" "I") (by decide +kernel)) dX9_hit_15 ?_
    rw [show I_1 1029 o = Z 29 from his.1 29 (by decide)]
    refine lv_if_le (tgt := 25) hx hb dX9_hit_18 (by decide) (fun c_18 => ?_) (fun c_18 => ?_)
    · skip
      have htp : ¬ 0 < Z 29 := Int32.not_lt.mpr c_18
      refine lv_iconst (v := 0) hx hb dX9_hit_25 (by decide) ?_
      refine lv_iconst (v := 2) hx hb dX9_hit_26 (by decide) ?_
      refine m_ci (va_runV (As := [.int 0, .int 2]) (rest := []) ⟨hx, hb, hml, hown, hts⟩ (c_X9_no l (Z := Z) (M := M) (th := (if (o_shp Z v) then 0 else 1)) false 2 hro (r_st_self his) ) (cwV 2 hts gX9_hit_X9_no rfl rfl rfl (by decide +kernel) ⟨Nat.le_of_ble_eq_true rfl, Nat.le_of_ble_eq_true rfl⟩) ⟨m_blind m_B_calling, m_recv hw (m_ent_10 hro.1) rfl, fun U hU hW => ⟨rfl, m_wo_call hw hU hW⟩⟩ rfl rfl hl.1 rfl (lv_room (Nat.le_of_ble_eq_true rfl)) dX9_hit_27 ⟨Nat.le_of_ble_eq_true rfl, Nat.le_of_ble_eq_true rfl⟩) hw (fun r_27 u_27 H locs hp_27 hw => ?_)
      obtain ⟨I_3, A_4⟩ := u_27
      have hw : m_wo G K I_3 R F A_4 N L T J D s H locs := hw
      dsimp only at hp_27
      have his := r_st_tr his hp_27.1
      obtain rfl : r_27 = (b2i (!false)) := hp_27.2
      refine lv_if_eq (tgt := 35) hx hb dX9_hit_30 (by decide) (fun c_30 => absurd c_30 (by decide)) (fun c_30 => ?_)
      refine lv_iconst (v := 0) hx hb dX9_hit_33 (by decide) ?_
      exact W.iret (v := 0) hx hb hr (fun t ht hW => ⟨⟨0, (I_3, A_4), rfl, (by have ht : t_hit Z M nf ni nt v pl = 2 := (by simp [t_hit, q_10, htp]); have hth : (2 : Int32) = 2 := (by first | rfl | simp [q_10, htp]); rw [hth] at his; rw [ht]; exact ⟨⟨Z, M, his, o_sc_rf _⟩, fun h => absurd h (by decide)⟩), m_wo_out hw ht hW.alike⟩, m_wo_F hw ht⟩) (m_wo_L hw) dX9_hit_34
    · skip
      have htp : 0 < Z 29 := Int32.not_le.mp c_18
      refine lv_iconst (v := 1) hx hb dX9_hit_21 (by decide) ?_
      refine lv_goto (tgt := 26) hx hb dX9_hit_22 (by decide) ?_
      refine lv_iconst (v := 2) hx hb dX9_hit_26 (by decide) ?_
      refine m_ci (va_runV (As := [.int 1, .int 2]) (rest := []) ⟨hx, hb, hml, hown, hts⟩ (c_X9_no l (Z := Z) (M := M) (th := (if (o_shp Z v) then 0 else 1)) true 2 hro (r_st_self his) ) (cwV 2 hts gX9_hit_X9_no rfl rfl rfl (by decide +kernel) ⟨Nat.le_of_ble_eq_true rfl, Nat.le_of_ble_eq_true rfl⟩) ⟨m_blind m_B_calling, m_recv hw (m_ent_10 hro.1) rfl, fun U hU hW => ⟨rfl, m_wo_call hw hU hW⟩⟩ rfl rfl hl.1 rfl (lv_room (Nat.le_of_ble_eq_true rfl)) dX9_hit_27 ⟨Nat.le_of_ble_eq_true rfl, Nat.le_of_ble_eq_true rfl⟩) hw (fun r_27 u_27 H locs hp_27 hw => ?_)
      obtain ⟨I_5, A_6⟩ := u_27
      have hw : m_wo G K I_5 R F A_6 N L T J D s H locs := hw
      dsimp only at hp_27
      have his := r_st_tr his hp_27.1
      obtain rfl : r_27 = (b2i (!true)) := hp_27.2
      refine lv_if_eq (tgt := 35) hx hb dX9_hit_30 (by decide) (fun c_30 => ?_) (fun c_30 => absurd (by decide) c_30)
      have hisK := his
      obtain ⟨i, hi, rfl⟩ := o_shp_nat q_10 hns (by omega)
      have his := hisK
      obtain ⟨⟨q, hq, hat⟩, _⟩ := hw9 i hi
      have hci : (nI i).toNatClampNeg = i := nI_clamp (by omega)
      refine lv_aload_n hx hb dX9_hit_35 rfl (lv_at hl 0 rfl) ?_
      refine lv_iload_n hx hb dX9_hit_36 rfl (lv_at hl 1 rfl) ?_
      refine lv_iload_n hx hb dX9_hit_37 rfl (lv_at hl 2 rfl) ?_
      refine m_ci (va_runV (As := [.int (nI i), .int pl]) (rest := []) ⟨hx, hb, hml, hown, hts⟩ (c_X9_ranked l (Z := Z) (M := M) (th := 0) i pl hro (r_st_self his) hnf hn hni hn12 hnt h4t hgt hlt (hne htp) (by omega) hat hq htp) (cwV 2 hts gX9_hit_X9_ranked rfl rfl rfl (by decide +kernel) ⟨Nat.le_of_ble_eq_true rfl, Nat.le_of_ble_eq_true rfl⟩) ⟨m_blind m_B_calling, m_recv hw (m_ent_10 hro.1) rfl, fun U hU hW => ⟨rfl, m_wo_call hw hU hW⟩⟩ rfl rfl hl.1 rfl (lv_room (Nat.le_of_ble_eq_true rfl)) dX9_hit_38 ⟨Nat.le_of_ble_eq_true rfl, Nat.le_of_ble_eq_true rfl⟩) hw (fun r_38 u_38 H locs hp_38 hw => ?_)
      obtain ⟨I_7, A_8⟩ := u_38
      have hw : m_wo G K I_7 R F A_8 N L T J D s H locs := hw
      dsimp only at hp_38
      obtain ⟨⟨Z_9, M_10, hiM_10, hsM_10⟩, hrM_10⟩ := hp_38
      have his := r_st_tr his hiM_10
      obtain rfl : r_38 = (o_rank Z M nf ni nt i pl ni) := hrM_10
      refine lv_istore_n (lv' := [(3, .int (o_rank Z M nf ni nt i pl ni)), (0, .ref o), (1, .int (nI i)), (2, .int pl)]) hx hb dX9_hit_41 rfl hl (by decide) rfl (fun ls hl => ?_)
      refine lv_aload_n hx hb dX9_hit_42 rfl (lv_at hl 1 rfl) ?_
      refine lv_iload_n hx hb dX9_hit_43 rfl (lv_at hl 0 rfl) ?_
      refine lv_iconst (v := (-1)) hx hb dX9_hit_44 (by decide) ?_
      refine lv_icmp_eq (tgt := 52) hx hb dX9_hit_45 (by decide) (fun c_45 => ?_) (fun c_45 => ?_)
      · skip
        refine lv_iconst (v := 0) hx hb dX9_hit_52 (by decide) ?_
        refine lv_iconst (v := 3) hx hb dX9_hit_53 (by decide) ?_
        refine m_ci (va_runV (As := [.int 0, .int 3]) (rest := []) ⟨hx, hb, hml, hown, hts⟩ (c_X9_no l (Z := Z_9) (M := M_10) (th := 0) false 3 hro (r_st_self his) ) (cwV 2 hts gX9_hit_X9_no rfl rfl rfl (by decide +kernel) ⟨Nat.le_of_ble_eq_true rfl, Nat.le_of_ble_eq_true rfl⟩) ⟨m_blind m_B_calling, m_recv hw (m_ent_10 hro.1) rfl, fun U hU hW => ⟨rfl, m_wo_call hw hU hW⟩⟩ rfl rfl hl.1 rfl (lv_room (Nat.le_of_ble_eq_true rfl)) dX9_hit_54 ⟨Nat.le_of_ble_eq_true rfl, Nat.le_of_ble_eq_true rfl⟩) hw (fun r_54 u_54 H locs hp_54 hw => ?_)
        obtain ⟨I_11, A_12⟩ := u_54
        have hw : m_wo G K I_11 R F A_12 N L T J D s H locs := hw
        dsimp only at hp_54
        have his := r_st_tr his hp_54.1
        obtain rfl : r_54 = (b2i (!false)) := hp_54.2
        refine lv_if_eq (tgt := 64) hx hb dX9_hit_57 (by decide) (fun c_57 => absurd c_57 (by decide)) (fun c_57 => ?_)
        refine lv_iconst (v := 0) hx hb dX9_hit_60 (by decide) ?_
        refine lv_goto (tgt := 65) hx hb dX9_hit_61 (by decide) ?_
        exact W.iret (v := 0) hx hb hr (fun t ht hW => ⟨⟨0, (I_11, A_12), rfl, (by have ht : t_hit Z M nf ni nt (nI i) pl = 3 := (by simp [t_hit, q_10, htp, hci, c_45]); have hth : (3 : Int32) = 3 := (by first | rfl | simp [c_45]); rw [hth] at his; rw [ht]; exact ⟨⟨Z_9, M_10, his, hsM_10⟩, fun h => absurd h (by decide)⟩), m_wo_out hw ht hW.alike⟩, m_wo_F hw ht⟩) (m_wo_L hw) dX9_hit_65
      · skip
        refine lv_iconst (v := 1) hx hb dX9_hit_48 (by decide) ?_
        refine lv_goto (tgt := 53) hx hb dX9_hit_49 (by decide) ?_
        refine lv_iconst (v := 3) hx hb dX9_hit_53 (by decide) ?_
        refine m_ci (va_runV (As := [.int 1, .int 3]) (rest := []) ⟨hx, hb, hml, hown, hts⟩ (c_X9_no l (Z := Z_9) (M := M_10) (th := 0) true 3 hro (r_st_self his) ) (cwV 2 hts gX9_hit_X9_no rfl rfl rfl (by decide +kernel) ⟨Nat.le_of_ble_eq_true rfl, Nat.le_of_ble_eq_true rfl⟩) ⟨m_blind m_B_calling, m_recv hw (m_ent_10 hro.1) rfl, fun U hU hW => ⟨rfl, m_wo_call hw hU hW⟩⟩ rfl rfl hl.1 rfl (lv_room (Nat.le_of_ble_eq_true rfl)) dX9_hit_54 ⟨Nat.le_of_ble_eq_true rfl, Nat.le_of_ble_eq_true rfl⟩) hw (fun r_54 u_54 H locs hp_54 hw => ?_)
        obtain ⟨I_13, A_14⟩ := u_54
        have hw : m_wo G K I_13 R F A_14 N L T J D s H locs := hw
        dsimp only at hp_54
        have his := r_st_tr his hp_54.1
        obtain rfl : r_54 = (b2i (!true)) := hp_54.2
        refine lv_if_eq (tgt := 64) hx hb dX9_hit_57 (by decide) (fun c_57 => ?_) (fun c_57 => absurd (by decide) c_57)
        refine lv_iload_n hx hb dX9_hit_64 rfl (lv_at hl 0 rfl) ?_
        exact W.iret (v := (o_rank Z M nf ni nt i pl ni)) hx hb hr (fun t ht hW => ⟨⟨(o_rank Z M nf ni nt i pl ni), (I_13, A_14), rfl, (by have ht : t_hit Z M nf ni nt (nI i) pl = 0 := (by simp [t_hit, q_10, htp, hci, c_45]); have hth : (0 : Int32) = 0 := (by first | rfl | simp [c_45]); rw [hth] at his; rw [ht]; exact ⟨⟨Z_9, M_10, his, hsM_10⟩, fun _ => by first | rfl | rw [hci]⟩), m_wo_out hw ht hW.alike⟩, m_wo_F hw ht⟩) (m_wo_L hw) dX9_hit_65

