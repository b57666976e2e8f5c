def t_typed (b : Bool) (Z : mZ) : Int32 := if b = true then (if 0 < Z 29 then 0 else 2) else 1
theorem o_askK_28 (S : mS) {n k sh : Nat} (h : S.2 22 sh = nI n) (hn : n ≤ 4) (hk : k < n) : (o_askK S sh).2 28 k = S.2 24 (4 * sh + k) := by
  unfold o_askK
  dsimp only
  rw [mset_s, h, nI_clamp (by omega)]
  exact if_pos hk
theorem o_askK_30 (S : mS) {n sh : Nat} (h : S.2 22 sh = nI n) : (o_askK S sh).1 30 = nI n := (z1_s S.1 30 _).trans h
/-- the hits by a ship's kept map where it stands -/
def o_still (Z : mZ) (M : mM) (sh : Nat) : Nat := o_hitsOn (o_askK (Z, M) sh).1 (o_askK (Z, M) sh).2 (M 18 sh)
set_option maxHeartbeats 400000 in
set_option maxRecDepth 100000 in
theorem c_X9_count (l : Launch) {G : mG} {K : Nat → Nat} {I : Nat → Nat → Int32} {R : Nat → Nat → Option Nat} {F : Nat → UInt32} {A : Nat → Nat → Int32} {N : Nat → Nat} {L : Nat → List Nat} {T : Nat → List Int32} {J : Nat → Nat → Int64} {D : Nat → Nat → UInt64} {o : Nat} {ad : Nat → Nat} {Z : Nat → Int32} {M : Nat → Nat → Int32} {th : Int32} {nf ni nt : Nat} (v : Int32) (hro : r_ok K R N o ad) (hz : r_st K o ad I A I A Z M th) (hnf : Z 1 = nI nf) (hn : nf ≤ 120) (hni : Z 0 = nI ni) (hn12 : ni ≤ 12) (hnt : Z 29 = nI nt) (h4t : nt ≤ 4) (hgt : ∀ k, 1 ≤ k → k < nt → ∃ g, g ≤ 9 ∧ M 26 k = nI g) (hlt : ∀ i : Int32, o_hitT Z M i < 2 ^ 31) : Met l yX9_count wsX9_count ({ frames := 3, cells := 0, slots := 0, locals := 90 } : Room) (va_Pc [.ref o, .int v] (m_B G K I R F A N L T J D)) (va_Qi (fun (r : Int32) (u : (Nat → Nat → Int32) × (Nat → Nat → Int32)) => (∃ (Z' : Nat → Int32) (M' : Nat → Nat → Int32), r_st K o ad I A u.1 u.2 Z' M' (t_typed (o_isl Z v) Z) ∧ o_sc (Z, M) (Z', M')) ∧ (t_typed (o_isl Z v) Z = 0 → r = nI (o_hitT Z M v))) (fun u : (Nat → Nat → Int32) × (Nat → Nat → Int32) => m_B G K (u.1) R F (u.2) N L T J D) (m_A G)) 0 0 (m_A G) := by
  refine Met.ofW (cc := cX9_count) (maxL := 2) (ret := (some .int)) (by decide) rfl ?_
  intro p e s m args below meth c s₁ B hml hv
  obtain ⟨rfl, hB⟩ := hv
  have hx := B.exec
  have hb := B.bytes
  have hr := B.returns
  have hts := atoms_spec (ws := wsX9_count) B.pre
  have hown : s.vm.findClass RX9 = some m.cls := findClass_of_methodNamed B.named
  have hlocks := B.notSynchronized
  have hw := m_wo_in hB
  have hl := lv_entry ([.ref o, .int v]) (n := 2) (Nat.le_of_ble_eq_true rfl)
  rw [lg_entry_eq]
  generalize (lg_sl ([.ref o, .int v]) ++ List.replicate (2 - (lg_sl ([.ref o, .int v])).length) Slot.unset).toArray = ls at hl ⊢
  have hl : lv_has ls 2 [(0, .ref o), (1, .int v)] := hl
  have his := hz
  refine lv_aload_n hx hb dX9_count_0 rfl (lv_at hl 0 rfl) ?_
  refine lv_aload_n hx hb dX9_count_1 rfl (lv_at hl 0 rfl) ?_
  refine lv_iload_n hx hb dX9_count_2 rfl (lv_at hl 1 rfl) ?_
  refine m_ci (va_runV (As := [.int v]) (rest := [.ref o]) ⟨hx, hb, hml, hown, hts⟩ (c_X9_isIsland l (Z := Z) (M := M) (th := th) v hro (r_st_self his) ) (cwV 1 hts gX9_count_X9_isIsland rfl rfl rfl (by decide +kernel) ⟨Nat.le_of_ble_eq_true rfl, Nat.le_of_ble_eq_true rfl⟩) ⟨m_blind m_B_calling, m_recv hw (m_ent_10 hro.1) rfl, fun U hU hW => ⟨rfl, m_wo_call hw hU hW⟩⟩ rfl rfl hl.1 rfl (lv_room (Nat.le_of_ble_eq_true rfl)) dX9_count_3 ⟨Nat.le_of_ble_eq_true rfl, Nat.le_of_ble_eq_true rfl⟩) hw (fun r_3 u_3 H locs hp_3 hw => ?_)
  obtain rfl : r_3 = (b2i (o_isl Z v)) := hp_3
  refine lv_iconst (v := 1) hx hb dX9_count_6 (by decide) ?_
  refine m_ci (va_runV (As := [.int (b2i (o_isl Z v)), .int 1]) (rest := []) ⟨hx, hb, hml, hown, hts⟩ (c_X9_no l (Z := Z) (M := M) (th := th) (o_isl Z v) 1 hro (r_st_self his) ) (cwV 2 hts gX9_count_X9_no rfl rfl rfl (by decide +kernel) ⟨Nat.le_of_ble_eq_true rfl, Nat.le_of_ble_eq_true rfl⟩) ⟨m_blind m_B_calling, m_recv hw (m_ent_10 hro.1) rfl, fun U hU hW => ⟨rfl, m_wo_call hw hU hW⟩⟩ rfl rfl hl.1 rfl (lv_room (Nat.le_of_ble_eq_true rfl)) dX9_count_7 ⟨Nat.le_of_ble_eq_true rfl, Nat.le_of_ble_eq_true rfl⟩) hw (fun r_7 u_7 H locs hp_7 hw => ?_)
  obtain ⟨I_1, A_2⟩ := u_7
  have hw : m_wo G K I_1 R F A_2 N L T J D s H locs := hw
  dsimp only at hp_7
  have his := r_st_tr his hp_7.1
  obtain rfl : r_7 = (b2i (!(o_isl Z v))) := hp_7.2
  refine lv_if_ne (tgt := 33) hx hb dX9_count_10 (by decide) (fun c_10 => ?_) (fun c_10 => ?_)
  · skip
    have q_10 : (o_isl Z v) = false := by first | (have := (b2i_ne _).mp c_10; simpa using this) | (have := (b2i_eq _).mp c_10; simpa using this)
    refine lv_iconst (v := 0) hx hb dX9_count_33 (by decide) ?_
    exact W.iret (v := 0) hx hb hr (fun t ht hW => ⟨⟨0, (I_1, A_2), rfl, (by have ht : t_typed (o_isl Z v) Z = 1 := (by simp [t_typed, q_10]); have hth : ((if (o_isl Z v) then 0 else 1) : Int32) = 1 := (by first | rfl | simp [q_10]); rw [hth] at his; rw [ht]; exact ⟨⟨Z, M, his, o_sc_rf _⟩, fun h => absurd h (by decide)⟩), m_wo_out hw ht hW.alike⟩, m_wo_F hw ht⟩) (m_wo_L hw) dX9_count_34
  · skip
    have q_10 : (o_isl Z v) = true := by first | (have := (b2i_ne _).mp c_10; simpa using this) | (have := (b2i_eq _).mp c_10; simpa using this)
    refine lv_aload_n hx hb dX9_count_13 rfl (lv_at hl 0 rfl) ?_
    refine lv_aload_n hx hb dX9_count_14 rfl (lv_at hl 0 rfl) ?_
    refine g_10_29 hx hb hts (by decide +kernel) hown hw hro.1 (hts (.fieldLink RX9 170 "PirateindexModel" "typed" "I") (by decide +kernel)) dX9_count_15 ?_
    rw [show I_1 1029 o = Z 29 from his.1 29 (by decide)]
    refine lv_if_le (tgt := 25) hx hb dX9_count_18 (by decide) (fun c_18 => ?_) (fun c_18 => ?_)
    · skip
      have htp : ¬ 0 < Z 29 := Int32.not_lt.mpr c_18
      refine lv_iconst (v := 0) hx hb dX9_count_25 (by decide) ?_
      refine lv_iconst (v := 2) hx hb dX9_count_26 (by decide) ?_
      refine m_ci (va_runV (As := [.int 0, .int 2]) (rest := []) ⟨hx, hb, hml, hown, hts⟩ (c_X9_no l (Z := Z) (M := M) (th := (if (o_isl Z v) then 0 else 1)) false 2 hro (r_st_self his) ) (cwV 2 hts gX9_count_X9_no rfl rfl rfl (by decide +kernel) ⟨Nat.le_of_ble_eq_true rfl, Nat.le_of_ble_eq_true rfl⟩) ⟨m_blind m_B_calling, m_recv hw (m_ent_10 hro.1) rfl, fun U hU hW => ⟨rfl, m_wo_call hw hU hW⟩⟩ rfl rfl hl.1 rfl (lv_room (Nat.le_of_ble_eq_true rfl)) dX9_count_27 ⟨Nat.le_of_ble_eq_true rfl, Nat.le_of_ble_eq_true rfl⟩) hw (fun r_27 u_27 H locs hp_27 hw => ?_)
      obtain ⟨I_3, A_4⟩ := u_27
      have hw : m_wo G K I_3 R F A_4 N L T J D s H locs := hw
      dsimp only at hp_27
      have his := r_st_tr his hp_27.1
      obtain rfl : r_27 = (b2i (!false)) := hp_27.2
      refine lv_if_eq (tgt := 35) hx hb dX9_count_30 (by decide) (fun c_30 => absurd c_30 (by decide)) (fun c_30 => ?_)
      refine lv_iconst (v := 0) hx hb dX9_count_33 (by decide) ?_
      exact W.iret (v := 0) hx hb hr (fun t ht hW => ⟨⟨0, (I_3, A_4), rfl, (by have ht : t_typed (o_isl Z v) Z = 2 := (by simp [t_typed, q_10, htp]); have hth : (2 : Int32) = 2 := (by first | rfl | simp [q_10, htp]); rw [hth] at his; rw [ht]; exact ⟨⟨Z, M, his, o_sc_rf _⟩, fun h => absurd h (by decide)⟩), m_wo_out hw ht hW.alike⟩, m_wo_F hw ht⟩) (m_wo_L hw) dX9_count_34
    · skip
      have htp : 0 < Z 29 := Int32.not_le.mp c_18
      refine lv_iconst (v := 1) hx hb dX9_count_21 (by decide) ?_
      refine lv_goto (tgt := 26) hx hb dX9_count_22 (by decide) ?_
      refine lv_iconst (v := 2) hx hb dX9_count_26 (by decide) ?_
      refine m_ci (va_runV (As := [.int 1, .int 2]) (rest := []) ⟨hx, hb, hml, hown, hts⟩ (c_X9_no l (Z := Z) (M := M) (th := (if (o_isl Z v) then 0 else 1)) true 2 hro (r_st_self his) ) (cwV 2 hts gX9_count_X9_no rfl rfl rfl (by decide +kernel) ⟨Nat.le_of_ble_eq_true rfl, Nat.le_of_ble_eq_true rfl⟩) ⟨m_blind m_B_calling, m_recv hw (m_ent_10 hro.1) rfl, fun U hU hW => ⟨rfl, m_wo_call hw hU hW⟩⟩ rfl rfl hl.1 rfl (lv_room (Nat.le_of_ble_eq_true rfl)) dX9_count_27 ⟨Nat.le_of_ble_eq_true rfl, Nat.le_of_ble_eq_true rfl⟩) hw (fun r_27 u_27 H locs hp_27 hw => ?_)
      obtain ⟨I_5, A_6⟩ := u_27
      have hw : m_wo G K I_5 R F A_6 N L T J D s H locs := hw
      dsimp only at hp_27
      have his := r_st_tr his hp_27.1
      obtain rfl : r_27 = (b2i (!true)) := hp_27.2
      refine lv_if_eq (tgt := 35) hx hb dX9_count_30 (by decide) (fun c_30 => ?_) (fun c_30 => absurd (by decide) c_30)
      refine lv_aload_n hx hb dX9_count_35 rfl (lv_at hl 0 rfl) ?_
      refine m_cv (va_runV (As := []) (rest := []) ⟨hx, hb, hml, hown, hts⟩ (c_X9_asksTyped l (Z := Z) (M := M) (th := 0)  hro (r_st_self his) hnt h4t) (cwV 0 hts gX9_count_X9_asksTyped rfl rfl rfl (by decide +kernel) ⟨Nat.le_of_ble_eq_true rfl, Nat.le_of_ble_eq_true rfl⟩) ⟨m_blind m_B_calling, m_recv hw (m_ent_10 hro.1) rfl, fun U hU hW => ⟨rfl, m_wo_call hw hU hW⟩⟩ rfl rfl hl.1 rfl (lv_room (Nat.le_of_ble_eq_true rfl)) dX9_count_36 ⟨Nat.le_of_ble_eq_true rfl, Nat.le_of_ble_eq_true rfl⟩) hw (fun u_36 H locs hp_36 hw => ?_)
      obtain ⟨I_7, A_8⟩ := u_36
      have hw : m_wo G K I_7 R F A_8 N L T J D s H locs := hw
      dsimp only at hp_36
      have his := r_st_tr his hp_36.1
      obtain ⟨Z_9, eZ_9⟩ : ∃ z : Nat → Int32, z = (o_askT (Z, M)).1 := ⟨_, rfl⟩
      rw [← eZ_9] at his
      obtain ⟨M_10, eM_10⟩ : ∃ z : Nat → Nat → Int32, z = (o_askT (Z, M)).2 := ⟨_, rfl⟩
      rw [← eM_10] at his
      have hnt1 : 1 ≤ nt := by have h9 := htp; rw [hnt, show (0 : Int32) = nI 0 from rfl, nI_ltI (by decide) (by omega)] at h9; omega
      obtain ⟨Zt, eZt⟩ : ∃ z, z = Z_9 := ⟨_, rfl⟩
      obtain ⟨Mt, eMt⟩ : ∃ z, z = M_10 := ⟨_, rfl⟩
      rw [← eZt, ← eMt] at his
      have eS : (Zt, Mt) = o_askT (Z, M) := by rw [eZt, eMt, eZ_9, eM_10]
      have eZt1 : Zt = (o_askT (Z, M)).1 := congrArg Prod.fst eS
      have eMt1 : Mt = (o_askT (Z, M)).2 := congrArg Prod.snd eS
      have hsc0 : o_sc (Z, M) (Zt, Mt) := by rw [eS]; exact o_sc_askT _
      have hnf9 : Zt 1 = nI nf := (hsc0.1 1 (by decide)).trans hnf
      have hni9 : Zt 0 = nI ni := (hsc0.1 0 (by decide)).trans hni
      have hna9 : Zt 30 = nI nt := by rw [eZt1]; exact o_askT_30 _ hnt
      have hga9 : ∀ k, 1 ≤ k → k < nt → ∃ g, g ≤ 9 ∧ Mt 28 k = nI g := fun k h1 h2 => by rw [eMt1, o_askT_28 _ hnt h4t h2]; exact hgt k h1 h2
      have hht : ∀ i, o_hitsOn Zt Mt i = o_hitT Z M i := fun i => by rw [eZt1, eMt1]; rfl
      have hsc : m_eq Mt Mt := m_eq_rf _
      refine lv_aload_n hx hb dX9_count_39 rfl (lv_at hl 0 rfl) ?_
      refine lv_iload_n hx hb dX9_count_40 rfl (lv_at hl 1 rfl) ?_
      refine m_ci (va_runV (As := [.int v]) (rest := []) ⟨hx, hb, hml, hown, hts⟩ (c_X9_hitsOn l (Z := Zt) (M := Mt) (th := 0) v hro (r_st_self his) hnf9 hn hna9 hnt1 h4t (fun k h1 h2 => by rw [hsc 28 (by decide) (by decide)]; exact hga9 k h1 h2)) (cwV 1 hts gX9_count_X9_hitsOn rfl rfl rfl (by decide +kernel) ⟨Nat.le_of_ble_eq_true rfl, Nat.le_of_ble_eq_true rfl⟩) ⟨m_blind m_B_calling, m_recv hw (m_ent_10 hro.1) rfl, fun U hU hW => ⟨rfl, m_wo_call hw hU hW⟩⟩ rfl rfl hl.1 rfl (lv_room (Nat.le_of_ble_eq_true rfl)) dX9_count_41 ⟨Nat.le_of_ble_eq_true rfl, Nat.le_of_ble_eq_true rfl⟩) hw (fun r_41 u_41 H locs hp_41 hw => ?_)
      obtain ⟨I_11, A_12⟩ := u_41
      have hw : m_wo G K I_11 R F A_12 N L T J D s H locs := hw
      dsimp only at hp_41
      obtain ⟨⟨M_13, hiM_13, hmM_13⟩, hrM_13⟩ := hp_41
      have his := r_st_tr his hiM_13
      obtain rfl : r_41 = (nI (o_hitsOn Zt Mt v)) := hrM_13
      rw [o_hitsOn_eq hsc]
      have hsc := m_eq_tr hsc hmM_13
      exact W.iret (v := (nI (o_hitsOn Zt Mt v))) hx hb hr (fun t ht hW => ⟨⟨(nI (o_hitsOn Zt Mt v)), (I_11, A_12), rfl, (by have ht : t_typed (o_isl Z v) Z = 0 := (by simp [t_typed, htp, q_10, htp]); have hth : (0 : Int32) = 0 := (by first | rfl | simp [q_10, htp]); rw [hth] at his; rw [ht]; exact ⟨⟨Zt, M_13, his, o_sc_m hsc0 hsc⟩, fun _ => (by rw [hht])⟩), m_wo_out hw ht hW.alike⟩, m_wo_F hw ht⟩) (m_wo_L hw) dX9_count_44

set_option maxHeartbeats 400000 in
set_option maxRecDepth 100000 in
theorem c_X9_isStill (l : Launch) {G : mG} {K : Nat → Nat} {I : Nat → Nat → Int32} {R : Nat → Nat → Option Nat} {F : Nat → UInt32} {A : Nat → Nat → Int32} {N : Nat → Nat} {L : Nat → List Nat} {T : Nat → List Int32} {J : Nat → Nat → Int64} {D : Nat → Nat → UInt64} {o : Nat} {ad : Nat → Nat} {Z : Nat → Int32} {M : Nat → Nat → Int32} {th : Int32} {nf nt : Nat} (sh : Nat) (hro : r_ok K R N o ad) (hz : r_st K o ad I A I A Z M th) (hnf : Z 1 = nI nf) (hn : nf ≤ 120) (hnt : M 22 sh = nI nt) (h1t : 1 ≤ nt) (h4t : nt ≤ 4) (hsh : sh < 5) (hgk : ∀ k, 1 ≤ k → k < nt → ∃ g, g ≤ 9 ∧ M 24 (4 * sh + k) = nI g) (hlt : o_still Z M sh < 2 ^ 31) : Met l yX9_isStill wsX9_isStill ({ frames := 3, cells := 0, slots := 0, locals := 90 } : Room) (va_Pc [.ref o, .int (nI sh)] (m_B G K I R F A N L T J D)) (va_Qi (fun (r : Int32) (u : (Nat → Nat → Int32) × (Nat → Nat → Int32)) => (∃ (Z' : Nat → Int32) (M' : Nat → Nat → Int32), r_st K o ad I A u.1 u.2 Z' M' th ∧ o_sc (Z, M) (Z', M')) ∧ r = b2i (decide (0 < o_still Z M sh))) (fun u : (Nat → Nat → Int32) × (Nat → Nat → Int32) => m_B G K (u.1) R F (u.2) N L T J D) (m_A G)) 0 0 (m_A G) := by
  refine Met.ofW (cc := cX9_isStill) (maxL := 2) (ret := (some .boolean)) (by decide) rfl ?_
  intro p e s m args below meth c s₁ B hml hv
  obtain ⟨rfl, hB⟩ := hv
  have hx := B.exec
  have hb := B.bytes
  have hr := B.returns
  have hts := atoms_spec (ws := wsX9_isStill) B.pre
  have hown : s.vm.findClass RX9 = some m.cls := findClass_of_methodNamed B.named
  have hlocks := B.notSynchronized
  have hw := m_wo_in hB
  have hl := lv_entry ([.ref o, .int (nI sh)]) (n := 2) (Nat.le_of_ble_eq_true rfl)
  rw [lg_entry_eq]
  generalize (lg_sl ([.ref o, .int (nI sh)]) ++ List.replicate (2 - (lg_sl ([.ref o, .int (nI sh)])).length) Slot.unset).toArray = ls at hl ⊢
  have hl : lv_has ls 2 [(0, .ref o), (1, .int (nI sh))] := hl
  have his := hz
  refine lv_aload_n hx hb dX9_isStill_0 rfl (lv_at hl 0 rfl) ?_
  refine lv_iload_n hx hb dX9_isStill_1 rfl (lv_at hl 1 rfl) ?_
  refine m_cv (va_runV (As := [.int (nI sh)]) (rest := []) ⟨hx, hb, hml, hown, hts⟩ (c_X9_asksKept l (Z := Z) (M := M) (th := th) sh hro (r_st_self his) hnt h4t hsh) (cwV 1 hts gX9_isStill_X9_asksKept rfl rfl rfl (by decide +kernel) ⟨Nat.le_of_ble_eq_true rfl, Nat.le_of_ble_eq_true rfl⟩) ⟨m_blind m_B_calling, m_recv hw (m_ent_10 hro.1) rfl, fun U hU hW => ⟨rfl, m_wo_call hw hU hW⟩⟩ rfl rfl hl.1 rfl (lv_room (Nat.le_of_ble_eq_true rfl)) dX9_isStill_2 ⟨Nat.le_of_ble_eq_true rfl, Nat.le_of_ble_eq_true rfl⟩) hw (fun u_2 H locs hp_2 hw => ?_)
  obtain ⟨I_1, A_2⟩ := u_2
  have hw : m_wo G K I_1 R F A_2 N L T J D s H locs := hw
  dsimp only at hp_2
  have his := r_st_tr his hp_2.1
  obtain ⟨Z_3, eZ_3⟩ : ∃ z : Nat → Int32, z = (o_askK (Z, M) sh).1 := ⟨_, rfl⟩
  rw [← eZ_3] at his
  obtain ⟨M_4, eM_4⟩ : ∃ z : Nat → Nat → Int32, z = (o_askK (Z, M) sh).2 := ⟨_, rfl⟩
  rw [← eM_4] at his
  obtain ⟨Zt, eZt⟩ : ∃ z, z = Z_3 := ⟨_, rfl⟩
  obtain ⟨Mt, eMt⟩ : ∃ z, z = M_4 := ⟨_, rfl⟩
  rw [← eZt, ← eMt] at his
  have eS : (Zt, Mt) = o_askK (Z, M) sh := by rw [eZt, eMt, eZ_3, eM_4]
  have eZt1 : Zt = (o_askK (Z, M) sh).1 := congrArg Prod.fst eS
  have eMt1 : Mt = (o_askK (Z, M) sh).2 := congrArg Prod.snd eS
  have hsc0 : o_sc (Z, M) (Zt, Mt) := by rw [eS]; exact o_sc_askK _ _
  have hnf9 : Zt 1 = nI nf := (hsc0.1 1 (by decide)).trans hnf
  have hna9 : Zt 30 = nI nt := by rw [eZt1]; exact o_askK_30 _ hnt
  have hga9 : ∀ k, 1 ≤ k → k < nt → ∃ g, g ≤ 9 ∧ Mt 28 k = nI g := fun k h1 h2 => by rw [eMt1, o_askK_28 _ hnt h4t h2]; exact hgk k h1 h2
  have hht : o_hitsOn Zt Mt (M 18 sh) = o_still Z M sh := by rw [eZt1, eMt1]; rfl
  have hsc : m_eq Mt Mt := m_eq_rf _
  refine lv_aload_n hx hb dX9_isStill_5 rfl (lv_at hl 0 rfl) ?_
  refine lv_aload_n hx hb dX9_isStill_6 rfl (lv_at hl 0 rfl) ?_
  refine g_10_18 (r := some (ad 18)) hx hb hts (by decide +kernel) hown hw hro.1 (hts (.fieldLink RX9 44 "PirateindexModel" "stands" "[I") (by decide +kernel)) (hro.2.1 18 rfl).1 dX9_isStill_7 ?_
  refine lv_iload_n hx hb dX9_isStill_10 rfl (lv_at hl 1 rfl) ?_
  refine m_iaload_20 hx hb hw (hro.2.1 18 rfl).2.1 (r_in hro 18 rfl (n := 5) rfl (by omega)) dX9_isStill_11 ?_
  rw [show A_2 (ad 18) = Mt 18 from his.2.1 18 rfl]
  rw [nI_clamp (show sh < 2 ^ 31 by omega)]
  rw [show Mt 18 sh = M 18 sh from congrFun (hsc0.2 18 (by decide) (by decide) (by decide) (by decide)) sh]
  refine m_ci (va_runV (As := [.int (M 18 sh)]) (rest := []) ⟨hx, hb, hml, hown, hts⟩ (c_X9_hitsOn l (Z := Zt) (M := Mt) (th := th) (M 18 sh) hro (r_st_self his) hnf9 hn hna9 h1t h4t hga9) (cwV 1 hts gX9_isStill_X9_hitsOn rfl rfl rfl (by decide +kernel) ⟨Nat.le_of_ble_eq_true rfl, Nat.le_of_ble_eq_true rfl⟩) ⟨m_blind m_B_calling, m_recv hw (m_ent_10 hro.1) rfl, fun U hU hW => ⟨rfl, m_wo_call hw hU hW⟩⟩ rfl rfl hl.1 rfl (lv_room (Nat.le_of_ble_eq_true rfl)) dX9_isStill_12 ⟨Nat.le_of_ble_eq_true rfl, Nat.le_of_ble_eq_true rfl⟩) hw (fun r_12 u_12 H locs hp_12 hw => ?_)
  obtain ⟨I_5, A_6⟩ := u_12
  have hw : m_wo G K I_5 R F A_6 N L T J D s H locs := hw
  dsimp only at hp_12
  obtain ⟨⟨M_7, hiM_7, hmM_7⟩, hrM_7⟩ := hp_12
  have his := r_st_tr his hiM_7
  obtain rfl : r_12 = (nI (o_hitsOn Zt Mt (M 18 sh))) := hrM_7
  rw [o_hitsOn_eq hsc]
  have hsc := m_eq_tr hsc hmM_7
  refine lv_if_le (tgt := 22) hx hb dX9_isStill_15 (by decide) (fun c_15 => ?_) (fun c_15 => ?_)
  · skip
    rw [hht, show (0 : Int32) = nI 0 from rfl, nI_leI hlt (by decide)] at c_15
    have hq : decide (0 < o_still Z M sh) = false := decide_eq_false (by omega)
    refine lv_iconst (v := 0) hx hb dX9_isStill_22 (by decide) ?_
    exact W.zret (v := 0) hx hb hr (by rfl) (fun t ht hW => ⟨⟨0, (I_5, A_6), rfl, ⟨⟨Zt, M_7, his, o_sc_m hsc0 hsc⟩, by rw [hq]; rfl⟩, m_wo_out hw ht hW.alike⟩, m_wo_F hw ht⟩) (m_wo_L hw) dX9_isStill_23
  · skip
    rw [hht, show (0 : Int32) = nI 0 from rfl, nI_leI hlt (by decide)] at c_15
    have hq : decide (0 < o_still Z M sh) = true := decide_eq_true (by omega)
    refine lv_iconst (v := 1) hx hb dX9_isStill_18 (by decide) ?_
    refine lv_goto (tgt := 23) hx hb dX9_isStill_19 (by decide) ?_
    exact W.zret (v := 1) hx hb hr (by rfl) (fun t ht hW => ⟨⟨1, (I_5, A_6), rfl, ⟨⟨Zt, M_7, his, o_sc_m hsc0 hsc⟩, by rw [hq]; rfl⟩, m_wo_out hw ht hW.alike⟩, m_wo_F hw ht⟩) (m_wo_L hw) dX9_isStill_23

