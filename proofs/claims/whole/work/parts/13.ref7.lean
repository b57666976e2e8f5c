def t_b (b : Bool) : Int32 := if b = true then 0 else 1
def o_far (M : mM) (s t : Nat) : Int32 := (M 7 t - M 7 (M 18 s).toNatClampNeg) * (M 7 t - M 7 (M 18 s).toNatClampNeg) + (M 8 t - M 8 (M 18 s).toNatClampNeg) * (M 8 t - M 8 (M 18 s).toNatClampNeg)
def o_pay (M : mM) (s : Nat) (c : Int32) : Int32 := if c < M 19 s then c else M 19 s
def o_rt (n : Nat) : Nat → Nat
  | 0 => 0
  | k + 1 => if (k + 1) * (k + 1) ≤ n then k + 1 else o_rt n k
theorem o_rt_eq {n i : Nat} (h1 : i * i ≤ n) (h2 : n < (i + 1) * (i + 1)) : ∀ k, i ≤ k → o_rt n k = i
  | 0, h => by
    have : i = 0 := by omega
    subst this
    rfl
  | k + 1, h => by
    simp only [o_rt]
    by_cases hk : i = k + 1
    · subst hk; rw [if_pos h1]
    · have h3 : (i + 1) * (i + 1) ≤ (k + 1) * (k + 1) := Nat.mul_le_mul (by omega) (by omega)
      rw [if_neg (by omega)]
      exact o_rt_eq h1 h2 k (by omega)
def o_root (n : Nat) : Nat := o_rt n n
theorem o_root_eq {n i : Nat} (h1 : i * i ≤ n) (h2 : n < (i + 1) * (i + 1)) : o_root n = i := by
  refine o_rt_eq h1 h2 n ?_
  cases i with
  | zero => omega
  | succ i => exact Nat.le_trans (Nat.le_mul_of_pos_left _ (by omega)) h1
set_option maxHeartbeats 400000 in
set_option maxRecDepth 100000 in
theorem c_X9_at (l : Launch) {G : mG} {K : Nat → Nat} {I : Nat → Nat → Int32} {R : Nat → Nat → Option Nat} {F : Nat → UInt32} {A : Nat → Nat → Int32} {N : Nat → Nat} {L : Nat → List Nat} {T : Nat → List Int32} {J : Nat → Nat → Int64} {D : Nat → Nat → UInt64} {o : Nat} {ad : Nat → Nat} {Z : Nat → Int32} {M : Nat → Nat → Int32} {th : Int32} {ns : Nat} (v : Int32) (hro : r_ok K R N o ad) (hz : r_st K o ad I A I A Z M th) (hns : Z 2 = nI ns) (hn5 : ns ≤ 5) : Met l yX9_at wsX9_at ({ frames := 2, cells := 0, slots := 0, locals := 60 } : Room) (va_Pc [.ref o, .int v] (m_B G K I R F A N L T J D)) (va_Qi (fun (r : Int32) (u : (Nat → Nat → Int32) × (Nat → Nat → Int32)) => (r_st K o ad I A u.1 u.2 Z M (t_b (o_shp Z v))) ∧ (t_b (o_shp Z v) = 0 → r = M 18 v.toNatClampNeg)) (fun u : (Nat → Nat → Int32) × (Nat → Nat → Int32) => m_B G K (u.1) R F (u.2) N L T J D) (m_A G)) 0 0 (m_A G) := by
  refine Met.ofW (cc := cX9_at) (maxL := 2) (ret := (some .int)) (by decide) rfl ?_
  intro p e s m args below meth c s₁ B hml hv
  obtain ⟨rfl, hB⟩ := hv
  have hx := B.exec
  have hb := B.bytes
  have hr := B.returns
  have hts := atoms_spec (ws := wsX9_at) B.pre
  have hown : s.vm.findClass RX9 = some m.cls := findClass_of_methodNamed B.named
  have hlocks := B.notSynchronized
  have hw := m_wo_in hB
  have hl := lv_entry ([.ref o, .int v]) (n := 2) (Nat.le_of_ble_eq_true rfl)
  rw [lg_entry_eq]
  generalize (lg_sl ([.ref o, .int v]) ++ List.replicate (2 - (lg_sl ([.ref o, .int v])).length) Slot.unset).toArray = ls at hl ⊢
  have hl : lv_has ls 2 [(0, .ref o), (1, .int v)] := hl
  have his := hz
  refine lv_aload_n hx hb dX9_at_0 rfl (lv_at hl 0 rfl) ?_
  refine lv_aload_n hx hb dX9_at_1 rfl (lv_at hl 0 rfl) ?_
  refine lv_iload_n hx hb dX9_at_2 rfl (lv_at hl 1 rfl) ?_
  refine m_ci (va_runV (As := [.int v]) (rest := [.ref o]) ⟨hx, hb, hml, hown, hts⟩ (c_X9_isShip l (Z := Z) (M := M) (th := th) v hro (r_st_self his) ) (cwV 1 hts gX9_at_X9_isShip rfl rfl rfl (by decide +kernel) ⟨Nat.le_of_ble_eq_true rfl, Nat.le_of_ble_eq_true rfl⟩) ⟨m_blind m_B_calling, m_recv hw (m_ent_10 hro.1) rfl, fun U hU hW => ⟨rfl, m_wo_call hw hU hW⟩⟩ rfl rfl hl.1 rfl (lv_room (Nat.le_of_ble_eq_true rfl)) dX9_at_3 ⟨Nat.le_of_ble_eq_true rfl, Nat.le_of_ble_eq_true rfl⟩) hw (fun r_3 u_3 H locs hp_3 hw => ?_)
  obtain rfl : r_3 = (b2i (o_shp Z v)) := hp_3
  refine lv_iconst (v := 1) hx hb dX9_at_6 (by decide) ?_
  refine m_ci (va_runV (As := [.int (b2i (o_shp Z v)), .int 1]) (rest := []) ⟨hx, hb, hml, hown, hts⟩ (c_X9_no l (Z := Z) (M := M) (th := th) (o_shp Z v) 1 hro (r_st_self his) ) (cwV 2 hts gX9_at_X9_no rfl rfl rfl (by decide +kernel) ⟨Nat.le_of_ble_eq_true rfl, Nat.le_of_ble_eq_true rfl⟩) ⟨m_blind m_B_calling, m_recv hw (m_ent_10 hro.1) rfl, fun U hU hW => ⟨rfl, m_wo_call hw hU hW⟩⟩ rfl rfl hl.1 rfl (lv_room (Nat.le_of_ble_eq_true rfl)) dX9_at_7 ⟨Nat.le_of_ble_eq_true rfl, Nat.le_of_ble_eq_true rfl⟩) hw (fun r_7 u_7 H locs hp_7 hw => ?_)
  obtain ⟨I_1, A_2⟩ := u_7
  have hw : m_wo G K I_1 R F A_2 N L T J D s H locs := hw
  dsimp only at hp_7
  have his := r_st_tr his hp_7.1
  obtain rfl : r_7 = (b2i (!(o_shp Z v))) := hp_7.2
  refine lv_if_eq (tgt := 17) hx hb dX9_at_10 (by decide) (fun c_10 => ?_) (fun c_10 => ?_)
  · skip
    have q_10 : (o_shp Z v) = true := by first | (have := (b2i_ne _).mp c_10; simpa using this) | (have := (b2i_eq _).mp c_10; simpa using this)
    obtain ⟨i, hi, hk⟩ := o_shp_nat q_10 hns (by omega)
    refine lv_aload_n hx hb dX9_at_17 rfl (lv_at hl 0 rfl) ?_
    refine g_10_18 (r := some (ad 18)) hx hb hts (by decide +kernel) hown hw hro.1 (hts (.fieldLink RX9 44 "PirateindexModel" "stands" "[I") (by decide +kernel)) (hro.2.1 18 rfl).1 dX9_at_18 ?_
    refine lv_iload_n hx hb dX9_at_21 rfl (lv_at hl 1 rfl) ?_
    refine m_iaload_20 hx hb hw (hro.2.1 18 rfl).2.1 (by rw [show v = nI v.toNatClampNeg from by rw [hk, nI_clamp (by omega)]]; exact r_in hro 18 rfl (n := 5) rfl (show v.toNatClampNeg < 5 by rw [hk, nI_clamp (by omega)]; omega)) dX9_at_22 ?_
    rw [show A_2 (ad 18) = M 18 from his.2.1 18 rfl]
    exact W.iret (v := (M 18 (v.toNatClampNeg))) hx hb hr (fun t ht hW => ⟨⟨(M 18 (v.toNatClampNeg)), (I_1, A_2), rfl, (by have ht : t_b (o_shp Z v) = 0 := (by simp [t_b, q_10]); rw [ht]; exact ⟨by first | exact his | simpa [q_10] using his, fun _ => rfl⟩), m_wo_out hw ht hW.alike⟩, m_wo_F hw ht⟩) (m_wo_L hw) dX9_at_23
  · skip
    have q_10 : (o_shp Z v) = false := by first | (have := (b2i_ne _).mp c_10; simpa using this) | (have := (b2i_eq _).mp c_10; simpa using this)
    refine lv_iconst (v := 0) hx hb dX9_at_13 (by decide) ?_
    refine lv_goto (tgt := 23) hx hb dX9_at_14 (by decide) ?_
    exact W.iret (v := 0) hx hb hr (fun t ht hW => ⟨⟨0, (I_1, A_2), rfl, (by have ht : t_b (o_shp Z v) = 1 := (by simp [t_b, q_10]); rw [ht]; exact ⟨by first | exact his | simpa [q_10] using his, fun h => absurd h (by decide)⟩), m_wo_out hw ht hW.alike⟩, m_wo_F hw ht⟩) (m_wo_L hw) dX9_at_23

set_option maxHeartbeats 400000 in
set_option maxRecDepth 100000 in
theorem c_X9_coins (l : Launch) {G : mG} {K : Nat → Nat} {I : Nat → Nat → Int32} {R : Nat → Nat → Option Nat} {F : Nat → UInt32} {A : Nat → Nat → Int32} {N : Nat → Nat} {L : Nat → List Nat} {T : Nat → List Int32} {J : Nat → Nat → Int64} {D : Nat → Nat → UInt64} {o : Nat} {ad : Nat → Nat} {Z : Nat → Int32} {M : Nat → Nat → Int32} {th : Int32} {ns : Nat} (v : Int32) (hro : r_ok K R N o ad) (hz : r_st K o ad I A I A Z M th) (hns : Z 2 = nI ns) (hn5 : ns ≤ 5) : Met l yX9_coins wsX9_coins ({ frames := 2, cells := 0, slots := 0, locals := 60 } : Room) (va_Pc [.ref o, .int v] (m_B G K I R F A N L T J D)) (va_Qi (fun (r : Int32) (u : (Nat → Nat → Int32) × (Nat → Nat → Int32)) => (r_st K o ad I A u.1 u.2 Z M (t_b (o_shp Z v))) ∧ (t_b (o_shp Z v) = 0 → r = M 19 v.toNatClampNeg)) (fun u : (Nat → Nat → Int32) × (Nat → Nat → Int32) => m_B G K (u.1) R F (u.2) N L T J D) (m_A G)) 0 0 (m_A G) := by
  refine Met.ofW (cc := cX9_coins) (maxL := 2) (ret := (some .int)) (by decide) rfl ?_
  intro p e s m args below meth c s₁ B hml hv
  obtain ⟨rfl, hB⟩ := hv
  have hx := B.exec
  have hb := B.bytes
  have hr := B.returns
  have hts := atoms_spec (ws := wsX9_coins) B.pre
  have hown : s.vm.findClass RX9 = some m.cls := findClass_of_methodNamed B.named
  have hlocks := B.notSynchronized
  have hw := m_wo_in hB
  have hl := lv_entry ([.ref o, .int v]) (n := 2) (Nat.le_of_ble_eq_true rfl)
  rw [lg_entry_eq]
  generalize (lg_sl ([.ref o, .int v]) ++ List.replicate (2 - (lg_sl ([.ref o, .int v])).length) Slot.unset).toArray = ls at hl ⊢
  have hl : lv_has ls 2 [(0, .ref o), (1, .int v)] := hl
  have his := hz
  refine lv_aload_n hx hb dX9_coins_0 rfl (lv_at hl 0 rfl) ?_
  refine lv_aload_n hx hb dX9_coins_1 rfl (lv_at hl 0 rfl) ?_
  refine lv_iload_n hx hb dX9_coins_2 rfl (lv_at hl 1 rfl) ?_
  refine m_ci (va_runV (As := [.int v]) (rest := [.ref o]) ⟨hx, hb, hml, hown, hts⟩ (c_X9_isShip l (Z := Z) (M := M) (th := th) v hro (r_st_self his) ) (cwV 1 hts gX9_coins_X9_isShip rfl rfl rfl (by decide +kernel) ⟨Nat.le_of_ble_eq_true rfl, Nat.le_of_ble_eq_true rfl⟩) ⟨m_blind m_B_calling, m_recv hw (m_ent_10 hro.1) rfl, fun U hU hW => ⟨rfl, m_wo_call hw hU hW⟩⟩ rfl rfl hl.1 rfl (lv_room (Nat.le_of_ble_eq_true rfl)) dX9_coins_3 ⟨Nat.le_of_ble_eq_true rfl, Nat.le_of_ble_eq_true rfl⟩) hw (fun r_3 u_3 H locs hp_3 hw => ?_)
  obtain rfl : r_3 = (b2i (o_shp Z v)) := hp_3
  refine lv_iconst (v := 1) hx hb dX9_coins_6 (by decide) ?_
  refine m_ci (va_runV (As := [.int (b2i (o_shp Z v)), .int 1]) (rest := []) ⟨hx, hb, hml, hown, hts⟩ (c_X9_no l (Z := Z) (M := M) (th := th) (o_shp Z v) 1 hro (r_st_self his) ) (cwV 2 hts gX9_coins_X9_no rfl rfl rfl (by decide +kernel) ⟨Nat.le_of_ble_eq_true rfl, Nat.le_of_ble_eq_true rfl⟩) ⟨m_blind m_B_calling, m_recv hw (m_ent_10 hro.1) rfl, fun U hU hW => ⟨rfl, m_wo_call hw hU hW⟩⟩ rfl rfl hl.1 rfl (lv_room (Nat.le_of_ble_eq_true rfl)) dX9_coins_7 ⟨Nat.le_of_ble_eq_true rfl, Nat.le_of_ble_eq_true rfl⟩) hw (fun r_7 u_7 H locs hp_7 hw => ?_)
  obtain ⟨I_1, A_2⟩ := u_7
  have hw : m_wo G K I_1 R F A_2 N L T J D s H locs := hw
  dsimp only at hp_7
  have his := r_st_tr his hp_7.1
  obtain rfl : r_7 = (b2i (!(o_shp Z v))) := hp_7.2
  refine lv_if_eq (tgt := 17) hx hb dX9_coins_10 (by decide) (fun c_10 => ?_) (fun c_10 => ?_)
  · skip
    have q_10 : (o_shp Z v) = true := by first | (have := (b2i_ne _).mp c_10; simpa using this) | (have := (b2i_eq _).mp c_10; simpa using this)
    obtain ⟨i, hi, hk⟩ := o_shp_nat q_10 hns (by omega)
    refine lv_aload_n hx hb dX9_coins_17 rfl (lv_at hl 0 rfl) ?_
    refine g_10_19 (r := some (ad 19)) hx hb hts (by decide +kernel) hown hw hro.1 (hts (.fieldLink RX9 47 "PirateindexModel" "purse" "[I") (by decide +kernel)) (hro.2.1 19 rfl).1 dX9_coins_18 ?_
    refine lv_iload_n hx hb dX9_coins_21 rfl (lv_at hl 1 rfl) ?_
    refine m_iaload_20 hx hb hw (hro.2.1 19 rfl).2.1 (by rw [show v = nI v.toNatClampNeg from by rw [hk, nI_clamp (by omega)]]; exact r_in hro 19 rfl (n := 5) rfl (show v.toNatClampNeg < 5 by rw [hk, nI_clamp (by omega)]; omega)) dX9_coins_22 ?_
    rw [show A_2 (ad 19) = M 19 from his.2.1 19 rfl]
    exact W.iret (v := (M 19 (v.toNatClampNeg))) hx hb hr (fun t ht hW => ⟨⟨(M 19 (v.toNatClampNeg)), (I_1, A_2), rfl, (by have ht : t_b (o_shp Z v) = 0 := (by simp [t_b, q_10]); rw [ht]; exact ⟨by first | exact his | simpa [q_10] using his, fun _ => rfl⟩), m_wo_out hw ht hW.alike⟩, m_wo_F hw ht⟩) (m_wo_L hw) dX9_coins_23
  · skip
    have q_10 : (o_shp Z v) = false := by first | (have := (b2i_ne _).mp c_10; simpa using this) | (have := (b2i_eq _).mp c_10; simpa using this)
    refine lv_iconst (v := 0) hx hb dX9_coins_13 (by decide) ?_
    refine lv_goto (tgt := 23) hx hb dX9_coins_14 (by decide) ?_
    exact W.iret (v := 0) hx hb hr (fun t ht hW => ⟨⟨0, (I_1, A_2), rfl, (by have ht : t_b (o_shp Z v) = 1 := (by simp [t_b, q_10]); rw [ht]; exact ⟨by first | exact his | simpa [q_10] using his, fun h => absurd h (by decide)⟩), m_wo_out hw ht hW.alike⟩, m_wo_F hw ht⟩) (m_wo_L hw) dX9_coins_23

set_option maxHeartbeats 400000 in
set_option maxRecDepth 100000 in
theorem c_X9_hasMap (l : Launch) {G : mG} {K : Nat → Nat} {I : Nat → Nat → Int32} {R : Nat → Nat → Option Nat} {F : Nat → UInt32} {A : Nat → Nat → Int32} {N : Nat → Nat} {L : Nat → List Nat} {T : Nat → List Int32} {J : Nat → Nat → Int64} {D : Nat → Nat → UInt64} {o : Nat} {ad : Nat → Nat} {Z : Nat → Int32} {M : Nat → Nat → Int32} {th : Int32} {ns : Nat} (v : Int32) (hro : r_ok K R N o ad) (hz : r_st K o ad I A I A Z M th) (hns : Z 2 = nI ns) (hn5 : ns ≤ 5) : Met l yX9_hasMap wsX9_hasMap ({ frames := 2, cells := 0, slots := 0, locals := 60 } : Room) (va_Pc [.ref o, .int v] (m_B G K I R F A N L T J D)) (va_Qi (fun (r : Int32) (u : (Nat → Nat → Int32) × (Nat → Nat → Int32)) => (r_st K o ad I A u.1 u.2 Z M (t_b (o_shp Z v))) ∧ (t_b (o_shp Z v) = 0 → r = b2i (decide (0 < M 22 v.toNatClampNeg)))) (fun u : (Nat → Nat → Int32) × (Nat → Nat → Int32) => m_B G K (u.1) R F (u.2) N L T J D) (m_A G)) 0 0 (m_A G) := by
  refine Met.ofW (cc := cX9_hasMap) (maxL := 2) (ret := (some .boolean)) (by decide) rfl ?_
  intro p e s m args below meth c s₁ B hml hv
  obtain ⟨rfl, hB⟩ := hv
  have hx := B.exec
  have hb := B.bytes
  have hr := B.returns
  have hts := atoms_spec (ws := wsX9_hasMap) B.pre
  have hown : s.vm.findClass RX9 = some m.cls := findClass_of_methodNamed B.named
  have hlocks := B.notSynchronized
  have hw := m_wo_in hB
  have hl := lv_entry ([.ref o, .int v]) (n := 2) (Nat.le_of_ble_eq_true rfl)
  rw [lg_entry_eq]
  generalize (lg_sl ([.ref o, .int v]) ++ List.replicate (2 - (lg_sl ([.ref o, .int v])).length) Slot.unset).toArray = ls at hl ⊢
  have hl : lv_has ls 2 [(0, .ref o), (1, .int v)] := hl
  have his := hz
  refine lv_aload_n hx hb dX9_hasMap_0 rfl (lv_at hl 0 rfl) ?_
  refine lv_aload_n hx hb dX9_hasMap_1 rfl (lv_at hl 0 rfl) ?_
  refine lv_iload_n hx hb dX9_hasMap_2 rfl (lv_at hl 1 rfl) ?_
  refine m_ci (va_runV (As := [.int v]) (rest := [.ref o]) ⟨hx, hb, hml, hown, hts⟩ (c_X9_isShip l (Z := Z) (M := M) (th := th) v hro (r_st_self his) ) (cwV 1 hts gX9_hasMap_X9_isShip rfl rfl rfl (by decide +kernel) ⟨Nat.le_of_ble_eq_true rfl, Nat.le_of_ble_eq_true rfl⟩) ⟨m_blind m_B_calling, m_recv hw (m_ent_10 hro.1) rfl, fun U hU hW => ⟨rfl, m_wo_call hw hU hW⟩⟩ rfl rfl hl.1 rfl (lv_room (Nat.le_of_ble_eq_true rfl)) dX9_hasMap_3 ⟨Nat.le_of_ble_eq_true rfl, Nat.le_of_ble_eq_true rfl⟩) hw (fun r_3 u_3 H locs hp_3 hw => ?_)
  obtain rfl : r_3 = (b2i (o_shp Z v)) := hp_3
  refine lv_iconst (v := 1) hx hb dX9_hasMap_6 (by decide) ?_
  refine m_ci (va_runV (As := [.int (b2i (o_shp Z v)), .int 1]) (rest := []) ⟨hx, hb, hml, hown, hts⟩ (c_X9_no l (Z := Z) (M := M) (th := th) (o_shp Z v) 1 hro (r_st_self his) ) (cwV 2 hts gX9_hasMap_X9_no rfl rfl rfl (by decide +kernel) ⟨Nat.le_of_ble_eq_true rfl, Nat.le_of_ble_eq_true rfl⟩) ⟨m_blind m_B_calling, m_recv hw (m_ent_10 hro.1) rfl, fun U hU hW => ⟨rfl, m_wo_call hw hU hW⟩⟩ rfl rfl hl.1 rfl (lv_room (Nat.le_of_ble_eq_true rfl)) dX9_hasMap_7 ⟨Nat.le_of_ble_eq_true rfl, Nat.le_of_ble_eq_true rfl⟩) hw (fun r_7 u_7 H locs hp_7 hw => ?_)
  obtain ⟨I_1, A_2⟩ := u_7
  have hw : m_wo G K I_1 R F A_2 N L T J D s H locs := hw
  dsimp only at hp_7
  have his := r_st_tr his hp_7.1
  obtain rfl : r_7 = (b2i (!(o_shp Z v))) := hp_7.2
  refine lv_if_ne (tgt := 26) hx hb dX9_hasMap_10 (by decide) (fun c_10 => ?_) (fun c_10 => ?_)
  · skip
    have q_10 : (o_shp Z v) = false := by first | (have := (b2i_ne _).mp c_10; simpa using this) | (have := (b2i_eq _).mp c_10; simpa using this)
    refine lv_iconst (v := 0) hx hb dX9_hasMap_26 (by decide) ?_
    exact W.zret (v := 0) hx hb hr (by rfl) (fun t ht hW => ⟨⟨0, (I_1, A_2), rfl, (by have ht : t_b (o_shp Z v) = 1 := (by simp [t_b, q_10]); rw [ht]; exact ⟨by first | exact his | simpa [q_10] using his, fun h => absurd h (by decide)⟩), m_wo_out hw ht hW.alike⟩, m_wo_F hw ht⟩) (m_wo_L hw) dX9_hasMap_27
  · skip
    have q_10 : (o_shp Z v) = true := by first | (have := (b2i_ne _).mp c_10; simpa using this) | (have := (b2i_eq _).mp c_10; simpa using this)
    obtain ⟨i, hi, hk⟩ := o_shp_nat q_10 hns (by omega)
    refine lv_aload_n hx hb dX9_hasMap_13 rfl (lv_at hl 0 rfl) ?_
    refine g_10_22 (r := some (ad 22)) hx hb hts (by decide +kernel) hown hw hro.1 (hts (.fieldLink RX9 56 "PirateindexModel" "kept" "[I") (by decide +kernel)) (hro.2.1 22 rfl).1 dX9_hasMap_14 ?_
    refine lv_iload_n hx hb dX9_hasMap_17 rfl (lv_at hl 1 rfl) ?_
    refine m_iaload_20 hx hb hw (hro.2.1 22 rfl).2.1 (by rw [show v = nI v.toNatClampNeg from by rw [hk, nI_clamp (by omega)]]; exact r_in hro 22 rfl (n := 5) rfl (show v.toNatClampNeg < 5 by rw [hk, nI_clamp (by omega)]; omega)) dX9_hasMap_18 ?_
    rw [show A_2 (ad 22) = M 22 from his.2.1 22 rfl]
    refine lv_if_le (tgt := 26) hx hb dX9_hasMap_19 (by decide) (fun c_19 => ?_) (fun c_19 => ?_)
    · skip
      refine lv_iconst (v := 0) hx hb dX9_hasMap_26 (by decide) ?_
      exact W.zret (v := 0) hx hb hr (by rfl) (fun t ht hW => ⟨⟨0, (I_1, A_2), rfl, (by have ht : t_b (o_shp Z v) = 0 := (by simp [t_b, q_10, c_19]); rw [ht]; exact ⟨by first | exact his | simpa [q_10, c_19] using his, fun _ => (by first | simp [b2i, c_19] | (have h9 := Int32.not_lt.mpr c_19; simp [b2i, h9]) | (have h9 := Int32.not_le.mp c_19; simp [b2i, h9]))⟩), m_wo_out hw ht hW.alike⟩, m_wo_F hw ht⟩) (m_wo_L hw) dX9_hasMap_27
    · skip
      refine lv_iconst (v := 1) hx hb dX9_hasMap_22 (by decide) ?_
      refine lv_goto (tgt := 27) hx hb dX9_hasMap_23 (by decide) ?_
      exact W.zret (v := 1) hx hb hr (by rfl) (fun t ht hW => ⟨⟨1, (I_1, A_2), rfl, (by have ht : t_b (o_shp Z v) = 0 := (by simp [t_b, q_10, c_19]); rw [ht]; exact ⟨by first | exact his | simpa [q_10, c_19] using his, fun _ => (by first | simp [b2i, c_19] | (have h9 := Int32.not_lt.mpr c_19; simp [b2i, h9]) | (have h9 := Int32.not_le.mp c_19; simp [b2i, h9]))⟩), m_wo_out hw ht hW.alike⟩, m_wo_F hw ht⟩) (m_wo_L hw) dX9_hasMap_27

set_option maxHeartbeats 400000 in
set_option maxRecDepth 100000 in
theorem c_X9_isThere (l : Launch) {G : mG} {K : Nat → Nat} {I : Nat → Nat → Int32} {R : Nat → Nat → Option Nat} {F : Nat → UInt32} {A : Nat → Nat → Int32} {N : Nat → Nat} {L : Nat → List Nat} {T : Nat → List Int32} {J : Nat → Nat → Int64} {D : Nat → Nat → UInt64} {o : Nat} {ad : Nat → Nat} {Z : Nat → Int32} {M : Nat → Nat → Int32} {th : Int32} {ni : Nat} (v : Int32) (hro : r_ok K R N o ad) (hz : r_st K o ad I A I A Z M th) (hni : Z 0 = nI ni) (hn12 : ni ≤ 12) : Met l yX9_isThere wsX9_isThere ({ frames := 2, cells := 0, slots := 0, locals := 60 } : Room) (va_Pc [.ref o, .int v] (m_B G K I R F A N L T J D)) (va_Qi (fun (r : Int32) (u : (Nat → Nat → Int32) × (Nat → Nat → Int32)) => (r_st K o ad I A u.1 u.2 Z M (t_b (o_isl Z v))) ∧ (t_b (o_isl Z v) = 0 → r = b2i (decide (M 10 v.toNatClampNeg = 0)))) (fun u : (Nat → Nat → Int32) × (Nat → Nat → Int32) => m_B G K (u.1) R F (u.2) N L T J D) (m_A G)) 0 0 (m_A G) := by
  refine Met.ofW (cc := cX9_isThere) (maxL := 2) (ret := (some .boolean)) (by decide) rfl ?_
  intro p e s m args below meth c s₁ B hml hv
  obtain ⟨rfl, hB⟩ := hv
  have hx := B.exec
  have hb := B.bytes
  have hr := B.returns
  have hts := atoms_spec (ws := wsX9_isThere) B.pre
  have hown : s.vm.findClass RX9 = some m.cls := findClass_of_methodNamed B.named
  have hlocks := B.notSynchronized
  have hw := m_wo_in hB
  have hl := lv_entry ([.ref o, .int v]) (n := 2) (Nat.le_of_ble_eq_true rfl)
  rw [lg_entry_eq]
  generalize (lg_sl ([.ref o, .int v]) ++ List.replicate (2 - (lg_sl ([.ref o, .int v])).length) Slot.unset).toArray = ls at hl ⊢
  have hl : lv_has ls 2 [(0, .ref o), (1, .int v)] := hl
  have his := hz
  refine lv_aload_n hx hb dX9_isThere_0 rfl (lv_at hl 0 rfl) ?_
  refine lv_aload_n hx hb dX9_isThere_1 rfl (lv_at hl 0 rfl) ?_
  refine lv_iload_n hx hb dX9_isThere_2 rfl (lv_at hl 1 rfl) ?_
  refine m_ci (va_runV (As := [.int v]) (rest := [.ref o]) ⟨hx, hb, hml, hown, hts⟩ (c_X9_isIsland l (Z := Z) (M := M) (th := th) v hro (r_st_self his) ) (cwV 1 hts gX9_isThere_X9_isIsland rfl rfl rfl (by decide +kernel) ⟨Nat.le_of_ble_eq_true rfl, Nat.le_of_ble_eq_true rfl⟩) ⟨m_blind m_B_calling, m_recv hw (m_ent_10 hro.1) rfl, fun U hU hW => ⟨rfl, m_wo_call hw hU hW⟩⟩ rfl rfl hl.1 rfl (lv_room (Nat.le_of_ble_eq_true rfl)) dX9_isThere_3 ⟨Nat.le_of_ble_eq_true rfl, Nat.le_of_ble_eq_true rfl⟩) hw (fun r_3 u_3 H locs hp_3 hw => ?_)
  obtain rfl : r_3 = (b2i (o_isl Z v)) := hp_3
  refine lv_iconst (v := 1) hx hb dX9_isThere_6 (by decide) ?_
  refine m_ci (va_runV (As := [.int (b2i (o_isl Z v)), .int 1]) (rest := []) ⟨hx, hb, hml, hown, hts⟩ (c_X9_no l (Z := Z) (M := M) (th := th) (o_isl Z v) 1 hro (r_st_self his) ) (cwV 2 hts gX9_isThere_X9_no rfl rfl rfl (by decide +kernel) ⟨Nat.le_of_ble_eq_true rfl, Nat.le_of_ble_eq_true rfl⟩) ⟨m_blind m_B_calling, m_recv hw (m_ent_10 hro.1) rfl, fun U hU hW => ⟨rfl, m_wo_call hw hU hW⟩⟩ rfl rfl hl.1 rfl (lv_room (Nat.le_of_ble_eq_true rfl)) dX9_isThere_7 ⟨Nat.le_of_ble_eq_true rfl, Nat.le_of_ble_eq_true rfl⟩) hw (fun r_7 u_7 H locs hp_7 hw => ?_)
  obtain ⟨I_1, A_2⟩ := u_7
  have hw : m_wo G K I_1 R F A_2 N L T J D s H locs := hw
  dsimp only at hp_7
  have his := r_st_tr his hp_7.1
  obtain rfl : r_7 = (b2i (!(o_isl Z v))) := hp_7.2
  refine lv_if_ne (tgt := 26) hx hb dX9_isThere_10 (by decide) (fun c_10 => ?_) (fun c_10 => ?_)
  · skip
    have q_10 : (o_isl Z v) = false := by first | (have := (b2i_ne _).mp c_10; simpa using this) | (have := (b2i_eq _).mp c_10; simpa using this)
    refine lv_iconst (v := 0) hx hb dX9_isThere_26 (by decide) ?_
    exact W.zret (v := 0) hx hb hr (by rfl) (fun t ht hW => ⟨⟨0, (I_1, A_2), rfl, (by have ht : t_b (o_isl Z v) = 1 := (by simp [t_b, q_10]); rw [ht]; exact ⟨by first | exact his | simpa [q_10] using his, fun h => absurd h (by decide)⟩), m_wo_out hw ht hW.alike⟩, m_wo_F hw ht⟩) (m_wo_L hw) dX9_isThere_27
  · skip
    have q_10 : (o_isl Z v) = true := by first | (have := (b2i_ne _).mp c_10; simpa using this) | (have := (b2i_eq _).mp c_10; simpa using this)
    obtain ⟨i, hi, hk⟩ := o_isl_nat q_10 hni (by omega)
    refine lv_aload_n hx hb dX9_isThere_13 rfl (lv_at hl 0 rfl) ?_
    refine g_10_10 (r := some (ad 10)) hx hb hts (by decide +kernel) hown hw hro.1 (hts (.fieldLink RX9 19 "PirateindexModel" "taken" "[Z") (by decide +kernel)) (hro.2.1 10 rfl).1 dX9_isThere_14 ?_
    refine lv_iload_n hx hb dX9_isThere_17 rfl (lv_at hl 1 rfl) ?_
    refine m_baload_30 hx hb hw (hro.2.1 10 rfl).2.1 (by rw [show v = nI v.toNatClampNeg from by rw [hk, nI_clamp (by omega)]]; exact r_in hro 10 rfl (n := 12) rfl (show v.toNatClampNeg < 12 by rw [hk, nI_clamp (by omega)]; omega)) dX9_isThere_18 ?_
    rw [show A_2 (ad 10) = M 10 from his.2.1 10 rfl]
    refine lv_if_ne (tgt := 26) hx hb dX9_isThere_19 (by decide) (fun c_19 => ?_) (fun c_19 => ?_)
    · skip
      refine lv_iconst (v := 0) hx hb dX9_isThere_26 (by decide) ?_
      exact W.zret (v := 0) hx hb hr (by rfl) (fun t ht hW => ⟨⟨0, (I_1, A_2), rfl, (by have ht : t_b (o_isl Z v) = 0 := (by simp [t_b, q_10, c_19]); rw [ht]; exact ⟨by first | exact his | simpa [q_10, c_19] using his, fun _ => (by first | simp [b2i, c_19] | (have h9 := Int32.not_lt.mpr c_19; simp [b2i, h9]) | (have h9 := Int32.not_le.mp c_19; simp [b2i, h9]))⟩), m_wo_out hw ht hW.alike⟩, m_wo_F hw ht⟩) (m_wo_L hw) dX9_isThere_27
    · skip
      refine lv_iconst (v := 1) hx hb dX9_isThere_22 (by decide) ?_
      refine lv_goto (tgt := 27) hx hb dX9_isThere_23 (by decide) ?_
      exact W.zret (v := 1) hx hb hr (by rfl) (fun t ht hW => ⟨⟨1, (I_1, A_2), rfl, (by have ht : t_b (o_isl Z v) = 0 := (by simp [t_b, q_10, c_19]); rw [ht]; exact ⟨by first | exact his | simpa [q_10, c_19] using his, fun _ => (by first | simp [b2i, c_19] | (have h9 := Int32.not_lt.mpr c_19; simp [b2i, h9]) | (have h9 := Int32.not_le.mp c_19; simp [b2i, h9]))⟩), m_wo_out hw ht hW.alike⟩, m_wo_F hw ht⟩) (m_wo_L hw) dX9_isThere_27

set_option maxHeartbeats 400000 in
set_option maxRecDepth 100000 in
theorem c_X9_isStruck (l : Launch) {G : mG} {K : Nat → Nat} {I : Nat → Nat → Int32} {R : Nat → Nat → Option Nat} {F : Nat → UInt32} {A : Nat → Nat → Int32} {N : Nat → Nat} {L : Nat → List Nat} {T : Nat → List Int32} {J : Nat → Nat → Int64} {D : Nat → Nat → UInt64} {o : Nat} {ad : Nat → Nat} {Z : Nat → Int32} {M : Nat → Nat → Int32} {th : Int32} {nf : Nat} (v : Int32) (hro : r_ok K R N o ad) (hz : r_st K o ad I A I A Z M th) (hnf : Z 1 = nI nf) (hn : nf ≤ 120) : Met l yX9_isStruck wsX9_isStruck ({ frames := 2, cells := 0, slots := 0, locals := 60 } : Room) (va_Pc [.ref o, .int v] (m_B G K I R F A N L T J D)) (va_Qi (fun (r : Int32) (u : (Nat → Nat → Int32) × (Nat → Nat → Int32)) => (r_st K o ad I A u.1 u.2 Z M (t_b (o_rng v 0 (Z 1 - 1)))) ∧ (t_b (o_rng v 0 (Z 1 - 1)) = 0 → r = b2i (!decide (M 16 v.toNatClampNeg = 0)))) (fun u : (Nat → Nat → Int32) × (Nat → Nat → Int32) => m_B G K (u.1) R F (u.2) N L T J D) (m_A G)) 0 0 (m_A G) := by
  refine Met.ofW (cc := cX9_isStruck) (maxL := 2) (ret := (some .boolean)) (by decide) rfl ?_
  intro p e s m args below meth c s₁ B hml hv
  obtain ⟨rfl, hB⟩ := hv
  have hx := B.exec
  have hb := B.bytes
  have hr := B.returns
  have hts := atoms_spec (ws := wsX9_isStruck) B.pre
  have hown : s.vm.findClass RX9 = some m.cls := findClass_of_methodNamed B.named
  have hlocks := B.notSynchronized
  have hw := m_wo_in hB
  have hl := lv_entry ([.ref o, .int v]) (n := 2) (Nat.le_of_ble_eq_true rfl)
  rw [lg_entry_eq]
  generalize (lg_sl ([.ref o, .int v]) ++ List.replicate (2 - (lg_sl ([.ref o, .int v])).length) Slot.unset).toArray = ls at hl ⊢
  have hl : lv_has ls 2 [(0, .ref o), (1, .int v)] := hl
  have his := hz
  refine lv_aload_n hx hb dX9_isStruck_0 rfl (lv_at hl 0 rfl) ?_
  refine lv_iload_n hx hb dX9_isStruck_1 rfl (lv_at hl 1 rfl) ?_
  refine lv_iconst (v := 0) hx hb dX9_isStruck_2 (by decide) ?_
  refine lv_aload_n hx hb dX9_isStruck_3 rfl (lv_at hl 0 rfl) ?_
  refine g_10_1 hx hb hts (by decide +kernel) hown hw hro.1 (hts (.fieldLink RX9 118 "PirateindexModel" "finds" "I") (by decide +kernel)) dX9_isStruck_4 ?_
  rw [show I 1001 o = Z 1 from his.1 1 (by decide)]
  refine lv_iconst (v := 1) hx hb dX9_isStruck_7 (by decide) ?_
  refine lv_isub hx hb dX9_isStruck_8 ?_
  refine m_ci (va_runS (As := [.int v, .int 0, .int ((Z 1) - 1)]) (rest := [.ref o]) ⟨hx, hb, hml, hown, hts⟩ (c_X9_isIn l v 0 ((Z 1) - 1)) (va_cwS 3 hts gX9_isStruck_X9_isIn rfl rfl rfl (by decide +kernel) ⟨Nat.le_of_ble_eq_true rfl, Nat.le_of_ble_eq_true rfl⟩) ⟨m_blind m_B_calling, fun U hU hW => ⟨rfl, m_wo_call hw hU hW⟩⟩ rfl rfl hl.1 rfl (lv_room (Nat.le_of_ble_eq_true rfl)) dX9_isStruck_9 ⟨Nat.le_of_ble_eq_true rfl, Nat.le_of_ble_eq_true rfl⟩) hw (fun r_9 u_9 H locs hp_9 hw => ?_)
  obtain rfl : r_9 = (b2i (o_rng v 0 ((Z 1) - 1))) := hp_9
  refine lv_iconst (v := 1) hx hb dX9_isStruck_12 (by decide) ?_
  refine m_ci (va_runV (As := [.int (b2i (o_rng v 0 ((Z 1) - 1))), .int 1]) (rest := []) ⟨hx, hb, hml, hown, hts⟩ (c_X9_no l (Z := Z) (M := M) (th := th) (o_rng v 0 ((Z 1) - 1)) 1 hro (r_st_self his) ) (cwV 2 hts gX9_isStruck_X9_no rfl rfl rfl (by decide +kernel) ⟨Nat.le_of_ble_eq_true rfl, Nat.le_of_ble_eq_true rfl⟩) ⟨m_blind m_B_calling, m_recv hw (m_ent_10 hro.1) rfl, fun U hU hW => ⟨rfl, m_wo_call hw hU hW⟩⟩ rfl rfl hl.1 rfl (lv_room (Nat.le_of_ble_eq_true rfl)) dX9_isStruck_13 ⟨Nat.le_of_ble_eq_true rfl, Nat.le_of_ble_eq_true rfl⟩) hw (fun r_13 u_13 H locs hp_13 hw => ?_)
  obtain ⟨I_1, A_2⟩ := u_13
  have hw : m_wo G K I_1 R F A_2 N L T J D s H locs := hw
  dsimp only at hp_13
  have his := r_st_tr his hp_13.1
  obtain rfl : r_13 = (b2i (!(o_rng v 0 ((Z 1) - 1)))) := hp_13.2
  refine lv_if_ne (tgt := 32) hx hb dX9_isStruck_16 (by decide) (fun c_16 => ?_) (fun c_16 => ?_)
  · skip
    have q_16 : (o_rng v 0 ((Z 1) - 1)) = false := by first | (have := (b2i_ne _).mp c_16; simpa using this) | (have := (b2i_eq _).mp c_16; simpa using this)
    refine lv_iconst (v := 0) hx hb dX9_isStruck_32 (by decide) ?_
    exact W.zret (v := 0) hx hb hr (by rfl) (fun t ht hW => ⟨⟨0, (I_1, A_2), rfl, (by have ht : t_b (o_rng v 0 (Z 1 - 1)) = 1 := (by simp [t_b, q_16]); rw [ht]; exact ⟨by first | exact his | simpa [q_16] using his, fun h => absurd h (by decide)⟩), m_wo_out hw ht hW.alike⟩, m_wo_F hw ht⟩) (m_wo_L hw) dX9_isStruck_33
  · skip
    have q_16 : (o_rng v 0 ((Z 1) - 1)) = true := by first | (have := (b2i_ne _).mp c_16; simpa using this) | (have := (b2i_eq _).mp c_16; simpa using this)
    obtain ⟨i, hi, hk⟩ := o_fnd_nat q_16 hnf (by omega)
    refine lv_aload_n hx hb dX9_isStruck_19 rfl (lv_at hl 0 rfl) ?_
    refine g_10_16 (r := some (ad 16)) hx hb hts (by decide +kernel) hown hw hro.1 (hts (.fieldLink RX9 38 "PirateindexModel" "struck" "[Z") (by decide +kernel)) (hro.2.1 16 rfl).1 dX9_isStruck_20 ?_
    refine lv_iload_n hx hb dX9_isStruck_23 rfl (lv_at hl 1 rfl) ?_
    refine m_baload_30 hx hb hw (hro.2.1 16 rfl).2.1 (by rw [show v = nI v.toNatClampNeg from by rw [hk, nI_clamp (by omega)]]; exact r_in hro 16 rfl (n := 120) rfl (show v.toNatClampNeg < 120 by rw [hk, nI_clamp (by omega)]; omega)) dX9_isStruck_24 ?_
    rw [show A_2 (ad 16) = M 16 from his.2.1 16 rfl]
    refine lv_if_eq (tgt := 32) hx hb dX9_isStruck_25 (by decide) (fun c_25 => ?_) (fun c_25 => ?_)
    · skip
      refine lv_iconst (v := 0) hx hb dX9_isStruck_32 (by decide) ?_
      exact W.zret (v := 0) hx hb hr (by rfl) (fun t ht hW => ⟨⟨0, (I_1, A_2), rfl, (by have ht : t_b (o_rng v 0 (Z 1 - 1)) = 0 := (by simp [t_b, q_16, c_25]); rw [ht]; exact ⟨by first | exact his | simpa [q_16, c_25] using his, fun _ => (by first | simp [b2i, c_25] | (have h9 := Int32.not_lt.mpr c_25; simp [b2i, h9]) | (have h9 := Int32.not_le.mp c_25; simp [b2i, h9]))⟩), m_wo_out hw ht hW.alike⟩, m_wo_F hw ht⟩) (m_wo_L hw) dX9_isStruck_33
    · skip
      refine lv_iconst (v := 1) hx hb dX9_isStruck_28 (by decide) ?_
      refine lv_goto (tgt := 33) hx hb dX9_isStruck_29 (by decide) ?_
      exact W.zret (v := 1) hx hb hr (by rfl) (fun t ht hW => ⟨⟨1, (I_1, A_2), rfl, (by have ht : t_b (o_rng v 0 (Z 1 - 1)) = 0 := (by simp [t_b, q_16, c_25]); rw [ht]; exact ⟨by first | exact his | simpa [q_16, c_25] using his, fun _ => (by first | simp [b2i, c_25] | (have h9 := Int32.not_lt.mpr c_25; simp [b2i, h9]) | (have h9 := Int32.not_le.mp c_25; simp [b2i, h9]))⟩), m_wo_out hw ht hW.alike⟩, m_wo_F hw ht⟩) (m_wo_L hw) dX9_isStruck_33

set_option maxHeartbeats 400000 in
set_option maxRecDepth 100000 in
theorem c_X9_cause (l : Launch) {G : mG} {K : Nat → Nat} {I : Nat → Nat → Int32} {R : Nat → Nat → Option Nat} {F : Nat → UInt32} {A : Nat → Nat → Int32} {N : Nat → Nat} {L : Nat → List Nat} {T : Nat → List Int32} {J : Nat → Nat → Int64} {D : Nat → Nat → UInt64} {o : Nat} {ad : Nat → Nat} {Z : Nat → Int32} {M : Nat → Nat → Int32} {th : Int32} {nc : Nat} (v : Int32) (hro : r_ok K R N o ad) (hz : r_st K o ad I A I A Z M th) (hnc : Z 31 = nI nc) (hn2 : nc ≤ 2) (hch : ∀ k, narrow .char (.int (M 32 k)) = .int (M 32 k)) : Met l yX9_cause wsX9_cause ({ frames := 2, cells := 0, slots := 0, locals := 60 } : Room) (va_Pc [.ref o, .int v] (m_B G K I R F A N L T J D)) (va_Qi (fun (r : Int32) (u : (Nat → Nat → Int32) × (Nat → Nat → Int32)) => (r_st K o ad I A u.1 u.2 Z M (t_b (o_rng v 0 (Z 31 - 1)))) ∧ (t_b (o_rng v 0 (Z 31 - 1)) = 0 → r = M 32 v.toNatClampNeg)) (fun u : (Nat → Nat → Int32) × (Nat → Nat → Int32) => m_B G K (u.1) R F (u.2) N L T J D) (m_A G)) 0 0 (m_A G) := by
  refine Met.ofW (cc := cX9_cause) (maxL := 2) (ret := (some .char)) (by decide) rfl ?_
  intro p e s m args below meth c s₁ B hml hv
  obtain ⟨rfl, hB⟩ := hv
  have hx := B.exec
  have hb := B.bytes
  have hr := B.returns
  have hts := atoms_spec (ws := wsX9_cause) B.pre
  have hown : s.vm.findClass RX9 = some m.cls := findClass_of_methodNamed B.named
  have hlocks := B.notSynchronized
  have hw := m_wo_in hB
  have hl := lv_entry ([.ref o, .int v]) (n := 2) (Nat.le_of_ble_eq_true rfl)
  rw [lg_entry_eq]
  generalize (lg_sl ([.ref o, .int v]) ++ List.replicate (2 - (lg_sl ([.ref o, .int v])).length) Slot.unset).toArray = ls at hl ⊢
  have hl : lv_has ls 2 [(0, .ref o), (1, .int v)] := hl
  have his := hz
  refine lv_aload_n hx hb dX9_cause_0 rfl (lv_at hl 0 rfl) ?_
  refine lv_iload_n hx hb dX9_cause_1 rfl (lv_at hl 1 rfl) ?_
  refine lv_iconst (v := 0) hx hb dX9_cause_2 (by decide) ?_
  refine lv_aload_n hx hb dX9_cause_3 rfl (lv_at hl 0 rfl) ?_
  refine g_10_31 hx hb hts (by decide +kernel) hown hw hro.1 (hts (.fieldLink RX9 151 "PirateindexModel" "causes" "I") (by decide +kernel)) dX9_cause_4 ?_
  rw [show I 1031 o = Z 31 from his.1 31 (by decide)]
  refine lv_iconst (v := 1) hx hb dX9_cause_7 (by decide) ?_
  refine lv_isub hx hb dX9_cause_8 ?_
  refine m_ci (va_runS (As := [.int v, .int 0, .int ((Z 31) - 1)]) (rest := [.ref o]) ⟨hx, hb, hml, hown, hts⟩ (c_X9_isIn l v 0 ((Z 31) - 1)) (va_cwS 3 hts gX9_cause_X9_isIn rfl rfl rfl (by decide +kernel) ⟨Nat.le_of_ble_eq_true rfl, Nat.le_of_ble_eq_true rfl⟩) ⟨m_blind m_B_calling, fun U hU hW => ⟨rfl, m_wo_call hw hU hW⟩⟩ rfl rfl hl.1 rfl (lv_room (Nat.le_of_ble_eq_true rfl)) dX9_cause_9 ⟨Nat.le_of_ble_eq_true rfl, Nat.le_of_ble_eq_true rfl⟩) hw (fun r_9 u_9 H locs hp_9 hw => ?_)
  obtain rfl : r_9 = (b2i (o_rng v 0 ((Z 31) - 1))) := hp_9
  refine lv_iconst (v := 1) hx hb dX9_cause_12 (by decide) ?_
  refine m_ci (va_runV (As := [.int (b2i (o_rng v 0 ((Z 31) - 1))), .int 1]) (rest := []) ⟨hx, hb, hml, hown, hts⟩ (c_X9_no l (Z := Z) (M := M) (th := th) (o_rng v 0 ((Z 31) - 1)) 1 hro (r_st_self his) ) (cwV 2 hts gX9_cause_X9_no rfl rfl rfl (by decide +kernel) ⟨Nat.le_of_ble_eq_true rfl, Nat.le_of_ble_eq_true rfl⟩) ⟨m_blind m_B_calling, m_recv hw (m_ent_10 hro.1) rfl, fun U hU hW => ⟨rfl, m_wo_call hw hU hW⟩⟩ rfl rfl hl.1 rfl (lv_room (Nat.le_of_ble_eq_true rfl)) dX9_cause_13 ⟨Nat.le_of_ble_eq_true rfl, Nat.le_of_ble_eq_true rfl⟩) hw (fun r_13 u_13 H locs hp_13 hw => ?_)
  obtain ⟨I_1, A_2⟩ := u_13
  have hw : m_wo G K I_1 R F A_2 N L T J D s H locs := hw
  dsimp only at hp_13
  have his := r_st_tr his hp_13.1
  obtain rfl : r_13 = (b2i (!(o_rng v 0 ((Z 31) - 1)))) := hp_13.2
  refine lv_if_eq (tgt := 24) hx hb dX9_cause_16 (by decide) (fun c_16 => ?_) (fun c_16 => ?_)
  · skip
    have q_16 : (o_rng v 0 ((Z 31) - 1)) = true := by first | (have := (b2i_ne _).mp c_16; simpa using this) | (have := (b2i_eq _).mp c_16; simpa using this)
    obtain ⟨i, hi, hk⟩ := o_isl_nat (Z := fun _ => Z 31) q_16 hnc (by omega)
    refine lv_aload_n hx hb dX9_cause_24 rfl (lv_at hl 0 rfl) ?_
    refine g_10_32 (r := some (ad 32)) hx hb hts (by decide +kernel) hown hw hro.1 (hts (.fieldLink RX9 77 "PirateindexModel" "cause" "[C") (by decide +kernel)) (hro.2.1 32 rfl).1 dX9_cause_25 ?_
    refine lv_iload_n hx hb dX9_cause_28 rfl (lv_at hl 1 rfl) ?_
    refine m_caload_34 hx hb hw (hro.2.1 32 rfl).2.1 (by rw [show v = nI v.toNatClampNeg from by rw [hk, nI_clamp (by omega)]]; exact r_in hro 32 rfl (n := 2) rfl (show v.toNatClampNeg < 2 by rw [hk, nI_clamp (by omega)]; omega)) dX9_cause_29 ?_
    rw [show A_2 (ad 32) = M 32 from his.2.1 32 rfl]
    exact W.zret (v := (M 32 (v.toNatClampNeg))) hx hb hr (by first | decide | exact hch _) (fun t ht hW => ⟨⟨(M 32 (v.toNatClampNeg)), (I_1, A_2), rfl, (by have ht : t_b (o_rng v 0 (Z 31 - 1)) = 0 := (by simp [t_b, q_16]); rw [ht]; exact ⟨by first | exact his | simpa [q_16] using his, fun _ => rfl⟩), m_wo_out hw ht hW.alike⟩, m_wo_F hw ht⟩) (m_wo_L hw) dX9_cause_30
  · skip
    have q_16 : (o_rng v 0 ((Z 31) - 1)) = false := by first | (have := (b2i_ne _).mp c_16; simpa using this) | (have := (b2i_eq _).mp c_16; simpa using this)
    refine lv_bipush (v := 45) hx hb dX9_cause_19 (by decide) ?_
    refine lv_goto (tgt := 30) hx hb dX9_cause_21 (by decide) ?_
    exact W.zret (v := 45) hx hb hr (by first | decide | exact hch _) (fun t ht hW => ⟨⟨45, (I_1, A_2), rfl, (by have ht : t_b (o_rng v 0 (Z 31 - 1)) = 1 := (by simp [t_b, q_16]); rw [ht]; exact ⟨by first | exact his | simpa [q_16] using his, fun h => absurd h (by decide)⟩), m_wo_out hw ht hW.alike⟩, m_wo_F hw ht⟩) (m_wo_L hw) dX9_cause_30

set_option maxHeartbeats 400000 in
set_option maxRecDepth 100000 in
theorem c_X9_far (l : Launch) {G : mG} {K : Nat → Nat} {I : Nat → Nat → Int32} {R : Nat → Nat → Option Nat} {F : Nat → UInt32} {A : Nat → Nat → Int32} {N : Nat → Nat} {L : Nat → List Nat} {T : Nat → List Int32} {J : Nat → Nat → Int64} {D : Nat → Nat → UInt64} {o : Nat} {ad : Nat → Nat} {Z : Nat → Int32} {M : Nat → Nat → Int32} {th : Int32} {at0 : Nat} (sh tt : Nat) (hro : r_ok K R N o ad) (hz : r_st K o ad I A I A Z M th) (hsh : sh < 5) (htt : tt < 12) (hat : M 18 sh = nI at0) (ha : at0 < 12) : Met l yX9_far wsX9_far ({ frames := 0, cells := 0, slots := 0, locals := 0 } : Room) (va_Pc [.ref o, .int (nI sh), .int (nI tt)] (m_B G K I R F A N L T J D)) (va_Qi (fun (r : Int32) (_ : Unit) => r = o_far M sh tt) (fun u : Unit => m_B G K I R F A N L T J D) (m_A G)) 0 0 (m_A G) := by
  refine Met.ofW (cc := cX9_far) (maxL := 5) (ret := (some .int)) (by decide) rfl ?_
  intro p e s m args below meth c s₁ B hml hv
  obtain ⟨rfl, hB⟩ := hv
  have hx := B.exec
  have hb := B.bytes
  have hr := B.returns
  have hts := atoms_spec (ws := wsX9_far) B.pre
  have hown : s.vm.findClass RX9 = some m.cls := findClass_of_methodNamed B.named
  have hlocks := B.notSynchronized
  have hw := m_wo_in hB
  have hl := lv_entry ([.ref o, .int (nI sh), .int (nI tt)]) (n := 5) (Nat.le_of_ble_eq_true rfl)
  rw [lg_entry_eq]
  generalize (lg_sl ([.ref o, .int (nI sh), .int (nI tt)]) ++ List.replicate (5 - (lg_sl ([.ref o, .int (nI sh), .int (nI tt)])).length) Slot.unset).toArray = ls at hl ⊢
  have hl : lv_has ls 5 [(0, .ref o), (1, .int (nI sh)), (2, .int (nI tt))] := hl
  have his := hz
  refine lv_aload_n hx hb dX9_far_0 rfl (lv_at hl 0 rfl) ?_
  refine g_10_7 (r := some (ad 7)) hx hb hts (by decide +kernel) hown hw hro.1 (hts (.fieldLink RX9 7 "PirateindexModel" "placeX" "[I") (by decide +kernel)) (hro.2.1 7 rfl).1 dX9_far_1 ?_
  refine lv_iload_n hx hb dX9_far_4 rfl (lv_at hl 2 rfl) ?_
  refine m_iaload_20 hx hb hw (hro.2.1 7 rfl).2.1 (r_in hro 7 rfl (n := 12) rfl (by omega)) dX9_far_5 ?_
  rw [show A (ad 7) = M 7 from his.2.1 7 rfl]
  rw [nI_clamp (show tt < 2 ^ 31 by omega)]
  refine lv_aload_n hx hb dX9_far_6 rfl (lv_at hl 0 rfl) ?_
  refine g_10_7 (r := some (ad 7)) hx hb hts (by decide +kernel) hown hw hro.1 (hts (.fieldLink RX9 7 "PirateindexModel" "placeX" "[I") (by decide +kernel)) (hro.2.1 7 rfl).1 dX9_far_7 ?_
  refine lv_aload_n hx hb dX9_far_10 rfl (lv_at hl 0 rfl) ?_
  refine g_10_18 (r := some (ad 18)) hx hb hts (by decide +kernel) hown hw hro.1 (hts (.fieldLink RX9 44 "PirateindexModel" "stands" "[I") (by decide +kernel)) (hro.2.1 18 rfl).1 dX9_far_11 ?_
  refine lv_iload_n hx hb dX9_far_14 rfl (lv_at hl 1 rfl) ?_
  refine m_iaload_20 hx hb hw (hro.2.1 18 rfl).2.1 (r_in hro 18 rfl (n := 5) rfl (by omega)) dX9_far_15 ?_
  rw [show A (ad 18) = M 18 from his.2.1 18 rfl]
  rw [nI_clamp (show sh < 2 ^ 31 by omega)]
  rw [hat]
  refine m_iaload_20 hx hb hw (hro.2.1 7 rfl).2.1 (r_in hro 7 rfl (n := 12) rfl (by omega)) dX9_far_16 ?_
  rw [show A (ad 7) = M 7 from his.2.1 7 rfl]
  rw [nI_clamp (show at0 < 2 ^ 31 by omega)]
  refine lv_isub hx hb dX9_far_17 ?_
  refine lv_istore_n (lv' := [(3, .int ((M 7 tt) - (M 7 at0))), (0, .ref o), (1, .int (nI sh)), (2, .int (nI tt))]) hx hb dX9_far_18 rfl hl (by decide) rfl (fun ls hl => ?_)
  refine lv_aload_n hx hb dX9_far_19 rfl (lv_at hl 1 rfl) ?_
  refine g_10_8 (r := some (ad 8)) hx hb hts (by decide +kernel) hown hw hro.1 (hts (.fieldLink RX9 13 "PirateindexModel" "placeY" "[I") (by decide +kernel)) (hro.2.1 8 rfl).1 dX9_far_20 ?_
  refine lv_iload_n hx hb dX9_far_23 rfl (lv_at hl 3 rfl) ?_
  refine m_iaload_20 hx hb hw (hro.2.1 8 rfl).2.1 (r_in hro 8 rfl (n := 12) rfl (by omega)) dX9_far_24 ?_
  rw [show A (ad 8) = M 8 from his.2.1 8 rfl]
  rw [nI_clamp (show tt < 2 ^ 31 by omega)]
  refine lv_aload_n hx hb dX9_far_25 rfl (lv_at hl 1 rfl) ?_
  refine g_10_8 (r := some (ad 8)) hx hb hts (by decide +kernel) hown hw hro.1 (hts (.fieldLink RX9 13 "PirateindexModel" "placeY" "[I") (by decide +kernel)) (hro.2.1 8 rfl).1 dX9_far_26 ?_
  refine lv_aload_n hx hb dX9_far_29 rfl (lv_at hl 1 rfl) ?_
  refine g_10_18 (r := some (ad 18)) hx hb hts (by decide +kernel) hown hw hro.1 (hts (.fieldLink RX9 44 "PirateindexModel" "stands" "[I") (by decide +kernel)) (hro.2.1 18 rfl).1 dX9_far_30 ?_
  refine lv_iload_n hx hb dX9_far_33 rfl (lv_at hl 2 rfl) ?_
  refine m_iaload_20 hx hb hw (hro.2.1 18 rfl).2.1 (r_in hro 18 rfl (n := 5) rfl (by omega)) dX9_far_34 ?_
  rw [show A (ad 18) = M 18 from his.2.1 18 rfl]
  rw [nI_clamp (show sh < 2 ^ 31 by omega)]
  rw [hat]
  refine m_iaload_20 hx hb hw (hro.2.1 8 rfl).2.1 (r_in hro 8 rfl (n := 12) rfl (by omega)) dX9_far_35 ?_
  rw [show A (ad 8) = M 8 from his.2.1 8 rfl]
  rw [nI_clamp (show at0 < 2 ^ 31 by omega)]
  refine lv_isub hx hb dX9_far_36 ?_
  refine lv_istore (lv' := [(4, .int ((M 8 tt) - (M 8 at0))), (3, .int ((M 7 tt) - (M 7 at0))), (0, .ref o), (1, .int (nI sh)), (2, .int (nI tt))]) hx hb dX9_far_37 hl (by decide) rfl (fun ls hl => ?_)
  refine lv_iload_n hx hb dX9_far_39 rfl (lv_at hl 1 rfl) ?_
  refine lv_iload_n hx hb dX9_far_40 rfl (lv_at hl 1 rfl) ?_
  refine lv_imul hx hb dX9_far_41 ?_
  refine lv_iload hx hb dX9_far_42 (lv_at hl 0 rfl) ?_
  refine lv_iload hx hb dX9_far_44 (lv_at hl 0 rfl) ?_
  refine lv_imul hx hb dX9_far_46 ?_
  refine lv_iadd hx hb dX9_far_47 ?_
  exact W.iret (v := ((((M 7 tt) - (M 7 at0)) * ((M 7 tt) - (M 7 at0))) + (((M 8 tt) - (M 8 at0)) * ((M 8 tt) - (M 8 at0))))) hx hb hr (fun t ht hW => ⟨⟨((((M 7 tt) - (M 7 at0)) * ((M 7 tt) - (M 7 at0))) + (((M 8 tt) - (M 8 at0)) * ((M 8 tt) - (M 8 at0)))), (), rfl, (by unfold o_far; rw [hat, nI_clamp (by omega)]), m_wo_out hw ht hW.alike⟩, m_wo_F hw ht⟩) (m_wo_L hw) dX9_far_48

set_option maxHeartbeats 400000 in
set_option maxRecDepth 100000 in
theorem c_X9_pays (l : Launch) {G : mG} {K : Nat → Nat} {I : Nat → Nat → Int32} {R : Nat → Nat → Option Nat} {F : Nat → UInt32} {A : Nat → Nat → Int32} {N : Nat → Nat} {L : Nat → List Nat} {T : Nat → List Int32} {J : Nat → Nat → Int64} {D : Nat → Nat → UInt64} {o : Nat} {ad : Nat → Nat} {Z : Nat → Int32} {M : Nat → Nat → Int32} {th : Int32} (sh : Nat) (cc : Int32) (hro : r_ok K R N o ad) (hz : r_st K o ad I A I A Z M th) (hsh : sh < 5) : Met l yX9_pays wsX9_pays ({ frames := 0, cells := 0, slots := 0, locals := 0 } : Room) (va_Pc [.ref o, .int (nI sh), .int cc] (m_B G K I R F A N L T J D)) (va_Qi (fun (r : Int32) (u : (Nat → Nat → Int32) × (Nat → Nat → Int32)) => (r_st K o ad I A u.1 u.2 Z (m1 M 19 sh (M 19 sh - o_pay M sh cc)) th) ∧ r = o_pay M sh cc) (fun u : (Nat → Nat → Int32) × (Nat → Nat → Int32) => m_B G K (u.1) R F (u.2) N L T J D) (m_A G)) 0 0 (m_A G) := by
  refine Met.ofW (cc := cX9_pays) (maxL := 4) (ret := (some .int)) (by decide) rfl ?_
  intro p e s m args below meth c s₁ B hml hv
  obtain ⟨rfl, hB⟩ := hv
  have hx := B.exec
  have hb := B.bytes
  have hr := B.returns
  have hts := atoms_spec (ws := wsX9_pays) B.pre
  have hown : s.vm.findClass RX9 = some m.cls := findClass_of_methodNamed B.named
  have hlocks := B.notSynchronized
  have hw := m_wo_in hB
  have hl := lv_entry ([.ref o, .int (nI sh), .int cc]) (n := 4) (Nat.le_of_ble_eq_true rfl)
  rw [lg_entry_eq]
  generalize (lg_sl ([.ref o, .int (nI sh), .int cc]) ++ List.replicate (4 - (lg_sl ([.ref o, .int (nI sh), .int cc])).length) Slot.unset).toArray = ls at hl ⊢
  have hl : lv_has ls 4 [(0, .ref o), (1, .int (nI sh)), (2, .int cc)] := hl
  have his := hz
  refine m_joinH (σ := Int32) 20 (fun b H locs => b = (o_pay M sh cc) ∧ m_wo G K I R F A N L T J D s H locs) (fun b => .int b :: []) ?_ (fun J_1 => ?_)
  · rintro _ H locs ⟨rfl, hw⟩
    refine lv_istore_n (lv' := [(3, .int (o_pay M sh cc)), (0, .ref o), (1, .int (nI sh)), (2, .int cc)]) hx hb dX9_pays_20 rfl hl (by decide) rfl (fun ls hl => ?_)
    refine lv_aload_n hx hb dX9_pays_21 rfl (lv_at hl 1 rfl) ?_
    refine g_10_19 (r := some (ad 19)) hx hb hts (by decide +kernel) hown hw hro.1 (hts (.fieldLink RX9 47 "PirateindexModel" "purse" "[I") (by decide +kernel)) (hro.2.1 19 rfl).1 dX9_pays_22 ?_
    refine lv_iload_n hx hb dX9_pays_25 rfl (lv_at hl 2 rfl) ?_
    refine lv_dup2_11 hx hb dX9_pays_26 rfl rfl ?_
    refine m_iaload_20 hx hb hw (hro.2.1 19 rfl).2.1 (r_in hro 19 rfl (n := 5) rfl (by omega)) dX9_pays_27 ?_
    rw [show A (ad 19) = M 19 from his.2.1 19 rfl]
    rw [nI_clamp (show sh < 2 ^ 31 by omega)]
    refine lv_iload_n hx hb dX9_pays_28 rfl (lv_at hl 0 rfl) ?_
    refine lv_isub hx hb dX9_pays_29 ?_
    refine m_iastore_20 hx hb hw (hro.2.1 19 rfl).2.1 (r_in hro 19 rfl (n := 5) rfl (by omega))  dX9_pays_30 (fun H locs hw => ?_)
    obtain ⟨A_2, eA_2⟩ : ∃ z, z = m_up A (ad 19) (upd (A (ad 19)) (nI sh).toNatClampNeg ((M 19 sh) - (o_pay M sh cc))) := ⟨_, rfl⟩
    rw [← eA_2] at hw
    obtain ⟨M_3, eM_3⟩ : ∃ z, z = m1 M 19 sh ((M 19 sh) - (o_pay M sh cc)) := ⟨_, rfl⟩
    have his : r_st K o ad I A I A_2 Z M_3 th := by rw [eA_2, eM_3, nI_clamp (show sh < 2 ^ 31 by omega)]; exact r_st_m his hro 19 rfl sh ((M 19 sh) - (o_pay M sh cc))
    refine lv_iload_n hx hb dX9_pays_31 rfl (lv_at hl 0 rfl) ?_
    exact W.iret (v := (o_pay M sh cc)) hx hb hr (fun t ht hW => ⟨⟨(o_pay M sh cc), (I, A_2), rfl, ⟨by rw [← eM_3]; exact his, rfl⟩, m_wo_out hw ht hW.alike⟩, m_wo_F hw ht⟩) (m_wo_L hw) dX9_pays_32
  · skip
    refine lv_iload_n hx hb dX9_pays_0 rfl (lv_at hl 2 rfl) ?_
    refine lv_aload_n hx hb dX9_pays_1 rfl (lv_at hl 0 rfl) ?_
    refine g_10_19 (r := some (ad 19)) hx hb hts (by decide +kernel) hown hw hro.1 (hts (.fieldLink RX9 47 "PirateindexModel" "purse" "[I") (by decide +kernel)) (hro.2.1 19 rfl).1 dX9_pays_2 ?_
    refine lv_iload_n hx hb dX9_pays_5 rfl (lv_at hl 1 rfl) ?_
    refine m_iaload_20 hx hb hw (hro.2.1 19 rfl).2.1 (r_in hro 19 rfl (n := 5) rfl (by omega)) dX9_pays_6 ?_
    rw [show A (ad 19) = M 19 from his.2.1 19 rfl]
    rw [nI_clamp (show sh < 2 ^ 31 by omega)]
    refine lv_icmp_ge (tgt := 14) hx hb dX9_pays_7 (by decide) (fun c_7 => ?_) (fun c_7 => ?_)
    · skip
      refine lv_aload_n hx hb dX9_pays_14 rfl (lv_at hl 0 rfl) ?_
      refine g_10_19 (r := some (ad 19)) hx hb hts (by decide +kernel) hown hw hro.1 (hts (.fieldLink RX9 47 "PirateindexModel" "purse" "[I") (by decide +kernel)) (hro.2.1 19 rfl).1 dX9_pays_15 ?_
      refine lv_iload_n hx hb dX9_pays_18 rfl (lv_at hl 1 rfl) ?_
      refine m_iaload_20 hx hb hw (hro.2.1 19 rfl).2.1 (r_in hro 19 rfl (n := 5) rfl (by omega)) dX9_pays_19 ?_
      rw [show A (ad 19) = M 19 from his.2.1 19 rfl]
      rw [nI_clamp (show sh < 2 ^ 31 by omega)]
      exact J_1 (M 19 sh) _ _ ⟨(by simp [o_pay, ← Int32.not_le, c_7]), hw⟩
    · skip
      refine lv_iload_n hx hb dX9_pays_10 rfl (lv_at hl 2 rfl) ?_
      refine lv_goto (tgt := 20) hx hb dX9_pays_11 (by decide) ?_
      exact J_1 cc _ _ ⟨(by simp [o_pay, ← Int32.not_le, c_7]), hw⟩

set_option maxHeartbeats 400000 in
set_option maxRecDepth 100000 in
theorem c_X9_root (l : Launch) {G : mG} {K : Nat → Nat} {I : Nat → Nat → Int32} {R : Nat → Nat → Option Nat} {F : Nat → UInt32} {A : Nat → Nat → Int32} {N : Nat → Nat} {L : Nat → List Nat} {T : Nat → List Int32} {J : Nat → Nat → Int64} {D : Nat → Nat → UInt64} (n : Nat) (hn : n < 30000) : Met l yX9_root wsX9_root ({ frames := 0, cells := 0, slots := 0, locals := 0 } : Room) (va_Pc [.int (nI n)] (m_B G K I R F A N L T J D)) (va_Qi (fun (r : Int32) (_ : Unit) => r = nI (o_root n)) (fun u : Unit => m_B G K I R F A N L T J D) (m_A G)) 0 0 (m_A G) := by
  refine Met.ofW (cc := cX9_root) (maxL := 2) (ret := (some .int)) (by decide) rfl ?_
  intro p e s m args below meth c s₁ B hml hv
  obtain ⟨rfl, hB⟩ := hv
  have hx := B.exec
  have hb := B.bytes
  have hr := B.returns
  have hts := atoms_spec (ws := wsX9_root) B.pre
  have hown : s.vm.findClass RX9 = some m.cls := findClass_of_methodNamed B.named
  have hlocks := B.notSynchronized
  have hw := m_wo_in hB
  have hl := lv_entry ([.int (nI n)]) (n := 2) (Nat.le_of_ble_eq_true rfl)
  rw [lg_entry_eq]
  generalize (lg_sl ([.int (nI n)]) ++ List.replicate (2 - (lg_sl ([.int (nI n)])).length) Slot.unset).toArray = ls at hl ⊢
  have hl : lv_has ls 2 [(0, .int (nI n))] := hl
  refine lv_iconst (v := 0) hx hb dX9_root_0 (by decide) ?_
  refine lv_istore_n (lv' := [(1, .int 0), (0, .int (nI n))]) hx hb dX9_root_1 rfl hl (by decide) rfl (fun ls hl => ?_)
  refine m_loop (σ := Nat) (fun a => n + 1 - (a)) (fun a H locs ls => ((a) * (a) ≤ n) ∧ m_wo G K I R F A N L T J D s H locs ∧ lv_has ls 2 [(0, .int (nI n)), (1, .int (nI (a)))]) ?_ (0) ⟨Nat.zero_le _, hw, lv_sub hl [1, 0] rfl⟩
  rintro i H locs ls ⟨hinv, hw, hl⟩ ih
  try dsimp only at hinv hw hl
  have hi9 : i < 200 := Nat.lt_of_not_le (fun h => by have := Nat.mul_le_mul h h; omega)
  refine lv_iload_n hx hb dX9_root_2 rfl (lv_at hl 1 rfl) ?_
  refine lv_iconst (v := 1) hx hb dX9_root_3 (by decide) ?_
  refine lv_iadd hx hb dX9_root_4 ?_
  refine lv_iload_n hx hb dX9_root_5 rfl (lv_at hl 1 rfl) ?_
  refine lv_iconst (v := 1) hx hb dX9_root_6 (by decide) ?_
  refine lv_iadd hx hb dX9_root_7 ?_
  refine lv_imul hx hb dX9_root_8 ?_
  refine lv_iload_n hx hb dX9_root_9 rfl (lv_at hl 0 rfl) ?_
  refine lv_icmp_gt (tgt := 19) hx hb dX9_root_10 (by decide) (fun c_10 => ?_) (fun c_10 => ?_)
  · skip
    have e10 : ((nI i + 1) * (nI i + 1) : Int32) = nI ((i + 1) * (i + 1)) := by rw [nI_1, pk_mul]
    have h40 : (i + 1) * (i + 1) < 2 ^ 31 := Nat.lt_of_le_of_lt (Nat.mul_le_mul (show i + 1 ≤ 200 by omega) (show i + 1 ≤ 200 by omega)) (by decide)
    have h10 : n < (i + 1) * (i + 1) := by first | (rw [e10, nI_ltI (by omega) h40] at c_10; exact c_10) | (have h9 := c_10; rw [nI_1, pk_mul, nI_ltI (by omega) h40] at h9; exact h9)
    refine lv_iload_n hx hb dX9_root_19 rfl (lv_at hl 1 rfl) ?_
    exact W.iret (v := nI i) hx hb hr (fun t ht hW => ⟨⟨nI i, (), rfl, (by rw [o_root_eq hinv h10]), m_wo_out hw ht hW.alike⟩, m_wo_F hw ht⟩) (m_wo_L hw) dX9_root_20
  · skip
    have e10 : ((nI i + 1) * (nI i + 1) : Int32) = nI ((i + 1) * (i + 1)) := by rw [nI_1, pk_mul]
    have h40 : (i + 1) * (i + 1) < 2 ^ 31 := Nat.lt_of_le_of_lt (Nat.mul_le_mul (show i + 1 ≤ 200 by omega) (show i + 1 ≤ 200 by omega)) (by decide)
    have h10 : (i + 1) * (i + 1) ≤ n := by (have h9 := c_10; rw [e10, nI_ltI (by omega) h40] at h9; omega)
    have hmu : i ≤ i * i := by cases i with
      | zero => exact Nat.le_refl _
      | succ i => exact Nat.le_mul_of_pos_left _ (by omega)
    refine lv_iinc (v := nI (i + 1)) (lv' := [(1, .int (nI (i + 1))), (0, .int (nI n))]) hx hb dX9_root_13 hl (k := 1) rfl (nI_1 _) (by decide) rfl (fun ls hl => ?_)
    refine lv_goto (tgt := 2) hx hb dX9_root_16 (by decide) ?_
    exact ih (i + 1) _ _ _ (by omega) ⟨h10, hw, lv_sub hl [1, 0] rfl⟩

