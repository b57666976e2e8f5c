set_option maxHeartbeats 400000 in
set_option maxRecDepth 100000 in
theorem c_X9_isIn (l : Launch) {G : mG} {K : Nat → Nat} {I : Nat → Nat → Int32} {R : Nat → Nat → Option Nat} {F : Nat → UInt32} {A : Nat → Nat → Int32} {N : Nat → Nat} {L : Nat → List Nat} {T : Nat → List Int32} {J : Nat → Nat → Int64} {D : Nat → Nat → UInt64} (v lo hi : Int32)  : Met l yX9_isIn wsX9_isIn ({ frames := 0, cells := 0, slots := 0, locals := 0 } : Room) (va_Pc [.int v, .int lo, .int hi] (m_B G K I R F A N L T J D)) (va_Qi (fun (r : Int32) (_ : Unit) => r = b2i (o_rng v lo hi)) (fun u : Unit => m_B G K I R F A N L T J D) (m_A G)) 0 0 (m_A G) := by
  refine Met.ofW (cc := cX9_isIn) (maxL := 3) (ret := (some .boolean)) (by decide) rfl ?_
  intro p e s m args below meth c s₁ B hml hv
  obtain ⟨rfl, hB⟩ := hv
  have hx := B.exec
  have hb := B.bytes
  have hr := B.returns
  have hts := atoms_spec (ws := wsX9_isIn) B.pre
  have hown : s.vm.findClass RX9 = some m.cls := findClass_of_methodNamed B.named
  have hlocks := B.notSynchronized
  have hw := m_wo_in hB
  have hl := lv_entry ([.int v, .int lo, .int hi]) (n := 3) (Nat.le_of_ble_eq_true rfl)
  rw [lg_entry_eq]
  generalize (lg_sl ([.int v, .int lo, .int hi]) ++ List.replicate (3 - (lg_sl ([.int v, .int lo, .int hi])).length) Slot.unset).toArray = ls at hl ⊢
  have hl : lv_has ls 3 [(0, .int v), (1, .int lo), (2, .int hi)] := hl
  refine lv_iload_n hx hb dX9_isIn_0 rfl (lv_at hl 0 rfl) ?_
  refine lv_iload_n hx hb dX9_isIn_1 rfl (lv_at hl 1 rfl) ?_
  refine lv_icmp_lt (tgt := 14) hx hb dX9_isIn_2 (by decide) (fun c_2 => ?_) (fun c_2 => ?_)
  · skip
    have hq : b2i (o_rng v lo hi) = 0 := by simp [b2i, o_rng, Int32.not_le.mpr c_2]
    refine lv_iconst (v := 0) hx hb dX9_isIn_14 (by decide) ?_
    exact W.zret (v := 0) hx hb hr (by rfl) (fun t ht hW => ⟨⟨0, (), rfl, hq.symm, m_wo_out hw ht hW.alike⟩, m_wo_F hw ht⟩) (m_wo_L hw) dX9_isIn_15
  · skip
    refine lv_iload_n hx hb dX9_isIn_5 rfl (lv_at hl 0 rfl) ?_
    refine lv_iload_n hx hb dX9_isIn_6 rfl (lv_at hl 2 rfl) ?_
    refine lv_icmp_gt (tgt := 14) hx hb dX9_isIn_7 (by decide) (fun c_7 => ?_) (fun c_7 => ?_)
    · skip
      have hq : b2i (o_rng v lo hi) = 0 := by simp [b2i, o_rng, Int32.not_le.mpr c_7]
      refine lv_iconst (v := 0) hx hb dX9_isIn_14 (by decide) ?_
      exact W.zret (v := 0) hx hb hr (by rfl) (fun t ht hW => ⟨⟨0, (), rfl, hq.symm, m_wo_out hw ht hW.alike⟩, m_wo_F hw ht⟩) (m_wo_L hw) dX9_isIn_15
    · skip
      have hq : b2i (o_rng v lo hi) = 1 := by simp [b2i, o_rng, Int32.not_lt.mp c_2, Int32.not_lt.mp c_7]
      refine lv_iconst (v := 1) hx hb dX9_isIn_10 (by decide) ?_
      refine lv_goto (tgt := 15) hx hb dX9_isIn_11 (by decide) ?_
      exact W.zret (v := 1) hx hb hr (by rfl) (fun t ht hW => ⟨⟨1, (), rfl, hq.symm, m_wo_out hw ht hW.alike⟩, m_wo_F hw ht⟩) (m_wo_L hw) dX9_isIn_15

set_option maxHeartbeats 400000 in
set_option maxRecDepth 100000 in
theorem c_X9_no (l : Launch) {G : mG} {K : Nat → Nat} {I : Nat → Nat → Int32} {R : Nat → Nat → Option Nat} {F : Nat → UInt32} {A : Nat → Nat → Int32} {N : Nat → Nat} {L : Nat → List Nat} {T : Nat → List Int32} {J : Nat → Nat → Int64} {D : Nat → Nat → UInt64} {o : Nat} {ad : Nat → Nat} {Z : Nat → Int32} {M : Nat → Nat → Int32} {th : Int32} (bb : Bool) (k : Int32) (hro : r_ok K R N o ad) (hz : r_st K o ad I A I A Z M th)  : Met l yX9_no wsX9_no ({ frames := 0, cells := 0, slots := 0, locals := 0 } : Room) (va_Pc [.ref o, .int (b2i bb), .int k] (m_B G K I R F A N L T J D)) (va_Qi (fun (r : Int32) (u : (Nat → Nat → Int32) × (Nat → Nat → Int32)) => r_st K o ad I A u.1 u.2 Z M (if bb then 0 else k) ∧ r = b2i (!bb)) (fun u : (Nat → Nat → Int32) × (Nat → Nat → Int32) => m_B G K (u.1) R F (u.2) N L T J D) (m_A G)) 0 0 (m_A G) := by
  refine Met.ofW (cc := cX9_no) (maxL := 3) (ret := (some .boolean)) (by decide) rfl ?_
  intro p e s m args below meth c s₁ B hml hv
  obtain ⟨rfl, hB⟩ := hv
  have hx := B.exec
  have hb := B.bytes
  have hr := B.returns
  have hts := atoms_spec (ws := wsX9_no) B.pre
  have hown : s.vm.findClass RX9 = some m.cls := findClass_of_methodNamed B.named
  have hlocks := B.notSynchronized
  have hw := m_wo_in hB
  have hl := lv_entry ([.ref o, .int (b2i bb), .int k]) (n := 3) (Nat.le_of_ble_eq_true rfl)
  rw [lg_entry_eq]
  generalize (lg_sl ([.ref o, .int (b2i bb), .int k]) ++ List.replicate (3 - (lg_sl ([.ref o, .int (b2i bb), .int k])).length) Slot.unset).toArray = ls at hl ⊢
  have hl : lv_has ls 3 [(0, .ref o), (1, .int (b2i bb)), (2, .int k)] := hl
  have his := hz
  refine lv_aload_n hx hb dX9_no_0 rfl (lv_at hl 0 rfl) ?_
  refine lv_iload_n hx hb dX9_no_1 rfl (lv_at hl 1 rfl) ?_
  refine lv_if_eq (tgt := 9) hx hb dX9_no_2 (by decide) (fun c_2 => ?_) (fun c_2 => ?_)
  · skip
    have hbb : bb = false := (b2i_eq bb).mp c_2
    subst hbb
    refine lv_iload_n hx hb dX9_no_9 rfl (lv_at hl 2 rfl) ?_
    refine p_10_6 hx hb hts (by decide +kernel) hown hw hro.1 (hts (.fieldLink RX9 95 "PirateindexModel" "thrown" "I") (by decide +kernel)) dX9_no_10 (fun H locs hw => ?_)
    obtain ⟨I_1, eI_1⟩ : ∃ z, z = m_up2 I 1006 o k := ⟨_, rfl⟩
    rw [← eI_1] at hw
    have his : r_st K o ad I A I_1 A Z M k := by rw [eI_1]; exact r_st_t his k hro.1
    refine lv_iload_n hx hb dX9_no_13 rfl (lv_at hl 1 rfl) ?_
    refine lv_if_ne (tgt := 21) hx hb dX9_no_14 (by decide) (fun c_14 => ?_) (fun c_14 => ?_)
    · skip
      refine lv_iconst (v := 0) hx hb dX9_no_21 (by decide) ?_
      exact W.zret (v := 0) hx hb hr (by rfl) (fun t ht hW => ⟨⟨0, (I_1, A), rfl, ⟨his, by first | rfl | exact absurd rfl c_14 | exact absurd c_14 (by decide)⟩, m_wo_out hw ht hW.alike⟩, m_wo_F hw ht⟩) (m_wo_L hw) dX9_no_22
    · skip
      refine lv_iconst (v := 1) hx hb dX9_no_17 (by decide) ?_
      refine lv_goto (tgt := 22) hx hb dX9_no_18 (by decide) ?_
      exact W.zret (v := 1) hx hb hr (by rfl) (fun t ht hW => ⟨⟨1, (I_1, A), rfl, ⟨his, by first | rfl | exact absurd rfl c_14 | exact absurd c_14 (by decide)⟩, m_wo_out hw ht hW.alike⟩, m_wo_F hw ht⟩) (m_wo_L hw) dX9_no_22
  · skip
    have hbb : bb = true := by cases bb with
      | false => exact absurd rfl c_2
      | true => rfl
    subst hbb
    refine lv_iconst (v := 0) hx hb dX9_no_5 (by decide) ?_
    refine lv_goto (tgt := 10) hx hb dX9_no_6 (by decide) ?_
    refine p_10_6 hx hb hts (by decide +kernel) hown hw hro.1 (hts (.fieldLink RX9 95 "PirateindexModel" "thrown" "I") (by decide +kernel)) dX9_no_10 (fun H locs hw => ?_)
    obtain ⟨I_2, eI_2⟩ : ∃ z, z = m_up2 I 1006 o 0 := ⟨_, rfl⟩
    rw [← eI_2] at hw
    have his : r_st K o ad I A I_2 A Z M 0 := by rw [eI_2]; exact r_st_t his 0 hro.1
    refine lv_iload_n hx hb dX9_no_13 rfl (lv_at hl 1 rfl) ?_
    refine lv_if_ne (tgt := 21) hx hb dX9_no_14 (by decide) (fun c_14 => ?_) (fun c_14 => ?_)
    · skip
      refine lv_iconst (v := 0) hx hb dX9_no_21 (by decide) ?_
      exact W.zret (v := 0) hx hb hr (by rfl) (fun t ht hW => ⟨⟨0, (I_2, A), rfl, ⟨his, by first | rfl | exact absurd rfl c_14 | exact absurd c_14 (by decide)⟩, m_wo_out hw ht hW.alike⟩, m_wo_F hw ht⟩) (m_wo_L hw) dX9_no_22
    · skip
      refine lv_iconst (v := 1) hx hb dX9_no_17 (by decide) ?_
      refine lv_goto (tgt := 22) hx hb dX9_no_18 (by decide) ?_
      exact W.zret (v := 1) hx hb hr (by rfl) (fun t ht hW => ⟨⟨1, (I_2, A), rfl, ⟨his, by first | rfl | exact absurd rfl c_14 | exact absurd c_14 (by decide)⟩, m_wo_out hw ht hW.alike⟩, m_wo_F hw ht⟩) (m_wo_L hw) dX9_no_22

set_option maxHeartbeats 400000 in
set_option maxRecDepth 100000 in
theorem c_X9_isIsland (l : Launch) {G : mG} {K : Nat → Nat} {I : Nat → Nat → Int32} {R : Nat → Nat → Option Nat} {F : Nat → UInt32} {A : Nat → Nat → Int32} {N : Nat → Nat} {L : Nat → List Nat} {T : Nat → List Int32} {J : Nat → Nat → Int64} {D : Nat → Nat → UInt64} {o : Nat} {ad : Nat → Nat} {Z : Nat → Int32} {M : Nat → Nat → Int32} {th : Int32} (v : Int32) (hro : r_ok K R N o ad) (hz : r_st K o ad I A I A Z M th)  : Met l yX9_isIsland wsX9_isIsland ({ frames := 1, cells := 0, slots := 0, locals := 22 } : Room) (va_Pc [.ref o, .int v] (m_B G K I R F A N L T J D)) (va_Qi (fun (r : Int32) (_ : Unit) => r = b2i (o_isl Z v)) (fun u : Unit => m_B G K I R F A N L T J D) (m_A G)) 0 0 (m_A G) := by
  refine Met.ofW (cc := cX9_isIsland) (maxL := 2) (ret := (some .boolean)) (by decide) rfl ?_
  intro p e s m args below meth c s₁ B hml hv
  obtain ⟨rfl, hB⟩ := hv
  have hx := B.exec
  have hb := B.bytes
  have hr := B.returns
  have hts := atoms_spec (ws := wsX9_isIsland) B.pre
  have hown : s.vm.findClass RX9 = some m.cls := findClass_of_methodNamed B.named
  have hlocks := B.notSynchronized
  have hw := m_wo_in hB
  have hl := lv_entry ([.ref o, .int v]) (n := 2) (Nat.le_of_ble_eq_true rfl)
  rw [lg_entry_eq]
  generalize (lg_sl ([.ref o, .int v]) ++ List.replicate (2 - (lg_sl ([.ref o, .int v])).length) Slot.unset).toArray = ls at hl ⊢
  have hl : lv_has ls 2 [(0, .ref o), (1, .int v)] := hl
  have his := hz
  refine lv_iload_n hx hb dX9_isIsland_0 rfl (lv_at hl 1 rfl) ?_
  refine lv_iconst (v := 0) hx hb dX9_isIsland_1 (by decide) ?_
  refine lv_aload_n hx hb dX9_isIsland_2 rfl (lv_at hl 0 rfl) ?_
  refine g_10_0 hx hb hts (by decide +kernel) hown hw hro.1 (hts (.fieldLink RX9 98 "PirateindexModel" "islands" "I") (by decide +kernel)) dX9_isIsland_3 ?_
  rw [show I 1000 o = Z 0 from his.1 0 (by decide)]
  refine lv_iconst (v := 1) hx hb dX9_isIsland_6 (by decide) ?_
  refine lv_isub hx hb dX9_isIsland_7 ?_
  refine m_ci (va_runS (As := [.int v, .int 0, .int ((Z 0) - 1)]) (rest := []) ⟨hx, hb, hml, hown, hts⟩ (c_X9_isIn l v 0 ((Z 0) - 1)) (va_cwS 3 hts gX9_isIsland_X9_isIn rfl rfl rfl (by decide +kernel) ⟨Nat.le_of_ble_eq_true rfl, Nat.le_of_ble_eq_true rfl⟩) ⟨m_blind m_B_calling, fun U hU hW => ⟨rfl, m_wo_call hw hU hW⟩⟩ rfl rfl hl.1 rfl (lv_room (Nat.le_of_ble_eq_true rfl)) dX9_isIsland_8 ⟨Nat.le_of_ble_eq_true rfl, Nat.le_of_ble_eq_true rfl⟩) hw (fun r_8 u_8 H locs hp_8 hw => ?_)
  exact W.zret (v := r_8) hx hb hr (by rw [hp_8]; exact b2i_nar _) (fun t ht hW => ⟨⟨r_8, (), rfl, hp_8, m_wo_out hw ht hW.alike⟩, m_wo_F hw ht⟩) (m_wo_L hw) dX9_isIsland_11

set_option maxHeartbeats 400000 in
set_option maxRecDepth 100000 in
theorem c_X9_isShip (l : Launch) {G : mG} {K : Nat → Nat} {I : Nat → Nat → Int32} {R : Nat → Nat → Option Nat} {F : Nat → UInt32} {A : Nat → Nat → Int32} {N : Nat → Nat} {L : Nat → List Nat} {T : Nat → List Int32} {J : Nat → Nat → Int64} {D : Nat → Nat → UInt64} {o : Nat} {ad : Nat → Nat} {Z : Nat → Int32} {M : Nat → Nat → Int32} {th : Int32} (v : Int32) (hro : r_ok K R N o ad) (hz : r_st K o ad I A I A Z M th)  : Met l yX9_isShip wsX9_isShip ({ frames := 1, cells := 0, slots := 0, locals := 22 } : Room) (va_Pc [.ref o, .int v] (m_B G K I R F A N L T J D)) (va_Qi (fun (r : Int32) (_ : Unit) => r = b2i (o_shp Z v)) (fun u : Unit => m_B G K I R F A N L T J D) (m_A G)) 0 0 (m_A G) := by
  refine Met.ofW (cc := cX9_isShip) (maxL := 2) (ret := (some .boolean)) (by decide) rfl ?_
  intro p e s m args below meth c s₁ B hml hv
  obtain ⟨rfl, hB⟩ := hv
  have hx := B.exec
  have hb := B.bytes
  have hr := B.returns
  have hts := atoms_spec (ws := wsX9_isShip) B.pre
  have hown : s.vm.findClass RX9 = some m.cls := findClass_of_methodNamed B.named
  have hlocks := B.notSynchronized
  have hw := m_wo_in hB
  have hl := lv_entry ([.ref o, .int v]) (n := 2) (Nat.le_of_ble_eq_true rfl)
  rw [lg_entry_eq]
  generalize (lg_sl ([.ref o, .int v]) ++ List.replicate (2 - (lg_sl ([.ref o, .int v])).length) Slot.unset).toArray = ls at hl ⊢
  have hl : lv_has ls 2 [(0, .ref o), (1, .int v)] := hl
  have his := hz
  refine lv_iload_n hx hb dX9_isShip_0 rfl (lv_at hl 1 rfl) ?_
  refine lv_iconst (v := 0) hx hb dX9_isShip_1 (by decide) ?_
  refine lv_aload_n hx hb dX9_isShip_2 rfl (lv_at hl 0 rfl) ?_
  refine g_10_2 hx hb hts (by decide +kernel) hown hw hro.1 (hts (.fieldLink RX9 105 "PirateindexModel" "ships" "I") (by decide +kernel)) dX9_isShip_3 ?_
  rw [show I 1002 o = Z 2 from his.1 2 (by decide)]
  refine lv_iconst (v := 1) hx hb dX9_isShip_6 (by decide) ?_
  refine lv_isub hx hb dX9_isShip_7 ?_
  refine m_ci (va_runS (As := [.int v, .int 0, .int ((Z 2) - 1)]) (rest := []) ⟨hx, hb, hml, hown, hts⟩ (c_X9_isIn l v 0 ((Z 2) - 1)) (va_cwS 3 hts gX9_isShip_X9_isIn rfl rfl rfl (by decide +kernel) ⟨Nat.le_of_ble_eq_true rfl, Nat.le_of_ble_eq_true rfl⟩) ⟨m_blind m_B_calling, fun U hU hW => ⟨rfl, m_wo_call hw hU hW⟩⟩ rfl rfl hl.1 rfl (lv_room (Nat.le_of_ble_eq_true rfl)) dX9_isShip_8 ⟨Nat.le_of_ble_eq_true rfl, Nat.le_of_ble_eq_true rfl⟩) hw (fun r_8 u_8 H locs hp_8 hw => ?_)
  exact W.zret (v := r_8) hx hb hr (by rw [hp_8]; exact b2i_nar _) (fun t ht hW => ⟨⟨r_8, (), rfl, hp_8, m_wo_out hw ht hW.alike⟩, m_wo_F hw ht⟩) (m_wo_L hw) dX9_isShip_11

set_option maxHeartbeats 400000 in
set_option maxRecDepth 100000 in
theorem c_X9_areWords (l : Launch) {G : mG} {K : Nat → Nat} {I : Nat → Nat → Int32} {R : Nat → Nat → Option Nat} {F : Nat → UInt32} {A : Nat → Nat → Int32} {N : Nat → Nat} {L : Nat → List Nat} {T : Nat → List Int32} {J : Nat → Nat → Int64} {D : Nat → Nat → UInt64} (wd pl : Int32)  : Met l yX9_areWords wsX9_areWords ({ frames := 1, cells := 0, slots := 0, locals := 22 } : Room) (va_Pc [.int wd, .int pl] (m_B G K I R F A N L T J D)) (va_Qi (fun (r : Int32) (_ : Unit) => r = b2i (o_wrd wd pl)) (fun u : Unit => m_B G K I R F A N L T J D) (m_A G)) 0 0 (m_A G) := by
  refine Met.ofW (cc := cX9_areWords) (maxL := 2) (ret := (some .boolean)) (by decide) rfl ?_
  intro p e s m args below meth c s₁ B hml hv
  obtain ⟨rfl, hB⟩ := hv
  have hx := B.exec
  have hb := B.bytes
  have hr := B.returns
  have hts := atoms_spec (ws := wsX9_areWords) B.pre
  have hown : s.vm.findClass RX9 = some m.cls := findClass_of_methodNamed B.named
  have hlocks := B.notSynchronized
  have hw := m_wo_in hB
  have hl := lv_entry ([.int wd, .int pl]) (n := 2) (Nat.le_of_ble_eq_true rfl)
  rw [lg_entry_eq]
  generalize (lg_sl ([.int wd, .int pl]) ++ List.replicate (2 - (lg_sl ([.int wd, .int pl])).length) Slot.unset).toArray = ls at hl ⊢
  have hl : lv_has ls 2 [(0, .int wd), (1, .int pl)] := hl
  refine lv_iload_n hx hb dX9_areWords_0 rfl (lv_at hl 0 rfl) ?_
  refine lv_iconst (v := 0) hx hb dX9_areWords_1 (by decide) ?_
  refine lv_bipush (v := 30) hx hb dX9_areWords_2 (by decide) ?_
  refine m_ci (va_runS (As := [.int wd, .int 0, .int 30]) (rest := []) ⟨hx, hb, hml, hown, hts⟩ (c_X9_isIn l wd 0 30) (va_cwS 3 hts gX9_areWords_X9_isIn rfl rfl rfl (by decide +kernel) ⟨Nat.le_of_ble_eq_true rfl, Nat.le_of_ble_eq_true rfl⟩) ⟨m_blind m_B_calling, fun U hU hW => ⟨rfl, m_wo_call hw hU hW⟩⟩ rfl rfl hl.1 rfl (lv_room (Nat.le_of_ble_eq_true rfl)) dX9_areWords_4 ⟨Nat.le_of_ble_eq_true rfl, Nat.le_of_ble_eq_true rfl⟩) hw (fun r_4 u_4 H locs hp_4 hw => ?_)
  obtain rfl : r_4 = (b2i (o_rng wd 0 30)) := hp_4
  refine lv_if_eq (tgt := 24) hx hb dX9_areWords_7 (by decide) (fun c_7 => ?_) (fun c_7 => ?_)
  · skip
    have q_7 : (o_rng wd 0 30) = false := by first | (have := (b2i_ne _).mp c_7; simpa using this) | (have := (b2i_eq _).mp c_7; simpa using this)
    refine lv_iconst (v := 0) hx hb dX9_areWords_24 (by decide) ?_
    exact W.zret (v := 0) hx hb hr (by rfl) (fun t ht hW => ⟨⟨0, (), rfl, (by simp [o_wrd, *]; try rfl), m_wo_out hw ht hW.alike⟩, m_wo_F hw ht⟩) (m_wo_L hw) dX9_areWords_25
  · skip
    have q_7 : (o_rng wd 0 30) = true := by first | (have := (b2i_ne _).mp c_7; simpa using this) | (have := (b2i_eq _).mp c_7; simpa using this)
    refine lv_iload_n hx hb dX9_areWords_10 rfl (lv_at hl 1 rfl) ?_
    refine lv_iconst (v := 0) hx hb dX9_areWords_11 (by decide) ?_
    refine lv_bipush (v := 40) hx hb dX9_areWords_12 (by decide) ?_
    refine m_ci (va_runS (As := [.int pl, .int 0, .int 40]) (rest := []) ⟨hx, hb, hml, hown, hts⟩ (c_X9_isIn l pl 0 40) (va_cwS 3 hts gX9_areWords_X9_isIn rfl rfl rfl (by decide +kernel) ⟨Nat.le_of_ble_eq_true rfl, Nat.le_of_ble_eq_true rfl⟩) ⟨m_blind m_B_calling, fun U hU hW => ⟨rfl, m_wo_call hw hU hW⟩⟩ rfl rfl hl.1 rfl (lv_room (Nat.le_of_ble_eq_true rfl)) dX9_areWords_14 ⟨Nat.le_of_ble_eq_true rfl, Nat.le_of_ble_eq_true rfl⟩) hw (fun r_14 u_14 H locs hp_14 hw => ?_)
    obtain rfl : r_14 = (b2i (o_rng pl 0 40)) := hp_14
    refine lv_if_eq (tgt := 24) hx hb dX9_areWords_17 (by decide) (fun c_17 => ?_) (fun c_17 => ?_)
    · skip
      have q_17 : (o_rng pl 0 40) = false := by first | (have := (b2i_ne _).mp c_17; simpa using this) | (have := (b2i_eq _).mp c_17; simpa using this)
      refine lv_iconst (v := 0) hx hb dX9_areWords_24 (by decide) ?_
      exact W.zret (v := 0) hx hb hr (by rfl) (fun t ht hW => ⟨⟨0, (), rfl, (by simp [o_wrd, *]; try rfl), m_wo_out hw ht hW.alike⟩, m_wo_F hw ht⟩) (m_wo_L hw) dX9_areWords_25
    · skip
      have q_17 : (o_rng pl 0 40) = true := by first | (have := (b2i_ne _).mp c_17; simpa using this) | (have := (b2i_eq _).mp c_17; simpa using this)
      refine lv_iconst (v := 1) hx hb dX9_areWords_20 (by decide) ?_
      refine lv_goto (tgt := 25) hx hb dX9_areWords_21 (by decide) ?_
      exact W.zret (v := 1) hx hb hr (by rfl) (fun t ht hW => ⟨⟨1, (), rfl, (by simp [o_wrd, *]; try rfl), m_wo_out hw ht hW.alike⟩, m_wo_F hw ht⟩) (m_wo_L hw) dX9_areWords_25

set_option maxHeartbeats 400000 in
set_option maxRecDepth 100000 in
theorem c_X9_isPosting (l : Launch) {G : mG} {K : Nat → Nat} {I : Nat → Nat → Int32} {R : Nat → Nat → Option Nat} {F : Nat → UInt32} {A : Nat → Nat → Int32} {N : Nat → Nat} {L : Nat → List Nat} {T : Nat → List Int32} {J : Nat → Nat → Int64} {D : Nat → Nat → UInt64} {o : Nat} {ad : Nat → Nat} {Z : Nat → Int32} {M : Nat → Nat → Int32} {th : Int32} (f : Nat) (wd : Int32) (hro : r_ok K R N o ad) (hz : r_st K o ad I A I A Z M th) (hf : f < 120) : Met l yX9_isPosting wsX9_isPosting ({ frames := 0, cells := 0, slots := 0, locals := 0 } : Room) (va_Pc [.ref o, .int (nI f), .int wd] (m_B G K I R F A N L T J D)) (va_Qi (fun (r : Int32) (_ : Unit) => r = b2i (o_pst M f wd)) (fun u : Unit => m_B G K I R F A N L T J D) (m_A G)) 0 0 (m_A G) := by
  refine Met.ofW (cc := cX9_isPosting) (maxL := 3) (ret := (some .boolean)) (by decide) rfl ?_
  intro p e s m args below meth c s₁ B hml hv
  obtain ⟨rfl, hB⟩ := hv
  have hx := B.exec
  have hb := B.bytes
  have hr := B.returns
  have hts := atoms_spec (ws := wsX9_isPosting) B.pre
  have hown : s.vm.findClass RX9 = some m.cls := findClass_of_methodNamed B.named
  have hlocks := B.notSynchronized
  have hw := m_wo_in hB
  have hl := lv_entry ([.ref o, .int (nI f), .int wd]) (n := 3) (Nat.le_of_ble_eq_true rfl)
  rw [lg_entry_eq]
  generalize (lg_sl ([.ref o, .int (nI f), .int wd]) ++ List.replicate (3 - (lg_sl ([.ref o, .int (nI f), .int wd])).length) Slot.unset).toArray = ls at hl ⊢
  have hl : lv_has ls 3 [(0, .ref o), (1, .int (nI f)), (2, .int wd)] := hl
  have his := hz
  refine lv_aload_n hx hb dX9_isPosting_0 rfl (lv_at hl 0 rfl) ?_
  refine g_10_11 (r := some (ad 11)) hx hb hts (by decide +kernel) hown hw hro.1 (hts (.fieldLink RX9 23 "PirateindexModel" "words" "[I") (by decide +kernel)) (hro.2.1 11 rfl).1 dX9_isPosting_1 ?_
  refine lv_iload_n hx hb dX9_isPosting_4 rfl (lv_at hl 1 rfl) ?_
  refine m_iaload_20 hx hb hw (hro.2.1 11 rfl).2.1 (r_in hro 11 rfl (n := 120) rfl (by omega)) dX9_isPosting_5 ?_
  rw [show A (ad 11) = M 11 from his.2.1 11 rfl]
  rw [nI_clamp (show f < 2 ^ 31 by omega)]
  refine lv_iload_n hx hb dX9_isPosting_6 rfl (lv_at hl 2 rfl) ?_
  refine lv_icmp_ne (tgt := 33) hx hb dX9_isPosting_7 (by decide) (fun c_7 => ?_) (fun c_7 => ?_)
  · skip
    have hq : b2i (o_pst M f wd) = 0 := by simp [b2i, o_pst, c_7]
    refine lv_iconst (v := 0) hx hb dX9_isPosting_33 (by decide) ?_
    exact W.zret (v := 0) hx hb hr (by rfl) (fun t ht hW => ⟨⟨0, (), rfl, hq.symm, m_wo_out hw ht hW.alike⟩, m_wo_F hw ht⟩) (m_wo_L hw) dX9_isPosting_34
  · skip
    refine lv_aload_n hx hb dX9_isPosting_10 rfl (lv_at hl 0 rfl) ?_
    refine g_10_14 (r := some (ad 14)) hx hb hts (by decide +kernel) hown hw hro.1 (hts (.fieldLink RX9 32 "PirateindexModel" "within" "[I") (by decide +kernel)) (hro.2.1 14 rfl).1 dX9_isPosting_11 ?_
    refine lv_iload_n hx hb dX9_isPosting_14 rfl (lv_at hl 1 rfl) ?_
    refine m_iaload_20 hx hb hw (hro.2.1 14 rfl).2.1 (r_in hro 14 rfl (n := 120) rfl (by omega)) dX9_isPosting_15 ?_
    rw [show A (ad 14) = M 14 from his.2.1 14 rfl]
    rw [nI_clamp (show f < 2 ^ 31 by omega)]
    refine lv_iconst (v := (-1)) hx hb dX9_isPosting_16 (by decide) ?_
    refine lv_icmp_eq (tgt := 33) hx hb dX9_isPosting_17 (by decide) (fun c_17 => ?_) (fun c_17 => ?_)
    · skip
      have hq : b2i (o_pst M f wd) = 0 := by simp [b2i, o_pst, c_17]
      refine lv_iconst (v := 0) hx hb dX9_isPosting_33 (by decide) ?_
      exact W.zret (v := 0) hx hb hr (by rfl) (fun t ht hW => ⟨⟨0, (), rfl, hq.symm, m_wo_out hw ht hW.alike⟩, m_wo_F hw ht⟩) (m_wo_L hw) dX9_isPosting_34
    · skip
      refine lv_aload_n hx hb dX9_isPosting_20 rfl (lv_at hl 0 rfl) ?_
      refine g_10_16 (r := some (ad 16)) hx hb hts (by decide +kernel) hown hw hro.1 (hts (.fieldLink RX9 38 "PirateindexModel" "struck" "[Z") (by decide +kernel)) (hro.2.1 16 rfl).1 dX9_isPosting_21 ?_
      refine lv_iload_n hx hb dX9_isPosting_24 rfl (lv_at hl 1 rfl) ?_
      refine m_baload_30 hx hb hw (hro.2.1 16 rfl).2.1 (r_in hro 16 rfl (n := 120) rfl (by omega)) dX9_isPosting_25 ?_
      rw [show A (ad 16) = M 16 from his.2.1 16 rfl]
      rw [nI_clamp (show f < 2 ^ 31 by omega)]
      refine lv_if_ne (tgt := 33) hx hb dX9_isPosting_26 (by decide) (fun c_26 => ?_) (fun c_26 => ?_)
      · skip
        have hq : b2i (o_pst M f wd) = 0 := by simp [b2i, o_pst, c_26]
        refine lv_iconst (v := 0) hx hb dX9_isPosting_33 (by decide) ?_
        exact W.zret (v := 0) hx hb hr (by rfl) (fun t ht hW => ⟨⟨0, (), rfl, hq.symm, m_wo_out hw ht hW.alike⟩, m_wo_F hw ht⟩) (m_wo_L hw) dX9_isPosting_34
      · skip
        have hq : b2i (o_pst M f wd) = 1 := by simp [b2i, o_pst, c_7, c_17, c_26]
        refine lv_iconst (v := 1) hx hb dX9_isPosting_29 (by decide) ?_
        refine lv_goto (tgt := 34) hx hb dX9_isPosting_30 (by decide) ?_
        exact W.zret (v := 1) hx hb hr (by rfl) (fun t ht hW => ⟨⟨1, (), rfl, hq.symm, m_wo_out hw ht hW.alike⟩, m_wo_F hw ht⟩) (m_wo_L hw) dX9_isPosting_34

set_option maxHeartbeats 400000 in
set_option maxRecDepth 100000 in
theorem c_X9_sizeOf (l : Launch) {G : mG} {K : Nat → Nat} {I : Nat → Nat → Int32} {R : Nat → Nat → Option Nat} {F : Nat → UInt32} {A : Nat → Nat → Int32} {N : Nat → Nat} {L : Nat → List Nat} {T : Nat → List Int32} {J : Nat → Nat → Int64} {D : Nat → Nat → UInt64} {o : Nat} {ad : Nat → Nat} {Z : Nat → Int32} {M : Nat → Nat → Int32} {th : Int32} {nf : Nat} (sg : Int32) (hro : r_ok K R N o ad) (hz : r_st K o ad I A I A Z M th) (hnf : Z 1 = nI nf) (hn : nf ≤ 120)  : Met l yX9_sizeOf wsX9_sizeOf ({ frames := 0, cells := 0, slots := 0, locals := 0 } : Room) (va_Pc [.ref o, .int sg] (m_B G K I R F A N L T J D)) (va_Qi (fun (r : Int32) (_ : Unit) => r = nI (o_size Z M sg)) (fun u : Unit => m_B G K I R F A N L T J D) (m_A G)) 0 0 (m_A G) := by
  refine Met.ofW (cc := cX9_sizeOf) (maxL := 4) (ret := (some .int)) (by decide) rfl ?_
  intro p e s m args below meth c s₁ B hml hv
  obtain ⟨rfl, hB⟩ := hv
  have hx := B.exec
  have hb := B.bytes
  have hr := B.returns
  have hts := atoms_spec (ws := wsX9_sizeOf) B.pre
  have hown : s.vm.findClass RX9 = some m.cls := findClass_of_methodNamed B.named
  have hlocks := B.notSynchronized
  have hw := m_wo_in hB
  have hl := lv_entry ([.ref o, .int sg]) (n := 4) (Nat.le_of_ble_eq_true rfl)
  rw [lg_entry_eq]
  generalize (lg_sl ([.ref o, .int sg]) ++ List.replicate (4 - (lg_sl ([.ref o, .int sg])).length) Slot.unset).toArray = ls at hl ⊢
  have hl : lv_has ls 4 [(0, .ref o), (1, .int sg)] := hl
  have his := hz
  refine lv_iconst (v := 0) hx hb dX9_sizeOf_0 (by decide) ?_
  refine lv_istore_n (lv' := [(2, .int 0), (0, .ref o), (1, .int sg)]) hx hb dX9_sizeOf_1 rfl hl (by decide) rfl (fun ls hl => ?_)
  refine lv_iconst (v := 0) hx hb dX9_sizeOf_2 (by decide) ?_
  refine lv_istore_n (lv' := [(3, .int 0), (2, .int 0), (0, .ref o), (1, .int sg)]) hx hb dX9_sizeOf_3 rfl hl (by decide) rfl (fun ls hl => ?_)
  refine m_loop (σ := Nat × Int32) (fun a => nf - (a.1)) (fun a H locs ls => ((a.1) ≤ nf ∧ (a.2) = nI (cntB (fun f => decide (M 14 f = sg)) (a.1))) ∧ m_wo G K I R F A N L T J D s H locs ∧ lv_has ls 4 [(0, .ref o), (1, .int sg), (2, .int (a.2)), (3, .int (nI (a.1)))]) ?_ (0, 0) ⟨⟨Nat.zero_le _, rfl⟩, hw, lv_sub hl [2, 3, 1, 0] rfl⟩
  rintro ⟨i, x⟩ H locs ls ⟨hinv, hw, hl⟩ ih
  dsimp only at hinv hw hl
  refine lv_iload_n hx hb dX9_sizeOf_4 rfl (lv_at hl 3 rfl) ?_
  refine lv_aload_n hx hb dX9_sizeOf_5 rfl (lv_at hl 0 rfl) ?_
  refine g_10_1 hx hb hts (by decide +kernel) hown hw hro.1 (hts (.fieldLink RX9 118 "PirateindexModel" "finds" "I") (by decide +kernel)) dX9_sizeOf_6 ?_
  rw [show I 1001 o = Z 1 from his.1 1 (by decide)]
  rw [hnf]
  refine lv_icmp_ge (tgt := 36) hx hb dX9_sizeOf_9 (by decide) (fun c_9 => ?_) (fun c_9 => ?_)
  · skip
    rw [nI_leI (by omega) (by omega)] at c_9
    have hi : i = nf := by omega
    subst hi
    refine lv_iload_n hx hb dX9_sizeOf_36 rfl (lv_at hl 2 rfl) ?_
    exact W.iret (v := x) hx hb hr (fun t ht hW => ⟨⟨x, (), rfl, (by unfold o_size; rw [zn_of hnf (by omega)]; exact hinv.2), m_wo_out hw ht hW.alike⟩, m_wo_F hw ht⟩) (m_wo_L hw) dX9_sizeOf_37
  · skip
    rw [nI_leI (by omega) (by omega)] at c_9
    have hi : i < nf := by omega
    refine lv_iload_n hx hb dX9_sizeOf_12 rfl (lv_at hl 2 rfl) ?_
    refine lv_aload_n hx hb dX9_sizeOf_13 rfl (lv_at hl 0 rfl) ?_
    refine g_10_14 (r := some (ad 14)) hx hb hts (by decide +kernel) hown hw hro.1 (hts (.fieldLink RX9 32 "PirateindexModel" "within" "[I") (by decide +kernel)) (hro.2.1 14 rfl).1 dX9_sizeOf_14 ?_
    refine lv_iload_n hx hb dX9_sizeOf_17 rfl (lv_at hl 3 rfl) ?_
    refine m_iaload_20 hx hb hw (hro.2.1 14 rfl).2.1 (r_in hro 14 rfl (n := 120) rfl (by omega)) dX9_sizeOf_18 ?_
    rw [show A (ad 14) = M 14 from his.2.1 14 rfl]
    rw [nI_clamp (show i < 2 ^ 31 by omega)]
    refine lv_iload_n hx hb dX9_sizeOf_19 rfl (lv_at hl 1 rfl) ?_
    refine lv_icmp_ne (tgt := 27) hx hb dX9_sizeOf_20 (by decide) (fun c_20 => ?_) (fun c_20 => ?_)
    · skip
      have hpi : (fun f => decide (M 14 f = sg)) i = false := by simp [c_20]
      refine lv_iconst (v := 0) hx hb dX9_sizeOf_27 (by decide) ?_
      refine lv_iadd hx hb dX9_sizeOf_28 ?_
      refine lv_istore_n (lv' := [(2, .int (x + 0)), (0, .ref o), (1, .int sg), (3, .int (nI i))]) hx hb dX9_sizeOf_29 rfl hl (by decide) rfl (fun ls hl => ?_)
      refine lv_iinc (v := nI (i + 1)) (lv' := [(3, .int (nI (i + 1))), (2, .int (x + 0)), (0, .ref o), (1, .int sg)]) hx hb dX9_sizeOf_30 hl (k := 3) rfl (nI_1 _) (by decide) rfl (fun ls hl => ?_)
      refine lv_goto (tgt := 4) hx hb dX9_sizeOf_33 (by decide) ?_
      exact ih (i + 1, (x + 0)) _ _ _ (by dsimp only; omega) ⟨⟨by omega, cntB_step hinv.2 hpi⟩, hw, lv_sub hl [2, 3, 1, 0] rfl⟩
    · skip
      have hpi : (fun f => decide (M 14 f = sg)) i = true := by simp [c_20]
      refine lv_iconst (v := 1) hx hb dX9_sizeOf_23 (by decide) ?_
      refine lv_goto (tgt := 28) hx hb dX9_sizeOf_24 (by decide) ?_
      refine lv_iadd hx hb dX9_sizeOf_28 ?_
      refine lv_istore_n (lv' := [(2, .int (x + 1)), (0, .ref o), (1, .int sg), (3, .int (nI i))]) hx hb dX9_sizeOf_29 rfl hl (by decide) rfl (fun ls hl => ?_)
      refine lv_iinc (v := nI (i + 1)) (lv' := [(3, .int (nI (i + 1))), (2, .int (x + 1)), (0, .ref o), (1, .int sg)]) hx hb dX9_sizeOf_30 hl (k := 3) rfl (nI_1 _) (by decide) rfl (fun ls hl => ?_)
      refine lv_goto (tgt := 4) hx hb dX9_sizeOf_33 (by decide) ?_
      exact ih (i + 1, (x + 1)) _ _ _ (by dsimp only; omega) ⟨⟨by omega, cntB_step hinv.2 hpi⟩, hw, lv_sub hl [2, 3, 1, 0] rfl⟩

set_option maxHeartbeats 400000 in
set_option maxRecDepth 100000 in
theorem c_X9_lost (l : Launch) {G : mG} {K : Nat → Nat} {I : Nat → Nat → Int32} {R : Nat → Nat → Option Nat} {F : Nat → UInt32} {A : Nat → Nat → Int32} {N : Nat → Nat} {L : Nat → List Nat} {T : Nat → List Int32} {J : Nat → Nat → Int64} {D : Nat → Nat → UInt64} {o : Nat} {ad : Nat → Nat} {Z : Nat → Int32} {M : Nat → Nat → Int32} {th : Int32} {nf : Nat}  (hro : r_ok K R N o ad) (hz : r_st K o ad I A I A Z M th) (hnf : Z 1 = nI nf) (hn : nf ≤ 120)  : Met l yX9_lost wsX9_lost ({ frames := 0, cells := 0, slots := 0, locals := 0 } : Room) (va_Pc [.ref o] (m_B G K I R F A N L T J D)) (va_Qi (fun (r : Int32) (_ : Unit) => r = nI (o_lost Z M)) (fun u : Unit => m_B G K I R F A N L T J D) (m_A G)) 0 0 (m_A G) := by
  refine Met.ofW (cc := cX9_lost) (maxL := 3) (ret := (some .int)) (by decide) rfl ?_
  intro p e s m args below meth c s₁ B hml hv
  obtain ⟨rfl, hB⟩ := hv
  have hx := B.exec
  have hb := B.bytes
  have hr := B.returns
  have hts := atoms_spec (ws := wsX9_lost) B.pre
  have hown : s.vm.findClass RX9 = some m.cls := findClass_of_methodNamed B.named
  have hlocks := B.notSynchronized
  have hw := m_wo_in hB
  have hl := lv_entry ([.ref o]) (n := 3) (Nat.le_of_ble_eq_true rfl)
  rw [lg_entry_eq]
  generalize (lg_sl ([.ref o]) ++ List.replicate (3 - (lg_sl ([.ref o])).length) Slot.unset).toArray = ls at hl ⊢
  have hl : lv_has ls 3 [(0, .ref o)] := hl
  have his := hz
  refine lv_iconst (v := 0) hx hb dX9_lost_0 (by decide) ?_
  refine lv_istore_n (lv' := [(1, .int 0), (0, .ref o)]) hx hb dX9_lost_1 rfl hl (by decide) rfl (fun ls hl => ?_)
  refine lv_iconst (v := 0) hx hb dX9_lost_2 (by decide) ?_
  refine lv_istore_n (lv' := [(2, .int 0), (1, .int 0), (0, .ref o)]) hx hb dX9_lost_3 rfl hl (by decide) rfl (fun ls hl => ?_)
  refine m_loop (σ := Nat × Int32) (fun a => nf - (a.1)) (fun a H locs ls => ((a.1) ≤ nf ∧ (a.2) = nI (cntB (fun f => decide (M 14 f = -1) && decide (M 16 f = 0)) (a.1))) ∧ m_wo G K I R F A N L T J D s H locs ∧ lv_has ls 3 [(0, .ref o), (1, .int (a.2)), (2, .int (nI (a.1)))]) ?_ (0, 0) ⟨⟨Nat.zero_le _, rfl⟩, hw, lv_sub hl [2, 1, 0] rfl⟩
  rintro ⟨i, x⟩ H locs ls ⟨hinv, hw, hl⟩ ih
  dsimp only at hinv hw hl
  refine lv_iload_n hx hb dX9_lost_4 rfl (lv_at hl 2 rfl) ?_
  refine lv_aload_n hx hb dX9_lost_5 rfl (lv_at hl 0 rfl) ?_
  refine g_10_1 hx hb hts (by decide +kernel) hown hw hro.1 (hts (.fieldLink RX9 118 "PirateindexModel" "finds" "I") (by decide +kernel)) dX9_lost_6 ?_
  rw [show I 1001 o = Z 1 from his.1 1 (by decide)]
  rw [hnf]
  refine lv_icmp_ge (tgt := 45) hx hb dX9_lost_9 (by decide) (fun c_9 => ?_) (fun c_9 => ?_)
  · skip
    rw [nI_leI (by omega) (by omega)] at c_9
    have hi : i = nf := by omega
    subst hi
    refine lv_iload_n hx hb dX9_lost_45 rfl (lv_at hl 1 rfl) ?_
    exact W.iret (v := x) hx hb hr (fun t ht hW => ⟨⟨x, (), rfl, (by unfold o_lost; rw [zn_of hnf (by omega)]; exact hinv.2), m_wo_out hw ht hW.alike⟩, m_wo_F hw ht⟩) (m_wo_L hw) dX9_lost_46
  · skip
    rw [nI_leI (by omega) (by omega)] at c_9
    have hi : i < nf := by omega
    refine lv_iload_n hx hb dX9_lost_12 rfl (lv_at hl 1 rfl) ?_
    refine lv_aload_n hx hb dX9_lost_13 rfl (lv_at hl 0 rfl) ?_
    refine g_10_14 (r := some (ad 14)) hx hb hts (by decide +kernel) hown hw hro.1 (hts (.fieldLink RX9 32 "PirateindexModel" "within" "[I") (by decide +kernel)) (hro.2.1 14 rfl).1 dX9_lost_14 ?_
    refine lv_iload_n hx hb dX9_lost_17 rfl (lv_at hl 2 rfl) ?_
    refine m_iaload_20 hx hb hw (hro.2.1 14 rfl).2.1 (r_in hro 14 rfl (n := 120) rfl (by omega)) dX9_lost_18 ?_
    rw [show A (ad 14) = M 14 from his.2.1 14 rfl]
    rw [nI_clamp (show i < 2 ^ 31 by omega)]
    refine lv_iconst (v := (-1)) hx hb dX9_lost_19 (by decide) ?_
    refine lv_icmp_ne (tgt := 36) hx hb dX9_lost_20 (by decide) (fun c_20 => ?_) (fun c_20 => ?_)
    · skip
      have hpi : (fun f => decide (M 14 f = -1) && decide (M 16 f = 0)) i = false := by simp [c_20]
      refine lv_iconst (v := 0) hx hb dX9_lost_36 (by decide) ?_
      refine lv_iadd hx hb dX9_lost_37 ?_
      refine lv_istore_n (lv' := [(1, .int (x + 0)), (0, .ref o), (2, .int (nI i))]) hx hb dX9_lost_38 rfl hl (by decide) rfl (fun ls hl => ?_)
      refine lv_iinc (v := nI (i + 1)) (lv' := [(2, .int (nI (i + 1))), (1, .int (x + 0)), (0, .ref o)]) hx hb dX9_lost_39 hl (k := 2) rfl (nI_1 _) (by decide) rfl (fun ls hl => ?_)
      refine lv_goto (tgt := 4) hx hb dX9_lost_42 (by decide) ?_
      exact ih (i + 1, (x + 0)) _ _ _ (by dsimp only; omega) ⟨⟨by omega, cntB_step hinv.2 hpi⟩, hw, lv_sub hl [2, 1, 0] rfl⟩
    · skip
      refine lv_aload_n hx hb dX9_lost_23 rfl (lv_at hl 0 rfl) ?_
      refine g_10_16 (r := some (ad 16)) hx hb hts (by decide +kernel) hown hw hro.1 (hts (.fieldLink RX9 38 "PirateindexModel" "struck" "[Z") (by decide +kernel)) (hro.2.1 16 rfl).1 dX9_lost_24 ?_
      refine lv_iload_n hx hb dX9_lost_27 rfl (lv_at hl 2 rfl) ?_
      refine m_baload_30 hx hb hw (hro.2.1 16 rfl).2.1 (r_in hro 16 rfl (n := 120) rfl (by omega)) dX9_lost_28 ?_
      rw [show A (ad 16) = M 16 from his.2.1 16 rfl]
      rw [nI_clamp (show i < 2 ^ 31 by omega)]
      refine lv_if_ne (tgt := 36) hx hb dX9_lost_29 (by decide) (fun c_29 => ?_) (fun c_29 => ?_)
      · skip
        have hpi : (fun f => decide (M 14 f = -1) && decide (M 16 f = 0)) i = false := by simp [c_20, c_29]
        refine lv_iconst (v := 0) hx hb dX9_lost_36 (by decide) ?_
        refine lv_iadd hx hb dX9_lost_37 ?_
        refine lv_istore_n (lv' := [(1, .int (x + 0)), (0, .ref o), (2, .int (nI i))]) hx hb dX9_lost_38 rfl hl (by decide) rfl (fun ls hl => ?_)
        refine lv_iinc (v := nI (i + 1)) (lv' := [(2, .int (nI (i + 1))), (1, .int (x + 0)), (0, .ref o)]) hx hb dX9_lost_39 hl (k := 2) rfl (nI_1 _) (by decide) rfl (fun ls hl => ?_)
        refine lv_goto (tgt := 4) hx hb dX9_lost_42 (by decide) ?_
        exact ih (i + 1, (x + 0)) _ _ _ (by dsimp only; omega) ⟨⟨by omega, cntB_step hinv.2 hpi⟩, hw, lv_sub hl [2, 1, 0] rfl⟩
      · skip
        have hpi : (fun f => decide (M 14 f = -1) && decide (M 16 f = 0)) i = true := by simp [c_20, c_29]
        refine lv_iconst (v := 1) hx hb dX9_lost_32 (by decide) ?_
        refine lv_goto (tgt := 37) hx hb dX9_lost_33 (by decide) ?_
        refine lv_iadd hx hb dX9_lost_37 ?_
        refine lv_istore_n (lv' := [(1, .int (x + 1)), (0, .ref o), (2, .int (nI i))]) hx hb dX9_lost_38 rfl hl (by decide) rfl (fun ls hl => ?_)
        refine lv_iinc (v := nI (i + 1)) (lv' := [(2, .int (nI (i + 1))), (1, .int (x + 1)), (0, .ref o)]) hx hb dX9_lost_39 hl (k := 2) rfl (nI_1 _) (by decide) rfl (fun ls hl => ?_)
        refine lv_goto (tgt := 4) hx hb dX9_lost_42 (by decide) ?_
        exact ih (i + 1, (x + 1)) _ _ _ (by dsimp only; omega) ⟨⟨by omega, cntB_step hinv.2 hpi⟩, hw, lv_sub hl [2, 1, 0] rfl⟩

set_option maxHeartbeats 400000 in
set_option maxRecDepth 100000 in
theorem c_X9_opens (l : Launch) {G : mG} {K : Nat → Nat} {I : Nat → Nat → Int32} {R : Nat → Nat → Option Nat} {F : Nat → UInt32} {A : Nat → Nat → Int32} {N : Nat → Nat} {L : Nat → List Nat} {T : Nat → List Int32} {J : Nat → Nat → Int64} {D : Nat → Nat → UInt64} {o : Nat} {ad : Nat → Nat} {Z : Nat → Int32} {M : Nat → Nat → Int32} {th : Int32} {k : Nat} (hro : r_ok K R N o ad) (hz : r_st K o ad I A I A Z M th) (hk : Z 3 = nI k) (hk2 : k < 24) : Met l yX9_opens wsX9_opens ({ frames := 0, cells := 0, slots := 0, locals := 0 } : Room) (va_Pc [.ref o] (m_B G K I R F A N L T J D)) (va_Qi (fun (r : Int32) (u : (Nat → Nat → Int32) × (Nat → Nat → Int32)) => r_st K o ad I A u.1 u.2 (o_opens (Z, M)).1 (o_opens (Z, M)).2 th ∧ r = Z 4) (fun u : (Nat → Nat → Int32) × (Nat → Nat → Int32) => m_B G K (u.1) R F (u.2) N L T J D) (m_A G)) 0 0 (m_A G) := by
  refine Met.ofW (cc := cX9_opens) (maxL := 1) (ret := (some .int)) (by decide) rfl ?_
  intro p e s m args below meth c s₁ B hml hv
  obtain ⟨rfl, hB⟩ := hv
  have hx := B.exec
  have hb := B.bytes
  have hr := B.returns
  have hts := atoms_spec (ws := wsX9_opens) B.pre
  have hown : s.vm.findClass RX9 = some m.cls := findClass_of_methodNamed B.named
  have hlocks := B.notSynchronized
  have hw := m_wo_in hB
  have hl := lv_entry ([.ref o]) (n := 1) (Nat.le_of_ble_eq_true rfl)
  rw [lg_entry_eq]
  generalize (lg_sl ([.ref o]) ++ List.replicate (1 - (lg_sl ([.ref o])).length) Slot.unset).toArray = ls at hl ⊢
  have hl : lv_has ls 1 [(0, .ref o)] := hl
  have his := hz
  refine lv_aload_n hx hb dX9_opens_0 rfl (lv_at hl 0 rfl) ?_
  refine g_10_17 (r := some (ad 17)) hx hb hts (by decide +kernel) hown hw hro.1 (hts (.fieldLink RX9 41 "PirateindexModel" "numbers" "[I") (by decide +kernel)) (hro.2.1 17 rfl).1 dX9_opens_1 ?_
  refine lv_aload_n hx hb dX9_opens_4 rfl (lv_at hl 0 rfl) ?_
  refine g_10_3 hx hb hts (by decide +kernel) hown hw hro.1 (hts (.fieldLink RX9 112 "PirateindexModel" "segments" "I") (by decide +kernel)) dX9_opens_5 ?_
  rw [show I 1003 o = Z 3 from his.1 3 (by decide)]
  refine lv_aload_n hx hb dX9_opens_8 rfl (lv_at hl 0 rfl) ?_
  refine g_10_4 hx hb hts (by decide +kernel) hown hw hro.1 (hts (.fieldLink RX9 115 "PirateindexModel" "nextSegment" "I") (by decide +kernel)) dX9_opens_9 ?_
  rw [show I 1004 o = Z 4 from his.1 4 (by decide)]
  refine m_iastore_20 hx hb hw (hro.2.1 17 rfl).2.1 (by rw [hk]; exact r_in hro 17 rfl (n := 24) rfl hk2)  dX9_opens_12 (fun H locs hw => ?_)
  obtain ⟨A_1, eA_1⟩ : ∃ z, z = m_up A (ad 17) (upd (A (ad 17)) (Z 3).toNatClampNeg (Z 4)) := ⟨_, rfl⟩
  rw [← eA_1] at hw
  obtain ⟨M_2, eM_2⟩ : ∃ z, z = m1 M 17 k (Z 4) := ⟨_, rfl⟩
  have his : r_st K o ad I A I A_1 Z M_2 th := by rw [eA_1, eM_2, show (Z 3).toNatClampNeg = k from by rw [hk]; exact nI_clamp (by omega)]; exact r_st_m his hro 17 rfl k (Z 4)
  refine lv_aload_n hx hb dX9_opens_13 rfl (lv_at hl 0 rfl) ?_
  refine lv_dup hx hb dX9_opens_14 rfl ?_
  refine g_10_3 hx hb hts (by decide +kernel) hown hw hro.1 (hts (.fieldLink RX9 112 "PirateindexModel" "segments" "I") (by decide +kernel)) dX9_opens_15 ?_
  rw [show I 1003 o = Z 3 from his.1 3 (by decide)]
  refine lv_iconst (v := 1) hx hb dX9_opens_18 (by decide) ?_
  refine lv_iadd hx hb dX9_opens_19 ?_
  refine p_10_3 hx hb hts (by decide +kernel) hown hw hro.1 (hts (.fieldLink RX9 112 "PirateindexModel" "segments" "I") (by decide +kernel)) dX9_opens_20 (fun H locs hw => ?_)
  obtain ⟨I_3, eI_3⟩ : ∃ z, z = m_up2 I 1003 o ((Z 3) + 1) := ⟨_, rfl⟩
  rw [← eI_3] at hw
  obtain ⟨Z_4, eZ_4⟩ : ∃ z, z = z1 Z 3 ((Z 3) + 1) := ⟨_, rfl⟩
  have his : r_st K o ad I A I_3 A_1 Z_4 M_2 th := by rw [eI_3, eZ_4]; exact r_st_z his 3 ((Z 3) + 1) hro.1 (by decide)
  refine lv_aload_n hx hb dX9_opens_23 rfl (lv_at hl 0 rfl) ?_
  refine lv_dup hx hb dX9_opens_24 rfl ?_
  refine g_10_4 hx hb hts (by decide +kernel) hown hw hro.1 (hts (.fieldLink RX9 115 "PirateindexModel" "nextSegment" "I") (by decide +kernel)) dX9_opens_25 ?_
  rw [show I_3 1004 o = Z_4 4 from his.1 4 (by decide)]
  refine lv_iconst (v := 1) hx hb dX9_opens_28 (by decide) ?_
  refine lv_iadd hx hb dX9_opens_29 ?_
  refine p_10_4 hx hb hts (by decide +kernel) hown hw hro.1 (hts (.fieldLink RX9 115 "PirateindexModel" "nextSegment" "I") (by decide +kernel)) dX9_opens_30 (fun H locs hw => ?_)
  obtain ⟨I_5, eI_5⟩ : ∃ z, z = m_up2 I_3 1004 o ((Z_4 4) + 1) := ⟨_, rfl⟩
  rw [← eI_5] at hw
  obtain ⟨Z_6, eZ_6⟩ : ∃ z, z = z1 Z_4 4 ((Z_4 4) + 1) := ⟨_, rfl⟩
  have his : r_st K o ad I A I_5 A_1 Z_6 M_2 th := by rw [eI_5, eZ_6]; exact r_st_z his 4 ((Z_4 4) + 1) hro.1 (by decide)
  refine lv_aload_n hx hb dX9_opens_33 rfl (lv_at hl 0 rfl) ?_
  refine g_10_4 hx hb hts (by decide +kernel) hown hw hro.1 (hts (.fieldLink RX9 115 "PirateindexModel" "nextSegment" "I") (by decide +kernel)) dX9_opens_34 ?_
  rw [show I_5 1004 o = Z_6 4 from his.1 4 (by decide)]
  refine lv_iconst (v := 1) hx hb dX9_opens_37 (by decide) ?_
  refine lv_isub hx hb dX9_opens_38 ?_
  exact W.iret (v := ((Z_6 4) - 1)) hx hb hr (fun t ht hW => ⟨⟨((Z_6 4) - 1), (I_5, A_1), rfl, ⟨by have e9 : (Z_6, M_2) = o_opens (Z, M) := (by subst eZ_6 eZ_4 eM_2; simp [o_opens, zn, z1, hk, nI_clamp (show k < 2 ^ 31 by omega)]); rw [← e9]; exact his, by subst eZ_6 eZ_4; simp [z1]⟩, m_wo_out hw ht hW.alike⟩, m_wo_F hw ht⟩) (m_wo_L hw) dX9_opens_39

