theorem q_pos {n : Nat} (hn : n < 2 ^ 31) (h : ¬ nI n = 0) : 0 < nI n := by
  rcases Nat.eq_zero_or_pos n with h1 | h1
  · exact absurd (by rw [h1]; rfl) h
  · exact (nI_ltI (a := 0) (b := n) (by decide) hn).mpr h1
set_option maxHeartbeats 400000 in
set_option maxRecDepth 100000 in
theorem c_X8_at (l : Launch) (hnt : l.stackTraces = false) {G : mG} {K : Nat → Nat} {I : Nat → Nat → Int32} {R : Nat → Nat → Option Nat} {F : Nat → UInt32} {A : Nat → Nat → Int32} {N : Nat → Nat} {L : Nat → List Nat} {T : Nat → List Int32} {J : Nat → Nat → Int64} {D : Nat → Nat → UInt64} {o : Nat} {cd : Nat → Nat} {Z : Nat → Int32} {M : Nat → Nat → Int32} {nn : Int32} (hs : c_sim K I R N A L T o cd Z M) : vx_Met l yX8_at wsX8_at ({ frames := 9, cells := 1, slots := 6, locals := 260 } : Room) (va_Pc [.ref o, .int nn] (fun U => m_B G K I R F A N L T J D U ∧ c_str U)) (va_Qi (fun (r : Int32) (_ : Unit) => t_b (o_shp Z nn) = 0 ∧ r = M 18 nn.toNatClampNeg) (fun u : Unit => m_B G K I R F A N L T J D) (m_A G)) (vx_X (fun (u : Unit) => ¬ t_b (o_shp Z nn) = 0) (fun E (u : Unit) t => E = "java/lang/IndexOutOfBoundsException" ∧ m_B G K I R F A N L T J D t) (m_A G)) 1 6 (m_A G) := by
  refine vx_ofW (cc := cX8_at) (maxL := 2) (ret := (some .int)) (by decide) rfl ?_
  intro p e s m args below meth c s₁ B hml hxt hv
  obtain ⟨rfl, hB, hcs⟩ := hv
  have hx := B.exec
  have hb := B.bytes
  have hr := B.returns
  have hts := atoms_spec (ws := wsX8_at) B.pre
  have hown : s.vm.findClass RX8 = some m.cls := findClass_of_methodNamed B.named
  have hlocks := B.notSynchronized
  have hw := m_wo_in hB
  have hl := lv_entry ([.ref o, .int nn]) (n := 2) (Nat.le_of_ble_eq_true rfl)
  rw [lg_entry_eq]
  generalize (lg_sl ([.ref o, .int nn]) ++ List.replicate (2 - (lg_sl ([.ref o, .int nn])).length) Slot.unset).toArray = ls at hl ⊢
  have hl : lv_has ls 2 [(0, .ref o), (1, .int nn)] := hl
  have hok := hs.1
  have hel0 := q_el0 hs
  have hel1 := q_el1 hs
  have hel5 := q_el5 hs
  have hel7 := q_el7 hs
  have hel9 := q_el9 hs
  refine lv_aload_n hx hb dX8_at_0 rfl (lv_at hl 0 rfl) ?_
  refine lv_iload_n hx hb dX8_at_1 rfl (lv_at hl 1 rfl) ?_
  refine m_xq (vx_runV (As := [.int nn]) (rest := []) ⟨hx, hb, hml, hown, hts⟩ (c_X8_shipOf l hnt hok hel7) (cwV 1 hts gX8_at_X8_shipOf rfl rfl rfl (by decide +kernel) ⟨Nat.le_of_ble_eq_true rfl, Nat.le_of_ble_eq_true rfl⟩) ⟨m_blind (fun U g mk a h => ⟨m_B_calling U g mk a h.1, c_str_calling U g mk a h.2⟩), m_recv hw (m_ent_9 hok.1) rfl, fun U hU hW => ⟨rfl, m_wo_call hw hU hW, c_str_warm hW hcs⟩⟩ rfl rfl hl.1 rfl (lv_room (Nat.le_of_ble_eq_true rfl)) dX8_at_2 ⟨Nat.le_of_ble_eq_true rfl, Nat.le_of_ble_eq_true rfl⟩) hw (fun E_ ce_ q9_ u_2x H locs hpx hw hce hcv hcl => ?_) (fun r_2 u_2 H locs hp_2 hw => ?_)
  · skip
    obtain ⟨hpx, rfl⟩ := hpx
    exact vx_out (fun x hx9 => absurd (hxt x hx9) id) hlocks hce hcv hcl (fun t ht9 hA9 => ⟨(), (fun z => hpx (((q_shp_nm hs nn).mp (q_tb0.mp z)))), ⟨rfl, m_wo_out hw ht9 hA9⟩, m_wo_F hw ht9⟩) (m_wo_L hw) (Nat.le_of_ble_eq_true rfl) (Nat.le_of_ble_eq_true rfl)
  obtain ⟨i, ai, rfl, hi31, ha, rfl⟩ := hp_2
  have hi : i < (L (cd 5)).length := (List.getElem?_eq_some_iff.mp ha).1
  have hka := hel7 ai (List.mem_of_getElem? ha)
  have hv := (q_shp_nm hs (nI i)).mpr ⟨i, hi, rfl⟩
  obtain ⟨ph, w9, d9, n, is9, came, h70, hph, h71, hst, hst9, h73, hcm, hk7, h74, h72, hn, hwd, hgp, np, nw, nd, hkp⟩ := hs.2.2.2.2.2.1.2.2.2.1 i ai ha
  have hkis : K is9 = 3 := hel0 is9 (List.mem_of_getElem? hst)
  have hkph := hph.1
  refine g_7_1 (r := some is9) hx hb hts (by decide +kernel) hown hw hka (hts (.fieldLink RX8 245 "Pirateindex$Ship" "where" "LPirateindex$Isle;") (by decide +kernel)) h71 dX8_at_5 ?_
  refine g_3_0 hx hb hts (by decide +kernel) hown hw hkis (hts (.fieldLink RX8 84 "Pirateindex$Isle" "number" "I") (by decide +kernel)) dX8_at_8 ?_
  refine vx_ret ?_
  exact W.iret (v := (I 30 is9)) hx hb hr (fun t ht hW => ⟨⟨(I 30 is9), (), rfl, ⟨q_tb0.mpr hv, by obtain ⟨j, hj, hj2⟩ := hst9; rw [nI_clamp hi31, hj2]; rw [hj2, nI_clamp (by omega)] at hst; exact (hs.2.1.2.2 j is9 hst).2.1⟩, m_wo_out hw ht hW.alike⟩, m_wo_F hw ht⟩) (m_wo_L hw) dX8_at_11
set_option maxHeartbeats 400000 in
set_option maxRecDepth 100000 in
theorem c_X8_coins (l : Launch) (hnt : l.stackTraces = false) {G : mG} {K : Nat → Nat} {I : Nat → Nat → Int32} {R : Nat → Nat → Option Nat} {F : Nat → UInt32} {A : Nat → Nat → Int32} {N : Nat → Nat} {L : Nat → List Nat} {T : Nat → List Int32} {J : Nat → Nat → Int64} {D : Nat → Nat → UInt64} {o : Nat} {cd : Nat → Nat} {Z : Nat → Int32} {M : Nat → Nat → Int32} {nn : Int32} (hs : c_sim K I R N A L T o cd Z M) : vx_Met l yX8_coins wsX8_coins ({ frames := 9, cells := 1, slots := 6, locals := 260 } : Room) (va_Pc [.ref o, .int nn] (fun U => m_B G K I R F A N L T J D U ∧ c_str U)) (va_Qi (fun (r : Int32) (_ : Unit) => t_b (o_shp Z nn) = 0 ∧ r = M 19 nn.toNatClampNeg) (fun u : Unit => m_B G K I R F A N L T J D) (m_A G)) (vx_X (fun (u : Unit) => ¬ t_b (o_shp Z nn) = 0) (fun E (u : Unit) t => E = "java/lang/IndexOutOfBoundsException" ∧ m_B G K I R F A N L T J D t) (m_A G)) 1 6 (m_A G) := by
  refine vx_ofW (cc := cX8_coins) (maxL := 2) (ret := (some .int)) (by decide) rfl ?_
  intro p e s m args below meth c s₁ B hml hxt hv
  obtain ⟨rfl, hB, hcs⟩ := hv
  have hx := B.exec
  have hb := B.bytes
  have hr := B.returns
  have hts := atoms_spec (ws := wsX8_coins) B.pre
  have hown : s.vm.findClass RX8 = some m.cls := findClass_of_methodNamed B.named
  have hlocks := B.notSynchronized
  have hw := m_wo_in hB
  have hl := lv_entry ([.ref o, .int nn]) (n := 2) (Nat.le_of_ble_eq_true rfl)
  rw [lg_entry_eq]
  generalize (lg_sl ([.ref o, .int nn]) ++ List.replicate (2 - (lg_sl ([.ref o, .int nn])).length) Slot.unset).toArray = ls at hl ⊢
  have hl : lv_has ls 2 [(0, .ref o), (1, .int nn)] := hl
  have hok := hs.1
  have hel0 := q_el0 hs
  have hel1 := q_el1 hs
  have hel5 := q_el5 hs
  have hel7 := q_el7 hs
  have hel9 := q_el9 hs
  refine lv_aload_n hx hb dX8_coins_0 rfl (lv_at hl 0 rfl) ?_
  refine lv_iload_n hx hb dX8_coins_1 rfl (lv_at hl 1 rfl) ?_
  refine m_xq (vx_runV (As := [.int nn]) (rest := []) ⟨hx, hb, hml, hown, hts⟩ (c_X8_shipOf l hnt hok hel7) (cwV 1 hts gX8_coins_X8_shipOf rfl rfl rfl (by decide +kernel) ⟨Nat.le_of_ble_eq_true rfl, Nat.le_of_ble_eq_true rfl⟩) ⟨m_blind (fun U g mk a h => ⟨m_B_calling U g mk a h.1, c_str_calling U g mk a h.2⟩), m_recv hw (m_ent_9 hok.1) rfl, fun U hU hW => ⟨rfl, m_wo_call hw hU hW, c_str_warm hW hcs⟩⟩ rfl rfl hl.1 rfl (lv_room (Nat.le_of_ble_eq_true rfl)) dX8_coins_2 ⟨Nat.le_of_ble_eq_true rfl, Nat.le_of_ble_eq_true rfl⟩) hw (fun E_ ce_ q9_ u_2x H locs hpx hw hce hcv hcl => ?_) (fun r_2 u_2 H locs hp_2 hw => ?_)
  · skip
    obtain ⟨hpx, rfl⟩ := hpx
    exact vx_out (fun x hx9 => absurd (hxt x hx9) id) hlocks hce hcv hcl (fun t ht9 hA9 => ⟨(), (fun z => hpx (((q_shp_nm hs nn).mp (q_tb0.mp z)))), ⟨rfl, m_wo_out hw ht9 hA9⟩, m_wo_F hw ht9⟩) (m_wo_L hw) (Nat.le_of_ble_eq_true rfl) (Nat.le_of_ble_eq_true rfl)
  obtain ⟨i, ai, rfl, hi31, ha, rfl⟩ := hp_2
  have hi : i < (L (cd 5)).length := (List.getElem?_eq_some_iff.mp ha).1
  have hka := hel7 ai (List.mem_of_getElem? ha)
  have hv := (q_shp_nm hs (nI i)).mpr ⟨i, hi, rfl⟩
  obtain ⟨ph, w9, d9, n, is9, came, h70, hph, h71, hst, hst9, h73, hcm, hk7, h74, h72, hn, hwd, hgp, np, nw, nd, hkp⟩ := hs.2.2.2.2.2.1.2.2.2.1 i ai ha
  have hkis : K is9 = 3 := hel0 is9 (List.mem_of_getElem? hst)
  have hkph := hph.1
  refine g_7_2 hx hb hts (by decide +kernel) hown hw hka (hts (.fieldLink RX8 125 "Pirateindex$Ship" "purse" "I") (by decide +kernel)) dX8_coins_5 ?_
  refine vx_ret ?_
  exact W.iret (v := (I 72 ai)) hx hb hr (fun t ht hW => ⟨⟨(I 72 ai), (), rfl, ⟨q_tb0.mpr hv, by rw [nI_clamp hi31]; exact h72⟩, m_wo_out hw ht hW.alike⟩, m_wo_F hw ht⟩) (m_wo_L hw) dX8_coins_8
set_option maxHeartbeats 400000 in
set_option maxRecDepth 100000 in
theorem c_X8_hasMap (l : Launch) (hnt : l.stackTraces = false) {G : mG} {K : Nat → Nat} {I : Nat → Nat → Int32} {R : Nat → Nat → Option Nat} {F : Nat → UInt32} {A : Nat → Nat → Int32} {N : Nat → Nat} {L : Nat → List Nat} {T : Nat → List Int32} {J : Nat → Nat → Int64} {D : Nat → Nat → UInt64} {o : Nat} {cd : Nat → Nat} {Z : Nat → Int32} {M : Nat → Nat → Int32} {nn : Int32} (hs : c_sim K I R N A L T o cd Z M) : vx_Met l yX8_hasMap wsX8_hasMap ({ frames := 9, cells := 1, slots := 6, locals := 260 } : Room) (va_Pc [.ref o, .int nn] (fun U => m_B G K I R F A N L T J D U ∧ c_str U)) (va_Qi (fun (r : Int32) (_ : Unit) => t_b (o_shp Z nn) = 0 ∧ r = b2i (decide (0 < M 22 nn.toNatClampNeg))) (fun u : Unit => m_B G K I R F A N L T J D) (m_A G)) (vx_X (fun (u : Unit) => ¬ t_b (o_shp Z nn) = 0) (fun E (u : Unit) t => E = "java/lang/IndexOutOfBoundsException" ∧ m_B G K I R F A N L T J D t) (m_A G)) 1 6 (m_A G) := by
  refine vx_ofW (cc := cX8_hasMap) (maxL := 2) (ret := (some .boolean)) (by decide) rfl ?_
  intro p e s m args below meth c s₁ B hml hxt hv
  obtain ⟨rfl, hB, hcs⟩ := hv
  have hx := B.exec
  have hb := B.bytes
  have hr := B.returns
  have hts := atoms_spec (ws := wsX8_hasMap) B.pre
  have hown : s.vm.findClass RX8 = some m.cls := findClass_of_methodNamed B.named
  have hlocks := B.notSynchronized
  have hw := m_wo_in hB
  have hl := lv_entry ([.ref o, .int nn]) (n := 2) (Nat.le_of_ble_eq_true rfl)
  rw [lg_entry_eq]
  generalize (lg_sl ([.ref o, .int nn]) ++ List.replicate (2 - (lg_sl ([.ref o, .int nn])).length) Slot.unset).toArray = ls at hl ⊢
  have hl : lv_has ls 2 [(0, .ref o), (1, .int nn)] := hl
  have hok := hs.1
  have hel0 := q_el0 hs
  have hel1 := q_el1 hs
  have hel5 := q_el5 hs
  have hel7 := q_el7 hs
  have hel9 := q_el9 hs
  refine lv_aload_n hx hb dX8_hasMap_0 rfl (lv_at hl 0 rfl) ?_
  refine lv_iload_n hx hb dX8_hasMap_1 rfl (lv_at hl 1 rfl) ?_
  refine m_xq (vx_runV (As := [.int nn]) (rest := []) ⟨hx, hb, hml, hown, hts⟩ (c_X8_shipOf l hnt hok hel7) (cwV 1 hts gX8_hasMap_X8_shipOf rfl rfl rfl (by decide +kernel) ⟨Nat.le_of_ble_eq_true rfl, Nat.le_of_ble_eq_true rfl⟩) ⟨m_blind (fun U g mk a h => ⟨m_B_calling U g mk a h.1, c_str_calling U g mk a h.2⟩), m_recv hw (m_ent_9 hok.1) rfl, fun U hU hW => ⟨rfl, m_wo_call hw hU hW, c_str_warm hW hcs⟩⟩ rfl rfl hl.1 rfl (lv_room (Nat.le_of_ble_eq_true rfl)) dX8_hasMap_2 ⟨Nat.le_of_ble_eq_true rfl, Nat.le_of_ble_eq_true rfl⟩) hw (fun E_ ce_ q9_ u_2x H locs hpx hw hce hcv hcl => ?_) (fun r_2 u_2 H locs hp_2 hw => ?_)
  · skip
    obtain ⟨hpx, rfl⟩ := hpx
    exact vx_out (fun x hx9 => absurd (hxt x hx9) id) hlocks hce hcv hcl (fun t ht9 hA9 => ⟨(), (fun z => hpx (((q_shp_nm hs nn).mp (q_tb0.mp z)))), ⟨rfl, m_wo_out hw ht9 hA9⟩, m_wo_F hw ht9⟩) (m_wo_L hw) (Nat.le_of_ble_eq_true rfl) (Nat.le_of_ble_eq_true rfl)
  obtain ⟨i, ai, rfl, hi31, ha, rfl⟩ := hp_2
  have hi : i < (L (cd 5)).length := (List.getElem?_eq_some_iff.mp ha).1
  have hka := hel7 ai (List.mem_of_getElem? ha)
  have hv := (q_shp_nm hs (nI i)).mpr ⟨i, hi, rfl⟩
  obtain ⟨ph, w9, d9, n, is9, came, h70, hph, h71, hst, hst9, h73, hcm, hk7, h74, h72, hn, hwd, hgp, np, nw, nd, hkp⟩ := hs.2.2.2.2.2.1.2.2.2.1 i ai ha
  have hkis : K is9 = 3 := hel0 is9 (List.mem_of_getElem? hst)
  have hkph := hph.1
  refine g_7_0 (r := some ph) hx hb hts (by decide +kernel) hown hw hka (hts (.fieldLink RX8 280 "Pirateindex$Ship" "map" "LPirateindex$Phrase;") (by decide +kernel)) h70 dX8_hasMap_5 ?_
  refine m_ci (va_runV (As := []) (rest := []) ⟨hx, hb, hml, hown, hts⟩ (c_X3_isEmpty l hkph) (cwV 0 hts gX8_hasMap_X3_isEmpty rfl rfl rfl (by decide +kernel) ⟨Nat.le_of_ble_eq_true rfl, Nat.le_of_ble_eq_true rfl⟩) ⟨m_blind m_B_calling, m_recv hw (m_ent_4 hkph) rfl, fun U hU hW => ⟨rfl, m_wo_call hw hU hW⟩⟩ rfl rfl hl.1 rfl (lv_room (Nat.le_of_ble_eq_true rfl)) dX8_hasMap_8 ⟨Nat.le_of_ble_eq_true rfl, Nat.le_of_ble_eq_true rfl⟩) hw (fun r_8 u_8 H locs hp_8 hw => ?_)
  obtain rfl : r_8 = b2i (decide (I 42 ph = 0)) := hp_8
  refine lv_if_ne (tgt := 18) hx hb dX8_hasMap_11 (by decide) (fun c_11 => ?_) (fun c_11 => ?_)
  · skip
    have hq := of_decide_eq_true ((b2i_ne _).mp c_11)
    refine lv_iconst (v := 0) hx hb dX8_hasMap_18 (by decide) ?_
    refine vx_ret ?_
    exact W.zret (v := 0) hx hb hr (by rfl) (fun t ht hW => ⟨⟨0, (), rfl, ⟨q_tb0.mpr hv, by rw [nI_clamp hi31, hn]; rw [hph.2.2.2.2.2.2.2.1] at hq; rw [hq]; rfl⟩, m_wo_out hw ht hW.alike⟩, m_wo_F hw ht⟩) (m_wo_L hw) dX8_hasMap_19
  · skip
    have hq := of_decide_eq_false ((b2i_eq _).mp c_11)
    refine lv_iconst (v := 1) hx hb dX8_hasMap_14 (by decide) ?_
    refine lv_goto (tgt := 19) hx hb dX8_hasMap_15 (by decide) ?_
    refine vx_ret ?_
    exact W.zret (v := 1) hx hb hr (by rfl) (fun t ht hW => ⟨⟨1, (), rfl, ⟨q_tb0.mpr hv, by rw [nI_clamp hi31, hn]; rw [hph.2.2.2.2.2.2.2.1] at hq; rw [decide_eq_true (q_pos (by have := hph.2.2.2.2.2.2.2.2.1; omega) hq)]; rfl⟩, m_wo_out hw ht hW.alike⟩, m_wo_F hw ht⟩) (m_wo_L hw) dX8_hasMap_19
set_option maxHeartbeats 400000 in
set_option maxRecDepth 100000 in
theorem c_X8_isThere (l : Launch) (hnt : l.stackTraces = false) {G : mG} {K : Nat → Nat} {I : Nat → Nat → Int32} {R : Nat → Nat → Option Nat} {F : Nat → UInt32} {A : Nat → Nat → Int32} {N : Nat → Nat} {L : Nat → List Nat} {T : Nat → List Int32} {J : Nat → Nat → Int64} {D : Nat → Nat → UInt64} {o : Nat} {cd : Nat → Nat} {Z : Nat → Int32} {M : Nat → Nat → Int32} {nn : Int32} (hs : c_sim K I R N A L T o cd Z M) : vx_Met l yX8_isThere wsX8_isThere ({ frames := 9, cells := 1, slots := 6, locals := 260 } : Room) (va_Pc [.ref o, .int nn] (fun U => m_B G K I R F A N L T J D U ∧ c_str U)) (va_Qi (fun (r : Int32) (_ : Unit) => t_b (o_isl Z nn) = 0 ∧ r = b2i (decide (M 10 nn.toNatClampNeg = 0))) (fun u : Unit => m_B G K I R F A N L T J D) (m_A G)) (vx_X (fun (u : Unit) => ¬ t_b (o_isl Z nn) = 0) (fun E (u : Unit) t => E = "java/lang/IndexOutOfBoundsException" ∧ m_B G K I R F A N L T J D t) (m_A G)) 1 6 (m_A G) := by
  refine vx_ofW (cc := cX8_isThere) (maxL := 2) (ret := (some .boolean)) (by decide) rfl ?_
  intro p e s m args below meth c s₁ B hml hxt hv
  obtain ⟨rfl, hB, hcs⟩ := hv
  have hx := B.exec
  have hb := B.bytes
  have hr := B.returns
  have hts := atoms_spec (ws := wsX8_isThere) B.pre
  have hown : s.vm.findClass RX8 = some m.cls := findClass_of_methodNamed B.named
  have hlocks := B.notSynchronized
  have hw := m_wo_in hB
  have hl := lv_entry ([.ref o, .int nn]) (n := 2) (Nat.le_of_ble_eq_true rfl)
  rw [lg_entry_eq]
  generalize (lg_sl ([.ref o, .int nn]) ++ List.replicate (2 - (lg_sl ([.ref o, .int nn])).length) Slot.unset).toArray = ls at hl ⊢
  have hl : lv_has ls 2 [(0, .ref o), (1, .int nn)] := hl
  have hok := hs.1
  have hel0 := q_el0 hs
  have hel1 := q_el1 hs
  have hel5 := q_el5 hs
  have hel7 := q_el7 hs
  have hel9 := q_el9 hs
  refine lv_aload_n hx hb dX8_isThere_0 rfl (lv_at hl 0 rfl) ?_
  refine lv_iload_n hx hb dX8_isThere_1 rfl (lv_at hl 1 rfl) ?_
  refine m_xq (vx_runV (As := [.int nn]) (rest := []) ⟨hx, hb, hml, hown, hts⟩ (c_X8_isleOf l hnt hok hel0) (cwV 1 hts gX8_isThere_X8_isleOf rfl rfl rfl (by decide +kernel) ⟨Nat.le_of_ble_eq_true rfl, Nat.le_of_ble_eq_true rfl⟩) ⟨m_blind (fun U g mk a h => ⟨m_B_calling U g mk a h.1, c_str_calling U g mk a h.2⟩), m_recv hw (m_ent_9 hok.1) rfl, fun U hU hW => ⟨rfl, m_wo_call hw hU hW, c_str_warm hW hcs⟩⟩ rfl rfl hl.1 rfl (lv_room (Nat.le_of_ble_eq_true rfl)) dX8_isThere_2 ⟨Nat.le_of_ble_eq_true rfl, Nat.le_of_ble_eq_true rfl⟩) hw (fun E_ ce_ q9_ u_2x H locs hpx hw hce hcv hcl => ?_) (fun r_2 u_2 H locs hp_2 hw => ?_)
  · skip
    obtain ⟨hpx, rfl⟩ := hpx
    exact vx_out (fun x hx9 => absurd (hxt x hx9) id) hlocks hce hcv hcl (fun t ht9 hA9 => ⟨(), (fun z => hpx (((q_isl_nm hs nn).mp (q_tb0.mp z)))), ⟨rfl, m_wo_out hw ht9 hA9⟩, m_wo_F hw ht9⟩) (m_wo_L hw) (Nat.le_of_ble_eq_true rfl) (Nat.le_of_ble_eq_true rfl)
  obtain ⟨i, ai, rfl, hi31, ha, rfl⟩ := hp_2
  have hi : i < (L (cd 0)).length := (List.getElem?_eq_some_iff.mp ha).1
  have hka := hel0 ai (List.mem_of_getElem? ha)
  have hv := (q_isl_nm hs (nI i)).mpr ⟨i, hi, rfl⟩
  have hil := hs.2.1.2.2 i ai ha
  have h34 : I 34 ai = b2i (decide (M 10 i = 0)) := by rw [hil.2.2.2.2.2]; by_cases h : M 10 i = 0 <;> simp [h, b2i]
  refine g_3_4 hx hb hts (by decide +kernel) hown hw hka (hts (.fieldLink RX8 285 "Pirateindex$Isle" "treasureThere" "Z") (by decide +kernel)) dX8_isThere_5 ?_
  rw [h34]
  refine vx_ret ?_
  exact W.zret (v := (b2i (decide (M 10 i = 0)))) hx hb hr (b2i_nar _) (fun t ht hW => ⟨⟨(b2i (decide (M 10 i = 0))), (), rfl, ⟨q_tb0.mpr hv, by rw [nI_clamp hi31]⟩, m_wo_out hw ht hW.alike⟩, m_wo_F hw ht⟩) (m_wo_L hw) dX8_isThere_8
set_option maxHeartbeats 400000 in
set_option maxRecDepth 100000 in
theorem c_X8_isStruck (l : Launch) (hnt : l.stackTraces = false) {G : mG} {K : Nat → Nat} {I : Nat → Nat → Int32} {R : Nat → Nat → Option Nat} {F : Nat → UInt32} {A : Nat → Nat → Int32} {N : Nat → Nat} {L : Nat → List Nat} {T : Nat → List Int32} {J : Nat → Nat → Int64} {D : Nat → Nat → UInt64} {o : Nat} {cd : Nat → Nat} {Z : Nat → Int32} {M : Nat → Nat → Int32} {nn : Int32} (hs : c_sim K I R N A L T o cd Z M) (h16 : ∀ f, M 16 f = 0 ∨ M 16 f = 1) : vx_Met l yX8_isStruck wsX8_isStruck ({ frames := 9, cells := 1, slots := 6, locals := 260 } : Room) (va_Pc [.ref o, .int nn] (fun U => m_B G K I R F A N L T J D U ∧ c_str U)) (va_Qi (fun (r : Int32) (_ : Unit) => t_b (o_rng nn 0 (Z 1 - 1)) = 0 ∧ r = b2i (!decide (M 16 nn.toNatClampNeg = 0))) (fun u : Unit => m_B G K I R F A N L T J D) (m_A G)) (vx_X (fun (u : Unit) => ¬ t_b (o_rng nn 0 (Z 1 - 1)) = 0) (fun E (u : Unit) t => E = "java/lang/IndexOutOfBoundsException" ∧ m_B G K I R F A N L T J D t) (m_A G)) 1 6 (m_A G) := by
  refine vx_ofW (cc := cX8_isStruck) (maxL := 2) (ret := (some .boolean)) (by decide) rfl ?_
  intro p e s m args below meth c s₁ B hml hxt hv
  obtain ⟨rfl, hB, hcs⟩ := hv
  have hx := B.exec
  have hb := B.bytes
  have hr := B.returns
  have hts := atoms_spec (ws := wsX8_isStruck) B.pre
  have hown : s.vm.findClass RX8 = some m.cls := findClass_of_methodNamed B.named
  have hlocks := B.notSynchronized
  have hw := m_wo_in hB
  have hl := lv_entry ([.ref o, .int nn]) (n := 2) (Nat.le_of_ble_eq_true rfl)
  rw [lg_entry_eq]
  generalize (lg_sl ([.ref o, .int nn]) ++ List.replicate (2 - (lg_sl ([.ref o, .int nn])).length) Slot.unset).toArray = ls at hl ⊢
  have hl : lv_has ls 2 [(0, .ref o), (1, .int nn)] := hl
  have hok := hs.1
  have hel0 := q_el0 hs
  have hel1 := q_el1 hs
  have hel5 := q_el5 hs
  have hel7 := q_el7 hs
  have hel9 := q_el9 hs
  refine lv_aload_n hx hb dX8_isStruck_0 rfl (lv_at hl 0 rfl) ?_
  refine lv_iload_n hx hb dX8_isStruck_1 rfl (lv_at hl 1 rfl) ?_
  refine m_xq (vx_runV (As := [.int nn]) (rest := []) ⟨hx, hb, hml, hown, hts⟩ (c_X8_findNumbered l hnt hok hel1) (cwV 1 hts gX8_isStruck_X8_findNumbered rfl rfl rfl (by decide +kernel) ⟨Nat.le_of_ble_eq_true rfl, Nat.le_of_ble_eq_true rfl⟩) ⟨m_blind (fun U g mk a h => ⟨m_B_calling U g mk a h.1, c_str_calling U g mk a h.2⟩), m_recv hw (m_ent_9 hok.1) rfl, fun U hU hW => ⟨rfl, m_wo_call hw hU hW, c_str_warm hW hcs⟩⟩ rfl rfl hl.1 rfl (lv_room (Nat.le_of_ble_eq_true rfl)) dX8_isStruck_2 ⟨Nat.le_of_ble_eq_true rfl, Nat.le_of_ble_eq_true rfl⟩) hw (fun E_ ce_ q9_ u_2x H locs hpx hw hce hcv hcl => ?_) (fun r_2 u_2 H locs hp_2 hw => ?_)
  · skip
    obtain ⟨hpx, rfl⟩ := hpx
    exact vx_out (fun x hx9 => absurd (hxt x hx9) id) hlocks hce hcv hcl (fun t ht9 hA9 => ⟨(), (fun z => hpx (((q_fnd_nm hs nn).mp (q_tb0.mp z)))), ⟨rfl, m_wo_out hw ht9 hA9⟩, m_wo_F hw ht9⟩) (m_wo_L hw) (Nat.le_of_ble_eq_true rfl) (Nat.le_of_ble_eq_true rfl)
  obtain ⟨i, ai, rfl, hi31, ha, rfl⟩ := hp_2
  have hi : i < (L (cd 1)).length := (List.getElem?_eq_some_iff.mp ha).1
  have hka := hel1 ai (List.mem_of_getElem? ha)
  have hv := (q_fnd_nm hs (nI i)).mpr ⟨i, hi, rfl⟩
  have hfl := hs.2.2.1.2.2 i ai ha
  have h34 : I 16 ai = b2i (!decide (M 16 i = 0)) := by rw [hfl.2.2.2.2.2.1]; rcases h16 i with h | h <;> rw [h] <;> decide
  refine g_1_6 hx hb hts (by decide +kernel) hown hw hka (hts (.fieldLink RX8 296 "Pirateindex$Find" "struck" "Z") (by decide +kernel)) dX8_isStruck_5 ?_
  rw [h34]
  refine vx_ret ?_
  exact W.zret (v := (b2i (!decide (M 16 i = 0)))) hx hb hr (b2i_nar _) (fun t ht hW => ⟨⟨(b2i (!decide (M 16 i = 0))), (), rfl, ⟨q_tb0.mpr hv, by rw [nI_clamp hi31]⟩, m_wo_out hw ht hW.alike⟩, m_wo_F hw ht⟩) (m_wo_L hw) dX8_isStruck_8
set_option maxHeartbeats 400000 in
set_option maxRecDepth 100000 in
theorem c_X8_causes (l : Launch) {G : mG} {K : Nat → Nat} {I : Nat → Nat → Int32} {R : Nat → Nat → Option Nat} {F : Nat → UInt32} {A : Nat → Nat → Int32} {N : Nat → Nat} {L : Nat → List Nat} {T : Nat → List Int32} {J : Nat → Nat → Int64} {D : Nat → Nat → UInt64} {o : Nat} {cd : Nat → Nat} {Z : Nat → Int32} {M : Nat → Nat → Int32}  (hs : c_sim K I R N A L T o cd Z M) : Met l yX8_causes wsX8_causes ({ frames := 3, cells := 0, slots := 0, locals := 80 } : Room) (va_Pc [.ref o] (m_B G K I R F A N L T J D)) (va_Qi (fun (r : Int32) (_ : Unit) => r = Z 31) (fun u : Unit => m_B G K I R F A N L T J D) (m_A G)) 0 0 (m_A G) := by
  refine Met.ofW (cc := cX8_causes) (maxL := 1) (ret := (some .int)) (by decide) rfl ?_
  intro p e s m args below meth c s₁ B hml hv
  obtain ⟨rfl, hB⟩ := hv
  have hx := B.exec
  have hb := B.bytes
  have hr := B.returns
  have hts := atoms_spec (ws := wsX8_causes) B.pre
  have hown : s.vm.findClass RX8 = some m.cls := findClass_of_methodNamed B.named
  have hlocks := B.notSynchronized
  have hw := m_wo_in hB
  have hl := lv_entry ([.ref o]) (n := 1) (Nat.le_of_ble_eq_true rfl)
  rw [lg_entry_eq]
  generalize (lg_sl ([.ref o]) ++ List.replicate (1 - (lg_sl ([.ref o])).length) Slot.unset).toArray = ls at hl ⊢
  have hl : lv_has ls 1 [(0, .ref o)] := hl
  have hok := hs.1
  have hel0 := q_el0 hs
  have hel1 := q_el1 hs
  have hel5 := q_el5 hs
  have hel7 := q_el7 hs
  have hel9 := q_el9 hs
  refine lv_aload_n hx hb dX8_causes_0 rfl (lv_at hl 0 rfl) ?_
  refine g_9_7 (r := some (cd 7)) hx hb hts (by decide +kernel) hown hw hok.1 (hts (.fieldLink RX8 53 "Pirateindex" "causeRow" "Ljava/lang/StringBuilder;") (by decide +kernel)) hok.2.2.2.2.2.2.2.2.1 dX8_causes_1 ?_
  refine m_ci (va_runV (As := []) (rest := []) ⟨hx, hb, hml, hown, hts⟩ (c_J4_length_8abf5 l hok.2.2.2.2.2.2.2.2.2.2.2.2.2.2.2.2.2.1) (cwV 0 hts gX8_causes_J4_length_8abf5 rfl rfl rfl (by decide +kernel) ⟨Nat.le_of_ble_eq_true rfl, Nat.le_of_ble_eq_true rfl⟩) ⟨m_blind m_B_calling, m_recv hw (m_ent_12 hok.2.2.2.2.2.2.2.2.2.2.2.2.2.2.2.2.2.1) rfl, fun U hU hW => ⟨rfl, m_wo_call hw hU hW⟩⟩ rfl rfl hl.1 rfl (lv_room (Nat.le_of_ble_eq_true rfl)) dX8_causes_4 ⟨Nat.le_of_ble_eq_true rfl, Nat.le_of_ble_eq_true rfl⟩) hw (fun r_4 u_4 H locs hp_4 hw => ?_)
  exact W.iret (v := r_4) hx hb hr (fun t ht hW => ⟨⟨r_4, (), rfl, (hp_4.trans hs.2.2.2.2.2.2.2.1.1.symm), m_wo_out hw ht hW.alike⟩, m_wo_F hw ht⟩) (m_wo_L hw) dX8_causes_7
set_option maxHeartbeats 400000 in
set_option maxRecDepth 100000 in
theorem c_X8_segments (l : Launch) {G : mG} {K : Nat → Nat} {I : Nat → Nat → Int32} {R : Nat → Nat → Option Nat} {F : Nat → UInt32} {A : Nat → Nat → Int32} {N : Nat → Nat} {L : Nat → List Nat} {T : Nat → List Int32} {J : Nat → Nat → Int64} {D : Nat → Nat → UInt64} {o : Nat} {cd : Nat → Nat} {Z : Nat → Int32} {M : Nat → Nat → Int32}  (hs : c_sim K I R N A L T o cd Z M) : Met l yX8_segments wsX8_segments ({ frames := 3, cells := 0, slots := 0, locals := 80 } : Room) (va_Pc [.ref o] (m_B G K I R F A N L T J D)) (va_Qi (fun (r : Int32) (_ : Unit) => r = Z 3) (fun u : Unit => m_B G K I R F A N L T J D) (m_A G)) 0 0 (m_A G) := by
  refine Met.ofW (cc := cX8_segments) (maxL := 1) (ret := (some .int)) (by decide) rfl ?_
  intro p e s m args below meth c s₁ B hml hv
  obtain ⟨rfl, hB⟩ := hv
  have hx := B.exec
  have hb := B.bytes
  have hr := B.returns
  have hts := atoms_spec (ws := wsX8_segments) B.pre
  have hown : s.vm.findClass RX8 = some m.cls := findClass_of_methodNamed B.named
  have hlocks := B.notSynchronized
  have hw := m_wo_in hB
  have hl := lv_entry ([.ref o]) (n := 1) (Nat.le_of_ble_eq_true rfl)
  rw [lg_entry_eq]
  generalize (lg_sl ([.ref o]) ++ List.replicate (1 - (lg_sl ([.ref o])).length) Slot.unset).toArray = ls at hl ⊢
  have hl : lv_has ls 1 [(0, .ref o)] := hl
  have hok := hs.1
  have hel0 := q_el0 hs
  have hel1 := q_el1 hs
  have hel5 := q_el5 hs
  have hel7 := q_el7 hs
  have hel9 := q_el9 hs
  refine lv_aload_n hx hb dX8_segments_0 rfl (lv_at hl 0 rfl) ?_
  refine g_9_4 (r := some (cd 4)) hx hb hts (by decide +kernel) hown hw hok.1 (hts (.fieldLink RX8 36 "Pirateindex" "shelf" "LPirateindex$Shelf;") (by decide +kernel)) hok.2.2.2.2.2.1 dX8_segments_1 ?_
  refine g_6_0 (r := some (cd 10)) hx hb hts (by decide +kernel) hown hw hok.2.2.2.2.2.2.2.2.2.2.2.2.2.2.1 (hts (.fieldLink RX8 137 "Pirateindex$Shelf" "row" "Ljava/util/ArrayList;") (by decide +kernel)) hok.2.2.2.2.2.2.2.2.2.2.2.2.2.2.2.2.2.2.2.2.2.2.2.2.2.2.1 dX8_segments_4 ?_
  refine m_ci (va_runV (As := []) (rest := []) ⟨hx, hb, hml, hown, hts⟩ (c_Jx4a65c_size_8abf5 l hok.2.2.2.2.2.2.2.2.2.2.2.2.2.2.2.2.2.2.2.2.1) (cwV 0 hts gX8_segments_Jx4a65c_size_8abf5 rfl rfl rfl (by decide +kernel) ⟨Nat.le_of_ble_eq_true rfl, Nat.le_of_ble_eq_true rfl⟩) ⟨m_blind m_B_calling, m_recv hw (m_ent_11 hok.2.2.2.2.2.2.2.2.2.2.2.2.2.2.2.2.2.2.2.2.1) rfl, fun U hU hW => ⟨rfl, m_wo_call hw hU hW⟩⟩ rfl rfl hl.1 rfl (lv_room (Nat.le_of_ble_eq_true rfl)) dX8_segments_7 ⟨Nat.le_of_ble_eq_true rfl, Nat.le_of_ble_eq_true rfl⟩) hw (fun r_7 u_7 H locs hp_7 hw => ?_)
  obtain rfl : r_7 = (nI (L (cd 10)).length) := hp_7
  exact W.iret (v := (nI (L (cd 10)).length)) hx hb hr (fun t ht hW => ⟨⟨(nI (L (cd 10)).length), (), rfl, hs.2.2.2.2.1.1.symm, m_wo_out hw ht hW.alike⟩, m_wo_F hw ht⟩) (m_wo_L hw) dX8_segments_10
