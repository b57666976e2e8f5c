theorem q_ty1 {Z : mZ} {b : Bool} (h : ¬ b = true) : t_typed b Z = 1 := if_neg h
theorem q_ty2 {Z : mZ} {b : Bool} (h : b = true) (h2 : ¬ 0 < Z 29) : t_typed b Z = 2 := (if_pos h).trans (if_neg h2)
theorem q_ty0 {Z : mZ} {b : Bool} (h : b = true) (h2 : 0 < Z 29) : t_typed b Z = 0 := (if_pos h).trans (if_pos h2)
set_option maxHeartbeats 400000 in
set_option maxRecDepth 100000 in
theorem c_X8_postings (l : Launch) (hnt : l.stackTraces = false) {G : mG} {K : Nat → Nat} {I : Nat → Nat → Int32} {R : Nat → Nat → Option Nat} {F : Nat → UInt32} {A : Nat → Nat → Int32} {N : Nat → Nat} {L : Nat → List Nat} {T : Nat → List Int32} {J : Nat → Nat → Int64} {D : Nat → Nat → UInt64} {o : Nat} {cd : Nat → Nat} {Z : Nat → Int32} {M : Nat → Nat → Int32} {v : Int32} (hs : c_sim K I R N A L T o cd Z M) : vx_Met l yX8_postings wsX8_postings ({ frames := 9, cells := 1, slots := 6, locals := 260 } : Room) (va_Pc [.ref o, .int v] (fun U => m_B G K I R F A N L T J D U ∧ c_str U)) (va_Qi (fun (r : Int32) (_ : Unit) => t_postings v = 0 ∧ r = nI (cntB (fun f => o_pst M f v) (L (cd 1)).length)) (fun u : Unit => m_B G K I R F A N L T J D) (m_A G)) (vx_X (fun (u : Unit) => ¬ t_postings v = 0) (fun E (u : Unit) t => E = "java/lang/IllegalArgumentException" ∧ m_B G K I R F A N L T J D t) (m_A G)) 1 6 (m_A G) := by
  refine vx_ofW (cc := cX8_postings) (maxL := 2) (ret := (some .int)) (by decide) rfl ?_
  intro p e s m args below meth c s₁ B hml hxt hv
  obtain ⟨rfl, hB, hcs⟩ := hv
  have hx := B.exec
  have hb := B.bytes
  have hr := B.returns
  have hts := atoms_spec (ws := wsX8_postings) B.pre
  have hown : s.vm.findClass RX8 = some m.cls := findClass_of_methodNamed B.named
  have hlocks := B.notSynchronized
  have hw := m_wo_in hB
  have hl := lv_entry ([.ref o, .int v]) (n := 2) (Nat.le_of_ble_eq_true rfl)
  rw [lg_entry_eq]
  generalize (lg_sl ([.ref o, .int v]) ++ List.replicate (2 - (lg_sl ([.ref o, .int v])).length) Slot.unset).toArray = ls at hl ⊢
  have hl : lv_has ls 2 [(0, .ref o), (1, .int v)] := hl
  have hok := hs.1
  have hel0 := q_el0 hs
  have hel1 := q_el1 hs
  have hel5 := q_el5 hs
  have hel7 := q_el7 hs
  have hel9 := q_el9 hs
  refine lv_iload_n hx hb dX8_postings_0 rfl (lv_at hl 1 rfl) ?_
  refine lv_bipush (v := 30) hx hb dX8_postings_1 (by decide) ?_
  refine m_xv (vx_runS (As := [.int v, .int 30]) (rest := []) ⟨hx, hb, hml, hown, hts⟩ (c_X8_requireRange l hnt ) (va_cwS 2 hts gX8_postings_X8_requireRange rfl rfl rfl (by decide +kernel) ⟨Nat.le_of_ble_eq_true rfl, Nat.le_of_ble_eq_true rfl⟩) ⟨m_blind (fun U g mk a h => ⟨m_B_calling U g mk a h.1, c_str_calling U g mk a h.2⟩), fun U hU hW => ⟨rfl, m_wo_call hw hU hW, c_str_warm hW hcs⟩⟩ rfl rfl hl.1 rfl (lv_room (Nat.le_of_ble_eq_true rfl)) dX8_postings_3 ⟨Nat.le_of_ble_eq_true rfl, Nat.le_of_ble_eq_true rfl⟩) hw (fun E_ ce_ q9_ u_3x H locs hpx hw hce hcv hcl => ?_) (fun u_3 H locs hp_3 hw => ?_)
  · skip
    obtain ⟨hpx, rfl⟩ := hpx
    exact vx_out (fun x hx9 => absurd (hxt x hx9) id) hlocks hce hcv hcl (fun t ht9 hA9 => ⟨(), (fun z => hpx (q_rngs.mp (q_tb0.mp z))), ⟨rfl, m_wo_out hw ht9 hA9⟩, m_wo_F hw ht9⟩) (m_wo_L hw) (Nat.le_of_ble_eq_true rfl) (Nat.le_of_ble_eq_true rfl)
  have hv : t_postings v = 0 := q_tb0.mpr (q_rngs.mpr hp_3)
  refine lv_aload_n hx hb dX8_postings_6 rfl (lv_at hl 0 rfl) ?_
  refine g_9_2 (r := some (cd 2)) hx hb hts (by decide +kernel) hown hw hok.1 (hts (.fieldLink RX8 22 "Pirateindex" "index" "LPirateindex$Index;") (by decide +kernel)) hok.2.2.2.1 dX8_postings_7 ?_
  refine lv_iload_n hx hb dX8_postings_10 rfl (lv_at hl 1 rfl) ?_
  refine m_ci (va_runV (As := [.int v]) (rest := []) ⟨hx, hb, hml, hown, hts⟩ (c_X1_postingsOf l hok.2.2.2.2.2.2.2.2.2.2.2.2.1 hok.2.2.2.2.2.2.2.2.2.2.2.2.2.2.2.2.2.2.2.2.2.2.2.2.2.1 hok.2.2.2.2.2.2.2.2.2.2.2.2.2.2.2.2.2.2.2.1 hel9 (q_ps9 hs)) (cwV 1 hts gX8_postings_X1_postingsOf rfl rfl rfl (by decide +kernel) ⟨Nat.le_of_ble_eq_true rfl, Nat.le_of_ble_eq_true rfl⟩) ⟨m_blind m_B_calling, m_recv hw (m_ent_2 hok.2.2.2.2.2.2.2.2.2.2.2.2.1) rfl, fun U hU hW => ⟨rfl, m_wo_call hw hU hW⟩⟩ rfl rfl hl.1 rfl (lv_room (Nat.le_of_ble_eq_true rfl)) dX8_postings_11 ⟨Nat.le_of_ble_eq_true rfl, Nat.le_of_ble_eq_true rfl⟩) hw (fun r_11 u_11 H locs hp_11 hw => ?_)
  refine vx_ret ?_
  exact W.iret (v := r_11) hx hb hr (fun t ht hW => ⟨⟨r_11, (), rfl, ⟨hv, hp_11.trans (congrArg nI (q_pst hs v))⟩, m_wo_out hw ht hW.alike⟩, m_wo_F hw ht⟩) (m_wo_L hw) dX8_postings_14
set_option maxHeartbeats 400000 in
set_option maxRecDepth 100000 in
theorem c_X8_count (l : Launch) (hnt : l.stackTraces = false) {G : mG} {K : Nat → Nat} {I : Nat → Nat → Int32} {R : Nat → Nat → Option Nat} {F : Nat → UInt32} {A : Nat → Nat → Int32} {N : Nat → Nat} {L : Nat → List Nat} {T : Nat → List Int32} {J : Nat → Nat → Int64} {D : Nat → Nat → UInt64} {o : Nat} {cd : Nat → Nat} {Z : Nat → Int32} {M : Nat → Nat → Int32} {nn : Int32} (hs : c_sim K I R N A L T o cd Z M) : vx_Met l yX8_count wsX8_count ({ frames := 9, cells := 2, slots := 12, locals := 260 } : Room) (va_Pc [.ref o, .int nn] (fun U => m_B G K I R F A N L T J D U ∧ c_str U)) (va_Qi (fun (r : Int32) (u : Nat → Nat → Int32) => t_typed (o_isl Z nn) Z = 0 ∧ r = nI (o_hitT Z M nn) ∧ c_sim K I R N u L T o cd Z M ∧ c_fr K I R N A K I R N u) (fun u : Nat → Nat → Int32 => m_B G K I R F u N L T J D) (m_A G)) (vx_X (fun (u : Unit) => ¬ t_typed (o_isl Z nn) Z = 0) (fun E (u : Unit) t => E = (if t_typed (o_isl Z nn) Z = 1 then "java/lang/IndexOutOfBoundsException" else "java/lang/UnsupportedOperationException") ∧ m_B G K I R F A N L T J D t) (m_A G)) 2 12 (m_A G) := by
  refine vx_ofW (cc := cX8_count) (maxL := 3) (ret := (some .int)) (by decide) rfl ?_
  intro p e s m args below meth c s₁ B hml hxt hv
  obtain ⟨rfl, hB, hcs⟩ := hv
  have hx := B.exec
  have hb := B.bytes
  have hr := B.returns
  have hts := atoms_spec (ws := wsX8_count) B.pre
  have hown : s.vm.findClass RX8 = some m.cls := findClass_of_methodNamed B.named
  have hlocks := B.notSynchronized
  have hw := m_wo_in hB
  have hl := lv_entry ([.ref o, .int nn]) (n := 3) (Nat.le_of_ble_eq_true rfl)
  rw [lg_entry_eq]
  generalize (lg_sl ([.ref o, .int nn]) ++ List.replicate (3 - (lg_sl ([.ref o, .int nn])).length) Slot.unset).toArray = ls at hl ⊢
  have hl : lv_has ls 3 [(0, .ref o), (1, .int nn)] := hl
  have hok := hs.1
  have hel0 := q_el0 hs
  have hel1 := q_el1 hs
  have hel5 := q_el5 hs
  have hel7 := q_el7 hs
  have hel9 := q_el9 hs
  obtain ⟨n, ht1, ht2, ht3, ht4⟩ := hs.2.2.2.2.2.2.1
  have hp42 : I 42 (cd 6) = nI n := ht2.2.2.2.2.2.2.2.1
  have hn4 : n ≤ 4 := ht2.2.2.2.2.2.2.2.2.1
  have hrw := q_rw hs
  refine lv_aload_n hx hb dX8_count_0 rfl (lv_at hl 0 rfl) ?_
  refine lv_iload_n hx hb dX8_count_1 rfl (lv_at hl 1 rfl) ?_
  refine m_xq (vx_runV (As := [.int nn]) (rest := []) ⟨hx, hb, hml, hown, hts⟩ (c_X8_isleOf l hnt hok hel0) (cwV 1 hts gX8_count_X8_isleOf rfl rfl rfl (by decide +kernel) ⟨Nat.le_of_ble_eq_true rfl, Nat.le_of_ble_eq_true rfl⟩) ⟨m_blind (fun U g mk a h => ⟨m_B_calling U g mk a h.1, c_str_calling U g mk a h.2⟩), m_recv hw (m_ent_9 hok.1) rfl, fun U hU hW => ⟨rfl, m_wo_call hw hU hW, c_str_warm hW hcs⟩⟩ rfl rfl hl.1 rfl (lv_room (Nat.le_of_ble_eq_true rfl)) dX8_count_2 ⟨Nat.le_of_ble_eq_true rfl, Nat.le_of_ble_eq_true rfl⟩) hw (fun E_ ce_ q9_ u_2x H locs hpx hw hce hcv hcl => ?_) (fun r_2 u_2 H locs hp_2 hw => ?_)
  · skip
    obtain ⟨hpx, rfl⟩ := hpx
    exact vx_out (fun x hx9 => absurd (hxt x hx9) id) hlocks hce hcv hcl (fun t ht9 hA9 => ⟨(), (by rw [(q_ty1 (fun z => hpx ((q_isl_nm hs nn).mp z)))]; decide), ⟨(by rw [(q_ty1 (fun z => hpx ((q_isl_nm hs nn).mp z)))]; rfl), m_wo_out hw ht9 hA9⟩, m_wo_F hw ht9⟩) (m_wo_L hw) (Nat.le_of_ble_eq_true rfl) (Nat.le_of_ble_eq_true rfl)
  obtain ⟨i, ai, rfl, hi31, ha, rfl⟩ := hp_2
  have hi : i < (L (cd 0)).length := (List.getElem?_eq_some_iff.mp ha).1
  have hka := hel0 ai (List.mem_of_getElem? ha)
  have hv := (q_isl_nm hs (nI i)).mpr ⟨i, hi, rfl⟩
  refine lv_astore_n (lv' := [(2, .ref ai), (0, .ref o), (1, .int (nI i))]) hx hb dX8_count_5 rfl hl (by decide) rfl (fun ls hl => ?_)
  refine lv_aload_n hx hb dX8_count_6 rfl (lv_at hl 1 rfl) ?_
  refine m_xv (vx_runV (As := []) (rest := []) ⟨hx, hb, hml, hown, hts⟩ (c_X8_requireMap l hnt hok) (cwV 0 hts gX8_count_X8_requireMap rfl rfl rfl (by decide +kernel) ⟨Nat.le_of_ble_eq_true rfl, Nat.le_of_ble_eq_true rfl⟩) ⟨m_blind (fun U g mk a h => ⟨m_B_calling U g mk a h.1, c_str_calling U g mk a h.2⟩), m_recv hw (m_ent_9 hok.1) rfl, fun U hU hW => ⟨rfl, m_wo_call hw hU hW, c_str_warm hW hcs⟩⟩ rfl rfl hl.1 rfl (lv_room (Nat.le_of_ble_eq_true rfl)) dX8_count_7 ⟨Nat.le_of_ble_eq_true rfl, Nat.le_of_ble_eq_true rfl⟩) hw (fun E_ ce_ q9_ u_7x H locs hpx hw hce hcv hcl => ?_) (fun u_7 H locs hp_7 hw => ?_)
  · skip
    obtain ⟨hpx, rfl⟩ := hpx
    exact vx_out (fun x hx9 => absurd (hxt x hx9) id) hlocks hce hcv hcl (fun t ht9 hA9 => ⟨(), (by rw [(q_ty2 hv (fun z => absurd z (by rw [ht1, ← hp42, hpx]; decide)))]; decide), ⟨(by rw [(q_ty2 hv (fun z => absurd z (by rw [ht1, ← hp42, hpx]; decide)))]; rfl), m_wo_out hw ht9 hA9⟩, m_wo_F hw ht9⟩) (m_wo_L hw) (Nat.le_of_ble_eq_true rfl) (Nat.le_of_ble_eq_true rfl)
  have hn0 : n ≠ 0 := fun z => hp_7 (by rw [hp42, z]; rfl)
  have hz29 : 0 < Z 29 := by rw [ht1]; exact q_pos (by omega) (fun z => hp_7 (hp42.trans z))
  refine lv_aload_n hx hb dX8_count_10 rfl (lv_at hl 1 rfl) ?_
  refine lv_aload_n hx hb dX8_count_11 rfl (lv_at hl 0 rfl) ?_
  refine lv_aload_n hx hb dX8_count_12 rfl (lv_at hl 1 rfl) ?_
  refine g_9_6 (r := some (cd 6)) hx hb hts (by decide +kernel) hown hw hok.1 (hts (.fieldLink RX8 46 "Pirateindex" "typed" "LPirateindex$Phrase;") (by decide +kernel)) hok.2.2.2.2.2.2.2.1 dX8_count_13 ?_
  refine m_ci (va_runV (As := [.ref ai, .ref (cd 6)]) (rest := []) ⟨hx, hb, hml, hown, hts⟩ (c_X8_choicesOn l hok hka ht2 hrw) (cwV 2 hts gX8_count_X8_choicesOn rfl rfl rfl (by decide +kernel) ⟨Nat.le_of_ble_eq_true rfl, Nat.le_of_ble_eq_true rfl⟩) ⟨m_blind m_B_calling, m_recv hw (m_ent_9 hok.1) rfl, fun U hU hW => ⟨rfl, m_wo_call hw hU hW⟩⟩ rfl rfl hl.1 rfl (lv_room (Nat.le_of_ble_eq_true rfl)) dX8_count_16 ⟨Nat.le_of_ble_eq_true rfl, Nat.le_of_ble_eq_true rfl⟩) hw (fun r_16 u_16 H locs hp_16 hw => ?_)
  have hw : m_wo G K I R F u_16 N L T J D s H locs := hw
  obtain ⟨hA1, hr1⟩ := hp_16
  rw [(hs.2.1.2.2 i ai ha).2.1, q_hitT hs ht1 hn0 hn4 ht3 ht4] at hr1
  have hss : c_sim K I R N u_16 L T o cd Z M := c_sim_scr hs c_chg_rf (fun _ _ => rfl) (fun b h1 h2 _ => hA1 b h1 h2) hs.2.2.2.2.2.2.2.2
  refine vx_ret ?_
  exact W.iret (v := r_16) hx hb hr (fun t ht hW => ⟨⟨r_16, u_16, rfl, ⟨q_ty0 hv hz29, hr1, hss, c_fr_A2 hok hA1⟩, m_wo_out hw ht hW.alike⟩, m_wo_F hw ht⟩) (m_wo_L hw) dX8_count_19
set_option maxHeartbeats 400000 in
set_option maxRecDepth 100000 in
theorem c_X8_isTrue_s (l : Launch) {G : mG} {K : Nat → Nat} {I : Nat → Nat → Int32} {R : Nat → Nat → Option Nat} {F : Nat → UInt32} {A : Nat → Nat → Int32} {N : Nat → Nat} {L : Nat → List Nat} {T : Nat → List Int32} {J : Nat → Nat → Int64} {D : Nat → Nat → UInt64} {o : Nat} {cd : Nat → Nat} {Z : Nat → Int32} {M : Nat → Nat → Int32}  (hs : c_sim K I R N A L T o cd Z M) (hpu : ∀ a, a ∈ L (cd 5) → 0 ≤ I 72 a) : Met l yX8_isTrue wsX8_isTrue ({ frames := 11, cells := 120, slots := 1000, locals := 480 } : Room) (va_Pc [.ref o] (m_B G K I R F A N L T J D)) (va_Qi (fun (r : Int32) (u : (Nat → Nat) × (Nat → Nat → Int32) × (Nat → Nat → Option Nat) × (Nat → Nat) × (Nat → List Nat) × (Nat → Nat → Int32)) => r = 1 ∧ c_sim u.1 u.2.1 u.2.2.1 u.2.2.2.1 u.2.2.2.2.2 u.2.2.2.2.1 T o cd Z M ∧ c_fr K I R N A u.1 u.2.1 u.2.2.1 u.2.2.2.1 u.2.2.2.2.2) (fun u : (Nat → Nat) × (Nat → Nat → Int32) × (Nat → Nat → Option Nat) × (Nat → Nat) × (Nat → List Nat) × (Nat → Nat → Int32) => m_B G (u.1) (u.2.1) (u.2.2.1) F (u.2.2.2.2.2) (u.2.2.2.1) (u.2.2.2.2.1) T J D) (m_A G)) 120 1000 (m_A G) := by
  refine Met.ofW (cc := cX8_isTrue) (maxL := 1) (ret := (some .boolean)) (by decide) rfl ?_
  intro p e s m args below meth c s₁ B hml hv
  obtain ⟨rfl, hB⟩ := hv
  have hx := B.exec
  have hb := B.bytes
  have hr := B.returns
  have hts := atoms_spec (ws := wsX8_isTrue) B.pre
  have hown : s.vm.findClass RX8 = some m.cls := findClass_of_methodNamed B.named
  have hlocks := B.notSynchronized
  have hw := m_wo_in hB
  have hl := lv_entry ([.ref o]) (n := 1) (Nat.le_of_ble_eq_true rfl)
  rw [lg_entry_eq]
  generalize (lg_sl ([.ref o]) ++ List.replicate (1 - (lg_sl ([.ref o])).length) Slot.unset).toArray = ls at hl ⊢
  have hl : lv_has ls 1 [(0, .ref o)] := hl
  have hok := hs.1
  have hel0 := q_el0 hs
  have hel1 := q_el1 hs
  have hel5 := q_el5 hs
  have hel7 := q_el7 hs
  have hel9 := q_el9 hs
  obtain ⟨n, ht1, ht2, ht3, ht4⟩ := hs.2.2.2.2.2.2.1
  have hp42 : I 42 (cd 6) = nI n := ht2.2.2.2.2.2.2.2.1
  have hn4 : n ≤ 4 := ht2.2.2.2.2.2.2.2.2.1
  have hrw := q_rw hs
  have hsg := q_hsg hs
  refine lv_aload_n hx hb dX8_isTrue_0 rfl (lv_at hl 0 rfl) ?_
  refine m_ci (va_runV (As := []) (rest := []) ⟨hx, hb, hml, hown, hts⟩ (c_X8_findsAreInOneSegment l hok hel1 hel5 hsg (q_hcnt hs)) (cwV 0 hts gX8_isTrue_X8_findsAreInOneSegment rfl rfl rfl (by decide +kernel) ⟨Nat.le_of_ble_eq_true rfl, Nat.le_of_ble_eq_true rfl⟩) ⟨m_blind m_B_calling, m_recv hw (m_ent_9 hok.1) rfl, fun U hU hW => ⟨rfl, m_wo_call hw hU hW⟩⟩ rfl rfl hl.1 rfl (lv_room (Nat.le_of_ble_eq_true rfl)) dX8_isTrue_1 ⟨Nat.le_of_ble_eq_true rfl, Nat.le_of_ble_eq_true rfl⟩) hw (fun r_1 u_1 H locs hp_1 hw => ?_)
  obtain rfl : r_1 = 1 := hp_1
  refine lv_if_eq (tgt := 32) hx hb dX8_isTrue_4 (by decide) (fun c_4 => absurd c_4 (by decide)) (fun c_4 => ?_)
  refine lv_aload_n hx hb dX8_isTrue_7 rfl (lv_at hl 0 rfl) ?_
  refine m_ci (va_runV (As := []) (rest := []) ⟨hx, hb, hml, hown, hts⟩ (c_X8_postingsAreUnstruck l hok hel9 (q_ps9 hs)) (cwV 0 hts gX8_isTrue_X8_postingsAreUnstruck rfl rfl rfl (by decide +kernel) ⟨Nat.le_of_ble_eq_true rfl, Nat.le_of_ble_eq_true rfl⟩) ⟨m_blind m_B_calling, m_recv hw (m_ent_9 hok.1) rfl, fun U hU hW => ⟨rfl, m_wo_call hw hU hW⟩⟩ rfl rfl hl.1 rfl (lv_room (Nat.le_of_ble_eq_true rfl)) dX8_isTrue_8 ⟨Nat.le_of_ble_eq_true rfl, Nat.le_of_ble_eq_true rfl⟩) hw (fun r_8 u_8 H locs hp_8 hw => ?_)
  obtain rfl : r_8 = 1 := hp_8
  refine lv_if_eq (tgt := 32) hx hb dX8_isTrue_11 (by decide) (fun c_11 => absurd c_11 (by decide)) (fun c_11 => ?_)
  refine lv_aload_n hx hb dX8_isTrue_14 rfl (lv_at hl 0 rfl) ?_
  refine m_ci (va_runV (As := []) (rest := []) ⟨hx, hb, hml, hown, hts⟩ (c_X8_pursesHold l hok hel7 hpu) (cwV 0 hts gX8_isTrue_X8_pursesHold rfl rfl rfl (by decide +kernel) ⟨Nat.le_of_ble_eq_true rfl, Nat.le_of_ble_eq_true rfl⟩) ⟨m_blind m_B_calling, m_recv hw (m_ent_9 hok.1) rfl, fun U hU hW => ⟨rfl, m_wo_call hw hU hW⟩⟩ rfl rfl hl.1 rfl (lv_room (Nat.le_of_ble_eq_true rfl)) dX8_isTrue_15 ⟨Nat.le_of_ble_eq_true rfl, Nat.le_of_ble_eq_true rfl⟩) hw (fun r_15 u_15 H locs hp_15 hw => ?_)
  obtain rfl : r_15 = 1 := hp_15
  refine lv_if_eq (tgt := 32) hx hb dX8_isTrue_18 (by decide) (fun c_18 => absurd c_18 (by decide)) (fun c_18 => ?_)
  refine lv_aload_n hx hb dX8_isTrue_21 rfl (lv_at hl 0 rfl) ?_
  refine m_ci (va_runV (As := []) (rest := []) ⟨hx, hb, hml, hown, hts⟩ (c_X8_hitsAgree l hok hel0 hel5 hsg (q_hag hs) ht2 hrw hs.2.2.2.2.2.2.2.2 (q_hgf hs) (q_h120 hs) (q_hcp hs) (q_hc15 hs)) (cwV 0 hts gX8_isTrue_X8_hitsAgree rfl rfl rfl (by decide +kernel) ⟨Nat.le_of_ble_eq_true rfl, Nat.le_of_ble_eq_true rfl⟩) ⟨m_blind m_B_calling, m_recv hw (m_ent_9 hok.1) rfl, fun U hU hW => ⟨rfl, m_wo_call hw hU hW⟩⟩ rfl rfl hl.1 rfl (lv_room (Nat.le_of_ble_eq_true rfl)) dX8_isTrue_22 ⟨Nat.le_of_ble_eq_true rfl, Nat.le_of_ble_eq_true rfl⟩) hw (fun r_22 u_22 H locs hp_22 hw => ?_)
  obtain ⟨K_1, I_2, R_3, N_4, L_5, A_6⟩ := u_22
  have hw : m_wo G K_1 I_2 R_3 F A_6 N_4 L_5 T J D s H locs := hw
  dsimp only at hp_22
  obtain ⟨rfl, hcs9, eL9, hcap9, hA9⟩ := hp_22
  refine lv_if_eq (tgt := 32) hx hb dX8_isTrue_25 (by decide) (fun c_25 => absurd c_25 (by decide)) (fun c_25 => ?_)
  refine lv_iconst (v := 1) hx hb dX8_isTrue_28 (by decide) ?_
  refine lv_goto (tgt := 33) hx hb dX8_isTrue_29 (by decide) ?_
  exact W.zret (v := 1) hx hb hr (by rfl) (fun t ht hW => ⟨⟨1, (K_1, I_2, R_3, N_4, L_5, A_6), rfl, ⟨rfl, c_sim_scr hs hcs9 (fun b hb => by rw [eL9]; exact m_up_ne _ _ hb) (fun b h1 h2 _ => hA9 b h1 h2) hcap9, c_fr_tr (c_fr_A2 hok hA9) (c_fr_n hcs9)⟩, m_wo_out hw ht hW.alike⟩, m_wo_F hw ht⟩) (m_wo_L hw) dX8_isTrue_33
