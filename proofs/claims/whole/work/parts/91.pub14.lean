theorem q_po1 {Z : mZ} {M : mM} {v ix : Int32} (h : ¬ o_rng v 0 30 = true) : t_posting Z M v ix = 1 := if_neg h
theorem q_po2 {Z : mZ} {M : mM} {v ix : Int32} {n : Nat} (h : o_rng v 0 30 = true) (hz : zn Z 1 = n) (h2 : o_found M n v ix n = -1) : t_posting Z M v ix = 2 := (if_pos h).trans (if_pos (by rw [hz]; exact h2))
theorem q_po0 {Z : mZ} {M : mM} {v ix : Int32} {n : Nat} (h : o_rng v 0 30 = true) (hz : zn Z 1 = n) (h2 : ¬ o_found M n v ix n = -1) : t_posting Z M v ix = 0 := (if_pos h).trans (if_neg (by rw [hz]; exact h2))
set_option maxHeartbeats 400000 in
set_option maxRecDepth 100000 in
theorem c_X8_posting (l : Launch) (hnt : l.stackTraces = false) {G : mG} {K : Nat → Nat} {I : Nat → Nat → Int32} {R : Nat → Nat → Option Nat} {F : Nat → UInt32} {A : Nat → Nat → Int32} {N : Nat → Nat} {L : Nat → List Nat} {T : Nat → List Int32} {J : Nat → Nat → Int64} {D : Nat → Nat → UInt64} {o : Nat} {cd : Nat → Nat} {Z : Nat → Int32} {M : Nat → Nat → Int32} {v ix : Int32} (hs : c_sim K I R N A L T o cd Z M) : vx_Met l yX8_posting wsX8_posting ({ frames := 9, cells := 2, slots := 12, locals := 260 } : Room) (va_Pc [.ref o, .int v, .int ix] (fun U => m_B G K I R F A N L T J D U ∧ c_str U)) (va_Qi (fun (r : Int32) (_ : Unit) => t_posting Z M v ix = 0 ∧ r = o_found M (L (cd 1)).length v ix (L (cd 1)).length) (fun u : Unit => m_B G K I R F A N L T J D) (m_A G)) (vx_X (fun (u : Unit) => ¬ t_posting Z M v ix = 0) (fun E (u : Unit) t => E = (if t_posting Z M v ix = 1 then "java/lang/IllegalArgumentException" else "java/util/NoSuchElementException") ∧ m_B G K I R F A N L T J D t) (m_A G)) 2 12 (m_A G) := by
  refine vx_ofW (cc := cX8_posting) (maxL := 4) (ret := (some .int)) (by decide) rfl ?_
  intro p e s m args below meth c s₁ B hml hxt hv
  obtain ⟨rfl, hB, hcs⟩ := hv
  have hx := B.exec
  have hb := B.bytes
  have hr := B.returns
  have hts := atoms_spec (ws := wsX8_posting) B.pre
  have hown : s.vm.findClass RX8 = some m.cls := findClass_of_methodNamed B.named
  have hlocks := B.notSynchronized
  have hw := m_wo_in hB
  have hl := lv_entry ([.ref o, .int v, .int ix]) (n := 4) (Nat.le_of_ble_eq_true rfl)
  rw [lg_entry_eq]
  generalize (lg_sl ([.ref o, .int v, .int ix]) ++ List.replicate (4 - (lg_sl ([.ref o, .int v, .int ix])).length) Slot.unset).toArray = ls at hl ⊢
  have hl : lv_has ls 4 [(0, .ref o), (1, .int v), (2, .int ix)] := hl
  have hok := hs.1
  have hel0 := q_el0 hs
  have hel1 := q_el1 hs
  have hel5 := q_el5 hs
  have hel7 := q_el7 hs
  have hel9 := q_el9 hs
  have hl120 := hs.2.2.1.2.1
  have hzn : zn Z 1 = (L (cd 1)).length := zn_of hs.2.2.1.1 (by omega)
  refine lv_iload_n hx hb dX8_posting_0 rfl (lv_at hl 1 rfl) ?_
  refine lv_bipush (v := 30) hx hb dX8_posting_1 (by decide) ?_
  refine m_xv (vx_runS (As := [.int v, .int 30]) (rest := []) ⟨hx, hb, hml, hown, hts⟩ (c_X8_requireRange l hnt ) (va_cwS 2 hts gX8_posting_X8_requireRange rfl rfl rfl (by decide +kernel) ⟨Nat.le_of_ble_eq_true rfl, Nat.le_of_ble_eq_true rfl⟩) ⟨m_blind (fun U g mk a h => ⟨m_B_calling U g mk a h.1, c_str_calling U g mk a h.2⟩), fun U hU hW => ⟨rfl, m_wo_call hw hU hW, c_str_warm hW hcs⟩⟩ rfl rfl hl.1 rfl (lv_room (Nat.le_of_ble_eq_true rfl)) dX8_posting_3 ⟨Nat.le_of_ble_eq_true rfl, Nat.le_of_ble_eq_true rfl⟩) hw (fun E_ ce_ q9_ u_3x H locs hpx hw hce hcv hcl => ?_) (fun u_3 H locs hp_3 hw => ?_)
  · skip
    obtain ⟨hpx, rfl⟩ := hpx
    exact vx_out (fun x hx9 => absurd (hxt x hx9) id) hlocks hce hcv hcl (fun t ht9 hA9 => ⟨(), (by rw [(q_po1 (fun z => hpx (q_rngs.mp z)))]; decide), ⟨(by rw [(q_po1 (fun z => hpx (q_rngs.mp z)))]; rfl), m_wo_out hw ht9 hA9⟩, m_wo_F hw ht9⟩) (m_wo_L hw) (Nat.le_of_ble_eq_true rfl) (Nat.le_of_ble_eq_true rfl)
  have hv := q_rngs.mpr hp_3
  refine lv_aload_n hx hb dX8_posting_6 rfl (lv_at hl 0 rfl) ?_
  refine g_9_2 (r := some (cd 2)) hx hb hts (by decide +kernel) hown hw hok.1 (hts (.fieldLink RX8 22 "Pirateindex" "index" "LPirateindex$Index;") (by decide +kernel)) hok.2.2.2.1 dX8_posting_7 ?_
  refine lv_iload_n hx hb dX8_posting_10 rfl (lv_at hl 1 rfl) ?_
  refine lv_iload_n hx hb dX8_posting_11 rfl (lv_at hl 2 rfl) ?_
  refine m_cq (va_runV (As := [.int v, .int ix]) (rest := []) ⟨hx, hb, hml, hown, hts⟩ (c_X1_postingAt l hok.2.2.2.2.2.2.2.2.2.2.2.2.1 hok.2.2.2.2.2.2.2.2.2.2.2.2.2.2.2.2.2.2.2.2.2.2.2.2.2.1 hok.2.2.2.2.2.2.2.2.2.2.2.2.2.2.2.2.2.2.2.1 hel9 (q_ps9 hs)) (cwV 2 hts gX8_posting_X1_postingAt rfl rfl rfl (by decide +kernel) ⟨Nat.le_of_ble_eq_true rfl, Nat.le_of_ble_eq_true rfl⟩) ⟨m_blind m_B_calling, m_recv hw (m_ent_2 hok.2.2.2.2.2.2.2.2.2.2.2.2.1) rfl, fun U hU hW => ⟨rfl, m_wo_call hw hU hW⟩⟩ rfl rfl hl.1 rfl (lv_room (Nat.le_of_ble_eq_true rfl)) dX8_posting_12 ⟨Nat.le_of_ble_eq_true rfl, Nat.le_of_ble_eq_true rfl⟩) hw (fun r_12 u_12 H locs hp_12 hw => ?_)
  refine m_astore_nQ (lv' := [(3, va_rf r_12), (0, .ref o), (1, .int v), (2, .int ix)]) hx hb dX8_posting_15 rfl hl (by decide) rfl (fun ls hl => ?_)
  refine m_aload_nQ hx hb dX8_posting_16 rfl (lv_at hl 0 rfl) ?_
  refine m_ifnonnullQ (tgt := 30) hx hb dX8_posting_17 (by decide) (fun c_17 => ?_) (fun z_17 c_17 => ?_)
  · skip
    rw [c_17] at hl
    have hl : lv_has ls 4 [(3, .null), (0, .ref o), (1, .int v), (2, .int ix)] := hl
    have hfn := q_post_none hs (hp_12.symm.trans c_17)
    have htz := q_po2 (M := M) hv hzn hfn
    obtain ⟨sa, hsa⟩ := hcs.1 (219, "no such posting") (by decide)
    refine vx_throw13 (names := ["java/lang/RuntimeException", "java/lang/Exception"]) hx hb hnt hown (by decide) (by decide) (hts (.classLink RX8 140 "java/util/NoSuchElementException") (by decide +kernel)) (hts (.initialized "java/util/NoSuchElementException") (by decide +kernel)) hsa (vx_hat (B := .castable "java/util/NoSuchElementException" "java/util/NoSuchElementException" :: [.declares (Bundle.initS "java/lang/RuntimeException"), .declares (Bundle.initS "java/lang/Exception"), .declares (Bundle.initS Bundle.tN)]) (fun w h => hts w ((by decide +kernel : ∀ w ∈ (vx_at13 RX8 144 "java/util/NoSuchElementException" ["java/lang/RuntimeException", "java/lang/Exception"]).filter goodWord, w ∈ wsX8_posting) w h)) (by decide +kernel) (vx_c (m_wo_cas hw (by decide)) (c_str_dc hcs))) (by decide +kernel) hw.2.1.1 hw.2.1.2.1 hw.2.2.2.1 (hl.1.trans hml.symm) dX8_posting_20 dX8_posting_23 dX8_posting_24 dX8_posting_26 dX8_posting_29 (fun x hx9 => absurd (hxt x hx9) id) (Nat.le_of_ble_eq_true rfl) (Nat.le_of_ble_eq_true rfl) (Nat.le_of_ble_eq_true rfl) (Nat.le_of_ble_eq_true rfl) hlocks (fun t hA9 hs9 hq9 => ⟨(), (by rw [htz]; decide), ⟨(by rw [htz]; rfl), m_wo_up hw hA9 hs9 hq9⟩, m_wo_uF hw hs9 hq9⟩) (m_wo_L hw) (Nat.le_of_ble_eq_true rfl) (Nat.le_of_ble_eq_true rfl)
  · skip
    rw [c_17] at hl
    have hl : lv_has ls 4 [(3, .ref z_17), (0, .ref o), (1, .int v), (2, .int ix)] := hl
    obtain ⟨f9, hf9, h10, hkz, hfd⟩ := q_post_some hs (hp_12.symm.trans c_17)
    have htz := q_po0 (M := M) (ix := ix) hv hzn (by rw [hfd]; exact nI_nm1 (by omega))
    refine lv_aload_n hx hb dX8_posting_30 rfl (lv_at hl 0 rfl) ?_
    refine g_1_0 hx hb hts (by decide +kernel) hown hw hkz (hts (.fieldLink RX8 221 "Pirateindex$Find" "number" "I") (by decide +kernel)) dX8_posting_31 ?_
    rw [h10]
    refine vx_ret ?_
    refine W.widen (k := 2) (n := 12) (by omega) (by omega) ?_
    exact W.iret (v := (nI f9)) hx hb hr (fun t ht hW => ⟨⟨(nI f9), (), rfl, ⟨htz, hfd.symm⟩, m_wo_out hw ht hW.alike⟩, m_wo_F hw ht⟩) (m_wo_L hw) dX8_posting_34
set_option maxHeartbeats 400000 in
set_option maxRecDepth 100000 in
theorem c_X8_weight (l : Launch) (hnt : l.stackTraces = false) {G : mG} {K : Nat → Nat} {I : Nat → Nat → Int32} {R : Nat → Nat → Option Nat} {F : Nat → UInt32} {A : Nat → Nat → Int32} {N : Nat → Nat} {L : Nat → List Nat} {T : Nat → List Int32} {J : Nat → Nat → Int64} {D : Nat → Nat → UInt64} {o : Nat} {cd : Nat → Nat} {Z : Nat → Int32} {M : Nat → Nat → Int32} {v : Int32} (hs : c_sim K I R N A L T o cd Z M) (h12 : ∀ f, f < (L (cd 1)).length → ∃ i, i < (L (cd 0)).length ∧ M 12 f = nI i) (hne : ∀ h, h ≤ (L (cd 0)).length → vf_n32 (FP.fdiv (FP.i2f (nI (L (cd 0)).length)) (FP.i2f (1 + nI h))) ∧ vf_n32 (o_wt (L (cd 0)).length h)) : vx_Met l yX8_weight wsX8_weight ({ frames := 9, cells := 1, slots := 6, locals := 260 } : Room) (va_Pc [.ref o, .int v] (fun U => m_B G K I R F A N L T J D U ∧ c_str U)) (va_Qf (fun (r : UInt32) (_ : Unit) => t_b (o_rng v 0 30) = 0 ∧ r = o_wt (L (cd 0)).length (o_has M (L (cd 1)).length (L (cd 0)).length v)) (fun u : Unit => m_B G K I R F A N L T J D) (m_A G)) (vx_X (fun (u : Unit) => ¬ t_b (o_rng v 0 30) = 0) (fun E (u : Unit) t => E = "java/lang/IllegalArgumentException" ∧ m_B G K I R F A N L T J D t) (m_A G)) 1 6 (m_A G) := by
  refine vx_ofW (cc := cX8_weight) (maxL := 2) (ret := (some .float)) (by decide) rfl ?_
  intro p e s m args below meth c s₁ B hml hxt hv
  obtain ⟨rfl, hB, hcs⟩ := hv
  have hx := B.exec
  have hb := B.bytes
  have hr := B.returns
  have hts := atoms_spec (ws := wsX8_weight) B.pre
  have hown : s.vm.findClass RX8 = some m.cls := findClass_of_methodNamed B.named
  have hlocks := B.notSynchronized
  have hw := m_wo_in hB
  have hl := lv_entry ([.ref o, .int v]) (n := 2) (Nat.le_of_ble_eq_true rfl)
  rw [lg_entry_eq]
  generalize (lg_sl ([.ref o, .int v]) ++ List.replicate (2 - (lg_sl ([.ref o, .int v])).length) Slot.unset).toArray = ls at hl ⊢
  have hl : lv_has ls 2 [(0, .ref o), (1, .int v)] := hl
  have hok := hs.1
  have hel0 := q_el0 hs
  have hel1 := q_el1 hs
  have hel5 := q_el5 hs
  have hel7 := q_el7 hs
  have hel9 := q_el9 hs
  refine lv_iload_n hx hb dX8_weight_0 rfl (lv_at hl 1 rfl) ?_
  refine lv_bipush (v := 30) hx hb dX8_weight_1 (by decide) ?_
  refine m_xv (vx_runS (As := [.int v, .int 30]) (rest := []) ⟨hx, hb, hml, hown, hts⟩ (c_X8_requireRange l hnt ) (va_cwS 2 hts gX8_weight_X8_requireRange rfl rfl rfl (by decide +kernel) ⟨Nat.le_of_ble_eq_true rfl, Nat.le_of_ble_eq_true rfl⟩) ⟨m_blind (fun U g mk a h => ⟨m_B_calling U g mk a h.1, c_str_calling U g mk a h.2⟩), fun U hU hW => ⟨rfl, m_wo_call hw hU hW, c_str_warm hW hcs⟩⟩ rfl rfl hl.1 rfl (lv_room (Nat.le_of_ble_eq_true rfl)) dX8_weight_3 ⟨Nat.le_of_ble_eq_true rfl, Nat.le_of_ble_eq_true rfl⟩) hw (fun E_ ce_ q9_ u_3x H locs hpx hw hce hcv hcl => ?_) (fun u_3 H locs hp_3 hw => ?_)
  · skip
    obtain ⟨hpx, rfl⟩ := hpx
    exact vx_out (fun x hx9 => absurd (hxt x hx9) id) hlocks hce hcv hcl (fun t ht9 hA9 => ⟨(), (fun z => hpx (q_rngs.mp (q_tb0.mp z))), ⟨rfl, m_wo_out hw ht9 hA9⟩, m_wo_F hw ht9⟩) (m_wo_L hw) (Nat.le_of_ble_eq_true rfl) (Nat.le_of_ble_eq_true rfl)
  have hv : t_b (o_rng v 0 30) = 0 := q_tb0.mpr (q_rngs.mpr hp_3)
  refine lv_aload_n hx hb dX8_weight_6 rfl (lv_at hl 0 rfl) ?_
  refine lv_iload_n hx hb dX8_weight_7 rfl (lv_at hl 1 rfl) ?_
  have hil := q_il (wd := v) hs h12
  have hle : o_has M (L (cd 1)).length (L (cd 0)).length v ≤ (L (cd 0)).length := cntB_le _ _
  refine m_cf (va_runV (As := [.int v]) (rest := []) ⟨hx, hb, hml, hown, hts⟩ (c_X8_weightOf l hok hel9 (q_ps9 hs) (by rw [hil]; exact hne _ hle)) (cwV 1 hts gX8_weight_X8_weightOf rfl rfl rfl (by decide +kernel) ⟨Nat.le_of_ble_eq_true rfl, Nat.le_of_ble_eq_true rfl⟩) ⟨m_blind m_B_calling, m_recv hw (m_ent_9 hok.1) rfl, fun U hU hW => ⟨rfl, m_wo_call hw hU hW⟩⟩ rfl rfl hl.1 rfl (lv_room (Nat.le_of_ble_eq_true rfl)) dX8_weight_8 ⟨Nat.le_of_ble_eq_true rfl, Nat.le_of_ble_eq_true rfl⟩) hw (fun r_8 u_8 H locs hp_8 hw => ?_)
  refine vx_ret ?_
  exact W.fret (v := r_8) hx hb hr (fun t ht hW => ⟨⟨r_8, (), rfl, ⟨hv, hp_8.trans (by rw [hil])⟩, m_wo_out hw ht hW.alike⟩, m_wo_F hw ht⟩) (m_wo_L hw) dX8_weight_11
