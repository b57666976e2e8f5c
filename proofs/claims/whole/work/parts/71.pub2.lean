theorem q_wipe {K : Nat → Nat} {I I' : Nat → Nat → Int32} {R : Nat → Nat → Option Nat} {N : Nat → Nat} {A : Nat → Nat → Int32} {L : Nat → List Nat} {T : Nat → List Int32} {x : Nat} {cd : Nat → Nat} {Z : mZ} {M : mM} (hs : c_sim K I R N A L T x cd Z M) (e : I' = m_up2 I 42 (cd 6) 0) : c_sim K I' R N A L T x cd (z1 Z 29 0) M := by
  obtain ⟨n, ht1, ⟨p1, p2, p3, p4, p5, p6, p7, p8, p9, p10⟩, ht3, ht4⟩ := hs.2.2.2.2.2.2.1
  refine c_sim_typ hs (fun f b h => by rw [e]; exact if_neg h) (fun _ _ _ => rfl) ⟨0, z1_s _ _ _, ⟨p1, p2, p3, p4, p5, p6, p7, by rw [e, m_up2_self]; rfl, Nat.zero_le _, fun k _ h => absurd h (Nat.not_lt_zero _)⟩, fun k h => absurd h (Nat.not_lt_zero _), fun k _ h => absurd h (Nat.not_lt_zero _)⟩ (fun j h => z1_n _ _ h) (fun _ _ _ => rfl)
set_option maxHeartbeats 400000 in
set_option maxRecDepth 100000 in
theorem c_X8_cause (l : Launch) (hnt : l.stackTraces = false) {G : mG} {K : Nat → Nat} {I : Nat → Nat → Int32} {R : Nat → Nat → Option Nat} {F : Nat → UInt32} {A : Nat → Nat → Int32} {N : Nat → Nat} {L : Nat → List Nat} {T : Nat → List Int32} {J : Nat → Nat → Int64} {D : Nat → Nat → UInt64} {o : Nat} {cd : Nat → Nat} {Z : Nat → Int32} {M : Nat → Nat → Int32} {nn : Int32} (hs : c_sim K I R N A L T o cd Z M) (hch : ∀ k, k < 2 → narrow .char (.int (M 32 k)) = .int (M 32 k)) : vx_Met l yX8_cause wsX8_cause ({ frames := 9, cells := 1, slots := 6, locals := 260 } : Room) (va_Pc [.ref o, .int nn] (fun U => m_B G K I R F A N L T J D U ∧ c_str U)) (va_Qi (fun (r : Int32) (_ : Unit) => t_b (o_rng nn 0 (Z 31 - 1)) = 0 ∧ r = M 32 nn.toNatClampNeg) (fun u : Unit => m_B G K I R F A N L T J D) (m_A G)) (vx_X (fun (u : Unit) => ¬ t_b (o_rng nn 0 (Z 31 - 1)) = 0) (fun E (u : Unit) t => E = "java/util/NoSuchElementException" ∧ m_B G K I R F A N L T J D t) (m_A G)) 1 6 (m_A G) := by
  refine vx_ofW (cc := cX8_cause) (maxL := 2) (ret := (some .char)) (by decide) rfl ?_
  intro p e s m args below meth c s₁ B hml hxt hv
  obtain ⟨rfl, hB, hcs⟩ := hv
  have hx := B.exec
  have hb := B.bytes
  have hr := B.returns
  have hts := atoms_spec (ws := wsX8_cause) B.pre
  have hown : s.vm.findClass RX8 = some m.cls := findClass_of_methodNamed B.named
  have hlocks := B.notSynchronized
  have hw := m_wo_in hB
  have hl := lv_entry ([.ref o, .int nn]) (n := 2) (Nat.le_of_ble_eq_true rfl)
  rw [lg_entry_eq]
  generalize (lg_sl ([.ref o, .int nn]) ++ List.replicate (2 - (lg_sl ([.ref o, .int nn])).length) Slot.unset).toArray = ls at hl ⊢
  have hl : lv_has ls 2 [(0, .ref o), (1, .int nn)] := hl
  have hok := hs.1
  have hel0 := q_el0 hs
  have hel1 := q_el1 hs
  have hel5 := q_el5 hs
  have hel7 := q_el7 hs
  have hel9 := q_el9 hs
  have hcn : ∀ v, o_rng v 0 (Z 31 - 1) = true ↔ ∃ i, i < (T (cd 7)).length ∧ v = nI i := fun v => q_rng hs.2.2.2.2.2.2.2.1.1 (by have := hs.2.2.2.2.2.2.2.1.2.1; omega)
  have ht2 := hs.2.2.2.2.2.2.2.1.2.1
  refine lv_iload_n hx hb dX8_cause_0 rfl (lv_at hl 1 rfl) ?_
  refine lv_if_lt (tgt := 15) hx hb dX8_cause_1 (by decide) (fun c_1 => ?_) (fun c_1 => ?_)
  · skip
    have hbad : ¬ ∃ i, i < (T (cd 7)).length ∧ nn = nI i := fun ⟨i, h1, h2⟩ => nI_pos (show i < 2 ^ 31 by omega) (by rw [← h2]; exact c_1)
    obtain ⟨sa, hsa⟩ := hcs.1 (318, "no such cause") (by decide)
    refine vx_throw13W (names := ["java/lang/RuntimeException", "java/lang/Exception"]) hx hb hnt hown (by decide) (by decide) (hts (.classLink RX8 140 "java/util/NoSuchElementException") (by decide +kernel)) (hts (.initialized "java/util/NoSuchElementException") (by decide +kernel)) hsa (vx_hat (B := .castable "java/util/NoSuchElementException" "java/util/NoSuchElementException" :: [.declares (Bundle.initS "java/lang/RuntimeException"), .declares (Bundle.initS "java/lang/Exception"), .declares (Bundle.initS Bundle.tN)]) (fun w h => hts w ((by decide +kernel : ∀ w ∈ (vx_at13 RX8 144 "java/util/NoSuchElementException" ["java/lang/RuntimeException", "java/lang/Exception"]).filter goodWord, w ∈ wsX8_cause) w h)) (by decide +kernel) (vx_c (m_wo_cas hw (by decide)) (c_str_dc hcs))) (by decide +kernel) hw.2.1.1 hw.2.1.2.1 hw.2.2.2.1 (hl.1.trans hml.symm) dX8_cause_15 dX8_cause_18 dX8_cause_19 dX8_cause_22 dX8_cause_25 (fun x hx9 => absurd (hxt x hx9) id) (Nat.le_of_ble_eq_true rfl) (Nat.le_of_ble_eq_true rfl) (Nat.le_of_ble_eq_true rfl) (Nat.le_of_ble_eq_true rfl) hlocks (fun t hA9 hs9 hq9 => ⟨(), (fun z => hbad ((hcn _).mp (q_tb0.mp z))), ⟨rfl, m_wo_up hw hA9 hs9 hq9⟩, m_wo_uF hw hs9 hq9⟩) (m_wo_L hw) (Nat.le_of_ble_eq_true rfl) (Nat.le_of_ble_eq_true rfl)
  · skip
    obtain ⟨i, hi31, rfl⟩ := nI_of c_1
    refine lv_iload_n hx hb dX8_cause_4 rfl (lv_at hl 1 rfl) ?_
    refine lv_aload_n hx hb dX8_cause_5 rfl (lv_at hl 0 rfl) ?_
    refine g_9_7 (r := some (cd 7)) hx hb hts (by decide +kernel) hown hw hok.1 (hts (.fieldLink RX8 53 "Pirateindex" "causeRow" "Ljava/lang/StringBuilder;") (by decide +kernel)) hok.2.2.2.2.2.2.2.2.1 dX8_cause_6 ?_
    refine m_ci (va_runV (As := []) (rest := [.int (nI i)]) ⟨hx, hb, hml, hown, hts⟩ (c_J4_length_8abf5 l hok.2.2.2.2.2.2.2.2.2.2.2.2.2.2.2.2.2.1) (cwV 0 hts gX8_cause_J4_length_8abf5 rfl rfl rfl (by decide +kernel) ⟨Nat.le_of_ble_eq_true rfl, Nat.le_of_ble_eq_true rfl⟩) ⟨m_blind m_B_calling, m_recv hw (m_ent_12 hok.2.2.2.2.2.2.2.2.2.2.2.2.2.2.2.2.2.1) rfl, fun U hU hW => ⟨rfl, m_wo_call hw hU hW⟩⟩ rfl rfl hl.1 rfl (lv_room (Nat.le_of_ble_eq_true rfl)) dX8_cause_9 ⟨Nat.le_of_ble_eq_true rfl, Nat.le_of_ble_eq_true rfl⟩) hw (fun r_9 u_9 H locs hp_9 hw => ?_)
    obtain rfl : r_9 = nI (T (cd 7)).length := hp_9
    refine lv_icmp_lt (tgt := 26) hx hb dX8_cause_12 (by decide) (fun c_12 => ?_) (fun c_12 => ?_)
    · skip
      have hi : i < (T (cd 7)).length := nI_ltN (by omega) (by omega) c_12
      refine lv_aload_n hx hb dX8_cause_26 rfl (lv_at hl 0 rfl) ?_
      refine g_9_7 (r := some (cd 7)) hx hb hts (by decide +kernel) hown hw hok.1 (hts (.fieldLink RX8 53 "Pirateindex" "causeRow" "Ljava/lang/StringBuilder;") (by decide +kernel)) hok.2.2.2.2.2.2.2.2.1 dX8_cause_27 ?_
      refine lv_iload_n hx hb dX8_cause_30 rfl (lv_at hl 1 rfl) ?_
      refine m_ci (va_runV (As := [.int (nI i)]) (rest := []) ⟨hx, hb, hml, hown, hts⟩ (c_J4_charAt_5068e l hok.2.2.2.2.2.2.2.2.2.2.2.2.2.2.2.2.2.1 hok.2.2.2.2.2.2.2.2.2.2.2.2.2.2.2.2.2.2.2.2.2.2.2.2.2.2.2.2.2.2.2.2.2.2.2.2.2.2.2.2.2.1 hi) (cwV 1 hts gX8_cause_J4_charAt_5068e rfl rfl rfl (by decide +kernel) ⟨Nat.le_of_ble_eq_true rfl, Nat.le_of_ble_eq_true rfl⟩) ⟨m_blind m_B_calling, m_recv hw (m_ent_12 hok.2.2.2.2.2.2.2.2.2.2.2.2.2.2.2.2.2.1) rfl, fun U hU hW => ⟨rfl, m_wo_call hw hU hW⟩⟩ rfl rfl hl.1 rfl (lv_room (Nat.le_of_ble_eq_true rfl)) dX8_cause_31 ⟨Nat.le_of_ble_eq_true rfl, Nat.le_of_ble_eq_true rfl⟩) hw (fun r_31 u_31 H locs hp_31 hw => ?_)
      obtain rfl : r_31 = M 32 i := hs.2.2.2.2.2.2.2.1.2.2 i _ hp_31
      refine vx_ret ?_
      refine W.widen (k := 1) (n := 6) (by omega) (by omega) ?_
      exact W.zret (v := (M 32 i)) hx hb hr (hch i (by omega)) (fun t ht hW => ⟨⟨(M 32 i), (), rfl, ⟨q_tb0.mpr ((hcn _).mpr ⟨i, hi, rfl⟩), by rw [nI_clamp hi31]⟩, m_wo_out hw ht hW.alike⟩, m_wo_F hw ht⟩) (m_wo_L hw) dX8_cause_34
    · skip
      have hbad : ¬ ∃ j, j < (T (cd 7)).length ∧ nI i = nI j := fun ⟨j, h1, h2⟩ => c_12 (by rw [h2]; exact (nI_ltI (by omega) (by omega)).mpr h1)
      obtain ⟨sa, hsa⟩ := hcs.1 (318, "no such cause") (by decide)
      refine vx_throw13W (names := ["java/lang/RuntimeException", "java/lang/Exception"]) hx hb hnt hown (by decide) (by decide) (hts (.classLink RX8 140 "java/util/NoSuchElementException") (by decide +kernel)) (hts (.initialized "java/util/NoSuchElementException") (by decide +kernel)) hsa (vx_hat (B := .castable "java/util/NoSuchElementException" "java/util/NoSuchElementException" :: [.declares (Bundle.initS "java/lang/RuntimeException"), .declares (Bundle.initS "java/lang/Exception"), .declares (Bundle.initS Bundle.tN)]) (fun w h => hts w ((by decide +kernel : ∀ w ∈ (vx_at13 RX8 144 "java/util/NoSuchElementException" ["java/lang/RuntimeException", "java/lang/Exception"]).filter goodWord, w ∈ wsX8_cause) w h)) (by decide +kernel) (vx_c (m_wo_cas hw (by decide)) (c_str_dc hcs))) (by decide +kernel) hw.2.1.1 hw.2.1.2.1 hw.2.2.2.1 (hl.1.trans hml.symm) dX8_cause_15 dX8_cause_18 dX8_cause_19 dX8_cause_22 dX8_cause_25 (fun x hx9 => absurd (hxt x hx9) id) (Nat.le_of_ble_eq_true rfl) (Nat.le_of_ble_eq_true rfl) (Nat.le_of_ble_eq_true rfl) (Nat.le_of_ble_eq_true rfl) hlocks (fun t hA9 hs9 hq9 => ⟨(), (fun z => hbad ((hcn _).mp (q_tb0.mp z))), ⟨rfl, m_wo_up hw hA9 hs9 hq9⟩, m_wo_uF hw hs9 hq9⟩) (m_wo_L hw) (Nat.le_of_ble_eq_true rfl) (Nat.le_of_ble_eq_true rfl)
set_option maxHeartbeats 400000 in
set_option maxRecDepth 100000 in
theorem c_X8_segment (l : Launch) (hnt : l.stackTraces = false) {G : mG} {K : Nat → Nat} {I : Nat → Nat → Int32} {R : Nat → Nat → Option Nat} {F : Nat → UInt32} {A : Nat → Nat → Int32} {N : Nat → Nat} {L : Nat → List Nat} {T : Nat → List Int32} {J : Nat → Nat → Int64} {D : Nat → Nat → UInt64} {o : Nat} {cd : Nat → Nat} {Z : Nat → Int32} {M : Nat → Nat → Int32} {nn : Int32} (hs : c_sim K I R N A L T o cd Z M) : vx_Met l yX8_segment wsX8_segment ({ frames := 9, cells := 1, slots := 6, locals := 260 } : Room) (va_Pc [.ref o, .int nn] (fun U => m_B G K I R F A N L T J D U ∧ c_str U)) (va_Qi (fun (r : Int32) (_ : Unit) => t_segment Z nn = 0 ∧ r = M 17 nn.toNatClampNeg) (fun u : Unit => m_B G K I R F A N L T J D) (m_A G)) (vx_X (fun (u : Unit) => ¬ t_segment Z nn = 0) (fun E (u : Unit) t => E = "java/util/NoSuchElementException" ∧ m_B G K I R F A N L T J D t) (m_A G)) 1 6 (m_A G) := by
  refine vx_ofW (cc := cX8_segment) (maxL := 2) (ret := (some .int)) (by decide) rfl ?_
  intro p e s m args below meth c s₁ B hml hxt hv
  obtain ⟨rfl, hB, hcs⟩ := hv
  have hx := B.exec
  have hb := B.bytes
  have hr := B.returns
  have hts := atoms_spec (ws := wsX8_segment) B.pre
  have hown : s.vm.findClass RX8 = some m.cls := findClass_of_methodNamed B.named
  have hlocks := B.notSynchronized
  have hw := m_wo_in hB
  have hl := lv_entry ([.ref o, .int nn]) (n := 2) (Nat.le_of_ble_eq_true rfl)
  rw [lg_entry_eq]
  generalize (lg_sl ([.ref o, .int nn]) ++ List.replicate (2 - (lg_sl ([.ref o, .int nn])).length) Slot.unset).toArray = ls at hl ⊢
  have hl : lv_has ls 2 [(0, .ref o), (1, .int nn)] := hl
  have hok := hs.1
  have hel0 := q_el0 hs
  have hel1 := q_el1 hs
  have hel5 := q_el5 hs
  have hel7 := q_el7 hs
  have hel9 := q_el9 hs
  have hcn : ∀ v, t_segment Z v = 0 ↔ ∃ i, i < (L (cd 10)).length ∧ v = nI i := fun v => (q_tb0 (b := o_rng v 0 (Z 3 - 1))).trans (q_rng hs.2.2.2.2.1.1 (by have := hs.2.2.2.2.1.2.1; omega))
  have ht2 := hs.2.2.2.2.1.2.1
  refine lv_iload_n hx hb dX8_segment_0 rfl (lv_at hl 1 rfl) ?_
  refine lv_if_lt (tgt := 18) hx hb dX8_segment_1 (by decide) (fun c_1 => ?_) (fun c_1 => ?_)
  · skip
    have hbad : ¬ ∃ i, i < (L (cd 10)).length ∧ nn = nI i := fun ⟨i, h1, h2⟩ => nI_pos (show i < 2 ^ 31 by omega) (by rw [← h2]; exact c_1)
    obtain ⟨sa, hsa⟩ := hcs.1 (142, "no such segment") (by decide)
    refine vx_throw13 (names := ["java/lang/RuntimeException", "java/lang/Exception"]) hx hb hnt hown (by decide) (by decide) (hts (.classLink RX8 140 "java/util/NoSuchElementException") (by decide +kernel)) (hts (.initialized "java/util/NoSuchElementException") (by decide +kernel)) hsa (vx_hat (B := .castable "java/util/NoSuchElementException" "java/util/NoSuchElementException" :: [.declares (Bundle.initS "java/lang/RuntimeException"), .declares (Bundle.initS "java/lang/Exception"), .declares (Bundle.initS Bundle.tN)]) (fun w h => hts w ((by decide +kernel : ∀ w ∈ (vx_at13 RX8 144 "java/util/NoSuchElementException" ["java/lang/RuntimeException", "java/lang/Exception"]).filter goodWord, w ∈ wsX8_segment) w h)) (by decide +kernel) (vx_c (m_wo_cas hw (by decide)) (c_str_dc hcs))) (by decide +kernel) hw.2.1.1 hw.2.1.2.1 hw.2.2.2.1 (hl.1.trans hml.symm) dX8_segment_18 dX8_segment_21 dX8_segment_22 dX8_segment_24 dX8_segment_27 (fun x hx9 => absurd (hxt x hx9) id) (Nat.le_of_ble_eq_true rfl) (Nat.le_of_ble_eq_true rfl) (Nat.le_of_ble_eq_true rfl) (Nat.le_of_ble_eq_true rfl) hlocks (fun t hA9 hs9 hq9 => ⟨(), (fun z => hbad ((hcn _).mp z)), ⟨rfl, m_wo_up hw hA9 hs9 hq9⟩, m_wo_uF hw hs9 hq9⟩) (m_wo_L hw) (Nat.le_of_ble_eq_true rfl) (Nat.le_of_ble_eq_true rfl)
  · skip
    obtain ⟨i, hi31, rfl⟩ := nI_of c_1
    refine lv_iload_n hx hb dX8_segment_4 rfl (lv_at hl 1 rfl) ?_
    refine lv_aload_n hx hb dX8_segment_5 rfl (lv_at hl 0 rfl) ?_
    refine g_9_4 (r := some (cd 4)) hx hb hts (by decide +kernel) hown hw hok.1 (hts (.fieldLink RX8 36 "Pirateindex" "shelf" "LPirateindex$Shelf;") (by decide +kernel)) hok.2.2.2.2.2.1 dX8_segment_6 ?_
    refine g_6_0 (r := some (cd 10)) hx hb hts (by decide +kernel) hown hw hok.2.2.2.2.2.2.2.2.2.2.2.2.2.2.1 (hts (.fieldLink RX8 137 "Pirateindex$Shelf" "row" "Ljava/util/ArrayList;") (by decide +kernel)) hok.2.2.2.2.2.2.2.2.2.2.2.2.2.2.2.2.2.2.2.2.2.2.2.2.2.2.1 dX8_segment_9 ?_
    refine m_ci (va_runV (As := []) (rest := [.int (nI i)]) ⟨hx, hb, hml, hown, hts⟩ (c_Jx4a65c_size_8abf5 l hok.2.2.2.2.2.2.2.2.2.2.2.2.2.2.2.2.2.2.2.2.1) (cwV 0 hts gX8_segment_Jx4a65c_size_8abf5 rfl rfl rfl (by decide +kernel) ⟨Nat.le_of_ble_eq_true rfl, Nat.le_of_ble_eq_true rfl⟩) ⟨m_blind m_B_calling, m_recv hw (m_ent_11 hok.2.2.2.2.2.2.2.2.2.2.2.2.2.2.2.2.2.2.2.2.1) rfl, fun U hU hW => ⟨rfl, m_wo_call hw hU hW⟩⟩ rfl rfl hl.1 rfl (lv_room (Nat.le_of_ble_eq_true rfl)) dX8_segment_12 ⟨Nat.le_of_ble_eq_true rfl, Nat.le_of_ble_eq_true rfl⟩) hw (fun r_12 u_12 H locs hp_12 hw => ?_)
    obtain rfl : r_12 = (nI (L (cd 10)).length) := hp_12
    refine lv_icmp_lt (tgt := 28) hx hb dX8_segment_15 (by decide) (fun c_15 => ?_) (fun c_15 => ?_)
    · skip
      have hi : i < (L (cd 10)).length := nI_ltN (by omega) (by omega) c_15
      refine lv_aload_n hx hb dX8_segment_28 rfl (lv_at hl 0 rfl) ?_
      refine g_9_4 (r := some (cd 4)) hx hb hts (by decide +kernel) hown hw hok.1 (hts (.fieldLink RX8 36 "Pirateindex" "shelf" "LPirateindex$Shelf;") (by decide +kernel)) hok.2.2.2.2.2.1 dX8_segment_29 ?_
      refine g_6_0 (r := some (cd 10)) hx hb hts (by decide +kernel) hown hw hok.2.2.2.2.2.2.2.2.2.2.2.2.2.2.1 (hts (.fieldLink RX8 137 "Pirateindex$Shelf" "row" "Ljava/util/ArrayList;") (by decide +kernel)) hok.2.2.2.2.2.2.2.2.2.2.2.2.2.2.2.2.2.2.2.2.2.2.2.2.2.2.1 dX8_segment_32 ?_
      refine lv_iload_n hx hb dX8_segment_35 rfl (lv_at hl 1 rfl) ?_
      obtain ⟨ai, ha⟩ : ∃ z, (L (cd 10))[i]? = some z := ⟨_, lg_some hi⟩
      have hka : K ai = 5 := hel5 ai (List.mem_of_getElem? ha)
      refine m_cq (va_runV (As := [.int (nI i)]) (rest := []) ⟨hx, hb, hml, hown, hts⟩ (c_Jx4a65c_get_915e3 l hok.2.2.2.2.2.2.2.2.2.2.2.2.2.2.2.2.2.2.2.2.1 hi) (cwV 1 hts gX8_segment_Jx4a65c_get_915e3 rfl rfl rfl (by decide +kernel) ⟨Nat.le_of_ble_eq_true rfl, Nat.le_of_ble_eq_true rfl⟩) ⟨m_blind m_B_calling, m_recv hw (m_ent_11 hok.2.2.2.2.2.2.2.2.2.2.2.2.2.2.2.2.2.2.2.2.1) rfl, fun U hU hW => ⟨rfl, m_wo_call hw hU hW⟩⟩ rfl rfl hl.1 rfl (lv_room (Nat.le_of_ble_eq_true rfl)) dX8_segment_36 ⟨Nat.le_of_ble_eq_true rfl, Nat.le_of_ble_eq_true rfl⟩) hw (fun r_36 u_36 H locs hp_36 hw => ?_)
      obtain rfl : r_36 = some ai := hp_36.trans ha
      refine va_castS hx hb hown (hts (.classLink RX8 145 "Pirateindex$Segment") (by decide +kernel)) (hw.1.1 9 _ rfl).2 (m_recv hw (m_ent_5 hka) rfl) dX8_segment_39 ?_
      refine g_5_0 hx hb hts (by decide +kernel) hown hw hka (hts (.fieldLink RX8 147 "Pirateindex$Segment" "number" "I") (by decide +kernel)) dX8_segment_42 ?_
      refine vx_ret ?_
      refine W.widen (k := 1) (n := 6) (by omega) (by omega) ?_
      exact W.iret (v := (I 50 ai)) hx hb hr (fun t ht hW => ⟨⟨(I 50 ai), (), rfl, ⟨(hcn _).mpr ⟨i, hi, rfl⟩, by rw [nI_clamp hi31]; exact (hs.2.2.2.2.1.2.2.1 i ai ha).2.1⟩, m_wo_out hw ht hW.alike⟩, m_wo_F hw ht⟩) (m_wo_L hw) dX8_segment_45
    · skip
      have hbad : ¬ ∃ j, j < (L (cd 10)).length ∧ nI i = nI j := fun ⟨j, h1, h2⟩ => c_15 (by rw [h2]; exact (nI_ltI (by omega) (by omega)).mpr h1)
      obtain ⟨sa, hsa⟩ := hcs.1 (142, "no such segment") (by decide)
      refine vx_throw13 (names := ["java/lang/RuntimeException", "java/lang/Exception"]) hx hb hnt hown (by decide) (by decide) (hts (.classLink RX8 140 "java/util/NoSuchElementException") (by decide +kernel)) (hts (.initialized "java/util/NoSuchElementException") (by decide +kernel)) hsa (vx_hat (B := .castable "java/util/NoSuchElementException" "java/util/NoSuchElementException" :: [.declares (Bundle.initS "java/lang/RuntimeException"), .declares (Bundle.initS "java/lang/Exception"), .declares (Bundle.initS Bundle.tN)]) (fun w h => hts w ((by decide +kernel : ∀ w ∈ (vx_at13 RX8 144 "java/util/NoSuchElementException" ["java/lang/RuntimeException", "java/lang/Exception"]).filter goodWord, w ∈ wsX8_segment) w h)) (by decide +kernel) (vx_c (m_wo_cas hw (by decide)) (c_str_dc hcs))) (by decide +kernel) hw.2.1.1 hw.2.1.2.1 hw.2.2.2.1 (hl.1.trans hml.symm) dX8_segment_18 dX8_segment_21 dX8_segment_22 dX8_segment_24 dX8_segment_27 (fun x hx9 => absurd (hxt x hx9) id) (Nat.le_of_ble_eq_true rfl) (Nat.le_of_ble_eq_true rfl) (Nat.le_of_ble_eq_true rfl) (Nat.le_of_ble_eq_true rfl) hlocks (fun t hA9 hs9 hq9 => ⟨(), (fun z => hbad ((hcn _).mp z)), ⟨rfl, m_wo_up hw hA9 hs9 hq9⟩, m_wo_uF hw hs9 hq9⟩) (m_wo_L hw) (Nat.le_of_ble_eq_true rfl) (Nat.le_of_ble_eq_true rfl)
set_option maxHeartbeats 400000 in
set_option maxRecDepth 100000 in
theorem c_X8_segmentOf (l : Launch) (hnt : l.stackTraces = false) {G : mG} {K : Nat → Nat} {I : Nat → Nat → Int32} {R : Nat → Nat → Option Nat} {F : Nat → UInt32} {A : Nat → Nat → Int32} {N : Nat → Nat} {L : Nat → List Nat} {T : Nat → List Int32} {J : Nat → Nat → Int64} {D : Nat → Nat → UInt64} {o : Nat} {cd : Nat → Nat} {Z : Nat → Int32} {M : Nat → Nat → Int32} {nn : Int32} (hs : c_sim K I R N A L T o cd Z M) : vx_Met l yX8_segmentOf wsX8_segmentOf ({ frames := 9, cells := 2, slots := 12, locals := 260 } : Room) (va_Pc [.ref o, .int nn] (fun U => m_B G K I R F A N L T J D U ∧ c_str U)) (va_Qi (fun (r : Int32) (_ : Unit) => t_segmentOf Z M nn = 0 ∧ r = M 14 nn.toNatClampNeg) (fun u : Unit => m_B G K I R F A N L T J D) (m_A G)) (vx_X (fun (u : Unit) => ¬ t_segmentOf Z M nn = 0) (fun E (u : Unit) t => E = (if t_segmentOf Z M nn = 1 then "java/lang/IndexOutOfBoundsException" else "java/util/NoSuchElementException") ∧ m_B G K I R F A N L T J D t) (m_A G)) 2 12 (m_A G) := by
  refine vx_ofW (cc := cX8_segmentOf) (maxL := 3) (ret := (some .int)) (by decide) rfl ?_
  intro p e s m args below meth c s₁ B hml hxt hv
  obtain ⟨rfl, hB, hcs⟩ := hv
  have hx := B.exec
  have hb := B.bytes
  have hr := B.returns
  have hts := atoms_spec (ws := wsX8_segmentOf) B.pre
  have hown : s.vm.findClass RX8 = some m.cls := findClass_of_methodNamed B.named
  have hlocks := B.notSynchronized
  have hw := m_wo_in hB
  have hl := lv_entry ([.ref o, .int nn]) (n := 3) (Nat.le_of_ble_eq_true rfl)
  rw [lg_entry_eq]
  generalize (lg_sl ([.ref o, .int nn]) ++ List.replicate (3 - (lg_sl ([.ref o, .int nn])).length) Slot.unset).toArray = ls at hl ⊢
  have hl : lv_has ls 3 [(0, .ref o), (1, .int nn)] := hl
  have hok := hs.1
  have hel0 := q_el0 hs
  have hel1 := q_el1 hs
  have hel5 := q_el5 hs
  have hel7 := q_el7 hs
  have hel9 := q_el9 hs
  refine lv_aload_n hx hb dX8_segmentOf_0 rfl (lv_at hl 0 rfl) ?_
  refine lv_iload_n hx hb dX8_segmentOf_1 rfl (lv_at hl 1 rfl) ?_
  refine m_xq (vx_runV (As := [.int nn]) (rest := []) ⟨hx, hb, hml, hown, hts⟩ (c_X8_findNumbered l hnt hok hel1) (cwV 1 hts gX8_segmentOf_X8_findNumbered rfl rfl rfl (by decide +kernel) ⟨Nat.le_of_ble_eq_true rfl, Nat.le_of_ble_eq_true rfl⟩) ⟨m_blind (fun U g mk a h => ⟨m_B_calling U g mk a h.1, c_str_calling U g mk a h.2⟩), m_recv hw (m_ent_9 hok.1) rfl, fun U hU hW => ⟨rfl, m_wo_call hw hU hW, c_str_warm hW hcs⟩⟩ rfl rfl hl.1 rfl (lv_room (Nat.le_of_ble_eq_true rfl)) dX8_segmentOf_2 ⟨Nat.le_of_ble_eq_true rfl, Nat.le_of_ble_eq_true rfl⟩) hw (fun E_ ce_ q9_ u_2x H locs hpx hw hce hcv hcl => ?_) (fun r_2 u_2 H locs hp_2 hw => ?_)
  · skip
    obtain ⟨hpx, rfl⟩ := hpx
    exact vx_out (fun x hx9 => absurd (hxt x hx9) id) hlocks hce hcv hcl (fun t ht9 hA9 => ⟨(), (by unfold t_segmentOf; rw [if_neg (fun z => hpx ((q_fnd_nm hs nn).mp z))]; decide), ⟨(by unfold t_segmentOf; rw [if_neg (fun z => hpx ((q_fnd_nm hs nn).mp z))]; rfl), m_wo_out hw ht9 hA9⟩, m_wo_F hw ht9⟩) (m_wo_L hw) (Nat.le_of_ble_eq_true rfl) (Nat.le_of_ble_eq_true rfl)
  obtain ⟨i, ai, rfl, hi31, ha, rfl⟩ := hp_2
  have hi : i < (L (cd 1)).length := (List.getElem?_eq_some_iff.mp ha).1
  have hka := hel1 ai (List.mem_of_getElem? ha)
  have hv := (q_fnd_nm hs (nI i)).mpr ⟨i, hi, rfl⟩
  have hfl := hs.2.2.1.2.2 i ai ha
  have h15 := hfl.2.2.2.2.2.2.2.2.1
  have hcl : (nI i).toNatClampNeg = i := nI_clamp hi31
  refine g_1_5 (r := (R 15 ai)) hx hb hts (by decide +kernel) hown hw hka (hts (.fieldLink RX8 205 "Pirateindex$Find" "segment" "LPirateindex$Segment;") (by decide +kernel)) rfl dX8_segmentOf_5 ?_
  refine m_astore_nQ (lv' := [(2, va_rf (R 15 ai)), (0, .ref o), (1, .int (nI i))]) hx hb dX8_segmentOf_8 rfl hl (by decide) rfl (fun ls hl => ?_)
  refine m_aload_nQ hx hb dX8_segmentOf_9 rfl (lv_at hl 0 rfl) ?_
  refine m_ifnonnullQ (tgt := 23) hx hb dX8_segmentOf_10 (by decide) (fun c_10 => ?_) (fun z_10 c_10 => ?_)
  · skip
    rw [c_10] at hl
    have hl : lv_has ls 3 [(2, .null), (0, .ref o), (1, .int (nI i))] := hl
    have h14 : M 14 i = -1 := hfl.2.2.2.2.2.2.2.2.2.1.elim id (fun z => absurd c_10 z)
    have htz : t_segmentOf Z M (nI i) = 2 := by unfold t_segmentOf; rw [if_pos hv, hcl, if_pos h14]
    obtain ⟨sa, hsa⟩ := hcs.1 (209, "the find is in no segment") (by decide)
    refine vx_throw13 (names := ["java/lang/RuntimeException", "java/lang/Exception"]) hx hb hnt hown (by decide) (by decide) (hts (.classLink RX8 140 "java/util/NoSuchElementException") (by decide +kernel)) (hts (.initialized "java/util/NoSuchElementException") (by decide +kernel)) hsa (vx_hat (B := .castable "java/util/NoSuchElementException" "java/util/NoSuchElementException" :: [.declares (Bundle.initS "java/lang/RuntimeException"), .declares (Bundle.initS "java/lang/Exception"), .declares (Bundle.initS Bundle.tN)]) (fun w h => hts w ((by decide +kernel : ∀ w ∈ (vx_at13 RX8 144 "java/util/NoSuchElementException" ["java/lang/RuntimeException", "java/lang/Exception"]).filter goodWord, w ∈ wsX8_segmentOf) w h)) (by decide +kernel) (vx_c (m_wo_cas hw (by decide)) (c_str_dc hcs))) (by decide +kernel) hw.2.1.1 hw.2.1.2.1 hw.2.2.2.1 (hl.1.trans hml.symm) dX8_segmentOf_13 dX8_segmentOf_16 dX8_segmentOf_17 dX8_segmentOf_19 dX8_segmentOf_22 (fun x hx9 => absurd (hxt x hx9) id) (Nat.le_of_ble_eq_true rfl) (Nat.le_of_ble_eq_true rfl) (Nat.le_of_ble_eq_true rfl) (Nat.le_of_ble_eq_true rfl) hlocks (fun t hA9 hs9 hq9 => ⟨(), (by rw [htz]; decide), ⟨(by rw [htz]; rfl), m_wo_up hw hA9 hs9 hq9⟩, m_wo_uF hw hs9 hq9⟩) (m_wo_L hw) (Nat.le_of_ble_eq_true rfl) (Nat.le_of_ble_eq_true rfl)
  · skip
    rw [c_10] at hl
    have hl : lv_has ls 3 [(2, .ref z_10), (0, .ref o), (1, .int (nI i))] := hl
    have hg := h15.symm.trans c_10
    have h14 : ¬ M 14 i = -1 := fun z => by unfold q_sgo at hg; rw [if_pos z] at hg; exact absurd hg (by simp)
    have htz : t_segmentOf Z M (nI i) = 0 := by unfold t_segmentOf; rw [if_pos hv, hcl, if_neg h14]
    have hgm : z_10 ∈ L (cd 10) := q_seg_in hs (List.mem_of_getElem? ha) c_10
    have hkz := hel5 z_10 hgm
    have h50 : I 50 z_10 = M 14 i := by unfold q_sgo at hg; rw [if_neg h14] at hg; exact of_decide_eq_true (List.find?_some (p := fun b => decide (I 50 b = M 14 i)) hg)
    refine lv_aload_n hx hb dX8_segmentOf_23 rfl (lv_at hl 0 rfl) ?_
    refine g_5_0 hx hb hts (by decide +kernel) hown hw hkz (hts (.fieldLink RX8 147 "Pirateindex$Segment" "number" "I") (by decide +kernel)) dX8_segmentOf_24 ?_
    refine vx_ret ?_
    refine W.widen (k := 2) (n := 12) (by omega) (by omega) ?_
    exact W.iret (v := (I 50 z_10)) hx hb hr (fun t ht hW => ⟨⟨(I 50 z_10), (), rfl, ⟨htz, by rw [hcl]; exact h50⟩, m_wo_out hw ht hW.alike⟩, m_wo_F hw ht⟩) (m_wo_L hw) dX8_segmentOf_27
set_option maxHeartbeats 400000 in
set_option maxRecDepth 100000 in
theorem c_X8_wipe (l : Launch) {G : mG} {K : Nat → Nat} {I : Nat → Nat → Int32} {R : Nat → Nat → Option Nat} {F : Nat → UInt32} {A : Nat → Nat → Int32} {N : Nat → Nat} {L : Nat → List Nat} {T : Nat → List Int32} {J : Nat → Nat → Int64} {D : Nat → Nat → UInt64} {o : Nat} {cd : Nat → Nat} {Z : Nat → Int32} {M : Nat → Nat → Int32}  (hs : c_sim K I R N A L T o cd Z M) : Met l yX8_wipe wsX8_wipe ({ frames := 3, cells := 0, slots := 0, locals := 80 } : Room) (va_Pc [.ref o] (m_B G K I R F A N L T J D)) (va_Qi (fun (r : Int32) (u : Nat → Nat → Int32) => r = Z 29 ∧ c_sim K u R N A L T o cd (z1 Z 29 0) M ∧ c_fr K I R N A K u R N A) (fun u : Nat → Nat → Int32 => m_B G K u R F A N L T J D) (m_A G)) 0 0 (m_A G) := by
  refine Met.ofW (cc := cX8_wipe) (maxL := 2) (ret := (some .int)) (by decide) rfl ?_
  intro p e s m args below meth c s₁ B hml hv
  obtain ⟨rfl, hB⟩ := hv
  have hx := B.exec
  have hb := B.bytes
  have hr := B.returns
  have hts := atoms_spec (ws := wsX8_wipe) B.pre
  have hown : s.vm.findClass RX8 = some m.cls := findClass_of_methodNamed B.named
  have hlocks := B.notSynchronized
  have hw := m_wo_in hB
  have hl := lv_entry ([.ref o]) (n := 2) (Nat.le_of_ble_eq_true rfl)
  rw [lg_entry_eq]
  generalize (lg_sl ([.ref o]) ++ List.replicate (2 - (lg_sl ([.ref o])).length) Slot.unset).toArray = ls at hl ⊢
  have hl : lv_has ls 2 [(0, .ref o)] := hl
  have hok := hs.1
  have hel0 := q_el0 hs
  have hel1 := q_el1 hs
  have hel5 := q_el5 hs
  have hel7 := q_el7 hs
  have hel9 := q_el9 hs
  obtain ⟨n, ht1, ht2, ht3, ht4⟩ := hs.2.2.2.2.2.2.1
  refine lv_aload_n hx hb dX8_wipe_0 rfl (lv_at hl 0 rfl) ?_
  refine g_9_6 (r := some (cd 6)) hx hb hts (by decide +kernel) hown hw hok.1 (hts (.fieldLink RX8 46 "Pirateindex" "typed" "LPirateindex$Phrase;") (by decide +kernel)) hok.2.2.2.2.2.2.2.1 dX8_wipe_1 ?_
  refine g_4_2 hx hb hts (by decide +kernel) hown hw hok.2.2.2.2.2.2.2.2.2.2.2.2.2.2.2.2.1 (hts (.fieldLink RX8 227 "Pirateindex$Phrase" "length" "I") (by decide +kernel)) dX8_wipe_4 ?_
  rw [(ht2.2.2.2.2.2.2.2.1.trans ht1.symm)]
  refine lv_istore_n (lv' := [(1, .int (Z 29)), (0, .ref o)]) hx hb dX8_wipe_7 rfl hl (by decide) rfl (fun ls hl => ?_)
  refine lv_aload_n hx hb dX8_wipe_8 rfl (lv_at hl 1 rfl) ?_
  refine g_9_6 (r := some (cd 6)) hx hb hts (by decide +kernel) hown hw hok.1 (hts (.fieldLink RX8 46 "Pirateindex" "typed" "LPirateindex$Phrase;") (by decide +kernel)) hok.2.2.2.2.2.2.2.1 dX8_wipe_9 ?_
  refine m_cv (va_runV (As := []) (rest := []) ⟨hx, hb, hml, hown, hts⟩ (c_X3_clear l hok.2.2.2.2.2.2.2.2.2.2.2.2.2.2.2.2.1) (cwV 0 hts gX8_wipe_X3_clear rfl rfl rfl (by decide +kernel) ⟨Nat.le_of_ble_eq_true rfl, Nat.le_of_ble_eq_true rfl⟩) ⟨m_blind m_B_calling, m_recv hw (m_ent_4 hok.2.2.2.2.2.2.2.2.2.2.2.2.2.2.2.2.1) rfl, fun U hU hW => ⟨rfl, m_wo_call hw hU hW⟩⟩ rfl rfl hl.1 rfl (lv_room (Nat.le_of_ble_eq_true rfl)) dX8_wipe_12 ⟨Nat.le_of_ble_eq_true rfl, Nat.le_of_ble_eq_true rfl⟩) hw (fun u_12 H locs hp_12 hw => ?_)
  have hw : m_wo G K u_12 R F A N L T J D s H locs := hw
  have eI1 := hp_12
  refine lv_iload_n hx hb dX8_wipe_15 rfl (lv_at hl 0 rfl) ?_
  exact W.iret (v := (Z 29)) hx hb hr (fun t ht hW => ⟨⟨(Z 29), u_12, rfl, ⟨rfl, q_wipe hs eI1, c_fr_I (fun f b h => by rw [eI1]; exact m_up2_ni _ _ (by omega))⟩, m_wo_out hw ht hW.alike⟩, m_wo_F hw ht⟩) (m_wo_L hw) dX8_wipe_16
