theorem nI_ltN {i n : Nat} (hi : i < 2 ^ 31) (hn : n < 2 ^ 31) (h : nI i < nI n) : i < n := by
  rcases Nat.lt_or_ge i n with h1 | h1
  · exact h1
  · exact absurd h (Int32.not_lt.mpr ((nI_leI hn hi).mpr h1))
set_option maxHeartbeats 400000 in
set_option maxRecDepth 100000 in
theorem c_X8_requireRange (l : Launch) (hnt : l.stackTraces = false) {G : mG} {K : Nat → Nat} {I : Nat → Nat → Int32} {R : Nat → Nat → Option Nat} {F : Nat → UInt32} {A : Nat → Nat → Int32} {N : Nat → Nat} {L : Nat → List Nat} {T : Nat → List Int32} {J : Nat → Nat → Int64} {D : Nat → Nat → UInt64} {nn la : Int32}  : vx_Met l yX8_requireRange wsX8_requireRange ({ frames := 8, cells := 1, slots := 6, locals := 160 } : Room) (va_Pc [.int nn, .int la] (fun U => m_B G K I R F A N L T J D U ∧ c_str U)) (va_Qv (fun (_ : Unit) => 0 ≤ nn ∧ nn ≤ la) (fun u : Unit => m_B G K I R F A N L T J D) (m_A G)) (vx_X (fun (u : Unit) => ¬ (0 ≤ nn ∧ nn ≤ la)) (fun E (u : Unit) t => E = "java/lang/IllegalArgumentException" ∧ m_B G K I R F A N L T J D t) (m_A G)) 1 6 (m_A G) := by
  refine vx_ofW (cc := cX8_requireRange) (maxL := 2) (ret := none) (by decide) rfl ?_
  intro p e s m args below meth c s₁ B hml hxt hv
  obtain ⟨rfl, hB, hcs⟩ := hv
  have hx := B.exec
  have hb := B.bytes
  have hr := B.returns
  have hts := atoms_spec (ws := wsX8_requireRange) B.pre
  have hown : s.vm.findClass RX8 = some m.cls := findClass_of_methodNamed B.named
  have hlocks := B.notSynchronized
  have hw := m_wo_in hB
  have hl := lv_entry ([.int nn, .int la]) (n := 2) (Nat.le_of_ble_eq_true rfl)
  rw [lg_entry_eq]
  generalize (lg_sl ([.int nn, .int la]) ++ List.replicate (2 - (lg_sl ([.int nn, .int la])).length) Slot.unset).toArray = ls at hl ⊢
  have hl : lv_has ls 2 [(0, .int nn), (1, .int la)] := hl
  refine lv_iload_n hx hb dX8_requireRange_0 rfl (lv_at hl 0 rfl) ?_
  refine lv_if_lt (tgt := 9) hx hb dX8_requireRange_1 (by decide) (fun c_1 => ?_) (fun c_1 => ?_)
  · skip
    have hbad : ¬ (0 ≤ nn ∧ nn ≤ la) := fun h => Int32.lt_irrefl (Int32.lt_of_lt_of_le c_1 h.1)
    obtain ⟨sa, hsa⟩ := hcs.1 (351, "a number is out of range") (by decide)
    refine vx_throwSW (names := ["java/lang/RuntimeException", "java/lang/Exception"]) hx hb hnt hown (by decide) (by decide) (hts (.classLink RX8 155 "java/lang/IllegalArgumentException") (by decide +kernel)) (hts (.initialized "java/lang/IllegalArgumentException") (by decide +kernel)) hsa (vx_hat (B := .castable "java/lang/IllegalArgumentException" "java/lang/IllegalArgumentException" :: [.declares (Bundle.initS "java/lang/RuntimeException"), .declares (Bundle.initS "java/lang/Exception"), .declares (Bundle.initS Bundle.tN)]) (fun w h => hts w ((by decide +kernel : ∀ w ∈ (vx_atS RX8 159 "java/lang/IllegalArgumentException" ["java/lang/RuntimeException", "java/lang/Exception"]).filter goodWord, w ∈ wsX8_requireRange) w h)) (by decide +kernel) (vx_c (m_wo_cas hw (by decide)) (c_str_dc hcs))) (by decide +kernel) hw.2.1.1 hw.2.1.2.1 hw.2.2.2.1 (hl.1.trans hml.symm) dX8_requireRange_9 dX8_requireRange_12 dX8_requireRange_13 dX8_requireRange_16 dX8_requireRange_19 (fun x hx9 => absurd (hxt x hx9) id) (Nat.le_of_ble_eq_true rfl) (Nat.le_of_ble_eq_true rfl) (Nat.le_of_ble_eq_true rfl) (Nat.le_of_ble_eq_true rfl) hlocks (fun t hA9 hs9 hq9 => ⟨(), hbad, ⟨rfl, m_wo_up hw hA9 hs9 hq9⟩, m_wo_uF hw hs9 hq9⟩) (m_wo_L hw) (Nat.le_of_ble_eq_true rfl) (Nat.le_of_ble_eq_true rfl)
  · skip
    have h0 := Int32.not_lt.mp c_1
    refine lv_iload_n hx hb dX8_requireRange_4 rfl (lv_at hl 0 rfl) ?_
    refine lv_iload_n hx hb dX8_requireRange_5 rfl (lv_at hl 1 rfl) ?_
    refine lv_icmp_le (tgt := 20) hx hb dX8_requireRange_6 (by decide) (fun c_6 => ?_) (fun c_6 => ?_)
    · skip
      refine vx_ret ?_
      refine W.widen (k := 1) (n := 6) (by omega) (by omega) ?_
      exact W.vret hx hb hr (fun t ht hW => ⟨⟨(), rfl, ⟨h0, c_6⟩, m_wo_out hw ht hW.alike⟩, m_wo_F hw ht⟩) (m_wo_L hw) dX8_requireRange_20
    · skip
      have hbad : ¬ (0 ≤ nn ∧ nn ≤ la) := fun h => c_6 h.2
      obtain ⟨sa, hsa⟩ := hcs.1 (351, "a number is out of range") (by decide)
      refine vx_throwSW (names := ["java/lang/RuntimeException", "java/lang/Exception"]) hx hb hnt hown (by decide) (by decide) (hts (.classLink RX8 155 "java/lang/IllegalArgumentException") (by decide +kernel)) (hts (.initialized "java/lang/IllegalArgumentException") (by decide +kernel)) hsa (vx_hat (B := .castable "java/lang/IllegalArgumentException" "java/lang/IllegalArgumentException" :: [.declares (Bundle.initS "java/lang/RuntimeException"), .declares (Bundle.initS "java/lang/Exception"), .declares (Bundle.initS Bundle.tN)]) (fun w h => hts w ((by decide +kernel : ∀ w ∈ (vx_atS RX8 159 "java/lang/IllegalArgumentException" ["java/lang/RuntimeException", "java/lang/Exception"]).filter goodWord, w ∈ wsX8_requireRange) w h)) (by decide +kernel) (vx_c (m_wo_cas hw (by decide)) (c_str_dc hcs))) (by decide +kernel) hw.2.1.1 hw.2.1.2.1 hw.2.2.2.1 (hl.1.trans hml.symm) dX8_requireRange_9 dX8_requireRange_12 dX8_requireRange_13 dX8_requireRange_16 dX8_requireRange_19 (fun x hx9 => absurd (hxt x hx9) id) (Nat.le_of_ble_eq_true rfl) (Nat.le_of_ble_eq_true rfl) (Nat.le_of_ble_eq_true rfl) (Nat.le_of_ble_eq_true rfl) hlocks (fun t hA9 hs9 hq9 => ⟨(), hbad, ⟨rfl, m_wo_up hw hA9 hs9 hq9⟩, m_wo_uF hw hs9 hq9⟩) (m_wo_L hw) (Nat.le_of_ble_eq_true rfl) (Nat.le_of_ble_eq_true rfl)
set_option maxHeartbeats 400000 in
set_option maxRecDepth 100000 in
theorem c_X8_isleOf (l : Launch) (hnt : l.stackTraces = false) {G : mG} {K : Nat → Nat} {I : Nat → Nat → Int32} {R : Nat → Nat → Option Nat} {F : Nat → UInt32} {A : Nat → Nat → Int32} {N : Nat → Nat} {L : Nat → List Nat} {T : Nat → List Int32} {J : Nat → Nat → Int64} {D : Nat → Nat → UInt64} {o : Nat} {cd : Nat → Nat} {nn : Int32} (hok : c_ok K R N o cd) (hel : ∀ a, a ∈ L (cd 0) → K a = 3) : vx_Met l yX8_isleOf wsX8_isleOf ({ frames := 8, cells := 1, slots := 6, locals := 160 } : Room) (va_Pc [.ref o, .int nn] (fun U => m_B G K I R F A N L T J D U ∧ c_str U)) (va_Qq (fun (r : Option Nat) (_ : Unit) => ∃ i a, nn = nI i ∧ i < 2 ^ 31 ∧ (L (cd 0))[i]? = some a ∧ r = some a) (fun u : Unit => m_B G K I R F A N L T J D) (m_A G)) (vx_X (fun (u : Unit) => ¬ ∃ i, i < (L (cd 0)).length ∧ nn = nI i) (fun E (u : Unit) t => E = "java/lang/IndexOutOfBoundsException" ∧ m_B G K I R F A N L T J D t) (m_A G)) 1 6 (m_A G) := by
  refine vx_ofW (cc := cX8_isleOf) (maxL := 2) (ret := (some (.object "Pirateindex$Isle"))) (by decide) rfl ?_
  intro p e s m args below meth c s₁ B hml hxt hv
  obtain ⟨rfl, hB, hcs⟩ := hv
  have hx := B.exec
  have hb := B.bytes
  have hr := B.returns
  have hts := atoms_spec (ws := wsX8_isleOf) B.pre
  have hown : s.vm.findClass RX8 = some m.cls := findClass_of_methodNamed B.named
  have hlocks := B.notSynchronized
  have hw := m_wo_in hB
  have hl := lv_entry ([.ref o, .int nn]) (n := 2) (Nat.le_of_ble_eq_true rfl)
  rw [lg_entry_eq]
  generalize (lg_sl ([.ref o, .int nn]) ++ List.replicate (2 - (lg_sl ([.ref o, .int nn])).length) Slot.unset).toArray = ls at hl ⊢
  have hl : lv_has ls 2 [(0, .ref o), (1, .int nn)] := hl
  have hlen := m_len hw hok.2.2.2.2.2.2.2.2.2.2.1
  refine lv_iload_n hx hb dX8_isleOf_0 rfl (lv_at hl 1 rfl) ?_
  refine lv_if_lt (tgt := 15) hx hb dX8_isleOf_1 (by decide) (fun c_1 => ?_) (fun c_1 => ?_)
  · skip
    have hbad : ¬ ∃ i, i < (L (cd 0)).length ∧ nn = nI i := fun ⟨i, h1, h2⟩ => nI_pos (show i < 2 ^ 31 by omega) (by rw [← h2]; exact c_1)
    obtain ⟨sa, hsa⟩ := hcs.1 (355, "no such island") (by decide)
    refine vx_throwSW (names := ["java/lang/RuntimeException", "java/lang/Exception"]) hx hb hnt hown (by decide) (by decide) (hts (.classLink RX8 353 "java/lang/IndexOutOfBoundsException") (by decide +kernel)) (hts (.initialized "java/lang/IndexOutOfBoundsException") (by decide +kernel)) hsa (vx_hat (B := .castable "java/lang/IndexOutOfBoundsException" "java/lang/IndexOutOfBoundsException" :: [.declares (Bundle.initS "java/lang/RuntimeException"), .declares (Bundle.initS "java/lang/Exception"), .declares (Bundle.initS Bundle.tN)]) (fun w h => hts w ((by decide +kernel : ∀ w ∈ (vx_atS RX8 357 "java/lang/IndexOutOfBoundsException" ["java/lang/RuntimeException", "java/lang/Exception"]).filter goodWord, w ∈ wsX8_isleOf) w h)) (by decide +kernel) (vx_c (m_wo_cas hw (by decide)) (c_str_dc hcs))) (by decide +kernel) hw.2.1.1 hw.2.1.2.1 hw.2.2.2.1 (hl.1.trans hml.symm) dX8_isleOf_15 dX8_isleOf_18 dX8_isleOf_19 dX8_isleOf_22 dX8_isleOf_25 (fun x hx9 => absurd (hxt x hx9) id) (Nat.le_of_ble_eq_true rfl) (Nat.le_of_ble_eq_true rfl) (Nat.le_of_ble_eq_true rfl) (Nat.le_of_ble_eq_true rfl) hlocks (fun t hA9 hs9 hq9 => ⟨(), hbad, ⟨rfl, m_wo_up hw hA9 hs9 hq9⟩, m_wo_uF hw hs9 hq9⟩) (m_wo_L hw) (Nat.le_of_ble_eq_true rfl) (Nat.le_of_ble_eq_true rfl)
  · skip
    obtain ⟨i, hi31, rfl⟩ := nI_of c_1
    refine lv_iload_n hx hb dX8_isleOf_4 rfl (lv_at hl 1 rfl) ?_
    refine lv_aload_n hx hb dX8_isleOf_5 rfl (lv_at hl 0 rfl) ?_
    refine g_9_0 (r := some (cd 0)) hx hb hts (by decide +kernel) hown hw hok.1 (hts (.fieldLink RX8 10 "Pirateindex" "isles" "Ljava/util/ArrayList;") (by decide +kernel)) hok.2.1 dX8_isleOf_6 ?_
    refine m_ci (va_runV (As := []) (rest := [.int (nI i)]) ⟨hx, hb, hml, hown, hts⟩ (c_Jx4a65c_size_8abf5 l hok.2.2.2.2.2.2.2.2.2.2.1) (cwV 0 hts gX8_isleOf_Jx4a65c_size_8abf5 rfl rfl rfl (by decide +kernel) ⟨Nat.le_of_ble_eq_true rfl, Nat.le_of_ble_eq_true rfl⟩) ⟨m_blind m_B_calling, m_recv hw (m_ent_11 hok.2.2.2.2.2.2.2.2.2.2.1) rfl, fun U hU hW => ⟨rfl, m_wo_call hw hU hW⟩⟩ rfl rfl hl.1 rfl (lv_room (Nat.le_of_ble_eq_true rfl)) dX8_isleOf_9 ⟨Nat.le_of_ble_eq_true rfl, Nat.le_of_ble_eq_true rfl⟩) hw (fun r_9 u_9 H locs hp_9 hw => ?_)
    obtain rfl : r_9 = (nI (L (cd 0)).length) := hp_9
    refine lv_icmp_lt (tgt := 26) hx hb dX8_isleOf_12 (by decide) (fun c_12 => ?_) (fun c_12 => ?_)
    · skip
      have hi : i < (L (cd 0)).length := nI_ltN (by omega) (by omega) c_12
      refine lv_aload_n hx hb dX8_isleOf_26 rfl (lv_at hl 0 rfl) ?_
      refine g_9_0 (r := some (cd 0)) hx hb hts (by decide +kernel) hown hw hok.1 (hts (.fieldLink RX8 10 "Pirateindex" "isles" "Ljava/util/ArrayList;") (by decide +kernel)) hok.2.1 dX8_isleOf_27 ?_
      refine lv_iload_n hx hb dX8_isleOf_30 rfl (lv_at hl 1 rfl) ?_
      obtain ⟨ai, ha⟩ : ∃ z, (L (cd 0))[i]? = some z := ⟨_, lg_some hi⟩
      have hka : K ai = 3 := hel ai (List.mem_of_getElem? ha)
      refine m_cq (va_runV (As := [.int (nI i)]) (rest := []) ⟨hx, hb, hml, hown, hts⟩ (c_Jx4a65c_get_915e3 l hok.2.2.2.2.2.2.2.2.2.2.1 hi) (cwV 1 hts gX8_isleOf_Jx4a65c_get_915e3 rfl rfl rfl (by decide +kernel) ⟨Nat.le_of_ble_eq_true rfl, Nat.le_of_ble_eq_true rfl⟩) ⟨m_blind m_B_calling, m_recv hw (m_ent_11 hok.2.2.2.2.2.2.2.2.2.2.1) rfl, fun U hU hW => ⟨rfl, m_wo_call hw hU hW⟩⟩ rfl rfl hl.1 rfl (lv_room (Nat.le_of_ble_eq_true rfl)) dX8_isleOf_31 ⟨Nat.le_of_ble_eq_true rfl, Nat.le_of_ble_eq_true rfl⟩) hw (fun r_31 u_31 H locs hp_31 hw => ?_)
      obtain rfl : r_31 = some ai := hp_31.trans ha
      refine va_castS hx hb hown (hts (.classLink RX8 75 "Pirateindex$Isle") (by decide +kernel)) (hw.1.1 7 _ rfl).2 (m_recv hw (m_ent_3 hka) rfl) dX8_isleOf_34 ?_
      refine vx_ret ?_
      refine W.widen (k := 1) (n := 6) (by omega) (by omega) ?_
      exact W.aret (v := .ref ai) hx hb hr (Or.inl ⟨_, rfl⟩) (Or.inr ⟨_, rfl⟩) (fun t ht hW => ⟨⟨(some ai), (), rfl, ⟨i, ai, rfl, hi31, ha, rfl⟩, m_wo_out hw ht hW.alike⟩, m_wo_F hw ht⟩) (m_wo_L hw) dX8_isleOf_37
    · skip
      have hbad : ¬ ∃ j, j < (L (cd 0)).length ∧ nI i = nI j := fun ⟨j, h1, h2⟩ => c_12 (by rw [h2]; exact (nI_ltI (by omega) (by omega)).mpr h1)
      obtain ⟨sa, hsa⟩ := hcs.1 (355, "no such island") (by decide)
      refine vx_throwSW (names := ["java/lang/RuntimeException", "java/lang/Exception"]) hx hb hnt hown (by decide) (by decide) (hts (.classLink RX8 353 "java/lang/IndexOutOfBoundsException") (by decide +kernel)) (hts (.initialized "java/lang/IndexOutOfBoundsException") (by decide +kernel)) hsa (vx_hat (B := .castable "java/lang/IndexOutOfBoundsException" "java/lang/IndexOutOfBoundsException" :: [.declares (Bundle.initS "java/lang/RuntimeException"), .declares (Bundle.initS "java/lang/Exception"), .declares (Bundle.initS Bundle.tN)]) (fun w h => hts w ((by decide +kernel : ∀ w ∈ (vx_atS RX8 357 "java/lang/IndexOutOfBoundsException" ["java/lang/RuntimeException", "java/lang/Exception"]).filter goodWord, w ∈ wsX8_isleOf) w h)) (by decide +kernel) (vx_c (m_wo_cas hw (by decide)) (c_str_dc hcs))) (by decide +kernel) hw.2.1.1 hw.2.1.2.1 hw.2.2.2.1 (hl.1.trans hml.symm) dX8_isleOf_15 dX8_isleOf_18 dX8_isleOf_19 dX8_isleOf_22 dX8_isleOf_25 (fun x hx9 => absurd (hxt x hx9) id) (Nat.le_of_ble_eq_true rfl) (Nat.le_of_ble_eq_true rfl) (Nat.le_of_ble_eq_true rfl) (Nat.le_of_ble_eq_true rfl) hlocks (fun t hA9 hs9 hq9 => ⟨(), hbad, ⟨rfl, m_wo_up hw hA9 hs9 hq9⟩, m_wo_uF hw hs9 hq9⟩) (m_wo_L hw) (Nat.le_of_ble_eq_true rfl) (Nat.le_of_ble_eq_true rfl)
set_option maxHeartbeats 400000 in
set_option maxRecDepth 100000 in
theorem c_X8_shipOf (l : Launch) (hnt : l.stackTraces = false) {G : mG} {K : Nat → Nat} {I : Nat → Nat → Int32} {R : Nat → Nat → Option Nat} {F : Nat → UInt32} {A : Nat → Nat → Int32} {N : Nat → Nat} {L : Nat → List Nat} {T : Nat → List Int32} {J : Nat → Nat → Int64} {D : Nat → Nat → UInt64} {o : Nat} {cd : Nat → Nat} {nn : Int32} (hok : c_ok K R N o cd) (hel : ∀ a, a ∈ L (cd 5) → K a = 7) : vx_Met l yX8_shipOf wsX8_shipOf ({ frames := 8, cells := 1, slots := 6, locals := 160 } : Room) (va_Pc [.ref o, .int nn] (fun U => m_B G K I R F A N L T J D U ∧ c_str U)) (va_Qq (fun (r : Option Nat) (_ : Unit) => ∃ i a, nn = nI i ∧ i < 2 ^ 31 ∧ (L (cd 5))[i]? = some a ∧ r = some a) (fun u : Unit => m_B G K I R F A N L T J D) (m_A G)) (vx_X (fun (u : Unit) => ¬ ∃ i, i < (L (cd 5)).length ∧ nn = nI i) (fun E (u : Unit) t => E = "java/lang/IndexOutOfBoundsException" ∧ m_B G K I R F A N L T J D t) (m_A G)) 1 6 (m_A G) := by
  refine vx_ofW (cc := cX8_shipOf) (maxL := 2) (ret := (some (.object "Pirateindex$Ship"))) (by decide) rfl ?_
  intro p e s m args below meth c s₁ B hml hxt hv
  obtain ⟨rfl, hB, hcs⟩ := hv
  have hx := B.exec
  have hb := B.bytes
  have hr := B.returns
  have hts := atoms_spec (ws := wsX8_shipOf) B.pre
  have hown : s.vm.findClass RX8 = some m.cls := findClass_of_methodNamed B.named
  have hlocks := B.notSynchronized
  have hw := m_wo_in hB
  have hl := lv_entry ([.ref o, .int nn]) (n := 2) (Nat.le_of_ble_eq_true rfl)
  rw [lg_entry_eq]
  generalize (lg_sl ([.ref o, .int nn]) ++ List.replicate (2 - (lg_sl ([.ref o, .int nn])).length) Slot.unset).toArray = ls at hl ⊢
  have hl : lv_has ls 2 [(0, .ref o), (1, .int nn)] := hl
  have hlen := m_len hw hok.2.2.2.2.2.2.2.2.2.2.2.2.2.2.2.1
  refine lv_iload_n hx hb dX8_shipOf_0 rfl (lv_at hl 1 rfl) ?_
  refine lv_if_lt (tgt := 15) hx hb dX8_shipOf_1 (by decide) (fun c_1 => ?_) (fun c_1 => ?_)
  · skip
    have hbad : ¬ ∃ i, i < (L (cd 5)).length ∧ nn = nI i := fun ⟨i, h1, h2⟩ => nI_pos (show i < 2 ^ 31 by omega) (by rw [← h2]; exact c_1)
    obtain ⟨sa, hsa⟩ := hcs.1 (358, "no such ship") (by decide)
    refine vx_throwSW (names := ["java/lang/RuntimeException", "java/lang/Exception"]) hx hb hnt hown (by decide) (by decide) (hts (.classLink RX8 353 "java/lang/IndexOutOfBoundsException") (by decide +kernel)) (hts (.initialized "java/lang/IndexOutOfBoundsException") (by decide +kernel)) hsa (vx_hat (B := .castable "java/lang/IndexOutOfBoundsException" "java/lang/IndexOutOfBoundsException" :: [.declares (Bundle.initS "java/lang/RuntimeException"), .declares (Bundle.initS "java/lang/Exception"), .declares (Bundle.initS Bundle.tN)]) (fun w h => hts w ((by decide +kernel : ∀ w ∈ (vx_atS RX8 357 "java/lang/IndexOutOfBoundsException" ["java/lang/RuntimeException", "java/lang/Exception"]).filter goodWord, w ∈ wsX8_shipOf) w h)) (by decide +kernel) (vx_c (m_wo_cas hw (by decide)) (c_str_dc hcs))) (by decide +kernel) hw.2.1.1 hw.2.1.2.1 hw.2.2.2.1 (hl.1.trans hml.symm) dX8_shipOf_15 dX8_shipOf_18 dX8_shipOf_19 dX8_shipOf_22 dX8_shipOf_25 (fun x hx9 => absurd (hxt x hx9) id) (Nat.le_of_ble_eq_true rfl) (Nat.le_of_ble_eq_true rfl) (Nat.le_of_ble_eq_true rfl) (Nat.le_of_ble_eq_true rfl) hlocks (fun t hA9 hs9 hq9 => ⟨(), hbad, ⟨rfl, m_wo_up hw hA9 hs9 hq9⟩, m_wo_uF hw hs9 hq9⟩) (m_wo_L hw) (Nat.le_of_ble_eq_true rfl) (Nat.le_of_ble_eq_true rfl)
  · skip
    obtain ⟨i, hi31, rfl⟩ := nI_of c_1
    refine lv_iload_n hx hb dX8_shipOf_4 rfl (lv_at hl 1 rfl) ?_
    refine lv_aload_n hx hb dX8_shipOf_5 rfl (lv_at hl 0 rfl) ?_
    refine g_9_5 (r := some (cd 5)) hx hb hts (by decide +kernel) hown hw hok.1 (hts (.fieldLink RX8 40 "Pirateindex" "fleet" "Ljava/util/ArrayList;") (by decide +kernel)) hok.2.2.2.2.2.2.1 dX8_shipOf_6 ?_
    refine m_ci (va_runV (As := []) (rest := [.int (nI i)]) ⟨hx, hb, hml, hown, hts⟩ (c_Jx4a65c_size_8abf5 l hok.2.2.2.2.2.2.2.2.2.2.2.2.2.2.2.1) (cwV 0 hts gX8_shipOf_Jx4a65c_size_8abf5 rfl rfl rfl (by decide +kernel) ⟨Nat.le_of_ble_eq_true rfl, Nat.le_of_ble_eq_true rfl⟩) ⟨m_blind m_B_calling, m_recv hw (m_ent_11 hok.2.2.2.2.2.2.2.2.2.2.2.2.2.2.2.1) rfl, fun U hU hW => ⟨rfl, m_wo_call hw hU hW⟩⟩ rfl rfl hl.1 rfl (lv_room (Nat.le_of_ble_eq_true rfl)) dX8_shipOf_9 ⟨Nat.le_of_ble_eq_true rfl, Nat.le_of_ble_eq_true rfl⟩) hw (fun r_9 u_9 H locs hp_9 hw => ?_)
    obtain rfl : r_9 = (nI (L (cd 5)).length) := hp_9
    refine lv_icmp_lt (tgt := 26) hx hb dX8_shipOf_12 (by decide) (fun c_12 => ?_) (fun c_12 => ?_)
    · skip
      have hi : i < (L (cd 5)).length := nI_ltN (by omega) (by omega) c_12
      refine lv_aload_n hx hb dX8_shipOf_26 rfl (lv_at hl 0 rfl) ?_
      refine g_9_5 (r := some (cd 5)) hx hb hts (by decide +kernel) hown hw hok.1 (hts (.fieldLink RX8 40 "Pirateindex" "fleet" "Ljava/util/ArrayList;") (by decide +kernel)) hok.2.2.2.2.2.2.1 dX8_shipOf_27 ?_
      refine lv_iload_n hx hb dX8_shipOf_30 rfl (lv_at hl 1 rfl) ?_
      obtain ⟨ai, ha⟩ : ∃ z, (L (cd 5))[i]? = some z := ⟨_, lg_some hi⟩
      have hka : K ai = 7 := hel ai (List.mem_of_getElem? ha)
      refine m_cq (va_runV (As := [.int (nI i)]) (rest := []) ⟨hx, hb, hml, hown, hts⟩ (c_Jx4a65c_get_915e3 l hok.2.2.2.2.2.2.2.2.2.2.2.2.2.2.2.1 hi) (cwV 1 hts gX8_shipOf_Jx4a65c_get_915e3 rfl rfl rfl (by decide +kernel) ⟨Nat.le_of_ble_eq_true rfl, Nat.le_of_ble_eq_true rfl⟩) ⟨m_blind m_B_calling, m_recv hw (m_ent_11 hok.2.2.2.2.2.2.2.2.2.2.2.2.2.2.2.1) rfl, fun U hU hW => ⟨rfl, m_wo_call hw hU hW⟩⟩ rfl rfl hl.1 rfl (lv_room (Nat.le_of_ble_eq_true rfl)) dX8_shipOf_31 ⟨Nat.le_of_ble_eq_true rfl, Nat.le_of_ble_eq_true rfl⟩) hw (fun r_31 u_31 H locs hp_31 hw => ?_)
      obtain rfl : r_31 = some ai := hp_31.trans ha
      refine va_castS hx hb hown (hts (.classLink RX8 112 "Pirateindex$Ship") (by decide +kernel)) (hw.1.1 11 _ rfl).2 (m_recv hw (m_ent_7 hka) rfl) dX8_shipOf_34 ?_
      refine vx_ret ?_
      refine W.widen (k := 1) (n := 6) (by omega) (by omega) ?_
      exact W.aret (v := .ref ai) hx hb hr (Or.inl ⟨_, rfl⟩) (Or.inr ⟨_, rfl⟩) (fun t ht hW => ⟨⟨(some ai), (), rfl, ⟨i, ai, rfl, hi31, ha, rfl⟩, m_wo_out hw ht hW.alike⟩, m_wo_F hw ht⟩) (m_wo_L hw) dX8_shipOf_37
    · skip
      have hbad : ¬ ∃ j, j < (L (cd 5)).length ∧ nI i = nI j := fun ⟨j, h1, h2⟩ => c_12 (by rw [h2]; exact (nI_ltI (by omega) (by omega)).mpr h1)
      obtain ⟨sa, hsa⟩ := hcs.1 (358, "no such ship") (by decide)
      refine vx_throwSW (names := ["java/lang/RuntimeException", "java/lang/Exception"]) hx hb hnt hown (by decide) (by decide) (hts (.classLink RX8 353 "java/lang/IndexOutOfBoundsException") (by decide +kernel)) (hts (.initialized "java/lang/IndexOutOfBoundsException") (by decide +kernel)) hsa (vx_hat (B := .castable "java/lang/IndexOutOfBoundsException" "java/lang/IndexOutOfBoundsException" :: [.declares (Bundle.initS "java/lang/RuntimeException"), .declares (Bundle.initS "java/lang/Exception"), .declares (Bundle.initS Bundle.tN)]) (fun w h => hts w ((by decide +kernel : ∀ w ∈ (vx_atS RX8 357 "java/lang/IndexOutOfBoundsException" ["java/lang/RuntimeException", "java/lang/Exception"]).filter goodWord, w ∈ wsX8_shipOf) w h)) (by decide +kernel) (vx_c (m_wo_cas hw (by decide)) (c_str_dc hcs))) (by decide +kernel) hw.2.1.1 hw.2.1.2.1 hw.2.2.2.1 (hl.1.trans hml.symm) dX8_shipOf_15 dX8_shipOf_18 dX8_shipOf_19 dX8_shipOf_22 dX8_shipOf_25 (fun x hx9 => absurd (hxt x hx9) id) (Nat.le_of_ble_eq_true rfl) (Nat.le_of_ble_eq_true rfl) (Nat.le_of_ble_eq_true rfl) (Nat.le_of_ble_eq_true rfl) hlocks (fun t hA9 hs9 hq9 => ⟨(), hbad, ⟨rfl, m_wo_up hw hA9 hs9 hq9⟩, m_wo_uF hw hs9 hq9⟩) (m_wo_L hw) (Nat.le_of_ble_eq_true rfl) (Nat.le_of_ble_eq_true rfl)
set_option maxHeartbeats 400000 in
set_option maxRecDepth 100000 in
theorem c_X8_findNumbered (l : Launch) (hnt : l.stackTraces = false) {G : mG} {K : Nat → Nat} {I : Nat → Nat → Int32} {R : Nat → Nat → Option Nat} {F : Nat → UInt32} {A : Nat → Nat → Int32} {N : Nat → Nat} {L : Nat → List Nat} {T : Nat → List Int32} {J : Nat → Nat → Int64} {D : Nat → Nat → UInt64} {o : Nat} {cd : Nat → Nat} {nn : Int32} (hok : c_ok K R N o cd) (hel : ∀ a, a ∈ L (cd 1) → K a = 1) : vx_Met l yX8_findNumbered wsX8_findNumbered ({ frames := 8, cells := 1, slots := 6, locals := 160 } : Room) (va_Pc [.ref o, .int nn] (fun U => m_B G K I R F A N L T J D U ∧ c_str U)) (va_Qq (fun (r : Option Nat) (_ : Unit) => ∃ i a, nn = nI i ∧ i < 2 ^ 31 ∧ (L (cd 1))[i]? = some a ∧ r = some a) (fun u : Unit => m_B G K I R F A N L T J D) (m_A G)) (vx_X (fun (u : Unit) => ¬ ∃ i, i < (L (cd 1)).length ∧ nn = nI i) (fun E (u : Unit) t => E = "java/lang/IndexOutOfBoundsException" ∧ m_B G K I R F A N L T J D t) (m_A G)) 1 6 (m_A G) := by
  refine vx_ofW (cc := cX8_findNumbered) (maxL := 2) (ret := (some (.object "Pirateindex$Find"))) (by decide) rfl ?_
  intro p e s m args below meth c s₁ B hml hxt hv
  obtain ⟨rfl, hB, hcs⟩ := hv
  have hx := B.exec
  have hb := B.bytes
  have hr := B.returns
  have hts := atoms_spec (ws := wsX8_findNumbered) B.pre
  have hown : s.vm.findClass RX8 = some m.cls := findClass_of_methodNamed B.named
  have hlocks := B.notSynchronized
  have hw := m_wo_in hB
  have hl := lv_entry ([.ref o, .int nn]) (n := 2) (Nat.le_of_ble_eq_true rfl)
  rw [lg_entry_eq]
  generalize (lg_sl ([.ref o, .int nn]) ++ List.replicate (2 - (lg_sl ([.ref o, .int nn])).length) Slot.unset).toArray = ls at hl ⊢
  have hl : lv_has ls 2 [(0, .ref o), (1, .int nn)] := hl
  have hlen := m_len hw hok.2.2.2.2.2.2.2.2.2.2.2.1
  refine lv_iload_n hx hb dX8_findNumbered_0 rfl (lv_at hl 1 rfl) ?_
  refine lv_if_lt (tgt := 15) hx hb dX8_findNumbered_1 (by decide) (fun c_1 => ?_) (fun c_1 => ?_)
  · skip
    have hbad : ¬ ∃ i, i < (L (cd 1)).length ∧ nn = nI i := fun ⟨i, h1, h2⟩ => nI_pos (show i < 2 ^ 31 by omega) (by rw [← h2]; exact c_1)
    obtain ⟨sa, hsa⟩ := hcs.1 (360, "no such find") (by decide)
    refine vx_throwSW (names := ["java/lang/RuntimeException", "java/lang/Exception"]) hx hb hnt hown (by decide) (by decide) (hts (.classLink RX8 353 "java/lang/IndexOutOfBoundsException") (by decide +kernel)) (hts (.initialized "java/lang/IndexOutOfBoundsException") (by decide +kernel)) hsa (vx_hat (B := .castable "java/lang/IndexOutOfBoundsException" "java/lang/IndexOutOfBoundsException" :: [.declares (Bundle.initS "java/lang/RuntimeException"), .declares (Bundle.initS "java/lang/Exception"), .declares (Bundle.initS Bundle.tN)]) (fun w h => hts w ((by decide +kernel : ∀ w ∈ (vx_atS RX8 357 "java/lang/IndexOutOfBoundsException" ["java/lang/RuntimeException", "java/lang/Exception"]).filter goodWord, w ∈ wsX8_findNumbered) w h)) (by decide +kernel) (vx_c (m_wo_cas hw (by decide)) (c_str_dc hcs))) (by decide +kernel) hw.2.1.1 hw.2.1.2.1 hw.2.2.2.1 (hl.1.trans hml.symm) dX8_findNumbered_15 dX8_findNumbered_18 dX8_findNumbered_19 dX8_findNumbered_22 dX8_findNumbered_25 (fun x hx9 => absurd (hxt x hx9) id) (Nat.le_of_ble_eq_true rfl) (Nat.le_of_ble_eq_true rfl) (Nat.le_of_ble_eq_true rfl) (Nat.le_of_ble_eq_true rfl) hlocks (fun t hA9 hs9 hq9 => ⟨(), hbad, ⟨rfl, m_wo_up hw hA9 hs9 hq9⟩, m_wo_uF hw hs9 hq9⟩) (m_wo_L hw) (Nat.le_of_ble_eq_true rfl) (Nat.le_of_ble_eq_true rfl)
  · skip
    obtain ⟨i, hi31, rfl⟩ := nI_of c_1
    refine lv_iload_n hx hb dX8_findNumbered_4 rfl (lv_at hl 1 rfl) ?_
    refine lv_aload_n hx hb dX8_findNumbered_5 rfl (lv_at hl 0 rfl) ?_
    refine g_9_1 (r := some (cd 1)) hx hb hts (by decide +kernel) hown hw hok.1 (hts (.fieldLink RX8 16 "Pirateindex" "log" "Ljava/util/ArrayList;") (by decide +kernel)) hok.2.2.1 dX8_findNumbered_6 ?_
    refine m_ci (va_runV (As := []) (rest := [.int (nI i)]) ⟨hx, hb, hml, hown, hts⟩ (c_Jx4a65c_size_8abf5 l hok.2.2.2.2.2.2.2.2.2.2.2.1) (cwV 0 hts gX8_findNumbered_Jx4a65c_size_8abf5 rfl rfl rfl (by decide +kernel) ⟨Nat.le_of_ble_eq_true rfl, Nat.le_of_ble_eq_true rfl⟩) ⟨m_blind m_B_calling, m_recv hw (m_ent_11 hok.2.2.2.2.2.2.2.2.2.2.2.1) rfl, fun U hU hW => ⟨rfl, m_wo_call hw hU hW⟩⟩ rfl rfl hl.1 rfl (lv_room (Nat.le_of_ble_eq_true rfl)) dX8_findNumbered_9 ⟨Nat.le_of_ble_eq_true rfl, Nat.le_of_ble_eq_true rfl⟩) hw (fun r_9 u_9 H locs hp_9 hw => ?_)
    obtain rfl : r_9 = (nI (L (cd 1)).length) := hp_9
    refine lv_icmp_lt (tgt := 26) hx hb dX8_findNumbered_12 (by decide) (fun c_12 => ?_) (fun c_12 => ?_)
    · skip
      have hi : i < (L (cd 1)).length := nI_ltN (by omega) (by omega) c_12
      refine lv_aload_n hx hb dX8_findNumbered_26 rfl (lv_at hl 0 rfl) ?_
      refine g_9_1 (r := some (cd 1)) hx hb hts (by decide +kernel) hown hw hok.1 (hts (.fieldLink RX8 16 "Pirateindex" "log" "Ljava/util/ArrayList;") (by decide +kernel)) hok.2.2.1 dX8_findNumbered_27 ?_
      refine lv_iload_n hx hb dX8_findNumbered_30 rfl (lv_at hl 1 rfl) ?_
      obtain ⟨ai, ha⟩ : ∃ z, (L (cd 1))[i]? = some z := ⟨_, lg_some hi⟩
      have hka : K ai = 1 := hel ai (List.mem_of_getElem? ha)
      refine m_cq (va_runV (As := [.int (nI i)]) (rest := []) ⟨hx, hb, hml, hown, hts⟩ (c_Jx4a65c_get_915e3 l hok.2.2.2.2.2.2.2.2.2.2.2.1 hi) (cwV 1 hts gX8_findNumbered_Jx4a65c_get_915e3 rfl rfl rfl (by decide +kernel) ⟨Nat.le_of_ble_eq_true rfl, Nat.le_of_ble_eq_true rfl⟩) ⟨m_blind m_B_calling, m_recv hw (m_ent_11 hok.2.2.2.2.2.2.2.2.2.2.2.1) rfl, fun U hU hW => ⟨rfl, m_wo_call hw hU hW⟩⟩ rfl rfl hl.1 rfl (lv_room (Nat.le_of_ble_eq_true rfl)) dX8_findNumbered_31 ⟨Nat.le_of_ble_eq_true rfl, Nat.le_of_ble_eq_true rfl⟩) hw (fun r_31 u_31 H locs hp_31 hw => ?_)
      obtain rfl : r_31 = some ai := hp_31.trans ha
      refine va_castS hx hb hown (hts (.classLink RX8 95 "Pirateindex$Find") (by decide +kernel)) (hw.1.1 5 _ rfl).2 (m_recv hw (m_ent_1 hka) rfl) dX8_findNumbered_34 ?_
      refine vx_ret ?_
      refine W.widen (k := 1) (n := 6) (by omega) (by omega) ?_
      exact W.aret (v := .ref ai) hx hb hr (Or.inl ⟨_, rfl⟩) (Or.inr ⟨_, rfl⟩) (fun t ht hW => ⟨⟨(some ai), (), rfl, ⟨i, ai, rfl, hi31, ha, rfl⟩, m_wo_out hw ht hW.alike⟩, m_wo_F hw ht⟩) (m_wo_L hw) dX8_findNumbered_37
    · skip
      have hbad : ¬ ∃ j, j < (L (cd 1)).length ∧ nI i = nI j := fun ⟨j, h1, h2⟩ => c_12 (by rw [h2]; exact (nI_ltI (by omega) (by omega)).mpr h1)
      obtain ⟨sa, hsa⟩ := hcs.1 (360, "no such find") (by decide)
      refine vx_throwSW (names := ["java/lang/RuntimeException", "java/lang/Exception"]) hx hb hnt hown (by decide) (by decide) (hts (.classLink RX8 353 "java/lang/IndexOutOfBoundsException") (by decide +kernel)) (hts (.initialized "java/lang/IndexOutOfBoundsException") (by decide +kernel)) hsa (vx_hat (B := .castable "java/lang/IndexOutOfBoundsException" "java/lang/IndexOutOfBoundsException" :: [.declares (Bundle.initS "java/lang/RuntimeException"), .declares (Bundle.initS "java/lang/Exception"), .declares (Bundle.initS Bundle.tN)]) (fun w h => hts w ((by decide +kernel : ∀ w ∈ (vx_atS RX8 357 "java/lang/IndexOutOfBoundsException" ["java/lang/RuntimeException", "java/lang/Exception"]).filter goodWord, w ∈ wsX8_findNumbered) w h)) (by decide +kernel) (vx_c (m_wo_cas hw (by decide)) (c_str_dc hcs))) (by decide +kernel) hw.2.1.1 hw.2.1.2.1 hw.2.2.2.1 (hl.1.trans hml.symm) dX8_findNumbered_15 dX8_findNumbered_18 dX8_findNumbered_19 dX8_findNumbered_22 dX8_findNumbered_25 (fun x hx9 => absurd (hxt x hx9) id) (Nat.le_of_ble_eq_true rfl) (Nat.le_of_ble_eq_true rfl) (Nat.le_of_ble_eq_true rfl) (Nat.le_of_ble_eq_true rfl) hlocks (fun t hA9 hs9 hq9 => ⟨(), hbad, ⟨rfl, m_wo_up hw hA9 hs9 hq9⟩, m_wo_uF hw hs9 hq9⟩) (m_wo_L hw) (Nat.le_of_ble_eq_true rfl) (Nat.le_of_ble_eq_true rfl)
set_option maxHeartbeats 400000 in
set_option maxRecDepth 100000 in
theorem c_X8_requireMap (l : Launch) (hnt : l.stackTraces = false) {G : mG} {K : Nat → Nat} {I : Nat → Nat → Int32} {R : Nat → Nat → Option Nat} {F : Nat → UInt32} {A : Nat → Nat → Int32} {N : Nat → Nat} {L : Nat → List Nat} {T : Nat → List Int32} {J : Nat → Nat → Int64} {D : Nat → Nat → UInt64} {o : Nat} {cd : Nat → Nat} (hok : c_ok K R N o cd) : vx_Met l yX8_requireMap wsX8_requireMap ({ frames := 8, cells := 1, slots := 6, locals := 160 } : Room) (va_Pc [.ref o] (fun U => m_B G K I R F A N L T J D U ∧ c_str U)) (va_Qv (fun (_ : Unit) => I 42 (cd 6) ≠ 0) (fun u : Unit => m_B G K I R F A N L T J D) (m_A G)) (vx_X (fun (u : Unit) => I 42 (cd 6) = 0) (fun E (u : Unit) t => E = "java/lang/UnsupportedOperationException" ∧ m_B G K I R F A N L T J D t) (m_A G)) 1 6 (m_A G) := by
  refine vx_ofW (cc := cX8_requireMap) (maxL := 1) (ret := none) (by decide) rfl ?_
  intro p e s m args below meth c s₁ B hml hxt hv
  obtain ⟨rfl, hB, hcs⟩ := hv
  have hx := B.exec
  have hb := B.bytes
  have hr := B.returns
  have hts := atoms_spec (ws := wsX8_requireMap) B.pre
  have hown : s.vm.findClass RX8 = some m.cls := findClass_of_methodNamed B.named
  have hlocks := B.notSynchronized
  have hw := m_wo_in hB
  have hl := lv_entry ([.ref o]) (n := 1) (Nat.le_of_ble_eq_true rfl)
  rw [lg_entry_eq]
  generalize (lg_sl ([.ref o]) ++ List.replicate (1 - (lg_sl ([.ref o])).length) Slot.unset).toArray = ls at hl ⊢
  have hl : lv_has ls 1 [(0, .ref o)] := hl
  refine lv_aload_n hx hb dX8_requireMap_0 rfl (lv_at hl 0 rfl) ?_
  refine g_9_6 (r := some (cd 6)) hx hb hts (by decide +kernel) hown hw hok.1 (hts (.fieldLink RX8 46 "Pirateindex" "typed" "LPirateindex$Phrase;") (by decide +kernel)) hok.2.2.2.2.2.2.2.1 dX8_requireMap_1 ?_
  refine m_ci (va_runV (As := []) (rest := []) ⟨hx, hb, hml, hown, hts⟩ (c_X3_isEmpty l hok.2.2.2.2.2.2.2.2.2.2.2.2.2.2.2.2.1) (cwV 0 hts gX8_requireMap_X3_isEmpty rfl rfl rfl (by decide +kernel) ⟨Nat.le_of_ble_eq_true rfl, Nat.le_of_ble_eq_true rfl⟩) ⟨m_blind m_B_calling, m_recv hw (m_ent_4 hok.2.2.2.2.2.2.2.2.2.2.2.2.2.2.2.2.1) rfl, fun U hU hW => ⟨rfl, m_wo_call hw hU hW⟩⟩ rfl rfl hl.1 rfl (lv_room (Nat.le_of_ble_eq_true rfl)) dX8_requireMap_4 ⟨Nat.le_of_ble_eq_true rfl, Nat.le_of_ble_eq_true rfl⟩) hw (fun r_4 u_4 H locs hp_4 hw => ?_)
  obtain rfl : r_4 = b2i (decide (I 42 (cd 6) = 0)) := hp_4
  refine lv_if_eq (tgt := 21) hx hb dX8_requireMap_7 (by decide) (fun c_7 => ?_) (fun c_7 => ?_)
  · skip
    have hq := of_decide_eq_false ((b2i_eq _).mp c_7)
    refine vx_ret ?_
    refine W.widen (k := 1) (n := 6) (by omega) (by omega) ?_
    exact W.vret hx hb hr (fun t ht hW => ⟨⟨(), rfl, hq, m_wo_out hw ht hW.alike⟩, m_wo_F hw ht⟩) (m_wo_L hw) dX8_requireMap_21
  · skip
    have hq := of_decide_eq_true ((b2i_ne _).mp c_7)
    obtain ⟨sa, hsa⟩ := hcs.1 (368, "the map is empty") (by decide)
    refine vx_throwSW (names := ["java/lang/RuntimeException", "java/lang/Exception"]) hx hb hnt hown (by decide) (by decide) (hts (.classLink RX8 128 "java/lang/UnsupportedOperationException") (by decide +kernel)) (hts (.initialized "java/lang/UnsupportedOperationException") (by decide +kernel)) hsa (vx_hat (B := .castable "java/lang/UnsupportedOperationException" "java/lang/UnsupportedOperationException" :: [.declares (Bundle.initS "java/lang/RuntimeException"), .declares (Bundle.initS "java/lang/Exception"), .declares (Bundle.initS Bundle.tN)]) (fun w h => hts w ((by decide +kernel : ∀ w ∈ (vx_atS RX8 132 "java/lang/UnsupportedOperationException" ["java/lang/RuntimeException", "java/lang/Exception"]).filter goodWord, w ∈ wsX8_requireMap) w h)) (by decide +kernel) (vx_c (m_wo_cas hw (by decide)) (c_str_dc hcs))) (by decide +kernel) hw.2.1.1 hw.2.1.2.1 hw.2.2.2.1 (hl.1.trans hml.symm) dX8_requireMap_10 dX8_requireMap_13 dX8_requireMap_14 dX8_requireMap_17 dX8_requireMap_20 (fun x hx9 => absurd (hxt x hx9) id) (Nat.le_of_ble_eq_true rfl) (Nat.le_of_ble_eq_true rfl) (Nat.le_of_ble_eq_true rfl) (Nat.le_of_ble_eq_true rfl) hlocks (fun t hA9 hs9 hq9 => ⟨(), hq, ⟨rfl, m_wo_up hw hA9 hs9 hq9⟩, m_wo_uF hw hs9 hq9⟩) (m_wo_L hw) (Nat.le_of_ble_eq_true rfl) (Nat.le_of_ble_eq_true rfl)
