theorem c_ph_chg {K K' : Nat → Nat} {I I' : Nat → Nat → Int32} {R R' : Nat → Nat → Option Nat} {N N' : Nat → Nat} {A : Nat → Nat → Int32} {ph w9 d9 n : Nat} (h : c_ph K R N I A ph w9 d9 n) (hc : c_chg K I R N K' I' R' N' c_no c_no) : c_ph K' R' N' I' A ph w9 d9 n := by
  obtain ⟨h1, h2, h3, h4, h5, h6, h7, h8, h9, h10⟩ := h
  have q := hc ph (by rw [h1]; decide) (by rw [h1]; decide)
  exact ⟨c_kk hc h1 (by decide) (by decide), (q.2.2.2.1 40 (by decide) (by decide) id).trans h2, c_kk hc h3 (by decide) (by decide), (hc w9 (by rw [h3]; decide) (by rw [h3]; decide)).2.1.trans h4, (q.2.2.2.1 41 (by decide) (by decide) id).trans h5, c_kk hc h6 (by decide) (by decide), (hc d9 (by rw [h6]; decide) (by rw [h6]; decide)).2.1.trans h7, (q.2.2.1 42 (by decide) id).trans h8, h9, h10⟩
theorem c_hit_same {I : Nat → Nat → Int32} {R : Nat → Nat → Option Nat} {A : Nat → Nat → Int32} {l1 l2 : List Nat} {w9 d9 n : Nat} {isl : Int32} (h : ∀ q : Nat → Bool, l1.countP q = l2.countP q) : c_hit I R A l1 w9 d9 n isl = c_hit I R A l2 w9 d9 n isl := by
  unfold c_hit
  split
  · rfl
  · refine congrArg (fun z => o_hits z (fun k => (A d9 k).toNatClampNeg) n) ?_
    funext k p
    exact h _
set_option maxHeartbeats 400000 in
set_option maxRecDepth 100000 in
theorem c_X8_findsAreInOneSegment (l : Launch) {G : mG} {K : Nat → Nat} {I : Nat → Nat → Int32} {R : Nat → Nat → Option Nat} {F : Nat → UInt32} {A : Nat → Nat → Int32} {N : Nat → Nat} {L : Nat → List Nat} {T : Nat → List Int32} {J : Nat → Nat → Int64} {D : Nat → Nat → UInt64} {o : Nat} {cd : Nat → Nat}  (hok : c_ok K R N o cd) (hel1 : ∀ a, a ∈ L (cd 1) → K a = 1) (hel5 : ∀ a, a ∈ L (cd 10) → K a = 5) (hsg : ∀ a, a ∈ L (cd 10) → ∃ fl, R 51 a = some fl ∧ K fl = 11 ∧ ∀ b, b ∈ L fl → K b = 1) (hcnt : ∀ a, a ∈ L (cd 1) → (c_all R L (L (cd 10))).count a = if (R 15 a).isSome = true then 1 else 0) : Met l yX8_findsAreInOneSegment wsX8_findsAreInOneSegment ({ frames := 4, cells := 0, slots := 0, locals := 160 } : Room) (va_Pc [.ref o] (m_B G K I R F A N L T J D)) (va_Qi (fun (r : Int32) (_ : Unit) => r = 1) (fun u : Unit => m_B G K I R F A N L T J D) (m_A G)) 0 0 (m_A G) := by
  refine Met.ofW (cc := cX8_findsAreInOneSegment) (maxL := 3) (ret := (some .boolean)) (by decide) rfl ?_
  intro p e s m args below meth c s₁ B hml hv
  obtain ⟨rfl, hB⟩ := hv
  have hx := B.exec
  have hb := B.bytes
  have hr := B.returns
  have hts := atoms_spec (ws := wsX8_findsAreInOneSegment) B.pre
  have hown : s.vm.findClass RX8 = some m.cls := findClass_of_methodNamed B.named
  have hlocks := B.notSynchronized
  have hw := m_wo_in hB
  have hl := lv_entry ([.ref o]) (n := 3) (Nat.le_of_ble_eq_true rfl)
  rw [lg_entry_eq]
  generalize (lg_sl ([.ref o]) ++ List.replicate (3 - (lg_sl ([.ref o])).length) Slot.unset).toArray = ls at hl ⊢
  have hl : lv_has ls 3 [(0, .ref o)] := hl
  have hlen := m_len hw hok.2.2.2.2.2.2.2.2.2.2.2.1
  refine lv_iconst (v := 0) hx hb dX8_findsAreInOneSegment_0 (by decide) ?_
  refine lv_istore_n (lv' := [(1, .int 0), (0, .ref o)]) hx hb dX8_findsAreInOneSegment_1 rfl hl (by decide) rfl (fun ls hl => ?_)
  refine m_loop (σ := Nat) (fun a => (L (cd 1)).length - (a)) (fun a H locs ls => ((a) ≤ (L (cd 1)).length) ∧ m_wo G K I R F A N L T J D s H locs ∧ lv_has ls 3 [(0, .ref o), (1, .int (nI (a)))]) ?_ (0) ⟨Nat.zero_le _, hw, lv_sub hl [1, 0] rfl⟩
  rintro i H locs ls ⟨hinv, hw, hl⟩ ih
  try dsimp only at hinv hw hl
  have hi0 := hinv
  refine lv_iload_n hx hb dX8_findsAreInOneSegment_2 rfl (lv_at hl 1 rfl) ?_
  refine lv_aload_n hx hb dX8_findsAreInOneSegment_3 rfl (lv_at hl 0 rfl) ?_
  refine g_9_1 (r := some (cd 1)) hx hb hts (by decide +kernel) hown hw hok.1 (hts (.fieldLink RX8 16 "Pirateindex" "log" "Ljava/util/ArrayList;") (by decide +kernel)) hok.2.2.1 dX8_findsAreInOneSegment_4 ?_
  refine m_ci (va_runV (As := []) (rest := [.int (nI i)]) ⟨hx, hb, hml, hown, hts⟩ (c_Jx4a65c_size_8abf5 l hok.2.2.2.2.2.2.2.2.2.2.2.1) (cwV 0 hts gX8_findsAreInOneSegment_Jx4a65c_size_8abf5 rfl rfl rfl (by decide +kernel) ⟨Nat.le_of_ble_eq_true rfl, Nat.le_of_ble_eq_true rfl⟩) ⟨m_blind m_B_calling, m_recv hw (m_ent_11 hok.2.2.2.2.2.2.2.2.2.2.2.1) rfl, fun U hU hW => ⟨rfl, m_wo_call hw hU hW⟩⟩ rfl rfl hl.1 rfl (lv_room (Nat.le_of_ble_eq_true rfl)) dX8_findsAreInOneSegment_7 ⟨Nat.le_of_ble_eq_true rfl, Nat.le_of_ble_eq_true rfl⟩) hw (fun r_7 u_7 H locs hp_7 hw => ?_)
  obtain rfl : r_7 = (nI (L (cd 1)).length) := hp_7
  refine lv_icmp_ge (tgt := 56) hx hb dX8_findsAreInOneSegment_10 (by decide) (fun c_10 => ?_) (fun c_10 => ?_)
  · skip
    rw [nI_leI (by omega) (by omega)] at c_10
    have hi : i = (L (cd 1)).length := by omega
    refine lv_iconst (v := 1) hx hb dX8_findsAreInOneSegment_56 (by decide) ?_
    exact W.zret (v := 1) hx hb hr (by rfl) (fun t ht hW => ⟨⟨1, (), rfl, rfl, m_wo_out hw ht hW.alike⟩, m_wo_F hw ht⟩) (m_wo_L hw) dX8_findsAreInOneSegment_57
  · skip
    rw [nI_leI (by omega) (by omega)] at c_10
    have hi : i < (L (cd 1)).length := by omega
    refine lv_aload_n hx hb dX8_findsAreInOneSegment_13 rfl (lv_at hl 0 rfl) ?_
    refine g_9_1 (r := some (cd 1)) hx hb hts (by decide +kernel) hown hw hok.1 (hts (.fieldLink RX8 16 "Pirateindex" "log" "Ljava/util/ArrayList;") (by decide +kernel)) hok.2.2.1 dX8_findsAreInOneSegment_14 ?_
    refine lv_iload_n hx hb dX8_findsAreInOneSegment_17 rfl (lv_at hl 1 rfl) ?_
    obtain ⟨ai, ha⟩ : ∃ z, (L (cd 1))[i]? = some z := ⟨_, lg_some hi⟩
    have hka : K ai = 1 := hel1 ai (List.mem_of_getElem? ha)
    refine m_cq (va_runV (As := [.int (nI i)]) (rest := []) ⟨hx, hb, hml, hown, hts⟩ (c_Jx4a65c_get_915e3 l hok.2.2.2.2.2.2.2.2.2.2.2.1 hi) (cwV 1 hts gX8_findsAreInOneSegment_Jx4a65c_get_915e3 rfl rfl rfl (by decide +kernel) ⟨Nat.le_of_ble_eq_true rfl, Nat.le_of_ble_eq_true rfl⟩) ⟨m_blind m_B_calling, m_recv hw (m_ent_11 hok.2.2.2.2.2.2.2.2.2.2.2.1) rfl, fun U hU hW => ⟨rfl, m_wo_call hw hU hW⟩⟩ rfl rfl hl.1 rfl (lv_room (Nat.le_of_ble_eq_true rfl)) dX8_findsAreInOneSegment_18 ⟨Nat.le_of_ble_eq_true rfl, Nat.le_of_ble_eq_true rfl⟩) hw (fun r_18 u_18 H locs hp_18 hw => ?_)
    obtain rfl : r_18 = some ai := hp_18.trans ha
    refine va_castS hx hb hown (hts (.classLink RX8 95 "Pirateindex$Find") (by decide +kernel)) (hw.1.1 5 _ rfl).2 (m_recv hw (m_ent_1 hka) rfl) dX8_findsAreInOneSegment_21 ?_
    refine lv_astore_n (lv' := [(2, .ref ai), (0, .ref o), (1, .int (nI i))]) hx hb dX8_findsAreInOneSegment_24 rfl hl (by decide) rfl (fun ls hl => ?_)
    refine lv_aload_n hx hb dX8_findsAreInOneSegment_25 rfl (lv_at hl 1 rfl) ?_
    refine g_9_4 (r := some (cd 4)) hx hb hts (by decide +kernel) hown hw hok.1 (hts (.fieldLink RX8 36 "Pirateindex" "shelf" "LPirateindex$Shelf;") (by decide +kernel)) hok.2.2.2.2.2.1 dX8_findsAreInOneSegment_26 ?_
    refine lv_aload_n hx hb dX8_findsAreInOneSegment_29 rfl (lv_at hl 0 rfl) ?_
    refine m_ci (va_runV (As := [.ref ai]) (rest := []) ⟨hx, hb, hml, hown, hts⟩ (c_X5_timesHeld l hok.2.2.2.2.2.2.2.2.2.2.2.2.2.2.1 hok.2.2.2.2.2.2.2.2.2.2.2.2.2.2.2.2.2.2.2.2.2.2.2.2.2.2.1 hok.2.2.2.2.2.2.2.2.2.2.2.2.2.2.2.2.2.2.2.2.1 hel5 hsg) (cwV 1 hts gX8_findsAreInOneSegment_X5_timesHeld rfl rfl rfl (by decide +kernel) ⟨Nat.le_of_ble_eq_true rfl, Nat.le_of_ble_eq_true rfl⟩) ⟨m_blind m_B_calling, m_recv hw (m_ent_6 hok.2.2.2.2.2.2.2.2.2.2.2.2.2.2.1) rfl, fun U hU hW => ⟨rfl, m_wo_call hw hU hW⟩⟩ rfl rfl hl.1 rfl (lv_room (Nat.le_of_ble_eq_true rfl)) dX8_findsAreInOneSegment_30 ⟨Nat.le_of_ble_eq_true rfl, Nat.le_of_ble_eq_true rfl⟩) hw (fun r_30 u_30 H locs hp_30 hw => ?_)
    obtain rfl : r_30 = nI ((c_all R L (L (cd 10))).count ai) := hp_30
    refine lv_aload_n hx hb dX8_findsAreInOneSegment_33 rfl (lv_at hl 0 rfl) ?_
    refine g_1_5 (r := (R 15 ai)) hx hb hts (by decide +kernel) hown hw hka (hts (.fieldLink RX8 205 "Pirateindex$Find" "segment" "LPirateindex$Segment;") (by decide +kernel)) rfl dX8_findsAreInOneSegment_34 ?_
    refine m_ifnonnullQ (tgt := 44) hx hb dX8_findsAreInOneSegment_37 (by decide) (fun c_37 => ?_) (fun z_37 c_37 => ?_)
    · skip
      refine lv_iconst (v := 0) hx hb dX8_findsAreInOneSegment_40 (by decide) ?_
      refine lv_goto (tgt := 45) hx hb dX8_findsAreInOneSegment_41 (by decide) ?_
      refine lv_icmp_eq (tgt := 50) hx hb dX8_findsAreInOneSegment_45 (by decide) (fun c_45 => ?_) (fun c_45 => ?_)
      · skip
        refine lv_iinc (v := nI (i + 1)) (lv' := [(1, .int (nI (i + 1))), (2, .ref ai), (0, .ref o)]) hx hb dX8_findsAreInOneSegment_50 hl (k := 2) rfl (nI_1 _) (by decide) rfl (fun ls hl => ?_)
        refine lv_goto (tgt := 2) hx hb dX8_findsAreInOneSegment_53 (by decide) ?_
        exact ih (i + 1) _ _ _ (by omega) ⟨(by omega), hw, lv_sub hl [2, 0] rfl⟩
      · skip
        exact absurd (by rw [hcnt ai (List.mem_of_getElem? ha), c_37]; rfl) c_45
    · skip
      refine lv_iconst (v := 1) hx hb dX8_findsAreInOneSegment_44 (by decide) ?_
      refine lv_icmp_eq (tgt := 50) hx hb dX8_findsAreInOneSegment_45 (by decide) (fun c_45 => ?_) (fun c_45 => ?_)
      · skip
        refine lv_iinc (v := nI (i + 1)) (lv' := [(1, .int (nI (i + 1))), (2, .ref ai), (0, .ref o)]) hx hb dX8_findsAreInOneSegment_50 hl (k := 2) rfl (nI_1 _) (by decide) rfl (fun ls hl => ?_)
        refine lv_goto (tgt := 2) hx hb dX8_findsAreInOneSegment_53 (by decide) ?_
        exact ih (i + 1) _ _ _ (by omega) ⟨(by omega), hw, lv_sub hl [2, 0] rfl⟩
      · skip
        exact absurd (by rw [hcnt ai (List.mem_of_getElem? ha), c_37]; rfl) c_45
set_option maxHeartbeats 400000 in
set_option maxRecDepth 100000 in
theorem c_X8_postingsAreUnstruck (l : Launch) {G : mG} {K : Nat → Nat} {I : Nat → Nat → Int32} {R : Nat → Nat → Option Nat} {F : Nat → UInt32} {A : Nat → Nat → Int32} {N : Nat → Nat} {L : Nat → List Nat} {T : Nat → List Int32} {J : Nat → Nat → Int64} {D : Nat → Nat → UInt64} {o : Nat} {cd : Nat → Nat}  (hok : c_ok K R N o cd) (hel9 : ∀ a, a ∈ L (cd 9) → K a = 1) (hps9 : c_pst I R (L (cd 9))) : Met l yX8_postingsAreUnstruck wsX8_postingsAreUnstruck ({ frames := 4, cells := 0, slots := 0, locals := 140 } : Room) (va_Pc [.ref o] (m_B G K I R F A N L T J D)) (va_Qi (fun (r : Int32) (_ : Unit) => r = 1) (fun u : Unit => m_B G K I R F A N L T J D) (m_A G)) 0 0 (m_A G) := by
  refine Met.ofW (cc := cX8_postingsAreUnstruck) (maxL := 2) (ret := (some .boolean)) (by decide) rfl ?_
  intro p e s m args below meth c s₁ B hml hv
  obtain ⟨rfl, hB⟩ := hv
  have hx := B.exec
  have hb := B.bytes
  have hr := B.returns
  have hts := atoms_spec (ws := wsX8_postingsAreUnstruck) B.pre
  have hown : s.vm.findClass RX8 = some m.cls := findClass_of_methodNamed B.named
  have hlocks := B.notSynchronized
  have hw := m_wo_in hB
  have hl := lv_entry ([.ref o]) (n := 2) (Nat.le_of_ble_eq_true rfl)
  rw [lg_entry_eq]
  generalize (lg_sl ([.ref o]) ++ List.replicate (2 - (lg_sl ([.ref o])).length) Slot.unset).toArray = ls at hl ⊢
  have hl : lv_has ls 2 [(0, .ref o)] := hl
  have hlen := m_len hw hok.2.2.2.2.2.2.2.2.2.2.2.2.2.2.2.2.2.2.2.1
  refine lv_iconst (v := 0) hx hb dX8_postingsAreUnstruck_0 (by decide) ?_
  refine lv_istore_n (lv' := [(1, .int 0), (0, .ref o)]) hx hb dX8_postingsAreUnstruck_1 rfl hl (by decide) rfl (fun ls hl => ?_)
  refine m_loop (σ := Nat) (fun a => (L (cd 9)).length - (a)) (fun a H locs ls => ((a) ≤ (L (cd 9)).length) ∧ m_wo G K I R F A N L T J D s H locs ∧ lv_has ls 2 [(0, .ref o), (1, .int (nI (a)))]) ?_ (0) ⟨Nat.zero_le _, hw, lv_sub hl [1, 0] rfl⟩
  rintro i H locs ls ⟨hinv, hw, hl⟩ ih
  try dsimp only at hinv hw hl
  have hi0 := hinv
  refine lv_iload_n hx hb dX8_postingsAreUnstruck_2 rfl (lv_at hl 1 rfl) ?_
  refine lv_aload_n hx hb dX8_postingsAreUnstruck_3 rfl (lv_at hl 0 rfl) ?_
  refine g_9_2 (r := some (cd 2)) hx hb hts (by decide +kernel) hown hw hok.1 (hts (.fieldLink RX8 22 "Pirateindex" "index" "LPirateindex$Index;") (by decide +kernel)) hok.2.2.2.1 dX8_postingsAreUnstruck_4 ?_
  refine g_2_0 (r := some (cd 9)) hx hb hts (by decide +kernel) hown hw hok.2.2.2.2.2.2.2.2.2.2.2.2.1 (hts (.fieldLink RX8 388 "Pirateindex$Index" "row" "Ljava/util/ArrayList;") (by decide +kernel)) hok.2.2.2.2.2.2.2.2.2.2.2.2.2.2.2.2.2.2.2.2.2.2.2.2.2.1 dX8_postingsAreUnstruck_7 ?_
  refine m_ci (va_runV (As := []) (rest := [.int (nI i)]) ⟨hx, hb, hml, hown, hts⟩ (c_Jx4a65c_size_8abf5 l hok.2.2.2.2.2.2.2.2.2.2.2.2.2.2.2.2.2.2.2.1) (cwV 0 hts gX8_postingsAreUnstruck_Jx4a65c_size_8abf5 rfl rfl rfl (by decide +kernel) ⟨Nat.le_of_ble_eq_true rfl, Nat.le_of_ble_eq_true rfl⟩) ⟨m_blind m_B_calling, m_recv hw (m_ent_11 hok.2.2.2.2.2.2.2.2.2.2.2.2.2.2.2.2.2.2.2.1) rfl, fun U hU hW => ⟨rfl, m_wo_call hw hU hW⟩⟩ rfl rfl hl.1 rfl (lv_room (Nat.le_of_ble_eq_true rfl)) dX8_postingsAreUnstruck_10 ⟨Nat.le_of_ble_eq_true rfl, Nat.le_of_ble_eq_true rfl⟩) hw (fun r_10 u_10 H locs hp_10 hw => ?_)
  obtain rfl : r_10 = (nI (L (cd 9)).length) := hp_10
  refine lv_icmp_ge (tgt := 44) hx hb dX8_postingsAreUnstruck_13 (by decide) (fun c_13 => ?_) (fun c_13 => ?_)
  · skip
    rw [nI_leI (by omega) (by omega)] at c_13
    have hi : i = (L (cd 9)).length := by omega
    refine lv_iconst (v := 1) hx hb dX8_postingsAreUnstruck_44 (by decide) ?_
    exact W.zret (v := 1) hx hb hr (by rfl) (fun t ht hW => ⟨⟨1, (), rfl, rfl, m_wo_out hw ht hW.alike⟩, m_wo_F hw ht⟩) (m_wo_L hw) dX8_postingsAreUnstruck_45
  · skip
    rw [nI_leI (by omega) (by omega)] at c_13
    have hi : i < (L (cd 9)).length := by omega
    refine lv_aload_n hx hb dX8_postingsAreUnstruck_16 rfl (lv_at hl 0 rfl) ?_
    refine g_9_2 (r := some (cd 2)) hx hb hts (by decide +kernel) hown hw hok.1 (hts (.fieldLink RX8 22 "Pirateindex" "index" "LPirateindex$Index;") (by decide +kernel)) hok.2.2.2.1 dX8_postingsAreUnstruck_17 ?_
    refine g_2_0 (r := some (cd 9)) hx hb hts (by decide +kernel) hown hw hok.2.2.2.2.2.2.2.2.2.2.2.2.1 (hts (.fieldLink RX8 388 "Pirateindex$Index" "row" "Ljava/util/ArrayList;") (by decide +kernel)) hok.2.2.2.2.2.2.2.2.2.2.2.2.2.2.2.2.2.2.2.2.2.2.2.2.2.1 dX8_postingsAreUnstruck_20 ?_
    refine lv_iload_n hx hb dX8_postingsAreUnstruck_23 rfl (lv_at hl 1 rfl) ?_
    obtain ⟨ai, ha⟩ : ∃ z, (L (cd 9))[i]? = some z := ⟨_, lg_some hi⟩
    have hka : K ai = 1 := hel9 ai (List.mem_of_getElem? ha)
    refine m_cq (va_runV (As := [.int (nI i)]) (rest := []) ⟨hx, hb, hml, hown, hts⟩ (c_Jx4a65c_get_915e3 l hok.2.2.2.2.2.2.2.2.2.2.2.2.2.2.2.2.2.2.2.1 hi) (cwV 1 hts gX8_postingsAreUnstruck_Jx4a65c_get_915e3 rfl rfl rfl (by decide +kernel) ⟨Nat.le_of_ble_eq_true rfl, Nat.le_of_ble_eq_true rfl⟩) ⟨m_blind m_B_calling, m_recv hw (m_ent_11 hok.2.2.2.2.2.2.2.2.2.2.2.2.2.2.2.2.2.2.2.1) rfl, fun U hU hW => ⟨rfl, m_wo_call hw hU hW⟩⟩ rfl rfl hl.1 rfl (lv_room (Nat.le_of_ble_eq_true rfl)) dX8_postingsAreUnstruck_24 ⟨Nat.le_of_ble_eq_true rfl, Nat.le_of_ble_eq_true rfl⟩) hw (fun r_24 u_24 H locs hp_24 hw => ?_)
    obtain rfl : r_24 = some ai := hp_24.trans ha
    refine va_castS hx hb hown (hts (.classLink RX8 95 "Pirateindex$Find") (by decide +kernel)) (hw.1.1 5 _ rfl).2 (m_recv hw (m_ent_1 hka) rfl) dX8_postingsAreUnstruck_27 ?_
    refine g_1_6 hx hb hts (by decide +kernel) hown hw hka (hts (.fieldLink RX8 296 "Pirateindex$Find" "struck" "Z") (by decide +kernel)) dX8_postingsAreUnstruck_30 ?_
    rw [(hps9 ai (List.mem_of_getElem? ha)).2]
    refine lv_if_eq (tgt := 38) hx hb dX8_postingsAreUnstruck_33 (by decide) (fun c_33 => ?_) (fun c_33 => absurd (by decide) c_33)
    refine lv_iinc (v := nI (i + 1)) (lv' := [(1, .int (nI (i + 1))), (0, .ref o)]) hx hb dX8_postingsAreUnstruck_38 hl (k := 1) rfl (nI_1 _) (by decide) rfl (fun ls hl => ?_)
    refine lv_goto (tgt := 2) hx hb dX8_postingsAreUnstruck_41 (by decide) ?_
    exact ih (i + 1) _ _ _ (by omega) ⟨(by omega), hw, lv_sub hl [1, 0] rfl⟩
set_option maxHeartbeats 400000 in
set_option maxRecDepth 100000 in
theorem c_X8_pursesHold (l : Launch) {G : mG} {K : Nat → Nat} {I : Nat → Nat → Int32} {R : Nat → Nat → Option Nat} {F : Nat → UInt32} {A : Nat → Nat → Int32} {N : Nat → Nat} {L : Nat → List Nat} {T : Nat → List Int32} {J : Nat → Nat → Int64} {D : Nat → Nat → UInt64} {o : Nat} {cd : Nat → Nat}  (hok : c_ok K R N o cd) (hel7 : ∀ a, a ∈ L (cd 5) → K a = 7) (hpu : ∀ a, a ∈ L (cd 5) → 0 ≤ I 72 a) : Met l yX8_pursesHold wsX8_pursesHold ({ frames := 3, cells := 0, slots := 0, locals := 100 } : Room) (va_Pc [.ref o] (m_B G K I R F A N L T J D)) (va_Qi (fun (r : Int32) (_ : Unit) => r = 1) (fun u : Unit => m_B G K I R F A N L T J D) (m_A G)) 0 0 (m_A G) := by
  refine Met.ofW (cc := cX8_pursesHold) (maxL := 2) (ret := (some .boolean)) (by decide) rfl ?_
  intro p e s m args below meth c s₁ B hml hv
  obtain ⟨rfl, hB⟩ := hv
  have hx := B.exec
  have hb := B.bytes
  have hr := B.returns
  have hts := atoms_spec (ws := wsX8_pursesHold) B.pre
  have hown : s.vm.findClass RX8 = some m.cls := findClass_of_methodNamed B.named
  have hlocks := B.notSynchronized
  have hw := m_wo_in hB
  have hl := lv_entry ([.ref o]) (n := 2) (Nat.le_of_ble_eq_true rfl)
  rw [lg_entry_eq]
  generalize (lg_sl ([.ref o]) ++ List.replicate (2 - (lg_sl ([.ref o])).length) Slot.unset).toArray = ls at hl ⊢
  have hl : lv_has ls 2 [(0, .ref o)] := hl
  have hlen := m_len hw hok.2.2.2.2.2.2.2.2.2.2.2.2.2.2.2.1
  refine lv_iconst (v := 0) hx hb dX8_pursesHold_0 (by decide) ?_
  refine lv_istore_n (lv' := [(1, .int 0), (0, .ref o)]) hx hb dX8_pursesHold_1 rfl hl (by decide) rfl (fun ls hl => ?_)
  refine m_loop (σ := Nat) (fun a => (L (cd 5)).length - (a)) (fun a H locs ls => ((a) ≤ (L (cd 5)).length) ∧ m_wo G K I R F A N L T J D s H locs ∧ lv_has ls 2 [(0, .ref o), (1, .int (nI (a)))]) ?_ (0) ⟨Nat.zero_le _, hw, lv_sub hl [1, 0] rfl⟩
  rintro i H locs ls ⟨hinv, hw, hl⟩ ih
  try dsimp only at hinv hw hl
  have hi0 := hinv
  refine lv_iload_n hx hb dX8_pursesHold_2 rfl (lv_at hl 1 rfl) ?_
  refine lv_aload_n hx hb dX8_pursesHold_3 rfl (lv_at hl 0 rfl) ?_
  refine g_9_5 (r := some (cd 5)) hx hb hts (by decide +kernel) hown hw hok.1 (hts (.fieldLink RX8 40 "Pirateindex" "fleet" "Ljava/util/ArrayList;") (by decide +kernel)) hok.2.2.2.2.2.2.1 dX8_pursesHold_4 ?_
  refine m_ci (va_runV (As := []) (rest := [.int (nI i)]) ⟨hx, hb, hml, hown, hts⟩ (c_Jx4a65c_size_8abf5 l hok.2.2.2.2.2.2.2.2.2.2.2.2.2.2.2.1) (cwV 0 hts gX8_pursesHold_Jx4a65c_size_8abf5 rfl rfl rfl (by decide +kernel) ⟨Nat.le_of_ble_eq_true rfl, Nat.le_of_ble_eq_true rfl⟩) ⟨m_blind m_B_calling, m_recv hw (m_ent_11 hok.2.2.2.2.2.2.2.2.2.2.2.2.2.2.2.1) rfl, fun U hU hW => ⟨rfl, m_wo_call hw hU hW⟩⟩ rfl rfl hl.1 rfl (lv_room (Nat.le_of_ble_eq_true rfl)) dX8_pursesHold_7 ⟨Nat.le_of_ble_eq_true rfl, Nat.le_of_ble_eq_true rfl⟩) hw (fun r_7 u_7 H locs hp_7 hw => ?_)
  obtain rfl : r_7 = (nI (L (cd 5)).length) := hp_7
  refine lv_icmp_ge (tgt := 38) hx hb dX8_pursesHold_10 (by decide) (fun c_10 => ?_) (fun c_10 => ?_)
  · skip
    rw [nI_leI (by omega) (by omega)] at c_10
    have hi : i = (L (cd 5)).length := by omega
    refine lv_iconst (v := 1) hx hb dX8_pursesHold_38 (by decide) ?_
    exact W.zret (v := 1) hx hb hr (by rfl) (fun t ht hW => ⟨⟨1, (), rfl, rfl, m_wo_out hw ht hW.alike⟩, m_wo_F hw ht⟩) (m_wo_L hw) dX8_pursesHold_39
  · skip
    rw [nI_leI (by omega) (by omega)] at c_10
    have hi : i < (L (cd 5)).length := by omega
    refine lv_aload_n hx hb dX8_pursesHold_13 rfl (lv_at hl 0 rfl) ?_
    refine g_9_5 (r := some (cd 5)) hx hb hts (by decide +kernel) hown hw hok.1 (hts (.fieldLink RX8 40 "Pirateindex" "fleet" "Ljava/util/ArrayList;") (by decide +kernel)) hok.2.2.2.2.2.2.1 dX8_pursesHold_14 ?_
    refine lv_iload_n hx hb dX8_pursesHold_17 rfl (lv_at hl 1 rfl) ?_
    obtain ⟨ai, ha⟩ : ∃ z, (L (cd 5))[i]? = some z := ⟨_, lg_some hi⟩
    have hka : K ai = 7 := hel7 ai (List.mem_of_getElem? ha)
    refine m_cq (va_runV (As := [.int (nI i)]) (rest := []) ⟨hx, hb, hml, hown, hts⟩ (c_Jx4a65c_get_915e3 l hok.2.2.2.2.2.2.2.2.2.2.2.2.2.2.2.1 hi) (cwV 1 hts gX8_pursesHold_Jx4a65c_get_915e3 rfl rfl rfl (by decide +kernel) ⟨Nat.le_of_ble_eq_true rfl, Nat.le_of_ble_eq_true rfl⟩) ⟨m_blind m_B_calling, m_recv hw (m_ent_11 hok.2.2.2.2.2.2.2.2.2.2.2.2.2.2.2.1) rfl, fun U hU hW => ⟨rfl, m_wo_call hw hU hW⟩⟩ rfl rfl hl.1 rfl (lv_room (Nat.le_of_ble_eq_true rfl)) dX8_pursesHold_18 ⟨Nat.le_of_ble_eq_true rfl, Nat.le_of_ble_eq_true rfl⟩) hw (fun r_18 u_18 H locs hp_18 hw => ?_)
    obtain rfl : r_18 = some ai := hp_18.trans ha
    refine va_castS hx hb hown (hts (.classLink RX8 112 "Pirateindex$Ship") (by decide +kernel)) (hw.1.1 11 _ rfl).2 (m_recv hw (m_ent_7 hka) rfl) dX8_pursesHold_21 ?_
    refine g_7_2 hx hb hts (by decide +kernel) hown hw hka (hts (.fieldLink RX8 125 "Pirateindex$Ship" "purse" "I") (by decide +kernel)) dX8_pursesHold_24 ?_
    refine lv_if_ge (tgt := 32) hx hb dX8_pursesHold_27 (by decide) (fun c_27 => ?_) (fun c_27 => ?_)
    · skip
      refine lv_iinc (v := nI (i + 1)) (lv' := [(1, .int (nI (i + 1))), (0, .ref o)]) hx hb dX8_pursesHold_32 hl (k := 1) rfl (nI_1 _) (by decide) rfl (fun ls hl => ?_)
      refine lv_goto (tgt := 2) hx hb dX8_pursesHold_35 (by decide) ?_
      exact ih (i + 1) _ _ _ (by omega) ⟨(by omega), hw, lv_sub hl [1, 0] rfl⟩
    · skip
      exact absurd (hpu ai (List.mem_of_getElem? ha)) c_27
set_option maxHeartbeats 1600000 in
set_option maxRecDepth 100000 in
theorem c_X8_hitsAgree (l : Launch) {G : mG} {K : Nat → Nat} {I : Nat → Nat → Int32} {R : Nat → Nat → Option Nat} {F : Nat → UInt32} {A : Nat → Nat → Int32} {N : Nat → Nat} {L : Nat → List Nat} {T : Nat → List Int32} {J : Nat → Nat → Int64} {D : Nat → Nat → UInt64} {o : Nat} {cd : Nat → Nat} {n : Nat} (hok : c_ok K R N o cd) (hel0 : ∀ a, a ∈ L (cd 0) → K a = 3) (hel5 : ∀ a, a ∈ L (cd 10) → K a = 5) (hsg : ∀ a, a ∈ L (cd 10) → ∃ fl, R 51 a = some fl ∧ K fl = 11 ∧ ∀ b, b ∈ L fl → K b = 1) (hag : ∀ q : Nat → Bool, ((c_all R L (L (cd 10))).filter (c_us I)).countP q = (L (cd 9)).countP q) (hph : c_ph K R N I A (cd 6) (cd 13) (cd 14) n) (hrw : c_rwd K I R (L (cd 9))) (hcg : m_cap R N (cd 8) ≤ 1000) (hgf : ∀ a, a ∈ L (cd 10) → R 51 a ≠ some (cd 8)) (h120 : (c_all R L (L (cd 10))).length ≤ 120) (hcp : ∀ a, a ∈ c_all R L (L (cd 10)) → ∃ p, p < 41 ∧ I 13 a = nI p) (hc15 : ∀ a, a ∈ c_all R L (L (cd 10)) → R 15 a ≠ none) : Met l yX8_hitsAgree wsX8_hitsAgree ({ frames := 10, cells := 120, slots := 1000, locals := 420 } : Room) (va_Pc [.ref o] (m_B G K I R F A N L T J D)) (va_Qi (fun (r : Int32) (u : (Nat → Nat) × (Nat → Nat → Int32) × (Nat → Nat → Option Nat) × (Nat → Nat) × (Nat → List Nat) × (Nat → Nat → Int32)) => r = 1 ∧ c_chg K I R N u.1 u.2.1 u.2.2.1 u.2.2.2.1 c_no c_no ∧ u.2.2.2.2.1 = m_up L (cd 8) ((c_all R L (L (cd 10))).filter (c_us I)) ∧ m_cap u.2.2.1 u.2.2.2.1 (cd 8) ≤ 1000 ∧ (∀ b, b ≠ cd 11 → b ≠ cd 12 → u.2.2.2.2.2 b = A b)) (fun u : (Nat → Nat) × (Nat → Nat → Int32) × (Nat → Nat → Option Nat) × (Nat → Nat) × (Nat → List Nat) × (Nat → Nat → Int32) => m_B G (u.1) (u.2.1) (u.2.2.1) F (u.2.2.2.2.2) (u.2.2.2.1) (u.2.2.2.2.1) T J D) (m_A G)) 120 1000 (m_A G) := by
  refine Met.ofW (cc := cX8_hitsAgree) (maxL := 3) (ret := (some .boolean)) (by decide) rfl ?_
  intro p e s m args below meth c s₁ B hml hv
  obtain ⟨rfl, hB⟩ := hv
  have hx := B.exec
  have hb := B.bytes
  have hr := B.returns
  have hts := atoms_spec (ws := wsX8_hitsAgree) B.pre
  have hown : s.vm.findClass RX8 = some m.cls := findClass_of_methodNamed B.named
  have hlocks := B.notSynchronized
  have hw := m_wo_in hB
  have hl := lv_entry ([.ref o]) (n := 3) (Nat.le_of_ble_eq_true rfl)
  rw [lg_entry_eq]
  generalize (lg_sl ([.ref o]) ++ List.replicate (3 - (lg_sl ([.ref o])).length) Slot.unset).toArray = ls at hl ⊢
  have hl : lv_has ls 3 [(0, .ref o)] := hl
  have hlen := m_len hw hok.2.2.2.2.2.2.2.2.2.2.1
  have hnw : cd 13 ≠ cd 11 ∧ cd 13 ≠ cd 12 ∧ cd 14 ≠ cd 11 ∧ cd 14 ≠ cd 12 := c_dw hok
  have hok0 := hok
  have hcek : ∀ a, a ∈ c_all R L (L (cd 10)) → K a = 1 := fun a ha => by
    obtain ⟨x, hx1, hx2⟩ := (c_all_mem R L).mp ha
    obtain ⟨fl, h1, h2, h3⟩ := hsg x hx1
    rw [h1] at hx2
    exact h3 a hx2
  refine lv_aload_n hx hb dX8_hitsAgree_0 rfl (lv_at hl 0 rfl) ?_
  refine g_9_4 (r := some (cd 4)) hx hb hts (by decide +kernel) hown hw hok.1 (hts (.fieldLink RX8 36 "Pirateindex" "shelf" "LPirateindex$Shelf;") (by decide +kernel)) hok.2.2.2.2.2.1 dX8_hitsAgree_1 ?_
  refine lv_aload_n hx hb dX8_hitsAgree_4 rfl (lv_at hl 0 rfl) ?_
  refine g_9_8 (r := some (cd 8)) hx hb hts (by decide +kernel) hown hw hok.1 (hts (.fieldLink RX8 57 "Pirateindex" "gathered" "Ljava/util/ArrayList;") (by decide +kernel)) hok.2.2.2.2.2.2.2.2.2.1 dX8_hitsAgree_5 ?_
  refine m_cv (va_runV (As := [.ref (cd 8)]) (rest := []) ⟨hx, hb, hml, hown, hts⟩ (c_X5_gatherUnstruck l hok.2.2.2.2.2.2.2.2.2.2.2.2.2.2.1 hok.2.2.2.2.2.2.2.2.2.2.2.2.2.2.2.2.2.2.2.2.2.2.2.2.2.2.1 hok.2.2.2.2.2.2.2.2.2.2.2.2.2.2.2.2.2.2.2.2.1 hel5 hok.2.2.2.2.2.2.2.2.2.2.2.2.2.2.2.2.2.2.1 hok.2.2.2.2.2.2.2.2.2.2.2.2.2.2.2.2.2.2.2.2.2.2.2.2.2.2.2.2.2.2.2.2.2.2.2.2.2.2.1 hok.2.2.2.2.2.2.2.2.2.2.2.2.2.2.2.2.2.2.2.2.2.2.2.2.2.2.2.2.2.2.2.2.2.2.2.2.2.2.2.2.2.2.2.2.2.2.2.2.2.2.2.2.2.2.2.1 hcg hsg hgf h120) (cwV 1 hts gX8_hitsAgree_X5_gatherUnstruck rfl rfl rfl (by decide +kernel) ⟨Nat.le_of_ble_eq_true rfl, Nat.le_of_ble_eq_true rfl⟩) ⟨m_blind m_B_calling, m_recv hw (m_ent_6 hok.2.2.2.2.2.2.2.2.2.2.2.2.2.2.1) rfl, fun U hU hW => ⟨rfl, m_wo_call hw hU hW⟩⟩ rfl rfl hl.1 rfl (lv_room (Nat.le_of_ble_eq_true rfl)) dX8_hitsAgree_8 ⟨Nat.le_of_ble_eq_true rfl, Nat.le_of_ble_eq_true rfl⟩) hw (fun u_8 H locs hp_8 hw => ?_)
  obtain ⟨K_1, I_2, R_3, N_4, L_5⟩ := u_8
  have hw : m_wo G K_1 I_2 R_3 F A N_4 L_5 T J D s H locs := hw
  dsimp only at hp_8
  obtain ⟨hcs, eL1, hcap1⟩ := hp_8
  have hok := c_ok_chg hok0 hcs (fun _ _ h => absurd h id)
  have hL0 : L_5 (cd 0) = L (cd 0) := by rw [eL1, m_up_ne _ _ hok0.2.2.2.2.2.2.2.2.2.2.2.2.2.2.2.2.2.2.2.2.2.2.2.2.2.2.2.2.2.2.2.2.2.2.2.2.2.2.2.2.2.2.2.2.1]
  have hL9 : L_5 (cd 9) = L (cd 9) := by rw [eL1, m_up_ne _ _ (Ne.symm hok0.2.2.2.2.2.2.2.2.2.2.2.2.2.2.2.2.2.2.2.2.2.2.2.2.2.2.2.2.2.2.2.2.2.2.2.2.2.2.2.2.2.2.2.2.2.2.2.2.2.2.2.2.2.2.1)]
  have hL8 : L_5 (cd 8) = (c_all R L (L (cd 10))).filter (c_us I) := by rw [eL1, m_up_self]
  have hph0 := c_ph_chg hph hcs
  have hI : ∀ f b, K b ≠ 0 → K b ≠ 40 → f ≠ 110 → I_2 f b = I f b := fun f b h0 h4 hf => (hcs b h0 h4).2.2.1 f hf id
  have hps : ∀ a, K a = 1 → R 15 a ≠ none → I 16 a = 0 → R_3 15 a ≠ none ∧ I_2 16 a = 0 := fun a ha h1 h2 => ⟨by rw [(hcs a (by rw [ha]; decide) (by rw [ha]; decide)).2.2.2.1 15 (by decide) (by decide) id]; exact h1, by rw [hI 16 a (by rw [ha]; decide) (by rw [ha]; decide) (by decide)]; exact h2⟩
  have hrwd : c_rwd K_1 I_2 R_3 (L (cd 9)) := ⟨fun a ha => c_kk hcs (hrw.1 a ha) (by decide) (by decide), fun a ha => by rw [hI 13 a (by rw [hrw.1 a ha]; decide) (by rw [hrw.1 a ha]; decide) (by decide)]; exact hrw.2.1 a ha, fun a ha => hps a (hrw.1 a ha) (hrw.2.2 a ha).1 (hrw.2.2 a ha).2⟩
  have hcm : ∀ a, a ∈ (c_all R L (L (cd 10))).filter (c_us I) → a ∈ c_all R L (L (cd 10)) ∧ I 16 a = 0 := fun a ha => ⟨(List.mem_filter.mp ha).1, of_decide_eq_true (List.mem_filter.mp ha).2⟩
  have hgwd : c_rwd K_1 I_2 R_3 ((c_all R L (L (cd 10))).filter (c_us I)) := ⟨fun a ha => c_kk hcs (hcek a (hcm a ha).1) (by decide) (by decide), fun a ha => by rw [hI 13 a (by rw [hcek a (hcm a ha).1]; decide) (by rw [hcek a (hcm a ha).1]; decide) (by decide)]; exact hcp a (hcm a ha).1, fun a ha => hps a (hcek a (hcm a ha).1) (hc15 a (hcm a ha).1) (hcm a ha).2⟩
  have hsame : ∀ (A9 : Nat → Nat → Int32) (isl : Int32), c_hit I_2 R_3 A9 ((c_all R L (L (cd 10))).filter (c_us I)) (cd 13) (cd 14) n isl = c_hit I_2 R_3 A9 (L (cd 9)) (cd 13) (cd 14) n isl := fun A9 isl => c_hit_same hag
  have hel0' : ∀ a, a ∈ L (cd 0) → K_1 a = 3 := fun a ha => c_kk hcs (hel0 a ha) (by decide) (by decide)
  refine lv_iconst (v := 0) hx hb dX8_hitsAgree_11 (by decide) ?_
  refine lv_istore_n (lv' := [(1, .int 0), (0, .ref o)]) hx hb dX8_hitsAgree_12 rfl hl (by decide) rfl (fun ls hl => ?_)
  refine m_loop (σ := Nat × (Nat → Nat → Int32)) (fun a => (L (cd 0)).length - (a.1)) (fun a H locs ls => ((a.1) ≤ (L (cd 0)).length ∧ ∀ b9, b9 ≠ cd 11 → b9 ≠ cd 12 → (a.2) b9 = A b9) ∧ m_wo G K_1 I_2 R_3 F (a.2) N_4 L_5 T J D s H locs ∧ lv_has ls 3 [(0, .ref o), (1, .int (nI (a.1)))]) ?_ (0, A) ⟨⟨Nat.zero_le _, fun _ _ _ => rfl⟩, hw, lv_sub hl [1, 0] rfl⟩
  rintro ⟨i, Aa⟩ H locs ls ⟨hinv, hw, hl⟩ ih
  dsimp only at hinv hw hl
  obtain ⟨hi0, hA0⟩ := hinv
  have hph1 : c_ph K_1 R_3 N_4 I_2 Aa (cd 6) (cd 13) (cd 14) n := c_ph_A hph0 (hA0 _ hnw.2.2.1 hnw.2.2.2)
  refine lv_iload_n hx hb dX8_hitsAgree_13 rfl (lv_at hl 1 rfl) ?_
  refine lv_aload_n hx hb dX8_hitsAgree_14 rfl (lv_at hl 0 rfl) ?_
  refine g_9_0 (r := some (cd 0)) hx hb hts (by decide +kernel) hown hw hok.1 (hts (.fieldLink RX8 10 "Pirateindex" "isles" "Ljava/util/ArrayList;") (by decide +kernel)) hok.2.1 dX8_hitsAgree_15 ?_
  refine m_ci (va_runV (As := []) (rest := [.int (nI i)]) ⟨hx, hb, hml, hown, hts⟩ (c_Jx4a65c_size_8abf5 l hok.2.2.2.2.2.2.2.2.2.2.1) (cwV 0 hts gX8_hitsAgree_Jx4a65c_size_8abf5 rfl rfl rfl (by decide +kernel) ⟨Nat.le_of_ble_eq_true rfl, Nat.le_of_ble_eq_true rfl⟩) ⟨m_blind m_B_calling, m_recv hw (m_ent_11 hok.2.2.2.2.2.2.2.2.2.2.1) rfl, fun U hU hW => ⟨rfl, m_wo_call hw hU hW⟩⟩ rfl rfl hl.1 rfl (lv_room (Nat.le_of_ble_eq_true rfl)) dX8_hitsAgree_18 ⟨Nat.le_of_ble_eq_true rfl, Nat.le_of_ble_eq_true rfl⟩) hw (fun r_18 u_18 H locs hp_18 hw => ?_)
  obtain rfl : r_18 = nI (L (cd 0)).length := hp_18.trans (congrArg (fun z => nI (List.length z)) hL0)
  refine lv_icmp_ge (tgt := 75) hx hb dX8_hitsAgree_21 (by decide) (fun c_21 => ?_) (fun c_21 => ?_)
  · skip
    rw [nI_leI (by omega) (by omega)] at c_21
    have hi : i = (L (cd 0)).length := by omega
    refine lv_iconst (v := 1) hx hb dX8_hitsAgree_75 (by decide) ?_
    exact W.zret (v := 1) hx hb hr (by rfl) (fun t ht hW => ⟨⟨1, (K_1, I_2, R_3, N_4, L_5, Aa), rfl, ⟨rfl, hcs, eL1, hcap1, hA0⟩, m_wo_out hw ht hW.alike⟩, m_wo_F hw ht⟩) (m_wo_L hw) dX8_hitsAgree_76
  · skip
    rw [nI_leI (by omega) (by omega)] at c_21
    have hi : i < (L (cd 0)).length := by omega
    refine lv_aload_n hx hb dX8_hitsAgree_24 rfl (lv_at hl 0 rfl) ?_
    refine g_9_0 (r := some (cd 0)) hx hb hts (by decide +kernel) hown hw hok.1 (hts (.fieldLink RX8 10 "Pirateindex" "isles" "Ljava/util/ArrayList;") (by decide +kernel)) hok.2.1 dX8_hitsAgree_25 ?_
    refine lv_iload_n hx hb dX8_hitsAgree_28 rfl (lv_at hl 1 rfl) ?_
    obtain ⟨ai, ha⟩ : ∃ z, (L (cd 0))[i]? = some z := ⟨_, lg_some hi⟩
    have hka := hel0' ai (List.mem_of_getElem? ha)
    refine m_cq (va_runV (As := [.int (nI i)]) (rest := []) ⟨hx, hb, hml, hown, hts⟩ (c_Jx4a65c_get_915e3 l (i := i) hok.2.2.2.2.2.2.2.2.2.2.1 (by rw [hL0]; exact hi)) (cwV 1 hts gX8_hitsAgree_Jx4a65c_get_915e3 rfl rfl rfl (by decide +kernel) ⟨Nat.le_of_ble_eq_true rfl, Nat.le_of_ble_eq_true rfl⟩) ⟨m_blind m_B_calling, m_recv hw (m_ent_11 hok.2.2.2.2.2.2.2.2.2.2.1) rfl, fun U hU hW => ⟨rfl, m_wo_call hw hU hW⟩⟩ rfl rfl hl.1 rfl (lv_room (Nat.le_of_ble_eq_true rfl)) dX8_hitsAgree_29 ⟨Nat.le_of_ble_eq_true rfl, Nat.le_of_ble_eq_true rfl⟩) hw (fun r_29 u_29 H locs hp_29 hw => ?_)
    obtain rfl : r_29 = some ai := hp_29.trans (by rw [hL0]; exact ha)
    refine va_castS hx hb hown (hts (.classLink RX8 75 "Pirateindex$Isle") (by decide +kernel)) (hw.1.1 7 _ rfl).2 (m_recv hw (m_ent_3 hka) rfl) dX8_hitsAgree_32 ?_
    refine lv_astore_n (lv' := [(2, .ref ai), (0, .ref o), (1, .int (nI i))]) hx hb dX8_hitsAgree_35 rfl hl (by decide) rfl (fun ls hl => ?_)
    refine lv_aload_n hx hb dX8_hitsAgree_36 rfl (lv_at hl 1 rfl) ?_
    refine g_9_3 (r := some (cd 3)) hx hb hts (by decide +kernel) hown hw hok.1 (hts (.fieldLink RX8 29 "Pirateindex" "tally" "LPirateindex$Tally;") (by decide +kernel)) hok.2.2.2.2.1 dX8_hitsAgree_37 ?_
    refine lv_aload_n hx hb dX8_hitsAgree_40 rfl (lv_at hl 1 rfl) ?_
    refine g_9_8 (r := some (cd 8)) hx hb hts (by decide +kernel) hown hw hok.1 (hts (.fieldLink RX8 57 "Pirateindex" "gathered" "Ljava/util/ArrayList;") (by decide +kernel)) hok.2.2.2.2.2.2.2.2.2.1 dX8_hitsAgree_41 ?_
    refine lv_aload_n hx hb dX8_hitsAgree_44 rfl (lv_at hl 1 rfl) ?_
    refine g_9_6 (r := some (cd 6)) hx hb hts (by decide +kernel) hown hw hok.1 (hts (.fieldLink RX8 46 "Pirateindex" "typed" "LPirateindex$Phrase;") (by decide +kernel)) hok.2.2.2.2.2.2.2.1 dX8_hitsAgree_45 ?_
    refine lv_aload_n hx hb dX8_hitsAgree_48 rfl (lv_at hl 0 rfl) ?_
    refine g_3_0 hx hb hts (by decide +kernel) hown hw hka (hts (.fieldLink RX8 84 "Pirateindex$Isle" "number" "I") (by decide +kernel)) dX8_hitsAgree_49 ?_
    refine m_ci (va_runV (As := [.ref (cd 8), .ref (cd 6), .int (I_2 30 ai)]) (rest := []) ⟨hx, hb, hml, hown, hts⟩ (c_X7_choices l hok.2.2.2.2.2.2.2.2.2.2.2.2.2.1 hok.2.2.2.2.2.2.2.2.2.2.2.2.2.2.2.2.2.2.2.2.2.2.2.2.2.2.2.1 hok.2.2.2.2.2.2.2.2.2.2.2.2.2.2.2.2.2.2.2.2.2.1 hok.2.2.2.2.2.2.2.2.2.2.2.2.2.2.2.2.2.2.2.2.2.2.2.2.2.2.2.2.2.2.2.1 hok.2.2.2.2.2.2.2.2.2.2.2.2.2.2.2.2.2.2.2.2.2.2.2.2.2.2.2.2.1 hok.2.2.2.2.2.2.2.2.2.2.2.2.2.2.2.2.2.2.2.2.2.2.1 hok.2.2.2.2.2.2.2.2.2.2.2.2.2.2.2.2.2.2.2.2.2.2.2.2.2.2.2.2.2.2.2.2.1 hok.2.2.2.2.2.2.2.2.2.2.2.2.2.2.2.2.2.2.1 (by rw [hL8]; exact hgwd.1) (by rw [hL8]; exact hgwd.2.1) (by rw [hL8]; exact hgwd.2.2) hph1.1 hph1.2.1 hph1.2.2.1 hph1.2.2.2.1 hph1.2.2.2.2.1 hph1.2.2.2.2.2.1 hph1.2.2.2.2.2.2.1 hph1.2.2.2.2.2.2.2.1 hph1.2.2.2.2.2.2.2.2.1 hph1.2.2.2.2.2.2.2.2.2) (cwV 3 hts gX8_hitsAgree_X7_choices rfl rfl rfl (by decide +kernel) ⟨Nat.le_of_ble_eq_true rfl, Nat.le_of_ble_eq_true rfl⟩) ⟨m_blind m_B_calling, m_recv hw (m_ent_8 hok.2.2.2.2.2.2.2.2.2.2.2.2.2.1) rfl, fun U hU hW => ⟨rfl, m_wo_call hw hU hW⟩⟩ rfl rfl hl.1 rfl (lv_room (Nat.le_of_ble_eq_true rfl)) dX8_hitsAgree_52 ⟨Nat.le_of_ble_eq_true rfl, Nat.le_of_ble_eq_true rfl⟩) hw (fun r_52 u_52 H locs hp_52 hw => ?_)
    have hw : m_wo G K_1 I_2 R_3 F u_52 N_4 L_5 T J D s H locs := hw
    obtain ⟨hA1, hr1⟩ := hp_52
    have hr1 : r_52 = nI (c_hit I_2 R_3 Aa (L_5 (cd 8)) (cd 13) (cd 14) n (I_2 30 ai)) := hr1
    rw [hL8, hsame] at hr1
    have hB1 : ∀ b9, b9 ≠ cd 11 → b9 ≠ cd 12 → u_52 b9 = A b9 := fun b9 h1 h2 => (hA1 b9 h1 h2).trans (hA0 b9 h1 h2)
    have hph2 : c_ph K_1 R_3 N_4 I_2 u_52 (cd 6) (cd 13) (cd 14) n := c_ph_A hph0 (hB1 _ hnw.2.2.1 hnw.2.2.2)
    refine lv_aload_n hx hb dX8_hitsAgree_55 rfl (lv_at hl 1 rfl) ?_
    refine lv_aload_n hx hb dX8_hitsAgree_56 rfl (lv_at hl 0 rfl) ?_
    refine lv_aload_n hx hb dX8_hitsAgree_57 rfl (lv_at hl 1 rfl) ?_
    refine g_9_6 (r := some (cd 6)) hx hb hts (by decide +kernel) hown hw hok.1 (hts (.fieldLink RX8 46 "Pirateindex" "typed" "LPirateindex$Phrase;") (by decide +kernel)) hok.2.2.2.2.2.2.2.1 dX8_hitsAgree_58 ?_
    refine m_ci (va_runV (As := [.ref ai, .ref (cd 6)]) (rest := [.int r_52]) ⟨hx, hb, hml, hown, hts⟩ (c_X8_choicesOn l hok hka hph2 (by rw [hL9]; exact hrwd)) (cwV 2 hts gX8_hitsAgree_X8_choicesOn rfl rfl rfl (by decide +kernel) ⟨Nat.le_of_ble_eq_true rfl, Nat.le_of_ble_eq_true rfl⟩) ⟨m_blind m_B_calling, m_recv hw (m_ent_9 hok.1) rfl, fun U hU hW => ⟨rfl, m_wo_call hw hU hW⟩⟩ rfl rfl hl.1 rfl (lv_room (Nat.le_of_ble_eq_true rfl)) dX8_hitsAgree_61 ⟨Nat.le_of_ble_eq_true rfl, Nat.le_of_ble_eq_true rfl⟩) hw (fun r_61 u_61 H locs hp_61 hw => ?_)
    have hw : m_wo G K_1 I_2 R_3 F u_61 N_4 L_5 T J D s H locs := hw
    obtain ⟨hA3, hr2⟩ := hp_61
    rw [hL9, c_hit_A (A := Aa) (hA1 _ hnw.1 hnw.2.1) (hA1 _ hnw.2.2.1 hnw.2.2.2)] at hr2
    have hB0 : ∀ b9, b9 ≠ cd 11 → b9 ≠ cd 12 → u_61 b9 = A b9 := fun b9 h1 h2 => (hA3 b9 h1 h2).trans (hB1 b9 h1 h2)
    have heq : r_52 = r_61 := hr1.trans hr2.symm
    refine lv_icmp_eq (tgt := 69) hx hb dX8_hitsAgree_64 (by decide) (fun c_64 => ?_) (fun c_64 => ?_)
    · skip
      refine lv_iinc (v := nI (i + 1)) (lv' := [(1, .int (nI (i + 1))), (2, .ref ai), (0, .ref o)]) hx hb dX8_hitsAgree_69 hl (k := 2) rfl (nI_1 _) (by decide) rfl (fun ls hl => ?_)
      refine lv_goto (tgt := 13) hx hb dX8_hitsAgree_72 (by decide) ?_
      exact ih (i + 1, u_61) _ _ _ (by dsimp only; omega) ⟨⟨by omega, hB0⟩, hw, lv_sub hl [2, 0] rfl⟩
    · skip
      exact absurd heq c_64
