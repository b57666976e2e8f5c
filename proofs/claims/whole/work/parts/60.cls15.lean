theorem m_up_up {α : Type} (f : Nat → α) (a : Nat) (x y : α) : m_up (m_up f a x) a y = m_up f a y := by
  funext b
  unfold m_up
  split <;> rfl
/-- a phrase: its words at w9, its distances at d9, n words -/
def c_ph (K : Nat → Nat) (R : Nat → Nat → Option Nat) (N : Nat → Nat) (I A : Nat → Nat → Int32) (ph w9 d9 n : Nat) : Prop := K ph = 4 ∧ R 40 ph = some w9 ∧ K w9 = 21 ∧ N w9 = 4 ∧ R 41 ph = some d9 ∧ K d9 = 22 ∧ N d9 = 4 ∧ I 42 ph = nI n ∧ n ≤ 4 ∧ ∀ k, 1 ≤ k → k < n → ∃ g, g ≤ 9 ∧ A d9 k = nI g
/-- a row of postings at places -/
def c_rwd (K : Nat → Nat) (I : Nat → Nat → Int32) (R : Nat → Nat → Option Nat) (l9 : List Nat) : Prop := (∀ a, a ∈ l9 → K a = 1) ∧ (∀ a, a ∈ l9 → ∃ p, p < 41 ∧ I 13 a = nI p) ∧ c_pst I R l9
/-- the choices on an island by a phrase -/
def c_hit (I : Nat → Nat → Int32) (R : Nat → Nat → Option Nat) (A : Nat → Nat → Int32) (l9 : List Nat) (w9 d9 n : Nat) (isl : Int32) : Nat := if n = 0 then 0 else o_hits (c_cnt I R A l9 w9 isl) (fun k => (A d9 k).toNatClampNeg) n
set_option maxHeartbeats 400000 in
set_option maxRecDepth 100000 in
theorem c_X8_segmentNumbered (l : Launch) (hnt : l.stackTraces = false) {G : mG} {K : Nat → Nat} {I : Nat → Nat → Int32} {R : Nat → Nat → Option Nat} {F : Nat → UInt32} {A : Nat → Nat → Int32} {N : Nat → Nat} {L : Nat → List Nat} {T : Nat → List Int32} {J : Nat → Nat → Int64} {D : Nat → Nat → UInt64} {o : Nat} {cd : Nat → Nat} {nn : Int32} (hok : c_ok K R N o cd) (hel5 : ∀ a, a ∈ L (cd 10) → K a = 5) : vx_Met l yX8_segmentNumbered wsX8_segmentNumbered ({ frames := 8, cells := 1, slots := 6, locals := 200 } : Room) (va_Pc [.ref o, .int nn] (fun U => m_B G K I R F A N L T J D U ∧ c_str U)) (va_Qq (fun (r : Option Nat) (_ : Unit) => r = ((L (cd 10)).find? (fun a => decide (I 50 a = nn))) ∧ r ≠ none) (fun u : Unit => m_B G K I R F A N L T J D) (m_A G)) (vx_X (fun (u : Unit) => ((L (cd 10)).find? (fun a => decide (I 50 a = nn))) = none) (fun E (u : Unit) t => E = "java/util/NoSuchElementException" ∧ m_B G K I R F A N L T J D t) (m_A G)) 1 6 (m_A G) := by
  refine vx_ofW (cc := cX8_segmentNumbered) (maxL := 3) (ret := (some (.object "Pirateindex$Segment"))) (by decide) rfl ?_
  intro p e s m args below meth c s₁ B hml hxt hv
  obtain ⟨rfl, hB, hcs⟩ := hv
  have hx := B.exec
  have hb := B.bytes
  have hr := B.returns
  have hts := atoms_spec (ws := wsX8_segmentNumbered) B.pre
  have hown : s.vm.findClass RX8 = some m.cls := findClass_of_methodNamed B.named
  have hlocks := B.notSynchronized
  have hw := m_wo_in hB
  have hl := lv_entry ([.ref o, .int nn]) (n := 3) (Nat.le_of_ble_eq_true rfl)
  rw [lg_entry_eq]
  generalize (lg_sl ([.ref o, .int nn]) ++ List.replicate (3 - (lg_sl ([.ref o, .int nn])).length) Slot.unset).toArray = ls at hl ⊢
  have hl : lv_has ls 3 [(0, .ref o), (1, .int nn)] := hl
  refine lv_aload_n hx hb dX8_segmentNumbered_0 rfl (lv_at hl 0 rfl) ?_
  refine g_9_4 (r := some (cd 4)) hx hb hts (by decide +kernel) hown hw hok.1 (hts (.fieldLink RX8 36 "Pirateindex" "shelf" "LPirateindex$Shelf;") (by decide +kernel)) hok.2.2.2.2.2.1 dX8_segmentNumbered_1 ?_
  refine lv_iload_n hx hb dX8_segmentNumbered_4 rfl (lv_at hl 1 rfl) ?_
  refine m_cq (va_runV (As := [.int nn]) (rest := []) ⟨hx, hb, hml, hown, hts⟩ (c_X5_numbered l hok.2.2.2.2.2.2.2.2.2.2.2.2.2.2.1 hok.2.2.2.2.2.2.2.2.2.2.2.2.2.2.2.2.2.2.2.2.2.2.2.2.2.2.1 hok.2.2.2.2.2.2.2.2.2.2.2.2.2.2.2.2.2.2.2.2.1 hel5) (cwV 1 hts gX8_segmentNumbered_X5_numbered rfl rfl rfl (by decide +kernel) ⟨Nat.le_of_ble_eq_true rfl, Nat.le_of_ble_eq_true rfl⟩) ⟨m_blind m_B_calling, m_recv hw (m_ent_6 hok.2.2.2.2.2.2.2.2.2.2.2.2.2.2.1) rfl, fun U hU hW => ⟨rfl, m_wo_call hw hU hW⟩⟩ rfl rfl hl.1 rfl (lv_room (Nat.le_of_ble_eq_true rfl)) dX8_segmentNumbered_5 ⟨Nat.le_of_ble_eq_true rfl, Nat.le_of_ble_eq_true rfl⟩) hw (fun r_5 u_5 H locs hp_5 hw => ?_)
  refine m_astore_nQ (lv' := [(2, va_rf r_5), (0, .ref o), (1, .int nn)]) hx hb dX8_segmentNumbered_8 rfl hl (by decide) rfl (fun ls hl => ?_)
  refine m_aload_nQ hx hb dX8_segmentNumbered_9 rfl (lv_at hl 0 rfl) ?_
  refine m_ifnonnullQ (tgt := 23) hx hb dX8_segmentNumbered_10 (by decide) (fun c_10 => ?_) (fun z_10 c_10 => ?_)
  · skip
    rw [c_10] at hl
    have hl : lv_has ls 3 [(2, .null), (0, .ref o), (1, .int nn)] := hl
    obtain ⟨sa, hsa⟩ := hcs.1 (142, "no such segment") (by decide)
    refine vx_throw13 (names := ["java/lang/RuntimeException", "java/lang/Exception"]) hx hb hnt hown (by decide) (by decide) (hts (.classLink RX8 140 "java/util/NoSuchElementException") (by decide +kernel)) (hts (.initialized "java/util/NoSuchElementException") (by decide +kernel)) hsa (vx_hat (B := .castable "java/util/NoSuchElementException" "java/util/NoSuchElementException" :: [.declares (Bundle.initS "java/lang/RuntimeException"), .declares (Bundle.initS "java/lang/Exception"), .declares (Bundle.initS Bundle.tN)]) (fun w h => hts w ((by decide +kernel : ∀ w ∈ (vx_at13 RX8 144 "java/util/NoSuchElementException" ["java/lang/RuntimeException", "java/lang/Exception"]).filter goodWord, w ∈ wsX8_segmentNumbered) w h)) (by decide +kernel) (vx_c (m_wo_cas hw (by decide)) (c_str_dc hcs))) (by decide +kernel) hw.2.1.1 hw.2.1.2.1 hw.2.2.2.1 (hl.1.trans hml.symm) dX8_segmentNumbered_13 dX8_segmentNumbered_16 dX8_segmentNumbered_17 dX8_segmentNumbered_19 dX8_segmentNumbered_22 (fun x hx9 => absurd (hxt x hx9) id) (Nat.le_of_ble_eq_true rfl) (Nat.le_of_ble_eq_true rfl) (Nat.le_of_ble_eq_true rfl) (Nat.le_of_ble_eq_true rfl) hlocks (fun t hA9 hs9 hq9 => ⟨(), (hp_5.symm.trans c_10), ⟨rfl, m_wo_up hw hA9 hs9 hq9⟩, m_wo_uF hw hs9 hq9⟩) (m_wo_L hw) (Nat.le_of_ble_eq_true rfl) (Nat.le_of_ble_eq_true rfl)
  · skip
    rw [c_10] at hl
    have hl : lv_has ls 3 [(2, .ref z_10), (0, .ref o), (1, .int nn)] := hl
    refine lv_aload_n hx hb dX8_segmentNumbered_23 rfl (lv_at hl 0 rfl) ?_
    refine vx_ret ?_
    refine W.widen (k := 1) (n := 6) (by omega) (by omega) ?_
    exact W.aret (v := .ref z_10) hx hb hr (Or.inl ⟨_, rfl⟩) (Or.inr ⟨_, rfl⟩) (fun t ht hW => ⟨⟨(some z_10), (), rfl, ⟨c_10.symm.trans hp_5, by simp⟩, m_wo_out hw ht hW.alike⟩, m_wo_F hw ht⟩) (m_wo_L hw) dX8_segmentNumbered_24
set_option maxHeartbeats 400000 in
set_option maxRecDepth 100000 in
theorem c_X8_requireClosed (l : Launch) (hnt : l.stackTraces = false) {G : mG} {K : Nat → Nat} {I : Nat → Nat → Int32} {R : Nat → Nat → Option Nat} {F : Nat → UInt32} {A : Nat → Nat → Int32} {N : Nat → Nat} {L : Nat → List Nat} {T : Nat → List Int32} {J : Nat → Nat → Int64} {D : Nat → Nat → UInt64} {o : Nat} {cd : Nat → Nat} {sg : Nat} (hok : c_ok K R N o cd) : vx_Met l yX8_requireClosed wsX8_requireClosed ({ frames := 8, cells := 1, slots := 6, locals := 160 } : Room) (va_Pc [.ref o, .ref sg] (fun U => m_B G K I R F A N L T J D U ∧ c_str U)) (va_Qv (fun (_ : Unit) => ¬ some sg = R 61 (cd 4)) (fun u : Unit => m_B G K I R F A N L T J D) (m_A G)) (vx_X (fun (u : Unit) => some sg = R 61 (cd 4)) (fun E (u : Unit) t => E = "java/lang/UnsupportedOperationException" ∧ m_B G K I R F A N L T J D t) (m_A G)) 1 6 (m_A G) := by
  refine vx_ofW (cc := cX8_requireClosed) (maxL := 2) (ret := none) (by decide) rfl ?_
  intro p e s m args below meth c s₁ B hml hxt hv
  obtain ⟨rfl, hB, hcs⟩ := hv
  have hx := B.exec
  have hb := B.bytes
  have hr := B.returns
  have hts := atoms_spec (ws := wsX8_requireClosed) B.pre
  have hown : s.vm.findClass RX8 = some m.cls := findClass_of_methodNamed B.named
  have hlocks := B.notSynchronized
  have hw := m_wo_in hB
  have hl := lv_entry ([.ref o, .ref sg]) (n := 2) (Nat.le_of_ble_eq_true rfl)
  rw [lg_entry_eq]
  generalize (lg_sl ([.ref o, .ref sg]) ++ List.replicate (2 - (lg_sl ([.ref o, .ref sg])).length) Slot.unset).toArray = ls at hl ⊢
  have hl : lv_has ls 2 [(0, .ref o), (1, .ref sg)] := hl
  refine lv_aload_n hx hb dX8_requireClosed_0 rfl (lv_at hl 0 rfl) ?_
  refine g_9_4 (r := some (cd 4)) hx hb hts (by decide +kernel) hown hw hok.1 (hts (.fieldLink RX8 36 "Pirateindex" "shelf" "LPirateindex$Shelf;") (by decide +kernel)) hok.2.2.2.2.2.1 dX8_requireClosed_1 ?_
  refine lv_aload_n hx hb dX8_requireClosed_4 rfl (lv_at hl 1 rfl) ?_
  refine m_ci (va_runV (As := [.ref sg]) (rest := []) ⟨hx, hb, hml, hown, hts⟩ (c_X5_isOpen l hok.2.2.2.2.2.2.2.2.2.2.2.2.2.2.1) (cwV 1 hts gX8_requireClosed_X5_isOpen rfl rfl rfl (by decide +kernel) ⟨Nat.le_of_ble_eq_true rfl, Nat.le_of_ble_eq_true rfl⟩) ⟨m_blind m_B_calling, m_recv hw (m_ent_6 hok.2.2.2.2.2.2.2.2.2.2.2.2.2.2.1) rfl, fun U hU hW => ⟨rfl, m_wo_call hw hU hW⟩⟩ rfl rfl hl.1 rfl (lv_room (Nat.le_of_ble_eq_true rfl)) dX8_requireClosed_5 ⟨Nat.le_of_ble_eq_true rfl, Nat.le_of_ble_eq_true rfl⟩) hw (fun r_5 u_5 H locs hp_5 hw => ?_)
  obtain rfl : r_5 = b2i (decide (some sg = R 61 (cd 4))) := hp_5
  refine lv_if_eq (tgt := 22) hx hb dX8_requireClosed_8 (by decide) (fun c_8 => ?_) (fun c_8 => ?_)
  · skip
    have hq := of_decide_eq_false ((b2i_eq _).mp c_8)
    refine vx_ret ?_
    refine W.widen (k := 1) (n := 6) (by omega) (by omega) ?_
    exact W.vret hx hb hr (fun t ht hW => ⟨⟨(), rfl, hq, m_wo_out hw ht hW.alike⟩, m_wo_F hw ht⟩) (m_wo_L hw) dX8_requireClosed_22
  · skip
    have hq := of_decide_eq_true ((b2i_ne _).mp c_8)
    obtain ⟨sa, hsa⟩ := hcs.1 (366, "the segment is open") (by decide)
    refine vx_throwSW (names := ["java/lang/RuntimeException", "java/lang/Exception"]) hx hb hnt hown (by decide) (by decide) (hts (.classLink RX8 128 "java/lang/UnsupportedOperationException") (by decide +kernel)) (hts (.initialized "java/lang/UnsupportedOperationException") (by decide +kernel)) hsa (vx_hat (B := .castable "java/lang/UnsupportedOperationException" "java/lang/UnsupportedOperationException" :: [.declares (Bundle.initS "java/lang/RuntimeException"), .declares (Bundle.initS "java/lang/Exception"), .declares (Bundle.initS Bundle.tN)]) (fun w h => hts w ((by decide +kernel : ∀ w ∈ (vx_atS RX8 132 "java/lang/UnsupportedOperationException" ["java/lang/RuntimeException", "java/lang/Exception"]).filter goodWord, w ∈ wsX8_requireClosed) w h)) (by decide +kernel) (vx_c (m_wo_cas hw (by decide)) (c_str_dc hcs))) (by decide +kernel) hw.2.1.1 hw.2.1.2.1 hw.2.2.2.1 (hl.1.trans hml.symm) dX8_requireClosed_11 dX8_requireClosed_14 dX8_requireClosed_15 dX8_requireClosed_18 dX8_requireClosed_21 (fun x hx9 => absurd (hxt x hx9) id) (Nat.le_of_ble_eq_true rfl) (Nat.le_of_ble_eq_true rfl) (Nat.le_of_ble_eq_true rfl) (Nat.le_of_ble_eq_true rfl) hlocks (fun t hA9 hs9 hq9 => ⟨(), hq, ⟨rfl, m_wo_up hw hA9 hs9 hq9⟩, m_wo_uF hw hs9 hq9⟩) (m_wo_L hw) (Nat.le_of_ble_eq_true rfl) (Nat.le_of_ble_eq_true rfl)
set_option maxHeartbeats 400000 in
set_option maxRecDepth 100000 in
theorem c_X8_lostFinds (l : Launch) {G : mG} {K : Nat → Nat} {I : Nat → Nat → Int32} {R : Nat → Nat → Option Nat} {F : Nat → UInt32} {A : Nat → Nat → Int32} {N : Nat → Nat} {L : Nat → List Nat} {T : Nat → List Int32} {J : Nat → Nat → Int64} {D : Nat → Nat → UInt64} {o : Nat} {cd : Nat → Nat}  (hok : c_ok K R N o cd) (hel1 : ∀ a, a ∈ L (cd 1) → K a = 1) : Met l yX8_lostFinds wsX8_lostFinds ({ frames := 3, cells := 0, slots := 0, locals := 100 } : Room) (va_Pc [.ref o] (m_B G K I R F A N L T J D)) (va_Qi (fun (r : Int32) (_ : Unit) => r = nI ((L (cd 1)).countP (c_lost I R))) (fun u : Unit => m_B G K I R F A N L T J D) (m_A G)) 0 0 (m_A G) := by
  refine Met.ofW (cc := cX8_lostFinds) (maxL := 3) (ret := (some .int)) (by decide) rfl ?_
  intro p e s m args below meth c s₁ B hml hv
  obtain ⟨rfl, hB⟩ := hv
  have hx := B.exec
  have hb := B.bytes
  have hr := B.returns
  have hts := atoms_spec (ws := wsX8_lostFinds) B.pre
  have hown : s.vm.findClass RX8 = some m.cls := findClass_of_methodNamed B.named
  have hlocks := B.notSynchronized
  have hw := m_wo_in hB
  have hl := lv_entry ([.ref o]) (n := 3) (Nat.le_of_ble_eq_true rfl)
  rw [lg_entry_eq]
  generalize (lg_sl ([.ref o]) ++ List.replicate (3 - (lg_sl ([.ref o])).length) Slot.unset).toArray = ls at hl ⊢
  have hl : lv_has ls 3 [(0, .ref o)] := hl
  have hlen := m_len hw hok.2.2.2.2.2.2.2.2.2.2.2.1
  refine lv_iconst (v := 0) hx hb dX8_lostFinds_0 (by decide) ?_
  refine lv_istore_n (lv' := [(1, .int 0), (0, .ref o)]) hx hb dX8_lostFinds_1 rfl hl (by decide) rfl (fun ls hl => ?_)
  refine lv_iconst (v := 0) hx hb dX8_lostFinds_2 (by decide) ?_
  refine lv_istore_n (lv' := [(2, .int 0), (1, .int 0), (0, .ref o)]) hx hb dX8_lostFinds_3 rfl hl (by decide) rfl (fun ls hl => ?_)
  refine m_loop (σ := Nat × Int32) (fun a => (L (cd 1)).length - (a.1)) (fun a H locs ls => ((a.1) ≤ (L (cd 1)).length ∧ (a.2) = nI (cntB (fun j => c_lost I R ((L (cd 1)).getD j 0)) (a.1))) ∧ m_wo G K I R F A N L T J D s H locs ∧ lv_has ls 3 [(0, .ref o), (1, .int (a.2)), (2, .int (nI (a.1)))]) ?_ (0, 0) ⟨⟨Nat.zero_le _, rfl⟩, hw, lv_sub hl [2, 1, 0] rfl⟩
  rintro ⟨i, y9⟩ H locs ls ⟨hinv, hw, hl⟩ ih
  dsimp only at hinv hw hl
  obtain ⟨hi0, hx0⟩ := hinv
  refine lv_iload_n hx hb dX8_lostFinds_4 rfl (lv_at hl 2 rfl) ?_
  refine lv_aload_n hx hb dX8_lostFinds_5 rfl (lv_at hl 0 rfl) ?_
  refine g_9_1 (r := some (cd 1)) hx hb hts (by decide +kernel) hown hw hok.1 (hts (.fieldLink RX8 16 "Pirateindex" "log" "Ljava/util/ArrayList;") (by decide +kernel)) hok.2.2.1 dX8_lostFinds_6 ?_
  refine m_ci (va_runV (As := []) (rest := [.int (nI i)]) ⟨hx, hb, hml, hown, hts⟩ (c_Jx4a65c_size_8abf5 l hok.2.2.2.2.2.2.2.2.2.2.2.1) (cwV 0 hts gX8_lostFinds_Jx4a65c_size_8abf5 rfl rfl rfl (by decide +kernel) ⟨Nat.le_of_ble_eq_true rfl, Nat.le_of_ble_eq_true rfl⟩) ⟨m_blind m_B_calling, m_recv hw (m_ent_11 hok.2.2.2.2.2.2.2.2.2.2.2.1) rfl, fun U hU hW => ⟨rfl, m_wo_call hw hU hW⟩⟩ rfl rfl hl.1 rfl (lv_room (Nat.le_of_ble_eq_true rfl)) dX8_lostFinds_9 ⟨Nat.le_of_ble_eq_true rfl, Nat.le_of_ble_eq_true rfl⟩) hw (fun r_9 u_9 H locs hp_9 hw => ?_)
  obtain rfl : r_9 = (nI (L (cd 1)).length) := hp_9
  refine lv_icmp_ge (tgt := 41) hx hb dX8_lostFinds_12 (by decide) (fun c_12 => ?_) (fun c_12 => ?_)
  · skip
    rw [nI_leI (by omega) (by omega)] at c_12
    have hi : i = (L (cd 1)).length := by omega
    refine lv_iload_n hx hb dX8_lostFinds_41 rfl (lv_at hl 1 rfl) ?_
    exact W.iret (v := y9) hx hb hr (fun t ht hW => ⟨⟨y9, (), rfl, (by rw [hx0, hi]; exact congrArg nI (cnt_list (c_lost I R) (L (cd 1)))), m_wo_out hw ht hW.alike⟩, m_wo_F hw ht⟩) (m_wo_L hw) dX8_lostFinds_42
  · skip
    rw [nI_leI (by omega) (by omega)] at c_12
    have hi : i < (L (cd 1)).length := by omega
    refine lv_aload_n hx hb dX8_lostFinds_15 rfl (lv_at hl 0 rfl) ?_
    refine g_9_1 (r := some (cd 1)) hx hb hts (by decide +kernel) hown hw hok.1 (hts (.fieldLink RX8 16 "Pirateindex" "log" "Ljava/util/ArrayList;") (by decide +kernel)) hok.2.2.1 dX8_lostFinds_16 ?_
    refine lv_iload_n hx hb dX8_lostFinds_19 rfl (lv_at hl 2 rfl) ?_
    obtain ⟨ai, ha⟩ : ∃ z, (L (cd 1))[i]? = some z := ⟨_, lg_some hi⟩
    have hka : K ai = 1 := hel1 ai (List.mem_of_getElem? ha)
    refine m_cq (va_runV (As := [.int (nI i)]) (rest := []) ⟨hx, hb, hml, hown, hts⟩ (c_Jx4a65c_get_915e3 l hok.2.2.2.2.2.2.2.2.2.2.2.1 hi) (cwV 1 hts gX8_lostFinds_Jx4a65c_get_915e3 rfl rfl rfl (by decide +kernel) ⟨Nat.le_of_ble_eq_true rfl, Nat.le_of_ble_eq_true rfl⟩) ⟨m_blind m_B_calling, m_recv hw (m_ent_11 hok.2.2.2.2.2.2.2.2.2.2.2.1) rfl, fun U hU hW => ⟨rfl, m_wo_call hw hU hW⟩⟩ rfl rfl hl.1 rfl (lv_room (Nat.le_of_ble_eq_true rfl)) dX8_lostFinds_20 ⟨Nat.le_of_ble_eq_true rfl, Nat.le_of_ble_eq_true rfl⟩) hw (fun r_20 u_20 H locs hp_20 hw => ?_)
    obtain rfl : r_20 = some ai := hp_20.trans ha
    refine va_castS hx hb hown (hts (.classLink RX8 95 "Pirateindex$Find") (by decide +kernel)) (hw.1.1 5 _ rfl).2 (m_recv hw (m_ent_1 hka) rfl) dX8_lostFinds_23 ?_
    refine m_ci (va_runV (As := []) (rest := []) ⟨hx, hb, hml, hown, hts⟩ (c_X0_isLost l hka) (cwV 0 hts gX8_lostFinds_X0_isLost rfl rfl rfl (by decide +kernel) ⟨Nat.le_of_ble_eq_true rfl, Nat.le_of_ble_eq_true rfl⟩) ⟨m_blind m_B_calling, m_recv hw (m_ent_1 hka) rfl, fun U hU hW => ⟨rfl, m_wo_call hw hU hW⟩⟩ rfl rfl hl.1 rfl (lv_room (Nat.le_of_ble_eq_true rfl)) dX8_lostFinds_26 ⟨Nat.le_of_ble_eq_true rfl, Nat.le_of_ble_eq_true rfl⟩) hw (fun r_26 u_26 H locs hp_26 hw => ?_)
    obtain rfl : r_26 = b2i (c_lost I R ai) := hp_26
    refine lv_if_eq (tgt := 35) hx hb dX8_lostFinds_29 (by decide) (fun c_29 => ?_) (fun c_29 => ?_)
    · skip
      have hq := (b2i_eq _).mp c_29
      have hx1 : y9 = nI (cntB (fun j => c_lost I R ((L (cd 1)).getD j 0)) (i + 1)) := by rw [cnt_F (c_lost I R) ha hq]; exact hx0
      refine lv_iinc (v := nI (i + 1)) (lv' := [(2, .int (nI (i + 1))), (0, .ref o), (1, .int y9)]) hx hb dX8_lostFinds_35 hl (k := 2) rfl (nI_1 _) (by decide) rfl (fun ls hl => ?_)
      refine lv_goto (tgt := 4) hx hb dX8_lostFinds_38 (by decide) ?_
      exact ih (i + 1, y9) _ _ _ (by dsimp only; omega) ⟨⟨by omega, hx1⟩, hw, lv_sub hl [1, 2, 0] rfl⟩
    · skip
      have hq := (b2i_ne _).mp c_29
      have hx1 : y9 + 1 = nI (cntB (fun j => c_lost I R ((L (cd 1)).getD j 0)) (i + 1)) := by rw [cnt_T (c_lost I R) ha hq, hx0]; exact nI_1 _
      refine lv_iinc (v := y9 + 1) (lv' := [(1, .int (y9 + 1)), (0, .ref o), (2, .int (nI i))]) hx hb dX8_lostFinds_32 hl (k := 1) rfl rfl (by decide) rfl (fun ls hl => ?_)
      refine lv_iinc (v := nI (i + 1)) (lv' := [(2, .int (nI (i + 1))), (1, .int (y9 + 1)), (0, .ref o)]) hx hb dX8_lostFinds_35 hl (k := 2) rfl (nI_1 _) (by decide) rfl (fun ls hl => ?_)
      refine lv_goto (tgt := 4) hx hb dX8_lostFinds_38 (by decide) ?_
      exact ih (i + 1, y9 + 1) _ _ _ (by dsimp only; omega) ⟨⟨by omega, hx1⟩, hw, lv_sub hl [2, 1, 0] rfl⟩
set_option maxHeartbeats 400000 in
set_option maxRecDepth 100000 in
theorem c_X8_leaveCause (l : Launch) {G : mG} {K : Nat → Nat} {I : Nat → Nat → Int32} {R : Nat → Nat → Option Nat} {F : Nat → UInt32} {A : Nat → Nat → Int32} {N : Nat → Nat} {L : Nat → List Nat} {T : Nat → List Int32} {J : Nat → Nat → Int64} {D : Nat → Nat → UInt64} {o : Nat} {cd : Nat → Nat} {ch : Nat} (hok : c_ok K R N o cd) (hch : ch < 256) : Met l yX8_leaveCause wsX8_leaveCause ({ frames := 3, cells := 0, slots := 0, locals := 120 } : Room) (va_Pc [.ref o, .int (nI ch)] (m_B G K I R F A N L T J D)) (va_Qv (fun (u : (Nat → Nat → Int32) × (Nat → Nat → Int32) × (Nat → List Int32)) => (∀ f b, f ≠ 121 → u.1 f b = I f b) ∧ (∀ b, K b ≠ 41 → u.2.1 b = A b) ∧ u.2.2 = m_up T (cd 7) [nI ch]) (fun u : (Nat → Nat → Int32) × (Nat → Nat → Int32) × (Nat → List Int32) => m_B G K (u.1) R F (u.2.1) N L (u.2.2) J D) (m_A G)) 0 0 (m_A G) := by
  refine Met.ofW (cc := cX8_leaveCause) (maxL := 2) (ret := none) (by decide) rfl ?_
  intro p e s m args below meth c s₁ B hml hv
  obtain ⟨rfl, hB⟩ := hv
  have hx := B.exec
  have hb := B.bytes
  have hr := B.returns
  have hts := atoms_spec (ws := wsX8_leaveCause) B.pre
  have hown : s.vm.findClass RX8 = some m.cls := findClass_of_methodNamed B.named
  have hlocks := B.notSynchronized
  have hw := m_wo_in hB
  have hl := lv_entry ([.ref o, .int (nI ch)]) (n := 2) (Nat.le_of_ble_eq_true rfl)
  rw [lg_entry_eq]
  generalize (lg_sl ([.ref o, .int (nI ch)]) ++ List.replicate (2 - (lg_sl ([.ref o, .int (nI ch)])).length) Slot.unset).toArray = ls at hl ⊢
  have hl : lv_has ls 2 [(0, .ref o), (1, .int (nI ch))] := hl
  refine lv_aload_n hx hb dX8_leaveCause_0 rfl (lv_at hl 0 rfl) ?_
  refine g_9_7 (r := some (cd 7)) hx hb hts (by decide +kernel) hown hw hok.1 (hts (.fieldLink RX8 53 "Pirateindex" "causeRow" "Ljava/lang/StringBuilder;") (by decide +kernel)) hok.2.2.2.2.2.2.2.2.1 dX8_leaveCause_1 ?_
  refine lv_iconst (v := 0) hx hb dX8_leaveCause_4 (by decide) ?_
  refine m_cv (va_runV (As := [.int 0]) (rest := []) ⟨hx, hb, hml, hown, hts⟩ (c_J4_setLength_d00df l hok.2.2.2.2.2.2.2.2.2.2.2.2.2.2.2.2.2.1 hok.2.2.2.2.2.2.2.2.2.2.2.2.2.2.2.2.2.2.2.2.2.2.2.2.2.2.2.2.2.2.2.2.2.2.2.2.2.2.2.2.2.1) (cwV 1 hts gX8_leaveCause_J4_setLength_d00df rfl rfl rfl (by decide +kernel) ⟨Nat.le_of_ble_eq_true rfl, Nat.le_of_ble_eq_true rfl⟩) ⟨m_blind m_B_calling, m_recv hw (m_ent_12 hok.2.2.2.2.2.2.2.2.2.2.2.2.2.2.2.2.2.1) rfl, fun U hU hW => ⟨rfl, m_wo_call hw hU hW⟩⟩ rfl rfl hl.1 rfl (lv_room (Nat.le_of_ble_eq_true rfl)) dX8_leaveCause_5 ⟨Nat.le_of_ble_eq_true rfl, Nat.le_of_ble_eq_true rfl⟩) hw (fun u_5 H locs hp_5 hw => ?_)
  obtain ⟨I_1, T_2⟩ := u_5
  have hw : m_wo G K I_1 R F A N L T_2 J D s H locs := hw
  dsimp only at hp_5
  obtain ⟨hI1, eT1⟩ := hp_5
  have hT1 : T_2 (cd 7) = [] := by rw [eT1]; exact m_up_self _ _ _
  refine lv_aload_n hx hb dX8_leaveCause_8 rfl (lv_at hl 0 rfl) ?_
  refine g_9_7 (r := some (cd 7)) hx hb hts (by decide +kernel) hown hw hok.1 (hts (.fieldLink RX8 53 "Pirateindex" "causeRow" "Ljava/lang/StringBuilder;") (by decide +kernel)) hok.2.2.2.2.2.2.2.2.1 dX8_leaveCause_9 ?_
  refine lv_iload_n hx hb dX8_leaveCause_12 rfl (lv_at hl 1 rfl) ?_
  refine m_cq (va_runV (As := [.int (nI ch)]) (rest := []) ⟨hx, hb, hml, hown, hts⟩ (c_J4_append_cf468 l hok.2.2.2.2.2.2.2.2.2.2.2.2.2.2.2.2.2.1 hok.2.2.2.2.2.2.2.2.2.2.2.2.2.2.2.2.2.2.2.2.2.2.2.2.2.2.2.2.2.2.2.2.2.2.2.2.2.2.2.2.2.1 (by rw [hT1]; decide) hch) (cwV 1 hts gX8_leaveCause_J4_append_cf468 rfl rfl rfl (by decide +kernel) ⟨Nat.le_of_ble_eq_true rfl, Nat.le_of_ble_eq_true rfl⟩) ⟨m_blind m_B_calling, m_recv hw (m_ent_12 hok.2.2.2.2.2.2.2.2.2.2.2.2.2.2.2.2.2.1) rfl, fun U hU hW => ⟨rfl, m_wo_call hw hU hW⟩⟩ rfl rfl hl.1 rfl (lv_room (Nat.le_of_ble_eq_true rfl)) dX8_leaveCause_13 ⟨Nat.le_of_ble_eq_true rfl, Nat.le_of_ble_eq_true rfl⟩) hw (fun r_13 u_13 H locs hp_13 hw => ?_)
  obtain ⟨A_3, T_4⟩ := u_13
  have hw : m_wo G K I_1 R F A_3 N L T_4 J D s H locs := hw
  dsimp only at hp_13
  obtain ⟨hr9, hA2, eT2⟩ := hp_13
  obtain rfl : r_13 = some (cd 7) := hr9
  refine lv_pop hx hb dX8_leaveCause_16 rfl ?_
  exact W.vret hx hb hr (fun t ht hW => ⟨⟨(I_1, A_3, T_4), rfl, ⟨hI1, hA2, by show T_4 = _; rw [eT2, hT1, eT1]; exact m_up_up _ _ _ _⟩, m_wo_out hw ht hW.alike⟩, m_wo_F hw ht⟩) (m_wo_L hw) dX8_leaveCause_17
set_option maxHeartbeats 400000 in
set_option maxRecDepth 100000 in
theorem c_X8_choicesOn (l : Launch) {G : mG} {K : Nat → Nat} {I : Nat → Nat → Int32} {R : Nat → Nat → Option Nat} {F : Nat → UInt32} {A : Nat → Nat → Int32} {N : Nat → Nat} {L : Nat → List Nat} {T : Nat → List Int32} {J : Nat → Nat → Int64} {D : Nat → Nat → UInt64} {o : Nat} {cd : Nat → Nat} {ph w9 d9 n : Nat} {is9 : Nat} (hok : c_ok K R N o cd) (hki : K is9 = 3) (hph : c_ph K R N I A ph w9 d9 n) (hrw : c_rwd K I R (L (cd 9))) : Met l yX8_choicesOn wsX8_choicesOn ({ frames := 5, cells := 0, slots := 0, locals := 170 } : Room) (va_Pc [.ref o, .ref is9, .ref ph] (m_B G K I R F A N L T J D)) (va_Qi (fun (r : Int32) (u : Nat → Nat → Int32) => (∀ b, b ≠ cd 11 → b ≠ cd 12 → u b = A b) ∧ r = nI (c_hit I R A (L (cd 9)) w9 d9 n (I 30 is9))) (fun u : Nat → Nat → Int32 => m_B G K I R F u N L T J D) (m_A G)) 0 0 (m_A G) := by
  refine Met.ofW (cc := cX8_choicesOn) (maxL := 3) (ret := (some .int)) (by decide) rfl ?_
  intro p e s m args below meth c s₁ B hml hv
  obtain ⟨rfl, hB⟩ := hv
  have hx := B.exec
  have hb := B.bytes
  have hr := B.returns
  have hts := atoms_spec (ws := wsX8_choicesOn) B.pre
  have hown : s.vm.findClass RX8 = some m.cls := findClass_of_methodNamed B.named
  have hlocks := B.notSynchronized
  have hw := m_wo_in hB
  have hl := lv_entry ([.ref o, .ref is9, .ref ph]) (n := 3) (Nat.le_of_ble_eq_true rfl)
  rw [lg_entry_eq]
  generalize (lg_sl ([.ref o, .ref is9, .ref ph]) ++ List.replicate (3 - (lg_sl ([.ref o, .ref is9, .ref ph])).length) Slot.unset).toArray = ls at hl ⊢
  have hl : lv_has ls 3 [(0, .ref o), (1, .ref is9), (2, .ref ph)] := hl
  refine lv_aload_n hx hb dX8_choicesOn_0 rfl (lv_at hl 0 rfl) ?_
  refine g_9_3 (r := some (cd 3)) hx hb hts (by decide +kernel) hown hw hok.1 (hts (.fieldLink RX8 29 "Pirateindex" "tally" "LPirateindex$Tally;") (by decide +kernel)) hok.2.2.2.2.1 dX8_choicesOn_1 ?_
  refine lv_aload_n hx hb dX8_choicesOn_4 rfl (lv_at hl 0 rfl) ?_
  refine g_9_2 (r := some (cd 2)) hx hb hts (by decide +kernel) hown hw hok.1 (hts (.fieldLink RX8 22 "Pirateindex" "index" "LPirateindex$Index;") (by decide +kernel)) hok.2.2.2.1 dX8_choicesOn_5 ?_
  refine g_2_0 (r := some (cd 9)) hx hb hts (by decide +kernel) hown hw hok.2.2.2.2.2.2.2.2.2.2.2.2.1 (hts (.fieldLink RX8 388 "Pirateindex$Index" "row" "Ljava/util/ArrayList;") (by decide +kernel)) hok.2.2.2.2.2.2.2.2.2.2.2.2.2.2.2.2.2.2.2.2.2.2.2.2.2.1 dX8_choicesOn_8 ?_
  refine lv_aload_n hx hb dX8_choicesOn_11 rfl (lv_at hl 2 rfl) ?_
  refine lv_aload_n hx hb dX8_choicesOn_12 rfl (lv_at hl 1 rfl) ?_
  refine g_3_0 hx hb hts (by decide +kernel) hown hw hki (hts (.fieldLink RX8 84 "Pirateindex$Isle" "number" "I") (by decide +kernel)) dX8_choicesOn_13 ?_
  refine m_ci (va_runV (As := [.ref (cd 9), .ref ph, .int (I 30 is9)]) (rest := []) ⟨hx, hb, hml, hown, hts⟩ (c_X7_choices l hok.2.2.2.2.2.2.2.2.2.2.2.2.2.1 hok.2.2.2.2.2.2.2.2.2.2.2.2.2.2.2.2.2.2.2.2.2.2.2.2.2.2.2.1 hok.2.2.2.2.2.2.2.2.2.2.2.2.2.2.2.2.2.2.2.2.2.1 hok.2.2.2.2.2.2.2.2.2.2.2.2.2.2.2.2.2.2.2.2.2.2.2.2.2.2.2.2.2.2.2.1 hok.2.2.2.2.2.2.2.2.2.2.2.2.2.2.2.2.2.2.2.2.2.2.2.2.2.2.2.2.1 hok.2.2.2.2.2.2.2.2.2.2.2.2.2.2.2.2.2.2.2.2.2.2.1 hok.2.2.2.2.2.2.2.2.2.2.2.2.2.2.2.2.2.2.2.2.2.2.2.2.2.2.2.2.2.2.2.2.1 hok.2.2.2.2.2.2.2.2.2.2.2.2.2.2.2.2.2.2.2.1 hrw.1 hrw.2.1 hrw.2.2 hph.1 hph.2.1 hph.2.2.1 hph.2.2.2.1 hph.2.2.2.2.1 hph.2.2.2.2.2.1 hph.2.2.2.2.2.2.1 hph.2.2.2.2.2.2.2.1 hph.2.2.2.2.2.2.2.2.1 hph.2.2.2.2.2.2.2.2.2) (cwV 3 hts gX8_choicesOn_X7_choices rfl rfl rfl (by decide +kernel) ⟨Nat.le_of_ble_eq_true rfl, Nat.le_of_ble_eq_true rfl⟩) ⟨m_blind m_B_calling, m_recv hw (m_ent_8 hok.2.2.2.2.2.2.2.2.2.2.2.2.2.1) rfl, fun U hU hW => ⟨rfl, m_wo_call hw hU hW⟩⟩ rfl rfl hl.1 rfl (lv_room (Nat.le_of_ble_eq_true rfl)) dX8_choicesOn_16 ⟨Nat.le_of_ble_eq_true rfl, Nat.le_of_ble_eq_true rfl⟩) hw (fun r_16 u_16 H locs hp_16 hw => ?_)
  have hw : m_wo G K I R F u_16 N L T J D s H locs := hw
  exact W.iret (v := r_16) hx hb hr (fun t ht hW => ⟨⟨r_16, u_16, rfl, hp_16, m_wo_out hw ht hW.alike⟩, m_wo_F hw ht⟩) (m_wo_L hw) dX8_choicesOn_19
set_option maxHeartbeats 400000 in
set_option maxRecDepth 100000 in
theorem c_X8_isHit (l : Launch) {G : mG} {K : Nat → Nat} {I : Nat → Nat → Int32} {R : Nat → Nat → Option Nat} {F : Nat → UInt32} {A : Nat → Nat → Int32} {N : Nat → Nat} {L : Nat → List Nat} {T : Nat → List Int32} {J : Nat → Nat → Int64} {D : Nat → Nat → UInt64} {o : Nat} {cd : Nat → Nat} {ph w9 d9 n : Nat} {is9 : Nat} (hok : c_ok K R N o cd) (hki : K is9 = 3) (hph : c_ph K R N I A ph w9 d9 n) (hrw : c_rwd K I R (L (cd 9))) : Met l yX8_isHit wsX8_isHit ({ frames := 6, cells := 0, slots := 0, locals := 230 } : Room) (va_Pc [.ref o, .ref ph, .ref is9] (m_B G K I R F A N L T J D)) (va_Qi (fun (r : Int32) (u : Nat → Nat → Int32) => (∀ b, b ≠ cd 11 → b ≠ cd 12 → u b = A b) ∧ r = b2i (decide (0 < nI (c_hit I R A (L (cd 9)) w9 d9 n (I 30 is9))))) (fun u : Nat → Nat → Int32 => m_B G K I R F u N L T J D) (m_A G)) 0 0 (m_A G) := by
  refine Met.ofW (cc := cX8_isHit) (maxL := 3) (ret := (some .boolean)) (by decide) rfl ?_
  intro p e s m args below meth c s₁ B hml hv
  obtain ⟨rfl, hB⟩ := hv
  have hx := B.exec
  have hb := B.bytes
  have hr := B.returns
  have hts := atoms_spec (ws := wsX8_isHit) B.pre
  have hown : s.vm.findClass RX8 = some m.cls := findClass_of_methodNamed B.named
  have hlocks := B.notSynchronized
  have hw := m_wo_in hB
  have hl := lv_entry ([.ref o, .ref ph, .ref is9]) (n := 3) (Nat.le_of_ble_eq_true rfl)
  rw [lg_entry_eq]
  generalize (lg_sl ([.ref o, .ref ph, .ref is9]) ++ List.replicate (3 - (lg_sl ([.ref o, .ref ph, .ref is9])).length) Slot.unset).toArray = ls at hl ⊢
  have hl : lv_has ls 3 [(0, .ref o), (1, .ref ph), (2, .ref is9)] := hl
  refine lv_aload_n hx hb dX8_isHit_0 rfl (lv_at hl 0 rfl) ?_
  refine lv_aload_n hx hb dX8_isHit_1 rfl (lv_at hl 2 rfl) ?_
  refine lv_aload_n hx hb dX8_isHit_2 rfl (lv_at hl 1 rfl) ?_
  refine m_ci (va_runV (As := [.ref is9, .ref ph]) (rest := []) ⟨hx, hb, hml, hown, hts⟩ (c_X8_choicesOn l hok hki hph hrw) (cwV 2 hts gX8_isHit_X8_choicesOn rfl rfl rfl (by decide +kernel) ⟨Nat.le_of_ble_eq_true rfl, Nat.le_of_ble_eq_true rfl⟩) ⟨m_blind m_B_calling, m_recv hw (m_ent_9 hok.1) rfl, fun U hU hW => ⟨rfl, m_wo_call hw hU hW⟩⟩ rfl rfl hl.1 rfl (lv_room (Nat.le_of_ble_eq_true rfl)) dX8_isHit_3 ⟨Nat.le_of_ble_eq_true rfl, Nat.le_of_ble_eq_true rfl⟩) hw (fun r_3 u_3 H locs hp_3 hw => ?_)
  have hw : m_wo G K I R F u_3 N L T J D s H locs := hw
  obtain ⟨hA9, rfl⟩ := hp_3
  refine lv_if_le (tgt := 13) hx hb dX8_isHit_6 (by decide) (fun c_6 => ?_) (fun c_6 => ?_)
  · skip
    have hq := Int32.not_lt.mpr c_6
    refine lv_iconst (v := 0) hx hb dX8_isHit_13 (by decide) ?_
    exact W.zret (v := 0) hx hb hr (by first | rfl | decide) (fun t ht hW => ⟨⟨0, u_3, rfl, ⟨hA9, by rw [decide_eq_false hq]; rfl⟩, m_wo_out hw ht hW.alike⟩, m_wo_F hw ht⟩) (m_wo_L hw) dX8_isHit_14
  · skip
    have hq := Int32.not_le.mp c_6
    refine lv_iconst (v := 1) hx hb dX8_isHit_9 (by decide) ?_
    refine lv_goto (tgt := 14) hx hb dX8_isHit_10 (by decide) ?_
    exact W.zret (v := 1) hx hb hr (by first | rfl | decide) (fun t ht hW => ⟨⟨1, u_3, rfl, ⟨hA9, by rw [decide_eq_true hq]; rfl⟩, m_wo_out hw ht hW.alike⟩, m_wo_F hw ht⟩) (m_wo_L hw) dX8_isHit_14
set_option maxHeartbeats 400000 in
set_option maxRecDepth 100000 in
theorem c_X8_rootOf (l : Launch) {G : mG} {K : Nat → Nat} {I : Nat → Nat → Int32} {R : Nat → Nat → Option Nat} {F : Nat → UInt32} {A : Nat → Nat → Int32} {N : Nat → Nat} {L : Nat → List Nat} {T : Nat → List Int32} {J : Nat → Nat → Int64} {D : Nat → Nat → UInt64} {n : Nat} (hn : n < 30000) : Met l yX8_rootOf wsX8_rootOf ({ frames := 0, cells := 0, slots := 0, locals := 0 } : Room) (va_Pc [.int (nI n)] (m_B G K I R F A N L T J D)) (va_Qi (fun (r : Int32) (_ : Unit) => r = nI (o_root n)) (fun u : Unit => m_B G K I R F A N L T J D) (m_A G)) 0 0 (m_A G) := by
  refine Met.ofW (cc := cX8_rootOf) (maxL := 2) (ret := (some .int)) (by decide) rfl ?_
  intro p e s m args below meth c s₁ B hml hv
  obtain ⟨rfl, hB⟩ := hv
  have hx := B.exec
  have hb := B.bytes
  have hr := B.returns
  have hts := atoms_spec (ws := wsX8_rootOf) B.pre
  have hown : s.vm.findClass RX8 = some m.cls := findClass_of_methodNamed B.named
  have hlocks := B.notSynchronized
  have hw := m_wo_in hB
  have hl := lv_entry ([.int (nI n)]) (n := 2) (Nat.le_of_ble_eq_true rfl)
  rw [lg_entry_eq]
  generalize (lg_sl ([.int (nI n)]) ++ List.replicate (2 - (lg_sl ([.int (nI n)])).length) Slot.unset).toArray = ls at hl ⊢
  have hl : lv_has ls 2 [(0, .int (nI n))] := hl
  refine lv_iconst (v := 0) hx hb dX8_rootOf_0 (by decide) ?_
  refine lv_istore_n (lv' := [(1, .int 0), (0, .int (nI n))]) hx hb dX8_rootOf_1 rfl hl (by decide) rfl (fun ls hl => ?_)
  refine m_loop (σ := Nat) (fun a => n + 1 - (a)) (fun a H locs ls => ((a) * (a) ≤ n) ∧ m_wo G K I R F A N L T J D s H locs ∧ lv_has ls 2 [(0, .int (nI n)), (1, .int (nI (a)))]) ?_ (0) ⟨Nat.zero_le _, hw, lv_sub hl [1, 0] rfl⟩
  rintro i H locs ls ⟨hinv, hw, hl⟩ ih
  try dsimp only at hinv hw hl
  have hi9 : i < 198 := Nat.lt_of_not_le (fun h => by have := Nat.mul_le_mul h h; omega)
  refine lv_iload_n hx hb dX8_rootOf_2 rfl (lv_at hl 1 rfl) ?_
  refine lv_sipush (v := 198) hx hb dX8_rootOf_3 (by decide) ?_
  refine lv_icmp_ge (tgt := 26) hx hb dX8_rootOf_6 (by decide) (fun c_6 => absurd c_6 (fun h => by have h9 := (nI_leI (a := 198) (b := i) (by decide) (by omega)).mp h; omega)) (fun c_6 => ?_)
  refine lv_iload_n hx hb dX8_rootOf_9 rfl (lv_at hl 1 rfl) ?_
  refine lv_iconst (v := 1) hx hb dX8_rootOf_10 (by decide) ?_
  refine lv_iadd hx hb dX8_rootOf_11 ?_
  refine lv_iload_n hx hb dX8_rootOf_12 rfl (lv_at hl 1 rfl) ?_
  refine lv_iconst (v := 1) hx hb dX8_rootOf_13 (by decide) ?_
  refine lv_iadd hx hb dX8_rootOf_14 ?_
  refine lv_imul hx hb dX8_rootOf_15 ?_
  refine lv_iload_n hx hb dX8_rootOf_16 rfl (lv_at hl 0 rfl) ?_
  refine lv_icmp_gt (tgt := 26) hx hb dX8_rootOf_17 (by decide) (fun c_17 => ?_) (fun c_17 => ?_)
  · skip
    have e10 : ((nI i + 1) * (nI i + 1) : Int32) = nI ((i + 1) * (i + 1)) := by rw [nI_1, pk_mul]
    have h40 : (i + 1) * (i + 1) < 2 ^ 31 := Nat.lt_of_le_of_lt (Nat.mul_le_mul (show i + 1 ≤ 200 by omega) (show i + 1 ≤ 200 by omega)) (by decide)
    have h10 : n < (i + 1) * (i + 1) := by first | (rw [e10, nI_ltI (by omega) h40] at c_17; exact c_17) | (have h9 := c_17; rw [nI_1, pk_mul, nI_ltI (by omega) h40] at h9; exact h9)
    refine lv_iload_n hx hb dX8_rootOf_26 rfl (lv_at hl 1 rfl) ?_
    exact W.iret (v := nI i) hx hb hr (fun t ht hW => ⟨⟨nI i, (), rfl, (by rw [o_root_eq hinv h10]), m_wo_out hw ht hW.alike⟩, m_wo_F hw ht⟩) (m_wo_L hw) dX8_rootOf_27
  · skip
    have e10 : ((nI i + 1) * (nI i + 1) : Int32) = nI ((i + 1) * (i + 1)) := by rw [nI_1, pk_mul]
    have h40 : (i + 1) * (i + 1) < 2 ^ 31 := Nat.lt_of_le_of_lt (Nat.mul_le_mul (show i + 1 ≤ 200 by omega) (show i + 1 ≤ 200 by omega)) (by decide)
    have h10 : (i + 1) * (i + 1) ≤ n := by (have h9 := c_17; rw [e10, nI_ltI (by omega) h40] at h9; omega)
    have hmu : i ≤ i * i := by cases i with
      | zero => exact Nat.le_refl _
      | succ i => exact Nat.le_mul_of_pos_left _ (by omega)
    refine lv_iinc (v := nI (i + 1)) (lv' := [(1, .int (nI (i + 1))), (0, .int (nI n))]) hx hb dX8_rootOf_20 hl (k := 1) rfl (nI_1 _) (by decide) rfl (fun ls hl => ?_)
    refine lv_goto (tgt := 2) hx hb dX8_rootOf_23 (by decide) ?_
    exact ih (i + 1) _ _ _ (by omega) ⟨h10, hw, lv_sub hl [1, 0] rfl⟩
set_option maxHeartbeats 400000 in
set_option maxRecDepth 100000 in
theorem c_X8_hitsAheadOf (l : Launch) {G : mG} {K : Nat → Nat} {I : Nat → Nat → Int32} {R : Nat → Nat → Option Nat} {F : Nat → UInt32} {A : Nat → Nat → Int32} {N : Nat → Nat} {L : Nat → List Nat} {T : Nat → List Int32} {J : Nat → Nat → Int64} {D : Nat → Nat → UInt64} {o : Nat} {cd : Nat → Nat} {is9 fr : Nat} (hok : c_ok K R N o cd) (hel0 : ∀ a, a ∈ L (cd 0) → K a = 3) (hki : K is9 = 3) (hkf : K fr = 3) : Met l yX8_hitsAheadOf wsX8_hitsAheadOf ({ frames := 3, cells := 0, slots := 0, locals := 140 } : Room) (va_Pc [.ref o, .ref is9, .ref fr] (m_B G K I R F A N L T J D)) (va_Qi (fun (r : Int32) (_ : Unit) => r = nI ((L (cd 0)).countP (fun y9 => c_ahead I F y9 is9 fr))) (fun u : Unit => m_B G K I R F A N L T J D) (m_A G)) 0 0 (m_A G) := by
  refine Met.ofW (cc := cX8_hitsAheadOf) (maxL := 5) (ret := (some .int)) (by decide) rfl ?_
  intro p e s m args below meth c s₁ B hml hv
  obtain ⟨rfl, hB⟩ := hv
  have hx := B.exec
  have hb := B.bytes
  have hr := B.returns
  have hts := atoms_spec (ws := wsX8_hitsAheadOf) B.pre
  have hown : s.vm.findClass RX8 = some m.cls := findClass_of_methodNamed B.named
  have hlocks := B.notSynchronized
  have hw := m_wo_in hB
  have hl := lv_entry ([.ref o, .ref is9, .ref fr]) (n := 5) (Nat.le_of_ble_eq_true rfl)
  rw [lg_entry_eq]
  generalize (lg_sl ([.ref o, .ref is9, .ref fr]) ++ List.replicate (5 - (lg_sl ([.ref o, .ref is9, .ref fr])).length) Slot.unset).toArray = ls at hl ⊢
  have hl : lv_has ls 5 [(0, .ref o), (1, .ref is9), (2, .ref fr)] := hl
  have hlen := m_len hw hok.2.2.2.2.2.2.2.2.2.2.1
  refine lv_iconst (v := 0) hx hb dX8_hitsAheadOf_0 (by decide) ?_
  refine lv_istore_n (lv' := [(3, .int 0), (0, .ref o), (1, .ref is9), (2, .ref fr)]) hx hb dX8_hitsAheadOf_1 rfl hl (by decide) rfl (fun ls hl => ?_)
  refine lv_iconst (v := 0) hx hb dX8_hitsAheadOf_2 (by decide) ?_
  refine lv_istore (lv' := [(4, .int 0), (3, .int 0), (0, .ref o), (1, .ref is9), (2, .ref fr)]) hx hb dX8_hitsAheadOf_3 hl (by decide) rfl (fun ls hl => ?_)
  refine m_loop (σ := Nat × Int32) (fun a => (L (cd 0)).length - (a.1)) (fun a H locs ls => ((a.1) ≤ (L (cd 0)).length ∧ (a.2) = nI (cntB (fun j => c_ahead I F ((L (cd 0)).getD j 0) is9 fr) (a.1))) ∧ m_wo G K I R F A N L T J D s H locs ∧ lv_has ls 5 [(0, .ref o), (1, .ref is9), (2, .ref fr), (3, .int (a.2)), (4, .int (nI (a.1)))]) ?_ (0, 0) ⟨⟨Nat.zero_le _, rfl⟩, hw, lv_sub hl [2, 3, 4, 1, 0] rfl⟩
  rintro ⟨i, y9⟩ H locs ls ⟨hinv, hw, hl⟩ ih
  dsimp only at hinv hw hl
  obtain ⟨hi0, hx0⟩ := hinv
  refine lv_iload hx hb dX8_hitsAheadOf_5 (lv_at hl 4 rfl) ?_
  refine lv_aload_n hx hb dX8_hitsAheadOf_7 rfl (lv_at hl 0 rfl) ?_
  refine g_9_0 (r := some (cd 0)) hx hb hts (by decide +kernel) hown hw hok.1 (hts (.fieldLink RX8 10 "Pirateindex" "isles" "Ljava/util/ArrayList;") (by decide +kernel)) hok.2.1 dX8_hitsAheadOf_8 ?_
  refine m_ci (va_runV (As := []) (rest := [.int (nI i)]) ⟨hx, hb, hml, hown, hts⟩ (c_Jx4a65c_size_8abf5 l hok.2.2.2.2.2.2.2.2.2.2.1) (cwV 0 hts gX8_hitsAheadOf_Jx4a65c_size_8abf5 rfl rfl rfl (by decide +kernel) ⟨Nat.le_of_ble_eq_true rfl, Nat.le_of_ble_eq_true rfl⟩) ⟨m_blind m_B_calling, m_recv hw (m_ent_11 hok.2.2.2.2.2.2.2.2.2.2.1) rfl, fun U hU hW => ⟨rfl, m_wo_call hw hU hW⟩⟩ rfl rfl hl.1 rfl (lv_room (Nat.le_of_ble_eq_true rfl)) dX8_hitsAheadOf_11 ⟨Nat.le_of_ble_eq_true rfl, Nat.le_of_ble_eq_true rfl⟩) hw (fun r_11 u_11 H locs hp_11 hw => ?_)
  obtain rfl : r_11 = (nI (L (cd 0)).length) := hp_11
  refine lv_icmp_ge (tgt := 46) hx hb dX8_hitsAheadOf_14 (by decide) (fun c_14 => ?_) (fun c_14 => ?_)
  · skip
    rw [nI_leI (by omega) (by omega)] at c_14
    have hi : i = (L (cd 0)).length := by omega
    refine lv_iload_n hx hb dX8_hitsAheadOf_46 rfl (lv_at hl 3 rfl) ?_
    exact W.iret (v := y9) hx hb hr (fun t ht hW => ⟨⟨y9, (), rfl, (by rw [hx0, hi]; exact congrArg nI (cnt_list (fun y9 => c_ahead I F y9 is9 fr) (L (cd 0)))), m_wo_out hw ht hW.alike⟩, m_wo_F hw ht⟩) (m_wo_L hw) dX8_hitsAheadOf_47
  · skip
    rw [nI_leI (by omega) (by omega)] at c_14
    have hi : i < (L (cd 0)).length := by omega
    refine lv_aload_n hx hb dX8_hitsAheadOf_17 rfl (lv_at hl 0 rfl) ?_
    refine g_9_0 (r := some (cd 0)) hx hb hts (by decide +kernel) hown hw hok.1 (hts (.fieldLink RX8 10 "Pirateindex" "isles" "Ljava/util/ArrayList;") (by decide +kernel)) hok.2.1 dX8_hitsAheadOf_18 ?_
    refine lv_iload hx hb dX8_hitsAheadOf_21 (lv_at hl 4 rfl) ?_
    obtain ⟨ai, ha⟩ : ∃ z, (L (cd 0))[i]? = some z := ⟨_, lg_some hi⟩
    have hka : K ai = 3 := hel0 ai (List.mem_of_getElem? ha)
    refine m_cq (va_runV (As := [.int (nI i)]) (rest := []) ⟨hx, hb, hml, hown, hts⟩ (c_Jx4a65c_get_915e3 l hok.2.2.2.2.2.2.2.2.2.2.1 hi) (cwV 1 hts gX8_hitsAheadOf_Jx4a65c_get_915e3 rfl rfl rfl (by decide +kernel) ⟨Nat.le_of_ble_eq_true rfl, Nat.le_of_ble_eq_true rfl⟩) ⟨m_blind m_B_calling, m_recv hw (m_ent_11 hok.2.2.2.2.2.2.2.2.2.2.1) rfl, fun U hU hW => ⟨rfl, m_wo_call hw hU hW⟩⟩ rfl rfl hl.1 rfl (lv_room (Nat.le_of_ble_eq_true rfl)) dX8_hitsAheadOf_23 ⟨Nat.le_of_ble_eq_true rfl, Nat.le_of_ble_eq_true rfl⟩) hw (fun r_23 u_23 H locs hp_23 hw => ?_)
    obtain rfl : r_23 = some ai := hp_23.trans ha
    refine va_castS hx hb hown (hts (.classLink RX8 75 "Pirateindex$Isle") (by decide +kernel)) (hw.1.1 7 _ rfl).2 (m_recv hw (m_ent_3 hka) rfl) dX8_hitsAheadOf_26 ?_
    refine lv_aload_n hx hb dX8_hitsAheadOf_29 rfl (lv_at hl 1 rfl) ?_
    refine lv_aload_n hx hb dX8_hitsAheadOf_30 rfl (lv_at hl 2 rfl) ?_
    refine m_ci (va_runV (As := [.ref is9, .ref fr]) (rest := []) ⟨hx, hb, hml, hown, hts⟩ (c_X2_ranksAheadOf l hka hki hkf) (cwV 2 hts gX8_hitsAheadOf_X2_ranksAheadOf rfl rfl rfl (by decide +kernel) ⟨Nat.le_of_ble_eq_true rfl, Nat.le_of_ble_eq_true rfl⟩) ⟨m_blind m_B_calling, m_recv hw (m_ent_3 hka) rfl, fun U hU hW => ⟨rfl, m_wo_call hw hU hW⟩⟩ rfl rfl hl.1 rfl (lv_room (Nat.le_of_ble_eq_true rfl)) dX8_hitsAheadOf_31 ⟨Nat.le_of_ble_eq_true rfl, Nat.le_of_ble_eq_true rfl⟩) hw (fun r_31 u_31 H locs hp_31 hw => ?_)
    obtain rfl : r_31 = b2i (c_ahead I F ai is9 fr) := hp_31
    refine lv_if_eq (tgt := 40) hx hb dX8_hitsAheadOf_34 (by decide) (fun c_34 => ?_) (fun c_34 => ?_)
    · skip
      have hq := (b2i_eq _).mp c_34
      have hx1 : y9 = nI (cntB (fun j => c_ahead I F ((L (cd 0)).getD j 0) is9 fr) (i + 1)) := by rw [cnt_F (fun y9 => c_ahead I F y9 is9 fr) ha hq]; exact hx0
      refine lv_iinc (v := nI (i + 1)) (lv' := [(4, .int (nI (i + 1))), (0, .ref o), (1, .ref is9), (2, .ref fr), (3, .int y9)]) hx hb dX8_hitsAheadOf_40 hl (k := 4) rfl (nI_1 _) (by decide) rfl (fun ls hl => ?_)
      refine lv_goto (tgt := 5) hx hb dX8_hitsAheadOf_43 (by decide) ?_
      exact ih (i + 1, y9) _ _ _ (by dsimp only; omega) ⟨⟨by omega, hx1⟩, hw, lv_sub hl [1, 2, 3, 4, 0] rfl⟩
    · skip
      have hq := (b2i_ne _).mp c_34
      have hx1 : y9 + 1 = nI (cntB (fun j => c_ahead I F ((L (cd 0)).getD j 0) is9 fr) (i + 1)) := by rw [cnt_T (fun y9 => c_ahead I F y9 is9 fr) ha hq, hx0]; exact nI_1 _
      refine lv_iinc (v := y9 + 1) (lv' := [(3, .int (y9 + 1)), (0, .ref o), (1, .ref is9), (2, .ref fr), (4, .int (nI i))]) hx hb dX8_hitsAheadOf_37 hl (k := 3) rfl rfl (by decide) rfl (fun ls hl => ?_)
      refine lv_iinc (v := nI (i + 1)) (lv' := [(4, .int (nI (i + 1))), (3, .int (y9 + 1)), (0, .ref o), (1, .ref is9), (2, .ref fr)]) hx hb dX8_hitsAheadOf_40 hl (k := 4) rfl (nI_1 _) (by decide) rfl (fun ls hl => ?_)
      refine lv_goto (tgt := 5) hx hb dX8_hitsAheadOf_43 (by decide) ?_
      exact ih (i + 1, y9 + 1) _ _ _ (by dsimp only; omega) ⟨⟨by omega, hx1⟩, hw, lv_sub hl [2, 3, 4, 1, 0] rfl⟩
set_option maxHeartbeats 400000 in
set_option maxRecDepth 100000 in
theorem c_X8_weightOf (l : Launch) {G : mG} {K : Nat → Nat} {I : Nat → Nat → Int32} {R : Nat → Nat → Option Nat} {F : Nat → UInt32} {A : Nat → Nat → Int32} {N : Nat → Nat} {L : Nat → List Nat} {T : Nat → List Int32} {J : Nat → Nat → Int64} {D : Nat → Nat → UInt64} {o : Nat} {cd : Nat → Nat} {wd : Int32} (hok : c_ok K R N o cd) (hel9 : ∀ a, a ∈ L (cd 9) → K a = 1) (hps9 : c_pst I R (L (cd 9))) (hne : vf_n32 (FP.fdiv (FP.i2f (nI (L (cd 0)).length)) (FP.i2f (1 + nI (c_il I (c_pw I R wd) (fun j => (L (cd 9)).getD j 0) (L (cd 9)).length).1))) ∧ vf_n32 (o_wt (L (cd 0)).length (c_il I (c_pw I R wd) (fun j => (L (cd 9)).getD j 0) (L (cd 9)).length).1)) : Met l yX8_weightOf wsX8_weightOf ({ frames := 4, cells := 0, slots := 0, locals := 140 } : Room) (va_Pc [.ref o, .int wd] (m_B G K I R F A N L T J D)) (va_Qf (fun (r : UInt32) (_ : Unit) => r = o_wt (L (cd 0)).length (c_il I (c_pw I R wd) (fun j => (L (cd 9)).getD j 0) (L (cd 9)).length).1) (fun u : Unit => m_B G K I R F A N L T J D) (m_A G)) 0 0 (m_A G) := by
  refine Met.ofW (cc := cX8_weightOf) (maxL := 2) (ret := (some .float)) (by decide) rfl ?_
  intro p e s m args below meth c s₁ B hml hv
  obtain ⟨rfl, hB⟩ := hv
  have hx := B.exec
  have hb := B.bytes
  have hr := B.returns
  have hts := atoms_spec (ws := wsX8_weightOf) B.pre
  have hown : s.vm.findClass RX8 = some m.cls := findClass_of_methodNamed B.named
  have hlocks := B.notSynchronized
  have hw := m_wo_in hB
  have hl := lv_entry ([.ref o, .int wd]) (n := 2) (Nat.le_of_ble_eq_true rfl)
  rw [lg_entry_eq]
  generalize (lg_sl ([.ref o, .int wd]) ++ List.replicate (2 - (lg_sl ([.ref o, .int wd])).length) Slot.unset).toArray = ls at hl ⊢
  have hl : lv_has ls 2 [(0, .ref o), (1, .int wd)] := hl
  refine lv_fconst1 hx hb dX8_weightOf_0 ?_
  refine lv_aload_n hx hb dX8_weightOf_1 rfl (lv_at hl 0 rfl) ?_
  refine g_9_0 (r := some (cd 0)) hx hb hts (by decide +kernel) hown hw hok.1 (hts (.fieldLink RX8 10 "Pirateindex" "isles" "Ljava/util/ArrayList;") (by decide +kernel)) hok.2.1 dX8_weightOf_2 ?_
  refine m_ci (va_runV (As := []) (rest := [.float (FP.fconst1)]) ⟨hx, hb, hml, hown, hts⟩ (c_Jx4a65c_size_8abf5 l hok.2.2.2.2.2.2.2.2.2.2.1) (cwV 0 hts gX8_weightOf_Jx4a65c_size_8abf5 rfl rfl rfl (by decide +kernel) ⟨Nat.le_of_ble_eq_true rfl, Nat.le_of_ble_eq_true rfl⟩) ⟨m_blind m_B_calling, m_recv hw (m_ent_11 hok.2.2.2.2.2.2.2.2.2.2.1) rfl, fun U hU hW => ⟨rfl, m_wo_call hw hU hW⟩⟩ rfl rfl hl.1 rfl (lv_room (Nat.le_of_ble_eq_true rfl)) dX8_weightOf_5 ⟨Nat.le_of_ble_eq_true rfl, Nat.le_of_ble_eq_true rfl⟩) hw (fun r_5 u_5 H locs hp_5 hw => ?_)
  obtain rfl : r_5 = (nI (L (cd 0)).length) := hp_5
  refine lv_i2f hx hb dX8_weightOf_8 ?_
  refine lv_iconst (v := 1) hx hb dX8_weightOf_9 (by decide) ?_
  refine lv_aload_n hx hb dX8_weightOf_10 rfl (lv_at hl 0 rfl) ?_
  refine g_9_2 (r := some (cd 2)) hx hb hts (by decide +kernel) hown hw hok.1 (hts (.fieldLink RX8 22 "Pirateindex" "index" "LPirateindex$Index;") (by decide +kernel)) hok.2.2.2.1 dX8_weightOf_11 ?_
  refine lv_iload_n hx hb dX8_weightOf_14 rfl (lv_at hl 1 rfl) ?_
  refine m_ci (va_runV (As := [.int wd]) (rest := [.int 1, .float (FP.i2f (nI (L (cd 0)).length)), .float (FP.fconst1)]) ⟨hx, hb, hml, hown, hts⟩ (c_X1_islandsOf l hok.2.2.2.2.2.2.2.2.2.2.2.2.1 hok.2.2.2.2.2.2.2.2.2.2.2.2.2.2.2.2.2.2.2.2.2.2.2.2.2.1 hok.2.2.2.2.2.2.2.2.2.2.2.2.2.2.2.2.2.2.2.1 hel9 hps9) (cwV 1 hts gX8_weightOf_X1_islandsOf rfl rfl rfl (by decide +kernel) ⟨Nat.le_of_ble_eq_true rfl, Nat.le_of_ble_eq_true rfl⟩) ⟨m_blind m_B_calling, m_recv hw (m_ent_2 hok.2.2.2.2.2.2.2.2.2.2.2.2.1) rfl, fun U hU hW => ⟨rfl, m_wo_call hw hU hW⟩⟩ rfl rfl hl.1 rfl (lv_room (Nat.le_of_ble_eq_true rfl)) dX8_weightOf_15 ⟨Nat.le_of_ble_eq_true rfl, Nat.le_of_ble_eq_true rfl⟩) hw (fun r_15 u_15 H locs hp_15 hw => ?_)
  obtain rfl : r_15 = nI (c_il I (c_pw I R wd) (fun j => (L (cd 9)).getD j 0) (L (cd 9)).length).1 := hp_15
  refine lv_iadd hx hb dX8_weightOf_18 ?_
  refine lv_i2f hx hb dX8_weightOf_19 ?_
  refine lv_fdiv hx hb dX8_weightOf_20 hne.1 ?_
  refine lv_fadd hx hb dX8_weightOf_21 hne.2 ?_
  exact W.fret (v := (FP.fadd (FP.fconst1) (FP.fdiv (FP.i2f (nI (L (cd 0)).length)) (FP.i2f (1 + (nI (c_il I (c_pw I R wd) (fun j => (L (cd 9)).getD j 0) (L (cd 9)).length).1)))))) hx hb hr (fun t ht hW => ⟨⟨(FP.fadd (FP.fconst1) (FP.fdiv (FP.i2f (nI (L (cd 0)).length)) (FP.i2f (1 + (nI (c_il I (c_pw I R wd) (fun j => (L (cd 9)).getD j 0) (L (cd 9)).length).1))))), (), rfl, rfl, m_wo_out hw ht hW.alike⟩, m_wo_F hw ht⟩) (m_wo_L hw) dX8_weightOf_22
set_option maxHeartbeats 400000 in
set_option maxRecDepth 100000 in
theorem c_X8_weightOfMap (l : Launch) {G : mG} {K : Nat → Nat} {I : Nat → Nat → Int32} {R : Nat → Nat → Option Nat} {F : Nat → UInt32} {A : Nat → Nat → Int32} {N : Nat → Nat} {L : Nat → List Nat} {T : Nat → List Int32} {J : Nat → Nat → Int64} {D : Nat → Nat → UInt64} {o : Nat} {cd : Nat → Nat} {ph w9 d9 n : Nat}  (hok : c_ok K R N o cd) (hel9 : ∀ a, a ∈ L (cd 9) → K a = 1) (hps9 : c_pst I R (L (cd 9))) (hph : c_ph K R N I A ph w9 d9 n) (hne : ∀ k, k < n → vf_n32 (FP.fdiv (FP.i2f (nI (L (cd 0)).length)) (FP.i2f (1 + nI (c_il I (c_pw I R (A w9 k)) (fun j => (L (cd 9)).getD j 0) (L (cd 9)).length).1))) ∧ vf_n32 ((fun j9 => o_wt (L (cd 0)).length (c_il I (c_pw I R (A w9 j9)) (fun j => (L (cd 9)).getD j 0) (L (cd 9)).length).1) k) ∧ vf_n32 (FP.fadd (o_sumW (fun j9 => o_wt (L (cd 0)).length (c_il I (c_pw I R (A w9 j9)) (fun j => (L (cd 9)).getD j 0) (L (cd 9)).length).1) k) ((fun j9 => o_wt (L (cd 0)).length (c_il I (c_pw I R (A w9 j9)) (fun j => (L (cd 9)).getD j 0) (L (cd 9)).length).1) k))) : Met l yX8_weightOfMap wsX8_weightOfMap ({ frames := 5, cells := 0, slots := 0, locals := 200 } : Room) (va_Pc [.ref o, .ref ph] (m_B G K I R F A N L T J D)) (va_Qf (fun (r : UInt32) (_ : Unit) => r = o_sumW (fun j9 => o_wt (L (cd 0)).length (c_il I (c_pw I R (A w9 j9)) (fun j => (L (cd 9)).getD j 0) (L (cd 9)).length).1) n) (fun u : Unit => m_B G K I R F A N L T J D) (m_A G)) 0 0 (m_A G) := by
  refine Met.ofW (cc := cX8_weightOfMap) (maxL := 4) (ret := (some .float)) (by decide) rfl ?_
  intro p e s m args below meth c s₁ B hml hv
  obtain ⟨rfl, hB⟩ := hv
  have hx := B.exec
  have hb := B.bytes
  have hr := B.returns
  have hts := atoms_spec (ws := wsX8_weightOfMap) B.pre
  have hown : s.vm.findClass RX8 = some m.cls := findClass_of_methodNamed B.named
  have hlocks := B.notSynchronized
  have hw := m_wo_in hB
  have hl := lv_entry ([.ref o, .ref ph]) (n := 4) (Nat.le_of_ble_eq_true rfl)
  rw [lg_entry_eq]
  generalize (lg_sl ([.ref o, .ref ph]) ++ List.replicate (4 - (lg_sl ([.ref o, .ref ph])).length) Slot.unset).toArray = ls at hl ⊢
  have hl : lv_has ls 4 [(0, .ref o), (1, .ref ph)] := hl
  have hn4 := hph.2.2.2.2.2.2.2.2.1
  refine lv_fconst0 hx hb dX8_weightOfMap_0 ?_
  refine lv_fstore_n (lv' := [(2, .float (FP.fconst0)), (0, .ref o), (1, .ref ph)]) hx hb dX8_weightOfMap_1 rfl hl (by decide) rfl (fun ls hl => ?_)
  refine lv_iconst (v := 0) hx hb dX8_weightOfMap_2 (by decide) ?_
  refine lv_istore_n (lv' := [(3, .int 0), (2, .float (FP.fconst0)), (0, .ref o), (1, .ref ph)]) hx hb dX8_weightOfMap_3 rfl hl (by decide) rfl (fun ls hl => ?_)
  refine m_loop (σ := Nat × UInt32) (fun a => n - (a.1)) (fun a H locs ls => ((a.1) ≤ n ∧ (a.2) = o_sumW (fun j9 => o_wt (L (cd 0)).length (c_il I (c_pw I R (A w9 j9)) (fun j => (L (cd 9)).getD j 0) (L (cd 9)).length).1) (a.1)) ∧ m_wo G K I R F A N L T J D s H locs ∧ lv_has ls 4 [(0, .ref o), (1, .ref ph), (2, .float (a.2)), (3, .int (nI (a.1)))]) ?_ (0, FP.fconst0) ⟨⟨Nat.zero_le _, rfl⟩, hw, lv_sub hl [2, 3, 1, 0] rfl⟩
  rintro ⟨k, y9⟩ H locs ls ⟨hinv, hw, hl⟩ ih
  dsimp only at hinv hw hl
  obtain ⟨hk0, hx0⟩ := hinv
  refine lv_iload_n hx hb dX8_weightOfMap_4 rfl (lv_at hl 3 rfl) ?_
  refine lv_aload_n hx hb dX8_weightOfMap_5 rfl (lv_at hl 1 rfl) ?_
  refine g_4_2 hx hb hts (by decide +kernel) hown hw hph.1 (hts (.fieldLink RX8 227 "Pirateindex$Phrase" "length" "I") (by decide +kernel)) dX8_weightOfMap_6 ?_
  rw [hph.2.2.2.2.2.2.2.1]
  refine lv_icmp_ge (tgt := 30) hx hb dX8_weightOfMap_9 (by decide) (fun c_9 => ?_) (fun c_9 => ?_)
  · skip
    rw [nI_leI (by omega) (by omega)] at c_9
    have hk : k = n := by omega
    refine lv_fload_n hx hb dX8_weightOfMap_30 rfl (lv_at hl 2 rfl) ?_
    exact W.fret (v := y9) hx hb hr (fun t ht hW => ⟨⟨y9, (), rfl, (by rw [hx0, hk]), m_wo_out hw ht hW.alike⟩, m_wo_F hw ht⟩) (m_wo_L hw) dX8_weightOfMap_31
  · skip
    rw [nI_leI (by omega) (by omega)] at c_9
    have hk : k < n := by omega
    refine lv_fload_n hx hb dX8_weightOfMap_12 rfl (lv_at hl 2 rfl) ?_
    refine lv_aload_n hx hb dX8_weightOfMap_13 rfl (lv_at hl 0 rfl) ?_
    refine lv_aload_n hx hb dX8_weightOfMap_14 rfl (lv_at hl 1 rfl) ?_
    refine lv_iload_n hx hb dX8_weightOfMap_15 rfl (lv_at hl 3 rfl) ?_
    refine m_ci (va_runV (As := [.int (nI k)]) (rest := [.ref o, .float y9]) ⟨hx, hb, hml, hown, hts⟩ (c_X3_wordAt l hph.1 hph.2.1 hph.2.2.1 hph.2.2.2.1 (by omega)) (cwV 1 hts gX8_weightOfMap_X3_wordAt rfl rfl rfl (by decide +kernel) ⟨Nat.le_of_ble_eq_true rfl, Nat.le_of_ble_eq_true rfl⟩) ⟨m_blind m_B_calling, m_recv hw (m_ent_4 hph.1) rfl, fun U hU hW => ⟨rfl, m_wo_call hw hU hW⟩⟩ rfl rfl hl.1 rfl (lv_room (Nat.le_of_ble_eq_true rfl)) dX8_weightOfMap_16 ⟨Nat.le_of_ble_eq_true rfl, Nat.le_of_ble_eq_true rfl⟩) hw (fun r_16 u_16 H locs hp_16 hw => ?_)
    obtain rfl : r_16 = A w9 k := hp_16
    refine m_cf (va_runV (As := [.int (A w9 k)]) (rest := [.float y9]) ⟨hx, hb, hml, hown, hts⟩ (c_X8_weightOf l hok hel9 hps9 ⟨(hne k hk).1, (hne k hk).2.1⟩) (cwV 1 hts gX8_weightOfMap_X8_weightOf rfl rfl rfl (by decide +kernel) ⟨Nat.le_of_ble_eq_true rfl, Nat.le_of_ble_eq_true rfl⟩) ⟨m_blind m_B_calling, m_recv hw (m_ent_9 hok.1) rfl, fun U hU hW => ⟨rfl, m_wo_call hw hU hW⟩⟩ rfl rfl hl.1 rfl (lv_room (Nat.le_of_ble_eq_true rfl)) dX8_weightOfMap_19 ⟨Nat.le_of_ble_eq_true rfl, Nat.le_of_ble_eq_true rfl⟩) hw (fun r_19 u_19 H locs hp_19 hw => ?_)
    obtain rfl : r_19 = (fun j9 => o_wt (L (cd 0)).length (c_il I (c_pw I R (A w9 j9)) (fun j => (L (cd 9)).getD j 0) (L (cd 9)).length).1) k := hp_19
    refine lv_fadd hx hb dX8_weightOfMap_22 (by rw [hx0]; exact (hne k hk).2.2) ?_
    refine lv_fstore_n (lv' := [(2, .float (FP.fadd y9 ((fun j9 => o_wt (L (cd 0)).length (c_il I (c_pw I R (A w9 j9)) (fun j => (L (cd 9)).getD j 0) (L (cd 9)).length).1) k))), (0, .ref o), (1, .ref ph), (3, .int (nI k))]) hx hb dX8_weightOfMap_23 rfl hl (by decide) rfl (fun ls hl => ?_)
    refine lv_iinc (v := nI (k + 1)) (lv' := [(3, .int (nI (k + 1))), (2, .float (FP.fadd y9 ((fun j9 => o_wt (L (cd 0)).length (c_il I (c_pw I R (A w9 j9)) (fun j => (L (cd 9)).getD j 0) (L (cd 9)).length).1) k))), (0, .ref o), (1, .ref ph)]) hx hb dX8_weightOfMap_24 hl (k := 3) rfl (nI_1 _) (by decide) rfl (fun ls hl => ?_)
    refine lv_goto (tgt := 4) hx hb dX8_weightOfMap_27 (by decide) ?_
    exact ih (k + 1, (FP.fadd y9 ((fun j9 => o_wt (L (cd 0)).length (c_il I (c_pw I R (A w9 j9)) (fun j => (L (cd 9)).getD j 0) (L (cd 9)).length).1) k))) _ _ _ (by dsimp only; omega) ⟨⟨by omega, by rw [hx0]; rfl⟩, hw, lv_sub hl [2, 3, 1, 0] rfl⟩
