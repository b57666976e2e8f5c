set_option maxHeartbeats 400000 in
set_option maxRecDepth 100000 in
theorem c_X1_enter (l : Launch) {G : mG} {K : Nat → Nat} {I : Nat → Nat → Int32} {R : Nat → Nat → Option Nat} {F : Nat → UInt32} {A : Nat → Nat → Int32} {N : Nat → Nat} {L : Nat → List Nat} {T : Nat → List Int32} {J : Nat → Nat → Int64} {D : Nat → Nat → UInt64} {o lr f9 : Nat} (hko : K o = 2) (hrow : R 20 o = some lr) (hlr : K lr = 11) (hel : ∀ a, a ∈ L lr → K a = 1) (hr1 : R 111 lr ≠ none) (hf9 : K f9 = 1) (hc6 : (L lr).length ≤ 600) : Met l yX1_enter wsX1_enter ({ frames := 6, cells := (if (L lr).length = m_cap R N lr then 1 else 0), slots := (if (L lr).length = m_cap R N lr then m_nc (L lr).length else 0), locals := 260 } : Room) (va_Pc [.ref o, .ref f9] (m_B G K I R F A N L T J D)) (va_Qv (fun (u : (Nat → Nat) × (Nat → Nat → Int32) × (Nat → Nat → Option Nat) × (Nat → Nat) × (Nat → List Nat)) => m_hid lr K I R N u.1 u.2.1 u.2.2.1 u.2.2.2.1 ∧ m_cap u.2.2.1 u.2.2.2.1 lr = m_cap R N lr + m_dc (L lr).length (m_cap R N lr) ∧ ∃ k, k ≤ (L lr).length ∧ u.2.2.2.2 = m_up L lr (y_ins (L lr) k f9) ∧ (∀ j, k ≤ j → j < (L lr).length → c_lt I f9 ((L lr).getD j 0) = true) ∧ (k = 0 ∨ c_lt I f9 ((L lr).getD (k - 1) 0) = false)) (fun u : (Nat → Nat) × (Nat → Nat → Int32) × (Nat → Nat → Option Nat) × (Nat → Nat) × (Nat → List Nat) => m_B G (u.1) (u.2.1) (u.2.2.1) F A (u.2.2.2.1) (u.2.2.2.2) T J D) (m_A G)) (if (L lr).length = m_cap R N lr then 1 else 0) (if (L lr).length = m_cap R N lr then m_nc (L lr).length else 0) (m_A G) := by
  refine Met.ofW (cc := cX1_enter) (maxL := 3) (ret := none) (by decide) rfl ?_
  intro p e s m args below meth c s₁ B hml hv
  obtain ⟨rfl, hB⟩ := hv
  have hx := B.exec
  have hb := B.bytes
  have hr := B.returns
  have hts := atoms_spec (ws := wsX1_enter) B.pre
  have hown : s.vm.findClass RX1 = some m.cls := findClass_of_methodNamed B.named
  have hlocks := B.notSynchronized
  have hw := m_wo_in hB
  have hl := lv_entry ([.ref o, .ref f9]) (n := 3) (Nat.le_of_ble_eq_true rfl)
  rw [lg_entry_eq]
  generalize (lg_sl ([.ref o, .ref f9]) ++ List.replicate (3 - (lg_sl ([.ref o, .ref f9])).length) Slot.unset).toArray = ls at hl ⊢
  have hl : lv_has ls 3 [(0, .ref o), (1, .ref f9)] := hl
  have hlen := m_len hw hlr
  refine lv_aload_n hx hb dX1_enter_0 rfl (lv_at hl 0 rfl) ?_
  refine g_2_0 (r := some lr) hx hb hts (by decide +kernel) hown hw hko (hts (.fieldLink RX1 12 "Pirateindex$Index" "row" "Ljava/util/ArrayList;") (by decide +kernel)) hrow dX1_enter_1 ?_
  refine m_ci (va_runV (As := []) (rest := []) ⟨hx, hb, hml, hown, hts⟩ (c_Jx4a65c_size_8abf5 l hlr) (cwV 0 hts gX1_enter_Jx4a65c_size_8abf5 rfl rfl rfl (by decide +kernel) ⟨Nat.le_of_ble_eq_true rfl, Nat.le_of_ble_eq_true rfl⟩) ⟨m_blind m_B_calling, m_recv hw (m_ent_11 hlr) rfl, fun U hU hW => ⟨rfl, m_wo_call hw hU hW⟩⟩ rfl rfl hl.1 rfl (lv_room (Nat.le_of_ble_eq_true rfl)) dX1_enter_4 ⟨by show 0 + 0 ≤ (if _ then _ else _); exact Nat.zero_le _, by show 0 + 0 ≤ (if _ then _ else _); exact Nat.zero_le _⟩) hw (fun r_4 u_4 H locs hp_4 hw => ?_)
  obtain rfl : r_4 = (nI (L lr).length) := hp_4
  refine lv_istore_n (lv' := [(2, .int (nI (L lr).length)), (0, .ref o), (1, .ref f9)]) hx hb dX1_enter_7 rfl hl (by decide) rfl (fun ls hl => ?_)
  refine m_loop (σ := Nat) (fun a => (a)) (fun a H locs ls => ((a) ≤ (L lr).length ∧ ∀ j, (a) ≤ j → j < (L lr).length → c_lt I f9 ((L lr).getD j 0) = true) ∧ m_wo G K I R F A N L T J D s H locs ∧ lv_has ls 3 [(0, .ref o), (1, .ref f9), (2, .int (nI (a)))]) ?_ ((L lr).length) ⟨⟨Nat.le_refl _, fun j h1 h2 => absurd h2 (by omega)⟩, hw, lv_sub hl [1, 2, 0] rfl⟩
  rintro k H locs ls ⟨hinv, hw, hl⟩ ih
  try dsimp only at hinv hw hl
  obtain ⟨hk0, hk1⟩ := hinv
  refine lv_iload_n hx hb dX1_enter_8 rfl (lv_at hl 2 rfl) ?_
  refine lv_if_le (tgt := 38) hx hb dX1_enter_9 (by decide) (fun c_9 => ?_) (fun c_9 => ?_)
  · skip
    rw [show (0 : Int32) = nI 0 from rfl, nI_leI (by omega) (by decide)] at c_9
    have hk9 : k = 0 ∨ c_lt I f9 ((L lr).getD (k - 1) 0) = false := Or.inl (by omega)
    refine lv_aload_n hx hb dX1_enter_38 rfl (lv_at hl 0 rfl) ?_
    refine g_2_0 (r := some lr) hx hb hts (by decide +kernel) hown hw hko (hts (.fieldLink RX1 12 "Pirateindex$Index" "row" "Ljava/util/ArrayList;") (by decide +kernel)) hrow dX1_enter_39 ?_
    refine lv_iload_n hx hb dX1_enter_42 rfl (lv_at hl 2 rfl) ?_
    refine lv_aload_n hx hb dX1_enter_43 rfl (lv_at hl 1 rfl) ?_
    refine m_cv (va_runV (As := [.int (nI k), .ref f9]) (rest := []) ⟨hx, hb, hml, hown, hts⟩ (c_Jx4a65c_add_7a177 l (i := k) hlr hr1 (Or.inl hf9) (fun y hy => Or.inl (hel y hy)) hc6 hk0) (cwV 2 hts gX1_enter_Jx4a65c_add_7a177 rfl rfl rfl (by decide +kernel) ⟨Nat.le_of_ble_eq_true rfl, Nat.le_of_ble_eq_true rfl⟩) ⟨m_blind m_B_calling, m_recv hw (m_ent_11 hlr) rfl, fun U hU hW => ⟨rfl, m_wo_call hw hU hW⟩⟩ rfl rfl hl.1 rfl (lv_room (Nat.le_of_ble_eq_true rfl)) dX1_enter_44 ⟨by show 0 + (if _ then _ else _) ≤ _; rw [Nat.zero_add]; exact Nat.le_refl _, by show 0 + (if _ then _ else _) ≤ _; rw [Nat.zero_add]; exact Nat.le_refl _⟩) hw (fun u_44 H locs hp_44 hw => ?_)
    obtain ⟨K_1, I_2, R_3, N_4, L_5⟩ := u_44
    have hw : m_wo G K_1 I_2 R_3 F A N_4 L_5 T J D s H locs := hw
    dsimp only at hp_44
    obtain ⟨hh9, hcap9, hL9⟩ := hp_44
    refine W.widen (k := (if (L lr).length = m_cap R N lr then 1 else 0)) (n := (if (L lr).length = m_cap R N lr then m_nc (L lr).length else 0)) (by rw [Nat.zero_add]; exact Nat.le_refl _) (by rw [Nat.zero_add]; exact Nat.le_refl _) ?_
    exact W.vret hx hb hr (fun t ht hW => ⟨⟨(K_1, I_2, R_3, N_4, L_5), rfl, ⟨hh9, hcap9, k, hk0, hL9, hk1, hk9⟩, m_wo_out hw ht hW.alike⟩, m_wo_F hw ht⟩) (m_wo_L hw) dX1_enter_47
  · skip
    rw [show (0 : Int32) = nI 0 from rfl, nI_leI (by omega) (by decide)] at c_9
    refine lv_aload_n hx hb dX1_enter_12 rfl (lv_at hl 1 rfl) ?_
    refine lv_aload_n hx hb dX1_enter_13 rfl (lv_at hl 0 rfl) ?_
    refine g_2_0 (r := some lr) hx hb hts (by decide +kernel) hown hw hko (hts (.fieldLink RX1 12 "Pirateindex$Index" "row" "Ljava/util/ArrayList;") (by decide +kernel)) hrow dX1_enter_14 ?_
    refine lv_iload_n hx hb dX1_enter_17 rfl (lv_at hl 2 rfl) ?_
    refine lv_iconst (v := 1) hx hb dX1_enter_18 (by decide) ?_
    refine lv_isub hx hb dX1_enter_19 ?_
    rw [show nI k - 1 = nI (k - 1) from pk_sub (a := k) (b := 1) (by omega)]
    obtain ⟨ai, ha⟩ : ∃ z, (L lr)[k - 1]? = some z := ⟨_, lg_some (show k - 1 < (L lr).length by omega)⟩
    have hka : K ai = 1 := hel ai (List.mem_of_getElem? ha)
    refine m_cq (va_runV (As := [.int (nI (k - 1))]) (rest := [.ref f9]) ⟨hx, hb, hml, hown, hts⟩ (c_Jx4a65c_get_915e3 l hlr (show k - 1 < (L lr).length by omega)) (cwV 1 hts gX1_enter_Jx4a65c_get_915e3 rfl rfl rfl (by decide +kernel) ⟨Nat.le_of_ble_eq_true rfl, Nat.le_of_ble_eq_true rfl⟩) ⟨m_blind m_B_calling, m_recv hw (m_ent_11 hlr) rfl, fun U hU hW => ⟨rfl, m_wo_call hw hU hW⟩⟩ rfl rfl hl.1 rfl (lv_room (Nat.le_of_ble_eq_true rfl)) dX1_enter_20 ⟨by show 0 + 0 ≤ (if _ then _ else _); exact Nat.zero_le _, by show 0 + 0 ≤ (if _ then _ else _); exact Nat.zero_le _⟩) hw (fun r_20 u_20 H locs hp_20 hw => ?_)
    obtain rfl : r_20 = some ai := hp_20.trans ha
    refine va_castS hx hb hown (hts (.classLink RX1 26 "Pirateindex$Find") (by decide +kernel)) (hw.1.1 5 _ rfl).2 (m_recv hw (m_ent_1 hka) rfl) dX1_enter_23 ?_
    refine m_ci (va_runV (As := [.ref ai]) (rest := []) ⟨hx, hb, hml, hown, hts⟩ (c_X0_standsBefore l hf9 hka) (cwV 1 hts gX1_enter_X0_standsBefore rfl rfl rfl (by decide +kernel) ⟨Nat.le_of_ble_eq_true rfl, Nat.le_of_ble_eq_true rfl⟩) ⟨m_blind m_B_calling, m_recv hw (m_ent_1 hf9) rfl, fun U hU hW => ⟨rfl, m_wo_call hw hU hW⟩⟩ rfl rfl hl.1 rfl (lv_room (Nat.le_of_ble_eq_true rfl)) dX1_enter_26 ⟨by show 0 + 0 ≤ (if _ then _ else _); exact Nat.zero_le _, by show 0 + 0 ≤ (if _ then _ else _); exact Nat.zero_le _⟩) hw (fun r_26 u_26 H locs hp_26 hw => ?_)
    obtain rfl : r_26 = b2i (c_lt I f9 ai) := hp_26
    refine lv_if_eq (tgt := 38) hx hb dX1_enter_29 (by decide) (fun c_29 => ?_) (fun c_29 => ?_)
    · skip
      have hq := (b2i_eq _).mp c_29
      have hk9 : k = 0 ∨ c_lt I f9 ((L lr).getD (k - 1) 0) = false := Or.inr (by rw [lg_get ha]; exact hq)
      refine lv_aload_n hx hb dX1_enter_38 rfl (lv_at hl 0 rfl) ?_
      refine g_2_0 (r := some lr) hx hb hts (by decide +kernel) hown hw hko (hts (.fieldLink RX1 12 "Pirateindex$Index" "row" "Ljava/util/ArrayList;") (by decide +kernel)) hrow dX1_enter_39 ?_
      refine lv_iload_n hx hb dX1_enter_42 rfl (lv_at hl 2 rfl) ?_
      refine lv_aload_n hx hb dX1_enter_43 rfl (lv_at hl 1 rfl) ?_
      refine m_cv (va_runV (As := [.int (nI k), .ref f9]) (rest := []) ⟨hx, hb, hml, hown, hts⟩ (c_Jx4a65c_add_7a177 l (i := k) hlr hr1 (Or.inl hf9) (fun y hy => Or.inl (hel y hy)) hc6 hk0) (cwV 2 hts gX1_enter_Jx4a65c_add_7a177 rfl rfl rfl (by decide +kernel) ⟨Nat.le_of_ble_eq_true rfl, Nat.le_of_ble_eq_true rfl⟩) ⟨m_blind m_B_calling, m_recv hw (m_ent_11 hlr) rfl, fun U hU hW => ⟨rfl, m_wo_call hw hU hW⟩⟩ rfl rfl hl.1 rfl (lv_room (Nat.le_of_ble_eq_true rfl)) dX1_enter_44 ⟨by show 0 + (if _ then _ else _) ≤ _; rw [Nat.zero_add]; exact Nat.le_refl _, by show 0 + (if _ then _ else _) ≤ _; rw [Nat.zero_add]; exact Nat.le_refl _⟩) hw (fun u_44 H locs hp_44 hw => ?_)
      obtain ⟨K_6, I_7, R_8, N_9, L_10⟩ := u_44
      have hw : m_wo G K_6 I_7 R_8 F A N_9 L_10 T J D s H locs := hw
      dsimp only at hp_44
      obtain ⟨hh9, hcap9, hL9⟩ := hp_44
      refine W.widen (k := (if (L lr).length = m_cap R N lr then 1 else 0)) (n := (if (L lr).length = m_cap R N lr then m_nc (L lr).length else 0)) (by rw [Nat.zero_add]; exact Nat.le_refl _) (by rw [Nat.zero_add]; exact Nat.le_refl _) ?_
      exact W.vret hx hb hr (fun t ht hW => ⟨⟨(K_6, I_7, R_8, N_9, L_10), rfl, ⟨hh9, hcap9, k, hk0, hL9, hk1, hk9⟩, m_wo_out hw ht hW.alike⟩, m_wo_F hw ht⟩) (m_wo_L hw) dX1_enter_47
    · skip
      have hq := (b2i_ne _).mp c_29
      have hk2 : ∀ j, k - 1 ≤ j → j < (L lr).length → c_lt I f9 ((L lr).getD j 0) = true := fun j h1 h2 => by
        by_cases h : j = k - 1
        · rw [h, lg_get ha]; exact hq
        · exact hk1 j (by omega) h2
      refine lv_iinc (v := (nI k) + (-1)) (lv' := [(2, .int ((nI k) + (-1))), (0, .ref o), (1, .ref f9)]) hx hb dX1_enter_32 hl (k := 2) rfl rfl (by decide) rfl (fun ls hl => ?_)
      rw [show nI k + (-1) = nI (k - 1) from by rw [← Int32.sub_eq_add_neg]; exact pk_sub (a := k) (b := 1) (by omega)] at hl
      have hl : lv_has ls 3 [(2, .int (nI (k - 1))), (0, .ref o), (1, .ref f9)] := hl
      refine lv_goto (tgt := 8) hx hb dX1_enter_35 (by decide) ?_
      exact ih ((k - 1)) _ _ _ (by omega) ⟨⟨by omega, hk2⟩, hw, lv_sub hl [1, 2, 0] rfl⟩
set_option maxHeartbeats 400000 in
set_option maxRecDepth 100000 in
theorem c_X4_take (l : Launch) {G : mG} {K : Nat → Nat} {I : Nat → Nat → Int32} {R : Nat → Nat → Option Nat} {F : Nat → UInt32} {A : Nat → Nat → Int32} {N : Nat → Nat} {L : Nat → List Nat} {T : Nat → List Int32} {J : Nat → Nat → Int64} {D : Nat → Nat → UInt64} {o fl f9 : Nat} (hko : K o = 5) (hfl : R 51 o = some fl) (hkf : K fl = 11) (hrf : R 111 fl ≠ none) (hel : ∀ a, a ∈ L fl → K a = 1) (hf9 : K f9 = 1) (hc6 : (L fl).length ≤ 600) : Met l yX4_take wsX4_take ({ frames := 7, cells := (if (L fl).length = m_cap R N fl then 1 else 0), slots := (if (L fl).length = m_cap R N fl then m_nc (L fl).length else 0), locals := 280 } : Room) (va_Pc [.ref o, .ref f9] (m_B G K I R F A N L T J D)) (va_Qv (fun (u : (Nat → Nat) × (Nat → Nat → Int32) × (Nat → Nat → Option Nat) × (Nat → Nat) × (Nat → List Nat)) => ∃ R1, m_hid fl K I R N u.1 u.2.1 R1 u.2.2.2.1 ∧ u.2.2.1 = m_up2 R1 15 f9 (some o) ∧ u.2.2.2.2 = m_up L fl (L fl ++ [f9]) ∧ m_cap u.2.2.1 u.2.2.2.1 fl = m_cap R N fl + m_dc (L fl).length (m_cap R N fl)) (fun u : (Nat → Nat) × (Nat → Nat → Int32) × (Nat → Nat → Option Nat) × (Nat → Nat) × (Nat → List Nat) => m_B G (u.1) (u.2.1) (u.2.2.1) F A (u.2.2.2.1) (u.2.2.2.2) T J D) (m_A G)) (if (L fl).length = m_cap R N fl then 1 else 0) (if (L fl).length = m_cap R N fl then m_nc (L fl).length else 0) (m_A G) := by
  refine Met.ofW (cc := cX4_take) (maxL := 2) (ret := none) (by decide) rfl ?_
  intro p e s m args below meth c s₁ B hml hv
  obtain ⟨rfl, hB⟩ := hv
  have hx := B.exec
  have hb := B.bytes
  have hr := B.returns
  have hts := atoms_spec (ws := wsX4_take) B.pre
  have hown : s.vm.findClass RX4 = some m.cls := findClass_of_methodNamed B.named
  have hlocks := B.notSynchronized
  have hw := m_wo_in hB
  have hl := lv_entry ([.ref o, .ref f9]) (n := 2) (Nat.le_of_ble_eq_true rfl)
  rw [lg_entry_eq]
  generalize (lg_sl ([.ref o, .ref f9]) ++ List.replicate (2 - (lg_sl ([.ref o, .ref f9])).length) Slot.unset).toArray = ls at hl ⊢
  have hl : lv_has ls 2 [(0, .ref o), (1, .ref f9)] := hl
  refine lv_aload_n hx hb dX4_take_0 rfl (lv_at hl 0 rfl) ?_
  refine g_5_1 (r := some fl) hx hb hts (by decide +kernel) hown hw hko (hts (.fieldLink RX4 16 "Pirateindex$Segment" "finds" "Ljava/util/ArrayList;") (by decide +kernel)) hfl dX4_take_1 ?_
  refine lv_aload_n hx hb dX4_take_4 rfl (lv_at hl 1 rfl) ?_
  refine m_ci (va_runV (As := [.ref f9]) (rest := []) ⟨hx, hb, hml, hown, hts⟩ (c_Jx4a65c_add_9ea2d l hkf hrf (Or.inl hf9) (fun y hy => Or.inl (hel y hy)) hc6) (cwV 1 hts gX4_take_Jx4a65c_add_9ea2d rfl rfl rfl (by decide +kernel) ⟨Nat.le_of_ble_eq_true rfl, Nat.le_of_ble_eq_true rfl⟩) ⟨m_blind m_B_calling, m_recv hw (m_ent_11 hkf) rfl, fun U hU hW => ⟨rfl, m_wo_call hw hU hW⟩⟩ rfl rfl hl.1 rfl (lv_room (Nat.le_of_ble_eq_true rfl)) dX4_take_5 ⟨by show 0 + (if _ then _ else _) ≤ _; rw [Nat.zero_add]; exact Nat.le_refl _, by show 0 + (if _ then _ else _) ≤ _; rw [Nat.zero_add]; exact Nat.le_refl _⟩) hw (fun r_5 u_5 H locs hp_5 hw => ?_)
  obtain ⟨K_1, I_2, R_3, N_4, L_5⟩ := u_5
  have hw : m_wo G K_1 I_2 R_3 F A N_4 L_5 T J D s H locs := hw
  dsimp only at hp_5
  obtain ⟨hh9, hcap9, hL9⟩ := hp_5
  have hf99 := m_hid_k hh9 hf9 (by decide) (by decide)
  refine lv_pop hx hb dX4_take_8 rfl ?_
  refine lv_aload_n hx hb dX4_take_9 rfl (lv_at hl 1 rfl) ?_
  refine lv_aload_n hx hb dX4_take_10 rfl (lv_at hl 0 rfl) ?_
  refine p_1_5 hx hb hts (by decide +kernel) hown hw hf99 (hts (.fieldLink RX4 24 "Pirateindex$Find" "segment" "LPirateindex$Segment;") (by decide +kernel)) (some o) dX4_take_11 (fun H locs hw => ?_)
  refine W.widen (k := (if (L fl).length = m_cap R N fl then 1 else 0)) (n := (if (L fl).length = m_cap R N fl then m_nc (L fl).length else 0)) (by rw [Nat.zero_add]; exact Nat.le_refl _) (by rw [Nat.zero_add]; exact Nat.le_refl _) ?_
  exact W.vret hx hb hr (fun t ht hW => ⟨⟨(K_1, I_2, m_up2 R_3 15 f9 (some o), N_4, L_5), rfl, ⟨R_3, hh9, rfl, hL9, (show m_cap (m_up2 R_3 15 f9 (some o)) N_4 fl = m_cap R_3 N_4 fl from by unfold m_cap; rw [m_up2_ni _ _ (by decide)]).trans hcap9⟩, m_wo_out hw ht hW.alike⟩, m_wo_F hw ht⟩) (m_wo_L hw) dX4_take_14
set_option maxHeartbeats 400000 in
set_option maxRecDepth 100000 in
theorem c_X5_addNext (l : Launch) {G : mG} {K : Nat → Nat} {I : Nat → Nat → Int32} {R : Nat → Nat → Option Nat} {F : Nat → UInt32} {A : Nat → Nat → Int32} {N : Nat → Nat} {L : Nat → List Nat} {T : Nat → List Int32} {J : Nat → Nat → Int64} {D : Nat → Nat → UInt64} {o lr : Nat}  (hko : K o = 6) (hrow : R 60 o = some lr) (hlr : K lr = 11) (hel : ∀ a, a ∈ L lr → K a = 5) (hr1 : R 111 lr ≠ none) (hc6 : (L lr).length ≤ 600) : Met l yX5_addNext wsX5_addNext ({ frames := 7, cells := (2 + if (L lr).length = m_cap R N lr then 1 else 0), slots := (5 + if (L lr).length = m_cap R N lr then m_nc (L lr).length else 0), locals := 300 } : Room) (va_Pc [.ref o] (m_B G K I R F A N L T J D)) (va_Qq (fun (r : Option Nat) (u : (Nat → Nat) × (Nat → Nat → Int32) × (Nat → Nat → Option Nat) × (Nat → Nat) × (Nat → List Nat)) => ∃ sg fl R1, r = some sg ∧ K sg = 0 ∧ m_up K sg 5 fl = 0 ∧ L fl = [] ∧ m_hid lr (m_up (m_up K sg 5) fl 11) (m_up2 (m_up2 (m_up2 I 50 sg (I 62 o)) 110 fl 0) 62 o (I 62 o + 1)) (m_up2 (m_up2 R 111 fl (some G.2.2.2)) 51 sg (some fl)) N u.1 u.2.1 R1 u.2.2.2.1 ∧ u.2.2.1 = R1 ∧ u.2.2.2.2 = m_up L lr (L lr ++ [sg])) (fun u : (Nat → Nat) × (Nat → Nat → Int32) × (Nat → Nat → Option Nat) × (Nat → Nat) × (Nat → List Nat) => m_B G (u.1) (u.2.1) (u.2.2.1) F A (u.2.2.2.1) (u.2.2.2.2) T J D) (m_A G)) (2 + if (L lr).length = m_cap R N lr then 1 else 0) (5 + if (L lr).length = m_cap R N lr then m_nc (L lr).length else 0) (m_A G) := by
  refine Met.ofW (cc := cX5_addNext) (maxL := 2) (ret := (some (.object "Pirateindex$Segment"))) (by decide) rfl ?_
  intro p e s m args below meth c s₁ B hml hv
  obtain ⟨rfl, hB⟩ := hv
  have hx := B.exec
  have hb := B.bytes
  have hr := B.returns
  have hts := atoms_spec (ws := wsX5_addNext) B.pre
  have hown : s.vm.findClass RX5 = some m.cls := findClass_of_methodNamed B.named
  have hlocks := B.notSynchronized
  have hw := m_wo_in hB
  have hl := lv_entry ([.ref o]) (n := 2) (Nat.le_of_ble_eq_true rfl)
  rw [lg_entry_eq]
  generalize (lg_sl ([.ref o]) ++ List.replicate (2 - (lg_sl ([.ref o])).length) Slot.unset).toArray = ls at hl ⊢
  have hl : lv_has ls 2 [(0, .ref o)] := hl
  have hlen := m_len hw hlr
  have hlr0 := hlr
  refine m_new_5 hx hb hts (by decide +kernel) hown (hts (.classLink RX5 18 "Pirateindex$Segment") (by decide +kernel)) (hts (.instantiable RX4 2) (by decide +kernel)) (hts (.initialized RX4) (by decide +kernel)) hw (by show 0 + 1 ≤ 2 + (if _ then _ else _); omega) (by show 0 + 2 ≤ 5 + (if _ then _ else _); omega) dX5_addNext_0 (fun q_0 H hz_0 hd_0 hw => ?_)
  have hk_0 : m_up K q_0 5 q_0 = 5 := m_up_self _ _ _
  have hko := m_up_k (k := 5) hz_0 hko (by decide)
  have hlr := m_up_k (k := 5) hz_0 hlr (by decide)
  have hel := fun a ha => m_up_k (k := 5) hz_0 (hel a ha) (by decide)
  refine lv_dup hx hb dX5_addNext_3 rfl ?_
  refine lv_aload_n hx hb dX5_addNext_4 rfl (lv_at hl 0 rfl) ?_
  refine g_6_2 hx hb hts (by decide +kernel) hown hw hko (hts (.fieldLink RX5 31 "Pirateindex$Shelf" "next" "I") (by decide +kernel)) dX5_addNext_5 ?_
  refine m_cv (va_runI (As := [.int (I 62 o)]) (rest := [.ref q_0]) ⟨hx, hb, hml, hown, hts⟩ (c_X4_init l hk_0) (cwI 1 hts gX5_addNext_X4_init rfl rfl rfl (hts (.initialized RX4) (by decide +kernel)) (hts (.methodLink RX5 20 yX4_init) (by decide +kernel)) (hts (.instanceMethod yX4_init) (by decide +kernel)) rfl (by decide +kernel) ⟨Nat.le_of_ble_eq_true rfl, Nat.le_of_ble_eq_true rfl⟩) ⟨m_blind m_B_calling, fun U hU hW => ⟨rfl, m_wo_call hw hU hW⟩⟩ rfl rfl hl.1 rfl (lv_room (Nat.le_of_ble_eq_true rfl)) dX5_addNext_8 ⟨by show 0 + 1 + 1 ≤ 2 + (if _ then _ else _); omega, by show 0 + 2 + 3 ≤ 5 + (if _ then _ else _); omega⟩) hw (fun u_8 H locs hp_8 hw => ?_)
  obtain ⟨K_1, I_2, R_3⟩ := u_8
  have hw : m_wo G K_1 I_2 R_3 F A N L T J D s H locs := hw
  dsimp only at hp_8
  obtain ⟨fl, hLf, hzf, eK4, eI4, eR4⟩ := hp_8
  have hko : K_1 o = 6 := by rw [eK4]; exact m_up_k hzf hko (by decide)
  have hlr : K_1 lr = 11 := by rw [eK4]; exact m_up_k hzf hlr (by decide)
  have hel : ∀ a, a ∈ L lr → K_1 a = 5 := fun a ha => by rw [eK4]; exact m_up_k hzf (hel a ha) (by decide)
  have hksg : K_1 q_0 = 5 := by rw [eK4]; exact m_up_k hzf hk_0 (by decide)
  have hnl : fl ≠ lr := fun z => by rw [z] at hzf; rw [m_up_k hz_0 (show K lr = 11 from hlr0) (by decide)] at hzf; exact absurd hzf (by decide)
  have hrow4 : R_3 60 o = some lr := by rw [eR4, m_up2_ni _ _ (by decide), m_up2_ni _ _ (by decide)]; exact hrow
  have hr14 : R_3 111 lr ≠ none := by rw [eR4, m_up2_ni _ _ (by decide), m_up2_ne _ _ (Ne.symm hnl)]; exact hr1
  have hcap4 : m_cap R_3 N lr = m_cap R N lr := by unfold m_cap; rw [eR4, m_up2_ni _ _ (by decide), m_up2_ne _ _ (Ne.symm hnl)]
  have hI62 : I_2 62 o = I 62 o := by rw [eI4, m_up2_ni _ _ (by decide), m_up2_ni _ _ (by decide)]
  refine lv_astore_n (lv' := [(1, .ref q_0), (0, .ref o)]) hx hb dX5_addNext_11 rfl hl (by decide) rfl (fun ls hl => ?_)
  refine lv_aload_n hx hb dX5_addNext_12 rfl (lv_at hl 1 rfl) ?_
  refine lv_dup hx hb dX5_addNext_13 rfl ?_
  refine g_6_2 hx hb hts (by decide +kernel) hown hw hko (hts (.fieldLink RX5 31 "Pirateindex$Shelf" "next" "I") (by decide +kernel)) dX5_addNext_14 ?_
  rw [hI62]
  refine lv_iconst (v := 1) hx hb dX5_addNext_17 (by decide) ?_
  refine lv_iadd hx hb dX5_addNext_18 ?_
  refine p_6_2 hx hb hts (by decide +kernel) hown hw hko (hts (.fieldLink RX5 31 "Pirateindex$Shelf" "next" "I") (by decide +kernel)) dX5_addNext_19 (fun H locs hw => ?_)
  refine lv_aload_n hx hb dX5_addNext_22 rfl (lv_at hl 1 rfl) ?_
  refine g_6_0 (r := some lr) hx hb hts (by decide +kernel) hown hw hko (hts (.fieldLink RX5 12 "Pirateindex$Shelf" "row" "Ljava/util/ArrayList;") (by decide +kernel)) hrow4 dX5_addNext_23 ?_
  refine lv_aload_n hx hb dX5_addNext_26 rfl (lv_at hl 0 rfl) ?_
  refine m_ci (va_runV (As := [.ref q_0]) (rest := []) ⟨hx, hb, hml, hown, hts⟩ (c_Jx4a65c_add_9ea2d l hlr hr14 (Or.inr (Or.inr (Or.inl hksg))) (fun y hy => Or.inr (Or.inr (Or.inl (hel y hy)))) hc6) (cwV 1 hts gX5_addNext_Jx4a65c_add_9ea2d rfl rfl rfl (by decide +kernel) ⟨Nat.le_of_ble_eq_true rfl, Nat.le_of_ble_eq_true rfl⟩) ⟨m_blind m_B_calling, m_recv hw (m_ent_11 hlr) rfl, fun U hU hW => ⟨rfl, m_wo_call hw hU hW⟩⟩ rfl rfl hl.1 rfl (lv_room (Nat.le_of_ble_eq_true rfl)) dX5_addNext_27 ⟨by rw [hcap4]; show 0 + 1 + 1 + (if _ then _ else _) ≤ 2 + (if _ then _ else _); omega, by rw [hcap4]; show 0 + 2 + 3 + (if _ then _ else _) ≤ 5 + (if _ then _ else _); omega⟩) hw (fun r_27 u_27 H locs hp_27 hw => ?_)
  obtain ⟨K_4, I_5, R_6, N_7, L_8⟩ := u_27
  have hw : m_wo G K_4 I_5 R_6 F A N_7 L_8 T J D s H locs := hw
  dsimp only at hp_27
  obtain ⟨hh9, hcap9, hL9⟩ := hp_27
  refine lv_pop hx hb dX5_addNext_30 rfl ?_
  refine lv_aload_n hx hb dX5_addNext_31 rfl (lv_at hl 0 rfl) ?_
  refine W.widen (k := (2 + if (L lr).length = m_cap R N lr then 1 else 0)) (n := (5 + if (L lr).length = m_cap R N lr then m_nc (L lr).length else 0)) (by rw [hcap4]; omega) (by rw [hcap4]; omega) ?_
  exact W.aret (v := .ref q_0) hx hb hr (Or.inl ⟨_, rfl⟩) (Or.inr ⟨_, rfl⟩) (fun t ht hW => ⟨⟨(some q_0), (K_4, I_5, R_6, N_7, L_8), rfl, ⟨q_0, fl, R_6, rfl, hz_0, hzf, hLf, by rw [← eK4, ← eR4, ← eI4]; exact hh9, rfl, hL9⟩, m_wo_out hw ht hW.alike⟩, m_wo_F hw ht⟩) (m_wo_L hw) dX5_addNext_32
