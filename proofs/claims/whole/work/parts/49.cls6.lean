theorem m_cap0 {G : mG} {K : Nat → Nat} {I : Nat → Nat → Int32} {R : Nat → Nat → Option Nat} {F : Nat → UInt32} {A : Nat → Nat → Int32} {N : Nat → Nat} {L : Nat → List Nat} {T : Nat → List Int32} {J : Nat → Nat → Int64} {D : Nat → Nat → UInt64} {s : State} {H : Heap} {locs : List Loc} {o : Nat} (hw : m_wo G K I R F A N L T J D s H locs) (hk : K o = 11) (hr : R 111 o = some G.2.2.2) : m_cap R N o = 0 := by
  rcases m_list hw hk (by rw [hr]; simp) with ⟨h1, h2, h3⟩ | ⟨e0, h1, h2, h3, h4, h5, h6, h7, h8⟩
  · exact h3
  · rw [hr] at h1
    exact absurd (Option.some.inj h1).symm h8
theorem m_cap_kp {G : mG} {K K2 : Nat → Nat} {I I2 : Nat → Nat → Int32} {R R2 : Nat → Nat → Option Nat} {F F2 : Nat → UInt32} {A A2 : Nat → Nat → Int32} {N N2 : Nat → Nat} {L L2 : Nat → List Nat} {T T2 : Nat → List Int32} {J J2 : Nat → Nat → Int64} {D D2 : Nat → Nat → UInt64} {s s2 : State} {H H2 : Heap} {locs locs2 : List Loc} {o2 : Nat} (hw : m_wo G K I R F A N L T J D s H locs) (hk : K o2 = 11) (hr : R 111 o2 ≠ none) (e : R2 111 o2 = R 111 o2) (hN : ∀ b, K b ≠ 0 → N2 b = N b) (hk2 : K2 o2 = 11) (hw2 : m_wo G K2 I2 R2 F2 A2 N2 L2 T2 J2 D2 s2 H2 locs2) : m_cap R2 N2 o2 = m_cap R N o2 := by
  rcases m_list hw hk hr with ⟨h1, h2, h3⟩ | ⟨e0, h1, h2, h3, h4, h5, h6, h7, h8⟩
  · rw [h3]
    exact m_cap0 hw2 hk2 (e.trans h1)
  · have hN9 := hN e0 (by rw [h2]; decide)
    unfold m_cap
    rw [e, h1]
    exact hN9
theorem m_nc_20 {n : Nat} (h : n ≤ 20) : m_nc n ≤ 30 := by
  unfold m_nc
  split
  · omega
  · have : max 1 (n / 2) ≤ 10 := Nat.max_le.mpr ⟨by omega, by omega⟩
    omega
set_option maxHeartbeats 400000 in
set_option maxRecDepth 100000 in
theorem c_X5_put_o (l : Launch) {G : mG} {K : Nat → Nat} {I : Nat → Nat → Int32} {R : Nat → Nat → Option Nat} {F : Nat → UInt32} {A : Nat → Nat → Int32} {N : Nat → Nat} {L : Nat → List Nat} {T : Nat → List Int32} {J : Nat → Nat → Int64} {D : Nat → Nat → UInt64} {o sg fl f9 : Nat} (hko : K o = 6) (hop : R 61 o = some sg) (hksg : K sg = 5) (hfl : R 51 sg = some fl) (hkf : K fl = 11) (hrf : R 111 fl ≠ none) (hel : ∀ a, a ∈ L fl → K a = 1) (hf9 : K f9 = 1) (hc20 : (L fl).length ≤ 20) : Met l yX5_put wsX5_put ({ frames := 9, cells := 4, slots := 60, locals := 360 } : Room) (va_Pc [.ref o, .ref f9] (m_B G K I R F A N L T J D)) (va_Qv (fun (u : (Nat → Nat) × (Nat → Nat → Int32) × (Nat → Nat → Option Nat) × (Nat → Nat) × (Nat → List Nat)) => ∃ R1, m_hid fl K I R N u.1 u.2.1 R1 u.2.2.2.1 ∧ u.2.2.1 = m_up2 (m_up2 R1 15 f9 (some sg)) 61 o (if (L fl).length + 1 < 10 then some sg else none) ∧ u.2.2.2.2 = m_up L fl (L fl ++ [f9]) ∧ (∀ o2, o2 ≠ fl → K o2 = 11 → R 111 o2 ≠ none → m_cap u.2.2.1 u.2.2.2.1 o2 = m_cap R N o2)) (fun u : (Nat → Nat) × (Nat → Nat → Int32) × (Nat → Nat → Option Nat) × (Nat → Nat) × (Nat → List Nat) => m_B G (u.1) (u.2.1) (u.2.2.1) F A (u.2.2.2.1) (u.2.2.2.2) T J D) (m_A G)) 4 60 (m_A G) := by
  refine Met.ofW (cc := cX5_put) (maxL := 3) (ret := none) (by decide) rfl ?_
  intro p e s m args below meth c s₁ B hml hv
  obtain ⟨rfl, hB⟩ := hv
  have hx := B.exec
  have hb := B.bytes
  have hr := B.returns
  have hts := atoms_spec (ws := wsX5_put) B.pre
  have hown : s.vm.findClass RX5 = some m.cls := findClass_of_methodNamed B.named
  have hlocks := B.notSynchronized
  have hw := m_wo_in hB
  have hl := lv_entry ([.ref o, .ref f9]) (n := 3) (Nat.le_of_ble_eq_true rfl)
  rw [lg_entry_eq]
  generalize (lg_sl ([.ref o, .ref f9]) ++ List.replicate (3 - (lg_sl ([.ref o, .ref f9])).length) Slot.unset).toArray = ls at hl ⊢
  have hl : lv_has ls 3 [(0, .ref o), (1, .ref f9)] := hl
  have hnc := m_nc_20 hc20
  have hw0 := hw
  refine lv_aload_n hx hb dX5_put_0 rfl (lv_at hl 0 rfl) ?_
  refine g_6_1 (r := (R 61 o)) hx hb hts (by decide +kernel) hown hw hko (hts (.fieldLink RX5 23 "Pirateindex$Shelf" "open" "LPirateindex$Segment;") (by decide +kernel)) rfl dX5_put_1 ?_
  refine m_ifnonnullQ (tgt := 14) hx hb dX5_put_4 (by decide) (fun c_4 => absurd c_4 (by rw [hop]; simp)) (fun z_4 c_4 => ?_)
  refine lv_aload_n hx hb dX5_put_14 rfl (lv_at hl 0 rfl) ?_
  refine g_6_1 (r := some sg) hx hb hts (by decide +kernel) hown hw hko (hts (.fieldLink RX5 23 "Pirateindex$Shelf" "open" "LPirateindex$Segment;") (by decide +kernel)) hop dX5_put_15 ?_
  refine lv_astore_n (lv' := [(2, .ref sg), (0, .ref o), (1, .ref f9)]) hx hb dX5_put_18 rfl hl (by decide) rfl (fun ls hl => ?_)
  refine lv_aload_n hx hb dX5_put_19 rfl (lv_at hl 0 rfl) ?_
  refine lv_aload_n hx hb dX5_put_20 rfl (lv_at hl 2 rfl) ?_
  refine m_cv (va_runV (As := [.ref f9]) (rest := []) ⟨hx, hb, hml, hown, hts⟩ (c_X4_take l hksg hfl hkf hrf hel hf9 (by omega)) (cwV 1 hts gX5_put_X4_take rfl rfl rfl (by decide +kernel) ⟨Nat.le_of_ble_eq_true rfl, Nat.le_of_ble_eq_true rfl⟩) ⟨m_blind m_B_calling, m_recv hw (m_ent_5 hksg) rfl, fun U hU hW => ⟨rfl, m_wo_call hw hU hW⟩⟩ rfl rfl hl.1 rfl (lv_room (Nat.le_of_ble_eq_true rfl)) dX5_put_21 ⟨by show 0 + (if _ then _ else _) ≤ 4; split <;> omega, by show 0 + (if _ then _ else _) ≤ 60; split <;> omega⟩) hw (fun u_21 H locs hp_21 hw => ?_)
  obtain ⟨K_1, I_2, R_3, N_4, L_5⟩ := u_21
  have hw : m_wo G K_1 I_2 R_3 F A N_4 L_5 T J D s H locs := hw
  dsimp only at hp_21
  obtain ⟨R9, hh9, eR9, eL9, hcap9⟩ := hp_21
  have hko : K_1 o = 6 := m_hid_k hh9 hko (by decide) (by decide)
  have hksg : K_1 sg = 5 := m_hid_k hh9 hksg (by decide) (by decide)
  have hkf : K_1 fl = 11 := m_hid_k hh9 hkf (by decide) (by decide)
  have hfl : R_3 51 sg = some fl := by rw [eR9, m_up2_ni _ _ (by decide)]; exact (hh9.2.2.2.1 51 sg (by decide) (by decide)).trans hfl
  have hlL : (L_5 fl).length = (L fl).length + 1 := by rw [eL9, m_up_self, List.length_append]; rfl
  refine lv_aload_n hx hb dX5_put_24 rfl (lv_at hl 1 rfl) ?_
  refine lv_aload_n hx hb dX5_put_25 rfl (lv_at hl 0 rfl) ?_
  refine g_5_1 (r := some fl) hx hb hts (by decide +kernel) hown hw hksg (hts (.fieldLink RX5 46 "Pirateindex$Segment" "finds" "Ljava/util/ArrayList;") (by decide +kernel)) hfl dX5_put_26 ?_
  refine m_ci (va_runV (As := []) (rest := [.ref o]) ⟨hx, hb, hml, hown, hts⟩ (c_Jx4a65c_size_8abf5 l hkf) (cwV 0 hts gX5_put_Jx4a65c_size_8abf5 rfl rfl rfl (by decide +kernel) ⟨Nat.le_of_ble_eq_true rfl, Nat.le_of_ble_eq_true rfl⟩) ⟨m_blind m_B_calling, m_recv hw (m_ent_11 hkf) rfl, fun U hU hW => ⟨rfl, m_wo_call hw hU hW⟩⟩ rfl rfl hl.1 rfl (lv_room (Nat.le_of_ble_eq_true rfl)) dX5_put_29 ⟨by show 0 + (if _ then _ else _) + 0 ≤ 4; split <;> omega, by show 0 + (if _ then _ else _) + 0 ≤ 60; split <;> omega⟩) hw (fun r_29 u_29 H locs hp_29 hw => ?_)
  obtain rfl : r_29 = nI ((L fl).length + 1) := hp_29.trans (congrArg nI hlL)
  refine lv_bipush (v := 10) hx hb dX5_put_32 (by decide) ?_
  refine lv_icmp_ge (tgt := 41) hx hb dX5_put_34 (by decide) (fun c_34 => ?_) (fun c_34 => ?_)
  · skip
    rw [show (10 : Int32) = nI 10 from rfl, nI_leI (by decide) (by omega)] at c_34
    have hopen : (none : Option Nat) = if (L fl).length + 1 < 10 then some sg else none := (if_neg (by omega)).symm
    refine lv_null hx hb dX5_put_41 ?_
    refine p_6_1 hx hb hts (by decide +kernel) hown hw hko (hts (.fieldLink RX5 23 "Pirateindex$Shelf" "open" "LPirateindex$Segment;") (by decide +kernel)) none dX5_put_42 (fun H locs hw => ?_)
    refine W.widen (k := 4) (n := 60) (by split <;> omega) (by split <;> omega) ?_
    exact W.vret hx hb hr (fun t ht hW => ⟨⟨(K_1, I_2, m_up2 R_3 61 o none, N_4, L_5), rfl, ⟨R9, hh9, by rw [← hopen, eR9], eL9, fun o2 h1 h2 h3 => m_cap_kp hw0 h2 h3 (by show m_up2 R_3 61 o none 111 o2 = _; rw [m_up2_ni _ _ (by decide), eR9, m_up2_ni _ _ (by decide)]; exact hh9.2.2.2.2.2.1 o2 h1) (fun b hb => hh9.2.2.2.2.1 b (Or.inr hb)) (m_hid_k hh9 h2 (by decide) (by decide)) hw⟩, m_wo_out hw ht hW.alike⟩, m_wo_F hw ht⟩) (m_wo_L hw) dX5_put_45
  · skip
    rw [show (10 : Int32) = nI 10 from rfl, nI_leI (by decide) (by omega)] at c_34
    have hopen : some sg = if (L fl).length + 1 < 10 then some sg else none := (if_pos (by omega)).symm
    refine lv_aload_n hx hb dX5_put_37 rfl (lv_at hl 0 rfl) ?_
    refine lv_goto (tgt := 42) hx hb dX5_put_38 (by decide) ?_
    refine p_6_1 hx hb hts (by decide +kernel) hown hw hko (hts (.fieldLink RX5 23 "Pirateindex$Shelf" "open" "LPirateindex$Segment;") (by decide +kernel)) (some sg) dX5_put_42 (fun H locs hw => ?_)
    refine W.widen (k := 4) (n := 60) (by split <;> omega) (by split <;> omega) ?_
    exact W.vret hx hb hr (fun t ht hW => ⟨⟨(K_1, I_2, m_up2 R_3 61 o (some sg), N_4, L_5), rfl, ⟨R9, hh9, by rw [← hopen, eR9], eL9, fun o2 h1 h2 h3 => m_cap_kp hw0 h2 h3 (by show m_up2 R_3 61 o (some sg) 111 o2 = _; rw [m_up2_ni _ _ (by decide), eR9, m_up2_ni _ _ (by decide)]; exact hh9.2.2.2.2.2.1 o2 h1) (fun b hb => hh9.2.2.2.2.1 b (Or.inr hb)) (m_hid_k hh9 h2 (by decide) (by decide)) hw⟩, m_wo_out hw ht hW.alike⟩, m_wo_F hw ht⟩) (m_wo_L hw) dX5_put_45
set_option maxHeartbeats 400000 in
set_option maxRecDepth 100000 in
theorem c_X5_put_n (l : Launch) {G : mG} {K : Nat → Nat} {I : Nat → Nat → Int32} {R : Nat → Nat → Option Nat} {F : Nat → UInt32} {A : Nat → Nat → Int32} {N : Nat → Nat} {L : Nat → List Nat} {T : Nat → List Int32} {J : Nat → Nat → Int64} {D : Nat → Nat → UInt64} {o lr f9 : Nat} (hko : K o = 6) (hrow : R 60 o = some lr) (hlr : K lr = 11) (hel : ∀ a, a ∈ L lr → K a = 5) (hr1 : R 111 lr ≠ none) (hop : R 61 o = none) (hf9 : K f9 = 1) (hc20 : (L lr).length ≤ 20) : Met l yX5_put wsX5_put ({ frames := 9, cells := 4, slots := 60, locals := 400 } : Room) (va_Pc [.ref o, .ref f9] (m_B G K I R F A N L T J D)) (va_Qv (fun (u : (Nat → Nat) × (Nat → Nat → Int32) × (Nat → Nat → Option Nat) × (Nat → Nat) × (Nat → List Nat)) => ∃ sg fl K1 I1 R1 N1 R2, K sg = 0 ∧ m_up K sg 5 fl = 0 ∧ L fl = [] ∧ m_hid lr (m_up (m_up K sg 5) fl 11) (m_up2 (m_up2 (m_up2 I 50 sg (I 62 o)) 110 fl 0) 62 o (I 62 o + 1)) (m_up2 (m_up2 R 111 fl (some G.2.2.2)) 51 sg (some fl)) N K1 I1 R1 N1 ∧ m_hid fl K1 I1 R1 N1 u.1 u.2.1 R2 u.2.2.2.1 ∧ u.2.2.1 = m_up2 (m_up2 R2 15 f9 (some sg)) 61 o (some sg) ∧ u.2.2.2.2 = m_up (m_up L lr (L lr ++ [sg])) fl [f9] ∧ (∀ o2, o2 ≠ lr → K o2 = 11 → R 111 o2 ≠ none → m_cap u.2.2.1 u.2.2.2.1 o2 = m_cap R N o2)) (fun u : (Nat → Nat) × (Nat → Nat → Int32) × (Nat → Nat → Option Nat) × (Nat → Nat) × (Nat → List Nat) => m_B G (u.1) (u.2.1) (u.2.2.1) F A (u.2.2.2.1) (u.2.2.2.2) T J D) (m_A G)) 4 60 (m_A G) := by
  refine Met.ofW (cc := cX5_put) (maxL := 3) (ret := none) (by decide) rfl ?_
  intro p e s m args below meth c s₁ B hml hv
  obtain ⟨rfl, hB⟩ := hv
  have hx := B.exec
  have hb := B.bytes
  have hr := B.returns
  have hts := atoms_spec (ws := wsX5_put) B.pre
  have hown : s.vm.findClass RX5 = some m.cls := findClass_of_methodNamed B.named
  have hlocks := B.notSynchronized
  have hw := m_wo_in hB
  have hl := lv_entry ([.ref o, .ref f9]) (n := 3) (Nat.le_of_ble_eq_true rfl)
  rw [lg_entry_eq]
  generalize (lg_sl ([.ref o, .ref f9]) ++ List.replicate (3 - (lg_sl ([.ref o, .ref f9])).length) Slot.unset).toArray = ls at hl ⊢
  have hl : lv_has ls 3 [(0, .ref o), (1, .ref f9)] := hl
  have hnc := m_nc_20 hc20
  have hw0 := hw
  refine lv_aload_n hx hb dX5_put_0 rfl (lv_at hl 0 rfl) ?_
  refine g_6_1 (r := (R 61 o)) hx hb hts (by decide +kernel) hown hw hko (hts (.fieldLink RX5 23 "Pirateindex$Shelf" "open" "LPirateindex$Segment;") (by decide +kernel)) rfl dX5_put_1 ?_
  refine m_ifnonnullQ (tgt := 14) hx hb dX5_put_4 (by decide) (fun c_4 => ?_) (fun z_4 c_4 => absurd (c_4.symm.trans hop) (by simp))
  refine lv_aload_n hx hb dX5_put_7 rfl (lv_at hl 0 rfl) ?_
  refine m_cq (va_runV (As := []) (rest := []) ⟨hx, hb, hml, hown, hts⟩ (c_X5_addNext l hko hrow hlr hel hr1 (by omega)) (cwV 0 hts gX5_put_X5_addNext rfl rfl rfl (by decide +kernel) ⟨Nat.le_of_ble_eq_true rfl, Nat.le_of_ble_eq_true rfl⟩) ⟨m_blind m_B_calling, m_recv hw (m_ent_6 hko) rfl, fun U hU hW => ⟨rfl, m_wo_call hw hU hW⟩⟩ rfl rfl hl.1 rfl (lv_room (Nat.le_of_ble_eq_true rfl)) dX5_put_8 ⟨by show 0 + (2 + if _ then _ else _) ≤ 4; split <;> omega, by show 0 + (5 + if _ then _ else _) ≤ 60; split <;> omega⟩) hw (fun r_8 u_8 H locs hp_8 hw => ?_)
  obtain ⟨K_1, I_2, R_3, N_4, L_5⟩ := u_8
  have hw : m_wo G K_1 I_2 R_3 F A N_4 L_5 T J D s H locs := hw
  dsimp only at hp_8
  obtain ⟨sg, fl, R9, hr9, hzs, hzf, hLf, hh8, eR8, eL8⟩ := hp_8
  obtain rfl : r_8 = some sg := hr9
  subst eR8
  have hnl : fl ≠ lr := fun z => by rw [z, m_up_k hzs hlr (by decide)] at hzf; exact absurd hzf (by decide)
  have hnsf : sg ≠ fl := fun z => by rw [← z, m_up_self] at hzf; exact absurd hzf (by decide)
  have hko1 : K_1 o = 6 := m_hid_k hh8 (m_up_k hzf (m_up_k hzs hko (by decide)) (by decide)) (by decide) (by decide)
  have hksg : K_1 sg = 5 := m_hid_k hh8 (m_up_k hzf (m_up_self _ _ _) (by decide)) (by decide) (by decide)
  have hkf : K_1 fl = 11 := m_hid_k hh8 (m_up_self _ _ _) (by decide) (by decide)
  have hf91 : K_1 f9 = 1 := m_hid_k hh8 (m_up_k hzf (m_up_k hzs hf9 (by decide)) (by decide)) (by decide) (by decide)
  have hfl : R_3 51 sg = some fl := (hh8.2.2.2.1 51 sg (by decide) (by decide)).trans (m_up2_self _ _ _ _)
  have hrf : R_3 111 fl ≠ none := by rw [hh8.2.2.2.2.2.1 fl hnl, m_up2_ni _ _ (by decide), m_up2_self]; simp
  have hLf1 : L_5 fl = [] := by rw [eL8, m_up_ne _ _ hnl]; exact hLf
  have hwA := hw
  have hKf0 : K fl = 0 := (m_up_ne _ _ (Ne.symm hnsf)).symm.trans hzf
  have hNA : ∀ b, K b ≠ 0 → N_4 b = N b := fun b hb => hh8.2.2.2.2.1 b (Or.inr (by rw [m_up_ne _ _ (fun z => hb (by rw [z]; exact hKf0)), m_up_ne _ _ (fun z => hb (by rw [z]; exact hzs))]; exact hb))
  have hcA : ∀ o2, o2 ≠ lr → K o2 = 11 → R 111 o2 ≠ none → K_1 o2 = 11 ∧ R_3 111 o2 = R 111 o2 ∧ m_cap R_3 N_4 o2 = m_cap R N o2 := fun o2 h1 h2 h3 => by
    have k1 : K_1 o2 = 11 := m_hid_k hh8 (m_up_k hzf (m_up_k hzs h2 (by decide)) (by decide)) (by decide) (by decide)
    have r1 : R_3 111 o2 = R 111 o2 := by rw [hh8.2.2.2.2.2.1 o2 h1, m_up2_ni _ _ (by decide), m_up2_ne _ _ (fun z => by rw [z, hKf0] at h2; exact absurd h2 (by decide))]
    exact ⟨k1, r1, m_cap_kp hw0 h2 h3 r1 hNA k1 hw⟩
  refine lv_goto (tgt := 18) hx hb dX5_put_11 (by decide) ?_
  refine lv_astore_n (lv' := [(2, .ref sg), (0, .ref o), (1, .ref f9)]) hx hb dX5_put_18 rfl hl (by decide) rfl (fun ls hl => ?_)
  refine lv_aload_n hx hb dX5_put_19 rfl (lv_at hl 0 rfl) ?_
  refine lv_aload_n hx hb dX5_put_20 rfl (lv_at hl 2 rfl) ?_
  refine m_cv (va_runV (As := [.ref f9]) (rest := []) ⟨hx, hb, hml, hown, hts⟩ (c_X4_take l hksg hfl hkf hrf (fun a ha => absurd ha (by rw [hLf1]; simp)) hf91 (by rw [hLf1]; decide)) (cwV 1 hts gX5_put_X4_take rfl rfl rfl (by decide +kernel) ⟨Nat.le_of_ble_eq_true rfl, Nat.le_of_ble_eq_true rfl⟩) ⟨m_blind m_B_calling, m_recv hw (m_ent_5 hksg) rfl, fun U hU hW => ⟨rfl, m_wo_call hw hU hW⟩⟩ rfl rfl hl.1 rfl (lv_room (Nat.le_of_ble_eq_true rfl)) dX5_put_21 ⟨by rw [hLf1]; show 0 + (2 + if _ then _ else _) + (if _ then _ else _) ≤ 4; split <;> split <;> omega, by rw [hLf1]; show 0 + (5 + if _ then _ else _) + (if _ then m_nc 0 else _) ≤ 60; rw [show m_nc 0 = 10 from rfl]; split <;> split <;> omega⟩) hw (fun u_21 H locs hp_21 hw => ?_)
  obtain ⟨K_6, I_7, R_8, N_9, L_10⟩ := u_21
  have hw : m_wo G K_6 I_7 R_8 F A N_9 L_10 T J D s H locs := hw
  dsimp only at hp_21
  obtain ⟨R9, hh9, eR9, eL9, hcap9⟩ := hp_21
  have hko2 : K_6 o = 6 := m_hid_k hh9 hko1 (by decide) (by decide)
  have hksg2 : K_6 sg = 5 := m_hid_k hh9 hksg (by decide) (by decide)
  have hkf2 : K_6 fl = 11 := m_hid_k hh9 hkf (by decide) (by decide)
  have hfl2 : R_8 51 sg = some fl := by rw [eR9, m_up2_ni _ _ (by decide)]; exact (hh9.2.2.2.1 51 sg (by decide) (by decide)).trans hfl
  have eL9 : L_10 = m_up (m_up L lr (L lr ++ [sg])) fl [f9] := by rw [eL9, hLf1, eL8]; rfl
  have hlL : (L_10 fl).length = 1 := by rw [eL9, m_up_self]; rfl
  refine lv_aload_n hx hb dX5_put_24 rfl (lv_at hl 1 rfl) ?_
  refine lv_aload_n hx hb dX5_put_25 rfl (lv_at hl 0 rfl) ?_
  refine g_5_1 (r := some fl) hx hb hts (by decide +kernel) hown hw hksg2 (hts (.fieldLink RX5 46 "Pirateindex$Segment" "finds" "Ljava/util/ArrayList;") (by decide +kernel)) hfl2 dX5_put_26 ?_
  refine m_ci (va_runV (As := []) (rest := [.ref o]) ⟨hx, hb, hml, hown, hts⟩ (c_Jx4a65c_size_8abf5 l hkf2) (cwV 0 hts gX5_put_Jx4a65c_size_8abf5 rfl rfl rfl (by decide +kernel) ⟨Nat.le_of_ble_eq_true rfl, Nat.le_of_ble_eq_true rfl⟩) ⟨m_blind m_B_calling, m_recv hw (m_ent_11 hkf2) rfl, fun U hU hW => ⟨rfl, m_wo_call hw hU hW⟩⟩ rfl rfl hl.1 rfl (lv_room (Nat.le_of_ble_eq_true rfl)) dX5_put_29 ⟨by rw [hLf1]; show 0 + (2 + if _ then _ else _) + (if _ then _ else _) + 0 ≤ 4; split <;> split <;> omega, by rw [hLf1]; show 0 + (5 + if _ then _ else _) + (if _ then m_nc 0 else _) + 0 ≤ 60; rw [show m_nc 0 = 10 from rfl]; split <;> split <;> omega⟩) hw (fun r_29 u_29 H locs hp_29 hw => ?_)
  obtain rfl : r_29 = nI 1 := hp_29.trans (congrArg nI hlL)
  refine lv_bipush (v := 10) hx hb dX5_put_32 (by decide) ?_
  refine lv_icmp_ge (tgt := 41) hx hb dX5_put_34 (by decide) (fun c_34 => absurd c_34 (by decide)) (fun c_34 => ?_)
  refine lv_aload_n hx hb dX5_put_37 rfl (lv_at hl 0 rfl) ?_
  refine lv_goto (tgt := 42) hx hb dX5_put_38 (by decide) ?_
  refine p_6_1 hx hb hts (by decide +kernel) hown hw hko2 (hts (.fieldLink RX5 23 "Pirateindex$Shelf" "open" "LPirateindex$Segment;") (by decide +kernel)) (some sg) dX5_put_42 (fun H locs hw => ?_)
  refine W.widen (k := 4) (n := 60) (by rw [hLf1]; simp only [List.length_nil]; split <;> split <;> omega) (by rw [hLf1]; simp only [List.length_nil, show m_nc 0 = 10 from rfl]; split <;> split <;> omega) ?_
  exact W.vret hx hb hr (fun t ht hW => ⟨⟨(K_6, I_7, m_up2 R_8 61 o (some sg), N_9, L_10), rfl, ⟨sg, fl, K_1, I_2, R_3, N_4, R9, hzs, hzf, hLf, hh8, hh9, by rw [eR9], eL9, fun o2 h1 h2 h3 => by
    obtain ⟨k1, r1, c1⟩ := hcA o2 h1 h2 h3
    rw [← c1]
    refine m_cap_kp hwA k1 (by rw [r1]; exact h3) ?_ (fun b hb => hh9.2.2.2.2.1 b (Or.inr hb)) (m_hid_k hh9 k1 (by decide) (by decide)) hw
    show m_up2 R_8 61 o (some sg) 111 o2 = _
    rw [m_up2_ni _ _ (by decide), eR9, m_up2_ni _ _ (by decide)]
    exact hh9.2.2.2.2.2.1 o2 (fun z => by rw [z, hKf0] at h2; exact absurd h2 (by decide))⟩, m_wo_out hw ht hW.alike⟩, m_wo_F hw ht⟩) (m_wo_L hw) dX5_put_45
