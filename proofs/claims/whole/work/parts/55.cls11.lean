theorem c_shf0 {K : Nat → Nat} {I : Nat → Nat → Int32} {R : Nat → Nat → Option Nat} {N : Nat → Nat} {K1 : Nat → Nat} {I1 : Nat → Nat → Int32} {R1 : Nat → Nat → Option Nat} {o lr sg fl e : Nat} (hz5 : K lr = 0) (hz16 : m_up K lr 11 sg = 0) (hz3 : m_up (m_up K lr 11) sg 5 fl = 0) (eK : K1 = m_up (m_up (m_up K lr 11) sg 5) fl 11) (eI : I1 = m_up2 (m_up2 (m_up2 I 110 lr 0) 50 sg 0) 110 fl 0) (eR : R1 = m_up2 (m_up2 (m_up2 (m_up2 R 111 lr (some e)) 60 o (some lr)) 111 fl (some e)) 51 sg (some fl)) :
    K sg = 0 ∧ K fl = 0 ∧ lr ≠ fl ∧ c_chg K I R N K1 I1 (m_up2 R1 61 o (some sg)) N c_no (fun _ b => b = o) ∧ K1 fl = 11 ∧ m_up2 R1 61 o (some sg) 60 o = some lr ∧ True ∧ m_up2 R1 61 o (some sg) 51 sg = some fl ∧ True ∧ m_up2 R1 61 o (some sg) 111 fl ≠ none ∧ I1 50 sg = 0 ∧ True := by
  have hls : sg ≠ lr := fun z => by rw [z, m_up_self] at hz16; exact absurd hz16 (by decide)
  have hfs : fl ≠ sg := fun z => by rw [z, m_up_self] at hz3; exact absurd hz3 (by decide)
  have hfl : fl ≠ lr := fun z => by rw [z, m_up_ne _ _ (Ne.symm hls), m_up_self] at hz3; exact absurd hz3 (by decide)
  have hs0 : K sg = 0 := (m_up_ne _ _ hls).symm.trans hz16
  have hf0 : K fl = 0 := (m_up_ne _ _ hfl).symm.trans ((m_up_ne _ _ hfs).symm.trans hz3)
  refine ⟨hs0, hf0, Ne.symm hfl, fun b h0 h4 => ?_, by rw [eK, m_up_self], by rw [m_up2_ni _ _ (by decide), eR, m_up2_ni _ _ (by decide), m_up2_ni _ _ (by decide), m_up2_self], trivial, by rw [m_up2_ni _ _ (by decide), eR, m_up2_self], trivial, by rw [m_up2_ni _ _ (by decide), eR, m_up2_ni _ _ (by decide), m_up2_self]; simp, by rw [eI, m_up2_ni _ _ (by decide), m_up2_self], trivial⟩
  have hb1 : b ≠ lr := fun z => h0 (by rw [z]; exact hz5)
  have hb2 : b ≠ sg := fun z => h0 (by rw [z]; exact hs0)
  have hb3 : b ≠ fl := fun z => h0 (by rw [z]; exact hf0)
  refine ⟨by rw [eK, m_up_ne _ _ hb3, m_up_ne _ _ hb2, m_up_ne _ _ hb1], rfl, fun f _ _ => by rw [eI, m_up2_ne _ _ hb3, m_up2_ne _ _ hb2, m_up2_ne _ _ hb1], fun f _ _ h => ?_, fun h => ?_⟩
  · have hbo : b ≠ o := h
    rw [eR, m_up2_ne _ _ hbo, m_up2_ne _ _ hb2, m_up2_ne _ _ hb3, m_up2_ne _ _ hbo, m_up2_ne _ _ hb1]
  · rw [eR, m_up2_ni _ _ (by decide), m_up2_ne _ _ hb2, m_up2_ne _ _ hb3, m_up2_ni _ _ (by decide), m_up2_ne _ _ hb1]
    exact h
set_option maxHeartbeats 400000 in
set_option maxRecDepth 100000 in
theorem c_X5_init (l : Launch) {G : mG} {K : Nat → Nat} {I : Nat → Nat → Int32} {R : Nat → Nat → Option Nat} {F : Nat → UInt32} {A : Nat → Nat → Int32} {N : Nat → Nat} {L : Nat → List Nat} {T : Nat → List Int32} {J : Nat → Nat → Int64} {D : Nat → Nat → UInt64} {o : Nat} (hko : K o = 6) : Met l yX5_init wsX5_init ({ frames := 9, cells := 4, slots := 18, locals := 400 } : Room) (va_Pc [.ref o] (m_B G K I R F A N L T J D)) (va_Qv (fun (u : (Nat → Nat) × (Nat → Nat → Int32) × (Nat → Nat → Option Nat) × (Nat → Nat) × (Nat → List Nat)) => ∃ lr sg fl, K lr = 0 ∧ K sg = 0 ∧ K fl = 0 ∧ lr ≠ fl ∧ c_chg K I R N u.1 u.2.1 u.2.2.1 u.2.2.2.1 (fun f b => f = 62 ∧ b = o) (fun _ b => b = o) ∧ u.1 lr = 11 ∧ u.1 sg = 5 ∧ u.1 fl = 11 ∧ u.2.2.1 60 o = some lr ∧ u.2.2.1 61 o = some sg ∧ u.2.2.1 51 sg = some fl ∧ u.2.2.1 111 lr ≠ none ∧ u.2.2.1 111 fl ≠ none ∧ u.2.1 50 sg = 0 ∧ u.2.1 62 o = 1 ∧ L fl = [] ∧ u.2.2.2.2 = m_up L lr [sg]) (fun u : (Nat → Nat) × (Nat → Nat → Int32) × (Nat → Nat → Option Nat) × (Nat → Nat) × (Nat → List Nat) => m_B G (u.1) (u.2.1) (u.2.2.1) F A (u.2.2.2.1) (u.2.2.2.2) T J D) (m_A G)) 4 18 (m_A G) := by
  refine Met.ofW (cc := cX5_init) (maxL := 1) (ret := none) (by decide) rfl ?_
  intro p e s m args below meth c s₁ B hml hv
  obtain ⟨rfl, hB⟩ := hv
  have hx := B.exec
  have hb := B.bytes
  have hr := B.returns
  have hts := atoms_spec (ws := wsX5_init) B.pre
  have hown : s.vm.findClass RX5 = some m.cls := findClass_of_methodNamed B.named
  have hlocks := B.notSynchronized
  have hin2 : meth.name = "<init>" := (name_of_methodNamed B.named B.method).1
  have hw := m_wo_in hB
  have hl := lv_entry ([.ref o]) (n := 1) (Nat.le_of_ble_eq_true rfl)
  rw [lg_entry_eq]
  generalize (lg_sl ([.ref o]) ++ List.replicate (1 - (lg_sl ([.ref o])).length) Slot.unset).toArray = ls at hl ⊢
  have hl : lv_has ls 1 [(0, .ref o)] := hl
  refine lv_aload_n hx hb dX5_init_0 rfl (lv_at hl 0 rfl) ?_
  refine W.objInit hx hb hown (hts (.methodLink RX5 3 objectInit) (by decide +kernel)) (hts (.instanceMethod objectInit) (by decide +kernel)) (hts (.code objectInit ⟨#[0xb1]⟩ 1 none) (by decide +kernel)) rfl (by rw [hml]; exact hl.1) rfl dX5_init_1 (Nat.le_of_ble_eq_true rfl) (Nat.le_of_ble_eq_true rfl) ?_
  refine W.eq (g2 := F0 m 4 ls []) rfl ?_
  refine lv_aload_n hx hb dX5_init_4 rfl (lv_at hl 0 rfl) ?_
  refine m_new_11 hx hb hts (by decide +kernel) hown (hts (.classLink RX5 9 RJx4a65c) (by decide +kernel)) (hts (.instantiable RJx4a65c 3) (by decide +kernel)) (hts (.initialized RJx4a65c) (by decide +kernel)) hw (Nat.le_of_ble_eq_true rfl) (Nat.le_of_ble_eq_true rfl) dX5_init_5 (fun q_5 H hz_5 hd_5 hw => ?_)
  have hk_5 : m_up K q_5 11 q_5 = 11 := m_up_self _ _ _
  have hko := m_up_k (k := 11) hz_5 hko (by decide)
  refine lv_dup hx hb dX5_init_8 rfl ?_
  refine m_cv (va_runI (As := []) (rest := [.ref q_5, .ref o]) ⟨hx, hb, hml, hown, hts⟩ (c_Jx4a65c_init_da8c8 l hk_5 (hd_5.2.1 111) hd_5.2.2.2.2.2.1) (cwI 0 hts gX5_init_Jx4a65c_init_da8c8 rfl rfl rfl (hts (.initialized RJx4a65c) (by decide +kernel)) (hts (.methodLink RX5 11 yJx4a65c_init_da8c8) (by decide +kernel)) (hts (.instanceMethod yJx4a65c_init_da8c8) (by decide +kernel)) rfl (by decide +kernel) ⟨Nat.le_of_ble_eq_true rfl, Nat.le_of_ble_eq_true rfl⟩) ⟨m_blind m_B_calling, fun U hU hW => ⟨rfl, m_wo_call hw hU hW⟩⟩ rfl rfl hl.1 rfl (lv_room (Nat.le_of_ble_eq_true rfl)) dX5_init_9 ⟨Nat.le_of_ble_eq_true rfl, Nat.le_of_ble_eq_true rfl⟩) hw (fun u_9 H locs hp_9 hw => ?_)
  refine p_6_0 hx hb hts (by decide +kernel) hown hw hko (hts (.fieldLink RX5 12 "Pirateindex$Shelf" "row" "Ljava/util/ArrayList;") (by decide +kernel)) hin2 (some q_5) dX5_init_12 (fun H locs hw => ?_)
  refine lv_aload_n hx hb dX5_init_15 rfl (lv_at hl 0 rfl) ?_
  refine m_new_5 hx hb hts (by decide +kernel) hown (hts (.classLink RX5 18 "Pirateindex$Segment") (by decide +kernel)) (hts (.instantiable RX4 2) (by decide +kernel)) (hts (.initialized RX4) (by decide +kernel)) hw (Nat.le_of_ble_eq_true rfl) (Nat.le_of_ble_eq_true rfl) dX5_init_16 (fun q_16 H hz_16 hd_16 hw => ?_)
  have hk_16 : m_up (m_up K q_5 11) q_16 5 q_16 = 5 := m_up_self _ _ _
  have hko := m_up_k (k := 5) hz_16 hko (by decide)
  have hk_5 := m_up_k (k := 5) hz_16 hk_5 (by decide)
  refine lv_dup hx hb dX5_init_19 rfl ?_
  refine lv_iconst (v := 0) hx hb dX5_init_20 (by decide) ?_
  refine m_cv (va_runI (As := [.int 0]) (rest := [.ref q_16, .ref o]) ⟨hx, hb, hml, hown, hts⟩ (c_X4_init l hk_16) (cwI 1 hts gX5_init_X4_init rfl rfl rfl (hts (.initialized RX4) (by decide +kernel)) (hts (.methodLink RX5 20 yX4_init) (by decide +kernel)) (hts (.instanceMethod yX4_init) (by decide +kernel)) rfl (by decide +kernel) ⟨Nat.le_of_ble_eq_true rfl, Nat.le_of_ble_eq_true rfl⟩) ⟨m_blind m_B_calling, fun U hU hW => ⟨rfl, m_wo_call hw hU hW⟩⟩ rfl rfl hl.1 rfl (lv_room (Nat.le_of_ble_eq_true rfl)) dX5_init_21 ⟨Nat.le_of_ble_eq_true rfl, Nat.le_of_ble_eq_true rfl⟩) hw (fun u_21 H locs hp_21 hw => ?_)
  obtain ⟨K_1, I_2, R_3⟩ := u_21
  have hw : m_wo G K_1 I_2 R_3 F A N L T J D s H locs := hw
  dsimp only at hp_21
  obtain ⟨q3, hq3, hz3, eK, eI, eR⟩ := hp_21
  have hL5 := hd_5.2.2.2.2.2.1
  have hko : K_1 o = 6 := by rw [eK]; exact m_up_k hz3 hko (by decide)
  have hk5 : K_1 q_5 = 11 := by rw [eK]; exact m_up_k hz3 hk_5 (by decide)
  have hk16 : K_1 q_16 = 5 := by rw [eK]; exact m_up_k hz3 hk_16 (by decide)
  have hrow5 : R_3 60 o = some q_5 := by rw [eR, m_up2_ni _ _ (by decide), m_up2_ni _ _ (by decide), m_up2_self]
  have hr5 : R_3 111 q_5 ≠ none := by
    have hne : q_5 ≠ q3 := fun z => by rw [← z, hk_5] at hz3; exact absurd hz3 (by decide)
    rw [eR, m_up2_ni _ _ (by decide), m_up2_ne _ _ hne, m_up2_ni _ _ (by decide), m_up2_self]; simp
  refine p_6_1 hx hb hts (by decide +kernel) hown hw hko (hts (.fieldLink RX5 23 "Pirateindex$Shelf" "open" "LPirateindex$Segment;") (by decide +kernel)) (some q_16) dX5_init_24 (fun H locs hw => ?_)
  refine lv_aload_n hx hb dX5_init_27 rfl (lv_at hl 0 rfl) ?_
  refine g_6_0 (r := some q_5) hx hb hts (by decide +kernel) hown hw hko (hts (.fieldLink RX5 12 "Pirateindex$Shelf" "row" "Ljava/util/ArrayList;") (by decide +kernel)) ((m_up2_ni _ _ (by decide)).trans hrow5) dX5_init_28 ?_
  refine lv_aload_n hx hb dX5_init_31 rfl (lv_at hl 0 rfl) ?_
  refine g_6_1 (r := some q_16) hx hb hts (by decide +kernel) hown hw hko (hts (.fieldLink RX5 23 "Pirateindex$Shelf" "open" "LPirateindex$Segment;") (by decide +kernel)) (m_up2_self _ _ _ _) dX5_init_32 ?_
  have hnc : m_nc (L q_5).length = 10 := by rw [hL5]; rfl
  refine m_ci (va_runV (As := [.ref q_16]) (rest := []) ⟨hx, hb, hml, hown, hts⟩ (c_Jx4a65c_add_9ea2d l hk5 (by rw [m_up2_ni _ _ (by decide)]; exact hr5) (Or.inr (Or.inr (Or.inl hk16))) (fun y9 hy9 => by rw [hL5] at hy9; exact absurd hy9 List.not_mem_nil) (by rw [hL5]; decide)) (cwV 1 hts gX5_init_Jx4a65c_add_9ea2d rfl rfl rfl (by decide +kernel) ⟨Nat.le_of_ble_eq_true rfl, Nat.le_of_ble_eq_true rfl⟩) ⟨m_blind m_B_calling, m_recv hw (m_ent_11 hk5) rfl, fun U hU hW => ⟨rfl, m_wo_call hw hU hW⟩⟩ rfl rfl hl.1 rfl (lv_room (Nat.le_of_ble_eq_true rfl)) dX5_init_35 ⟨by show 3 + (if _ then _ else _) ≤ 4; split <;> omega, by show 8 + (if _ then _ else _) ≤ 18; split <;> omega⟩) hw (fun r_35 u_35 H locs hp_35 hw => ?_)
  obtain ⟨K_4, I_5, R_6, N_7, L_8⟩ := u_35
  have hw : m_wo G K_4 I_5 R_6 F A N_7 L_8 T J D s H locs := hw
  dsimp only at hp_35
  obtain ⟨hh9, hcapn, eLn⟩ := hp_35
  obtain ⟨hzs, hzf, hlf, hc4, hx1, hx2, hx3, hx4, hx5, hx6, hx7, hx8⟩ := c_shf0 hz_5 hz_16 hz3 eK eI eR
  have hc5 := c_chg_tr hc4 (c_chg_hid hh9)
  have hko9 : K_4 o = 6 := m_hid_k hh9 hko (by decide) (by decide)
  have hx9 : R_6 111 q3 ≠ none := by rw [hh9.2.2.2.2.2.1 q3 (Ne.symm hlf)]; exact hx6
  have hx10 : m_up2 I_5 62 o 1 50 q_16 = 0 := ((m_up2_ni _ _ (show (50 : Nat) ≠ 62 by decide)).trans (hh9.2.2.1 50 q_16 (by decide))).trans hx7
  refine lv_pop hx hb dX5_init_38 rfl ?_
  refine lv_aload_n hx hb dX5_init_39 rfl (lv_at hl 0 rfl) ?_
  refine lv_iconst (v := 1) hx hb dX5_init_40 (by decide) ?_
  refine p_6_2 hx hb hts (by decide +kernel) hown hw hko9 (hts (.fieldLink RX5 31 "Pirateindex$Shelf" "next" "I") (by decide +kernel)) dX5_init_41 (fun H locs hw => ?_)
  refine W.widen (k := 4) (n := 18) (by split <;> omega) (by split <;> omega) ?_
  exact W.vret hx hb hr (fun t ht hW => ⟨⟨(K_4, m_up2 I_5 62 o 1, R_6, N_7, L_8), rfl, ⟨q_5, q_16, q3, hz_5, hzs, hzf, hlf, c_chg_mono (c_chg_tr hc5 c_chg_I) (fun f b h => h.elim (fun h => h.elim False.elim False.elim) id) (fun f b h => h.elim (fun h => h.elim id False.elim) False.elim), m_hid_k hh9 hk5 (by decide) (by decide), m_hid_k hh9 hk16 (by decide) (by decide), m_hid_k hh9 hx1 (by decide) (by decide), (hh9.2.2.2.1 60 o (by decide) (by decide)).trans hx2, (hh9.2.2.2.1 61 o (by decide) (by decide)).trans (m_up2_self _ _ _ _), (hh9.2.2.2.1 51 q_16 (by decide) (by decide)).trans hx4, hh9.2.2.2.2.2.2, hx9, hx10, m_up2_self _ _ _ _, hq3, by rw [eLn, hL5]; rfl⟩, m_wo_out hw ht hW.alike⟩, m_wo_F hw ht⟩) (m_wo_L hw) dX5_init_44
