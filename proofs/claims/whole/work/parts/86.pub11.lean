set_option maxHeartbeats 1600000 in
set_option maxRecDepth 100000 in
theorem c_X8_find (l : Launch) (hnt : l.stackTraces = false) {G : mG} {K : Nat → Nat} {I : Nat → Nat → Int32} {R : Nat → Nat → Option Nat} {F : Nat → UInt32} {A : Nat → Nat → Int32} {N : Nat → Nat} {L : Nat → List Nat} {T : Nat → List Int32} {J : Nat → Nat → Int64} {D : Nat → Nat → UInt64} {o : Nat} {cd : Nat → Nat} {Z : Nat → Int32} {M : Nat → Nat → Int32} {wd isl pl : Int32} (hs : c_sim K I R N A L T o cd Z M) (h9 : ¬ Z 5 = -1 → o_size Z M (Z 5) ≤ 9) (h4 : ∃ m, Z 4 = nI m ∧ m + 1 < 2 ^ 30) : vx_Met l yX8_find wsX8_find ({ frames := 16, cells := 11, slots := 595, locals := 660 } : Room) (va_Pc [.ref o, .int wd, .int isl, .int pl] (fun U => m_B G K I R F A N L T J D U ∧ c_str U)) (va_Qi (fun (r : Int32) (u : (Nat → Nat) × (Nat → Nat → Int32) × (Nat → Nat → Option Nat) × (Nat → Nat) × (Nat → List Nat)) => t_find Z wd isl pl = 0 ∧ r = Z 1 ∧ c_sim u.1 u.2.1 u.2.2.1 u.2.2.2.1 A u.2.2.2.2 T o cd (o_comes (Z, M) wd isl pl (-1)).1 (o_comes (Z, M) wd isl pl (-1)).2 ∧ c_fr K I R N A u.1 u.2.1 u.2.2.1 u.2.2.2.1 A) (fun u : (Nat → Nat) × (Nat → Nat → Int32) × (Nat → Nat → Option Nat) × (Nat → Nat) × (Nat → List Nat) => m_B G (u.1) (u.2.1) (u.2.2.1) F A (u.2.2.2.1) (u.2.2.2.2) T J D) (m_A G)) (vx_X (fun (u : Unit) => ¬ t_find Z wd isl pl = 0) (fun E (u : Unit) t => E = (if t_find Z wd isl pl = 1 then "java/lang/IndexOutOfBoundsException" else if t_find Z wd isl pl = 2 then "java/lang/IllegalArgumentException" else "java/lang/IllegalStateException") ∧ m_B G K I R F A N L T J D t) (m_A G)) 11 595 (m_A G) := by
  refine vx_ofW (cc := cX8_find) (maxL := 4) (ret := (some .int)) (by decide) rfl ?_
  intro p e s m args below meth c s₁ B hml hxt hv
  obtain ⟨rfl, hB, hcs⟩ := hv
  have hx := B.exec
  have hb := B.bytes
  have hr := B.returns
  have hts := atoms_spec (ws := wsX8_find) B.pre
  have hown : s.vm.findClass RX8 = some m.cls := findClass_of_methodNamed B.named
  have hlocks := B.notSynchronized
  have hw := m_wo_in hB
  have hl := lv_entry ([.ref o, .int wd, .int isl, .int pl]) (n := 4) (Nat.le_of_ble_eq_true rfl)
  rw [lg_entry_eq]
  generalize (lg_sl ([.ref o, .int wd, .int isl, .int pl]) ++ List.replicate (4 - (lg_sl ([.ref o, .int wd, .int isl, .int pl])).length) Slot.unset).toArray = ls at hl ⊢
  have hl : lv_has ls 4 [(0, .ref o), (1, .int wd), (2, .int isl), (3, .int pl)] := hl
  have hok := hs.1
  have hel0 := q_el0 hs
  have hel1 := q_el1 hs
  have hel5 := q_el5 hs
  have hel7 := q_el7 hs
  have hel9 := q_el9 hs
  have hok0 := hok
  refine lv_aload_n hx hb dX8_find_0 rfl (lv_at hl 0 rfl) ?_
  refine lv_iload_n hx hb dX8_find_1 rfl (lv_at hl 2 rfl) ?_
  refine m_xq (vx_runV (As := [.int isl]) (rest := []) ⟨hx, hb, hml, hown, hts⟩ (c_X8_isleOf l hnt hok hel0) (cwV 1 hts gX8_find_X8_isleOf rfl rfl rfl (by decide +kernel) ⟨Nat.le_of_ble_eq_true rfl, Nat.le_of_ble_eq_true rfl⟩) ⟨m_blind (fun U g mk a h => ⟨m_B_calling U g mk a h.1, c_str_calling U g mk a h.2⟩), m_recv hw (m_ent_9 hok.1) rfl, fun U hU hW => ⟨rfl, m_wo_call hw hU hW, c_str_warm hW hcs⟩⟩ rfl rfl hl.1 rfl (lv_room (Nat.le_of_ble_eq_true rfl)) dX8_find_2 ⟨Nat.le_of_ble_eq_true rfl, Nat.le_of_ble_eq_true rfl⟩) hw (fun E_ ce_ q9_ u_2x H locs hpx hw hce hcv hcl => ?_) (fun r_2 u_2 H locs hp_2 hw => ?_)
  · skip
    obtain ⟨hpx, rfl⟩ := hpx
    exact vx_out (fun x hx9 => absurd (hxt x hx9) id) hlocks hce hcv hcl (fun t ht9 hA9 => ⟨(), (by rw [(q_fd1 (fun z => hpx ((q_isl_nm hs isl).mp z)))]; decide), ⟨(by rw [(q_fd1 (fun z => hpx ((q_isl_nm hs isl).mp z)))]; rfl), m_wo_out hw ht9 hA9⟩, m_wo_F hw ht9⟩) (m_wo_L hw) (Nat.le_of_ble_eq_true rfl) (Nat.le_of_ble_eq_true rfl)
  obtain ⟨i, ai, rfl, hi31, ha, rfl⟩ := hp_2
  have hi : i < (L (cd 0)).length := (List.getElem?_eq_some_iff.mp ha).1
  have hka := hel0 ai (List.mem_of_getElem? ha)
  have hv := (q_isl_nm hs (nI i)).mpr ⟨i, hi, rfl⟩
  refine lv_pop hx hb dX8_find_5 rfl ?_
  refine lv_iload_n hx hb dX8_find_6 rfl (lv_at hl 1 rfl) ?_
  refine lv_bipush (v := 30) hx hb dX8_find_7 (by decide) ?_
  refine m_xv (vx_runS (As := [.int wd, .int 30]) (rest := []) ⟨hx, hb, hml, hown, hts⟩ (c_X8_requireRange l hnt ) (va_cwS 2 hts gX8_find_X8_requireRange rfl rfl rfl (by decide +kernel) ⟨Nat.le_of_ble_eq_true rfl, Nat.le_of_ble_eq_true rfl⟩) ⟨m_blind (fun U g mk a h => ⟨m_B_calling U g mk a h.1, c_str_calling U g mk a h.2⟩), fun U hU hW => ⟨rfl, m_wo_call hw hU hW, c_str_warm hW hcs⟩⟩ rfl rfl hl.1 rfl (lv_room (Nat.le_of_ble_eq_true rfl)) dX8_find_9 ⟨Nat.le_of_ble_eq_true rfl, Nat.le_of_ble_eq_true rfl⟩) hw (fun E_ ce_ q9_ u_9x H locs hpx hw hce hcv hcl => ?_) (fun u_9 H locs hp_9 hw => ?_)
  · skip
    obtain ⟨hpx, rfl⟩ := hpx
    exact vx_out (fun x hx9 => absurd (hxt x hx9) id) hlocks hce hcv hcl (fun t ht9 hA9 => ⟨(), (by rw [(q_fd2 hv (fun z => hpx (q_wr.mp z).1))]; decide), ⟨(by rw [(q_fd2 hv (fun z => hpx (q_wr.mp z).1))]; rfl), m_wo_out hw ht9 hA9⟩, m_wo_F hw ht9⟩) (m_wo_L hw) (Nat.le_of_ble_eq_true rfl) (Nat.le_of_ble_eq_true rfl)
  have hr1 := hp_9
  refine lv_iload_n hx hb dX8_find_12 rfl (lv_at hl 3 rfl) ?_
  refine lv_bipush (v := 40) hx hb dX8_find_13 (by decide) ?_
  refine m_xv (vx_runS (As := [.int pl, .int 40]) (rest := []) ⟨hx, hb, hml, hown, hts⟩ (c_X8_requireRange l hnt ) (va_cwS 2 hts gX8_find_X8_requireRange rfl rfl rfl (by decide +kernel) ⟨Nat.le_of_ble_eq_true rfl, Nat.le_of_ble_eq_true rfl⟩) ⟨m_blind (fun U g mk a h => ⟨m_B_calling U g mk a h.1, c_str_calling U g mk a h.2⟩), fun U hU hW => ⟨rfl, m_wo_call hw hU hW, c_str_warm hW hcs⟩⟩ rfl rfl hl.1 rfl (lv_room (Nat.le_of_ble_eq_true rfl)) dX8_find_15 ⟨Nat.le_of_ble_eq_true rfl, Nat.le_of_ble_eq_true rfl⟩) hw (fun E_ ce_ q9_ u_15x H locs hpx hw hce hcv hcl => ?_) (fun u_15 H locs hp_15 hw => ?_)
  · skip
    obtain ⟨hpx, rfl⟩ := hpx
    exact vx_out (fun x hx9 => absurd (hxt x hx9) id) hlocks hce hcv hcl (fun t ht9 hA9 => ⟨(), (by rw [(q_fd2 hv (fun z => hpx (q_wr.mp z).2))]; decide), ⟨(by rw [(q_fd2 hv (fun z => hpx (q_wr.mp z).2))]; rfl), m_wo_out hw ht9 hA9⟩, m_wo_F hw ht9⟩) (m_wo_L hw) (Nat.le_of_ble_eq_true rfl) (Nat.le_of_ble_eq_true rfl)
  have hr2 := hp_15
  rcases hop : R 61 (cd 4) with _ | sg
  · skip
    refine lv_aload_n hx hb dX8_find_18 rfl (lv_at hl 0 rfl) ?_
    refine m_xv (vx_runV (As := []) (rest := []) ⟨hx, hb, hml, hown, hts⟩ (c_X8_requireRoomForFind_n l hnt hok hel5 hop) (cwV 0 hts gX8_find_X8_requireRoomForFind rfl rfl rfl (by decide +kernel) ⟨Nat.le_of_ble_eq_true rfl, Nat.le_of_ble_eq_true rfl⟩) ⟨m_blind (fun U g mk a h => ⟨m_B_calling U g mk a h.1, c_str_calling U g mk a h.2⟩), m_recv hw (m_ent_9 hok.1) rfl, fun U hU hW => ⟨rfl, m_wo_call hw hU hW, c_str_warm hW hcs⟩⟩ rfl rfl hl.1 rfl (lv_room (Nat.le_of_ble_eq_true rfl)) dX8_find_19 ⟨Nat.le_of_ble_eq_true rfl, Nat.le_of_ble_eq_true rfl⟩) hw (fun E_ ce_ q9_ u_19x H locs hpx hw hce hcv hcl => ?_) (fun u_19 H locs hp_19 hw => ?_)
    · skip
      obtain ⟨hpx, rfl⟩ := hpx
      exact vx_out (fun x hx9 => absurd (hxt x hx9) id) hlocks hce hcv hcl (fun t ht9 hA9 => ⟨(), (by rw [(q_fd3 hv (q_wr.mpr ⟨hr1, hr2⟩) (q_rm_n2 hs hop hpx))]; decide), ⟨(by rw [(q_fd3 hv (q_wr.mpr ⟨hr1, hr2⟩) (q_rm_n2 hs hop hpx))]; rfl), m_wo_out hw ht9 hA9⟩, m_wo_F hw ht9⟩) (m_wo_L hw) (Nat.le_of_ble_eq_true rfl) (Nat.le_of_ble_eq_true rfl)
    obtain ⟨hrm, hl20, hlt⟩ := (q_rm_n hs hop).mp hp_19
    have htz : t_find Z wd (nI i) pl = 0 := q_fd0 hv (q_wr.mpr ⟨hr1, hr2⟩) hrm
    obtain ⟨p9, hp9, hp99⟩ := o_rng_nat (q_rngs.mpr hr2) (n := 40) rfl (by decide)
    have hpl : ∃ p, p < 41 ∧ pl = nI p := ⟨p9, by omega, hp99⟩
    refine lv_aload_n hx hb dX8_find_22 rfl (lv_at hl 0 rfl) ?_
    refine m_new_1 hx hb hts (by decide +kernel) hown (hts (.classLink RX8 95 "Pirateindex$Find") (by decide +kernel)) (hts (.instantiable RX0 7) (by decide +kernel)) (hts (.initialized RX0) (by decide +kernel)) hw (Nat.le_of_ble_eq_true rfl) (Nat.le_of_ble_eq_true rfl) dX8_find_23 (fun q_23 H hz_23 hd_23 hw => ?_)
    have hk_23 : m_up K q_23 1 q_23 = 1 := m_up_self _ _ _
    have hcn : c_chg K I R N (m_up K q_23 1) I R N c_no c_no := c_chg_new (n := 0) hz_23
    have hok := c_ok_chg hok0 hcn (fun _ _ h => absurd h id)
    refine lv_dup hx hb dX8_find_26 rfl ?_
    refine lv_aload_n hx hb dX8_find_27 rfl (lv_at hl 0 rfl) ?_
    refine g_9_1 (r := some (cd 1)) hx hb hts (by decide +kernel) hown hw hok.1 (hts (.fieldLink RX8 16 "Pirateindex" "log" "Ljava/util/ArrayList;") (by decide +kernel)) hok.2.2.1 dX8_find_28 ?_
    refine m_ci (va_runV (As := []) (rest := [.ref q_23, .ref q_23, .ref o]) ⟨hx, hb, hml, hown, hts⟩ (c_Jx4a65c_size_8abf5 l hok.2.2.2.2.2.2.2.2.2.2.2.1) (cwV 0 hts gX8_find_Jx4a65c_size_8abf5 rfl rfl rfl (by decide +kernel) ⟨Nat.le_of_ble_eq_true rfl, Nat.le_of_ble_eq_true rfl⟩) ⟨m_blind m_B_calling, m_recv hw (m_ent_11 hok.2.2.2.2.2.2.2.2.2.2.2.1) rfl, fun U hU hW => ⟨rfl, m_wo_call hw hU hW⟩⟩ rfl rfl hl.1 rfl (lv_room (Nat.le_of_ble_eq_true rfl)) dX8_find_31 ⟨Nat.le_of_ble_eq_true rfl, Nat.le_of_ble_eq_true rfl⟩) hw (fun r_31 u_31 H locs hp_31 hw => ?_)
    obtain rfl : r_31 = (nI (L (cd 1)).length) := hp_31
    refine lv_iload_n hx hb dX8_find_34 rfl (lv_at hl 1 rfl) ?_
    refine lv_iload_n hx hb dX8_find_35 rfl (lv_at hl 2 rfl) ?_
    refine lv_iload_n hx hb dX8_find_36 rfl (lv_at hl 3 rfl) ?_
    refine lv_null hx hb dX8_find_37 ?_
    refine m_cv (va_runI (As := [.int (nI (L (cd 1)).length), .int wd, .int (nI i), .int pl, .null]) (rest := [.ref q_23, .ref o]) ⟨hx, hb, hml, hown, hts⟩ (c_X0_init_n l hk_23) (cwI 5 hts gX8_find_X0_init rfl rfl rfl (hts (.initialized RX0) (by decide +kernel)) (hts (.methodLink RX8 97 yX0_init) (by decide +kernel)) (hts (.instanceMethod yX0_init) (by decide +kernel)) rfl (by decide +kernel) ⟨Nat.le_of_ble_eq_true rfl, Nat.le_of_ble_eq_true rfl⟩) ⟨m_blind m_B_calling, fun U hU hW => ⟨rfl, m_wo_call hw hU hW⟩⟩ rfl rfl hl.1 rfl (lv_room (Nat.le_of_ble_eq_true rfl)) dX8_find_38 ⟨Nat.le_of_ble_eq_true rfl, Nat.le_of_ble_eq_true rfl⟩) hw (fun u_38 H locs hp_38 hw => ?_)
    obtain ⟨I_1, R_2⟩ := u_38
    have hw : m_wo G (m_up K q_23 1) I_1 R_2 F A N L T J D s H locs := hw
    dsimp only at hp_38
    obtain ⟨eI1, eR1⟩ := hp_38
    have hs1 : c_sim (m_up K q_23 1) I_1 R_2 N A L T o cd Z M := q_newf hs hz_23 (fun f b hb => by rw [eI1, m_up2_ne _ _ hb, m_up2_ne _ _ hb, m_up2_ne _ _ hb, m_up2_ne _ _ hb]) (fun f b hb => by rw [eR1, m_up2_ne _ _ hb])
    have i10 : I_1 10 q_23 = nI (L (cd 1)).length := by rw [eI1, m_up2_ni _ _ (by decide), m_up2_ni _ _ (by decide), m_up2_ni _ _ (by decide), m_up2_self]
    have i11 : I_1 11 q_23 = wd := by rw [eI1, m_up2_ni _ _ (by decide), m_up2_ni _ _ (by decide), m_up2_self]
    have i12 : I_1 12 q_23 = (nI i) := by rw [eI1, m_up2_ni _ _ (by decide), m_up2_self]
    have i13 : I_1 13 q_23 = pl := by rw [eI1, m_up2_self]
    have i16 : I_1 16 q_23 = 0 := by rw [eI1, m_up2_ni _ _ (by decide), m_up2_ni _ _ (by decide), m_up2_ni _ _ (by decide), m_up2_ni _ _ (by decide)]; exact hd_23.1 16
    have r14 : R_2 14 q_23 = if (-1 : Int32) = -1 then none else (L (cd 5))[(-1 : Int32).toNatClampNeg]? := by rw [eR1, m_up2_self]; rfl
    have r15 : R_2 15 q_23 = none := by rw [eR1, m_up2_ni _ _ (by decide)]; exact hd_23.2.1 15
    have hnq : q_23 ∉ L (cd 1) := fun z => by have h8 := hel1 q_23 z; rw [hz_23] at h8; exact absurd h8 (by decide)
    have hl9 : (L (cd 9)).length ≤ 120 := Nat.le_trans (q_l9 hs) hs.2.2.1.2.1
    have hok := hs1.1
    have hop1 : R_2 61 (cd 4) = R 61 (cd 4) := by rw [eR1, m_up2_ni _ _ (by decide)]
    have hop2 := hop1.trans hop
    refine m_ci (va_runV (As := [.ref q_23]) (rest := []) ⟨hx, hb, hml, hown, hts⟩ (c_X8_enter_n l hs1.1 (q_el1 hs1) (q_el9 hs1) hk_23 hs.2.2.1.2.1 hl9 hop2 (q_el5 hs1) hs.2.2.2.2.1.2.1) (cwV 1 hts gX8_find_X8_enter rfl rfl rfl (by decide +kernel) ⟨Nat.le_of_ble_eq_true rfl, Nat.le_of_ble_eq_true rfl⟩) ⟨m_blind m_B_calling, m_recv hw (m_ent_9 hok.1) rfl, fun U hU hW => ⟨rfl, m_wo_call hw hU hW⟩⟩ rfl rfl hl.1 rfl (lv_room (Nat.le_of_ble_eq_true rfl)) dX8_find_41 ⟨Nat.le_of_ble_eq_true rfl, Nat.le_of_ble_eq_true rfl⟩) hw (fun r_41 u_41 H locs hp_41 hw => ?_)
    obtain ⟨K_3, I_4, R_5, N_6, L_7⟩ := u_41
    have hw : m_wo G K_3 I_4 R_5 F A N_6 L_7 T J D s H locs := hw
    dsimp only at hp_41
    have hcE1 : ∀ (f b : Nat), (f = 62 ∧ b = cd 4) → f < 1000 := fun f b z => by omega
    have hcE2 : ∀ (f b : Nat), ((f = 15 ∧ b = q_23) ∨ (f = 61 ∧ b = cd 4)) → f < 1000 := fun f b z => by omega
    obtain ⟨hr9, sg, fl, hnw, hsf, hc9, ks9, kf9, e51, e111, e50, e62, e15, e61, hen⟩ := hp_41
    have hok2 := c_ok_chg hs1.1 hc9 (fun f b z => by rcases z with ⟨z, -⟩ | ⟨z, -⟩ <;> rw [z] <;> rfl)
    have hss := q_enter_n (shp := (-1 : Int32)) hs1 hk_23 hnq hlt i10 i11 i12 i13 i16 r14 (Or.inl rfl) r15 hpl hop2 hl20 h4 hnw hc9 ks9 kf9 e51 e111 e50 e62 e15 e61 hen (m_cap_le hw hok2.2.2.2.2.2.2.2.2.2.2.2.2.2.2.2.2.2.2.1 hok2.2.2.2.2.2.2.2.2.2.2.2.2.2.2.2.2.2.2.2.2.2.2.2.2.2.2.2.2.2.2.2.2.2.2.2.2.2.2.1)
    obtain rfl : r_41 = Z 1 := hr9.trans (i10.trans hs.2.2.1.1.symm)
    have hfr9 : c_fr K I R N A K_3 I_4 R_5 N_6 A := c_fr_tr (c_fr_nw hz_23 (fun f b hb => by rw [eI1, m_up2_ne _ _ hb, m_up2_ne _ _ hb, m_up2_ne _ _ hb, m_up2_ne _ _ hb]) (fun f b hb => by rw [eR1, m_up2_ne _ _ hb])) (c_fr_c hc9 hcE1 hcE2)
    refine vx_ret ?_
    exact W.iret (v := (Z 1)) hx hb hr (fun t ht hW => ⟨⟨(Z 1), (K_3, I_4, R_5, N_6, L_7), rfl, ⟨htz, rfl, hss, hfr9⟩, m_wo_out hw ht hW.alike⟩, m_wo_F hw ht⟩) (m_wo_L hw) dX8_find_44
  · skip
    obtain ⟨fl, hksg, hfl, hkf, hrf, helf, h9l, hncd⟩ := q_op9 hs hop h9
    refine lv_aload_n hx hb dX8_find_18 rfl (lv_at hl 0 rfl) ?_
    refine m_xv (vx_runV (As := []) (rest := []) ⟨hx, hb, hml, hown, hts⟩ (c_X8_requireRoomForFind_o l hnt hok hel5 hop hksg hfl hkf) (cwV 0 hts gX8_find_X8_requireRoomForFind rfl rfl rfl (by decide +kernel) ⟨Nat.le_of_ble_eq_true rfl, Nat.le_of_ble_eq_true rfl⟩) ⟨m_blind (fun U g mk a h => ⟨m_B_calling U g mk a h.1, c_str_calling U g mk a h.2⟩), m_recv hw (m_ent_9 hok.1) rfl, fun U hU hW => ⟨rfl, m_wo_call hw hU hW, c_str_warm hW hcs⟩⟩ rfl rfl hl.1 rfl (lv_room (Nat.le_of_ble_eq_true rfl)) dX8_find_19 ⟨Nat.le_of_ble_eq_true rfl, Nat.le_of_ble_eq_true rfl⟩) hw (fun E_ ce_ q9_ u_19x H locs hpx hw hce hcv hcl => ?_) (fun u_19 H locs hp_19 hw => ?_)
    · skip
      obtain ⟨hpx, rfl⟩ := hpx
      exact vx_out (fun x hx9 => absurd (hxt x hx9) id) hlocks hce hcv hcl (fun t ht9 hA9 => ⟨(), (by rw [(q_fd3 hv (q_wr.mpr ⟨hr1, hr2⟩) (fun z => hpx ((q_rm_o hs hop h9l).mpr z)))]; decide), ⟨(by rw [(q_fd3 hv (q_wr.mpr ⟨hr1, hr2⟩) (fun z => hpx ((q_rm_o hs hop h9l).mpr z)))]; rfl), m_wo_out hw ht9 hA9⟩, m_wo_F hw ht9⟩) (m_wo_L hw) (Nat.le_of_ble_eq_true rfl) (Nat.le_of_ble_eq_true rfl)
    have hrm := (q_rm_o hs hop h9l).mp hp_19
    have hlt := hp_19.1
    have htz : t_find Z wd (nI i) pl = 0 := q_fd0 hv (q_wr.mpr ⟨hr1, hr2⟩) hrm
    obtain ⟨p9, hp9, hp99⟩ := o_rng_nat (q_rngs.mpr hr2) (n := 40) rfl (by decide)
    have hpl : ∃ p, p < 41 ∧ pl = nI p := ⟨p9, by omega, hp99⟩
    refine lv_aload_n hx hb dX8_find_22 rfl (lv_at hl 0 rfl) ?_
    refine m_new_1 hx hb hts (by decide +kernel) hown (hts (.classLink RX8 95 "Pirateindex$Find") (by decide +kernel)) (hts (.instantiable RX0 7) (by decide +kernel)) (hts (.initialized RX0) (by decide +kernel)) hw (Nat.le_of_ble_eq_true rfl) (Nat.le_of_ble_eq_true rfl) dX8_find_23 (fun q_23 H hz_23 hd_23 hw => ?_)
    have hk_23 : m_up K q_23 1 q_23 = 1 := m_up_self _ _ _
    have hcn : c_chg K I R N (m_up K q_23 1) I R N c_no c_no := c_chg_new (n := 0) hz_23
    have hok := c_ok_chg hok0 hcn (fun _ _ h => absurd h id)
    refine lv_dup hx hb dX8_find_26 rfl ?_
    refine lv_aload_n hx hb dX8_find_27 rfl (lv_at hl 0 rfl) ?_
    refine g_9_1 (r := some (cd 1)) hx hb hts (by decide +kernel) hown hw hok.1 (hts (.fieldLink RX8 16 "Pirateindex" "log" "Ljava/util/ArrayList;") (by decide +kernel)) hok.2.2.1 dX8_find_28 ?_
    refine m_ci (va_runV (As := []) (rest := [.ref q_23, .ref q_23, .ref o]) ⟨hx, hb, hml, hown, hts⟩ (c_Jx4a65c_size_8abf5 l hok.2.2.2.2.2.2.2.2.2.2.2.1) (cwV 0 hts gX8_find_Jx4a65c_size_8abf5 rfl rfl rfl (by decide +kernel) ⟨Nat.le_of_ble_eq_true rfl, Nat.le_of_ble_eq_true rfl⟩) ⟨m_blind m_B_calling, m_recv hw (m_ent_11 hok.2.2.2.2.2.2.2.2.2.2.2.1) rfl, fun U hU hW => ⟨rfl, m_wo_call hw hU hW⟩⟩ rfl rfl hl.1 rfl (lv_room (Nat.le_of_ble_eq_true rfl)) dX8_find_31 ⟨Nat.le_of_ble_eq_true rfl, Nat.le_of_ble_eq_true rfl⟩) hw (fun r_31 u_31 H locs hp_31 hw => ?_)
    obtain rfl : r_31 = (nI (L (cd 1)).length) := hp_31
    refine lv_iload_n hx hb dX8_find_34 rfl (lv_at hl 1 rfl) ?_
    refine lv_iload_n hx hb dX8_find_35 rfl (lv_at hl 2 rfl) ?_
    refine lv_iload_n hx hb dX8_find_36 rfl (lv_at hl 3 rfl) ?_
    refine lv_null hx hb dX8_find_37 ?_
    refine m_cv (va_runI (As := [.int (nI (L (cd 1)).length), .int wd, .int (nI i), .int pl, .null]) (rest := [.ref q_23, .ref o]) ⟨hx, hb, hml, hown, hts⟩ (c_X0_init_n l hk_23) (cwI 5 hts gX8_find_X0_init rfl rfl rfl (hts (.initialized RX0) (by decide +kernel)) (hts (.methodLink RX8 97 yX0_init) (by decide +kernel)) (hts (.instanceMethod yX0_init) (by decide +kernel)) rfl (by decide +kernel) ⟨Nat.le_of_ble_eq_true rfl, Nat.le_of_ble_eq_true rfl⟩) ⟨m_blind m_B_calling, fun U hU hW => ⟨rfl, m_wo_call hw hU hW⟩⟩ rfl rfl hl.1 rfl (lv_room (Nat.le_of_ble_eq_true rfl)) dX8_find_38 ⟨Nat.le_of_ble_eq_true rfl, Nat.le_of_ble_eq_true rfl⟩) hw (fun u_38 H locs hp_38 hw => ?_)
    obtain ⟨I_8, R_9⟩ := u_38
    have hw : m_wo G (m_up K q_23 1) I_8 R_9 F A N L T J D s H locs := hw
    dsimp only at hp_38
    obtain ⟨eI1, eR1⟩ := hp_38
    have hs1 : c_sim (m_up K q_23 1) I_8 R_9 N A L T o cd Z M := q_newf hs hz_23 (fun f b hb => by rw [eI1, m_up2_ne _ _ hb, m_up2_ne _ _ hb, m_up2_ne _ _ hb, m_up2_ne _ _ hb]) (fun f b hb => by rw [eR1, m_up2_ne _ _ hb])
    have i10 : I_8 10 q_23 = nI (L (cd 1)).length := by rw [eI1, m_up2_ni _ _ (by decide), m_up2_ni _ _ (by decide), m_up2_ni _ _ (by decide), m_up2_self]
    have i11 : I_8 11 q_23 = wd := by rw [eI1, m_up2_ni _ _ (by decide), m_up2_ni _ _ (by decide), m_up2_self]
    have i12 : I_8 12 q_23 = (nI i) := by rw [eI1, m_up2_ni _ _ (by decide), m_up2_self]
    have i13 : I_8 13 q_23 = pl := by rw [eI1, m_up2_self]
    have i16 : I_8 16 q_23 = 0 := by rw [eI1, m_up2_ni _ _ (by decide), m_up2_ni _ _ (by decide), m_up2_ni _ _ (by decide), m_up2_ni _ _ (by decide)]; exact hd_23.1 16
    have r14 : R_9 14 q_23 = if (-1 : Int32) = -1 then none else (L (cd 5))[(-1 : Int32).toNatClampNeg]? := by rw [eR1, m_up2_self]; rfl
    have r15 : R_9 15 q_23 = none := by rw [eR1, m_up2_ni _ _ (by decide)]; exact hd_23.2.1 15
    have hnq : q_23 ∉ L (cd 1) := fun z => by have h8 := hel1 q_23 z; rw [hz_23] at h8; exact absurd h8 (by decide)
    have hl9 : (L (cd 9)).length ≤ 120 := Nat.le_trans (q_l9 hs) hs.2.2.1.2.1
    have hok := hs1.1
    have hop1 : R_9 61 (cd 4) = R 61 (cd 4) := by rw [eR1, m_up2_ni _ _ (by decide)]
    have hop2 := hop1.trans hop
    obtain ⟨fl1, ksg1, hfl1, hkf1, hrf1, helf1, h9l1, hncd1⟩ := q_op9 hs1 hop2 h9
    refine m_ci (va_runV (As := [.ref q_23]) (rest := []) ⟨hx, hb, hml, hown, hts⟩ (c_X8_enter_o l hs1.1 (q_el1 hs1) (q_el9 hs1) hk_23 hs.2.2.1.2.1 hl9 hop2 ksg1 hfl1 hkf1 hrf1 helf1 (by omega) (hncd1 9 (by decide)) (hncd1 1 (by decide))) (cwV 1 hts gX8_find_X8_enter rfl rfl rfl (by decide +kernel) ⟨Nat.le_of_ble_eq_true rfl, Nat.le_of_ble_eq_true rfl⟩) ⟨m_blind m_B_calling, m_recv hw (m_ent_9 hok.1) rfl, fun U hU hW => ⟨rfl, m_wo_call hw hU hW⟩⟩ rfl rfl hl.1 rfl (lv_room (Nat.le_of_ble_eq_true rfl)) dX8_find_41 ⟨Nat.le_of_ble_eq_true rfl, Nat.le_of_ble_eq_true rfl⟩) hw (fun r_41 u_41 H locs hp_41 hw => ?_)
    obtain ⟨K_10, I_11, R_12, N_13, L_14⟩ := u_41
    have hw : m_wo G K_10 I_11 R_12 F A N_13 L_14 T J D s H locs := hw
    dsimp only at hp_41
    have hcE1 : ∀ (f b : Nat), c_no f b → f < 1000 := fun _ _ z => absurd z id
    have hcE2 : ∀ (f b : Nat), ((f = 15 ∧ b = q_23) ∨ (f = 61 ∧ b = cd 4)) → f < 1000 := fun f b z => by omega
    obtain ⟨hr9, hc9, e15, e61, hen⟩ := hp_41
    have hok2 := c_ok_chg hs1.1 hc9 (fun f b z => by rcases z with ⟨z, -⟩ | ⟨z, -⟩ <;> rw [z] <;> rfl)
    have hss := q_enter_o (shp := (-1 : Int32)) hs1 hk_23 hnq hlt i10 i11 i12 i13 i16 r14 (Or.inl rfl) r15 hpl hop2 hfl1 h9l1 hncd1 hc9 e15 e61 hen (m_cap_le hw hok2.2.2.2.2.2.2.2.2.2.2.2.2.2.2.2.2.2.2.1 hok2.2.2.2.2.2.2.2.2.2.2.2.2.2.2.2.2.2.2.2.2.2.2.2.2.2.2.2.2.2.2.2.2.2.2.2.2.2.2.1)
    obtain rfl : r_41 = Z 1 := hr9.trans (i10.trans hs.2.2.1.1.symm)
    have hfr9 : c_fr K I R N A K_10 I_11 R_12 N_13 A := c_fr_tr (c_fr_nw hz_23 (fun f b hb => by rw [eI1, m_up2_ne _ _ hb, m_up2_ne _ _ hb, m_up2_ne _ _ hb, m_up2_ne _ _ hb]) (fun f b hb => by rw [eR1, m_up2_ne _ _ hb])) (c_fr_c hc9 hcE1 hcE2)
    refine vx_ret ?_
    exact W.iret (v := (Z 1)) hx hb hr (fun t ht hW => ⟨⟨(Z 1), (K_10, I_11, R_12, N_13, L_14), rfl, ⟨htz, rfl, hss, hfr9⟩, m_wo_out hw ht hW.alike⟩, m_wo_F hw ht⟩) (m_wo_L hw) dX8_find_44
set_option maxHeartbeats 1600000 in
set_option maxRecDepth 100000 in
theorem c_X8_plant (l : Launch) (hnt : l.stackTraces = false) {G : mG} {K : Nat → Nat} {I : Nat → Nat → Int32} {R : Nat → Nat → Option Nat} {F : Nat → UInt32} {A : Nat → Nat → Int32} {N : Nat → Nat} {L : Nat → List Nat} {T : Nat → List Int32} {J : Nat → Nat → Int64} {D : Nat → Nat → UInt64} {o : Nat} {cd : Nat → Nat} {Z : Nat → Int32} {M : Nat → Nat → Int32} {sh wd isl pl : Int32} (hs : c_sim K I R N A L T o cd Z M) (h9 : ¬ Z 5 = -1 → o_size Z M (Z 5) ≤ 9) (h4 : ∃ m, Z 4 = nI m ∧ m + 1 < 2 ^ 30) : vx_Met l yX8_plant wsX8_plant ({ frames := 16, cells := 12, slots := 601, locals := 660 } : Room) (va_Pc [.ref o, .int sh, .int wd, .int isl, .int pl] (fun U => m_B G K I R F A N L T J D U ∧ c_str U)) (va_Qi (fun (r : Int32) (u : (Nat → Nat) × (Nat → Nat → Int32) × (Nat → Nat → Option Nat) × (Nat → Nat) × (Nat → List Nat)) => t_plant Z M sh wd isl pl = 0 ∧ r = Z 1 ∧ c_sim u.1 u.2.1 u.2.2.1 u.2.2.2.1 A u.2.2.2.2 T o cd (p_plant (Z, M) sh wd isl pl).1 (p_plant (Z, M) sh wd isl pl).2 ∧ c_fr K I R N A u.1 u.2.1 u.2.2.1 u.2.2.2.1 A) (fun u : (Nat → Nat) × (Nat → Nat → Int32) × (Nat → Nat → Option Nat) × (Nat → Nat) × (Nat → List Nat) => m_B G (u.1) (u.2.1) (u.2.2.1) F A (u.2.2.2.1) (u.2.2.2.2) T J D) (m_A G)) (vx_X (fun (u : Unit) => ¬ t_plant Z M sh wd isl pl = 0) (fun E (u : Unit) t => E = (if t_plant Z M sh wd isl pl = 1 then "java/lang/IndexOutOfBoundsException" else if t_plant Z M sh wd isl pl = 2 then "java/lang/IllegalArgumentException" else if t_plant Z M sh wd isl pl = 3 then "java/lang/UnsupportedOperationException" else "java/lang/IllegalStateException") ∧ m_B G K I R F A N L T J D t) (m_A G)) 12 601 (m_A G) := by
  refine vx_ofW (cc := cX8_plant) (maxL := 6) (ret := (some .int)) (by decide) rfl ?_
  intro p e s m args below meth c s₁ B hml hxt hv
  obtain ⟨rfl, hB, hcs⟩ := hv
  have hx := B.exec
  have hb := B.bytes
  have hr := B.returns
  have hts := atoms_spec (ws := wsX8_plant) B.pre
  have hown : s.vm.findClass RX8 = some m.cls := findClass_of_methodNamed B.named
  have hlocks := B.notSynchronized
  have hw := m_wo_in hB
  have hl := lv_entry ([.ref o, .int sh, .int wd, .int isl, .int pl]) (n := 6) (Nat.le_of_ble_eq_true rfl)
  rw [lg_entry_eq]
  generalize (lg_sl ([.ref o, .int sh, .int wd, .int isl, .int pl]) ++ List.replicate (6 - (lg_sl ([.ref o, .int sh, .int wd, .int isl, .int pl])).length) Slot.unset).toArray = ls at hl ⊢
  have hl : lv_has ls 6 [(0, .ref o), (1, .int sh), (2, .int wd), (3, .int isl), (4, .int pl)] := hl
  have hok := hs.1
  have hel0 := q_el0 hs
  have hel1 := q_el1 hs
  have hel5 := q_el5 hs
  have hel7 := q_el7 hs
  have hel9 := q_el9 hs
  have hok0 := hok
  refine lv_aload_n hx hb dX8_plant_0 rfl (lv_at hl 0 rfl) ?_
  refine lv_iload_n hx hb dX8_plant_1 rfl (lv_at hl 1 rfl) ?_
  refine m_xq (vx_runV (As := [.int sh]) (rest := []) ⟨hx, hb, hml, hown, hts⟩ (c_X8_shipOf l hnt hok hel7) (cwV 1 hts gX8_plant_X8_shipOf rfl rfl rfl (by decide +kernel) ⟨Nat.le_of_ble_eq_true rfl, Nat.le_of_ble_eq_true rfl⟩) ⟨m_blind (fun U g mk a h => ⟨m_B_calling U g mk a h.1, c_str_calling U g mk a h.2⟩), m_recv hw (m_ent_9 hok.1) rfl, fun U hU hW => ⟨rfl, m_wo_call hw hU hW, c_str_warm hW hcs⟩⟩ rfl rfl hl.1 rfl (lv_room (Nat.le_of_ble_eq_true rfl)) dX8_plant_2 ⟨Nat.le_of_ble_eq_true rfl, Nat.le_of_ble_eq_true rfl⟩) hw (fun E_ ce_ q9_ u_2x H locs hpx hw hce hcv hcl => ?_) (fun r_2 u_2 H locs hp_2 hw => ?_)
  · skip
    obtain ⟨hpx, rfl⟩ := hpx
    exact vx_out (fun x hx9 => absurd (hxt x hx9) id) hlocks hce hcv hcl (fun t ht9 hA9 => ⟨(), (by rw [(q_pl1 (fun z => hpx ((q_shp_nm hs sh).mp z.1)))]; decide), ⟨(by rw [(q_pl1 (fun z => hpx ((q_shp_nm hs sh).mp z.1)))]; rfl), m_wo_out hw ht9 hA9⟩, m_wo_F hw ht9⟩) (m_wo_L hw) (Nat.le_of_ble_eq_true rfl) (Nat.le_of_ble_eq_true rfl)
  obtain ⟨i, ai, rfl, hi31, ha, rfl⟩ := hp_2
  have hi : i < (L (cd 5)).length := (List.getElem?_eq_some_iff.mp ha).1
  have hka := hel7 ai (List.mem_of_getElem? ha)
  have hv := (q_shp_nm hs (nI i)).mpr ⟨i, hi, rfl⟩
  obtain ⟨ph, w9, d9, n, is9, came, h70, hph, h71, hst, hst9, h73, hcm, hk7, h74, h72, hn, hwd, hgp, np, nw, nd, hkp⟩ := hs.2.2.2.2.2.1.2.2.2.1 i ai ha
  have hkis : K is9 = 3 := hel0 is9 (List.mem_of_getElem? hst)
  have hkph := hph.1
  refine lv_astore (lv' := [(5, .ref ai), (0, .ref o), (1, .int (nI i)), (2, .int wd), (3, .int isl), (4, .int pl)]) hx hb dX8_plant_5 hl (by decide) rfl (fun ls hl => ?_)
  refine lv_aload_n hx hb dX8_plant_7 rfl (lv_at hl 1 rfl) ?_
  refine lv_iload_n hx hb dX8_plant_8 rfl (lv_at hl 4 rfl) ?_
  refine m_xq (vx_runV (As := [.int isl]) (rest := []) ⟨hx, hb, hml, hown, hts⟩ (c_X8_isleOf l hnt hok hel0) (cwV 1 hts gX8_plant_X8_isleOf rfl rfl rfl (by decide +kernel) ⟨Nat.le_of_ble_eq_true rfl, Nat.le_of_ble_eq_true rfl⟩) ⟨m_blind (fun U g mk a h => ⟨m_B_calling U g mk a h.1, c_str_calling U g mk a h.2⟩), m_recv hw (m_ent_9 hok.1) rfl, fun U hU hW => ⟨rfl, m_wo_call hw hU hW, c_str_warm hW hcs⟩⟩ rfl rfl hl.1 rfl (lv_room (Nat.le_of_ble_eq_true rfl)) dX8_plant_9 ⟨Nat.le_of_ble_eq_true rfl, Nat.le_of_ble_eq_true rfl⟩) hw (fun E_ ce_ q9_ u_9x H locs hpx hw hce hcv hcl => ?_) (fun r_9 u_9 H locs hp_9 hw => ?_)
  · skip
    obtain ⟨hpx, rfl⟩ := hpx
    exact vx_out (fun x hx9 => absurd (hxt x hx9) id) hlocks hce hcv hcl (fun t ht9 hA9 => ⟨(), (by rw [(q_pl1 (fun z => hpx ((q_isl_nm hs isl).mp z.2)))]; decide), ⟨(by rw [(q_pl1 (fun z => hpx ((q_isl_nm hs isl).mp z.2)))]; rfl), m_wo_out hw ht9 hA9⟩, m_wo_F hw ht9⟩) (m_wo_L hw) (Nat.le_of_ble_eq_true rfl) (Nat.le_of_ble_eq_true rfl)
  obtain ⟨j9, aj, rfl, hj31, haj, rfl⟩ := hp_9
  have hvj := (q_isl_nm hs (nI j9)).mpr ⟨j9, (List.getElem?_eq_some_iff.mp haj).1, rfl⟩
  refine lv_pop hx hb dX8_plant_12 rfl ?_
  refine lv_iload_n hx hb dX8_plant_13 rfl (lv_at hl 3 rfl) ?_
  refine lv_bipush (v := 30) hx hb dX8_plant_14 (by decide) ?_
  refine m_xv (vx_runS (As := [.int wd, .int 30]) (rest := []) ⟨hx, hb, hml, hown, hts⟩ (c_X8_requireRange l hnt ) (va_cwS 2 hts gX8_plant_X8_requireRange rfl rfl rfl (by decide +kernel) ⟨Nat.le_of_ble_eq_true rfl, Nat.le_of_ble_eq_true rfl⟩) ⟨m_blind (fun U g mk a h => ⟨m_B_calling U g mk a h.1, c_str_calling U g mk a h.2⟩), fun U hU hW => ⟨rfl, m_wo_call hw hU hW, c_str_warm hW hcs⟩⟩ rfl rfl hl.1 rfl (lv_room (Nat.le_of_ble_eq_true rfl)) dX8_plant_16 ⟨Nat.le_of_ble_eq_true rfl, Nat.le_of_ble_eq_true rfl⟩) hw (fun E_ ce_ q9_ u_16x H locs hpx hw hce hcv hcl => ?_) (fun u_16 H locs hp_16 hw => ?_)
  · skip
    obtain ⟨hpx, rfl⟩ := hpx
    exact vx_out (fun x hx9 => absurd (hxt x hx9) id) hlocks hce hcv hcl (fun t ht9 hA9 => ⟨(), (by rw [(q_pl2 hv hvj (fun z => hpx (q_wr.mp z).1))]; decide), ⟨(by rw [(q_pl2 hv hvj (fun z => hpx (q_wr.mp z).1))]; rfl), m_wo_out hw ht9 hA9⟩, m_wo_F hw ht9⟩) (m_wo_L hw) (Nat.le_of_ble_eq_true rfl) (Nat.le_of_ble_eq_true rfl)
  have hr1 := hp_16
  refine lv_iload hx hb dX8_plant_19 (lv_at hl 5 rfl) ?_
  refine lv_bipush (v := 40) hx hb dX8_plant_21 (by decide) ?_
  refine m_xv (vx_runS (As := [.int pl, .int 40]) (rest := []) ⟨hx, hb, hml, hown, hts⟩ (c_X8_requireRange l hnt ) (va_cwS 2 hts gX8_plant_X8_requireRange rfl rfl rfl (by decide +kernel) ⟨Nat.le_of_ble_eq_true rfl, Nat.le_of_ble_eq_true rfl⟩) ⟨m_blind (fun U g mk a h => ⟨m_B_calling U g mk a h.1, c_str_calling U g mk a h.2⟩), fun U hU hW => ⟨rfl, m_wo_call hw hU hW, c_str_warm hW hcs⟩⟩ rfl rfl hl.1 rfl (lv_room (Nat.le_of_ble_eq_true rfl)) dX8_plant_23 ⟨Nat.le_of_ble_eq_true rfl, Nat.le_of_ble_eq_true rfl⟩) hw (fun E_ ce_ q9_ u_23x H locs hpx hw hce hcv hcl => ?_) (fun u_23 H locs hp_23 hw => ?_)
  · skip
    obtain ⟨hpx, rfl⟩ := hpx
    exact vx_out (fun x hx9 => absurd (hxt x hx9) id) hlocks hce hcv hcl (fun t ht9 hA9 => ⟨(), (by rw [(q_pl2 hv hvj (fun z => hpx (q_wr.mp z).2))]; decide), ⟨(by rw [(q_pl2 hv hvj (fun z => hpx (q_wr.mp z).2))]; rfl), m_wo_out hw ht9 hA9⟩, m_wo_F hw ht9⟩) (m_wo_L hw) (Nat.le_of_ble_eq_true rfl) (Nat.le_of_ble_eq_true rfl)
  have hr2 := hp_23
  refine lv_aload hx hb dX8_plant_26 (lv_at hl 0 rfl) ?_
  refine g_7_2 hx hb hts (by decide +kernel) hown hw hka (hts (.fieldLink RX8 125 "Pirateindex$Ship" "purse" "I") (by decide +kernel)) dX8_plant_28 ?_
  rw [h72]
  refine lv_iconst (v := 5) hx hb dX8_plant_31 (by decide) ?_
  refine lv_icmp_ge (tgt := 45) hx hb dX8_plant_32 (by decide) (fun c_32 => ?_) (fun c_32 => ?_)
  · skip
    have hpu : ¬ M 19 (nI i).toNatClampNeg < 5 := by rw [nI_clamp hi31]; exact Int32.not_lt.mpr c_32
    rcases hop : R 61 (cd 4) with _ | sg
    · skip
      refine lv_aload_n hx hb dX8_plant_45 rfl (lv_at hl 1 rfl) ?_
      refine m_xv (vx_runV (As := []) (rest := []) ⟨hx, hb, hml, hown, hts⟩ (c_X8_requireRoomForFind_n l hnt hok hel5 hop) (cwV 0 hts gX8_plant_X8_requireRoomForFind rfl rfl rfl (by decide +kernel) ⟨Nat.le_of_ble_eq_true rfl, Nat.le_of_ble_eq_true rfl⟩) ⟨m_blind (fun U g mk a h => ⟨m_B_calling U g mk a h.1, c_str_calling U g mk a h.2⟩), m_recv hw (m_ent_9 hok.1) rfl, fun U hU hW => ⟨rfl, m_wo_call hw hU hW, c_str_warm hW hcs⟩⟩ rfl rfl hl.1 rfl (lv_room (Nat.le_of_ble_eq_true rfl)) dX8_plant_46 ⟨Nat.le_of_ble_eq_true rfl, Nat.le_of_ble_eq_true rfl⟩) hw (fun E_ ce_ q9_ u_46x H locs hpx hw hce hcv hcl => ?_) (fun u_46 H locs hp_46 hw => ?_)
      · skip
        obtain ⟨hpx, rfl⟩ := hpx
        exact vx_out (fun x hx9 => absurd (hxt x hx9) id) hlocks hce hcv hcl (fun t ht9 hA9 => ⟨(), (by rw [(q_pl4 hv hvj (q_wr.mpr ⟨hr1, hr2⟩) hpu (q_rm_n2 hs hop hpx))]; decide), ⟨(by rw [(q_pl4 hv hvj (q_wr.mpr ⟨hr1, hr2⟩) hpu (q_rm_n2 hs hop hpx))]; rfl), m_wo_out hw ht9 hA9⟩, m_wo_F hw ht9⟩) (m_wo_L hw) (Nat.le_of_ble_eq_true rfl) (Nat.le_of_ble_eq_true rfl)
      obtain ⟨hrm, hl20, hlt⟩ := (q_rm_n hs hop).mp hp_46
      have htz : t_plant Z M (nI i) wd (nI j9) pl = 0 := q_pl0 hv hvj (q_wr.mpr ⟨hr1, hr2⟩) hpu hrm
      obtain ⟨p9, hp9, hp99⟩ := o_rng_nat (q_rngs.mpr hr2) (n := 40) rfl (by decide)
      have hpl : ∃ p, p < 41 ∧ pl = nI p := ⟨p9, by omega, hp99⟩
      refine lv_aload hx hb dX8_plant_49 (lv_at hl 0 rfl) ?_
      refine lv_iconst (v := 5) hx hb dX8_plant_51 (by decide) ?_
      refine m_cv (va_runV (As := [.int 5]) (rest := []) ⟨hx, hb, hml, hown, hts⟩ (c_X6_pay l hka) (cwV 1 hts gX8_plant_X6_pay rfl rfl rfl (by decide +kernel) ⟨Nat.le_of_ble_eq_true rfl, Nat.le_of_ble_eq_true rfl⟩) ⟨m_blind m_B_calling, m_recv hw (m_ent_7 hka) rfl, fun U hU hW => ⟨rfl, m_wo_call hw hU hW⟩⟩ rfl rfl hl.1 rfl (lv_room (Nat.le_of_ble_eq_true rfl)) dX8_plant_52 ⟨Nat.le_of_ble_eq_true rfl, Nat.le_of_ble_eq_true rfl⟩) hw (fun u_52 H locs hp_52 hw => ?_)
      have hw : m_wo G K u_52 R F A N L T J D s H locs := hw
      have eIP := hp_52
      rw [h72, if_neg (by rw [nI_clamp hi31] at hpu; exact hpu)] at eIP
      obtain ⟨MP, eMP⟩ : ∃ z : Nat → Nat → Int32, z = m1 M 19 i (M 19 i - 5) := ⟨_, rfl⟩
      have hsP : c_sim K u_52 R N A L T o cd Z MP := by rw [eIP, eMP]; exact q_purse hs ha
      have hfrP : c_fr K I R N A K u_52 R N A := c_fr_I (fun f b h => by rw [eIP]; exact m_up2_ni _ _ (by omega))
      have h9P : ¬ Z 5 = -1 → o_size Z MP (Z 5) ≤ 9 := fun z => by have h := h9 z; rw [eMP]; unfold o_size at h ⊢; rw [m1_n _ _ (by decide)]; exact h
      refine lv_aload_n hx hb dX8_plant_55 rfl (lv_at hl 1 rfl) ?_
      refine m_new_1 hx hb hts (by decide +kernel) hown (hts (.classLink RX8 95 "Pirateindex$Find") (by decide +kernel)) (hts (.instantiable RX0 7) (by decide +kernel)) (hts (.initialized RX0) (by decide +kernel)) hw (Nat.le_of_ble_eq_true rfl) (Nat.le_of_ble_eq_true rfl) dX8_plant_56 (fun q_56 H hz_56 hd_56 hw => ?_)
      have hk_56 : m_up K q_56 1 q_56 = 1 := m_up_self _ _ _
      have hcn : c_chg K u_52 R N (m_up K q_56 1) u_52 R N c_no c_no := c_chg_new (n := 0) hz_56
      have hok := c_ok_chg hok0 hcn (fun _ _ h => absurd h id)
      refine lv_dup hx hb dX8_plant_59 rfl ?_
      refine lv_aload_n hx hb dX8_plant_60 rfl (lv_at hl 1 rfl) ?_
      refine g_9_1 (r := some (cd 1)) hx hb hts (by decide +kernel) hown hw hok.1 (hts (.fieldLink RX8 16 "Pirateindex" "log" "Ljava/util/ArrayList;") (by decide +kernel)) hok.2.2.1 dX8_plant_61 ?_
      refine m_ci (va_runV (As := []) (rest := [.ref q_56, .ref q_56, .ref o]) ⟨hx, hb, hml, hown, hts⟩ (c_Jx4a65c_size_8abf5 l hok.2.2.2.2.2.2.2.2.2.2.2.1) (cwV 0 hts gX8_plant_Jx4a65c_size_8abf5 rfl rfl rfl (by decide +kernel) ⟨Nat.le_of_ble_eq_true rfl, Nat.le_of_ble_eq_true rfl⟩) ⟨m_blind m_B_calling, m_recv hw (m_ent_11 hok.2.2.2.2.2.2.2.2.2.2.2.1) rfl, fun U hU hW => ⟨rfl, m_wo_call hw hU hW⟩⟩ rfl rfl hl.1 rfl (lv_room (Nat.le_of_ble_eq_true rfl)) dX8_plant_64 ⟨Nat.le_of_ble_eq_true rfl, Nat.le_of_ble_eq_true rfl⟩) hw (fun r_64 u_64 H locs hp_64 hw => ?_)
      obtain rfl : r_64 = (nI (L (cd 1)).length) := hp_64
      refine lv_iload_n hx hb dX8_plant_67 rfl (lv_at hl 3 rfl) ?_
      refine lv_iload_n hx hb dX8_plant_68 rfl (lv_at hl 4 rfl) ?_
      refine lv_iload hx hb dX8_plant_69 (lv_at hl 5 rfl) ?_
      refine lv_aload hx hb dX8_plant_71 (lv_at hl 0 rfl) ?_
      refine m_cv (va_runI (As := [.int (nI (L (cd 1)).length), .int wd, .int (nI j9), .int pl, .ref ai]) (rest := [.ref q_56, .ref o]) ⟨hx, hb, hml, hown, hts⟩ (c_X0_init l hk_56) (cwI 5 hts gX8_plant_X0_init rfl rfl rfl (hts (.initialized RX0) (by decide +kernel)) (hts (.methodLink RX8 97 yX0_init) (by decide +kernel)) (hts (.instanceMethod yX0_init) (by decide +kernel)) rfl (by decide +kernel) ⟨Nat.le_of_ble_eq_true rfl, Nat.le_of_ble_eq_true rfl⟩) ⟨m_blind m_B_calling, fun U hU hW => ⟨rfl, m_wo_call hw hU hW⟩⟩ rfl rfl hl.1 rfl (lv_room (Nat.le_of_ble_eq_true rfl)) dX8_plant_73 ⟨Nat.le_of_ble_eq_true rfl, Nat.le_of_ble_eq_true rfl⟩) hw (fun u_73 H locs hp_73 hw => ?_)
      obtain ⟨I_2, R_3⟩ := u_73
      have hw : m_wo G (m_up K q_56 1) I_2 R_3 F A N L T J D s H locs := hw
      dsimp only at hp_73
      obtain ⟨eI1, eR1⟩ := hp_73
      have hs1 : c_sim (m_up K q_56 1) I_2 R_3 N A L T o cd Z MP := q_newf hsP hz_56 (fun f b hb => by rw [eI1, m_up2_ne _ _ hb, m_up2_ne _ _ hb, m_up2_ne _ _ hb, m_up2_ne _ _ hb]) (fun f b hb => by rw [eR1, m_up2_ne _ _ hb])
      have i10 : I_2 10 q_56 = nI (L (cd 1)).length := by rw [eI1, m_up2_ni _ _ (by decide), m_up2_ni _ _ (by decide), m_up2_ni _ _ (by decide), m_up2_self]
      have i11 : I_2 11 q_56 = wd := by rw [eI1, m_up2_ni _ _ (by decide), m_up2_ni _ _ (by decide), m_up2_self]
      have i12 : I_2 12 q_56 = (nI j9) := by rw [eI1, m_up2_ni _ _ (by decide), m_up2_self]
      have i13 : I_2 13 q_56 = pl := by rw [eI1, m_up2_self]
      have i16 : I_2 16 q_56 = 0 := by rw [eI1, m_up2_ni _ _ (by decide), m_up2_ni _ _ (by decide), m_up2_ni _ _ (by decide), m_up2_ni _ _ (by decide)]; exact hd_56.1 16
      have r14 : R_3 14 q_56 = if (nI i) = -1 then none else (L (cd 5))[(nI i).toNatClampNeg]? := by rw [eR1, m_up2_self]; rw [if_neg (nI_nm1 hi31), nI_clamp hi31]; exact ha.symm
      have r15 : R_3 15 q_56 = none := by rw [eR1, m_up2_ni _ _ (by decide)]; exact hd_56.2.1 15
      have hnq : q_56 ∉ L (cd 1) := fun z => by have h8 := hel1 q_56 z; rw [hz_56] at h8; exact absurd h8 (by decide)
      have hl9 : (L (cd 9)).length ≤ 120 := Nat.le_trans (q_l9 hs) hs.2.2.1.2.1
      have hok := hs1.1
      have hop1 : R_3 61 (cd 4) = R 61 (cd 4) := by rw [eR1, m_up2_ni _ _ (by decide)]
      have hop2 := hop1.trans hop
      refine m_ci (va_runV (As := [.ref q_56]) (rest := []) ⟨hx, hb, hml, hown, hts⟩ (c_X8_enter_n l hs1.1 (q_el1 hs1) (q_el9 hs1) hk_56 hs.2.2.1.2.1 hl9 hop2 (q_el5 hs1) hs.2.2.2.2.1.2.1) (cwV 1 hts gX8_plant_X8_enter rfl rfl rfl (by decide +kernel) ⟨Nat.le_of_ble_eq_true rfl, Nat.le_of_ble_eq_true rfl⟩) ⟨m_blind m_B_calling, m_recv hw (m_ent_9 hok.1) rfl, fun U hU hW => ⟨rfl, m_wo_call hw hU hW⟩⟩ rfl rfl hl.1 rfl (lv_room (Nat.le_of_ble_eq_true rfl)) dX8_plant_76 ⟨Nat.le_of_ble_eq_true rfl, Nat.le_of_ble_eq_true rfl⟩) hw (fun r_76 u_76 H locs hp_76 hw => ?_)
      obtain ⟨K_4, I_5, R_6, N_7, L_8⟩ := u_76
      have hw : m_wo G K_4 I_5 R_6 F A N_7 L_8 T J D s H locs := hw
      dsimp only at hp_76
      have hcE1 : ∀ (f b : Nat), (f = 62 ∧ b = cd 4) → f < 1000 := fun f b z => by omega
      have hcE2 : ∀ (f b : Nat), ((f = 15 ∧ b = q_56) ∨ (f = 61 ∧ b = cd 4)) → f < 1000 := fun f b z => by omega
      obtain ⟨hr9, sg, fl, hnw, hsf, hc9, ks9, kf9, e51, e111, e50, e62, e15, e61, hen⟩ := hp_76
      have hok2 := c_ok_chg hs1.1 hc9 (fun f b z => by rcases z with ⟨z, -⟩ | ⟨z, -⟩ <;> rw [z] <;> rfl)
      have hss := q_enter_n (shp := (nI i)) hs1 hk_56 hnq hlt i10 i11 i12 i13 i16 r14 (Or.inr (by rw [nI_clamp hi31]; exact hi)) r15 hpl hop2 hl20 h4 hnw hc9 ks9 kf9 e51 e111 e50 e62 e15 e61 hen (m_cap_le hw hok2.2.2.2.2.2.2.2.2.2.2.2.2.2.2.2.2.2.2.1 hok2.2.2.2.2.2.2.2.2.2.2.2.2.2.2.2.2.2.2.2.2.2.2.2.2.2.2.2.2.2.2.2.2.2.2.2.2.2.2.1)
      obtain rfl : r_76 = Z 1 := hr9.trans (i10.trans hs.2.2.1.1.symm)
      have hfr9 : c_fr K I R N A K_4 I_5 R_6 N_7 A := c_fr_tr hfrP (c_fr_tr (c_fr_nw hz_56 (fun f b hb => by rw [eI1, m_up2_ne _ _ hb, m_up2_ne _ _ hb, m_up2_ne _ _ hb, m_up2_ne _ _ hb]) (fun f b hb => by rw [eR1, m_up2_ne _ _ hb])) (c_fr_c hc9 hcE1 hcE2))
      refine vx_ret ?_
      exact W.iret (v := (Z 1)) hx hb hr (fun t ht hW => ⟨⟨(Z 1), (K_4, I_5, R_6, N_7, L_8), rfl, ⟨htz, rfl, by unfold p_plant; rw [nI_clamp hi31, ← eMP]; exact hss, hfr9⟩, m_wo_out hw ht hW.alike⟩, m_wo_F hw ht⟩) (m_wo_L hw) dX8_plant_79
    · skip
      obtain ⟨fl, hksg, hfl, hkf, hrf, helf, h9l, hncd⟩ := q_op9 hs hop h9
      refine lv_aload_n hx hb dX8_plant_45 rfl (lv_at hl 1 rfl) ?_
      refine m_xv (vx_runV (As := []) (rest := []) ⟨hx, hb, hml, hown, hts⟩ (c_X8_requireRoomForFind_o l hnt hok hel5 hop hksg hfl hkf) (cwV 0 hts gX8_plant_X8_requireRoomForFind rfl rfl rfl (by decide +kernel) ⟨Nat.le_of_ble_eq_true rfl, Nat.le_of_ble_eq_true rfl⟩) ⟨m_blind (fun U g mk a h => ⟨m_B_calling U g mk a h.1, c_str_calling U g mk a h.2⟩), m_recv hw (m_ent_9 hok.1) rfl, fun U hU hW => ⟨rfl, m_wo_call hw hU hW, c_str_warm hW hcs⟩⟩ rfl rfl hl.1 rfl (lv_room (Nat.le_of_ble_eq_true rfl)) dX8_plant_46 ⟨Nat.le_of_ble_eq_true rfl, Nat.le_of_ble_eq_true rfl⟩) hw (fun E_ ce_ q9_ u_46x H locs hpx hw hce hcv hcl => ?_) (fun u_46 H locs hp_46 hw => ?_)
      · skip
        obtain ⟨hpx, rfl⟩ := hpx
        exact vx_out (fun x hx9 => absurd (hxt x hx9) id) hlocks hce hcv hcl (fun t ht9 hA9 => ⟨(), (by rw [(q_pl4 hv hvj (q_wr.mpr ⟨hr1, hr2⟩) hpu (fun z => hpx ((q_rm_o hs hop h9l).mpr z)))]; decide), ⟨(by rw [(q_pl4 hv hvj (q_wr.mpr ⟨hr1, hr2⟩) hpu (fun z => hpx ((q_rm_o hs hop h9l).mpr z)))]; rfl), m_wo_out hw ht9 hA9⟩, m_wo_F hw ht9⟩) (m_wo_L hw) (Nat.le_of_ble_eq_true rfl) (Nat.le_of_ble_eq_true rfl)
      have hrm := (q_rm_o hs hop h9l).mp hp_46
      have hlt := hp_46.1
      have htz : t_plant Z M (nI i) wd (nI j9) pl = 0 := q_pl0 hv hvj (q_wr.mpr ⟨hr1, hr2⟩) hpu hrm
      obtain ⟨p9, hp9, hp99⟩ := o_rng_nat (q_rngs.mpr hr2) (n := 40) rfl (by decide)
      have hpl : ∃ p, p < 41 ∧ pl = nI p := ⟨p9, by omega, hp99⟩
      refine lv_aload hx hb dX8_plant_49 (lv_at hl 0 rfl) ?_
      refine lv_iconst (v := 5) hx hb dX8_plant_51 (by decide) ?_
      refine m_cv (va_runV (As := [.int 5]) (rest := []) ⟨hx, hb, hml, hown, hts⟩ (c_X6_pay l hka) (cwV 1 hts gX8_plant_X6_pay rfl rfl rfl (by decide +kernel) ⟨Nat.le_of_ble_eq_true rfl, Nat.le_of_ble_eq_true rfl⟩) ⟨m_blind m_B_calling, m_recv hw (m_ent_7 hka) rfl, fun U hU hW => ⟨rfl, m_wo_call hw hU hW⟩⟩ rfl rfl hl.1 rfl (lv_room (Nat.le_of_ble_eq_true rfl)) dX8_plant_52 ⟨Nat.le_of_ble_eq_true rfl, Nat.le_of_ble_eq_true rfl⟩) hw (fun u_52 H locs hp_52 hw => ?_)
      have hw : m_wo G K u_52 R F A N L T J D s H locs := hw
      have eIP := hp_52
      rw [h72, if_neg (by rw [nI_clamp hi31] at hpu; exact hpu)] at eIP
      obtain ⟨MP, eMP⟩ : ∃ z : Nat → Nat → Int32, z = m1 M 19 i (M 19 i - 5) := ⟨_, rfl⟩
      have hsP : c_sim K u_52 R N A L T o cd Z MP := by rw [eIP, eMP]; exact q_purse hs ha
      have hfrP : c_fr K I R N A K u_52 R N A := c_fr_I (fun f b h => by rw [eIP]; exact m_up2_ni _ _ (by omega))
      have h9P : ¬ Z 5 = -1 → o_size Z MP (Z 5) ≤ 9 := fun z => by have h := h9 z; rw [eMP]; unfold o_size at h ⊢; rw [m1_n _ _ (by decide)]; exact h
      refine lv_aload_n hx hb dX8_plant_55 rfl (lv_at hl 1 rfl) ?_
      refine m_new_1 hx hb hts (by decide +kernel) hown (hts (.classLink RX8 95 "Pirateindex$Find") (by decide +kernel)) (hts (.instantiable RX0 7) (by decide +kernel)) (hts (.initialized RX0) (by decide +kernel)) hw (Nat.le_of_ble_eq_true rfl) (Nat.le_of_ble_eq_true rfl) dX8_plant_56 (fun q_56 H hz_56 hd_56 hw => ?_)
      have hk_56 : m_up K q_56 1 q_56 = 1 := m_up_self _ _ _
      have hcn : c_chg K u_52 R N (m_up K q_56 1) u_52 R N c_no c_no := c_chg_new (n := 0) hz_56
      have hok := c_ok_chg hok0 hcn (fun _ _ h => absurd h id)
      refine lv_dup hx hb dX8_plant_59 rfl ?_
      refine lv_aload_n hx hb dX8_plant_60 rfl (lv_at hl 1 rfl) ?_
      refine g_9_1 (r := some (cd 1)) hx hb hts (by decide +kernel) hown hw hok.1 (hts (.fieldLink RX8 16 "Pirateindex" "log" "Ljava/util/ArrayList;") (by decide +kernel)) hok.2.2.1 dX8_plant_61 ?_
      refine m_ci (va_runV (As := []) (rest := [.ref q_56, .ref q_56, .ref o]) ⟨hx, hb, hml, hown, hts⟩ (c_Jx4a65c_size_8abf5 l hok.2.2.2.2.2.2.2.2.2.2.2.1) (cwV 0 hts gX8_plant_Jx4a65c_size_8abf5 rfl rfl rfl (by decide +kernel) ⟨Nat.le_of_ble_eq_true rfl, Nat.le_of_ble_eq_true rfl⟩) ⟨m_blind m_B_calling, m_recv hw (m_ent_11 hok.2.2.2.2.2.2.2.2.2.2.2.1) rfl, fun U hU hW => ⟨rfl, m_wo_call hw hU hW⟩⟩ rfl rfl hl.1 rfl (lv_room (Nat.le_of_ble_eq_true rfl)) dX8_plant_64 ⟨Nat.le_of_ble_eq_true rfl, Nat.le_of_ble_eq_true rfl⟩) hw (fun r_64 u_64 H locs hp_64 hw => ?_)
      obtain rfl : r_64 = (nI (L (cd 1)).length) := hp_64
      refine lv_iload_n hx hb dX8_plant_67 rfl (lv_at hl 3 rfl) ?_
      refine lv_iload_n hx hb dX8_plant_68 rfl (lv_at hl 4 rfl) ?_
      refine lv_iload hx hb dX8_plant_69 (lv_at hl 5 rfl) ?_
      refine lv_aload hx hb dX8_plant_71 (lv_at hl 0 rfl) ?_
      refine m_cv (va_runI (As := [.int (nI (L (cd 1)).length), .int wd, .int (nI j9), .int pl, .ref ai]) (rest := [.ref q_56, .ref o]) ⟨hx, hb, hml, hown, hts⟩ (c_X0_init l hk_56) (cwI 5 hts gX8_plant_X0_init rfl rfl rfl (hts (.initialized RX0) (by decide +kernel)) (hts (.methodLink RX8 97 yX0_init) (by decide +kernel)) (hts (.instanceMethod yX0_init) (by decide +kernel)) rfl (by decide +kernel) ⟨Nat.le_of_ble_eq_true rfl, Nat.le_of_ble_eq_true rfl⟩) ⟨m_blind m_B_calling, fun U hU hW => ⟨rfl, m_wo_call hw hU hW⟩⟩ rfl rfl hl.1 rfl (lv_room (Nat.le_of_ble_eq_true rfl)) dX8_plant_73 ⟨Nat.le_of_ble_eq_true rfl, Nat.le_of_ble_eq_true rfl⟩) hw (fun u_73 H locs hp_73 hw => ?_)
      obtain ⟨I_10, R_11⟩ := u_73
      have hw : m_wo G (m_up K q_56 1) I_10 R_11 F A N L T J D s H locs := hw
      dsimp only at hp_73
      obtain ⟨eI1, eR1⟩ := hp_73
      have hs1 : c_sim (m_up K q_56 1) I_10 R_11 N A L T o cd Z MP := q_newf hsP hz_56 (fun f b hb => by rw [eI1, m_up2_ne _ _ hb, m_up2_ne _ _ hb, m_up2_ne _ _ hb, m_up2_ne _ _ hb]) (fun f b hb => by rw [eR1, m_up2_ne _ _ hb])
      have i10 : I_10 10 q_56 = nI (L (cd 1)).length := by rw [eI1, m_up2_ni _ _ (by decide), m_up2_ni _ _ (by decide), m_up2_ni _ _ (by decide), m_up2_self]
      have i11 : I_10 11 q_56 = wd := by rw [eI1, m_up2_ni _ _ (by decide), m_up2_ni _ _ (by decide), m_up2_self]
      have i12 : I_10 12 q_56 = (nI j9) := by rw [eI1, m_up2_ni _ _ (by decide), m_up2_self]
      have i13 : I_10 13 q_56 = pl := by rw [eI1, m_up2_self]
      have i16 : I_10 16 q_56 = 0 := by rw [eI1, m_up2_ni _ _ (by decide), m_up2_ni _ _ (by decide), m_up2_ni _ _ (by decide), m_up2_ni _ _ (by decide)]; exact hd_56.1 16
      have r14 : R_11 14 q_56 = if (nI i) = -1 then none else (L (cd 5))[(nI i).toNatClampNeg]? := by rw [eR1, m_up2_self]; rw [if_neg (nI_nm1 hi31), nI_clamp hi31]; exact ha.symm
      have r15 : R_11 15 q_56 = none := by rw [eR1, m_up2_ni _ _ (by decide)]; exact hd_56.2.1 15
      have hnq : q_56 ∉ L (cd 1) := fun z => by have h8 := hel1 q_56 z; rw [hz_56] at h8; exact absurd h8 (by decide)
      have hl9 : (L (cd 9)).length ≤ 120 := Nat.le_trans (q_l9 hs) hs.2.2.1.2.1
      have hok := hs1.1
      have hop1 : R_11 61 (cd 4) = R 61 (cd 4) := by rw [eR1, m_up2_ni _ _ (by decide)]
      have hop2 := hop1.trans hop
      obtain ⟨fl1, ksg1, hfl1, hkf1, hrf1, helf1, h9l1, hncd1⟩ := q_op9 hs1 hop2 h9P
      refine m_ci (va_runV (As := [.ref q_56]) (rest := []) ⟨hx, hb, hml, hown, hts⟩ (c_X8_enter_o l hs1.1 (q_el1 hs1) (q_el9 hs1) hk_56 hs.2.2.1.2.1 hl9 hop2 ksg1 hfl1 hkf1 hrf1 helf1 (by omega) (hncd1 9 (by decide)) (hncd1 1 (by decide))) (cwV 1 hts gX8_plant_X8_enter rfl rfl rfl (by decide +kernel) ⟨Nat.le_of_ble_eq_true rfl, Nat.le_of_ble_eq_true rfl⟩) ⟨m_blind m_B_calling, m_recv hw (m_ent_9 hok.1) rfl, fun U hU hW => ⟨rfl, m_wo_call hw hU hW⟩⟩ rfl rfl hl.1 rfl (lv_room (Nat.le_of_ble_eq_true rfl)) dX8_plant_76 ⟨Nat.le_of_ble_eq_true rfl, Nat.le_of_ble_eq_true rfl⟩) hw (fun r_76 u_76 H locs hp_76 hw => ?_)
      obtain ⟨K_12, I_13, R_14, N_15, L_16⟩ := u_76
      have hw : m_wo G K_12 I_13 R_14 F A N_15 L_16 T J D s H locs := hw
      dsimp only at hp_76
      have hcE1 : ∀ (f b : Nat), c_no f b → f < 1000 := fun _ _ z => absurd z id
      have hcE2 : ∀ (f b : Nat), ((f = 15 ∧ b = q_56) ∨ (f = 61 ∧ b = cd 4)) → f < 1000 := fun f b z => by omega
      obtain ⟨hr9, hc9, e15, e61, hen⟩ := hp_76
      have hok2 := c_ok_chg hs1.1 hc9 (fun f b z => by rcases z with ⟨z, -⟩ | ⟨z, -⟩ <;> rw [z] <;> rfl)
      have hss := q_enter_o (shp := (nI i)) hs1 hk_56 hnq hlt i10 i11 i12 i13 i16 r14 (Or.inr (by rw [nI_clamp hi31]; exact hi)) r15 hpl hop2 hfl1 h9l1 hncd1 hc9 e15 e61 hen (m_cap_le hw hok2.2.2.2.2.2.2.2.2.2.2.2.2.2.2.2.2.2.2.1 hok2.2.2.2.2.2.2.2.2.2.2.2.2.2.2.2.2.2.2.2.2.2.2.2.2.2.2.2.2.2.2.2.2.2.2.2.2.2.2.1)
      obtain rfl : r_76 = Z 1 := hr9.trans (i10.trans hs.2.2.1.1.symm)
      have hfr9 : c_fr K I R N A K_12 I_13 R_14 N_15 A := c_fr_tr hfrP (c_fr_tr (c_fr_nw hz_56 (fun f b hb => by rw [eI1, m_up2_ne _ _ hb, m_up2_ne _ _ hb, m_up2_ne _ _ hb, m_up2_ne _ _ hb]) (fun f b hb => by rw [eR1, m_up2_ne _ _ hb])) (c_fr_c hc9 hcE1 hcE2))
      refine vx_ret ?_
      exact W.iret (v := (Z 1)) hx hb hr (fun t ht hW => ⟨⟨(Z 1), (K_12, I_13, R_14, N_15, L_16), rfl, ⟨htz, rfl, by unfold p_plant; rw [nI_clamp hi31, ← eMP]; exact hss, hfr9⟩, m_wo_out hw ht hW.alike⟩, m_wo_F hw ht⟩) (m_wo_L hw) dX8_plant_79
  · skip
    have htz : t_plant Z M (nI i) wd (nI j9) pl = 3 := q_pl3 hv hvj (q_wr.mpr ⟨hr1, hr2⟩) (by rw [nI_clamp hi31]; exact Int32.not_le.mp c_32)
    obtain ⟨sa, hsa⟩ := hcs.1 (130, "too few coins") (by decide)
    refine vx_throwS (names := ["java/lang/RuntimeException", "java/lang/Exception"]) hx hb hnt hown (by decide) (by decide) (hts (.classLink RX8 128 "java/lang/UnsupportedOperationException") (by decide +kernel)) (hts (.initialized "java/lang/UnsupportedOperationException") (by decide +kernel)) hsa (vx_hat (B := .castable "java/lang/UnsupportedOperationException" "java/lang/UnsupportedOperationException" :: [.declares (Bundle.initS "java/lang/RuntimeException"), .declares (Bundle.initS "java/lang/Exception"), .declares (Bundle.initS Bundle.tN)]) (fun w h => hts w ((by decide +kernel : ∀ w ∈ (vx_atS RX8 132 "java/lang/UnsupportedOperationException" ["java/lang/RuntimeException", "java/lang/Exception"]).filter goodWord, w ∈ wsX8_plant) w h)) (by decide +kernel) (vx_c (m_wo_cas hw (by decide)) (c_str_dc hcs))) (by decide +kernel) hw.2.1.1 hw.2.1.2.1 hw.2.2.2.1 (hl.1.trans hml.symm) dX8_plant_35 dX8_plant_38 dX8_plant_39 dX8_plant_41 dX8_plant_44 (fun x hx9 => absurd (hxt x hx9) id) (Nat.le_of_ble_eq_true rfl) (Nat.le_of_ble_eq_true rfl) (Nat.le_of_ble_eq_true rfl) (Nat.le_of_ble_eq_true rfl) hlocks (fun t hA9 hs9 hq9 => ⟨(), (by rw [htz]; decide), ⟨(by rw [htz]; rfl), m_wo_up hw hA9 hs9 hq9⟩, m_wo_uF hw hs9 hq9⟩) (m_wo_L hw) (Nat.le_of_ble_eq_true rfl) (Nat.le_of_ble_eq_true rfl)
