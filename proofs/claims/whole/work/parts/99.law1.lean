abbrev mE : Type := (Nat → Nat) × (Nat → Nat → Int32) × (Nat → Nat → Option Nat) × (Nat → UInt32) × (Nat → Nat → Int32) × (Nat → Nat) × (Nat → List Nat) × (Nat → List Int32) × (Nat → Nat → Int64) × (Nat → Nat → UInt64)
/-- what a helper of the law tells -/
abbrev h_ps (K : Nat → Nat) (I : Nat → Nat → Int32) (R : Nat → Nat → Option Nat) (N : Nat → Nat) (A : Nat → Nat → Int32) (x : Nat) (cd : Nat → Nat) (S : mS) (t : Int32) (q : mE → Prop) (r : Int32) (u : mE) : Prop :=
  r = t ∧ (t = 0 → q u) ∧ c_sim u.1 u.2.1 u.2.2.1 u.2.2.2.2.2.1 u.2.2.2.2.1 u.2.2.2.2.2.2.1 u.2.2.2.2.2.2.2.1 x cd S.1 S.2 ∧ c_fr K I R N A u.1 u.2.1 u.2.2.1 u.2.2.2.2.2.1 u.2.2.2.2.1
theorem h_in {n : Nat} (h : n = 1) : vp_in 0 n := by rw [h]; unfold vp_in; decide
theorem h_J {J : Nat → Nat → Int64} {ao : Nat} {v : Int64} : m_up J ao (vp_updL (J ao) (0 : Int32).toNatClampNeg v) ao 0 = v := by rw [m_up_self]; exact if_pos rfl
theorem h_D {D : Nat → Nat → UInt64} {ao : Nat} {v : UInt64} : m_up D ao (vf_upd (D ao) (0 : Int32).toNatClampNeg v) ao 0 = v := by rw [m_up_self]; exact if_pos rfl
theorem h_tb (b : Bool) : t_b b = 0 ∨ t_b b = 1 := by cases b <;> decide
theorem h_tt (b : Bool) (Z : mZ) : t_typed b Z = 0 ∨ t_typed b Z = 1 ∨ t_typed b Z = 2 := by unfold t_typed; (repeat' split) <;> simp
set_option maxHeartbeats 1600000 in
set_option maxRecDepth 100000 in
theorem c_L_island (l : Launch) {G : mG} {K : Nat → Nat} {I : Nat → Nat → Int32} {R : Nat → Nat → Option Nat} {F : Nat → UInt32} {A : Nat → Nat → Int32} {N : Nat → Nat} {L : Nat → List Nat} {T : Nat → List Int32} {J : Nat → Nat → Int64} {D : Nat → Nat → UInt64} {x ao : Nat} {cd : Nat → Nat} {Z : Nat → Int32} {M : Nat → Nat → Int32} {xx yy tr : Int32} (hnt : l.stackTraces = false) (hs : c_sim K I R N A L T x cd Z M) (h10 : M 10 (L (cd 0)).length = 0) (hka : K ao = 35) (hna : N ao = 1) : Met l yL_island wsL_island ({ frames := 10, cells := 5, slots := 54, locals := 400 } : Room) (va_Pc [.ref x, .int xx, .int yy, .int tr, .ref ao] (fun U => m_B G K I R F A N L T J D U ∧ c_str U)) (va_Qi (h_ps K I R N A x cd (if t_island Z xx yy tr = 0 then p_island (Z, M) xx yy tr else (Z, M)) (t_island Z xx yy tr) (fun u => u.2.2.2.2.2.2.2.2.1 ao 0 = (Z 0).toInt64)) (fun u : mE => m_B G (u.1) (u.2.1) (u.2.2.1) (u.2.2.2.1) (u.2.2.2.2.1) (u.2.2.2.2.2.1) (u.2.2.2.2.2.2.1) (u.2.2.2.2.2.2.2.1) (u.2.2.2.2.2.2.2.2.1) (u.2.2.2.2.2.2.2.2.2)) (m_A G)) 5 54 (m_A G) := by
  refine va_MetW (by decide) rfl ?_
  intro p e s m args below meth c s₁ B hml hv
  obtain ⟨rfl, hB, hcs⟩ := hv
  have hx := B.exec
  have hb := B.bytes
  have hr := B.returns
  have hts := atoms_spec (ws := wsL_island) B.pre
  have hxt := vx_table (x := yL_island) B (hts (.codeWith yL_island cL_island 6 (some .int) [(0, 12, 15, 13), (0, 12, 19, 15)]) List.mem_cons_self)
  have hown : s.vm.findClass RL = some m.cls := findClass_of_methodNamed B.named
  have hlocks := B.notSynchronized
  have hw := m_wo_in hB
  have hl := lv_entry ([.ref x, .int xx, .int yy, .int tr, .ref ao]) (n := 6) (Nat.le_of_ble_eq_true rfl)
  rw [lg_entry_eq]
  generalize (lg_sl ([.ref x, .int xx, .int yy, .int tr, .ref ao]) ++ List.replicate (6 - (lg_sl ([.ref x, .int xx, .int yy, .int tr, .ref ao])).length) Slot.unset).toArray = ls at hl ⊢
  have hl : lv_has ls 6 [(0, .ref x), (1, .int xx), (2, .int yy), (3, .int tr), (4, .ref ao)] := hl
  refine lv_aload hx hb dL_island_0 (lv_at hl 4 rfl) ?_
  refine lv_iconst (v := 0) hx hb dL_island_2 (by decide) ?_
  refine lv_aload_n hx hb dL_island_3 rfl (lv_at hl 0 rfl) ?_
  refine lv_iload_n hx hb dL_island_4 rfl (lv_at hl 1 rfl) ?_
  refine lv_iload_n hx hb dL_island_5 rfl (lv_at hl 2 rfl) ?_
  refine lv_iload_n hx hb dL_island_6 rfl (lv_at hl 3 rfl) ?_
  refine m_xi (vx_runV (As := [.int xx, .int yy, .int tr]) (rest := [.int 0, .ref ao]) ⟨hx, hb, hml, hown, hts⟩ (c_X8_island l hnt hs h10) (cwV 3 hts gL_island_X8_island rfl rfl rfl (by decide +kernel) ⟨Nat.le_of_ble_eq_true rfl, Nat.le_of_ble_eq_true rfl⟩) ⟨m_blind (fun U g mk a h => ⟨m_B_calling U g mk a h.1, c_str_calling U g mk a h.2⟩), m_recv hw (m_ent_9 hs.1.1) rfl, fun U hU hW => ⟨rfl, m_wo_call hw hU hW, c_str_warm hW hcs⟩⟩ rfl rfl hl.1 rfl (lv_room (Nat.le_of_ble_eq_true rfl)) dL_island_7 ⟨Nat.le_of_ble_eq_true rfl, Nat.le_of_ble_eq_true rfl⟩) hw (fun E_ ce_ q9_ u_7x H locs hpx hw hce hcv hcl => ?_) (fun r_7 u_7 H locs hp_7 hw => ?_)
  · skip
    obtain ⟨hpx, hE⟩ := hpx
    have hsimx := hs
    have hfrx : c_fr K I R N A K I R N A := c_fr_rf
    have hv9 : (t_island Z xx yy tr) = 0 ∨ (t_island Z xx yy tr) = 1 ∨ (t_island Z xx yy tr) = 2 := (by unfold t_island; (repeat' split) <;> simp)
    rcases hv9 with c9_0 | c9_1 | c9_2
    · exact absurd c9_0 hpx
    · skip
      have hE : E_ = "java/lang/IllegalArgumentException" := hE.trans (by rw [if_pos c9_1])
      subst hE
      refine vx_catch (own := RL) (name := "java/lang/IllegalArgumentException") hown [] ⟨0, 12, 15, 13⟩ [⟨0, 12, 19, 15⟩] hxt (fun _ h => absurd h List.not_mem_nil) (by decide) (by decide) (hts (.classLink RL 13 "java/lang/IllegalArgumentException") (by decide +kernel)) (m_wo_cas hw (by decide)) hce hcv hcl ?_
      refine lv_astore (lv' := [(5, .ref q9_), (0, .ref x), (1, .int xx), (2, .int yy), (3, .int tr), (4, .ref ao)]) hx hb dL_island_15 hl (by decide) rfl (fun ls hl => ?_)
      refine lv_iconst (v := 1) hx hb dL_island_17 (by decide) ?_
      exact W.iret (v := 1) hx hb hr (fun t ht hW => ⟨⟨1, (K, I, R, F, A, N, L, T, J, D), rfl, ⟨c9_1.symm, fun z => absurd (c9_1.symm.trans z) (by decide), (by rw [if_neg hpx]; exact hsimx), hfrx⟩, m_wo_out hw ht hW.alike⟩, m_wo_F hw ht⟩) (m_wo_L hw) dL_island_18
    · skip
      have hE : E_ = "java/lang/IllegalStateException" := hE.trans (by rw [if_neg (fun z => absurd (c9_2.symm.trans z) (by decide))])
      subst hE
      refine vx_catch (own := RL) (name := "java/lang/IllegalStateException") hown [⟨0, 12, 15, 13⟩] ⟨0, 12, 19, 15⟩ [] hxt (List.forall_mem_cons.mpr ⟨Or.inr ⟨(by decide : (13 : Nat) ≠ 0), "java/lang/IllegalArgumentException", hts (.classLink RL 13 "java/lang/IllegalArgumentException") (by decide +kernel), hw.2.1.2.2.2.2.2.1 ("java/lang/IllegalStateException", "java/lang/IllegalArgumentException") (by decide)⟩, (fun _ h => absurd h List.not_mem_nil)⟩) (by decide) (by decide) (hts (.classLink RL 15 "java/lang/IllegalStateException") (by decide +kernel)) (m_wo_cas hw (by decide)) hce hcv hcl ?_
      refine lv_astore (lv' := [(5, .ref q9_), (0, .ref x), (1, .int xx), (2, .int yy), (3, .int tr), (4, .ref ao)]) hx hb dL_island_19 hl (by decide) rfl (fun ls hl => ?_)
      refine lv_iconst (v := 2) hx hb dL_island_21 (by decide) ?_
      exact W.iret (v := 2) hx hb hr (fun t ht hW => ⟨⟨2, (K, I, R, F, A, N, L, T, J, D), rfl, ⟨c9_2.symm, fun z => absurd (c9_2.symm.trans z) (by decide), (by rw [if_neg hpx]; exact hsimx), hfrx⟩, m_wo_out hw ht hW.alike⟩, m_wo_F hw ht⟩) (m_wo_L hw) dL_island_22
  obtain ⟨K_1, I_2, R_3, N_4, L_5⟩ := u_7
  have hw : m_wo G K_1 I_2 R_3 F A N_4 L_5 T J D s H locs := hw
  dsimp only at hp_7
  obtain ⟨ht0, rfl, hsim, hfr⟩ := hp_7
  have hka1 : K_1 ao = 35 := (hfr ao (by rw [hka]; simp [c_oth])).1.trans hka
  have hin1 : vp_in 0 (N_4 ao) := h_in ((hfr ao (by rw [hka]; simp [c_oth])).2.1.trans hna)
  refine lv_i2l (v := ((Z 0)).toInt64) hx hb dL_island_10 rfl ?_
  refine m_lastore_35 hx hb hw hka1 hin1  dL_island_11 (fun H locs hw => ?_)
  refine lv_goto (tgt := 23) hx hb dL_island_12 (by decide) ?_
  refine lv_iconst (v := 0) hx hb dL_island_23 (by decide) ?_
  exact W.iret (v := 0) hx hb hr (fun t ht hW => ⟨⟨0, (K_1, I_2, R_3, F, A, N_4, L_5, T, m_up J ao (vp_updL (J ao) (0 : Int32).toNatClampNeg (((Z 0)).toInt64)), D), rfl, ⟨ht0.symm, fun _ => h_J, (by rw [if_pos ht0]; exact hsim), hfr⟩, m_wo_out hw ht hW.alike⟩, m_wo_F hw ht⟩) (m_wo_L hw) dL_island_24
set_option maxHeartbeats 1600000 in
set_option maxRecDepth 100000 in
theorem c_L_find (l : Launch) {G : mG} {K : Nat → Nat} {I : Nat → Nat → Int32} {R : Nat → Nat → Option Nat} {F : Nat → UInt32} {A : Nat → Nat → Int32} {N : Nat → Nat} {L : Nat → List Nat} {T : Nat → List Int32} {J : Nat → Nat → Int64} {D : Nat → Nat → UInt64} {x ao : Nat} {cd : Nat → Nat} {Z : Nat → Int32} {M : Nat → Nat → Int32} {wd isl pl : Int32} (hnt : l.stackTraces = false) (hs : c_sim K I R N A L T x cd Z M) (h9 : ¬ Z 5 = -1 → o_size Z M (Z 5) ≤ 9) (h4 : ∃ m, Z 4 = nI m ∧ m + 1 < 2 ^ 30) (hka : K ao = 35) (hna : N ao = 1) : Met l yL_find wsL_find ({ frames := 17, cells := 11, slots := 595, locals := 720 } : Room) (va_Pc [.ref x, .int wd, .int isl, .int pl, .ref ao] (fun U => m_B G K I R F A N L T J D U ∧ c_str U)) (va_Qi (h_ps K I R N A x cd (if t_find Z wd isl pl = 0 then o_comes (Z, M) wd isl pl (-1) else (Z, M)) (t_find Z wd isl pl) (fun u => u.2.2.2.2.2.2.2.2.1 ao 0 = (Z 1).toInt64)) (fun u : mE => m_B G (u.1) (u.2.1) (u.2.2.1) (u.2.2.2.1) (u.2.2.2.2.1) (u.2.2.2.2.2.1) (u.2.2.2.2.2.2.1) (u.2.2.2.2.2.2.2.1) (u.2.2.2.2.2.2.2.2.1) (u.2.2.2.2.2.2.2.2.2)) (m_A G)) 11 595 (m_A G) := by
  refine va_MetW (by decide) rfl ?_
  intro p e s m args below meth c s₁ B hml hv
  obtain ⟨rfl, hB, hcs⟩ := hv
  have hx := B.exec
  have hb := B.bytes
  have hr := B.returns
  have hts := atoms_spec (ws := wsL_find) B.pre
  have hxt := vx_table (x := yL_find) B (hts (.codeWith yL_find cL_find 6 (some .int) [(0, 12, 15, 20), (0, 12, 19, 13), (0, 12, 23, 15)]) List.mem_cons_self)
  have hown : s.vm.findClass RL = some m.cls := findClass_of_methodNamed B.named
  have hlocks := B.notSynchronized
  have hw := m_wo_in hB
  have hl := lv_entry ([.ref x, .int wd, .int isl, .int pl, .ref ao]) (n := 6) (Nat.le_of_ble_eq_true rfl)
  rw [lg_entry_eq]
  generalize (lg_sl ([.ref x, .int wd, .int isl, .int pl, .ref ao]) ++ List.replicate (6 - (lg_sl ([.ref x, .int wd, .int isl, .int pl, .ref ao])).length) Slot.unset).toArray = ls at hl ⊢
  have hl : lv_has ls 6 [(0, .ref x), (1, .int wd), (2, .int isl), (3, .int pl), (4, .ref ao)] := hl
  refine lv_aload hx hb dL_find_0 (lv_at hl 4 rfl) ?_
  refine lv_iconst (v := 0) hx hb dL_find_2 (by decide) ?_
  refine lv_aload_n hx hb dL_find_3 rfl (lv_at hl 0 rfl) ?_
  refine lv_iload_n hx hb dL_find_4 rfl (lv_at hl 1 rfl) ?_
  refine lv_iload_n hx hb dL_find_5 rfl (lv_at hl 2 rfl) ?_
  refine lv_iload_n hx hb dL_find_6 rfl (lv_at hl 3 rfl) ?_
  refine m_xi (vx_runV (As := [.int wd, .int isl, .int pl]) (rest := [.int 0, .ref ao]) ⟨hx, hb, hml, hown, hts⟩ (c_X8_find l hnt hs h9 h4) (cwV 3 hts gL_find_X8_find rfl rfl rfl (by decide +kernel) ⟨Nat.le_of_ble_eq_true rfl, Nat.le_of_ble_eq_true rfl⟩) ⟨m_blind (fun U g mk a h => ⟨m_B_calling U g mk a h.1, c_str_calling U g mk a h.2⟩), m_recv hw (m_ent_9 hs.1.1) rfl, fun U hU hW => ⟨rfl, m_wo_call hw hU hW, c_str_warm hW hcs⟩⟩ rfl rfl hl.1 rfl (lv_room (Nat.le_of_ble_eq_true rfl)) dL_find_7 ⟨Nat.le_of_ble_eq_true rfl, Nat.le_of_ble_eq_true rfl⟩) hw (fun E_ ce_ q9_ u_7x H locs hpx hw hce hcv hcl => ?_) (fun r_7 u_7 H locs hp_7 hw => ?_)
  · skip
    obtain ⟨hpx, hE⟩ := hpx
    have hsimx := hs
    have hfrx : c_fr K I R N A K I R N A := c_fr_rf
    have hv9 : (t_find Z wd isl pl) = 0 ∨ (t_find Z wd isl pl) = 1 ∨ (t_find Z wd isl pl) = 2 ∨ (t_find Z wd isl pl) = 3 := (by unfold t_find; (repeat' split) <;> simp)
    rcases hv9 with c9_0 | c9_1 | c9_2 | c9_3
    · exact absurd c9_0 hpx
    · skip
      have hE : E_ = "java/lang/IndexOutOfBoundsException" := hE.trans (by rw [if_pos c9_1])
      subst hE
      refine vx_catch (own := RL) (name := "java/lang/IndexOutOfBoundsException") hown [] ⟨0, 12, 15, 20⟩ [⟨0, 12, 19, 13⟩, ⟨0, 12, 23, 15⟩] hxt (fun _ h => absurd h List.not_mem_nil) (by decide) (by decide) (hts (.classLink RL 20 "java/lang/IndexOutOfBoundsException") (by decide +kernel)) (m_wo_cas hw (by decide)) hce hcv hcl ?_
      refine lv_astore (lv' := [(5, .ref q9_), (0, .ref x), (1, .int wd), (2, .int isl), (3, .int pl), (4, .ref ao)]) hx hb dL_find_15 hl (by decide) rfl (fun ls hl => ?_)
      refine lv_iconst (v := 1) hx hb dL_find_17 (by decide) ?_
      exact W.iret (v := 1) hx hb hr (fun t ht hW => ⟨⟨1, (K, I, R, F, A, N, L, T, J, D), rfl, ⟨c9_1.symm, fun z => absurd (c9_1.symm.trans z) (by decide), (by rw [if_neg hpx]; exact hsimx), hfrx⟩, m_wo_out hw ht hW.alike⟩, m_wo_F hw ht⟩) (m_wo_L hw) dL_find_18
    · skip
      have hE : E_ = "java/lang/IllegalArgumentException" := hE.trans (by rw [if_neg (fun z => absurd (c9_2.symm.trans z) (by decide)), if_pos c9_2])
      subst hE
      refine vx_catch (own := RL) (name := "java/lang/IllegalArgumentException") hown [⟨0, 12, 15, 20⟩] ⟨0, 12, 19, 13⟩ [⟨0, 12, 23, 15⟩] hxt (List.forall_mem_cons.mpr ⟨Or.inr ⟨(by decide : (20 : Nat) ≠ 0), "java/lang/IndexOutOfBoundsException", hts (.classLink RL 20 "java/lang/IndexOutOfBoundsException") (by decide +kernel), hw.2.1.2.2.2.2.2.1 ("java/lang/IllegalArgumentException", "java/lang/IndexOutOfBoundsException") (by decide)⟩, (fun _ h => absurd h List.not_mem_nil)⟩) (by decide) (by decide) (hts (.classLink RL 13 "java/lang/IllegalArgumentException") (by decide +kernel)) (m_wo_cas hw (by decide)) hce hcv hcl ?_
      refine lv_astore (lv' := [(5, .ref q9_), (0, .ref x), (1, .int wd), (2, .int isl), (3, .int pl), (4, .ref ao)]) hx hb dL_find_19 hl (by decide) rfl (fun ls hl => ?_)
      refine lv_iconst (v := 2) hx hb dL_find_21 (by decide) ?_
      exact W.iret (v := 2) hx hb hr (fun t ht hW => ⟨⟨2, (K, I, R, F, A, N, L, T, J, D), rfl, ⟨c9_2.symm, fun z => absurd (c9_2.symm.trans z) (by decide), (by rw [if_neg hpx]; exact hsimx), hfrx⟩, m_wo_out hw ht hW.alike⟩, m_wo_F hw ht⟩) (m_wo_L hw) dL_find_22
    · skip
      have hE : E_ = "java/lang/IllegalStateException" := hE.trans (by rw [if_neg (fun z => absurd (c9_3.symm.trans z) (by decide)), if_neg (fun z => absurd (c9_3.symm.trans z) (by decide))])
      subst hE
      refine vx_catch (own := RL) (name := "java/lang/IllegalStateException") hown [⟨0, 12, 15, 20⟩, ⟨0, 12, 19, 13⟩] ⟨0, 12, 23, 15⟩ [] hxt (List.forall_mem_cons.mpr ⟨Or.inr ⟨(by decide : (20 : Nat) ≠ 0), "java/lang/IndexOutOfBoundsException", hts (.classLink RL 20 "java/lang/IndexOutOfBoundsException") (by decide +kernel), hw.2.1.2.2.2.2.2.1 ("java/lang/IllegalStateException", "java/lang/IndexOutOfBoundsException") (by decide)⟩, (List.forall_mem_cons.mpr ⟨Or.inr ⟨(by decide : (13 : Nat) ≠ 0), "java/lang/IllegalArgumentException", hts (.classLink RL 13 "java/lang/IllegalArgumentException") (by decide +kernel), hw.2.1.2.2.2.2.2.1 ("java/lang/IllegalStateException", "java/lang/IllegalArgumentException") (by decide)⟩, (fun _ h => absurd h List.not_mem_nil)⟩)⟩) (by decide) (by decide) (hts (.classLink RL 15 "java/lang/IllegalStateException") (by decide +kernel)) (m_wo_cas hw (by decide)) hce hcv hcl ?_
      refine lv_astore (lv' := [(5, .ref q9_), (0, .ref x), (1, .int wd), (2, .int isl), (3, .int pl), (4, .ref ao)]) hx hb dL_find_23 hl (by decide) rfl (fun ls hl => ?_)
      refine lv_iconst (v := 3) hx hb dL_find_25 (by decide) ?_
      exact W.iret (v := 3) hx hb hr (fun t ht hW => ⟨⟨3, (K, I, R, F, A, N, L, T, J, D), rfl, ⟨c9_3.symm, fun z => absurd (c9_3.symm.trans z) (by decide), (by rw [if_neg hpx]; exact hsimx), hfrx⟩, m_wo_out hw ht hW.alike⟩, m_wo_F hw ht⟩) (m_wo_L hw) dL_find_26
  obtain ⟨K_1, I_2, R_3, N_4, L_5⟩ := u_7
  have hw : m_wo G K_1 I_2 R_3 F A N_4 L_5 T J D s H locs := hw
  dsimp only at hp_7
  obtain ⟨ht0, rfl, hsim, hfr⟩ := hp_7
  have hka1 : K_1 ao = 35 := (hfr ao (by rw [hka]; simp [c_oth])).1.trans hka
  have hin1 : vp_in 0 (N_4 ao) := h_in ((hfr ao (by rw [hka]; simp [c_oth])).2.1.trans hna)
  refine lv_i2l (v := ((Z 1)).toInt64) hx hb dL_find_10 rfl ?_
  refine m_lastore_35 hx hb hw hka1 hin1  dL_find_11 (fun H locs hw => ?_)
  refine lv_goto (tgt := 27) hx hb dL_find_12 (by decide) ?_
  refine lv_iconst (v := 0) hx hb dL_find_27 (by decide) ?_
  exact W.iret (v := 0) hx hb hr (fun t ht hW => ⟨⟨0, (K_1, I_2, R_3, F, A, N_4, L_5, T, m_up J ao (vp_updL (J ao) (0 : Int32).toNatClampNeg (((Z 1)).toInt64)), D), rfl, ⟨ht0.symm, fun _ => h_J, (by rw [if_pos ht0]; exact hsim), hfr⟩, m_wo_out hw ht hW.alike⟩, m_wo_F hw ht⟩) (m_wo_L hw) dL_find_28
set_option maxHeartbeats 1600000 in
set_option maxRecDepth 100000 in
theorem c_L_ship (l : Launch) {G : mG} {K : Nat → Nat} {I : Nat → Nat → Int32} {R : Nat → Nat → Option Nat} {F : Nat → UInt32} {A : Nat → Nat → Int32} {N : Nat → Nat} {L : Nat → List Nat} {T : Nat → List Int32} {J : Nat → Nat → Int64} {D : Nat → Nat → UInt64} {x ao : Nat} {cd : Nat → Nat} {Z : Nat → Int32} {M : Nat → Nat → Int32}  (hnt : l.stackTraces = false) (hs : c_sim K I R N A L T x cd Z M) (hka : K ao = 35) (hna : N ao = 1) : Met l yL_ship wsL_ship ({ frames := 10, cells := 5, slots := 48, locals := 440 } : Room) (va_Pc [.ref x, .ref ao] (fun U => m_B G K I R F A N L T J D U ∧ c_str U)) (va_Qi (h_ps K I R N A x cd (if t_ship Z = 0 then p_ship (Z, M) else (Z, M)) (t_ship Z) (fun u => u.2.2.2.2.2.2.2.2.1 ao 0 = (Z 2).toInt64)) (fun u : mE => m_B G (u.1) (u.2.1) (u.2.2.1) (u.2.2.2.1) (u.2.2.2.2.1) (u.2.2.2.2.2.1) (u.2.2.2.2.2.2.1) (u.2.2.2.2.2.2.2.1) (u.2.2.2.2.2.2.2.2.1) (u.2.2.2.2.2.2.2.2.2)) (m_A G)) 5 48 (m_A G) := by
  refine va_MetW (by decide) rfl ?_
  intro p e s m args below meth c s₁ B hml hv
  obtain ⟨rfl, hB, hcs⟩ := hv
  have hx := B.exec
  have hb := B.bytes
  have hr := B.returns
  have hts := atoms_spec (ws := wsL_ship) B.pre
  have hxt := vx_table (x := yL_ship) B (hts (.codeWith yL_ship cL_ship 3 (some .int) [(0, 8, 11, 15)]) List.mem_cons_self)
  have hown : s.vm.findClass RL = some m.cls := findClass_of_methodNamed B.named
  have hlocks := B.notSynchronized
  have hw := m_wo_in hB
  have hl := lv_entry ([.ref x, .ref ao]) (n := 3) (Nat.le_of_ble_eq_true rfl)
  rw [lg_entry_eq]
  generalize (lg_sl ([.ref x, .ref ao]) ++ List.replicate (3 - (lg_sl ([.ref x, .ref ao])).length) Slot.unset).toArray = ls at hl ⊢
  have hl : lv_has ls 3 [(0, .ref x), (1, .ref ao)] := hl
  refine lv_aload_n hx hb dL_ship_0 rfl (lv_at hl 1 rfl) ?_
  refine lv_iconst (v := 0) hx hb dL_ship_1 (by decide) ?_
  refine lv_aload_n hx hb dL_ship_2 rfl (lv_at hl 0 rfl) ?_
  refine m_xi (vx_runV (As := []) (rest := [.int 0, .ref ao]) ⟨hx, hb, hml, hown, hts⟩ (c_X8_ship l hnt hs) (cwV 0 hts gL_ship_X8_ship rfl rfl rfl (by decide +kernel) ⟨Nat.le_of_ble_eq_true rfl, Nat.le_of_ble_eq_true rfl⟩) ⟨m_blind (fun U g mk a h => ⟨m_B_calling U g mk a h.1, c_str_calling U g mk a h.2⟩), m_recv hw (m_ent_9 hs.1.1) rfl, fun U hU hW => ⟨rfl, m_wo_call hw hU hW, c_str_warm hW hcs⟩⟩ rfl rfl hl.1 rfl (lv_room (Nat.le_of_ble_eq_true rfl)) dL_ship_3 ⟨Nat.le_of_ble_eq_true rfl, Nat.le_of_ble_eq_true rfl⟩) hw (fun E_ ce_ q9_ u_3x H locs hpx hw hce hcv hcl => ?_) (fun r_3 u_3 H locs hp_3 hw => ?_)
  · skip
    obtain ⟨hpx, hE⟩ := hpx
    have hsimx := hs
    have hfrx : c_fr K I R N A K I R N A := c_fr_rf
    have hv9 : (t_ship Z) = 0 ∨ (t_ship Z) = 1 := (by unfold t_ship; (repeat' split) <;> simp)
    rcases hv9 with c9_0 | c9_1
    · exact absurd c9_0 hpx
    · skip
      have hE : E_ = "java/lang/IllegalStateException" := hE
      subst hE
      refine vx_catch (own := RL) (name := "java/lang/IllegalStateException") hown [] ⟨0, 8, 11, 15⟩ [] hxt (fun _ h => absurd h List.not_mem_nil) (by decide) (by decide) (hts (.classLink RL 15 "java/lang/IllegalStateException") (by decide +kernel)) (m_wo_cas hw (by decide)) hce hcv hcl ?_
      refine lv_astore_n (lv' := [(2, .ref q9_), (0, .ref x), (1, .ref ao)]) hx hb dL_ship_11 rfl hl (by decide) rfl (fun ls hl => ?_)
      refine lv_iconst (v := 1) hx hb dL_ship_12 (by decide) ?_
      exact W.iret (v := 1) hx hb hr (fun t ht hW => ⟨⟨1, (K, I, R, F, A, N, L, T, J, D), rfl, ⟨c9_1.symm, fun z => absurd (c9_1.symm.trans z) (by decide), (by rw [if_neg hpx]; exact hsimx), hfrx⟩, m_wo_out hw ht hW.alike⟩, m_wo_F hw ht⟩) (m_wo_L hw) dL_ship_13
  obtain ⟨K_1, I_2, R_3, N_4, L_5⟩ := u_3
  have hw : m_wo G K_1 I_2 R_3 F A N_4 L_5 T J D s H locs := hw
  dsimp only at hp_3
  obtain ⟨ht0, rfl, hsim, hfr⟩ := hp_3
  have hka1 : K_1 ao = 35 := (hfr ao (by rw [hka]; simp [c_oth])).1.trans hka
  have hin1 : vp_in 0 (N_4 ao) := h_in ((hfr ao (by rw [hka]; simp [c_oth])).2.1.trans hna)
  refine lv_i2l (v := ((Z 2)).toInt64) hx hb dL_ship_6 rfl ?_
  refine m_lastore_35 hx hb hw hka1 hin1  dL_ship_7 (fun H locs hw => ?_)
  refine lv_goto (tgt := 14) hx hb dL_ship_8 (by decide) ?_
  refine lv_iconst (v := 0) hx hb dL_ship_14 (by decide) ?_
  exact W.iret (v := 0) hx hb hr (fun t ht hW => ⟨⟨0, (K_1, I_2, R_3, F, A, N_4, L_5, T, m_up J ao (vp_updL (J ao) (0 : Int32).toNatClampNeg (((Z 2)).toInt64)), D), rfl, ⟨ht0.symm, fun _ => h_J, (by rw [if_pos ht0]; exact hsim), hfr⟩, m_wo_out hw ht hW.alike⟩, m_wo_F hw ht⟩) (m_wo_L hw) dL_ship_15
set_option maxHeartbeats 1600000 in
set_option maxRecDepth 100000 in
theorem c_L_plant (l : Launch) {G : mG} {K : Nat → Nat} {I : Nat → Nat → Int32} {R : Nat → Nat → Option Nat} {F : Nat → UInt32} {A : Nat → Nat → Int32} {N : Nat → Nat} {L : Nat → List Nat} {T : Nat → List Int32} {J : Nat → Nat → Int64} {D : Nat → Nat → UInt64} {x ao : Nat} {cd : Nat → Nat} {Z : Nat → Int32} {M : Nat → Nat → Int32} {sh wd isl pl : Int32} (hnt : l.stackTraces = false) (hs : c_sim K I R N A L T x cd Z M) (h9 : ¬ Z 5 = -1 → o_size Z M (Z 5) ≤ 9) (h4 : ∃ m, Z 4 = nI m ∧ m + 1 < 2 ^ 30) (hka : K ao = 35) (hna : N ao = 1) : Met l yL_plant wsL_plant ({ frames := 17, cells := 12, slots := 601, locals := 720 } : Room) (va_Pc [.ref x, .int sh, .int wd, .int isl, .int pl, .ref ao] (fun U => m_B G K I R F A N L T J D U ∧ c_str U)) (va_Qi (h_ps K I R N A x cd (if t_plant Z M sh wd isl pl = 0 then p_plant (Z, M) sh wd isl pl else (Z, M)) (t_plant Z M sh wd isl pl) (fun u => u.2.2.2.2.2.2.2.2.1 ao 0 = (Z 1).toInt64)) (fun u : mE => m_B G (u.1) (u.2.1) (u.2.2.1) (u.2.2.2.1) (u.2.2.2.2.1) (u.2.2.2.2.2.1) (u.2.2.2.2.2.2.1) (u.2.2.2.2.2.2.2.1) (u.2.2.2.2.2.2.2.2.1) (u.2.2.2.2.2.2.2.2.2)) (m_A G)) 12 601 (m_A G) := by
  refine va_MetW (by decide) rfl ?_
  intro p e s m args below meth c s₁ B hml hv
  obtain ⟨rfl, hB, hcs⟩ := hv
  have hx := B.exec
  have hb := B.bytes
  have hr := B.returns
  have hts := atoms_spec (ws := wsL_plant) B.pre
  have hxt := vx_table (x := yL_plant) B (hts (.codeWith yL_plant cL_plant 7 (some .int) [(0, 14, 17, 20), (0, 14, 21, 13), (0, 14, 25, 30), (0, 14, 29, 15)]) List.mem_cons_self)
  have hown : s.vm.findClass RL = some m.cls := findClass_of_methodNamed B.named
  have hlocks := B.notSynchronized
  have hw := m_wo_in hB
  have hl := lv_entry ([.ref x, .int sh, .int wd, .int isl, .int pl, .ref ao]) (n := 7) (Nat.le_of_ble_eq_true rfl)
  rw [lg_entry_eq]
  generalize (lg_sl ([.ref x, .int sh, .int wd, .int isl, .int pl, .ref ao]) ++ List.replicate (7 - (lg_sl ([.ref x, .int sh, .int wd, .int isl, .int pl, .ref ao])).length) Slot.unset).toArray = ls at hl ⊢
  have hl : lv_has ls 7 [(0, .ref x), (1, .int sh), (2, .int wd), (3, .int isl), (4, .int pl), (5, .ref ao)] := hl
  refine lv_aload hx hb dL_plant_0 (lv_at hl 5 rfl) ?_
  refine lv_iconst (v := 0) hx hb dL_plant_2 (by decide) ?_
  refine lv_aload_n hx hb dL_plant_3 rfl (lv_at hl 0 rfl) ?_
  refine lv_iload_n hx hb dL_plant_4 rfl (lv_at hl 1 rfl) ?_
  refine lv_iload_n hx hb dL_plant_5 rfl (lv_at hl 2 rfl) ?_
  refine lv_iload_n hx hb dL_plant_6 rfl (lv_at hl 3 rfl) ?_
  refine lv_iload hx hb dL_plant_7 (lv_at hl 4 rfl) ?_
  refine m_xi (vx_runV (As := [.int sh, .int wd, .int isl, .int pl]) (rest := [.int 0, .ref ao]) ⟨hx, hb, hml, hown, hts⟩ (c_X8_plant l hnt hs h9 h4) (cwV 4 hts gL_plant_X8_plant rfl rfl rfl (by decide +kernel) ⟨Nat.le_of_ble_eq_true rfl, Nat.le_of_ble_eq_true rfl⟩) ⟨m_blind (fun U g mk a h => ⟨m_B_calling U g mk a h.1, c_str_calling U g mk a h.2⟩), m_recv hw (m_ent_9 hs.1.1) rfl, fun U hU hW => ⟨rfl, m_wo_call hw hU hW, c_str_warm hW hcs⟩⟩ rfl rfl hl.1 rfl (lv_room (Nat.le_of_ble_eq_true rfl)) dL_plant_9 ⟨Nat.le_of_ble_eq_true rfl, Nat.le_of_ble_eq_true rfl⟩) hw (fun E_ ce_ q9_ u_9x H locs hpx hw hce hcv hcl => ?_) (fun r_9 u_9 H locs hp_9 hw => ?_)
  · skip
    obtain ⟨hpx, hE⟩ := hpx
    have hsimx := hs
    have hfrx : c_fr K I R N A K I R N A := c_fr_rf
    have hv9 : (t_plant Z M sh wd isl pl) = 0 ∨ (t_plant Z M sh wd isl pl) = 1 ∨ (t_plant Z M sh wd isl pl) = 2 ∨ (t_plant Z M sh wd isl pl) = 3 ∨ (t_plant Z M sh wd isl pl) = 4 := (by unfold t_plant; (repeat' split) <;> simp)
    rcases hv9 with c9_0 | c9_1 | c9_2 | c9_3 | c9_4
    · exact absurd c9_0 hpx
    · skip
      have hE : E_ = "java/lang/IndexOutOfBoundsException" := hE.trans (by rw [if_pos c9_1])
      subst hE
      refine vx_catch (own := RL) (name := "java/lang/IndexOutOfBoundsException") hown [] ⟨0, 14, 17, 20⟩ [⟨0, 14, 21, 13⟩, ⟨0, 14, 25, 30⟩, ⟨0, 14, 29, 15⟩] hxt (fun _ h => absurd h List.not_mem_nil) (by decide) (by decide) (hts (.classLink RL 20 "java/lang/IndexOutOfBoundsException") (by decide +kernel)) (m_wo_cas hw (by decide)) hce hcv hcl ?_
      refine lv_astore (lv' := [(6, .ref q9_), (0, .ref x), (1, .int sh), (2, .int wd), (3, .int isl), (4, .int pl), (5, .ref ao)]) hx hb dL_plant_17 hl (by decide) rfl (fun ls hl => ?_)
      refine lv_iconst (v := 1) hx hb dL_plant_19 (by decide) ?_
      exact W.iret (v := 1) hx hb hr (fun t ht hW => ⟨⟨1, (K, I, R, F, A, N, L, T, J, D), rfl, ⟨c9_1.symm, fun z => absurd (c9_1.symm.trans z) (by decide), (by rw [if_neg hpx]; exact hsimx), hfrx⟩, m_wo_out hw ht hW.alike⟩, m_wo_F hw ht⟩) (m_wo_L hw) dL_plant_20
    · skip
      have hE : E_ = "java/lang/IllegalArgumentException" := hE.trans (by rw [if_neg (fun z => absurd (c9_2.symm.trans z) (by decide)), if_pos c9_2])
      subst hE
      refine vx_catch (own := RL) (name := "java/lang/IllegalArgumentException") hown [⟨0, 14, 17, 20⟩] ⟨0, 14, 21, 13⟩ [⟨0, 14, 25, 30⟩, ⟨0, 14, 29, 15⟩] hxt (List.forall_mem_cons.mpr ⟨Or.inr ⟨(by decide : (20 : Nat) ≠ 0), "java/lang/IndexOutOfBoundsException", hts (.classLink RL 20 "java/lang/IndexOutOfBoundsException") (by decide +kernel), hw.2.1.2.2.2.2.2.1 ("java/lang/IllegalArgumentException", "java/lang/IndexOutOfBoundsException") (by decide)⟩, (fun _ h => absurd h List.not_mem_nil)⟩) (by decide) (by decide) (hts (.classLink RL 13 "java/lang/IllegalArgumentException") (by decide +kernel)) (m_wo_cas hw (by decide)) hce hcv hcl ?_
      refine lv_astore (lv' := [(6, .ref q9_), (0, .ref x), (1, .int sh), (2, .int wd), (3, .int isl), (4, .int pl), (5, .ref ao)]) hx hb dL_plant_21 hl (by decide) rfl (fun ls hl => ?_)
      refine lv_iconst (v := 2) hx hb dL_plant_23 (by decide) ?_
      exact W.iret (v := 2) hx hb hr (fun t ht hW => ⟨⟨2, (K, I, R, F, A, N, L, T, J, D), rfl, ⟨c9_2.symm, fun z => absurd (c9_2.symm.trans z) (by decide), (by rw [if_neg hpx]; exact hsimx), hfrx⟩, m_wo_out hw ht hW.alike⟩, m_wo_F hw ht⟩) (m_wo_L hw) dL_plant_24
    · skip
      have hE : E_ = "java/lang/UnsupportedOperationException" := hE.trans (by rw [if_neg (fun z => absurd (c9_3.symm.trans z) (by decide)), if_neg (fun z => absurd (c9_3.symm.trans z) (by decide)), if_pos c9_3])
      subst hE
      refine vx_catch (own := RL) (name := "java/lang/UnsupportedOperationException") hown [⟨0, 14, 17, 20⟩, ⟨0, 14, 21, 13⟩] ⟨0, 14, 25, 30⟩ [⟨0, 14, 29, 15⟩] hxt (List.forall_mem_cons.mpr ⟨Or.inr ⟨(by decide : (20 : Nat) ≠ 0), "java/lang/IndexOutOfBoundsException", hts (.classLink RL 20 "java/lang/IndexOutOfBoundsException") (by decide +kernel), hw.2.1.2.2.2.2.2.1 ("java/lang/UnsupportedOperationException", "java/lang/IndexOutOfBoundsException") (by decide)⟩, (List.forall_mem_cons.mpr ⟨Or.inr ⟨(by decide : (13 : Nat) ≠ 0), "java/lang/IllegalArgumentException", hts (.classLink RL 13 "java/lang/IllegalArgumentException") (by decide +kernel), hw.2.1.2.2.2.2.2.1 ("java/lang/UnsupportedOperationException", "java/lang/IllegalArgumentException") (by decide)⟩, (fun _ h => absurd h List.not_mem_nil)⟩)⟩) (by decide) (by decide) (hts (.classLink RL 30 "java/lang/UnsupportedOperationException") (by decide +kernel)) (m_wo_cas hw (by decide)) hce hcv hcl ?_
      refine lv_astore (lv' := [(6, .ref q9_), (0, .ref x), (1, .int sh), (2, .int wd), (3, .int isl), (4, .int pl), (5, .ref ao)]) hx hb dL_plant_25 hl (by decide) rfl (fun ls hl => ?_)
      refine lv_iconst (v := 3) hx hb dL_plant_27 (by decide) ?_
      exact W.iret (v := 3) hx hb hr (fun t ht hW => ⟨⟨3, (K, I, R, F, A, N, L, T, J, D), rfl, ⟨c9_3.symm, fun z => absurd (c9_3.symm.trans z) (by decide), (by rw [if_neg hpx]; exact hsimx), hfrx⟩, m_wo_out hw ht hW.alike⟩, m_wo_F hw ht⟩) (m_wo_L hw) dL_plant_28
    · skip
      have hE : E_ = "java/lang/IllegalStateException" := hE.trans (by rw [if_neg (fun z => absurd (c9_4.symm.trans z) (by decide)), if_neg (fun z => absurd (c9_4.symm.trans z) (by decide)), if_neg (fun z => absurd (c9_4.symm.trans z) (by decide))])
      subst hE
      refine vx_catch (own := RL) (name := "java/lang/IllegalStateException") hown [⟨0, 14, 17, 20⟩, ⟨0, 14, 21, 13⟩, ⟨0, 14, 25, 30⟩] ⟨0, 14, 29, 15⟩ [] hxt (List.forall_mem_cons.mpr ⟨Or.inr ⟨(by decide : (20 : Nat) ≠ 0), "java/lang/IndexOutOfBoundsException", hts (.classLink RL 20 "java/lang/IndexOutOfBoundsException") (by decide +kernel), hw.2.1.2.2.2.2.2.1 ("java/lang/IllegalStateException", "java/lang/IndexOutOfBoundsException") (by decide)⟩, (List.forall_mem_cons.mpr ⟨Or.inr ⟨(by decide : (13 : Nat) ≠ 0), "java/lang/IllegalArgumentException", hts (.classLink RL 13 "java/lang/IllegalArgumentException") (by decide +kernel), hw.2.1.2.2.2.2.2.1 ("java/lang/IllegalStateException", "java/lang/IllegalArgumentException") (by decide)⟩, (List.forall_mem_cons.mpr ⟨Or.inr ⟨(by decide : (30 : Nat) ≠ 0), "java/lang/UnsupportedOperationException", hts (.classLink RL 30 "java/lang/UnsupportedOperationException") (by decide +kernel), hw.2.1.2.2.2.2.2.1 ("java/lang/IllegalStateException", "java/lang/UnsupportedOperationException") (by decide)⟩, (fun _ h => absurd h List.not_mem_nil)⟩)⟩)⟩) (by decide) (by decide) (hts (.classLink RL 15 "java/lang/IllegalStateException") (by decide +kernel)) (m_wo_cas hw (by decide)) hce hcv hcl ?_
      refine lv_astore (lv' := [(6, .ref q9_), (0, .ref x), (1, .int sh), (2, .int wd), (3, .int isl), (4, .int pl), (5, .ref ao)]) hx hb dL_plant_29 hl (by decide) rfl (fun ls hl => ?_)
      refine lv_iconst (v := 4) hx hb dL_plant_31 (by decide) ?_
      exact W.iret (v := 4) hx hb hr (fun t ht hW => ⟨⟨4, (K, I, R, F, A, N, L, T, J, D), rfl, ⟨c9_4.symm, fun z => absurd (c9_4.symm.trans z) (by decide), (by rw [if_neg hpx]; exact hsimx), hfrx⟩, m_wo_out hw ht hW.alike⟩, m_wo_F hw ht⟩) (m_wo_L hw) dL_plant_32
  obtain ⟨K_1, I_2, R_3, N_4, L_5⟩ := u_9
  have hw : m_wo G K_1 I_2 R_3 F A N_4 L_5 T J D s H locs := hw
  dsimp only at hp_9
  obtain ⟨ht0, rfl, hsim, hfr⟩ := hp_9
  have hka1 : K_1 ao = 35 := (hfr ao (by rw [hka]; simp [c_oth])).1.trans hka
  have hin1 : vp_in 0 (N_4 ao) := h_in ((hfr ao (by rw [hka]; simp [c_oth])).2.1.trans hna)
  refine lv_i2l (v := ((Z 1)).toInt64) hx hb dL_plant_12 rfl ?_
  refine m_lastore_35 hx hb hw hka1 hin1  dL_plant_13 (fun H locs hw => ?_)
  refine lv_goto (tgt := 33) hx hb dL_plant_14 (by decide) ?_
  refine lv_iconst (v := 0) hx hb dL_plant_33 (by decide) ?_
  exact W.iret (v := 0) hx hb hr (fun t ht hW => ⟨⟨0, (K_1, I_2, R_3, F, A, N_4, L_5, T, m_up J ao (vp_updL (J ao) (0 : Int32).toNatClampNeg (((Z 1)).toInt64)), D), rfl, ⟨ht0.symm, fun _ => h_J, (by rw [if_pos ht0]; exact hsim), hfr⟩, m_wo_out hw ht hW.alike⟩, m_wo_F hw ht⟩) (m_wo_L hw) dL_plant_34
set_option maxHeartbeats 1600000 in
set_option maxRecDepth 100000 in
theorem c_L_segment (l : Launch) {G : mG} {K : Nat → Nat} {I : Nat → Nat → Int32} {R : Nat → Nat → Option Nat} {F : Nat → UInt32} {A : Nat → Nat → Int32} {N : Nat → Nat} {L : Nat → List Nat} {T : Nat → List Int32} {J : Nat → Nat → Int64} {D : Nat → Nat → UInt64} {x ao : Nat} {cd : Nat → Nat} {Z : Nat → Int32} {M : Nat → Nat → Int32} {nn : Int32} (hnt : l.stackTraces = false) (hs : c_sim K I R N A L T x cd Z M) (hka : K ao = 35) (hna : N ao = 1) : Met l yL_segment wsL_segment ({ frames := 10, cells := 1, slots := 6, locals := 320 } : Room) (va_Pc [.ref x, .int nn, .ref ao] (fun U => m_B G K I R F A N L T J D U ∧ c_str U)) (va_Qi (h_ps K I R N A x cd (Z, M) (t_segment Z nn) (fun u => u.2.2.2.2.2.2.2.2.1 ao 0 = (M 17 nn.toNatClampNeg).toInt64)) (fun u : mE => m_B G (u.1) (u.2.1) (u.2.2.1) (u.2.2.2.1) (u.2.2.2.2.1) (u.2.2.2.2.2.1) (u.2.2.2.2.2.2.1) (u.2.2.2.2.2.2.2.1) (u.2.2.2.2.2.2.2.2.1) (u.2.2.2.2.2.2.2.2.2)) (m_A G)) 1 6 (m_A G) := by
  refine va_MetW (by decide) rfl ?_
  intro p e s m args below meth c s₁ B hml hv
  obtain ⟨rfl, hB, hcs⟩ := hv
  have hx := B.exec
  have hb := B.bytes
  have hr := B.returns
  have hts := atoms_spec (ws := wsL_segment) B.pre
  have hxt := vx_table (x := yL_segment) B (hts (.codeWith yL_segment cL_segment 4 (some .int) [(0, 9, 12, 36)]) List.mem_cons_self)
  have hown : s.vm.findClass RL = some m.cls := findClass_of_methodNamed B.named
  have hlocks := B.notSynchronized
  have hw := m_wo_in hB
  have hl := lv_entry ([.ref x, .int nn, .ref ao]) (n := 4) (Nat.le_of_ble_eq_true rfl)
  rw [lg_entry_eq]
  generalize (lg_sl ([.ref x, .int nn, .ref ao]) ++ List.replicate (4 - (lg_sl ([.ref x, .int nn, .ref ao])).length) Slot.unset).toArray = ls at hl ⊢
  have hl : lv_has ls 4 [(0, .ref x), (1, .int nn), (2, .ref ao)] := hl
  refine lv_aload_n hx hb dL_segment_0 rfl (lv_at hl 2 rfl) ?_
  refine lv_iconst (v := 0) hx hb dL_segment_1 (by decide) ?_
  refine lv_aload_n hx hb dL_segment_2 rfl (lv_at hl 0 rfl) ?_
  refine lv_iload_n hx hb dL_segment_3 rfl (lv_at hl 1 rfl) ?_
  refine m_xi (vx_runV (As := [.int nn]) (rest := [.int 0, .ref ao]) ⟨hx, hb, hml, hown, hts⟩ (c_X8_segment l hnt hs) (cwV 1 hts gL_segment_X8_segment rfl rfl rfl (by decide +kernel) ⟨Nat.le_of_ble_eq_true rfl, Nat.le_of_ble_eq_true rfl⟩) ⟨m_blind (fun U g mk a h => ⟨m_B_calling U g mk a h.1, c_str_calling U g mk a h.2⟩), m_recv hw (m_ent_9 hs.1.1) rfl, fun U hU hW => ⟨rfl, m_wo_call hw hU hW, c_str_warm hW hcs⟩⟩ rfl rfl hl.1 rfl (lv_room (Nat.le_of_ble_eq_true rfl)) dL_segment_4 ⟨Nat.le_of_ble_eq_true rfl, Nat.le_of_ble_eq_true rfl⟩) hw (fun E_ ce_ q9_ u_4x H locs hpx hw hce hcv hcl => ?_) (fun r_4 u_4 H locs hp_4 hw => ?_)
  · skip
    obtain ⟨hpx, hE⟩ := hpx
    have hsimx := hs
    have hfrx : c_fr K I R N A K I R N A := c_fr_rf
    have hv9 : (t_segment Z nn) = 0 ∨ (t_segment Z nn) = 1 := (by unfold t_segment; (repeat' split) <;> simp)
    rcases hv9 with c9_0 | c9_1
    · exact absurd c9_0 hpx
    · skip
      have hE : E_ = "java/util/NoSuchElementException" := hE
      subst hE
      refine vx_catch (own := RL) (name := "java/util/NoSuchElementException") hown [] ⟨0, 9, 12, 36⟩ [] hxt (fun _ h => absurd h List.not_mem_nil) (by decide) (by decide) (hts (.classLink RL 36 "java/util/NoSuchElementException") (by decide +kernel)) (m_wo_cas hw (by decide)) hce hcv hcl ?_
      refine lv_astore_n (lv' := [(3, .ref q9_), (0, .ref x), (1, .int nn), (2, .ref ao)]) hx hb dL_segment_12 rfl hl (by decide) rfl (fun ls hl => ?_)
      refine lv_iconst (v := 1) hx hb dL_segment_13 (by decide) ?_
      exact W.iret (v := 1) hx hb hr (fun t ht hW => ⟨⟨1, (K, I, R, F, A, N, L, T, J, D), rfl, ⟨c9_1.symm, fun z => absurd (c9_1.symm.trans z) (by decide), hsimx, hfrx⟩, m_wo_out hw ht hW.alike⟩, m_wo_F hw ht⟩) (m_wo_L hw) dL_segment_14
  obtain ⟨ht0, rfl⟩ := hp_4
  have hsim := hs
  have hfr : c_fr K I R N A K I R N A := c_fr_rf
  have hka1 : K ao = 35 := (hfr ao (by rw [hka]; simp [c_oth])).1.trans hka
  have hin1 : vp_in 0 (N ao) := h_in ((hfr ao (by rw [hka]; simp [c_oth])).2.1.trans hna)
  refine lv_i2l (v := ((M 17 nn.toNatClampNeg)).toInt64) hx hb dL_segment_7 rfl ?_
  refine m_lastore_35 hx hb hw hka1 hin1  dL_segment_8 (fun H locs hw => ?_)
  refine lv_goto (tgt := 15) hx hb dL_segment_9 (by decide) ?_
  refine lv_iconst (v := 0) hx hb dL_segment_15 (by decide) ?_
  exact W.iret (v := 0) hx hb hr (fun t ht hW => ⟨⟨0, (K, I, R, F, A, N, L, T, m_up J ao (vp_updL (J ao) (0 : Int32).toNatClampNeg (((M 17 nn.toNatClampNeg)).toInt64)), D), rfl, ⟨ht0.symm, fun _ => h_J, hsim, hfr⟩, m_wo_out hw ht hW.alike⟩, m_wo_F hw ht⟩) (m_wo_L hw) dL_segment_16
set_option maxHeartbeats 1600000 in
set_option maxRecDepth 100000 in
theorem c_L_size (l : Launch) {G : mG} {K : Nat → Nat} {I : Nat → Nat → Int32} {R : Nat → Nat → Option Nat} {F : Nat → UInt32} {A : Nat → Nat → Int32} {N : Nat → Nat} {L : Nat → List Nat} {T : Nat → List Int32} {J : Nat → Nat → Int64} {D : Nat → Nat → UInt64} {x ao : Nat} {cd : Nat → Nat} {Z : Nat → Int32} {M : Nat → Nat → Int32} {nn : Int32} (hnt : l.stackTraces = false) (hs : c_sim K I R N A L T x cd Z M) (hka : K ao = 35) (hna : N ao = 1) : Met l yL_size wsL_size ({ frames := 10, cells := 1, slots := 6, locals := 320 } : Room) (va_Pc [.ref x, .int nn, .ref ao] (fun U => m_B G K I R F A N L T J D U ∧ c_str U)) (va_Qi (h_ps K I R N A x cd (Z, M) (t_size Z M nn) (fun u => u.2.2.2.2.2.2.2.2.1 ao 0 = (nI (o_size Z M nn)).toInt64)) (fun u : mE => m_B G (u.1) (u.2.1) (u.2.2.1) (u.2.2.2.1) (u.2.2.2.2.1) (u.2.2.2.2.2.1) (u.2.2.2.2.2.2.1) (u.2.2.2.2.2.2.2.1) (u.2.2.2.2.2.2.2.2.1) (u.2.2.2.2.2.2.2.2.2)) (m_A G)) 1 6 (m_A G) := by
  refine va_MetW (by decide) rfl ?_
  intro p e s m args below meth c s₁ B hml hv
  obtain ⟨rfl, hB, hcs⟩ := hv
  have hx := B.exec
  have hb := B.bytes
  have hr := B.returns
  have hts := atoms_spec (ws := wsL_size) B.pre
  have hxt := vx_table (x := yL_size) B (hts (.codeWith yL_size cL_size 4 (some .int) [(0, 9, 12, 36)]) List.mem_cons_self)
  have hown : s.vm.findClass RL = some m.cls := findClass_of_methodNamed B.named
  have hlocks := B.notSynchronized
  have hw := m_wo_in hB
  have hl := lv_entry ([.ref x, .int nn, .ref ao]) (n := 4) (Nat.le_of_ble_eq_true rfl)
  rw [lg_entry_eq]
  generalize (lg_sl ([.ref x, .int nn, .ref ao]) ++ List.replicate (4 - (lg_sl ([.ref x, .int nn, .ref ao])).length) Slot.unset).toArray = ls at hl ⊢
  have hl : lv_has ls 4 [(0, .ref x), (1, .int nn), (2, .ref ao)] := hl
  refine lv_aload_n hx hb dL_size_0 rfl (lv_at hl 2 rfl) ?_
  refine lv_iconst (v := 0) hx hb dL_size_1 (by decide) ?_
  refine lv_aload_n hx hb dL_size_2 rfl (lv_at hl 0 rfl) ?_
  refine lv_iload_n hx hb dL_size_3 rfl (lv_at hl 1 rfl) ?_
  refine m_xi (vx_runV (As := [.int nn]) (rest := [.int 0, .ref ao]) ⟨hx, hb, hml, hown, hts⟩ (c_X8_size l hnt hs) (cwV 1 hts gL_size_X8_size rfl rfl rfl (by decide +kernel) ⟨Nat.le_of_ble_eq_true rfl, Nat.le_of_ble_eq_true rfl⟩) ⟨m_blind (fun U g mk a h => ⟨m_B_calling U g mk a h.1, c_str_calling U g mk a h.2⟩), m_recv hw (m_ent_9 hs.1.1) rfl, fun U hU hW => ⟨rfl, m_wo_call hw hU hW, c_str_warm hW hcs⟩⟩ rfl rfl hl.1 rfl (lv_room (Nat.le_of_ble_eq_true rfl)) dL_size_4 ⟨Nat.le_of_ble_eq_true rfl, Nat.le_of_ble_eq_true rfl⟩) hw (fun E_ ce_ q9_ u_4x H locs hpx hw hce hcv hcl => ?_) (fun r_4 u_4 H locs hp_4 hw => ?_)
  · skip
    obtain ⟨hpx, hE⟩ := hpx
    have hsimx := hs
    have hfrx : c_fr K I R N A K I R N A := c_fr_rf
    have hv9 : (t_size Z M nn) = 0 ∨ (t_size Z M nn) = 1 := (by unfold t_size; (repeat' split) <;> simp)
    rcases hv9 with c9_0 | c9_1
    · exact absurd c9_0 hpx
    · skip
      have hE : E_ = "java/util/NoSuchElementException" := hE
      subst hE
      refine vx_catch (own := RL) (name := "java/util/NoSuchElementException") hown [] ⟨0, 9, 12, 36⟩ [] hxt (fun _ h => absurd h List.not_mem_nil) (by decide) (by decide) (hts (.classLink RL 36 "java/util/NoSuchElementException") (by decide +kernel)) (m_wo_cas hw (by decide)) hce hcv hcl ?_
      refine lv_astore_n (lv' := [(3, .ref q9_), (0, .ref x), (1, .int nn), (2, .ref ao)]) hx hb dL_size_12 rfl hl (by decide) rfl (fun ls hl => ?_)
      refine lv_iconst (v := 1) hx hb dL_size_13 (by decide) ?_
      exact W.iret (v := 1) hx hb hr (fun t ht hW => ⟨⟨1, (K, I, R, F, A, N, L, T, J, D), rfl, ⟨c9_1.symm, fun z => absurd (c9_1.symm.trans z) (by decide), hsimx, hfrx⟩, m_wo_out hw ht hW.alike⟩, m_wo_F hw ht⟩) (m_wo_L hw) dL_size_14
  obtain ⟨ht0, rfl⟩ := hp_4
  have hsim := hs
  have hfr : c_fr K I R N A K I R N A := c_fr_rf
  have hka1 : K ao = 35 := (hfr ao (by rw [hka]; simp [c_oth])).1.trans hka
  have hin1 : vp_in 0 (N ao) := h_in ((hfr ao (by rw [hka]; simp [c_oth])).2.1.trans hna)
  refine lv_i2l (v := ((nI (o_size Z M nn))).toInt64) hx hb dL_size_7 rfl ?_
  refine m_lastore_35 hx hb hw hka1 hin1  dL_size_8 (fun H locs hw => ?_)
  refine lv_goto (tgt := 15) hx hb dL_size_9 (by decide) ?_
  refine lv_iconst (v := 0) hx hb dL_size_15 (by decide) ?_
  exact W.iret (v := 0) hx hb hr (fun t ht hW => ⟨⟨0, (K, I, R, F, A, N, L, T, m_up J ao (vp_updL (J ao) (0 : Int32).toNatClampNeg (((nI (o_size Z M nn))).toInt64)), D), rfl, ⟨ht0.symm, fun _ => h_J, hsim, hfr⟩, m_wo_out hw ht hW.alike⟩, m_wo_F hw ht⟩) (m_wo_L hw) dL_size_16
set_option maxHeartbeats 1600000 in
set_option maxRecDepth 100000 in
theorem c_L_merge (l : Launch) {G : mG} {K : Nat → Nat} {I : Nat → Nat → Int32} {R : Nat → Nat → Option Nat} {F : Nat → UInt32} {A : Nat → Nat → Int32} {N : Nat → Nat} {L : Nat → List Nat} {T : Nat → List Int32} {J : Nat → Nat → Int64} {D : Nat → Nat → UInt64} {x ao : Nat} {cd : Nat → Nat} {Z : Nat → Int32} {M : Nat → Nat → Int32} {va vb : Int32} (hnt : l.stackTraces = false) (hs : c_sim K I R N A L T x cd Z M) (h4 : ∃ m, Z 4 = nI m ∧ m + 1 < 2 ^ 30) (hka : K ao = 35) (hna : N ao = 1) : Met l yL_merge wsL_merge ({ frames := 12, cells := 134, slots := 1124, locals := 540 } : Room) (va_Pc [.ref x, .int va, .int vb, .ref ao] (fun U => m_B G K I R F A N L T J D U ∧ c_str U)) (va_Qi (h_ps K I R N A x cd (p_merge (Z, M) va vb) (t_merge Z M va vb) (fun u => u.2.2.2.2.2.2.2.2.1 ao 0 = (Z 4).toInt64)) (fun u : mE => m_B G (u.1) (u.2.1) (u.2.2.1) (u.2.2.2.1) (u.2.2.2.2.1) (u.2.2.2.2.2.1) (u.2.2.2.2.2.2.1) (u.2.2.2.2.2.2.2.1) (u.2.2.2.2.2.2.2.2.1) (u.2.2.2.2.2.2.2.2.2)) (m_A G)) 134 1124 (m_A G) := by
  refine va_MetW (by decide) rfl ?_
  intro p e s m args below meth c s₁ B hml hv
  obtain ⟨rfl, hB, hcs⟩ := hv
  have hx := B.exec
  have hb := B.bytes
  have hr := B.returns
  have hts := atoms_spec (ws := wsL_merge) B.pre
  have hxt := vx_table (x := yL_merge) B (hts (.codeWith yL_merge cL_merge 5 (some .int) [(0, 10, 13, 13), (0, 10, 17, 36), (0, 10, 21, 30)]) List.mem_cons_self)
  have hown : s.vm.findClass RL = some m.cls := findClass_of_methodNamed B.named
  have hlocks := B.notSynchronized
  have hw := m_wo_in hB
  have hl := lv_entry ([.ref x, .int va, .int vb, .ref ao]) (n := 5) (Nat.le_of_ble_eq_true rfl)
  rw [lg_entry_eq]
  generalize (lg_sl ([.ref x, .int va, .int vb, .ref ao]) ++ List.replicate (5 - (lg_sl ([.ref x, .int va, .int vb, .ref ao])).length) Slot.unset).toArray = ls at hl ⊢
  have hl : lv_has ls 5 [(0, .ref x), (1, .int va), (2, .int vb), (3, .ref ao)] := hl
  refine lv_aload_n hx hb dL_merge_0 rfl (lv_at hl 3 rfl) ?_
  refine lv_iconst (v := 0) hx hb dL_merge_1 (by decide) ?_
  refine lv_aload_n hx hb dL_merge_2 rfl (lv_at hl 0 rfl) ?_
  refine lv_iload_n hx hb dL_merge_3 rfl (lv_at hl 1 rfl) ?_
  refine lv_iload_n hx hb dL_merge_4 rfl (lv_at hl 2 rfl) ?_
  refine m_xi (vx_runV (As := [.int va, .int vb]) (rest := [.int 0, .ref ao]) ⟨hx, hb, hml, hown, hts⟩ (c_X8_merge l hnt hs h4) (cwV 2 hts gL_merge_X8_merge rfl rfl rfl (by decide +kernel) ⟨Nat.le_of_ble_eq_true rfl, Nat.le_of_ble_eq_true rfl⟩) ⟨m_blind (fun U g mk a h => ⟨m_B_calling U g mk a h.1, c_str_calling U g mk a h.2⟩), m_recv hw (m_ent_9 hs.1.1) rfl, fun U hU hW => ⟨rfl, m_wo_call hw hU hW, c_str_warm hW hcs⟩⟩ rfl rfl hl.1 rfl (lv_room (Nat.le_of_ble_eq_true rfl)) dL_merge_5 ⟨Nat.le_of_ble_eq_true rfl, Nat.le_of_ble_eq_true rfl⟩) hw (fun E_ ce_ q9_ u_5x H locs hpx hw hce hcv hcl => ?_) (fun r_5 u_5 H locs hp_5 hw => ?_)
  · skip
    obtain ⟨⟨hpx, hsimx, hfrx⟩, hE⟩ := hpx
    have hw : m_wo G K (u_5x.1) R F (u_5x.2.1) N L (u_5x.2.2) J D s H locs := hw
    have hv9 : (t_merge Z M va vb) = 0 ∨ (t_merge Z M va vb) = 1 ∨ (t_merge Z M va vb) = 2 ∨ (t_merge Z M va vb) = 3 := (by unfold t_merge; (repeat' split) <;> simp)
    rcases hv9 with c9_0 | c9_1 | c9_2 | c9_3
    · exact absurd c9_0 hpx
    · skip
      have hE : E_ = "java/lang/IllegalArgumentException" := hE.trans (by rw [if_pos c9_1])
      subst hE
      refine vx_catch (own := RL) (name := "java/lang/IllegalArgumentException") hown [] ⟨0, 10, 13, 13⟩ [⟨0, 10, 17, 36⟩, ⟨0, 10, 21, 30⟩] hxt (fun _ h => absurd h List.not_mem_nil) (by decide) (by decide) (hts (.classLink RL 13 "java/lang/IllegalArgumentException") (by decide +kernel)) (m_wo_cas hw (by decide)) hce hcv hcl ?_
      refine lv_astore (lv' := [(4, .ref q9_), (0, .ref x), (1, .int va), (2, .int vb), (3, .ref ao)]) hx hb dL_merge_13 hl (by decide) rfl (fun ls hl => ?_)
      refine lv_iconst (v := 1) hx hb dL_merge_15 (by decide) ?_
      exact W.iret (v := 1) hx hb hr (fun t ht hW => ⟨⟨1, (K, u_5x.1, R, F, u_5x.2.1, N, L, u_5x.2.2, J, D), rfl, ⟨c9_1.symm, fun z => absurd (c9_1.symm.trans z) (by decide), hsimx, hfrx⟩, m_wo_out hw ht hW.alike⟩, m_wo_F hw ht⟩) (m_wo_L hw) dL_merge_16
    · skip
      have hE : E_ = "java/util/NoSuchElementException" := hE.trans (by rw [if_neg (fun z => absurd (c9_2.symm.trans z) (by decide)), if_pos c9_2])
      subst hE
      refine vx_catch (own := RL) (name := "java/util/NoSuchElementException") hown [⟨0, 10, 13, 13⟩] ⟨0, 10, 17, 36⟩ [⟨0, 10, 21, 30⟩] hxt (List.forall_mem_cons.mpr ⟨Or.inr ⟨(by decide : (13 : Nat) ≠ 0), "java/lang/IllegalArgumentException", hts (.classLink RL 13 "java/lang/IllegalArgumentException") (by decide +kernel), hw.2.1.2.2.2.2.2.1 ("java/util/NoSuchElementException", "java/lang/IllegalArgumentException") (by decide)⟩, (fun _ h => absurd h List.not_mem_nil)⟩) (by decide) (by decide) (hts (.classLink RL 36 "java/util/NoSuchElementException") (by decide +kernel)) (m_wo_cas hw (by decide)) hce hcv hcl ?_
      refine lv_astore (lv' := [(4, .ref q9_), (0, .ref x), (1, .int va), (2, .int vb), (3, .ref ao)]) hx hb dL_merge_17 hl (by decide) rfl (fun ls hl => ?_)
      refine lv_iconst (v := 2) hx hb dL_merge_19 (by decide) ?_
      exact W.iret (v := 2) hx hb hr (fun t ht hW => ⟨⟨2, (K, u_5x.1, R, F, u_5x.2.1, N, L, u_5x.2.2, J, D), rfl, ⟨c9_2.symm, fun z => absurd (c9_2.symm.trans z) (by decide), hsimx, hfrx⟩, m_wo_out hw ht hW.alike⟩, m_wo_F hw ht⟩) (m_wo_L hw) dL_merge_20
    · skip
      have hE : E_ = "java/lang/UnsupportedOperationException" := hE.trans (by rw [if_neg (fun z => absurd (c9_3.symm.trans z) (by decide)), if_neg (fun z => absurd (c9_3.symm.trans z) (by decide))])
      subst hE
      refine vx_catch (own := RL) (name := "java/lang/UnsupportedOperationException") hown [⟨0, 10, 13, 13⟩, ⟨0, 10, 17, 36⟩] ⟨0, 10, 21, 30⟩ [] hxt (List.forall_mem_cons.mpr ⟨Or.inr ⟨(by decide : (13 : Nat) ≠ 0), "java/lang/IllegalArgumentException", hts (.classLink RL 13 "java/lang/IllegalArgumentException") (by decide +kernel), hw.2.1.2.2.2.2.2.1 ("java/lang/UnsupportedOperationException", "java/lang/IllegalArgumentException") (by decide)⟩, (List.forall_mem_cons.mpr ⟨Or.inr ⟨(by decide : (36 : Nat) ≠ 0), "java/util/NoSuchElementException", hts (.classLink RL 36 "java/util/NoSuchElementException") (by decide +kernel), hw.2.1.2.2.2.2.2.1 ("java/lang/UnsupportedOperationException", "java/util/NoSuchElementException") (by decide)⟩, (fun _ h => absurd h List.not_mem_nil)⟩)⟩) (by decide) (by decide) (hts (.classLink RL 30 "java/lang/UnsupportedOperationException") (by decide +kernel)) (m_wo_cas hw (by decide)) hce hcv hcl ?_
      refine lv_astore (lv' := [(4, .ref q9_), (0, .ref x), (1, .int va), (2, .int vb), (3, .ref ao)]) hx hb dL_merge_21 hl (by decide) rfl (fun ls hl => ?_)
      refine lv_iconst (v := 3) hx hb dL_merge_23 (by decide) ?_
      exact W.iret (v := 3) hx hb hr (fun t ht hW => ⟨⟨3, (K, u_5x.1, R, F, u_5x.2.1, N, L, u_5x.2.2, J, D), rfl, ⟨c9_3.symm, fun z => absurd (c9_3.symm.trans z) (by decide), hsimx, hfrx⟩, m_wo_out hw ht hW.alike⟩, m_wo_F hw ht⟩) (m_wo_L hw) dL_merge_24
  obtain ⟨K_1, I_2, R_3, N_4, L_5, A_6, T_7⟩ := u_5
  have hw : m_wo G K_1 I_2 R_3 F A_6 N_4 L_5 T_7 J D s H locs := hw
  dsimp only at hp_5
  obtain ⟨ht0, rfl, hsim, hfr⟩ := hp_5
  have hka1 : K_1 ao = 35 := (hfr ao (by rw [hka]; simp [c_oth])).1.trans hka
  have hin1 : vp_in 0 (N_4 ao) := h_in ((hfr ao (by rw [hka]; simp [c_oth])).2.1.trans hna)
  refine lv_i2l (v := ((Z 4)).toInt64) hx hb dL_merge_8 rfl ?_
  refine m_lastore_35 hx hb hw hka1 hin1  dL_merge_9 (fun H locs hw => ?_)
  refine lv_goto (tgt := 25) hx hb dL_merge_10 (by decide) ?_
  refine lv_iconst (v := 0) hx hb dL_merge_25 (by decide) ?_
  exact W.iret (v := 0) hx hb hr (fun t ht hW => ⟨⟨0, (K_1, I_2, R_3, F, A_6, N_4, L_5, T_7, m_up J ao (vp_updL (J ao) (0 : Int32).toNatClampNeg (((Z 4)).toInt64)), D), rfl, ⟨ht0.symm, fun _ => h_J, hsim, hfr⟩, m_wo_out hw ht hW.alike⟩, m_wo_F hw ht⟩) (m_wo_L hw) dL_merge_26
set_option maxHeartbeats 1600000 in
set_option maxRecDepth 100000 in
theorem c_L_storm (l : Launch) {G : mG} {K : Nat → Nat} {I : Nat → Nat → Int32} {R : Nat → Nat → Option Nat} {F : Nat → UInt32} {A : Nat → Nat → Int32} {N : Nat → Nat} {L : Nat → List Nat} {T : Nat → List Int32} {J : Nat → Nat → Int64} {D : Nat → Nat → UInt64} {x ao : Nat} {cd : Nat → Nat} {Z : Nat → Int32} {M : Nat → Nat → Int32} {nn : Int32} (hnt : l.stackTraces = false) (hs : c_sim K I R N A L T x cd Z M) (hka : K ao = 35) (hna : N ao = 1) : Met l yL_storm wsL_storm ({ frames := 10, cells := 2, slots := 12, locals := 360 } : Room) (va_Pc [.ref x, .int nn, .ref ao] (fun U => m_B G K I R F A N L T J D U ∧ c_str U)) (va_Qi (h_ps K I R N A x cd (if t_storm Z M nn = 0 then p_storm (Z, M) nn else (Z, M)) (t_storm Z M nn) (fun u => u.2.2.2.2.2.2.2.2.1 ao 0 = (nI (o_lost (p_storm (Z, M) nn).1 (p_storm (Z, M) nn).2)).toInt64)) (fun u : mE => m_B G (u.1) (u.2.1) (u.2.2.1) (u.2.2.2.1) (u.2.2.2.2.1) (u.2.2.2.2.2.1) (u.2.2.2.2.2.2.1) (u.2.2.2.2.2.2.2.1) (u.2.2.2.2.2.2.2.2.1) (u.2.2.2.2.2.2.2.2.2)) (m_A G)) 2 12 (m_A G) := by
  refine va_MetW (by decide) rfl ?_
  intro p e s m args below meth c s₁ B hml hv
  obtain ⟨rfl, hB, hcs⟩ := hv
  have hx := B.exec
  have hb := B.bytes
  have hr := B.returns
  have hts := atoms_spec (ws := wsL_storm) B.pre
  have hxt := vx_table (x := yL_storm) B (hts (.codeWith yL_storm cL_storm 4 (some .int) [(0, 9, 12, 36), (0, 9, 15, 30)]) List.mem_cons_self)
  have hown : s.vm.findClass RL = some m.cls := findClass_of_methodNamed B.named
  have hlocks := B.notSynchronized
  have hw := m_wo_in hB
  have hl := lv_entry ([.ref x, .int nn, .ref ao]) (n := 4) (Nat.le_of_ble_eq_true rfl)
  rw [lg_entry_eq]
  generalize (lg_sl ([.ref x, .int nn, .ref ao]) ++ List.replicate (4 - (lg_sl ([.ref x, .int nn, .ref ao])).length) Slot.unset).toArray = ls at hl ⊢
  have hl : lv_has ls 4 [(0, .ref x), (1, .int nn), (2, .ref ao)] := hl
  refine lv_aload_n hx hb dL_storm_0 rfl (lv_at hl 2 rfl) ?_
  refine lv_iconst (v := 0) hx hb dL_storm_1 (by decide) ?_
  refine lv_aload_n hx hb dL_storm_2 rfl (lv_at hl 0 rfl) ?_
  refine lv_iload_n hx hb dL_storm_3 rfl (lv_at hl 1 rfl) ?_
  refine m_xi (vx_runV (As := [.int nn]) (rest := [.int 0, .ref ao]) ⟨hx, hb, hml, hown, hts⟩ (c_X8_storm l hnt hs) (cwV 1 hts gL_storm_X8_storm rfl rfl rfl (by decide +kernel) ⟨Nat.le_of_ble_eq_true rfl, Nat.le_of_ble_eq_true rfl⟩) ⟨m_blind (fun U g mk a h => ⟨m_B_calling U g mk a h.1, c_str_calling U g mk a h.2⟩), m_recv hw (m_ent_9 hs.1.1) rfl, fun U hU hW => ⟨rfl, m_wo_call hw hU hW, c_str_warm hW hcs⟩⟩ rfl rfl hl.1 rfl (lv_room (Nat.le_of_ble_eq_true rfl)) dL_storm_4 ⟨Nat.le_of_ble_eq_true rfl, Nat.le_of_ble_eq_true rfl⟩) hw (fun E_ ce_ q9_ u_4x H locs hpx hw hce hcv hcl => ?_) (fun r_4 u_4 H locs hp_4 hw => ?_)
  · skip
    obtain ⟨hpx, hE⟩ := hpx
    have hsimx := hs
    have hfrx : c_fr K I R N A K I R N A := c_fr_rf
    have hv9 : (t_storm Z M nn) = 0 ∨ (t_storm Z M nn) = 1 ∨ (t_storm Z M nn) = 2 := (by unfold t_storm; (repeat' split) <;> simp)
    rcases hv9 with c9_0 | c9_1 | c9_2
    · exact absurd c9_0 hpx
    · skip
      have hE : E_ = "java/util/NoSuchElementException" := hE.trans (by rw [if_pos c9_1])
      subst hE
      refine vx_catch (own := RL) (name := "java/util/NoSuchElementException") hown [] ⟨0, 9, 12, 36⟩ [⟨0, 9, 15, 30⟩] hxt (fun _ h => absurd h List.not_mem_nil) (by decide) (by decide) (hts (.classLink RL 36 "java/util/NoSuchElementException") (by decide +kernel)) (m_wo_cas hw (by decide)) hce hcv hcl ?_
      refine lv_astore_n (lv' := [(3, .ref q9_), (0, .ref x), (1, .int nn), (2, .ref ao)]) hx hb dL_storm_12 rfl hl (by decide) rfl (fun ls hl => ?_)
      refine lv_iconst (v := 1) hx hb dL_storm_13 (by decide) ?_
      exact W.iret (v := 1) hx hb hr (fun t ht hW => ⟨⟨1, (K, I, R, F, A, N, L, T, J, D), rfl, ⟨c9_1.symm, fun z => absurd (c9_1.symm.trans z) (by decide), (by rw [if_neg hpx]; exact hsimx), hfrx⟩, m_wo_out hw ht hW.alike⟩, m_wo_F hw ht⟩) (m_wo_L hw) dL_storm_14
    · skip
      have hE : E_ = "java/lang/UnsupportedOperationException" := hE.trans (by rw [if_neg (fun z => absurd (c9_2.symm.trans z) (by decide))])
      subst hE
      refine vx_catch (own := RL) (name := "java/lang/UnsupportedOperationException") hown [⟨0, 9, 12, 36⟩] ⟨0, 9, 15, 30⟩ [] hxt (List.forall_mem_cons.mpr ⟨Or.inr ⟨(by decide : (36 : Nat) ≠ 0), "java/util/NoSuchElementException", hts (.classLink RL 36 "java/util/NoSuchElementException") (by decide +kernel), hw.2.1.2.2.2.2.2.1 ("java/lang/UnsupportedOperationException", "java/util/NoSuchElementException") (by decide)⟩, (fun _ h => absurd h List.not_mem_nil)⟩) (by decide) (by decide) (hts (.classLink RL 30 "java/lang/UnsupportedOperationException") (by decide +kernel)) (m_wo_cas hw (by decide)) hce hcv hcl ?_
      refine lv_astore_n (lv' := [(3, .ref q9_), (0, .ref x), (1, .int nn), (2, .ref ao)]) hx hb dL_storm_15 rfl hl (by decide) rfl (fun ls hl => ?_)
      refine lv_iconst (v := 2) hx hb dL_storm_16 (by decide) ?_
      exact W.iret (v := 2) hx hb hr (fun t ht hW => ⟨⟨2, (K, I, R, F, A, N, L, T, J, D), rfl, ⟨c9_2.symm, fun z => absurd (c9_2.symm.trans z) (by decide), (by rw [if_neg hpx]; exact hsimx), hfrx⟩, m_wo_out hw ht hW.alike⟩, m_wo_F hw ht⟩) (m_wo_L hw) dL_storm_17
  obtain ⟨I_1, R_2, L_3⟩ := u_4
  have hw : m_wo G K I_1 R_2 F A N L_3 T J D s H locs := hw
  dsimp only at hp_4
  obtain ⟨ht0, rfl, hsim, hfr⟩ := hp_4
  have hka1 : K ao = 35 := (hfr ao (by rw [hka]; simp [c_oth])).1.trans hka
  have hin1 : vp_in 0 (N ao) := h_in ((hfr ao (by rw [hka]; simp [c_oth])).2.1.trans hna)
  refine lv_i2l (v := ((nI (o_lost (p_storm (Z, M) nn).1 (p_storm (Z, M) nn).2))).toInt64) hx hb dL_storm_7 rfl ?_
  refine m_lastore_35 hx hb hw hka1 hin1  dL_storm_8 (fun H locs hw => ?_)
  refine lv_goto (tgt := 18) hx hb dL_storm_9 (by decide) ?_
  refine lv_iconst (v := 0) hx hb dL_storm_18 (by decide) ?_
  exact W.iret (v := 0) hx hb hr (fun t ht hW => ⟨⟨0, (K, I_1, R_2, F, A, N, L_3, T, m_up J ao (vp_updL (J ao) (0 : Int32).toNatClampNeg (((nI (o_lost (p_storm (Z, M) nn).1 (p_storm (Z, M) nn).2))).toInt64)), D), rfl, ⟨ht0.symm, fun _ => h_J, (by rw [if_pos ht0]; exact hsim), hfr⟩, m_wo_out hw ht hW.alike⟩, m_wo_F hw ht⟩) (m_wo_L hw) dL_storm_19
set_option maxHeartbeats 1600000 in
set_option maxRecDepth 100000 in
theorem c_L_rebuild (l : Launch) {G : mG} {K : Nat → Nat} {I : Nat → Nat → Int32} {R : Nat → Nat → Option Nat} {F : Nat → UInt32} {A : Nat → Nat → Int32} {N : Nat → Nat} {L : Nat → List Nat} {T : Nat → List Int32} {J : Nat → Nat → Int64} {D : Nat → Nat → UInt64} {x ao : Nat} {cd : Nat → Nat} {Z : Nat → Int32} {M : Nat → Nat → Int32}  (hnt : l.stackTraces = false) (hs : c_sim K I R N A L T x cd Z M) (h9 : ∀ i, i ≤ (L (cd 1)).length → ¬ (o_reb (Z, M) i).1 5 = -1 → o_size (o_reb (Z, M) i).1 (o_reb (Z, M) i).2 ((o_reb (Z, M) i).1 5) ≤ 9) (h3 : t_rebuild Z M = 0 → ∀ i, i ≤ (L (cd 1)).length → ∃ k, k ≤ 20 ∧ (o_reb (Z, M) i).1 3 = nI k) (h4 : ∀ i, i ≤ (L (cd 1)).length → ∃ m, (o_reb (Z, M) i).1 4 = nI m ∧ m + 1 < 2 ^ 30) (hka : K ao = 35) (hna : N ao = 1) : Met l yL_rebuild wsL_rebuild ({ frames := 13, cells := 600, slots := 8300, locals := 580 } : Room) (va_Pc [.ref x, .ref ao] (fun U => m_B G K I R F A N L T J D U ∧ c_str U)) (va_Qi (h_ps K I R N A x cd (p_rebuild (Z, M)) (t_rebuild Z M) (fun u => u.2.2.2.2.2.2.2.2.1 ao 0 = (nI (o_lost Z M)).toInt64)) (fun u : mE => m_B G (u.1) (u.2.1) (u.2.2.1) (u.2.2.2.1) (u.2.2.2.2.1) (u.2.2.2.2.2.1) (u.2.2.2.2.2.2.1) (u.2.2.2.2.2.2.2.1) (u.2.2.2.2.2.2.2.2.1) (u.2.2.2.2.2.2.2.2.2)) (m_A G)) 600 8300 (m_A G) := by
  refine va_MetW (by decide) rfl ?_
  intro p e s m args below meth c s₁ B hml hv
  obtain ⟨rfl, hB, hcs⟩ := hv
  have hx := B.exec
  have hb := B.bytes
  have hr := B.returns
  have hts := atoms_spec (ws := wsL_rebuild) B.pre
  have hxt := vx_table (x := yL_rebuild) B (hts (.codeWith yL_rebuild cL_rebuild 3 (some .int) [(0, 8, 11, 15)]) List.mem_cons_self)
  have hown : s.vm.findClass RL = some m.cls := findClass_of_methodNamed B.named
  have hlocks := B.notSynchronized
  have hw := m_wo_in hB
  have hl := lv_entry ([.ref x, .ref ao]) (n := 3) (Nat.le_of_ble_eq_true rfl)
  rw [lg_entry_eq]
  generalize (lg_sl ([.ref x, .ref ao]) ++ List.replicate (3 - (lg_sl ([.ref x, .ref ao])).length) Slot.unset).toArray = ls at hl ⊢
  have hl : lv_has ls 3 [(0, .ref x), (1, .ref ao)] := hl
  refine lv_aload_n hx hb dL_rebuild_0 rfl (lv_at hl 1 rfl) ?_
  refine lv_iconst (v := 0) hx hb dL_rebuild_1 (by decide) ?_
  refine lv_aload_n hx hb dL_rebuild_2 rfl (lv_at hl 0 rfl) ?_
  refine m_xi (vx_runV (As := []) (rest := [.int 0, .ref ao]) ⟨hx, hb, hml, hown, hts⟩ (c_X8_rebuild l hnt hs h9 h3 h4) (cwV 0 hts gL_rebuild_X8_rebuild rfl rfl rfl (by decide +kernel) ⟨Nat.le_of_ble_eq_true rfl, Nat.le_of_ble_eq_true rfl⟩) ⟨m_blind (fun U g mk a h => ⟨m_B_calling U g mk a h.1, c_str_calling U g mk a h.2⟩), m_recv hw (m_ent_9 hs.1.1) rfl, fun U hU hW => ⟨rfl, m_wo_call hw hU hW, c_str_warm hW hcs⟩⟩ rfl rfl hl.1 rfl (lv_room (Nat.le_of_ble_eq_true rfl)) dL_rebuild_3 ⟨Nat.le_of_ble_eq_true rfl, Nat.le_of_ble_eq_true rfl⟩) hw (fun E_ ce_ q9_ u_3x H locs hpx hw hce hcv hcl => ?_) (fun r_3 u_3 H locs hp_3 hw => ?_)
  · skip
    obtain ⟨⟨hpx, hsimx, hfrx⟩, hE⟩ := hpx
    have hw : m_wo G K (u_3x.1) R F (u_3x.2.1) N L (u_3x.2.2) J D s H locs := hw
    have hv9 : (t_rebuild Z M) = 0 ∨ (t_rebuild Z M) = 1 := (by unfold t_rebuild; (repeat' split) <;> simp)
    rcases hv9 with c9_0 | c9_1
    · exact absurd c9_0 hpx
    · skip
      have hE : E_ = "java/lang/IllegalStateException" := hE
      subst hE
      refine vx_catch (own := RL) (name := "java/lang/IllegalStateException") hown [] ⟨0, 8, 11, 15⟩ [] hxt (fun _ h => absurd h List.not_mem_nil) (by decide) (by decide) (hts (.classLink RL 15 "java/lang/IllegalStateException") (by decide +kernel)) (m_wo_cas hw (by decide)) hce hcv hcl ?_
      refine lv_astore_n (lv' := [(2, .ref q9_), (0, .ref x), (1, .ref ao)]) hx hb dL_rebuild_11 rfl hl (by decide) rfl (fun ls hl => ?_)
      refine lv_iconst (v := 1) hx hb dL_rebuild_12 (by decide) ?_
      exact W.iret (v := 1) hx hb hr (fun t ht hW => ⟨⟨1, (K, u_3x.1, R, F, u_3x.2.1, N, L, u_3x.2.2, J, D), rfl, ⟨c9_1.symm, fun z => absurd (c9_1.symm.trans z) (by decide), hsimx, hfrx⟩, m_wo_out hw ht hW.alike⟩, m_wo_F hw ht⟩) (m_wo_L hw) dL_rebuild_13
  obtain ⟨K_1, I_2, R_3, N_4, L_5⟩ := u_3
  have hw : m_wo G K_1 I_2 R_3 F A N_4 L_5 T J D s H locs := hw
  dsimp only at hp_3
  obtain ⟨ht0, rfl, hsim, hfr⟩ := hp_3
  have hka1 : K_1 ao = 35 := (hfr ao (by rw [hka]; simp [c_oth])).1.trans hka
  have hin1 : vp_in 0 (N_4 ao) := h_in ((hfr ao (by rw [hka]; simp [c_oth])).2.1.trans hna)
  refine lv_i2l (v := ((nI (o_lost Z M))).toInt64) hx hb dL_rebuild_6 rfl ?_
  refine m_lastore_35 hx hb hw hka1 hin1  dL_rebuild_7 (fun H locs hw => ?_)
  refine lv_goto (tgt := 14) hx hb dL_rebuild_8 (by decide) ?_
  refine lv_iconst (v := 0) hx hb dL_rebuild_14 (by decide) ?_
  exact W.iret (v := 0) hx hb hr (fun t ht hW => ⟨⟨0, (K_1, I_2, R_3, F, A, N_4, L_5, T, m_up J ao (vp_updL (J ao) (0 : Int32).toNatClampNeg (((nI (o_lost Z M))).toInt64)), D), rfl, ⟨ht0.symm, fun _ => h_J, hsim, hfr⟩, m_wo_out hw ht hW.alike⟩, m_wo_F hw ht⟩) (m_wo_L hw) dL_rebuild_15
set_option maxHeartbeats 1600000 in
set_option maxRecDepth 100000 in
theorem c_L_segmentOf (l : Launch) {G : mG} {K : Nat → Nat} {I : Nat → Nat → Int32} {R : Nat → Nat → Option Nat} {F : Nat → UInt32} {A : Nat → Nat → Int32} {N : Nat → Nat} {L : Nat → List Nat} {T : Nat → List Int32} {J : Nat → Nat → Int64} {D : Nat → Nat → UInt64} {x ao : Nat} {cd : Nat → Nat} {Z : Nat → Int32} {M : Nat → Nat → Int32} {nn : Int32} (hnt : l.stackTraces = false) (hs : c_sim K I R N A L T x cd Z M) (hka : K ao = 35) (hna : N ao = 1) : Met l yL_segmentOf wsL_segmentOf ({ frames := 10, cells := 2, slots := 12, locals := 320 } : Room) (va_Pc [.ref x, .int nn, .ref ao] (fun U => m_B G K I R F A N L T J D U ∧ c_str U)) (va_Qi (h_ps K I R N A x cd (Z, M) (t_segmentOf Z M nn) (fun u => u.2.2.2.2.2.2.2.2.1 ao 0 = (M 14 nn.toNatClampNeg).toInt64)) (fun u : mE => m_B G (u.1) (u.2.1) (u.2.2.1) (u.2.2.2.1) (u.2.2.2.2.1) (u.2.2.2.2.2.1) (u.2.2.2.2.2.2.1) (u.2.2.2.2.2.2.2.1) (u.2.2.2.2.2.2.2.2.1) (u.2.2.2.2.2.2.2.2.2)) (m_A G)) 2 12 (m_A G) := by
  refine va_MetW (by decide) rfl ?_
  intro p e s m args below meth c s₁ B hml hv
  obtain ⟨rfl, hB, hcs⟩ := hv
  have hx := B.exec
  have hb := B.bytes
  have hr := B.returns
  have hts := atoms_spec (ws := wsL_segmentOf) B.pre
  have hxt := vx_table (x := yL_segmentOf) B (hts (.codeWith yL_segmentOf cL_segmentOf 4 (some .int) [(0, 9, 12, 20), (0, 9, 15, 36)]) List.mem_cons_self)
  have hown : s.vm.findClass RL = some m.cls := findClass_of_methodNamed B.named
  have hlocks := B.notSynchronized
  have hw := m_wo_in hB
  have hl := lv_entry ([.ref x, .int nn, .ref ao]) (n := 4) (Nat.le_of_ble_eq_true rfl)
  rw [lg_entry_eq]
  generalize (lg_sl ([.ref x, .int nn, .ref ao]) ++ List.replicate (4 - (lg_sl ([.ref x, .int nn, .ref ao])).length) Slot.unset).toArray = ls at hl ⊢
  have hl : lv_has ls 4 [(0, .ref x), (1, .int nn), (2, .ref ao)] := hl
  refine lv_aload_n hx hb dL_segmentOf_0 rfl (lv_at hl 2 rfl) ?_
  refine lv_iconst (v := 0) hx hb dL_segmentOf_1 (by decide) ?_
  refine lv_aload_n hx hb dL_segmentOf_2 rfl (lv_at hl 0 rfl) ?_
  refine lv_iload_n hx hb dL_segmentOf_3 rfl (lv_at hl 1 rfl) ?_
  refine m_xi (vx_runV (As := [.int nn]) (rest := [.int 0, .ref ao]) ⟨hx, hb, hml, hown, hts⟩ (c_X8_segmentOf l hnt hs) (cwV 1 hts gL_segmentOf_X8_segmentOf rfl rfl rfl (by decide +kernel) ⟨Nat.le_of_ble_eq_true rfl, Nat.le_of_ble_eq_true rfl⟩) ⟨m_blind (fun U g mk a h => ⟨m_B_calling U g mk a h.1, c_str_calling U g mk a h.2⟩), m_recv hw (m_ent_9 hs.1.1) rfl, fun U hU hW => ⟨rfl, m_wo_call hw hU hW, c_str_warm hW hcs⟩⟩ rfl rfl hl.1 rfl (lv_room (Nat.le_of_ble_eq_true rfl)) dL_segmentOf_4 ⟨Nat.le_of_ble_eq_true rfl, Nat.le_of_ble_eq_true rfl⟩) hw (fun E_ ce_ q9_ u_4x H locs hpx hw hce hcv hcl => ?_) (fun r_4 u_4 H locs hp_4 hw => ?_)
  · skip
    obtain ⟨hpx, hE⟩ := hpx
    have hsimx := hs
    have hfrx : c_fr K I R N A K I R N A := c_fr_rf
    have hv9 : (t_segmentOf Z M nn) = 0 ∨ (t_segmentOf Z M nn) = 1 ∨ (t_segmentOf Z M nn) = 2 := (by unfold t_segmentOf; (repeat' split) <;> simp)
    rcases hv9 with c9_0 | c9_1 | c9_2
    · exact absurd c9_0 hpx
    · skip
      have hE : E_ = "java/lang/IndexOutOfBoundsException" := hE.trans (by rw [if_pos c9_1])
      subst hE
      refine vx_catch (own := RL) (name := "java/lang/IndexOutOfBoundsException") hown [] ⟨0, 9, 12, 20⟩ [⟨0, 9, 15, 36⟩] hxt (fun _ h => absurd h List.not_mem_nil) (by decide) (by decide) (hts (.classLink RL 20 "java/lang/IndexOutOfBoundsException") (by decide +kernel)) (m_wo_cas hw (by decide)) hce hcv hcl ?_
      refine lv_astore_n (lv' := [(3, .ref q9_), (0, .ref x), (1, .int nn), (2, .ref ao)]) hx hb dL_segmentOf_12 rfl hl (by decide) rfl (fun ls hl => ?_)
      refine lv_iconst (v := 1) hx hb dL_segmentOf_13 (by decide) ?_
      exact W.iret (v := 1) hx hb hr (fun t ht hW => ⟨⟨1, (K, I, R, F, A, N, L, T, J, D), rfl, ⟨c9_1.symm, fun z => absurd (c9_1.symm.trans z) (by decide), hsimx, hfrx⟩, m_wo_out hw ht hW.alike⟩, m_wo_F hw ht⟩) (m_wo_L hw) dL_segmentOf_14
    · skip
      have hE : E_ = "java/util/NoSuchElementException" := hE.trans (by rw [if_neg (fun z => absurd (c9_2.symm.trans z) (by decide))])
      subst hE
      refine vx_catch (own := RL) (name := "java/util/NoSuchElementException") hown [⟨0, 9, 12, 20⟩] ⟨0, 9, 15, 36⟩ [] hxt (List.forall_mem_cons.mpr ⟨Or.inr ⟨(by decide : (20 : Nat) ≠ 0), "java/lang/IndexOutOfBoundsException", hts (.classLink RL 20 "java/lang/IndexOutOfBoundsException") (by decide +kernel), hw.2.1.2.2.2.2.2.1 ("java/util/NoSuchElementException", "java/lang/IndexOutOfBoundsException") (by decide)⟩, (fun _ h => absurd h List.not_mem_nil)⟩) (by decide) (by decide) (hts (.classLink RL 36 "java/util/NoSuchElementException") (by decide +kernel)) (m_wo_cas hw (by decide)) hce hcv hcl ?_
      refine lv_astore_n (lv' := [(3, .ref q9_), (0, .ref x), (1, .int nn), (2, .ref ao)]) hx hb dL_segmentOf_15 rfl hl (by decide) rfl (fun ls hl => ?_)
      refine lv_iconst (v := 2) hx hb dL_segmentOf_16 (by decide) ?_
      exact W.iret (v := 2) hx hb hr (fun t ht hW => ⟨⟨2, (K, I, R, F, A, N, L, T, J, D), rfl, ⟨c9_2.symm, fun z => absurd (c9_2.symm.trans z) (by decide), hsimx, hfrx⟩, m_wo_out hw ht hW.alike⟩, m_wo_F hw ht⟩) (m_wo_L hw) dL_segmentOf_17
  obtain ⟨ht0, rfl⟩ := hp_4
  have hsim := hs
  have hfr : c_fr K I R N A K I R N A := c_fr_rf
  have hka1 : K ao = 35 := (hfr ao (by rw [hka]; simp [c_oth])).1.trans hka
  have hin1 : vp_in 0 (N ao) := h_in ((hfr ao (by rw [hka]; simp [c_oth])).2.1.trans hna)
  refine lv_i2l (v := ((M 14 nn.toNatClampNeg)).toInt64) hx hb dL_segmentOf_7 rfl ?_
  refine m_lastore_35 hx hb hw hka1 hin1  dL_segmentOf_8 (fun H locs hw => ?_)
  refine lv_goto (tgt := 18) hx hb dL_segmentOf_9 (by decide) ?_
  refine lv_iconst (v := 0) hx hb dL_segmentOf_18 (by decide) ?_
  exact W.iret (v := 0) hx hb hr (fun t ht hW => ⟨⟨0, (K, I, R, F, A, N, L, T, m_up J ao (vp_updL (J ao) (0 : Int32).toNatClampNeg (((M 14 nn.toNatClampNeg)).toInt64)), D), rfl, ⟨ht0.symm, fun _ => h_J, hsim, hfr⟩, m_wo_out hw ht hW.alike⟩, m_wo_F hw ht⟩) (m_wo_L hw) dL_segmentOf_19
set_option maxHeartbeats 1600000 in
set_option maxRecDepth 100000 in
theorem c_L_postings (l : Launch) {G : mG} {K : Nat → Nat} {I : Nat → Nat → Int32} {R : Nat → Nat → Option Nat} {F : Nat → UInt32} {A : Nat → Nat → Int32} {N : Nat → Nat} {L : Nat → List Nat} {T : Nat → List Int32} {J : Nat → Nat → Int64} {D : Nat → Nat → UInt64} {x ao : Nat} {cd : Nat → Nat} {Z : Nat → Int32} {M : Nat → Nat → Int32} {v : Int32} (hnt : l.stackTraces = false) (hs : c_sim K I R N A L T x cd Z M) (hka : K ao = 35) (hna : N ao = 1) : Met l yL_postings wsL_postings ({ frames := 10, cells := 1, slots := 6, locals := 320 } : Room) (va_Pc [.ref x, .int v, .ref ao] (fun U => m_B G K I R F A N L T J D U ∧ c_str U)) (va_Qi (h_ps K I R N A x cd (Z, M) (t_postings v) (fun u => u.2.2.2.2.2.2.2.2.1 ao 0 = (nI (cntB (fun f => o_pst M f v) (L (cd 1)).length)).toInt64)) (fun u : mE => m_B G (u.1) (u.2.1) (u.2.2.1) (u.2.2.2.1) (u.2.2.2.2.1) (u.2.2.2.2.2.1) (u.2.2.2.2.2.2.1) (u.2.2.2.2.2.2.2.1) (u.2.2.2.2.2.2.2.2.1) (u.2.2.2.2.2.2.2.2.2)) (m_A G)) 1 6 (m_A G) := by
  refine va_MetW (by decide) rfl ?_
  intro p e s m args below meth c s₁ B hml hv
  obtain ⟨rfl, hB, hcs⟩ := hv
  have hx := B.exec
  have hb := B.bytes
  have hr := B.returns
  have hts := atoms_spec (ws := wsL_postings) B.pre
  have hxt := vx_table (x := yL_postings) B (hts (.codeWith yL_postings cL_postings 4 (some .int) [(0, 9, 12, 13)]) List.mem_cons_self)
  have hown : s.vm.findClass RL = some m.cls := findClass_of_methodNamed B.named
  have hlocks := B.notSynchronized
  have hw := m_wo_in hB
  have hl := lv_entry ([.ref x, .int v, .ref ao]) (n := 4) (Nat.le_of_ble_eq_true rfl)
  rw [lg_entry_eq]
  generalize (lg_sl ([.ref x, .int v, .ref ao]) ++ List.replicate (4 - (lg_sl ([.ref x, .int v, .ref ao])).length) Slot.unset).toArray = ls at hl ⊢
  have hl : lv_has ls 4 [(0, .ref x), (1, .int v), (2, .ref ao)] := hl
  refine lv_aload_n hx hb dL_postings_0 rfl (lv_at hl 2 rfl) ?_
  refine lv_iconst (v := 0) hx hb dL_postings_1 (by decide) ?_
  refine lv_aload_n hx hb dL_postings_2 rfl (lv_at hl 0 rfl) ?_
  refine lv_iload_n hx hb dL_postings_3 rfl (lv_at hl 1 rfl) ?_
  refine m_xi (vx_runV (As := [.int v]) (rest := [.int 0, .ref ao]) ⟨hx, hb, hml, hown, hts⟩ (c_X8_postings l hnt hs) (cwV 1 hts gL_postings_X8_postings rfl rfl rfl (by decide +kernel) ⟨Nat.le_of_ble_eq_true rfl, Nat.le_of_ble_eq_true rfl⟩) ⟨m_blind (fun U g mk a h => ⟨m_B_calling U g mk a h.1, c_str_calling U g mk a h.2⟩), m_recv hw (m_ent_9 hs.1.1) rfl, fun U hU hW => ⟨rfl, m_wo_call hw hU hW, c_str_warm hW hcs⟩⟩ rfl rfl hl.1 rfl (lv_room (Nat.le_of_ble_eq_true rfl)) dL_postings_4 ⟨Nat.le_of_ble_eq_true rfl, Nat.le_of_ble_eq_true rfl⟩) hw (fun E_ ce_ q9_ u_4x H locs hpx hw hce hcv hcl => ?_) (fun r_4 u_4 H locs hp_4 hw => ?_)
  · skip
    obtain ⟨hpx, hE⟩ := hpx
    have hsimx := hs
    have hfrx : c_fr K I R N A K I R N A := c_fr_rf
    have hv9 : (t_postings v) = 0 ∨ (t_postings v) = 1 := (by unfold t_postings; (repeat' split) <;> simp)
    rcases hv9 with c9_0 | c9_1
    · exact absurd c9_0 hpx
    · skip
      have hE : E_ = "java/lang/IllegalArgumentException" := hE
      subst hE
      refine vx_catch (own := RL) (name := "java/lang/IllegalArgumentException") hown [] ⟨0, 9, 12, 13⟩ [] hxt (fun _ h => absurd h List.not_mem_nil) (by decide) (by decide) (hts (.classLink RL 13 "java/lang/IllegalArgumentException") (by decide +kernel)) (m_wo_cas hw (by decide)) hce hcv hcl ?_
      refine lv_astore_n (lv' := [(3, .ref q9_), (0, .ref x), (1, .int v), (2, .ref ao)]) hx hb dL_postings_12 rfl hl (by decide) rfl (fun ls hl => ?_)
      refine lv_iconst (v := 1) hx hb dL_postings_13 (by decide) ?_
      exact W.iret (v := 1) hx hb hr (fun t ht hW => ⟨⟨1, (K, I, R, F, A, N, L, T, J, D), rfl, ⟨c9_1.symm, fun z => absurd (c9_1.symm.trans z) (by decide), hsimx, hfrx⟩, m_wo_out hw ht hW.alike⟩, m_wo_F hw ht⟩) (m_wo_L hw) dL_postings_14
  obtain ⟨ht0, rfl⟩ := hp_4
  have hsim := hs
  have hfr : c_fr K I R N A K I R N A := c_fr_rf
  have hka1 : K ao = 35 := (hfr ao (by rw [hka]; simp [c_oth])).1.trans hka
  have hin1 : vp_in 0 (N ao) := h_in ((hfr ao (by rw [hka]; simp [c_oth])).2.1.trans hna)
  refine lv_i2l (v := ((nI (cntB (fun f => o_pst M f v) (L (cd 1)).length))).toInt64) hx hb dL_postings_7 rfl ?_
  refine m_lastore_35 hx hb hw hka1 hin1  dL_postings_8 (fun H locs hw => ?_)
  refine lv_goto (tgt := 15) hx hb dL_postings_9 (by decide) ?_
  refine lv_iconst (v := 0) hx hb dL_postings_15 (by decide) ?_
  exact W.iret (v := 0) hx hb hr (fun t ht hW => ⟨⟨0, (K, I, R, F, A, N, L, T, m_up J ao (vp_updL (J ao) (0 : Int32).toNatClampNeg (((nI (cntB (fun f => o_pst M f v) (L (cd 1)).length))).toInt64)), D), rfl, ⟨ht0.symm, fun _ => h_J, hsim, hfr⟩, m_wo_out hw ht hW.alike⟩, m_wo_F hw ht⟩) (m_wo_L hw) dL_postings_16
set_option maxHeartbeats 1600000 in
set_option maxRecDepth 100000 in
theorem c_L_posting (l : Launch) {G : mG} {K : Nat → Nat} {I : Nat → Nat → Int32} {R : Nat → Nat → Option Nat} {F : Nat → UInt32} {A : Nat → Nat → Int32} {N : Nat → Nat} {L : Nat → List Nat} {T : Nat → List Int32} {J : Nat → Nat → Int64} {D : Nat → Nat → UInt64} {x ao : Nat} {cd : Nat → Nat} {Z : Nat → Int32} {M : Nat → Nat → Int32} {v ix : Int32} (hnt : l.stackTraces = false) (hs : c_sim K I R N A L T x cd Z M) (hka : K ao = 35) (hna : N ao = 1) : Met l yL_posting wsL_posting ({ frames := 10, cells := 2, slots := 12, locals := 320 } : Room) (va_Pc [.ref x, .int v, .int ix, .ref ao] (fun U => m_B G K I R F A N L T J D U ∧ c_str U)) (va_Qi (h_ps K I R N A x cd (Z, M) (t_posting Z M v ix) (fun u => u.2.2.2.2.2.2.2.2.1 ao 0 = (o_found M (L (cd 1)).length v ix (L (cd 1)).length).toInt64)) (fun u : mE => m_B G (u.1) (u.2.1) (u.2.2.1) (u.2.2.2.1) (u.2.2.2.2.1) (u.2.2.2.2.2.1) (u.2.2.2.2.2.2.1) (u.2.2.2.2.2.2.2.1) (u.2.2.2.2.2.2.2.2.1) (u.2.2.2.2.2.2.2.2.2)) (m_A G)) 2 12 (m_A G) := by
  refine va_MetW (by decide) rfl ?_
  intro p e s m args below meth c s₁ B hml hv
  obtain ⟨rfl, hB, hcs⟩ := hv
  have hx := B.exec
  have hb := B.bytes
  have hr := B.returns
  have hts := atoms_spec (ws := wsL_posting) B.pre
  have hxt := vx_table (x := yL_posting) B (hts (.codeWith yL_posting cL_posting 5 (some .int) [(0, 10, 13, 13), (0, 10, 17, 36)]) List.mem_cons_self)
  have hown : s.vm.findClass RL = some m.cls := findClass_of_methodNamed B.named
  have hlocks := B.notSynchronized
  have hw := m_wo_in hB
  have hl := lv_entry ([.ref x, .int v, .int ix, .ref ao]) (n := 5) (Nat.le_of_ble_eq_true rfl)
  rw [lg_entry_eq]
  generalize (lg_sl ([.ref x, .int v, .int ix, .ref ao]) ++ List.replicate (5 - (lg_sl ([.ref x, .int v, .int ix, .ref ao])).length) Slot.unset).toArray = ls at hl ⊢
  have hl : lv_has ls 5 [(0, .ref x), (1, .int v), (2, .int ix), (3, .ref ao)] := hl
  refine lv_aload_n hx hb dL_posting_0 rfl (lv_at hl 3 rfl) ?_
  refine lv_iconst (v := 0) hx hb dL_posting_1 (by decide) ?_
  refine lv_aload_n hx hb dL_posting_2 rfl (lv_at hl 0 rfl) ?_
  refine lv_iload_n hx hb dL_posting_3 rfl (lv_at hl 1 rfl) ?_
  refine lv_iload_n hx hb dL_posting_4 rfl (lv_at hl 2 rfl) ?_
  refine m_xi (vx_runV (As := [.int v, .int ix]) (rest := [.int 0, .ref ao]) ⟨hx, hb, hml, hown, hts⟩ (c_X8_posting l hnt hs) (cwV 2 hts gL_posting_X8_posting rfl rfl rfl (by decide +kernel) ⟨Nat.le_of_ble_eq_true rfl, Nat.le_of_ble_eq_true rfl⟩) ⟨m_blind (fun U g mk a h => ⟨m_B_calling U g mk a h.1, c_str_calling U g mk a h.2⟩), m_recv hw (m_ent_9 hs.1.1) rfl, fun U hU hW => ⟨rfl, m_wo_call hw hU hW, c_str_warm hW hcs⟩⟩ rfl rfl hl.1 rfl (lv_room (Nat.le_of_ble_eq_true rfl)) dL_posting_5 ⟨Nat.le_of_ble_eq_true rfl, Nat.le_of_ble_eq_true rfl⟩) hw (fun E_ ce_ q9_ u_5x H locs hpx hw hce hcv hcl => ?_) (fun r_5 u_5 H locs hp_5 hw => ?_)
  · skip
    obtain ⟨hpx, hE⟩ := hpx
    have hsimx := hs
    have hfrx : c_fr K I R N A K I R N A := c_fr_rf
    have hv9 : (t_posting Z M v ix) = 0 ∨ (t_posting Z M v ix) = 1 ∨ (t_posting Z M v ix) = 2 := (by unfold t_posting; (repeat' split) <;> simp)
    rcases hv9 with c9_0 | c9_1 | c9_2
    · exact absurd c9_0 hpx
    · skip
      have hE : E_ = "java/lang/IllegalArgumentException" := hE.trans (by rw [if_pos c9_1])
      subst hE
      refine vx_catch (own := RL) (name := "java/lang/IllegalArgumentException") hown [] ⟨0, 10, 13, 13⟩ [⟨0, 10, 17, 36⟩] hxt (fun _ h => absurd h List.not_mem_nil) (by decide) (by decide) (hts (.classLink RL 13 "java/lang/IllegalArgumentException") (by decide +kernel)) (m_wo_cas hw (by decide)) hce hcv hcl ?_
      refine lv_astore (lv' := [(4, .ref q9_), (0, .ref x), (1, .int v), (2, .int ix), (3, .ref ao)]) hx hb dL_posting_13 hl (by decide) rfl (fun ls hl => ?_)
      refine lv_iconst (v := 1) hx hb dL_posting_15 (by decide) ?_
      exact W.iret (v := 1) hx hb hr (fun t ht hW => ⟨⟨1, (K, I, R, F, A, N, L, T, J, D), rfl, ⟨c9_1.symm, fun z => absurd (c9_1.symm.trans z) (by decide), hsimx, hfrx⟩, m_wo_out hw ht hW.alike⟩, m_wo_F hw ht⟩) (m_wo_L hw) dL_posting_16
    · skip
      have hE : E_ = "java/util/NoSuchElementException" := hE.trans (by rw [if_neg (fun z => absurd (c9_2.symm.trans z) (by decide))])
      subst hE
      refine vx_catch (own := RL) (name := "java/util/NoSuchElementException") hown [⟨0, 10, 13, 13⟩] ⟨0, 10, 17, 36⟩ [] hxt (List.forall_mem_cons.mpr ⟨Or.inr ⟨(by decide : (13 : Nat) ≠ 0), "java/lang/IllegalArgumentException", hts (.classLink RL 13 "java/lang/IllegalArgumentException") (by decide +kernel), hw.2.1.2.2.2.2.2.1 ("java/util/NoSuchElementException", "java/lang/IllegalArgumentException") (by decide)⟩, (fun _ h => absurd h List.not_mem_nil)⟩) (by decide) (by decide) (hts (.classLink RL 36 "java/util/NoSuchElementException") (by decide +kernel)) (m_wo_cas hw (by decide)) hce hcv hcl ?_
      refine lv_astore (lv' := [(4, .ref q9_), (0, .ref x), (1, .int v), (2, .int ix), (3, .ref ao)]) hx hb dL_posting_17 hl (by decide) rfl (fun ls hl => ?_)
      refine lv_iconst (v := 2) hx hb dL_posting_19 (by decide) ?_
      exact W.iret (v := 2) hx hb hr (fun t ht hW => ⟨⟨2, (K, I, R, F, A, N, L, T, J, D), rfl, ⟨c9_2.symm, fun z => absurd (c9_2.symm.trans z) (by decide), hsimx, hfrx⟩, m_wo_out hw ht hW.alike⟩, m_wo_F hw ht⟩) (m_wo_L hw) dL_posting_20
  obtain ⟨ht0, rfl⟩ := hp_5
  have hsim := hs
  have hfr : c_fr K I R N A K I R N A := c_fr_rf
  have hka1 : K ao = 35 := (hfr ao (by rw [hka]; simp [c_oth])).1.trans hka
  have hin1 : vp_in 0 (N ao) := h_in ((hfr ao (by rw [hka]; simp [c_oth])).2.1.trans hna)
  refine lv_i2l (v := ((o_found M (L (cd 1)).length v ix (L (cd 1)).length)).toInt64) hx hb dL_posting_8 rfl ?_
  refine m_lastore_35 hx hb hw hka1 hin1  dL_posting_9 (fun H locs hw => ?_)
  refine lv_goto (tgt := 21) hx hb dL_posting_10 (by decide) ?_
  refine lv_iconst (v := 0) hx hb dL_posting_21 (by decide) ?_
  exact W.iret (v := 0) hx hb hr (fun t ht hW => ⟨⟨0, (K, I, R, F, A, N, L, T, m_up J ao (vp_updL (J ao) (0 : Int32).toNatClampNeg (((o_found M (L (cd 1)).length v ix (L (cd 1)).length)).toInt64)), D), rfl, ⟨ht0.symm, fun _ => h_J, hsim, hfr⟩, m_wo_out hw ht hW.alike⟩, m_wo_F hw ht⟩) (m_wo_L hw) dL_posting_22
set_option maxHeartbeats 1600000 in
set_option maxRecDepth 100000 in
theorem c_L_word (l : Launch) {G : mG} {K : Nat → Nat} {I : Nat → Nat → Int32} {R : Nat → Nat → Option Nat} {F : Nat → UInt32} {A : Nat → Nat → Int32} {N : Nat → Nat} {L : Nat → List Nat} {T : Nat → List Int32} {J : Nat → Nat → Int64} {D : Nat → Nat → UInt64} {x ao : Nat} {cd : Nat → Nat} {Z : Nat → Int32} {M : Nat → Nat → Int32} {v g : Int32} (hnt : l.stackTraces = false) (hs : c_sim K I R N A L T x cd Z M) (hka : K ao = 35) (hna : N ao = 1) : Met l yL_word wsL_word ({ frames := 10, cells := 3, slots := 18, locals := 320 } : Room) (va_Pc [.ref x, .int v, .int g, .ref ao] (fun U => m_B G K I R F A N L T J D U ∧ c_str U)) (va_Qi (h_ps K I R N A x cd (if t_word Z v g = 0 then p_word (Z, M) v g else (Z, M)) (t_word Z v g) (fun u => u.2.2.2.2.2.2.2.2.1 ao 0 = (Z 29 + 1).toInt64)) (fun u : mE => m_B G (u.1) (u.2.1) (u.2.2.1) (u.2.2.2.1) (u.2.2.2.2.1) (u.2.2.2.2.2.1) (u.2.2.2.2.2.2.1) (u.2.2.2.2.2.2.2.1) (u.2.2.2.2.2.2.2.2.1) (u.2.2.2.2.2.2.2.2.2)) (m_A G)) 3 18 (m_A G) := by
  refine va_MetW (by decide) rfl ?_
  intro p e s m args below meth c s₁ B hml hv
  obtain ⟨rfl, hB, hcs⟩ := hv
  have hx := B.exec
  have hb := B.bytes
  have hr := B.returns
  have hts := atoms_spec (ws := wsL_word) B.pre
  have hxt := vx_table (x := yL_word) B (hts (.codeWith yL_word cL_word 5 (some .int) [(0, 10, 13, 13), (0, 10, 17, 15)]) List.mem_cons_self)
  have hown : s.vm.findClass RL = some m.cls := findClass_of_methodNamed B.named
  have hlocks := B.notSynchronized
  have hw := m_wo_in hB
  have hl := lv_entry ([.ref x, .int v, .int g, .ref ao]) (n := 5) (Nat.le_of_ble_eq_true rfl)
  rw [lg_entry_eq]
  generalize (lg_sl ([.ref x, .int v, .int g, .ref ao]) ++ List.replicate (5 - (lg_sl ([.ref x, .int v, .int g, .ref ao])).length) Slot.unset).toArray = ls at hl ⊢
  have hl : lv_has ls 5 [(0, .ref x), (1, .int v), (2, .int g), (3, .ref ao)] := hl
  refine lv_aload_n hx hb dL_word_0 rfl (lv_at hl 3 rfl) ?_
  refine lv_iconst (v := 0) hx hb dL_word_1 (by decide) ?_
  refine lv_aload_n hx hb dL_word_2 rfl (lv_at hl 0 rfl) ?_
  refine lv_iload_n hx hb dL_word_3 rfl (lv_at hl 1 rfl) ?_
  refine lv_iload_n hx hb dL_word_4 rfl (lv_at hl 2 rfl) ?_
  refine m_xi (vx_runV (As := [.int v, .int g]) (rest := [.int 0, .ref ao]) ⟨hx, hb, hml, hown, hts⟩ (c_X8_word l hnt hs) (cwV 2 hts gL_word_X8_word rfl rfl rfl (by decide +kernel) ⟨Nat.le_of_ble_eq_true rfl, Nat.le_of_ble_eq_true rfl⟩) ⟨m_blind (fun U g mk a h => ⟨m_B_calling U g mk a h.1, c_str_calling U g mk a h.2⟩), m_recv hw (m_ent_9 hs.1.1) rfl, fun U hU hW => ⟨rfl, m_wo_call hw hU hW, c_str_warm hW hcs⟩⟩ rfl rfl hl.1 rfl (lv_room (Nat.le_of_ble_eq_true rfl)) dL_word_5 ⟨Nat.le_of_ble_eq_true rfl, Nat.le_of_ble_eq_true rfl⟩) hw (fun E_ ce_ q9_ u_5x H locs hpx hw hce hcv hcl => ?_) (fun r_5 u_5 H locs hp_5 hw => ?_)
  · skip
    obtain ⟨hpx, hE⟩ := hpx
    have hsimx := hs
    have hfrx : c_fr K I R N A K I R N A := c_fr_rf
    have hv9 : (t_word Z v g) = 0 ∨ (t_word Z v g) = 1 ∨ (t_word Z v g) = 2 := (by unfold t_word; (repeat' split) <;> simp)
    rcases hv9 with c9_0 | c9_1 | c9_2
    · exact absurd c9_0 hpx
    · skip
      have hE : E_ = "java/lang/IllegalArgumentException" := hE.trans (by rw [if_pos c9_1])
      subst hE
      refine vx_catch (own := RL) (name := "java/lang/IllegalArgumentException") hown [] ⟨0, 10, 13, 13⟩ [⟨0, 10, 17, 15⟩] hxt (fun _ h => absurd h List.not_mem_nil) (by decide) (by decide) (hts (.classLink RL 13 "java/lang/IllegalArgumentException") (by decide +kernel)) (m_wo_cas hw (by decide)) hce hcv hcl ?_
      refine lv_astore (lv' := [(4, .ref q9_), (0, .ref x), (1, .int v), (2, .int g), (3, .ref ao)]) hx hb dL_word_13 hl (by decide) rfl (fun ls hl => ?_)
      refine lv_iconst (v := 1) hx hb dL_word_15 (by decide) ?_
      exact W.iret (v := 1) hx hb hr (fun t ht hW => ⟨⟨1, (K, I, R, F, A, N, L, T, J, D), rfl, ⟨c9_1.symm, fun z => absurd (c9_1.symm.trans z) (by decide), (by rw [if_neg hpx]; exact hsimx), hfrx⟩, m_wo_out hw ht hW.alike⟩, m_wo_F hw ht⟩) (m_wo_L hw) dL_word_16
    · skip
      have hE : E_ = "java/lang/IllegalStateException" := hE.trans (by rw [if_neg (fun z => absurd (c9_2.symm.trans z) (by decide))])
      subst hE
      refine vx_catch (own := RL) (name := "java/lang/IllegalStateException") hown [⟨0, 10, 13, 13⟩] ⟨0, 10, 17, 15⟩ [] hxt (List.forall_mem_cons.mpr ⟨Or.inr ⟨(by decide : (13 : Nat) ≠ 0), "java/lang/IllegalArgumentException", hts (.classLink RL 13 "java/lang/IllegalArgumentException") (by decide +kernel), hw.2.1.2.2.2.2.2.1 ("java/lang/IllegalStateException", "java/lang/IllegalArgumentException") (by decide)⟩, (fun _ h => absurd h List.not_mem_nil)⟩) (by decide) (by decide) (hts (.classLink RL 15 "java/lang/IllegalStateException") (by decide +kernel)) (m_wo_cas hw (by decide)) hce hcv hcl ?_
      refine lv_astore (lv' := [(4, .ref q9_), (0, .ref x), (1, .int v), (2, .int g), (3, .ref ao)]) hx hb dL_word_17 hl (by decide) rfl (fun ls hl => ?_)
      refine lv_iconst (v := 2) hx hb dL_word_19 (by decide) ?_
      exact W.iret (v := 2) hx hb hr (fun t ht hW => ⟨⟨2, (K, I, R, F, A, N, L, T, J, D), rfl, ⟨c9_2.symm, fun z => absurd (c9_2.symm.trans z) (by decide), (by rw [if_neg hpx]; exact hsimx), hfrx⟩, m_wo_out hw ht hW.alike⟩, m_wo_F hw ht⟩) (m_wo_L hw) dL_word_20
  obtain ⟨I_1, A_2⟩ := u_5
  have hw : m_wo G K I_1 R F A_2 N L T J D s H locs := hw
  dsimp only at hp_5
  obtain ⟨ht0, rfl, hsim, hfr⟩ := hp_5
  have hka1 : K ao = 35 := (hfr ao (by rw [hka]; simp [c_oth])).1.trans hka
  have hin1 : vp_in 0 (N ao) := h_in ((hfr ao (by rw [hka]; simp [c_oth])).2.1.trans hna)
  refine lv_i2l (v := ((Z 29 + 1)).toInt64) hx hb dL_word_8 rfl ?_
  refine m_lastore_35 hx hb hw hka1 hin1  dL_word_9 (fun H locs hw => ?_)
  refine lv_goto (tgt := 21) hx hb dL_word_10 (by decide) ?_
  refine lv_iconst (v := 0) hx hb dL_word_21 (by decide) ?_
  exact W.iret (v := 0) hx hb hr (fun t ht hW => ⟨⟨0, (K, I_1, R, F, A_2, N, L, T, m_up J ao (vp_updL (J ao) (0 : Int32).toNatClampNeg (((Z 29 + 1)).toInt64)), D), rfl, ⟨ht0.symm, fun _ => h_J, (by rw [if_pos ht0]; exact hsim), hfr⟩, m_wo_out hw ht hW.alike⟩, m_wo_F hw ht⟩) (m_wo_L hw) dL_word_22
set_option maxHeartbeats 1600000 in
set_option maxRecDepth 100000 in
theorem c_L_hits (l : Launch) {G : mG} {K : Nat → Nat} {I : Nat → Nat → Int32} {R : Nat → Nat → Option Nat} {F : Nat → UInt32} {A : Nat → Nat → Int32} {N : Nat → Nat} {L : Nat → List Nat} {T : Nat → List Int32} {J : Nat → Nat → Int64} {D : Nat → Nat → UInt64} {x ao : Nat} {cd : Nat → Nat} {Z : Nat → Int32} {M : Nat → Nat → Int32}  (hnt : l.stackTraces = false) (hs : c_sim K I R N A L T x cd Z M) (hlt : ∀ i, o_hitT Z M i < 2 ^ 31) (hka : K ao = 35) (hna : N ao = 1) : Met l yL_hits wsL_hits ({ frames := 10, cells := 1, slots := 6, locals := 380 } : Room) (va_Pc [.ref x, .ref ao] (fun U => m_B G K I R F A N L T J D U ∧ c_str U)) (va_Qi (h_ps K I R N A x cd (Z, M) (t_b (decide (0 < Z 29))) (fun u => u.2.2.2.2.2.2.2.2.1 ao 0 = (nI (cntB (fun f => decide (0 < o_hitT Z M (nI f))) (L (cd 0)).length)).toInt64)) (fun u : mE => m_B G (u.1) (u.2.1) (u.2.2.1) (u.2.2.2.1) (u.2.2.2.2.1) (u.2.2.2.2.2.1) (u.2.2.2.2.2.2.1) (u.2.2.2.2.2.2.2.1) (u.2.2.2.2.2.2.2.2.1) (u.2.2.2.2.2.2.2.2.2)) (m_A G)) 1 6 (m_A G) := by
  refine va_MetW (by decide) rfl ?_
  intro p e s m args below meth c s₁ B hml hv
  obtain ⟨rfl, hB, hcs⟩ := hv
  have hx := B.exec
  have hb := B.bytes
  have hr := B.returns
  have hts := atoms_spec (ws := wsL_hits) B.pre
  have hxt := vx_table (x := yL_hits) B (hts (.codeWith yL_hits cL_hits 3 (some .int) [(0, 8, 11, 30)]) List.mem_cons_self)
  have hown : s.vm.findClass RL = some m.cls := findClass_of_methodNamed B.named
  have hlocks := B.notSynchronized
  have hw := m_wo_in hB
  have hl := lv_entry ([.ref x, .ref ao]) (n := 3) (Nat.le_of_ble_eq_true rfl)
  rw [lg_entry_eq]
  generalize (lg_sl ([.ref x, .ref ao]) ++ List.replicate (3 - (lg_sl ([.ref x, .ref ao])).length) Slot.unset).toArray = ls at hl ⊢
  have hl : lv_has ls 3 [(0, .ref x), (1, .ref ao)] := hl
  refine lv_aload_n hx hb dL_hits_0 rfl (lv_at hl 1 rfl) ?_
  refine lv_iconst (v := 0) hx hb dL_hits_1 (by decide) ?_
  refine lv_aload_n hx hb dL_hits_2 rfl (lv_at hl 0 rfl) ?_
  refine m_xi (vx_runV (As := []) (rest := [.int 0, .ref ao]) ⟨hx, hb, hml, hown, hts⟩ (c_X8_hits l hnt hs hlt) (cwV 0 hts gL_hits_X8_hits rfl rfl rfl (by decide +kernel) ⟨Nat.le_of_ble_eq_true rfl, Nat.le_of_ble_eq_true rfl⟩) ⟨m_blind (fun U g mk a h => ⟨m_B_calling U g mk a h.1, c_str_calling U g mk a h.2⟩), m_recv hw (m_ent_9 hs.1.1) rfl, fun U hU hW => ⟨rfl, m_wo_call hw hU hW, c_str_warm hW hcs⟩⟩ rfl rfl hl.1 rfl (lv_room (Nat.le_of_ble_eq_true rfl)) dL_hits_3 ⟨Nat.le_of_ble_eq_true rfl, Nat.le_of_ble_eq_true rfl⟩) hw (fun E_ ce_ q9_ u_3x H locs hpx hw hce hcv hcl => ?_) (fun r_3 u_3 H locs hp_3 hw => ?_)
  · skip
    obtain ⟨hpx, hE⟩ := hpx
    have hsimx := hs
    have hfrx : c_fr K I R N A K I R N A := c_fr_rf
    have hv9 : (t_b (decide (0 < Z 29))) = 0 ∨ (t_b (decide (0 < Z 29))) = 1 := (h_tb _)
    rcases hv9 with c9_0 | c9_1
    · exact absurd c9_0 hpx
    · skip
      have hE : E_ = "java/lang/UnsupportedOperationException" := hE
      subst hE
      refine vx_catch (own := RL) (name := "java/lang/UnsupportedOperationException") hown [] ⟨0, 8, 11, 30⟩ [] hxt (fun _ h => absurd h List.not_mem_nil) (by decide) (by decide) (hts (.classLink RL 30 "java/lang/UnsupportedOperationException") (by decide +kernel)) (m_wo_cas hw (by decide)) hce hcv hcl ?_
      refine lv_astore_n (lv' := [(2, .ref q9_), (0, .ref x), (1, .ref ao)]) hx hb dL_hits_11 rfl hl (by decide) rfl (fun ls hl => ?_)
      refine lv_iconst (v := 1) hx hb dL_hits_12 (by decide) ?_
      exact W.iret (v := 1) hx hb hr (fun t ht hW => ⟨⟨1, (K, I, R, F, A, N, L, T, J, D), rfl, ⟨c9_1.symm, fun z => absurd (c9_1.symm.trans z) (by decide), hsimx, hfrx⟩, m_wo_out hw ht hW.alike⟩, m_wo_F hw ht⟩) (m_wo_L hw) dL_hits_13
  have hw : m_wo G K I R F u_3 N L T J D s H locs := hw
  obtain ⟨ht0, rfl, hsim, hfr⟩ := hp_3
  have hka1 : K ao = 35 := (hfr ao (by rw [hka]; simp [c_oth])).1.trans hka
  have hin1 : vp_in 0 (N ao) := h_in ((hfr ao (by rw [hka]; simp [c_oth])).2.1.trans hna)
  refine lv_i2l (v := ((nI (cntB (fun f => decide (0 < o_hitT Z M (nI f))) (L (cd 0)).length))).toInt64) hx hb dL_hits_6 rfl ?_
  refine m_lastore_35 hx hb hw hka1 hin1  dL_hits_7 (fun H locs hw => ?_)
  refine lv_goto (tgt := 14) hx hb dL_hits_8 (by decide) ?_
  refine lv_iconst (v := 0) hx hb dL_hits_14 (by decide) ?_
  exact W.iret (v := 0) hx hb hr (fun t ht hW => ⟨⟨0, (K, I, R, F, u_3, N, L, T, m_up J ao (vp_updL (J ao) (0 : Int32).toNatClampNeg (((nI (cntB (fun f => decide (0 < o_hitT Z M (nI f))) (L (cd 0)).length))).toInt64)), D), rfl, ⟨ht0.symm, fun _ => h_J, hsim, hfr⟩, m_wo_out hw ht hW.alike⟩, m_wo_F hw ht⟩) (m_wo_L hw) dL_hits_15
set_option maxHeartbeats 1600000 in
set_option maxRecDepth 100000 in
theorem c_L_hit (l : Launch) {G : mG} {K : Nat → Nat} {I : Nat → Nat → Int32} {R : Nat → Nat → Option Nat} {F : Nat → UInt32} {A : Nat → Nat → Int32} {N : Nat → Nat} {L : Nat → List Nat} {T : Nat → List Int32} {J : Nat → Nat → Int64} {D : Nat → Nat → UInt64} {x ao : Nat} {cd : Nat → Nat} {Z : Nat → Int32} {M : Nat → Nat → Int32} {nn pl : Int32} {nt : Nat} (hnt : l.stackTraces = false) (hs : c_sim K I R N A L T x cd Z M) (hz9 : Z 29 = nI nt) (h4t : nt ≤ 4) (h12 : ∀ f, f < (L (cd 1)).length → ∃ i, i < (L (cd 0)).length ∧ M 12 f = nI i) (hnn : 0 < Z 29 → o_nan (o_askT (Z, M)).1 (o_askT (Z, M)).2 (L (cd 1)).length (L (cd 0)).length nt) (hky : 0 < Z 29 → o_keys Z M (L (cd 1)).length (L (cd 0)).length nt) (hxy : ∀ s t, s < (L (cd 5)).length → t < (L (cd 0)).length → ∃ n, n < 30000 ∧ o_far M s t = nI n) (hka : K ao = 35) (hna : N ao = 1) : Met l yL_hit wsL_hit ({ frames := 11, cells := 3, slots := 18, locals := 460 } : Room) (va_Pc [.ref x, .int nn, .int pl, .ref ao] (fun U => m_B G K I R F A N L T J D U ∧ c_str U)) (va_Qi (h_ps K I R N A x cd (Z, M) (t_hit Z M (L (cd 1)).length (L (cd 0)).length nt nn pl) (fun u => u.2.2.2.2.2.2.2.2.1 ao 0 = (o_rank Z M (L (cd 1)).length (L (cd 0)).length nt nn.toNatClampNeg pl (L (cd 0)).length).toInt64)) (fun u : mE => m_B G (u.1) (u.2.1) (u.2.2.1) (u.2.2.2.1) (u.2.2.2.2.1) (u.2.2.2.2.2.1) (u.2.2.2.2.2.2.1) (u.2.2.2.2.2.2.2.1) (u.2.2.2.2.2.2.2.2.1) (u.2.2.2.2.2.2.2.2.2)) (m_A G)) 3 18 (m_A G) := by
  refine va_MetW (by decide) rfl ?_
  intro p e s m args below meth c s₁ B hml hv
  obtain ⟨rfl, hB, hcs⟩ := hv
  have hx := B.exec
  have hb := B.bytes
  have hr := B.returns
  have hts := atoms_spec (ws := wsL_hit) B.pre
  have hxt := vx_table (x := yL_hit) B (hts (.codeWith yL_hit cL_hit 5 (some .int) [(0, 10, 13, 20), (0, 10, 17, 30), (0, 10, 21, 36)]) List.mem_cons_self)
  have hown : s.vm.findClass RL = some m.cls := findClass_of_methodNamed B.named
  have hlocks := B.notSynchronized
  have hw := m_wo_in hB
  have hl := lv_entry ([.ref x, .int nn, .int pl, .ref ao]) (n := 5) (Nat.le_of_ble_eq_true rfl)
  rw [lg_entry_eq]
  generalize (lg_sl ([.ref x, .int nn, .int pl, .ref ao]) ++ List.replicate (5 - (lg_sl ([.ref x, .int nn, .int pl, .ref ao])).length) Slot.unset).toArray = ls at hl ⊢
  have hl : lv_has ls 5 [(0, .ref x), (1, .int nn), (2, .int pl), (3, .ref ao)] := hl
  refine lv_aload_n hx hb dL_hit_0 rfl (lv_at hl 3 rfl) ?_
  refine lv_iconst (v := 0) hx hb dL_hit_1 (by decide) ?_
  refine lv_aload_n hx hb dL_hit_2 rfl (lv_at hl 0 rfl) ?_
  refine lv_iload_n hx hb dL_hit_3 rfl (lv_at hl 1 rfl) ?_
  refine lv_iload_n hx hb dL_hit_4 rfl (lv_at hl 2 rfl) ?_
  refine m_xi (vx_runV (As := [.int nn, .int pl]) (rest := [.int 0, .ref ao]) ⟨hx, hb, hml, hown, hts⟩ (c_X8_hit l hnt hs hz9 h4t h12 hnn hky hxy) (cwV 2 hts gL_hit_X8_hit rfl rfl rfl (by decide +kernel) ⟨Nat.le_of_ble_eq_true rfl, Nat.le_of_ble_eq_true rfl⟩) ⟨m_blind (fun U g mk a h => ⟨m_B_calling U g mk a h.1, c_str_calling U g mk a h.2⟩), m_recv hw (m_ent_9 hs.1.1) rfl, fun U hU hW => ⟨rfl, m_wo_call hw hU hW, c_str_warm hW hcs⟩⟩ rfl rfl hl.1 rfl (lv_room (Nat.le_of_ble_eq_true rfl)) dL_hit_5 ⟨Nat.le_of_ble_eq_true rfl, Nat.le_of_ble_eq_true rfl⟩) hw (fun E_ ce_ q9_ u_5x H locs hpx hw hce hcv hcl => ?_) (fun r_5 u_5 H locs hp_5 hw => ?_)
  · skip
    obtain ⟨⟨hpx, hsimx, hfrx⟩, hE⟩ := hpx
    have hw : m_wo G K I R (u_5x.1) (u_5x.2) N L T J D s H locs := hw
    have hv9 : (t_hit Z M (L (cd 1)).length (L (cd 0)).length nt nn pl) = 0 ∨ (t_hit Z M (L (cd 1)).length (L (cd 0)).length nt nn pl) = 1 ∨ (t_hit Z M (L (cd 1)).length (L (cd 0)).length nt nn pl) = 2 ∨ (t_hit Z M (L (cd 1)).length (L (cd 0)).length nt nn pl) = 3 := (by unfold t_hit; (repeat' split) <;> simp)
    rcases hv9 with c9_0 | c9_1 | c9_2 | c9_3
    · exact absurd c9_0 hpx
    · skip
      have hE : E_ = "java/lang/IndexOutOfBoundsException" := hE.trans (by rw [if_pos c9_1])
      subst hE
      refine vx_catch (own := RL) (name := "java/lang/IndexOutOfBoundsException") hown [] ⟨0, 10, 13, 20⟩ [⟨0, 10, 17, 30⟩, ⟨0, 10, 21, 36⟩] hxt (fun _ h => absurd h List.not_mem_nil) (by decide) (by decide) (hts (.classLink RL 20 "java/lang/IndexOutOfBoundsException") (by decide +kernel)) (m_wo_cas hw (by decide)) hce hcv hcl ?_
      refine lv_astore (lv' := [(4, .ref q9_), (0, .ref x), (1, .int nn), (2, .int pl), (3, .ref ao)]) hx hb dL_hit_13 hl (by decide) rfl (fun ls hl => ?_)
      refine lv_iconst (v := 1) hx hb dL_hit_15 (by decide) ?_
      exact W.iret (v := 1) hx hb hr (fun t ht hW => ⟨⟨1, (K, I, R, u_5x.1, u_5x.2, N, L, T, J, D), rfl, ⟨c9_1.symm, fun z => absurd (c9_1.symm.trans z) (by decide), hsimx, hfrx⟩, m_wo_out hw ht hW.alike⟩, m_wo_F hw ht⟩) (m_wo_L hw) dL_hit_16
    · skip
      have hE : E_ = "java/lang/UnsupportedOperationException" := hE.trans (by rw [if_neg (fun z => absurd (c9_2.symm.trans z) (by decide)), if_pos c9_2])
      subst hE
      refine vx_catch (own := RL) (name := "java/lang/UnsupportedOperationException") hown [⟨0, 10, 13, 20⟩] ⟨0, 10, 17, 30⟩ [⟨0, 10, 21, 36⟩] hxt (List.forall_mem_cons.mpr ⟨Or.inr ⟨(by decide : (20 : Nat) ≠ 0), "java/lang/IndexOutOfBoundsException", hts (.classLink RL 20 "java/lang/IndexOutOfBoundsException") (by decide +kernel), hw.2.1.2.2.2.2.2.1 ("java/lang/UnsupportedOperationException", "java/lang/IndexOutOfBoundsException") (by decide)⟩, (fun _ h => absurd h List.not_mem_nil)⟩) (by decide) (by decide) (hts (.classLink RL 30 "java/lang/UnsupportedOperationException") (by decide +kernel)) (m_wo_cas hw (by decide)) hce hcv hcl ?_
      refine lv_astore (lv' := [(4, .ref q9_), (0, .ref x), (1, .int nn), (2, .int pl), (3, .ref ao)]) hx hb dL_hit_17 hl (by decide) rfl (fun ls hl => ?_)
      refine lv_iconst (v := 2) hx hb dL_hit_19 (by decide) ?_
      exact W.iret (v := 2) hx hb hr (fun t ht hW => ⟨⟨2, (K, I, R, u_5x.1, u_5x.2, N, L, T, J, D), rfl, ⟨c9_2.symm, fun z => absurd (c9_2.symm.trans z) (by decide), hsimx, hfrx⟩, m_wo_out hw ht hW.alike⟩, m_wo_F hw ht⟩) (m_wo_L hw) dL_hit_20
    · skip
      have hE : E_ = "java/util/NoSuchElementException" := hE.trans (by rw [if_neg (fun z => absurd (c9_3.symm.trans z) (by decide)), if_neg (fun z => absurd (c9_3.symm.trans z) (by decide))])
      subst hE
      refine vx_catch (own := RL) (name := "java/util/NoSuchElementException") hown [⟨0, 10, 13, 20⟩, ⟨0, 10, 17, 30⟩] ⟨0, 10, 21, 36⟩ [] hxt (List.forall_mem_cons.mpr ⟨Or.inr ⟨(by decide : (20 : Nat) ≠ 0), "java/lang/IndexOutOfBoundsException", hts (.classLink RL 20 "java/lang/IndexOutOfBoundsException") (by decide +kernel), hw.2.1.2.2.2.2.2.1 ("java/util/NoSuchElementException", "java/lang/IndexOutOfBoundsException") (by decide)⟩, (List.forall_mem_cons.mpr ⟨Or.inr ⟨(by decide : (30 : Nat) ≠ 0), "java/lang/UnsupportedOperationException", hts (.classLink RL 30 "java/lang/UnsupportedOperationException") (by decide +kernel), hw.2.1.2.2.2.2.2.1 ("java/util/NoSuchElementException", "java/lang/UnsupportedOperationException") (by decide)⟩, (fun _ h => absurd h List.not_mem_nil)⟩)⟩) (by decide) (by decide) (hts (.classLink RL 36 "java/util/NoSuchElementException") (by decide +kernel)) (m_wo_cas hw (by decide)) hce hcv hcl ?_
      refine lv_astore (lv' := [(4, .ref q9_), (0, .ref x), (1, .int nn), (2, .int pl), (3, .ref ao)]) hx hb dL_hit_21 hl (by decide) rfl (fun ls hl => ?_)
      refine lv_iconst (v := 3) hx hb dL_hit_23 (by decide) ?_
      exact W.iret (v := 3) hx hb hr (fun t ht hW => ⟨⟨3, (K, I, R, u_5x.1, u_5x.2, N, L, T, J, D), rfl, ⟨c9_3.symm, fun z => absurd (c9_3.symm.trans z) (by decide), hsimx, hfrx⟩, m_wo_out hw ht hW.alike⟩, m_wo_F hw ht⟩) (m_wo_L hw) dL_hit_24
  obtain ⟨F_1, A_2⟩ := u_5
  have hw : m_wo G K I R F_1 A_2 N L T J D s H locs := hw
  dsimp only at hp_5
  obtain ⟨ht0, rfl, hsim, hfr⟩ := hp_5
  have hka1 : K ao = 35 := (hfr ao (by rw [hka]; simp [c_oth])).1.trans hka
  have hin1 : vp_in 0 (N ao) := h_in ((hfr ao (by rw [hka]; simp [c_oth])).2.1.trans hna)
  refine lv_i2l (v := ((o_rank Z M (L (cd 1)).length (L (cd 0)).length nt nn.toNatClampNeg pl (L (cd 0)).length)).toInt64) hx hb dL_hit_8 rfl ?_
  refine m_lastore_35 hx hb hw hka1 hin1  dL_hit_9 (fun H locs hw => ?_)
  refine lv_goto (tgt := 25) hx hb dL_hit_10 (by decide) ?_
  refine lv_iconst (v := 0) hx hb dL_hit_25 (by decide) ?_
  exact W.iret (v := 0) hx hb hr (fun t ht hW => ⟨⟨0, (K, I, R, F_1, A_2, N, L, T, m_up J ao (vp_updL (J ao) (0 : Int32).toNatClampNeg (((o_rank Z M (L (cd 1)).length (L (cd 0)).length nt nn.toNatClampNeg pl (L (cd 0)).length)).toInt64)), D), rfl, ⟨ht0.symm, fun _ => h_J, hsim, hfr⟩, m_wo_out hw ht hW.alike⟩, m_wo_F hw ht⟩) (m_wo_L hw) dL_hit_26
set_option maxHeartbeats 1600000 in
set_option maxRecDepth 100000 in
theorem c_L_count (l : Launch) {G : mG} {K : Nat → Nat} {I : Nat → Nat → Int32} {R : Nat → Nat → Option Nat} {F : Nat → UInt32} {A : Nat → Nat → Int32} {N : Nat → Nat} {L : Nat → List Nat} {T : Nat → List Int32} {J : Nat → Nat → Int64} {D : Nat → Nat → UInt64} {x ao : Nat} {cd : Nat → Nat} {Z : Nat → Int32} {M : Nat → Nat → Int32} {nn : Int32} (hnt : l.stackTraces = false) (hs : c_sim K I R N A L T x cd Z M) (hka : K ao = 35) (hna : N ao = 1) : Met l yL_count wsL_count ({ frames := 10, cells := 2, slots := 12, locals := 320 } : Room) (va_Pc [.ref x, .int nn, .ref ao] (fun U => m_B G K I R F A N L T J D U ∧ c_str U)) (va_Qi (h_ps K I R N A x cd (Z, M) (t_typed (o_isl Z nn) Z) (fun u => u.2.2.2.2.2.2.2.2.1 ao 0 = (nI (o_hitT Z M nn)).toInt64)) (fun u : mE => m_B G (u.1) (u.2.1) (u.2.2.1) (u.2.2.2.1) (u.2.2.2.2.1) (u.2.2.2.2.2.1) (u.2.2.2.2.2.2.1) (u.2.2.2.2.2.2.2.1) (u.2.2.2.2.2.2.2.2.1) (u.2.2.2.2.2.2.2.2.2)) (m_A G)) 2 12 (m_A G) := by
  refine va_MetW (by decide) rfl ?_
  intro p e s m args below meth c s₁ B hml hv
  obtain ⟨rfl, hB, hcs⟩ := hv
  have hx := B.exec
  have hb := B.bytes
  have hr := B.returns
  have hts := atoms_spec (ws := wsL_count) B.pre
  have hxt := vx_table (x := yL_count) B (hts (.codeWith yL_count cL_count 4 (some .int) [(0, 9, 12, 20), (0, 9, 15, 30)]) List.mem_cons_self)
  have hown : s.vm.findClass RL = some m.cls := findClass_of_methodNamed B.named
  have hlocks := B.notSynchronized
  have hw := m_wo_in hB
  have hl := lv_entry ([.ref x, .int nn, .ref ao]) (n := 4) (Nat.le_of_ble_eq_true rfl)
  rw [lg_entry_eq]
  generalize (lg_sl ([.ref x, .int nn, .ref ao]) ++ List.replicate (4 - (lg_sl ([.ref x, .int nn, .ref ao])).length) Slot.unset).toArray = ls at hl ⊢
  have hl : lv_has ls 4 [(0, .ref x), (1, .int nn), (2, .ref ao)] := hl
  refine lv_aload_n hx hb dL_count_0 rfl (lv_at hl 2 rfl) ?_
  refine lv_iconst (v := 0) hx hb dL_count_1 (by decide) ?_
  refine lv_aload_n hx hb dL_count_2 rfl (lv_at hl 0 rfl) ?_
  refine lv_iload_n hx hb dL_count_3 rfl (lv_at hl 1 rfl) ?_
  refine m_xi (vx_runV (As := [.int nn]) (rest := [.int 0, .ref ao]) ⟨hx, hb, hml, hown, hts⟩ (c_X8_count l hnt hs) (cwV 1 hts gL_count_X8_count rfl rfl rfl (by decide +kernel) ⟨Nat.le_of_ble_eq_true rfl, Nat.le_of_ble_eq_true rfl⟩) ⟨m_blind (fun U g mk a h => ⟨m_B_calling U g mk a h.1, c_str_calling U g mk a h.2⟩), m_recv hw (m_ent_9 hs.1.1) rfl, fun U hU hW => ⟨rfl, m_wo_call hw hU hW, c_str_warm hW hcs⟩⟩ rfl rfl hl.1 rfl (lv_room (Nat.le_of_ble_eq_true rfl)) dL_count_4 ⟨Nat.le_of_ble_eq_true rfl, Nat.le_of_ble_eq_true rfl⟩) hw (fun E_ ce_ q9_ u_4x H locs hpx hw hce hcv hcl => ?_) (fun r_4 u_4 H locs hp_4 hw => ?_)
  · skip
    obtain ⟨hpx, hE⟩ := hpx
    have hsimx := hs
    have hfrx : c_fr K I R N A K I R N A := c_fr_rf
    have hv9 : (t_typed (o_isl Z nn) Z) = 0 ∨ (t_typed (o_isl Z nn) Z) = 1 ∨ (t_typed (o_isl Z nn) Z) = 2 := (h_tt _ _)
    rcases hv9 with c9_0 | c9_1 | c9_2
    · exact absurd c9_0 hpx
    · skip
      have hE : E_ = "java/lang/IndexOutOfBoundsException" := hE.trans (by rw [if_pos c9_1])
      subst hE
      refine vx_catch (own := RL) (name := "java/lang/IndexOutOfBoundsException") hown [] ⟨0, 9, 12, 20⟩ [⟨0, 9, 15, 30⟩] hxt (fun _ h => absurd h List.not_mem_nil) (by decide) (by decide) (hts (.classLink RL 20 "java/lang/IndexOutOfBoundsException") (by decide +kernel)) (m_wo_cas hw (by decide)) hce hcv hcl ?_
      refine lv_astore_n (lv' := [(3, .ref q9_), (0, .ref x), (1, .int nn), (2, .ref ao)]) hx hb dL_count_12 rfl hl (by decide) rfl (fun ls hl => ?_)
      refine lv_iconst (v := 1) hx hb dL_count_13 (by decide) ?_
      exact W.iret (v := 1) hx hb hr (fun t ht hW => ⟨⟨1, (K, I, R, F, A, N, L, T, J, D), rfl, ⟨c9_1.symm, fun z => absurd (c9_1.symm.trans z) (by decide), hsimx, hfrx⟩, m_wo_out hw ht hW.alike⟩, m_wo_F hw ht⟩) (m_wo_L hw) dL_count_14
    · skip
      have hE : E_ = "java/lang/UnsupportedOperationException" := hE.trans (by rw [if_neg (fun z => absurd (c9_2.symm.trans z) (by decide))])
      subst hE
      refine vx_catch (own := RL) (name := "java/lang/UnsupportedOperationException") hown [⟨0, 9, 12, 20⟩] ⟨0, 9, 15, 30⟩ [] hxt (List.forall_mem_cons.mpr ⟨Or.inr ⟨(by decide : (20 : Nat) ≠ 0), "java/lang/IndexOutOfBoundsException", hts (.classLink RL 20 "java/lang/IndexOutOfBoundsException") (by decide +kernel), hw.2.1.2.2.2.2.2.1 ("java/lang/UnsupportedOperationException", "java/lang/IndexOutOfBoundsException") (by decide)⟩, (fun _ h => absurd h List.not_mem_nil)⟩) (by decide) (by decide) (hts (.classLink RL 30 "java/lang/UnsupportedOperationException") (by decide +kernel)) (m_wo_cas hw (by decide)) hce hcv hcl ?_
      refine lv_astore_n (lv' := [(3, .ref q9_), (0, .ref x), (1, .int nn), (2, .ref ao)]) hx hb dL_count_15 rfl hl (by decide) rfl (fun ls hl => ?_)
      refine lv_iconst (v := 2) hx hb dL_count_16 (by decide) ?_
      exact W.iret (v := 2) hx hb hr (fun t ht hW => ⟨⟨2, (K, I, R, F, A, N, L, T, J, D), rfl, ⟨c9_2.symm, fun z => absurd (c9_2.symm.trans z) (by decide), hsimx, hfrx⟩, m_wo_out hw ht hW.alike⟩, m_wo_F hw ht⟩) (m_wo_L hw) dL_count_17
  have hw : m_wo G K I R F u_4 N L T J D s H locs := hw
  obtain ⟨ht0, rfl, hsim, hfr⟩ := hp_4
  have hka1 : K ao = 35 := (hfr ao (by rw [hka]; simp [c_oth])).1.trans hka
  have hin1 : vp_in 0 (N ao) := h_in ((hfr ao (by rw [hka]; simp [c_oth])).2.1.trans hna)
  refine lv_i2l (v := ((nI (o_hitT Z M nn))).toInt64) hx hb dL_count_7 rfl ?_
  refine m_lastore_35 hx hb hw hka1 hin1  dL_count_8 (fun H locs hw => ?_)
  refine lv_goto (tgt := 18) hx hb dL_count_9 (by decide) ?_
  refine lv_iconst (v := 0) hx hb dL_count_18 (by decide) ?_
  exact W.iret (v := 0) hx hb hr (fun t ht hW => ⟨⟨0, (K, I, R, F, u_4, N, L, T, m_up J ao (vp_updL (J ao) (0 : Int32).toNatClampNeg (((nI (o_hitT Z M nn))).toInt64)), D), rfl, ⟨ht0.symm, fun _ => h_J, hsim, hfr⟩, m_wo_out hw ht hW.alike⟩, m_wo_F hw ht⟩) (m_wo_L hw) dL_count_19
set_option maxHeartbeats 1600000 in
set_option maxRecDepth 100000 in
theorem c_L_scoreBits (l : Launch) {G : mG} {K : Nat → Nat} {I : Nat → Nat → Int32} {R : Nat → Nat → Option Nat} {F : Nat → UInt32} {A : Nat → Nat → Int32} {N : Nat → Nat} {L : Nat → List Nat} {T : Nat → List Int32} {J : Nat → Nat → Int64} {D : Nat → Nat → UInt64} {x ao : Nat} {cd : Nat → Nat} {Z : Nat → Int32} {M : Nat → Nat → Int32} {nn : Int32} {nt : Nat} (hnt : l.stackTraces = false) (hs : c_sim K I R N A L T x cd Z M) (hz9 : Z 29 = nI nt) (h4t : nt ≤ 4) (h12 : ∀ f, f < (L (cd 1)).length → ∃ i, i < (L (cd 0)).length ∧ M 12 f = nI i) (hnn : 0 < Z 29 → o_nan (o_askT (Z, M)).1 (o_askT (Z, M)).2 (L (cd 1)).length (L (cd 0)).length nt) (hlt : ∀ i, o_hitT Z M i < 2 ^ 31) (hbk : 0 < Z 29 → 0 < o_hitT Z M nn → o_bok (o_score (o_askT (Z, M)).1 (o_askT (Z, M)).2 (L (cd 1)).length (L (cd 0)).length nt nn) (o_score (o_askT (Z, M)).1 (o_askT (Z, M)).2 (L (cd 1)).length (L (cd 0)).length nt nn).toInt32) (hka : K ao = 35) (hna : N ao = 1) : Met l yL_scoreBits wsL_scoreBits ({ frames := 10, cells := 2, slots := 12, locals := 360 } : Room) (va_Pc [.ref x, .int nn, .ref ao] (fun U => m_B G K I R F A N L T J D U ∧ c_str U)) (va_Qi (h_ps K I R N A x cd (Z, M) (t_typed (o_isl Z nn) Z) (fun u => u.2.2.2.2.2.2.2.2.1 ao 0 = (o_bits Z M (L (cd 1)).length (L (cd 0)).length nt nn).toInt64)) (fun u : mE => m_B G (u.1) (u.2.1) (u.2.2.1) (u.2.2.2.1) (u.2.2.2.2.1) (u.2.2.2.2.2.1) (u.2.2.2.2.2.2.1) (u.2.2.2.2.2.2.2.1) (u.2.2.2.2.2.2.2.2.1) (u.2.2.2.2.2.2.2.2.2)) (m_A G)) 2 12 (m_A G) := by
  refine va_MetW (by decide) rfl ?_
  intro p e s m args below meth c s₁ B hml hv
  obtain ⟨rfl, hB, hcs⟩ := hv
  have hx := B.exec
  have hb := B.bytes
  have hr := B.returns
  have hts := atoms_spec (ws := wsL_scoreBits) B.pre
  have hxt := vx_table (x := yL_scoreBits) B (hts (.codeWith yL_scoreBits cL_scoreBits 4 (some .int) [(0, 9, 12, 20), (0, 9, 15, 30)]) List.mem_cons_self)
  have hown : s.vm.findClass RL = some m.cls := findClass_of_methodNamed B.named
  have hlocks := B.notSynchronized
  have hw := m_wo_in hB
  have hl := lv_entry ([.ref x, .int nn, .ref ao]) (n := 4) (Nat.le_of_ble_eq_true rfl)
  rw [lg_entry_eq]
  generalize (lg_sl ([.ref x, .int nn, .ref ao]) ++ List.replicate (4 - (lg_sl ([.ref x, .int nn, .ref ao])).length) Slot.unset).toArray = ls at hl ⊢
  have hl : lv_has ls 4 [(0, .ref x), (1, .int nn), (2, .ref ao)] := hl
  refine lv_aload_n hx hb dL_scoreBits_0 rfl (lv_at hl 2 rfl) ?_
  refine lv_iconst (v := 0) hx hb dL_scoreBits_1 (by decide) ?_
  refine lv_aload_n hx hb dL_scoreBits_2 rfl (lv_at hl 0 rfl) ?_
  refine lv_iload_n hx hb dL_scoreBits_3 rfl (lv_at hl 1 rfl) ?_
  refine m_xi (vx_runV (As := [.int nn]) (rest := [.int 0, .ref ao]) ⟨hx, hb, hml, hown, hts⟩ (c_X8_scoreBits l hnt hs hz9 h4t h12 hnn hlt hbk) (cwV 1 hts gL_scoreBits_X8_scoreBits rfl rfl rfl (by decide +kernel) ⟨Nat.le_of_ble_eq_true rfl, Nat.le_of_ble_eq_true rfl⟩) ⟨m_blind (fun U g mk a h => ⟨m_B_calling U g mk a h.1, c_str_calling U g mk a h.2⟩), m_recv hw (m_ent_9 hs.1.1) rfl, fun U hU hW => ⟨rfl, m_wo_call hw hU hW, c_str_warm hW hcs⟩⟩ rfl rfl hl.1 rfl (lv_room (Nat.le_of_ble_eq_true rfl)) dL_scoreBits_4 ⟨Nat.le_of_ble_eq_true rfl, Nat.le_of_ble_eq_true rfl⟩) hw (fun E_ ce_ q9_ u_4x H locs hpx hw hce hcv hcl => ?_) (fun r_4 u_4 H locs hp_4 hw => ?_)
  · skip
    obtain ⟨hpx, hE⟩ := hpx
    have hsimx := hs
    have hfrx : c_fr K I R N A K I R N A := c_fr_rf
    have hv9 : (t_typed (o_isl Z nn) Z) = 0 ∨ (t_typed (o_isl Z nn) Z) = 1 ∨ (t_typed (o_isl Z nn) Z) = 2 := (h_tt _ _)
    rcases hv9 with c9_0 | c9_1 | c9_2
    · exact absurd c9_0 hpx
    · skip
      have hE : E_ = "java/lang/IndexOutOfBoundsException" := hE.trans (by rw [if_pos c9_1])
      subst hE
      refine vx_catch (own := RL) (name := "java/lang/IndexOutOfBoundsException") hown [] ⟨0, 9, 12, 20⟩ [⟨0, 9, 15, 30⟩] hxt (fun _ h => absurd h List.not_mem_nil) (by decide) (by decide) (hts (.classLink RL 20 "java/lang/IndexOutOfBoundsException") (by decide +kernel)) (m_wo_cas hw (by decide)) hce hcv hcl ?_
      refine lv_astore_n (lv' := [(3, .ref q9_), (0, .ref x), (1, .int nn), (2, .ref ao)]) hx hb dL_scoreBits_12 rfl hl (by decide) rfl (fun ls hl => ?_)
      refine lv_iconst (v := 1) hx hb dL_scoreBits_13 (by decide) ?_
      exact W.iret (v := 1) hx hb hr (fun t ht hW => ⟨⟨1, (K, I, R, F, A, N, L, T, J, D), rfl, ⟨c9_1.symm, fun z => absurd (c9_1.symm.trans z) (by decide), hsimx, hfrx⟩, m_wo_out hw ht hW.alike⟩, m_wo_F hw ht⟩) (m_wo_L hw) dL_scoreBits_14
    · skip
      have hE : E_ = "java/lang/UnsupportedOperationException" := hE.trans (by rw [if_neg (fun z => absurd (c9_2.symm.trans z) (by decide))])
      subst hE
      refine vx_catch (own := RL) (name := "java/lang/UnsupportedOperationException") hown [⟨0, 9, 12, 20⟩] ⟨0, 9, 15, 30⟩ [] hxt (List.forall_mem_cons.mpr ⟨Or.inr ⟨(by decide : (20 : Nat) ≠ 0), "java/lang/IndexOutOfBoundsException", hts (.classLink RL 20 "java/lang/IndexOutOfBoundsException") (by decide +kernel), hw.2.1.2.2.2.2.2.1 ("java/lang/UnsupportedOperationException", "java/lang/IndexOutOfBoundsException") (by decide)⟩, (fun _ h => absurd h List.not_mem_nil)⟩) (by decide) (by decide) (hts (.classLink RL 30 "java/lang/UnsupportedOperationException") (by decide +kernel)) (m_wo_cas hw (by decide)) hce hcv hcl ?_
      refine lv_astore_n (lv' := [(3, .ref q9_), (0, .ref x), (1, .int nn), (2, .ref ao)]) hx hb dL_scoreBits_15 rfl hl (by decide) rfl (fun ls hl => ?_)
      refine lv_iconst (v := 2) hx hb dL_scoreBits_16 (by decide) ?_
      exact W.iret (v := 2) hx hb hr (fun t ht hW => ⟨⟨2, (K, I, R, F, A, N, L, T, J, D), rfl, ⟨c9_2.symm, fun z => absurd (c9_2.symm.trans z) (by decide), hsimx, hfrx⟩, m_wo_out hw ht hW.alike⟩, m_wo_F hw ht⟩) (m_wo_L hw) dL_scoreBits_17
  have hw : m_wo G K I R F u_4 N L T J D s H locs := hw
  obtain ⟨ht0, rfl, hsim, hfr⟩ := hp_4
  have hka1 : K ao = 35 := (hfr ao (by rw [hka]; simp [c_oth])).1.trans hka
  have hin1 : vp_in 0 (N ao) := h_in ((hfr ao (by rw [hka]; simp [c_oth])).2.1.trans hna)
  refine lv_i2l (v := ((o_bits Z M (L (cd 1)).length (L (cd 0)).length nt nn)).toInt64) hx hb dL_scoreBits_7 rfl ?_
  refine m_lastore_35 hx hb hw hka1 hin1  dL_scoreBits_8 (fun H locs hw => ?_)
  refine lv_goto (tgt := 18) hx hb dL_scoreBits_9 (by decide) ?_
  refine lv_iconst (v := 0) hx hb dL_scoreBits_18 (by decide) ?_
  exact W.iret (v := 0) hx hb hr (fun t ht hW => ⟨⟨0, (K, I, R, F, u_4, N, L, T, m_up J ao (vp_updL (J ao) (0 : Int32).toNatClampNeg (((o_bits Z M (L (cd 1)).length (L (cd 0)).length nt nn)).toInt64)), D), rfl, ⟨ht0.symm, fun _ => h_J, hsim, hfr⟩, m_wo_out hw ht hW.alike⟩, m_wo_F hw ht⟩) (m_wo_L hw) dL_scoreBits_19
set_option maxHeartbeats 1600000 in
set_option maxRecDepth 100000 in
theorem c_L_weight (l : Launch) {G : mG} {K : Nat → Nat} {I : Nat → Nat → Int32} {R : Nat → Nat → Option Nat} {F : Nat → UInt32} {A : Nat → Nat → Int32} {N : Nat → Nat} {L : Nat → List Nat} {T : Nat → List Int32} {J : Nat → Nat → Int64} {D : Nat → Nat → UInt64} {x ao : Nat} {cd : Nat → Nat} {Z : Nat → Int32} {M : Nat → Nat → Int32} {v : Int32} (hnt : l.stackTraces = false) (hs : c_sim K I R N A L T x cd Z M) (h12 : ∀ f, f < (L (cd 1)).length → ∃ i, i < (L (cd 0)).length ∧ M 12 f = nI i) (hne : ∀ h, h ≤ (L (cd 0)).length → vf_n32 (FP.fdiv (FP.i2f (nI (L (cd 0)).length)) (FP.i2f (1 + nI h))) ∧ vf_n32 (o_wt (L (cd 0)).length h)) (hn64 : vf_n64 (FP.f2d (o_wt (L (cd 0)).length (o_has M (L (cd 1)).length (L (cd 0)).length v)))) (hka : K ao = 36) (hna : N ao = 1) : Met l yL_weight wsL_weight ({ frames := 10, cells := 1, slots := 6, locals := 320 } : Room) (va_Pc [.ref x, .int v, .ref ao] (fun U => m_B G K I R F A N L T J D U ∧ c_str U)) (va_Qi (h_ps K I R N A x cd (Z, M) (t_b (o_rng v 0 30)) (fun u => u.2.2.2.2.2.2.2.2.2 ao 0 = FP.f2d (o_wt (L (cd 0)).length (o_has M (L (cd 1)).length (L (cd 0)).length v)))) (fun u : mE => m_B G (u.1) (u.2.1) (u.2.2.1) (u.2.2.2.1) (u.2.2.2.2.1) (u.2.2.2.2.2.1) (u.2.2.2.2.2.2.1) (u.2.2.2.2.2.2.2.1) (u.2.2.2.2.2.2.2.2.1) (u.2.2.2.2.2.2.2.2.2)) (m_A G)) 1 6 (m_A G) := by
  refine va_MetW (by decide) rfl ?_
  intro p e s m args below meth c s₁ B hml hv
  obtain ⟨rfl, hB, hcs⟩ := hv
  have hx := B.exec
  have hb := B.bytes
  have hr := B.returns
  have hts := atoms_spec (ws := wsL_weight) B.pre
  have hxt := vx_table (x := yL_weight) B (hts (.codeWith yL_weight cL_weight 4 (some .int) [(0, 9, 12, 13)]) List.mem_cons_self)
  have hown : s.vm.findClass RL = some m.cls := findClass_of_methodNamed B.named
  have hlocks := B.notSynchronized
  have hw := m_wo_in hB
  have hl := lv_entry ([.ref x, .int v, .ref ao]) (n := 4) (Nat.le_of_ble_eq_true rfl)
  rw [lg_entry_eq]
  generalize (lg_sl ([.ref x, .int v, .ref ao]) ++ List.replicate (4 - (lg_sl ([.ref x, .int v, .ref ao])).length) Slot.unset).toArray = ls at hl ⊢
  have hl : lv_has ls 4 [(0, .ref x), (1, .int v), (2, .ref ao)] := hl
  refine lv_aload_n hx hb dL_weight_0 rfl (lv_at hl 2 rfl) ?_
  refine lv_iconst (v := 0) hx hb dL_weight_1 (by decide) ?_
  refine lv_aload_n hx hb dL_weight_2 rfl (lv_at hl 0 rfl) ?_
  refine lv_iload_n hx hb dL_weight_3 rfl (lv_at hl 1 rfl) ?_
  refine m_xf (vx_runV (As := [.int v]) (rest := [.int 0, .ref ao]) ⟨hx, hb, hml, hown, hts⟩ (c_X8_weight l hnt hs h12 hne) (cwV 1 hts gL_weight_X8_weight rfl rfl rfl (by decide +kernel) ⟨Nat.le_of_ble_eq_true rfl, Nat.le_of_ble_eq_true rfl⟩) ⟨m_blind (fun U g mk a h => ⟨m_B_calling U g mk a h.1, c_str_calling U g mk a h.2⟩), m_recv hw (m_ent_9 hs.1.1) rfl, fun U hU hW => ⟨rfl, m_wo_call hw hU hW, c_str_warm hW hcs⟩⟩ rfl rfl hl.1 rfl (lv_room (Nat.le_of_ble_eq_true rfl)) dL_weight_4 ⟨Nat.le_of_ble_eq_true rfl, Nat.le_of_ble_eq_true rfl⟩) hw (fun E_ ce_ q9_ u_4x H locs hpx hw hce hcv hcl => ?_) (fun r_4 u_4 H locs hp_4 hw => ?_)
  · skip
    obtain ⟨hpx, hE⟩ := hpx
    have hsimx := hs
    have hfrx : c_fr K I R N A K I R N A := c_fr_rf
    have hv9 : (t_b (o_rng v 0 30)) = 0 ∨ (t_b (o_rng v 0 30)) = 1 := (h_tb _)
    rcases hv9 with c9_0 | c9_1
    · exact absurd c9_0 hpx
    · skip
      have hE : E_ = "java/lang/IllegalArgumentException" := hE
      subst hE
      refine vx_catch (own := RL) (name := "java/lang/IllegalArgumentException") hown [] ⟨0, 9, 12, 13⟩ [] hxt (fun _ h => absurd h List.not_mem_nil) (by decide) (by decide) (hts (.classLink RL 13 "java/lang/IllegalArgumentException") (by decide +kernel)) (m_wo_cas hw (by decide)) hce hcv hcl ?_
      refine lv_astore_n (lv' := [(3, .ref q9_), (0, .ref x), (1, .int v), (2, .ref ao)]) hx hb dL_weight_12 rfl hl (by decide) rfl (fun ls hl => ?_)
      refine lv_iconst (v := 1) hx hb dL_weight_13 (by decide) ?_
      exact W.iret (v := 1) hx hb hr (fun t ht hW => ⟨⟨1, (K, I, R, F, A, N, L, T, J, D), rfl, ⟨c9_1.symm, fun z => absurd (c9_1.symm.trans z) (by decide), hsimx, hfrx⟩, m_wo_out hw ht hW.alike⟩, m_wo_F hw ht⟩) (m_wo_L hw) dL_weight_14
  obtain ⟨ht0, rfl⟩ := hp_4
  have hsim := hs
  have hfr : c_fr K I R N A K I R N A := c_fr_rf
  have hka1 : K ao = 36 := (hfr ao (by rw [hka]; simp [c_oth])).1.trans hka
  have hin1 : vp_in 0 (N ao) := h_in ((hfr ao (by rw [hka]; simp [c_oth])).2.1.trans hna)
  refine lv_f2d hx hb dL_weight_7 hn64 ?_
  refine m_dastore_36 hx hb hw hka1 hin1  dL_weight_8 (fun H locs hw => ?_)
  refine lv_goto (tgt := 15) hx hb dL_weight_9 (by decide) ?_
  refine lv_iconst (v := 0) hx hb dL_weight_15 (by decide) ?_
  exact W.iret (v := 0) hx hb hr (fun t ht hW => ⟨⟨0, (K, I, R, F, A, N, L, T, J, m_up D ao (vf_upd (D ao) (0 : Int32).toNatClampNeg (FP.f2d (o_wt (L (cd 0)).length (o_has M (L (cd 1)).length (L (cd 0)).length v))))), rfl, ⟨ht0.symm, fun _ => h_D, hsim, hfr⟩, m_wo_out hw ht hW.alike⟩, m_wo_F hw ht⟩) (m_wo_L hw) dL_weight_16
set_option maxHeartbeats 1600000 in
set_option maxRecDepth 100000 in
theorem c_L_sail (l : Launch) {G : mG} {K : Nat → Nat} {I : Nat → Nat → Int32} {R : Nat → Nat → Option Nat} {F : Nat → UInt32} {A : Nat → Nat → Int32} {N : Nat → Nat} {L : Nat → List Nat} {T : Nat → List Int32} {J : Nat → Nat → Int64} {D : Nat → Nat → UInt64} {x ao : Nat} {cd : Nat → Nat} {Z : Nat → Int32} {M : Nat → Nat → Int32} {nn : Int32} {nt : Nat} (hnt : l.stackTraces = false) (hs : c_sim K I R N A L T x cd Z M) (hz9 : Z 29 = nI nt) (h4t : nt ≤ 4) (h12 : ∀ f, f < (L (cd 1)).length → ∃ i, i < (L (cd 0)).length ∧ M 12 f = nI i) (hnn : 0 < Z 29 → o_nan (o_askT (Z, M)).1 (o_askT (Z, M)).2 (L (cd 1)).length (L (cd 0)).length nt) (hky : 0 < Z 29 → o_keys Z M (L (cd 1)).length (L (cd 0)).length nt) (hxy : ∀ s t, s < (L (cd 5)).length → t < (L (cd 0)).length → ∃ n, n < 30000 ∧ o_far M s t = nI n) (hka : K ao = 35) (hna : N ao = 1) : Met l yL_sail wsL_sail ({ frames := 12, cells := 3, slots := 18, locals := 520 } : Room) (va_Pc [.ref x, .int nn, .ref ao] (fun U => m_B G K I R F A N L T J D U ∧ c_str U)) (va_Qi (h_ps K I R N A x cd (p_sail Z M (L (cd 1)).length (L (cd 0)).length nt nn) (t_sail Z M (L (cd 1)).length (L (cd 0)).length nt nn) (fun u => u.2.2.2.2.2.2.2.2.1 ao 0 = (o_goal Z M (L (cd 1)).length (L (cd 0)).length nt nn.toNatClampNeg).toInt64)) (fun u : mE => m_B G (u.1) (u.2.1) (u.2.2.1) (u.2.2.2.1) (u.2.2.2.2.1) (u.2.2.2.2.2.1) (u.2.2.2.2.2.2.1) (u.2.2.2.2.2.2.2.1) (u.2.2.2.2.2.2.2.2.1) (u.2.2.2.2.2.2.2.2.2)) (m_A G)) 3 18 (m_A G) := by
  refine va_MetW (by decide) rfl ?_
  intro p e s m args below meth c s₁ B hml hv
  obtain ⟨rfl, hB, hcs⟩ := hv
  have hx := B.exec
  have hb := B.bytes
  have hr := B.returns
  have hts := atoms_spec (ws := wsL_sail) B.pre
  have hxt := vx_table (x := yL_sail) B (hts (.codeWith yL_sail cL_sail 4 (some .int) [(0, 9, 12, 20), (0, 9, 15, 30), (0, 9, 18, 36), (0, 9, 21, 15)]) List.mem_cons_self)
  have hown : s.vm.findClass RL = some m.cls := findClass_of_methodNamed B.named
  have hlocks := B.notSynchronized
  have hw := m_wo_in hB
  have hl := lv_entry ([.ref x, .int nn, .ref ao]) (n := 4) (Nat.le_of_ble_eq_true rfl)
  rw [lg_entry_eq]
  generalize (lg_sl ([.ref x, .int nn, .ref ao]) ++ List.replicate (4 - (lg_sl ([.ref x, .int nn, .ref ao])).length) Slot.unset).toArray = ls at hl ⊢
  have hl : lv_has ls 4 [(0, .ref x), (1, .int nn), (2, .ref ao)] := hl
  refine lv_aload_n hx hb dL_sail_0 rfl (lv_at hl 2 rfl) ?_
  refine lv_iconst (v := 0) hx hb dL_sail_1 (by decide) ?_
  refine lv_aload_n hx hb dL_sail_2 rfl (lv_at hl 0 rfl) ?_
  refine lv_iload_n hx hb dL_sail_3 rfl (lv_at hl 1 rfl) ?_
  refine m_xi (vx_runV (As := [.int nn]) (rest := [.int 0, .ref ao]) ⟨hx, hb, hml, hown, hts⟩ (c_X8_sail l hnt hs hz9 h4t h12 hnn hky hxy) (cwV 1 hts gL_sail_X8_sail rfl rfl rfl (by decide +kernel) ⟨Nat.le_of_ble_eq_true rfl, Nat.le_of_ble_eq_true rfl⟩) ⟨m_blind (fun U g mk a h => ⟨m_B_calling U g mk a h.1, c_str_calling U g mk a h.2⟩), m_recv hw (m_ent_9 hs.1.1) rfl, fun U hU hW => ⟨rfl, m_wo_call hw hU hW, c_str_warm hW hcs⟩⟩ rfl rfl hl.1 rfl (lv_room (Nat.le_of_ble_eq_true rfl)) dL_sail_4 ⟨Nat.le_of_ble_eq_true rfl, Nat.le_of_ble_eq_true rfl⟩) hw (fun E_ ce_ q9_ u_4x H locs hpx hw hce hcv hcl => ?_) (fun r_4 u_4 H locs hp_4 hw => ?_)
  · skip
    obtain ⟨⟨hpx, hsimx, hfrx⟩, hE⟩ := hpx
    have hw : m_wo G K (u_4x.1) R (u_4x.2.1) (u_4x.2.2.1) N L (u_4x.2.2.2) J D s H locs := hw
    have hv9 : (t_sail Z M (L (cd 1)).length (L (cd 0)).length nt nn) = 0 ∨ (t_sail Z M (L (cd 1)).length (L (cd 0)).length nt nn) = 1 ∨ (t_sail Z M (L (cd 1)).length (L (cd 0)).length nt nn) = 2 ∨ (t_sail Z M (L (cd 1)).length (L (cd 0)).length nt nn) = 3 ∨ (t_sail Z M (L (cd 1)).length (L (cd 0)).length nt nn) = 4 := (by unfold t_sail t_sail0; (repeat' split) <;> simp)
    rcases hv9 with c9_0 | c9_1 | c9_2 | c9_3 | c9_4
    · exact absurd c9_0 hpx
    · skip
      have hE : E_ = "java/lang/IndexOutOfBoundsException" := hE.trans (by rw [if_pos c9_1])
      subst hE
      refine vx_catch (own := RL) (name := "java/lang/IndexOutOfBoundsException") hown [] ⟨0, 9, 12, 20⟩ [⟨0, 9, 15, 30⟩, ⟨0, 9, 18, 36⟩, ⟨0, 9, 21, 15⟩] hxt (fun _ h => absurd h List.not_mem_nil) (by decide) (by decide) (hts (.classLink RL 20 "java/lang/IndexOutOfBoundsException") (by decide +kernel)) (m_wo_cas hw (by decide)) hce hcv hcl ?_
      refine lv_astore_n (lv' := [(3, .ref q9_), (0, .ref x), (1, .int nn), (2, .ref ao)]) hx hb dL_sail_12 rfl hl (by decide) rfl (fun ls hl => ?_)
      refine lv_iconst (v := 1) hx hb dL_sail_13 (by decide) ?_
      exact W.iret (v := 1) hx hb hr (fun t ht hW => ⟨⟨1, (K, u_4x.1, R, u_4x.2.1, u_4x.2.2.1, N, L, u_4x.2.2.2, J, D), rfl, ⟨c9_1.symm, fun z => absurd (c9_1.symm.trans z) (by decide), hsimx, hfrx⟩, m_wo_out hw ht hW.alike⟩, m_wo_F hw ht⟩) (m_wo_L hw) dL_sail_14
    · skip
      have hE : E_ = "java/lang/UnsupportedOperationException" := hE.trans (by rw [if_neg (fun z => absurd (c9_2.symm.trans z) (by decide)), if_pos c9_2])
      subst hE
      refine vx_catch (own := RL) (name := "java/lang/UnsupportedOperationException") hown [⟨0, 9, 12, 20⟩] ⟨0, 9, 15, 30⟩ [⟨0, 9, 18, 36⟩, ⟨0, 9, 21, 15⟩] hxt (List.forall_mem_cons.mpr ⟨Or.inr ⟨(by decide : (20 : Nat) ≠ 0), "java/lang/IndexOutOfBoundsException", hts (.classLink RL 20 "java/lang/IndexOutOfBoundsException") (by decide +kernel), hw.2.1.2.2.2.2.2.1 ("java/lang/UnsupportedOperationException", "java/lang/IndexOutOfBoundsException") (by decide)⟩, (fun _ h => absurd h List.not_mem_nil)⟩) (by decide) (by decide) (hts (.classLink RL 30 "java/lang/UnsupportedOperationException") (by decide +kernel)) (m_wo_cas hw (by decide)) hce hcv hcl ?_
      refine lv_astore_n (lv' := [(3, .ref q9_), (0, .ref x), (1, .int nn), (2, .ref ao)]) hx hb dL_sail_15 rfl hl (by decide) rfl (fun ls hl => ?_)
      refine lv_iconst (v := 2) hx hb dL_sail_16 (by decide) ?_
      exact W.iret (v := 2) hx hb hr (fun t ht hW => ⟨⟨2, (K, u_4x.1, R, u_4x.2.1, u_4x.2.2.1, N, L, u_4x.2.2.2, J, D), rfl, ⟨c9_2.symm, fun z => absurd (c9_2.symm.trans z) (by decide), hsimx, hfrx⟩, m_wo_out hw ht hW.alike⟩, m_wo_F hw ht⟩) (m_wo_L hw) dL_sail_17
    · skip
      have hE : E_ = "java/util/NoSuchElementException" := hE.trans (by rw [if_neg (fun z => absurd (c9_3.symm.trans z) (by decide)), if_neg (fun z => absurd (c9_3.symm.trans z) (by decide)), if_pos c9_3])
      subst hE
      refine vx_catch (own := RL) (name := "java/util/NoSuchElementException") hown [⟨0, 9, 12, 20⟩, ⟨0, 9, 15, 30⟩] ⟨0, 9, 18, 36⟩ [⟨0, 9, 21, 15⟩] hxt (List.forall_mem_cons.mpr ⟨Or.inr ⟨(by decide : (20 : Nat) ≠ 0), "java/lang/IndexOutOfBoundsException", hts (.classLink RL 20 "java/lang/IndexOutOfBoundsException") (by decide +kernel), hw.2.1.2.2.2.2.2.1 ("java/util/NoSuchElementException", "java/lang/IndexOutOfBoundsException") (by decide)⟩, (List.forall_mem_cons.mpr ⟨Or.inr ⟨(by decide : (30 : Nat) ≠ 0), "java/lang/UnsupportedOperationException", hts (.classLink RL 30 "java/lang/UnsupportedOperationException") (by decide +kernel), hw.2.1.2.2.2.2.2.1 ("java/util/NoSuchElementException", "java/lang/UnsupportedOperationException") (by decide)⟩, (fun _ h => absurd h List.not_mem_nil)⟩)⟩) (by decide) (by decide) (hts (.classLink RL 36 "java/util/NoSuchElementException") (by decide +kernel)) (m_wo_cas hw (by decide)) hce hcv hcl ?_
      refine lv_astore_n (lv' := [(3, .ref q9_), (0, .ref x), (1, .int nn), (2, .ref ao)]) hx hb dL_sail_18 rfl hl (by decide) rfl (fun ls hl => ?_)
      refine lv_iconst (v := 3) hx hb dL_sail_19 (by decide) ?_
      exact W.iret (v := 3) hx hb hr (fun t ht hW => ⟨⟨3, (K, u_4x.1, R, u_4x.2.1, u_4x.2.2.1, N, L, u_4x.2.2.2, J, D), rfl, ⟨c9_3.symm, fun z => absurd (c9_3.symm.trans z) (by decide), hsimx, hfrx⟩, m_wo_out hw ht hW.alike⟩, m_wo_F hw ht⟩) (m_wo_L hw) dL_sail_20
    · skip
      have hE : E_ = "java/lang/IllegalStateException" := hE.trans (by rw [if_neg (fun z => absurd (c9_4.symm.trans z) (by decide)), if_neg (fun z => absurd (c9_4.symm.trans z) (by decide)), if_neg (fun z => absurd (c9_4.symm.trans z) (by decide))])
      subst hE
      refine vx_catch (own := RL) (name := "java/lang/IllegalStateException") hown [⟨0, 9, 12, 20⟩, ⟨0, 9, 15, 30⟩, ⟨0, 9, 18, 36⟩] ⟨0, 9, 21, 15⟩ [] hxt (List.forall_mem_cons.mpr ⟨Or.inr ⟨(by decide : (20 : Nat) ≠ 0), "java/lang/IndexOutOfBoundsException", hts (.classLink RL 20 "java/lang/IndexOutOfBoundsException") (by decide +kernel), hw.2.1.2.2.2.2.2.1 ("java/lang/IllegalStateException", "java/lang/IndexOutOfBoundsException") (by decide)⟩, (List.forall_mem_cons.mpr ⟨Or.inr ⟨(by decide : (30 : Nat) ≠ 0), "java/lang/UnsupportedOperationException", hts (.classLink RL 30 "java/lang/UnsupportedOperationException") (by decide +kernel), hw.2.1.2.2.2.2.2.1 ("java/lang/IllegalStateException", "java/lang/UnsupportedOperationException") (by decide)⟩, (List.forall_mem_cons.mpr ⟨Or.inr ⟨(by decide : (36 : Nat) ≠ 0), "java/util/NoSuchElementException", hts (.classLink RL 36 "java/util/NoSuchElementException") (by decide +kernel), hw.2.1.2.2.2.2.2.1 ("java/lang/IllegalStateException", "java/util/NoSuchElementException") (by decide)⟩, (fun _ h => absurd h List.not_mem_nil)⟩)⟩)⟩) (by decide) (by decide) (hts (.classLink RL 15 "java/lang/IllegalStateException") (by decide +kernel)) (m_wo_cas hw (by decide)) hce hcv hcl ?_
      refine lv_astore_n (lv' := [(3, .ref q9_), (0, .ref x), (1, .int nn), (2, .ref ao)]) hx hb dL_sail_21 rfl hl (by decide) rfl (fun ls hl => ?_)
      refine lv_iconst (v := 4) hx hb dL_sail_22 (by decide) ?_
      exact W.iret (v := 4) hx hb hr (fun t ht hW => ⟨⟨4, (K, u_4x.1, R, u_4x.2.1, u_4x.2.2.1, N, L, u_4x.2.2.2, J, D), rfl, ⟨c9_4.symm, fun z => absurd (c9_4.symm.trans z) (by decide), hsimx, hfrx⟩, m_wo_out hw ht hW.alike⟩, m_wo_F hw ht⟩) (m_wo_L hw) dL_sail_23
  obtain ⟨I_1, R_2, F_3, A_4⟩ := u_4
  have hw : m_wo G K I_1 R_2 F_3 A_4 N L T J D s H locs := hw
  dsimp only at hp_4
  obtain ⟨ht0, rfl, hsim, hfr⟩ := hp_4
  have hka1 : K ao = 35 := (hfr ao (by rw [hka]; simp [c_oth])).1.trans hka
  have hin1 : vp_in 0 (N ao) := h_in ((hfr ao (by rw [hka]; simp [c_oth])).2.1.trans hna)
  refine lv_i2l (v := ((o_goal Z M (L (cd 1)).length (L (cd 0)).length nt nn.toNatClampNeg)).toInt64) hx hb dL_sail_7 rfl ?_
  refine m_lastore_35 hx hb hw hka1 hin1  dL_sail_8 (fun H locs hw => ?_)
  refine lv_goto (tgt := 24) hx hb dL_sail_9 (by decide) ?_
  refine lv_iconst (v := 0) hx hb dL_sail_24 (by decide) ?_
  exact W.iret (v := 0) hx hb hr (fun t ht hW => ⟨⟨0, (K, I_1, R_2, F_3, A_4, N, L, T, m_up J ao (vp_updL (J ao) (0 : Int32).toNatClampNeg (((o_goal Z M (L (cd 1)).length (L (cd 0)).length nt nn.toNatClampNeg)).toInt64)), D), rfl, ⟨ht0.symm, fun _ => h_J, hsim, hfr⟩, m_wo_out hw ht hW.alike⟩, m_wo_F hw ht⟩) (m_wo_L hw) dL_sail_25
set_option maxHeartbeats 1600000 in
set_option maxRecDepth 100000 in
theorem c_L_dig (l : Launch) {G : mG} {K : Nat → Nat} {I : Nat → Nat → Int32} {R : Nat → Nat → Option Nat} {F : Nat → UInt32} {A : Nat → Nat → Int32} {N : Nat → Nat} {L : Nat → List Nat} {T : Nat → List Int32} {J : Nat → Nat → Int64} {D : Nat → Nat → UInt64} {x ao : Nat} {cd : Nat → Nat} {Z : Nat → Int32} {M : Nat → Nat → Int32} {nn : Int32} (hnt : l.stackTraces = false) (hs : c_sim K I R N A L T x cd Z M) (hlt : ∀ s, o_still Z M s < 2 ^ 31) (h9 : ∀ j, ¬ M 9 j = -1) (hka : K ao = 35) (hna : N ao = 1) : Met l yL_dig wsL_dig ({ frames := 11, cells := 2, slots := 12, locals := 400 } : Room) (va_Pc [.ref x, .int nn, .ref ao] (fun U => m_B G K I R F A N L T J D U ∧ c_str U)) (va_Qi (h_ps K I R N A x cd (if t_dig Z M nn = 0 then (Z, p_dig M nn.toNatClampNeg) else (Z, M)) (t_dig Z M nn) (fun u => u.2.2.2.2.2.2.2.2.1 ao 0 = (M 9 (M 18 nn.toNatClampNeg).toNatClampNeg).toInt64)) (fun u : mE => m_B G (u.1) (u.2.1) (u.2.2.1) (u.2.2.2.1) (u.2.2.2.2.1) (u.2.2.2.2.2.1) (u.2.2.2.2.2.2.1) (u.2.2.2.2.2.2.2.1) (u.2.2.2.2.2.2.2.2.1) (u.2.2.2.2.2.2.2.2.2)) (m_A G)) 2 12 (m_A G) := by
  refine va_MetW (by decide) rfl ?_
  intro p e s m args below meth c s₁ B hml hv
  obtain ⟨rfl, hB, hcs⟩ := hv
  have hx := B.exec
  have hb := B.bytes
  have hr := B.returns
  have hts := atoms_spec (ws := wsL_dig) B.pre
  have hxt := vx_table (x := yL_dig) B (hts (.codeWith yL_dig cL_dig 4 (some .int) [(0, 9, 12, 20), (0, 9, 15, 30)]) List.mem_cons_self)
  have hown : s.vm.findClass RL = some m.cls := findClass_of_methodNamed B.named
  have hlocks := B.notSynchronized
  have hw := m_wo_in hB
  have hl := lv_entry ([.ref x, .int nn, .ref ao]) (n := 4) (Nat.le_of_ble_eq_true rfl)
  rw [lg_entry_eq]
  generalize (lg_sl ([.ref x, .int nn, .ref ao]) ++ List.replicate (4 - (lg_sl ([.ref x, .int nn, .ref ao])).length) Slot.unset).toArray = ls at hl ⊢
  have hl : lv_has ls 4 [(0, .ref x), (1, .int nn), (2, .ref ao)] := hl
  refine lv_aload_n hx hb dL_dig_0 rfl (lv_at hl 2 rfl) ?_
  refine lv_iconst (v := 0) hx hb dL_dig_1 (by decide) ?_
  refine lv_aload_n hx hb dL_dig_2 rfl (lv_at hl 0 rfl) ?_
  refine lv_iload_n hx hb dL_dig_3 rfl (lv_at hl 1 rfl) ?_
  refine m_xi (vx_runV (As := [.int nn]) (rest := [.int 0, .ref ao]) ⟨hx, hb, hml, hown, hts⟩ (c_X8_dig l hnt hs hlt h9) (cwV 1 hts gL_dig_X8_dig rfl rfl rfl (by decide +kernel) ⟨Nat.le_of_ble_eq_true rfl, Nat.le_of_ble_eq_true rfl⟩) ⟨m_blind (fun U g mk a h => ⟨m_B_calling U g mk a h.1, c_str_calling U g mk a h.2⟩), m_recv hw (m_ent_9 hs.1.1) rfl, fun U hU hW => ⟨rfl, m_wo_call hw hU hW, c_str_warm hW hcs⟩⟩ rfl rfl hl.1 rfl (lv_room (Nat.le_of_ble_eq_true rfl)) dL_dig_4 ⟨Nat.le_of_ble_eq_true rfl, Nat.le_of_ble_eq_true rfl⟩) hw (fun E_ ce_ q9_ u_4x H locs hpx hw hce hcv hcl => ?_) (fun r_4 u_4 H locs hp_4 hw => ?_)
  · skip
    obtain ⟨⟨hpx, hsimx, hfrx⟩, hE⟩ := hpx
    have hw : m_wo G K I R F u_4x N L T J D s H locs := hw
    have hv9 : (t_dig Z M nn) = 0 ∨ (t_dig Z M nn) = 1 ∨ (t_dig Z M nn) = 2 := (by unfold t_dig; (repeat' split) <;> simp)
    rcases hv9 with c9_0 | c9_1 | c9_2
    · exact absurd c9_0 hpx
    · skip
      have hE : E_ = "java/lang/IndexOutOfBoundsException" := hE.trans (by rw [if_pos c9_1])
      subst hE
      refine vx_catch (own := RL) (name := "java/lang/IndexOutOfBoundsException") hown [] ⟨0, 9, 12, 20⟩ [⟨0, 9, 15, 30⟩] hxt (fun _ h => absurd h List.not_mem_nil) (by decide) (by decide) (hts (.classLink RL 20 "java/lang/IndexOutOfBoundsException") (by decide +kernel)) (m_wo_cas hw (by decide)) hce hcv hcl ?_
      refine lv_astore_n (lv' := [(3, .ref q9_), (0, .ref x), (1, .int nn), (2, .ref ao)]) hx hb dL_dig_12 rfl hl (by decide) rfl (fun ls hl => ?_)
      refine lv_iconst (v := 1) hx hb dL_dig_13 (by decide) ?_
      exact W.iret (v := 1) hx hb hr (fun t ht hW => ⟨⟨1, (K, I, R, F, u_4x, N, L, T, J, D), rfl, ⟨c9_1.symm, fun z => absurd (c9_1.symm.trans z) (by decide), (by rw [if_neg hpx]; exact hsimx), hfrx⟩, m_wo_out hw ht hW.alike⟩, m_wo_F hw ht⟩) (m_wo_L hw) dL_dig_14
    · skip
      have hE : E_ = "java/lang/UnsupportedOperationException" := hE.trans (by rw [if_neg (fun z => absurd (c9_2.symm.trans z) (by decide))])
      subst hE
      refine vx_catch (own := RL) (name := "java/lang/UnsupportedOperationException") hown [⟨0, 9, 12, 20⟩] ⟨0, 9, 15, 30⟩ [] hxt (List.forall_mem_cons.mpr ⟨Or.inr ⟨(by decide : (20 : Nat) ≠ 0), "java/lang/IndexOutOfBoundsException", hts (.classLink RL 20 "java/lang/IndexOutOfBoundsException") (by decide +kernel), hw.2.1.2.2.2.2.2.1 ("java/lang/UnsupportedOperationException", "java/lang/IndexOutOfBoundsException") (by decide)⟩, (fun _ h => absurd h List.not_mem_nil)⟩) (by decide) (by decide) (hts (.classLink RL 30 "java/lang/UnsupportedOperationException") (by decide +kernel)) (m_wo_cas hw (by decide)) hce hcv hcl ?_
      refine lv_astore_n (lv' := [(3, .ref q9_), (0, .ref x), (1, .int nn), (2, .ref ao)]) hx hb dL_dig_15 rfl hl (by decide) rfl (fun ls hl => ?_)
      refine lv_iconst (v := 2) hx hb dL_dig_16 (by decide) ?_
      exact W.iret (v := 2) hx hb hr (fun t ht hW => ⟨⟨2, (K, I, R, F, u_4x, N, L, T, J, D), rfl, ⟨c9_2.symm, fun z => absurd (c9_2.symm.trans z) (by decide), (by rw [if_neg hpx]; exact hsimx), hfrx⟩, m_wo_out hw ht hW.alike⟩, m_wo_F hw ht⟩) (m_wo_L hw) dL_dig_17
  obtain ⟨I_1, A_2⟩ := u_4
  have hw : m_wo G K I_1 R F A_2 N L T J D s H locs := hw
  dsimp only at hp_4
  obtain ⟨ht0, rfl, hsim, hfr⟩ := hp_4
  have hka1 : K ao = 35 := (hfr ao (by rw [hka]; simp [c_oth])).1.trans hka
  have hin1 : vp_in 0 (N ao) := h_in ((hfr ao (by rw [hka]; simp [c_oth])).2.1.trans hna)
  refine lv_i2l (v := ((M 9 (M 18 nn.toNatClampNeg).toNatClampNeg)).toInt64) hx hb dL_dig_7 rfl ?_
  refine m_lastore_35 hx hb hw hka1 hin1  dL_dig_8 (fun H locs hw => ?_)
  refine lv_goto (tgt := 18) hx hb dL_dig_9 (by decide) ?_
  refine lv_iconst (v := 0) hx hb dL_dig_18 (by decide) ?_
  exact W.iret (v := 0) hx hb hr (fun t ht hW => ⟨⟨0, (K, I_1, R, F, A_2, N, L, T, m_up J ao (vp_updL (J ao) (0 : Int32).toNatClampNeg (((M 9 (M 18 nn.toNatClampNeg).toNatClampNeg)).toInt64)), D), rfl, ⟨ht0.symm, fun _ => h_J, (by rw [if_pos ht0]; exact hsim), hfr⟩, m_wo_out hw ht hW.alike⟩, m_wo_F hw ht⟩) (m_wo_L hw) dL_dig_19
set_option maxHeartbeats 1600000 in
set_option maxRecDepth 100000 in
theorem c_L_strike (l : Launch) {G : mG} {K : Nat → Nat} {I : Nat → Nat → Int32} {R : Nat → Nat → Option Nat} {F : Nat → UInt32} {A : Nat → Nat → Int32} {N : Nat → Nat} {L : Nat → List Nat} {T : Nat → List Int32} {J : Nat → Nat → Int64} {D : Nat → Nat → UInt64} {x ao : Nat} {cd : Nat → Nat} {Z : Nat → Int32} {M : Nat → Nat → Int32} {nn : Int32} (hnt : l.stackTraces = false) (hs : c_sim K I R N A L T x cd Z M) (hka : K ao = 35) (hna : N ao = 1) : Met l yL_strike wsL_strike ({ frames := 12, cells := 2, slots := 12, locals := 440 } : Room) (va_Pc [.ref x, .int nn, .ref ao] (fun U => m_B G K I R F A N L T J D U ∧ c_str U)) (va_Qi (h_ps K I R N A x cd (if t_strike Z M nn = 0 then (Z, (p_strike Z M nn.toNatClampNeg).2) else (Z, M)) (t_strike Z M nn) (fun u => u.2.2.2.2.2.2.2.2.1 ao 0 = (nI (p_strike Z M nn.toNatClampNeg).1).toInt64)) (fun u : mE => m_B G (u.1) (u.2.1) (u.2.2.1) (u.2.2.2.1) (u.2.2.2.2.1) (u.2.2.2.2.2.1) (u.2.2.2.2.2.2.1) (u.2.2.2.2.2.2.2.1) (u.2.2.2.2.2.2.2.2.1) (u.2.2.2.2.2.2.2.2.2)) (m_A G)) 2 12 (m_A G) := by
  refine va_MetW (by decide) rfl ?_
  intro p e s m args below meth c s₁ B hml hv
  obtain ⟨rfl, hB, hcs⟩ := hv
  have hx := B.exec
  have hb := B.bytes
  have hr := B.returns
  have hts := atoms_spec (ws := wsL_strike) B.pre
  have hxt := vx_table (x := yL_strike) B (hts (.codeWith yL_strike cL_strike 4 (some .int) [(0, 9, 12, 20), (0, 9, 15, 30)]) List.mem_cons_self)
  have hown : s.vm.findClass RL = some m.cls := findClass_of_methodNamed B.named
  have hlocks := B.notSynchronized
  have hw := m_wo_in hB
  have hl := lv_entry ([.ref x, .int nn, .ref ao]) (n := 4) (Nat.le_of_ble_eq_true rfl)
  rw [lg_entry_eq]
  generalize (lg_sl ([.ref x, .int nn, .ref ao]) ++ List.replicate (4 - (lg_sl ([.ref x, .int nn, .ref ao])).length) Slot.unset).toArray = ls at hl ⊢
  have hl : lv_has ls 4 [(0, .ref x), (1, .int nn), (2, .ref ao)] := hl
  refine lv_aload_n hx hb dL_strike_0 rfl (lv_at hl 2 rfl) ?_
  refine lv_iconst (v := 0) hx hb dL_strike_1 (by decide) ?_
  refine lv_aload_n hx hb dL_strike_2 rfl (lv_at hl 0 rfl) ?_
  refine lv_iload_n hx hb dL_strike_3 rfl (lv_at hl 1 rfl) ?_
  refine m_xi (vx_runV (As := [.int nn]) (rest := [.int 0, .ref ao]) ⟨hx, hb, hml, hown, hts⟩ (c_X8_strike l hnt hs) (cwV 1 hts gL_strike_X8_strike rfl rfl rfl (by decide +kernel) ⟨Nat.le_of_ble_eq_true rfl, Nat.le_of_ble_eq_true rfl⟩) ⟨m_blind (fun U g mk a h => ⟨m_B_calling U g mk a h.1, c_str_calling U g mk a h.2⟩), m_recv hw (m_ent_9 hs.1.1) rfl, fun U hU hW => ⟨rfl, m_wo_call hw hU hW, c_str_warm hW hcs⟩⟩ rfl rfl hl.1 rfl (lv_room (Nat.le_of_ble_eq_true rfl)) dL_strike_4 ⟨Nat.le_of_ble_eq_true rfl, Nat.le_of_ble_eq_true rfl⟩) hw (fun E_ ce_ q9_ u_4x H locs hpx hw hce hcv hcl => ?_) (fun r_4 u_4 H locs hp_4 hw => ?_)
  · skip
    obtain ⟨hpx, hE⟩ := hpx
    have hsimx := hs
    have hfrx : c_fr K I R N A K I R N A := c_fr_rf
    have hv9 : (t_strike Z M nn) = 0 ∨ (t_strike Z M nn) = 1 ∨ (t_strike Z M nn) = 2 := (by unfold t_strike; (repeat' split) <;> simp)
    rcases hv9 with c9_0 | c9_1 | c9_2
    · exact absurd c9_0 hpx
    · skip
      have hE : E_ = "java/lang/IndexOutOfBoundsException" := hE.trans (by rw [if_pos c9_1])
      subst hE
      refine vx_catch (own := RL) (name := "java/lang/IndexOutOfBoundsException") hown [] ⟨0, 9, 12, 20⟩ [⟨0, 9, 15, 30⟩] hxt (fun _ h => absurd h List.not_mem_nil) (by decide) (by decide) (hts (.classLink RL 20 "java/lang/IndexOutOfBoundsException") (by decide +kernel)) (m_wo_cas hw (by decide)) hce hcv hcl ?_
      refine lv_astore_n (lv' := [(3, .ref q9_), (0, .ref x), (1, .int nn), (2, .ref ao)]) hx hb dL_strike_12 rfl hl (by decide) rfl (fun ls hl => ?_)
      refine lv_iconst (v := 1) hx hb dL_strike_13 (by decide) ?_
      exact W.iret (v := 1) hx hb hr (fun t ht hW => ⟨⟨1, (K, I, R, F, A, N, L, T, J, D), rfl, ⟨c9_1.symm, fun z => absurd (c9_1.symm.trans z) (by decide), (by rw [if_neg hpx]; exact hsimx), hfrx⟩, m_wo_out hw ht hW.alike⟩, m_wo_F hw ht⟩) (m_wo_L hw) dL_strike_14
    · skip
      have hE : E_ = "java/lang/UnsupportedOperationException" := hE.trans (by rw [if_neg (fun z => absurd (c9_2.symm.trans z) (by decide))])
      subst hE
      refine vx_catch (own := RL) (name := "java/lang/UnsupportedOperationException") hown [⟨0, 9, 12, 20⟩] ⟨0, 9, 15, 30⟩ [] hxt (List.forall_mem_cons.mpr ⟨Or.inr ⟨(by decide : (20 : Nat) ≠ 0), "java/lang/IndexOutOfBoundsException", hts (.classLink RL 20 "java/lang/IndexOutOfBoundsException") (by decide +kernel), hw.2.1.2.2.2.2.2.1 ("java/lang/UnsupportedOperationException", "java/lang/IndexOutOfBoundsException") (by decide)⟩, (fun _ h => absurd h List.not_mem_nil)⟩) (by decide) (by decide) (hts (.classLink RL 30 "java/lang/UnsupportedOperationException") (by decide +kernel)) (m_wo_cas hw (by decide)) hce hcv hcl ?_
      refine lv_astore_n (lv' := [(3, .ref q9_), (0, .ref x), (1, .int nn), (2, .ref ao)]) hx hb dL_strike_15 rfl hl (by decide) rfl (fun ls hl => ?_)
      refine lv_iconst (v := 2) hx hb dL_strike_16 (by decide) ?_
      exact W.iret (v := 2) hx hb hr (fun t ht hW => ⟨⟨2, (K, I, R, F, A, N, L, T, J, D), rfl, ⟨c9_2.symm, fun z => absurd (c9_2.symm.trans z) (by decide), (by rw [if_neg hpx]; exact hsimx), hfrx⟩, m_wo_out hw ht hW.alike⟩, m_wo_F hw ht⟩) (m_wo_L hw) dL_strike_17
  obtain ⟨I_1, R_2, A_3, L_4⟩ := u_4
  have hw : m_wo G K I_1 R_2 F A_3 N L_4 T J D s H locs := hw
  dsimp only at hp_4
  obtain ⟨ht0, rfl, hsim, hfr⟩ := hp_4
  have hka1 : K ao = 35 := (hfr ao (by rw [hka]; simp [c_oth])).1.trans hka
  have hin1 : vp_in 0 (N ao) := h_in ((hfr ao (by rw [hka]; simp [c_oth])).2.1.trans hna)
  refine lv_i2l (v := ((nI (p_strike Z M nn.toNatClampNeg).1)).toInt64) hx hb dL_strike_7 rfl ?_
  refine m_lastore_35 hx hb hw hka1 hin1  dL_strike_8 (fun H locs hw => ?_)
  refine lv_goto (tgt := 18) hx hb dL_strike_9 (by decide) ?_
  refine lv_iconst (v := 0) hx hb dL_strike_18 (by decide) ?_
  exact W.iret (v := 0) hx hb hr (fun t ht hW => ⟨⟨0, (K, I_1, R_2, F, A_3, N, L_4, T, m_up J ao (vp_updL (J ao) (0 : Int32).toNatClampNeg (((nI (p_strike Z M nn.toNatClampNeg).1)).toInt64)), D), rfl, ⟨ht0.symm, fun _ => h_J, (by rw [if_pos ht0]; exact hsim), hfr⟩, m_wo_out hw ht hW.alike⟩, m_wo_F hw ht⟩) (m_wo_L hw) dL_strike_19
set_option maxHeartbeats 1600000 in
set_option maxRecDepth 100000 in
theorem c_L_at (l : Launch) {G : mG} {K : Nat → Nat} {I : Nat → Nat → Int32} {R : Nat → Nat → Option Nat} {F : Nat → UInt32} {A : Nat → Nat → Int32} {N : Nat → Nat} {L : Nat → List Nat} {T : Nat → List Int32} {J : Nat → Nat → Int64} {D : Nat → Nat → UInt64} {x ao : Nat} {cd : Nat → Nat} {Z : Nat → Int32} {M : Nat → Nat → Int32} {nn : Int32} (hnt : l.stackTraces = false) (hs : c_sim K I R N A L T x cd Z M) (hka : K ao = 35) (hna : N ao = 1) : Met l yL_at wsL_at ({ frames := 10, cells := 1, slots := 6, locals := 320 } : Room) (va_Pc [.ref x, .int nn, .ref ao] (fun U => m_B G K I R F A N L T J D U ∧ c_str U)) (va_Qi (h_ps K I R N A x cd (Z, M) (t_b (o_shp Z nn)) (fun u => u.2.2.2.2.2.2.2.2.1 ao 0 = (M 18 nn.toNatClampNeg).toInt64)) (fun u : mE => m_B G (u.1) (u.2.1) (u.2.2.1) (u.2.2.2.1) (u.2.2.2.2.1) (u.2.2.2.2.2.1) (u.2.2.2.2.2.2.1) (u.2.2.2.2.2.2.2.1) (u.2.2.2.2.2.2.2.2.1) (u.2.2.2.2.2.2.2.2.2)) (m_A G)) 1 6 (m_A G) := by
  refine va_MetW (by decide) rfl ?_
  intro p e s m args below meth c s₁ B hml hv
  obtain ⟨rfl, hB, hcs⟩ := hv
  have hx := B.exec
  have hb := B.bytes
  have hr := B.returns
  have hts := atoms_spec (ws := wsL_at) B.pre
  have hxt := vx_table (x := yL_at) B (hts (.codeWith yL_at cL_at 4 (some .int) [(0, 9, 12, 20)]) List.mem_cons_self)
  have hown : s.vm.findClass RL = some m.cls := findClass_of_methodNamed B.named
  have hlocks := B.notSynchronized
  have hw := m_wo_in hB
  have hl := lv_entry ([.ref x, .int nn, .ref ao]) (n := 4) (Nat.le_of_ble_eq_true rfl)
  rw [lg_entry_eq]
  generalize (lg_sl ([.ref x, .int nn, .ref ao]) ++ List.replicate (4 - (lg_sl ([.ref x, .int nn, .ref ao])).length) Slot.unset).toArray = ls at hl ⊢
  have hl : lv_has ls 4 [(0, .ref x), (1, .int nn), (2, .ref ao)] := hl
  refine lv_aload_n hx hb dL_at_0 rfl (lv_at hl 2 rfl) ?_
  refine lv_iconst (v := 0) hx hb dL_at_1 (by decide) ?_
  refine lv_aload_n hx hb dL_at_2 rfl (lv_at hl 0 rfl) ?_
  refine lv_iload_n hx hb dL_at_3 rfl (lv_at hl 1 rfl) ?_
  refine m_xi (vx_runV (As := [.int nn]) (rest := [.int 0, .ref ao]) ⟨hx, hb, hml, hown, hts⟩ (c_X8_at l hnt hs) (cwV 1 hts gL_at_X8_at rfl rfl rfl (by decide +kernel) ⟨Nat.le_of_ble_eq_true rfl, Nat.le_of_ble_eq_true rfl⟩) ⟨m_blind (fun U g mk a h => ⟨m_B_calling U g mk a h.1, c_str_calling U g mk a h.2⟩), m_recv hw (m_ent_9 hs.1.1) rfl, fun U hU hW => ⟨rfl, m_wo_call hw hU hW, c_str_warm hW hcs⟩⟩ rfl rfl hl.1 rfl (lv_room (Nat.le_of_ble_eq_true rfl)) dL_at_4 ⟨Nat.le_of_ble_eq_true rfl, Nat.le_of_ble_eq_true rfl⟩) hw (fun E_ ce_ q9_ u_4x H locs hpx hw hce hcv hcl => ?_) (fun r_4 u_4 H locs hp_4 hw => ?_)
  · skip
    obtain ⟨hpx, hE⟩ := hpx
    have hsimx := hs
    have hfrx : c_fr K I R N A K I R N A := c_fr_rf
    have hv9 : (t_b (o_shp Z nn)) = 0 ∨ (t_b (o_shp Z nn)) = 1 := (h_tb _)
    rcases hv9 with c9_0 | c9_1
    · exact absurd c9_0 hpx
    · skip
      have hE : E_ = "java/lang/IndexOutOfBoundsException" := hE
      subst hE
      refine vx_catch (own := RL) (name := "java/lang/IndexOutOfBoundsException") hown [] ⟨0, 9, 12, 20⟩ [] hxt (fun _ h => absurd h List.not_mem_nil) (by decide) (by decide) (hts (.classLink RL 20 "java/lang/IndexOutOfBoundsException") (by decide +kernel)) (m_wo_cas hw (by decide)) hce hcv hcl ?_
      refine lv_astore_n (lv' := [(3, .ref q9_), (0, .ref x), (1, .int nn), (2, .ref ao)]) hx hb dL_at_12 rfl hl (by decide) rfl (fun ls hl => ?_)
      refine lv_iconst (v := 1) hx hb dL_at_13 (by decide) ?_
      exact W.iret (v := 1) hx hb hr (fun t ht hW => ⟨⟨1, (K, I, R, F, A, N, L, T, J, D), rfl, ⟨c9_1.symm, fun z => absurd (c9_1.symm.trans z) (by decide), hsimx, hfrx⟩, m_wo_out hw ht hW.alike⟩, m_wo_F hw ht⟩) (m_wo_L hw) dL_at_14
  obtain ⟨ht0, rfl⟩ := hp_4
  have hsim := hs
  have hfr : c_fr K I R N A K I R N A := c_fr_rf
  have hka1 : K ao = 35 := (hfr ao (by rw [hka]; simp [c_oth])).1.trans hka
  have hin1 : vp_in 0 (N ao) := h_in ((hfr ao (by rw [hka]; simp [c_oth])).2.1.trans hna)
  refine lv_i2l (v := ((M 18 nn.toNatClampNeg)).toInt64) hx hb dL_at_7 rfl ?_
  refine m_lastore_35 hx hb hw hka1 hin1  dL_at_8 (fun H locs hw => ?_)
  refine lv_goto (tgt := 15) hx hb dL_at_9 (by decide) ?_
  refine lv_iconst (v := 0) hx hb dL_at_15 (by decide) ?_
  exact W.iret (v := 0) hx hb hr (fun t ht hW => ⟨⟨0, (K, I, R, F, A, N, L, T, m_up J ao (vp_updL (J ao) (0 : Int32).toNatClampNeg (((M 18 nn.toNatClampNeg)).toInt64)), D), rfl, ⟨ht0.symm, fun _ => h_J, hsim, hfr⟩, m_wo_out hw ht hW.alike⟩, m_wo_F hw ht⟩) (m_wo_L hw) dL_at_16
set_option maxHeartbeats 1600000 in
set_option maxRecDepth 100000 in
theorem c_L_coins (l : Launch) {G : mG} {K : Nat → Nat} {I : Nat → Nat → Int32} {R : Nat → Nat → Option Nat} {F : Nat → UInt32} {A : Nat → Nat → Int32} {N : Nat → Nat} {L : Nat → List Nat} {T : Nat → List Int32} {J : Nat → Nat → Int64} {D : Nat → Nat → UInt64} {x ao : Nat} {cd : Nat → Nat} {Z : Nat → Int32} {M : Nat → Nat → Int32} {nn : Int32} (hnt : l.stackTraces = false) (hs : c_sim K I R N A L T x cd Z M) (hka : K ao = 35) (hna : N ao = 1) : Met l yL_coins wsL_coins ({ frames := 10, cells := 1, slots := 6, locals := 320 } : Room) (va_Pc [.ref x, .int nn, .ref ao] (fun U => m_B G K I R F A N L T J D U ∧ c_str U)) (va_Qi (h_ps K I R N A x cd (Z, M) (t_b (o_shp Z nn)) (fun u => u.2.2.2.2.2.2.2.2.1 ao 0 = (M 19 nn.toNatClampNeg).toInt64)) (fun u : mE => m_B G (u.1) (u.2.1) (u.2.2.1) (u.2.2.2.1) (u.2.2.2.2.1) (u.2.2.2.2.2.1) (u.2.2.2.2.2.2.1) (u.2.2.2.2.2.2.2.1) (u.2.2.2.2.2.2.2.2.1) (u.2.2.2.2.2.2.2.2.2)) (m_A G)) 1 6 (m_A G) := by
  refine va_MetW (by decide) rfl ?_
  intro p e s m args below meth c s₁ B hml hv
  obtain ⟨rfl, hB, hcs⟩ := hv
  have hx := B.exec
  have hb := B.bytes
  have hr := B.returns
  have hts := atoms_spec (ws := wsL_coins) B.pre
  have hxt := vx_table (x := yL_coins) B (hts (.codeWith yL_coins cL_coins 4 (some .int) [(0, 9, 12, 20)]) List.mem_cons_self)
  have hown : s.vm.findClass RL = some m.cls := findClass_of_methodNamed B.named
  have hlocks := B.notSynchronized
  have hw := m_wo_in hB
  have hl := lv_entry ([.ref x, .int nn, .ref ao]) (n := 4) (Nat.le_of_ble_eq_true rfl)
  rw [lg_entry_eq]
  generalize (lg_sl ([.ref x, .int nn, .ref ao]) ++ List.replicate (4 - (lg_sl ([.ref x, .int nn, .ref ao])).length) Slot.unset).toArray = ls at hl ⊢
  have hl : lv_has ls 4 [(0, .ref x), (1, .int nn), (2, .ref ao)] := hl
  refine lv_aload_n hx hb dL_coins_0 rfl (lv_at hl 2 rfl) ?_
  refine lv_iconst (v := 0) hx hb dL_coins_1 (by decide) ?_
  refine lv_aload_n hx hb dL_coins_2 rfl (lv_at hl 0 rfl) ?_
  refine lv_iload_n hx hb dL_coins_3 rfl (lv_at hl 1 rfl) ?_
  refine m_xi (vx_runV (As := [.int nn]) (rest := [.int 0, .ref ao]) ⟨hx, hb, hml, hown, hts⟩ (c_X8_coins l hnt hs) (cwV 1 hts gL_coins_X8_coins rfl rfl rfl (by decide +kernel) ⟨Nat.le_of_ble_eq_true rfl, Nat.le_of_ble_eq_true rfl⟩) ⟨m_blind (fun U g mk a h => ⟨m_B_calling U g mk a h.1, c_str_calling U g mk a h.2⟩), m_recv hw (m_ent_9 hs.1.1) rfl, fun U hU hW => ⟨rfl, m_wo_call hw hU hW, c_str_warm hW hcs⟩⟩ rfl rfl hl.1 rfl (lv_room (Nat.le_of_ble_eq_true rfl)) dL_coins_4 ⟨Nat.le_of_ble_eq_true rfl, Nat.le_of_ble_eq_true rfl⟩) hw (fun E_ ce_ q9_ u_4x H locs hpx hw hce hcv hcl => ?_) (fun r_4 u_4 H locs hp_4 hw => ?_)
  · skip
    obtain ⟨hpx, hE⟩ := hpx
    have hsimx := hs
    have hfrx : c_fr K I R N A K I R N A := c_fr_rf
    have hv9 : (t_b (o_shp Z nn)) = 0 ∨ (t_b (o_shp Z nn)) = 1 := (h_tb _)
    rcases hv9 with c9_0 | c9_1
    · exact absurd c9_0 hpx
    · skip
      have hE : E_ = "java/lang/IndexOutOfBoundsException" := hE
      subst hE
      refine vx_catch (own := RL) (name := "java/lang/IndexOutOfBoundsException") hown [] ⟨0, 9, 12, 20⟩ [] hxt (fun _ h => absurd h List.not_mem_nil) (by decide) (by decide) (hts (.classLink RL 20 "java/lang/IndexOutOfBoundsException") (by decide +kernel)) (m_wo_cas hw (by decide)) hce hcv hcl ?_
      refine lv_astore_n (lv' := [(3, .ref q9_), (0, .ref x), (1, .int nn), (2, .ref ao)]) hx hb dL_coins_12 rfl hl (by decide) rfl (fun ls hl => ?_)
      refine lv_iconst (v := 1) hx hb dL_coins_13 (by decide) ?_
      exact W.iret (v := 1) hx hb hr (fun t ht hW => ⟨⟨1, (K, I, R, F, A, N, L, T, J, D), rfl, ⟨c9_1.symm, fun z => absurd (c9_1.symm.trans z) (by decide), hsimx, hfrx⟩, m_wo_out hw ht hW.alike⟩, m_wo_F hw ht⟩) (m_wo_L hw) dL_coins_14
  obtain ⟨ht0, rfl⟩ := hp_4
  have hsim := hs
  have hfr : c_fr K I R N A K I R N A := c_fr_rf
  have hka1 : K ao = 35 := (hfr ao (by rw [hka]; simp [c_oth])).1.trans hka
  have hin1 : vp_in 0 (N ao) := h_in ((hfr ao (by rw [hka]; simp [c_oth])).2.1.trans hna)
  refine lv_i2l (v := ((M 19 nn.toNatClampNeg)).toInt64) hx hb dL_coins_7 rfl ?_
  refine m_lastore_35 hx hb hw hka1 hin1  dL_coins_8 (fun H locs hw => ?_)
  refine lv_goto (tgt := 15) hx hb dL_coins_9 (by decide) ?_
  refine lv_iconst (v := 0) hx hb dL_coins_15 (by decide) ?_
  exact W.iret (v := 0) hx hb hr (fun t ht hW => ⟨⟨0, (K, I, R, F, A, N, L, T, m_up J ao (vp_updL (J ao) (0 : Int32).toNatClampNeg (((M 19 nn.toNatClampNeg)).toInt64)), D), rfl, ⟨ht0.symm, fun _ => h_J, hsim, hfr⟩, m_wo_out hw ht hW.alike⟩, m_wo_F hw ht⟩) (m_wo_L hw) dL_coins_16
set_option maxHeartbeats 1600000 in
set_option maxRecDepth 100000 in
theorem c_L_hasMap (l : Launch) {G : mG} {K : Nat → Nat} {I : Nat → Nat → Int32} {R : Nat → Nat → Option Nat} {F : Nat → UInt32} {A : Nat → Nat → Int32} {N : Nat → Nat} {L : Nat → List Nat} {T : Nat → List Int32} {J : Nat → Nat → Int64} {D : Nat → Nat → UInt64} {x ao : Nat} {cd : Nat → Nat} {Z : Nat → Int32} {M : Nat → Nat → Int32} {nn : Int32} (hnt : l.stackTraces = false) (hs : c_sim K I R N A L T x cd Z M) (hka : K ao = 35) (hna : N ao = 1) : Met l yL_hasMap wsL_hasMap ({ frames := 10, cells := 1, slots := 6, locals := 320 } : Room) (va_Pc [.ref x, .int nn, .ref ao] (fun U => m_B G K I R F A N L T J D U ∧ c_str U)) (va_Qi (h_ps K I R N A x cd (Z, M) (t_b (o_shp Z nn)) (fun u => u.2.2.2.2.2.2.2.2.1 ao 0 = (b2i (decide (0 < M 22 nn.toNatClampNeg))).toInt64)) (fun u : mE => m_B G (u.1) (u.2.1) (u.2.2.1) (u.2.2.2.1) (u.2.2.2.2.1) (u.2.2.2.2.2.1) (u.2.2.2.2.2.2.1) (u.2.2.2.2.2.2.2.1) (u.2.2.2.2.2.2.2.2.1) (u.2.2.2.2.2.2.2.2.2)) (m_A G)) 1 6 (m_A G) := by
  refine va_MetW (by decide) rfl ?_
  intro p e s m args below meth c s₁ B hml hv
  obtain ⟨rfl, hB, hcs⟩ := hv
  have hx := B.exec
  have hb := B.bytes
  have hr := B.returns
  have hts := atoms_spec (ws := wsL_hasMap) B.pre
  have hxt := vx_table (x := yL_hasMap) B (hts (.codeWith yL_hasMap cL_hasMap 4 (some .int) [(0, 16, 19, 20)]) List.mem_cons_self)
  have hown : s.vm.findClass RL = some m.cls := findClass_of_methodNamed B.named
  have hlocks := B.notSynchronized
  have hw := m_wo_in hB
  have hl := lv_entry ([.ref x, .int nn, .ref ao]) (n := 4) (Nat.le_of_ble_eq_true rfl)
  rw [lg_entry_eq]
  generalize (lg_sl ([.ref x, .int nn, .ref ao]) ++ List.replicate (4 - (lg_sl ([.ref x, .int nn, .ref ao])).length) Slot.unset).toArray = ls at hl ⊢
  have hl : lv_has ls 4 [(0, .ref x), (1, .int nn), (2, .ref ao)] := hl
  refine lv_aload_n hx hb dL_hasMap_0 rfl (lv_at hl 2 rfl) ?_
  refine lv_iconst (v := 0) hx hb dL_hasMap_1 (by decide) ?_
  refine lv_aload_n hx hb dL_hasMap_2 rfl (lv_at hl 0 rfl) ?_
  refine lv_iload_n hx hb dL_hasMap_3 rfl (lv_at hl 1 rfl) ?_
  refine m_xi (vx_runV (As := [.int nn]) (rest := [.int 0, .ref ao]) ⟨hx, hb, hml, hown, hts⟩ (c_X8_hasMap l hnt hs) (cwV 1 hts gL_hasMap_X8_hasMap rfl rfl rfl (by decide +kernel) ⟨Nat.le_of_ble_eq_true rfl, Nat.le_of_ble_eq_true rfl⟩) ⟨m_blind (fun U g mk a h => ⟨m_B_calling U g mk a h.1, c_str_calling U g mk a h.2⟩), m_recv hw (m_ent_9 hs.1.1) rfl, fun U hU hW => ⟨rfl, m_wo_call hw hU hW, c_str_warm hW hcs⟩⟩ rfl rfl hl.1 rfl (lv_room (Nat.le_of_ble_eq_true rfl)) dL_hasMap_4 ⟨Nat.le_of_ble_eq_true rfl, Nat.le_of_ble_eq_true rfl⟩) hw (fun E_ ce_ q9_ u_4x H locs hpx hw hce hcv hcl => ?_) (fun r_4 u_4 H locs hp_4 hw => ?_)
  · skip
    obtain ⟨hpx, hE⟩ := hpx
    have hsimx := hs
    have hfrx : c_fr K I R N A K I R N A := c_fr_rf
    have hv9 : (t_b (o_shp Z nn)) = 0 ∨ (t_b (o_shp Z nn)) = 1 := (h_tb _)
    rcases hv9 with c9_0 | c9_1
    · exact absurd c9_0 hpx
    · skip
      have hE : E_ = "java/lang/IndexOutOfBoundsException" := hE
      subst hE
      refine vx_catch (own := RL) (name := "java/lang/IndexOutOfBoundsException") hown [] ⟨0, 16, 19, 20⟩ [] hxt (fun _ h => absurd h List.not_mem_nil) (by decide) (by decide) (hts (.classLink RL 20 "java/lang/IndexOutOfBoundsException") (by decide +kernel)) (m_wo_cas hw (by decide)) hce hcv hcl ?_
      refine lv_astore_n (lv' := [(3, .ref q9_), (0, .ref x), (1, .int nn), (2, .ref ao)]) hx hb dL_hasMap_19 rfl hl (by decide) rfl (fun ls hl => ?_)
      refine lv_iconst (v := 1) hx hb dL_hasMap_20 (by decide) ?_
      exact W.iret (v := 1) hx hb hr (fun t ht hW => ⟨⟨1, (K, I, R, F, A, N, L, T, J, D), rfl, ⟨c9_1.symm, fun z => absurd (c9_1.symm.trans z) (by decide), hsimx, hfrx⟩, m_wo_out hw ht hW.alike⟩, m_wo_F hw ht⟩) (m_wo_L hw) dL_hasMap_21
  obtain ⟨ht0, rfl⟩ := hp_4
  have hsim := hs
  have hfr : c_fr K I R N A K I R N A := c_fr_rf
  have hka1 : K ao = 35 := (hfr ao (by rw [hka]; simp [c_oth])).1.trans hka
  have hin1 : vp_in 0 (N ao) := h_in ((hfr ao (by rw [hka]; simp [c_oth])).2.1.trans hna)
  refine lv_if_eq (tgt := 14) hx hb dL_hasMap_7 (by decide) (fun c_7 => ?_) (fun c_7 => ?_)
  · skip
    refine lv_lconst (v := 0) hx hb dL_hasMap_14 (by decide) ?_
    refine m_lastore_35 hx hb hw hka1 hin1  dL_hasMap_15 (fun H locs hw => ?_)
    refine lv_goto (tgt := 22) hx hb dL_hasMap_16 (by decide) ?_
    refine lv_iconst (v := 0) hx hb dL_hasMap_22 (by decide) ?_
    exact W.iret (v := 0) hx hb hr (fun t ht hW => ⟨⟨0, (K, I, R, F, A, N, L, T, m_up J ao (vp_updL (J ao) (0 : Int32).toNatClampNeg 0), D), rfl, ⟨ht0.symm, fun _ => (h_J.trans (by rw [(b2i_eq _).mp c_7]; rfl)), hsim, hfr⟩, m_wo_out hw ht hW.alike⟩, m_wo_F hw ht⟩) (m_wo_L hw) dL_hasMap_23
  · skip
    refine lv_lconst (v := 1) hx hb dL_hasMap_10 (by decide) ?_
    refine lv_goto (tgt := 15) hx hb dL_hasMap_11 (by decide) ?_
    refine m_lastore_35 hx hb hw hka1 hin1  dL_hasMap_15 (fun H locs hw => ?_)
    refine lv_goto (tgt := 22) hx hb dL_hasMap_16 (by decide) ?_
    refine lv_iconst (v := 0) hx hb dL_hasMap_22 (by decide) ?_
    exact W.iret (v := 0) hx hb hr (fun t ht hW => ⟨⟨0, (K, I, R, F, A, N, L, T, m_up J ao (vp_updL (J ao) (0 : Int32).toNatClampNeg 1), D), rfl, ⟨ht0.symm, fun _ => (h_J.trans (by rw [(b2i_ne _).mp c_7]; rfl)), hsim, hfr⟩, m_wo_out hw ht hW.alike⟩, m_wo_F hw ht⟩) (m_wo_L hw) dL_hasMap_23
set_option maxHeartbeats 1600000 in
set_option maxRecDepth 100000 in
theorem c_L_isThere (l : Launch) {G : mG} {K : Nat → Nat} {I : Nat → Nat → Int32} {R : Nat → Nat → Option Nat} {F : Nat → UInt32} {A : Nat → Nat → Int32} {N : Nat → Nat} {L : Nat → List Nat} {T : Nat → List Int32} {J : Nat → Nat → Int64} {D : Nat → Nat → UInt64} {x ao : Nat} {cd : Nat → Nat} {Z : Nat → Int32} {M : Nat → Nat → Int32} {nn : Int32} (hnt : l.stackTraces = false) (hs : c_sim K I R N A L T x cd Z M) (hka : K ao = 35) (hna : N ao = 1) : Met l yL_isThere wsL_isThere ({ frames := 10, cells := 1, slots := 6, locals := 320 } : Room) (va_Pc [.ref x, .int nn, .ref ao] (fun U => m_B G K I R F A N L T J D U ∧ c_str U)) (va_Qi (h_ps K I R N A x cd (Z, M) (t_b (o_isl Z nn)) (fun u => u.2.2.2.2.2.2.2.2.1 ao 0 = (b2i (decide (M 10 nn.toNatClampNeg = 0))).toInt64)) (fun u : mE => m_B G (u.1) (u.2.1) (u.2.2.1) (u.2.2.2.1) (u.2.2.2.2.1) (u.2.2.2.2.2.1) (u.2.2.2.2.2.2.1) (u.2.2.2.2.2.2.2.1) (u.2.2.2.2.2.2.2.2.1) (u.2.2.2.2.2.2.2.2.2)) (m_A G)) 1 6 (m_A G) := by
  refine va_MetW (by decide) rfl ?_
  intro p e s m args below meth c s₁ B hml hv
  obtain ⟨rfl, hB, hcs⟩ := hv
  have hx := B.exec
  have hb := B.bytes
  have hr := B.returns
  have hts := atoms_spec (ws := wsL_isThere) B.pre
  have hxt := vx_table (x := yL_isThere) B (hts (.codeWith yL_isThere cL_isThere 4 (some .int) [(0, 16, 19, 20)]) List.mem_cons_self)
  have hown : s.vm.findClass RL = some m.cls := findClass_of_methodNamed B.named
  have hlocks := B.notSynchronized
  have hw := m_wo_in hB
  have hl := lv_entry ([.ref x, .int nn, .ref ao]) (n := 4) (Nat.le_of_ble_eq_true rfl)
  rw [lg_entry_eq]
  generalize (lg_sl ([.ref x, .int nn, .ref ao]) ++ List.replicate (4 - (lg_sl ([.ref x, .int nn, .ref ao])).length) Slot.unset).toArray = ls at hl ⊢
  have hl : lv_has ls 4 [(0, .ref x), (1, .int nn), (2, .ref ao)] := hl
  refine lv_aload_n hx hb dL_isThere_0 rfl (lv_at hl 2 rfl) ?_
  refine lv_iconst (v := 0) hx hb dL_isThere_1 (by decide) ?_
  refine lv_aload_n hx hb dL_isThere_2 rfl (lv_at hl 0 rfl) ?_
  refine lv_iload_n hx hb dL_isThere_3 rfl (lv_at hl 1 rfl) ?_
  refine m_xi (vx_runV (As := [.int nn]) (rest := [.int 0, .ref ao]) ⟨hx, hb, hml, hown, hts⟩ (c_X8_isThere l hnt hs) (cwV 1 hts gL_isThere_X8_isThere rfl rfl rfl (by decide +kernel) ⟨Nat.le_of_ble_eq_true rfl, Nat.le_of_ble_eq_true rfl⟩) ⟨m_blind (fun U g mk a h => ⟨m_B_calling U g mk a h.1, c_str_calling U g mk a h.2⟩), m_recv hw (m_ent_9 hs.1.1) rfl, fun U hU hW => ⟨rfl, m_wo_call hw hU hW, c_str_warm hW hcs⟩⟩ rfl rfl hl.1 rfl (lv_room (Nat.le_of_ble_eq_true rfl)) dL_isThere_4 ⟨Nat.le_of_ble_eq_true rfl, Nat.le_of_ble_eq_true rfl⟩) hw (fun E_ ce_ q9_ u_4x H locs hpx hw hce hcv hcl => ?_) (fun r_4 u_4 H locs hp_4 hw => ?_)
  · skip
    obtain ⟨hpx, hE⟩ := hpx
    have hsimx := hs
    have hfrx : c_fr K I R N A K I R N A := c_fr_rf
    have hv9 : (t_b (o_isl Z nn)) = 0 ∨ (t_b (o_isl Z nn)) = 1 := (h_tb _)
    rcases hv9 with c9_0 | c9_1
    · exact absurd c9_0 hpx
    · skip
      have hE : E_ = "java/lang/IndexOutOfBoundsException" := hE
      subst hE
      refine vx_catch (own := RL) (name := "java/lang/IndexOutOfBoundsException") hown [] ⟨0, 16, 19, 20⟩ [] hxt (fun _ h => absurd h List.not_mem_nil) (by decide) (by decide) (hts (.classLink RL 20 "java/lang/IndexOutOfBoundsException") (by decide +kernel)) (m_wo_cas hw (by decide)) hce hcv hcl ?_
      refine lv_astore_n (lv' := [(3, .ref q9_), (0, .ref x), (1, .int nn), (2, .ref ao)]) hx hb dL_isThere_19 rfl hl (by decide) rfl (fun ls hl => ?_)
      refine lv_iconst (v := 1) hx hb dL_isThere_20 (by decide) ?_
      exact W.iret (v := 1) hx hb hr (fun t ht hW => ⟨⟨1, (K, I, R, F, A, N, L, T, J, D), rfl, ⟨c9_1.symm, fun z => absurd (c9_1.symm.trans z) (by decide), hsimx, hfrx⟩, m_wo_out hw ht hW.alike⟩, m_wo_F hw ht⟩) (m_wo_L hw) dL_isThere_21
  obtain ⟨ht0, rfl⟩ := hp_4
  have hsim := hs
  have hfr : c_fr K I R N A K I R N A := c_fr_rf
  have hka1 : K ao = 35 := (hfr ao (by rw [hka]; simp [c_oth])).1.trans hka
  have hin1 : vp_in 0 (N ao) := h_in ((hfr ao (by rw [hka]; simp [c_oth])).2.1.trans hna)
  refine lv_if_eq (tgt := 14) hx hb dL_isThere_7 (by decide) (fun c_7 => ?_) (fun c_7 => ?_)
  · skip
    refine lv_lconst (v := 0) hx hb dL_isThere_14 (by decide) ?_
    refine m_lastore_35 hx hb hw hka1 hin1  dL_isThere_15 (fun H locs hw => ?_)
    refine lv_goto (tgt := 22) hx hb dL_isThere_16 (by decide) ?_
    refine lv_iconst (v := 0) hx hb dL_isThere_22 (by decide) ?_
    exact W.iret (v := 0) hx hb hr (fun t ht hW => ⟨⟨0, (K, I, R, F, A, N, L, T, m_up J ao (vp_updL (J ao) (0 : Int32).toNatClampNeg 0), D), rfl, ⟨ht0.symm, fun _ => (h_J.trans (by rw [(b2i_eq _).mp c_7]; rfl)), hsim, hfr⟩, m_wo_out hw ht hW.alike⟩, m_wo_F hw ht⟩) (m_wo_L hw) dL_isThere_23
  · skip
    refine lv_lconst (v := 1) hx hb dL_isThere_10 (by decide) ?_
    refine lv_goto (tgt := 15) hx hb dL_isThere_11 (by decide) ?_
    refine m_lastore_35 hx hb hw hka1 hin1  dL_isThere_15 (fun H locs hw => ?_)
    refine lv_goto (tgt := 22) hx hb dL_isThere_16 (by decide) ?_
    refine lv_iconst (v := 0) hx hb dL_isThere_22 (by decide) ?_
    exact W.iret (v := 0) hx hb hr (fun t ht hW => ⟨⟨0, (K, I, R, F, A, N, L, T, m_up J ao (vp_updL (J ao) (0 : Int32).toNatClampNeg 1), D), rfl, ⟨ht0.symm, fun _ => (h_J.trans (by rw [(b2i_ne _).mp c_7]; rfl)), hsim, hfr⟩, m_wo_out hw ht hW.alike⟩, m_wo_F hw ht⟩) (m_wo_L hw) dL_isThere_23
set_option maxHeartbeats 1600000 in
set_option maxRecDepth 100000 in
theorem c_L_isStruck (l : Launch) {G : mG} {K : Nat → Nat} {I : Nat → Nat → Int32} {R : Nat → Nat → Option Nat} {F : Nat → UInt32} {A : Nat → Nat → Int32} {N : Nat → Nat} {L : Nat → List Nat} {T : Nat → List Int32} {J : Nat → Nat → Int64} {D : Nat → Nat → UInt64} {x ao : Nat} {cd : Nat → Nat} {Z : Nat → Int32} {M : Nat → Nat → Int32} {nn : Int32} (hnt : l.stackTraces = false) (hs : c_sim K I R N A L T x cd Z M) (h16 : ∀ f, M 16 f = 0 ∨ M 16 f = 1) (hka : K ao = 35) (hna : N ao = 1) : Met l yL_isStruck wsL_isStruck ({ frames := 10, cells := 1, slots := 6, locals := 320 } : Room) (va_Pc [.ref x, .int nn, .ref ao] (fun U => m_B G K I R F A N L T J D U ∧ c_str U)) (va_Qi (h_ps K I R N A x cd (Z, M) (t_b (o_rng nn 0 (Z 1 - 1))) (fun u => u.2.2.2.2.2.2.2.2.1 ao 0 = (b2i (!decide (M 16 nn.toNatClampNeg = 0))).toInt64)) (fun u : mE => m_B G (u.1) (u.2.1) (u.2.2.1) (u.2.2.2.1) (u.2.2.2.2.1) (u.2.2.2.2.2.1) (u.2.2.2.2.2.2.1) (u.2.2.2.2.2.2.2.1) (u.2.2.2.2.2.2.2.2.1) (u.2.2.2.2.2.2.2.2.2)) (m_A G)) 1 6 (m_A G) := by
  refine va_MetW (by decide) rfl ?_
  intro p e s m args below meth c s₁ B hml hv
  obtain ⟨rfl, hB, hcs⟩ := hv
  have hx := B.exec
  have hb := B.bytes
  have hr := B.returns
  have hts := atoms_spec (ws := wsL_isStruck) B.pre
  have hxt := vx_table (x := yL_isStruck) B (hts (.codeWith yL_isStruck cL_isStruck 4 (some .int) [(0, 16, 19, 20)]) List.mem_cons_self)
  have hown : s.vm.findClass RL = some m.cls := findClass_of_methodNamed B.named
  have hlocks := B.notSynchronized
  have hw := m_wo_in hB
  have hl := lv_entry ([.ref x, .int nn, .ref ao]) (n := 4) (Nat.le_of_ble_eq_true rfl)
  rw [lg_entry_eq]
  generalize (lg_sl ([.ref x, .int nn, .ref ao]) ++ List.replicate (4 - (lg_sl ([.ref x, .int nn, .ref ao])).length) Slot.unset).toArray = ls at hl ⊢
  have hl : lv_has ls 4 [(0, .ref x), (1, .int nn), (2, .ref ao)] := hl
  refine lv_aload_n hx hb dL_isStruck_0 rfl (lv_at hl 2 rfl) ?_
  refine lv_iconst (v := 0) hx hb dL_isStruck_1 (by decide) ?_
  refine lv_aload_n hx hb dL_isStruck_2 rfl (lv_at hl 0 rfl) ?_
  refine lv_iload_n hx hb dL_isStruck_3 rfl (lv_at hl 1 rfl) ?_
  refine m_xi (vx_runV (As := [.int nn]) (rest := [.int 0, .ref ao]) ⟨hx, hb, hml, hown, hts⟩ (c_X8_isStruck l hnt hs h16) (cwV 1 hts gL_isStruck_X8_isStruck rfl rfl rfl (by decide +kernel) ⟨Nat.le_of_ble_eq_true rfl, Nat.le_of_ble_eq_true rfl⟩) ⟨m_blind (fun U g mk a h => ⟨m_B_calling U g mk a h.1, c_str_calling U g mk a h.2⟩), m_recv hw (m_ent_9 hs.1.1) rfl, fun U hU hW => ⟨rfl, m_wo_call hw hU hW, c_str_warm hW hcs⟩⟩ rfl rfl hl.1 rfl (lv_room (Nat.le_of_ble_eq_true rfl)) dL_isStruck_4 ⟨Nat.le_of_ble_eq_true rfl, Nat.le_of_ble_eq_true rfl⟩) hw (fun E_ ce_ q9_ u_4x H locs hpx hw hce hcv hcl => ?_) (fun r_4 u_4 H locs hp_4 hw => ?_)
  · skip
    obtain ⟨hpx, hE⟩ := hpx
    have hsimx := hs
    have hfrx : c_fr K I R N A K I R N A := c_fr_rf
    have hv9 : (t_b (o_rng nn 0 (Z 1 - 1))) = 0 ∨ (t_b (o_rng nn 0 (Z 1 - 1))) = 1 := (h_tb _)
    rcases hv9 with c9_0 | c9_1
    · exact absurd c9_0 hpx
    · skip
      have hE : E_ = "java/lang/IndexOutOfBoundsException" := hE
      subst hE
      refine vx_catch (own := RL) (name := "java/lang/IndexOutOfBoundsException") hown [] ⟨0, 16, 19, 20⟩ [] hxt (fun _ h => absurd h List.not_mem_nil) (by decide) (by decide) (hts (.classLink RL 20 "java/lang/IndexOutOfBoundsException") (by decide +kernel)) (m_wo_cas hw (by decide)) hce hcv hcl ?_
      refine lv_astore_n (lv' := [(3, .ref q9_), (0, .ref x), (1, .int nn), (2, .ref ao)]) hx hb dL_isStruck_19 rfl hl (by decide) rfl (fun ls hl => ?_)
      refine lv_iconst (v := 1) hx hb dL_isStruck_20 (by decide) ?_
      exact W.iret (v := 1) hx hb hr (fun t ht hW => ⟨⟨1, (K, I, R, F, A, N, L, T, J, D), rfl, ⟨c9_1.symm, fun z => absurd (c9_1.symm.trans z) (by decide), hsimx, hfrx⟩, m_wo_out hw ht hW.alike⟩, m_wo_F hw ht⟩) (m_wo_L hw) dL_isStruck_21
  obtain ⟨ht0, rfl⟩ := hp_4
  have hsim := hs
  have hfr : c_fr K I R N A K I R N A := c_fr_rf
  have hka1 : K ao = 35 := (hfr ao (by rw [hka]; simp [c_oth])).1.trans hka
  have hin1 : vp_in 0 (N ao) := h_in ((hfr ao (by rw [hka]; simp [c_oth])).2.1.trans hna)
  refine lv_if_eq (tgt := 14) hx hb dL_isStruck_7 (by decide) (fun c_7 => ?_) (fun c_7 => ?_)
  · skip
    refine lv_lconst (v := 0) hx hb dL_isStruck_14 (by decide) ?_
    refine m_lastore_35 hx hb hw hka1 hin1  dL_isStruck_15 (fun H locs hw => ?_)
    refine lv_goto (tgt := 22) hx hb dL_isStruck_16 (by decide) ?_
    refine lv_iconst (v := 0) hx hb dL_isStruck_22 (by decide) ?_
    exact W.iret (v := 0) hx hb hr (fun t ht hW => ⟨⟨0, (K, I, R, F, A, N, L, T, m_up J ao (vp_updL (J ao) (0 : Int32).toNatClampNeg 0), D), rfl, ⟨ht0.symm, fun _ => (h_J.trans (by rw [(b2i_eq _).mp c_7]; rfl)), hsim, hfr⟩, m_wo_out hw ht hW.alike⟩, m_wo_F hw ht⟩) (m_wo_L hw) dL_isStruck_23
  · skip
    refine lv_lconst (v := 1) hx hb dL_isStruck_10 (by decide) ?_
    refine lv_goto (tgt := 15) hx hb dL_isStruck_11 (by decide) ?_
    refine m_lastore_35 hx hb hw hka1 hin1  dL_isStruck_15 (fun H locs hw => ?_)
    refine lv_goto (tgt := 22) hx hb dL_isStruck_16 (by decide) ?_
    refine lv_iconst (v := 0) hx hb dL_isStruck_22 (by decide) ?_
    exact W.iret (v := 0) hx hb hr (fun t ht hW => ⟨⟨0, (K, I, R, F, A, N, L, T, m_up J ao (vp_updL (J ao) (0 : Int32).toNatClampNeg 1), D), rfl, ⟨ht0.symm, fun _ => (h_J.trans (by rw [(b2i_ne _).mp c_7]; rfl)), hsim, hfr⟩, m_wo_out hw ht hW.alike⟩, m_wo_F hw ht⟩) (m_wo_L hw) dL_isStruck_23
set_option maxHeartbeats 1600000 in
set_option maxRecDepth 100000 in
theorem c_L_cause (l : Launch) {G : mG} {K : Nat → Nat} {I : Nat → Nat → Int32} {R : Nat → Nat → Option Nat} {F : Nat → UInt32} {A : Nat → Nat → Int32} {N : Nat → Nat} {L : Nat → List Nat} {T : Nat → List Int32} {J : Nat → Nat → Int64} {D : Nat → Nat → UInt64} {x ao : Nat} {cd : Nat → Nat} {Z : Nat → Int32} {M : Nat → Nat → Int32} {nn : Int32} (hnt : l.stackTraces = false) (hs : c_sim K I R N A L T x cd Z M) (hch : ∀ k, k < 2 → narrow .char (.int (M 32 k)) = .int (M 32 k)) (hka : K ao = 35) (hna : N ao = 1) : Met l yL_cause wsL_cause ({ frames := 10, cells := 1, slots := 6, locals := 320 } : Room) (va_Pc [.ref x, .int nn, .ref ao] (fun U => m_B G K I R F A N L T J D U ∧ c_str U)) (va_Qi (h_ps K I R N A x cd (Z, M) (t_b (o_rng nn 0 (Z 31 - 1))) (fun u => u.2.2.2.2.2.2.2.2.1 ao 0 = (M 32 nn.toNatClampNeg).toInt64)) (fun u : mE => m_B G (u.1) (u.2.1) (u.2.2.1) (u.2.2.2.1) (u.2.2.2.2.1) (u.2.2.2.2.2.1) (u.2.2.2.2.2.2.1) (u.2.2.2.2.2.2.2.1) (u.2.2.2.2.2.2.2.2.1) (u.2.2.2.2.2.2.2.2.2)) (m_A G)) 1 6 (m_A G) := by
  refine va_MetW (by decide) rfl ?_
  intro p e s m args below meth c s₁ B hml hv
  obtain ⟨rfl, hB, hcs⟩ := hv
  have hx := B.exec
  have hb := B.bytes
  have hr := B.returns
  have hts := atoms_spec (ws := wsL_cause) B.pre
  have hxt := vx_table (x := yL_cause) B (hts (.codeWith yL_cause cL_cause 4 (some .int) [(0, 9, 12, 36)]) List.mem_cons_self)
  have hown : s.vm.findClass RL = some m.cls := findClass_of_methodNamed B.named
  have hlocks := B.notSynchronized
  have hw := m_wo_in hB
  have hl := lv_entry ([.ref x, .int nn, .ref ao]) (n := 4) (Nat.le_of_ble_eq_true rfl)
  rw [lg_entry_eq]
  generalize (lg_sl ([.ref x, .int nn, .ref ao]) ++ List.replicate (4 - (lg_sl ([.ref x, .int nn, .ref ao])).length) Slot.unset).toArray = ls at hl ⊢
  have hl : lv_has ls 4 [(0, .ref x), (1, .int nn), (2, .ref ao)] := hl
  refine lv_aload_n hx hb dL_cause_0 rfl (lv_at hl 2 rfl) ?_
  refine lv_iconst (v := 0) hx hb dL_cause_1 (by decide) ?_
  refine lv_aload_n hx hb dL_cause_2 rfl (lv_at hl 0 rfl) ?_
  refine lv_iload_n hx hb dL_cause_3 rfl (lv_at hl 1 rfl) ?_
  refine m_xi (vx_runV (As := [.int nn]) (rest := [.int 0, .ref ao]) ⟨hx, hb, hml, hown, hts⟩ (c_X8_cause l hnt hs hch) (cwV 1 hts gL_cause_X8_cause rfl rfl rfl (by decide +kernel) ⟨Nat.le_of_ble_eq_true rfl, Nat.le_of_ble_eq_true rfl⟩) ⟨m_blind (fun U g mk a h => ⟨m_B_calling U g mk a h.1, c_str_calling U g mk a h.2⟩), m_recv hw (m_ent_9 hs.1.1) rfl, fun U hU hW => ⟨rfl, m_wo_call hw hU hW, c_str_warm hW hcs⟩⟩ rfl rfl hl.1 rfl (lv_room (Nat.le_of_ble_eq_true rfl)) dL_cause_4 ⟨Nat.le_of_ble_eq_true rfl, Nat.le_of_ble_eq_true rfl⟩) hw (fun E_ ce_ q9_ u_4x H locs hpx hw hce hcv hcl => ?_) (fun r_4 u_4 H locs hp_4 hw => ?_)
  · skip
    obtain ⟨hpx, hE⟩ := hpx
    have hsimx := hs
    have hfrx : c_fr K I R N A K I R N A := c_fr_rf
    have hv9 : (t_b (o_rng nn 0 (Z 31 - 1))) = 0 ∨ (t_b (o_rng nn 0 (Z 31 - 1))) = 1 := (h_tb _)
    rcases hv9 with c9_0 | c9_1
    · exact absurd c9_0 hpx
    · skip
      have hE : E_ = "java/util/NoSuchElementException" := hE
      subst hE
      refine vx_catch (own := RL) (name := "java/util/NoSuchElementException") hown [] ⟨0, 9, 12, 36⟩ [] hxt (fun _ h => absurd h List.not_mem_nil) (by decide) (by decide) (hts (.classLink RL 36 "java/util/NoSuchElementException") (by decide +kernel)) (m_wo_cas hw (by decide)) hce hcv hcl ?_
      refine lv_astore_n (lv' := [(3, .ref q9_), (0, .ref x), (1, .int nn), (2, .ref ao)]) hx hb dL_cause_12 rfl hl (by decide) rfl (fun ls hl => ?_)
      refine lv_iconst (v := 1) hx hb dL_cause_13 (by decide) ?_
      exact W.iret (v := 1) hx hb hr (fun t ht hW => ⟨⟨1, (K, I, R, F, A, N, L, T, J, D), rfl, ⟨c9_1.symm, fun z => absurd (c9_1.symm.trans z) (by decide), hsimx, hfrx⟩, m_wo_out hw ht hW.alike⟩, m_wo_F hw ht⟩) (m_wo_L hw) dL_cause_14
  obtain ⟨ht0, rfl⟩ := hp_4
  have hsim := hs
  have hfr : c_fr K I R N A K I R N A := c_fr_rf
  have hka1 : K ao = 35 := (hfr ao (by rw [hka]; simp [c_oth])).1.trans hka
  have hin1 : vp_in 0 (N ao) := h_in ((hfr ao (by rw [hka]; simp [c_oth])).2.1.trans hna)
  refine lv_i2l (v := ((M 32 nn.toNatClampNeg)).toInt64) hx hb dL_cause_7 rfl ?_
  refine m_lastore_35 hx hb hw hka1 hin1  dL_cause_8 (fun H locs hw => ?_)
  refine lv_goto (tgt := 15) hx hb dL_cause_9 (by decide) ?_
  refine lv_iconst (v := 0) hx hb dL_cause_15 (by decide) ?_
  exact W.iret (v := 0) hx hb hr (fun t ht hW => ⟨⟨0, (K, I, R, F, A, N, L, T, m_up J ao (vp_updL (J ao) (0 : Int32).toNatClampNeg (((M 32 nn.toNatClampNeg)).toInt64)), D), rfl, ⟨ht0.symm, fun _ => h_J, hsim, hfr⟩, m_wo_out hw ht hW.alike⟩, m_wo_F hw ht⟩) (m_wo_L hw) dL_cause_16
set_option maxHeartbeats 1600000 in
set_option maxRecDepth 100000 in
theorem c_L_struckShare (l : Launch) {G : mG} {K : Nat → Nat} {I : Nat → Nat → Int32} {R : Nat → Nat → Option Nat} {F : Nat → UInt32} {A : Nat → Nat → Int32} {N : Nat → Nat} {L : Nat → List Nat} {T : Nat → List Int32} {J : Nat → Nat → Int64} {D : Nat → Nat → UInt64} {x ao : Nat} {cd : Nat → Nat} {Z : Nat → Int32} {M : Nat → Nat → Int32}  (hnt : l.stackTraces = false) (hs : c_sim K I R N A L T x cd Z M) (hne : 0 < (L (cd 1)).length → vf_n32 (o_share M (L (cd 1)).length)) (hn64c : 0 < (L (cd 1)).length → vf_n64 (FP.f2d (o_share M (L (cd 1)).length))) (hka : K ao = 36) (hna : N ao = 1) : Met l yL_struckShare wsL_struckShare ({ frames := 10, cells := 1, slots := 6, locals := 320 } : Room) (va_Pc [.ref x, .ref ao] (fun U => m_B G K I R F A N L T J D U ∧ c_str U)) (va_Qi (h_ps K I R N A x cd (Z, M) (t_b (decide (0 < (L (cd 1)).length))) (fun u => u.2.2.2.2.2.2.2.2.2 ao 0 = FP.f2d (o_share M (L (cd 1)).length))) (fun u : mE => m_B G (u.1) (u.2.1) (u.2.2.1) (u.2.2.2.1) (u.2.2.2.2.1) (u.2.2.2.2.2.1) (u.2.2.2.2.2.2.1) (u.2.2.2.2.2.2.2.1) (u.2.2.2.2.2.2.2.2.1) (u.2.2.2.2.2.2.2.2.2)) (m_A G)) 1 6 (m_A G) := by
  refine va_MetW (by decide) rfl ?_
  intro p e s m args below meth c s₁ B hml hv
  obtain ⟨rfl, hB, hcs⟩ := hv
  have hx := B.exec
  have hb := B.bytes
  have hr := B.returns
  have hts := atoms_spec (ws := wsL_struckShare) B.pre
  have hxt := vx_table (x := yL_struckShare) B (hts (.codeWith yL_struckShare cL_struckShare 3 (some .int) [(0, 8, 11, 112)]) List.mem_cons_self)
  have hown : s.vm.findClass RL = some m.cls := findClass_of_methodNamed B.named
  have hlocks := B.notSynchronized
  have hw := m_wo_in hB
  have hl := lv_entry ([.ref x, .ref ao]) (n := 3) (Nat.le_of_ble_eq_true rfl)
  rw [lg_entry_eq]
  generalize (lg_sl ([.ref x, .ref ao]) ++ List.replicate (3 - (lg_sl ([.ref x, .ref ao])).length) Slot.unset).toArray = ls at hl ⊢
  have hl : lv_has ls 3 [(0, .ref x), (1, .ref ao)] := hl
  refine lv_aload_n hx hb dL_struckShare_0 rfl (lv_at hl 1 rfl) ?_
  refine lv_iconst (v := 0) hx hb dL_struckShare_1 (by decide) ?_
  refine lv_aload_n hx hb dL_struckShare_2 rfl (lv_at hl 0 rfl) ?_
  refine m_xf (vx_runV (As := []) (rest := [.int 0, .ref ao]) ⟨hx, hb, hml, hown, hts⟩ (c_X8_struckShare l hnt hs hne) (cwV 0 hts gL_struckShare_X8_struckShare rfl rfl rfl (by decide +kernel) ⟨Nat.le_of_ble_eq_true rfl, Nat.le_of_ble_eq_true rfl⟩) ⟨m_blind (fun U g mk a h => ⟨m_B_calling U g mk a h.1, c_str_calling U g mk a h.2⟩), m_recv hw (m_ent_9 hs.1.1) rfl, fun U hU hW => ⟨rfl, m_wo_call hw hU hW, c_str_warm hW hcs⟩⟩ rfl rfl hl.1 rfl (lv_room (Nat.le_of_ble_eq_true rfl)) dL_struckShare_3 ⟨Nat.le_of_ble_eq_true rfl, Nat.le_of_ble_eq_true rfl⟩) hw (fun E_ ce_ q9_ u_3x H locs hpx hw hce hcv hcl => ?_) (fun r_3 u_3 H locs hp_3 hw => ?_)
  · skip
    obtain ⟨hpx, hE⟩ := hpx
    have hsimx := hs
    have hfrx : c_fr K I R N A K I R N A := c_fr_rf
    have hv9 : (t_b (decide (0 < (L (cd 1)).length))) = 0 ∨ (t_b (decide (0 < (L (cd 1)).length))) = 1 := (h_tb _)
    rcases hv9 with c9_0 | c9_1
    · exact absurd c9_0 hpx
    · skip
      have hE : E_ = "java/lang/ArithmeticException" := hE
      subst hE
      refine vx_catch (own := RL) (name := "java/lang/ArithmeticException") hown [] ⟨0, 8, 11, 112⟩ [] hxt (fun _ h => absurd h List.not_mem_nil) (by decide) (by decide) (hts (.classLink RL 112 "java/lang/ArithmeticException") (by decide +kernel)) (m_wo_cas hw (by decide)) hce hcv hcl ?_
      refine lv_astore_n (lv' := [(2, .ref q9_), (0, .ref x), (1, .ref ao)]) hx hb dL_struckShare_11 rfl hl (by decide) rfl (fun ls hl => ?_)
      refine lv_iconst (v := 1) hx hb dL_struckShare_12 (by decide) ?_
      exact W.iret (v := 1) hx hb hr (fun t ht hW => ⟨⟨1, (K, I, R, F, A, N, L, T, J, D), rfl, ⟨c9_1.symm, fun z => absurd (c9_1.symm.trans z) (by decide), hsimx, hfrx⟩, m_wo_out hw ht hW.alike⟩, m_wo_F hw ht⟩) (m_wo_L hw) dL_struckShare_13
  obtain ⟨ht0, rfl⟩ := hp_3
  have hsim := hs
  have hfr : c_fr K I R N A K I R N A := c_fr_rf
  have hn64 := hn64c (of_decide_eq_true (q_tb0.mp ht0))
  have hka1 : K ao = 36 := (hfr ao (by rw [hka]; simp [c_oth])).1.trans hka
  have hin1 : vp_in 0 (N ao) := h_in ((hfr ao (by rw [hka]; simp [c_oth])).2.1.trans hna)
  refine lv_f2d hx hb dL_struckShare_6 hn64 ?_
  refine m_dastore_36 hx hb hw hka1 hin1  dL_struckShare_7 (fun H locs hw => ?_)
  refine lv_goto (tgt := 14) hx hb dL_struckShare_8 (by decide) ?_
  refine lv_iconst (v := 0) hx hb dL_struckShare_14 (by decide) ?_
  exact W.iret (v := 0) hx hb hr (fun t ht hW => ⟨⟨0, (K, I, R, F, A, N, L, T, J, m_up D ao (vf_upd (D ao) (0 : Int32).toNatClampNeg (FP.f2d (o_share M (L (cd 1)).length)))), rfl, ⟨ht0.symm, fun _ => h_D, hsim, hfr⟩, m_wo_out hw ht hW.alike⟩, m_wo_F hw ht⟩) (m_wo_L hw) dL_struckShare_15
