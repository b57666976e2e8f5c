abbrev mE : Type := (Nat → Nat) × (Nat → Nat → Int32) × (Nat → Nat → Option Nat) × (Nat → UInt32) × (Nat → Nat → Int32) × (Nat → Nat) × (Nat → List Nat) × (Nat → List Int32) × (Nat → Nat → Int64) × (Nat → Nat → UInt64)
/-- what a helper of the law tells -/
abbrev h_ps (K : Nat → Nat) (I : Nat → Nat → Int32) (R : Nat → Nat → Option Nat) (N : Nat → Nat) (A : Nat → Nat → Int32) (x : Nat) (cd : Nat → Nat) (S : mS) (t : Int32) (q : mE → Prop) (r : Int32) (u : mE) : Prop :=
  r = t ∧ (t = 0 → q u) ∧ c_sim u.1 u.2.1 u.2.2.1 u.2.2.2.2.2.1 u.2.2.2.2.1 u.2.2.2.2.2.2.1 u.2.2.2.2.2.2.2.1 x cd S.1 S.2 ∧ c_fr K I R N A u.1 u.2.1 u.2.2.1 u.2.2.2.2.2.1 u.2.2.2.2.1
theorem h_in {n : Nat} (h : n = 1) : vp_in 0 n := by rw [h]; unfold vp_in; decide
theorem h_J {J : Nat → Nat → Int64} {ao : Nat} {v : Int64} : m_up J ao (vp_updL (J ao) (0 : Int32).toNatClampNeg v) ao 0 = v := by rw [m_up_self]; exact if_pos rfl
theorem h_D {D : Nat → Nat → UInt64} {ao : Nat} {v : UInt64} : m_up D ao (vf_upd (D ao) (0 : Int32).toNatClampNeg v) ao 0 = v := by rw [m_up_self]; exact if_pos rfl
theorem h_tb (b : Bool) : t_b b = 0 ∨ t_b b = 1 := by cases b <;> decide
theorem h_tt (b : Bool) (Z : mZ) : t_typed b Z = 0 ∨ t_typed b Z = 1 ∨ t_typed b Z = 2 := by unfold t_typed; (repeat' split) <;> simp
set_option maxHeartbeats 1600000 in
set_option maxRecDepth 100000 in
theorem c_L_island (l : Launch) {G : mG} {K : Nat → Nat} {I : Nat → Nat → Int32} {R : Nat → Nat → Option Nat} {F : Nat → UInt32} {A : Nat → Nat → Int32} {N : Nat → Nat} {L : Nat → List Nat} {T : Nat → List Int32} {J : Nat → Nat → Int64} {D : Nat → Nat → UInt64} {x ao : Nat} {cd : Nat → Nat} {Z : Nat → Int32} {M : Nat → Nat → Int32} {xx yy tr : Int32} (hnt : l.stackTraces = false) (hs : c_sim K I R N A L T x cd Z M) (h10 : M 10 (L (cd 0)).length = 0) (hka : K ao = 35) (hna : N ao = 1) : Met l yL_island wsL_island ({ frames := 10, cells := 5, slots := 54, locals := 400 } : Room) (va_Pc [.ref x, .int xx, .int yy, .int tr, .ref ao] (fun U => m_B G K I R F A N L T J D U ∧ c_str U)) (va_Qi (h_ps K I R N A x cd (if t_island Z xx yy tr = 0 then p_island (Z, M) xx yy tr else (Z, M)) (t_island Z xx yy tr) (fun u => u.2.2.2.2.2.2.2.2.1 ao 0 = (Z 0).toInt64)) (fun u : mE => m_B G (u.1) (u.2.1) (u.2.2.1) (u.2.2.2.1) (u.2.2.2.2.1) (u.2.2.2.2.2.1) (u.2.2.2.2.2.2.1) (u.2.2.2.2.2.2.2.1) (u.2.2.2.2.2.2.2.2.1) (u.2.2.2.2.2.2.2.2.2)) (m_A G)) 5 54 (m_A G) := by
  refine va_MetW (by decide) rfl ?_
  intro p e s m args below meth c s₁ B hml hv
  obtain ⟨rfl, hB, hcs⟩ := hv
  have hx := B.exec
  have hb := B.bytes
  have hr := B.returns
  have hts := atoms_spec (ws := wsL_island) B.pre
  have hxt := vx_table (x := yL_island) B (hts (.codeWith yL_island cL_island 6 (some .int) [(0, 12, 15, 13), (0, 12, 19, 15)]) List.mem_cons_self)
  have hown : s.vm.findClass RL = some m.cls := findClass_of_methodNamed B.named
  have hlocks := B.notSynchronized
  have hw := m_wo_in hB
  have hl := lv_entry ([.ref x, .int xx, .int yy, .int tr, .ref ao]) (n := 6) (Nat.le_of_ble_eq_true rfl)
  rw [lg_entry_eq]
  generalize (lg_sl ([.ref x, .int xx, .int yy, .int tr, .ref ao]) ++ List.replicate (6 - (lg_sl ([.ref x, .int xx, .int yy, .int tr, .ref ao])).length) Slot.unset).toArray = ls at hl ⊢
  have hl : lv_has ls 6 [(0, .ref x), (1, .int xx), (2, .int yy), (3, .int tr), (4, .ref ao)] := hl
  refine lv_aload hx hb dL_island_0 (lv_at hl 4 rfl) ?_
  refine lv_iconst (v := 0) hx hb dL_island_2 (by decide) ?_
  refine lv_aload_n hx hb dL_island_3 rfl (lv_at hl 0 rfl) ?_
  refine lv_iload_n hx hb dL_island_4 rfl (lv_at hl 1 rfl) ?_
  refine lv_iload_n hx hb dL_island_5 rfl (lv_at hl 2 rfl) ?_
  refine lv_iload_n hx hb dL_island_6 rfl (lv_at hl 3 rfl) ?_
  refine m_xi (vx_runV (As := [.int xx, .int yy, .int tr]) (rest := [.int 0, .ref ao]) ⟨hx, hb, hml, hown, hts⟩ (c_X8_island l hnt hs h10) (cwV 3 hts gL_island_X8_island rfl rfl rfl (by decide +kernel) ⟨Nat.le_of_ble_eq_true rfl, Nat.le_of_ble_eq_true rfl⟩) ⟨m_blind (fun U g mk a h => ⟨m_B_calling U g mk a h.1, c_str_calling U g mk a h.2⟩), m_recv hw (m_ent_9 hs.1.1) rfl, fun U hU hW => ⟨rfl, m_wo_call hw hU hW, c_str_warm hW hcs⟩⟩ rfl rfl hl.1 rfl (lv_room (Nat.le_of_ble_eq_true rfl)) dL_island_7 ⟨Nat.le_of_ble_eq_true rfl, Nat.le_of_ble_eq_true rfl⟩) hw (fun E_ ce_ q9_ u_7x H locs hpx hw hce hcv hcl => ?_) (fun r_7 u_7 H locs hp_7 hw => ?_)
  · skip
    obtain ⟨hpx, hE⟩ := hpx
    have hsimx := hs
    have hfrx : c_fr K I R N A K I R N A := c_fr_rf
    have hv9 : (t_island Z xx yy tr) = 0 ∨ (t_island Z xx yy tr) = 1 ∨ (t_island Z xx yy tr) = 2 := (by unfold t_island; (repeat' split) <;> simp)
    rcases hv9 with c9_0 | c9_1 | c9_2
    · exact absurd c9_0 hpx
    · skip
      have hE : E_ = "java/lang/IllegalArgumentException" := hE.trans (by rw [if_pos c9_1])
      subst hE
      refine vx_catch (own := RL) (name := "java/lang/IllegalArgumentException") hown [] ⟨0, 12, 15, 13⟩ [⟨0, 12, 19, 15⟩] hxt (fun _ h => absurd h List.not_mem_nil) (by decide) (by decide) (hts (.classLink RL 13 "java/lang/IllegalArgumentException") (by decide +kernel)) (m_wo_cas hw (by decide)) hce hcv hcl ?_
      refine lv_astore (lv' := [(5, .ref q9_), (0, .ref x), (1, .int xx), (2, .int yy), (3, .int tr), (4, .ref ao)]) hx hb dL_island_15 hl (by decide) rfl (fun ls hl => ?_)
      refine lv_iconst (v := 1) hx hb dL_island_17 (by decide) ?_
      exact W.iret (v := 1) hx hb hr (fun t ht hW => ⟨⟨1, (K, I, R, F, A, N, L, T, J, D), rfl, ⟨c9_1.symm, fun z => absurd (c9_1.symm.trans z) (by decide), (by rw [if_neg hpx]; exact hsimx), hfrx⟩, m_wo_out hw ht hW.alike⟩, m_wo_F hw ht⟩) (m_wo_L hw) dL_island_18
    · skip
      have hE : E_ = "java/lang/IllegalStateException" := hE.trans (by rw [if_neg (fun z => absurd (c9_2.symm.trans z) (by decide))])
      subst hE
      refine vx_catch (own := RL) (name := "java/lang/IllegalStateException") hown [⟨0, 12, 15, 13⟩] ⟨0, 12, 19, 15⟩ [] hxt (List.forall_mem_cons.mpr ⟨Or.inr ⟨(by decide : (13 : Nat) ≠ 0), "java/lang/IllegalArgumentException", hts (.classLink RL 13 "java/lang/IllegalArgumentException") (by decide +kernel), hw.2.1.2.2.2.2.2.1 ("java/lang/IllegalStateException", "java/lang/IllegalArgumentException") (by decide)⟩, (fun _ h => absurd h List.not_mem_nil)⟩) (by decide) (by decide) (hts (.classLink RL 15 "java/lang/IllegalStateException") (by decide +kernel)) (m_wo_cas hw (by decide)) hce hcv hcl ?_
      refine lv_astore (lv' := [(5, .ref q9_), (0, .ref x), (1, .int xx), (2, .int yy), (3, .int tr), (4, .ref ao)]) hx hb dL_island_19 hl (by decide) rfl (fun ls hl => ?_)
      refine lv_iconst (v := 2) hx hb dL_island_21 (by decide) ?_
      exact W.iret (v := 2) hx hb hr (fun t ht hW => ⟨⟨2, (K, I, R, F, A, N, L, T, J, D), rfl, ⟨c9_2.symm, fun z => absurd (c9_2.symm.trans z) (by decide), (by rw [if_neg hpx]; exact hsimx), hfrx⟩, m_wo_out hw ht hW.alike⟩, m_wo_F hw ht⟩) (m_wo_L hw) dL_island_22
  obtain ⟨K_1, I_2, R_3, N_4, L_5⟩ := u_7
  have hw : m_wo G K_1 I_2 R_3 F A N_4 L_5 T J D s H locs := hw
  dsimp only at hp_7
  obtain ⟨ht0, rfl, hsim, hfr⟩ := hp_7
  have hka1 : K_1 ao = 35 := (hfr ao (by rw [hka]; simp [c_oth])).1.trans hka
  have hin1 : vp_in 0 (N_4 ao) := h_in ((hfr ao (by rw [hka]; simp [c_oth])).2.1.trans hna)
  refine lv_i2l (v := ((Z 0)).toInt64) hx hb dL_island_10 rfl ?_
  refine m_lastore_35 hx hb hw hka1 hin1  dL_island_11 (fun H locs hw => ?_)
  refine lv_goto (tgt := 23) hx hb dL_island_12 (by decide) ?_
  refine lv_iconst (v := 0) hx hb dL_island_23 (by decide) ?_
  exact W.iret (v := 0) hx hb hr (fun t ht hW => ⟨⟨0, (K_1, I_2, R_3, F, A, N_4, L_5, T, m_up J ao (vp_updL (J ao) (0 : Int32).toNatClampNeg (((Z 0)).toInt64)), D), rfl, ⟨ht0.symm, fun _ => h_J, (by rw [if_pos ht0]; exact hsim), hfr⟩, m_wo_out hw ht hW.alike⟩, m_wo_F hw ht⟩) (m_wo_L hw) dL_island_24
