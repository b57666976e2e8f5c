set_option maxHeartbeats 1600000 in
set_option maxRecDepth 100000 in
theorem lo_start {p : Program} {l : Launch} {e : Env} {s : State} {m : MethodId} {below : List Frame} {meth : Method} {c : Code} {H : Heap} {ls : Array Slot} {Q : State → Prop} {G : mG} {Kz : Nat → Nat} {Iz : Nat → Nat → Int32} {Rz : Nat → Nat → Option Nat} {Fz : Nat → UInt32} {Az : Nat → Nat → Int32} {Nz : Nat → Nat} {Lz : Nat → List Nat} {Tz : Nat → List Int32} {Jz : Nat → Nat → Int64} {Dz : Nat → Nat → UInt64} {b n : Nat} {xs : Nat → Int32} (C : lw_cx p l s m c b n xs G) (hfp : f_all) (hw : m_wo G Kz Iz Rz Fz Az Nz Lz Tz Jz Dz s H []) (hl : lv_has ls 10 [(0, .ref b)]) (hend : ∀ (H : Heap) (locs : List Loc) (ls : Array Slot), (∀ q ∈ locs, G.2.2.1 ≤ q.base) → ls.size = 10 → W p l e room_1 s m #[Value.ref b] below meth c H locs 603072 7211114 Q (F0 m 2026 ls [])) : W p l e room_1 s m #[Value.ref b] below meth c H [] 0 0 Q (F0 m 0 ls []) := by
  obtain ⟨hx, hb, hml, hown, hts, hX, hbl, hbA, hnt, hcs, hn9⟩ := id C
  refine m_new_9 hx hb hts (by decide +kernel) hown (hts (.classLink RL 8 RX8) (by decide +kernel)) (hts (.instantiable RX8 9) (by decide +kernel)) (hts (.initialized RX8) (by decide +kernel)) hw (Nat.le_of_ble_eq_true rfl) (Nat.le_of_ble_eq_true rfl) dL_law_0 (fun q_0 H hz_0 hd_0 hw => ?_)
  have hk_0 : m_up Kz q_0 9 q_0 = 9 := m_up_self _ _ _
  refine lv_dup hx hb dL_law_3 rfl ?_
  refine m_cv (va_runI (As := []) (rest := [.ref q_0]) ⟨hx, hb, hml, hown, hts⟩ (c_X8_init l hk_0) (cwI 0 hts gL_law_X8_init rfl rfl rfl (hts (.initialized RX8) (by decide +kernel)) (hts (.methodLink RL 114 yX8_init) (by decide +kernel)) (hts (.instanceMethod yX8_init) (by decide +kernel)) rfl (by decide +kernel) ⟨Nat.le_of_ble_eq_true rfl, Nat.le_of_ble_eq_true rfl⟩) ⟨m_blind m_B_calling, fun U hU hW => ⟨rfl, m_wo_call hw hU hW⟩⟩ rfl rfl hl.1 rfl (lv_room (Nat.le_of_ble_eq_true rfl)) dL_law_4 ⟨Nat.le_of_ble_eq_true rfl, Nat.le_of_ble_eq_true rfl⟩) hw (fun u_4 H locs hp_4 hw => ?_)
  obtain ⟨K_1, I_2, R_3, N_4, L_5⟩ := u_4
  have hw : m_wo G K_1 I_2 R_3 Fz Az N_4 L_5 Tz Jz Dz s H locs := hw
  dsimp only at hp_4
  obtain ⟨cd, sg, fl, hok, hchg, f1, f2, f3, f4, f5, f6, f7, f8, f9, f10, l0, l1, l5, l8, l9, l10, lfl, t7⟩ := hp_4
  have hf0 : c_f0 K_1 I_2 R_3 N_4 q_0 cd sg fl := ⟨hok, f1, f2, f3, f4, f6, f7, f8, f9⟩
  have kx : K_1 q_0 = 9 := hok.1
  obtain ⟨K2, I2, R2, F2, A2, N2, L2, T2, J2, D2, hw, h10, ht1, hLT⟩ := m_forget hw
  refine lv_astore_n (lv' := [(1, .ref q_0), (0, .ref b)]) hx hb dL_law_7 rfl hl (by decide) rfl (fun ls hl => ?_)
  refine m_new_10 hx hb hts (by decide +kernel) hown (hts (.classLink RL 115 RX9) (by decide +kernel)) (hts (.instantiable RX9 35) (by decide +kernel)) (hts (.initialized RX9) (by decide +kernel)) hw (Nat.le_of_ble_eq_true rfl) (Nat.le_of_ble_eq_true rfl) dL_law_8 (fun q_8 H hz_8 hd_8 hw => ?_)
  have hk_8 : m_up K2 q_8 10 q_8 = 10 := m_up_self _ _ _
  have hK1 : ∀ b, m_up K2 q_8 10 b = 10 → b = q_8 := fun b h => Classical.byContradiction fun hne => by rw [m_up_ne _ _ hne] at h; exact h10 b h
  refine lv_dup hx hb dL_law_11 rfl ?_
  refine m_cv (va_runI (As := []) (rest := [.ref q_8]) ⟨hx, hb, hml, hown, hts⟩ (c_X9_init l hk_8 (fun f => hd_8.1 f) hK1) (cwI 0 hts gL_law_X9_init rfl rfl rfl (hts (.initialized RX9) (by decide +kernel)) (hts (.methodLink RL 117 yX9_init) (by decide +kernel)) (hts (.instanceMethod yX9_init) (by decide +kernel)) rfl (by decide +kernel) ⟨Nat.le_of_ble_eq_true rfl, Nat.le_of_ble_eq_true rfl⟩) ⟨m_blind m_B_calling, fun U hU hW => ⟨rfl, m_wo_call hw hU hW⟩⟩ rfl rfl hl.1 rfl (lv_room (Nat.le_of_ble_eq_true rfl)) dL_law_12 ⟨Nat.le_of_ble_eq_true rfl, Nat.le_of_ble_eq_true rfl⟩) hw (fun u_12 H locs hp_12 hw => ?_)
  obtain ⟨K_6, I_7, R_8, N_9, A_10⟩ := u_12
  have hw : m_wo G K_6 I_7 R_8 F2 A_10 N_9 L2 T2 J2 D2 s H locs := hw
  dsimp only at hp_12
  obtain ⟨ad, hro, hc4, hz4, -⟩ := hp_12
  refine lv_astore_n (lv' := [(2, .ref q_8), (1, .ref q_0), (0, .ref b)]) hx hb dL_law_15 rfl hl (by decide) rfl (fun ls hl => ?_)
  refine lv_iconst (v := 1) hx hb dL_law_16 (by decide) ?_
  refine m_newa_35 hx hb (hts (.arrayClass .long) (by decide +kernel)) hw (n := 1) (N' := 1) (by decide) (by decide) (by decide) (Nat.le_of_ble_eq_true rfl) (Nat.le_of_ble_eq_true rfl) dL_law_17 (fun q_17 H hz_17 hd_17 hw => ?_)
  have hk_17 : m_up K_6 q_17 35 q_17 = 35 := m_up_self _ _ _
  refine lv_astore_n (lv' := [(3, .ref q_17), (2, .ref q_8), (1, .ref q_0), (0, .ref b)]) hx hb dL_law_19 rfl hl (by decide) rfl (fun ls hl => ?_)
  refine lv_iconst (v := 1) hx hb dL_law_20 (by decide) ?_
  refine m_newa_36 hx hb (hts (.arrayClass .double) (by decide +kernel)) hw (n := 1) (N' := 1) (by decide) (by decide) (by decide) (Nat.le_of_ble_eq_true rfl) (Nat.le_of_ble_eq_true rfl) dL_law_21 (fun q_21 H hz_21 hd_21 hw => ?_)
  have hne : q_17 ≠ q_21 := fun z => by
    have h1 : m_up K_6 q_17 35 q_21 = 0 := hz_21
    rw [← z, m_up_self] at h1
    exact absurd h1 (by decide)
  have hk_21 : m_up (m_up K_6 q_17 35) q_21 36 q_21 = 36 := m_up_self _ _ _
  have hk_17 := m_up_k (k := 36) hz_21 hk_17 (by decide)
  refine lv_astore (lv' := [(4, .ref q_21), (3, .ref q_17), (2, .ref q_8), (1, .ref q_0), (0, .ref b)]) hx hb dL_law_23 hl (by decide) rfl (fun ls hl => ?_)
  refine lv_iconst (v := 0) hx hb dL_law_25 (by decide) ?_
  refine lv_istore (lv' := [(5, .int 0), (4, .ref q_21), (3, .ref q_17), (2, .ref q_8), (1, .ref q_0), (0, .ref b)]) hx hb dL_law_26 hl (by decide) rfl (fun ls hl => ?_)
  have ht : c_trl K_1 I_2 R_3 N_4 (m_up (m_up K_6 q_17 35) q_21 36) I_7 R_8 (m_up (m_up N_9 q_17 1) q_21 1) := c_trl_tr ht1 (c_trl_tr (c_trl_n hz_8) (c_trl_tr (c_trl_c hc4 (fun _ _ z => Or.inr (Or.inr z)) (fun _ b z => Or.inr (by rw [show b = q_8 from z]; exact m_up_self _ _ _))) (c_trl_tr (c_trl_a hz_17) (c_trl_a hz_21))))
  have hf1 := c_f0_tr hf0 ht
  have hro6 := r_ok_fr (r_ok_fr hro (c_fr_a (I := I_7) (A := A_10) (k := 35) (n := 1) hz_17)) (c_fr_a (I := I_7) (A := A_10) (k := 36) (n := 1) hz_21)
  have hz6 := r_st_fr (r_ok_fr hro (c_fr_a (I := I_7) (A := A_10) (k := 35) (n := 1) hz_17)) (r_st_fr hro hz4 (c_fr_a (I := I_7) (A := A_10) (k := 35) (n := 1) hz_17)) (c_fr_a (I := I_7) (A := A_10) (k := 36) (n := 1) hz_21)
  have n11 : ∀ i k, K_1 (cd i) = k → k ≠ 10 → L2 (cd i) = L_5 (cd i) ∧ T2 (cd i) = Tz (cd i) := fun i k e h => hLT _ (by rw [e]; exact h)
  have hs : c_sim (m_up (m_up K_6 q_17 35) q_21 36) I_7 R_8 (m_up (m_up N_9 q_17 1) q_21 1) A_10 L2 T2 q_0 cd r_Z0 (fun _ _ => 0) := by
    refine c_sim_0 hf1 (fun i hi z => ?_) (m_cap_le hw hf1.1.2.2.2.2.2.2.2.2.2.2.2.2.2.2.2.2.2.2.1 hf1.1.2.2.2.2.2.2.2.2.2.2.2.2.2.2.2.2.2.2.2.2.2.2.2.2.2.2.2.2.2.2.2.2.2.2.2.2.2.2.1) ((n11 0 11 hok.2.2.2.2.2.2.2.2.2.2.1 (by decide)).1.trans l0) ((n11 1 11 hok.2.2.2.2.2.2.2.2.2.2.2.1 (by decide)).1.trans l1) ((n11 5 11 hok.2.2.2.2.2.2.2.2.2.2.2.2.2.2.2.1 (by decide)).1.trans l5) ((n11 9 11 hok.2.2.2.2.2.2.2.2.2.2.2.2.2.2.2.2.2.2.2.1 (by decide)).1.trans l9) ((n11 10 11 hok.2.2.2.2.2.2.2.2.2.2.2.2.2.2.2.2.2.2.2.2.1 (by decide)).1.trans l10) ((hLT fl (by rw [f3]; decide)).1.trans lfl) ((n11 7 12 hok.2.2.2.2.2.2.2.2.2.2.2.2.2.2.2.2.2.1 (by decide)).2.trans t7)
    exact f5 i hi (by rw [← z]; exact f3) z.symm
  have hka : m_up (m_up K_6 q_17 35) q_21 36 q_17 = 35 ∧ m_up (m_up N_9 q_17 1) q_21 1 q_17 = 1 := ⟨(m_up_ne _ _ hne).trans (m_up_self _ _ _), (m_up_ne _ _ hne).trans (m_up_self _ _ _)⟩
  have hkd : m_up (m_up K_6 q_17 35) q_21 36 q_21 = 36 ∧ m_up (m_up N_9 q_17 1) q_21 1 q_21 = 1 := ⟨m_up_self _ _ _, m_up_self _ _ _⟩
  have q := lo_head (c0 := 48) (s0 := 1155) (b := b) (n := n) (xs := xs) (x := q_0) (o := q_8) (ao := q_17) (dd := q_21) (meth := meth) (below := below) (e := e) (Q := Q) C hfp (by decide) (by decide) hend 512 0 rfl H locs ls ⟨(m_up (m_up K_6 q_17 35) q_21 36, I_7, R_8, F2, A_10, m_up (m_up N_9 q_17 1) q_21 1, L2, T2, J2, D2), cd, ad, _, _, _, hw, hs, hro6, hz6, hka, hkd, w_f_0, lv_sub hl [5, 4, 3, 2, 1, 0] rfl⟩
  exact W.widen (k := 48 + 600 * 0) (n := 1155 + 8300 * 0) (Nat.le_of_ble_eq_true rfl) (Nat.le_of_ble_eq_true rfl) q
/-! THE CLAIM OUT OF ONE WALK OF THE LAW'S BODY. Your part is whole_start (and what it stands on); all else here is the same for every law, but numbers. -/
def R_law : String := "PirateindexLaw"
def lw_P (b : Addr) (xs : List Int32) (args : Array Value) (s : State) : Prop := args = #[.ref b] ∧ s.IntsAt b xs ∧ xs.length ≤ 2560 ∧ (Jvm.Cond.and given_1 narrow_1).before args s = true
/-- what a walk over the start with the record d0 says of its end, said of the start itself -/
theorem lw_closed {s t : State} {o : Outcome} {d0 : Drawn} {L : List Loc} {k n : Nat} (hd0 : s.drawn.sameBut d0 lw_cs) (hv : ∃ v, o = .returned v) (hW : (s.setDrawn d0).WarmedH t.vm) (hs : (s.setDrawn d0).sameButNew ({ t with vm := s.vm } : State) L k n) : State.butDraws s t lw_cs (fun t1 => Framed s o t1 L k n) := by
  have h2 : t.drawn = d0 := congrArg State.drawn hs.1
  refine ⟨⟨hv, hW, State.sameButNew.setDrawn hs s.drawn⟩, ?_, by decide⟩
  rw [h2]
  exact hd0
def lw_Q (_ : Array Value) (s : State) (o : Outcome) (t : State) : Prop := o = .returned (some (.int 1)) ∧ State.butDraws s t lw_cs (fun t1 => Framed s o t1 [] 603072 7211114)
def lw_Z (below : List Frame) (a : Array Value) (s : State) : State → Prop := fun t => ∃ o, t.status = .running ∧ Ended t below o ∧ lw_Q a s o t
/-- the law's own end, with 1 on the stack, nothing written that was there before, its room as the claim has it; d0: the record of draws at this point (at the entry s.drawn: begin with 'refine W.base ?_' and 'have hd0 := Drawn.sameBut.refl s.drawn lw_cs') -/
theorem lw_ret {p : Program} {l : Launch} {e : Env} {s : State} {m : MethodId} {below : List Frame} {meth : Method} {c : Code} {b : Nat} {d0 : Drawn} (hd0 : s.drawn.sameBut d0 lw_cs) (hx : p.tables.exec = Jvm.exec) (hb : c.code = code) (hr : meth.sig.returnType = ret) (hlocks : meth.locks = false) {pc : Nat} {H : Heap} {ls : Array Slot} (hdg : decode code pc = .ok (.ireturn, 1)) : W p l e room_1 (s.setDrawn d0) m #[Value.ref b] below meth c H [] 603072 7211114 (lw_Z below #[Value.ref b] s) (F0 m pc ls [.int 1]) := by
  intro T hT X
  obtain ⟨fs, hret, hrun, hended, hW, hframe⟩ := X.leave (v := some (.int 1)) (hlocks := hlocks) (fun h => by rw [hr] at h; cases h)
  have hmeth' : T.vm.method? m = some meth := X.method'
  refine ⟨T.setFrames fs, ?_, .returned (some (.int 1)), hrun, hended, rfl, lw_closed hd0 ⟨_, rfl⟩ hW hframe⟩
  jvm_step X.here [X.here.top, hx, hb, hdg, hmeth', hr, ret, narrow_b1]
  (try refine ⟨rfl, ?_⟩); (try refine ⟨rfl, ?_⟩)
  first | (intro acts; rw [hret _ acts rfl rfl rfl]) | rw [hret _ _ rfl rfl rfl]
  exact Steps.refl _
/-- what holds at the law's entry: the machine, the code, the tables' words (any of lw_tbl by 'hts w (by decide +kernel)'), the script of L ints xs at the cell b, what the Statement gives of the start (any of its parts by flat_of_before) -/
def lw_At (p : Program) (s : State) (m : MethodId) (meth : Method) (c : Code) (b L : Nat) (xs : Nat → Int32) : Prop :=
  p.tables.exec = Jvm.exec ∧ c.code = code ∧ meth.sig.returnType = ret ∧ c.maxLocals = 10 ∧ s.vm.findClass R_law = some m.cls ∧ (∀ w ∈ lw_tbl, w.before #[Value.ref b] s = true) ∧ va_X b L xs s s.heap ∧ b < s.heap.size ∧ meth.locks = false ∧ (Jvm.Cond.and given_1 narrow_1).before #[Value.ref b] s = true
