theorem q_mg1 {Z : mZ} {M : mM} {a b : Int32} (h : a = b) : t_merge Z M a b = 1 := if_pos h
theorem q_pm1 {S : mS} {a b : Int32} (h : a = b) : p_merge S a b = S := if_pos h
theorem q_mg2 {Z : mZ} {M : mM} {a b : Int32} (h : ¬ a = b) (h2 : ¬ (o_seg Z M a = true ∧ o_seg Z M b = true)) : t_merge Z M a b = 2 := (if_neg h).trans (if_neg (fun z => h2 (by rw [Bool.and_eq_true] at z; exact z)))
theorem q_mg3 {Z : mZ} {M : mM} {a b : Int32} (h : ¬ a = b) (h1 : o_seg Z M a = true) (h2 : o_seg Z M b = true) (h3 : o_wrong Z M a b = true) : t_merge Z M a b = 3 := (if_neg h).trans ((if_pos (by rw [h1, h2]; rfl)).trans (if_pos h3))
theorem q_mg0 {Z : mZ} {M : mM} {a b : Int32} (h : ¬ a = b) (h1 : o_seg Z M a = true) (h2 : o_seg Z M b = true) (h3 : o_wrong Z M a b = false) : t_merge Z M a b = 0 := (if_neg h).trans ((if_pos (by rw [h1, h2]; rfl)).trans (if_neg (by rw [h3]; decide)))
theorem q_wr1 {Z : mZ} {M : mM} {a b : Int32} (h : ¬ (o_seg Z M a = true ∧ o_seg Z M b = true)) : o_wrong Z M a b = true := by
  unfold o_wrong
  cases h1 : o_seg Z M a
  · rfl
  · cases h2 : o_seg Z M b
    · rfl
    · exact absurd ⟨h1, h2⟩ h
theorem q_wr2 {Z : mZ} {M : mM} {a b : Int32} (h : a = Z 5) : o_wrong Z M a b = true := by
  unfold o_wrong
  rw [decide_eq_true h]
  cases o_seg Z M a <;> cases o_seg Z M b <;> rfl
theorem q_wr3 {Z : mZ} {M : mM} {a b : Int32} (h : b = Z 5) : o_wrong Z M a b = true := by
  unfold o_wrong
  rw [decide_eq_true h]
  cases o_seg Z M a <;> cases o_seg Z M b <;> cases decide (a = Z 5) <;> rfl
theorem q_wr0 {Z : mZ} {M : mM} {a b : Int32} (h1 : o_seg Z M a = true) (h2 : o_seg Z M b = true) (h3 : ¬ a = Z 5) (h4 : ¬ b = Z 5) : o_wrong Z M a b = false := by
  unfold o_wrong
  rw [h1, h2, decide_eq_false h3, decide_eq_false h4]
  rfl
theorem q_pmw {Z : mZ} {M : mM} {a b : Int32} (h : ¬ a = b) (h3 : o_wrong Z M a b = true) : p_merge (Z, M) a b = o_mcause Z M a b := (if_neg h).trans (if_pos h3)
/-- the causes that a row of letters leaves -/
def o_cs (Z : mZ) (M : mM) : List Int32 → mS
  | [] => (z1 Z 31 0, M)
  | [c] => (z1 (z1 Z 31 0) 31 1, m1 M 32 0 c)
  | c :: d :: _ => (z1 (z1 (z1 Z 31 0) 31 1) 31 2, m1 (m1 M 32 0 c) 32 1 d)
theorem q_cs {K : Nat → Nat} {I I2 : Nat → Nat → Int32} {R : Nat → Nat → Option Nat} {N : Nat → Nat} {A A2 : Nat → Nat → Int32} {L : Nat → List Nat} {T T2 : Nat → List Int32} {x : Nat} {cd : Nat → Nat} {Z : mZ} {M : mM} {cs : List Int32} (hs : c_sim K I R N A L T x cd Z M) (hI : ∀ f b, f ≠ 121 → I2 f b = I f b) (hA : ∀ b, K b ≠ 41 → A2 b = A b) (hcs : cs.length ≤ 2) (eT : T2 = m_up T (cd 7) cs) : c_sim K I2 R N A2 L T2 x cd (o_cs Z M cs).1 (o_cs Z M cs).2 := by
  match cs, hcs with
  | [], _ =>
    have e : o_cs Z M [] = (z1 Z 31 0, M) := rfl
    rw [e]
    dsimp only
    refine c_sim_cau hs hI hA ⟨?_, ?_, fun k c hk => ?_⟩ (fun j h => z1_n _ _ h) (fun j h => rfl)
    · rw [eT, m_up_self]; exact z1_s _ _ _
    · rw [eT, m_up_self]; simp
    · rw [eT, m_up_self] at hk; exact absurd hk (by simp)
  | [c1], _ =>
    have e : o_cs Z M [c1] = (z1 (z1 Z 31 0) 31 1, m1 M 32 0 c1) := rfl
    rw [e]
    dsimp only
    refine c_sim_cau hs hI hA ⟨?_, ?_, fun k c hk => ?_⟩ (fun j h => (z1_n _ _ h).trans (z1_n _ _ h)) (fun j h => m1_n _ _ h)
    · rw [eT, m_up_self]; exact z1_s _ _ _
    · rw [eT, m_up_self]; simp
    · rw [eT, m_up_self] at hk
      match k, hk with
      | 0, hk => exact (Option.some.inj hk).symm.trans (by show c1 = m1 M 32 0 c1 32 0; rw [m1_at, if_pos rfl])
  | [c1, c2], _ =>
    have e : o_cs Z M [c1, c2] = (z1 (z1 (z1 Z 31 0) 31 1) 31 2, m1 (m1 M 32 0 c1) 32 1 c2) := rfl
    rw [e]
    dsimp only
    refine c_sim_cau hs hI hA ⟨?_, ?_, fun k c hk => ?_⟩ (fun j h => (z1_n _ _ h).trans ((z1_n _ _ h).trans (z1_n _ _ h))) (fun j h => (m1_n _ _ h).trans (m1_n _ _ h))
    · rw [eT, m_up_self]; exact z1_s _ _ _
    · rw [eT, m_up_self]; simp
    · rw [eT, m_up_self] at hk
      match k, hk with
      | 0, hk => exact (Option.some.inj hk).symm.trans (by show c1 = m1 (m1 M 32 0 c1) 32 1 c2 32 0; rw [m1_at, if_neg (by decide), m1_at, if_pos rfl])
      | 1, hk => exact (Option.some.inj hk).symm.trans (by show c2 = m1 (m1 M 32 0 c1) 32 1 c2 32 1; rw [m1_at, if_pos rfl])
  | _ :: _ :: _ :: _, h => exact absurd h (by simp)
theorem q_mcause {K : Nat → Nat} {I I2 : Nat → Nat → Int32} {R : Nat → Nat → Option Nat} {N : Nat → Nat} {A A2 : Nat → Nat → Int32} {L : Nat → List Nat} {T T2 : Nat → List Int32} {x : Nat} {cd : Nat → Nat} {Z : mZ} {M : mM} {va vb : Int32} {o1 o2 : Option Nat} (hs : c_sim K I R N A L T x cd Z M) (hne : ¬ va = vb) (f1 : (L (cd 10)).find? (fun a => decide (I 50 a = va)) = o1) (f2 : (L (cd 10)).find? (fun a => decide (I 50 a = vb)) = o2) (hI : ∀ f b, f ≠ 121 → I2 f b = I f b) (hA : ∀ b, K b ≠ 41 → A2 b = A b) (eT : T2 = if c_mca o1 o2 (R 61 (cd 4)) = [] then T else m_up T (cd 7) (c_mca o1 o2 (R 61 (cd 4)))) (hw : o_wrong Z M va vb = true) : c_sim K I2 R N A2 L T2 x cd (p_merge (Z, M) va vb).1 (p_merge (Z, M) va vb).2 := by
  rw [q_pmw hne hw]
  have key : ∀ cs : List Int32, c_mca o1 o2 (R 61 (cd 4)) = cs → cs ≠ [] → cs.length ≤ 2 → o_mcause Z M va vb = o_cs Z M cs → c_sim K I2 R N A2 L T2 x cd (o_mcause Z M va vb).1 (o_mcause Z M va vb).2 := fun cs e1 e2 e3 e4 => by
    rw [e4]
    rw [e1, if_neg e2] at eT
    exact q_cs hs hI hA e3 eT
  have n1 : ∀ {v : Int32}, (L (cd 10)).find? (fun a => decide (I 50 a = v)) = none → o_seg Z M v = false := fun h => Bool.eq_false_iff.mpr (q_st1 hs h)
  cases o1 with
  | none =>
    cases o2 with
    | none =>
      refine key [nI 115, nI 115] c_mca_nn (by simp) (by simp) ?_
      unfold o_mcause
      rw [n1 f1, n1 f2]
      rfl
    | some b =>
      have hb := q_st0 hs f2
      by_cases e : some b = R 61 (cd 4)
      · refine key [nI 115, nI 111] (by rw [c_mca_ns, if_pos e]) (by simp) (by simp) ?_
        unfold o_mcause
        rw [n1 f1, hb, decide_eq_true ((q_isop hs f2).mp e)]
        rfl
      · refine key [nI 115] (by rw [c_mca_ns, if_neg e]) (by simp) (by simp) ?_
        unfold o_mcause
        rw [n1 f1, hb, decide_eq_false (fun z => e ((q_isop hs f2).mpr z))]
        rfl
  | some a =>
    have ha := q_st0 hs f1
    cases o2 with
    | none =>
      by_cases e : some a = R 61 (cd 4)
      · refine key [nI 115, nI 111] (by rw [c_mca_sn, if_pos e]) (by simp) (by simp) ?_
        unfold o_mcause
        rw [n1 f2, ha, decide_eq_true ((q_isop hs f1).mp e)]
        rfl
      · refine key [nI 115] (by rw [c_mca_sn, if_neg e]) (by simp) (by simp) ?_
        unfold o_mcause
        rw [n1 f2, ha, decide_eq_false (fun z => e ((q_isop hs f1).mpr z))]
        rfl
    | some b =>
      have hb := q_st0 hs f2
      have hor : va = Z 5 ∨ vb = Z 5 := by
        unfold o_wrong at hw
        rw [ha, hb] at hw
        simpa using hw
      refine key [nI 111] (by rw [c_mca_ss, if_pos (hor.imp (q_isop hs f1).mpr (q_isop hs f2).mpr)]) (by simp) (by simp) ?_
      unfold o_mcause
      rw [ha, hb]
      by_cases e : va = Z 5
      · rw [decide_eq_true e, decide_eq_false (fun z => hne (e.trans z.symm))]
        rfl
      · rw [decide_eq_false e, decide_eq_true (hor.resolve_left e)]
        rfl
set_option maxHeartbeats 1600000 in
set_option maxRecDepth 100000 in
theorem c_X8_merge (l : Launch) (hnt : l.stackTraces = false) {G : mG} {K : Nat → Nat} {I : Nat → Nat → Int32} {R : Nat → Nat → Option Nat} {F : Nat → UInt32} {A : Nat → Nat → Int32} {N : Nat → Nat} {L : Nat → List Nat} {T : Nat → List Int32} {J : Nat → Nat → Int64} {D : Nat → Nat → UInt64} {o : Nat} {cd : Nat → Nat} {Z : Nat → Int32} {M : Nat → Nat → Int32} {va vb : Int32} (hs : c_sim K I R N A L T o cd Z M) (h4 : ∃ m, Z 4 = nI m ∧ m + 1 < 2 ^ 30) : vx_Met l yX8_merge wsX8_merge ({ frames := 11, cells := 134, slots := 1124, locals := 480 } : Room) (va_Pc [.ref o, .int va, .int vb] (fun U => m_B G K I R F A N L T J D U ∧ c_str U)) (va_Qi (fun (r : Int32) (u : (Nat → Nat) × (Nat → Nat → Int32) × (Nat → Nat → Option Nat) × (Nat → Nat) × (Nat → List Nat) × (Nat → Nat → Int32) × (Nat → List Int32)) => t_merge Z M va vb = 0 ∧ r = Z 4 ∧ c_sim u.1 u.2.1 u.2.2.1 u.2.2.2.1 u.2.2.2.2.2.1 u.2.2.2.2.1 u.2.2.2.2.2.2 o cd (p_merge (Z, M) va vb).1 (p_merge (Z, M) va vb).2 ∧ c_fr K I R N A u.1 u.2.1 u.2.2.1 u.2.2.2.1 u.2.2.2.2.2.1) (fun u : (Nat → Nat) × (Nat → Nat → Int32) × (Nat → Nat → Option Nat) × (Nat → Nat) × (Nat → List Nat) × (Nat → Nat → Int32) × (Nat → List Int32) => m_B G (u.1) (u.2.1) (u.2.2.1) F (u.2.2.2.2.2.1) (u.2.2.2.1) (u.2.2.2.2.1) (u.2.2.2.2.2.2) J D) (m_A G)) (vx_X (fun (u : (Nat → Nat → Int32) × (Nat → Nat → Int32) × (Nat → List Int32)) => ¬ t_merge Z M va vb = 0 ∧ c_sim K u.1 R N u.2.1 L u.2.2 o cd (p_merge (Z, M) va vb).1 (p_merge (Z, M) va vb).2 ∧ c_fr K I R N A K u.1 R N u.2.1) (fun E (u : (Nat → Nat → Int32) × (Nat → Nat → Int32) × (Nat → List Int32)) t => E = (if t_merge Z M va vb = 1 then "java/lang/IllegalArgumentException" else if t_merge Z M va vb = 2 then "java/util/NoSuchElementException" else "java/lang/UnsupportedOperationException") ∧ m_B G K u.1 R F u.2.1 N L u.2.2 J D t) (m_A G)) 134 1124 (m_A G) := by
  refine vx_ofW (cc := cX8_merge) (maxL := 5) (ret := (some .int)) (by decide) rfl ?_
  intro p e s m args below meth c s₁ B hml hxt hv
  obtain ⟨rfl, hB, hcs⟩ := hv
  have hx := B.exec
  have hb := B.bytes
  have hr := B.returns
  have hts := atoms_spec (ws := wsX8_merge) B.pre
  have hown : s.vm.findClass RX8 = some m.cls := findClass_of_methodNamed B.named
  have hlocks := B.notSynchronized
  have hw := m_wo_in hB
  have hl := lv_entry ([.ref o, .int va, .int vb]) (n := 5) (Nat.le_of_ble_eq_true rfl)
  rw [lg_entry_eq]
  generalize (lg_sl ([.ref o, .int va, .int vb]) ++ List.replicate (5 - (lg_sl ([.ref o, .int va, .int vb])).length) Slot.unset).toArray = ls at hl ⊢
  have hl : lv_has ls 5 [(0, .ref o), (1, .int va), (2, .int vb)] := hl
  have hok := hs.1
  have hel0 := q_el0 hs
  have hel1 := q_el1 hs
  have hel5 := q_el5 hs
  have hel7 := q_el7 hs
  have hel9 := q_el9 hs
  refine lv_iload_n hx hb dX8_merge_0 rfl (lv_at hl 1 rfl) ?_
  refine lv_iload_n hx hb dX8_merge_1 rfl (lv_at hl 2 rfl) ?_
  refine lv_icmp_ne (tgt := 15) hx hb dX8_merge_2 (by decide) (fun c_2 => ?_) (fun c_2 => ?_)
  · skip
    refine lv_aload_n hx hb dX8_merge_15 rfl (lv_at hl 0 rfl) ?_
    refine lv_aload_n hx hb dX8_merge_16 rfl (lv_at hl 0 rfl) ?_
    refine g_9_4 (r := some (cd 4)) hx hb hts (by decide +kernel) hown hw hok.1 (hts (.fieldLink RX8 36 "Pirateindex" "shelf" "LPirateindex$Shelf;") (by decide +kernel)) hok.2.2.2.2.2.1 dX8_merge_17 ?_
    refine lv_iload_n hx hb dX8_merge_20 rfl (lv_at hl 1 rfl) ?_
    refine m_cq (va_runV (As := [.int va]) (rest := [.ref o]) ⟨hx, hb, hml, hown, hts⟩ (c_X5_numbered l hok.2.2.2.2.2.2.2.2.2.2.2.2.2.2.1 hok.2.2.2.2.2.2.2.2.2.2.2.2.2.2.2.2.2.2.2.2.2.2.2.2.2.2.1 hok.2.2.2.2.2.2.2.2.2.2.2.2.2.2.2.2.2.2.2.2.1 hel5) (cwV 1 hts gX8_merge_X5_numbered rfl rfl rfl (by decide +kernel) ⟨Nat.le_of_ble_eq_true rfl, Nat.le_of_ble_eq_true rfl⟩) ⟨m_blind m_B_calling, m_recv hw (m_ent_6 hok.2.2.2.2.2.2.2.2.2.2.2.2.2.2.1) rfl, fun U hU hW => ⟨rfl, m_wo_call hw hU hW⟩⟩ rfl rfl hl.1 rfl (lv_room (Nat.le_of_ble_eq_true rfl)) dX8_merge_21 ⟨Nat.le_of_ble_eq_true rfl, Nat.le_of_ble_eq_true rfl⟩) hw (fun r_21 u_21 H locs hp_21 hw => ?_)
    rcases r_21 with _ | s1
    · skip
      refine lv_aload_n hx hb dX8_merge_24 rfl (lv_at hl 0 rfl) ?_
      refine g_9_4 (r := some (cd 4)) hx hb hts (by decide +kernel) hown hw hok.1 (hts (.fieldLink RX8 36 "Pirateindex" "shelf" "LPirateindex$Shelf;") (by decide +kernel)) hok.2.2.2.2.2.1 dX8_merge_25 ?_
      refine lv_iload_n hx hb dX8_merge_28 rfl (lv_at hl 2 rfl) ?_
      refine m_cq (va_runV (As := [.int vb]) (rest := [.null, .ref o]) ⟨hx, hb, hml, hown, hts⟩ (c_X5_numbered l hok.2.2.2.2.2.2.2.2.2.2.2.2.2.2.1 hok.2.2.2.2.2.2.2.2.2.2.2.2.2.2.2.2.2.2.2.2.2.2.2.2.2.2.1 hok.2.2.2.2.2.2.2.2.2.2.2.2.2.2.2.2.2.2.2.2.1 hel5) (cwV 1 hts gX8_merge_X5_numbered rfl rfl rfl (by decide +kernel) ⟨Nat.le_of_ble_eq_true rfl, Nat.le_of_ble_eq_true rfl⟩) ⟨m_blind m_B_calling, m_recv hw (m_ent_6 hok.2.2.2.2.2.2.2.2.2.2.2.2.2.2.1) rfl, fun U hU hW => ⟨rfl, m_wo_call hw hU hW⟩⟩ rfl rfl hl.1 rfl (lv_room (Nat.le_of_ble_eq_true rfl)) dX8_merge_29 ⟨Nat.le_of_ble_eq_true rfl, Nat.le_of_ble_eq_true rfl⟩) hw (fun r_29 u_29 H locs hp_29 hw => ?_)
      rcases r_29 with _ | s2
      · skip
        refine m_cv (va_runV (As := [.null, .null]) (rest := []) ⟨hx, hb, hml, hown, hts⟩ (c_X8_leaveMergeCauses_nn l hok) (cwV 2 hts gX8_merge_X8_leaveMergeCauses rfl rfl rfl (by decide +kernel) ⟨Nat.le_of_ble_eq_true rfl, Nat.le_of_ble_eq_true rfl⟩) ⟨m_blind m_B_calling, m_recv hw (m_ent_9 hok.1) rfl, fun U hU hW => ⟨rfl, m_wo_call hw hU hW⟩⟩ rfl rfl hl.1 rfl (lv_room (Nat.le_of_ble_eq_true rfl)) dX8_merge_32 ⟨Nat.le_of_ble_eq_true rfl, Nat.le_of_ble_eq_true rfl⟩) hw (fun u_32 H locs hp_32 hw => ?_)
        obtain ⟨I_1, A_2, T_3⟩ := u_32
        have hw : m_wo G K I_1 R F A_2 N L T_3 J D s H locs := hw
        dsimp only at hp_32
        obtain ⟨hIc, hAc, eTc⟩ := hp_32
        have f1 := hp_21.symm
        have f2 := hp_29.symm
        have e50 : I_1 50 = I 50 := funext (fun b => hIc 50 b (by decide))
        have hfC : c_fr K I R N A K I_1 R N A_2 := c_fr_tr (c_fr_I (fun f b h => hIc f b (by omega))) (c_fr_A (fun b _ _ _ _ h => hAc b h))
        have hsn : ¬ (o_seg Z M va = true ∧ o_seg Z M vb = true) := fun z => q_st1 hs f1 z.1
        have htz : t_merge Z M va vb = 2 := q_mg2 c_2 hsn
        have hwr : o_wrong Z M va vb = true := q_wr1 hsn
        have hsC := q_mcause hs c_2 f1 f2 hIc hAc eTc hwr
        refine lv_aload_n hx hb dX8_merge_35 rfl (lv_at hl 0 rfl) ?_
        refine lv_iload_n hx hb dX8_merge_36 rfl (lv_at hl 1 rfl) ?_
        refine m_xq (vx_runV (As := [.int va]) (rest := []) ⟨hx, hb, hml, hown, hts⟩ (c_X8_segmentNumbered l hnt hok hel5) (cwV 1 hts gX8_merge_X8_segmentNumbered rfl rfl rfl (by decide +kernel) ⟨Nat.le_of_ble_eq_true rfl, Nat.le_of_ble_eq_true rfl⟩) ⟨m_blind (fun U g mk a h => ⟨m_B_calling U g mk a h.1, c_str_calling U g mk a h.2⟩), m_recv hw (m_ent_9 hok.1) rfl, fun U hU hW => ⟨rfl, m_wo_call hw hU hW, c_str_warm hW hcs⟩⟩ rfl rfl hl.1 rfl (lv_room (Nat.le_of_ble_eq_true rfl)) dX8_merge_37 ⟨Nat.le_of_ble_eq_true rfl, Nat.le_of_ble_eq_true rfl⟩) hw (fun E_ ce_ q9_ u_37x H locs hpx hw hce hcv hcl => ?_) (fun r_37 u_37 H locs hp_37 hw => ?_)
        · skip
          obtain ⟨hpx, rfl⟩ := hpx
          exact vx_out (fun x hx9 => absurd (hxt x hx9) id) hlocks hce hcv hcl (fun t ht9 hA9 => ⟨(I_1, A_2, T_3), ⟨by rw [htz]; decide, hsC, hfC⟩, ⟨(by first | (rw [htz]; rfl) | exact absurd hpx f1n), m_wo_out hw ht9 hA9⟩, m_wo_F hw ht9⟩) (m_wo_L hw) (Nat.le_of_ble_eq_true rfl) (Nat.le_of_ble_eq_true rfl)
        exact absurd (hp_37.1.trans (by rw [e50]; exact f1)) hp_37.2
      · skip
        refine m_cv (va_runV (As := [.null, .ref s2]) (rest := []) ⟨hx, hb, hml, hown, hts⟩ (c_X8_leaveMergeCauses_ns l hok) (cwV 2 hts gX8_merge_X8_leaveMergeCauses rfl rfl rfl (by decide +kernel) ⟨Nat.le_of_ble_eq_true rfl, Nat.le_of_ble_eq_true rfl⟩) ⟨m_blind m_B_calling, m_recv hw (m_ent_9 hok.1) rfl, fun U hU hW => ⟨rfl, m_wo_call hw hU hW⟩⟩ rfl rfl hl.1 rfl (lv_room (Nat.le_of_ble_eq_true rfl)) dX8_merge_32 ⟨Nat.le_of_ble_eq_true rfl, Nat.le_of_ble_eq_true rfl⟩) hw (fun u_32 H locs hp_32 hw => ?_)
        obtain ⟨I_4, A_5, T_6⟩ := u_32
        have hw : m_wo G K I_4 R F A_5 N L T_6 J D s H locs := hw
        dsimp only at hp_32
        obtain ⟨hIc, hAc, eTc⟩ := hp_32
        have f1 := hp_21.symm
        have f2 := hp_29.symm
        have e50 : I_4 50 = I 50 := funext (fun b => hIc 50 b (by decide))
        have hfC : c_fr K I R N A K I_4 R N A_5 := c_fr_tr (c_fr_I (fun f b h => hIc f b (by omega))) (c_fr_A (fun b _ _ _ _ h => hAc b h))
        have f2n : ¬ (L (cd 10)).find? (fun a => decide (I_4 50 a = vb)) = none := by rw [e50, f2]; simp
        have hsn : ¬ (o_seg Z M va = true ∧ o_seg Z M vb = true) := fun z => q_st1 hs f1 z.1
        have htz : t_merge Z M va vb = 2 := q_mg2 c_2 hsn
        have hwr : o_wrong Z M va vb = true := q_wr1 hsn
        have hsC := q_mcause hs c_2 f1 f2 hIc hAc eTc hwr
        refine lv_aload_n hx hb dX8_merge_35 rfl (lv_at hl 0 rfl) ?_
        refine lv_iload_n hx hb dX8_merge_36 rfl (lv_at hl 1 rfl) ?_
        refine m_xq (vx_runV (As := [.int va]) (rest := []) ⟨hx, hb, hml, hown, hts⟩ (c_X8_segmentNumbered l hnt hok hel5) (cwV 1 hts gX8_merge_X8_segmentNumbered rfl rfl rfl (by decide +kernel) ⟨Nat.le_of_ble_eq_true rfl, Nat.le_of_ble_eq_true rfl⟩) ⟨m_blind (fun U g mk a h => ⟨m_B_calling U g mk a h.1, c_str_calling U g mk a h.2⟩), m_recv hw (m_ent_9 hok.1) rfl, fun U hU hW => ⟨rfl, m_wo_call hw hU hW, c_str_warm hW hcs⟩⟩ rfl rfl hl.1 rfl (lv_room (Nat.le_of_ble_eq_true rfl)) dX8_merge_37 ⟨Nat.le_of_ble_eq_true rfl, Nat.le_of_ble_eq_true rfl⟩) hw (fun E_ ce_ q9_ u_37x H locs hpx hw hce hcv hcl => ?_) (fun r_37 u_37 H locs hp_37 hw => ?_)
        · skip
          obtain ⟨hpx, rfl⟩ := hpx
          exact vx_out (fun x hx9 => absurd (hxt x hx9) id) hlocks hce hcv hcl (fun t ht9 hA9 => ⟨(I_4, A_5, T_6), ⟨by rw [htz]; decide, hsC, hfC⟩, ⟨(by first | (rw [htz]; rfl) | exact absurd hpx f1n), m_wo_out hw ht9 hA9⟩, m_wo_F hw ht9⟩) (m_wo_L hw) (Nat.le_of_ble_eq_true rfl) (Nat.le_of_ble_eq_true rfl)
        exact absurd (hp_37.1.trans (by rw [e50]; exact f1)) hp_37.2
    · skip
      refine lv_aload_n hx hb dX8_merge_24 rfl (lv_at hl 0 rfl) ?_
      refine g_9_4 (r := some (cd 4)) hx hb hts (by decide +kernel) hown hw hok.1 (hts (.fieldLink RX8 36 "Pirateindex" "shelf" "LPirateindex$Shelf;") (by decide +kernel)) hok.2.2.2.2.2.1 dX8_merge_25 ?_
      refine lv_iload_n hx hb dX8_merge_28 rfl (lv_at hl 2 rfl) ?_
      refine m_cq (va_runV (As := [.int vb]) (rest := [.ref s1, .ref o]) ⟨hx, hb, hml, hown, hts⟩ (c_X5_numbered l hok.2.2.2.2.2.2.2.2.2.2.2.2.2.2.1 hok.2.2.2.2.2.2.2.2.2.2.2.2.2.2.2.2.2.2.2.2.2.2.2.2.2.2.1 hok.2.2.2.2.2.2.2.2.2.2.2.2.2.2.2.2.2.2.2.2.1 hel5) (cwV 1 hts gX8_merge_X5_numbered rfl rfl rfl (by decide +kernel) ⟨Nat.le_of_ble_eq_true rfl, Nat.le_of_ble_eq_true rfl⟩) ⟨m_blind m_B_calling, m_recv hw (m_ent_6 hok.2.2.2.2.2.2.2.2.2.2.2.2.2.2.1) rfl, fun U hU hW => ⟨rfl, m_wo_call hw hU hW⟩⟩ rfl rfl hl.1 rfl (lv_room (Nat.le_of_ble_eq_true rfl)) dX8_merge_29 ⟨Nat.le_of_ble_eq_true rfl, Nat.le_of_ble_eq_true rfl⟩) hw (fun r_29 u_29 H locs hp_29 hw => ?_)
      rcases r_29 with _ | s2
      · skip
        refine m_cv (va_runV (As := [.ref s1, .null]) (rest := []) ⟨hx, hb, hml, hown, hts⟩ (c_X8_leaveMergeCauses_sn l hok) (cwV 2 hts gX8_merge_X8_leaveMergeCauses rfl rfl rfl (by decide +kernel) ⟨Nat.le_of_ble_eq_true rfl, Nat.le_of_ble_eq_true rfl⟩) ⟨m_blind m_B_calling, m_recv hw (m_ent_9 hok.1) rfl, fun U hU hW => ⟨rfl, m_wo_call hw hU hW⟩⟩ rfl rfl hl.1 rfl (lv_room (Nat.le_of_ble_eq_true rfl)) dX8_merge_32 ⟨Nat.le_of_ble_eq_true rfl, Nat.le_of_ble_eq_true rfl⟩) hw (fun u_32 H locs hp_32 hw => ?_)
        obtain ⟨I_7, A_8, T_9⟩ := u_32
        have hw : m_wo G K I_7 R F A_8 N L T_9 J D s H locs := hw
        dsimp only at hp_32
        obtain ⟨hIc, hAc, eTc⟩ := hp_32
        have f1 := hp_21.symm
        have f2 := hp_29.symm
        have e50 : I_7 50 = I 50 := funext (fun b => hIc 50 b (by decide))
        have hfC : c_fr K I R N A K I_7 R N A_8 := c_fr_tr (c_fr_I (fun f b h => hIc f b (by omega))) (c_fr_A (fun b _ _ _ _ h => hAc b h))
        have f1n : ¬ (L (cd 10)).find? (fun a => decide (I_7 50 a = va)) = none := by rw [e50, f1]; simp
        have hsn : ¬ (o_seg Z M va = true ∧ o_seg Z M vb = true) := fun z => q_st1 hs f2 z.2
        have htz : t_merge Z M va vb = 2 := q_mg2 c_2 hsn
        have hwr : o_wrong Z M va vb = true := q_wr1 hsn
        have hsC := q_mcause hs c_2 f1 f2 hIc hAc eTc hwr
        refine lv_aload_n hx hb dX8_merge_35 rfl (lv_at hl 0 rfl) ?_
        refine lv_iload_n hx hb dX8_merge_36 rfl (lv_at hl 1 rfl) ?_
        refine m_xq (vx_runV (As := [.int va]) (rest := []) ⟨hx, hb, hml, hown, hts⟩ (c_X8_segmentNumbered l hnt hok hel5) (cwV 1 hts gX8_merge_X8_segmentNumbered rfl rfl rfl (by decide +kernel) ⟨Nat.le_of_ble_eq_true rfl, Nat.le_of_ble_eq_true rfl⟩) ⟨m_blind (fun U g mk a h => ⟨m_B_calling U g mk a h.1, c_str_calling U g mk a h.2⟩), m_recv hw (m_ent_9 hok.1) rfl, fun U hU hW => ⟨rfl, m_wo_call hw hU hW, c_str_warm hW hcs⟩⟩ rfl rfl hl.1 rfl (lv_room (Nat.le_of_ble_eq_true rfl)) dX8_merge_37 ⟨Nat.le_of_ble_eq_true rfl, Nat.le_of_ble_eq_true rfl⟩) hw (fun E_ ce_ q9_ u_37x H locs hpx hw hce hcv hcl => ?_) (fun r_37 u_37 H locs hp_37 hw => ?_)
        · skip
          obtain ⟨hpx, rfl⟩ := hpx
          exact vx_out (fun x hx9 => absurd (hxt x hx9) id) hlocks hce hcv hcl (fun t ht9 hA9 => ⟨(I_7, A_8, T_9), (absurd hpx f1n), ⟨(by first | (rw [htz]; rfl) | exact absurd hpx f1n), m_wo_out hw ht9 hA9⟩, m_wo_F hw ht9⟩) (m_wo_L hw) (Nat.le_of_ble_eq_true rfl) (Nat.le_of_ble_eq_true rfl)
        obtain rfl : r_37 = some s1 := hp_37.1.trans (by rw [e50]; exact f1)
        refine lv_astore_n (lv' := [(3, .ref s1), (0, .ref o), (1, .int va), (2, .int vb)]) hx hb dX8_merge_40 rfl hl (by decide) rfl (fun ls hl => ?_)
        refine lv_aload_n hx hb dX8_merge_41 rfl (lv_at hl 1 rfl) ?_
        refine lv_iload_n hx hb dX8_merge_42 rfl (lv_at hl 3 rfl) ?_
        refine m_xq (vx_runV (As := [.int vb]) (rest := []) ⟨hx, hb, hml, hown, hts⟩ (c_X8_segmentNumbered l hnt hok hel5) (cwV 1 hts gX8_merge_X8_segmentNumbered rfl rfl rfl (by decide +kernel) ⟨Nat.le_of_ble_eq_true rfl, Nat.le_of_ble_eq_true rfl⟩) ⟨m_blind (fun U g mk a h => ⟨m_B_calling U g mk a h.1, c_str_calling U g mk a h.2⟩), m_recv hw (m_ent_9 hok.1) rfl, fun U hU hW => ⟨rfl, m_wo_call hw hU hW, c_str_warm hW hcs⟩⟩ rfl rfl hl.1 rfl (lv_room (Nat.le_of_ble_eq_true rfl)) dX8_merge_43 ⟨Nat.le_of_ble_eq_true rfl, Nat.le_of_ble_eq_true rfl⟩) hw (fun E_ ce_ q9_ u_43x H locs hpx hw hce hcv hcl => ?_) (fun r_43 u_43 H locs hp_43 hw => ?_)
        · skip
          obtain ⟨hpx, rfl⟩ := hpx
          exact vx_out (fun x hx9 => absurd (hxt x hx9) id) hlocks hce hcv hcl (fun t ht9 hA9 => ⟨(I_7, A_8, T_9), ⟨by rw [htz]; decide, hsC, hfC⟩, ⟨(by first | (rw [htz]; rfl) | exact absurd hpx f2n), m_wo_out hw ht9 hA9⟩, m_wo_F hw ht9⟩) (m_wo_L hw) (Nat.le_of_ble_eq_true rfl) (Nat.le_of_ble_eq_true rfl)
        exact absurd (hp_43.1.trans (by rw [e50]; exact f2)) hp_43.2
      · skip
        refine m_cv (va_runV (As := [.ref s1, .ref s2]) (rest := []) ⟨hx, hb, hml, hown, hts⟩ (c_X8_leaveMergeCauses_ss l hok) (cwV 2 hts gX8_merge_X8_leaveMergeCauses rfl rfl rfl (by decide +kernel) ⟨Nat.le_of_ble_eq_true rfl, Nat.le_of_ble_eq_true rfl⟩) ⟨m_blind m_B_calling, m_recv hw (m_ent_9 hok.1) rfl, fun U hU hW => ⟨rfl, m_wo_call hw hU hW⟩⟩ rfl rfl hl.1 rfl (lv_room (Nat.le_of_ble_eq_true rfl)) dX8_merge_32 ⟨Nat.le_of_ble_eq_true rfl, Nat.le_of_ble_eq_true rfl⟩) hw (fun u_32 H locs hp_32 hw => ?_)
        obtain ⟨I_10, A_11, T_12⟩ := u_32
        have hw : m_wo G K I_10 R F A_11 N L T_12 J D s H locs := hw
        dsimp only at hp_32
        obtain ⟨hIc, hAc, eTc⟩ := hp_32
        have f1 := hp_21.symm
        have f2 := hp_29.symm
        have e50 : I_10 50 = I 50 := funext (fun b => hIc 50 b (by decide))
        have hfC : c_fr K I R N A K I_10 R N A_11 := c_fr_tr (c_fr_I (fun f b h => hIc f b (by omega))) (c_fr_A (fun b _ _ _ _ h => hAc b h))
        have f1n : ¬ (L (cd 10)).find? (fun a => decide (I_10 50 a = va)) = none := by rw [e50, f1]; simp
        have f2n : ¬ (L (cd 10)).find? (fun a => decide (I_10 50 a = vb)) = none := by rw [e50, f2]; simp
        have hsa := q_st0 hs f1
        have hsb := q_st0 hs f2
        have hs8 : c_sim K I_10 R N A_11 L T o cd Z M := c_sim_cau hs hIc hAc hs.2.2.2.2.2.2.2.1 (fun _ _ => rfl) (fun _ _ => rfl)
        have hm1 := List.mem_of_find?_eq_some f1
        have hm2 := List.mem_of_find?_eq_some f2
        refine lv_aload_n hx hb dX8_merge_35 rfl (lv_at hl 0 rfl) ?_
        refine lv_iload_n hx hb dX8_merge_36 rfl (lv_at hl 1 rfl) ?_
        refine m_xq (vx_runV (As := [.int va]) (rest := []) ⟨hx, hb, hml, hown, hts⟩ (c_X8_segmentNumbered l hnt hok hel5) (cwV 1 hts gX8_merge_X8_segmentNumbered rfl rfl rfl (by decide +kernel) ⟨Nat.le_of_ble_eq_true rfl, Nat.le_of_ble_eq_true rfl⟩) ⟨m_blind (fun U g mk a h => ⟨m_B_calling U g mk a h.1, c_str_calling U g mk a h.2⟩), m_recv hw (m_ent_9 hok.1) rfl, fun U hU hW => ⟨rfl, m_wo_call hw hU hW, c_str_warm hW hcs⟩⟩ rfl rfl hl.1 rfl (lv_room (Nat.le_of_ble_eq_true rfl)) dX8_merge_37 ⟨Nat.le_of_ble_eq_true rfl, Nat.le_of_ble_eq_true rfl⟩) hw (fun E_ ce_ q9_ u_37x H locs hpx hw hce hcv hcl => ?_) (fun r_37 u_37 H locs hp_37 hw => ?_)
        · skip
          obtain ⟨hpx, rfl⟩ := hpx
          exact vx_out (fun x hx9 => absurd (hxt x hx9) id) hlocks hce hcv hcl (fun t ht9 hA9 => ⟨(I_10, A_11, T_12), (absurd hpx f1n), ⟨(by first | (rw [htz]; rfl) | exact absurd hpx f1n), m_wo_out hw ht9 hA9⟩, m_wo_F hw ht9⟩) (m_wo_L hw) (Nat.le_of_ble_eq_true rfl) (Nat.le_of_ble_eq_true rfl)
        obtain rfl : r_37 = some s1 := hp_37.1.trans (by rw [e50]; exact f1)
        refine lv_astore_n (lv' := [(3, .ref s1), (0, .ref o), (1, .int va), (2, .int vb)]) hx hb dX8_merge_40 rfl hl (by decide) rfl (fun ls hl => ?_)
        refine lv_aload_n hx hb dX8_merge_41 rfl (lv_at hl 1 rfl) ?_
        refine lv_iload_n hx hb dX8_merge_42 rfl (lv_at hl 3 rfl) ?_
        refine m_xq (vx_runV (As := [.int vb]) (rest := []) ⟨hx, hb, hml, hown, hts⟩ (c_X8_segmentNumbered l hnt hok hel5) (cwV 1 hts gX8_merge_X8_segmentNumbered rfl rfl rfl (by decide +kernel) ⟨Nat.le_of_ble_eq_true rfl, Nat.le_of_ble_eq_true rfl⟩) ⟨m_blind (fun U g mk a h => ⟨m_B_calling U g mk a h.1, c_str_calling U g mk a h.2⟩), m_recv hw (m_ent_9 hok.1) rfl, fun U hU hW => ⟨rfl, m_wo_call hw hU hW, c_str_warm hW hcs⟩⟩ rfl rfl hl.1 rfl (lv_room (Nat.le_of_ble_eq_true rfl)) dX8_merge_43 ⟨Nat.le_of_ble_eq_true rfl, Nat.le_of_ble_eq_true rfl⟩) hw (fun E_ ce_ q9_ u_43x H locs hpx hw hce hcv hcl => ?_) (fun r_43 u_43 H locs hp_43 hw => ?_)
        · skip
          obtain ⟨hpx, rfl⟩ := hpx
          exact vx_out (fun x hx9 => absurd (hxt x hx9) id) hlocks hce hcv hcl (fun t ht9 hA9 => ⟨(I_10, A_11, T_12), (absurd hpx f2n), ⟨(by first | (rw [htz]; rfl) | exact absurd hpx f2n), m_wo_out hw ht9 hA9⟩, m_wo_F hw ht9⟩) (m_wo_L hw) (Nat.le_of_ble_eq_true rfl) (Nat.le_of_ble_eq_true rfl)
        obtain rfl : r_43 = some s2 := hp_43.1.trans (by rw [e50]; exact f2)
        refine lv_astore (lv' := [(4, .ref s2), (3, .ref s1), (0, .ref o), (1, .int va), (2, .int vb)]) hx hb dX8_merge_46 hl (by decide) rfl (fun ls hl => ?_)
        refine lv_aload_n hx hb dX8_merge_48 rfl (lv_at hl 2 rfl) ?_
        refine lv_aload_n hx hb dX8_merge_49 rfl (lv_at hl 1 rfl) ?_
        refine m_xv (vx_runV (As := [.ref s1]) (rest := []) ⟨hx, hb, hml, hown, hts⟩ (c_X8_requireClosed l hnt hok) (cwV 1 hts gX8_merge_X8_requireClosed rfl rfl rfl (by decide +kernel) ⟨Nat.le_of_ble_eq_true rfl, Nat.le_of_ble_eq_true rfl⟩) ⟨m_blind (fun U g mk a h => ⟨m_B_calling U g mk a h.1, c_str_calling U g mk a h.2⟩), m_recv hw (m_ent_9 hok.1) rfl, fun U hU hW => ⟨rfl, m_wo_call hw hU hW, c_str_warm hW hcs⟩⟩ rfl rfl hl.1 rfl (lv_room (Nat.le_of_ble_eq_true rfl)) dX8_merge_50 ⟨Nat.le_of_ble_eq_true rfl, Nat.le_of_ble_eq_true rfl⟩) hw (fun E_ ce_ q9_ u_50x H locs hpx hw hce hcv hcl => ?_) (fun u_50 H locs hp_50 hw => ?_)
        · skip
          obtain ⟨hpx, rfl⟩ := hpx
          exact vx_out (fun x hx9 => absurd (hxt x hx9) id) hlocks hce hcv hcl (fun t ht9 hA9 => ⟨(I_10, A_11, T_12), ⟨by rw [q_mg3 c_2 hsa hsb (q_wr2 ((q_isop hs f1).mp hpx))]; decide, q_mcause hs c_2 f1 f2 hIc hAc eTc (q_wr2 ((q_isop hs f1).mp hpx)), hfC⟩, ⟨(by rw [q_mg3 c_2 hsa hsb (q_wr2 ((q_isop hs f1).mp hpx))]; rfl), m_wo_out hw ht9 hA9⟩, m_wo_F hw ht9⟩) (m_wo_L hw) (Nat.le_of_ble_eq_true rfl) (Nat.le_of_ble_eq_true rfl)
        have hnv : ¬ va = Z 5 := fun z => hp_50 ((q_isop hs f1).mpr z)
        refine lv_aload_n hx hb dX8_merge_53 rfl (lv_at hl 2 rfl) ?_
        refine lv_aload hx hb dX8_merge_54 (lv_at hl 0 rfl) ?_
        refine m_xv (vx_runV (As := [.ref s2]) (rest := []) ⟨hx, hb, hml, hown, hts⟩ (c_X8_requireClosed l hnt hok) (cwV 1 hts gX8_merge_X8_requireClosed rfl rfl rfl (by decide +kernel) ⟨Nat.le_of_ble_eq_true rfl, Nat.le_of_ble_eq_true rfl⟩) ⟨m_blind (fun U g mk a h => ⟨m_B_calling U g mk a h.1, c_str_calling U g mk a h.2⟩), m_recv hw (m_ent_9 hok.1) rfl, fun U hU hW => ⟨rfl, m_wo_call hw hU hW, c_str_warm hW hcs⟩⟩ rfl rfl hl.1 rfl (lv_room (Nat.le_of_ble_eq_true rfl)) dX8_merge_56 ⟨Nat.le_of_ble_eq_true rfl, Nat.le_of_ble_eq_true rfl⟩) hw (fun E_ ce_ q9_ u_56x H locs hpx hw hce hcv hcl => ?_) (fun u_56 H locs hp_56 hw => ?_)
        · skip
          obtain ⟨hpx, rfl⟩ := hpx
          exact vx_out (fun x hx9 => absurd (hxt x hx9) id) hlocks hce hcv hcl (fun t ht9 hA9 => ⟨(I_10, A_11, T_12), ⟨by rw [q_mg3 c_2 hsa hsb (q_wr3 ((q_isop hs f2).mp hpx))]; decide, q_mcause hs c_2 f1 f2 hIc hAc eTc (q_wr3 ((q_isop hs f2).mp hpx)), hfC⟩, ⟨(by rw [q_mg3 c_2 hsa hsb (q_wr3 ((q_isop hs f2).mp hpx))]; rfl), m_wo_out hw ht9 hA9⟩, m_wo_F hw ht9⟩) (m_wo_L hw) (Nat.le_of_ble_eq_true rfl) (Nat.le_of_ble_eq_true rfl)
        have hnw : ¬ vb = Z 5 := fun z => hp_56 ((q_isop hs f2).mpr z)
        refine lv_aload_n hx hb dX8_merge_59 rfl (lv_at hl 2 rfl) ?_
        refine g_9_4 (r := some (cd 4)) hx hb hts (by decide +kernel) hown hw hok.1 (hts (.fieldLink RX8 36 "Pirateindex" "shelf" "LPirateindex$Shelf;") (by decide +kernel)) hok.2.2.2.2.2.1 dX8_merge_60 ?_
        refine lv_aload_n hx hb dX8_merge_63 rfl (lv_at hl 1 rfl) ?_
        refine lv_aload hx hb dX8_merge_64 (lv_at hl 0 rfl) ?_
        refine lv_aload_n hx hb dX8_merge_66 rfl (lv_at hl 2 rfl) ?_
        refine g_9_1 (r := some (cd 1)) hx hb hts (by decide +kernel) hown hw hok.1 (hts (.fieldLink RX8 16 "Pirateindex" "log" "Ljava/util/ArrayList;") (by decide +kernel)) hok.2.2.1 dX8_merge_67 ?_
        have hno : ¬ (some s1 = R 61 (cd 4) ∨ some s2 = R 61 (cd 4)) := fun z => z.elim (fun z => hnv ((q_isop hs f1).mp z)) (fun z => hnw ((q_isop hs f2).mp z))
        rw [c_mca_ss, if_neg hno, if_pos rfl] at eTc
        have h21 : s2 ≠ s1 := fun z => c_2 (by have g1 := of_decide_eq_true (List.find?_some (p := fun a => decide (I 50 a = va)) f1); have g2 := of_decide_eq_true (List.find?_some (p := fun a => decide (I 50 a = vb)) f2); rw [← g1, ← g2, z])
        refine m_cq (va_runV (As := [.ref s1, .ref s2, .ref (cd 1)]) (rest := []) ⟨hx, hb, hml, hown, hts⟩ (c_X5_unite l hok.2.2.2.2.2.2.2.2.2.2.2.2.2.2.1 hok.2.2.2.2.2.2.2.2.2.2.2.2.2.2.2.2.2.2.2.2.2.2.2.2.2.2.1 hok.2.2.2.2.2.2.2.2.2.2.2.2.2.2.2.2.2.2.2.2.1 hel5 hok.2.2.2.2.2.2.2.2.2.2.2.2.2.2.2.2.2.2.2.2.2.2.2.2.2.2.2.2.2.2.2.2.2.2.2.2.2.2.2.2.1 hm1 hm2 h21 hok.2.2.2.2.2.2.2.2.2.2.2.1 hok.2.2.2.2.2.2.2.2.2.2.2.2.2.2.2.2.2.2.2.2.2.2.2.2.2.2.2.2.2.2.2.2.2.2.2.2.2.2.2.2.2.2.2.2.2.2.2.2.2.2.1 hel1 (q_log_nd hs) hs.2.2.1.2.1 hs.2.2.2.2.1.2.1) (cwV 3 hts gX8_merge_X5_unite rfl rfl rfl (by decide +kernel) ⟨Nat.le_of_ble_eq_true rfl, Nat.le_of_ble_eq_true rfl⟩) ⟨m_blind m_B_calling, m_recv hw (m_ent_6 hok.2.2.2.2.2.2.2.2.2.2.2.2.2.2.1) rfl, fun U hU hW => ⟨rfl, m_wo_call hw hU hW⟩⟩ rfl rfl hl.1 rfl (lv_room (Nat.le_of_ble_eq_true rfl)) dX8_merge_70 ⟨Nat.le_of_ble_eq_true rfl, Nat.le_of_ble_eq_true rfl⟩) hw (fun r_70 u_70 H locs hp_70 hw => ?_)
        obtain ⟨K_13, I_14, R_15, N_16, L_17⟩ := u_70
        have hw : m_wo G K_13 I_14 R_15 F A_11 N_16 L_17 T_12 J D s H locs := hw
        dsimp only at hp_70
        obtain ⟨sg, fl, hr9, hzs, hzf, hsf, hc9, ks9, kf9, e51, e111, e509, e62, e15, eL9⟩ := hp_70
        obtain rfl : r_70 = some sg := hr9
        have hok2 := c_ok_chg hs8.1 hc9 (fun f b z => by rw [z]; rfl)
        have hss := q_merge hs8 c_2 (by rw [e50]; exact f1) (by rw [e50]; exact f2) hnv hnw h4 hzs hzf hc9 ks9 kf9 e51 e111 e509 e62 e15 eL9 (m_cap_le hw hok2.2.2.2.2.2.2.2.2.2.2.2.2.2.2.2.2.2.2.1 hok2.2.2.2.2.2.2.2.2.2.2.2.2.2.2.2.2.2.2.2.2.2.2.2.2.2.2.2.2.2.2.2.2.2.2.2.2.2.2.1)
        have h50s : I_14 50 sg = Z 4 := e509.trans ((hIc 62 _ (by decide)).trans hs.2.2.2.2.1.2.2.2.2.2.2.1)
        have htz : t_merge Z M va vb = 0 := q_mg0 c_2 hsa hsb (q_wr0 hsa hsb hnv hnw)
        refine g_5_0 hx hb hts (by decide +kernel) hown hw ks9 (hts (.fieldLink RX8 147 "Pirateindex$Segment" "number" "I") (by decide +kernel)) dX8_merge_73 ?_
        rw [h50s]
        refine vx_ret ?_
        exact W.iret (v := (Z 4)) hx hb hr (fun t ht hW => ⟨⟨(Z 4), (K_13, I_14, R_15, N_16, L_17, A_11, T_12), rfl, ⟨htz, rfl, by show c_sim _ _ _ _ _ _ T_12 _ _ _ _; rw [eTc]; exact hss, c_fr_tr hfC (c_fr_c hc9 (fun f b z => by omega) (fun f b z => by omega))⟩, m_wo_out hw ht hW.alike⟩, m_wo_F hw ht⟩) (m_wo_L hw) dX8_merge_76
  · skip
    obtain ⟨sa, hsa⟩ := hcs.1 (157, "both segments are the same") (by decide)
    refine vx_throwS (names := ["java/lang/RuntimeException", "java/lang/Exception"]) hx hb hnt hown (by decide) (by decide) (hts (.classLink RX8 155 "java/lang/IllegalArgumentException") (by decide +kernel)) (hts (.initialized "java/lang/IllegalArgumentException") (by decide +kernel)) hsa (vx_hat (B := .castable "java/lang/IllegalArgumentException" "java/lang/IllegalArgumentException" :: [.declares (Bundle.initS "java/lang/RuntimeException"), .declares (Bundle.initS "java/lang/Exception"), .declares (Bundle.initS Bundle.tN)]) (fun w h => hts w ((by decide +kernel : ∀ w ∈ (vx_atS RX8 159 "java/lang/IllegalArgumentException" ["java/lang/RuntimeException", "java/lang/Exception"]).filter goodWord, w ∈ wsX8_merge) w h)) (by decide +kernel) (vx_c (m_wo_cas hw (by decide)) (c_str_dc hcs))) (by decide +kernel) hw.2.1.1 hw.2.1.2.1 hw.2.2.2.1 (hl.1.trans hml.symm) dX8_merge_5 dX8_merge_8 dX8_merge_9 dX8_merge_11 dX8_merge_14 (fun x hx9 => absurd (hxt x hx9) id) (Nat.le_of_ble_eq_true rfl) (Nat.le_of_ble_eq_true rfl) (Nat.le_of_ble_eq_true rfl) (Nat.le_of_ble_eq_true rfl) hlocks (fun t hA9 hs9 hq9 => ⟨(I, A, T), ⟨by rw [q_mg1 c_2]; decide, by rw [q_pm1 c_2]; exact hs, c_fr_rf⟩, ⟨(by rw [q_mg1 c_2]; rfl), m_wo_up hw hA9 hs9 hq9⟩, m_wo_uF hw hs9 hq9⟩) (m_wo_L hw) (Nat.le_of_ble_eq_true rfl) (Nat.le_of_ble_eq_true rfl)
