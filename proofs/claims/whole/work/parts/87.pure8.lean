theorem q_hrfd : ∀ s, s < 11 → ∀ n, n < 121 → (decide (nI n - (10 - nI s) ≤ 0) = decide (nI n ≤ 10 - nI s)) := by decide +kernel
theorem q_hrfe : ∀ s, s < 11 → ∀ n, n < 121 → ∀ k, k < 21 → decide (nI k + (if nI n ≤ 10 - nI s then 0 else (nI n - (10 - nI s) + 10 - 1) / 10) ≤ 20) = !decide (20 < nI k + (if nI n ≤ 10 - nI s then 0 else (nI n - (10 - nI s) + 10 - 1) / 10)) := fun s _ n _ k _ => by
  rw [Bool.eq_iff_iff, decide_eq_true_eq, Bool.not_eq_true', decide_eq_false_iff_not]
  exact Int32.not_lt.symm
set_option maxHeartbeats 800000 in
theorem c_X5_hasRoomFor_s (l : Launch) {G : mG} {K : Nat → Nat} {I : Nat → Nat → Int32} {R : Nat → Nat → Option Nat} {F : Nat → UInt32} {A : Nat → Nat → Int32} {N : Nat → Nat} {L : Nat → List Nat} {T : Nat → List Int32} {J : Nat → Nat → Int64} {D : Nat → Nat → UInt64} {o lr : Nat} {rm nn : Int32} (hko : K o = 6) (hrow : R 60 o = some lr) (hlr : K lr = 11) (hel : ∀ a, a ∈ L lr → K a = 5) (hop : (R 61 o = none ∧ rm = 0) ∨ ∃ sg fl, R 61 o = some sg ∧ K sg = 5 ∧ R 51 sg = some fl ∧ K fl = 11 ∧ rm = 10 - nI (L fl).length) : Met l yX5_hasRoomFor wsX5_hasRoomFor ({ frames := 3, cells := 0, slots := 0, locals := 120 } : Room) (va_Pc [.ref o, .int nn] (m_B G K I R F A N L T J D)) (va_Qi (fun (r : Int32) (_ : Unit) => r = b2i (c_room rm (nI (L lr).length) nn)) (fun u : Unit => m_B G K I R F A N L T J D) (m_A G)) 0 0 (m_A G) := by
  rcases hop with ⟨h1, h2⟩ | ⟨sg, fl, h1, h2, h3, h4, h5⟩
  · rw [h2]
    exact c_X5_hasRoomFor_n l hko hrow hlr hel h1
  · rw [h5]
    exact c_X5_hasRoomFor_o l hko hrow hlr hel h1 h2 h3 h4
theorem q_cause1 {K : Nat → Nat} {I I2 : Nat → Nat → Int32} {R : Nat → Nat → Option Nat} {N : Nat → Nat} {A A2 : Nat → Nat → Int32} {L : Nat → List Nat} {T T2 : Nat → List Int32} {x : Nat} {cd : Nat → Nat} {Z : mZ} {M : mM} {ch : Nat} (hs : c_sim K I R N A L T x cd Z M) (hI : ∀ f b, f ≠ 121 → I2 f b = I f b) (hA : ∀ b, K b ≠ 41 → A2 b = A b) (eT : T2 = m_up T (cd 7) [nI ch]) : c_sim K I2 R N A2 L T2 x cd (o_blames (z1 Z 31 0, M) true (nI ch)).1 (o_blames (z1 Z 31 0, M) true (nI ch)).2 := by
  have e : o_blames (z1 Z 31 0, M) true (nI ch) = (z1 (z1 Z 31 0) 31 1, m1 M 32 0 (nI ch)) := rfl
  rw [e]
  dsimp only
  refine c_sim_cau hs hI hA ⟨?_, ?_, fun k c hk => ?_⟩ (fun j h => by rw [z1_n _ _ h, z1_n _ _ h]) (fun j h => m1_n _ _ h)
  · rw [z1_s, eT, m_up_self]; rfl
  · rw [eT, m_up_self]; exact Nat.le_succ 1
  · rw [eT, m_up_self] at hk
    match k, hk with
    | 0, hk =>
      rw [m1_at, if_pos rfl]
      exact (Option.some.inj hk).symm
theorem q_rbF {K : Nat → Nat} {I : Nat → Nat → Int32} {R : Nat → Nat → Option Nat} {N : Nat → Nat} {A : Nat → Nat → Int32} {L : Nat → List Nat} {T : Nat → List Int32} {x : Nat} {cd : Nat → Nat} {S : mS} {i a : Nat} (hs : c_sim K I R N A L T x cd (o_reb S i).1 (o_reb S i).2) (ha : (L (cd 1))[i]? = some a) (hq : c_lost I R a = false) : o_reb S (i + 1) = o_reb S i := by
  have h1 := q_som hs ha
  have h6 := (hs.2.2.1.2.2 i a ha).2.2.2.2.2.1
  show (if (o_reb S i).2 14 i = -1 then (if (o_reb S i).2 16 i = 0 then o_puts (o_reb S i) i else o_reb S i) else o_reb S i) = _
  by_cases e : (o_reb S i).2 14 i = -1
  · rw [if_pos e]
    by_cases e2 : (o_reb S i).2 16 i = 0
    · exfalso
      unfold c_lost at hq
      rw [h6, decide_eq_true e2, Bool.and_true] at hq
      rw [decide_eq_true e] at h1
      cases hr : R 15 a with
      | none => rw [hr] at hq; exact absurd hq (by decide)
      | some b => rw [hr] at h1; exact absurd h1 (by simp)
    · rw [if_neg e2]
  · rw [if_neg e]
theorem q_rbT {K : Nat → Nat} {I : Nat → Nat → Int32} {R : Nat → Nat → Option Nat} {N : Nat → Nat} {A : Nat → Nat → Int32} {L : Nat → List Nat} {T : Nat → List Int32} {x : Nat} {cd : Nat → Nat} {S : mS} {i a : Nat} (hs : c_sim K I R N A L T x cd (o_reb S i).1 (o_reb S i).2) (ha : (L (cd 1))[i]? = some a) (hq : c_lost I R a = true) : o_reb S (i + 1) = o_puts (o_reb S i) i ∧ R 15 a = none := by
  have h6 := (hs.2.2.1.2.2 i a ha).2.2.2.2.2.1
  unfold c_lost at hq
  rw [Bool.and_eq_true, decide_eq_true_eq, h6] at hq
  have hr : R 15 a = none := Option.isNone_iff_eq_none.mp hq.1
  refine ⟨?_, hr⟩
  show (if (o_reb S i).2 14 i = -1 then (if (o_reb S i).2 16 i = 0 then o_puts (o_reb S i) i else o_reb S i) else o_reb S i) = _
  rw [if_pos (q_nof hs ha hr), if_pos hq.2]
theorem q_puts3 {S : mS} {f : Nat} (h5 : S.1 5 = -1) : (o_puts S f).1 3 = S.1 3 + 1 := by
  have e0 : (o_puts0 S).1 3 = S.1 3 + 1 := by
    unfold o_puts0
    rw [if_pos h5]
    show z1 (z1 (z1 S.1 3 (S.1 3 + 1)) 4 (S.1 4 + 1)) 5 (S.1 4) 3 = _
    rw [z1_n _ _ (by decide), z1_n _ _ (by decide), z1_s]
  have e1 : (o_puts1 S f).1 = (o_puts0 S).1 := rfl
  unfold o_puts
  split
  · show z1 (o_puts1 S f).1 5 (-1) 3 = _
    rw [z1_n _ _ (by decide), e1, e0]
  · rw [e1, e0]
section
variable {K : Nat → Nat} {I I2 : Nat → Nat → Int32} {R : Nat → Nat → Option Nat} {N : Nat → Nat} {A A2 : Nat → Nat → Int32} {L : Nat → List Nat} {T T2 : Nat → List Int32} {x : Nat} {cd : Nat → Nat} {Z : mZ} {M : mM}
theorem q_rb {rm : Int32} (hs : c_sim K I R N A L T x cd Z M) (h9 : ¬ Z 5 = -1 → o_size Z M (Z 5) ≤ 9) (hop : (R 61 (cd 4) = none ∧ rm = 0) ∨ ∃ sg fl, R 61 (cd 4) = some sg ∧ K sg = 5 ∧ R 51 sg = some fl ∧ K fl = 11 ∧ rm = 10 - nI (L fl).length) : c_room rm (nI (L (cd 10)).length) (nI (o_lost Z M)) = decide (t_rebuild Z M = 0) := by
  have hz := hs.2.2.1.1
  have hl := hs.2.2.1.2.1
  have h20 := hs.2.2.2.2.1.2.1
  have hz3 := hs.2.2.2.2.1.1
  have hlo : o_lost Z M ≤ 120 := o_lost_le hz hl
  obtain ⟨s9, hs9, hrm, hfr⟩ : ∃ s, s < 11 ∧ rm = 10 - nI s ∧ o_free Z M = 10 - nI s := by
    rcases hop with ⟨h1, h2⟩ | ⟨sg, fl, h1, h2, h3, h4, h5⟩
    · exact ⟨10, by omega, by rw [h2]; decide, by unfold o_free; rw [if_pos (q_opn0 hs h1)]; decide⟩
    · obtain ⟨h6, hfd⟩ := q_opn hs h1
      have e := q_size hs hfd h3
      exact ⟨(L fl).length, by rw [e]; have := h9 h6; omega, h5, by unfold o_free; rw [if_neg h6, e]⟩
  have e2 := q_hrfd s9 hs9 (o_lost Z M) (by omega)
  have e3 : (if nI (o_lost Z M) - (10 - nI s9) ≤ 0 then (0 : Int32) else (nI (o_lost Z M) - (10 - nI s9) + 10 - 1) / 10) = if nI (o_lost Z M) ≤ 10 - nI s9 then 0 else (nI (o_lost Z M) - (10 - nI s9) + 10 - 1) / 10 := by
    by_cases h : nI (o_lost Z M) ≤ 10 - nI s9
    · rw [decide_eq_true h] at e2
      rw [if_pos h, if_pos (of_decide_eq_true e2)]
    · rw [decide_eq_false h] at e2
      rw [if_neg h, if_neg (of_decide_eq_false e2)]
  unfold c_room
  rw [hrm, e3, q_hrfe s9 hs9 _ (by omega) _ (by omega)]
  unfold t_rebuild o_more
  rw [hfr, hz3]
  by_cases h : 20 < nI (L (cd 10)).length + (if nI (o_lost Z M) ≤ 10 - nI s9 then 0 else (nI (o_lost Z M) - (10 - nI s9) + 10 - 1) / 10)
  · rw [if_pos h, decide_eq_true h]; rfl
  · rw [if_neg h, decide_eq_false h]; rfl
theorem q_rbop (hs : c_sim K I R N A L T x cd Z M) : ∃ rm : Int32, (R 61 (cd 4) = none ∧ rm = 0) ∨ ∃ sg fl, R 61 (cd 4) = some sg ∧ K sg = 5 ∧ R 51 sg = some fl ∧ K fl = 11 ∧ rm = 10 - nI (L fl).length := by
  cases h : R 61 (cd 4) with
  | none => exact ⟨0, Or.inl ⟨rfl, rfl⟩⟩
  | some sg =>
    obtain ⟨h6, hfd⟩ := q_opn hs h
    obtain ⟨k, b1, b2, fl, b3, b4, b5, b6, b7⟩ := q_el hs.2.2.2.2.1.2.2.1 sg (List.mem_of_find?_eq_some hfd)
    exact ⟨_, Or.inr ⟨sg, fl, rfl, b1, b3, b4, rfl⟩⟩
theorem q_st1 {v : Int32} (hs : c_sim K I R N A L T x cd Z M) (h : (L (cd 10)).find? (fun a => decide (I 50 a = v)) = none) : ¬ o_seg Z M v = true := fun z => by
  obtain ⟨a, ha⟩ := (q_seg hs v).mp z
  rw [h] at ha
  exact absurd ha (by simp)
theorem q_st0 {v : Int32} {sg : Nat} (hs : c_sim K I R N A L T x cd Z M) (h : (L (cd 10)).find? (fun a => decide (I 50 a = v)) = some sg) : o_seg Z M v = true := (q_seg hs v).mpr ⟨sg, h⟩
end
theorem q_pr0 {Z : mZ} {M : mM} {nf : Nat} (hz : Z 1 = nI nf) (hn : nf ≤ 120) (h : t_rebuild Z M = 0) : p_rebuild (Z, M) = o_reb (Z, M) nf := by
  have h2 : ¬ 20 < Z 3 + o_more Z M := fun z => by unfold t_rebuild at h; rw [if_pos z] at h; exact absurd h (by decide)
  unfold p_rebuild
  rw [if_neg h2, show zn (Z, M).1 1 = nf from zn_of hz (by omega)]
theorem q_pr1 {Z : mZ} {M : mM} (h : ¬ t_rebuild Z M = 0) : p_rebuild (Z, M) = o_blames (z1 Z 31 0, M) true (nI 102) ∧ t_rebuild Z M = 1 := by
  by_cases z : 20 < Z 3 + o_more Z M
  · unfold p_rebuild
    rw [if_pos z]
    exact ⟨rfl, if_pos z⟩
  · exact absurd (if_neg z) h
theorem q_storm1 {Z : mZ} {M : mM} {v : Int32} (h : ¬ o_seg Z M v = true) : t_storm Z M v = 1 := if_neg h
theorem q_storm2 {Z : mZ} {M : mM} {v : Int32} (h : o_seg Z M v = true) (h2 : v = Z 5) : t_storm Z M v = 2 := (if_pos h).trans (if_pos h2)
theorem q_storm0 {Z : mZ} {M : mM} {v : Int32} (h : o_seg Z M v = true) (h2 : ¬ v = Z 5) : t_storm Z M v = 0 := (if_pos h).trans (if_neg h2)
