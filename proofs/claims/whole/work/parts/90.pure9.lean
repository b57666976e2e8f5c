theorem lg_rank {S : Nat → Nat → Bool} (irr : ∀ a, S a a = false) (asym : ∀ a b, S a b = true → S b a = false) : ∀ {l : List Nat} {k a : Nat}, l.Pairwise (fun x y => S x y = true) → l[k]? = some a → l.countP (fun b => S b a) = k
  | [], k, a, _, h => by simp at h
  | b :: l, 0, a, hp, h => by
    obtain rfl : b = a := by simpa using h
    rw [List.countP_cons, irr b, List.countP_eq_zero.mpr (fun c hc => by rw [asym b c ((List.pairwise_cons.mp hp).1 c hc)]; decide)]
    rfl
  | b :: l, k + 1, a, hp, h => by
    have h2 : l[k]? = some a := by simpa using h
    have ih := lg_rank irr asym (List.pairwise_cons.mp hp).2 h2
    rw [List.countP_cons, ih, (List.pairwise_cons.mp hp).1 a (List.mem_of_getElem? h2)]
    rfl
theorem c_lt_irr (I : Nat → Nat → Int32) (a : Nat) : c_lt I a a = false := by
  rw [Bool.eq_false_iff]
  intro h
  have h2 := (c_lt_iff I a a).mp h
  omega
theorem c_lt_asym (I : Nat → Nat → Int32) (a b : Nat) (h : c_lt I a b = true) : c_lt I b a = false := by
  rw [Bool.eq_false_iff]
  intro h2
  rw [c_lt_iff] at h h2
  omega
theorem o_found_some {M : mM} {nf f : Nat} {v ix : Int32} (h1 : o_pst M f v = true) (h2 : nI (o_before M nf f v) = ix) (hu : ∀ g, g < nf → o_pst M g v = true → nI (o_before M nf g v) = ix → g = f) : ∀ n, n ≤ nf → f < n → o_found M nf v ix n = nI f
  | 0, _, h => absurd h (Nat.not_lt_zero _)
  | n + 1, hn, h => by
    show (if o_pst M n v = true then (if nI (o_before M nf n v) = ix then nI n else o_found M nf v ix n) else o_found M nf v ix n) = _
    by_cases e : n = f
    · rw [e, if_pos h1, if_pos h2]
    · have ih := o_found_some h1 h2 hu n (by omega) (by omega)
      by_cases c1 : o_pst M n v = true
      · rw [if_pos c1, if_neg (fun z => e (hu n (by omega) c1 z))]
        exact ih
      · rw [if_neg c1]
        exact ih
theorem o_found_none {M : mM} {nf : Nat} {v ix : Int32} (hu : ∀ g, g < nf → o_pst M g v = true → nI (o_before M nf g v) = ix → False) : ∀ n, n ≤ nf → o_found M nf v ix n = -1
  | 0, _ => rfl
  | n + 1, hn => by
    show (if o_pst M n v = true then (if nI (o_before M nf n v) = ix then nI n else o_found M nf v ix n) else o_found M nf v ix n) = _
    have ih := o_found_none hu n (by omega)
    by_cases c1 : o_pst M n v = true
    · rw [if_pos c1, if_neg (fun z => hu n (by omega) c1 z)]
      exact ih
    · rw [if_neg c1]
      exact ih
theorem cntB_put2 {p p2 : Nat → Bool} {f : Nat} (h1 : p f = false) (h2 : p2 f = true) : ∀ n, (∀ g, g < n → g ≠ f → p2 g = p g) → cntB p2 n = cntB p n + (if f < n then 1 else 0)
  | 0, _ => by simp [cntB]
  | n + 1, h => by
    show cntB p2 n + _ = cntB p n + _ + _
    rw [cntB_put2 h1 h2 n (fun g hg => h g (by omega))]
    by_cases e : n = f
    · subst e
      rw [h1, h2, if_neg (Nat.lt_irrefl _), if_pos (Nat.lt_succ_self _)]
      simp
    · rw [h n (by omega) e]
      by_cases e2 : f < n
      · rw [if_pos e2, if_pos (show f < n + 1 by omega)]; omega
      · rw [if_neg e2, if_neg (show ¬ f < n + 1 by omega)]; rfl
section
variable {K : Nat → Nat} {I : Nat → Nat → Int32} {R : Nat → Nat → Option Nat} {N : Nat → Nat} {A : Nat → Nat → Int32} {L : Nat → List Nat} {T : Nat → List Int32} {x : Nat} {cd : Nat → Nat} {Z : mZ} {M : mM}
theorem q_lt (h : c_sim K I R N A L T x cd Z M) {k f a b : Nat} (hb : (L (cd 1))[k]? = some b) (ha : (L (cd 1))[f]? = some a) (e : M 11 k = M 11 f) : c_lt I b a = o_ahead M k f := by
  obtain ⟨-, b0, b1, b2, b3, -⟩ := h.2.2.1.2.2 k b hb
  obtain ⟨-, a0, a1, a2, a3, -⟩ := h.2.2.1.2.2 f a ha
  have hl := h.2.2.1.2.1
  have hk := (List.getElem?_eq_some_iff.mp hb).1
  have hf := (List.getElem?_eq_some_iff.mp ha).1
  unfold c_lt o_ahead
  rw [b0, b2, b3, a0, a2, a3]
  by_cases e2 : M 12 k = M 12 f
  · rw [if_pos e2, if_pos e2]
    by_cases e3 : M 13 k = M 13 f
    · rw [if_pos e3, if_pos e3]
      exact decide_eq_decide.mpr (nI_ltI (by omega) (by omega))
    · rw [if_neg e3, if_neg e3]
  · rw [if_neg e2, if_neg e2]
theorem q_before (h : c_sim K I R N A L T x cd Z M) {f a : Nat} {v : Int32} (ha : (L (cd 1))[f]? = some a) (hp : c_pw I R v a = true) : o_before M (L (cd 1)).length f v = ((L (cd 9)).filter (c_pw I R v)).countP (fun b => c_lt I b a) := by
  rw [List.countP_filter, q_cnt9 h (fun b hb => by simp only [Bool.and_eq_true] at hb; exact q_pwb hb.2), ← cnt_list]
  unfold o_before
  refine cntB_congr (fun j hj => ?_)
  have hb : (L (cd 1))[j]? = some ((L (cd 1)).getD j 0) := lg_some hj
  have hq := q_pw h hb v
  show (o_pst M j v && o_ahead M j f) = (c_lt I ((L (cd 1)).getD j 0) a && c_pw I R v ((L (cd 1)).getD j 0))
  rw [hq]
  cases hc : o_pst M j v with
  | false => rw [Bool.and_false]; rfl
  | true =>
    have e1 : M 11 j = v := by
      unfold o_pst at hc
      simp only [Bool.and_eq_true, decide_eq_true_eq] at hc
      exact hc.1
    have e2 : M 11 f = v := by
      rw [q_pw h ha] at hp
      unfold o_pst at hp
      simp only [Bool.and_eq_true, decide_eq_true_eq] at hp
      exact hp.1
    rw [q_lt h hb ha (e1.trans e2.symm), Bool.and_true, Bool.true_and]
theorem q_bef_k (h : c_sim K I R N A L T x cd Z M) {f a k : Nat} {v : Int32} (ha : (L (cd 1))[f]? = some a) (hk : ((L (cd 9)).filter (c_pw I R v))[k]? = some a) : o_before M (L (cd 1)).length f v = k := by
  rw [q_before h ha (List.mem_filter.mp (List.mem_of_getElem? hk)).2]
  exact lg_rank (c_lt_irr I) (c_lt_asym I) (h.2.2.2.1.2.sublist List.filter_sublist) hk
theorem q_bef_ex (h : c_sim K I R N A L T x cd Z M) {g : Nat} {v : Int32} (hg : g < (L (cd 1)).length) (hp : o_pst M g v = true) : ∃ b, (L (cd 1))[g]? = some b ∧ ((L (cd 9)).filter (c_pw I R v))[o_before M (L (cd 1)).length g v]? = some b := by
  have hb : (L (cd 1))[g]? = some ((L (cd 1)).getD g 0) := lg_some hg
  have hm : (L (cd 1)).getD g 0 ∈ (L (cd 9)).filter (c_pw I R v) := List.mem_filter.mpr ⟨q_m9i h (List.mem_of_getElem? hb) (q_pwb (w9 := v) (by rw [q_pw h hb]; exact hp)), by rw [q_pw h hb]; exact hp⟩
  obtain ⟨k, hk, hk2⟩ := List.getElem_of_mem hm
  have hk3 : ((L (cd 9)).filter (c_pw I R v))[k]? = some ((L (cd 1)).getD g 0) := List.getElem?_eq_some_iff.mpr ⟨hk, hk2⟩
  refine ⟨_, hb, ?_⟩
  rw [q_bef_k h hb hk3]
  exact hk3
theorem q_bef_lt (h : c_sim K I R N A L T x cd Z M) (g : Nat) (v : Int32) : o_before M (L (cd 1)).length g v ≤ 120 := Nat.le_trans (cntB_le _ _) h.2.2.1.2.1
theorem q_post_some (h : c_sim K I R N A L T x cd Z M) {a : Nat} {v ix : Int32} (hr : (if ix < 0 then none else ((L (cd 9)).filter (c_pw I R v))[ix.toNatClampNeg]?) = some a) : ∃ f, f < (L (cd 1)).length ∧ I 10 a = nI f ∧ K a = 1 ∧ o_found M (L (cd 1)).length v ix (L (cd 1)).length = nI f := by
  by_cases h0 : ix < 0
  · rw [if_pos h0] at hr; exact absurd hr (by simp)
  · rw [if_neg h0] at hr
    obtain ⟨j, hj, rfl⟩ := nI_of h0
    rw [nI_clamp hj] at hr
    have hma := List.mem_filter.mp (List.mem_of_getElem? hr)
    obtain ⟨f, hf, hf2⟩ := List.getElem_of_mem (q_m9 h hma.1)
    have ha : (L (cd 1))[f]? = some a := List.getElem?_eq_some_iff.mpr ⟨hf, hf2⟩
    have hb := q_bef_k h ha hr
    refine ⟨f, hf, (h.2.2.1.2.2 f a ha).2.1, (h.2.2.1.2.2 f a ha).1, o_found_some (by rw [← q_pw h ha]; exact hma.2) (by rw [hb]) (fun g hg hg1 hg2 => ?_) _ (Nat.le_refl _) hf⟩
    obtain ⟨b, hb1, hb2⟩ := q_bef_ex h hg hg1
    have hle := q_bef_lt h g v
    have e := (nI_eq (by omega) hj).mp hg2
    rw [e, hr] at hb2
    exact c_nd (q_log_nd h) hb1 (by rw [← Option.some.inj hb2]; exact ha)
theorem q_post_none (h : c_sim K I R N A L T x cd Z M) {v ix : Int32} (hr : (if ix < 0 then none else ((L (cd 9)).filter (c_pw I R v))[ix.toNatClampNeg]?) = none) : o_found M (L (cd 1)).length v ix (L (cd 1)).length = -1 := by
  refine o_found_none (fun g hg hg1 hg2 => ?_) _ (Nat.le_refl _)
  obtain ⟨b, hb1, hb2⟩ := q_bef_ex h hg hg1
  have hle := q_bef_lt h g v
  by_cases h0 : ix < 0
  · rw [← hg2] at h0
    exact nI_pos (by omega) h0
  · rw [if_neg h0, ← hg2, nI_clamp (by omega), hb2] at hr
    exact absurd hr (by simp)
theorem c_lt_12 {a b : Nat} (h : c_lt I a b = true) : (I 12 a).toInt ≤ (I 12 b).toInt := by
  rw [c_lt_iff] at h
  omega
theorem q_il_n (h : c_sim K I R N A L T x cd Z M) {wd : Int32} (h12 : ∀ f, f < (L (cd 1)).length → ∃ i, i < (L (cd 0)).length ∧ M 12 f = nI i) : ∀ n, n ≤ (L (cd 9)).length →
    (c_il I (c_pw I R wd) (fun j => (L (cd 9)).getD j 0) n).1 = cntB (fun i => anyB (fun j => c_pw I R wd ((L (cd 9)).getD j 0) && decide (I 12 ((L (cd 9)).getD j 0) = nI i)) n) (L (cd 0)).length ∧
    (((c_il I (c_pw I R wd) (fun j => (L (cd 9)).getD j 0) n).2 = -1 ∧ ∀ j, j < n → c_pw I R wd ((L (cd 9)).getD j 0) = false) ∨ ∃ j, j < n ∧ c_pw I R wd ((L (cd 9)).getD j 0) = true ∧ (c_il I (c_pw I R wd) (fun j => (L (cd 9)).getD j 0) n).2 = I 12 ((L (cd 9)).getD j 0) ∧ ∀ j', j' < n → c_pw I R wd ((L (cd 9)).getD j' 0) = true → (I 12 ((L (cd 9)).getD j' 0)).toInt ≤ (I 12 ((L (cd 9)).getD j 0)).toInt)
  | 0, _ => by
    refine ⟨?_, Or.inl ⟨rfl, fun j hj => absurd hj (Nat.not_lt_zero _)⟩⟩
    show 0 = _
    generalize (L (cd 0)).length = n
    induction n with
    | zero => rfl
    | succ n ih => show 0 = cntB _ n + 0; rw [← ih]
  | n + 1, hn => by
    obtain ⟨h1, h2⟩ := q_il_n h h12 n (by omega)
    obtain ⟨g, eg⟩ : ∃ z : Nat → Nat, z = fun j => (L (cd 9)).getD j 0 := ⟨_, rfl⟩
    have hg : ∀ j, (L (cd 9)).getD j 0 = g j := fun j => by rw [eg]
    have hg' : (fun j => (L (cd 9)).getD j 0) = g := eg.symm
    simp only [hg] at h1 h2 ⊢
    have hs : c_il I (c_pw I R wd) g (n + 1) = if c_pw I R wd (g n) = true then (if I 12 (g n) = (c_il I (c_pw I R wd) g n).2 then c_il I (c_pw I R wd) g n else ((c_il I (c_pw I R wd) g n).1 + 1, I 12 (g n))) else c_il I (c_pw I R wd) g n := rfl
    have ha : ∀ i, anyB (fun j => c_pw I R wd (g j) && decide (I 12 (g j) = nI i)) (n + 1) = (anyB (fun j => c_pw I R wd (g j) && decide (I 12 (g j) = nI i)) n || (c_pw I R wd (g n) && decide (I 12 (g n) = nI i))) := fun i => rfl
    by_cases c : c_pw I R wd (g n) = true
    · have hmn : g n ∈ L (cd 9) := by rw [← hg]; exact lg_mem (by omega)
      obtain ⟨f, hf, hf2⟩ := List.getElem_of_mem (q_m9 h hmn)
      obtain ⟨i0, hi0, e0⟩ := h12 f hf
      have e12 : I 12 (g n) = nI i0 := ((h.2.2.1.2.2 f (g n) (List.getElem?_eq_some_iff.mpr ⟨hf, hf2⟩)).2.2.2.1).trans e0
      have hl12 := h.2.1.2.1
      have w11 : ∀ j, c_pw I R wd (g j) = true → I 11 (g j) = wd := fun j hj => by
        unfold c_pw at hj
        simp only [Bool.and_eq_true, decide_eq_true_eq] at hj
        exact hj.1
      have srt : ∀ j, j < n → c_pw I R wd (g j) = true → (I 12 (g j)).toInt ≤ (I 12 (g n)).toInt := fun j hj hq => by
        have hp := List.pairwise_iff_getElem.mp h.2.2.2.1.2 j n (by omega) (by omega) hj
        have q1 : (L (cd 9))[j]'(by omega) = g j := by rw [← hg, List.getD_eq_getElem?_getD, List.getElem?_eq_getElem (by omega)]; rfl
        have q2 : (L (cd 9))[n]'(by omega) = g n := by rw [← hg, List.getD_eq_getElem?_getD, List.getElem?_eq_getElem (by omega)]; rfl
        rw [q1, q2] at hp
        exact c_lt_12 hp
      rw [hs, if_pos c]
      by_cases e : I 12 (g n) = (c_il I (c_pw I R wd) g n).2
      · rw [if_pos e]
        obtain ⟨j, hj, hj1, hj2, hj3⟩ : ∃ j, j < n ∧ c_pw I R wd (g j) = true ∧ (c_il I (c_pw I R wd) g n).2 = I 12 (g j) ∧ ∀ j', j' < n → c_pw I R wd (g j') = true → (I 12 (g j')).toInt ≤ (I 12 (g j)).toInt := by
          rcases h2 with ⟨z, -⟩ | z
          · rw [z, e12] at e; exact absurd e (nI_nm1 (by omega))
          · exact z
        refine ⟨?_, Or.inr ⟨j, by omega, hj1, hj2, fun j' hj' hq => ?_⟩⟩
        · rw [h1]
          refine cntB_congr (fun i hi => ?_)
          rw [ha, c, Bool.true_and]
          by_cases e3 : I 12 (g n) = nI i
          · have : anyB (fun j => c_pw I R wd (g j) && decide (I 12 (g j) = nI i)) n = true := q_any.mpr ⟨j, hj, by rw [hj1, ← hj2, ← e, decide_eq_true e3]; rfl⟩
            rw [this]; rfl
          · rw [decide_eq_false e3, Bool.or_false]
        · by_cases e4 : j' = n
          · rw [e4, e, hj2]; exact Int.le_refl _
          · exact hj3 j' (by omega) hq
      · rw [if_neg e]
        refine ⟨?_, Or.inr ⟨n, by omega, c, rfl, fun j' hj' hq => ?_⟩⟩
        · show _ + 1 = _
          rw [h1, cntB_put2 (p := fun i => anyB (fun j => c_pw I R wd (g j) && decide (I 12 (g j) = nI i)) n) (p2 := fun i => anyB (fun j => c_pw I R wd (g j) && decide (I 12 (g j) = nI i)) (n + 1)) (f := i0) ?_ ?_ _ (fun i hi hne => ?_), if_pos hi0]
          · rw [Bool.eq_false_iff]
            intro z
            obtain ⟨j, hj, hj2⟩ := q_any.mp z
            simp only [Bool.and_eq_true, decide_eq_true_eq] at hj2
            rcases h2 with ⟨-, z2⟩ | ⟨j1, y1, y2, y3, y4⟩
            · rw [z2 j hj] at hj2; exact absurd hj2.1 (by decide)
            · have s1 := y4 j hj hj2.1
              have s2 := srt j1 y1 y2
              rw [hj2.2, ← e12] at s1
              exact e (by rw [y3]; exact Int32.toInt_inj.mp (by omega))
          · show anyB _ (n + 1) = true
            rw [ha, c, e12, decide_eq_true rfl, Bool.true_and, Bool.or_true]
          · show anyB _ (n + 1) = anyB _ n
            rw [ha, e12, decide_eq_false (fun z => hne ((nI_eq (by omega) (by omega)).mp z).symm), Bool.and_false, Bool.or_false]
        · by_cases e4 : j' = n
          · rw [e4]; exact Int.le_refl _
          · exact srt j' (by omega) hq
    · have c' : c_pw I R wd (g n) = false := by rw [Bool.eq_false_iff]; exact c
      rw [hs, if_neg c]
      refine ⟨?_, ?_⟩
      · rw [h1]
        refine cntB_congr (fun i hi => ?_)
        rw [ha, c', Bool.false_and, Bool.or_false]
      · rcases h2 with ⟨z1', z2⟩ | ⟨j, y1, y2, y3, y4⟩
        · refine Or.inl ⟨z1', fun j hj => ?_⟩
          by_cases e4 : j = n
          · rw [e4]; exact c'
          · exact z2 j (by omega)
        · refine Or.inr ⟨j, by omega, y2, y3, fun j' hj' hq => ?_⟩
          by_cases e4 : j' = n
          · rw [e4] at hq; exact absurd hq c
          · exact y4 j' (by omega) hq
theorem q_il (h : c_sim K I R N A L T x cd Z M) {wd : Int32} (h12 : ∀ f, f < (L (cd 1)).length → ∃ i, i < (L (cd 0)).length ∧ M 12 f = nI i) : (c_il I (c_pw I R wd) (fun j => (L (cd 9)).getD j 0) (L (cd 9)).length).1 = o_has M (L (cd 1)).length (L (cd 0)).length wd := by
  rw [(q_il_n h h12 _ (Nat.le_refl _)).1]
  unfold o_has
  refine cntB_congr (fun i hi => ?_)
  unfold o_hasW
  rw [Bool.eq_iff_iff, q_any, q_any]
  constructor
  · rintro ⟨j, hj, hj2⟩
    simp only [Bool.and_eq_true, decide_eq_true_eq] at hj2
    obtain ⟨f, hf, hf2⟩ := List.getElem_of_mem (q_m9 h (lg_mem hj))
    have hb : (L (cd 1))[f]? = some ((L (cd 9)).getD j 0) := List.getElem?_eq_some_iff.mpr ⟨hf, hf2⟩
    refine ⟨f, hf, ?_⟩
    rw [Bool.and_eq_true, decide_eq_true_eq, ← q_pw h hb, ← (h.2.2.1.2.2 f _ hb).2.2.2.1]
    exact hj2
  · rintro ⟨f, hf, hf2⟩
    simp only [Bool.and_eq_true, decide_eq_true_eq] at hf2
    have hb : (L (cd 1))[f]? = some ((L (cd 1)).getD f 0) := lg_some hf
    obtain ⟨j, hj, hj2⟩ := List.getElem_of_mem (q_m9i h (List.mem_of_getElem? hb) (q_pwb (w9 := wd) (by rw [q_pw h hb]; exact hf2.1)))
    refine ⟨j, hj, ?_⟩
    have e : (L (cd 9)).getD j 0 = (L (cd 1)).getD f 0 := by rw [List.getD_eq_getElem?_getD, List.getElem?_eq_getElem hj, hj2]; rfl
    rw [Bool.and_eq_true, decide_eq_true_eq, e, q_pw h hb, (h.2.2.1.2.2 f _ hb).2.2.2.1]
    exact hf2
end
