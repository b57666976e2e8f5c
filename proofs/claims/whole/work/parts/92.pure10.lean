theorem q_sub {m n : Nat} (hm : m < 2 ^ 30) (hn : n < 2 ^ 30) : (nI m - nI n).toInt = (m : Int) - n := by
  rw [Int32.toInt_sub, nI_toInt (by omega), nI_toInt (by omega)]
  exact Int.bmod_eq_of_le (by omega) (by omega)
theorem q_sub0 {m n : Nat} (hm : m < 2 ^ 30) (hn : n < 2 ^ 30) : nI m - nI n = 0 ↔ m = n := by
  rw [← Int32.toInt_inj, q_sub hm hn]
  show (m : Int) - n = 0 ↔ _
  omega
theorem q_subl {m n : Nat} (hm : m < 2 ^ 30) (hn : n < 2 ^ 30) : nI m - nI n < 0 ↔ m < n := by
  rw [Int32.lt_iff_toInt_lt, q_sub hm hn]
  show (m : Int) - n < 0 ↔ _
  omega
/-- the score of an island by the map that is typed -/
def o_sT (Z : mZ) (M : mM) (nf ni nt i : Nat) : UInt32 := o_score (o_askT (Z, M)).1 (o_askT (Z, M)).2 nf ni nt (nI i)
/-- scores compare as whole numbers do; a hit's is above 0, another's is 0 -/
def o_keys (Z : mZ) (M : mM) (nf ni nt : Nat) : Prop := ∃ key : Nat → Int,
  (∀ i j, i < ni → j < ni → (o_cmp (o_sT Z M nf ni nt i) (o_sT Z M nf ni nt j) = 0 ↔ key i = key j) ∧ (0 < o_cmp (o_sT Z M nf ni nt i) (o_sT Z M nf ni nt j) ↔ key j < key i)) ∧
  ∀ i, i < ni → 0 ≤ key i ∧ (0 < key i ↔ 0 < o_hitT Z M (nI i)) ∧ (0 < o_cmp (o_sT Z M nf ni nt i) FP.fconst0 ↔ 0 < key i)
/-- 'ahead' by whole numbers: scores, distances, numbers -/
def o_fst (key : Nat → Int) (f : Nat → Nat) (a b : Nat) : Prop := key b < key a ∨ (key a = key b ∧ (f a < f b ∨ (f a = f b ∧ a < b)))
theorem cntB_lt {p q : Nat → Bool} : ∀ {n k : Nat}, (∀ a, a < n → p a = true → q a = true) → k < n → p k = false → q k = true → cntB p n < cntB q n
  | 0, k, _, hk, _, _ => absurd hk (Nat.not_lt_zero _)
  | n + 1, k, h, hk, h1, h2 => by
    have hle : ∀ n, (∀ a, a < n → p a = true → q a = true) → cntB p n ≤ cntB q n := fun n => by
      induction n with
      | zero => intro _; exact Nat.le_refl _
      | succ n ih =>
        intro h
        have := ih (fun a ha => h a (by omega))
        show cntB p n + (if p n = true then 1 else 0) ≤ cntB q n + (if q n = true then 1 else 0)
        by_cases c : p n = true
        · rw [if_pos c, if_pos (h n (by omega) c)]; omega
        · rw [if_neg c]; split <;> omega
    show cntB p n + (if p n = true then 1 else 0) < cntB q n + (if q n = true then 1 else 0)
    by_cases e : k = n
    · subst e
      rw [h1, h2]
      have := hle k (fun a ha => h a (by omega))
      simp only [Bool.false_eq_true, if_false, if_true]
      omega
    · have ih := cntB_lt (n := n) (k := k) (fun a ha => h a (by omega)) (by omega) h1 h2
      by_cases c : p n = true
      · rw [if_pos c, if_pos (h n (by omega) c)]; omega
      · rw [if_neg c]; split <;> omega
theorem o_bet_iff {Z : mZ} {M : mM} {nf ni nt sh : Nat} {key : Nat → Int} {f : Nat → Nat} (hk : ∀ i j, i < ni → j < ni → (o_cmp (o_sT Z M nf ni nt i) (o_sT Z M nf ni nt j) = 0 ↔ key i = key j) ∧ (0 < o_cmp (o_sT Z M nf ni nt i) (o_sT Z M nf ni nt j) ↔ key j < key i)) (hf : ∀ t, t < ni → f t < 30000 ∧ o_far M sh t = nI (f t)) {a b : Nat} (ha : a < ni) (hb : b < ni) : o_betT Z M nf ni nt sh a b = true ↔ o_fst key f a b := by
  have e : ∀ t, o_far (o_askT (Z, M)).2 sh t = o_far M sh t := fun t => o_far_sc (o_sc_askT (Z, M)) sh t
  unfold o_betT o_bet
  rw [e, e, (hf a ha).2, (hf b hb).2]
  have h1 := (hf a ha).1
  have h2 := (hf b hb).1
  obtain ⟨k1, k2⟩ := hk a b ha hb
  unfold o_sT at k1 k2
  unfold o_fst
  by_cases c : o_cmp (o_score (o_askT (Z, M)).1 (o_askT (Z, M)).2 nf ni nt (nI a)) (o_score (o_askT (Z, M)).1 (o_askT (Z, M)).2 nf ni nt (nI b)) = 0
  · rw [if_pos c]
    have ke := k1.mp c
    by_cases c2 : nI (f a) - nI (f b) = 0
    · rw [if_pos c2, decide_eq_true_eq]
      have := (q_sub0 (by omega) (by omega)).mp c2
      omega
    · rw [if_neg c2, decide_eq_true_eq, q_subl (by omega) (by omega)]
      have : ¬ f a = f b := fun z => c2 ((q_sub0 (by omega) (by omega)).mpr z)
      omega
  · rw [if_neg c, decide_eq_true_eq, k2]
    have : ¬ key a = key b := fun z => c (k1.mpr z)
    omega
theorem o_beats_iff {Z : mZ} {M : mM} {nf ni nt sh : Nat} {key : Nat → Int} {f : Nat → Nat} (hk : ∀ i j, i < ni → j < ni → (o_cmp (o_sT Z M nf ni nt i) (o_sT Z M nf ni nt j) = 0 ↔ key i = key j) ∧ (0 < o_cmp (o_sT Z M nf ni nt i) (o_sT Z M nf ni nt j) ↔ key j < key i)) (hp : ∀ i, i < ni → 0 ≤ key i ∧ (0 < key i ↔ 0 < o_hitT Z M (nI i))) (hf : ∀ t, t < ni → f t < 30000 ∧ o_far M sh t = nI (f t)) {a b : Nat} (ha : a < ni) (hb : b < ni) (hh : 0 < o_hitT Z M (nI b)) : o_beats Z M nf ni nt sh a b = true ↔ o_fst key f a b := by
  have h1 := o_bet_iff hk hf ha hb
  have p1 := hp a ha
  have p2 := (hp b hb).2.mpr hh
  unfold o_beats
  rw [Bool.and_eq_true, Bool.and_eq_true, decide_eq_true_eq, h1, Bool.not_eq_true', decide_eq_false_iff_not]
  unfold o_fst
  constructor
  · rintro ⟨-, -, h⟩; exact h
  · intro h
    refine ⟨fun z => ?_, p1.2.mp ?_, h⟩
    · subst z; omega
    · omega
theorem o_place_inj {Z : mZ} {M : mM} {nf ni nt sh : Nat} {key : Nat → Int} {f : Nat → Nat} (hk : ∀ i j, i < ni → j < ni → (o_cmp (o_sT Z M nf ni nt i) (o_sT Z M nf ni nt j) = 0 ↔ key i = key j) ∧ (0 < o_cmp (o_sT Z M nf ni nt i) (o_sT Z M nf ni nt j) ↔ key j < key i)) (hp : ∀ i, i < ni → 0 ≤ key i ∧ (0 < key i ↔ 0 < o_hitT Z M (nI i))) (hf : ∀ t, t < ni → f t < 30000 ∧ o_far M sh t = nI (f t)) {a b : Nat} (ha : a < ni) (hb : b < ni) (h1 : 0 < o_hitT Z M (nI a)) (h2 : 0 < o_hitT Z M (nI b)) (e : o_place Z M nf ni nt sh a = o_place Z M nf ni nt sh b) : a = b := by
  have B := fun c d hc hd hh => o_beats_iff (a := c) (b := d) hk hp hf hc hd hh
  have key2 : ∀ c d, c < ni → d < ni → 0 < o_hitT Z M (nI c) → 0 < o_hitT Z M (nI d) → o_fst key f c d → o_place Z M nf ni nt sh c < o_place Z M nf ni nt sh d := fun c d hc hd g1 g2 h => by
    unfold o_place
    refine cntB_lt (k := c) (fun j hj hq => ?_) hc ?_ ((B c d hc hd g2).mpr h)
    · rw [B j c hj hc g1] at hq
      rw [B j d hj hd g2]
      unfold o_fst at *
      omega
    · rw [Bool.eq_false_iff]
      intro z
      rw [B c c hc hc g1] at z
      unfold o_fst at z
      omega
  rcases Nat.lt_trichotomy a b with c | c | c
  · have : o_fst key f a b ∨ o_fst key f b a := by unfold o_fst; omega
    rcases this with t | t
    · have := key2 a b ha hb h1 h2 t; omega
    · have := key2 b a hb ha h2 h1 t; omega
  · exact c
  · have : o_fst key f a b ∨ o_fst key f b a := by unfold o_fst; omega
    rcases this with t | t
    · have := key2 a b ha hb h1 h2 t; omega
    · have := key2 b a hb ha h2 h1 t; omega
theorem o_place_le (Z : mZ) (M : mM) (nf ni nt sh b : Nat) : o_place Z M nf ni nt sh b ≤ ni := cntB_le _ _
theorem o_rank_some {Z : mZ} {M : mM} {nf ni nt sh t : Nat} {pl : Int32} (h1 : 0 < o_hitT Z M (nI t)) (h2 : nI (o_place Z M nf ni nt sh t) = pl) (hu : ∀ g, g < ni → 0 < o_hitT Z M (nI g) → nI (o_place Z M nf ni nt sh g) = pl → g = t) : ∀ n, n ≤ ni → t < n → o_rank Z M nf ni nt sh pl n = nI t
  | 0, _, h => absurd h (Nat.not_lt_zero _)
  | n + 1, hn, h => by
    show (if o_hitT Z M (nI n) = 0 then o_rank Z M nf ni nt sh pl n else if nI (o_place Z M nf ni nt sh n) = pl then nI n else o_rank Z M nf ni nt sh pl n) = _
    by_cases e : n = t
    · rw [e, if_neg (by omega), if_pos h2]
    · have ih := o_rank_some h1 h2 hu n (by omega) (by omega)
      by_cases c1 : o_hitT Z M (nI n) = 0
      · rw [if_pos c1]; exact ih
      · rw [if_neg c1, if_neg (fun z => e (hu n (by omega) (by omega) z))]; exact ih
theorem o_rank_none {Z : mZ} {M : mM} {nf ni nt sh : Nat} {pl : Int32} (hu : ∀ g, g < ni → 0 < o_hitT Z M (nI g) → nI (o_place Z M nf ni nt sh g) = pl → False) : ∀ n, n ≤ ni → o_rank Z M nf ni nt sh pl n = -1
  | 0, _ => rfl
  | n + 1, hn => by
    show (if o_hitT Z M (nI n) = 0 then o_rank Z M nf ni nt sh pl n else if nI (o_place Z M nf ni nt sh n) = pl then nI n else o_rank Z M nf ni nt sh pl n) = _
    have ih := o_rank_none hu n (by omega)
    by_cases c1 : o_hitT Z M (nI n) = 0
    · rw [if_pos c1]; exact ih
    · rw [if_neg c1, if_neg (fun z => hu n (by omega) (by omega) z)]; exact ih
theorem o_sumW_congr {f g : Nat → UInt32} : ∀ {n : Nat}, (∀ k, k < n → f k = g k) → o_sumW f n = o_sumW g n
  | 0, _ => rfl
  | n + 1, h => by
    show FP.fadd (o_sumW f n) (f n) = FP.fadd (o_sumW g n) (g n)
    rw [o_sumW_congr (fun k hk => h k (by omega)), h n (by omega)]
section
variable {K : Nat → Nat} {I : Nat → Nat → Int32} {R : Nat → Nat → Option Nat} {N : Nat → Nat} {A : Nat → Nat → Int32} {L : Nat → List Nat} {T : Nat → List Int32} {x : Nat} {cd : Nat → Nat} {Z : mZ} {M : mM}
theorem q_wt (hs : c_sim K I R N A L T x cd Z M) {nt : Nat} (hnt : Z 29 = nI nt) (h4 : nt ≤ 4) (h12 : ∀ f, f < (L (cd 1)).length → ∃ i, i < (L (cd 0)).length ∧ M 12 f = nI i) {k : Nat} (hk : k < nt) (h3 : A (cd 13) k = M 25 k) : (c_il I (c_pw I R (A (cd 13) k)) (fun j => (L (cd 9)).getD j 0) (L (cd 9)).length).1 = o_has (o_askT (Z, M)).2 (L (cd 1)).length (L (cd 0)).length ((o_askT (Z, M)).2 27 k) := by
  rw [q_il hs h12, h3, o_askT_27 (Z, M) hnt h4 hk]
  have e : ∀ j, j ≠ 27 → j ≠ 28 → (o_askT (Z, M)).2 j = M j := fun j a b => by unfold o_askT; dsimp only; rw [mset_n _ _ b, mset_n _ _ a]
  unfold o_has o_hasW o_pst
  rw [e 11 (by decide) (by decide), e 12 (by decide) (by decide), e 14 (by decide) (by decide), e 16 (by decide) (by decide)]
theorem q_nan (hs : c_sim K I R N A L T x cd Z M) {nt : Nat} (hnt : Z 29 = nI nt) (h4 : nt ≤ 4) (h12 : ∀ f, f < (L (cd 1)).length → ∃ i, i < (L (cd 0)).length ∧ M 12 f = nI i) (h3 : ∀ k, k < nt → A (cd 13) k = M 25 k) (hne : o_nan (o_askT (Z, M)).1 (o_askT (Z, M)).2 (L (cd 1)).length (L (cd 0)).length nt) : ∀ k, k < nt → vf_n32 (FP.fdiv (FP.i2f (nI (L (cd 0)).length)) (FP.i2f (1 + nI (c_il I (c_pw I R (A (cd 13) k)) (fun j => (L (cd 9)).getD j 0) (L (cd 9)).length).1))) ∧ vf_n32 ((fun j9 => o_wt (L (cd 0)).length (c_il I (c_pw I R (A (cd 13) j9)) (fun j => (L (cd 9)).getD j 0) (L (cd 9)).length).1) k) ∧ vf_n32 (FP.fadd (o_sumW (fun j9 => o_wt (L (cd 0)).length (c_il I (c_pw I R (A (cd 13) j9)) (fun j => (L (cd 9)).getD j 0) (L (cd 9)).length).1) k) ((fun j9 => o_wt (L (cd 0)).length (c_il I (c_pw I R (A (cd 13) j9)) (fun j => (L (cd 9)).getD j 0) (L (cd 9)).length).1) k)) := fun k hk => by
  have e : ∀ j, j < nt → (fun j9 => o_wt (L (cd 0)).length (c_il I (c_pw I R (A (cd 13) j9)) (fun j => (L (cd 9)).getD j 0) (L (cd 9)).length).1) j = o_askW (o_askT (Z, M)).2 (L (cd 1)).length (L (cd 0)).length j := fun j hj => by
    show o_wt _ _ = o_wt _ _
    rw [q_wt hs hnt h4 h12 hj (h3 j hj)]
  have hle : o_has (o_askT (Z, M)).2 (L (cd 1)).length (L (cd 0)).length ((o_askT (Z, M)).2 27 k) ≤ (L (cd 0)).length := cntB_le _ _
  refine ⟨?_, ?_, ?_⟩
  · rw [q_wt hs hnt h4 h12 hk (h3 k hk)]; exact (hne.1 _ hle).1
  · rw [e k hk]; exact (hne.1 _ hle).2
  · rw [e k hk, o_sumW_congr (fun j hj => e j (by omega))]; exact hne.2.1 k hk
theorem q_sum (hs : c_sim K I R N A L T x cd Z M) {nt : Nat} (hnt : Z 29 = nI nt) (h4 : nt ≤ 4) (h12 : ∀ f, f < (L (cd 1)).length → ∃ i, i < (L (cd 0)).length ∧ M 12 f = nI i) (h3 : ∀ k, k < nt → A (cd 13) k = M 25 k) : o_sumW (fun j9 => o_wt (L (cd 0)).length (c_il I (c_pw I R (A (cd 13) j9)) (fun j => (L (cd 9)).getD j 0) (L (cd 9)).length).1) nt = o_sumW (o_askW (o_askT (Z, M)).2 (L (cd 1)).length (L (cd 0)).length) nt :=
  o_sumW_congr (fun k hk => by
    show o_wt _ _ = o_wt _ _
    rw [q_wt hs hnt h4 h12 hk (h3 k hk)])
theorem q_sco (hs : c_sim K I R N A L T x cd Z M) {nt : Nat} (hnt : Z 29 = nI nt) (hn0 : nt ≠ 0) (h4 : nt ≤ 4) (h12 : ∀ f, f < (L (cd 1)).length → ∃ i, i < (L (cd 0)).length ∧ M 12 f = nI i) (h3 : ∀ k, k < nt → A (cd 13) k = M 25 k) (hg : ∀ k, 1 ≤ k → k < nt → A (cd 14) k = M 26 k) (isl : Int32) : c_sco I R A (L (cd 9)) (L (cd 0)).length (cd 13) (cd 14) nt isl = o_score (o_askT (Z, M)).1 (o_askT (Z, M)).2 (L (cd 1)).length (L (cd 0)).length nt isl := by
  unfold c_sco o_score
  rw [q_hitT hs hnt hn0 h4 h3 hg, q_sum hs hnt h4 h12 h3]
  rfl
theorem q_rank {F : Nat → UInt32} {nt sh t0 fr : Nat} {rk : Int32} (hs : c_sim K I R N A L T x cd Z M) (hF : ∀ i a, (L (cd 0))[i]? = some a → F a = o_sT Z M (L (cd 1)).length (L (cd 0)).length nt i) (hky : o_keys Z M (L (cd 1)).length (L (cd 0)).length nt) (hfr : (L (cd 0))[t0]? = some fr) (h18 : M 18 sh = nI t0) (hxy : ∀ t, t < (L (cd 0)).length → ∃ n, n < 30000 ∧ o_far M sh t = nI n) :
    ((L (cd 0)).find? (fun y9 => decide (0 < o_cmp (F y9) FP.fconst0) && decide (nI ((L (cd 0)).countP (fun z9 => c_ahead I F z9 y9 fr)) = rk)) = none ∧ o_rank Z M (L (cd 1)).length (L (cd 0)).length nt sh rk (L (cd 0)).length = -1) ∨
    ∃ t a, t < (L (cd 0)).length ∧ (L (cd 0))[t]? = some a ∧ (L (cd 0)).find? (fun y9 => decide (0 < o_cmp (F y9) FP.fconst0) && decide (nI ((L (cd 0)).countP (fun z9 => c_ahead I F z9 y9 fr)) = rk)) = some a ∧ o_rank Z M (L (cd 1)).length (L (cd 0)).length nt sh rk (L (cd 0)).length = nI t := by
  obtain ⟨key, hk, hp3⟩ := hky
  have hp : ∀ i, i < (L (cd 0)).length → 0 ≤ key i ∧ (0 < key i ↔ 0 < o_hitT Z M (nI i)) := fun i hi => ⟨(hp3 i hi).1, (hp3 i hi).2.1⟩
  have hl12 := hs.2.1.2.1
  have ht0 := (List.getElem?_eq_some_iff.mp hfr).1
  obtain ⟨f, hf⟩ : ∃ f : Nat → Nat, ∀ t, t < (L (cd 0)).length → f t < 30000 ∧ o_far M sh t = nI (f t) := ⟨fun t => if h : t < (L (cd 0)).length then (hxy t h).choose else 0, fun t ht => by
    show (if h : t < (L (cd 0)).length then (hxy t h).choose else 0) < 30000 ∧ o_far M sh t = nI (if h : t < (L (cd 0)).length then (hxy t h).choose else 0)
    rw [dif_pos ht]; exact (hxy t ht).choose_spec⟩
  have hfar : ∀ t a, (L (cd 0))[t]? = some a → c_sq I a fr = o_far M sh t := fun t a ha => by
    obtain ⟨-, -, a1, a2, -⟩ := hs.2.1.2.2 t a ha
    obtain ⟨-, -, b1, b2, -⟩ := hs.2.1.2.2 t0 fr hfr
    unfold c_sq o_far
    rw [a1, a2, b1, b2, h18, nI_clamp (by omega)]
  have hcnt : ∀ b y, (L (cd 0))[b]? = some y → 0 < o_hitT Z M (nI b) → (L (cd 0)).countP (fun z9 => c_ahead I F z9 y fr) = o_place Z M (L (cd 1)).length (L (cd 0)).length nt sh b := fun b y hb hh => by
    rw [← cnt_list]
    unfold o_place
    refine cntB_congr (fun j hj => ?_)
    have hbl := (List.getElem?_eq_some_iff.mp hb).1
    have ha : (L (cd 0))[j]? = some ((L (cd 0)).getD j 0) := lg_some hj
    rw [Bool.eq_iff_iff, o_beats_iff hk hp hf hj hbl hh]
    obtain ⟨k1, k2⟩ := hk j b hj hbl
    have n1 := (hs.2.1.2.2 j _ ha).2.1
    have n2 := (hs.2.1.2.2 b y hb).2.1
    show c_ahead I F ((L (cd 0)).getD j 0) y fr = true ↔ _
    unfold c_ahead
    rw [hF j _ ha, hF b y hb, hfar j _ ha, hfar b y hb, (hf j hj).2, (hf b hbl).2, n1, n2]
    have f1 := (hf j hj).1
    have f2 := (hf b hbl).1
    unfold o_fst
    by_cases c : o_cmp (o_sT Z M (L (cd 1)).length (L (cd 0)).length nt j) (o_sT Z M (L (cd 1)).length (L (cd 0)).length nt b) = 0
    · rw [if_pos c]
      have ke := k1.mp c
      by_cases c2 : nI (f j) = nI (f b)
      · rw [if_pos c2, decide_eq_true_eq, nI_ltI (by omega) (by omega)]
        have := (nI_eq (by omega) (by omega)).mp c2
        omega
      · rw [if_neg c2, decide_eq_true_eq, nI_ltI (by omega) (by omega)]
        have : ¬ f j = f b := fun z => c2 (by rw [z])
        omega
    · rw [if_neg c, decide_eq_true_eq, k2]
      have : ¬ key j = key b := fun z => c (k1.mpr z)
      omega
  have hpos : ∀ b y, (L (cd 0))[b]? = some y → (0 < o_cmp (F y) FP.fconst0 ↔ 0 < o_hitT Z M (nI b)) := fun b y hb => by
    have hbl := (List.getElem?_eq_some_iff.mp hb).1
    rw [hF b y hb, (hp3 b hbl).2.2, (hp b hbl).2]
  have hpr : ∀ b y, (L (cd 0))[b]? = some y → ((fun y9 => decide (0 < o_cmp (F y9) FP.fconst0) && decide (nI ((L (cd 0)).countP (fun z9 => c_ahead I F z9 y9 fr)) = rk)) y = true ↔ (0 < o_hitT Z M (nI b) ∧ nI (o_place Z M (L (cd 1)).length (L (cd 0)).length nt sh b) = rk)) := fun b y hb => by
    show (decide (0 < o_cmp (F y) FP.fconst0) && decide (nI ((L (cd 0)).countP (fun z9 => c_ahead I F z9 y fr)) = rk)) = true ↔ _
    rw [Bool.and_eq_true, decide_eq_true_eq, decide_eq_true_eq, hpos b y hb]
    constructor
    · rintro ⟨h1, h2⟩; exact ⟨h1, by rw [← hcnt b y hb h1]; exact h2⟩
    · rintro ⟨h1, h2⟩; exact ⟨h1, by rw [hcnt b y hb h1]; exact h2⟩
  cases hfd : (L (cd 0)).find? (fun y9 => decide (0 < o_cmp (F y9) FP.fconst0) && decide (nI ((L (cd 0)).countP (fun z9 => c_ahead I F z9 y9 fr)) = rk)) with
  | none =>
    refine Or.inl ⟨rfl, o_rank_none (fun g hg h1 h2 => ?_) _ (Nat.le_refl _)⟩
    have ha : (L (cd 0))[g]? = some ((L (cd 0)).getD g 0) := lg_some hg
    exact absurd ((hpr g _ ha).mpr ⟨h1, h2⟩) (List.find?_eq_none.mp hfd _ (lg_mem hg))
  | some a =>
    obtain ⟨t, ht, ht2⟩ := List.getElem_of_mem (List.mem_of_find?_eq_some hfd)
    have ha : (L (cd 0))[t]? = some a := List.getElem?_eq_some_iff.mpr ⟨ht, ht2⟩
    have hsm := List.find?_some hfd
    obtain ⟨h1, h2⟩ := (hpr t a ha).mp hsm
    refine Or.inr ⟨t, a, ht, ha, rfl, o_rank_some h1 h2 (fun g hg g1 g2 => ?_) _ (Nat.le_refl _) ht⟩
    have l1 := o_place_le Z M (L (cd 1)).length (L (cd 0)).length nt sh g
    have l2 := o_place_le Z M (L (cd 1)).length (L (cd 0)).length nt sh t
    exact o_place_inj hk hp hf hg ht g1 h1 ((nI_eq (by omega) (by omega)).mp (g2.trans h2.symm))
end
