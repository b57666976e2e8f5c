section
variable {K : Nat → Nat} {I : Nat → Nat → Int32} {R : Nat → Nat → Option Nat} {N : Nat → Nat} {A : Nat → Nat → Int32} {L : Nat → List Nat} {T : Nat → List Int32} {x : Nat} {cd : Nat → Nat} {Z : mZ} {M : mM} {t : Nat}
theorem u_gap (h : c_sim K I R N A L T x cd Z M) : ∃ nt, Z 29 = nI nt ∧ nt ≤ 4 ∧ ∀ k, 1 ≤ k → k < nt → ∃ g, g ≤ 9 ∧ M 26 k = nI g := by
  obtain ⟨n, t1, t2, t3, t4⟩ := h.2.2.2.2.2.2.1
  refine ⟨n, t1, t2.2.2.2.2.2.2.2.2.1, fun k k1 k2 => ?_⟩
  rw [← t4 k k1 k2]
  exact t2.2.2.2.2.2.2.2.2.2 k k1 k2
theorem u_at {l9 : List Nat} {s : Nat} (h : s < l9.length) : ∃ a, l9[s]? = some a := ⟨_, List.getElem?_eq_getElem h⟩
theorem u_shW (h : c_sim K I R N A L T x cd Z M) : ∀ s, s < (L (cd 5)).length → o_shW M s := fun s hs => by
  obtain ⟨a, ha⟩ := u_at hs
  obtain ⟨ph, w9, d9, n, is9, came, b1, b2, b3, b4, b5, b6, b7, b8, b9, b10, b11, b12, b13, -⟩ := h.2.2.2.2.2.1.2.2.2.1 s a ha
  refine ⟨b5, n, b2.2.2.2.2.2.2.2.2.1, b11, fun k k1 k2 => ?_⟩
  rw [← b13 k k1 k2]
  exact b2.2.2.2.2.2.2.2.2.2 k k1 k2
theorem u_21 (h : c_sim K I R N A L T x cd Z M) (hf : w_f Z M t) : ∀ s, s < zn Z 2 → ¬ M 22 s = 0 → M 21 s = -1 ∨ ∃ d, d ≤ 999 ∧ M 21 s = nI d := fun s hs h22 => by
  have h5 := h.2.2.2.2.2.1.2.1
  have hz : zn Z 2 = (L (cd 5)).length := zn_of h.2.2.2.2.2.1.1 (by omega)
  obtain ⟨a, ha⟩ := u_at (l9 := L (cd 5)) (s := s) (by omega)
  obtain ⟨ph, w9, d9, n, is9, came, b1, b2, b3, b4, b5, b6, b7, b8, b9, b10, b11, b12, b13, b14, b15, b16, b17⟩ := h.2.2.2.2.2.1.2.2.2.1 s a ha
  have hn : n ≠ 0 := fun z => h22 (by rw [b11, z]; rfl)
  rcases (b17 hn).2.2.2 with q | q
  · exact Or.inl q
  · obtain ⟨c, c1, c2⟩ := hf.2.2.1 (M 18 s).toNatClampNeg
    exact Or.inr ⟨c, c1, q.trans c2⟩
theorem nI_mulN (a b : Nat) : nI a * nI b = nI (a * b) := (Int32.ofNat_mul a b).symm
theorem u_sq {a b : Nat} (ha : a ≤ 99) (hb : b ≤ 99) : ∃ d, d ≤ 9801 ∧ (nI a - nI b) * (nI a - nI b) = nI d := by
  rcases Nat.le_total b a with h | h
  · rw [nI_subN h, nI_mulN]
    exact ⟨_, Nat.mul_le_mul (show a - b ≤ 99 by omega) (show a - b ≤ 99 by omega), rfl⟩
  · have e : nI a - nI b = -(nI b - nI a) := by rw [Int32.neg_sub]
    rw [e, Int32.neg_mul_neg, nI_subN h, nI_mulN]
    exact ⟨_, Nat.mul_le_mul (show b - a ≤ 99 by omega) (show b - a ≤ 99 by omega), rfl⟩
theorem u_far (h : w_f Z M t) (s u : Nat) : ∃ n, n < 30000 ∧ o_far M s u = nI n := by
  obtain ⟨a, a1, a2⟩ := h.1 u
  obtain ⟨b, b1, b2⟩ := h.1 (M 18 s).toNatClampNeg
  obtain ⟨c, c1, c2⟩ := h.2.1 u
  obtain ⟨d, d1, d2⟩ := h.2.1 (M 18 s).toNatClampNeg
  obtain ⟨p, p1, p2⟩ := u_sq a1 b1
  obtain ⟨q, q1, q2⟩ := u_sq c1 d1
  refine ⟨p + q, by omega, ?_⟩
  unfold o_far
  rw [a2, b2, c2, d2, p2, q2, nI_add]
theorem u_pu (h : c_sim K I R N A L T x cd Z M) (hf : w_f Z M t) (ht : t ≤ 512) : ∀ a, a ∈ L (cd 5) → 0 ≤ I 72 a := fun a ha => by
  obtain ⟨s, ph, w9, d9, n, is9, came, b1, b2, b3, b4, b5, b6, b7, b8, b9, b10, -⟩ := q_el h.2.2.2.2.2.1.2.2.2.1 a ha
  obtain ⟨c, c1, c2⟩ := hf.2.2.2.2.2.2.1 s
  rw [b10, c2]
  exact (nI_leI (a := 0) (by decide) (by omega)).mpr (Nat.zero_le _)
theorem u_ch (hf : w_f Z M t) (k : Nat) : narrow .char (.int (M 32 k)) = .int (M 32 k) := by
  obtain ⟨c, c1, c2⟩ := hf.2.2.2.2.2.2.2.2.2.1 k
  rw [c2]
  exact (by decide +kernel : ∀ c, c < 256 → narrow .char (.int (nI c)) = .int (nI c)) c c1
/-! the room in the open segment -/
def u_rm (Z : mZ) (M : mM) : Nat := if Z 5 = -1 then 0 else 10 - o_size Z M (Z 5)
theorem o_puts_14 (S : mS) (f : Nat) {g : Nat} (h : g ≠ f) : (o_puts S f).2 14 g = S.2 14 g := by
  have e0 : (o_puts0 S).2 14 = S.2 14 := by
    unfold o_puts0
    split
    · exact o_opens_m S (j := 14) (by decide)
    · rfl
  have e1 : (o_puts1 S f).2 14 g = S.2 14 g := by
    unfold o_puts1
    dsimp only
    rw [m1_at, if_neg h, e0]
  unfold o_puts
  split
  · exact e1
  · exact e1
theorem u_puts {S : mS} {m f : Nat} (hz4 : S.1 4 = nI m) (hm : m + 1 < 2 ^ 30) (h : w_seg S.1 S.2 m) (hf : f < zn S.1 1) (h14 : S.2 14 f = -1) : ((o_puts S f).1 3 = S.1 3 ∧ u_rm (o_puts S f).1 (o_puts S f).2 + 1 = u_rm S.1 S.2 ∧ u_rm (o_puts S f).1 (o_puts S f).2 ≤ 9) ∨ ((o_puts S f).1 3 = S.1 3 + 1 ∧ u_rm S.1 S.2 = 0 ∧ u_rm (o_puts S f).1 (o_puts S f).2 = 9) := by
  obtain ⟨h1, h2, h3⟩ := h
  obtain ⟨Z, M⟩ := S
  dsimp only at hz4 h1 h2 h3 hf h14 ⊢
  by_cases h5 : Z 5 = -1
  · have hz4n : ¬ Z 4 = -1 := by rw [hz4]; exact nI_nm1 (by omega)
    have e0 : o_puts0 (Z, M) = (z1 (o_opens (Z, M)).1 5 (Z 4), (o_opens (Z, M)).2) := if_pos h5
    have e1 : o_puts1 (Z, M) f = (z1 (z1 (z1 Z 3 (Z 3 + 1)) 4 (Z 4 + 1)) 5 (Z 4), m1 (m1 M 17 (zn Z 3) (Z 4)) 14 f (Z 4)) := by
      unfold o_puts1
      rw [e0]
      rfl
    have hn : ∀ g, g < zn Z 1 → ¬ M 14 g = Z 4 := fun g hg z => by
      rcases h1 g hg with q | ⟨v, q1, q2⟩
      · exact hz4n (z.symm.trans q)
      · rw [q2, hz4] at z
        have := (nI_eq (by omega) (by omega)).mp z
        omega
    have esz : o_size (z1 (z1 (z1 Z 3 (Z 3 + 1)) 4 (Z 4 + 1)) 5 (Z 4)) (m1 (m1 M 17 (zn Z 3) (Z 4)) 14 f (Z 4)) (Z 4) = 1 := by
      unfold o_size
      have hz1' : zn (z1 (z1 (z1 Z 3 (Z 3 + 1)) 4 (Z 4 + 1)) 5 (Z 4)) 1 = zn Z 1 := rfl
      rw [hz1', cntB_congr (q := fun g => decide (g = f)) (fun g hg => ?_), cntB_put (p := fun _ => false) (f := f) rfl (decide_eq_true rfl) (fun g hg => decide_eq_false hg), if_pos hf]
      · have : ∀ n, cntB (fun _ => false) n = 0 := fun n => by
          induction n with
          | zero => rfl
          | succ n ih => show cntB _ n + 0 = 0; rw [ih]
        rw [this]
      · rw [m1_at]
        by_cases e : g = f
        · rw [if_pos e]; exact decide_eq_decide.mpr ⟨fun _ => e, fun _ => rfl⟩
        · rw [if_neg e, m1_n _ _ (by decide)]; exact decide_eq_decide.mpr ⟨fun z => absurd z (hn g hg), fun z => absurd z e⟩
    have e2 : o_puts (Z, M) f = (z1 (z1 (z1 Z 3 (Z 3 + 1)) 4 (Z 4 + 1)) 5 (Z 4), m1 (m1 M 17 (zn Z 3) (Z 4)) 14 f (Z 4)) := by
      unfold o_puts
      rw [e1]
      show (if o_size (z1 (z1 (z1 Z 3 (Z 3 + 1)) 4 (Z 4 + 1)) 5 (Z 4)) (m1 (m1 M 17 (zn Z 3) (Z 4)) 14 f (Z 4)) (Z 4) = 10 then _ else _) = _
      rw [esz]
      rfl
    rw [e2]
    refine Or.inr ⟨?_, if_pos h5, ?_⟩
    · show z1 (z1 (z1 Z 3 (Z 3 + 1)) 4 (Z 4 + 1)) 5 (Z 4) 3 = Z 3 + 1
      rw [z1_n _ _ (by decide), z1_n _ _ (by decide), z1_s]
    · unfold u_rm
      dsimp only
      refine (if_neg ?_).trans ?_
      · rw [z1_s]; exact hz4n
      · rw [z1_s, esz]
  · have e0 : o_puts0 (Z, M) = (Z, M) := if_neg h5
    have e1 : o_puts1 (Z, M) f = (Z, m1 M 14 f (Z 5)) := by unfold o_puts1; rw [e0]
    have esz : o_size Z (m1 M 14 f (Z 5)) (Z 5) = o_size Z M (Z 5) + 1 := by
      unfold o_size
      rw [cntB_put (p := fun g => decide (M 14 g = Z 5)) (p2 := fun g => decide (m1 M 14 f (Z 5) 14 g = Z 5)) (f := f) (decide_eq_false (by rw [h14]; exact Ne.symm h5)) (decide_eq_true (by rw [m1_at, if_pos rfl])) (fun g hg => by rw [m1_at, if_neg hg]), if_pos hf]
    have e2 : o_puts (Z, M) f = if o_size Z M (Z 5) + 1 = 10 then (z1 Z 5 (-1), m1 M 14 f (Z 5)) else (Z, m1 M 14 f (Z 5)) := by
      unfold o_puts
      rw [e1]
      show (if o_size Z (m1 M 14 f (Z 5)) (Z 5) = 10 then _ else _) = _
      rw [esz]
    have hle := h3 h5
    have r0 : u_rm Z M = 10 - o_size Z M (Z 5) := if_neg h5
    rw [e2, r0]
    refine Or.inl ?_
    by_cases c : o_size Z M (Z 5) + 1 = 10
    · rw [if_pos c]
      have r1 : u_rm (z1 Z 5 (-1)) (m1 M 14 f (Z 5)) = 0 := if_pos (z1_s Z 5 (-1))
      dsimp only
      rw [r1]
      exact ⟨z1_n Z (-1) (show (3 : Nat) ≠ 5 by decide), by omega, by omega⟩
    · rw [if_neg c]
      have r1 : u_rm Z (m1 M 14 f (Z 5)) = 10 - (o_size Z M (Z 5) + 1) := by unfold u_rm; rw [if_neg h5, esz]
      dsimp only
      rw [r1]
      exact ⟨rfl, by omega, by omega⟩
theorem u_reb {S : mS} {m nf k0 : Nat} (hz4 : S.1 4 = nI m) (hm : m + 121 < 2 ^ 30) (h : w_seg S.1 S.2 m) (hnf : zn S.1 1 = nf) (h120 : nf ≤ 120) (hz3 : S.1 3 = nI k0) : ∀ i, i ≤ nf → ∃ k, (o_reb S i).1 3 = nI (k0 + k) ∧ cntB (fun f => decide (S.2 14 f = -1) && decide (S.2 16 f = 0)) i + u_rm (o_reb S i).1 (o_reb S i).2 = u_rm S.1 S.2 + 10 * k ∧ (k = 0 ∨ u_rm (o_reb S i).1 (o_reb S i).2 ≤ 9) ∧ ∀ g, i ≤ g → (o_reb S i).2 14 g = S.2 14 g
  | 0, _ => ⟨0, hz3, by show 0 + u_rm S.1 S.2 = _; omega, Or.inl rfl, fun _ _ => rfl⟩
  | i + 1, hi => by
    obtain ⟨k, a1, a2, a3, a4⟩ := u_reb hz4 hm h hnf h120 hz3 i (by omega)
    obtain ⟨m', b1, b2, b3, b4, b5, b6⟩ := w_reb hz4 hm h hnf h120 i (by omega)
    have e14 := a4 i (Nat.le_refl _)
    have e16 : (o_reb S i).2 16 i = S.2 16 i := by rw [b6 16 (by decide) (by decide)]
    have same : (decide (S.2 14 i = -1) && decide (S.2 16 i = 0)) = false → ∃ k, (o_reb S i).1 3 = nI (k0 + k) ∧ cntB (fun f => decide (S.2 14 f = -1) && decide (S.2 16 f = 0)) (i + 1) + u_rm (o_reb S i).1 (o_reb S i).2 = u_rm S.1 S.2 + 10 * k ∧ (k = 0 ∨ u_rm (o_reb S i).1 (o_reb S i).2 ≤ 9) ∧ ∀ g, i + 1 ≤ g → (o_reb S i).2 14 g = S.2 14 g := fun hq => by
      refine ⟨k, a1, ?_, a3, fun g hg => a4 g (by omega)⟩
      show cntB (fun f => decide (S.2 14 f = -1) && decide (S.2 16 f = 0)) i + (if (decide (S.2 14 i = -1) && decide (S.2 16 i = 0)) = true then 1 else 0) + _ = _
      rw [hq]
      exact a2
    simp only [o_reb]
    by_cases c : (o_reb S i).2 14 i = -1
    · rw [if_pos c]
      by_cases c2 : (o_reb S i).2 16 i = 0
      · rw [if_pos c2]
        have hz1 : zn (o_reb S i).1 1 = nf := by unfold zn at hnf ⊢; rw [b5 1 (by decide) (by decide) (by decide)]; exact hnf
        have hq : (decide (S.2 14 i = -1) && decide (S.2 16 i = 0)) = true := by rw [← e14, ← e16, c, c2]; rfl
        have hc : cntB (fun f => decide (S.2 14 f = -1) && decide (S.2 16 f = 0)) (i + 1) = cntB (fun f => decide (S.2 14 f = -1) && decide (S.2 16 f = 0)) i + 1 := by
          show _ + (if (decide (S.2 14 i = -1) && decide (S.2 16 i = 0)) = true then 1 else 0) = _
          rw [hq]
          rfl
        have h14 : ∀ g, i + 1 ≤ g → (o_puts (o_reb S i) i).2 14 g = S.2 14 g := fun g hg => (o_puts_14 _ _ (by omega)).trans (a4 g (by omega))
        rcases u_puts b3 (by omega) b4 (show i < zn (o_reb S i).1 1 by omega) c with ⟨d1, d2, d3⟩ | ⟨d1, d2, d3⟩
        · exact ⟨k, d1.trans a1, by rw [hc]; omega, Or.inr d3, h14⟩
        · exact ⟨k + 1, by rw [d1, a1, nI_1]; rfl, by rw [hc]; omega, Or.inr (by omega), h14⟩
      · rw [if_neg c2]
        exact same (by rw [← e16, decide_eq_false c2, Bool.and_false])
    · rw [if_neg c]
      exact same (by rw [← e14, decide_eq_false c, Bool.false_and])
theorem nI_div10 : ∀ a, a < 140 → nI a / 10 = nI (a / 10) := by decide
theorem u_mono {p : Nat → Bool} {i n : Nat} (h : i ≤ n) : cntB p i ≤ cntB p n := by
  induction h with
  | refl => exact Nat.le_refl _
  | step _ ih => exact Nat.le_trans ih (Nat.le_add_right _ _)
theorem u_more {Z : mZ} {M : mM} {m nf k0 : Nat} (hz4 : Z 4 = nI m) (hm : m + 121 < 2 ^ 30) (h : w_seg Z M m) (hz1 : Z 1 = nI nf) (h120 : nf ≤ 120) (hz3 : Z 3 = nI k0) (hk0 : k0 ≤ 20) (ht : t_rebuild Z M = 0) : ∀ i, i ≤ nf → ∃ k, k ≤ 20 ∧ (o_reb (Z, M) i).1 3 = nI k := fun i hi => by
  have hzn : zn Z 1 = nf := zn_of hz1 (by omega)
  obtain ⟨k, a1, a2, a3, -⟩ := u_reb (S := (Z, M)) hz4 hm h hzn h120 hz3 i hi
  dsimp only at a2
  refine ⟨k0 + k, ?_, a1⟩
  have hmono : cntB (fun f => decide (M 14 f = -1) && decide (M 16 f = 0)) i ≤ o_lost Z M := by
    unfold o_lost
    rw [hzn]
    exact u_mono hi
  have hl : o_lost Z M ≤ 120 := Nat.le_trans (cntB_le _ _) (by omega)
  have hfree : o_free Z M = nI (u_rm Z M) := by
    unfold o_free u_rm
    by_cases c : Z 5 = -1
    · rw [if_pos c, if_pos c]; rfl
    · rw [if_neg c, if_neg c]
      have := h.2.2 c
      exact nI_subN (a := 10) (by omega)
  have hr10 : u_rm Z M ≤ 10 := by
    unfold u_rm
    split <;> omega
  rcases a3 with q | q
  · rw [q]; exact hk0
  · have ht2 : ¬ 20 < Z 3 + o_more Z M := fun z => by
      unfold t_rebuild at ht
      rw [if_pos z] at ht
      exact absurd ht (by decide)
    unfold o_more at ht2
    rw [hfree] at ht2
    rcases Nat.eq_zero_or_pos k with k9 | k9
    · rw [k9]; exact hk0
    · have hlt : u_rm Z M < o_lost Z M := by omega
      rw [if_neg (by rw [nI_leI (by omega) (by omega)]; omega), nI_subN (Nat.le_of_lt hlt), show (10 : Int32) = nI 10 from rfl, show (1 : Int32) = nI 1 from rfl, nI_add, nI_subN (by omega), show nI 10 = (10 : Int32) from rfl, nI_div10 _ (by omega), hz3, nI_add, show (20 : Int32) = nI 20 from rfl, nI_ltI (by decide) (by omega)] at ht2
      omega
theorem u_rb9 {Z : mZ} {M : mM} {m nf : Nat} (hz4 : Z 4 = nI m) (hm : m + 121 < 2 ^ 30) (h : w_seg Z M m) (hz1 : Z 1 = nI nf) (h120 : nf ≤ 120) : ∀ i, i ≤ nf → ¬ (o_reb (Z, M) i).1 5 = -1 → o_size (o_reb (Z, M) i).1 (o_reb (Z, M) i).2 ((o_reb (Z, M) i).1 5) ≤ 9 := fun i hi => by
  obtain ⟨m', -, -, -, b4, -⟩ := w_reb (S := (Z, M)) hz4 hm h (zn_of hz1 (by omega)) h120 i hi
  exact b4.2.2
theorem u_rb4 {Z : mZ} {M : mM} {m nf : Nat} (hz4 : Z 4 = nI m) (hm : m + 121 < 2 ^ 30) (h : w_seg Z M m) (hz1 : Z 1 = nI nf) (h120 : nf ≤ 120) : ∀ i, i ≤ nf → ∃ m', (o_reb (Z, M) i).1 4 = nI m' ∧ m' + 1 < 2 ^ 30 := fun i hi => by
  obtain ⟨m', -, b2, b3, -⟩ := w_reb (S := (Z, M)) hz4 hm h (zn_of hz1 (by omega)) h120 i hi
  exact ⟨m', b3, by omega⟩
end
