theorem sumN_add2 (f g : Nat → Nat) : ∀ n, sumN (fun p => f p + g p) n = sumN f n + sumN g n
  | 0 => rfl
  | n + 1 => by
    show sumN _ n + (f n + g n) = sumN f n + f n + (sumN g n + g n)
    rw [sumN_add2 f g n]; omega
theorem sumN_mono {f g : Nat → Nat} : ∀ {n : Nat}, (∀ k, k < n → f k ≤ g k) → sumN f n ≤ sumN g n
  | 0, _ => Nat.le_refl _
  | n + 1, h => by
    have h1 := sumN_mono (n := n) (fun k hk => h k (by omega))
    have h2 := h n (by omega)
    show sumN f n + f n ≤ sumN g n + g n
    omega
theorem sumN_le (f : Nat → Nat) {p : Nat} : ∀ {n : Nat}, p ≤ n → sumN f p ≤ sumN f n
  | 0, h => by rw [Nat.le_zero.mp h]; exact Nat.le_refl _
  | n + 1, h => by
    by_cases e : p = n + 1
    · rw [e]; exact Nat.le_refl _
    · exact Nat.le_trans (sumN_le f (p := p) (n := n) (by omega)) (Nat.le_add_right _ _)
theorem sumN_mul (c : Nat) (f : Nat → Nat) : ∀ n, sumN (fun p => c * f p) n = c * sumN f n
  | 0 => rfl
  | n + 1 => by
    show sumN _ n + c * f n = c * (sumN f n + f n)
    rw [sumN_mul c f n, Nat.mul_add]
theorem sumN_0 : ∀ n, sumN (fun _ => 0) n = 0
  | 0 => rfl
  | n + 1 => by show sumN _ n + 0 = 0; rw [sumN_0 n]
theorem sumN_one (p : Nat → Prop) [∀ i, Decidable (p i)] : ∀ n, (∀ i j, i < n → j < n → p i → p j → i = j) → sumN (fun i => if p i then 1 else 0) n ≤ 1
  | 0, _ => Nat.zero_le _
  | n + 1, h => by
    show sumN _ n + (if p n then 1 else 0) ≤ 1
    by_cases c : p n
    · have : sumN (fun i => if p i then 1 else 0) n = sumN (fun _ => 0) n := sumN_congr (fun k hk => if_neg (fun z => by have := h k n (by omega) (by omega) z c; omega))
      rw [this, sumN_0, if_pos c]
      omega
    · have := sumN_one p n (fun i j hi hj => h i j (by omega) (by omega))
      rw [if_neg c]; omega
theorem o_at_sum (M : mM) (wd isl : Int32) : ∀ nf, sumN (fun p => o_at M nf wd isl (nI p)) 41 ≤ nf
  | 0 => by
    have : sumN (fun p => o_at M 0 wd isl (nI p)) 41 = sumN (fun _ => 0) 41 := sumN_congr (fun _ _ => rfl)
    rw [this, sumN_0]; exact Nat.le_refl _
  | nf + 1 => by
    have ih := o_at_sum M wd isl nf
    have e : sumN (fun p => o_at M (nf + 1) wd isl (nI p)) 41 = sumN (fun p => o_at M nf wd isl (nI p)) 41 + sumN (fun p => if (o_pst M nf wd && (decide (M 12 nf = isl) && decide (M 13 nf = nI p))) = true then 1 else 0) 41 := by
      rw [← sumN_add2]; rfl
    have := sumN_one (fun p => (o_pst M nf wd && (decide (M 12 nf = isl) && decide (M 13 nf = nI p))) = true) 41 (fun i j hi hj h1 h2 => by
      simp only [Bool.and_eq_true, decide_eq_true_eq] at h1 h2
      exact (nI_eq (by omega) (by omega)).mp (h1.2.2.symm.trans h2.2.2))
    rw [e]; omega
theorem o_win_le (f : Nat → Nat) (p g : Nat) : o_win f p g ≤ sumN f p := by
  have key : ∀ m, m ≤ p → sumN (fun b => f (p - (b + 1))) m + sumN f (p - m) = sumN f p := fun m => by
    induction m with
    | zero => intro _; show 0 + _ = _; rw [Nat.zero_add]; rfl
    | succ m ih =>
      intro h
      have ih := ih (by omega)
      have e : p - m = (p - (m + 1)) + 1 := by omega
      rw [e] at ih
      have e2 : sumN f (p - (m + 1) + 1) = sumN f (p - (m + 1)) + f (p - (m + 1)) := rfl
      rw [e2] at ih
      show sumN _ m + f (p - (m + 1)) + _ = _
      omega
  have := key (min (g + 1) p) (Nat.min_le_right _ _)
  unfold o_win
  omega
theorem o_ways_sum (a : Nat → Nat → Nat) (g : Nat → Nat) (ha : ∀ k, sumN (a k) 41 ≤ 120) : ∀ k, sumN (o_ways a g k) 41 ≤ 120 ^ (k + 1)
  | 0 => by
    have : sumN (o_ways a g 0) 41 = sumN (a 0) 41 := sumN_congr (fun _ _ => rfl)
    rw [this]; exact ha 0
  | k + 1 => by
    have ih := o_ways_sum a g ha k
    have h1 : sumN (o_ways a g (k + 1)) 41 ≤ sumN (fun p => 120 ^ (k + 1) * a (k + 1) p) 41 := sumN_mono (fun p hp => by
      show o_win (o_ways a g k) p (g (k + 1)) * a (k + 1) p ≤ _
      exact Nat.mul_le_mul (Nat.le_trans (o_win_le _ _ _) (Nat.le_trans (sumN_le _ (by omega)) ih)) (Nat.le_refl _))
    rw [sumN_mul] at h1
    refine Nat.le_trans h1 (Nat.le_trans (Nat.mul_le_mul (Nat.le_refl _) (ha (k + 1))) ?_)
    rw [Nat.pow_succ 120 (k + 1)]
    exact Nat.le_refl _
theorem o_hits_lt {a : Nat → Nat → Nat} {g : Nat → Nat} {n : Nat} (hn : n ≤ 4) (ha : ∀ k, sumN (a k) 41 ≤ 120) : o_hits a g n < 2 ^ 31 := by
  have h := o_ways_sum a g ha (n - 1)
  have h2 : 120 ^ (n - 1 + 1) ≤ 120 ^ 4 := Nat.pow_le_pow_right (by decide) (by omega)
  exact Nat.lt_of_le_of_lt (Nat.le_trans h h2) (by decide)
theorem o_hitsOn_lt {Z : mZ} {M : mM} {nf na : Nat} (h1 : Z 1 = nI nf) (hn : nf ≤ 120) (h30 : Z 30 = nI na) (h4 : na ≤ 4) (isl : Int32) : o_hitsOn Z M isl < 2 ^ 31 := by
  unfold o_hitsOn
  rw [zn_of h30 (by omega), zn_of h1 (by omega)]
  exact o_hits_lt h4 (fun k => Nat.le_trans (o_at_sum _ _ _ _) hn)
theorem o_hitT_lt {Z : mZ} {M : mM} {nf nt : Nat} (h1 : Z 1 = nI nf) (hn : nf ≤ 120) (h29 : Z 29 = nI nt) (h4 : nt ≤ 4) (i : Int32) : o_hitT Z M i < 2 ^ 31 :=
  o_hitsOn_lt (Z := (o_askT (Z, M)).1) (nf := nf) (na := nt) ((show z1 Z 30 (Z 29) 1 = Z 1 from z1_n _ _ (by decide)).trans h1) hn (o_askT_30 (Z, M) h29) h4 i
theorem o_still_lt {Z : mZ} {M : mM} {nf n s : Nat} (h1 : Z 1 = nI nf) (hn : nf ≤ 120) (h22 : M 22 s = nI n) (h4 : n ≤ 4) : o_still Z M s < 2 ^ 31 :=
  o_hitsOn_lt (Z := (o_askK (Z, M) s).1) (nf := nf) (na := n) ((show z1 Z 30 (M 22 s) 1 = Z 1 from z1_n _ _ (by decide)).trans h1) hn (o_askK_30 (Z, M) h22) h4 _
theorem o_pay_eq (M : mM) (s : Nat) (c : Int32) : (if M 19 s < c then M 19 s else c) = o_pay M s c := by
  unfold o_pay
  by_cases h1 : M 19 s < c
  · rw [if_pos h1, if_neg (fun z => Int32.lt_irrefl (Int32.lt_trans h1 z))]
  · rw [if_neg h1]
    by_cases h2 : c < M 19 s
    · rw [if_pos h2]
    · rw [if_neg h2]
      exact Int32.le_antisymm (Int32.not_lt.mp h1) (Int32.not_lt.mp h2)
section
variable {K : Nat → Nat} {I : Nat → Nat → Int32} {R : Nat → Nat → Option Nat} {N : Nat → Nat} {A : Nat → Nat → Int32} {L : Nat → List Nat} {T : Nat → List Int32} {x : Nat} {cd : Nat → Nat} {Z : mZ} {M : mM}
theorem q_out (hs : c_sim K I R N A L T x cd Z M) {s a : Nat} (ha : (L (cd 5))[s]? = some a) : c_out I R A (L (cd 9)) a = o_goes Z M s := by
  obtain ⟨ph, w9, d9, n, is9, came, b1, b2, b3, b4, b5, b6, b7, b8, b9, b10, b11, b12, b13, b14, b15, b16, b17⟩ := hs.2.2.2.2.2.1.2.2.2.1 s a ha
  have hp42 : I 42 ph = nI n := b2.2.2.2.2.2.2.2.1
  have hn4 : n ≤ 4 := b2.2.2.2.2.2.2.2.2.1
  rw [c_out_q b1 b3 b2, hp42]
  unfold o_goes
  rw [b11]
  by_cases h0 : n = 0
  · rw [h0]; rfl
  · have e30 : I 30 is9 = M 18 s := by
      obtain ⟨j, hj, e⟩ := b5
      rw [e, nI_clamp (by omega)] at b4
      rw [e]
      exact (hs.2.1.2.2 j is9 b4).2.1
    rw [e30, q_hitK hs b11 h0 hn4 b12 b13]
    have hlt := o_still_lt (M := M) (s := s) hs.2.2.1.1 hs.2.2.1.2.1 b11 hn4
    have e : (!decide (0 < nI (o_still Z M s))) = decide (o_still Z M s = 0) := by
      rw [Bool.eq_iff_iff, Bool.not_eq_true', decide_eq_false_iff_not, decide_eq_true_eq]
      rw [show (0 : Int32) = nI 0 from rfl, nI_ltI (by decide) hlt]
      omega
    show (_ && !decide (0 < nI (o_still Z M s))) = _
    rw [e]
theorem q_back (hs : c_sim K I R N A L T x cd Z M) {s a n : Nat} (ha : (L (cd 5))[s]? = some a) (h22 : M 22 s = nI n) (hn0 : n ≠ 0) (hn4 : n ≤ 4) : c_sim K (c_goI I R a) (c_goR R a) N A L T x cd Z (o_back M s) := by
  have hel0 := q_el0 hs
  have hel1 := q_el1 hs
  have hel5 := q_el5 hs
  have hel7 := q_el7 hs
  obtain ⟨hok, hi, hf, hr, hsh, hfl, hty, hca, hcp⟩ := hs
  have ka : K a = 7 := hel7 a (List.mem_of_getElem? ha)
  obtain ⟨ph, w9, d9, n9, is9, came, b1, b2, b3, b4, b5, b6, b7, b8, b9, b10, b11, b12, b13, b14, b15, b16, b17⟩ := hfl.2.2.2.1 s a ha
  have en : n9 = n := (nI_eq (by have := b2.2.2.2.2.2.2.2.2.1; omega) (by omega)).mp (b11.symm.trans h22)
  rw [en] at b2 b12 b13 b17
  obtain ⟨b17a, b17b, b17c, b17d⟩ := b17 hn0
  have kp := b2.1
  obtain ⟨t, ht, et⟩ := b5
  have ect : (M 18 s).toNatClampNeg = t := by rw [et]; exact nI_clamp (by omega)
  rw [ect] at b4 b17d
  have kis : K is9 = 3 := hel0 is9 (List.mem_of_getElem? b4)
  have e70 : (R 70 a).getD 0 = ph := by rw [b1]; rfl
  have e71 : (R 71 a).getD 0 = is9 := by rw [b3]; rfl
  have hdg : I 74 a = 1 ↔ ¬ M 21 s = -1 := by
    rw [b17c]
    by_cases c : M 21 s = -1
    · rw [if_pos c]; exact ⟨fun z => absurd z (by decide), fun z => absurd c z⟩
    · rw [if_neg c]; exact ⟨fun _ => c, fun _ => rfl⟩
  -- the int fields behind
  have hI : ∀ f b, ¬ (f = 72 ∧ b = a) → ¬ (f = 34 ∧ b = is9) → ¬ (f = 42 ∧ b = ph) → c_goI I R a f b = I f b := fun f b h1 h2 h3 => by
    unfold c_goI
    rw [e70, e71]
    split
    · exact (if_neg h3).trans ((if_neg h2).trans (if_neg h1))
    · exact if_neg h3
  have i42 : c_goI I R a 42 ph = 0 := by
    unfold c_goI
    rw [e70]
    split <;> exact m_up2_self _ _ _ _
  have hR : ∀ f b, ¬ (f = 71 ∧ b = a) → c_goR R a f b = R f b := fun f b h => if_neg h
  have r71 : c_goR R a 71 a = some came := (m_up2_self _ _ _ _).trans b6
  have hc : c_chg K I R N K (c_goI I R a) (c_goR R a) N (fun f b => (f = 72 ∧ b = a) ∨ (f = 34 ∧ b = is9) ∨ (f = 42 ∧ b = ph)) (fun f b => f = 71 ∧ b = a) := fun b _ _ => ⟨rfl, rfl, fun f _ h => hI f b (fun z => h (Or.inl z)) (fun z => h (Or.inr (Or.inl z))) (fun z => h (Or.inr (Or.inr z))), fun f _ _ h => hR f b h, fun h => by rw [hR 111 b (fun z => absurd z.1 (by decide))]; exact h⟩
  have hE : ∀ fs : List Nat, 72 ∉ fs → 34 ∉ fs → 42 ∉ fs → ∀ f b, ((f = 72 ∧ b = a) ∨ (f = 34 ∧ b = is9) ∨ (f = 42 ∧ b = ph)) → f ∉ fs := fun fs h1 h2 h3 f b z => by
    rcases z with ⟨z, -⟩ | ⟨z, -⟩ | ⟨z, -⟩ <;> rw [z] <;> assumption
  have i72 : c_goI I R a 72 a = o_back M s 19 s := by
    have e2 : o_back M s 19 s = (if M 21 s = -1 then M 19 s else M 19 s - o_pay M s (M 21 s)) := by
      unfold o_back
      rw [m1_n _ _ (by decide), m1_n _ _ (by decide), m1_n _ _ (by decide)]
      split
      · rfl
      · rw [m1_n _ _ (by decide), m1_at, if_pos rfl]
    rw [e2]
    unfold c_goI
    rw [e70, e71]
    by_cases c : M 21 s = -1
    · rw [if_pos c, if_neg (fun z => (hdg.mp z) c), m_up2_ni _ _ (by decide)]
      exact b10
    · rw [if_neg c, if_pos (hdg.mpr c), m_up2_ni _ _ (by decide), m_up2_ni _ _ (by decide), m_up2_self, b10, (hi.2.2 t is9 b4).2.2.2.2.1, ← b17d.resolve_left c, o_pay_eq]
  have i34 : c_goI I R a 34 is9 = if o_back M s 10 t = 0 then 1 else 0 := by
    have e2 : o_back M s 10 t = (if M 21 s = -1 then M 10 t else 0) := by
      unfold o_back
      rw [m1_n _ _ (by decide), m1_n _ _ (by decide), m1_n _ _ (by decide)]
      split
      · rfl
      · rw [m1_at, if_pos ect.symm]
    rw [e2]
    unfold c_goI
    rw [e70, e71]
    by_cases c : M 21 s = -1
    · rw [if_pos c, if_neg (fun z => (hdg.mp z) c), m_up2_ni _ _ (by decide)]
      exact (hi.2.2 t is9 b4).2.2.2.2.2
    · rw [if_neg c, if_pos (hdg.mpr c), m_up2_ni _ _ (by decide), m_up2_self]
      rfl
  have m10 : ∀ j, j ≠ t → o_back M s 10 j = M 10 j := fun j h => by
    unfold o_back
    rw [m1_n _ _ (by decide), m1_n _ _ (by decide), m1_n _ _ (by decide)]
    split
    · rfl
    · rw [m1_at, if_neg (by rw [ect]; exact h), m1_n _ _ (by decide)]
  have m21 : o_back M s 21 s = -1 := by unfold o_back; rw [m1_n _ _ (by decide), m1_n _ _ (by decide), m1_at, if_pos rfl]
  have m18 : o_back M s 18 s = M 20 s := by unfold o_back; rw [m1_n _ _ (by decide), m1_at, if_pos rfl]
  have m22 : o_back M s 22 s = 0 := by unfold o_back; rw [m1_at, if_pos rfl]
  have mn : ∀ j, j ≠ 10 → j ≠ 18 → j ≠ 19 → j ≠ 21 → j ≠ 22 → o_back M s j = M j := fun j h0 h8 h9 h1 h2 => o_back_n M s h0 h8 h9 h1 h2
  have mk : ∀ j k, j ≠ 10 → k ≠ s → o_back M s j k = M j k := fun j k hj hk => o_back_k M s hj hk
  have n9' : o_back M s 9 = M 9 := mn 9 (by decide) (by decide) (by decide) (by decide) (by decide)
  refine ⟨c_ok_chg hok hc (fun f b z => by rw [z.1]; rfl), ⟨hi.1, hi.2.1, fun j b hb => ?_⟩, q_fnd_t hf hc (hE _ (by decide) (by decide) (by decide)) (fun f b z => by rw [z.1]; decide) (fun b hb => hI 50 b (fun z => absurd z.1 (by decide)) (fun z => absurd z.1 (by decide)) (fun z => absurd z.1 (by decide))) rfl (fun _ z => ⟨rfl, z⟩) rfl rfl (mn 11 (by decide) (by decide) (by decide) (by decide) (by decide)) (mn 12 (by decide) (by decide) (by decide) (by decide) (by decide)) (mn 13 (by decide) (by decide) (by decide) (by decide) (by decide)) (mn 14 (by decide) (by decide) (by decide) (by decide) (by decide)) (mn 15 (by decide) (by decide) (by decide) (by decide) (by decide)) (mn 16 (by decide) (by decide) (by decide) (by decide) (by decide)), q_row_t hr hel1 hc (hE _ (by decide) (by decide) (by decide)) (fun f b z => by rw [z.1]; decide) rfl rfl, q_shf_t hok hsh hel1 hc (hE _ (by decide) (by decide) (by decide)) (fun f b z => by rw [z.1]; decide) rfl rfl (fun _ _ _ _ => rfl) rfl rfl rfl (mn 17 (by decide) (by decide) (by decide) (by decide) (by decide)), ⟨hfl.1, hfl.2.1, hfl.2.2.1, fun s2 b hb => ?_, fun b c hb hcm hbc => ?_, fun b c p q hb hcm hbc hp hq => ?_⟩, q_typ_t hty hc (fun z => by rcases z with ⟨z, -⟩ | ⟨z, -⟩ | ⟨-, z⟩ <;> first | exact absurd z (by decide) | exact b14 z.symm) (fun f b z => by rw [z.1]; decide) rfl rfl rfl (mn 25 (by decide) (by decide) (by decide) (by decide) (by decide)) (mn 26 (by decide) (by decide) (by decide) (by decide) (by decide)), q_cau_t hca rfl rfl (mn 32 (by decide) (by decide) (by decide) (by decide) (by decide)), ?_⟩
  · obtain ⟨k, c1, c2, c3, c4, c5⟩ := hi.2.2 j b hb
    have kb : b ≠ a := fun z => by rw [z, ka] at k; exact absurd k (by decide)
    have kb2 : b ≠ ph := fun z => by rw [z, kp] at k; exact absurd k (by decide)
    have e : ∀ f, f ≠ 34 → c_goI I R a f b = I f b := fun f h => hI f b (fun z => kb z.2) (fun z => h z.1) (fun z => kb2 z.2)
    rw [mn 7 (by decide) (by decide) (by decide) (by decide) (by decide), mn 8 (by decide) (by decide) (by decide) (by decide) (by decide), n9', e 30 (by decide), e 31 (by decide), e 32 (by decide), e 33 (by decide)]
    refine ⟨k, c1, c2, c3, c4, ?_⟩
    by_cases hj : j = t
    · rw [hj] at hb ⊢
      obtain rfl : is9 = b := Option.some.inj (b4.symm.trans hb)
      exact i34
    · have hne : b ≠ is9 := fun z => hj (by
        have l1 := (List.getElem?_eq_some_iff.mp hb).1
        have l0 := hi.2.1
        have e3 := (hi.2.2 t is9 b4).2.1
        rw [z] at c1
        exact (nI_eq (by omega) (by omega)).mp (c1.symm.trans e3))
      rw [m10 j hj, hI 34 b (fun z => kb z.2) (fun z => hne z.2) (fun z => kb2 z.2)]
      exact c5
  · by_cases hs2 : s2 = s
    · rw [hs2] at hb ⊢
      obtain rfl : a = b := Option.some.inj (ha.symm.trans hb)
      have hph2 : c_ph K (c_goR R a) N (c_goI I R a) A ph w9 d9 0 := ⟨kp, (hR 40 ph (fun z => absurd z.1 (by decide))).trans b2.2.1, b2.2.2.1, b2.2.2.2.1, (hR 41 ph (fun z => absurd z.1 (by decide))).trans b2.2.2.2.2.1, b2.2.2.2.2.2.1, b2.2.2.2.2.2.2.1, i42, Nat.zero_le _, fun k _ h => absurd h (Nat.not_lt_zero _)⟩
      refine ⟨ph, w9, d9, 0, came, came, (hR 70 a (fun z => absurd z.1 (by decide))).trans b1, hph2, r71, ?_, ?_, (hR 73 a (fun z => absurd z.1 (by decide))).trans b6, b7, b8, ?_, i72, m22, fun k h => absurd h (Nat.not_lt_zero _), fun k _ h => absurd h (Nat.not_lt_zero _), b14, b15, b16, fun z => absurd rfl z⟩
      · rw [m18]; exact b17a
      · rw [m18]; exact b17b
      · rw [hI 74 a (fun z => absurd z.1 (by decide)) (fun z => absurd z.1 (by decide)) (fun z => absurd z.1 (by decide))]; exact b9
    · have hba : b ≠ a := fun z => hs2 (c_nd hfl.2.2.1 (by rw [← z]; exact hb) ha)
      have kb := hel7 b (List.mem_of_getElem? hb)
      obtain ⟨ph', w', d', n', is', came', c1, c2, c3, c4, c5, c6, c7, c8, c9, c10, c11, c12, c13, c14, c15, c16, c17⟩ := hfl.2.2.2.1 s2 b hb
      have hpp : ph' ≠ ph := fun z => hfl.2.2.2.2.1 b a (List.mem_of_getElem? hb) (List.mem_of_getElem? ha) hba (by rw [c1, b1, z])
      have hbis : b ≠ is9 := fun z => by rw [z, kis] at kb; exact absurd kb (by decide)
      have hbph : b ≠ ph := fun z => by rw [z, kp] at kb; exact absurd kb (by decide)
      refine ⟨ph', w', d', n', is', came', (hR 70 b (fun z => hba z.2)).trans c1, c_ph_t c2 hc (fun z => ?_) (fun f z => by rw [z.1]; decide) rfl, (hR 71 b (fun z => hba z.2)).trans c3, ?_⟩
      · rcases z with ⟨z, -⟩ | ⟨z, -⟩ | ⟨-, z⟩
        · exact absurd z (by decide)
        · exact absurd z (by decide)
        · exact hpp z
      · rw [mk 18 s2 (by decide) hs2, mk 19 s2 (by decide) hs2, mk 20 s2 (by decide) hs2, mk 21 s2 (by decide) hs2, mk 22 s2 (by decide) hs2, mn 23 (by decide) (by decide) (by decide) (by decide) (by decide), mn 24 (by decide) (by decide) (by decide) (by decide) (by decide), n9', hI 74 b (fun z => hba z.2) (fun z => hbis z.2) (fun z => hbph z.2), hI 72 b (fun z => hba z.2) (fun z => hbis z.2) (fun z => hbph z.2), hR 73 b (fun z => hba z.2)]
        exact ⟨c4, c5, c6, c7, c8, c9, c10, c11, c12, c13, c14, c15, c16, c17⟩
  · rw [hR 70 b (fun z => absurd z.1 (by decide)), hR 70 c (fun z => absurd z.1 (by decide))]
    exact hfl.2.2.2.2.1 b c hb hcm hbc
  · rw [hR 70 b (fun z => absurd z.1 (by decide))] at hp
    rw [hR 70 c (fun z => absurd z.1 (by decide))] at hq
    rw [hR 40 p (fun z => absurd z.1 (by decide)), hR 40 q (fun z => absurd z.1 (by decide)), hR 41 p (fun z => absurd z.1 (by decide)), hR 41 q (fun z => absurd z.1 (by decide))]
    exact hfl.2.2.2.2.2 b c p q hb hcm hbc hp hq
  · unfold m_cap at hcp ⊢
    rw [hR 111 _ (fun z => absurd z.1 (by decide))]
    exact hcp
theorem q_sent (hs : c_sim K I R N A L T x cd Z M) : ∀ s, s ≤ (L (cd 5)).length → c_sim K (((L (cd 5)).take s).foldl (c_bk A (L (cd 9))) (I, R, 0)).1 (((L (cd 5)).take s).foldl (c_bk A (L (cd 9))) (I, R, 0)).2.1 N A L T x cd Z (o_bk Z M s).2 ∧ (((L (cd 5)).take s).foldl (c_bk A (L (cd 9))) (I, R, 0)).2.2 = (o_bk Z M s).1
  | 0, _ => ⟨hs, rfl⟩
  | s + 1, h => by
    obtain ⟨h1, h2⟩ := q_sent hs s (by omega)
    obtain ⟨a, ha⟩ : ∃ a, (L (cd 5))[s]? = some a := ⟨_, List.getElem?_eq_getElem (by omega)⟩
    rw [lg_take ha, List.foldl_append]
    generalize ((L (cd 5)).take s).foldl (c_bk A (L (cd 9))) (I, R, 0) = S at h1 h2
    have e : [a].foldl (c_bk A (L (cd 9))) S = c_bk A (L (cd 9)) S a := rfl
    have e2 : o_bk Z M (s + 1) = if o_goes Z (o_bk Z M s).2 s = true then ((o_bk Z M s).1 + 1, o_back (o_bk Z M s).2 s) else o_bk Z M s := rfl
    have ho := q_out h1 ha
    rw [e, e2]
    unfold c_bk
    rw [ho]
    by_cases c : o_goes Z (o_bk Z M s).2 s = true
    · rw [if_pos c, if_pos c]
      obtain ⟨ph, w9, d9, n, is9, came, b1, b2, b3, b4, b5, b6, b7, b8, b9, b10, b11, -⟩ := h1.2.2.2.2.2.1.2.2.2.1 s a ha
      have hn0 : n ≠ 0 := fun z => by
        unfold o_goes at c
        rw [b11, z] at c
        exact absurd c (by simp [nI_0])
      exact ⟨q_back h1 ha b11 hn0 b2.2.2.2.2.2.2.2.2.1, by show S.2.2 + 1 = _; rw [h2]⟩
    · rw [if_neg c, if_neg c]
      exact ⟨h1, h2⟩
theorem q_shps (hs : c_sim K I R N A L T x cd Z M) : ∀ a, a ∈ L (cd 5) → c_shp K R N I A a := fun a ha => by
  have hel0 := q_el0 hs
  obtain ⟨s, ph, w9, d9, n, is9, came, b1, b2, b3, b4, b5, b6, b7, b8, b9, b10, b11, -⟩ := q_el hs.2.2.2.2.2.1.2.2.2.1 a ha
  exact ⟨ph, w9, d9, n, is9, came, b1, b2, b3, hel0 is9 (List.mem_of_getElem? b4), b6, hel0 came b7, b8, b9⟩
theorem q_struck (hs : c_sim K I R N A L T x cd Z M) {f b : Nat} (hb : (L (cd 1))[f]? = some b) {I2 : Nat → Nat → Int32} {L2 : Nat → List Nat} (hI2 : ∀ g c, g ≠ 110 → I2 g c = m_up2 I 16 b 1 g c) (eL : L2 = m_up L (cd 9) ((L (cd 9)).erase b)) : c_sim K I2 R N A L2 T x cd Z (m1 M 16 f 1) := by
  have hel1 := q_el1 hs
  have hnd := q_log_nd hs
  have hps := q_ps9 hs
  obtain ⟨hok, hi, hf, hr, hsh, hfl, hty, hca, hcp⟩ := hs
  have kb : K b = 1 := hel1 b (List.mem_of_getElem? hb)
  have hc : c_chg K I R N K I2 R N (fun g c => g = 16 ∧ c = b) c_no := fun c _ _ => ⟨rfl, rfl, fun g h1 h => (hI2 g c h1).trans (if_neg h), fun _ _ _ _ => rfl, fun h => h⟩
  have mM : ∀ j, j ≠ 16 → m1 M 16 f 1 j = M j := fun j h => m1_n _ _ h
  have hLn : ∀ c, c ≠ cd 9 → L2 c = L c := fun c h => by rw [eL, m_up_ne _ _ h]
  have hL9 : L2 (cd 9) = (L (cd 9)).erase b := by rw [eL, m_up_self]
  have hnd9 : (L (cd 9)).Nodup := hr.1.nodup_iff.mpr (hnd.sublist List.filter_sublist)
  have i16 : ∀ c, c ≠ b → I2 16 c = I 16 c := fun c h => (hI2 16 c (by decide)).trans (m_up2_ne _ _ h)
  have i16b : I2 16 b = 1 := (hI2 16 b (by decide)).trans (m_up2_self _ _ _ _)
  have iN : ∀ g c, g ≠ 110 → g ≠ 16 → I2 g c = I g c := fun g c h1 h2 => (hI2 g c h1).trans (m_up2_ni _ _ h2)
  have hrow : q_row I2 R L2 cd := q_row_out hr hnd (fun a _ g hg => iN g a (fun z => absurd hg (by rw [z]; decide)) (fun z => absurd hg (by rw [z]; decide))) (hLn _ hok.2.2.2.2.2.2.2.2.2.2.2.2.2.2.2.2.2.2.2.2.2.2.2.2.2.2.2.2.2.2.2.2.2.2.2.2.2.2.2.2.2.2.2.2.2.2.2.2.2.1) (by rw [hL9]; exact List.erase_sublist) (fun a ha => by
    rw [hL9, hnd9.mem_erase_iff]
    by_cases e : a = b
    · rw [e, i16b]; exact ⟨fun z => absurd rfl z.1, fun z => absurd z.2 (by decide)⟩
    · rw [i16 a e]; exact ⟨fun _ => hps a ha, fun _ => ⟨e, ha⟩⟩) (fun a _ h1 h2 => by
    by_cases e : a = b
    · rw [e, i16b] at h2; exact absurd h2 (by decide)
    · rw [i16 a e] at h2; exact ⟨h1, h2⟩)
  have hLf : ∀ a fl, a ∈ L (cd 10) → R 51 a = some fl → L2 fl = L fl := fun a fl ha h9 => by
    obtain ⟨g, -, -, f2, b3, -, -, b6, -⟩ := q_el hsh.2.2.1 a ha
    rw [h9] at b3
    rw [Option.some.inj b3]
    exact hLn _ (b6 9 (by decide))
  refine ⟨hok, q_isl_t hi hc (fun f b z => by rw [z.1]; decide) (hLn _ hok.2.2.2.2.2.2.2.2.2.2.2.2.2.2.2.2.2.2.2.2.2.2.2.2.2.2.2.2.2.2.2.2.2.2.2.2.2.2.2.2.2.2.2.2.2.1) rfl (mM 7 (by decide)) (mM 8 (by decide)) (mM 9 (by decide)) (mM 10 (by decide)), ⟨by rw [hLn _ hok.2.2.2.2.2.2.2.2.2.2.2.2.2.2.2.2.2.2.2.2.2.2.2.2.2.2.2.2.2.2.2.2.2.2.2.2.2.2.2.2.2.2.2.2.2.2.2.2.2.1]; exact hf.1, by rw [hLn _ hok.2.2.2.2.2.2.2.2.2.2.2.2.2.2.2.2.2.2.2.2.2.2.2.2.2.2.2.2.2.2.2.2.2.2.2.2.2.2.2.2.2.2.2.2.2.2.2.2.2.1]; exact hf.2.1, fun g c hg => ?_⟩, hrow, q_shf_t hok hsh hel1 hc (fun f b z => by rw [z.1]; decide) (fun _ _ z => absurd z id) (hLn _ hok.2.2.2.2.2.2.2.2.2.2.2.2.2.2.2.2.2.2.2.2.2.2.2.2.2.2.2.2.2.2.2.2.2.2.2.2.2.2.2.2.2.2.2.2.2.2.2.2.2.1) (hLn _ (Ne.symm hok.2.2.2.2.2.2.2.2.2.2.2.2.2.2.2.2.2.2.2.2.2.2.2.2.2.2.2.2.2.2.2.2.2.2.2.2.2.2.2.2.2.2.2.2.2.2.2.2.2.2.2.2.2.2.2.2)) hLf rfl rfl rfl (mM 17 (by decide)), q_flt_t hok hfl hc (fun f b z => by rw [z.1]; decide) (fun _ _ z => absurd z.1 (by decide)) (fun _ _ z => absurd z id) (fun _ _ _ _ => rfl) (fun j c h => by rw [hLn _ hok.2.2.2.2.2.2.2.2.2.2.2.2.2.2.2.2.2.2.2.2.2.2.2.2.2.2.2.2.2.2.2.2.2.2.2.2.2.2.2.2.2.2.2.2.2.1]; exact h) (hLn _ hok.2.2.2.2.2.2.2.2.2.2.2.2.2.2.2.2.2.2.2.2.2.2.2.2.2.2.2.2.2.2.2.2.2.2.2.2.2.2.2.2.2.2.2.2.2.2.2.2.2.2.2.2.1) rfl (fun _ _ => by rw [mM 9 (by decide)]) (mM 18 (by decide)) (mM 19 (by decide)) (mM 20 (by decide)) (mM 21 (by decide)) (mM 22 (by decide)) (mM 23 (by decide)) (mM 24 (by decide)), q_typ_t hty hc (fun z => absurd z.1 (by decide)) (fun _ _ z => absurd z id) rfl rfl rfl (mM 25 (by decide)) (mM 26 (by decide)), q_cau_t hca rfl rfl (mM 32 (by decide)), hcp⟩
  rw [hLn _ hok.2.2.2.2.2.2.2.2.2.2.2.2.2.2.2.2.2.2.2.2.2.2.2.2.2.2.2.2.2.2.2.2.2.2.2.2.2.2.2.2.2.2.2.2.2.2.2.2.2.1] at hg
  obtain ⟨k, c1, c2, c3, c4, c5, c6⟩ := hf.2.2 g c hg
  rw [mM 11 (by decide), mM 12 (by decide), mM 13 (by decide), mM 14 (by decide), mM 15 (by decide), iN 10 c (by decide) (by decide), iN 11 c (by decide) (by decide), iN 12 c (by decide) (by decide), iN 13 c (by decide) (by decide), m1_at, hLn _ hok.2.2.2.2.2.2.2.2.2.2.2.2.2.2.2.2.2.2.2.2.2.2.2.2.2.2.2.2.2.2.2.2.2.2.2.2.2.2.2.2.2.2.2.2.2.2.2.2.2.2.2.2.1, hLn _ (Ne.symm hok.2.2.2.2.2.2.2.2.2.2.2.2.2.2.2.2.2.2.2.2.2.2.2.2.2.2.2.2.2.2.2.2.2.2.2.2.2.2.2.2.2.2.2.2.2.2.2.2.2.2.2.2.2.2.2.2)]
  have es : q_sgo I2 (L (cd 10)) (M 14 g) = q_sgo I (L (cd 10)) (M 14 g) := q_sgo_t (fun a _ => iN 50 a (by decide) (by decide)) _
  rw [es]
  refine ⟨k, c1, c2, c3, c4, ?_, c6⟩
  by_cases e : g = f
  · rw [e] at hg
    obtain rfl : b = c := Option.some.inj (hb.symm.trans hg)
    rw [if_pos e, i16b]
  · rw [if_neg e, i16 c (fun z => e (c_nd hnd (by rw [← z]; exact hg) hb))]
    exact c5
end
