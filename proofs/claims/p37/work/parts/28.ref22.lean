theorem o_ways_congr {a a' : Nat → Nat → Nat} {g g' : Nat → Nat} : ∀ {K : Nat}, (∀ k, k ≤ K → ∀ p, a k p = a' k p) → (∀ k, 1 ≤ k → k ≤ K → g k = g' k) → ∀ p, o_ways a g K p = o_ways a' g' K p
  | 0, ha, _, p => ha 0 (Nat.le_refl _) p
  | K + 1, ha, hg, p => by
    have ih := o_ways_congr (K := K) (fun k hk => ha k (by omega)) (fun k h1 hk => hg k h1 (by omega))
    simp only [o_ways]
    rw [ha (K + 1) (Nat.le_refl _) p, hg (K + 1) (by omega) (Nat.le_refl _)]
    have e : o_win (o_ways a g K) p (g' (K + 1)) = o_win (o_ways a' g' K) p (g' (K + 1)) := sumN_congr (fun k _ => ih _)
    rw [e]
theorem o_askK_27 (S : mS) {n k sh : Nat} (h : S.2 22 sh = nI n) (hn : n ≤ 4) (hk : k < n) : (o_askK S sh).2 27 k = S.2 23 (4 * sh + k) := by
  unfold o_askK
  dsimp only
  rw [mset_n _ _ (by decide), mset_s, h, nI_clamp (by omega)]
  exact if_pos hk
theorem o_at_of {M M' : mM} (h11 : M' 11 = M 11) (h12 : M' 12 = M 12) (h13 : M' 13 = M 13) (h14 : M' 14 = M 14) (h16 : M' 16 = M 16) (nf : Nat) (wd isl pl : Int32) : o_at M' nf wd isl pl = o_at M nf wd isl pl := by
  unfold o_at o_pst
  rw [h11, h12, h13, h14, h16]
theorem o_askK_n (S : mS) (sh : Nat) {j : Nat} (h : j ≠ 27) (h8 : j ≠ 28) : (o_askK S sh).2 j = S.2 j := (mset_n _ _ h8).trans (mset_n _ _ h)
/-- the hits of a ship's map rest on the finds, its kept map and its place alone -/
theorem o_still_eq {Z Z' : mZ} {M M' : mM} {sh n : Nat} (hz : Z' 1 = Z 1) (hj : ∀ j, 11 ≤ j → j ≤ 24 → j ≠ 15 → j ≠ 17 → j ≠ 18 → j ≠ 19 → j ≠ 20 → j ≠ 21 → j ≠ 22 → M' j = M j) (h18 : M' 18 sh = M 18 sh) (h22 : M' 22 sh = M 22 sh) (hn : M 22 sh = nI n) (h1 : 1 ≤ n) (h4 : n ≤ 4) : o_still Z' M' sh = o_still Z M sh := by
  have hn' : M' 22 sh = nI n := h22.trans hn
  have ez : zn (o_askK (Z, M) sh).1 30 = n := zn_of (o_askK_30 (Z, M) hn) (by omega)
  have ez' : zn (o_askK (Z', M') sh).1 30 = n := zn_of (o_askK_30 (Z', M') hn') (by omega)
  have e1 : zn (o_askK (Z', M') sh).1 1 = zn (o_askK (Z, M) sh).1 1 := by
    unfold zn
    rw [show (o_askK (Z', M') sh).1 1 = Z' 1 from z1_n Z' (i := 1) (j := 30) (M' 22 sh) (by decide), show (o_askK (Z, M) sh).1 1 = Z 1 from z1_n Z (i := 1) (j := 30) (M 22 sh) (by decide), hz]
  have hA : ∀ j, 11 ≤ j → j ≤ 16 → j ≠ 15 → (o_askK (Z', M') sh).2 j = (o_askK (Z, M) sh).2 j := fun j a b c => by
    rw [o_askK_n _ _ (by omega) (by omega), o_askK_n _ _ (by omega) (by omega)]
    exact hj j a (by omega) c (by omega) (by omega) (by omega) (by omega) (by omega) (by omega)
  unfold o_still o_hitsOn
  rw [ez, ez', e1, h18]
  unfold o_hits
  refine sumN_congr (fun p _ => o_ways_congr (fun k hk p => ?_) (fun k h1 hk => ?_) p)
  · rw [o_askK_27 (Z', M') hn' h4 (by omega), o_askK_27 (Z, M) hn h4 (by omega), show (Z', M').2 23 = (Z, M).2 23 from hj 23 (by omega) (by omega) (by omega) (by omega) (by omega) (by omega) (by omega) (by omega) (by omega)]
    exact o_at_of (hA 11 (by omega) (by omega) (by omega)) (hA 12 (by omega) (by omega) (by omega)) (hA 13 (by omega) (by omega) (by omega)) (hA 14 (by omega) (by omega) (by omega)) (hA 16 (by omega) (by omega) (by omega)) _ _ _ _
  · rw [o_askK_28 (Z', M') hn' h4 (by omega), o_askK_28 (Z, M) hn h4 (by omega), show (Z', M').2 24 = (Z, M).2 24 from hj 24 (by omega) (by omega) (by omega) (by omega) (by omega) (by omega) (by omega) (by omega) (by omega)]
def o_back (M : mM) (s : Nat) : mM := m1 (m1 (m1 (if M 21 s = -1 then M else m1 (m1 M 19 s (M 19 s - o_pay M s (M 21 s))) 10 (M 18 s).toNatClampNeg 0) 21 s (-1)) 18 s (M 20 s)) 22 s 0
def o_goes (Z : mZ) (M : mM) (s : Nat) : Bool := !decide (M 22 s = 0) && decide (o_still Z M s = 0)
def o_bk (Z : mZ) (M : mM) : Nat → Nat × mM
  | 0 => (0, M)
  | s + 1 => if o_goes Z (o_bk Z M s).2 s = true then ((o_bk Z M s).1 + 1, o_back (o_bk Z M s).2 s) else o_bk Z M s
def t_strike (Z : mZ) (M : mM) (v : Int32) : Int32 := if o_rng v 0 (Z 1 - 1) = true then (if M 16 v.toNatClampNeg = 0 then 0 else 2) else 1
def o_fine (M : mM) (f : Nat) : mM := if M 15 f = -1 then M else m1 M 19 (M 15 f).toNatClampNeg (M 19 (M 15 f).toNatClampNeg - o_pay M (M 15 f).toNatClampNeg 10)
def p_strike (Z : mZ) (M : mM) (f : Nat) : Nat × mM := o_bk Z (o_fine (m1 M 16 f 1) f) (zn Z 2)
theorem o_back_n (M : mM) (s : Nat) {j : Nat} (h0 : j ≠ 10) (h8 : j ≠ 18) (h9 : j ≠ 19) (h1 : j ≠ 21) (h2 : j ≠ 22) : o_back M s j = M j := by
  unfold o_back
  rw [m1_n _ _ h2, m1_n _ _ h8, m1_n _ _ h1]
  split
  · rfl
  · rw [m1_n _ _ h0, m1_n _ _ h9]
theorem m1_k (M : mM) (j k : Nat) (v : Int32) {i k' : Nat} (h : k' ≠ k) : m1 M j k v i k' = M i k' := by
  unfold m1
  split
  · rename_i e; subst e; exact if_neg h
  · rfl
theorem o_back_k (M : mM) (s : Nat) {j k : Nat} (hj : j ≠ 10) (hk : k ≠ s) : o_back M s j k = M j k := by
  unfold o_back
  rw [m1_k _ _ _ _ hk, m1_k _ _ _ _ hk, m1_k _ _ _ _ hk]
  split
  · rfl
  · rw [m1_n _ _ hj, m1_k _ _ _ _ hk]
theorem o_bk_n (Z : mZ) (M : mM) {j : Nat} (h0 : j ≠ 10) (h8 : j ≠ 18) (h9 : j ≠ 19) (h1 : j ≠ 21) (h2 : j ≠ 22) : ∀ s, (o_bk Z M s).2 j = M j
  | 0 => rfl
  | s + 1 => by
    simp only [o_bk]
    split
    · exact (o_back_n _ _ h0 h8 h9 h1 h2).trans (o_bk_n Z M h0 h8 h9 h1 h2 s)
    · exact o_bk_n Z M h0 h8 h9 h1 h2 s
theorem o_bk_k (Z : mZ) (M : mM) {j k : Nat} (h0 : j ≠ 10) : ∀ s, s ≤ k → (o_bk Z M s).2 j k = M j k
  | 0, _ => rfl
  | s + 1, h => by
    simp only [o_bk]
    split
    · exact (o_back_k _ _ h0 (by omega)).trans (o_bk_k Z M h0 s (by omega))
    · exact o_bk_k Z M h0 s (by omega)
theorem o_bk_le (Z : mZ) (M : mM) : ∀ s, (o_bk Z M s).1 ≤ s
  | 0 => Nat.le_refl _
  | s + 1 => by
    have := o_bk_le Z M s
    simp only [o_bk]
    split
    · exact Nat.succ_le_succ this
    · omega
theorem o_fine_n (M : mM) (f : Nat) {j : Nat} (h : j ≠ 19) : o_fine M f j = M j := by
  unfold o_fine
  split
  · rfl
  · exact m1_n _ _ h
