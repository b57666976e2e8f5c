/-- the class's choices by a ship's map are the reference's -/
theorem q_hitK {K : Nat → Nat} {I : Nat → Nat → Int32} {R : Nat → Nat → Option Nat} {N : Nat → Nat} {A : Nat → Nat → Int32} {L : Nat → List Nat} {T : Nat → List Int32} {x : Nat} {cd : Nat → Nat} {Z : mZ} {M : mM} (h : c_sim K I R N A L T x cd Z M) {s w9 d9 n : Nat} (hz : M 22 s = nI n) (hn : n ≠ 0) (h4 : n ≤ 4) (h3 : ∀ k, k < n → A w9 k = M 23 (4 * s + k)) (hg : ∀ k, 1 ≤ k → k < n → A d9 k = M 24 (4 * s + k)) (isl : Int32) : c_hit I R A (L (cd 9)) w9 d9 n isl = o_hitsOn (o_askK (Z, M) s).1 (o_askK (Z, M) s).2 isl := by
  rw [q_hit h (W := fun k => M 23 (4 * s + k)) (Gp := fun k => M 24 (4 * s + k)) hn h3 hg]
  have hl := h.2.2.1.2.1
  have h1 : zn (o_askK (Z, M) s).1 1 = (L (cd 1)).length := by
    show zn (z1 Z 30 (M 22 s)) 1 = _
    exact zn_of ((z1_n _ _ (by decide)).trans h.2.2.1.1) (by omega)
  have h30 : zn (o_askK (Z, M) s).1 30 = n := by
    show zn (z1 Z 30 (M 22 s)) 30 = _
    exact zn_of ((z1_s _ _ _).trans hz) (by omega)
  have hc : (M 22 s).toNatClampNeg = n := by rw [hz, nI_clamp (by omega)]
  have e27 : ∀ k, k < n → (o_askK (Z, M) s).2 27 k = M 23 (4 * s + k) := fun k hk => by
    unfold o_askK
    dsimp only
    rw [mset_n _ _ (by decide), mset_s, hc]
    exact if_pos hk
  have e28 : ∀ k, k < n → (o_askK (Z, M) s).2 28 k = M 24 (4 * s + k) := fun k hk => by
    unfold o_askK
    dsimp only
    rw [mset_s, hc]
    exact if_pos hk
  have eo : ∀ j, j ≠ 27 → j ≠ 28 → (o_askK (Z, M) s).2 j = M j := fun j a b => (mset_n _ _ b).trans (mset_n _ _ a)
  unfold o_hitsOn o_hits
  rw [h1, h30]
  refine sumN_congr (fun p _ => o_ways_congr (fun k hk p => ?_) (fun k h1 hk => ?_) p)
  · show o_at M _ (M 23 (4 * s + k)) isl (nI p) = o_at (o_askK (Z, M) s).2 _ ((o_askK (Z, M) s).2 27 k) isl (nI p)
    rw [e27 k (by omega)]
    unfold o_at o_pst
    rw [eo 11 (by decide) (by decide), eo 12 (by decide) (by decide), eo 13 (by decide) (by decide), eo 14 (by decide) (by decide), eo 16 (by decide) (by decide)]
  · show (M 24 (4 * s + k)).toNatClampNeg = ((o_askK (Z, M) s).2 28 k).toNatClampNeg
    rw [e28 k (by omega)]
