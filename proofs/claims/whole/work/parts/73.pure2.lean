section
variable {K : Nat → Nat} {I : Nat → Nat → Int32} {R : Nat → Nat → Option Nat} {N : Nat → Nat} {A : Nat → Nat → Int32} {L : Nat → List Nat} {T : Nat → List Int32} {x : Nat} {cd : Nat → Nat} {Z : mZ} {M : mM}
theorem q_som (h : c_sim K I R N A L T x cd Z M) {f a : Nat} (ha : (L (cd 1))[f]? = some a) : (R 15 a).isSome = !decide (M 14 f = -1) := by
  obtain ⟨-, -, -, -, -, -, -, -, h1, h2, -⟩ := h.2.2.1.2.2 f a ha
  by_cases e : M 14 f = -1
  · rw [h1, decide_eq_true e]
    unfold q_sgo
    rw [if_pos e]
    rfl
  · rw [decide_eq_false e]
    cases hr : R 15 a with
    | none => exact absurd hr (h2.resolve_left e)
    | some v => rfl
/-- a posting of the class is a posting of (Z, M) -/
theorem q_pw (h : c_sim K I R N A L T x cd Z M) {f a : Nat} (ha : (L (cd 1))[f]? = some a) (w : Int32) : c_pw I R w a = o_pst M f w := by
  have h1 := h.2.2.1.2.2 f a ha
  unfold c_pw o_pst
  rw [h1.2.2.1, h1.2.2.2.2.2.1, q_som h ha]
theorem q_at (h : c_sim K I R N A L T x cd Z M) (w isl : Int32) (p : Nat) : (L (cd 9)).countP (c_at I R w isl p) = o_at M (L (cd 1)).length w isl (nI p) := by
  rw [q_cnt9 h (fun a ha => by unfold c_at at ha; rw [Bool.and_eq_true] at ha; exact q_pwb ha.1), ← cnt_list]
  unfold o_at
  refine cntB_congr (fun j hj => ?_)
  have ha : (L (cd 1))[j]? = some ((L (cd 1)).getD j 0) := by
    rw [List.getD_eq_getElem?_getD, List.getElem?_eq_getElem hj]
    rfl
  have h1 := h.2.2.1.2.2 j _ ha
  unfold c_at
  rw [q_pw h ha, h1.2.2.2.1, h1.2.2.2.2.1]
/-- the choices by a phrase whose words and gaps are W and Gp -/
theorem q_hit (h : c_sim K I R N A L T x cd Z M) {w9 d9 n : Nat} {W Gp : Nat → Int32} (hn : n ≠ 0) (hW : ∀ k, k < n → A w9 k = W k) (hG : ∀ k, 1 ≤ k → k < n → A d9 k = Gp k) (isl : Int32) : c_hit I R A (L (cd 9)) w9 d9 n isl = o_hits (fun k p => o_at M (L (cd 1)).length (W k) isl (nI p)) (fun k => (Gp k).toNatClampNeg) n := by
  unfold c_hit o_hits
  rw [if_neg hn]
  refine sumN_congr (fun p _ => o_ways_congr (fun k hk p => ?_) (fun k h1 hk => ?_) p)
  · unfold c_cnt
    rw [hW k (by omega)]
    exact q_at h _ _ _
  · show (A d9 k).toNatClampNeg = _
    rw [hG k h1 (by omega)]
theorem q_hitT (h : c_sim K I R N A L T x cd Z M) {n : Nat} (hz : Z 29 = nI n) (hn : n ≠ 0) (h4 : n ≤ 4) (h3 : ∀ k, k < n → A (cd 13) k = M 25 k) (hg : ∀ k, 1 ≤ k → k < n → A (cd 14) k = M 26 k) (isl : Int32) : c_hit I R A (L (cd 9)) (cd 13) (cd 14) n isl = o_hitT Z M isl := by
  rw [q_hit h hn h3 hg]
  have hzn : zn Z 29 = n := zn_of hz (by omega)
  have hl := h.2.2.1.2.1
  have h1 : zn (o_askT (Z, M)).1 1 = (L (cd 1)).length := by
    show zn (z1 Z 30 (Z 29)) 1 = _
    exact zn_of ((z1_n _ _ (by decide)).trans h.2.2.1.1) (by omega)
  have h30 : zn (o_askT (Z, M)).1 30 = n := by
    show zn (z1 Z 30 (Z 29)) 30 = _
    exact zn_of ((z1_s _ _ _).trans hz) (by omega)
  have e27 : ∀ k, k < n → (o_askT (Z, M)).2 27 k = M 25 k := fun k hk => by
    unfold o_askT
    dsimp only
    rw [mset_n _ _ (by decide), mset_s, hzn]
    exact if_pos hk
  have e28 : ∀ k, k < n → (o_askT (Z, M)).2 28 k = M 26 k := fun k hk => by
    unfold o_askT
    dsimp only
    rw [mset_s, hzn]
    exact if_pos hk
  have eo : ∀ j, j ≠ 27 → j ≠ 28 → (o_askT (Z, M)).2 j = M j := fun j a b => (mset_n _ _ b).trans (mset_n _ _ a)
  unfold o_hitT o_hitsOn o_hits
  rw [h1, h30]
  refine sumN_congr (fun p _ => o_ways_congr (fun k hk p => ?_) (fun k h1 hk => ?_) p)
  · show o_at M _ (M 25 k) isl (nI p) = o_at (o_askT (Z, M)).2 _ ((o_askT (Z, M)).2 27 k) isl (nI p)
    rw [e27 k (by omega)]
    unfold o_at o_pst
    rw [eo 11 (by decide) (by decide), eo 12 (by decide) (by decide), eo 13 (by decide) (by decide), eo 14 (by decide) (by decide), eo 16 (by decide) (by decide)]
  · show (M 26 k).toNatClampNeg = ((o_askT (Z, M)).2 28 k).toNatClampNeg
    rw [e28 k (by omega)]
/-- the postings of a word -/
theorem q_pst (h : c_sim K I R N A L T x cd Z M) (w : Int32) : (L (cd 9)).countP (c_pw I R w) = cntB (fun f => o_pst M f w) (L (cd 1)).length := by
  rw [q_cnt9 h (fun a ha => q_pwb ha), ← cnt_list]
  refine cntB_congr (fun j hj => ?_)
  have ha : (L (cd 1))[j]? = some ((L (cd 1)).getD j 0) := by
    rw [List.getD_eq_getElem?_getD, List.getElem?_eq_getElem hj]
    rfl
  exact q_pw h ha w
end
