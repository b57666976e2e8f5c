/-- what a ship's slots hold -/
def o_shW (M : mM) (s : Nat) : Prop := (∃ q, q < 12 ∧ M 18 s = nI q) ∧ ∃ n, n ≤ 4 ∧ M 22 s = nI n ∧ ∀ k, 1 ≤ k → k < n → ∃ g, g ≤ 9 ∧ M 24 (4 * s + k) = nI g
theorem o_sc_m1 {Z Z' : mZ} {M M' : mM} (h : o_sc (Z, M) (Z', M')) (j k : Nat) (v : Int32) : o_sc (Z, m1 M j k v) (Z', m1 M' j k v) := by
  refine ⟨h.1, fun i a b c d => ?_⟩
  have h9 := h.2 i a b c d
  show m1 M' j k v i = m1 M j k v i
  unfold m1
  split
  · rw [show M' i = M i from h9]
  · exact h9
def o_digs (Z : mZ) (M : mM) (s : Nat) : Bool := decide (0 < M 22 s) && (decide (M 10 (M 18 s).toNatClampNeg = 0) && decide (0 < o_still Z M s))
def t_dig (Z : mZ) (M : mM) (v : Int32) : Int32 := if o_shp Z v = true then (if o_digs Z M v.toNatClampNeg = true then 0 else 2) else 1
def p_dig (M : mM) (s : Nat) : mM := m1 (m1 (m1 M 10 (M 18 s).toNatClampNeg 1) 21 s (M 9 (M 18 s).toNatClampNeg)) 19 s (M 19 s + M 9 (M 18 s).toNatClampNeg)
