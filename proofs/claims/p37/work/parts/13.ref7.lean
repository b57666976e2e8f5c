def t_b (b : Bool) : Int32 := if b = true then 0 else 1
def o_far (M : mM) (s t : Nat) : Int32 := (M 7 t - M 7 (M 18 s).toNatClampNeg) * (M 7 t - M 7 (M 18 s).toNatClampNeg) + (M 8 t - M 8 (M 18 s).toNatClampNeg) * (M 8 t - M 8 (M 18 s).toNatClampNeg)
def o_pay (M : mM) (s : Nat) (c : Int32) : Int32 := if c < M 19 s then c else M 19 s
def o_rt (n : Nat) : Nat → Nat
  | 0 => 0
  | k + 1 => if (k + 1) * (k + 1) ≤ n then k + 1 else o_rt n k
theorem o_rt_eq {n i : Nat} (h1 : i * i ≤ n) (h2 : n < (i + 1) * (i + 1)) : ∀ k, i ≤ k → o_rt n k = i
  | 0, h => by
    have : i = 0 := by omega
    subst this
    rfl
  | k + 1, h => by
    simp only [o_rt]
    by_cases hk : i = k + 1
    · subst hk; rw [if_pos h1]
    · have h3 : (i + 1) * (i + 1) ≤ (k + 1) * (k + 1) := Nat.mul_le_mul (by omega) (by omega)
      rw [if_neg (by omega)]
      exact o_rt_eq h1 h2 k (by omega)
def o_root (n : Nat) : Nat := o_rt n n
theorem o_root_eq {n i : Nat} (h1 : i * i ≤ n) (h2 : n < (i + 1) * (i + 1)) : o_root n = i := by
  refine o_rt_eq h1 h2 n ?_
  cases i with
  | zero => omega
  | succ i => exact Nat.le_trans (Nat.le_mul_of_pos_left _ (by omega)) h1
