/-- the sum of the weights of the words that are asked -/
def o_sumW (wt : Nat → UInt32) : Nat → UInt32
  | 0 => FP.fconst0
  | n + 1 => FP.fadd (o_sumW wt n) (wt n)
def o_askW (M : mM) (nf ni : Nat) : Nat → UInt32 := fun k => o_wt ni (o_has M nf ni (M 27 k))
def o_score (Z : mZ) (M : mM) (nf ni na : Nat) (isl : Int32) : UInt32 := FP.fmul (o_sumW (o_askW M nf ni) na) (FP.i2f (nI (o_hitsOn Z M isl)))
/-- no operation of the score of any island is not a number -/
def o_nan (Z : mZ) (M : mM) (nf ni na : Nat) : Prop := (∀ h, h ≤ ni → vf_n32 (FP.fdiv (FP.i2f (nI ni)) (FP.i2f (1 + nI h))) ∧ vf_n32 (o_wt ni h)) ∧ (∀ k, k < na → vf_n32 (FP.fadd (o_sumW (o_askW M nf ni) k) (o_askW M nf ni k))) ∧ ∀ isl, vf_n32 (o_score Z M nf ni na isl)
