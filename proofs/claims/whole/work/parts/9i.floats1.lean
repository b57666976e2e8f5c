/-! finite facts on floats, by reckoning -/
set_option maxRecDepth 100000 in
theorem f_wt : ∀ ni, ni ≤ 12 → ∀ h, h ≤ ni → ((FP.fdiv (FP.i2f (nI ni)) (FP.i2f (1 + nI h))) &&& 0x7fffffff ≤ 0x7f800000 ∧ (o_wt ni h) &&& 0x7fffffff ≤ 0x7f800000) ∧ (FP.f2d (o_wt ni h)) &&& 0x7fffffffffffffff ≤ 0x7ff0000000000000 ∧ Op.cmpValue (FP.dcmp (FP.f2d (o_wt ni h)) (FP.f2d (o_wt ni h))) .l = 0 := by decide +kernel
set_option maxRecDepth 100000 in
theorem f_sh : ∀ nf, nf ≤ 120 → ∀ a, a ≤ nf → 0 < nf → (FP.fdiv (FP.i2f (nI a)) (FP.i2f (nI nf))) &&& 0x7fffffff ≤ 0x7f800000 ∧ (FP.f2d (FP.fdiv (FP.i2f (nI a)) (FP.i2f (nI nf)))) &&& 0x7fffffffffffffff ≤ 0x7ff0000000000000 ∧ Op.cmpValue (FP.dcmp (FP.f2d (FP.fdiv (FP.i2f (nI a)) (FP.i2f (nI nf)))) (FP.f2d (FP.fdiv (FP.i2f (nI a)) (FP.i2f (nI nf))))) .l = 0 := by decide +kernel
set_option maxRecDepth 100000 in
theorem f_mn : ∀ a, a ≤ 120 → ∀ k, k ≤ 20 → 0 < k → (FP.ddiv (FP.i2d (nI a)) (FP.i2d (nI k))) &&& 0x7fffffffffffffff ≤ 0x7ff0000000000000 ∧ Op.cmpValue (FP.dcmp (FP.ddiv (FP.i2d (nI a)) (FP.i2d (nI k))) (FP.ddiv (FP.i2d (nI a)) (FP.i2d (nI k)))) .l = 0 := by decide +kernel
theorem f_d0 : Op.cmpValue (FP.dcmp (FP.dconst0) (FP.dconst0)) .l = 0 := by decide +kernel
set_option maxRecDepth 100000 in
theorem g_wt : ∀ ni, ni ≤ 12 → ∀ h, h ≤ ni → (o_wt ni h).toNat < 131 * 2 ^ 23 ∧ 1065353216 ≤ (o_wt ni h).toNat := by decide +kernel
