theorem g_fin {x : UInt32} {K : Nat} (h : x.toNat % 2 ^ 31 < K * 2 ^ 23) (hK : K ≤ 255) : Jvm.FP.Core.FFin x := by
  rw [Jvm.FP.Core.fin_bits32]; omega
theorem g_nn {x : UInt32} (h : Jvm.FP.Core.FFin x) : Jvm.FP.Core.val32 x ≠ .nan := by
  obtain ⟨s, c, q, e⟩ := h
  rw [e]; exact fun z => nomatch z
theorem g_n32 {x : UInt32} (h : Jvm.FP.Core.FFin x) : vf_n32 x := by
  rw [Jvm.FP.Core.fin_bits32] at h
  unfold vf_n32
  rw [UInt32.le_iff_toNat_le, UInt32.toNat_and]
  show x.toNat &&& (2 ^ 31 - 1) ≤ 2139095040
  rw [Nat.and_two_pow_sub_one_eq_mod]
  omega
theorem g_cmp0 {x y : UInt32} (hx : Jvm.FP.Core.FFin x) (hy : Jvm.FP.Core.FFin y) : o_cmp x y = 0 ↔ Jvm.FP.Core.zval Jvm.FP.Core.b32 (Jvm.FP.Core.val32 x) = Jvm.FP.Core.zval Jvm.FP.Core.b32 (Jvm.FP.Core.val32 y) := by
  unfold o_cmp
  rw [show FP.fcmp x y = _ from Jvm.FP.Core.fcmp_zval (g_nn hx) (g_nn hy)]
  rw [Jvm.FP.Core.compare_ite]
  constructor
  · intro h
    by_cases a : Jvm.FP.Core.zval Jvm.FP.Core.b32 (Jvm.FP.Core.val32 x) < Jvm.FP.Core.zval Jvm.FP.Core.b32 (Jvm.FP.Core.val32 y)
    · rw [if_pos a] at h; exact absurd h (by decide)
    · rw [if_neg a] at h
      by_cases b : Jvm.FP.Core.zval Jvm.FP.Core.b32 (Jvm.FP.Core.val32 x) = Jvm.FP.Core.zval Jvm.FP.Core.b32 (Jvm.FP.Core.val32 y)
      · exact b
      · rw [if_neg b] at h; exact absurd h (by decide)
  · intro h
    rw [if_neg (by omega), if_pos h]; rfl
theorem g_cmpP {x y : UInt32} (hx : Jvm.FP.Core.FFin x) (hy : Jvm.FP.Core.FFin y) : 0 < o_cmp x y ↔ Jvm.FP.Core.zval Jvm.FP.Core.b32 (Jvm.FP.Core.val32 y) < Jvm.FP.Core.zval Jvm.FP.Core.b32 (Jvm.FP.Core.val32 x) := by
  unfold o_cmp
  rw [show FP.fcmp x y = _ from Jvm.FP.Core.fcmp_zval (g_nn hx) (g_nn hy)]
  rw [Jvm.FP.Core.compare_ite]
  constructor
  · intro h
    by_cases a : Jvm.FP.Core.zval Jvm.FP.Core.b32 (Jvm.FP.Core.val32 x) < Jvm.FP.Core.zval Jvm.FP.Core.b32 (Jvm.FP.Core.val32 y)
    · rw [if_pos a] at h; exact absurd h (by decide)
    · rw [if_neg a] at h
      by_cases b : Jvm.FP.Core.zval Jvm.FP.Core.b32 (Jvm.FP.Core.val32 x) = Jvm.FP.Core.zval Jvm.FP.Core.b32 (Jvm.FP.Core.val32 y)
      · rw [if_pos b] at h; exact absurd h (by decide)
      · omega
  · intro h
    rw [if_neg (by omega), if_neg (by omega)]; decide
theorem g_cmpN {x y : UInt32} (hx : Jvm.FP.Core.FFin x) (hy : Jvm.FP.Core.FFin y) : o_cmp x y < 0 ↔ Jvm.FP.Core.zval Jvm.FP.Core.b32 (Jvm.FP.Core.val32 x) < Jvm.FP.Core.zval Jvm.FP.Core.b32 (Jvm.FP.Core.val32 y) := by
  unfold o_cmp
  rw [show FP.fcmp x y = _ from Jvm.FP.Core.fcmp_zval (g_nn hx) (g_nn hy)]
  rw [Jvm.FP.Core.compare_ite]
  constructor
  · intro h
    by_cases a : Jvm.FP.Core.zval Jvm.FP.Core.b32 (Jvm.FP.Core.val32 x) < Jvm.FP.Core.zval Jvm.FP.Core.b32 (Jvm.FP.Core.val32 y)
    · exact a
    · rw [if_neg a] at h
      by_cases b : Jvm.FP.Core.zval Jvm.FP.Core.b32 (Jvm.FP.Core.val32 x) = Jvm.FP.Core.zval Jvm.FP.Core.b32 (Jvm.FP.Core.val32 y)
      · rw [if_pos b] at h; exact absurd h (by decide)
      · rw [if_neg b] at h; exact absurd h (by decide)
  · intro h
    rw [if_pos h]; decide
theorem g_self {x : UInt32} (hx : Jvm.FP.Core.FFin x) : o_self x := (g_cmp0 hx hx).mpr rfl
theorem g_key {x y : UInt32} (hx : Jvm.FP.Core.FFin x) (hy : Jvm.FP.Core.FFin y) : Jvm.FP.Core.fkey x < Jvm.FP.Core.fkey y ↔ Jvm.FP.Core.zval Jvm.FP.Core.b32 (Jvm.FP.Core.val32 x) < Jvm.FP.Core.zval Jvm.FP.Core.b32 (Jvm.FP.Core.val32 y) := by
  have h := (Jvm.FP.Core.fcmp_zval (g_nn hx) (g_nn hy)).symm.trans (Jvm.FP.Core.fcmp_key (g_nn hx) (g_nn hy))
  rw [Jvm.FP.Core.compare_ite, Jvm.FP.Core.compare_ite] at h
  by_cases a : Jvm.FP.Core.zval Jvm.FP.Core.b32 (Jvm.FP.Core.val32 x) < Jvm.FP.Core.zval Jvm.FP.Core.b32 (Jvm.FP.Core.val32 y)
  · rw [if_pos a] at h
    by_cases b : Jvm.FP.Core.fkey x < Jvm.FP.Core.fkey y
    · exact ⟨fun _ => a, fun _ => b⟩
    · rw [if_neg b] at h
      split at h <;> cases h
  · rw [if_neg a] at h
    by_cases b : Jvm.FP.Core.fkey x < Jvm.FP.Core.fkey y
    · rw [if_pos b] at h
      split at h <;> cases h
    · exact ⟨fun z => absurd z b, fun z => absurd z a⟩
theorem g_one : Jvm.FP.Core.FFin FP.fconst1 := by rw [Jvm.FP.Core.fin_bits32]; decide
theorem g_zero : Jvm.FP.Core.FFin FP.fconst0 := by rw [Jvm.FP.Core.fin_bits32]; decide
theorem g_two : Jvm.FP.Core.FFin FP.fconst2 := by rw [Jvm.FP.Core.fin_bits32]; decide
theorem g_z1 : Jvm.FP.Core.zval Jvm.FP.Core.b32 (Jvm.FP.Core.val32 FP.fconst1) = (2 ^ 149 : Nat) := by decide +kernel
theorem g_z0 : Jvm.FP.Core.zval Jvm.FP.Core.b32 (Jvm.FP.Core.val32 FP.fconst0) = 0 := by decide +kernel
theorem g_key_nn {x : UInt32} (h : x.toNat < 2 ^ 31) : Jvm.FP.Core.fkey x = x.toNat := by unfold Jvm.FP.Core.fkey; rw [if_neg (by omega)]
theorem g_ge1 {x : UInt32} (hx : Jvm.FP.Core.FFin x) (h1 : 1065353216 ≤ x.toNat) (h2 : x.toNat < 2 ^ 31) : ((2 ^ 149 : Nat) : Int) ≤ Jvm.FP.Core.zval Jvm.FP.Core.b32 (Jvm.FP.Core.val32 x) := by
  rw [← g_z1]
  have h := g_key hx g_one
  rw [g_key_nn h2, g_key_nn (show FP.fconst1.toNat < 2 ^ 31 by decide +kernel)] at h
  have : ¬ ((x.toNat : Int) < (FP.fconst1.toNat : Int)) := by
    rw [show FP.fconst1.toNat = 1065353216 from by decide +kernel]; omega
  exact Int.not_lt.mp (fun z => this (h.mpr z))
/-- a sum of weights -/
theorem g_sum {w : Nat → UInt32} (hw : ∀ k, Jvm.FP.Core.FFin (w k) ∧ (w k).toNat % 2 ^ 31 < 131 * 2 ^ 23 ∧ ((2 ^ 149 : Nat) : Int) ≤ Jvm.FP.Core.zval Jvm.FP.Core.b32 (Jvm.FP.Core.val32 (w k))) : ∀ n, n ≤ 5 → (o_sumW w n).toNat % 2 ^ 31 < (131 + 2 * n) * 2 ^ 23 ∧ 0 ≤ Jvm.FP.Core.zval Jvm.FP.Core.b32 (Jvm.FP.Core.val32 (o_sumW w n)) ∧ (0 < n → ((2 ^ 149 : Nat) : Int) ≤ Jvm.FP.Core.zval Jvm.FP.Core.b32 (Jvm.FP.Core.val32 (o_sumW w n)))
  | 0, _ => ⟨by show FP.fconst0.toNat % 2 ^ 31 < _; decide +kernel, by show 0 ≤ Jvm.FP.Core.zval Jvm.FP.Core.b32 (Jvm.FP.Core.val32 FP.fconst0); rw [g_z0]; exact Int.le_refl _, fun h => absurd h (Nat.lt_irrefl _)⟩
  | n + 1, hn => by
    obtain ⟨h1, h2, h3⟩ := g_sum hw n (by omega)
    obtain ⟨w1, w2, w3⟩ := hw n
    have hS : Jvm.FP.Core.FFin (o_sumW w n) := g_fin h1 (by omega)
    have m := Jvm.FP.Core.fadd_mag (K := 131 + 2 * n) h1 (Nat.lt_of_lt_of_le w2 (Nat.mul_le_mul_right _ (by omega))) (by omega)
    have hge : ((2 ^ 149 : Nat) : Int) ≤ Jvm.FP.Core.zval Jvm.FP.Core.b32 (Jvm.FP.Core.val32 (FP.fadd (o_sumW w n) (w n))) := by
      rw [show Jvm.FP.Core.val32 (FP.fadd (o_sumW w n) (w n)) = _ from Jvm.FP.Core.val32_fadd _ _, ← g_z1]
      exact Jvm.FP.Core.sum_ge Jvm.FP.Core.good_b32 hS w1 (Jvm.FP.Core.val32_fits _) (Jvm.FP.Core.val32_fits _) (Jvm.FP.Core.val32_fits _) (g_nn g_one) (by rw [g_z1]; omega)
    exact ⟨by show (FP.fadd (o_sumW w n) (w n)).toNat % 2 ^ 31 < _; exact Nat.lt_of_lt_of_le m (Nat.mul_le_mul_right _ (by omega)), Int.le_trans (Int.natCast_nonneg _) hge, fun _ => hge⟩
theorem g_i2f {n : Nat} (hn : n < 2 ^ 31) : Jvm.FP.Core.FFin (FP.i2f (nI n)) ∧ (FP.i2f (nI n)).toNat % 2 ^ 31 < 160 * 2 ^ 23 ∧ (0 < n → ((2 ^ 149 : Nat) : Int) ≤ Jvm.FP.Core.zval Jvm.FP.Core.b32 (Jvm.FP.Core.val32 (FP.i2f (nI n)))) := by
  have hm := Jvm.FP.Core.i2f_mag (nI n)
  refine ⟨g_fin hm (by decide), hm, fun h0 => ?_⟩
  rw [show Jvm.FP.Core.val32 (FP.i2f (nI n)) = _ from Jvm.FP.Core.val32_i2f (nI n), ← g_z1]
  have ht : (nI n).toInt = (n : Int) := Int32.toInt_ofNat_of_lt hn
  rw [ht]
  refine Jvm.FP.Core.zval_round_ge Jvm.FP.Core.good_b32 (Jvm.FP.Core.val32_fits _) (g_nn g_one) (e0 := Jvm.FP.Core.b32.qmin) (Int.le_refl _) (by decide +kernel) ?_
  rw [Jvm.FP.Core.ofInt_units Jvm.FP.Core.b32, g_z1, Int.sub_self, show (-Jvm.FP.Core.b32.qmin).toNat = 149 from by decide +kernel]
  show ((2 ^ 149 : Nat) : Int) * ((1 : Nat) : Int) ≤ _
  have h1 : (1 : Int) ≤ (n : Int) := by omega
  have := Int.mul_le_mul_of_nonneg_right h1 (show (0 : Int) ≤ ((2 ^ 149 : Nat) : Int) from Int.natCast_nonneg _)
  rw [Int.one_mul] at this
  rw [show ((1 : Nat) : Int) = 1 from rfl, Int.mul_one]
  exact this
theorem g_pos {s : Bool} {m k : Nat} (hk : 0 < k) (h : (k : Int) ≤ Jvm.FP.Core.signed s m) : s = false ∧ k ≤ m := by
  cases s with
  | true => exfalso; unfold Jvm.FP.Core.signed at h; rw [if_pos rfl] at h; omega
  | false => unfold Jvm.FP.Core.signed at h; rw [if_neg (by decide)] at h; exact ⟨rfl, by omega⟩
theorem g_mul {S I : UInt32} (hS : Jvm.FP.Core.FFin S) (hI : Jvm.FP.Core.FFin I) (h1 : ((2 ^ 149 : Nat) : Int) ≤ Jvm.FP.Core.zval Jvm.FP.Core.b32 (Jvm.FP.Core.val32 S)) (h2 : ((2 ^ 149 : Nat) : Int) ≤ Jvm.FP.Core.zval Jvm.FP.Core.b32 (Jvm.FP.Core.val32 I)) : ((2 ^ 149 : Nat) : Int) ≤ Jvm.FP.Core.zval Jvm.FP.Core.b32 (Jvm.FP.Core.val32 (FP.fmul S I)) := by
  obtain ⟨s, c, q, e⟩ := hS
  obtain ⟨t, d, r, e2⟩ := hI
  have fS := Jvm.FP.Core.val32_fits S
  have fI := Jvm.FP.Core.val32_fits I
  rw [show Jvm.FP.Core.val32 (FP.fmul S I) = _ from Jvm.FP.Core.val32_fmul S I, ← g_z1]
  rw [e] at h1 fS ⊢
  rw [e2] at h2 fI ⊢
  obtain ⟨hs, hc⟩ := g_pos (Nat.two_pow_pos 149) (show ((2 ^ 149 : Nat) : Int) ≤ Jvm.FP.Core.signed s (Jvm.FP.Core.inUnits c q Jvm.FP.Core.b32.qmin) from h1)
  obtain ⟨ht, hd⟩ := g_pos (Nat.two_pow_pos 149) (show ((2 ^ 149 : Nat) : Int) ≤ Jvm.FP.Core.signed t (Jvm.FP.Core.inUnits d r Jvm.FP.Core.b32.qmin) from h2)
  subst hs; subst ht
  have qm : Jvm.FP.Core.b32.qmin = -149 := by decide +kernel
  have q1 : Jvm.FP.Core.b32.qmin ≤ q := fS.2.1
  have q2 : Jvm.FP.Core.b32.qmin ≤ r := fI.2.1
  show _ ≤ Jvm.FP.Core.zval Jvm.FP.Core.b32 (Jvm.FP.Core.round Jvm.FP.Core.b32 (.fin (false != false) (c * d) (q + r)))
  refine Jvm.FP.Core.zval_round_ge Jvm.FP.Core.good_b32 (Jvm.FP.Core.val32_fits _) (g_nn g_one) (e0 := Jvm.FP.Core.b32.qmin + Jvm.FP.Core.b32.qmin) (by rw [qm]; decide) (by omega) ?_
  rw [g_z1, qm]
  show ((2 ^ 149 : Nat) : Int) * ((2 ^ 149 : Nat) : Int) ≤ ((Jvm.FP.Core.inUnits (c * d) (q + r) (-149 + -149) : Nat) : Int)
  rw [qm] at hc hd q1 q2
  have e3 : Jvm.FP.Core.inUnits (c * d) (q + r) (-149 + -149) = Jvm.FP.Core.inUnits c q (-149) * Jvm.FP.Core.inUnits d r (-149) := by
    unfold Jvm.FP.Core.inUnits
    rw [show (q + r - (-149 + -149)).toNat = (q - -149).toNat + (r - -149).toNat by omega, Nat.pow_add]
    simp only [Nat.mul_assoc, Nat.mul_comm, Nat.mul_left_comm]
  rw [e3, ← Int.natCast_mul]
  exact Int.ofNat_le.mpr (Nat.mul_le_mul hc hd)
/-- a score -/
theorem g_score {S : UInt32} {n : Nat} (hS : S.toNat % 2 ^ 31 < 139 * 2 ^ 23) (hz : ((2 ^ 149 : Nat) : Int) ≤ Jvm.FP.Core.zval Jvm.FP.Core.b32 (Jvm.FP.Core.val32 S)) (hn : n < 2 ^ 31) : Jvm.FP.Core.FFin (FP.fmul S (FP.i2f (nI n))) ∧ (FP.fmul S (FP.i2f (nI n))).toNat % 2 ^ 31 < 173 * 2 ^ 23 ∧ (n = 0 → Jvm.FP.Core.zval Jvm.FP.Core.b32 (Jvm.FP.Core.val32 (FP.fmul S (FP.i2f (nI n)))) = 0) ∧ (0 < n → ((2 ^ 149 : Nat) : Int) ≤ Jvm.FP.Core.zval Jvm.FP.Core.b32 (Jvm.FP.Core.val32 (FP.fmul S (FP.i2f (nI n))))) := by
  obtain ⟨i1, i2, i3⟩ := g_i2f hn
  have hSf : Jvm.FP.Core.FFin S := g_fin hS (by decide)
  have m := Jvm.FP.Core.fmul_mag hS i2 (by decide) (by decide)
  refine ⟨g_fin m (by decide), m, fun h0 => ?_, fun h0 => g_mul hSf i1 hz (i3 h0)⟩
  rw [h0]
  have hz0 : Jvm.FP.Core.FZero (FP.i2f (nI 0)) := ⟨false, Jvm.FP.Core.b32.qmin, by decide +kernel⟩
  exact (Jvm.FP.Core.fmul_zero hSf hz0).zval
theorem g_norm {E t : Nat} (h1 : 1 ≤ E) (h2 : E ≤ 254) (ht : t < 8388608) : Jvm.FP.Core.val32 (UInt32.ofNat (E * 8388608 + t)) = .fin false (8388608 + t) ((E : Int) - 150) := by
  have hlt : E * 8388608 + t < 2 ^ 31 := by omega
  unfold Jvm.FP.Core.val32
  rw [UInt32.toNat_ofNat_of_lt' (show E * 8388608 + t < 2 ^ 32 by omega)]
  have hE : Jvm.FP.Core.fieldE Jvm.FP.Core.b32 (E * 8388608 + t) = E := by
    show (E * 8388608 + t) / 8388608 % 256 = E
    omega
  have hT : Jvm.FP.Core.fieldT Jvm.FP.Core.b32 (E * 8388608 + t) = t := by
    show (E * 8388608 + t) % 8388608 = t
    omega
  have hS : Jvm.FP.Core.fieldS Jvm.FP.Core.b32 (E * 8388608 + t) = false := by
    show ((E * 8388608 + t) / 8388608 / 256 % 2 == 1) = false
    have : (E * 8388608 + t) / 8388608 / 256 % 2 = 0 := by omega
    rw [this]; rfl
  unfold Jvm.FP.Core.decode
  rw [hE, hT, hS, if_neg (show ¬ E = Jvm.FP.Core.b32.exps - 1 from (by rw [show Jvm.FP.Core.b32.exps - 1 = 255 from rfl]; omega)), if_neg (by omega), show Jvm.FP.Core.b32.tails = 8388608 from rfl, show Jvm.FP.Core.b32.qmin = -149 from by decide +kernel]
  congr 1
  omega
theorem g_normF {E t : Nat} (h1 : 1 ≤ E) (h2 : E ≤ 254) (ht : t < 8388608) : Jvm.FP.Core.FFin (UInt32.ofNat (E * 8388608 + t)) := ⟨_, _, _, g_norm h1 h2 ht⟩
theorem g_half {E t : Nat} (h1 : 2 ≤ E) (h2 : E ≤ 254) (ht : t < 8388608) : FP.fdiv (UInt32.ofNat (E * 8388608 + t)) FP.fconst2 = UInt32.ofNat ((E - 1) * 8388608 + t) := by
  have hv : Jvm.FP.Core.val32 (FP.fdiv (UInt32.ofNat (E * 8388608 + t)) FP.fconst2) = Jvm.FP.Core.val32 (UInt32.ofNat ((E - 1) * 8388608 + t)) := by
    rw [show Jvm.FP.Core.val32 (FP.fdiv (UInt32.ofNat (E * 8388608 + t)) FP.fconst2) = _ from Jvm.FP.Core.val32_fdiv _ _, g_norm (by omega) h2 ht, g_norm (by omega) (by omega) ht, show Jvm.FP.Core.val32 FP.fconst2 = .fin false 8388608 (-22) from by decide +kernel]
    show (if (8388608 : Nat) = 0 then (if 8388608 + t = 0 then Jvm.FP.Core.Datum.nan else Jvm.FP.Core.Datum.inf (false != false)) else Jvm.FP.Core.roundRatio Jvm.FP.Core.b32 (false != false) (8388608 + t) 8388608 ((E : Int) - 150 - -22)) = _
    rw [if_neg (by decide)]
    refine Jvm.FP.Core.roundRatio_exact Jvm.FP.Core.good_b32 (by decide) ⟨show 8388608 + t < 2 ^ Jvm.FP.Core.b32.p from (by rw [show (2 : Nat) ^ Jvm.FP.Core.b32.p = 16777216 from rfl]; omega), ?_, ?_, Or.inr (show Jvm.FP.Core.b32.tails ≤ 8388608 + t from (by rw [show Jvm.FP.Core.b32.tails = 8388608 from rfl]; omega))⟩ ?_
    · rw [show Jvm.FP.Core.b32.qmin = -149 from by decide +kernel]; omega
    · rw [show Jvm.FP.Core.b32.qmax = 104 from by decide +kernel]; omega
    · rw [show ((E : Int) - 150 - -22 - (((E - 1 : Nat) : Int) - 150)).toNat = 23 by omega, show (((E - 1 : Nat) : Int) - 150 - ((E : Int) - 150 - -22)).toNat = 0 by omega]
      omega
  exact Jvm.FP.Core.val32_inj (by rw [hv]; exact g_nn (g_normF (by omega) (by omega) ht)) hv
theorem g_toN {E t : Nat} (h2 : E ≤ 254) (ht : t < 8388608) : (UInt32.ofNat (E * 8388608 + t)).toNat = E * 8388608 + t := UInt32.toNat_ofNat_of_lt' (show E * 8388608 + t < 2 ^ 32 by omega)
theorem g_fk {E t : Nat} (h2 : E ≤ 254) (ht : t < 8388608) : Jvm.FP.Core.fkey (UInt32.ofNat (E * 8388608 + t)) = ((E * 8388608 + t : Nat) : Int) := by
  rw [g_key_nn (by rw [g_toN h2 ht]; omega), g_toN h2 ht]
theorem g_fk2 : Jvm.FP.Core.fkey FP.fconst2 = 1073741824 := by decide +kernel
theorem g_lt2 {E t : Nat} (h1 : 1 ≤ E) (h2 : E ≤ 254) (ht : t < 8388608) : o_cmp (UInt32.ofNat (E * 8388608 + t)) FP.fconst2 < 0 ↔ E < 128 := by
  rw [g_cmpN (g_normF h1 h2 ht) g_two, ← g_key (g_normF h1 h2 ht) g_two, g_fk h2 ht, g_fk2]
  omega
theorem g_k1 : Jvm.FP.Core.val32 FP.fconst1 = .fin false 8388608 (-23) := by decide +kernel
theorem g_k23 : Jvm.FP.Core.val32 1258291200 = .fin false 8388608 0 := by decide +kernel
/-- the fraction of a number from 1 to 2 -/
theorem g_frac {t : Nat} (ht : t < 8388608) : ∃ c q, Jvm.FP.Core.val32 (FP.fsub (UInt32.ofNat (127 * 8388608 + t)) FP.fconst1) = .fin false c q ∧ t * 2 ^ (-(q + 23)).toNat = c * 2 ^ (q + 23).toNat ∧ (0 < t → q ≤ 0) := by
  have e1 : Jvm.FP.Core.val32 (FP.fsub (UInt32.ofNat (127 * 8388608 + t)) FP.fconst1) = Jvm.FP.Core.roundRatio Jvm.FP.Core.b32 false t 1 (-23) := by
    rw [show Jvm.FP.Core.val32 (FP.fsub (UInt32.ofNat (127 * 8388608 + t)) FP.fconst1) = _ from Jvm.FP.Core.val32_fsub _ _, g_norm (by decide) (by decide) ht, g_k1]
    have hu : Jvm.FP.Core.sumUnits false (8388608 + t) ((127 : Nat) - 150 : Int) true 8388608 (-23) (min ((127 : Nat) - 150 : Int) (-23)) = (t : Int) := by
      show Jvm.FP.Core.signed false ((8388608 + t) * 2 ^ (((127 : Nat) - 150 : Int) - min ((127 : Nat) - 150 : Int) (-23)).toNat) + Jvm.FP.Core.signed true (8388608 * 2 ^ (-23 - min ((127 : Nat) - 150 : Int) (-23)).toNat) = _
      rw [show min ((127 : Nat) - 150 : Int) (-23) = -23 from by decide, show (((127 : Nat) - 150 : Int) - -23).toNat = 0 from by decide, show ((-23 : Int) - -23).toNat = 0 from by decide]
      unfold Jvm.FP.Core.signed
      rw [if_neg (by decide), if_pos rfl]
      omega
    show Jvm.FP.Core.round Jvm.FP.Core.b32 (.fin (Jvm.FP.Core.sumSign false true (Jvm.FP.Core.sumUnits false (8388608 + t) ((127 : Nat) - 150 : Int) true 8388608 (-23) (min ((127 : Nat) - 150 : Int) (-23)))) (Jvm.FP.Core.sumUnits false (8388608 + t) ((127 : Nat) - 150 : Int) true 8388608 (-23) (min ((127 : Nat) - 150 : Int) (-23))).natAbs (min ((127 : Nat) - 150 : Int) (-23))) = _
    rw [hu, show min ((127 : Nat) - 150 : Int) (-23) = -23 from by decide]
    have hs : Jvm.FP.Core.sumSign false true (t : Int) = false := by
      unfold Jvm.FP.Core.sumSign
      by_cases h : (t : Int) = 0
      · rw [if_pos h]; rfl
      · rw [if_neg h]; exact decide_eq_false (by omega)
    rw [hs, Int.natAbs_natCast]
    rfl
  rw [e1]
  rcases Nat.eq_zero_or_pos t with h0 | h0
  · subst h0
    exact ⟨0, Jvm.FP.Core.b32.qmin, if_pos rfl, by rw [Nat.zero_mul, Nat.zero_mul], fun h => absurd h (by decide)⟩
  · obtain ⟨c, q, h1, h2⟩ := Jvm.FP.Core.natFit Jvm.FP.Core.good_b32 Jvm.FP.Core.wide_b32 false (n := t) (by rw [show (2 : Nat) ^ Jvm.FP.Core.b32.p = 16777216 from rfl]; omega)
    obtain ⟨f1, f2, f3, f4⟩ := h1
    rw [show (2 : Nat) ^ Jvm.FP.Core.b32.p = 16777216 from rfl] at f1
    rw [show Jvm.FP.Core.b32.qmin = -149 from by decide +kernel] at f2 f4
    rw [show Jvm.FP.Core.b32.qmax = 104 from by decide +kernel] at f3
    rw [show Jvm.FP.Core.b32.tails = 8388608 from rfl] at f4
    rw [Int.sub_zero, Nat.mul_one, show (0 : Int) - q = -q by omega] at h2
    have hq : -24 < q := Classical.byContradiction fun hn => by
      have e : (-q).toNat = 24 + (-q - 24).toNat := by omega
      have e2 : q.toNat = 0 := by omega
      rw [e, e2, Nat.pow_add] at h2
      have : 1 * 2 ^ 24 ≤ t * (2 ^ 24 * 2 ^ (-q - 24).toNat) := Nat.mul_le_mul h0 (Nat.le_mul_of_pos_right _ (Nat.two_pow_pos _))
      omega
    have hq0 : q ≤ 0 := Classical.byContradiction fun hn => by
      have e : (-q).toNat = 0 := by omega
      have hc : 8388608 ≤ c := f4.resolve_left (by omega)
      rw [e] at h2
      have : c * 1 ≤ c * 2 ^ q.toNat := Nat.mul_le_mul_left _ (Nat.two_pow_pos _)
      omega
    refine ⟨c, q - 23, Jvm.FP.Core.roundRatio_exact Jvm.FP.Core.good_b32 (by decide) ⟨by rw [show (2 : Nat) ^ Jvm.FP.Core.b32.p = 16777216 from rfl]; omega, by rw [show Jvm.FP.Core.b32.qmin = -149 from by decide +kernel]; omega, by rw [show Jvm.FP.Core.b32.qmax = 104 from by decide +kernel]; omega, Or.inr (by rw [show Jvm.FP.Core.b32.tails = 8388608 from rfl]; exact f4.resolve_left (by omega))⟩ ?_, ?_, fun _ => by omega⟩
    · rw [show ((-23 : Int) - (q - 23)).toNat = (-q).toNat by omega, show (q - 23 - -23).toNat = q.toNat by omega, Nat.mul_one]
      exact h2
    · rw [show (-(q - 23 + 23)).toNat = (-q).toNat by omega, show (q - 23 + 23).toNat = q.toNat by omega]
      exact h2
theorem g_f2i {t : Nat} (ht : t < 8388608) : Jvm.FP.Core.FFin (FP.fsub (UInt32.ofNat (127 * 8388608 + t)) FP.fconst1) ∧ Jvm.FP.Core.FFin (FP.fmul (FP.fsub (UInt32.ofNat (127 * 8388608 + t)) FP.fconst1) 1258291200) ∧ FP.f2i (FP.fmul (FP.fsub (UInt32.ofNat (127 * 8388608 + t)) FP.fconst1) 1258291200) = nI t := by
  obtain ⟨c, q, e, h, hq⟩ := g_frac ht
  have hw : Jvm.FP.Core.FInt (t : Int) (FP.fmul (FP.fsub (UInt32.ofNat (127 * 8388608 + t)) FP.fconst1) 1258291200) := by
    show Jvm.FP.Core.Whole (t : Int) (Jvm.FP.Core.val32 (FP.fmul (FP.fsub (UInt32.ofNat (127 * 8388608 + t)) FP.fconst1) 1258291200))
    rw [show Jvm.FP.Core.val32 (FP.fmul (FP.fsub (UInt32.ofNat (127 * 8388608 + t)) FP.fconst1) 1258291200) = _ from Jvm.FP.Core.val32_fmul _ _, e, g_k23]
    refine Jvm.FP.Core.whole_round Jvm.FP.Core.good_b32 Jvm.FP.Core.wide_b32 (by rw [show (2 : Nat) ^ Jvm.FP.Core.b32.p = 16777216 from rfl]; omega) ?_
    show Jvm.FP.Core.signed (false != false) (c * 8388608 * 2 ^ (q + 0).toNat) = (t : Int) * ((2 ^ (-(q + 0)).toNat : Nat) : Int)
    rw [Int.add_zero]
    show ((c * 8388608 * 2 ^ q.toNat : Nat) : Int) = _
    rw [← Int.natCast_mul]
    congr 1
    rcases Nat.eq_zero_or_pos t with h0 | h0
    · subst h0
      have hc : c = 0 := by
        rw [Nat.zero_mul] at h
        exact (Nat.mul_eq_zero.mp h.symm).resolve_right (Nat.ne_of_gt (Nat.two_pow_pos _))
      rw [hc]; simp
    · have hq := hq h0
      rw [show q.toNat = 0 by omega, Nat.pow_zero, Nat.mul_one]
      rcases Int.le_total (q + 23) 0 with h3 | h3
      · rw [show (q + 23).toNat = 0 by omega, Nat.pow_zero, Nat.mul_one] at h
        rw [← h, show (-q).toNat = (-(q + 23)).toNat + 23 by omega, Nat.pow_add, Nat.mul_assoc]
      · rw [show (-(q + 23)).toNat = 0 by omega, Nat.pow_zero, Nat.mul_one] at h
        rw [h, Nat.mul_assoc, ← Nat.pow_add, show (q + 23).toNat + (-q).toNat = 23 by omega]
  refine ⟨⟨_, _, _, e⟩, ?_, Jvm.FP.Core.f2i_int (a := nI t) ?_⟩
  · have hm : Jvm.FP.Core.val32 (FP.fmul (FP.fsub (UInt32.ofNat (127 * 8388608 + t)) FP.fconst1) 1258291200) = Jvm.FP.Core.round Jvm.FP.Core.b32 (Jvm.FP.Core.exactProduct (Jvm.FP.Core.val32 (FP.fsub (UInt32.ofNat (127 * 8388608 + t)) FP.fconst1)) (Jvm.FP.Core.val32 1258291200)) := Jvm.FP.Core.val32_fmul _ _
    revert hw
    show Jvm.FP.Core.Whole (t : Int) (Jvm.FP.Core.val32 (FP.fmul (FP.fsub (UInt32.ofNat (127 * 8388608 + t)) FP.fconst1) 1258291200)) → _
    unfold Jvm.FP.Core.FFin
    cases Jvm.FP.Core.val32 (FP.fmul (FP.fsub (UInt32.ofNat (127 * 8388608 + t)) FP.fconst1) 1258291200) with
    | nan => exact fun z => absurd z id
    | inf s => exact fun z => absurd z id
    | fin s c q => exact fun _ => ⟨_, _, _, rfl⟩
  · rw [show (nI t).toInt = (t : Int) from Int32.toInt_ofNat_of_lt (by omega)]
    exact hw
theorem g_shl : ∀ E, E < 256 → nI E <<< (23 &&& 31) = nI (E * 8388608) := by decide +kernel
theorem g_bok {n : Nat} (h1 : 1065353216 ≤ n) (h2 : n < 2139095040) : o_bok (UInt32.ofNat n) (nI n) := by
  obtain ⟨E, t, rfl, ht⟩ : ∃ E t, n = E * 8388608 + t ∧ t < 8388608 := ⟨n / 8388608, n % 8388608, by omega, Nat.mod_lt _ (by decide)⟩
  have a1 : 127 ≤ E := by omega
  have a2 : E ≤ 254 := by omega
  have x0 : E - (E - 127) = 127 := by omega
  refine ⟨fun k => UInt32.ofNat ((E - k) * 8388608 + t), E - 127, rfl, fun k hk => ⟨?_, ?_, ?_⟩, ?_, by omega, ?_, ?_, ?_⟩
  · rw [g_lt2 (by omega) (by omega) ht]; omega
  · dsimp only
    rw [g_half (by omega) (by omega) ht]
    exact g_n32 (g_normF (by omega) (by omega) ht)
  · dsimp only
    rw [g_half (by omega) (by omega) ht, Nat.sub_sub]
  · dsimp only
    rw [x0]
    exact (g_lt2 (by decide) (by decide) ht).mpr (by decide)
  · dsimp only
    rw [x0]
    exact g_n32 (g_f2i ht).1
  · dsimp only
    rw [x0]
    exact g_n32 (g_f2i ht).2.1
  · dsimp only
    rw [x0, (g_f2i ht).2.2, show 127 + (E - 127) = E by omega, g_shl E (by omega)]
    exact Int32.ofNat_add _ _
theorem g_wts {M : mM} {nf ni : Nat} (hni : ni ≤ 12) (k : Nat) : Jvm.FP.Core.FFin (o_askW M nf ni k) ∧ (o_askW M nf ni k).toNat % 2 ^ 31 < 131 * 2 ^ 23 ∧ ((2 ^ 149 : Nat) : Int) ≤ Jvm.FP.Core.zval Jvm.FP.Core.b32 (Jvm.FP.Core.val32 (o_askW M nf ni k)) := by
  obtain ⟨h1, h2⟩ := g_wt ni hni (o_has M nf ni (M 27 k)) o_has_le
  have h3 : (o_askW M nf ni k).toNat % 2 ^ 31 < 131 * 2 ^ 23 := Nat.lt_of_le_of_lt (Nat.mod_le _ _) h1
  have hf : Jvm.FP.Core.FFin (o_askW M nf ni k) := g_fin h3 (by decide)
  exact ⟨hf, h3, g_ge1 hf h2 (Nat.lt_of_lt_of_le h1 (by decide))⟩
theorem g_i32 (x : UInt32) : x.toInt32 = nI x.toNat := by
  unfold nI
  apply Int32.toBitVec_inj.mp
  rw [Int32.toBitVec_ofNat']
  show x.toBitVec = _
  rw [show x.toNat = x.toBitVec.toNat from rfl, BitVec.ofNat_toNat]
  simp
theorem g_bokx {x : UInt32} (hf : Jvm.FP.Core.FFin x) (hz : ((2 ^ 149 : Nat) : Int) ≤ Jvm.FP.Core.zval Jvm.FP.Core.b32 (Jvm.FP.Core.val32 x)) : o_bok x x.toInt32 := by
  have hb := (Jvm.FP.Core.fin_bits32 x).mp hf
  have hk : ¬ Jvm.FP.Core.fkey x < Jvm.FP.Core.fkey FP.fconst1 := fun z => by
    rw [g_key hf g_one, g_z1] at z
    exact absurd hz (Int.not_le.mpr z)
  rw [show Jvm.FP.Core.fkey FP.fconst1 = 1065353216 from by decide +kernel] at hk
  unfold Jvm.FP.Core.fkey at hk
  have hs : ¬ 2 ^ 31 ≤ x.toNat := fun z => by
    rw [if_pos z] at hk
    omega
  rw [if_neg hs] at hk
  have q := g_bok (n := x.toNat) (by omega) (by omega)
  rw [g_i32]
  rw [UInt32.ofNat_toNat] at q
  exact q
theorem g_all {Z : mZ} {M : mM} {nf ni nt : Nat} (h1 : Z 1 = nI nf) (hnf : nf ≤ 120) (hni : ni ≤ 12) (h29 : Z 29 = nI nt) (h4 : nt ≤ 4) (hp : 0 < nt) : o_nan (o_askT (Z, M)).1 (o_askT (Z, M)).2 nf ni nt ∧ o_keys Z M nf ni nt ∧ ∀ v, o_self (o_score (o_askT (Z, M)).1 (o_askT (Z, M)).2 nf ni nt v) ∧ (0 < o_hitT Z M v → o_bok (o_score (o_askT (Z, M)).1 (o_askT (Z, M)).2 nf ni nt v) (o_score (o_askT (Z, M)).1 (o_askT (Z, M)).2 nf ni nt v).toInt32) := by
  have hsum := g_sum (w := o_askW (o_askT (Z, M)).2 nf ni) (fun k => g_wts hni k)
  obtain ⟨s1, s2, s3⟩ := hsum nt (by omega)
  have s1' : (o_sumW (o_askW (o_askT (Z, M)).2 nf ni) nt).toNat % 2 ^ 31 < 139 * 2 ^ 23 := Nat.lt_of_lt_of_le s1 (Nat.mul_le_mul_right _ (by omega))
  have sc := fun v : Int32 => g_score s1' (s3 hp) (o_hitT_lt (M := M) h1 hnf h29 h4 v)
  have scf : ∀ v : Int32, Jvm.FP.Core.FFin (o_score (o_askT (Z, M)).1 (o_askT (Z, M)).2 nf ni nt v) := fun v => (sc v).1
  refine ⟨⟨fun h hh => (f_wt ni hni h hh).1, fun k hk => ?_, fun v => g_n32 (scf v)⟩, ⟨fun i => Jvm.FP.Core.zval Jvm.FP.Core.b32 (Jvm.FP.Core.val32 (o_sT Z M nf ni nt i)), fun i j _ _ => ⟨g_cmp0 (scf _) (scf _), g_cmpP (scf _) (scf _)⟩, fun i _ => ?_⟩, fun v => ⟨g_self (scf v), fun hh => g_bokx (scf v) ((sc v).2.2.2 hh)⟩⟩
  · exact g_n32 (g_fin (hsum (k + 1) (by omega)).1 (by omega))
  · have hc := (sc (nI i)).2.2
    have key0 : o_hitT Z M (nI i) = 0 → Jvm.FP.Core.zval Jvm.FP.Core.b32 (Jvm.FP.Core.val32 (o_sT Z M nf ni nt i)) = 0 := hc.1
    have key1 : 0 < o_hitT Z M (nI i) → ((2 ^ 149 : Nat) : Int) ≤ Jvm.FP.Core.zval Jvm.FP.Core.b32 (Jvm.FP.Core.val32 (o_sT Z M nf ni nt i)) := hc.2
    have big : (0 : Int) < ((2 ^ 149 : Nat) : Int) := by decide
    dsimp only
    refine ⟨?_, ⟨fun h => ?_, fun h => Int.lt_of_lt_of_le big (key1 h)⟩, ?_⟩
    · rcases Nat.eq_zero_or_pos (o_hitT Z M (nI i)) with h | h
      · rw [key0 h]; exact Int.le_refl _
      · exact Int.le_trans (Int.le_of_lt big) (key1 h)
    · rcases Nat.eq_zero_or_pos (o_hitT Z M (nI i)) with h2 | h2
      · rw [key0 h2] at h; exact absurd h (Int.lt_irrefl _)
      · exact h2
    · have q := g_cmpP (x := o_sT Z M nf ni nt i) (y := FP.fconst0) (scf (nI i)) g_zero
      rw [g_z0] at q
      exact q
theorem f_all_ok : f_all :=
  ⟨fun _ _ _ _ _ h1 hnf _ hni h29 h4 hp _ => g_all h1 hnf hni h29 h4 hp, fun ni hni h hh => f_wt ni hni h hh, fun M nf h0 hnf => f_sh nf hnf _ (cntB_le _ _) h0, fun a k ha h0 hk => f_mn a ha k hk h0, f_d0⟩
theorem whole_start {p : Program} {e : Env} {s : State} {m : MethodId} {below : List Frame} {meth : Method} {c : Code} (l : Launch) (hflags : l.flags = flags0) {b L : Nat} {xs : Nat → Int32} (hL : L ≤ 2560) (C0 : lw_At p s m meth c b L xs) : W p l e room_1 s m #[Value.ref b] below meth c s.heap [] 0 0 (lw_Z below #[Value.ref b] s) (entryFrame m ([Value.ref b] : List Value).toArray 10) := whole_go f_all_ok l hflags hL C0
set_option maxHeartbeats 4000000 in
theorem lw_walk (l : Launch) (hflags : l.flags = flags0) (b : Addr) (xs : List Int32) : MetFree l x (headSpec (Jvm.Cond.code x code maxLocals ret :: tables_1) room_1) (lw_P b xs) (fun _ _ _ _ _ => True) lw_Q := by
  refine MetFree.of_bodyS (code := code) (maxLocals := maxLocals) (ret := ret) (by decide) ?_ ?_
  · intro args s m h hn
    obtain ⟨meth, c, h1, h2, h3, h4, h5, h6, -, -⟩ := Cond.code_spec hn (atoms_spec (ws := Jvm.Cond.code x code maxLocals ret :: tables_1) h _ List.mem_cons_self)
    exact ⟨meth, c, h1, h2, h3, h4, h5, h6⟩
  · intro p e s m args below meth c s₁ B hml0 hP _
    obtain ⟨rfl, hx, hbd, hgv⟩ := hP
    obtain ⟨scr, harrAt, hlist, hof, hsmall⟩ := hx
    obtain ⟨hcb, hkn, -, -⟩ := State.arrayAt?_spec harrAt
    have hown : s.vm.findClass R_law = some m.cls := findClass_of_methodNamed B.named
    have hts0 : ∀ c ∈ (Jvm.Cond.code x code maxLocals ret :: tables_1), c.before #[Value.ref b] s = true := atoms_spec (ws := Jvm.Cond.code x code maxLocals ret :: tables_1) B.pre
    have hts : ∀ w ∈ lw_tbl, w.before #[Value.ref b] s = true := k2_hts_sels lw_privs (fun w hw => hts0 w (List.mem_cons_of_mem _ hw)) lw_privs_ok
    have hml : c.maxLocals = 10 := B.maxLocals_eq (hts0 _ List.mem_cons_self)
    have X₀ : Stand p l e room_1 s m #[Value.ref b] below meth c s₁ [] 0 0 := Stand.of_body B
    have hh0 : s₁.heap = s.heap := by rw [B.state]; rfl
    have hsz : scr.slots.size = xs.length := by rw [← Array.length_toList, hlist, List.length_map]
    have hval : ∀ j : Nat, j < xs.length → scr.slots[j]? = some (.int (xs.getD j 0)) := fun j hj => by
      rw [← Array.getElem?_toList, hlist]
      simp [hj]
    have hbl : b < s.heap.size := (Array.getElem?_eq_some_iff.mp hcb).1
    have hX : va_X b xs.length (fun j => xs.getD j 0) s s.heap := ⟨scr, hcb, hof, hkn, hsz, hval⟩
    have K : W p l e room_1 s m #[Value.ref b] below meth c s₁.heap [] 0 0 (lw_Z below #[Value.ref b] s) (entryFrame m ([Value.ref b] : List Value).toArray 10) := by
      rw [hh0]
      exact whole_start l hflags hbd ⟨B.exec, B.bytes, B.returns, hml, hown, hts, hX, hbl, B.notSynchronized, hgv⟩
    obtain ⟨t, a1, o, b1, b2, b3⟩ := K s₁ rfl X₀
    exact ⟨t, o, a1, b1, b2, b3⟩
theorem lw_pre_spec {args : Array Value} {s : State} (h : (Jvm.Cond.and given_1 narrow_1).before args s = true) (hr : rest_1_c.before args s = true) : ∃ (b : Addr) (xs : List Int32), lw_P b xs args s := by
  have hs := flat_of_before _ h
  have hq := flat_of_before _ hr
  have hc : (Cond.count 1).before args s = true := hs _ (by decide +kernel)
  have harr : (Cond.arrayOf (.arg 0) .int).before args s = true := hs _ (by decide +kernel)
  have hle : (Cond.le (.length (.arg 0)) (.int 2560)).before args s = true := hs _ (by decide +kernel)
  have hlen : (Cond.isInt (.length (.arg 0))).before args s = true := hq _ (by decide +kernel)
  have hall : (Cond.all (.arg 0) (.isInt (.elem (.arg 0) (.index 0)))).before args s = true := hq _ (by decide +kernel)
  obtain ⟨b, xs, hb, hx⟩ := State.ints_of_pre rfl harr hlen hall
  have hsm : xs.length < 2 ^ 31 := hx.choose_spec.2.2.2
  have hev : (Term.length (.arg 0)).eval args s none [] s = some (.int xs.length.toInt32) := hx.length_eval hb
  have hv := Cond.le_ints hev (show (Term.int 2560).eval args s none [] s = some (.int 2560) from rfl)
  have hd : xs.length.toInt32 ≤ 2560 := by
    simpa [Cond.before, Cond.holds, hv] using hle
  have hN : xs.length ≤ 2560 := (Int32.ofNat_le_ofNat hsm (by decide)).mp (show Int32.ofNat xs.length ≤ Int32.ofNat 2560 from hd)
  exact ⟨b, xs, Cond.one_arg hc (show args[0]? = some (.ref b) from hb), hx, hN, h⟩
theorem lw_comes (l : Launch) (hflags : l.flags = flags0) : Comes l x (Jvm.Cond.code x code maxLocals ret :: tables_1) room_1 (fun tb e args s => Calls_1 tb e args s ∧ rest_1 tb e args s ∧ Pre_1 tb e args s)
    (fun _ _ args s o t => lw_Q args s o t) := by
  intro p e ha hc hk s m args below hf hfit hheap happ hpre
  obtain ⟨b, xs, hP⟩ := lw_pre_spec hpre.2.2 hpre.2.1
  obtain ⟨k, o, h1, h2, h3, hQ⟩ := lw_walk l hflags b xs p e ha hc hk s m args below hf ((Spec.applies_iff_loose hf).mp happ).1 hP trivial
  exact ⟨k, o, h1, h2, h3, hQ⟩
theorem lw_frame {s t : State} {o : Outcome} {args : Array Value} (h : State.butDraws s t lw_cs (fun t1 => Framed s o t1 [] 603072 7211114)) :
    State.butDraws s t [Jvm.Choice.named "NaN.bits"] (fun t1 => Framed s o t1 (fieldLocs frame_1_writes args s ++ arrayLocs frame_1_arrays args s ++ staticLocs frame_1_statics s) 603072 7211114) := h
theorem lw_limb (L : Cond) (hL : ∀ (args : Array Value) (s t : State), L.after args s (.returned (some (.int 1))) t = true) :
    ArmFor flags0 classFile x code maxLocals ret World_1 tables_1 room_1 Calls_1 rest_1 Pre_1
      (fun tb e a s o t => postC L tb e a s o t ∧ State.butDraws s t [Jvm.Choice.named "NaN.bits"] (fun t1 => Framed s o t1 (fieldLocs frame_1_writes a s ++ arrayLocs frame_1_arrays a s ++ staticLocs frame_1_statics s) 603072 7211114)) := by
  intro l hflags _ _ p e ha hc hk s m args below hf hfit hheap happ hpre
  obtain ⟨k, o, h1, h2, h3, rfl, hF⟩ := lw_comes l hflags p e ha hc hk s m args below hf hfit hheap happ hpre
  exact ⟨k, _, h1, h2, h3, hL args s _, lw_frame hF⟩
theorem i_vc : Claimed_1_1 ∧ Claimed_1_2 := ⟨lw_limb limb_1_1 (fun args s t => by simp [limb_1_1, Cond.after, Cond.holds, Cond.value]), lw_limb limb_1_2 (fun args s t => Cond.after_iff.mpr (by
  first | (rw [show limb_1_2 = Cond.eq .result (.int 1) from rfl, Cond.eq_ints (x := 1) (y := 1) rfl rfl]; simp; done) | (simp [limb_1_2, Cond.value, Term.eval]; done)))⟩

