theorem nI_nm1 {n : Nat} (h : n < 2 ^ 31) : ¬ nI n = -1 := fun q => by
  have h9 : (nI n).toInt = (-1 : Int32).toInt := congrArg Int32.toInt q
  rw [nI_toInt h, show (-1 : Int32).toInt = -1 from by decide] at h9
  omega
theorem o_rank_or (Z : mZ) (M : mM) (nf ni nt sh : Nat) (pl : Int32) : ∀ n, o_rank Z M nf ni nt sh pl n = -1 ∨ ∃ t, t < n ∧ o_rank Z M nf ni nt sh pl n = nI t
  | 0 => Or.inl rfl
  | n + 1 => by
    simp only [o_rank]
    split
    · rcases o_rank_or Z M nf ni nt sh pl n with h | ⟨t, ht, h⟩
      · exact Or.inl h
      · exact Or.inr ⟨t, by omega, h⟩
    · split
      · exact Or.inr ⟨n, by omega, rfl⟩
      · rcases o_rank_or Z M nf ni nt sh pl n with h | ⟨t, ht, h⟩
        · exact Or.inl h
        · exact Or.inr ⟨t, by omega, h⟩
def o_kcp (sh : Nat) (M : mM) : Nat → mM
  | 0 => M
  | k + 1 => m1 (m1 (o_kcp sh M k) 23 (4 * sh + k) (o_kcp sh M k 25 k)) 24 (4 * sh + k) (o_kcp sh M k 26 k)
theorem o_sc_z1 {Z Z' : mZ} {M M' : mM} (h : o_sc (Z, M) (Z', M')) (j : Nat) (v : Int32) : o_sc (z1 Z j v, M) (z1 Z' j v, M') := by
  refine ⟨fun i a => ?_, h.2⟩
  have h9 := h.1 i a
  show z1 Z' j v i = z1 Z j v i
  unfold z1
  split
  · rfl
  · exact h9
theorem o_sc_kcp {Z Z' : mZ} {M M' : mM} (h : o_sc (Z, M) (Z', M')) (sh : Nat) : ∀ k, o_sc (Z, o_kcp sh M k) (Z', o_kcp sh M' k)
  | 0 => h
  | k + 1 => by
    have ih := o_sc_kcp h sh k
    have h25 : o_kcp sh M' k 25 = o_kcp sh M k 25 := ih.2 25 (by decide) (by decide) (by decide) (by decide)
    have h26 : o_kcp sh M' k 26 = o_kcp sh M k 26 := ih.2 26 (by decide) (by decide) (by decide) (by decide)
    simp only [o_kcp]
    rw [h25, h26]
    exact o_sc_m1 (o_sc_m1 ih _ _ _) _ _ _
theorem o_sc_bl {Z Z' : mZ} {M M' : mM} (h : o_sc (Z, M) (Z', M')) (ch : Int32) : o_sc (o_blames (z1 Z 31 0, M) true ch) (o_blames (z1 Z' 31 0, M') true ch) := by
  have h1 := o_sc_m1 (o_sc_z1 (o_sc_z1 h 31 0) 31 (z1 Z 31 0 31 + 1)) 32 (zn (z1 Z 31 0) 31) ch
  exact h1
def o_goal (Z : mZ) (M : mM) (nf ni nt sh : Nat) : Int32 := o_rank Z M nf ni nt sh 0 ni
def o_cost (M : mM) (sh t : Nat) : Nat := o_root (o_far M sh t).toNatClampNeg
def t_sail0 (M : mM) (sh : Nat) (q : Int32) : Int32 := if q = -1 then 3 else if M 19 sh < nI (o_cost M sh q.toNatClampNeg) then 4 else 0
def t_sail (Z : mZ) (M : mM) (nf ni nt : Nat) (v : Int32) : Int32 := if o_shp Z v = true then (if 0 < Z 29 then t_sail0 M v.toNatClampNeg (o_goal Z M nf ni nt v.toNatClampNeg) else 2) else 1
def p_sail0 (Z : mZ) (M : mM) (sh t : Nat) : mS := (z1 Z 29 0, o_kcp sh (m1 (m1 (m1 (m1 (m1 M 19 sh (M 19 sh - nI (o_cost M sh t))) 20 sh (M 18 sh)) 18 sh (nI t)) 21 sh (-1)) 22 sh (Z 29)) (zn Z 29))
def p_sail (Z : mZ) (M : mM) (nf ni nt : Nat) (v : Int32) : mS := if t_sail Z M nf ni nt v = 0 then p_sail0 Z M v.toNatClampNeg (o_goal Z M nf ni nt v.toNatClampNeg).toNatClampNeg else if t_sail Z M nf ni nt v = 3 then o_blames (z1 Z 31 0, M) true 104 else if t_sail Z M nf ni nt v = 4 then o_blames (z1 Z 31 0, M) true 99 else (Z, M)
theorem o_far_sc {Z Z' : mZ} {M M' : mM} (h : o_sc (Z, M) (Z', M')) (s t : Nat) : o_far M' s t = o_far M s t := by
  unfold o_far
  rw [show M' 7 = M 7 from h.2 7 (by decide) (by decide) (by decide) (by decide), show M' 8 = M 8 from h.2 8 (by decide) (by decide) (by decide) (by decide), show M' 18 = M 18 from h.2 18 (by decide) (by decide) (by decide) (by decide)]
