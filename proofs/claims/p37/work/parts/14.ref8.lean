theorem o_bln (S : mS) (b : Bool) (ch : Int32) {j : Nat} (h : j ≠ 31) : (o_blames S b ch).1 j = S.1 j := by
  unfold o_blames
  split
  · exact z1_n _ _ h
  · rfl
theorem o_bl31 (S : mS) (b : Bool) (ch : Int32) {k : Nat} (h : S.1 31 = nI k) : (o_blames S b ch).1 31 = nI (k + b.toNat) := by
  unfold o_blames
  cases b
  · exact h
  · show z1 S.1 31 (S.1 31 + 1) 31 = nI (k + 1)
    rw [z1_s, h]
    exact nI_1 k
theorem o_drops_3 (S : mS) (v : Int32) {n : Nat} (h : S.1 3 = nI n) (hn : n < 2 ^ 31) : ∃ k, k ≤ n ∧ (o_drops S v).1 3 = nI k := by
  refine ⟨(o_dr (S.2 17) v n).1, o_dr_le _ _ _, ?_⟩
  unfold o_drops
  rw [zn_of h hn]
  exact z1_s S.1 3 _
theorem o_drops_n (S : mS) (v : Int32) {j : Nat} (h : j ≠ 3) : (o_drops S v).1 j = S.1 j := z1_n _ _ h
theorem o_drops_m (S : mS) (v : Int32) {j : Nat} (h : j ≠ 17) : (o_drops S v).2 j = S.2 j := mset_n _ _ h
theorem o_opens_n (S : mS) {j : Nat} (h : j ≠ 3) (h4 : j ≠ 4) : (o_opens S).1 j = S.1 j := (z1_n _ _ h4).trans (z1_n _ _ h)
theorem o_opens_m (S : mS) {j : Nat} (h : j ≠ 17) : (o_opens S).2 j = S.2 j := m1_n _ _ h
