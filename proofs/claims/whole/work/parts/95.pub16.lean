theorem q_bkf {A : Nat → Nat → Int32} {l9 : List Nat} : ∀ (l : List Nat) (S : (Nat → Nat → Int32) × (Nat → Nat → Option Nat) × Nat) (f b : Nat), 1000 ≤ f → (l.foldl (c_bk A l9) S).1 f b = S.1 f b ∧ (l.foldl (c_bk A l9) S).2.1 f b = S.2.1 f b
  | [], _, _, _, _ => ⟨rfl, rfl⟩
  | a :: l, S, f, b, h => by
    obtain ⟨h1, h2⟩ := q_bkf (A := A) (l9 := l9) l (c_bk A l9 S a) f b h
    rw [List.foldl_cons, h1, h2]
    unfold c_bk
    split
    · exact ⟨c_goI_f (by omega) (by omega) (by omega), m_up2_ni _ _ (by omega)⟩
    · exact ⟨rfl, rfl⟩
theorem q_sk1 {Z : mZ} {M : mM} {v : Int32} (h : ¬ o_rng v 0 (Z 1 - 1) = true) : t_strike Z M v = 1 := if_neg h
theorem q_sk0 {Z : mZ} {M : mM} {v : Int32} (h : o_rng v 0 (Z 1 - 1) = true) (h2 : M 16 v.toNatClampNeg = 0) : t_strike Z M v = 0 := (if_pos h).trans (if_pos h2)
theorem q_sk2 {Z : mZ} {M : mM} {v : Int32} (h : o_rng v 0 (Z 1 - 1) = true) (h2 : ¬ M 16 v.toNatClampNeg = 0) : t_strike Z M v = 2 := (if_pos h).trans (if_neg h2)
theorem q_fn0 {M : mM} {f : Nat} (h : M 15 f = -1) : o_fine M f = M := if_pos h
theorem q_fn1 {M : mM} {f : Nat} (h : ¬ M 15 f = -1) : o_fine M f = m1 M 19 (M 15 f).toNatClampNeg (M 19 (M 15 f).toNatClampNeg - o_pay M (M 15 f).toNatClampNeg 10) := if_neg h
theorem q_sa1 {Z : mZ} {M : mM} {nf ni nt : Nat} {v : Int32} (h : ¬ o_shp Z v = true) : t_sail Z M nf ni nt v = 1 := if_neg h
theorem q_sa2 {Z : mZ} {M : mM} {nf ni nt : Nat} {v : Int32} (h : o_shp Z v = true) (h2 : ¬ 0 < Z 29) : t_sail Z M nf ni nt v = 2 := (if_pos h).trans (if_neg h2)
theorem q_sa3 {Z : mZ} {M : mM} {nf ni nt : Nat} {v : Int32} (h : o_shp Z v = true) (h2 : 0 < Z 29) (h3 : o_goal Z M nf ni nt v.toNatClampNeg = -1) : t_sail Z M nf ni nt v = 3 := (if_pos h).trans ((if_pos h2).trans (if_pos h3))
theorem q_sa4 {Z : mZ} {M : mM} {nf ni nt : Nat} {v : Int32} {t : Nat} (h : o_shp Z v = true) (h2 : 0 < Z 29) (ht : t < 2 ^ 31) (h3 : o_goal Z M nf ni nt v.toNatClampNeg = nI t) (h4 : M 19 v.toNatClampNeg < nI (o_cost M v.toNatClampNeg t)) : t_sail Z M nf ni nt v = 4 := (if_pos h).trans ((if_pos h2).trans (by unfold t_sail0; rw [h3, if_neg (nI_nm1 ht), nI_clamp ht, if_pos h4]))
theorem q_sa0 {Z : mZ} {M : mM} {nf ni nt : Nat} {v : Int32} {t : Nat} (h : o_shp Z v = true) (h2 : 0 < Z 29) (ht : t < 2 ^ 31) (h3 : o_goal Z M nf ni nt v.toNatClampNeg = nI t) (h4 : ¬ M 19 v.toNatClampNeg < nI (o_cost M v.toNatClampNeg t)) : t_sail Z M nf ni nt v = 0 := (if_pos h).trans ((if_pos h2).trans (by unfold t_sail0; rw [h3, if_neg (nI_nm1 ht), nI_clamp ht, if_neg h4]))
theorem q_ps12 {Z : mZ} {M : mM} {nf ni nt : Nat} {v : Int32} (h : t_sail Z M nf ni nt v = 1 ∨ t_sail Z M nf ni nt v = 2) : p_sail Z M nf ni nt v = (Z, M) := by
  unfold p_sail
  rcases h with h | h <;> rw [h] <;> rfl
theorem q_ps3 {Z : mZ} {M : mM} {nf ni nt : Nat} {v : Int32} (h : t_sail Z M nf ni nt v = 3) : p_sail Z M nf ni nt v = o_blames (z1 Z 31 0, M) true (nI 104) := by
  unfold p_sail
  rw [h]
  rfl
theorem q_ps4 {Z : mZ} {M : mM} {nf ni nt : Nat} {v : Int32} (h : t_sail Z M nf ni nt v = 4) : p_sail Z M nf ni nt v = o_blames (z1 Z 31 0, M) true (nI 99) := by
  unfold p_sail
  rw [h]
  rfl
theorem q_ps0 {Z : mZ} {M : mM} {nf ni nt : Nat} {v : Int32} {t : Nat} (h : t_sail Z M nf ni nt v = 0) (h3 : o_goal Z M nf ni nt v.toNatClampNeg = nI t) (ht : t < 2 ^ 31) : p_sail Z M nf ni nt v = p_sail0 Z M v.toNatClampNeg t := by
  unfold p_sail
  rw [if_pos h, h3, nI_clamp ht]
theorem q_kcp_n (sh : Nat) (M : mM) {j : Nat} (h3 : j ≠ 23) (h4 : j ≠ 24) : ∀ n, o_kcp sh M n j = M j
  | 0 => rfl
  | n + 1 => by
    show m1 (m1 (o_kcp sh M n) 23 _ (o_kcp sh M n 25 n)) 24 _ (o_kcp sh M n 26 n) j = _
    rw [m1_n _ _ h4, m1_n _ _ h3]
    exact q_kcp_n sh M h3 h4 n
theorem q_kcp_23 (sh : Nat) (M : mM) : ∀ n x, o_kcp sh M n 23 x = if 4 * sh ≤ x ∧ x < 4 * sh + n then M 25 (x - 4 * sh) else M 23 x
  | 0, x => by rw [if_neg (by omega)]; rfl
  | n + 1, x => by
    show m1 (m1 (o_kcp sh M n) 23 (4 * sh + n) (o_kcp sh M n 25 n)) 24 (4 * sh + n) (o_kcp sh M n 26 n) 23 x = _
    rw [m1_n _ _ (by decide), m1_at, q_kcp_n sh M (by decide) (by decide) n, q_kcp_23 sh M n x]
    by_cases e : x = 4 * sh + n
    · rw [if_pos e, if_pos (by omega), show x - 4 * sh = n by omega]
    · rw [if_neg e]
      by_cases e2 : 4 * sh ≤ x ∧ x < 4 * sh + n
      · rw [if_pos e2, if_pos (by omega)]
      · rw [if_neg e2, if_neg (by omega)]
theorem q_kcp_24 (sh : Nat) (M : mM) : ∀ n x, o_kcp sh M n 24 x = if 4 * sh ≤ x ∧ x < 4 * sh + n then M 26 (x - 4 * sh) else M 24 x
  | 0, x => by rw [if_neg (by omega)]; rfl
  | n + 1, x => by
    show m1 (m1 (o_kcp sh M n) 23 (4 * sh + n) (o_kcp sh M n 25 n)) 24 (4 * sh + n) (o_kcp sh M n 26 n) 24 x = _
    rw [m1_at, m1_n _ _ (by decide), q_kcp_n sh M (by decide) (by decide) n, q_kcp_24 sh M n x]
    by_cases e : x = 4 * sh + n
    · rw [if_pos e, if_pos (by omega), show x - 4 * sh = n by omega]
    · rw [if_neg e]
      by_cases e2 : 4 * sh ≤ x ∧ x < 4 * sh + n
      · rw [if_pos e2, if_pos (by omega)]
      · rw [if_neg e2, if_neg (by omega)]
theorem q_far {K : Nat → Nat} {I : Nat → Nat → Int32} {R : Nat → Nat → Option Nat} {N : Nat → Nat} {A : Nat → Nat → Int32} {L : Nat → List Nat} {T : Nat → List Int32} {x : Nat} {cd : Nat → Nat} {Z : mZ} {M : mM} {sh t t0 a fr : Nat} (hs : c_sim K I R N A L T x cd Z M) (ha : (L (cd 0))[t]? = some a) (hfr : (L (cd 0))[t0]? = some fr) (h18 : M 18 sh = nI t0) (ht : t0 < 12) : c_sq I a fr = o_far M sh t := by
  obtain ⟨-, -, a1, a2, -⟩ := hs.2.1.2.2 t a ha
  obtain ⟨-, -, b1, b2, -⟩ := hs.2.1.2.2 t0 fr hfr
  unfold c_sq o_far
  rw [a1, a2, b1, b2, h18, nI_clamp (by omega)]
theorem q_sail {K : Nat → Nat} {I I2 : Nat → Nat → Int32} {R R2 : Nat → Nat → Option Nat} {N : Nat → Nat} {A A2 : Nat → Nat → Int32} {L : Nat → List Nat} {T : Nat → List Int32} {x : Nat} {cd : Nat → Nat} {Z : mZ} {M : mM} {i a ph w9 d9 t goal is9 nt : Nat} (hs : c_sim K I R N A L T x cd Z M) (ha : (L (cd 5))[i]? = some a) (hnt : Z 29 = nI nt) (hn4 : nt ≤ 4) (h70 : R 70 a = some ph) (h40 : R 40 ph = some w9) (h41 : R 41 ph = some d9) (h71 : R 71 a = some is9) (hgl : (L (cd 0))[t]? = some goal)
    (eI : I2 = m_up2 (m_up2 (m_up2 (m_up2 I 72 a (M 19 i - nI (o_cost M i t))) 42 ph (nI nt)) 74 a 0) 42 (cd 6) 0) (eR : R2 = m_up2 (m_up2 R 73 a (some is9)) 71 a (some goal)) (eA : ∀ b, b ≠ w9 → b ≠ d9 → A2 b = A b) (eAw : ∀ k, k < nt → A2 w9 k = A (cd 13) k) (eAd : ∀ k, k < nt → A2 d9 k = A (cd 14) k) : c_sim K I2 R2 N A2 L T x cd (p_sail0 Z M i t).1 (p_sail0 Z M i t).2 := by
  have hel0 := q_el0 hs
  have hel1 := q_el1 hs
  have hel7 := q_el7 hs
  obtain ⟨hok, hi, hf, hr, hsh, hfl, hty, hca, hcp⟩ := hs
  have ka : K a = 7 := hel7 a (List.mem_of_getElem? ha)
  have l12 := hi.2.1
  have htl := (List.getElem?_eq_some_iff.mp hgl).1
  obtain ⟨ph0, w0, d0, n9, is0, came, b1, b2, b3, b4, b5, b6, b7, b8, b9, b10, b11, b12, b13, b14, b15, b16, b17⟩ := hfl.2.2.2.1 i a ha
  obtain rfl : ph = ph0 := Option.some.inj (h70.symm.trans b1)
  obtain rfl : w9 = w0 := Option.some.inj (h40.symm.trans b2.2.1)
  obtain rfl : d9 = d0 := Option.some.inj (h41.symm.trans b2.2.2.2.2.1)
  obtain rfl : is9 = is0 := Option.some.inj (h71.symm.trans b3)
  have kp := b2.1
  have kw : K w9 = 21 := b2.2.2.1
  have kd : K d9 = 22 := b2.2.2.2.2.2.1
  have k6 := hok.2.2.2.2.2.2.2.2.2.2.2.2.2.2.2.2.1
  have k13 := hok.2.2.2.2.2.2.2.2.2.2.2.2.2.2.2.2.2.2.2.2.2.2.2.1
  have k14 := hok.2.2.2.2.2.2.2.2.2.2.2.2.2.2.2.2.2.2.2.2.2.2.2.2.1
  obtain ⟨nt9, t1, t2, t3, t4⟩ := hty
  have e9 : nt9 = nt := (nI_eq (by have := t2.2.2.2.2.2.2.2.2.1; omega) (by omega)).mp (t1.symm.trans hnt)
  rw [e9] at t2 t3 t4
  have hzn : zn Z 29 = nt := zn_of hnt (by omega)
  have eZ : (p_sail0 Z M i t).1 = z1 Z 29 0 := rfl
  obtain ⟨M1, eM1⟩ : ∃ z, z = m1 (m1 (m1 (m1 (m1 M 19 i (M 19 i - nI (o_cost M i t))) 20 i (M 18 i)) 18 i (nI t)) 21 i (-1)) 22 i (Z 29) := ⟨_, rfl⟩
  have eM : (p_sail0 Z M i t).2 = o_kcp i M1 nt := by unfold p_sail0; dsimp only; rw [hzn, ← eM1]
  rw [eZ, eM]
  have z29 : ∀ j, j ≠ 29 → z1 Z 29 0 j = Z j := fun j h => z1_n _ _ h
  have m1j : ∀ j, j ≠ 18 → j ≠ 19 → j ≠ 20 → j ≠ 21 → j ≠ 22 → M1 j = M j := fun j h8 h9 h0 h1 h2 => by rw [eM1, m1_n _ _ h2, m1_n _ _ h1, m1_n _ _ h8, m1_n _ _ h0, m1_n _ _ h9]
  have mj : ∀ j, j ≠ 18 → j ≠ 19 → j ≠ 20 → j ≠ 21 → j ≠ 22 → j ≠ 23 → j ≠ 24 → o_kcp i M1 nt j = M j := fun j h8 h9 h0 h1 h2 h3 h4 => (q_kcp_n i M1 h3 h4 nt).trans (m1j j h8 h9 h0 h1 h2)
  have mk : ∀ j k, j ≠ 23 → j ≠ 24 → k ≠ i → o_kcp i M1 nt j k = M j k := fun j k h3 h4 hk => by rw [q_kcp_n i M1 h3 h4 nt, eM1, m1_k _ _ _ _ hk, m1_k _ _ _ _ hk, m1_k _ _ _ _ hk, m1_k _ _ _ _ hk, m1_k _ _ _ _ hk]
  have m18 : o_kcp i M1 nt 18 i = nI t := by rw [q_kcp_n i M1 (by decide) (by decide) nt, eM1, m1_n _ _ (by decide), m1_n _ _ (by decide), m1_at, if_pos rfl]
  have m19 : o_kcp i M1 nt 19 i = M 19 i - nI (o_cost M i t) := by rw [q_kcp_n i M1 (by decide) (by decide) nt, eM1, m1_n _ _ (by decide), m1_n _ _ (by decide), m1_n _ _ (by decide), m1_n _ _ (by decide), m1_at, if_pos rfl]
  have m20 : o_kcp i M1 nt 20 i = M 18 i := by rw [q_kcp_n i M1 (by decide) (by decide) nt, eM1, m1_n _ _ (by decide), m1_n _ _ (by decide), m1_n _ _ (by decide), m1_at, if_pos rfl]
  have m21 : o_kcp i M1 nt 21 i = -1 := by rw [q_kcp_n i M1 (by decide) (by decide) nt, eM1, m1_n _ _ (by decide), m1_at, if_pos rfl]
  have m22 : o_kcp i M1 nt 22 i = nI nt := by rw [q_kcp_n i M1 (by decide) (by decide) nt, eM1, m1_at, if_pos rfl]; exact hnt
  have hI : ∀ f b, ¬ ((f = 72 ∨ f = 74) ∧ b = a) → ¬ (f = 42 ∧ (b = ph ∨ b = cd 6)) → I2 f b = I f b := fun f b h1 h2 => by
    rw [eI]
    exact (if_neg (fun z => h2 ⟨z.1, Or.inr z.2⟩)).trans ((if_neg (fun z => h1 ⟨Or.inr z.1, z.2⟩)).trans ((if_neg (fun z => h2 ⟨z.1, Or.inl z.2⟩)).trans (if_neg (fun z => h1 ⟨Or.inl z.1, z.2⟩))))
  have hR : ∀ f b, ¬ ((f = 73 ∨ f = 71) ∧ b = a) → R2 f b = R f b := fun f b h => by
    rw [eR]
    exact (if_neg (fun z => h ⟨Or.inr z.1, z.2⟩)).trans (if_neg (fun z => h ⟨Or.inl z.1, z.2⟩))
  have hc : c_chg K I R N K I2 R2 N (fun f b => ((f = 72 ∨ f = 74) ∧ b = a) ∨ (f = 42 ∧ (b = ph ∨ b = cd 6))) (fun f b => (f = 73 ∨ f = 71) ∧ b = a) := fun b _ _ => ⟨rfl, rfl, fun f _ h => hI f b (fun z => h (Or.inl z)) (fun z => h (Or.inr z)), fun f _ _ h => hR f b h, fun h => by rw [hR 111 b (fun z => by rcases z.1 with z | z <;> exact absurd z (by decide))]; exact h⟩
  have hE : ∀ fs : List Nat, 72 ∉ fs → 74 ∉ fs → 42 ∉ fs → ∀ f b, (((f = 72 ∨ f = 74) ∧ b = a) ∨ (f = 42 ∧ (b = ph ∨ b = cd 6))) → f ∉ fs := fun fs h1 h2 h3 f b z => by
    rcases z with ⟨z | z, -⟩ | ⟨z, -⟩ <;> rw [z] <;> assumption
  have hER : ∀ fs : List Nat, 73 ∉ fs → 71 ∉ fs → ∀ f b, ((f = 73 ∨ f = 71) ∧ b = a) → f ∉ fs := fun fs h1 h2 f b z => by
    rcases z.1 with z | z <;> rw [z] <;> assumption
  have rn : ∀ f b, f ≠ 73 → f ≠ 71 → R2 f b = R f b := fun f b h1 h2 => hR f b (fun z => z.1.elim h1 h2)
  have r71 : R2 71 a = some goal := by rw [eR, m_up2_self]
  have r73 : R2 73 a = some is9 := by rw [eR, m_up2_ni _ _ (by decide), m_up2_self]
  have n6 : cd 6 ≠ a := fun z => by rw [z, ka] at k6; exact absurd k6 (by decide)
  have i42p : I2 42 ph = nI nt := by rw [eI, m_up2_ne _ _ b14, m_up2_ni _ _ (by decide), m_up2_self]
  have i42t : I2 42 (cd 6) = 0 := by rw [eI, m_up2_self]
  have i72 : I2 72 a = M 19 i - nI (o_cost M i t) := by rw [eI, m_up2_ni _ _ (by decide), m_up2_ni _ _ (by decide), m_up2_ni _ _ (by decide), m_up2_self]
  have i74 : I2 74 a = 0 := by rw [eI, m_up2_ni _ _ (by decide), m_up2_self]
  refine ⟨c_ok_chg hok hc (fun f b z => by rcases z.1 with z | z <;> rw [z] <;> rfl), q_isl_t hi hc (hE _ (by decide) (by decide) (by decide)) rfl (z29 0 (by decide)) (mj 7 (by decide) (by decide) (by decide) (by decide) (by decide) (by decide) (by decide)) (mj 8 (by decide) (by decide) (by decide) (by decide) (by decide) (by decide) (by decide)) (mj 9 (by decide) (by decide) (by decide) (by decide) (by decide) (by decide) (by decide)) (mj 10 (by decide) (by decide) (by decide) (by decide) (by decide) (by decide) (by decide)), q_fnd_t hf hc (hE _ (by decide) (by decide) (by decide)) (hER _ (by decide) (by decide)) (fun b _ => hI 50 b (fun z => by rcases z.1 with z | z <;> exact absurd z (by decide)) (fun z => absurd z.1 (by decide))) rfl (fun _ z => ⟨rfl, z⟩) rfl (z29 1 (by decide)) (mj 11 (by decide) (by decide) (by decide) (by decide) (by decide) (by decide) (by decide)) (mj 12 (by decide) (by decide) (by decide) (by decide) (by decide) (by decide) (by decide)) (mj 13 (by decide) (by decide) (by decide) (by decide) (by decide) (by decide) (by decide)) (mj 14 (by decide) (by decide) (by decide) (by decide) (by decide) (by decide) (by decide)) (mj 15 (by decide) (by decide) (by decide) (by decide) (by decide) (by decide) (by decide)) (mj 16 (by decide) (by decide) (by decide) (by decide) (by decide) (by decide) (by decide)), q_row_t hr hel1 hc (hE _ (by decide) (by decide) (by decide)) (hER _ (by decide) (by decide)) rfl rfl, q_shf_t hok hsh hel1 hc (hE _ (by decide) (by decide) (by decide)) (hER _ (by decide) (by decide)) rfl rfl (fun _ _ _ _ => rfl) (z29 3 (by decide)) (z29 4 (by decide)) (z29 5 (by decide)) (mj 17 (by decide) (by decide) (by decide) (by decide) (by decide) (by decide) (by decide)), ⟨hfl.1.symm ▸ (z29 2 (by decide)), hfl.2.1, hfl.2.2.1, fun s b hb => ?_, fun b c hb hcm hbc => ?_, fun b c p q hb hcm hbc hp hq => ?_⟩, ⟨0, z1_s _ _ _, ⟨k6, (rn 40 _ (by decide) (by decide)).trans t2.2.1, k13, t2.2.2.2.1, (rn 41 _ (by decide) (by decide)).trans t2.2.2.2.2.1, k14, t2.2.2.2.2.2.2.1, i42t, Nat.zero_le _, fun k _ h => absurd h (Nat.not_lt_zero _)⟩, fun k h => absurd h (Nat.not_lt_zero _), fun k _ h => absurd h (Nat.not_lt_zero _)⟩, q_cau_t hca rfl (z29 31 (by decide)) (mj 32 (by decide) (by decide) (by decide) (by decide) (by decide) (by decide) (by decide)), ?_⟩
  · by_cases hsi : s = i
    · rw [hsi] at hb ⊢
      obtain rfl : a = b := Option.some.inj (ha.symm.trans hb)
      have m23 : ∀ k, k < nt → o_kcp i M1 nt 23 (4 * i + k) = M 25 k := fun k hk => by
        rw [q_kcp_23, if_pos (by omega), show 4 * i + k - 4 * i = k by omega, m1j 25 (by decide) (by decide) (by decide) (by decide) (by decide)]
      have m24 : ∀ k, k < nt → o_kcp i M1 nt 24 (4 * i + k) = M 26 k := fun k hk => by
        rw [q_kcp_24, if_pos (by omega), show 4 * i + k - 4 * i = k by omega, m1j 26 (by decide) (by decide) (by decide) (by decide) (by decide)]
      have hph2 : c_ph K R2 N I2 A2 ph w9 d9 nt := ⟨kp, (rn 40 ph (by decide) (by decide)).trans h40, kw, b2.2.2.2.1, (rn 41 ph (by decide) (by decide)).trans h41, kd, b2.2.2.2.2.2.2.1, i42p, hn4, fun k h1 h2 => by rw [eAd k h2]; exact t2.2.2.2.2.2.2.2.2.2 k h1 h2⟩
      refine ⟨ph, w9, d9, nt, goal, is9, (rn 70 a (by decide) (by decide)).trans h70, hph2, r71, ?_, ⟨t, by omega, m18⟩, r73, List.mem_of_getElem? b4, ka, Or.inl i74, i72.trans m19.symm, m22, fun k hk => by rw [m23 k hk, eAw k hk]; exact t3 k hk, fun k h1 hk => by rw [m24 k hk, eAd k hk]; exact t4 k h1 hk, b14, b15, b16, fun _ => ⟨?_, ?_, ?_, Or.inl m21⟩⟩
      · rw [m18, nI_clamp (by omega)]; exact hgl
      · rw [m20]; exact b4
      · rw [m20]; exact b5
      · rw [m21, if_pos rfl]; exact i74
    · have hba : b ≠ a := fun z => hsi (c_nd hfl.2.2.1 (by rw [← z]; exact hb) ha)
      obtain ⟨ph', w', d', n', is', came', c1, c2, c3, c4, c5, c6, c7, c8, c9, c10, c11, c12, c13, c14, c15, c16, c17⟩ := hfl.2.2.2.1 s b hb
      have hpp : ph' ≠ ph := fun z => hfl.2.2.2.2.1 b a (List.mem_of_getElem? hb) (List.mem_of_getElem? ha) hba (by rw [c1, h70, z])
      have hww := hfl.2.2.2.2.2 b a ph' ph (List.mem_of_getElem? hb) (List.mem_of_getElem? ha) hba c1 h70
      rw [c2.2.1, c2.2.2.2.2.1, h40, h41] at hww
      have kw' : K w' = 21 := c2.2.2.1
      have kd' : K d' = 22 := c2.2.2.2.2.2.1
      have ew : A2 w' = A w' := eA w' (fun z => hww.1 (by rw [z])) (fun z => by rw [z, kd] at kw'; exact absurd kw' (by decide))
      have ed : A2 d' = A d' := eA d' (fun z => by rw [z, kw] at kd'; exact absurd kd' (by decide)) (fun z => hww.2 (by rw [z]))
      have n4' := c2.2.2.2.2.2.2.2.2.1
      refine ⟨ph', w', d', n', is', came', (hR 70 b (fun z => hba z.2)).trans c1, c_ph_t c2 hc (fun z => ?_) (fun f z => by rcases z.1 with z | z <;> rw [z] <;> decide) ed, (hR 71 b (fun z => hba z.2)).trans c3, ?_⟩
      · rcases z with ⟨z | z, -⟩ | ⟨-, z | z⟩
        · exact absurd z (by decide)
        · exact absurd z (by decide)
        · exact hpp z
        · exact c14 z
      · rw [mk 18 s (by decide) (by decide) hsi, mk 19 s (by decide) (by decide) hsi, mk 20 s (by decide) (by decide) hsi, mk 21 s (by decide) (by decide) hsi, mk 22 s (by decide) (by decide) hsi, mj 9 (by decide) (by decide) (by decide) (by decide) (by decide) (by decide) (by decide), hI 74 b (fun z => hba z.2) (fun z => absurd z.1 (by decide)), hI 72 b (fun z => hba z.2) (fun z => absurd z.1 (by decide)), hR 73 b (fun z => hba z.2), ew, ed]
        refine ⟨c4, c5, c6, c7, c8, c9, c10, c11, fun k hk => ?_, fun k h1 hk => ?_, c14, c15, c16, c17⟩
        · rw [q_kcp_23, if_neg (show ¬ (4 * i ≤ 4 * s + k ∧ 4 * s + k < 4 * i + nt) by clear c5 b5 c17 b17; omega), m1j 23 (by decide) (by decide) (by decide) (by decide) (by decide)]; exact c12 k hk
        · rw [q_kcp_24, if_neg (show ¬ (4 * i ≤ 4 * s + k ∧ 4 * s + k < 4 * i + nt) by clear c5 b5 c17 b17; omega), m1j 24 (by decide) (by decide) (by decide) (by decide) (by decide)]; exact c13 k h1 hk
  · rw [rn 70 b (by decide) (by decide), rn 70 c (by decide) (by decide)]
    exact hfl.2.2.2.2.1 b c hb hcm hbc
  · rw [rn 70 b (by decide) (by decide)] at hp
    rw [rn 70 c (by decide) (by decide)] at hq
    rw [rn 40 p (by decide) (by decide), rn 40 q (by decide) (by decide), rn 41 p (by decide) (by decide), rn 41 q (by decide) (by decide)]
    exact hfl.2.2.2.2.2 b c p q hb hcm hbc hp hq
  · unfold m_cap at hcp ⊢
    rw [rn 111 _ (by decide) (by decide)]
    exact hcp
set_option maxHeartbeats 800000 in
set_option maxRecDepth 100000 in
theorem c_X8_strike (l : Launch) (hnt : l.stackTraces = false) {G : mG} {K : Nat → Nat} {I : Nat → Nat → Int32} {R : Nat → Nat → Option Nat} {F : Nat → UInt32} {A : Nat → Nat → Int32} {N : Nat → Nat} {L : Nat → List Nat} {T : Nat → List Int32} {J : Nat → Nat → Int64} {D : Nat → Nat → UInt64} {o : Nat} {cd : Nat → Nat} {Z : Nat → Int32} {M : Nat → Nat → Int32} {nn : Int32} (hs : c_sim K I R N A L T o cd Z M) : vx_Met l yX8_strike wsX8_strike ({ frames := 11, cells := 2, slots := 12, locals := 380 } : Room) (va_Pc [.ref o, .int nn] (fun U => m_B G K I R F A N L T J D U ∧ c_str U)) (va_Qi (fun (r : Int32) (u : (Nat → Nat → Int32) × (Nat → Nat → Option Nat) × (Nat → Nat → Int32) × (Nat → List Nat)) => t_strike Z M nn = 0 ∧ r = nI (p_strike Z M nn.toNatClampNeg).1 ∧ c_sim K u.1 u.2.1 N u.2.2.1 u.2.2.2 T o cd Z (p_strike Z M nn.toNatClampNeg).2 ∧ c_fr K I R N A K u.1 u.2.1 N u.2.2.1) (fun u : (Nat → Nat → Int32) × (Nat → Nat → Option Nat) × (Nat → Nat → Int32) × (Nat → List Nat) => m_B G K (u.1) (u.2.1) F (u.2.2.1) N (u.2.2.2) T J D) (m_A G)) (vx_X (fun (u : Unit) => ¬ t_strike Z M nn = 0) (fun E (u : Unit) t => E = (if t_strike Z M nn = 1 then "java/lang/IndexOutOfBoundsException" else "java/lang/UnsupportedOperationException") ∧ m_B G K I R F A N L T J D t) (m_A G)) 2 12 (m_A G) := by
  refine vx_ofW (cc := cX8_strike) (maxL := 3) (ret := (some .int)) (by decide) rfl ?_
  intro p e s m args below meth c s₁ B hml hxt hv
  obtain ⟨rfl, hB, hcs⟩ := hv
  have hx := B.exec
  have hb := B.bytes
  have hr := B.returns
  have hts := atoms_spec (ws := wsX8_strike) B.pre
  have hown : s.vm.findClass RX8 = some m.cls := findClass_of_methodNamed B.named
  have hlocks := B.notSynchronized
  have hw := m_wo_in hB
  have hl := lv_entry ([.ref o, .int nn]) (n := 3) (Nat.le_of_ble_eq_true rfl)
  rw [lg_entry_eq]
  generalize (lg_sl ([.ref o, .int nn]) ++ List.replicate (3 - (lg_sl ([.ref o, .int nn])).length) Slot.unset).toArray = ls at hl ⊢
  have hl : lv_has ls 3 [(0, .ref o), (1, .int nn)] := hl
  have hok := hs.1
  have hel0 := q_el0 hs
  have hel1 := q_el1 hs
  have hel5 := q_el5 hs
  have hel7 := q_el7 hs
  have hel9 := q_el9 hs
  refine lv_aload_n hx hb dX8_strike_0 rfl (lv_at hl 0 rfl) ?_
  refine lv_iload_n hx hb dX8_strike_1 rfl (lv_at hl 1 rfl) ?_
  refine m_xq (vx_runV (As := [.int nn]) (rest := []) ⟨hx, hb, hml, hown, hts⟩ (c_X8_findNumbered l hnt hok hel1) (cwV 1 hts gX8_strike_X8_findNumbered rfl rfl rfl (by decide +kernel) ⟨Nat.le_of_ble_eq_true rfl, Nat.le_of_ble_eq_true rfl⟩) ⟨m_blind (fun U g mk a h => ⟨m_B_calling U g mk a h.1, c_str_calling U g mk a h.2⟩), m_recv hw (m_ent_9 hok.1) rfl, fun U hU hW => ⟨rfl, m_wo_call hw hU hW, c_str_warm hW hcs⟩⟩ rfl rfl hl.1 rfl (lv_room (Nat.le_of_ble_eq_true rfl)) dX8_strike_2 ⟨Nat.le_of_ble_eq_true rfl, Nat.le_of_ble_eq_true rfl⟩) hw (fun E_ ce_ q9_ u_2x H locs hpx hw hce hcv hcl => ?_) (fun r_2 u_2 H locs hp_2 hw => ?_)
  · skip
    obtain ⟨hpx, rfl⟩ := hpx
    exact vx_out (fun x hx9 => absurd (hxt x hx9) id) hlocks hce hcv hcl (fun t ht9 hA9 => ⟨(), (by rw [(q_sk1 (fun z => hpx ((q_fnd_nm hs nn).mp z)))]; decide), ⟨(by rw [(q_sk1 (fun z => hpx ((q_fnd_nm hs nn).mp z)))]; rfl), m_wo_out hw ht9 hA9⟩, m_wo_F hw ht9⟩) (m_wo_L hw) (Nat.le_of_ble_eq_true rfl) (Nat.le_of_ble_eq_true rfl)
  obtain ⟨i, ai, rfl, hi31, ha, rfl⟩ := hp_2
  have hi : i < (L (cd 1)).length := (List.getElem?_eq_some_iff.mp ha).1
  have hka := hel1 ai (List.mem_of_getElem? ha)
  have hv := (q_fnd_nm hs (nI i)).mpr ⟨i, hi, rfl⟩
  have hcl : (nI i).toNatClampNeg = i := nI_clamp hi31
  have hfi := hs.2.2.1.2.2 i ai ha
  have h16 := hfi.2.2.2.2.2.1
  have hz2 : zn Z 2 = (L (cd 5)).length := zn_of hs.2.2.2.2.2.1.1 (by have := hs.2.2.2.2.2.1.2.1; omega)
  refine lv_astore_n (lv' := [(2, .ref ai), (0, .ref o), (1, .int (nI i))]) hx hb dX8_strike_5 rfl hl (by decide) rfl (fun ls hl => ?_)
  refine lv_aload_n hx hb dX8_strike_6 rfl (lv_at hl 0 rfl) ?_
  refine g_1_6 hx hb hts (by decide +kernel) hown hw hka (hts (.fieldLink RX8 296 "Pirateindex$Find" "struck" "Z") (by decide +kernel)) dX8_strike_7 ?_
  rw [h16]
  refine lv_if_eq (tgt := 24) hx hb dX8_strike_10 (by decide) (fun c_10 => ?_) (fun c_10 => ?_)
  · skip
    have htz : t_strike Z M (nI i) = 0 := q_sk0 hv (by rw [hcl]; exact c_10)
    refine lv_aload_n hx hb dX8_strike_24 rfl (lv_at hl 0 rfl) ?_
    refine lv_iconst (v := 1) hx hb dX8_strike_25 (by decide) ?_
    refine p_1_6 hx hb hts (by decide +kernel) hown hw hka (hts (.fieldLink RX8 296 "Pirateindex$Find" "struck" "Z") (by decide +kernel)) (Or.inr rfl) dX8_strike_26 (fun H locs hw => ?_)
    refine lv_aload_n hx hb dX8_strike_29 rfl (lv_at hl 1 rfl) ?_
    refine g_9_2 (r := some (cd 2)) hx hb hts (by decide +kernel) hown hw hok.1 (hts (.fieldLink RX8 22 "Pirateindex" "index" "LPirateindex$Index;") (by decide +kernel)) hok.2.2.2.1 dX8_strike_30 ?_
    refine lv_aload_n hx hb dX8_strike_33 rfl (lv_at hl 0 rfl) ?_
    refine m_cv (va_runV (As := [.ref ai]) (rest := []) ⟨hx, hb, hml, hown, hts⟩ (c_X1_leave l hok.2.2.2.2.2.2.2.2.2.2.2.2.1 hok.2.2.2.2.2.2.2.2.2.2.2.2.2.2.2.2.2.2.2.2.2.2.2.2.2.1 hok.2.2.2.2.2.2.2.2.2.2.2.2.2.2.2.2.2.2.2.1 hel9) (cwV 1 hts gX8_strike_X1_leave rfl rfl rfl (by decide +kernel) ⟨Nat.le_of_ble_eq_true rfl, Nat.le_of_ble_eq_true rfl⟩) ⟨m_blind m_B_calling, m_recv hw (m_ent_2 hok.2.2.2.2.2.2.2.2.2.2.2.2.1) rfl, fun U hU hW => ⟨rfl, m_wo_call hw hU hW⟩⟩ rfl rfl hl.1 rfl (lv_room (Nat.le_of_ble_eq_true rfl)) dX8_strike_34 ⟨Nat.le_of_ble_eq_true rfl, Nat.le_of_ble_eq_true rfl⟩) hw (fun u_34 H locs hp_34 hw => ?_)
    obtain ⟨I_1, L_2⟩ := u_34
    have hw : m_wo G K I_1 R F A N L_2 T J D s H locs := hw
    dsimp only at hp_34
    obtain ⟨eIl, eLl⟩ := hp_34
    have hIl : ∀ g c, 1000 ≤ g → I_1 g c = I g c := fun g c h => (eIl g c (by omega)).trans (m_up2_ni _ _ (by omega))
    have hs1 : c_sim K I_1 R N A L_2 T o cd Z (m1 M 16 i 1) := q_struck hs ha eIl eLl
    have h14 := hfi.2.2.2.2.2.2.1
    have h15 := hfi.2.2.2.2.2.2.2.1
    have hL5 : L_2 (cd 5) = L (cd 5) := by rw [eLl, m_up_ne _ _ hok.2.2.2.2.2.2.2.2.2.2.2.2.2.2.2.2.2.2.2.2.2.2.2.2.2.2.2.2.2.2.2.2.2.2.2.2.2.2.2.2.2.2.2.2.2.2.2.2.2.2.2.2.1]
    refine lv_aload_n hx hb dX8_strike_37 rfl (lv_at hl 0 rfl) ?_
    refine g_1_4 (r := (R 14 ai)) hx hb hts (by decide +kernel) hown hw hka (hts (.fieldLink RX8 304 "Pirateindex$Find" "rival" "LPirateindex$Ship;") (by decide +kernel)) rfl dX8_strike_38 ?_
    refine m_ifnullQ (tgt := 53) hx hb dX8_strike_41 (by decide) (fun c_41 => ?_) (fun z_41 c_41 => ?_)
    · skip
      have hrn : M 15 i = -1 := by
        rcases h15 with z | z
        · exact z
        · rw [c_41] at h14
          by_cases e : M 15 i = -1
          · exact e
          · rw [if_neg e, List.getElem?_eq_getElem z] at h14; exact absurd h14 (by simp)
      obtain ⟨M9, eM9⟩ : ∃ z : Nat → Nat → Int32, z = o_fine (m1 M 16 i 1) i := ⟨_, rfl⟩
      have hs2 : c_sim K I_1 R N A L_2 T o cd Z M9 := by rw [eM9, q_fn0 (by rw [m1_n _ _ (by decide)]; exact hrn)]; exact hs1
      have hI0 : ∀ f b, 1000 ≤ f → I_1 f b = I f b := hIl
      refine lv_aload_n hx hb dX8_strike_53 rfl (lv_at hl 1 rfl) ?_
      refine m_ci (va_runV (As := []) (rest := []) ⟨hx, hb, hml, hown, hts⟩ (c_X8_sendShipsBack l hok (q_rw hs2) (q_shps hs2)) (cwV 0 hts gX8_strike_X8_sendShipsBack rfl rfl rfl (by decide +kernel) ⟨Nat.le_of_ble_eq_true rfl, Nat.le_of_ble_eq_true rfl⟩) ⟨m_blind m_B_calling, m_recv hw (m_ent_9 hok.1) rfl, fun U hU hW => ⟨rfl, m_wo_call hw hU hW⟩⟩ rfl rfl hl.1 rfl (lv_room (Nat.le_of_ble_eq_true rfl)) dX8_strike_54 ⟨Nat.le_of_ble_eq_true rfl, Nat.le_of_ble_eq_true rfl⟩) hw (fun r_54 u_54 H locs hp_54 hw => ?_)
      obtain ⟨I_3, R_4, A_5⟩ := u_54
      have hw : m_wo G K I_3 R_4 F A_5 N L_2 T J D s H locs := hw
      dsimp only at hp_54
      obtain ⟨hA3, eI3, eR3, er3⟩ := hp_54
      obtain ⟨hq1, hq2⟩ := q_sent hs2 _ (Nat.le_refl _)
      rw [List.take_length] at hq1 hq2
      rw [← eI3, ← eR3] at hq1
      rw [hL5] at hq1 hq2 er3
      have hss : c_sim K I_3 R_4 N A_5 L_2 T o cd Z (o_bk Z M9 (L (cd 5)).length).2 := c_sim_scr hq1 c_chg_rf (fun _ _ => rfl) (fun b h1 h2 _ => hA3 b h1 h2) hq1.2.2.2.2.2.2.2.2
      have hps : p_strike Z M i = o_bk Z M9 (L (cd 5)).length := by unfold p_strike; rw [hz2, ← eM9]
      have hr9 := er3.trans (congrArg nI hq2)
      have hfr9 : c_fr K I R N A K I_3 R_4 N A_5 := c_fr_tr (c_fr_A2 hok hA3) (c_fr_tr (c_fr_I (fun f b h => by rw [eI3, (q_bkf _ _ f b h).1]; exact hI0 f b h)) (c_fr_R (fun f b h => by rw [eR3]; exact (q_bkf _ _ f b h).2)))
      refine vx_ret ?_
      refine W.widen (k := 2) (n := 12) (by omega) (by omega) ?_
      exact W.iret (v := r_54) hx hb hr (fun t ht hW => ⟨⟨r_54, (I_3, R_4, A_5, L_2), rfl, ⟨htz, by rw [hcl, hps]; exact hr9, by rw [hcl, hps]; exact hss, hfr9⟩, m_wo_out hw ht hW.alike⟩, m_wo_F hw ht⟩) (m_wo_L hw) dX8_strike_57
    · skip
      have hrn : ¬ M 15 i = -1 := fun z => by rw [c_41, if_pos z] at h14; exact absurd h14 (by simp)
      have hrv : (L (cd 5))[(M 15 i).toNatClampNeg]? = some z_41 := by rw [c_41, if_neg hrn] at h14; exact h14.symm
      have hkrv := hel7 z_41 (List.mem_of_getElem? hrv)
      have hrv1 : (L_2 (cd 5))[(M 15 i).toNatClampNeg]? = some z_41 := by rw [hL5]; exact hrv
      refine lv_aload_n hx hb dX8_strike_44 rfl (lv_at hl 0 rfl) ?_
      refine g_1_4 (r := some z_41) hx hb hts (by decide +kernel) hown hw hka (hts (.fieldLink RX8 304 "Pirateindex$Find" "rival" "LPirateindex$Ship;") (by decide +kernel)) c_41 dX8_strike_45 ?_
      refine lv_bipush (v := 10) hx hb dX8_strike_48 (by decide) ?_
      refine m_cv (va_runV (As := [.int 10]) (rest := []) ⟨hx, hb, hml, hown, hts⟩ (c_X6_pay l hkrv) (cwV 1 hts gX8_strike_X6_pay rfl rfl rfl (by decide +kernel) ⟨Nat.le_of_ble_eq_true rfl, Nat.le_of_ble_eq_true rfl⟩) ⟨m_blind m_B_calling, m_recv hw (m_ent_7 hkrv) rfl, fun U hU hW => ⟨rfl, m_wo_call hw hU hW⟩⟩ rfl rfl hl.1 rfl (lv_room (Nat.le_of_ble_eq_true rfl)) dX8_strike_50 ⟨Nat.le_of_ble_eq_true rfl, Nat.le_of_ble_eq_true rfl⟩) hw (fun u_50 H locs hp_50 hw => ?_)
      have hw : m_wo G K u_50 R F A N L_2 T J D s H locs := hw
      obtain ⟨M9, eM9⟩ : ∃ z : Nat → Nat → Int32, z = o_fine (m1 M 16 i 1) i := ⟨_, rfl⟩
      have h72 : I_1 72 z_41 = m1 M 16 i 1 19 (M 15 i).toNatClampNeg := (hs1.2.2.2.2.2.1.2.2.2.1 _ z_41 hrv1).elim (fun _ ⟨_, _, _, _, _, _, _, _, _, _, _, _, _, _, q, _⟩ => q)
      have eI9 := hp_50
      rw [h72, o_pay_eq] at eI9
      have hs2 : c_sim K u_50 R N A L_2 T o cd Z M9 := by rw [eI9, eM9, q_fn1 (by rw [m1_n _ _ (by decide)]; exact hrn), m1_n M _ (by decide : (15 : Nat) ≠ 16)]; exact q_purse hs1 hrv1
      have hI0 : ∀ f b, 1000 ≤ f → u_50 f b = I f b := fun f b h => by rw [eI9, m_up2_ni _ _ (by omega)]; exact hIl f b h
      refine lv_aload_n hx hb dX8_strike_53 rfl (lv_at hl 1 rfl) ?_
      refine m_ci (va_runV (As := []) (rest := []) ⟨hx, hb, hml, hown, hts⟩ (c_X8_sendShipsBack l hok (q_rw hs2) (q_shps hs2)) (cwV 0 hts gX8_strike_X8_sendShipsBack rfl rfl rfl (by decide +kernel) ⟨Nat.le_of_ble_eq_true rfl, Nat.le_of_ble_eq_true rfl⟩) ⟨m_blind m_B_calling, m_recv hw (m_ent_9 hok.1) rfl, fun U hU hW => ⟨rfl, m_wo_call hw hU hW⟩⟩ rfl rfl hl.1 rfl (lv_room (Nat.le_of_ble_eq_true rfl)) dX8_strike_54 ⟨Nat.le_of_ble_eq_true rfl, Nat.le_of_ble_eq_true rfl⟩) hw (fun r_54 u_54 H locs hp_54 hw => ?_)
      obtain ⟨I_7, R_8, A_9⟩ := u_54
      have hw : m_wo G K I_7 R_8 F A_9 N L_2 T J D s H locs := hw
      dsimp only at hp_54
      obtain ⟨hA3, eI3, eR3, er3⟩ := hp_54
      obtain ⟨hq1, hq2⟩ := q_sent hs2 _ (Nat.le_refl _)
      rw [List.take_length] at hq1 hq2
      rw [← eI3, ← eR3] at hq1
      rw [hL5] at hq1 hq2 er3
      have hss : c_sim K I_7 R_8 N A_9 L_2 T o cd Z (o_bk Z M9 (L (cd 5)).length).2 := c_sim_scr hq1 c_chg_rf (fun _ _ => rfl) (fun b h1 h2 _ => hA3 b h1 h2) hq1.2.2.2.2.2.2.2.2
      have hps : p_strike Z M i = o_bk Z M9 (L (cd 5)).length := by unfold p_strike; rw [hz2, ← eM9]
      have hr9 := er3.trans (congrArg nI hq2)
      have hfr9 : c_fr K I R N A K I_7 R_8 N A_9 := c_fr_tr (c_fr_A2 hok hA3) (c_fr_tr (c_fr_I (fun f b h => by rw [eI3, (q_bkf _ _ f b h).1]; exact hI0 f b h)) (c_fr_R (fun f b h => by rw [eR3]; exact (q_bkf _ _ f b h).2)))
      refine vx_ret ?_
      refine W.widen (k := 2) (n := 12) (by omega) (by omega) ?_
      exact W.iret (v := r_54) hx hb hr (fun t ht hW => ⟨⟨r_54, (I_7, R_8, A_9, L_2), rfl, ⟨htz, by rw [hcl, hps]; exact hr9, by rw [hcl, hps]; exact hss, hfr9⟩, m_wo_out hw ht hW.alike⟩, m_wo_F hw ht⟩) (m_wo_L hw) dX8_strike_57
  · skip
    have htz : t_strike Z M (nI i) = 2 := q_sk2 hv (by rw [hcl]; exact c_10)
    obtain ⟨sa, hsa⟩ := hcs.1 (299, "the find is struck") (by decide)
    refine vx_throwSW (names := ["java/lang/RuntimeException", "java/lang/Exception"]) hx hb hnt hown (by decide) (by decide) (hts (.classLink RX8 128 "java/lang/UnsupportedOperationException") (by decide +kernel)) (hts (.initialized "java/lang/UnsupportedOperationException") (by decide +kernel)) hsa (vx_hat (B := .castable "java/lang/UnsupportedOperationException" "java/lang/UnsupportedOperationException" :: [.declares (Bundle.initS "java/lang/RuntimeException"), .declares (Bundle.initS "java/lang/Exception"), .declares (Bundle.initS Bundle.tN)]) (fun w h => hts w ((by decide +kernel : ∀ w ∈ (vx_atS RX8 132 "java/lang/UnsupportedOperationException" ["java/lang/RuntimeException", "java/lang/Exception"]).filter goodWord, w ∈ wsX8_strike) w h)) (by decide +kernel) (vx_c (m_wo_cas hw (by decide)) (c_str_dc hcs))) (by decide +kernel) hw.2.1.1 hw.2.1.2.1 hw.2.2.2.1 (hl.1.trans hml.symm) dX8_strike_13 dX8_strike_16 dX8_strike_17 dX8_strike_20 dX8_strike_23 (fun x hx9 => absurd (hxt x hx9) id) (Nat.le_of_ble_eq_true rfl) (Nat.le_of_ble_eq_true rfl) (Nat.le_of_ble_eq_true rfl) (Nat.le_of_ble_eq_true rfl) hlocks (fun t hA9 hs9 hq9 => ⟨(), (by rw [htz]; decide), ⟨(by rw [htz]; rfl), m_wo_up hw hA9 hs9 hq9⟩, m_wo_uF hw hs9 hq9⟩) (m_wo_L hw) (Nat.le_of_ble_eq_true rfl) (Nat.le_of_ble_eq_true rfl)
set_option maxHeartbeats 1600000 in
set_option maxRecDepth 100000 in
theorem c_X8_sail (l : Launch) (hnt : l.stackTraces = false) {G : mG} {K : Nat → Nat} {I : Nat → Nat → Int32} {R : Nat → Nat → Option Nat} {F : Nat → UInt32} {A : Nat → Nat → Int32} {N : Nat → Nat} {L : Nat → List Nat} {T : Nat → List Int32} {J : Nat → Nat → Int64} {D : Nat → Nat → UInt64} {o : Nat} {cd : Nat → Nat} {Z : Nat → Int32} {M : Nat → Nat → Int32} {nn : Int32} {nt : Nat} (hs : c_sim K I R N A L T o cd Z M) (hz9 : Z 29 = nI nt) (h4t : nt ≤ 4) (h12 : ∀ f, f < (L (cd 1)).length → ∃ i, i < (L (cd 0)).length ∧ M 12 f = nI i) (hnn : 0 < Z 29 → o_nan (o_askT (Z, M)).1 (o_askT (Z, M)).2 (L (cd 1)).length (L (cd 0)).length nt) (hky : 0 < Z 29 → o_keys Z M (L (cd 1)).length (L (cd 0)).length nt) (hxy : ∀ s t, s < (L (cd 5)).length → t < (L (cd 0)).length → ∃ n, n < 30000 ∧ o_far M s t = nI n) : vx_Met l yX8_sail wsX8_sail ({ frames := 11, cells := 3, slots := 18, locals := 460 } : Room) (va_Pc [.ref o, .int nn] (fun U => m_B G K I R F A N L T J D U ∧ c_str U)) (va_Qi (fun (r : Int32) (u : (Nat → Nat → Int32) × (Nat → Nat → Option Nat) × (Nat → UInt32) × (Nat → Nat → Int32)) => t_sail Z M (L (cd 1)).length (L (cd 0)).length nt nn = 0 ∧ r = o_goal Z M (L (cd 1)).length (L (cd 0)).length nt nn.toNatClampNeg ∧ c_sim K u.1 u.2.1 N u.2.2.2 L T o cd (p_sail Z M (L (cd 1)).length (L (cd 0)).length nt nn).1 (p_sail Z M (L (cd 1)).length (L (cd 0)).length nt nn).2 ∧ c_fr K I R N A K u.1 u.2.1 N u.2.2.2) (fun u : (Nat → Nat → Int32) × (Nat → Nat → Option Nat) × (Nat → UInt32) × (Nat → Nat → Int32) => m_B G K (u.1) (u.2.1) (u.2.2.1) (u.2.2.2) N L T J D) (m_A G)) (vx_X (fun (u : (Nat → Nat → Int32) × (Nat → UInt32) × (Nat → Nat → Int32) × (Nat → List Int32)) => ¬ t_sail Z M (L (cd 1)).length (L (cd 0)).length nt nn = 0 ∧ c_sim K u.1 R N u.2.2.1 L u.2.2.2 o cd (p_sail Z M (L (cd 1)).length (L (cd 0)).length nt nn).1 (p_sail Z M (L (cd 1)).length (L (cd 0)).length nt nn).2 ∧ c_fr K I R N A K u.1 R N u.2.2.1) (fun E (u : (Nat → Nat → Int32) × (Nat → UInt32) × (Nat → Nat → Int32) × (Nat → List Int32)) t => E = (if t_sail Z M (L (cd 1)).length (L (cd 0)).length nt nn = 1 then "java/lang/IndexOutOfBoundsException" else if t_sail Z M (L (cd 1)).length (L (cd 0)).length nt nn = 2 then "java/lang/UnsupportedOperationException" else if t_sail Z M (L (cd 1)).length (L (cd 0)).length nt nn = 3 then "java/util/NoSuchElementException" else "java/lang/IllegalStateException") ∧ m_B G K u.1 R u.2.1 u.2.2.1 N L u.2.2.2 J D t) (m_A G)) 3 18 (m_A G) := by
  refine vx_ofW (cc := cX8_sail) (maxL := 5) (ret := (some .int)) (by decide) rfl ?_
  intro p e s m args below meth c s₁ B hml hxt hv
  obtain ⟨rfl, hB, hcs⟩ := hv
  have hx := B.exec
  have hb := B.bytes
  have hr := B.returns
  have hts := atoms_spec (ws := wsX8_sail) B.pre
  have hown : s.vm.findClass RX8 = some m.cls := findClass_of_methodNamed B.named
  have hlocks := B.notSynchronized
  have hw := m_wo_in hB
  have hl := lv_entry ([.ref o, .int nn]) (n := 5) (Nat.le_of_ble_eq_true rfl)
  rw [lg_entry_eq]
  generalize (lg_sl ([.ref o, .int nn]) ++ List.replicate (5 - (lg_sl ([.ref o, .int nn])).length) Slot.unset).toArray = ls at hl ⊢
  have hl : lv_has ls 5 [(0, .ref o), (1, .int nn)] := hl
  have hok := hs.1
  have hel0 := q_el0 hs
  have hel1 := q_el1 hs
  have hel5 := q_el5 hs
  have hel7 := q_el7 hs
  have hel9 := q_el9 hs
  have hok0 := hok
  obtain ⟨nt9, ht1, ht2, ht3, ht4⟩ := hs.2.2.2.2.2.2.1
  have hp42 : I 42 (cd 6) = nI nt9 := ht2.2.2.2.2.2.2.2.1
  have hn4 : nt9 ≤ 4 := ht2.2.2.2.2.2.2.2.2.1
  have e9 : nt9 = nt := (nI_eq (by omega) (by omega)).mp (ht1.symm.trans hz9)
  rw [e9] at ht2 ht3 ht4 hp42 hn4
  clear ht1 e9
  have ht1 := hz9
  have hrw := q_rw hs
  refine lv_aload_n hx hb dX8_sail_0 rfl (lv_at hl 0 rfl) ?_
  refine lv_iload_n hx hb dX8_sail_1 rfl (lv_at hl 1 rfl) ?_
  refine m_xq (vx_runV (As := [.int nn]) (rest := []) ⟨hx, hb, hml, hown, hts⟩ (c_X8_shipOf l hnt hok hel7) (cwV 1 hts gX8_sail_X8_shipOf rfl rfl rfl (by decide +kernel) ⟨Nat.le_of_ble_eq_true rfl, Nat.le_of_ble_eq_true rfl⟩) ⟨m_blind (fun U g mk a h => ⟨m_B_calling U g mk a h.1, c_str_calling U g mk a h.2⟩), m_recv hw (m_ent_9 hok.1) rfl, fun U hU hW => ⟨rfl, m_wo_call hw hU hW, c_str_warm hW hcs⟩⟩ rfl rfl hl.1 rfl (lv_room (Nat.le_of_ble_eq_true rfl)) dX8_sail_2 ⟨Nat.le_of_ble_eq_true rfl, Nat.le_of_ble_eq_true rfl⟩) hw (fun E_ ce_ q9_ u_2x H locs hpx hw hce hcv hcl => ?_) (fun r_2 u_2 H locs hp_2 hw => ?_)
  · skip
    obtain ⟨hpx, rfl⟩ := hpx
    exact vx_out (fun x hx9 => absurd (hxt x hx9) id) hlocks hce hcv hcl (fun t ht9 hA9 => ⟨(I, F, A, T), ⟨by rw [(q_sa1 (fun z => hpx ((q_shp_nm hs nn).mp z)))]; decide, by rw [q_ps12 (Or.inl (q_sa1 (fun z => hpx ((q_shp_nm hs nn).mp z))))]; exact hs, c_fr_rf⟩, ⟨(by rw [(q_sa1 (fun z => hpx ((q_shp_nm hs nn).mp z)))]; rfl), m_wo_out hw ht9 hA9⟩, m_wo_F hw ht9⟩) (m_wo_L hw) (Nat.le_of_ble_eq_true rfl) (Nat.le_of_ble_eq_true rfl)
  obtain ⟨i, ai, rfl, hi31, ha, rfl⟩ := hp_2
  have hi : i < (L (cd 5)).length := (List.getElem?_eq_some_iff.mp ha).1
  have hka := hel7 ai (List.mem_of_getElem? ha)
  have hv := (q_shp_nm hs (nI i)).mpr ⟨i, hi, rfl⟩
  obtain ⟨ph, w9, d9, n, is9, came, h70, hph, h71, hst, hst9, h73, hcm, hk7, h74, h72, hn, hwd, hgp, np, nw, nd, hkp⟩ := hs.2.2.2.2.2.1.2.2.2.1 i ai ha
  have hkis : K is9 = 3 := hel0 is9 (List.mem_of_getElem? hst)
  have hkph := hph.1
  have hcl : (nI i).toNatClampNeg = i := nI_clamp hi31
  refine lv_astore_n (lv' := [(2, .ref ai), (0, .ref o), (1, .int (nI i))]) hx hb dX8_sail_5 rfl hl (by decide) rfl (fun ls hl => ?_)
  refine lv_aload_n hx hb dX8_sail_6 rfl (lv_at hl 1 rfl) ?_
  refine m_xv (vx_runV (As := []) (rest := []) ⟨hx, hb, hml, hown, hts⟩ (c_X8_requireMap l hnt hok) (cwV 0 hts gX8_sail_X8_requireMap rfl rfl rfl (by decide +kernel) ⟨Nat.le_of_ble_eq_true rfl, Nat.le_of_ble_eq_true rfl⟩) ⟨m_blind (fun U g mk a h => ⟨m_B_calling U g mk a h.1, c_str_calling U g mk a h.2⟩), m_recv hw (m_ent_9 hok.1) rfl, fun U hU hW => ⟨rfl, m_wo_call hw hU hW, c_str_warm hW hcs⟩⟩ rfl rfl hl.1 rfl (lv_room (Nat.le_of_ble_eq_true rfl)) dX8_sail_7 ⟨Nat.le_of_ble_eq_true rfl, Nat.le_of_ble_eq_true rfl⟩) hw (fun E_ ce_ q9_ u_7x H locs hpx hw hce hcv hcl => ?_) (fun u_7 H locs hp_7 hw => ?_)
  · skip
    obtain ⟨hpx, rfl⟩ := hpx
    exact vx_out (fun x hx9 => absurd (hxt x hx9) id) hlocks hce hcv hcl (fun t ht9 hA9 => ⟨(I, F, A, T), ⟨by rw [(q_sa2 hv (fun z => absurd z (by rw [ht1, ← hp42, hpx]; decide)))]; decide, by rw [q_ps12 (Or.inr (q_sa2 hv (fun z => absurd z (by rw [ht1, ← hp42, hpx]; decide))))]; exact hs, c_fr_rf⟩, ⟨(by rw [(q_sa2 hv (fun z => absurd z (by rw [ht1, ← hp42, hpx]; decide)))]; rfl), m_wo_out hw ht9 hA9⟩, m_wo_F hw ht9⟩) (m_wo_L hw) (Nat.le_of_ble_eq_true rfl) (Nat.le_of_ble_eq_true rfl)
  have hn0 : nt ≠ 0 := fun z => hp_7 (by rw [hp42, z]; rfl)
  have hz29 : 0 < Z 29 := by rw [ht1]; exact q_pos (by omega) (fun z => hp_7 (hp42.trans z))
  refine lv_aload_n hx hb dX8_sail_10 rfl (lv_at hl 1 rfl) ?_
  refine lv_iconst (v := 0) hx hb dX8_sail_11 (by decide) ?_
  refine lv_aload_n hx hb dX8_sail_12 rfl (lv_at hl 0 rfl) ?_
  refine g_7_1 (r := some is9) hx hb hts (by decide +kernel) hown hw hka (hts (.fieldLink RX8 245 "Pirateindex$Ship" "where" "LPirateindex$Isle;") (by decide +kernel)) h71 dX8_sail_13 ?_
  refine m_cq (va_runV (As := [.int 0, .ref is9]) (rest := []) ⟨hx, hb, hml, hown, hts⟩ (c_X8_hitRanked l (rk := 0) hok hel0 ht2 hrw (q_nan hs ht1 hn4 h12 ht3 (hnn hz29)) (fun a _ => by rw [q_sco hs ht1 hn0 hn4 h12 ht3 ht4]; exact (hnn hz29).2.2 _) hkis) (cwV 2 hts gX8_sail_X8_hitRanked rfl rfl rfl (by decide +kernel) ⟨Nat.le_of_ble_eq_true rfl, Nat.le_of_ble_eq_true rfl⟩) ⟨m_blind m_B_calling, m_recv hw (m_ent_9 hok.1) rfl, fun U hU hW => ⟨rfl, m_wo_call hw hU hW⟩⟩ rfl rfl hl.1 rfl (lv_room (Nat.le_of_ble_eq_true rfl)) dX8_sail_16 ⟨Nat.le_of_ble_eq_true rfl, Nat.le_of_ble_eq_true rfl⟩) hw (fun r_16 u_16 H locs hp_16 hw => ?_)
  obtain ⟨F_1, A_2⟩ := u_16
  have hw : m_wo G K I R F_1 A_2 N L T J D s H locs := hw
  dsimp only at hp_16
  obtain ⟨hA1, hF1, hr1⟩ := hp_16
  have hs1 : c_sim K I R N A_2 L T o cd Z M := c_sim_scr hs c_chg_rf (fun _ _ => rfl) (fun b h1 h2 _ => hA1 b h1 h2) hs.2.2.2.2.2.2.2.2
  have hF9 : ∀ j a, (L (cd 0))[j]? = some a → F_1 a = o_sT Z M (L (cd 1)).length (L (cd 0)).length nt j := fun j a hja => by
    rw [hF1 a (List.mem_of_getElem? hja), q_sco hs ht1 hn0 hn4 h12 ht3 ht4, (hs.2.1.2.2 j a hja).2.1]
    rfl
  obtain ⟨t0, ht0, h18⟩ := hst9
  have hst0 : (L (cd 0))[t0]? = some is9 := by rw [h18, nI_clamp (by omega)] at hst; exact hst
  have hrk := q_rank (sh := i) (rk := 0) hs hF9 (hky hz29) hst0 h18 (fun t ht => hxy i t hi ht)
  rw [← hr1] at hrk
  refine m_astore_nQ (lv' := [(3, va_rf r_16), (2, .ref ai), (0, .ref o), (1, .int (nI i))]) hx hb dX8_sail_19 rfl hl (by decide) rfl (fun ls hl => ?_)
  refine m_aload_nQ hx hb dX8_sail_20 rfl (lv_at hl 0 rfl) ?_
  refine m_ifnonnullQ (tgt := 41) hx hb dX8_sail_21 (by decide) (fun c_21 => ?_) (fun z_21 c_21 => ?_)
  · skip
    rw [c_21] at hl
    have hl : lv_has ls 5 [(3, .null), (2, .ref ai), (0, .ref o), (1, .int (nI i))] := hl
    have hrn : o_rank Z M (L (cd 1)).length (L (cd 0)).length nt i 0 (L (cd 0)).length = -1 := by
      rcases hrk with ⟨-, z⟩ | ⟨t, a, -, -, z, -⟩
      · exact z
      · rw [c_21] at z; exact absurd z (by simp)
    have hgo : o_goal Z M (L (cd 1)).length (L (cd 0)).length nt (nI i).toNatClampNeg = -1 := by rw [hcl]; exact hrn
    have htz : t_sail Z M (L (cd 1)).length (L (cd 0)).length nt (nI i) = 3 := q_sa3 hv hz29 hgo
    refine lv_aload_n hx hb dX8_sail_24 rfl (lv_at hl 2 rfl) ?_
    refine lv_bipush (v := 104) hx hb dX8_sail_25 (by decide) ?_
    refine m_cv (va_runV (As := [.int 104]) (rest := []) ⟨hx, hb, hml, hown, hts⟩ (c_X8_leaveCause l (ch := 104) hok (by decide)) (cwV 1 hts gX8_sail_X8_leaveCause rfl rfl rfl (by decide +kernel) ⟨Nat.le_of_ble_eq_true rfl, Nat.le_of_ble_eq_true rfl⟩) ⟨m_blind m_B_calling, m_recv hw (m_ent_9 hok.1) rfl, fun U hU hW => ⟨rfl, m_wo_call hw hU hW⟩⟩ rfl rfl hl.1 rfl (lv_room (Nat.le_of_ble_eq_true rfl)) dX8_sail_27 ⟨Nat.le_of_ble_eq_true rfl, Nat.le_of_ble_eq_true rfl⟩) hw (fun u_27 H locs hp_27 hw => ?_)
    obtain ⟨I_3, A_4, T_5⟩ := u_27
    have hw : m_wo G K I_3 R F_1 A_4 N L T_5 J D s H locs := hw
    dsimp only at hp_27
    obtain ⟨hIC, hAC, eTC⟩ := hp_27
    have hsC := q_cause1 (ch := 104) hs1 hIC hAC eTC
    have hfC : c_fr K I R N A K I_3 R N A_4 := c_fr_tr (c_fr_A2 hok hA1) (c_fr_tr (c_fr_I (fun f b h => hIC f b (by omega))) (c_fr_A (fun b _ _ _ _ h => hAC b h)))
    obtain ⟨sa, hsa⟩ := hcs.1 (267, "no hit") (by decide)
    refine vx_throw13W (names := ["java/lang/RuntimeException", "java/lang/Exception"]) hx hb hnt hown (by decide) (by decide) (hts (.classLink RX8 140 "java/util/NoSuchElementException") (by decide +kernel)) (hts (.initialized "java/util/NoSuchElementException") (by decide +kernel)) hsa (vx_hat (B := .castable "java/util/NoSuchElementException" "java/util/NoSuchElementException" :: [.declares (Bundle.initS "java/lang/RuntimeException"), .declares (Bundle.initS "java/lang/Exception"), .declares (Bundle.initS Bundle.tN)]) (fun w h => hts w ((by decide +kernel : ∀ w ∈ (vx_at13 RX8 144 "java/util/NoSuchElementException" ["java/lang/RuntimeException", "java/lang/Exception"]).filter goodWord, w ∈ wsX8_sail) w h)) (by decide +kernel) (vx_c (m_wo_cas hw (by decide)) (c_str_dc hcs))) (by decide +kernel) hw.2.1.1 hw.2.1.2.1 hw.2.2.2.1 (hl.1.trans hml.symm) dX8_sail_30 dX8_sail_33 dX8_sail_34 dX8_sail_37 dX8_sail_40 (fun x hx9 => absurd (hxt x hx9) id) (Nat.le_of_ble_eq_true rfl) (Nat.le_of_ble_eq_true rfl) (Nat.le_of_ble_eq_true rfl) (Nat.le_of_ble_eq_true rfl) hlocks (fun t hA9 hs9 hq9 => ⟨(I_3, F_1, A_4, T_5), ⟨by rw [htz]; decide, by rw [q_ps3 htz]; exact hsC, hfC⟩, ⟨(by rw [htz]; rfl), m_wo_up hw hA9 hs9 hq9⟩, m_wo_uF hw hs9 hq9⟩) (m_wo_L hw) (Nat.le_of_ble_eq_true rfl) (Nat.le_of_ble_eq_true rfl)
  · skip
    rw [c_21] at hl
    have hl : lv_has ls 5 [(3, .ref z_21), (2, .ref ai), (0, .ref o), (1, .int (nI i))] := hl
    obtain ⟨t9, htl, ha9, hrn⟩ : ∃ t, t < (L (cd 0)).length ∧ (L (cd 0))[t]? = some z_21 ∧ o_rank Z M (L (cd 1)).length (L (cd 0)).length nt i 0 (L (cd 0)).length = nI t := by
      rcases hrk with ⟨z, -⟩ | ⟨t, a, g1, g2, z, g3⟩
      · rw [c_21] at z; exact absurd z (by simp)
      · rw [c_21] at z; rw [Option.some.inj z]; exact ⟨t, g1, g2, g3⟩
    have hkz := hel0 z_21 (List.mem_of_getElem? ha9)
    have h30z := (hs.2.1.2.2 t9 z_21 ha9).2.1
    have hgo : o_goal Z M (L (cd 1)).length (L (cd 0)).length nt (nI i).toNatClampNeg = nI t9 := by rw [hcl]; exact hrn
    have hl12 := hs.2.1.2.1
    obtain ⟨n9, hn9, hfn⟩ := hxy i t9 hi htl
    have hco : o_cost M i t9 = o_root n9 := by unfold o_cost; rw [hfn, nI_clamp (by omega)]
    refine lv_aload_n hx hb dX8_sail_41 rfl (lv_at hl 0 rfl) ?_
    refine lv_aload_n hx hb dX8_sail_42 rfl (lv_at hl 1 rfl) ?_
    refine g_7_1 (r := some is9) hx hb hts (by decide +kernel) hown hw hka (hts (.fieldLink RX8 245 "Pirateindex$Ship" "where" "LPirateindex$Isle;") (by decide +kernel)) h71 dX8_sail_43 ?_
    refine m_ci (va_runV (As := [.ref is9]) (rest := []) ⟨hx, hb, hml, hown, hts⟩ (c_X2_squareTo l hkz hkis) (cwV 1 hts gX8_sail_X2_squareTo rfl rfl rfl (by decide +kernel) ⟨Nat.le_of_ble_eq_true rfl, Nat.le_of_ble_eq_true rfl⟩) ⟨m_blind m_B_calling, m_recv hw (m_ent_3 hkz) rfl, fun U hU hW => ⟨rfl, m_wo_call hw hU hW⟩⟩ rfl rfl hl.1 rfl (lv_room (Nat.le_of_ble_eq_true rfl)) dX8_sail_46 ⟨Nat.le_of_ble_eq_true rfl, Nat.le_of_ble_eq_true rfl⟩) hw (fun r_46 u_46 H locs hp_46 hw => ?_)
    obtain rfl : r_46 = nI n9 := hp_46.trans ((q_far hs ha9 hst0 h18 ht0).trans hfn)
    refine m_ci (va_runS (As := [.int (nI n9)]) (rest := []) ⟨hx, hb, hml, hown, hts⟩ (c_X8_rootOf l hn9) (va_cwS 1 hts gX8_sail_X8_rootOf rfl rfl rfl (by decide +kernel) ⟨Nat.le_of_ble_eq_true rfl, Nat.le_of_ble_eq_true rfl⟩) ⟨m_blind m_B_calling, fun U hU hW => ⟨rfl, m_wo_call hw hU hW⟩⟩ rfl rfl hl.1 rfl (lv_room (Nat.le_of_ble_eq_true rfl)) dX8_sail_49 ⟨Nat.le_of_ble_eq_true rfl, Nat.le_of_ble_eq_true rfl⟩) hw (fun r_49 u_49 H locs hp_49 hw => ?_)
    obtain rfl : r_49 = nI (o_root n9) := hp_49
    refine lv_istore (lv' := [(4, .int (nI (o_root n9))), (3, .ref z_21), (2, .ref ai), (0, .ref o), (1, .int (nI i))]) hx hb dX8_sail_52 hl (by decide) rfl (fun ls hl => ?_)
    refine lv_aload_n hx hb dX8_sail_54 rfl (lv_at hl 2 rfl) ?_
    refine g_7_2 hx hb hts (by decide +kernel) hown hw hka (hts (.fieldLink RX8 125 "Pirateindex$Ship" "purse" "I") (by decide +kernel)) dX8_sail_55 ?_
    rw [h72]
    refine lv_iload hx hb dX8_sail_58 (lv_at hl 0 rfl) ?_
    refine lv_icmp_ge (tgt := 79) hx hb dX8_sail_60 (by decide) (fun c_60 => ?_) (fun c_60 => ?_)
    · skip
      have hpu : ¬ M 19 i < nI (o_cost M i t9) := by rw [hco]; exact Int32.not_lt.mpr c_60
      have htz : t_sail Z M (L (cd 1)).length (L (cd 0)).length nt (nI i) = 0 := q_sa0 hv hz29 (by omega) hgo (by rw [hcl]; exact hpu)
      refine lv_aload_n hx hb dX8_sail_79 rfl (lv_at hl 2 rfl) ?_
      refine lv_aload_n hx hb dX8_sail_80 rfl (lv_at hl 1 rfl) ?_
      refine lv_aload_n hx hb dX8_sail_81 rfl (lv_at hl 3 rfl) ?_
      refine g_9_6 (r := some (cd 6)) hx hb hts (by decide +kernel) hown hw hok.1 (hts (.fieldLink RX8 46 "Pirateindex" "typed" "LPirateindex$Phrase;") (by decide +kernel)) hok.2.2.2.2.2.2.2.1 dX8_sail_82 ?_
      refine lv_iload hx hb dX8_sail_85 (lv_at hl 0 rfl) ?_
      obtain ⟨nt8, g1, g2, g3, g4⟩ := hs1.2.2.2.2.2.2.1
      have hdw := c_dw hok
      have hA13 : ∀ k, k < nt → A_2 (cd 13) k = M 25 k := fun k hk => by rw [hA1 _ hdw.1 hdw.2.1]; exact ht3 k hk
      have hAb : ∀ b, b ≠ cd 11 → b ≠ cd 12 → A_2 b = A b := hA1
      refine m_cv (va_runV (As := [.ref z_21, .ref (cd 6), .int (nI (o_root n9))]) (rest := []) ⟨hx, hb, hml, hown, hts⟩ (c_X6_sailTo l hka h70 hph.1 hph.2.1 hph.2.2.1 hph.2.2.2.1 hph.2.2.2.2.1 hph.2.2.2.2.2.1 hph.2.2.2.2.2.2.1 ht2.1 ht2.2.1 ht2.2.2.1 ht2.2.2.2.1 ht2.2.2.2.2.1 ht2.2.2.2.2.2.1 ht2.2.2.2.2.2.2.1 hp42 hn4 (Ne.symm np) (Ne.symm nw) (Ne.symm nd) h71) (cwV 3 hts gX8_sail_X6_sailTo rfl rfl rfl (by decide +kernel) ⟨Nat.le_of_ble_eq_true rfl, Nat.le_of_ble_eq_true rfl⟩) ⟨m_blind m_B_calling, m_recv hw (m_ent_7 hka) rfl, fun U hU hW => ⟨rfl, m_wo_call hw hU hW⟩⟩ rfl rfl hl.1 rfl (lv_room (Nat.le_of_ble_eq_true rfl)) dX8_sail_87 ⟨Nat.le_of_ble_eq_true rfl, Nat.le_of_ble_eq_true rfl⟩) hw (fun u_87 H locs hp_87 hw => ?_)
      obtain ⟨I_6, R_7, A_8⟩ := u_87
      have hw : m_wo G K I_6 R_7 F_1 A_8 N L T J D s H locs := hw
      dsimp only at hp_87
      obtain ⟨eI5, eR5, eA5, eA6, eA7⟩ := hp_87
      rw [h72, if_neg (by rw [← hco]; exact hpu)] at eI5
      have hcR : c_chg K I R N K I R_7 N c_no (fun f b => (f = 73 ∨ f = 71) ∧ b = ai) := fun b _ _ => ⟨rfl, rfl, fun _ _ _ => rfl, fun f _ _ h => by rw [eR5]; exact (if_neg (fun z => h ⟨Or.inr z.1, z.2⟩)).trans (if_neg (fun z => h ⟨Or.inl z.1, z.2⟩)), fun h => by rw [eR5, m_up2_ni _ _ (by decide), m_up2_ni _ _ (by decide)]; exact h⟩
      have hok := c_ok_chg hok hcR (fun f b z => by rcases z.1 with z | z <;> rw [z] <;> rfl)
      refine lv_aload_n hx hb dX8_sail_90 rfl (lv_at hl 3 rfl) ?_
      refine g_9_6 (r := some (cd 6)) hx hb hts (by decide +kernel) hown hw hok.1 (hts (.fieldLink RX8 46 "Pirateindex" "typed" "LPirateindex$Phrase;") (by decide +kernel)) hok.2.2.2.2.2.2.2.1 dX8_sail_91 ?_
      refine m_cv (va_runV (As := []) (rest := []) ⟨hx, hb, hml, hown, hts⟩ (c_X3_clear l hok.2.2.2.2.2.2.2.2.2.2.2.2.2.2.2.2.1) (cwV 0 hts gX8_sail_X3_clear rfl rfl rfl (by decide +kernel) ⟨Nat.le_of_ble_eq_true rfl, Nat.le_of_ble_eq_true rfl⟩) ⟨m_blind m_B_calling, m_recv hw (m_ent_4 hok.2.2.2.2.2.2.2.2.2.2.2.2.2.2.2.2.1) rfl, fun U hU hW => ⟨rfl, m_wo_call hw hU hW⟩⟩ rfl rfl hl.1 rfl (lv_room (Nat.le_of_ble_eq_true rfl)) dX8_sail_94 ⟨Nat.le_of_ble_eq_true rfl, Nat.le_of_ble_eq_true rfl⟩) hw (fun u_94 H locs hp_94 hw => ?_)
      have hw : m_wo G K u_94 R_7 F_1 A_8 N L T J D s H locs := hw
      have eI6 := hp_94
      rw [eI5, ← hco] at eI6
      have hss := q_sail hs1 ha hz9 hn4 h70 hph.2.1 hph.2.2.2.2.1 h71 ha9 eI6 eR5 eA5 eA6 eA7
      have hfr9 : c_fr K I R N A K u_94 R_7 N A_8 := c_fr_tr (c_fr_A2 hok0 hA1) (c_fr_tr (c_fr_tr (c_fr_I (fun f b h => by rw [eI6, m_up2_ni _ _ (by omega), m_up2_ni _ _ (by omega), m_up2_ni _ _ (by omega), m_up2_ni _ _ (by omega)])) (c_fr_R (fun f b h => by rw [eR5, m_up2_ni _ _ (by omega), m_up2_ni _ _ (by omega)]))) (c_fr_A (fun b h1 h2 _ _ _ => eA5 b (fun z => h1 (by rw [z]; exact hph.2.2.1)) (fun z => h2 (by rw [z]; exact hph.2.2.2.2.2.1)))))
      have h30 : u_94 30 z_21 = nI t9 := by rw [eI6, m_up2_ni _ _ (by decide), m_up2_ni _ _ (by decide), m_up2_ni _ _ (by decide), m_up2_ni _ _ (by decide)]; exact h30z
      refine lv_aload_n hx hb dX8_sail_97 rfl (lv_at hl 1 rfl) ?_
      refine g_3_0 hx hb hts (by decide +kernel) hown hw hkz (hts (.fieldLink RX8 84 "Pirateindex$Isle" "number" "I") (by decide +kernel)) dX8_sail_98 ?_
      rw [h30]
      refine vx_ret ?_
      refine W.widen (k := 3) (n := 18) (by omega) (by omega) ?_
      exact W.iret (v := (nI t9)) hx hb hr (fun t ht hW => ⟨⟨(nI t9), (u_94, R_7, F_1, A_8), rfl, ⟨htz, hgo.symm, by rw [q_ps0 htz hgo (by omega), hcl]; exact hss, hfr9⟩, m_wo_out hw ht hW.alike⟩, m_wo_F hw ht⟩) (m_wo_L hw) dX8_sail_101
    · skip
      have hpu : M 19 i < nI (o_cost M i t9) := by rw [hco]; exact Int32.not_le.mp c_60
      have htz : t_sail Z M (L (cd 1)).length (L (cd 0)).length nt (nI i) = 4 := q_sa4 hv hz29 (by omega) hgo (by rw [hcl]; exact hpu)
      refine lv_aload_n hx hb dX8_sail_63 rfl (lv_at hl 3 rfl) ?_
      refine lv_bipush (v := 99) hx hb dX8_sail_64 (by decide) ?_
      refine m_cv (va_runV (As := [.int 99]) (rest := []) ⟨hx, hb, hml, hown, hts⟩ (c_X8_leaveCause l (ch := 99) hok (by decide)) (cwV 1 hts gX8_sail_X8_leaveCause rfl rfl rfl (by decide +kernel) ⟨Nat.le_of_ble_eq_true rfl, Nat.le_of_ble_eq_true rfl⟩) ⟨m_blind m_B_calling, m_recv hw (m_ent_9 hok.1) rfl, fun U hU hW => ⟨rfl, m_wo_call hw hU hW⟩⟩ rfl rfl hl.1 rfl (lv_room (Nat.le_of_ble_eq_true rfl)) dX8_sail_66 ⟨Nat.le_of_ble_eq_true rfl, Nat.le_of_ble_eq_true rfl⟩) hw (fun u_66 H locs hp_66 hw => ?_)
      obtain ⟨I_10, A_11, T_12⟩ := u_66
      have hw : m_wo G K I_10 R F_1 A_11 N L T_12 J D s H locs := hw
      dsimp only at hp_66
      obtain ⟨hIC, hAC, eTC⟩ := hp_66
      have hsC := q_cause1 (ch := 99) hs1 hIC hAC eTC
      have hfC : c_fr K I R N A K I_10 R N A_11 := c_fr_tr (c_fr_A2 hok hA1) (c_fr_tr (c_fr_I (fun f b h => hIC f b (by omega))) (c_fr_A (fun b _ _ _ _ h => hAC b h)))
      obtain ⟨sa, hsa⟩ := hcs.1 (130, "too few coins") (by decide)
      refine vx_throwS (names := ["java/lang/RuntimeException", "java/lang/Exception"]) hx hb hnt hown (by decide) (by decide) (hts (.classLink RX8 68 "java/lang/IllegalStateException") (by decide +kernel)) (hts (.initialized "java/lang/IllegalStateException") (by decide +kernel)) hsa (vx_hat (B := .castable "java/lang/IllegalStateException" "java/lang/IllegalStateException" :: [.declares (Bundle.initS "java/lang/RuntimeException"), .declares (Bundle.initS "java/lang/Exception"), .declares (Bundle.initS Bundle.tN)]) (fun w h => hts w ((by decide +kernel : ∀ w ∈ (vx_atS RX8 72 "java/lang/IllegalStateException" ["java/lang/RuntimeException", "java/lang/Exception"]).filter goodWord, w ∈ wsX8_sail) w h)) (by decide +kernel) (vx_c (m_wo_cas hw (by decide)) (c_str_dc hcs))) (by decide +kernel) hw.2.1.1 hw.2.1.2.1 hw.2.2.2.1 (hl.1.trans hml.symm) dX8_sail_69 dX8_sail_72 dX8_sail_73 dX8_sail_75 dX8_sail_78 (fun x hx9 => absurd (hxt x hx9) id) (Nat.le_of_ble_eq_true rfl) (Nat.le_of_ble_eq_true rfl) (Nat.le_of_ble_eq_true rfl) (Nat.le_of_ble_eq_true rfl) hlocks (fun t hA9 hs9 hq9 => ⟨(I_10, F_1, A_11, T_12), ⟨by rw [htz]; decide, by rw [q_ps4 htz]; exact hsC, hfC⟩, ⟨(by rw [htz]; rfl), m_wo_up hw hA9 hs9 hq9⟩, m_wo_uF hw hs9 hq9⟩) (m_wo_L hw) (Nat.le_of_ble_eq_true rfl) (Nat.le_of_ble_eq_true rfl)
