theorem nI_subN {a b : Nat} (h : b ≤ a) : nI a - nI b = nI (a - b) := by
  have e := nI_add (a - b) b
  rw [Nat.sub_add_cancel h] at e
  rw [← e, Int32.add_sub_cancel]
def w_seg (Z : mZ) (M : mM) (m : Nat) : Prop := (∀ f, f < zn Z 1 → M 14 f = -1 ∨ ∃ v, v < m ∧ M 14 f = nI v) ∧ (Z 5 = -1 ∨ ∃ v, v < m ∧ Z 5 = nI v) ∧ (¬ Z 5 = -1 → o_size Z M (Z 5) ≤ 9)
/-- after t calls -/
def w_f (Z : mZ) (M : mM) (t : Nat) : Prop :=
  (∀ j, ∃ c, c ≤ 99 ∧ M 7 j = nI c) ∧ (∀ j, ∃ c, c ≤ 99 ∧ M 8 j = nI c) ∧ (∀ j, ∃ c, c ≤ 999 ∧ M 9 j = nI c) ∧ (∀ j, zn Z 0 ≤ j → M 10 j = 0) ∧ (∀ f, M 16 f = 0 ∨ M 16 f = 1) ∧ (∀ f, f < zn Z 1 → ∃ i, i < zn Z 0 ∧ M 12 f = nI i) ∧ (∀ s, ∃ c, c ≤ 100 + 1000 * t ∧ M 19 s = nI c) ∧ (∃ m, Z 4 = nI m ∧ m ≤ 1 + 121 * t ∧ w_seg Z M m) ∧ (∀ s, ∃ n, n ≤ 4 ∧ M 22 s = nI n) ∧ (∀ k, ∃ c, c < 256 ∧ M 32 k = nI c) ∧ (∀ f, f < zn Z 1 → M 15 f = -1 ∨ ∃ s, s < zn Z 2 ∧ M 15 f = nI s)
theorem w_seg_c {Z Z' : mZ} {M M' : mM} {m : Nat} (h : w_seg Z M m) (h1 : Z' 1 = Z 1) (h5 : Z' 5 = Z 5) (h14 : M' 14 = M 14) : w_seg Z' M' m := by
  unfold w_seg o_size zn at *
  rw [h1, h5, h14]
  exact h
theorem w_f_c {Z Z' : mZ} {M M' : mM} {t t' : Nat} (h : w_f Z M t) (ht : t ≤ t') (hZ : ∀ j, j ∈ [0, 1, 2, 4, 5] → Z' j = Z j) (hM : ∀ j, j ∈ [7, 8, 9, 10, 12, 14, 15, 16, 19, 22, 32] → M' j = M j) : w_f Z' M' t' := by
  obtain ⟨w7, w8, w9, w10, w16, w12, w19, ⟨m, m1', m2, m3⟩, w22, w32, w15⟩ := h
  have z0 : zn Z' 0 = zn Z 0 := by unfold zn; rw [hZ 0 (by decide)]
  have z1' : zn Z' 1 = zn Z 1 := by unfold zn; rw [hZ 1 (by decide)]
  have z2 : zn Z' 2 = zn Z 2 := by unfold zn; rw [hZ 2 (by decide)]
  refine ⟨?_, ?_, ?_, ?_, ?_, ?_, ?_, ⟨m, (hZ 4 (by decide)).trans m1', by omega, w_seg_c m3 (hZ 1 (by decide)) (hZ 5 (by decide)) (hM 14 (by decide))⟩, ?_, ?_, ?_⟩
  · rw [hM 7 (by decide)]; exact w7
  · rw [hM 8 (by decide)]; exact w8
  · rw [hM 9 (by decide)]; exact w9
  · rw [hM 10 (by decide), z0]; exact w10
  · rw [hM 16 (by decide)]; exact w16
  · rw [hM 12 (by decide), z0, z1']; exact w12
  · rw [hM 19 (by decide)]; exact fun s => (w19 s).elim fun c hc => ⟨c, by omega, hc.2⟩
  · rw [hM 22 (by decide)]; exact w22
  · rw [hM 32 (by decide)]; exact w32
  · rw [hM 15 (by decide), z1', z2]; exact w15
theorem w_f_sc {S : mS} {Z' : mZ} {M' : mM} {t : Nat} (h : w_f S.1 S.2 t) (hs : o_sc S (Z', M')) : w_f Z' M' t :=
  w_f_c h (Nat.le_refl _) (fun j hj => hs.1 j (fun z => absurd hj (by rw [z]; decide))) (fun j hj => hs.2 j (fun z => absurd hj (by rw [z]; decide)) (fun z => absurd hj (by rw [z]; decide)) (fun z => absurd hj (by rw [z]; decide)) (fun z => absurd hj (by rw [z]; decide)))
/-- the segments' part under 'puts' -/
theorem w_puts {S : mS} {m f : Nat} (hz4 : S.1 4 = nI m) (hm : m + 1 < 2 ^ 30) (h : w_seg S.1 S.2 m) (hf : f < zn S.1 1) (h14 : S.2 14 f = -1) : ∃ m', m ≤ m' ∧ m' ≤ m + 1 ∧ (o_puts S f).1 4 = nI m' ∧ w_seg (o_puts S f).1 (o_puts S f).2 m' ∧ (∀ j, j ≠ 3 → j ≠ 4 → j ≠ 5 → (o_puts S f).1 j = S.1 j) ∧ (∀ j, j ≠ 14 → j ≠ 17 → (o_puts S f).2 j = S.2 j) ∧ ((o_puts S f).1 3 = S.1 3 ∨ (o_puts S f).1 3 = S.1 3 + 1) := by
  obtain ⟨h1, h2, h3⟩ := h
  obtain ⟨Z, M⟩ := S
  dsimp only at hz4 h1 h2 h3 hf h14
  by_cases h5 : Z 5 = -1
  · have hz4n : ¬ Z 4 = -1 := by rw [hz4]; exact nI_nm1 (by omega)
    have e0 : o_puts0 (Z, M) = (z1 (o_opens (Z, M)).1 5 (Z 4), (o_opens (Z, M)).2) := if_pos h5
    have e1 : o_puts1 (Z, M) f = (z1 (z1 (z1 Z 3 (Z 3 + 1)) 4 (Z 4 + 1)) 5 (Z 4), m1 (m1 M 17 (zn Z 3) (Z 4)) 14 f (Z 4)) := by
      unfold o_puts1
      rw [e0]
      rfl
    have hn : ∀ g, g < zn Z 1 → ¬ M 14 g = Z 4 := fun g hg z => by
      rcases h1 g hg with q | ⟨v, q1, q2⟩
      · exact hz4n (z.symm.trans q)
      · rw [q2, hz4] at z
        have := (nI_eq (by omega) (by omega)).mp z
        omega
    have esz : o_size (z1 (z1 (z1 Z 3 (Z 3 + 1)) 4 (Z 4 + 1)) 5 (Z 4)) (m1 (m1 M 17 (zn Z 3) (Z 4)) 14 f (Z 4)) (Z 4) = 1 := by
      unfold o_size
      have hz1' : zn (z1 (z1 (z1 Z 3 (Z 3 + 1)) 4 (Z 4 + 1)) 5 (Z 4)) 1 = zn Z 1 := rfl
      rw [hz1', cntB_congr (q := fun g => decide (g = f)) (fun g hg => ?_), cntB_put (p := fun _ => false) (f := f) rfl (decide_eq_true rfl) (fun g hg => decide_eq_false hg), if_pos hf]
      · have : ∀ n, cntB (fun _ => false) n = 0 := fun n => by
          induction n with
          | zero => rfl
          | succ n ih => show cntB _ n + 0 = 0; rw [ih]
        rw [this]
      · rw [m1_at]
        by_cases e : g = f
        · rw [if_pos e]; exact decide_eq_decide.mpr ⟨fun _ => e, fun _ => rfl⟩
        · rw [if_neg e, m1_n _ _ (by decide)]; exact decide_eq_decide.mpr ⟨fun z => absurd z (hn g hg), fun z => absurd z e⟩
    have e2 : o_puts (Z, M) f = (z1 (z1 (z1 Z 3 (Z 3 + 1)) 4 (Z 4 + 1)) 5 (Z 4), m1 (m1 M 17 (zn Z 3) (Z 4)) 14 f (Z 4)) := by
      unfold o_puts
      rw [e1]
      show (if o_size (z1 (z1 (z1 Z 3 (Z 3 + 1)) 4 (Z 4 + 1)) 5 (Z 4)) (m1 (m1 M 17 (zn Z 3) (Z 4)) 14 f (Z 4)) (Z 4) = 10 then _ else _) = _
      rw [esz]
      rfl
    rw [e2]
    refine ⟨m + 1, by omega, by omega, ?_, ⟨fun g hg => ?_, ?_, fun _ => ?_⟩, fun j h3 h4 h5 => ?_, fun j ha hb => ?_, Or.inr ?_⟩
    · show z1 (z1 (z1 Z 3 (Z 3 + 1)) 4 (Z 4 + 1)) 5 (Z 4) 4 = _
      rw [z1_n _ _ (by decide), z1_s, hz4, nI_1]
    · show m1 (m1 M 17 (zn Z 3) (Z 4)) 14 f (Z 4) 14 g = -1 ∨ ∃ v, v < m + 1 ∧ m1 (m1 M 17 (zn Z 3) (Z 4)) 14 f (Z 4) 14 g = nI v
      rw [m1_at]
      by_cases e : g = f
      · rw [if_pos e]; exact Or.inr ⟨m, by omega, hz4⟩
      · rw [if_neg e, m1_n _ _ (by decide)]
        exact (h1 g hg).imp id (fun ⟨v, q1, q2⟩ => ⟨v, by omega, q2⟩)
    · show z1 (z1 (z1 Z 3 (Z 3 + 1)) 4 (Z 4 + 1)) 5 (Z 4) 5 = -1 ∨ ∃ v, v < m + 1 ∧ z1 (z1 (z1 Z 3 (Z 3 + 1)) 4 (Z 4 + 1)) 5 (Z 4) 5 = nI v
      rw [z1_s]
      exact Or.inr ⟨m, by omega, hz4⟩
    · show o_size (z1 (z1 (z1 Z 3 (Z 3 + 1)) 4 (Z 4 + 1)) 5 (Z 4)) (m1 (m1 M 17 (zn Z 3) (Z 4)) 14 f (Z 4)) (z1 (z1 (z1 Z 3 (Z 3 + 1)) 4 (Z 4 + 1)) 5 (Z 4) 5) ≤ 9
      rw [z1_s, esz]
      omega
    · show z1 (z1 (z1 Z 3 (Z 3 + 1)) 4 (Z 4 + 1)) 5 (Z 4) j = Z j
      rw [z1_n _ _ h5, z1_n _ _ h4, z1_n _ _ h3]
    · show m1 (m1 M 17 (zn Z 3) (Z 4)) 14 f (Z 4) j = M j
      rw [m1_n _ _ ha, m1_n _ _ hb]
    · show z1 (z1 (z1 Z 3 (Z 3 + 1)) 4 (Z 4 + 1)) 5 (Z 4) 3 = Z 3 + 1
      rw [z1_n _ _ (by decide), z1_n _ _ (by decide), z1_s]
  · have e0 : o_puts0 (Z, M) = (Z, M) := if_neg h5
    have e1 : o_puts1 (Z, M) f = (Z, m1 M 14 f (Z 5)) := by unfold o_puts1; rw [e0]
    have esz : o_size Z (m1 M 14 f (Z 5)) (Z 5) = o_size Z M (Z 5) + 1 := by
      unfold o_size
      rw [cntB_put (p := fun g => decide (M 14 g = Z 5)) (p2 := fun g => decide (m1 M 14 f (Z 5) 14 g = Z 5)) (f := f) (decide_eq_false (by rw [h14]; exact Ne.symm h5)) (decide_eq_true (by rw [m1_at, if_pos rfl])) (fun g hg => by rw [m1_at, if_neg hg]), if_pos hf]
    have e2 : o_puts (Z, M) f = if o_size Z M (Z 5) + 1 = 10 then (z1 Z 5 (-1), m1 M 14 f (Z 5)) else (Z, m1 M 14 f (Z 5)) := by
      unfold o_puts
      rw [e1]
      show (if o_size Z (m1 M 14 f (Z 5)) (Z 5) = 10 then _ else _) = _
      rw [esz]
    have hle := h3 h5
    have hv := h2.resolve_left h5
    have g14 : ∀ g, g < zn Z 1 → m1 M 14 f (Z 5) 14 g = -1 ∨ ∃ v, v < m ∧ m1 M 14 f (Z 5) 14 g = nI v := fun g hg => by
      rw [m1_at]
      by_cases e : g = f
      · rw [if_pos e]; exact Or.inr hv
      · rw [if_neg e]; exact h1 g hg
    rw [e2]
    by_cases c : o_size Z M (Z 5) + 1 = 10
    · rw [if_pos c]
      refine ⟨m, Nat.le_refl _, by omega, ?_, ⟨g14, Or.inl (z1_s Z 5 (-1)), fun z => absurd (z1_s Z 5 (-1)) z⟩, fun j _ _ h5 => z1_n Z (-1) h5, fun j ha _ => m1_n M (Z 5) ha, Or.inl (z1_n Z (-1) (show (3 : Nat) ≠ 5 by decide))⟩
      exact (z1_n Z (-1) (show (4 : Nat) ≠ 5 by decide)).trans hz4
    · rw [if_neg c]
      exact ⟨m, Nat.le_refl _, by omega, hz4, ⟨g14, h2, fun _ => by show o_size Z (m1 M 14 f (Z 5)) (Z 5) ≤ 9; rw [esz]; omega⟩, fun _ _ _ _ => rfl, fun j ha _ => m1_n M (Z 5) ha, Or.inl rfl⟩
theorem w_reb {S : mS} {m nf : Nat} (hz4 : S.1 4 = nI m) (hm : m + 121 < 2 ^ 30) (h : w_seg S.1 S.2 m) (hnf : zn S.1 1 = nf) (h120 : nf ≤ 120) : ∀ i, i ≤ nf → ∃ m', m ≤ m' ∧ m' ≤ m + i ∧ (o_reb S i).1 4 = nI m' ∧ w_seg (o_reb S i).1 (o_reb S i).2 m' ∧ (∀ j, j ≠ 3 → j ≠ 4 → j ≠ 5 → (o_reb S i).1 j = S.1 j) ∧ (∀ j, j ≠ 14 → j ≠ 17 → (o_reb S i).2 j = S.2 j)
  | 0, _ => ⟨m, Nat.le_refl _, by omega, hz4, h, fun _ _ _ _ => rfl, fun _ _ _ => rfl⟩
  | i + 1, hi => by
    obtain ⟨m', a1, a2, a3, a4, a5, a6⟩ := w_reb hz4 hm h hnf h120 i (by omega)
    have same : ∃ m9, m ≤ m9 ∧ m9 ≤ m + (i + 1) ∧ (o_reb S i).1 4 = nI m9 ∧ w_seg (o_reb S i).1 (o_reb S i).2 m9 ∧ (∀ j, j ≠ 3 → j ≠ 4 → j ≠ 5 → (o_reb S i).1 j = S.1 j) ∧ (∀ j, j ≠ 14 → j ≠ 17 → (o_reb S i).2 j = S.2 j) := ⟨m', a1, by omega, a3, a4, a5, a6⟩
    simp only [o_reb]
    by_cases c : (o_reb S i).2 14 i = -1
    · rw [if_pos c]
      by_cases c2 : (o_reb S i).2 16 i = 0
      · rw [if_pos c2]
        have hz1 : zn (o_reb S i).1 1 = nf := by unfold zn at hnf ⊢; rw [a5 1 (by decide) (by decide) (by decide)]; exact hnf
        obtain ⟨m9, b1, b2, b3, b4, b5, b6, -⟩ := w_puts a3 (by omega) a4 (show i < zn (o_reb S i).1 1 by omega) c
        exact ⟨m9, by omega, by omega, b3, b4, fun j x y z => (b5 j x y z).trans (a5 j x y z), fun j x y => (b6 j x y).trans (a6 j x y)⟩
      · rw [if_neg c2]; exact same
    · rw [if_neg c]; exact same
theorem zn_1 {Z : mZ} {j n : Nat} {v : Int32} (h : Z j = nI n) (hn : n < 2 ^ 30) : zn (z1 Z j (Z j + 1)) j = n + 1 := by
  unfold zn
  rw [z1_s, h, nI_1]
  exact nI_clamp (by omega)
theorem w_island {Z : mZ} {M : mM} {t n : Nat} {x y c : Int32} (h : w_f Z M t) (hz : Z 0 = nI n) (hn : n ≤ 12) (ht : t_island Z x y c = 0) : w_f (p_island (Z, M) x y c).1 (p_island (Z, M) x y c).2 (t + 1) := by
  obtain ⟨w7, w8, w9, w10, w16, w12, w19, ⟨m, m1', m2, m3⟩, w22, w32, w15⟩ := h
  have hr : o_rng x 0 99 = true ∧ o_rng y 0 99 = true ∧ o_rng c 0 999 = true := by
    unfold t_island at ht
    by_cases q : (o_rng x 0 99 && (o_rng y 0 99 && o_rng c 0 999)) = true
    · simpa [Bool.and_eq_true] using q
    · rw [if_neg q] at ht; exact absurd ht (by decide)
  obtain ⟨x9, x1, x2⟩ := o_rng_nat hr.1 (n := 99) rfl (by decide)
  obtain ⟨y9, y1, y2⟩ := o_rng_nat hr.2.1 (n := 99) rfl (by decide)
  obtain ⟨c9, c1, c2⟩ := o_rng_nat hr.2.2 (n := 999) rfl (by decide)
  have hzn : zn Z 0 = n := zn_of hz (by omega)
  have e1 : (p_island (Z, M) x y c).1 = z1 Z 0 (Z 0 + 1) := rfl
  have e2 : (p_island (Z, M) x y c).2 = m1 (m1 (m1 M 7 n x) 8 n y) 9 n c := by unfold p_island; dsimp only; rw [hzn]
  rw [e1, e2]
  have zz : zn (z1 Z 0 (Z 0 + 1)) 0 = n + 1 := by unfold zn; rw [z1_s, hz, nI_1]; exact nI_clamp (by omega)
  have mo : ∀ j, j ≠ 7 → j ≠ 8 → j ≠ 9 → m1 (m1 (m1 M 7 n x) 8 n y) 9 n c j = M j := fun j a b d => by rw [m1_n _ _ d, m1_n _ _ b, m1_n _ _ a]
  refine ⟨fun j => ?_, fun j => ?_, fun j => ?_, fun j hj => ?_, ?_, fun f hf => ?_, ?_, ⟨m, (z1_n _ _ (by decide)).trans m1', by omega, w_seg_c m3 (z1_n _ _ (by decide)) (z1_n _ _ (by decide)) (mo 14 (by decide) (by decide) (by decide))⟩, ?_, ?_, ?_⟩
  · rw [m1_n _ _ (by decide), m1_n _ _ (by decide), m1_at]
    by_cases e : j = n
    · rw [if_pos e]; exact ⟨x9, x1, x2⟩
    · rw [if_neg e]; exact w7 j
  · rw [m1_n _ _ (by decide), m1_at, m1_n _ _ (by decide)]
    by_cases e : j = n
    · rw [if_pos e]; exact ⟨y9, y1, y2⟩
    · rw [if_neg e]; exact w8 j
  · rw [m1_at, m1_n _ _ (by decide), m1_n _ _ (by decide)]
    by_cases e : j = n
    · rw [if_pos e]; exact ⟨c9, c1, c2⟩
    · rw [if_neg e]; exact w9 j
  · rw [mo 10 (by decide) (by decide) (by decide)]; rw [zz] at hj; exact w10 j (by omega)
  · rw [mo 16 (by decide) (by decide) (by decide)]; exact w16
  · rw [mo 12 (by decide) (by decide) (by decide), zz]
    obtain ⟨i, i1, i2⟩ := w12 f hf
    exact ⟨i, by omega, i2⟩
  · rw [mo 19 (by decide) (by decide) (by decide)]; exact fun s => (w19 s).elim fun c hc => ⟨c, by omega, hc.2⟩
  · rw [mo 22 (by decide) (by decide) (by decide)]; exact w22
  · rw [mo 32 (by decide) (by decide) (by decide)]; exact w32
  · rw [mo 15 (by decide) (by decide) (by decide)]; exact w15
theorem w_comes {Z : mZ} {M : mM} {t n n0 n2 : Nat} {wd isl pl shp : Int32} (h : w_f Z M t) (ht : t ≤ 512) (hz1 : Z 1 = nI n) (hn : n < 120) (hi : ∃ i, i < zn Z 0 ∧ isl = nI i) (hsh : shp = -1 ∨ ∃ s, s < zn Z 2 ∧ shp = nI s) : w_f (o_comes (Z, M) wd isl pl shp).1 (o_comes (Z, M) wd isl pl shp).2 (t + 1) := by
  obtain ⟨w7, w8, w9, w10, w16, w12, w19, ⟨m, m1', m2, m3⟩, w22, w32, w15⟩ := h
  have hzn : zn Z 1 = n := zn_of hz1 (by omega)
  obtain ⟨Z1, eZ1⟩ : ∃ z, z = z1 Z 1 (Z 1 + 1) := ⟨_, rfl⟩
  obtain ⟨M1, eM1⟩ : ∃ z, z = m1 (m1 (m1 (m1 (m1 (m1 M 11 n wd) 12 n isl) 13 n pl) 15 n shp) 16 n 0) 14 n (-1) := ⟨_, rfl⟩
  have et : o_told (Z, M) wd isl pl shp = (Z1, M1) := by unfold o_told; dsimp only; rw [hzn, eZ1, eM1]
  have zz : zn Z1 1 = n + 1 := by rw [eZ1]; unfold zn; rw [z1_s, hz1, nI_1]; exact nI_clamp (by omega)
  have zo : ∀ j, j ≠ 1 → Z1 j = Z j := fun j hj => by rw [eZ1]; exact z1_n _ _ hj
  have mo : ∀ j g, g ≠ n → M1 j g = M j g := fun j g h => by rw [eM1, m1_k _ _ _ _ h, m1_k _ _ _ _ h, m1_k _ _ _ _ h, m1_k _ _ _ _ h, m1_k _ _ _ _ h, m1_k _ _ _ _ h]
  have mj : ∀ j, j ∉ [11, 12, 13, 14, 15, 16] → M1 j = M j := fun j h => by
    have h' : ∀ i, i ∈ [11, 12, 13, 14, 15, 16] → j ≠ i := fun i hi z => h (by rw [z]; exact hi)
    rw [eM1, m1_n _ _ (h' 14 (by decide)), m1_n _ _ (h' 16 (by decide)), m1_n _ _ (h' 15 (by decide)), m1_n _ _ (h' 13 (by decide)), m1_n _ _ (h' 12 (by decide)), m1_n _ _ (h' 11 (by decide))]
  have m12 : M1 12 n = isl := by rw [eM1, m1_n _ _ (by decide), m1_n _ _ (by decide), m1_n _ _ (by decide), m1_n _ _ (by decide), m1_at, if_pos rfl]
  have m15 : M1 15 n = shp := by rw [eM1, m1_n _ _ (by decide), m1_n _ _ (by decide), m1_at, if_pos rfl]
  have m16 : M1 16 n = 0 := by rw [eM1, m1_n _ _ (by decide), m1_at, if_pos rfl]
  have m14 : M1 14 n = -1 := by rw [eM1, m1_at, if_pos rfl]
  have hs1 : w_seg Z1 M1 m := by
    refine ⟨fun f hf => ?_, by rw [zo 5 (by decide)]; exact m3.2.1, fun h5 => ?_⟩
    · by_cases e : f = n
      · rw [e]; exact Or.inl m14
      · rw [mo 14 f e]; exact m3.1 f (by omega)
    · rw [zo 5 (by decide)] at h5 ⊢
      have e : o_size Z1 M1 (Z 5) = o_size Z M (Z 5) := by
        unfold o_size
        rw [zz, hzn]
        show cntB _ n + (if decide (M1 14 n = Z 5) = true then 1 else 0) = _
        rw [if_neg (by rw [m14, decide_eq_true_eq]; exact fun z => h5 z.symm), Nat.add_zero]
        exact cntB_congr (fun g hg => by rw [mo 14 g (by omega)])
      rw [e]; exact m3.2.2 h5
  obtain ⟨m9, b1, b2, b3, b4, b5, b6, -⟩ := w_puts (S := (Z1, M1)) (f := n) ((zo 4 (by decide)).trans m1') (by omega) hs1 (show n < zn Z1 1 by omega) m14
  have ec : o_comes (Z, M) wd isl pl shp = o_puts (Z1, M1) n := by
    unfold o_comes
    rw [et, show zn (Z, M).1 1 = n from hzn]
  rw [ec]
  generalize o_puts (Z1, M1) n = S2 at b3 b4 b5 b6
  dsimp only at b5 b6
  have zz1 : zn S2.1 1 = n + 1 := by unfold zn at zz ⊢; rw [b5 1 (by decide) (by decide) (by decide)]; exact zz
  have zz0 : zn S2.1 0 = zn Z 0 := by unfold zn; rw [b5 0 (by decide) (by decide) (by decide), zo 0 (by decide)]
  have zz2 : zn S2.1 2 = zn Z 2 := by unfold zn; rw [b5 2 (by decide) (by decide) (by decide), zo 2 (by decide)]
  have c6 : ∀ j, j ∉ [11, 12, 13, 14, 15, 16, 17] → S2.2 j = M j := fun j h => (b6 j (fun z => h (by rw [z]; decide)) (fun z => h (by rw [z]; decide))).trans (mj j (fun z => h (by revert z; simp only [List.mem_cons, List.not_mem_nil, or_false]; omega)))
  refine ⟨by rw [c6 7 (by decide)]; exact w7, by rw [c6 8 (by decide)]; exact w8, by rw [c6 9 (by decide)]; exact w9, by rw [c6 10 (by decide), zz0]; exact w10, fun f => ?_, fun f hf => ?_, ?_, ⟨m9, b3, by omega, b4⟩, by rw [c6 22 (by decide)]; exact w22, by rw [c6 32 (by decide)]; exact w32, fun f hf => ?_⟩
  · rw [b6 16 (by decide) (by decide)]
    by_cases e : f = n
    · rw [e, m16]; exact Or.inl rfl
    · rw [mo 16 f e]; exact w16 f
  · rw [b6 12 (by decide) (by decide), zz0]
    by_cases e : f = n
    · rw [e, m12]; exact hi
    · rw [mo 12 f e]; exact w12 f (by omega)
  · rw [c6 19 (by decide)]; exact fun s => (w19 s).elim fun c hc => ⟨c, by omega, hc.2⟩
  · rw [b6 15 (by decide) (by decide), zz2]
    by_cases e : f = n
    · rw [e, m15]; exact hsh
    · rw [mo 15 f e]; exact w15 f (by omega)
/-- a ship's purse alone -/
theorem w_purse {Z : mZ} {M : mM} {t s c : Nat} (h : w_f Z M t) (hc : c ≤ 100 + 1000 * t) : w_f Z (m1 M 19 s (nI c)) t := by
  obtain ⟨w7, w8, w9, w10, w16, w12, w19, ⟨m, m1', m2, m3⟩, w22, w32, w15⟩ := h
  have mo : ∀ j, j ≠ 19 → m1 M 19 s (nI c) j = M j := fun j h => m1_n _ _ h
  refine ⟨by rw [mo 7 (by decide)]; exact w7, by rw [mo 8 (by decide)]; exact w8, by rw [mo 9 (by decide)]; exact w9, by rw [mo 10 (by decide)]; exact w10, by rw [mo 16 (by decide)]; exact w16, by rw [mo 12 (by decide)]; exact w12, fun k => ?_, ⟨m, m1', m2, w_seg_c m3 rfl rfl (mo 14 (by decide))⟩, by rw [mo 22 (by decide)]; exact w22, by rw [mo 32 (by decide)]; exact w32, by rw [mo 15 (by decide)]; exact w15⟩
  rw [m1_at]
  by_cases e : k = s
  · rw [if_pos e]; exact ⟨c, hc, rfl⟩
  · rw [if_neg e]; exact w19 k
theorem w_plant {Z : mZ} {M : mM} {t n : Nat} {sh wd isl pl : Int32} (h : w_f Z M t) (ht : t ≤ 512) (hz1 : Z 1 = nI n) (hn : n < 120) (hi : ∃ i, i < zn Z 0 ∧ isl = nI i) (hsh : ∃ s, s < zn Z 2 ∧ sh = nI s) (h5 : ¬ M 19 sh.toNatClampNeg < 5) : w_f (p_plant (Z, M) sh wd isl pl).1 (p_plant (Z, M) sh wd isl pl).2 (t + 1) := by
  obtain ⟨c, hc, ec⟩ := h.2.2.2.2.2.2.1 sh.toNatClampNeg
  have c5 : 5 ≤ c := Nat.le_of_not_lt (fun z => h5 (by rw [ec]; exact (nI_ltI (b := 5) (by omega) (by decide)).mpr z))
  have e : M 19 sh.toNatClampNeg - 5 = nI (c - 5) := by rw [ec]; exact nI_subN c5
  unfold p_plant
  dsimp only
  rw [e]
  exact w_comes (n0 := 0) (n2 := 0) (w_purse h (by omega)) ht hz1 hn hi (Or.inr hsh)
theorem w_ship {Z : mZ} {M : mM} {t n : Nat} (h : w_f Z M t) (hz : Z 2 = nI n) (hn : n ≤ 5) : w_f (p_ship (Z, M)).1 (p_ship (Z, M)).2 (t + 1) := by
  obtain ⟨w7, w8, w9, w10, w16, w12, w19, ⟨m, m1', m2, m3⟩, w22, w32, w15⟩ := h
  have hzn : zn Z 2 = n := zn_of hz (by omega)
  have e1 : (p_ship (Z, M)).1 = z1 Z 2 (Z 2 + 1) := rfl
  have e2 : (p_ship (Z, M)).2 = m1 (m1 (m1 (m1 M 18 n 0) 19 n 100) 22 n 0) 21 n (-1) := by unfold p_ship; dsimp only; rw [hzn]
  rw [e1, e2]
  have zz : zn (z1 Z 2 (Z 2 + 1)) 2 = n + 1 := by unfold zn; rw [z1_s, hz, nI_1]; exact nI_clamp (by omega)
  have mo : ∀ j, j ≠ 18 → j ≠ 19 → j ≠ 21 → j ≠ 22 → m1 (m1 (m1 (m1 M 18 n 0) 19 n 100) 22 n 0) 21 n (-1) j = M j := fun j a b c d => by rw [m1_n _ _ c, m1_n _ _ d, m1_n _ _ b, m1_n _ _ a]
  refine ⟨by rw [mo 7 (by decide) (by decide) (by decide) (by decide)]; exact w7, by rw [mo 8 (by decide) (by decide) (by decide) (by decide)]; exact w8, by rw [mo 9 (by decide) (by decide) (by decide) (by decide)]; exact w9, by rw [mo 10 (by decide) (by decide) (by decide) (by decide)]; exact w10, by rw [mo 16 (by decide) (by decide) (by decide) (by decide)]; exact w16, by rw [mo 12 (by decide) (by decide) (by decide) (by decide)]; exact w12, fun k => ?_, ⟨m, (z1_n _ _ (by decide)).trans m1', by omega, w_seg_c m3 (z1_n _ _ (by decide)) (z1_n _ _ (by decide)) (mo 14 (by decide) (by decide) (by decide) (by decide))⟩, fun k => ?_, by rw [mo 32 (by decide) (by decide) (by decide) (by decide)]; exact w32, fun f hf => ?_⟩
  · rw [m1_n _ _ (by decide), m1_n _ _ (by decide), m1_at, m1_n _ _ (by decide)]
    by_cases e : k = n
    · rw [if_pos e]; exact ⟨100, by omega, rfl⟩
    · rw [if_neg e]; obtain ⟨c, hc⟩ := w19 k; exact ⟨c, by omega, hc.2⟩
  · rw [m1_n _ _ (by decide), m1_at, m1_n _ _ (by decide), m1_n _ _ (by decide)]
    by_cases e : k = n
    · rw [if_pos e]; exact ⟨0, by omega, rfl⟩
    · rw [if_neg e]; exact w22 k
  · rw [mo 15 (by decide) (by decide) (by decide) (by decide), zz]
    exact (w15 f hf).imp id (fun ⟨s, s1, s2⟩ => ⟨s, by omega, s2⟩)
theorem w_bl {Z : mZ} {M : mM} {t c : Nat} {b : Bool} (h : w_f Z M t) (hc : c < 256) : w_f (o_blames (Z, M) b (nI c)).1 (o_blames (Z, M) b (nI c)).2 t := by
  unfold o_blames
  split
  · obtain ⟨w7, w8, w9, w10, w16, w12, w19, ⟨m, m1', m2, m3⟩, w22, w32, w15⟩ := h
    dsimp only
    generalize zn Z 31 = k
    have mo : ∀ j, j ≠ 32 → m1 M 32 k (nI c) j = M j := fun j h => m1_n _ _ h
    refine ⟨by rw [mo 7 (by decide)]; exact w7, by rw [mo 8 (by decide)]; exact w8, by rw [mo 9 (by decide)]; exact w9, by rw [mo 10 (by decide)]; exact w10, by rw [mo 16 (by decide)]; exact w16, by rw [mo 12 (by decide)]; exact w12, by rw [mo 19 (by decide)]; exact w19, ⟨m, (z1_n _ _ (by decide)).trans m1', m2, w_seg_c m3 (z1_n _ _ (by decide)) (z1_n _ _ (by decide)) (mo 14 (by decide))⟩, by rw [mo 22 (by decide)]; exact w22, fun g => ?_, by rw [mo 15 (by decide)]; exact w15⟩
    rw [m1_at]
    by_cases e : g = k
    · rw [if_pos e]; exact ⟨c, hc, rfl⟩
    · rw [if_neg e]; exact w32 g
  · exact h
theorem w_31 {Z : mZ} {M : mM} {t : Nat} {v : Int32} (h : w_f Z M t) : w_f (z1 Z 31 v) M t := w_f_c h (Nat.le_refl _) (fun j hj => z1_n _ _ (fun z => absurd hj (by rw [z]; decide))) (fun _ _ => rfl)
theorem w_mc {Z : mZ} {M : mM} {t : Nat} (h : w_f Z M t) (a b : Int32) : w_f (o_mcause Z M a b).1 (o_mcause Z M a b).2 t :=
  w_bl (c := 111) (w_bl (c := 111) (w_bl (c := 115) (w_bl (c := 115) (w_31 h) (by decide)) (by decide)) (by decide)) (by decide)
theorem w_merge {Z : mZ} {M : mM} {t : Nat} {a b : Int32} (h : w_f Z M t) (ht : t ≤ 512) : w_f (p_merge (Z, M) a b).1 (p_merge (Z, M) a b).2 (t + 1) := by
  unfold p_merge
  by_cases e : a = b
  · rw [if_pos e]; exact w_f_c h (by omega) (fun _ _ => rfl) (fun _ _ => rfl)
  · rw [if_neg e]
    by_cases c : o_wrong Z M a b = true
    · have h2 := w_mc h a b
      show w_f (if o_wrong Z M a b = true then o_mcause Z M a b else _).1 (if o_wrong Z M a b = true then o_mcause Z M a b else _).2 (t + 1)
      rw [if_pos c]
      exact w_f_c h2 (by omega) (fun _ _ => rfl) (fun _ _ => rfl)
    · dsimp only
      rw [if_neg c]
      obtain ⟨w7, w8, w9, w10, w16, w12, w19, ⟨m, m1', m2, m3⟩, w22, w32, w15⟩ := h
      have ha : ¬ a = Z 5 ∧ ¬ b = Z 5 := by
        unfold o_wrong at c
        simp only [Bool.or_eq_true, decide_eq_true_eq, not_or] at c
        exact ⟨c.2.2.1, c.2.2.2⟩
      obtain ⟨D, eD⟩ : ∃ z, z = o_drops (o_drops (Z, M) a) b := ⟨_, rfl⟩
      rw [← eD]
      have dz : ∀ j, j ≠ 3 → D.1 j = Z j := fun j h => by rw [eD, o_drops_n _ _ h, o_drops_n _ _ h]
      have dm : ∀ j, j ≠ 17 → D.2 j = M j := fun j h => by rw [eD, o_drops_m _ _ h, o_drops_m _ _ h]
      have hd4 : D.1 4 = Z 4 := dz 4 (by decide)
      rw [hd4]
      have oz : ∀ j, j ≠ 3 → j ≠ 4 → (o_opens D).1 j = Z j := fun j h3 h4 => (o_opens_n _ h3 h4).trans (dz j h3)
      have om : ∀ j, j ≠ 14 → j ≠ 17 → mset (o_opens D).2 14 (fmp (M 14) (fun _ x => if x = a then Z 4 else if x = b then Z 4 else x) (zn Z 1)) j = M j := fun j h h7 => by rw [mset_n _ _ h, o_opens_m _ h7]; exact dm j h7
      have z14 : ∀ f, f < zn Z 1 → mset (o_opens D).2 14 (fmp (M 14) (fun _ x => if x = a then Z 4 else if x = b then Z 4 else x) (zn Z 1)) 14 f = if M 14 f = a then Z 4 else if M 14 f = b then Z 4 else M 14 f := fun f hf => by rw [mset_s]; exact if_pos hf
      have zz0 : zn (o_opens D).1 0 = zn Z 0 := by unfold zn; rw [oz 0 (by decide) (by decide)]
      have zz1 : zn (o_opens D).1 1 = zn Z 1 := by unfold zn; rw [oz 1 (by decide) (by decide)]
      have zz2 : zn (o_opens D).1 2 = zn Z 2 := by unfold zn; rw [oz 2 (by decide) (by decide)]
      dsimp only
      refine ⟨by rw [om 7 (by decide) (by decide)]; exact w7, by rw [om 8 (by decide) (by decide)]; exact w8, by rw [om 9 (by decide) (by decide)]; exact w9, by rw [om 10 (by decide) (by decide), zz0]; exact w10, by rw [om 16 (by decide) (by decide)]; exact w16, by rw [om 12 (by decide) (by decide), zz0, zz1]; exact w12, by rw [om 19 (by decide) (by decide)]; exact fun s => (w19 s).elim fun c hc => ⟨c, by omega, hc.2⟩, ⟨m + 1, ?_, by omega, fun f hf => ?_, ?_, fun h5 => ?_⟩, by rw [om 22 (by decide) (by decide)]; exact w22, by rw [om 32 (by decide) (by decide)]; exact w32, by rw [om 15 (by decide) (by decide), zz1, zz2]; exact w15⟩
      · show z1 (z1 D.1 3 (D.1 3 + 1)) 4 (D.1 4 + 1) 4 = _
        rw [z1_s, hd4, m1', nI_1]
      · rw [zz1] at hf
        rw [z14 f hf]
        by_cases q : M 14 f = a
        · rw [if_pos q]; exact Or.inr ⟨m, by omega, m1'⟩
        · rw [if_neg q]
          by_cases q2 : M 14 f = b
          · rw [if_pos q2]; exact Or.inr ⟨m, by omega, m1'⟩
          · rw [if_neg q2]; exact (m3.1 f hf).imp id (fun ⟨v, q1, q2⟩ => ⟨v, by omega, q2⟩)
      · rw [oz 5 (by decide) (by decide)]
        exact m3.2.1.imp id (fun ⟨v, q1, q2⟩ => ⟨v, by omega, q2⟩)
      · rw [oz 5 (by decide) (by decide)] at h5 ⊢
        have hz45 : ¬ Z 4 = Z 5 := fun z => by
          obtain ⟨v, q1, q2⟩ := m3.2.1.resolve_left h5
          rw [m1', q2] at z
          have := (nI_eq (by omega) (by omega)).mp z
          omega
        have e9 : o_size (o_opens D).1 (mset (o_opens D).2 14 (fmp (M 14) (fun _ x => if x = a then Z 4 else if x = b then Z 4 else x) (zn Z 1))) (Z 5) = o_size Z M (Z 5) := by
          unfold o_size
          rw [zz1]
          refine cntB_congr (fun g hg => ?_)
          rw [z14 g hg]
          by_cases q : M 14 g = a
          · rw [if_pos q, q]; exact decide_eq_decide.mpr ⟨fun z => absurd z hz45, fun z => absurd z ha.1⟩
          · rw [if_neg q]
            by_cases q2 : M 14 g = b
            · rw [if_pos q2, q2]; exact decide_eq_decide.mpr ⟨fun z => absurd z hz45, fun z => absurd z ha.2⟩
            · rw [if_neg q2]
        rw [e9]; exact m3.2.2 h5
theorem w_storm {Z : mZ} {M : mM} {t : Nat} {v : Int32} (h : w_f Z M t) (hv : ¬ v = Z 5) : w_f (p_storm (Z, M) v).1 (p_storm (Z, M) v).2 (t + 1) := by
  obtain ⟨w7, w8, w9, w10, w16, w12, w19, ⟨m, m1', m2, m3⟩, w22, w32, w15⟩ := h
  have oz : ∀ j, j ≠ 3 → (p_storm (Z, M) v).1 j = Z j := fun j h => o_drops_n _ _ h
  have om : ∀ j, j ≠ 14 → j ≠ 17 → (p_storm (Z, M) v).2 j = M j := fun j h h7 => (mset_n _ _ h : mset (o_drops (Z, M) v).2 14 (fmp (M 14) (fun _ x => if x = v then -1 else x) (zn Z 1)) j = _).trans (o_drops_m _ _ h7)
  have z14 : ∀ f, f < zn Z 1 → (p_storm (Z, M) v).2 14 f = if M 14 f = v then -1 else M 14 f := fun f hf => by
    show mset (o_drops (Z, M) v).2 14 (fmp (M 14) (fun _ x => if x = v then -1 else x) (zn Z 1)) 14 f = _
    rw [mset_s]; exact if_pos hf
  have zz0 : zn (p_storm (Z, M) v).1 0 = zn Z 0 := by unfold zn; rw [oz 0 (by decide)]
  have zz1 : zn (p_storm (Z, M) v).1 1 = zn Z 1 := by unfold zn; rw [oz 1 (by decide)]
  have zz2 : zn (p_storm (Z, M) v).1 2 = zn Z 2 := by unfold zn; rw [oz 2 (by decide)]
  refine ⟨by rw [om 7 (by decide) (by decide)]; exact w7, by rw [om 8 (by decide) (by decide)]; exact w8, by rw [om 9 (by decide) (by decide)]; exact w9, by rw [om 10 (by decide) (by decide), zz0]; exact w10, by rw [om 16 (by decide) (by decide)]; exact w16, by rw [om 12 (by decide) (by decide), zz0, zz1]; exact w12, by rw [om 19 (by decide) (by decide)]; exact fun s => (w19 s).elim fun c hc => ⟨c, by omega, hc.2⟩, ⟨m, (oz 4 (by decide)).trans m1', by omega, fun f hf => ?_, by rw [oz 5 (by decide)]; exact m3.2.1, fun h5 => ?_⟩, by rw [om 22 (by decide) (by decide)]; exact w22, by rw [om 32 (by decide) (by decide)]; exact w32, by rw [om 15 (by decide) (by decide), zz1, zz2]; exact w15⟩
  · rw [zz1] at hf
    rw [z14 f hf]
    by_cases q : M 14 f = v
    · rw [if_pos q]; exact Or.inl rfl
    · rw [if_neg q]; exact m3.1 f hf
  · rw [oz 5 (by decide)] at h5 ⊢
    have e9 : o_size (p_storm (Z, M) v).1 (p_storm (Z, M) v).2 (Z 5) = o_size Z M (Z 5) := by
      unfold o_size
      rw [zz1]
      refine cntB_congr (fun g hg => ?_)
      rw [z14 g hg]
      by_cases q : M 14 g = v
      · rw [if_pos q, q]; exact decide_eq_decide.mpr ⟨fun z => absurd z.symm h5, fun z => absurd z hv⟩
      · rw [if_neg q]
    rw [e9]; exact m3.2.2 h5
theorem w_rebuild {Z : mZ} {M : mM} {t n : Nat} (h : w_f Z M t) (ht : t ≤ 512) (hz1 : Z 1 = nI n) (hn : n ≤ 120) : w_f (p_rebuild (Z, M)).1 (p_rebuild (Z, M)).2 (t + 1) := by
  by_cases c : 20 < Z 3 + o_more Z M
  · have e : p_rebuild (Z, M) = o_blames (z1 Z 31 0, M) true (nI 102) := if_pos c
    rw [e]
    exact w_f_c (w_bl (c := 102) (b := true) (w_31 (v := 0) h) (by decide)) (by omega) (fun _ _ => rfl) (fun _ _ => rfl)
  · have hzn : zn Z 1 = n := zn_of hz1 (by omega)
    have e : p_rebuild (Z, M) = o_reb (Z, M) n := by
      unfold p_rebuild
      rw [if_neg c, show zn (Z, M).1 1 = n from hzn]
    rw [e]
    obtain ⟨w7, w8, w9, w10, w16, w12, w19, ⟨m, m1', m2, m3⟩, w22, w32, w15⟩ := h
    obtain ⟨m', a1, a2, a3, a4, a5, a6⟩ := w_reb (S := (Z, M)) m1' (by omega) m3 hzn hn n (Nat.le_refl _)
    dsimp only at a5 a6
    have zz0 : zn (o_reb (Z, M) n).1 0 = zn Z 0 := by unfold zn; rw [a5 0 (by decide) (by decide) (by decide)]
    have zz1 : zn (o_reb (Z, M) n).1 1 = zn Z 1 := by unfold zn; rw [a5 1 (by decide) (by decide) (by decide)]
    have zz2 : zn (o_reb (Z, M) n).1 2 = zn Z 2 := by unfold zn; rw [a5 2 (by decide) (by decide) (by decide)]
    exact ⟨by rw [a6 7 (by decide) (by decide)]; exact w7, by rw [a6 8 (by decide) (by decide)]; exact w8, by rw [a6 9 (by decide) (by decide)]; exact w9, by rw [a6 10 (by decide) (by decide), zz0]; exact w10, by rw [a6 16 (by decide) (by decide)]; exact w16, by rw [a6 12 (by decide) (by decide), zz0, zz1]; exact w12, by rw [a6 19 (by decide) (by decide)]; exact fun s => (w19 s).elim fun c hc => ⟨c, by omega, hc.2⟩, ⟨m', a3, by omega, a4⟩, by rw [a6 22 (by decide) (by decide)]; exact w22, by rw [a6 32 (by decide) (by decide)]; exact w32, by rw [a6 15 (by decide) (by decide), zz1, zz2]; exact w15⟩
theorem w_dig {Z : mZ} {M : mM} {t s : Nat} (h : w_f Z M t) (ht : t ≤ 512) (hs : (M 18 s).toNatClampNeg < zn Z 0) : w_f Z (p_dig M s) (t + 1) := by
  obtain ⟨w7, w8, w9, w10, w16, w12, w19, ⟨m, m1', m2, m3⟩, w22, w32, w15⟩ := h
  have mo : ∀ j, j ≠ 10 → j ≠ 21 → j ≠ 19 → p_dig M s j = M j := fun j b c d => by unfold p_dig; rw [m1_n _ _ d, m1_n _ _ c, m1_n _ _ b]
  refine ⟨by rw [mo 7 (by decide) (by decide) (by decide)]; exact w7, by rw [mo 8 (by decide) (by decide) (by decide)]; exact w8, by rw [mo 9 (by decide) (by decide) (by decide)]; exact w9, fun j hj => ?_, by rw [mo 16 (by decide) (by decide) (by decide)]; exact w16, by rw [mo 12 (by decide) (by decide) (by decide)]; exact w12, fun k => ?_, ⟨m, m1', by omega, w_seg_c m3 rfl rfl (mo 14 (by decide) (by decide) (by decide))⟩, by rw [mo 22 (by decide) (by decide) (by decide)]; exact w22, by rw [mo 32 (by decide) (by decide) (by decide)]; exact w32, by rw [mo 15 (by decide) (by decide) (by decide)]; exact w15⟩
  · unfold p_dig
    rw [m1_n _ _ (by decide), m1_n _ _ (by decide), m1_at, if_neg (by omega)]
    exact w10 j hj
  · unfold p_dig
    rw [m1_at]
    obtain ⟨c, c1, c2⟩ := w19 k
    by_cases e : k = s
    · obtain ⟨d, d1, d2⟩ := w9 (M 18 s).toNatClampNeg
      rw [if_pos e, ← e, c2, e, d2, nI_add]
      exact ⟨c + d, by omega, rfl⟩
    · rw [if_neg e, m1_n _ _ (by decide), m1_n _ _ (by decide)]
      exact ⟨c, by omega, c2⟩
theorem o_pay_nat {M : mM} {s c d : Nat} (hc : M 19 s = nI c) (hc2 : c < 2 ^ 30) (hd : d < 2 ^ 30) : ∃ p, p ≤ c ∧ o_pay M s (nI d) = nI p := by
  unfold o_pay
  rw [hc]
  by_cases q : nI d < nI c
  · rw [if_pos q]; exact ⟨d, Nat.le_of_lt ((nI_ltI (by omega) (by omega)).mp q), rfl⟩
  · rw [if_neg q]; exact ⟨c, Nat.le_refl _, rfl⟩
theorem w_10 {Z : mZ} {M : mM} {t k : Nat} (h : w_f Z M t) : w_f Z (m1 M 10 k 0) t := by
  obtain ⟨w7, w8, w9, w10, w16, w12, w19, ⟨m, m1', m2, m3⟩, w22, w32, w15⟩ := h
  have mo : ∀ j, j ≠ 10 → m1 M 10 k 0 j = M j := fun j h => m1_n _ _ h
  refine ⟨by rw [mo 7 (by decide)]; exact w7, by rw [mo 8 (by decide)]; exact w8, by rw [mo 9 (by decide)]; exact w9, fun j hj => ?_, by rw [mo 16 (by decide)]; exact w16, by rw [mo 12 (by decide)]; exact w12, by rw [mo 19 (by decide)]; exact w19, ⟨m, m1', m2, w_seg_c m3 rfl rfl (mo 14 (by decide))⟩, by rw [mo 22 (by decide)]; exact w22, by rw [mo 32 (by decide)]; exact w32, by rw [mo 15 (by decide)]; exact w15⟩
  rw [m1_at]
  split
  · rfl
  · exact w10 j hj
theorem w_22 {Z : mZ} {M : mM} {t k n : Nat} (h : w_f Z M t) (hn : n ≤ 4) : w_f Z (m1 M 22 k (nI n)) t := by
  obtain ⟨w7, w8, w9, w10, w16, w12, w19, ⟨m, m1', m2, m3⟩, w22, w32, w15⟩ := h
  have mo : ∀ j, j ≠ 22 → m1 M 22 k (nI n) j = M j := fun j h => m1_n _ _ h
  refine ⟨by rw [mo 7 (by decide)]; exact w7, by rw [mo 8 (by decide)]; exact w8, by rw [mo 9 (by decide)]; exact w9, by rw [mo 10 (by decide)]; exact w10, by rw [mo 16 (by decide)]; exact w16, by rw [mo 12 (by decide)]; exact w12, by rw [mo 19 (by decide)]; exact w19, ⟨m, m1', m2, w_seg_c m3 rfl rfl (mo 14 (by decide))⟩, fun s => ?_, by rw [mo 32 (by decide)]; exact w32, by rw [mo 15 (by decide)]; exact w15⟩
  rw [m1_at]
  split
  · exact ⟨n, hn, rfl⟩
  · exact w22 s
theorem w_M {Z : mZ} {M M' : mM} {t : Nat} (h : w_f Z M t) (hM : ∀ j, j ∈ [7, 8, 9, 10, 12, 14, 15, 16, 19, 22, 32] → M' j = M j) : w_f Z M' t := w_f_c h (Nat.le_refl _) (fun _ _ => rfl) hM
theorem w_1x {Z : mZ} {M : mM} {t k j : Nat} {v : Int32} (h : w_f Z M t) (hj : j ∉ [7, 8, 9, 10, 12, 14, 15, 16, 19, 22, 32]) : w_f Z (m1 M j k v) t := w_M h (fun i hi => m1_n _ _ (fun z => hj (by rw [← z]; exact hi)))
theorem w_back {Z : mZ} {M : mM} {t s : Nat} (h : w_f Z M t) (ht : t ≤ 512) (h21 : M 21 s = -1 ∨ ∃ d, d ≤ 999 ∧ M 21 s = nI d) : w_f Z (o_back M s) t := by
  unfold o_back
  have h0 : w_f Z (if M 21 s = -1 then M else m1 (m1 M 19 s (M 19 s - o_pay M s (M 21 s))) 10 (M 18 s).toNatClampNeg 0) t := by
    by_cases c : M 21 s = -1
    · rw [if_pos c]; exact h
    · rw [if_neg c]
      obtain ⟨d, d1, d2⟩ := h21.resolve_left c
      obtain ⟨c9, c1, c2⟩ := h.2.2.2.2.2.2.1 s
      obtain ⟨p9, p1, p2⟩ := o_pay_nat c2 (by omega) (show d < 2 ^ 30 by omega)
      rw [d2, p2, c2, nI_subN p1]
      exact w_10 (w_purse h (by omega))
  have h1 := w_1x (j := 21) (k := s) (v := -1) h0 (by decide)
  exact w_22 (n := 0) (w_1x (j := 18) h1 (by decide)) (by omega)
theorem w_strike {Z : mZ} {M : mM} {t f : Nat} (h : w_f Z M t) (ht : t ≤ 512) (h15 : M 15 f = -1 ∨ ∃ s, M 15 f = nI s) (h21 : ∀ s, s < zn Z 2 → ¬ M 22 s = 0 → M 21 s = -1 ∨ ∃ d, d ≤ 999 ∧ M 21 s = nI d) : w_f Z (p_strike Z M f).2 (t + 1) := by
  have h1 : w_f Z (m1 M 16 f 1) t := by
    obtain ⟨w7, w8, w9, w10, w16, w12, w19, ⟨m, m1', m2, m3⟩, w22, w32, w15⟩ := h
    have mo : ∀ j, j ≠ 16 → m1 M 16 f 1 j = M j := fun j h => m1_n _ _ h
    refine ⟨by rw [mo 7 (by decide)]; exact w7, by rw [mo 8 (by decide)]; exact w8, by rw [mo 9 (by decide)]; exact w9, by rw [mo 10 (by decide)]; exact w10, fun g => ?_, by rw [mo 12 (by decide)]; exact w12, by rw [mo 19 (by decide)]; exact w19, ⟨m, m1', m2, w_seg_c m3 rfl rfl (mo 14 (by decide))⟩, by rw [mo 22 (by decide)]; exact w22, by rw [mo 32 (by decide)]; exact w32, by rw [mo 15 (by decide)]; exact w15⟩
    rw [m1_at]
    split
    · exact Or.inr rfl
    · exact w16 g
  have h2 : w_f Z (o_fine (m1 M 16 f 1) f) t := by
    unfold o_fine
    rw [m1_n _ _ (by decide)]
    rcases h15 with c | ⟨s, c⟩
    · rw [if_pos c]; exact h1
    · by_cases c0 : M 15 f = -1
      · rw [if_pos c0]; exact h1
      · rw [if_neg c0]
        obtain ⟨c9, c1, c2⟩ := h1.2.2.2.2.2.2.1 (M 15 f).toNatClampNeg
        obtain ⟨p9, p1, p2⟩ := o_pay_nat c2 (by omega) (show 10 < 2 ^ 30 by omega)
        rw [show (10 : Int32) = nI 10 from rfl, p2, c2, nI_subN p1]
        exact w_purse h1 (by omega)
  have e21 : ∀ j, j ≠ 19 → j ≠ 16 → o_fine (m1 M 16 f 1) f j = M j := fun j a b => (o_fine_n _ _ a).trans (m1_n _ _ b)
  have key : ∀ s, s ≤ zn Z 2 → w_f Z (o_bk Z (o_fine (m1 M 16 f 1) f) s).2 t := fun s => by
    induction s with
    | zero => intro _; exact h2
    | succ s ih =>
      intro hs
      have ih := ih (by omega)
      show w_f Z (if o_goes Z (o_bk Z (o_fine (m1 M 16 f 1) f) s).2 s = true then ((o_bk Z (o_fine (m1 M 16 f 1) f) s).1 + 1, o_back (o_bk Z (o_fine (m1 M 16 f 1) f) s).2 s) else o_bk Z (o_fine (m1 M 16 f 1) f) s).2 t
      by_cases c : o_goes Z (o_bk Z (o_fine (m1 M 16 f 1) f) s).2 s = true
      · rw [if_pos c]
        have k22 : (o_bk Z (o_fine (m1 M 16 f 1) f) s).2 22 s = M 22 s := by rw [o_bk_k Z _ (by decide) s (Nat.le_refl _), e21 22 (by decide) (by decide)]
        have k21 : (o_bk Z (o_fine (m1 M 16 f 1) f) s).2 21 s = M 21 s := by rw [o_bk_k Z _ (by decide) s (Nat.le_refl _), e21 21 (by decide) (by decide)]
        refine w_back ih ht ?_
        rw [k21]
        refine h21 s (by omega) (fun z => ?_)
        unfold o_goes at c
        rw [k22, z] at c
        exact absurd c (by simp)
      · rw [if_neg c]; exact ih
  unfold p_strike
  exact w_f_c (key _ (Nat.le_refl _)) (by omega) (fun _ _ => rfl) (fun _ _ => rfl)
theorem w_sail {Z : mZ} {M : mM} {t nf ni nt n : Nat} {v : Int32} (h : w_f Z M t) (ht : t ≤ 512) (hnt : Z 29 = nI n) (hn : n ≤ 4) (hco : ∀ s u, o_cost M s u < 2 ^ 30) : w_f (p_sail Z M nf ni nt v).1 (p_sail Z M nf ni nt v).2 (t + 1) := by
  unfold p_sail
  by_cases c0 : t_sail Z M nf ni nt v = 0
  · rw [if_pos c0]
    have hpu : ¬ M 19 v.toNatClampNeg < nI (o_cost M v.toNatClampNeg (o_goal Z M nf ni nt v.toNatClampNeg).toNatClampNeg) := by
      unfold t_sail at c0
      by_cases q1 : o_shp Z v = true
      · rw [if_pos q1] at c0
        by_cases q2 : 0 < Z 29
        · rw [if_pos q2] at c0
          unfold t_sail0 at c0
          by_cases q3 : o_goal Z M nf ni nt v.toNatClampNeg = -1
          · rw [if_pos q3] at c0; exact absurd c0 (by decide)
          · rw [if_neg q3] at c0
            by_cases q4 : M 19 v.toNatClampNeg < nI (o_cost M v.toNatClampNeg (o_goal Z M nf ni nt v.toNatClampNeg).toNatClampNeg)
            · rw [if_pos q4] at c0; exact absurd c0 (by decide)
            · exact q4
        · rw [if_neg q2] at c0; exact absurd c0 (by decide)
      · rw [if_neg q1] at c0; exact absurd c0 (by decide)
    generalize (o_goal Z M nf ni nt v.toNatClampNeg).toNatClampNeg = u at hpu
    generalize v.toNatClampNeg = s at hpu
    obtain ⟨c, c1, c2⟩ := h.2.2.2.2.2.2.1 s
    have hc := hco s u
    have hle : o_cost M s u ≤ c := Nat.le_of_not_lt (fun z => hpu (by rw [c2]; exact (nI_ltI (by omega) (by omega)).mpr z))
    unfold p_sail0
    dsimp only
    rw [c2, nI_subN hle, hnt]
    have h1 := w_22 (k := s) (n := n) (w_1x (j := 21) (k := s) (v := -1) (w_1x (j := 18) (k := s) (v := nI u) (w_1x (j := 20) (k := s) (v := M 18 s) (w_purse (s := s) (c := c - o_cost M s u) h (by omega)) (by decide)) (by decide)) (by decide)) hn
    refine w_f_c h1 (by omega) (fun j hj => z1_n _ _ (fun z => absurd hj (by rw [z]; decide))) (fun j hj => q_kcp_n s _ (fun z => absurd hj (by rw [z]; decide)) (fun z => absurd hj (by rw [z]; decide)) _)
  · rw [if_neg c0]
    by_cases c3 : t_sail Z M nf ni nt v = 3
    · rw [if_pos c3]; exact w_f_c (w_bl (c := 104) (b := true) (w_31 (v := 0) h) (by decide)) (by omega) (fun _ _ => rfl) (fun _ _ => rfl)
    · rw [if_neg c3]
      by_cases c4 : t_sail Z M nf ni nt v = 4
      · rw [if_pos c4]; exact w_f_c (w_bl (c := 99) (b := true) (w_31 (v := 0) h) (by decide)) (by omega) (fun _ _ => rfl) (fun _ _ => rfl)
      · rw [if_neg c4]; exact w_f_c h (by omega) (fun _ _ => rfl) (fun _ _ => rfl)
theorem w_word {Z : mZ} {M : mM} {t : Nat} {v g : Int32} (h : w_f Z M t) : w_f (p_word (Z, M) v g).1 (p_word (Z, M) v g).2 (t + 1) := by
  unfold p_word
  exact w_f_c h (by omega) (fun j hj => z1_n _ _ (fun z => absurd hj (by rw [z]; decide))) (fun j hj => (m1_n _ _ (fun z => absurd hj (by rw [z]; decide))).trans (m1_n _ _ (fun z => absurd hj (by rw [z]; decide))))
theorem w_wipe {Z : mZ} {M : mM} {t : Nat} (h : w_f Z M t) : w_f (z1 Z 29 0) M (t + 1) := w_f_c h (by omega) (fun j hj => z1_n _ _ (fun z => absurd hj (by rw [z]; decide))) (fun _ _ => rfl)
