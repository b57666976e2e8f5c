section
variable {K K' : Nat → Nat} {I I' : Nat → Nat → Int32} {R R' : Nat → Nat → Option Nat} {N N' : Nat → Nat} {A A' : Nat → Nat → Int32} {L L' : Nat → List Nat} {T T' : Nat → List Int32} {x : Nat} {cd : Nat → Nat} {Z Z' : mZ} {M M' : mM} {EI ER : Nat → Nat → Prop}
/-- an int field that is not among the changed ones -/
theorem q_fI (hc : c_chg K I R N K' I' R' N' EI ER) {a k : Nat} (hk : K a = k) (h0 : k ≠ 0) (h4 : k ≠ 40) {fs : List Nat} (hE : ∀ f, EI f a → f ∉ fs) (h110 : 110 ∉ fs) : ∀ f, f ∈ fs → I' f a = I f a := fun f hf =>
  (hc a (by rw [hk]; exact h0) (by rw [hk]; exact h4)).2.2.1 f (fun z => h110 (by rw [← z]; exact hf)) (fun z => hE f z hf)
theorem q_fR (hc : c_chg K I R N K' I' R' N' EI ER) {a k : Nat} (hk : K a = k) (h0 : k ≠ 0) (h4 : k ≠ 40) {fs : List Nat} (hE : ∀ f, ER f a → f ∉ fs) (h1 : 111 ∉ fs) (h9 : 99 ∉ fs) : ∀ f, f ∈ fs → R' f a = R f a := fun f hf =>
  (hc a (by rw [hk]; exact h0) (by rw [hk]; exact h4)).2.2.2.1 f (fun z => h1 (by rw [← z]; exact hf)) (fun z => h9 (by rw [← z]; exact hf)) (fun z => hE f z hf)
theorem q_isl_t (h : q_isl K I L cd Z M) (hc : c_chg K I R N K' I' R' N' EI ER) (hE : ∀ f a, EI f a → f ∉ [30, 31, 32, 33, 34]) (hL : L' (cd 0) = L (cd 0)) (hZ : Z' 0 = Z 0) (h7 : M' 7 = M 7) (h8 : M' 8 = M 8) (h9 : M' 9 = M 9) (h10 : M' 10 = M 10) : q_isl K' I' L' cd Z' M' := by
  obtain ⟨a1, a2, a3⟩ := h
  refine ⟨by rw [hL, hZ]; exact a1, by rw [hL]; exact a2, fun i a ha => ?_⟩
  rw [hL] at ha
  obtain ⟨k, b1, b2, b3, b4, b5⟩ := a3 i a ha
  have e := q_fI hc k (by decide) (by decide) (fs := [30, 31, 32, 33, 34]) (fun f z => hE f a z) (by decide)
  rw [h7, h8, h9, h10]
  exact ⟨c_kk hc k (by decide) (by decide), (e 30 (by decide)).trans b1, (e 31 (by decide)).trans b2, (e 32 (by decide)).trans b3, (e 33 (by decide)).trans b4, (e 34 (by decide)).trans b5⟩
theorem q_sgo_t {l9 : List Nat} (hk : ∀ a, a ∈ l9 → I' 50 a = I 50 a) (v : Int32) : q_sgo I' l9 v = q_sgo I l9 v := by
  unfold q_sgo
  split
  · rfl
  · induction l9 with
    | nil => rfl
    | cons a l ih =>
      rw [List.find?_cons, List.find?_cons, hk a List.mem_cons_self, ih (fun b hb => hk b (List.mem_cons_of_mem _ hb))]
theorem q_fnd_t (h : q_fnd K I R L cd Z M) (hc : c_chg K I R N K' I' R' N' EI ER) (hE : ∀ f a, EI f a → f ∉ [10, 11, 12, 13, 16]) (hER : ∀ f a, ER f a → f ∉ [14, 15]) (h50 : ∀ a, a ∈ L (cd 10) → I' 50 a = I 50 a) (hL1 : L' (cd 1) = L (cd 1)) (hL5 : ∀ j, j < (L (cd 5)).length → (L' (cd 5))[j]? = (L (cd 5))[j]? ∧ j < (L' (cd 5)).length) (hL10 : L' (cd 10) = L (cd 10)) (hZ : Z' 1 = Z 1) (h11 : M' 11 = M 11) (h12 : M' 12 = M 12) (h13 : M' 13 = M 13) (h14 : M' 14 = M 14) (h15 : M' 15 = M 15) (h16 : M' 16 = M 16) : q_fnd K' I' R' L' cd Z' M' := by
  obtain ⟨a1, a2, a3⟩ := h
  refine ⟨by rw [hL1, hZ]; exact a1, by rw [hL1]; exact a2, fun i a ha => ?_⟩
  rw [hL1] at ha
  obtain ⟨k, b1, b2, b3, b4, b5, b6, b7, b8, b9, b10⟩ := a3 i a ha
  have e := q_fI hc k (by decide) (by decide) (fs := [10, 11, 12, 13, 16]) (fun f z => hE f a z) (by decide)
  have e2 := q_fR hc k (by decide) (by decide) (fs := [14, 15]) (fun f z => hER f a z) (by decide) (by decide)
  have c6 : R 14 a = if M 15 i = -1 then none else (L' (cd 5))[(M 15 i).toNatClampNeg]? := by
    by_cases h2 : M 15 i = -1
    · rw [if_pos h2] at b6 ⊢; exact b6
    · rw [if_neg h2] at b6 ⊢
      rw [(hL5 _ (b7.resolve_left h2)).1]; exact b6
  have c7 : M 15 i = -1 ∨ (M 15 i).toNatClampNeg < (L' (cd 5)).length := b7.imp id (fun h => (hL5 _ h).2)
  rw [h11, h12, h13, h14, h15, h16, hL10, q_sgo_t h50, e2 14 (by decide), e2 15 (by decide)]
  exact ⟨c_kk hc k (by decide) (by decide), (e 10 (by decide)).trans b1, (e 11 (by decide)).trans b2, (e 12 (by decide)).trans b3, (e 13 (by decide)).trans b4, (e 16 (by decide)).trans b5, c6, c7, b8, b9, b10⟩
/-- the row stays: the finds' fields and the postings are as they were -/
theorem q_row_s (h : q_row I R L cd) (hI : ∀ a, a ∈ L (cd 1) → ∀ f, f ∈ [10, 12, 13, 16] → I' f a = I f a) (h15 : ∀ a, a ∈ L (cd 1) → (R' 15 a).isSome = (R 15 a).isSome) (hL1 : L' (cd 1) = L (cd 1)) (hL9 : L' (cd 9) = L (cd 9)) : q_row I' R' L' cd := by
  obtain ⟨a1, a2⟩ := h
  have hm : ∀ a, a ∈ L (cd 9) → a ∈ L (cd 1) := fun a ha => (List.mem_filter.mp (a1.mem_iff.mp ha)).1
  refine ⟨?_, ?_⟩
  · rw [hL1, hL9]
    refine a1.trans (List.Perm.of_eq (List.filter_congr (fun a ha => ?_)))
    unfold q_psb
    rw [h15 a ha, hI a ha 16 (by decide)]
  · rw [hL9]
    refine List.Pairwise.imp_of_mem (fun {a b} ha hb hab => ?_) a2
    have ea := hI a (hm a ha)
    have eb := hI b (hm b hb)
    unfold c_lt
    rw [ea 10 (by decide), ea 12 (by decide), ea 13 (by decide), eb 10 (by decide), eb 12 (by decide), eb 13 (by decide)]
    exact hab
theorem q_row_t (h : q_row I R L cd) (hk : ∀ a, a ∈ L (cd 1) → K a = 1) (hc : c_chg K I R N K' I' R' N' EI ER) (hE : ∀ f a, EI f a → f ∉ [10, 12, 13, 16]) (hER : ∀ f a, ER f a → f ∉ [15]) (hL1 : L' (cd 1) = L (cd 1)) (hL9 : L' (cd 9) = L (cd 9)) : q_row I' R' L' cd :=
  q_row_s h (fun a ha => q_fI hc (hk a ha) (by decide) (by decide) (fs := [10, 12, 13, 16]) (fun f z => hE f a z) (by decide)) (fun a ha => by rw [q_fR hc (hk a ha) (by decide) (by decide) (fs := [15]) (fun f z => hER f a z) (by decide) (by decide) 15 (by decide)]) hL1 hL9
/-- finds leave the row -/
theorem q_row_out (h : q_row I R L cd) (hnd : (L (cd 1)).Nodup) (hI : ∀ a, a ∈ L (cd 1) → ∀ f, f ∈ [10, 12, 13] → I' f a = I f a) (hL1 : L' (cd 1) = L (cd 1)) (hs : (L' (cd 9)).Sublist (L (cd 9))) (hm : ∀ a, a ∈ L (cd 9) → (a ∈ L' (cd 9) ↔ (R' 15 a ≠ none ∧ I' 16 a = 0))) (hn : ∀ a, a ∈ L (cd 1) → R' 15 a ≠ none → I' 16 a = 0 → R 15 a ≠ none ∧ I 16 a = 0) : q_row I' R' L' cd := by
  obtain ⟨a1, a2⟩ := h
  have hm1 : ∀ a, a ∈ L (cd 9) ↔ (a ∈ L (cd 1) ∧ (R 15 a ≠ none ∧ I 16 a = 0)) := fun a => by rw [a1.mem_iff, List.mem_filter, q_psb_i]
  have hnd9 : (L (cd 9)).Nodup := a1.nodup_iff.mpr (hnd.sublist List.filter_sublist)
  refine ⟨?_, ?_⟩
  · rw [hL1]
    refine (List.perm_ext_iff_of_nodup (hnd9.sublist hs) (hnd.sublist List.filter_sublist)).mpr (fun a => ?_)
    rw [List.mem_filter, q_psb_i]
    constructor
    · intro ha
      exact ⟨((hm1 a).mp (hs.subset ha)).1, (hm a (hs.subset ha)).mp ha⟩
    · rintro ⟨ha, h1, h2⟩
      exact (hm a ((hm1 a).mpr ⟨ha, hn a ha h1 h2⟩)).mpr ⟨h1, h2⟩
  · refine List.Pairwise.imp_of_mem (fun {a b} ha hb hab => ?_) (a2.sublist hs)
    have ea := hI a ((hm1 a).mp (hs.subset ha)).1
    have eb := hI b ((hm1 b).mp (hs.subset hb)).1
    unfold c_lt
    rw [ea 10 (by decide), ea 12 (by decide), ea 13 (by decide), eb 10 (by decide), eb 12 (by decide), eb 13 (by decide)]
    exact hab
theorem q_shf_t (hok : c_ok K R N x cd) (h : q_shf K I R L cd Z M) (hel1 : ∀ a, a ∈ L (cd 1) → K a = 1) (hc : c_chg K I R N K' I' R' N' EI ER) (hE : ∀ f a, EI f a → f ∉ [50, 62]) (hER : ∀ f a, ER f a → f ∉ [51, 61, 15]) (hL1 : L' (cd 1) = L (cd 1)) (hL10 : L' (cd 10) = L (cd 10)) (hLf : ∀ a fl, a ∈ L (cd 10) → R 51 a = some fl → L' fl = L fl) (hZ3 : Z' 3 = Z 3) (hZ4 : Z' 4 = Z 4) (hZ5 : Z' 5 = Z 5) (h17 : M' 17 = M 17) : q_shf K' I' R' L' cd Z' M' := by
  obtain ⟨a1, a2, a3, a4, a5, a6, a7, a8, a9, a10⟩ := h
  have k4 := hok.2.2.2.2.2.2.2.2.2.2.2.2.2.2.1
  have k5 : ∀ a, a ∈ L (cd 10) → K a = 5 := fun a ha => (q_el a3 a ha).elim fun _ q => q.1
  have e50 : ∀ a, a ∈ L (cd 10) → I' 50 a = I 50 a := fun a ha => q_fI hc (k5 a ha) (by decide) (by decide) (fs := [50, 62]) (fun f z => hE f a z) (by decide) 50 (by decide)
  have e51 : ∀ a, a ∈ L (cd 10) → R' 51 a = R 51 a := fun a ha => q_fR hc (k5 a ha) (by decide) (by decide) (fs := [51, 61, 15]) (fun f z => hER f a z) (by decide) (by decide) 51 (by decide)
  have e61 : R' 61 (cd 4) = R 61 (cd 4) := q_fR hc k4 (by decide) (by decide) (fs := [51, 61, 15]) (fun f z => hER f _ z) (by decide) (by decide) 61 (by decide)
  have e62 : I' 62 (cd 4) = I 62 (cd 4) := q_fI hc k4 (by decide) (by decide) (fs := [50, 62]) (fun f z => hE f _ z) (by decide) 62 (by decide)
  have e15 : ∀ a, a ∈ L (cd 1) → R' 15 a = R 15 a := fun a ha => q_fR hc (hel1 a ha) (by decide) (by decide) (fs := [51, 61, 15]) (fun f z => hER f a z) (by decide) (by decide) 15 (by decide)
  refine ⟨by rw [hL10, hZ3]; exact a1, by rw [hL10]; exact a2, fun k a ha => ?_, ?_, ?_, by rw [hL10]; exact a6, by rw [e62, hZ4]; exact a7, by rw [e61, hL10, hZ5, q_sgo_t e50]; exact a8, by rw [e61, hZ5]; exact a9, ?_⟩
  · rw [hL10] at ha
    have hm := List.mem_of_getElem? ha
    obtain ⟨b1, b2, fl, b3, b4, b5, b6, b7⟩ := a3 k a ha
    refine ⟨c_kk hc b1 (by decide) (by decide), by rw [e50 a hm, h17]; exact b2, fl, (e51 a hm).trans b3, c_kk hc b4 (by decide) (by decide), (hc fl (by rw [b4]; decide) (by rw [b4]; decide)).2.2.2.2 b5, b6, ?_⟩
    rw [hLf a fl hm b3, hL1]
    refine b7.trans (List.Perm.of_eq (List.filter_congr (fun b hb => ?_)))
    rw [e15 b hb]
  · rw [hL10]
    exact fun a b ha hb h9 => a4 a b ha hb (by rw [← e51 a ha, ← e51 b hb]; exact h9)
  · rw [hL10]
    exact fun a b ha hb h9 => a5 a b ha hb (by rw [← e50 a ha, ← e50 b hb]; exact h9)
  · rw [hL10, hZ4]
    obtain ⟨m, c1, c2, c3⟩ := a10
    exact ⟨m, c1, c2, fun a ha => by rw [e50 a ha]; exact c3 a ha⟩
theorem c_ph_t {ph w9 d9 n : Nat} (h : c_ph K R N I A ph w9 d9 n) (hc : c_chg K I R N K' I' R' N' EI ER) (hE : EI 42 ph → False) (hER : ∀ f, ER f ph → f ∉ [40, 41]) (hA : A' d9 = A d9) : c_ph K' R' N' I' A' ph w9 d9 n := by
  obtain ⟨h1, h2, h3, h4, h5, h6, h7, h8, h9, h10⟩ := h
  have e2 := q_fR hc h1 (by decide) (by decide) (fs := [40, 41]) hER (by decide) (by decide)
  exact ⟨c_kk hc h1 (by decide) (by decide), (e2 40 (by decide)).trans h2, c_kk hc h3 (by decide) (by decide), (hc w9 (by rw [h3]; decide) (by rw [h3]; decide)).2.1.trans h4, (e2 41 (by decide)).trans h5, c_kk hc h6 (by decide) (by decide), (hc d9 (by rw [h6]; decide) (by rw [h6]; decide)).2.1.trans h7, ((hc ph (by rw [h1]; decide) (by rw [h1]; decide)).2.2.1 42 (by decide) hE).trans h8, h9, by rw [hA]; exact h10⟩
theorem q_shp_t {s a : Nat} (h : q_shp K I R N A L cd M s a) (hc : c_chg K I R N K' I' R' N' EI ER) (hE : ∀ f, EI f a → f ∉ [72, 74]) (h42 : ∀ b, b ≠ cd 6 → ¬ EI 42 b) (hER : ∀ f b, ER f b → f ∉ [70, 71, 73, 40, 41]) (hA : ∀ b, K b = 21 ∨ K b = 22 → b ≠ cd 13 → b ≠ cd 14 → A' b = A b) (hL0 : ∀ (j b : Nat), (L (cd 0))[j]? = some b → (L' (cd 0))[j]? = some b) (h13 : K (cd 13) = 21) (h14 : K (cd 14) = 22)
    (h9 : ∀ j, j < (L (cd 0)).length → M' 9 j = M 9 j) (h18 : M' 18 = M 18) (h19 : M' 19 = M 19) (h20 : M' 20 = M 20) (h21 : M' 21 = M 21) (h22 : M' 22 = M 22) (h23 : M' 23 = M 23) (h24 : M' 24 = M 24) : q_shp K' I' R' N' A' L' cd M' s a := by
  obtain ⟨ph, w9, d9, n, is9, came, b1, b2, b3, b4, b5, b6, b7, b8, b9, b10, b11, b12, b13, b14, b15, b16, b17⟩ := h
  have kw : K w9 = 21 := b2.2.2.1
  have kd : K d9 = 22 := b2.2.2.2.2.2.1
  have eA : A' w9 = A w9 := hA w9 (Or.inl kw) b15 (c_kn kw h14 (by decide))
  have eD : A' d9 = A d9 := hA d9 (Or.inr kd) (c_kn kd h13 (by decide)) b16
  have e := q_fI hc b8 (by decide) (by decide) (fs := [72, 74]) hE (by decide)
  have eR := q_fR hc b8 (by decide) (by decide) (fs := [70, 71, 73, 40, 41]) (fun f z => hER f a z) (by decide) (by decide)
  refine ⟨ph, w9, d9, n, is9, came, (eR 70 (by decide)).trans b1, c_ph_t b2 hc (h42 ph b14) (fun f z hf => hER f ph z (by revert hf; simp only [List.mem_cons, List.not_mem_nil, or_false]; rintro (h | h) <;> simp [h])) eD, (eR 71 (by decide)).trans b3, ?_⟩
  have hl := (List.getElem?_eq_some_iff.mp b4).1
  have hm : came ∈ L' (cd 0) := by
    obtain ⟨j, hj, hj2⟩ := List.getElem_of_mem b7
    exact List.mem_of_getElem? (hL0 j came (List.getElem?_eq_some_iff.mpr ⟨hj, hj2⟩))
  rw [h18, h19, h20, h21, h22, h23, h24, eA, eD, e 72 (by decide), e 74 (by decide), eR 73 (by decide), h9 _ hl]
  exact ⟨hL0 _ _ b4, b5, b6, hm, c_kk hc b8 (by decide) (by decide), b9, b10, b11, b12, b13, b14, b15, b16, fun z => ⟨hL0 _ _ (b17 z).1, (b17 z).2⟩⟩
theorem q_shp_M {s a : Nat} (h : q_shp K I R N A L cd M s a) (h9 : M' 9 (M 18 s).toNatClampNeg = M 9 (M 18 s).toNatClampNeg) (h18 : M' 18 s = M 18 s) (h19 : M' 19 s = M 19 s) (h20 : M' 20 s = M 20 s) (h21 : M' 21 s = M 21 s) (h22 : M' 22 s = M 22 s) (h23 : ∀ k, k < 4 → M' 23 (4 * s + k) = M 23 (4 * s + k)) (h24 : ∀ k, k < 4 → M' 24 (4 * s + k) = M 24 (4 * s + k)) : q_shp K I R N A L cd M' s a := by
  obtain ⟨ph, w9, d9, n, is9, came, b1, b2, b3, b4, b5, b6, b7, b8, b9, b10, b11, b12, b13, b14, b15, b16, b17⟩ := h
  have hn := b2.2.2.2.2.2.2.2.2.1
  refine ⟨ph, w9, d9, n, is9, came, b1, b2, b3, ?_⟩
  rw [h18, h19, h20, h21, h22, h9]
  exact ⟨b4, b5, b6, b7, b8, b9, b10, b11, fun k hk => by rw [h23 k (by omega)]; exact b12 k hk, fun k h1 hk => by rw [h24 k (by omega)]; exact b13 k h1 hk, b14, b15, b16, b17⟩
theorem q_flt_t (hok : c_ok K R N x cd) (h : q_flt K I R N A L cd Z M) (hc : c_chg K I R N K' I' R' N' EI ER) (hE : ∀ f a, EI f a → f ∉ [72, 74]) (h42 : ∀ b, b ≠ cd 6 → ¬ EI 42 b) (hER : ∀ f b, ER f b → f ∉ [70, 71, 73, 40, 41]) (hA : ∀ b, K b = 21 ∨ K b = 22 → b ≠ cd 13 → b ≠ cd 14 → A' b = A b) (hL0 : ∀ (j b : Nat), (L (cd 0))[j]? = some b → (L' (cd 0))[j]? = some b) (hL5 : L' (cd 5) = L (cd 5)) (hZ : Z' 2 = Z 2)
    (h9 : ∀ j, j < (L (cd 0)).length → M' 9 j = M 9 j) (h18 : M' 18 = M 18) (h19 : M' 19 = M 19) (h20 : M' 20 = M 20) (h21 : M' 21 = M 21) (h22 : M' 22 = M 22) (h23 : M' 23 = M 23) (h24 : M' 24 = M 24) : q_flt K' I' R' N' A' L' cd Z' M' := by
  obtain ⟨a1, a2, a3, a4, a5, a6⟩ := h
  have k7 : ∀ a, a ∈ L (cd 5) → K a = 7 := fun a ha => (q_el a4 a ha).elim fun _ ⟨_, _, _, _, _, _, _, _, _, _, _, _, _, q, _⟩ => q
  have e70 : ∀ a, a ∈ L (cd 5) → R' 70 a = R 70 a := fun a ha => q_fR hc (k7 a ha) (by decide) (by decide) (fs := [70, 71, 73, 40, 41]) (fun f z => hER f a z) (by decide) (by decide) 70 (by decide)
  have e40 : ∀ a p, a ∈ L (cd 5) → R 70 a = some p → R' 40 p = R 40 p ∧ R' 41 p = R 41 p := fun a p ha hp => by
    obtain ⟨i, ph, w9, d9, n, is9, came, b1, b2, -⟩ := q_el a4 a ha
    obtain rfl : ph = p := Option.some.inj (b1.symm.trans hp)
    have e2 := q_fR hc b2.1 (by decide) (by decide) (fs := [70, 71, 73, 40, 41]) (fun f z => hER f ph z) (by decide) (by decide)
    exact ⟨e2 40 (by decide), e2 41 (by decide)⟩
  refine ⟨by rw [hL5, hZ]; exact a1, by rw [hL5]; exact a2, by rw [hL5]; exact a3, fun s a ha => ?_, fun a b ha hb hab => ?_, fun a b p q ha hb hab hp hq => ?_⟩
  · rw [hL5] at ha
    exact q_shp_t (a4 s a ha) hc (fun f z => hE f a z) h42 hER hA hL0 hok.2.2.2.2.2.2.2.2.2.2.2.2.2.2.2.2.2.2.2.2.2.2.2.1 hok.2.2.2.2.2.2.2.2.2.2.2.2.2.2.2.2.2.2.2.2.2.2.2.2.1 h9 h18 h19 h20 h21 h22 h23 h24
  · rw [hL5] at ha hb
    rw [e70 a ha, e70 b hb]
    exact a5 a b ha hb hab
  · rw [hL5] at ha hb
    rw [e70 a ha] at hp
    rw [e70 b hb] at hq
    rw [(e40 a p ha hp).1, (e40 a p ha hp).2, (e40 b q hb hq).1, (e40 b q hb hq).2]
    exact a6 a b p q ha hb hab hp hq
theorem q_typ_t (h : q_typ K I R N A cd Z M) (hc : c_chg K I R N K' I' R' N' EI ER) (hE : ¬ EI 42 (cd 6)) (hER : ∀ f b, ER f b → f ∉ [40, 41]) (hA13 : A' (cd 13) = A (cd 13)) (hA14 : A' (cd 14) = A (cd 14)) (hZ : Z' 29 = Z 29) (h25 : M' 25 = M 25) (h26 : M' 26 = M 26) : q_typ K' I' R' N' A' cd Z' M' := by
  obtain ⟨n, a1, a2, a3, a4⟩ := h
  exact ⟨n, hZ.trans a1, c_ph_t a2 hc hE (fun f z => hER f _ z) hA14, by rw [hA13, h25]; exact a3, by rw [hA14, h26]; exact a4⟩
theorem q_cau_t (h : q_cau T cd Z M) (hT : T' (cd 7) = T (cd 7)) (hZ : Z' 31 = Z 31) (h32 : M' 32 = M 32) : q_cau T' cd Z' M' := by
  unfold q_cau at h ⊢
  rw [hT, hZ, h32]
  exact h
end
