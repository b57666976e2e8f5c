theorem c_lt_iff (I : Nat → Nat → Int32) (a b : Nat) : c_lt I a b = true ↔ ((I 11 a).toInt < (I 11 b).toInt ∨ ((I 11 a).toInt = (I 11 b).toInt ∧ ((I 12 a).toInt < (I 12 b).toInt ∨ ((I 12 a).toInt = (I 12 b).toInt ∧ ((I 13 a).toInt < (I 13 b).toInt ∨ ((I 13 a).toInt = (I 13 b).toInt ∧ (I 10 a).toInt < (I 10 b).toInt)))))) := by
  unfold c_lt
  by_cases h1 : I 11 a = I 11 b
  · rw [if_pos h1, h1]
    by_cases h2 : I 12 a = I 12 b
    · rw [if_pos h2, h2]
      by_cases h3 : I 13 a = I 13 b
      · rw [if_pos h3, h3, decide_eq_true_eq, Int32.lt_iff_toInt_lt]
        omega
      · have n3 : ¬ (I 13 a).toInt = (I 13 b).toInt := fun z => h3 (Int32.toInt_inj.mp z)
        rw [if_neg h3, decide_eq_true_eq, Int32.lt_iff_toInt_lt]
        omega
    · have n2 : ¬ (I 12 a).toInt = (I 12 b).toInt := fun z => h2 (Int32.toInt_inj.mp z)
      rw [if_neg h2, decide_eq_true_eq, Int32.lt_iff_toInt_lt]
      omega
  · have n1 : ¬ (I 11 a).toInt = (I 11 b).toInt := fun z => h1 (Int32.toInt_inj.mp z)
    rw [if_neg h1, decide_eq_true_eq, Int32.lt_iff_toInt_lt]
    omega
theorem c_lt_tr {I : Nat → Nat → Int32} {a b c : Nat} (h1 : c_lt I a b = true) (h2 : c_lt I b c = true) : c_lt I a c = true := by
  rw [c_lt_iff] at h1 h2 ⊢
  omega
theorem c_lt_tot {I : Nat → Nat → Int32} {a b : Nat} (hne : ¬ I 10 a = I 10 b) (h : c_lt I a b = false) : c_lt I b a = true := by
  have n1 : ¬ (I 10 a).toInt = (I 10 b).toInt := fun z => hne (Int32.toInt_inj.mp z)
  have h2 : ¬ c_lt I a b = true := by rw [h]; decide
  rw [c_lt_iff] at h2 ⊢
  omega
theorem y_ins_perm (l : List Nat) (k a : Nat) : (y_ins l k a).Perm (a :: l) := by
  unfold y_ins
  refine List.perm_middle.trans ?_
  rw [List.take_append_drop]
/-- the row stays sorted -/
theorem y_ins_srt {I : Nat → Nat → Int32} {l : List Nat} {k a : Nat} (hp : l.Pairwise (fun x y => c_lt I x y = true)) (hne : ∀ b, b ∈ l → ¬ I 10 a = I 10 b) (hk : k ≤ l.length) (h1 : ∀ j, k ≤ j → j < l.length → c_lt I a (l.getD j 0) = true) (h2 : k = 0 ∨ c_lt I a (l.getD (k - 1) 0) = false) : (y_ins l k a).Pairwise (fun x y => c_lt I x y = true) := by
  have hd : ∀ b, b ∈ l.drop k → c_lt I a b = true := fun b hb => by
    obtain ⟨j, hj, hj2⟩ := List.getElem_of_mem hb
    rw [List.length_drop] at hj
    rw [List.getElem_drop] at hj2
    have := h1 (k + j) (by omega) (by omega)
    rw [List.getD_eq_getElem?_getD, List.getElem?_eq_getElem (by omega), hj2] at this
    exact this
  have ht : ∀ b, b ∈ l.take k → c_lt I b a = true := fun b hb => by
    obtain ⟨j, hj, hj2⟩ := List.getElem_of_mem hb
    rw [List.length_take] at hj
    rw [List.getElem_take] at hj2
    rcases h2 with h2 | h2
    · omega
    · have hl : l.getD (k - 1) 0 = l[k - 1]'(by omega) := by rw [List.getD_eq_getElem?_getD, List.getElem?_eq_getElem (by omega)]; rfl
      rw [hl] at h2
      have h3 := c_lt_tot (hne _ (List.getElem_mem (by omega))) h2
      by_cases e : j = k - 1
      · subst e; rw [← hj2]; exact h3
      · have h4 := List.pairwise_iff_getElem.mp hp j (k - 1) (by omega) (by omega) (by omega)
        rw [hj2] at h4
        exact c_lt_tr h4 h3
  unfold y_ins
  refine List.pairwise_append.mpr ⟨hp.sublist (List.take_sublist _ _), List.pairwise_cons.mpr ⟨hd, hp.sublist (List.drop_sublist _ _)⟩, fun b hb c hc => ?_⟩
  rcases List.mem_cons.mp hc with h | h
  · rw [h]; exact ht b hb
  · exact c_lt_tr (ht b hb) (hd c h)
section
variable {K K2 : Nat → Nat} {I I2 : Nat → Nat → Int32} {R R2 : Nat → Nat → Option Nat} {N N2 : Nat → Nat} {A : Nat → Nat → Int32} {L L2 : Nat → List Nat} {T : Nat → List Int32} {x : Nat} {cd : Nat → Nat} {Z Z2 : mZ} {M M2 : mM}
theorem q_told {a : Nat} {wd isl pl shp : Int32} (hs : c_sim K I R N A L T x cd Z M) (ka : K a = 1) (hna : a ∉ L (cd 1)) (hlt : (L (cd 1)).length < 120) (i10 : I 10 a = nI (L (cd 1)).length) (i11 : I 11 a = wd) (i12 : I 12 a = isl) (i13 : I 13 a = pl) (i16 : I 16 a = 0) (r14 : R 14 a = if shp = -1 then none else (L (cd 5))[shp.toNatClampNeg]?) (hshp : shp = -1 ∨ shp.toNatClampNeg < (L (cd 5)).length) (r15 : R 15 a = none) (hpl : ∃ p, p < 41 ∧ pl = nI p)
    {k : Nat} (hk : k ≤ (L (cd 9)).length) (hk1 : ∀ j, k ≤ j → j < (L (cd 9)).length → c_lt I a ((L (cd 9)).getD j 0) = true) (hk2 : k = 0 ∨ c_lt I a ((L (cd 9)).getD (k - 1) 0) = false) (eL : L2 = m_up (m_up L (cd 1) (L (cd 1) ++ [a])) (cd 9) (y_ins (L (cd 9)) k a)) : c_sim K I R N A L2 T x cd (o_told (Z, M) wd isl pl shp).1 (o_told (Z, M) wd isl pl shp).2 := by
  have hel1 := q_el1 hs
  obtain ⟨hok, hi, hf, hr, hsh, hfl, hty, hca, hcp⟩ := hs
  have hzn : zn Z 1 = (L (cd 1)).length := zn_of hf.1 (by omega)
  have e2 : (o_told (Z, M) wd isl pl shp).2 = m1 (m1 (m1 (m1 (m1 (m1 M 11 (L (cd 1)).length wd) 12 (L (cd 1)).length isl) 13 (L (cd 1)).length pl) 15 (L (cd 1)).length shp) 16 (L (cd 1)).length 0) 14 (L (cd 1)).length (-1) := by unfold o_told; dsimp only; rw [hzn]
  have e1 : (o_told (Z, M) wd isl pl shp).1 = z1 Z 1 (Z 1 + 1) := rfl
  rw [e1, e2]
  generalize hn : (L (cd 1)).length = n at *
  obtain ⟨M2, eM⟩ : ∃ z, z = m1 (m1 (m1 (m1 (m1 (m1 M 11 n wd) 12 n isl) 13 n pl) 15 n shp) 16 n 0) 14 n (-1) := ⟨_, rfl⟩
  rw [← eM]
  have mo : ∀ j g, g ≠ n → M2 j g = M j g := fun j g h => by rw [eM, m1_k _ _ _ _ h, m1_k _ _ _ _ h, m1_k _ _ _ _ h, m1_k _ _ _ _ h, m1_k _ _ _ _ h, m1_k _ _ _ _ h]
  have mj : ∀ j, j ∉ [11, 12, 13, 14, 15, 16] → M2 j = M j := fun j h => by
    have h' : ∀ i, i ∈ [11, 12, 13, 14, 15, 16] → j ≠ i := fun i hi z => h (by rw [z]; exact hi)
    rw [eM, m1_n _ _ (h' 14 (by decide)), m1_n _ _ (h' 16 (by decide)), m1_n _ _ (h' 15 (by decide)), m1_n _ _ (h' 13 (by decide)), m1_n _ _ (h' 12 (by decide)), m1_n _ _ (h' 11 (by decide))]
  have m11 : M2 11 n = wd := by rw [eM, m1_n _ _ (by decide), m1_n _ _ (by decide), m1_n _ _ (by decide), m1_n _ _ (by decide), m1_n _ _ (by decide), m1_at, if_pos rfl]
  have m12 : M2 12 n = isl := by rw [eM, m1_n _ _ (by decide), m1_n _ _ (by decide), m1_n _ _ (by decide), m1_n _ _ (by decide), m1_at, if_pos rfl]
  have m13 : M2 13 n = pl := by rw [eM, m1_n _ _ (by decide), m1_n _ _ (by decide), m1_n _ _ (by decide), m1_at, if_pos rfl]
  have m15 : M2 15 n = shp := by rw [eM, m1_n _ _ (by decide), m1_n _ _ (by decide), m1_at, if_pos rfl]
  have m16 : M2 16 n = 0 := by rw [eM, m1_n _ _ (by decide), m1_at, if_pos rfl]
  have m14 : M2 14 n = -1 := by rw [eM, m1_at, if_pos rfl]
  have hL1 : L2 (cd 1) = L (cd 1) ++ [a] := by rw [eL, m_up_ne _ _ hok.2.2.2.2.2.2.2.2.2.2.2.2.2.2.2.2.2.2.2.2.2.2.2.2.2.2.2.2.2.2.2.2.2.2.2.2.2.2.2.2.2.2.2.2.2.2.2.2.2.1, m_up_self]
  have hL9 : L2 (cd 9) = y_ins (L (cd 9)) k a := by rw [eL, m_up_self]
  have hLn : ∀ b, b ≠ cd 1 → b ≠ cd 9 → L2 b = L b := fun b h1 h9 => by rw [eL, m_up_ne _ _ h9, m_up_ne _ _ h1]
  have hc := c_chg_rf (K := K) (I := I) (R := R) (N := N)
  have z1' : ∀ j, j ≠ 1 → z1 Z 1 (Z 1 + 1) j = Z j := fun j h => z1_n _ _ h
  have n10 : ∀ b, b ∈ L (cd 9) → ¬ I 10 a = I 10 b := fun b hb => by
    obtain ⟨g, hg, hg2⟩ := List.getElem_of_mem (hr.1.mem_iff.mp hb)
    have q := (hf.2.2 g b (List.getElem?_eq_some_iff.mpr ⟨hg, hg2⟩)).2.1
    rw [q, i10]
    exact fun z => absurd ((nI_eq (by omega) (by omega)).mp z) (by omega)
  have hLf : ∀ b fl, b ∈ L (cd 10) → R 51 b = some fl → L2 fl = L fl := fun b fl hb h9 => by
    obtain ⟨g, -, -, f2, b3, -, -, b6, -⟩ := q_el hsh.2.2.1 b hb
    rw [h9] at b3
    rw [Option.some.inj b3]
    exact hLn _ (b6 1 (by decide)) (b6 9 (by decide))
  refine ⟨hok, q_isl_t hi hc (fun _ _ z => absurd z id) (hLn _ hok.2.2.2.2.2.2.2.2.2.2.2.2.2.2.2.2.2.2.2.2.2.2.2.2.2.2.2.2.2.2.2.2.2.2.2.2.2.2.2.2.2.2.1 hok.2.2.2.2.2.2.2.2.2.2.2.2.2.2.2.2.2.2.2.2.2.2.2.2.2.2.2.2.2.2.2.2.2.2.2.2.2.2.2.2.2.2.2.2.2.1) (z1' 0 (by decide)) (mj 7 (by decide)) (mj 8 (by decide)) (mj 9 (by decide)) (mj 10 (by decide)), ⟨?_, ?_, fun g b hb => ?_⟩, ⟨?_, ?_⟩, ?_, q_flt_t hok hfl hc (fun _ _ z => absurd z id) (fun _ _ z => z) (fun _ _ z => absurd z id) (fun _ _ _ _ => rfl) (fun j b h => by rw [hLn _ hok.2.2.2.2.2.2.2.2.2.2.2.2.2.2.2.2.2.2.2.2.2.2.2.2.2.2.2.2.2.2.2.2.2.2.2.2.2.2.2.2.2.2.1 hok.2.2.2.2.2.2.2.2.2.2.2.2.2.2.2.2.2.2.2.2.2.2.2.2.2.2.2.2.2.2.2.2.2.2.2.2.2.2.2.2.2.2.2.2.2.1]; exact h) (hLn _ (Ne.symm hok.2.2.2.2.2.2.2.2.2.2.2.2.2.2.2.2.2.2.2.2.2.2.2.2.2.2.2.2.2.2.2.2.2.2.2.2.2.2.2.2.2.2.2.2.2.2.2.1) hok.2.2.2.2.2.2.2.2.2.2.2.2.2.2.2.2.2.2.2.2.2.2.2.2.2.2.2.2.2.2.2.2.2.2.2.2.2.2.2.2.2.2.2.2.2.2.2.2.2.2.2.2.1) (z1' 2 (by decide)) (fun j _ => by rw [mj 9 (by decide)]) (mj 18 (by decide)) (mj 19 (by decide)) (mj 20 (by decide)) (mj 21 (by decide)) (mj 22 (by decide)) (mj 23 (by decide)) (mj 24 (by decide)), q_typ_t hty hc id (fun _ _ z => absurd z id) rfl rfl (z1' 29 (by decide)) (mj 25 (by decide)) (mj 26 (by decide)), q_cau_t hca rfl (z1' 31 (by decide)) (mj 32 (by decide)), hcp⟩
  · rw [hL1, List.length_append, List.length_singleton, z1_s, hf.1, hn, nI_1]
  · rw [hL1, List.length_append, List.length_singleton, hn]; omega
  · rw [hL1] at hb
    rw [hLn _ (Ne.symm hok.2.2.2.2.2.2.2.2.2.2.2.2.2.2.2.2.2.2.2.2.2.2.2.2.2.2.2.2.2.2.2.2.2.2.2.2.2.2.2.2.2.2.2.2.2.2.2.1) hok.2.2.2.2.2.2.2.2.2.2.2.2.2.2.2.2.2.2.2.2.2.2.2.2.2.2.2.2.2.2.2.2.2.2.2.2.2.2.2.2.2.2.2.2.2.2.2.2.2.2.2.2.1, hLn _ (Ne.symm hok.2.2.2.2.2.2.2.2.2.2.2.2.2.2.2.2.2.2.2.2.2.2.2.2.2.2.2.2.2.2.2.2.2.2.2.2.2.2.2.2.2.2.2.2.2.2.2.2.2.2.1) (Ne.symm hok.2.2.2.2.2.2.2.2.2.2.2.2.2.2.2.2.2.2.2.2.2.2.2.2.2.2.2.2.2.2.2.2.2.2.2.2.2.2.2.2.2.2.2.2.2.2.2.2.2.2.2.2.2.2.2.2)]
    rcases lg_app hb with ⟨h1, h2⟩ | ⟨h1, h2⟩
    · rw [mo 11 g (by omega), mo 12 g (by omega), mo 13 g (by omega), mo 14 g (by omega), mo 15 g (by omega), mo 16 g (by omega)]
      exact hf.2.2 g b h2
    · rw [h1, h2, hn, m11, m12, m13, m14, m15, m16]
      exact ⟨ka, i10, i11, i12, i13, i16, r14, hshp, by rw [r15]; rfl, Or.inl rfl, hpl⟩
  · rw [hL1, hL9]
    exact (y_ins_perm _ _ _).trans ((List.Perm.cons a hr.1).trans (List.perm_append_comm (l₁ := [a]) (l₂ := L (cd 1))))
  · rw [hL9]
    exact y_ins_srt hr.2 n10 hk hk1 hk2
  · obtain ⟨a1, a2, a3, a4, a5, a6, a7, a8, a9, a10⟩ := hsh
    have h10 := hLn _ (Ne.symm hok.2.2.2.2.2.2.2.2.2.2.2.2.2.2.2.2.2.2.2.2.2.2.2.2.2.2.2.2.2.2.2.2.2.2.2.2.2.2.2.2.2.2.2.2.2.2.2.2.2.2.1) (Ne.symm hok.2.2.2.2.2.2.2.2.2.2.2.2.2.2.2.2.2.2.2.2.2.2.2.2.2.2.2.2.2.2.2.2.2.2.2.2.2.2.2.2.2.2.2.2.2.2.2.2.2.2.2.2.2.2.2.2)
    refine ⟨by rw [h10, z1' 3 (by decide)]; exact a1, by rw [h10]; exact a2, fun g b hb => ?_, by rw [h10]; exact a4, by rw [h10]; exact a5, by rw [h10]; exact a6, by rw [z1' 4 (by decide)]; exact a7, by rw [h10, z1' 5 (by decide)]; exact a8, by rw [z1' 5 (by decide)]; exact a9, by rw [h10, z1' 4 (by decide)]; exact a10⟩
    rw [h10] at hb
    obtain ⟨b1, b2, f2, b3, b4, b5, b6, b7⟩ := a3 g b hb
    refine ⟨b1, by rw [mj 17 (by decide)]; exact b2, f2, b3, b4, b5, b6, ?_⟩
    rw [hLf b f2 (List.mem_of_getElem? hb) b3, hL1, List.filter_append]
    have e0 : [a].filter (fun c => decide (R 15 c = some b)) = [] := by
      rw [List.filter_eq_nil_iff]
      intro c hcm
      rw [List.mem_singleton.mp hcm, r15]
      simp
    rw [e0, List.append_nil]
    exact b7
end
