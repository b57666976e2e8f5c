section
variable {K K2 : Nat → Nat} {I I2 : Nat → Nat → Int32} {R R2 : Nat → Nat → Option Nat} {N N2 : Nat → Nat} {A : Nat → Nat → Int32} {L L2 : Nat → List Nat} {T : Nat → List Int32} {x : Nat} {cd : Nat → Nat} {Z Z2 : mZ} {M M2 : mM}
theorem q_told {a : Nat} {wd isl pl shp : Int32} (hs : c_sim K I R N A L T x cd Z M) (ka : K a = 1) (hna : a ∉ L (cd 1)) (hlt : (L (cd 1)).length < 120) (i10 : I 10 a = nI (L (cd 1)).length) (i11 : I 11 a = wd) (i12 : I 12 a = isl) (i13 : I 13 a = pl) (i16 : I 16 a = 0) (r14 : R 14 a = if shp = -1 then none else (L (cd 5))[shp.toNatClampNeg]?) (hshp : shp = -1 ∨ shp.toNatClampNeg < (L (cd 5)).length) (r15 : R 15 a = none) (hpl : ∃ p, p < 41 ∧ pl = nI p)
    (eL : L2 = m_up L (cd 1) (L (cd 1) ++ [a])) : c_sim K I R N A L2 T x cd (o_told (Z, M) wd isl pl shp).1 (o_told (Z, M) wd isl pl shp).2 := by
  have hel1 := q_el1 hs
  obtain ⟨hok, hi, hf, hr, hsh, hfl, hty, hca, hcp⟩ := hs
  have hzn : zn Z 1 = (L (cd 1)).length := zn_of hf.1 (by omega)
  have e2 : (o_told (Z, M) wd isl pl shp).2 = m1 (m1 (m1 (m1 (m1 (m1 M 11 (L (cd 1)).length wd) 12 (L (cd 1)).length isl) 13 (L (cd 1)).length pl) 15 (L (cd 1)).length shp) 16 (L (cd 1)).length 0) 14 (L (cd 1)).length (-1) := by unfold o_told; dsimp only; rw [hzn]
  have e1 : (o_told (Z, M) wd isl pl shp).1 = z1 Z 1 (Z 1 + 1) := rfl
  rw [e1, e2]
  generalize hn : (L (cd 1)).length = n at *
  obtain ⟨M2, eM⟩ : ∃ z, z = m1 (m1 (m1 (m1 (m1 (m1 M 11 n wd) 12 n isl) 13 n pl) 15 n shp) 16 n 0) 14 n (-1) := ⟨_, rfl⟩
  rw [← eM]
  have mo : ∀ j g, g ≠ n → M2 j g = M j g := fun j g h => by rw [eM, m1_k _ _ _ _ h, m1_k _ _ _ _ h, m1_k _ _ _ _ h, m1_k _ _ _ _ h, m1_k _ _ _ _ h, m1_k _ _ _ _ h]
  have mj : ∀ j, j ∉ [11, 12, 13, 14, 15, 16] → M2 j = M j := fun j h => by
    have h' : ∀ i, i ∈ [11, 12, 13, 14, 15, 16] → j ≠ i := fun i hi z => h (by rw [z]; exact hi)
    rw [eM, m1_n _ _ (h' 14 (by decide)), m1_n _ _ (h' 16 (by decide)), m1_n _ _ (h' 15 (by decide)), m1_n _ _ (h' 13 (by decide)), m1_n _ _ (h' 12 (by decide)), m1_n _ _ (h' 11 (by decide))]
  have m11 : M2 11 n = wd := by rw [eM, m1_n _ _ (by decide), m1_n _ _ (by decide), m1_n _ _ (by decide), m1_n _ _ (by decide), m1_n _ _ (by decide), m1_at, if_pos rfl]
  have m12 : M2 12 n = isl := by rw [eM, m1_n _ _ (by decide), m1_n _ _ (by decide), m1_n _ _ (by decide), m1_n _ _ (by decide), m1_at, if_pos rfl]
  have m13 : M2 13 n = pl := by rw [eM, m1_n _ _ (by decide), m1_n _ _ (by decide), m1_n _ _ (by decide), m1_at, if_pos rfl]
  have m15 : M2 15 n = shp := by rw [eM, m1_n _ _ (by decide), m1_n _ _ (by decide), m1_at, if_pos rfl]
  have m16 : M2 16 n = 0 := by rw [eM, m1_n _ _ (by decide), m1_at, if_pos rfl]
  have m14 : M2 14 n = -1 := by rw [eM, m1_at, if_pos rfl]
  have hL1 : L2 (cd 1) = L (cd 1) ++ [a] := by rw [eL, m_up_self]
  have hLn : ∀ b, b ≠ cd 1 → L2 b = L b := fun b h1 => by rw [eL, m_up_ne _ _ h1]
  have hc := c_chg_rf (K := K) (I := I) (R := R) (N := N)
  have z1' : ∀ j, j ≠ 1 → z1 Z 1 (Z 1 + 1) j = Z j := fun j h => z1_n _ _ h
  have hLf : ∀ b fl, b ∈ L (cd 10) → R 51 b = some fl → L2 fl = L fl := fun b fl hb h9 => by
    obtain ⟨g, -, -, f2, b3, -, -, b6, -⟩ := q_el hsh.2.2.1 b hb
    rw [h9] at b3
    rw [Option.some.inj b3]
    exact hLn _ (b6 1 (by decide))
  refine ⟨hok, q_isl_t hi hc (fun _ _ z => absurd z id) (hLn _ hok.2.2.2.2.2.2.2.2.2.2.2.2.2.2.2.2.2.2.2.2.2.2.2.2.2.2.2.2.2.2.2.2.2.2.2.2.2.2.2.2.2.2.1) (z1' 0 (by decide)) (mj 7 (by decide)) (mj 8 (by decide)) (mj 9 (by decide)) (mj 10 (by decide)), ⟨?_, ?_, fun g b hb => ?_⟩, ⟨?_, ?_⟩, ?_, q_flt_t hok hfl hc (fun _ _ z => absurd z id) (fun _ _ z => z) (fun _ _ z => absurd z id) (fun _ _ _ _ => rfl) (fun j b h => by rw [hLn _ hok.2.2.2.2.2.2.2.2.2.2.2.2.2.2.2.2.2.2.2.2.2.2.2.2.2.2.2.2.2.2.2.2.2.2.2.2.2.2.2.2.2.2.1]; exact h) (hLn _ (Ne.symm hok.2.2.2.2.2.2.2.2.2.2.2.2.2.2.2.2.2.2.2.2.2.2.2.2.2.2.2.2.2.2.2.2.2.2.2.2.2.2.2.2.2.2.2.2.2.2.2.1)) (z1' 2 (by decide)) (fun j _ => by rw [mj 9 (by decide)]) (mj 18 (by decide)) (mj 19 (by decide)) (mj 20 (by decide)) (mj 21 (by decide)) (mj 22 (by decide)) (mj 23 (by decide)) (mj 24 (by decide)), q_typ_t hty hc id (fun _ _ z => absurd z id) rfl rfl (z1' 29 (by decide)) (mj 25 (by decide)) (mj 26 (by decide)), q_cau_t hca rfl (z1' 31 (by decide)) (mj 32 (by decide)), hcp⟩
  · rw [hL1, List.length_append, List.length_singleton, z1_s, hf.1, hn, nI_1]
  · rw [hL1, List.length_append, List.length_singleton, hn]; omega
  · rw [hL1] at hb
    rw [hLn _ (Ne.symm hok.2.2.2.2.2.2.2.2.2.2.2.2.2.2.2.2.2.2.2.2.2.2.2.2.2.2.2.2.2.2.2.2.2.2.2.2.2.2.2.2.2.2.2.2.2.2.2.1), hLn _ (Ne.symm hok.2.2.2.2.2.2.2.2.2.2.2.2.2.2.2.2.2.2.2.2.2.2.2.2.2.2.2.2.2.2.2.2.2.2.2.2.2.2.2.2.2.2.2.2.2.2.2.2.2.2.1)]
    rcases lg_app hb with ⟨h1, h2⟩ | ⟨h1, h2⟩
    · rw [mo 11 g (by omega), mo 12 g (by omega), mo 13 g (by omega), mo 14 g (by omega), mo 15 g (by omega), mo 16 g (by omega)]
      exact hf.2.2 g b h2
    · rw [h1, h2, hn, m11, m12, m13, m14, m15, m16]
      exact ⟨ka, i10, i11, i12, i13, i16, r14, hshp, by rw [r15]; rfl, Or.inl rfl, hpl⟩
  · have e0 : [a].filter (q_psb I R) = [] := by
      rw [List.filter_eq_nil_iff]
      intro c hcm
      rw [List.mem_singleton.mp hcm, q_psb_i]
      exact fun z => z.1 r15
    rw [hL1, hLn _ (Ne.symm hok.2.2.2.2.2.2.2.2.2.2.2.2.2.2.2.2.2.2.2.2.2.2.2.2.2.2.2.2.2.2.2.2.2.2.2.2.2.2.2.2.2.2.2.2.2.2.2.2.2.1), List.filter_append, e0, List.append_nil]
    exact hr.1
  · rw [hLn _ (Ne.symm hok.2.2.2.2.2.2.2.2.2.2.2.2.2.2.2.2.2.2.2.2.2.2.2.2.2.2.2.2.2.2.2.2.2.2.2.2.2.2.2.2.2.2.2.2.2.2.2.2.2.1)]
    exact hr.2
  · obtain ⟨a1, a2, a3, a4, a5, a6, a7, a8, a9, a10⟩ := hsh
    have h10 := hLn _ (Ne.symm hok.2.2.2.2.2.2.2.2.2.2.2.2.2.2.2.2.2.2.2.2.2.2.2.2.2.2.2.2.2.2.2.2.2.2.2.2.2.2.2.2.2.2.2.2.2.2.2.2.2.2.1)
    refine ⟨by rw [h10, z1' 3 (by decide)]; exact a1, by rw [h10]; exact a2, fun g b hb => ?_, by rw [h10]; exact a4, by rw [h10]; exact a5, by rw [h10]; exact a6, by rw [z1' 4 (by decide)]; exact a7, by rw [h10, z1' 5 (by decide)]; exact a8, by rw [z1' 5 (by decide)]; exact a9, by rw [h10, z1' 4 (by decide)]; exact a10⟩
    rw [h10] at hb
    obtain ⟨b1, b2, f2, b3, b4, b5, b6, b7⟩ := a3 g b hb
    refine ⟨b1, by rw [mj 17 (by decide)]; exact b2, f2, b3, b4, b5, b6, ?_⟩
    rw [hLf b f2 (List.mem_of_getElem? hb) b3, hL1, List.filter_append]
    have e0 : [a].filter (fun c => decide (R 15 c = some b)) = [] := by
      rw [List.filter_eq_nil_iff]
      intro c hcm
      rw [List.mem_singleton.mp hcm, r15]
      simp
    rw [e0, List.append_nil]
    exact b7
end
