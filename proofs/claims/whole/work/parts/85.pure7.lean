theorem q_room_o : ∀ n, n < 10 → ∀ k, k < 21 → c_room (10 - nI n) (nI k) 1 = true := by decide +kernel
theorem q_room_n : ∀ k, k < 21 → c_room 0 (nI k) 1 = decide (k < 20) := by decide +kernel
section
variable {K K2 : Nat → Nat} {I I2 : Nat → Nat → Int32} {R R2 : Nat → Nat → Option Nat} {N N2 : Nat → Nat} {A : Nat → Nat → Int32} {L L2 : Nat → List Nat} {T : Nat → List Int32} {x : Nat} {cd : Nat → Nat} {Z Z2 : mZ} {M M2 : mM}
theorem q_newf {q k : Nat} {I1 : Nat → Nat → Int32} {R1 : Nat → Nat → Option Nat} (hs : c_sim K I R N A L T x cd Z M) (hz : K q = 0) (hI : ∀ f b, b ≠ q → I1 f b = I f b) (hR : ∀ f b, b ≠ q → R1 f b = R f b) : c_sim (m_up K q k) I1 R1 N A L T x cd Z M := by
  have h8 : cd 8 ≠ q := fun z => by have := hs.1.2.2.2.2.2.2.2.2.2.2.2.2.2.2.2.2.2.2.1; rw [z, hz] at this; exact absurd this (by decide)
  refine c_sim_scr hs (fun b h0 _ => ?_) (fun _ _ => rfl) (fun _ _ _ _ => rfl) ?_
  · have hb : b ≠ q := fun z => h0 (by rw [z]; exact hz)
    exact ⟨m_up_ne _ _ hb, rfl, fun f _ _ => hI f b hb, fun f _ _ _ => hR f b hb, fun h => by rw [hR 111 b hb]; exact h⟩
  · have := hs.2.2.2.2.2.2.2.2
    unfold m_cap at this ⊢
    rw [hR 111 _ h8]
    exact this
theorem q_op9 {sg : Nat} (hs : c_sim K I R N A L T x cd Z M) (hop : R 61 (cd 4) = some sg) (h9 : ¬ Z 5 = -1 → o_size Z M (Z 5) ≤ 9) : ∃ fl, K sg = 5 ∧ R 51 sg = some fl ∧ K fl = 11 ∧ R 111 fl ≠ none ∧ (∀ a, a ∈ L fl → K a = 1) ∧ (L fl).length ≤ 9 ∧ ∀ i, i < 11 → fl ≠ cd i := by
  obtain ⟨h5, hfd⟩ := q_opn hs hop
  have hm := List.mem_of_find?_eq_some hfd
  obtain ⟨k, b1, b2, fl, b3, b4, b5, b6, b7⟩ := q_el hs.2.2.2.2.1.2.2.1 sg hm
  exact ⟨fl, b1, b3, b4, b5, fun a ha => q_el1 hs a (List.mem_filter.mp (b7.mem_iff.mp ha)).1, by rw [q_size hs hfd b3]; exact h9 h5, b6⟩
theorem q_enter_o {q sg fl : Nat} {wd isl pl shp : Int32} (hs : c_sim K I R N A L T x cd Z M) (kq : K q = 1) (hnq : q ∉ L (cd 1)) (hlt : (L (cd 1)).length < 120) (i10 : I 10 q = nI (L (cd 1)).length) (i11 : I 11 q = wd) (i12 : I 12 q = isl) (i13 : I 13 q = pl) (i16 : I 16 q = 0) (r14 : R 14 q = if shp = -1 then none else (L (cd 5))[shp.toNatClampNeg]?) (hshp : shp = -1 ∨ shp.toNatClampNeg < (L (cd 5)).length) (r15 : R 15 q = none) (hpl : ∃ p, p < 41 ∧ pl = nI p) (hop : R 61 (cd 4) = some sg) (hfl : R 51 sg = some fl) (h9 : (L fl).length ≤ 9) (hncd : ∀ i, i < 11 → fl ≠ cd i)
    (hc : c_chg K I R N K2 I2 R2 N2 c_no (fun g b => (g = 15 ∧ b = q) ∨ (g = 61 ∧ b = cd 4))) (e15 : R2 15 q = some sg) (e61 : R2 61 (cd 4) = if (L fl).length + 1 < 10 then some sg else none) (hen : ∃ k, k ≤ (L (cd 9)).length ∧ L2 = m_up (m_up (m_up L (cd 1) (L (cd 1) ++ [q])) fl (L fl ++ [q])) (cd 9) (y_ins (L (cd 9)) k q) ∧ (∀ j, k ≤ j → j < (L (cd 9)).length → c_lt I q ((L (cd 9)).getD j 0) = true) ∧ (k = 0 ∨ c_lt I q ((L (cd 9)).getD (k - 1) 0) = false)) (hcap : m_cap R2 N2 (cd 8) ≤ 1000) : c_sim K2 I2 R2 N2 A L2 T x cd (o_comes (Z, M) wd isl pl shp).1 (o_comes (Z, M) wd isl pl shp).2 := by
  obtain ⟨k, hk, eL, hk1, hk2⟩ := hen
  have hok := hs.1
  have hs2 := q_told (L2 := (m_up L (cd 1) (L (cd 1) ++ [q]))) hs kq hnq hlt i10 i11 i12 i13 i16 r14 hshp r15 hpl rfl
  have hz1 : zn Z 1 = (L (cd 1)).length := zn_of hs.2.2.1.1 (by omega)
  have hL1 : (m_up L (cd 1) (L (cd 1) ++ [q])) (cd 1) = L (cd 1) ++ [q] := m_up_self _ _ _
  have hL9 : (m_up L (cd 1) (L (cd 1) ++ [q])) (cd 9) = L (cd 9) := m_up_ne _ _ (Ne.symm hok.2.2.2.2.2.2.2.2.2.2.2.2.2.2.2.2.2.2.2.2.2.2.2.2.2.2.2.2.2.2.2.2.2.2.2.2.2.2.2.2.2.2.2.2.2.2.2.2.2.1)
  have hLf : (m_up L (cd 1) (L (cd 1) ++ [q])) fl = L fl := m_up_ne _ _ (hncd 1 (by decide))
  have hs3 := q_put_o (f := (L (cd 1)).length) (a := q) (sg := sg) (fl := fl) (k := k) (L2 := L2) hs2 (by rw [hL1, List.getElem?_concat_length]) r15 hop hfl (by rw [hLf]; exact h9) hc e15 (by rw [hLf]; exact e61) i16 (by rw [hL9]; exact hk) (by rw [hL9]; exact hk1) (by rw [hL9]; exact hk2) (by rw [hLf, hL9]; exact eL) hcap
  unfold o_comes
  rw [show zn (Z, M).1 1 = (L (cd 1)).length from hz1]
  exact hs3
theorem q_enter_n {q sg fl : Nat} {wd isl pl shp : Int32} (hs : c_sim K I R N A L T x cd Z M) (kq : K q = 1) (hnq : q ∉ L (cd 1)) (hlt : (L (cd 1)).length < 120) (i10 : I 10 q = nI (L (cd 1)).length) (i11 : I 11 q = wd) (i12 : I 12 q = isl) (i13 : I 13 q = pl) (i16 : I 16 q = 0) (r14 : R 14 q = if shp = -1 then none else (L (cd 5))[shp.toNatClampNeg]?) (hshp : shp = -1 ∨ shp.toNatClampNeg < (L (cd 5)).length) (r15 : R 15 q = none) (hpl : ∃ p, p < 41 ∧ pl = nI p) (hop : R 61 (cd 4) = none) (h20 : (L (cd 10)).length < 20) (h4 : ∃ m, Z 4 = nI m ∧ m + 1 < 2 ^ 30)
    (hnw : ∀ b, K b ≠ 0 → K b ≠ 40 → b ≠ sg ∧ b ≠ fl) (hc : c_chg K I R N K2 I2 R2 N2 (fun g b => g = 62 ∧ b = cd 4) (fun g b => (g = 15 ∧ b = q) ∨ (g = 61 ∧ b = cd 4))) (ks : K2 sg = 5) (kf : K2 fl = 11) (e51 : R2 51 sg = some fl) (e111 : R2 111 fl ≠ none) (e50 : I2 50 sg = I 62 (cd 4)) (e62 : I2 62 (cd 4) = I 62 (cd 4) + 1) (e15 : R2 15 q = some sg) (e61 : R2 61 (cd 4) = some sg)
    (hen : ∃ k, k ≤ (L (cd 9)).length ∧ L2 = m_up (m_up (m_up (m_up L (cd 1) (L (cd 1) ++ [q])) (cd 10) (L (cd 10) ++ [sg])) fl [q]) (cd 9) (y_ins (L (cd 9)) k q) ∧ (∀ j, k ≤ j → j < (L (cd 9)).length → c_lt I q ((L (cd 9)).getD j 0) = true) ∧ (k = 0 ∨ c_lt I q ((L (cd 9)).getD (k - 1) 0) = false)) (hcap : m_cap R2 N2 (cd 8) ≤ 1000) : c_sim K2 I2 R2 N2 A L2 T x cd (o_comes (Z, M) wd isl pl shp).1 (o_comes (Z, M) wd isl pl shp).2 := by
  obtain ⟨k, hk, eL, hk1, hk2⟩ := hen
  have hok := hs.1
  have hs2 := q_told (L2 := (m_up L (cd 1) (L (cd 1) ++ [q]))) hs kq hnq hlt i10 i11 i12 i13 i16 r14 hshp r15 hpl rfl
  have hz1 : zn Z 1 = (L (cd 1)).length := zn_of hs.2.2.1.1 (by omega)
  have hL1 : (m_up L (cd 1) (L (cd 1) ++ [q])) (cd 1) = L (cd 1) ++ [q] := m_up_self _ _ _
  have hL9 : (m_up L (cd 1) (L (cd 1) ++ [q])) (cd 9) = L (cd 9) := m_up_ne _ _ (Ne.symm hok.2.2.2.2.2.2.2.2.2.2.2.2.2.2.2.2.2.2.2.2.2.2.2.2.2.2.2.2.2.2.2.2.2.2.2.2.2.2.2.2.2.2.2.2.2.2.2.2.2.1)
  have hL10 : (m_up L (cd 1) (L (cd 1) ++ [q])) (cd 10) = L (cd 10) := m_up_ne _ _ (Ne.symm hok.2.2.2.2.2.2.2.2.2.2.2.2.2.2.2.2.2.2.2.2.2.2.2.2.2.2.2.2.2.2.2.2.2.2.2.2.2.2.2.2.2.2.2.2.2.2.2.2.2.2.1)
  have hs3 := q_put_n (f := (L (cd 1)).length) (a := q) (sg := sg) (fl := fl) (k := k) (L2 := L2) hs2 (by rw [hL1, List.getElem?_concat_length]) r15 hop (by rw [hL10]; exact h20) h4 hc hnw ks kf e51 e111 e50 e62 e15 e61 i16 (by rw [hL9]; exact hk) (by rw [hL9]; exact hk1) (by rw [hL9]; exact hk2) (by rw [hL10, hL9]; exact eL) hcap
  unfold o_comes
  rw [show zn (Z, M).1 1 = (L (cd 1)).length from hz1]
  exact hs3
theorem q_purse {i a : Nat} {v : Int32} (hs : c_sim K I R N A L T x cd Z M) (ha : (L (cd 5))[i]? = some a) : c_sim K (m_up2 I 72 a v) R N A L T x cd Z (m1 M 19 i v) := by
  have hel1 := q_el1 hs
  have hel7 := q_el7 hs
  obtain ⟨hok, hi, hf, hr, hsh, hfl, hty, hca, hcp⟩ := hs
  have ka : K a = 7 := hel7 a (List.mem_of_getElem? ha)
  have hc := c_chg_I (K := K) (I := I) (R := R) (N := N) (f := 72) (b := a) (v := v)
  have mM : ∀ j, j ≠ 19 → m1 M 19 i v j = M j := fun j h => m1_n _ _ h
  refine ⟨hok, q_isl_t hi hc (fun f b z => by rw [z.1]; decide) rfl rfl (mM 7 (by decide)) (mM 8 (by decide)) (mM 9 (by decide)) (mM 10 (by decide)), q_fnd_t hf hc (fun f b z => by rw [z.1]; decide) (fun _ _ z => absurd z id) (fun b _ => m_up2_ni _ _ (by decide)) rfl (fun _ z => ⟨rfl, z⟩) rfl rfl (mM 11 (by decide)) (mM 12 (by decide)) (mM 13 (by decide)) (mM 14 (by decide)) (mM 15 (by decide)) (mM 16 (by decide)), q_row_t hr hel1 hc (fun f b z => by rw [z.1]; decide) (fun _ _ z => absurd z id) rfl rfl, q_shf_t hok hsh hel1 hc (fun f b z => by rw [z.1]; decide) (fun _ _ z => absurd z id) rfl rfl (fun _ _ _ _ => rfl) rfl rfl rfl (mM 17 (by decide)), ⟨hfl.1, hfl.2.1, hfl.2.2.1, fun s b hb => ?_, hfl.2.2.2.2.1, hfl.2.2.2.2.2⟩, q_typ_t hty hc (fun z => absurd z.1 (by decide)) (fun _ _ z => absurd z id) rfl rfl rfl (mM 25 (by decide)) (mM 26 (by decide)), q_cau_t hca rfl rfl (mM 32 (by decide)), hcp⟩
  by_cases hsi : s = i
  · rw [hsi] at hb ⊢
    obtain rfl : a = b := Option.some.inj (ha.symm.trans hb)
    obtain ⟨ph, w9, d9, n, is8, came, b1, b2, b3, b4, b5, b6, b7, b8, b9, b10, b11, b12, b13, b14, b15, b16, b17⟩ := hfl.2.2.2.1 i a ha
    refine ⟨ph, w9, d9, n, is8, came, b1, c_ph_t b2 hc (fun z => absurd z.1 (by decide)) (fun _ z => absurd z id) rfl, b3, ?_⟩
    rw [mM 18 (by decide), mM 22 (by decide), mM 23 (by decide), mM 24 (by decide), mM 20 (by decide), mM 21 (by decide), mM 9 (by decide), m_up2_ni _ _ (by decide), m_up2_self, m1_at, if_pos rfl]
    exact ⟨b4, b5, b6, b7, b8, b9, rfl, b11, b12, b13, b14, b15, b16, b17⟩
  · have hba : b ≠ a := fun z => hsi (c_nd hfl.2.2.1 (by rw [← z]; exact hb) ha)
    have h3 := q_shp_t (M' := M) (L' := L) (A' := A) (hfl.2.2.2.1 s b hb) hc (fun f z => absurd z.2 hba) (fun _ _ z => absurd z.1 (by decide)) (fun _ _ z => absurd z id) (fun _ _ _ _ => rfl) (fun _ _ h => h) hok.2.2.2.2.2.2.2.2.2.2.2.2.2.2.2.2.2.2.2.2.2.2.2.1 hok.2.2.2.2.2.2.2.2.2.2.2.2.2.2.2.2.2.2.2.2.2.2.2.2.1 (fun _ _ => rfl) rfl rfl rfl rfl rfl rfl rfl
    exact q_shp_M h3 (by rw [mM 9 (by decide)]) (by rw [mM 18 (by decide)]) (by rw [m1_at, if_neg hsi]) (by rw [mM 20 (by decide)]) (by rw [mM 21 (by decide)]) (by rw [mM 22 (by decide)]) (fun k _ => by rw [mM 23 (by decide)]) (fun k _ => by rw [mM 24 (by decide)])
end
theorem q_fd1 {Z : mZ} {wd isl pl : Int32} (h : ¬ o_isl Z isl = true) : t_find Z wd isl pl = 1 := if_neg h
theorem q_wr {wd pl : Int32} : o_wrd wd pl = true ↔ ((0 ≤ wd ∧ wd ≤ 30) ∧ (0 ≤ pl ∧ pl ≤ 40)) := by
  unfold o_wrd
  rw [Bool.and_eq_true, q_rngs, q_rngs]
theorem q_fd2 {Z : mZ} {wd isl pl : Int32} (h : o_isl Z isl = true) (h2 : ¬ o_wrd wd pl = true) : t_find Z wd isl pl = 2 := (if_pos h).trans (if_neg h2)
theorem q_fd3 {Z : mZ} {wd isl pl : Int32} (h : o_isl Z isl = true) (h2 : o_wrd wd pl = true) (h3 : ¬ o_room Z = true) : t_find Z wd isl pl = 3 := (if_pos h).trans ((if_pos h2).trans (if_neg h3))
theorem q_fd0 {Z : mZ} {wd isl pl : Int32} (h : o_isl Z isl = true) (h2 : o_wrd wd pl = true) (h3 : o_room Z = true) : t_find Z wd isl pl = 0 := (if_pos h).trans ((if_pos h2).trans (if_pos h3))
theorem q_pl1 {Z : mZ} {M : mM} {sh wd isl pl : Int32} (h : ¬ (o_shp Z sh = true ∧ o_isl Z isl = true)) : t_plant Z M sh wd isl pl = 1 := if_neg (fun z => h (by rw [Bool.and_eq_true] at z; exact z))
theorem q_pl2 {Z : mZ} {M : mM} {sh wd isl pl : Int32} (h1 : o_shp Z sh = true) (h : o_isl Z isl = true) (h2 : ¬ o_wrd wd pl = true) : t_plant Z M sh wd isl pl = 2 := (if_pos (by rw [h1, h]; rfl)).trans (if_neg h2)
theorem q_pl3 {Z : mZ} {M : mM} {sh wd isl pl : Int32} (h1 : o_shp Z sh = true) (h : o_isl Z isl = true) (h2 : o_wrd wd pl = true) (h3 : M 19 sh.toNatClampNeg < 5) : t_plant Z M sh wd isl pl = 3 := (if_pos (by rw [h1, h]; rfl)).trans ((if_pos h2).trans (if_pos h3))
theorem q_pl4 {Z : mZ} {M : mM} {sh wd isl pl : Int32} (h1 : o_shp Z sh = true) (h : o_isl Z isl = true) (h2 : o_wrd wd pl = true) (h3 : ¬ M 19 sh.toNatClampNeg < 5) (h4 : ¬ o_room Z = true) : t_plant Z M sh wd isl pl = 4 := (if_pos (by rw [h1, h]; rfl)).trans ((if_pos h2).trans ((if_neg h3).trans (if_neg h4)))
theorem q_pl0 {Z : mZ} {M : mM} {sh wd isl pl : Int32} (h1 : o_shp Z sh = true) (h : o_isl Z isl = true) (h2 : o_wrd wd pl = true) (h3 : ¬ M 19 sh.toNatClampNeg < 5) (h4 : o_room Z = true) : t_plant Z M sh wd isl pl = 0 := (if_pos (by rw [h1, h]; rfl)).trans ((if_pos h2).trans ((if_neg h3).trans (if_pos h4)))
section
variable {K K2 : Nat → Nat} {I I2 : Nat → Nat → Int32} {R R2 : Nat → Nat → Option Nat} {N N2 : Nat → Nat} {A : Nat → Nat → Int32} {L L2 : Nat → List Nat} {T : Nat → List Int32} {x : Nat} {cd : Nat → Nat} {Z Z2 : mZ} {M M2 : mM}
theorem q_rm_o {sg fl : Nat} (hs : c_sim K I R N A L T x cd Z M) (hop : R 61 (cd 4) = some sg) (h9 : (L fl).length ≤ 9) : ((L (cd 1)).length < 120 ∧ c_room (10 - nI (L fl).length) (nI (L (cd 10)).length) 1 = true) ↔ o_room Z = true := by
  have h5 := (q_opn hs hop).1
  have hz := hs.2.2.1.1
  have hl := hs.2.2.1.2.1
  have h20 := hs.2.2.2.2.1.2.1
  rw [q_room_o _ (by omega) _ (by omega)]
  have e1 : ((120 : Int32) ≤ nI (L (cd 1)).length) ↔ 120 ≤ (L (cd 1)).length := nI_leI (a := 120) (by decide) (by omega)
  unfold o_room
  rw [hz, decide_eq_false h5]
  constructor
  · intro h
    rw [decide_eq_false (fun z => absurd (e1.mp z) (by omega))]
    rfl
  · intro h
    refine ⟨Nat.lt_of_not_le (fun z => ?_), rfl⟩
    rw [decide_eq_true (e1.mpr z)] at h
    exact Bool.noConfusion h
theorem q_rm_n (hs : c_sim K I R N A L T x cd Z M) (hop : R 61 (cd 4) = none) : ((L (cd 1)).length < 120 ∧ c_room 0 (nI (L (cd 10)).length) 1 = true) ↔ (o_room Z = true ∧ (L (cd 10)).length < 20 ∧ (L (cd 1)).length < 120) := by
  have h5 := q_opn0 hs hop
  have hz := hs.2.2.1.1
  have hl := hs.2.2.1.2.1
  have h20 := hs.2.2.2.2.1.2.1
  have hz3 := hs.2.2.2.2.1.1
  rw [q_room_n _ (by omega), decide_eq_true_eq]
  have e1 : (120 ≤ Z 1) ↔ 120 ≤ (L (cd 1)).length := by rw [hz]; exact nI_leI (a := 120) (by decide) (by omega)
  have e3 : (20 ≤ Z 3) ↔ 20 ≤ (L (cd 10)).length := by rw [hz3]; exact nI_leI (a := 20) (by decide) (by omega)
  unfold o_room
  rw [h5]
  simp only [Bool.and_eq_true, Bool.or_eq_true, Bool.not_eq_true', decide_eq_false_iff_not, e1, e3]
  constructor
  · intro h
    exact ⟨⟨by omega, Or.inr (by omega)⟩, h.2, h.1⟩
  · intro h
    exact ⟨h.2.2, h.2.1⟩
theorem q_rm_n2 (hs : c_sim K I R N A L T x cd Z M) (hop : R 61 (cd 4) = none) (h : ¬ ((L (cd 1)).length < 120 ∧ c_room 0 (nI (L (cd 10)).length) 1 = true)) : ¬ o_room Z = true := fun z => by
  have h5 := q_opn0 hs hop
  have hz := hs.2.2.1.1
  have hl := hs.2.2.1.2.1
  have h20 := hs.2.2.2.2.1.2.1
  have hz3 := hs.2.2.2.2.1.1
  rw [q_room_n _ (by omega), decide_eq_true_eq] at h
  have e1 : (120 ≤ Z 1) ↔ 120 ≤ (L (cd 1)).length := by rw [hz]; exact nI_leI (a := 120) (by decide) (by omega)
  have e3 : (20 ≤ Z 3) ↔ 20 ≤ (L (cd 10)).length := by rw [hz3]; exact nI_leI (a := 20) (by decide) (by omega)
  unfold o_room at z
  rw [h5] at z
  simp only [Bool.and_eq_true, Bool.or_eq_true, Bool.not_eq_true', decide_eq_false_iff_not, e1, e3] at z
  obtain ⟨z1', z2⟩ := z
  rcases z2 with z2 | z2
  · exact z2 trivial
  · omega
end
