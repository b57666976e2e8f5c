theorem c_lt_iff (I : Nat → Nat → Int32) (a b : Nat) : c_lt I a b = true ↔ ((I 12 a).toInt < (I 12 b).toInt ∨ ((I 12 a).toInt = (I 12 b).toInt ∧ ((I 13 a).toInt < (I 13 b).toInt ∨ ((I 13 a).toInt = (I 13 b).toInt ∧ (I 10 a).toInt < (I 10 b).toInt)))) := by
  unfold c_lt
  by_cases h2 : I 12 a = I 12 b
  · rw [if_pos h2, h2]
    by_cases h3 : I 13 a = I 13 b
    · rw [if_pos h3, h3, decide_eq_true_eq, Int32.lt_iff_toInt_lt]
      omega
    · have n3 : ¬ (I 13 a).toInt = (I 13 b).toInt := fun z => h3 (Int32.toInt_inj.mp z)
      rw [if_neg h3, decide_eq_true_eq, Int32.lt_iff_toInt_lt]
      omega
  · have n2 : ¬ (I 12 a).toInt = (I 12 b).toInt := fun z => h2 (Int32.toInt_inj.mp z)
    rw [if_neg h2, decide_eq_true_eq, Int32.lt_iff_toInt_lt]
    omega
theorem c_lt_tr {I : Nat → Nat → Int32} {a b c : Nat} (h1 : c_lt I a b = true) (h2 : c_lt I b c = true) : c_lt I a c = true := by
  rw [c_lt_iff] at h1 h2 ⊢
  omega
theorem c_lt_tot {I : Nat → Nat → Int32} {a b : Nat} (hne : ¬ I 10 a = I 10 b) (h : c_lt I a b = false) : c_lt I b a = true := by
  have n1 : ¬ (I 10 a).toInt = (I 10 b).toInt := fun z => hne (Int32.toInt_inj.mp z)
  have h2 : ¬ c_lt I a b = true := by rw [h]; decide
  rw [c_lt_iff] at h2 ⊢
  omega
theorem y_ins_perm (l : List Nat) (k a : Nat) : (y_ins l k a).Perm (a :: l) := by
  unfold y_ins
  refine List.perm_middle.trans ?_
  rw [List.take_append_drop]
/-- the row stays sorted -/
theorem y_ins_srt {I : Nat → Nat → Int32} {l : List Nat} {k a : Nat} (hp : l.Pairwise (fun x y => c_lt I x y = true)) (hne : ∀ b, b ∈ l → ¬ I 10 a = I 10 b) (hk : k ≤ l.length) (h1 : ∀ j, k ≤ j → j < l.length → c_lt I a (l.getD j 0) = true) (h2 : k = 0 ∨ c_lt I a (l.getD (k - 1) 0) = false) : (y_ins l k a).Pairwise (fun x y => c_lt I x y = true) := by
  have hd : ∀ b, b ∈ l.drop k → c_lt I a b = true := fun b hb => by
    obtain ⟨j, hj, hj2⟩ := List.getElem_of_mem hb
    rw [List.length_drop] at hj
    rw [List.getElem_drop] at hj2
    have := h1 (k + j) (by omega) (by omega)
    rw [List.getD_eq_getElem?_getD, List.getElem?_eq_getElem (by omega), hj2] at this
    exact this
  have ht : ∀ b, b ∈ l.take k → c_lt I b a = true := fun b hb => by
    obtain ⟨j, hj, hj2⟩ := List.getElem_of_mem hb
    rw [List.length_take] at hj
    rw [List.getElem_take] at hj2
    rcases h2 with h2 | h2
    · omega
    · have hl : l.getD (k - 1) 0 = l[k - 1]'(by omega) := by rw [List.getD_eq_getElem?_getD, List.getElem?_eq_getElem (by omega)]; rfl
      rw [hl] at h2
      have h3 := c_lt_tot (hne _ (List.getElem_mem (by omega))) h2
      by_cases e : j = k - 1
      · subst e; rw [← hj2]; exact h3
      · have h4 := List.pairwise_iff_getElem.mp hp j (k - 1) (by omega) (by omega) (by omega)
        rw [hj2] at h4
        exact c_lt_tr h4 h3
  unfold y_ins
  refine List.pairwise_append.mpr ⟨hp.sublist (List.take_sublist _ _), List.pairwise_cons.mpr ⟨hd, hp.sublist (List.drop_sublist _ _)⟩, fun b hb c hc => ?_⟩
  rcases List.mem_cons.mp hc with h | h
  · rw [h]; exact ht b hb
  · exact c_lt_tr (ht b hb) (hd c h)
theorem m_cap_le {G : mG} {K : Nat → Nat} {I : Nat → Nat → Int32} {R : Nat → Nat → Option Nat} {F : Nat → UInt32} {A : Nat → Nat → Int32} {N : Nat → Nat} {L : Nat → List Nat} {T : Nat → List Int32} {J : Nat → Nat → Int64} {D : Nat → Nat → UInt64} {s : State} {H : Heap} {locs : List Loc} {o : Nat} (hw : m_wo G K I R F A N L T J D s H locs) (hk : K o = 11) (hr : R 111 o ≠ none) : m_cap R N o ≤ 1000 := by
  rcases m_list hw hk hr with ⟨h1, h2, h3⟩ | ⟨e0, h1, h2, h3, h4, h5, h6, h7, h8⟩
  · rw [h3]; omega
  · rw [h7]; exact h6
theorem lg_fd {l : List Nat} {g : Nat → Int32} (inj : ∀ a b, a ∈ l → b ∈ l → g a = g b → a = b) {a : Nat} {v : Int32} (ha : a ∈ l) (e : g a = v) : l.find? (fun b => decide (g b = v)) = some a := by
  cases h : l.find? (fun b => decide (g b = v)) with
  | none => exact absurd (decide_eq_true e) (List.find?_eq_none.mp h a ha)
  | some b =>
    have e2 : g b = v := of_decide_eq_true (List.find?_some (p := fun b => decide (g b = v)) h)
    rw [inj b a (List.mem_of_find?_eq_some h) ha (e2.trans e.symm)]
theorem lg_pf {l lg : List Nat} {p : Nat → Bool} (hnd : lg.Nodup) (hl : l.Nodup) (hm : ∀ b, b ∈ l ↔ b ∈ lg ∧ p b = true) : l.Perm (lg.filter p) :=
  (List.perm_ext_iff_of_nodup hl (hnd.sublist List.filter_sublist)).mpr (fun b => by rw [hm, List.mem_filter])
theorem lg_nda {l : List Nat} {a : Nat} (h : l.Nodup) (ha : a ∉ l) : (l ++ [a]).Nodup :=
  List.pairwise_append.mpr ⟨h, List.pairwise_singleton _ _, fun b hb c hc => by rw [List.mem_singleton.mp hc]; exact fun z => ha (by rw [← z]; exact hb)⟩
theorem cntB_put {p p2 : Nat → Bool} {f : Nat} (h1 : p f = false) (h2 : p2 f = true) (h : ∀ g, g ≠ f → p2 g = p g) : ∀ n, cntB p2 n = cntB p n + (if f < n then 1 else 0)
  | 0 => by simp [cntB]
  | n + 1 => by
    show cntB p2 n + _ = cntB p n + _ + _
    rw [cntB_put h1 h2 h n]
    by_cases e : n = f
    · subst e
      rw [h1, h2, if_neg (Nat.lt_irrefl _), if_pos (Nat.lt_succ_self _)]
      simp
    · rw [h n e]
      by_cases e2 : f < n
      · rw [if_pos e2, if_pos (show f < n + 1 by omega)]; omega
      · rw [if_neg e2, if_neg (show ¬ f < n + 1 by omega)]; rfl
theorem m1_at (M : mM) (j k : Nat) (v : Int32) (i : Nat) : m1 M j k v j i = if i = k then v else M j i := by
  rw [m1_s]
  rfl
section
variable {K K2 : Nat → Nat} {I I2 : Nat → Nat → Int32} {R R2 : Nat → Nat → Option Nat} {N N2 : Nat → Nat} {A : Nat → Nat → Int32} {L L2 : Nat → List Nat} {T : Nat → List Int32} {x : Nat} {cd : Nat → Nat} {Z Z2 : mZ} {M M2 : mM}
theorem q_segs (hs : c_sim K I R N A L T x cd Z M) (hc : c_chg K I R N K2 I2 R2 N2 (fun f b => f = 62 ∧ b = cd 4) (fun f b => f = 15 ∨ (f = 61 ∧ b = cd 4))) (h0 : L2 (cd 0) = L (cd 0)) (h1 : L2 (cd 1) = L (cd 1)) (h5 : L2 (cd 5) = L (cd 5)) (hrow : q_row I2 R2 L2 cd) (hsh : q_shf K2 I2 R2 L2 cd Z2 M2)
    (h15 : ∀ f a, (L (cd 1))[f]? = some a → R2 15 a = q_sgo I2 (L2 (cd 10)) (M2 14 f) ∧ (M2 14 f = -1 ∨ R2 15 a ≠ none)) (hZ : ∀ j, j ≠ 3 → j ≠ 4 → j ≠ 5 → Z2 j = Z j) (hM : ∀ j, j ≠ 14 → j ≠ 17 → M2 j = M j) (hcap : m_cap R2 N2 (cd 8) ≤ 1000) : c_sim K2 I2 R2 N2 A L2 T x cd Z2 M2 := by
  have hel1 := q_el1 hs
  obtain ⟨hok, hi, hf, hr, -, hfl, hty, hca, -⟩ := hs
  have hz : ∀ j, j ∈ [0, 1, 2, 29, 31] → Z2 j = Z j := fun j hj => hZ j (fun z => absurd hj (by rw [z]; decide)) (fun z => absurd hj (by rw [z]; decide)) (fun z => absurd hj (by rw [z]; decide))
  have hm : ∀ j, j ∈ [7, 8, 9, 10, 11, 12, 13, 15, 16, 18, 19, 20, 21, 22, 23, 24, 25, 26, 32] → M2 j = M j := fun j hj => hM j (fun z => absurd hj (by rw [z]; decide)) (fun z => absurd hj (by rw [z]; decide))
  refine ⟨c_ok_chg hok hc (fun f b z => by rcases z with z | ⟨z, -⟩ <;> rw [z] <;> rfl), q_isl_t hi hc (fun f b z => by rw [z.1]; decide) h0 (hz 0 (by decide)) (hm 7 (by decide)) (hm 8 (by decide)) (hm 9 (by decide)) (hm 10 (by decide)), ⟨by rw [h1, hz 1 (by decide)]; exact hf.1, by rw [h1]; exact hf.2.1, fun g b hb => ?_⟩, hrow, hsh, q_flt_t hok hfl hc (fun f b z => by rw [z.1]; decide) (fun b hb z => absurd z.1 (by decide)) (fun f b z => by rcases z with z | ⟨z, -⟩ <;> rw [z] <;> decide) (fun _ _ _ _ => rfl) (fun j b h => by rw [h0]; exact h) h5 (hz 2 (by decide)) (fun j _ => by rw [hm 9 (by decide)]) (hm 18 (by decide)) (hm 19 (by decide)) (hm 20 (by decide)) (hm 21 (by decide)) (hm 22 (by decide)) (hm 23 (by decide)) (hm 24 (by decide)), q_typ_t hty hc (fun z => absurd z.1 (by decide)) (fun f b z => by rcases z with z | ⟨z, -⟩ <;> rw [z] <;> decide) rfl rfl (hz 29 (by decide)) (hm 25 (by decide)) (hm 26 (by decide)), q_cau_t hca rfl (hz 31 (by decide)) (hm 32 (by decide)), hcap⟩
  rw [h1] at hb
  obtain ⟨k, b1, b2, b3, b4, b5, b6, b7, b8, b9, b10⟩ := hf.2.2 g b hb
  have e := q_fI hc k (by decide) (by decide) (fs := [10, 11, 12, 13, 16]) (fun f z => by rw [z.1]; decide) (by decide)
  have e2 := q_fR hc k (by decide) (by decide) (fs := [14]) (fun f z => by rcases z with z | ⟨z, -⟩ <;> rw [z] <;> decide) (by decide) (by decide)
  rw [hm 11 (by decide), hm 12 (by decide), hm 13 (by decide), hm 15 (by decide), hm 16 (by decide), h5, e2 14 (by decide)]
  exact ⟨c_kk hc k (by decide) (by decide), (e 10 (by decide)).trans b1, (e 11 (by decide)).trans b2, (e 12 (by decide)).trans b3, (e 13 (by decide)).trans b4, (e 16 (by decide)).trans b5, b6, b7, (h15 g b hb).1, (h15 g b hb).2, b10⟩
/-- the open segment, and what of it the reference has -/
theorem q_opn (h : c_sim K I R N A L T x cd Z M) {sg : Nat} (hop : R 61 (cd 4) = some sg) : ¬ Z 5 = -1 ∧ (L (cd 10)).find? (fun b => decide (I 50 b = Z 5)) = some sg := by
  have a8 := h.2.2.2.2.1.2.2.2.2.2.2.2.1
  rw [hop] at a8
  unfold q_sgo at a8
  by_cases z : Z 5 = -1
  · rw [if_pos z] at a8; exact absurd a8 (by simp)
  · rw [if_neg z] at a8; exact ⟨z, a8.symm⟩
theorem q_opn0 (h : c_sim K I R N A L T x cd Z M) (hop : R 61 (cd 4) = none) : Z 5 = -1 := (h.2.2.2.2.1.2.2.2.2.2.2.2.2.1).elim id (fun z => absurd hop z)
theorem q_nof (h : c_sim K I R N A L T x cd Z M) {f a : Nat} (ha : (L (cd 1))[f]? = some a) (h15 : R 15 a = none) : M 14 f = -1 := (h.2.2.1.2.2 f a ha).2.2.2.2.2.2.2.2.2.1.elim id (fun z => absurd h15 z)
/-- a find comes into the row -/
theorem q_row_put {a k f : Nat} (hs : c_sim K I R N A L T x cd Z M) (ha : (L (cd 1))[f]? = some a) (h15 : R 15 a = none) (h16 : I 16 a = 0) (e15 : R2 15 a ≠ none) (g15 : ∀ b, b ∈ L (cd 1) → b ≠ a → R2 15 b = R 15 b) (gI : ∀ b, b ∈ L (cd 1) → ∀ g, g ∈ [10, 12, 13, 16] → I2 g b = I g b) (hL1 : L2 (cd 1) = L (cd 1)) (hL9 : L2 (cd 9) = y_ins (L (cd 9)) k a) (hk : k ≤ (L (cd 9)).length) (hk1 : ∀ j, k ≤ j → j < (L (cd 9)).length → c_lt I a ((L (cd 9)).getD j 0) = true) (hk2 : k = 0 ∨ c_lt I a ((L (cd 9)).getD (k - 1) 0) = false) : q_row I2 R2 L2 cd := by
  have hnd := q_log_nd hs
  have hma := List.mem_of_getElem? ha
  have hn120 := hs.2.2.1.2.1
  have hm1 : ∀ b, b ∈ L (cd 9) ↔ (b ∈ L (cd 1) ∧ (R 15 b ≠ none ∧ I 16 b = 0)) := fun b => by rw [hs.2.2.2.1.1.mem_iff, List.mem_filter, q_psb_i]
  have hnd9 : (L (cd 9)).Nodup := hs.2.2.2.1.1.nodup_iff.mpr (hnd.sublist List.filter_sublist)
  have hna : a ∉ L (cd 9) := fun z => ((hm1 a).mp z).2.1 h15
  have n10 : ∀ b, b ∈ L (cd 9) → ¬ I 10 a = I 10 b := fun b hb => by
    obtain ⟨g, hg, hg2⟩ := List.getElem_of_mem ((hm1 b).mp hb).1
    have hg3 : (L (cd 1))[g]? = some b := List.getElem?_eq_some_iff.mpr ⟨hg, hg2⟩
    have hfl := (List.getElem?_eq_some_iff.mp ha).1
    rw [(hs.2.2.1.2.2 g b hg3).2.1, (hs.2.2.1.2.2 f a ha).2.1]
    intro z
    have e := (nI_eq (by omega) (by omega)).mp z
    rw [← e, ha] at hg3
    exact hna (by rw [Option.some.inj hg3]; exact hb)
  have hmy : ∀ b, b ∈ y_ins (L (cd 9)) k a ↔ (b = a ∨ b ∈ L (cd 9)) := fun b => by rw [(y_ins_perm _ _ _).mem_iff, List.mem_cons]
  have hin : ∀ b, b ∈ y_ins (L (cd 9)) k a → b ∈ L (cd 1) := fun b hb => ((hmy b).mp hb).elim (fun z => by rw [z]; exact hma) (fun z => ((hm1 b).mp z).1)
  refine ⟨?_, ?_⟩
  · rw [hL1, hL9]
    refine lg_pf hnd ((y_ins_perm _ _ _).nodup_iff.mpr (List.nodup_cons.mpr ⟨hna, hnd9⟩)) (fun b => ?_)
    rw [hmy, hm1, q_psb_i]
    constructor
    · rintro (h | ⟨h1, h2, h3⟩)
      · rw [h]; exact ⟨hma, e15, by rw [gI a hma 16 (by decide)]; exact h16⟩
      · have hne : b ≠ a := fun z => h2 (by rw [z]; exact h15)
        exact ⟨h1, by rw [g15 b h1 hne]; exact h2, by rw [gI b h1 16 (by decide)]; exact h3⟩
    · rintro ⟨h1, h2, h3⟩
      by_cases e : b = a
      · exact Or.inl e
      · exact Or.inr ⟨h1, by rw [← g15 b h1 e]; exact h2, by rw [← gI b h1 16 (by decide)]; exact h3⟩
  · rw [hL9]
    refine List.Pairwise.imp_of_mem (fun {b c} hb hc hbc => ?_) (y_ins_srt hs.2.2.2.1.2 n10 hk hk1 hk2)
    have eb := gI b (hin b hb)
    have ec := gI c (hin c hc)
    unfold c_lt
    rw [eb 10 (by decide), eb 12 (by decide), eb 13 (by decide), ec 10 (by decide), ec 12 (by decide), ec 13 (by decide)]
    exact hbc
/-- a find comes into the open segment -/
theorem q_put_o {f a sg fl k : Nat} (hs : c_sim K I R N A L T x cd Z M) (ha : (L (cd 1))[f]? = some a) (h15 : R 15 a = none) (hop : R 61 (cd 4) = some sg) (hfl : R 51 sg = some fl) (h9 : (L fl).length ≤ 9)
    (hc : c_chg K I R N K2 I2 R2 N2 c_no (fun g b => (g = 15 ∧ b = a) ∨ (g = 61 ∧ b = cd 4))) (e15 : R2 15 a = some sg) (e61 : R2 61 (cd 4) = if (L fl).length + 1 < 10 then some sg else none) (h16 : I 16 a = 0) (hk : k ≤ (L (cd 9)).length) (hk1 : ∀ j, k ≤ j → j < (L (cd 9)).length → c_lt I a ((L (cd 9)).getD j 0) = true) (hk2 : k = 0 ∨ c_lt I a ((L (cd 9)).getD (k - 1) 0) = false) (eL : L2 = m_up (m_up L fl (L fl ++ [a])) (cd 9) (y_ins (L (cd 9)) k a)) (hcap : m_cap R2 N2 (cd 8) ≤ 1000) : c_sim K2 I2 R2 N2 A L2 T x cd (o_puts (Z, M) f).1 (o_puts (Z, M) f).2 := by
  have hel1 := q_el1 hs
  have hel5 := q_el5 hs
  have hnd := q_log_nd hs
  have hok := hs.1
  have h14 := q_nof hs ha h15
  obtain ⟨h5, hfd⟩ := q_opn hs hop
  have e50 : I 50 sg = Z 5 := of_decide_eq_true (List.find?_some (p := fun b => decide (I 50 b = Z 5)) hfd)
  have hm := List.mem_of_find?_eq_some hfd
  have hlen := q_size hs hfd hfl
  have hf := hs.2.2.1
  have hfn : f < (L (cd 1)).length := (List.getElem?_eq_some_iff.mp ha).1
  have hn120 := hf.2.1
  have hz1 : zn Z 1 = (L (cd 1)).length := zn_of hf.1 (by omega)
  have esz : o_size Z (m1 M 14 f (Z 5)) (Z 5) = (L fl).length + 1 := by
    rw [hlen]
    unfold o_size
    rw [hz1, cntB_put (p := fun g => decide (M 14 g = Z 5)) (p2 := fun g => decide (m1 M 14 f (Z 5) 14 g = Z 5)) (f := f) (decide_eq_false (by rw [h14]; exact Ne.symm h5)) (decide_eq_true (by rw [m1_at, if_pos rfl])) (fun g hg => by rw [m1_at, if_neg hg]), if_pos hfn]
  have e0 : o_puts0 (Z, M) = (Z, M) := if_neg h5
  have e1 : o_puts1 (Z, M) f = (Z, m1 M 14 f (Z 5)) := by unfold o_puts1; rw [e0]
  have e2 : o_puts (Z, M) f = if (L fl).length + 1 = 10 then (z1 Z 5 (-1), m1 M 14 f (Z 5)) else (Z, m1 M 14 f (Z 5)) := by
    unfold o_puts
    rw [e1]
    show (if o_size Z (m1 M 14 f (Z 5)) (Z 5) = 10 then _ else _) = _
    rw [esz]
  have eM : (o_puts (Z, M) f).2 = m1 M 14 f (Z 5) := by rw [e2]; split <;> rfl
  have eZ : ∀ j, j ≠ 5 → (o_puts (Z, M) f).1 j = Z j := fun j h => by
    rw [e2]
    split
    · exact z1_n _ _ h
    · rfl
  have eZ5 : (o_puts (Z, M) f).1 5 = if (L fl).length + 1 = 10 then -1 else Z 5 := by
    rw [e2]
    split
    · exact z1_s Z 5 (-1)
    · rfl
  rw [eM]
  generalize (o_puts (Z, M) f).1 = Z2 at eZ eZ5 ⊢
  have hsh := hs.2.2.2.2.1
  obtain ⟨a1, a2, a3, a4, a5, a6, a7, a8, a9, a10⟩ := hsh
  obtain ⟨k9, -, -, fl9, hfl9, hkf, hrf, hncd, hpm⟩ := q_el a3 sg hm
  obtain rfl : fl = fl9 := Option.some.inj (hfl.symm.trans hfl9)
  have hLn : ∀ b, b ≠ fl → b ≠ cd 9 → L2 b = L b := fun b hb h9 => by rw [eL, m_up_ne _ _ h9, m_up_ne _ _ hb]
  have hLc0 := hLn _ (Ne.symm (hncd 0 (by decide))) hok.2.2.2.2.2.2.2.2.2.2.2.2.2.2.2.2.2.2.2.2.2.2.2.2.2.2.2.2.2.2.2.2.2.2.2.2.2.2.2.2.2.2.2.2.2.1
  have hLc1 := hLn _ (Ne.symm (hncd 1 (by decide))) hok.2.2.2.2.2.2.2.2.2.2.2.2.2.2.2.2.2.2.2.2.2.2.2.2.2.2.2.2.2.2.2.2.2.2.2.2.2.2.2.2.2.2.2.2.2.2.2.2.2.1
  have hLc5 := hLn _ (Ne.symm (hncd 5 (by decide))) hok.2.2.2.2.2.2.2.2.2.2.2.2.2.2.2.2.2.2.2.2.2.2.2.2.2.2.2.2.2.2.2.2.2.2.2.2.2.2.2.2.2.2.2.2.2.2.2.2.2.2.2.2.1
  have hLc10 := hLn _ (Ne.symm (hncd 10 (by decide))) (Ne.symm hok.2.2.2.2.2.2.2.2.2.2.2.2.2.2.2.2.2.2.2.2.2.2.2.2.2.2.2.2.2.2.2.2.2.2.2.2.2.2.2.2.2.2.2.2.2.2.2.2.2.2.2.2.2.2.2.2)
  have hLf : L2 fl = L fl ++ [a] := by rw [eL, m_up_ne _ _ (hncd 9 (by decide)), m_up_self]
  have g50 : ∀ b, b ∈ L (cd 10) → I2 50 b = I 50 b := fun b hb => (hc b (by rw [hel5 b hb]; decide) (by rw [hel5 b hb]; decide)).2.2.1 50 (by decide) id
  have g51 : ∀ b, b ∈ L (cd 10) → R2 51 b = R 51 b := fun b hb => (hc b (by rw [hel5 b hb]; decide) (by rw [hel5 b hb]; decide)).2.2.2.1 51 (by decide) (by decide) (fun z => z.elim (fun z => absurd z.1 (by decide)) (fun z => absurd z.1 (by decide)))
  have g15 : ∀ b, b ∈ L (cd 1) → b ≠ a → R2 15 b = R 15 b := fun b hb hne => (hc b (by rw [hel1 b hb]; decide) (by rw [hel1 b hb]; decide)).2.2.2.1 15 (by decide) (by decide) (fun z => z.elim (fun z => hne z.2) (fun z => absurd z.1 (by decide)))
  have gIf : ∀ b, b ∈ L (cd 1) → ∀ g, g ∈ [10, 12, 13, 16] → I2 g b = I g b := fun b hb => q_fI hc (hel1 b hb) (by decide) (by decide) (fs := [10, 12, 13, 16]) (fun _ z => absurd z id) (by decide)
  have k4 := hok.2.2.2.2.2.2.2.2.2.2.2.2.2.2.1
  have g62 : I2 62 (cd 4) = I 62 (cd 4) := (hc _ (by rw [k4]; decide) (by rw [k4]; decide)).2.2.1 62 (by decide) id
  have hma := List.mem_of_getElem? ha
  have hina : ∀ b, b ∈ L fl → b ∈ L (cd 1) ∧ R 15 b = some sg := fun b hb => by
    have h := List.mem_filter.mp (hpm.mem_iff.mp hb)
    exact ⟨h.1, of_decide_eq_true h.2⟩
  have hna : a ∉ L fl := fun z => by rw [(hina a z).2] at h15; exact absurd h15 (by simp)
  refine q_segs hs (c_chg_mono hc (fun _ _ z => absurd z id) (fun g b z => z.elim (fun z => Or.inl z.1) Or.inr)) hLc0 hLc1 hLc5 (q_row_put hs ha h15 h16 (by rw [e15]; simp) g15 gIf hLc1 (by rw [eL, m_up_self]) hk hk1 hk2) ⟨?_, ?_, fun k b hb => ?_, ?_, ?_, ?_, ?_, ?_, ?_, ?_⟩ (fun g b hb => ?_) (fun j _ _ h => eZ j h) (fun j h _ => m1_n _ _ h) hcap
  · rw [hLc10, eZ 3 (by decide)]; exact a1
  · rw [hLc10]; exact a2
  · rw [hLc10] at hb
    have hmb := List.mem_of_getElem? hb
    obtain ⟨b1, b2, f2, b3, b4, b5, b6, b7⟩ := a3 k b hb
    refine ⟨c_kk hc b1 (by decide) (by decide), by rw [g50 b hmb, m1_n _ _ (by decide)]; exact b2, f2, (g51 b hmb).trans b3, c_kk hc b4 (by decide) (by decide), (hc f2 (by rw [b4]; decide) (by rw [b4]; decide)).2.2.2.2 b5, b6, ?_⟩
    rw [hLc1]
    by_cases e : b = sg
    · rw [e] at b3 ⊢
      obtain rfl : fl = f2 := Option.some.inj (hfl.symm.trans b3)
      rw [hLf]
      refine lg_pf hnd (lg_nda (hpm.nodup_iff.mpr (hnd.sublist List.filter_sublist)) hna) (fun c => ?_)
      rw [List.mem_append, List.mem_singleton, decide_eq_true_eq]
      constructor
      · rintro (h | h)
        · exact ⟨(hina c h).1, by rw [g15 c (hina c h).1 (fun z => hna (by rw [← z]; exact h))]; exact (hina c h).2⟩
        · rw [h]; exact ⟨hma, e15⟩
      · rintro ⟨h1, h2⟩
        by_cases e : c = a
        · exact Or.inr e
        · rw [g15 c h1 e] at h2
          exact Or.inl (hpm.mem_iff.mpr (List.mem_filter.mpr ⟨h1, decide_eq_true h2⟩))
    · have hne : f2 ≠ fl := fun z => e (a4 b sg hmb hm (by rw [b3, hfl, z]))
      rw [hLn f2 hne (b6 9 (by decide))]
      refine b7.trans (List.Perm.of_eq (List.filter_congr (fun c hcm => ?_)))
      by_cases e2 : c = a
      · rw [e2, e15, h15]
        exact decide_eq_decide.mpr ⟨fun z => absurd z (by simp), fun z => absurd (Option.some.inj z).symm e⟩
      · rw [g15 c hcm e2]
  · rw [hLc10]
    exact fun b c hb hcm h => a4 b c hb hcm (by rw [← g51 b hb, ← g51 c hcm]; exact h)
  · rw [hLc10]
    exact fun b c hb hcm h => a5 b c hb hcm (by rw [← g50 b hb, ← g50 c hcm]; exact h)
  · rw [hLc10]; exact a6
  · rw [g62, eZ 4 (by decide)]; exact a7
  · rw [e61, hLc10, eZ5]
    unfold q_sgo
    by_cases h : (L fl).length + 1 < 10
    · have h2 : ¬ (L fl).length + 1 = 10 := by omega
      rw [if_pos h, if_neg h2, if_neg h5]
      exact (lg_fd (g := I2 50) (fun b c hb hcm h => a5 b c hb hcm (by rw [← g50 b hb, ← g50 c hcm]; exact h)) hm ((g50 sg hm).trans e50)).symm
    · have h2 : (L fl).length + 1 = 10 := by omega
      rw [if_neg h, if_pos h2, if_pos rfl]
  · rw [e61, eZ5]
    by_cases h : (L fl).length + 1 < 10
    · rw [if_pos h]; exact Or.inr (by simp)
    · have h2 : (L fl).length + 1 = 10 := by omega
      rw [if_pos h2]; exact Or.inl rfl
  · rw [hLc10, eZ 4 (by decide)]
    obtain ⟨m, c1, c2, c3⟩ := a10
    exact ⟨m, c1, c2, fun b hb => by rw [g50 b hb]; exact c3 b hb⟩
  · rw [hLc10, q_sgo_t g50, m1_at]
    by_cases e : g = f
    · rw [e] at hb
      obtain rfl : a = b := Option.some.inj (ha.symm.trans hb)
      rw [if_pos e, e15]
      refine ⟨?_, Or.inr (by simp)⟩
      unfold q_sgo
      rw [if_neg h5]
      exact hfd.symm
    · rw [if_neg e]
      have hne : b ≠ a := fun z => e (c_nd hnd hb (by rw [z]; exact ha))
      rw [g15 b (List.mem_of_getElem? hb) hne]
      exact ⟨(hf.2.2 g b hb).2.2.2.2.2.2.2.2.1, (hf.2.2 g b hb).2.2.2.2.2.2.2.2.2.1⟩
/-- a find comes into a segment that is opened for it -/
theorem q_put_n {f a sg fl k : Nat} (hs : c_sim K I R N A L T x cd Z M) (ha : (L (cd 1))[f]? = some a) (h15 : R 15 a = none) (hop : R 61 (cd 4) = none) (h20 : (L (cd 10)).length < 20) (h4 : ∃ m, Z 4 = nI m ∧ m + 1 < 2 ^ 30)
    (hc : c_chg K I R N K2 I2 R2 N2 (fun g b => g = 62 ∧ b = cd 4) (fun g b => (g = 15 ∧ b = a) ∨ (g = 61 ∧ b = cd 4))) (hnw : ∀ b, K b ≠ 0 → K b ≠ 40 → b ≠ sg ∧ b ≠ fl) (ks : K2 sg = 5) (kf : K2 fl = 11) (e51 : R2 51 sg = some fl) (e111 : R2 111 fl ≠ none) (e50 : I2 50 sg = I 62 (cd 4)) (e62 : I2 62 (cd 4) = I 62 (cd 4) + 1) (e15 : R2 15 a = some sg) (e61 : R2 61 (cd 4) = some sg) (h16 : I 16 a = 0) (hk : k ≤ (L (cd 9)).length) (hk1 : ∀ j, k ≤ j → j < (L (cd 9)).length → c_lt I a ((L (cd 9)).getD j 0) = true) (hk2 : k = 0 ∨ c_lt I a ((L (cd 9)).getD (k - 1) 0) = false) (eL : L2 = m_up (m_up (m_up L (cd 10) (L (cd 10) ++ [sg])) fl [a]) (cd 9) (y_ins (L (cd 9)) k a)) (hcap : m_cap R2 N2 (cd 8) ≤ 1000) : c_sim K2 I2 R2 N2 A L2 T x cd (o_puts (Z, M) f).1 (o_puts (Z, M) f).2 := by
  have hel1 := q_el1 hs
  have hel5 := q_el5 hs
  have hnd := q_log_nd hs
  have hok := hs.1
  have h14 := q_nof hs ha h15
  have h5 := q_opn0 hs hop
  have hf := hs.2.2.1
  have hfn : f < (L (cd 1)).length := (List.getElem?_eq_some_iff.mp ha).1
  have hn120 := hf.2.1
  have hz1 : zn Z 1 = (L (cd 1)).length := zn_of hf.1 (by omega)
  obtain ⟨a1, a2, a3, a4, a5, a6, a7, a8, a9, a10⟩ := hs.2.2.2.2.1
  have hz3 : zn Z 3 = (L (cd 10)).length := zn_of a1 (by omega)
  obtain ⟨m, m1', m2, m3⟩ := a10
  obtain ⟨m9, m4, m5⟩ := h4
  obtain rfl : m = m9 := (nI_eq (by omega) (by omega)).mp (m1'.symm.trans m4)
  have n50 : ∀ b, b ∈ L (cd 10) → ¬ I 50 b = Z 4 := fun b hb => by
    obtain ⟨v, v1, v2⟩ := m3 b hb
    rw [v2, m4]
    exact fun z => absurd ((nI_eq (by omega) (by omega)).mp z) (by omega)
  have h14n : ∀ g, g < (L (cd 1)).length → ¬ M 14 g = Z 4 := fun g hg z => by
    have hb := List.getElem?_eq_getElem hg
    have q := hf.2.2 g _ hb
    have q1 := q.2.2.2.2.2.2.2.2.1
    have q2 := q.2.2.2.2.2.2.2.2.2.1
    rw [z] at q1 q2
    rcases q2 with q2 | q2
    · rw [m4] at q2; exact nI_nm1 (by omega) q2
    · rw [q1] at q2
      unfold q_sgo at q2
      rw [if_neg (by rw [m4]; exact nI_nm1 (by omega))] at q2
      obtain ⟨b, hb⟩ := Option.ne_none_iff_exists'.mp q2
      exact n50 b (List.mem_of_find?_eq_some hb) (of_decide_eq_true (List.find?_some (p := fun b => decide (I 50 b = Z 4)) hb))
  have hz4 : ¬ Z 4 = -1 := by rw [m4]; exact nI_nm1 (by omega)
  have e0 : o_puts0 (Z, M) = (z1 (o_opens (Z, M)).1 5 (Z 4), (o_opens (Z, M)).2) := if_pos h5
  have eo2 : (o_opens (Z, M)).2 = m1 M 17 (L (cd 10)).length (Z 4) := by unfold o_opens; dsimp only; rw [hz3]
  have eoz : (o_opens (Z, M)).1 = z1 (z1 Z 3 (Z 3 + 1)) 4 (Z 4 + 1) := rfl
  have e1 : o_puts1 (Z, M) f = (z1 (z1 (z1 Z 3 (Z 3 + 1)) 4 (Z 4 + 1)) 5 (Z 4), m1 (m1 M 17 (L (cd 10)).length (Z 4)) 14 f (Z 4)) := by
    unfold o_puts1
    rw [e0, eo2, eoz]
    rfl
  have esz : o_size (z1 (z1 (z1 Z 3 (Z 3 + 1)) 4 (Z 4 + 1)) 5 (Z 4)) (m1 (m1 M 17 (L (cd 10)).length (Z 4)) 14 f (Z 4)) (Z 4) = 1 := by
    unfold o_size
    have hz1' : zn (z1 (z1 (z1 Z 3 (Z 3 + 1)) 4 (Z 4 + 1)) 5 (Z 4)) 1 = (L (cd 1)).length := hz1
    rw [hz1', cntB_congr (q := fun g => decide (g = f)) (fun g hg => ?_), cntB_put (p := fun _ => false) (f := f) rfl (decide_eq_true rfl) (fun g hg => decide_eq_false hg), if_pos hfn]
    · have : ∀ n, cntB (fun _ => false) n = 0 := fun n => by
        induction n with
        | zero => rfl
        | succ n ih => show cntB _ n + 0 = 0; rw [ih]
      rw [this]
    · rw [m1_at]
      by_cases e : g = f
      · rw [if_pos e]; exact decide_eq_decide.mpr ⟨fun _ => e, fun _ => rfl⟩
      · rw [if_neg e, m1_n _ _ (by decide)]; exact decide_eq_decide.mpr ⟨fun z => absurd z (h14n g hg), fun z => absurd z e⟩
  have e2 : o_puts (Z, M) f = (z1 (z1 (z1 Z 3 (Z 3 + 1)) 4 (Z 4 + 1)) 5 (Z 4), m1 (m1 M 17 (L (cd 10)).length (Z 4)) 14 f (Z 4)) := by
    unfold o_puts
    rw [e1]
    show (if o_size (z1 (z1 (z1 Z 3 (Z 3 + 1)) 4 (Z 4 + 1)) 5 (Z 4)) (m1 (m1 M 17 (L (cd 10)).length (Z 4)) 14 f (Z 4)) (Z 4) = 10 then _ else _) = _
    rw [esz]
    rfl
  rw [e2]
  dsimp only
  have hncd : ∀ i, i < 11 → K (cd i) ≠ 0 ∧ K (cd i) ≠ 40 := fun i hi => by
    have hall : ∀ j, j < 11 → K (cd j) = [11, 11, 2, 8, 6, 11, 4, 12, 11, 11, 11].getD j 0 := fun j hj => by
      match j, hj with
      | 0, _ => exact hok.2.2.2.2.2.2.2.2.2.2.1
      | 1, _ => exact hok.2.2.2.2.2.2.2.2.2.2.2.1
      | 2, _ => exact hok.2.2.2.2.2.2.2.2.2.2.2.2.1
      | 3, _ => exact hok.2.2.2.2.2.2.2.2.2.2.2.2.2.1
      | 4, _ => exact hok.2.2.2.2.2.2.2.2.2.2.2.2.2.2.1
      | 5, _ => exact hok.2.2.2.2.2.2.2.2.2.2.2.2.2.2.2.1
      | 6, _ => exact hok.2.2.2.2.2.2.2.2.2.2.2.2.2.2.2.2.1
      | 7, _ => exact hok.2.2.2.2.2.2.2.2.2.2.2.2.2.2.2.2.2.1
      | 8, _ => exact hok.2.2.2.2.2.2.2.2.2.2.2.2.2.2.2.2.2.2.1
      | 9, _ => exact hok.2.2.2.2.2.2.2.2.2.2.2.2.2.2.2.2.2.2.2.1
      | 10, _ => exact hok.2.2.2.2.2.2.2.2.2.2.2.2.2.2.2.2.2.2.2.2.1
      | n + 11, h => exact absurd h (by omega)
    rw [hall i hi]
    revert i
    decide
  have hfcd : ∀ i, i < 11 → fl ≠ cd i := fun i hi => Ne.symm (hnw _ (hncd i hi).1 (hncd i hi).2).2
  have hL10 : L2 (cd 10) = L (cd 10) ++ [sg] := by rw [eL, m_up_ne _ _ (Ne.symm hok.2.2.2.2.2.2.2.2.2.2.2.2.2.2.2.2.2.2.2.2.2.2.2.2.2.2.2.2.2.2.2.2.2.2.2.2.2.2.2.2.2.2.2.2.2.2.2.2.2.2.2.2.2.2.2.2), m_up_ne _ _ (Ne.symm (hfcd 10 (by decide))), m_up_self]
  have hLn : ∀ b, b ≠ fl → b ≠ cd 10 → b ≠ cd 9 → L2 b = L b := fun b h1 h2 h9 => by rw [eL, m_up_ne _ _ h9, m_up_ne _ _ h1, m_up_ne _ _ h2]
  have hLf : L2 fl = [a] := by rw [eL, m_up_ne _ _ (hfcd 9 (by decide)), m_up_self]
  have gIf : ∀ b, b ∈ L (cd 1) → ∀ g, g ∈ [10, 12, 13, 16] → I2 g b = I g b := fun b hb => q_fI hc (hel1 b hb) (by decide) (by decide) (fs := [10, 12, 13, 16]) (fun f z => by rw [z.1]; decide) (by decide)
  have hsgn : sg ∉ L (cd 10) := fun z => (hnw sg (by rw [hel5 sg z]; decide) (by rw [hel5 sg z]; decide)).1 rfl
  have g50 : ∀ b, b ∈ L (cd 10) → I2 50 b = I 50 b := fun b hb => (hc b (by rw [hel5 b hb]; decide) (by rw [hel5 b hb]; decide)).2.2.1 50 (by decide) (fun z => absurd z.1 (by decide))
  have g51 : ∀ b, b ∈ L (cd 10) → R2 51 b = R 51 b := fun b hb => (hc b (by rw [hel5 b hb]; decide) (by rw [hel5 b hb]; decide)).2.2.2.1 51 (by decide) (by decide) (fun z => z.elim (fun z => absurd z.1 (by decide)) (fun z => absurd z.1 (by decide)))
  have g15 : ∀ b, b ∈ L (cd 1) → b ≠ a → R2 15 b = R 15 b := fun b hb hne => (hc b (by rw [hel1 b hb]; decide) (by rw [hel1 b hb]; decide)).2.2.2.1 15 (by decide) (by decide) (fun z => z.elim (fun z => hne z.2) (fun z => absurd z.1 (by decide)))
  have hma := List.mem_of_getElem? ha
  have h50s : I2 50 sg = Z 4 := e50.trans a7
  have in10 : ∀ b, b ∈ L2 (cd 10) → b ∈ L (cd 10) ∨ b = sg := fun b hb => by rw [hL10] at hb; exact (List.mem_append.mp hb).imp id List.mem_singleton.mp
  have hl1 : L2 (cd 1) = L (cd 1) := hLn _ (Ne.symm (hfcd 1 (by decide))) hok.2.2.2.2.2.2.2.2.2.2.2.2.2.2.2.2.2.2.2.2.2.2.2.2.2.2.2.2.2.2.2.2.2.2.2.2.2.2.2.2.2.2.2.2.2.2.2.2.2.2.1 hok.2.2.2.2.2.2.2.2.2.2.2.2.2.2.2.2.2.2.2.2.2.2.2.2.2.2.2.2.2.2.2.2.2.2.2.2.2.2.2.2.2.2.2.2.2.2.2.2.2.1
  have i50 : ∀ b c, b ∈ L2 (cd 10) → c ∈ L2 (cd 10) → I2 50 b = I2 50 c → b = c := fun b c hb hcm h => by
    rcases in10 b hb with hb | hb <;> rcases in10 c hcm with hcm | hcm
    · exact a5 b c hb hcm (by rw [← g50 b hb, ← g50 c hcm]; exact h)
    · rw [g50 b hb, hcm, h50s] at h; exact absurd h (n50 b hb)
    · rw [g50 c hcm, hb, h50s] at h; exact absurd h.symm (n50 c hcm)
    · rw [hb, hcm]
  have hms : sg ∈ L2 (cd 10) := by rw [hL10]; exact List.mem_append.mpr (Or.inr (List.mem_singleton.mpr rfl))
  have fds : q_sgo I2 (L2 (cd 10)) (Z 4) = some sg := by
    unfold q_sgo
    rw [if_neg hz4]
    exact lg_fd i50 hms h50s
  have fdo : ∀ v, ¬ v = Z 4 → q_sgo I2 (L2 (cd 10)) v = q_sgo I (L (cd 10)) v := fun v hv => by
    rw [hL10, ← q_sgo_t (l9 := L (cd 10)) g50 v]
    unfold q_sgo
    split
    · rfl
    · rw [List.find?_append]
      have hz : [sg].find? (fun b => decide (I2 50 b = v)) = none := List.find?_eq_none.mpr (fun b hb => by rw [List.mem_singleton.mp hb, h50s, decide_eq_true_eq]; exact Ne.symm hv)
      rw [hz, Option.or_none]
  refine q_segs hs (c_chg_mono hc (fun _ _ z => z) (fun g b z => z.elim (fun z => Or.inl z.1) Or.inr)) (hLn _ (Ne.symm (hfcd 0 (by decide))) hok.2.2.2.2.2.2.2.2.2.2.2.2.2.2.2.2.2.2.2.2.2.2.2.2.2.2.2.2.2.2.2.2.2.2.2.2.2.2.2.2.2.2.2.2.2.2.1 hok.2.2.2.2.2.2.2.2.2.2.2.2.2.2.2.2.2.2.2.2.2.2.2.2.2.2.2.2.2.2.2.2.2.2.2.2.2.2.2.2.2.2.2.2.2.1) hl1 (hLn _ (Ne.symm (hfcd 5 (by decide))) hok.2.2.2.2.2.2.2.2.2.2.2.2.2.2.2.2.2.2.2.2.2.2.2.2.2.2.2.2.2.2.2.2.2.2.2.2.2.2.2.2.2.2.2.2.2.2.2.2.2.2.2.2.2.1 hok.2.2.2.2.2.2.2.2.2.2.2.2.2.2.2.2.2.2.2.2.2.2.2.2.2.2.2.2.2.2.2.2.2.2.2.2.2.2.2.2.2.2.2.2.2.2.2.2.2.2.2.2.1) (q_row_put hs ha h15 h16 (by rw [e15]; simp) g15 gIf hl1 (by rw [eL, m_up_self]) hk hk1 hk2) ⟨?_, ?_, fun k b hb => ?_, fun b c hb hcm h => ?_, i50, ?_, ?_, ?_, ?_, ?_⟩ (fun g b hb => ?_) (fun j h3 h4 h5 => by rw [z1_n _ _ h5, z1_n _ _ h4, z1_n _ _ h3]) (fun j h h7 => by rw [m1_n _ _ h, m1_n _ _ h7]) hcap
  · rw [hL10, List.length_append, List.length_singleton, z1_n _ _ (by decide), z1_n _ _ (by decide), z1_s, a1, nI_1]
  · rw [hL10, List.length_append, List.length_singleton]; omega
  · rw [hL10] at hb
    rcases lg_app hb with ⟨h1, h2⟩ | ⟨h1, h2⟩
    · have hmb := List.mem_of_getElem? h2
      obtain ⟨b1, b2, f2, b3, b4, b5, b6, b7⟩ := a3 k b h2
      have hne : f2 ≠ fl := (hnw f2 (by rw [b4]; decide) (by rw [b4]; decide)).2
      refine ⟨c_kk hc b1 (by decide) (by decide), by rw [g50 b hmb, m1_n _ _ (by decide), m1_at, if_neg (by omega)]; exact b2, f2, (g51 b hmb).trans b3, c_kk hc b4 (by decide) (by decide), (hc f2 (by rw [b4]; decide) (by rw [b4]; decide)).2.2.2.2 b5, b6, ?_⟩
      rw [hl1, hLn f2 hne (b6 10 (by decide)) (b6 9 (by decide))]
      refine b7.trans (List.Perm.of_eq (List.filter_congr (fun c hcm => ?_)))
      by_cases e2 : c = a
      · rw [e2, e15, h15]
        exact decide_eq_decide.mpr ⟨fun z => absurd z (by simp), fun z => absurd hmb (by rw [← Option.some.inj z]; exact hsgn)⟩
      · rw [g15 c hcm e2]
    · rw [h1, h2]
      refine ⟨ks, by rw [h50s, m1_n _ _ (by decide), m1_at, if_pos rfl], fl, e51, kf, e111, hfcd, ?_⟩
      rw [hLf, hl1]
      refine lg_pf hnd (List.pairwise_singleton _ _) (fun c => ?_)
      rw [List.mem_singleton, decide_eq_true_eq]
      constructor
      · intro h; rw [h]; exact ⟨hma, e15⟩
      · rintro ⟨z1', z2⟩
        by_cases e : c = a
        · exact e
        · rw [g15 c z1' e] at z2
          exact absurd (q_seg_in hs z1' z2) hsgn
  · have old : ∀ b, b ∈ L (cd 10) → R2 51 b ≠ some fl := fun b hb z => by
      obtain ⟨k9, -, -, f2, b3, b4, -⟩ := q_el a3 b hb
      rw [g51 b hb, b3] at z
      exact (hnw f2 (by rw [b4]; decide) (by rw [b4]; decide)).2 (Option.some.inj z)
    rcases in10 b hb with hb | hb <;> rcases in10 c hcm with hcm | hcm
    · exact a4 b c hb hcm (by rw [← g51 b hb, ← g51 c hcm]; exact h)
    · rw [hcm, e51] at h; exact absurd h (old b hb)
    · rw [hb, e51] at h; exact absurd h.symm (old c hcm)
    · rw [hb, hcm]
  · rw [hL10]; exact lg_nda a6 hsgn
  · rw [e62, z1_n _ _ (by decide), z1_s, a7]
  · rw [e61, z1_s, fds]
  · rw [e61]; exact Or.inr (by simp)
  · rw [z1_n _ _ (by decide), z1_s]
    refine ⟨m + 1, by rw [m4, nI_1], m5, fun b hb => ?_⟩
    rcases in10 b hb with hb | hb
    · obtain ⟨v, v1, v2⟩ := m3 b hb
      exact ⟨v, by omega, by rw [g50 b hb]; exact v2⟩
    · exact ⟨m, by omega, by rw [hb, h50s]; exact m4⟩
  · rw [m1_at]
    by_cases e : g = f
    · rw [e] at hb
      obtain rfl : a = b := Option.some.inj (ha.symm.trans hb)
      rw [if_pos e, e15, fds]
      exact ⟨rfl, Or.inr (by simp)⟩
    · rw [if_neg e, m1_n _ _ (by decide)]
      have hne : b ≠ a := fun z => e (c_nd hnd hb (by rw [z]; exact ha))
      rw [g15 b (List.mem_of_getElem? hb) hne, fdo _ (h14n g (List.getElem?_eq_some_iff.mp hb).1)]
      exact ⟨(hf.2.2 g b hb).2.2.2.2.2.2.2.2.1, (hf.2.2 g b hb).2.2.2.2.2.2.2.2.2.1⟩
end
