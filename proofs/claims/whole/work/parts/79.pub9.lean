theorem q_5 {n : Nat} (h : n < 5) : ¬ (5 : Int32) ≤ nI n := fun z => absurd ((nI_leI (a := 5) (b := n) (by decide) (by omega)).mp z) (by omega)
theorem q_0 {n : Nat} (h : 0 < n) (h2 : n < 2 ^ 31) : ¬ nI n ≤ 0 := fun z => absurd ((nI_leI (a := n) (b := 0) h2 (by decide)).mp z) (by omega)
section
variable {K K1 K2 K3 : Nat → Nat} {I I2 I3 : Nat → Nat → Int32} {R R2 R3 : Nat → Nat → Option Nat} {N N2 N3 : Nat → Nat} {A : Nat → Nat → Int32} {L L3 : Nat → List Nat} {T : Nat → List Int32} {x : Nat} {cd : Nat → Nat} {Z : mZ} {M : mM} {q ph q1 q2 is0 : Nat}
theorem q_new4 (hz : K q = 0) (hzp : m_up K q 7 ph = 0) (hz1 : m_up (m_up K q 7) ph 4 q1 = 0) (hz2 : m_up (m_up (m_up K q 7) ph 4) q1 21 q2 = 0) : K ph = 0 ∧ K q1 = 0 ∧ K q2 = 0 ∧ ph ≠ q ∧ q1 ≠ ph ∧ q2 ≠ q1 := by
  have a := m_up_0 (by decide) hzp
  have b := m_up_0 (by decide) hz1
  have b2 := m_up_0 (by decide) b.1
  have c := m_up_0 (by decide) hz2
  have c2 := m_up_0 (by decide) c.1
  have c3 := m_up_0 (by decide) c2.1
  exact ⟨a.1, b2.1, c3.1, a.2, b.2, c.2⟩
theorem q_shpc (hz : K q = 0) (hzp : m_up K q 7 ph = 0) (hz1 : m_up (m_up K q 7) ph 4 q1 = 0) (hz2 : m_up (m_up (m_up K q 7) ph 4) q1 21 q2 = 0) (eK : K2 = m_up (m_up (m_up (m_up K q 7) ph 4) q1 21) q2 22) (eI : I2 = m_up2 I 72 q 100) (eR : R2 = m_up2 (m_up2 (m_up2 (m_up2 (m_up2 R 40 ph (some q1)) 41 ph (some q2)) 70 q (some ph)) 71 q (some is0)) 73 q (some is0)) (eN : N2 = m_up (m_up N q1 4) q2 4) : c_chg K I R N K2 I2 R2 N2 c_no c_no := by
  obtain ⟨h1, h2, h3, -⟩ := q_new4 hz hzp hz1 hz2
  intro b h0 h4
  have b0 : b ≠ q := fun z => h0 (by rw [z]; exact hz)
  have b1 : b ≠ ph := fun z => h0 (by rw [z]; exact h1)
  have b2 : b ≠ q1 := fun z => h0 (by rw [z]; exact h2)
  have b3 : b ≠ q2 := fun z => h0 (by rw [z]; exact h3)
  exact ⟨by simp [eK, m_up, b0, b1, b2, b3], by simp [eN, m_up, b2, b3], fun f _ _ => by simp [eI, m_up2, b0], fun f _ _ _ => by simp [eR, m_up2, b0, b1], fun h => by simpa [eR, m_up2, b0, b1] using h⟩
theorem q_capc {G : mG} {F : Nat → UInt32} {J : Nat → Nat → Int64} {D : Nat → Nat → UInt64} {s : State} {H : Heap} {locs : List Loc} {o2 : Nat} (hw : m_wo G K I R F A N L T J D s H locs) {F2 : Nat → UInt32} {A2 : Nat → Nat → Int32} {L2 : Nat → List Nat} {T2 : Nat → List Int32} {J2 : Nat → Nat → Int64} {D2 : Nat → Nat → UInt64} {s2 : State} {H2 : Heap} {locs2 : List Loc} (hw2 : m_wo G K2 I2 R2 F2 A2 N2 L2 T2 J2 D2 s2 H2 locs2) (hk : K o2 = 11) (hr : R 111 o2 ≠ none) (hc : c_chg K I R N K2 I2 R2 N2 c_no c_no) (eR : R2 = m_up2 (m_up2 (m_up2 (m_up2 (m_up2 R 40 ph (some q1)) 41 ph (some q2)) 70 q (some ph)) 71 q (some is0)) 73 q (some is0)) (_ : K o2 = 11) (hz : K q = 0) (hzp : m_up K q 7 ph = 0) (hz1 : m_up (m_up K q 7) ph 4 q1 = 0) (hz2 : m_up (m_up (m_up K q 7) ph 4) q1 21 q2 = 0) (eK : K2 = m_up (m_up (m_up (m_up K q 7) ph 4) q1 21) q2 22) (eN : N2 = m_up (m_up N q1 4) q2 4) : m_cap R2 N2 o2 = m_cap R N o2 := by
  obtain ⟨h1, h2, h3, -⟩ := q_new4 hz hzp hz1 hz2
  have e : R2 111 o2 = R 111 o2 := by simp [eR, m_up2]
  rcases m_list hw hk hr with ⟨g1, g2, g3⟩ | ⟨e0, g1, g2, -⟩
  · rw [g3]
    exact m_cap0 hw2 (c_kk hc hk (by decide) (by decide)) (e.trans g1)
  · unfold m_cap
    rw [e, g1]
    have b2 : e0 ≠ q1 := fun z => by rw [z, h2] at g2; exact absurd g2 (by decide)
    have b3 : e0 ≠ q2 := fun z => by rw [z, h3] at g2; exact absurd g2 (by decide)
    simp [eN, m_up, b2, b3]
theorem q_ship (hs : c_sim K I R N A L T x cd Z M) (hlt : (L (cd 5)).length < 5) (hi0 : (L (cd 0))[0]? = some is0) (h74 : I 74 q = 0) (hz : K q = 0) (hzp : m_up K q 7 ph = 0) (hz1 : m_up (m_up K q 7) ph 4 q1 = 0) (hz2 : m_up (m_up (m_up K q 7) ph 4) q1 21 q2 = 0) (h42 : I 42 ph = 0) (eK : K2 = m_up (m_up (m_up (m_up K q 7) ph 4) q1 21) q2 22) (eI : I2 = m_up2 I 72 q 100) (eR : R2 = m_up2 (m_up2 (m_up2 (m_up2 (m_up2 R 40 ph (some q1)) 41 ph (some q2)) 70 q (some ph)) 71 q (some is0)) 73 q (some is0)) (eN : N2 = m_up (m_up N q1 4) q2 4) (hc2 : c_chg K I R N K2 I2 R2 N2 c_no c_no) (hh : m_hid (cd 5) K2 I2 R2 N2 K3 I3 R3 N3) (eL : L3 = m_up L (cd 5) (L (cd 5) ++ [q])) (hcap : m_cap R3 N3 (cd 8) ≤ 1000) : c_sim K3 I3 R3 N3 A L3 T x cd (p_ship (Z, M)).1 (p_ship (Z, M)).2 := by
  obtain ⟨p0, p1, p2, n1, n2, n3⟩ := q_new4 hz hzp hz1 hz2
  have hel1 := q_el1 hs
  have hel5 := q_el5 hs
  have hel7 := q_el7 hs
  obtain ⟨hok, hi, hf, hr, hsh, hfl, hty, hca, hcp⟩ := hs
  have hc : c_chg K I R N K3 I3 R3 N3 c_no c_no := c_chg_mono (c_chg_tr hc2 (c_chg_hid hh)) (fun _ _ h => h.elim id id) (fun _ _ h => h.elim id id)
  have hL5 : L3 (cd 5) = L (cd 5) ++ [q] := by rw [eL, m_up_self]
  have hLn : ∀ b, b ≠ cd 5 → L3 b = L b := fun b hb => by rw [eL, m_up_ne _ _ hb]
  have hzn : zn Z 2 = (L (cd 5)).length := zn_of hfl.1 (by omega)
  have e50 : ∀ a, a ∈ L (cd 10) → I3 50 a = I 50 a := fun a ha => (hc a (by rw [hel5 a ha]; decide) (by rw [hel5 a ha]; decide)).2.2.1 50 (by decide) id
  have mM : ∀ j, j ≠ 18 → j ≠ 19 → j ≠ 21 → j ≠ 22 → (p_ship (Z, M)).2 j = M j := fun j a b c d => by
    unfold p_ship
    dsimp only
    rw [m1_n _ _ c, m1_n _ _ d, m1_n _ _ b, m1_n _ _ a]
  have mI : ∀ j i, i ≠ (L (cd 5)).length → (p_ship (Z, M)).2 j i = M j i := fun j i hne => by
    unfold p_ship
    dsimp only
    rw [hzn]
    unfold m1 upd
    by_cases h1 : j = 21 <;> by_cases h2 : j = 22 <;> by_cases h3 : j = 19 <;> by_cases h4 : j = 18 <;> simp [h1, h2, h3, h4, hne]
  have mN : (p_ship (Z, M)).2 18 (L (cd 5)).length = 0 ∧ (p_ship (Z, M)).2 19 (L (cd 5)).length = 100 ∧ (p_ship (Z, M)).2 22 (L (cd 5)).length = 0 := by
    unfold p_ship
    dsimp only
    rw [hzn]
    unfold m1 upd
    simp
  have z2 : ∀ j, j ≠ 2 → (p_ship (Z, M)).1 j = Z j := fun j h => z1_n _ _ h
  have kq : K3 q = 7 := m_hid_k hh (by rw [eK]; exact m_up_k hz2 (m_up_k hz1 (m_up_k hzp (m_up_self _ _ _) (by decide)) (by decide)) (by decide)) (by decide) (by decide)
  have kp : K3 ph = 4 := m_hid_k hh (by rw [eK]; exact m_up_k hz2 (m_up_k hz1 (m_up_self _ _ _) (by decide)) (by decide)) (by decide) (by decide)
  have k1 : K2 q1 = 21 := by rw [eK]; exact m_up_k hz2 (m_up_self _ _ _) (by decide)
  have k2 : K2 q2 = 22 := by rw [eK, m_up_self]
  have rq : ∀ f b, f ≠ 111 → f ≠ 99 → R3 f b = R2 f b := fun f b h1 h2 => hh.2.2.2.1 f b h1 h2
  have r70 : R3 70 q = some ph := by rw [rq 70 q (by decide) (by decide), eR, m_up2_ni _ _ (by decide), m_up2_ni _ _ (by decide), m_up2_self]
  have r71 : R3 71 q = some is0 := by rw [rq 71 q (by decide) (by decide), eR, m_up2_ni _ _ (by decide), m_up2_self]
  have r73 : R3 73 q = some is0 := by rw [rq 73 q (by decide) (by decide), eR, m_up2_self]
  have r40 : R3 40 ph = some q1 := by rw [rq 40 ph (by decide) (by decide), eR, m_up2_ni _ _ (by decide), m_up2_ni _ _ (by decide), m_up2_ni _ _ (by decide), m_up2_ni _ _ (by decide), m_up2_self]
  have r41 : R3 41 ph = some q2 := by rw [rq 41 ph (by decide) (by decide), eR, m_up2_ni _ _ (by decide), m_up2_ni _ _ (by decide), m_up2_ni _ _ (by decide), m_up2_self]
  have i42 : I3 42 ph = nI 0 := by rw [hh.2.2.1 42 ph (by decide), eI, m_up2_ni _ _ (by decide)]; exact h42
  have i74 : I3 74 q = 0 := by rw [hh.2.2.1 74 q (by decide), eI, m_up2_ni _ _ (by decide)]; exact h74
  have i72 : I3 72 q = 100 := by rw [hh.2.2.1 72 q (by decide), eI, m_up2_self]
  have nn1 : N3 q1 = 4 := by rw [hh.2.2.2.2.1 q1 (Or.inr (by rw [k1]; decide)), eN, m_up_ne _ _ (Ne.symm n3), m_up_self]
  have nn2 : N3 q2 = 4 := by rw [hh.2.2.2.2.1 q2 (Or.inr (by rw [k2]; decide)), eN, m_up_self]
  have hph : c_ph K3 R3 N3 I3 A ph q1 q2 0 := ⟨kp, r40, m_hid_k hh k1 (by decide) (by decide), nn1, r41, m_hid_k hh k2 (by decide) (by decide), nn2, i42, Nat.zero_le _, fun k _ h => absurd h (Nat.not_lt_zero _)⟩
  have old : ∀ a, a ∈ L (cd 5) → R3 70 a = R 70 a ∧ ∃ p w d, R 70 a = some p ∧ K p = 4 ∧ R 40 p = some w ∧ K w = 21 ∧ R 41 p = some d ∧ K d = 22 ∧ R3 40 p = R 40 p ∧ R3 41 p = R 41 p := fun a ha => by
    obtain ⟨i, p, w, d, n, is9, came, b1, b2, -⟩ := q_el hfl.2.2.2.1 a ha
    exact ⟨c_rr hc (hel7 a ha) (by decide) (by decide) (by decide) (by decide), p, w, d, b1, b2.1, b2.2.1, b2.2.2.1, b2.2.2.2.2.1, b2.2.2.2.2.2.1, c_rr hc b2.1 (by decide) (by decide) (by decide) (by decide), c_rr hc b2.1 (by decide) (by decide) (by decide) (by decide)⟩
  have hqn : ∀ a, a ∈ L (cd 5) → a ≠ q := fun a ha z => by have := hel7 a ha; rw [z, hz] at this; exact absurd this (by decide)
  have in5 : ∀ a, a ∈ L3 (cd 5) → a ∈ L (cd 5) ∨ a = q := fun a ha => by rw [hL5] at ha; exact (List.mem_append.mp ha).imp id (fun h => List.mem_singleton.mp h)
  refine ⟨c_ok_chg hok hc (fun _ _ z => absurd z id), q_isl_t hi hc (fun _ _ z => absurd z id) (hLn _ hok.2.2.2.2.2.2.2.2.2.2.2.2.2.2.2.2.2.2.2.2.2.2.2.2.2.2.2.2.2.2.2.2.2.2.2.2.2.2.2.2.2.2.2.1) (z2 0 (by decide)) (mM 7 (by decide) (by decide) (by decide) (by decide)) (mM 8 (by decide) (by decide) (by decide) (by decide)) (mM 9 (by decide) (by decide) (by decide) (by decide)) (mM 10 (by decide) (by decide) (by decide) (by decide)), q_fnd_t hf hc (fun _ _ z => absurd z id) (fun _ _ z => absurd z id) e50 (hLn _ hok.2.2.2.2.2.2.2.2.2.2.2.2.2.2.2.2.2.2.2.2.2.2.2.2.2.2.2.2.2.2.2.2.2.2.2.2.2.2.2.2.2.2.2.2.2.2.2.1) (fun j h => by rw [hL5, List.getElem?_append_left h, List.length_append]; exact ⟨rfl, by omega⟩) (hLn _ (Ne.symm hok.2.2.2.2.2.2.2.2.2.2.2.2.2.2.2.2.2.2.2.2.2.2.2.2.2.2.2.2.2.2.2.2.2.2.2.2.2.2.2.2.2.2.2.2.2.2.2.2.2.2.2.2.2.1)) (z2 1 (by decide)) (mM 11 (by decide) (by decide) (by decide) (by decide)) (mM 12 (by decide) (by decide) (by decide) (by decide)) (mM 13 (by decide) (by decide) (by decide) (by decide)) (mM 14 (by decide) (by decide) (by decide) (by decide)) (mM 15 (by decide) (by decide) (by decide) (by decide)) (mM 16 (by decide) (by decide) (by decide) (by decide)), q_row_t hr hel1 hc (fun _ _ z => absurd z id) (fun _ _ z => absurd z id) (hLn _ hok.2.2.2.2.2.2.2.2.2.2.2.2.2.2.2.2.2.2.2.2.2.2.2.2.2.2.2.2.2.2.2.2.2.2.2.2.2.2.2.2.2.2.2.2.2.2.2.1) (hLn _ (Ne.symm hok.2.2.2.2.2.2.2.2.2.2.2.2.2.2.2.2.2.2.2.2.2.2.2.2.2.2.2.2.2.2.2.2.2.2.2.2.2.2.2.2.2.2.2.2.2.2.2.2.2.2.2.2.1)), q_shf_t hok hsh hel1 hc (fun _ _ z => absurd z id) (fun _ _ z => absurd z id) (hLn _ hok.2.2.2.2.2.2.2.2.2.2.2.2.2.2.2.2.2.2.2.2.2.2.2.2.2.2.2.2.2.2.2.2.2.2.2.2.2.2.2.2.2.2.2.2.2.2.2.1) (hLn _ (Ne.symm hok.2.2.2.2.2.2.2.2.2.2.2.2.2.2.2.2.2.2.2.2.2.2.2.2.2.2.2.2.2.2.2.2.2.2.2.2.2.2.2.2.2.2.2.2.2.2.2.2.2.2.2.2.2.1)) (fun a fl ha hf9 => hLn _ ?_) (z2 3 (by decide)) (z2 4 (by decide)) (z2 5 (by decide)) (mM 17 (by decide) (by decide) (by decide) (by decide)), ⟨?_, ?_, ?_, fun s a ha => ?_, fun a b ha hb hab => ?_, fun a b p p' ha hb hab hp hp' => ?_⟩, q_typ_t hty hc id (fun _ _ z => absurd z id) rfl rfl (z2 29 (by decide)) (mM 25 (by decide) (by decide) (by decide) (by decide)) (mM 26 (by decide) (by decide) (by decide) (by decide)), q_cau_t hca rfl (z2 31 (by decide)) (mM 32 (by decide) (by decide) (by decide) (by decide)), hcap⟩
  · obtain ⟨k, -, -, f2, b3, -, -, b6, -⟩ := q_el hsh.2.2.1 a ha
    rw [hf9] at b3
    rw [Option.some.inj b3]
    exact b6 5 (by decide)
  · rw [hL5, List.length_append, List.length_singleton]
    show z1 Z 2 (Z 2 + 1) 2 = _
    rw [z1_s, hfl.1, nI_1]
  · rw [hL5, List.length_append, List.length_singleton]
    omega
  · rw [hL5]
    exact List.pairwise_append.mpr ⟨hfl.2.2.1, List.pairwise_singleton _ _, fun a ha b hb => by rw [List.mem_singleton.mp hb]; exact hqn a ha⟩
  · rw [hL5] at ha
    rcases lg_app ha with ⟨h1, h2⟩ | ⟨h1, h2⟩
    · have h3 := q_shp_t (M' := M) (L' := L3) (A' := A) (hfl.2.2.2.1 s a h2) hc (fun _ z => absurd z id) (fun _ _ z => z) (fun _ _ z => absurd z id) (fun _ _ _ _ => rfl) (fun j b h => by rw [hLn _ hok.2.2.2.2.2.2.2.2.2.2.2.2.2.2.2.2.2.2.2.2.2.2.2.2.2.2.2.2.2.2.2.2.2.2.2.2.2.2.2.2.2.2.2.1]; exact h) hok.2.2.2.2.2.2.2.2.2.2.2.2.2.2.2.2.2.2.2.2.2.2.2.1 hok.2.2.2.2.2.2.2.2.2.2.2.2.2.2.2.2.2.2.2.2.2.2.2.2.1 (fun _ _ => rfl) rfl rfl rfl rfl rfl rfl rfl
      exact q_shp_M h3 (by rw [mM 9 (by decide) (by decide) (by decide) (by decide)]) (mI 18 s (by omega)) (mI 19 s (by omega)) (by rw [mM 20 (by decide) (by decide) (by decide) (by decide)]) (mI 21 s (by omega)) (mI 22 s (by omega)) (fun k _ => by rw [mM 23 (by decide) (by decide) (by decide) (by decide)]) (fun k _ => by rw [mM 24 (by decide) (by decide) (by decide) (by decide)])
    · rw [h1, h2]
      refine ⟨ph, q1, q2, 0, is0, is0, r70, hph, r71, ?_, ⟨0, by decide, mN.1⟩, r73, ?_, kq, Or.inl i74, i72.trans mN.2.1.symm, mN.2.2, fun k h => absurd h (Nat.not_lt_zero _), fun k _ h => absurd h (Nat.not_lt_zero _), ?_, ?_, ?_, fun z => absurd rfl z⟩
      · rw [mN.1, hLn _ hok.2.2.2.2.2.2.2.2.2.2.2.2.2.2.2.2.2.2.2.2.2.2.2.2.2.2.2.2.2.2.2.2.2.2.2.2.2.2.2.2.2.2.2.1]; exact hi0
      · rw [hLn _ hok.2.2.2.2.2.2.2.2.2.2.2.2.2.2.2.2.2.2.2.2.2.2.2.2.2.2.2.2.2.2.2.2.2.2.2.2.2.2.2.2.2.2.2.1]; exact List.mem_of_getElem? hi0
      · exact fun z => by rw [z, hok.2.2.2.2.2.2.2.2.2.2.2.2.2.2.2.2.1] at p0; exact absurd p0 (by decide)
      · exact fun z => by rw [z, hok.2.2.2.2.2.2.2.2.2.2.2.2.2.2.2.2.2.2.2.2.2.2.2.1] at p1; exact absurd p1 (by decide)
      · exact fun z => by rw [z, hok.2.2.2.2.2.2.2.2.2.2.2.2.2.2.2.2.2.2.2.2.2.2.2.2.1] at p2; exact absurd p2 (by decide)
  · rcases in5 a ha with ha | ha <;> rcases in5 b hb with hb | hb
    · rw [(old a ha).1, (old b hb).1]; exact hfl.2.2.2.2.1 a b ha hb hab
    · obtain ⟨e, p, w, d, g1, g2, -⟩ := old a ha
      rw [hb, r70, e, g1]; exact fun z => by rw [Option.some.inj z, p0] at g2; exact absurd g2 (by decide)
    · obtain ⟨e, p, w, d, g1, g2, -⟩ := old b hb
      rw [ha, r70, e, g1]; exact fun z => by rw [← Option.some.inj z, p0] at g2; exact absurd g2 (by decide)
    · exact absurd (ha.trans hb.symm) hab
  · rcases in5 a ha with ha | ha <;> rcases in5 b hb with hb | hb
    · obtain ⟨e, p9, w, d, g1, g2, g3, g4, g5, g6, g7, g8⟩ := old a ha
      obtain ⟨e', p8, w', d', g1', g2', g3', g4', g5', g6', g7', g8'⟩ := old b hb
      rw [e] at hp
      rw [e'] at hp'
      obtain rfl : p9 = p := Option.some.inj (g1.symm.trans hp)
      obtain rfl : p8 = p' := Option.some.inj (g1'.symm.trans hp')
      rw [g7, g8, g7', g8']
      exact hfl.2.2.2.2.2 a b _ _ ha hb hab hp hp'
    · obtain ⟨e, p9, w, d, g1, g2, g3, g4, g5, g6, g7, g8⟩ := old a ha
      rw [e] at hp
      obtain rfl : p9 = p := Option.some.inj (g1.symm.trans hp)
      rw [hb, r70] at hp'
      rw [← Option.some.inj hp', r40, r41, g7, g8, g3, g5]
      exact ⟨fun z => by rw [Option.some.inj z, p1] at g4; exact absurd g4 (by decide), fun z => by rw [Option.some.inj z, p2] at g6; exact absurd g6 (by decide)⟩
    · obtain ⟨e, p9, w, d, g1, g2, g3, g4, g5, g6, g7, g8⟩ := old b hb
      rw [e] at hp'
      obtain rfl : p9 = p' := Option.some.inj (g1.symm.trans hp')
      rw [ha, r70] at hp
      rw [← Option.some.inj hp, r40, r41, g7, g8, g3, g5]
      exact ⟨fun z => by rw [← Option.some.inj z, p1] at g4; exact absurd g4 (by decide), fun z => by rw [← Option.some.inj z, p2] at g6; exact absurd g6 (by decide)⟩
    · exact absurd (ha.trans hb.symm) hab
end
set_option maxHeartbeats 800000 in
set_option maxRecDepth 100000 in
theorem c_X8_ship (l : Launch) (hnt : l.stackTraces = false) {G : mG} {K : Nat → Nat} {I : Nat → Nat → Int32} {R : Nat → Nat → Option Nat} {F : Nat → UInt32} {A : Nat → Nat → Int32} {N : Nat → Nat} {L : Nat → List Nat} {T : Nat → List Int32} {J : Nat → Nat → Int64} {D : Nat → Nat → UInt64} {o : Nat} {cd : Nat → Nat} {Z : Nat → Int32} {M : Nat → Nat → Int32}  (hs : c_sim K I R N A L T o cd Z M) : vx_Met l yX8_ship wsX8_ship ({ frames := 9, cells := 5, slots := 48, locals := 380 } : Room) (va_Pc [.ref o] (fun U => m_B G K I R F A N L T J D U ∧ c_str U)) (va_Qi (fun (r : Int32) (u : (Nat → Nat) × (Nat → Nat → Int32) × (Nat → Nat → Option Nat) × (Nat → Nat) × (Nat → List Nat)) => t_ship Z = 0 ∧ r = Z 2 ∧ c_sim u.1 u.2.1 u.2.2.1 u.2.2.2.1 A u.2.2.2.2 T o cd (p_ship (Z, M)).1 (p_ship (Z, M)).2 ∧ c_fr K I R N A u.1 u.2.1 u.2.2.1 u.2.2.2.1 A) (fun u : (Nat → Nat) × (Nat → Nat → Int32) × (Nat → Nat → Option Nat) × (Nat → Nat) × (Nat → List Nat) => m_B G (u.1) (u.2.1) (u.2.2.1) F A (u.2.2.2.1) (u.2.2.2.2) T J D) (m_A G)) (vx_X (fun (u : Unit) => ¬ t_ship Z = 0) (fun E (u : Unit) t => E = "java/lang/IllegalStateException" ∧ m_B G K I R F A N L T J D t) (m_A G)) 5 48 (m_A G) := by
  refine vx_ofW (cc := cX8_ship) (maxL := 1) (ret := (some .int)) (by decide) rfl ?_
  intro p e s m args below meth c s₁ B hml hxt hv
  obtain ⟨rfl, hB, hcs⟩ := hv
  have hx := B.exec
  have hb := B.bytes
  have hr := B.returns
  have hts := atoms_spec (ws := wsX8_ship) B.pre
  have hown : s.vm.findClass RX8 = some m.cls := findClass_of_methodNamed B.named
  have hlocks := B.notSynchronized
  have hw := m_wo_in hB
  have hl := lv_entry ([.ref o]) (n := 1) (Nat.le_of_ble_eq_true rfl)
  rw [lg_entry_eq]
  generalize (lg_sl ([.ref o]) ++ List.replicate (1 - (lg_sl ([.ref o])).length) Slot.unset).toArray = ls at hl ⊢
  have hl : lv_has ls 1 [(0, .ref o)] := hl
  have hok := hs.1
  have hel0 := q_el0 hs
  have hel1 := q_el1 hs
  have hel5 := q_el5 hs
  have hel7 := q_el7 hs
  have hel9 := q_el9 hs
  have hlen := hs.2.2.2.2.2.1.2.1
  have hnc := m_nc_20 (n := (L (cd 5)).length) (by omega)
  have hok0 := hok
  have hel00 := hel0
  have hel70 := hel7
  have hz2 := hs.2.2.2.2.2.1.1
  have hz0 := hs.2.1.1
  have hl0 := hs.2.1.2.1
  have hwb0 := hw
  refine lv_aload_n hx hb dX8_ship_0 rfl (lv_at hl 0 rfl) ?_
  refine g_9_5 (r := some (cd 5)) hx hb hts (by decide +kernel) hown hw hok.1 (hts (.fieldLink RX8 40 "Pirateindex" "fleet" "Ljava/util/ArrayList;") (by decide +kernel)) hok.2.2.2.2.2.2.1 dX8_ship_1 ?_
  refine m_ci (va_runV (As := []) (rest := []) ⟨hx, hb, hml, hown, hts⟩ (c_Jx4a65c_size_8abf5 l hok.2.2.2.2.2.2.2.2.2.2.2.2.2.2.2.1) (cwV 0 hts gX8_ship_Jx4a65c_size_8abf5 rfl rfl rfl (by decide +kernel) ⟨Nat.le_of_ble_eq_true rfl, Nat.le_of_ble_eq_true rfl⟩) ⟨m_blind m_B_calling, m_recv hw (m_ent_11 hok.2.2.2.2.2.2.2.2.2.2.2.2.2.2.2.1) rfl, fun U hU hW => ⟨rfl, m_wo_call hw hU hW⟩⟩ rfl rfl hl.1 rfl (lv_room (Nat.le_of_ble_eq_true rfl)) dX8_ship_4 ⟨Nat.le_of_ble_eq_true rfl, Nat.le_of_ble_eq_true rfl⟩) hw (fun r_4 u_4 H locs hp_4 hw => ?_)
  obtain rfl : r_4 = (nI (L (cd 5)).length) := hp_4
  refine lv_iconst (v := 5) hx hb dX8_ship_7 (by decide) ?_
  refine lv_icmp_lt (tgt := 21) hx hb dX8_ship_8 (by decide) (fun c_8 => ?_) (fun c_8 => ?_)
  · skip
    have hlt : (L (cd 5)).length < 5 := nI_ltN (n := 5) (by omega) (by decide) c_8
    refine lv_aload_n hx hb dX8_ship_21 rfl (lv_at hl 0 rfl) ?_
    refine g_9_0 (r := some (cd 0)) hx hb hts (by decide +kernel) hown hw hok.1 (hts (.fieldLink RX8 10 "Pirateindex" "isles" "Ljava/util/ArrayList;") (by decide +kernel)) hok.2.1 dX8_ship_22 ?_
    refine m_ci (va_runV (As := []) (rest := []) ⟨hx, hb, hml, hown, hts⟩ (c_Jx4a65c_isEmpty_aae02 l hok.2.2.2.2.2.2.2.2.2.2.1) (cwV 0 hts gX8_ship_Jx4a65c_isEmpty_aae02 rfl rfl rfl (by decide +kernel) ⟨Nat.le_of_ble_eq_true rfl, Nat.le_of_ble_eq_true rfl⟩) ⟨m_blind m_B_calling, m_recv hw (m_ent_11 hok.2.2.2.2.2.2.2.2.2.2.1) rfl, fun U hU hW => ⟨rfl, m_wo_call hw hU hW⟩⟩ rfl rfl hl.1 rfl (lv_room (Nat.le_of_ble_eq_true rfl)) dX8_ship_25 ⟨Nat.le_of_ble_eq_true rfl, Nat.le_of_ble_eq_true rfl⟩) hw (fun r_25 u_25 H locs hp_25 hw => ?_)
    obtain rfl : r_25 = (b2i (decide ((L (cd 0)).length = 0))) := hp_25
    refine lv_if_eq (tgt := 41) hx hb dX8_ship_28 (by decide) (fun c_28 => ?_) (fun c_28 => ?_)
    · skip
      have hq := of_decide_eq_false ((b2i_eq _).mp c_28)
      have h0l : 0 < (L (cd 0)).length := Nat.pos_of_ne_zero hq
      have htz : t_ship Z = 0 := by unfold t_ship; rw [hz2, if_neg (q_5 hlt), hz0, if_neg (q_0 h0l (by omega))]
      refine lv_aload_n hx hb dX8_ship_41 rfl (lv_at hl 0 rfl) ?_
      refine g_9_5 (r := some (cd 5)) hx hb hts (by decide +kernel) hown hw hok.1 (hts (.fieldLink RX8 40 "Pirateindex" "fleet" "Ljava/util/ArrayList;") (by decide +kernel)) hok.2.2.2.2.2.2.1 dX8_ship_42 ?_
      refine m_new_7 hx hb hts (by decide +kernel) hown (hts (.classLink RX8 112 "Pirateindex$Ship") (by decide +kernel)) (hts (.instantiable RX6 5) (by decide +kernel)) (hts (.initialized RX6) (by decide +kernel)) hw (Nat.le_of_ble_eq_true rfl) (Nat.le_of_ble_eq_true rfl) dX8_ship_45 (fun q_45 H hz_45 hd_45 hw => ?_)
      have hk_45 : m_up K q_45 7 q_45 = 7 := m_up_self _ _ _
      have hcn : c_chg K I R N (m_up K q_45 7) I R N c_no c_no := c_chg_new (n := 0) hz_45
      have hok := c_ok_chg hok0 hcn (fun _ _ h => absurd h id)
      have hel0 : ∀ a, a ∈ L (cd 0) → (m_up K q_45 7) a = 3 := fun a ha => m_up_k hz_45 (hel00 a ha) (by decide)
      refine lv_dup hx hb dX8_ship_48 rfl ?_
      refine lv_aload_n hx hb dX8_ship_49 rfl (lv_at hl 0 rfl) ?_
      refine g_9_0 (r := some (cd 0)) hx hb hts (by decide +kernel) hown hw hok.1 (hts (.fieldLink RX8 10 "Pirateindex" "isles" "Ljava/util/ArrayList;") (by decide +kernel)) hok.2.1 dX8_ship_50 ?_
      refine lv_iconst (v := 0) hx hb dX8_ship_53 (by decide) ?_
      obtain ⟨is0, hi0⟩ : ∃ z, (L (cd 0))[0]? = some z := ⟨_, lg_some h0l⟩
      have hk0 : m_up K q_45 7 is0 = 3 := hel0 is0 (List.mem_of_getElem? hi0)
      refine m_cq (va_runV (As := [.int 0]) (rest := [.ref q_45, .ref q_45, .ref (cd 5)]) ⟨hx, hb, hml, hown, hts⟩ (c_Jx4a65c_get_915e3 l hok.2.2.2.2.2.2.2.2.2.2.1 h0l) (cwV 1 hts gX8_ship_Jx4a65c_get_915e3 rfl rfl rfl (by decide +kernel) ⟨Nat.le_of_ble_eq_true rfl, Nat.le_of_ble_eq_true rfl⟩) ⟨m_blind m_B_calling, m_recv hw (m_ent_11 hok.2.2.2.2.2.2.2.2.2.2.1) rfl, fun U hU hW => ⟨rfl, m_wo_call hw hU hW⟩⟩ rfl rfl hl.1 rfl (lv_room (Nat.le_of_ble_eq_true rfl)) dX8_ship_54 ⟨Nat.le_of_ble_eq_true rfl, Nat.le_of_ble_eq_true rfl⟩) hw (fun r_54 u_54 H locs hp_54 hw => ?_)
      obtain rfl : r_54 = some is0 := hp_54.trans hi0
      refine va_castS hx hb hown (hts (.classLink RX8 75 "Pirateindex$Isle") (by decide +kernel)) (hw.1.1 7 _ rfl).2 (m_recv hw (m_ent_3 hk0) rfl) dX8_ship_57 ?_
      refine m_cv (va_runI (As := [.ref is0]) (rest := [.ref q_45, .ref (cd 5)]) ⟨hx, hb, hml, hown, hts⟩ (c_X6_init l hk_45) (cwI 1 hts gX8_ship_X6_init rfl rfl rfl (hts (.initialized RX6) (by decide +kernel)) (hts (.methodLink RX8 118 yX6_init) (by decide +kernel)) (hts (.instanceMethod yX6_init) (by decide +kernel)) rfl (by decide +kernel) ⟨Nat.le_of_ble_eq_true rfl, Nat.le_of_ble_eq_true rfl⟩) ⟨m_blind m_B_calling, fun U hU hW => ⟨rfl, m_wo_call hw hU hW⟩⟩ rfl rfl hl.1 rfl (lv_room (Nat.le_of_ble_eq_true rfl)) dX8_ship_60 ⟨Nat.le_of_ble_eq_true rfl, Nat.le_of_ble_eq_true rfl⟩) hw (fun u_60 H locs hp_60 hw => ?_)
      obtain ⟨K_1, I_2, R_3, N_4⟩ := u_60
      have hw : m_wo G K_1 I_2 R_3 F A N_4 L T J D s H locs := hw
      dsimp only at hp_60
      obtain ⟨ph, q1, q2, hzp, hz1, hz2', hph0, eK2, eI2, eR2, eN2⟩ := hp_60
      have hc2 : c_chg K I R N K_1 I_2 R_3 N_4 c_no c_no := q_shpc hz_45 hzp hz1 hz2' eK2 eI2 eR2 eN2
      have hok := c_ok_chg hok0 hc2 (fun _ _ h => absurd h id)
      have hk45 : K_1 q_45 = 7 := by rw [eK2]; exact m_up_k hz2' (m_up_k hz1 (m_up_k hzp hk_45 (by decide)) (by decide)) (by decide)
      have hel7 : ∀ a, a ∈ L (cd 5) → K_1 a = 7 := fun a ha => c_kk hc2 (hel70 a ha) (by decide) (by decide)
      have hwb := hw
      refine m_ci (va_runV (As := [.ref q_45]) (rest := []) ⟨hx, hb, hml, hown, hts⟩ (c_Jx4a65c_add_9ea2d l hok.2.2.2.2.2.2.2.2.2.2.2.2.2.2.2.1 hok.2.2.2.2.2.2.2.2.2.2.2.2.2.2.2.2.2.2.2.2.2.2.2.2.2.2.2.2.2.2.2.2.2.2.2.2.2.1 (Or.inr (Or.inr (Or.inr hk45))) (fun y9 hy9 => Or.inr (Or.inr (Or.inr (hel7 y9 hy9)))) (by omega)) (cwV 1 hts gX8_ship_Jx4a65c_add_9ea2d rfl rfl rfl (by decide +kernel) ⟨Nat.le_of_ble_eq_true rfl, Nat.le_of_ble_eq_true rfl⟩) ⟨m_blind m_B_calling, m_recv hw (m_ent_11 hok.2.2.2.2.2.2.2.2.2.2.2.2.2.2.2.1) rfl, fun U hU hW => ⟨rfl, m_wo_call hw hU hW⟩⟩ rfl rfl hl.1 rfl (lv_room (Nat.le_of_ble_eq_true rfl)) dX8_ship_63 ⟨by show 4 + (if _ then _ else _) ≤ 5; split <;> omega, by show 16 + (if _ then _ else _) ≤ 48; split <;> omega⟩) hw (fun r_63 u_63 H locs hp_63 hw => ?_)
      obtain ⟨K_5, I_6, R_7, N_8, L_9⟩ := u_63
      have hw : m_wo G K_5 I_6 R_7 F A N_8 L_9 T J D s H locs := hw
      dsimp only at hp_63
      obtain ⟨hh9, hcap9, eL9⟩ := hp_63
      have hL5 : (L_9 (cd 5)).length = (L (cd 5)).length + 1 := by rw [eL9, m_up_self, List.length_append]; rfl
      have hcap8 : m_cap R_7 N_8 (cd 8) ≤ 1000 := by rw [m_cap_hid hwb hok.2.2.2.2.2.2.2.2.2.2.2.2.2.2.2.2.2.2.1 hok.2.2.2.2.2.2.2.2.2.2.2.2.2.2.2.2.2.2.2.2.2.2.2.2.2.2.2.2.2.2.2.2.2.2.2.2.2.2.1 hh9 (Ne.symm hok.2.2.2.2.2.2.2.2.2.2.2.2.2.2.2.2.2.2.2.2.2.2.2.2.2.2.2.2.2.2.2.2.2.2.2.2.2.2.2.2.2.2.2.2.2.2.2.2.2.2.2.1) hw, q_capc hwb0 hwb hok0.2.2.2.2.2.2.2.2.2.2.2.2.2.2.2.2.2.2.1 hok0.2.2.2.2.2.2.2.2.2.2.2.2.2.2.2.2.2.2.2.2.2.2.2.2.2.2.2.2.2.2.2.2.2.2.2.2.2.2.1 hc2 eR2 hok0.2.2.2.2.2.2.2.2.2.2.2.2.2.2.2.2.2.2.1 hz_45 hzp hz1 hz2' eK2 eN2]; exact hs.2.2.2.2.2.2.2.2
      have hok := c_ok_chg hok (c_chg_hid hh9) (fun _ _ h => absurd h id)
      have hss := q_ship hs hlt hi0 (hd_45.1 74) hz_45 hzp hz1 hz2' hph0 eK2 eI2 eR2 eN2 hc2 hh9 eL9 hcap8
      refine lv_pop hx hb dX8_ship_66 rfl ?_
      refine lv_aload_n hx hb dX8_ship_67 rfl (lv_at hl 0 rfl) ?_
      refine g_9_5 (r := some (cd 5)) hx hb hts (by decide +kernel) hown hw hok.1 (hts (.fieldLink RX8 40 "Pirateindex" "fleet" "Ljava/util/ArrayList;") (by decide +kernel)) hok.2.2.2.2.2.2.1 dX8_ship_68 ?_
      refine m_ci (va_runV (As := []) (rest := []) ⟨hx, hb, hml, hown, hts⟩ (c_Jx4a65c_size_8abf5 l hok.2.2.2.2.2.2.2.2.2.2.2.2.2.2.2.1) (cwV 0 hts gX8_ship_Jx4a65c_size_8abf5 rfl rfl rfl (by decide +kernel) ⟨Nat.le_of_ble_eq_true rfl, Nat.le_of_ble_eq_true rfl⟩) ⟨m_blind m_B_calling, m_recv hw (m_ent_11 hok.2.2.2.2.2.2.2.2.2.2.2.2.2.2.2.1) rfl, fun U hU hW => ⟨rfl, m_wo_call hw hU hW⟩⟩ rfl rfl hl.1 rfl (lv_room (Nat.le_of_ble_eq_true rfl)) dX8_ship_71 ⟨by show 4 + (if _ then _ else _) + 0 ≤ 5; split <;> omega, by show 16 + (if _ then _ else _) + 0 ≤ 48; split <;> omega⟩) hw (fun r_71 u_71 H locs hp_71 hw => ?_)
      obtain rfl : r_71 = nI ((L (cd 5)).length + 1) := hp_71.trans (congrArg nI hL5)
      refine lv_iconst (v := 1) hx hb dX8_ship_74 (by decide) ?_
      refine lv_isub hx hb dX8_ship_75 ?_
      rw [show nI ((L (cd 5)).length + 1) - 1 = Z 2 from by rw [nI_pred, hz2]]
      have hfr9 : c_fr K I R N A K_5 I_6 R_7 N_8 A := c_fr_tr (c_fr_n hc2) (c_fr_n (c_chg_hid hh9))
      refine vx_ret ?_
      refine W.widen (k := 5) (n := 48) (by split <;> omega) (by split <;> omega) ?_
      exact W.iret (v := (Z 2)) hx hb hr (fun t ht hW => ⟨⟨(Z 2), (K_5, I_6, R_7, N_8, L_9), rfl, ⟨htz, rfl, hss, hfr9⟩, m_wo_out hw ht hW.alike⟩, m_wo_F hw ht⟩) (m_wo_L hw) dX8_ship_76
    · skip
      have hq := of_decide_eq_true ((b2i_ne _).mp c_28)
      have htz : t_ship Z = 1 := by unfold t_ship; rw [hz2, if_neg (q_5 hlt), hz0, hq]; rfl
      obtain ⟨sa, hsa⟩ := hcs.1 (110, "there is no island") (by decide)
      refine vx_throwS (names := ["java/lang/RuntimeException", "java/lang/Exception"]) hx hb hnt hown (by decide) (by decide) (hts (.classLink RX8 68 "java/lang/IllegalStateException") (by decide +kernel)) (hts (.initialized "java/lang/IllegalStateException") (by decide +kernel)) hsa (vx_hat (B := .castable "java/lang/IllegalStateException" "java/lang/IllegalStateException" :: [.declares (Bundle.initS "java/lang/RuntimeException"), .declares (Bundle.initS "java/lang/Exception"), .declares (Bundle.initS Bundle.tN)]) (fun w h => hts w ((by decide +kernel : ∀ w ∈ (vx_atS RX8 72 "java/lang/IllegalStateException" ["java/lang/RuntimeException", "java/lang/Exception"]).filter goodWord, w ∈ wsX8_ship) w h)) (by decide +kernel) (vx_c (m_wo_cas hw (by decide)) (c_str_dc hcs))) (by decide +kernel) hw.2.1.1 hw.2.1.2.1 hw.2.2.2.1 (hl.1.trans hml.symm) dX8_ship_31 dX8_ship_34 dX8_ship_35 dX8_ship_37 dX8_ship_40 (fun x hx9 => absurd (hxt x hx9) id) (Nat.le_of_ble_eq_true rfl) (Nat.le_of_ble_eq_true rfl) (Nat.le_of_ble_eq_true rfl) (Nat.le_of_ble_eq_true rfl) hlocks (fun t hA9 hs9 hq9 => ⟨(), (by rw [htz]; decide), ⟨rfl, m_wo_up hw hA9 hs9 hq9⟩, m_wo_uF hw hs9 hq9⟩) (m_wo_L hw) (Nat.le_of_ble_eq_true rfl) (Nat.le_of_ble_eq_true rfl)
  · skip
    have htz : t_ship Z = 1 := by unfold t_ship; rw [hz2, if_pos (Int32.not_lt.mp c_8)]
    obtain ⟨sa, hsa⟩ := hcs.1 (104, "there are 5 ships") (by decide)
    refine vx_throwS (names := ["java/lang/RuntimeException", "java/lang/Exception"]) hx hb hnt hown (by decide) (by decide) (hts (.classLink RX8 68 "java/lang/IllegalStateException") (by decide +kernel)) (hts (.initialized "java/lang/IllegalStateException") (by decide +kernel)) hsa (vx_hat (B := .castable "java/lang/IllegalStateException" "java/lang/IllegalStateException" :: [.declares (Bundle.initS "java/lang/RuntimeException"), .declares (Bundle.initS "java/lang/Exception"), .declares (Bundle.initS Bundle.tN)]) (fun w h => hts w ((by decide +kernel : ∀ w ∈ (vx_atS RX8 72 "java/lang/IllegalStateException" ["java/lang/RuntimeException", "java/lang/Exception"]).filter goodWord, w ∈ wsX8_ship) w h)) (by decide +kernel) (vx_c (m_wo_cas hw (by decide)) (c_str_dc hcs))) (by decide +kernel) hw.2.1.1 hw.2.1.2.1 hw.2.2.2.1 (hl.1.trans hml.symm) dX8_ship_11 dX8_ship_14 dX8_ship_15 dX8_ship_17 dX8_ship_20 (fun x hx9 => absurd (hxt x hx9) id) (Nat.le_of_ble_eq_true rfl) (Nat.le_of_ble_eq_true rfl) (Nat.le_of_ble_eq_true rfl) (Nat.le_of_ble_eq_true rfl) hlocks (fun t hA9 hs9 hq9 => ⟨(), (by rw [htz]; decide), ⟨rfl, m_wo_up hw hA9 hs9 hq9⟩, m_wo_uF hw hs9 hq9⟩) (m_wo_L hw) (Nat.le_of_ble_eq_true rfl) (Nat.le_of_ble_eq_true rfl)
