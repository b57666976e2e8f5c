section
variable {K K' : Nat → Nat} {I I' I0 : Nat → Nat → Int32} {R R' : Nat → Nat → Option Nat} {N N' : Nat → Nat} {A A' A0 : Nat → Nat → Int32} {L : Nat → List Nat} {T : Nat → List Int32} {x o : Nat} {cd ad : Nat → Nat} {Z : mZ} {M : mM} {th : Int32}
theorem c_ph_rf {ph w9 d9 n : Nat} (h : c_ph K R N I A ph w9 d9 n) (hI : ∀ f b, K b ≠ 10 → I' f b = I f b) (hA : ∀ b, K b ≠ 20 → K b ≠ 30 → K b ≠ 34 → A' b = A b) : c_ph K R N I' A' ph w9 d9 n := by
  obtain ⟨h1, h2, h3, h4, h5, h6, h7, h8, h9, h10⟩ := h
  exact ⟨h1, h2, h3, h4, h5, h6, h7, by rw [hI _ _ (by rw [h1]; decide)]; exact h8, h9, by rw [hA _ (by rw [h6]; decide) (by rw [h6]; decide) (by rw [h6]; decide)]; exact h10⟩
theorem c_sim_ref (h : c_sim K I R N A L T x cd Z M) (hI : ∀ f b, K b ≠ 10 → I' f b = I f b) (hA : ∀ b, K b ≠ 20 → K b ≠ 30 → K b ≠ 34 → A' b = A b) : c_sim K I' R N A' L T x cd Z M := by
  have e1 := q_el1 h
  have e5 := q_el5 h
  have e7 := q_el7 h
  have e9 := q_el9 h
  obtain ⟨hok, ⟨h11, h12, h13⟩, ⟨h21, h22, h23⟩, ⟨h31, h32⟩, ⟨a1, a2, a3, a4, a5, a6, a7, a8, a9, a10⟩, ⟨f1, f2, f3, f4, f5, f6⟩, ⟨n, t1, t2, t3, t4⟩, h7, h8⟩ := h
  have k4 := hok.2.2.2.2.2.2.2.2.2.2.2.2.2.2.1
  have k13 : K (cd 13) = 21 := hok.2.2.2.2.2.2.2.2.2.2.2.2.2.2.2.2.2.2.2.2.2.2.2.1
  have k14 : K (cd 14) = 22 := hok.2.2.2.2.2.2.2.2.2.2.2.2.2.2.2.2.2.2.2.2.2.2.2.2.1
  have e50 : ∀ a, a ∈ L (cd 10) → I' 50 a = I 50 a := fun a ha => hI _ _ (by rw [e5 a ha]; decide)
  refine ⟨hok, ⟨h11, h12, fun i a ha => ?_⟩, ⟨h21, h22, fun f a ha => ?_⟩, ⟨h31.trans (List.Perm.of_eq (List.filter_congr (fun a ha => by unfold q_psb; rw [hI 16 a (by rw [e1 a ha]; decide)]))), List.Pairwise.imp_of_mem (fun {a b} ha hb hab => ?_) h32⟩, ⟨a1, a2, fun k a ha => ?_, a4, fun a b ha hb q => a5 a b ha hb (by rw [← e50 a ha, ← e50 b hb]; exact q), a6, by rw [hI _ _ (by rw [k4]; decide)]; exact a7, by rw [q_sgo_t e50]; exact a8, a9, ?_⟩, ⟨f1, f2, f3, fun s a ha => ?_, f5, f6⟩, ⟨n, t1, c_ph_rf t2 hI hA, by rw [hA _ (by rw [k13]; decide) (by rw [k13]; decide) (by rw [k13]; decide)]; exact t3, by rw [hA _ (by rw [k14]; decide) (by rw [k14]; decide) (by rw [k14]; decide)]; exact t4⟩, h7, h8⟩
  · obtain ⟨k, q⟩ := h13 i a ha
    have e : ∀ f, I' f a = I f a := fun f => hI f a (by rw [k]; decide)
    rw [e, e, e, e, e]
    exact ⟨k, q⟩
  · obtain ⟨k, q⟩ := h23 f a ha
    have e : ∀ f, I' f a = I f a := fun f => hI f a (by rw [k]; decide)
    rw [e, e, e, e, e, q_sgo_t e50]
    exact ⟨k, q⟩
  · have ka : ∀ f, I' f a = I f a := fun f => hI f a (by rw [e9 a ha]; decide)
    have kb : ∀ f, I' f b = I f b := fun f => hI f b (by rw [e9 b hb]; decide)
    unfold c_lt
    rw [ka, ka, ka, kb, kb, kb]
    exact hab
  · obtain ⟨k9, q⟩ := a3 k a ha
    rw [hI 50 a (by rw [k9]; decide)]
    exact ⟨k9, q⟩
  · obtain ⟨m, c1, c2, c3⟩ := a10
    exact ⟨m, c1, c2, fun a ha => by rw [e50 a ha]; exact c3 a ha⟩
  · obtain ⟨ph, w9, d9, n, is9, came, b1, b2, b3, b4, b5, b6, b7, b8, b9⟩ := f4 s a ha
    have kw : K w9 = 21 := b2.2.2.1
    have kd : K d9 = 22 := b2.2.2.2.2.2.1
    have e : ∀ f, I' f a = I f a := fun f => hI f a (by rw [b8]; decide)
    refine ⟨ph, w9, d9, n, is9, came, b1, c_ph_rf b2 hI hA, b3, b4, b5, b6, b7, b8, ?_⟩
    rw [e, e, hA w9 (by rw [kw]; decide) (by rw [kw]; decide) (by rw [kw]; decide), hA d9 (by rw [kd]; decide) (by rw [kd]; decide) (by rw [kd]; decide)]
    exact b9
theorem r_kd_oth {j : Nat} : c_oth (r_kd j) := by
  rcases r_kd_3 j with q | q | q <;> rw [q] <;> simp [c_oth]
theorem r_ok_fr (h : r_ok K R N o ad) (hf : c_fr K I R N A K' I' R' N' A') : r_ok K' R' N' o ad := by
  refine ⟨?_, fun j hj => ?_, h.2.2⟩
  · rw [(hf o (by rw [h.1]; exact Or.inl rfl)).1]; exact h.1
  · obtain ⟨h1, h2, h3⟩ := h.2.1 j hj
    have q := hf (ad j) (by rw [h2]; exact r_kd_oth)
    exact ⟨((hf o (by rw [h.1]; exact Or.inl rfl)).2.2.2.1 _ (by omega)).trans h1, q.1.trans h2, q.2.1.trans h3⟩
theorem r_st_fr (hr : r_ok K R N o ad) (h : r_st K o ad I0 A0 I A Z M th) (hf : c_fr K I R N A K' I' R' N' A') : r_st K' o ad I' A' I' A' Z M th := by
  have q := hf o (by rw [hr.1]; exact Or.inl rfl)
  exact ⟨fun j hj => (q.2.2.1 _ (by omega)).trans (h.1 j hj), fun j hj => (hf (ad j) (by rw [(hr.2.1 j hj).2.1]; exact r_kd_oth)).2.2.2.2.trans (h.2.1 j hj), fun _ _ _ => rfl, fun _ _ _ _ => rfl, (q.2.2.1 1006 (by decide)).trans h.2.2.2.2⟩
theorem c_sim_sc {Z' : mZ} {M' : mM} (h : c_sim K I R N A L T x cd Z M) (hs : o_sc (Z, M) (Z', M')) : c_sim K I R N A L T x cd Z' M' :=
  c_sim_zm h (fun j hj => hs.1 j (fun z => absurd hj (by rw [z]; decide))) (fun j hj => hs.2 j (fun z => absurd hj (by rw [z]; decide)) (fun z => absurd hj (by rw [z]; decide)) (fun z => absurd hj (by rw [z]; decide)) (fun z => absurd hj (by rw [z]; decide)))
end
