theorem q_cp_add {p1 p2 p3 : Nat → Bool} : ∀ {l : List Nat}, (∀ b, b ∈ l → (p3 b = (p1 b || p2 b)) ∧ ¬ (p1 b = true ∧ p2 b = true)) → l.countP p1 + l.countP p2 = l.countP p3
  | [], _ => rfl
  | a :: l, h => by
    have ih := q_cp_add (l := l) (fun b hb => h b (List.mem_cons_of_mem _ hb))
    obtain ⟨h1, h2⟩ := h a List.mem_cons_self
    rw [List.countP_cons, List.countP_cons, List.countP_cons, h1]
    cases e1 : p1 a <;> cases e2 : p2 a
    · simp; omega
    · simp; omega
    · simp; omega
    · exact absurd ⟨e1, e2⟩ h2
section
variable {K : Nat → Nat} {I : Nat → Nat → Int32} {R : Nat → Nat → Option Nat} {N : Nat → Nat} {A : Nat → Nat → Int32} {L : Nat → List Nat} {T : Nat → List Int32} {x : Nat} {cd : Nat → Nat} {Z : mZ} {M : mM}
/-- the segments' finds, counted in the log -/
theorem q_all_cp {lg : List Nat} (q : Nat → Bool) : ∀ {l : List Nat}, (∀ a, a ∈ l → ∃ fl, R 51 a = some fl ∧ (L fl).Perm (lg.filter (fun b => decide (R 15 b = some a)))) → l.Nodup → (c_all R L l).countP q = lg.countP (fun b => q b && l.any (fun a => decide (R 15 b = some a)))
  | [], _, _ => by
    show 0 = _
    rw [eq_comm, List.countP_eq_zero]
    intro b _
    simp
  | a :: l, h, hn => by
    have ih := q_all_cp (lg := lg) q (l := l) (fun b hb => h b (List.mem_cons_of_mem _ hb)) (List.nodup_cons.mp hn).2
    obtain ⟨fl, h1, h2⟩ := h a List.mem_cons_self
    show (L ((R 51 a).getD 0) ++ c_all R L l).countP q = _
    rw [h1, List.countP_append, ih]
    show (L fl).countP q + _ = _
    rw [h2.countP_eq, List.countP_filter]
    refine q_cp_add (fun b _ => ⟨?_, fun ⟨z1, z2⟩ => ?_⟩)
    · rw [List.any_cons]
      cases q b <;> simp
    · simp only [Bool.and_eq_true, decide_eq_true_eq, List.any_eq_true] at z1 z2
      obtain ⟨-, c, hc, hc2⟩ := z2
      rw [z1.2] at hc2
      exact (List.nodup_cons.mp hn).1 (by rw [Option.some.inj hc2]; exact hc)
theorem q_seg_hp (h : c_sim K I R N A L T x cd Z M) : ∀ a, a ∈ L (cd 10) → ∃ fl, R 51 a = some fl ∧ (L fl).Perm ((L (cd 1)).filter (fun b => decide (R 15 b = some a))) := fun a ha => by
  obtain ⟨k, -, -, fl, h1, -, -, -, h2⟩ := q_el h.2.2.2.2.1.2.2.1 a ha
  exact ⟨fl, h1, h2⟩
theorem q_seg_in (h : c_sim K I R N A L T x cd Z M) {b a : Nat} (hb : b ∈ L (cd 1)) (hr : R 15 b = some a) : a ∈ L (cd 10) := by
  obtain ⟨f, -, -, -, -, -, -, -, -, h1, -⟩ := q_el h.2.2.1.2.2 b hb
  rw [hr] at h1
  unfold q_sgo at h1
  split at h1
  · exact absurd h1 (by simp)
  · exact List.mem_of_find?_eq_some h1.symm
theorem q_all_q (h : c_sim K I R N A L T x cd Z M) (q : Nat → Bool) : (c_all R L (L (cd 10))).countP q = (L (cd 1)).countP (fun b => q b && (R 15 b).isSome) := by
  rw [q_all_cp (lg := L (cd 1)) q (q_seg_hp h) h.2.2.2.2.1.2.2.2.2.2.1]
  refine List.countP_congr (fun b hb => ?_)
  simp only [Bool.and_eq_true, List.any_eq_true, decide_eq_true_eq]
  constructor
  · rintro ⟨h1, a, _, h3⟩
    exact ⟨h1, by rw [h3]; rfl⟩
  · rintro ⟨h1, h2⟩
    obtain ⟨a, ha⟩ := Option.isSome_iff_exists.mp h2
    exact ⟨h1, a, q_seg_in h hb ha, ha⟩
theorem q_log_nd (h : c_sim K I R N A L T x cd Z M) : (L (cd 1)).Nodup := by
  refine List.pairwise_iff_getElem.mpr (fun i j hi hj hij e => ?_)
  have h1 := h.2.2.1.2.2 i _ (List.getElem?_eq_getElem hi)
  have h2 := h.2.2.1.2.2 j _ (List.getElem?_eq_getElem hj)
  have hl := h.2.2.1.2.1
  rw [e] at h1
  have h3 := h1.2.1.symm.trans h2.2.1
  exact absurd ((nI_eq (by omega) (by omega)).mp h3) (by omega)
theorem q_hag (h : c_sim K I R N A L T x cd Z M) (q : Nat → Bool) : ((c_all R L (L (cd 10))).filter (c_us I)).countP q = (L (cd 9)).countP q := by
  rw [List.countP_filter, q_all_q h, h.2.2.2.1.1.countP_eq, List.countP_filter]
  refine List.countP_congr (fun b hb => ?_)
  unfold q_psb c_us
  rw [Bool.and_eq_true, Bool.and_eq_true, Bool.and_eq_true, Bool.and_eq_true]
  exact ⟨fun z => ⟨z.1.1, z.2, z.1.2⟩, fun z => ⟨⟨z.1, z.2.2⟩, z.2.1⟩⟩
theorem q_cnt1 {a : Nat} : ∀ {l : List Nat}, l.Nodup → a ∈ l → ∀ {p : Nat → Bool}, p a = true → l.countP (fun b => (b == a) && p b) = 1
  | b :: l, hn, ha, p, hp => by
    rw [List.countP_cons]
    by_cases e : b = a
    · subst e
      have h0 : l.countP (fun c => (c == b) && p c) = 0 := by
        rw [List.countP_eq_zero]
        intro c hc z
        simp only [Bool.and_eq_true, beq_iff_eq] at z
        exact (List.nodup_cons.mp hn).1 (by rw [← z.1]; exact hc)
      rw [h0]; simp [hp]
    · have hm : a ∈ l := (List.mem_cons.mp ha).elim (fun z => absurd z.symm e) id
      rw [q_cnt1 (List.nodup_cons.mp hn).2 hm hp]
      simp [e]
theorem q_hcnt (h : c_sim K I R N A L T x cd Z M) (a : Nat) (ha : a ∈ L (cd 1)) : (c_all R L (L (cd 10))).count a = if (R 15 a).isSome = true then 1 else 0 := by
  unfold List.count
  rw [q_all_q h]
  split
  · rename_i h1
    exact q_cnt1 (q_log_nd h) ha h1
  · rename_i h1
    rw [List.countP_eq_zero]
    intro c hc z
    simp only [Bool.and_eq_true, beq_iff_eq] at z
    rw [z.1] at z
    exact h1 z.2
theorem q_h120 (h : c_sim K I R N A L T x cd Z M) : (c_all R L (L (cd 10))).length ≤ 120 := by
  have h1 := q_all_q h (fun _ => true)
  rw [List.countP_true] at h1
  rw [h1]
  exact Nat.le_trans List.countP_le_length h.2.2.1.2.1
theorem q_all_in (h : c_sim K I R N A L T x cd Z M) {a : Nat} (ha : a ∈ c_all R L (L (cd 10))) : a ∈ L (cd 1) := by
  obtain ⟨b, hb, hb2⟩ := (c_all_mem R L).mp ha
  obtain ⟨fl, h1, h2⟩ := q_seg_hp h b hb
  rw [h1] at hb2
  exact (List.mem_filter.mp (h2.mem_iff.mp hb2)).1
theorem q_hcp (h : c_sim K I R N A L T x cd Z M) : ∀ a, a ∈ c_all R L (L (cd 10)) → ∃ p, p < 41 ∧ I 13 a = nI p := fun a ha => by
  obtain ⟨i, q⟩ := q_el h.2.2.1.2.2 a (q_all_in h ha)
  rw [q.2.2.2.2.1]
  exact q.2.2.2.2.2.2.2.2.2.2
theorem q_hc15 (h : c_sim K I R N A L T x cd Z M) : ∀ a, a ∈ c_all R L (L (cd 10)) → R 15 a ≠ none := fun a ha => by
  obtain ⟨b, hb, hb2⟩ := (c_all_mem R L).mp ha
  obtain ⟨fl, h1, h2⟩ := q_seg_hp h b hb
  rw [h1] at hb2
  rw [of_decide_eq_true (List.mem_filter.mp (h2.mem_iff.mp hb2)).2]
  simp
theorem q_hsg (h : c_sim K I R N A L T x cd Z M) : ∀ a, a ∈ L (cd 10) → ∃ fl, R 51 a = some fl ∧ K fl = 11 ∧ ∀ b, b ∈ L fl → K b = 1 := fun a ha => by
  obtain ⟨k, -, -, fl, h1, h3, -, -, h2⟩ := q_el h.2.2.2.2.1.2.2.1 a ha
  exact ⟨fl, h1, h3, fun b hb => q_el1 h b (List.mem_filter.mp (h2.mem_iff.mp hb)).1⟩
theorem q_hgf (h : c_sim K I R N A L T x cd Z M) : ∀ a, a ∈ L (cd 10) → R 51 a ≠ some (cd 8) := fun a ha z => by
  obtain ⟨k, -, -, fl, h1, -, -, h4, -⟩ := q_el h.2.2.2.2.1.2.2.1 a ha
  rw [h1] at z
  exact h4 8 (by decide) (Option.some.inj z)
end
