section MJ2
variable {p : Program} {l : Launch} {e : Env} {R0 : Room} {s : State} {m : MethodId} {args : Array Value} {below : List Frame} {meth : Method} {c : Code} {H : Heap} {locs : List Loc} {cells slots : Nat} {Q : State → Prop} {cc : ByteArray} {pc : Nat} {ls : Array Slot} {rest : List Value} {G : mG} {K : Nat → Nat} {I : Nat → Nat → Int32} {R : Nat → Nat → Option Nat} {F : Nat → UInt32} {A : Nat → Nat → Int32} {N : Nat → Nat} {L : Nat → List Nat} {T : Nat → List Int32} {J : Nat → Nat → Int64} {D : Nat → Nat → UInt64}
/-- a list and what it stands on have been written: the picture with its new content -/
theorem m_fin_L {o e : Nat} {l' : List Nat} {H1 : Heap} {locs1 : List Loc} (hw : m_wo G K I R F A N L T J D s H locs) (hk : K o = 11) (hr : R 111 o = some e) (he : K e = 40) (ho : R 99 e = some o) (hn : l'.length ≤ N e) (hs : H1.size = H.size) (hq : ∀ q : Nat, q ≠ o → q ≠ e → H1[q]? = H[q]?) (hL : ∀ q ∈ locs1, G.2.2.1 ≤ q.base)
    (hat : va_at G.1 vwCl (o, .inr (4, [.int (I 110 o), va_rf (some e), .int (nI l'.length)])) H1) (hae : va_at G.1 vwCl (e, .inl (G.2.1 5, (N e, .inr (.inr (.inr (.inr (fun i => l'[i]?))))))) H1) : m_wo G K I R F A N (m_up L o l') T J D s H1 locs1 := by
  have hne : e ≠ o := fun z => by rw [z, hk] at he; exact absurd he (by decide)
  refine m_fin hw [o, e] (by omega) (fun q _ b => hq q (fun z => b (by simp [z])) (fun z => b (by simp [z]))) (fun q hq9 => ?_) hL (fun b hb => Or.inl hb) (fun b eb hb => ?_) ?_
  · rcases List.mem_cons.mp hq9 with h | h
    · rw [h]; exact (hw.2.2.1.1 o (by rw [hk]; decide)).1
    · rw [List.mem_singleton.mp h]; exact (hw.2.2.1.1 e (by rw [he]; decide)).1
  · by_cases h1 : b = o
    · subst h1
      rw [m_ent_11 hk, m_up_self, hr] at hb
      cases hb
      exact Or.inr hat
    · by_cases h2 : b = e
      · subst h2
        rw [m_ent_40 he, ho] at hb
        simp only [Option.getD_some, m_up_self] at hb
        cases hb
        exact Or.inr hae
      · refine Or.inl ⟨by simp [h1, h2], ?_⟩
        rw [← hb]
        refine (m_ent_same rfl (fun _ => rfl) (fun _ => rfl) rfl rfl rfl (m_up_ne _ _ h1) rfl rfl rfl (fun h4 => m_up_ne _ _ ?_)).symm
        obtain ⟨o2, a1, a2, a3⟩ := hw.2.2.1.2.2.2.2.1 b h4
        rw [a1]
        intro z
        have z2 : o2 = o := z
        rw [z2, hr] at a3
        exact h2 (Option.some.inj a3).symm
  · obtain ⟨p1, p2, p3, p4, p5⟩ := m_wo_pu hw
    refine ⟨fun b hb => ?_, fun b hb => ?_, p3, p4, p5⟩
    · obtain ⟨a1, a2, a3, a4, a5, a6, a7, a8, a9⟩ := p1 b hb
      exact ⟨a1, a2, a3, a4, a5, (m_up_ne _ _ (fun z => by rw [z, hk] at hb; exact absurd hb (by decide))).trans a6, a7, a8, a9⟩
    · by_cases h1 : b = o
      · subst h1
        refine Or.inr (Or.inr ⟨e, hr, he, ho, by rw [m_up_self]; exact hn, ?_⟩)
        rcases p2 b hb with h | h | ⟨e2, b1, b2, b3, b4, b5, b6⟩
        · rw [hr] at h; exact absurd h.1 (by simp)
        · rw [hr] at h
          have h3 : e = G.2.2.2 := Option.some.inj h.1
          obtain ⟨z, h4⟩ := hw.2.1.2.2.2.1
          exact absurd (hw.2.2.1.1 e (by rw [he]; decide)).1 (by rw [h3]; exact va_T.out h4)
        · rw [hr] at b1
          cases b1
          exact ⟨b5, b6⟩
      · rw [show m_up L o l' b = L b from m_up_ne _ _ h1]
        exact p2 b hb
/-- a list takes the shared empty array -/
theorem m_fin_E {o k9 : Nat} {H1 : Heap} (hw : m_wo G K I R F A N L T J D s H locs) (hk : K o = 11) (hr : R 111 o = none) (hl : L o = []) (hs : H1.size = H.size) (hq : ∀ q : Nat, q ≠ o → H1[q]? = H[q]?)
    (hat : va_at G.1 vwCl (o, .inr (4, [.int (I 110 o), va_rf (some G.2.2.2), .int (nI (L o).length)])) H1) : m_wo G K I (m_up2 R 111 o (some G.2.2.2)) F A N L T J D s H1 (locs ++ [⟨o, k9⟩]) := by
  have hoA := (hw.2.2.1.1 o (by rw [hk]; decide)).1
  refine m_fin hw [o] (by omega) (fun q _ b => hq q (fun z => b (by simp [z]))) (fun q hq9 => by rw [List.mem_singleton.mp hq9]; exact hoA) (fun q hq9 => ?_) (fun b hb => Or.inl hb) (fun b eb hb => ?_) ?_
  · rcases List.mem_append.mp hq9 with h | h
    · exact hw.2.2.2.1.2.2 q h
    · rw [List.mem_singleton.mp h]; exact hoA
  · by_cases h1 : b = o
    · subst h1
      rw [m_ent_11 hk, m_up2_self] at hb
      cases hb
      exact Or.inr hat
    · refine Or.inl ⟨by simp [h1], ?_⟩
      rw [← hb]
      refine (m_ent_same rfl (fun _ => rfl) (fun _ => m_up2_ne _ _ h1) rfl rfl rfl rfl rfl rfl rfl (fun _ => rfl)).symm
  · obtain ⟨p1, p2, p3, p4, p5⟩ := m_wo_pu hw
    refine ⟨fun b hb => ?_, fun b hb => ?_, fun e he => ?_, fun b hb => ?_, fun e he => ?_⟩
    · obtain ⟨a1, a2, a3⟩ := p1 b hb
      exact ⟨a1, fun f => (m_up2_ne _ _ (fun z => by rw [z, hk] at hb; exact absurd hb (by decide))).trans (a2 f), a3⟩
    · by_cases h1 : b = o
      · subst h1
        exact Or.inr (Or.inl ⟨m_up2_self _ _ _ _, hl⟩)
      · rw [m_up2_ne _ _ h1]
        rcases p2 b hb with h | h | ⟨e, b1, b2, b3, b4⟩
        · exact Or.inl h
        · exact Or.inr (Or.inl h)
        · exact Or.inr (Or.inr ⟨e, b1, b2, by rw [m_up2_ni _ _ (by decide)]; exact b3, b4⟩)
    · obtain ⟨o2, b1, b2, b3⟩ := p3 e he
      refine ⟨o2, by rw [m_up2_ni _ _ (by decide)]; exact b1, b2, ?_⟩
      rw [m_up2_ne _ _ (fun z => by rw [z, hr] at b3; exact absurd b3 (by simp))]
      exact b3
    · have := p4 b hb
      simp only [m_up2_ni _ _ (show (120 : Nat) ≠ 111 by decide), m_up2_ni _ _ (show (99 : Nat) ≠ 111 by decide)]
      exact this
    · obtain ⟨o2, b1, b2⟩ := p5 e he
      exact ⟨o2, by rw [m_up2_ni _ _ (by decide)]; exact b1, b2⟩
/-- what a list's growth leaves: q is the new array of o; e0 the old one (or none), forgotten: kind 42 -/
def m_gK (K : Nat → Nat) (e0 q : Nat) : Nat → Nat := fun b => if b = q then 40 else if b = e0 ∧ K b = 40 then 42 else K b
def m_gR (R : Nat → Nat → Option Nat) (o q : Nat) : Nat → Nat → Option Nat := m_up2 (m_up2 R 99 q (some o)) 111 o (some q)
theorem m_fin_G {o e0 q n : Nat} {H1 : Heap} {locs1 : List Loc} (hw : m_wo G K I R F A N L T J D s H locs) (hk : K o = 11) (hr : R 111 o = some e0) (hq0 : K q = 0) (hqA : G.2.2.1 ≤ q ∧ q < H1.size) (hn : (L o).length ≤ n) (hn0 : 0 < n) (hn1 : n ≤ 1000) (hs : H.size ≤ H1.size) (hq : ∀ b : Nat, b < H.size → b ≠ o → b ≠ q → H1[b]? = H[b]?) (hL : ∀ q ∈ locs1, G.2.2.1 ≤ q.base)
    (hat : va_at G.1 vwCl (o, .inr (4, [.int (I 110 o), va_rf (some q), .int (nI (L o).length)])) H1) (hae : va_at G.1 vwCl (q, .inl (G.2.1 5, (n, .inr (.inr (.inr (.inr (fun i => (L o)[i]?))))))) H1) : m_wo G (m_gK K e0 q) I (m_gR R o q) F A (m_up N q n) L T J D s H1 locs1 := by
  have hqo : q ≠ o := fun z => by rw [z, hk] at hq0; exact absurd hq0 (by decide)
  have hoA := (hw.2.2.1.1 o (by rw [hk]; decide)).1
  obtain ⟨p1, p2, p3, p4, p5⟩ := m_wo_pu hw
  have kq : m_gK K e0 q q = 40 := if_pos rfl
  have ko : ∀ b, b ≠ q → ¬ (b = e0 ∧ K b = 40) → m_gK K e0 q b = K b := fun b h1 h2 => by unfold m_gK; rw [if_neg h1, if_neg h2]
  have kb : ∀ b, K b ≠ 40 → b ≠ q → m_gK K e0 q b = K b := fun b h1 h2 => ko b h2 (fun h => h1 h.2)
  have hoK : m_gK K e0 q o = 11 := (kb o (by rw [hk]; decide) (Ne.symm hqo)).trans hk
  have rq : ∀ f b, f ≠ 99 → f ≠ 111 → m_gR R o q f b = R f b := fun f b h1 h2 => by unfold m_gR; rw [m_up2_ni _ _ h2, m_up2_ni _ _ h1]
  have r99 : ∀ b, b ≠ q → m_gR R o q 99 b = R 99 b := fun b h => by unfold m_gR; rw [m_up2_ni _ _ (by decide), m_up2_ne _ _ h]
  have r111 : ∀ b, b ≠ o → m_gR R o q 111 b = R 111 b := fun b h => by unfold m_gR; rw [m_up2_ne _ _ h, m_up2_ni _ _ (by decide)]
  have r99q : m_gR R o q 99 q = some o := by unfold m_gR; rw [m_up2_ni _ _ (by decide), m_up2_self]
  have r111o : m_gR R o q 111 o = some q := m_up2_self _ _ _ _
  have rne : ∀ f b, b ≠ q → b ≠ o → m_gR R o q f b = R f b := fun f b h1 h2 => by unfold m_gR; rw [m_up2_ne _ _ h2, m_up2_ne _ _ h1]
  have cs : ∀ b, b = q ∨ (b = e0 ∧ K b = 40 ∧ m_gK K e0 q b = 42) ∨ (b ≠ q ∧ ¬ (b = e0 ∧ K b = 40)) := fun b => by
    by_cases h1 : b = q
    · exact Or.inl h1
    · by_cases h2 : b = e0 ∧ K b = 40
      · exact Or.inr (Or.inl ⟨h2.1, h2.2, by unfold m_gK; rw [if_neg h1, if_pos h2]⟩)
      · exact Or.inr (Or.inr ⟨h1, h2⟩)
  have own : ∀ b, K b = 40 → R 99 b = some o → b = e0 := fun b hb hz => by
    obtain ⟨o2, b1, b2, b3⟩ := p3 b hb
    rw [b1] at hz
    rw [Option.some.inj hz, hr] at b3
    exact (Option.some.inj b3).symm
  have ne0 : ∀ b e, K b = 11 → b ≠ o → R 111 b = some e → K e = 40 → R 99 e = some b → e ≠ e0 := fun b e h1 h2 h3 h4 h5 z => by
    obtain ⟨o2, b1, b2, b3⟩ := p3 e h4
    rcases p2 o hk with h | h | ⟨e3, d1, d2, d3, -⟩
    · rw [hr] at h; exact absurd h.1 (by simp)
    · rw [hr] at h
      have h9 : e0 = G.2.2.2 := Option.some.inj h.1
      obtain ⟨z9, h8⟩ := hw.2.1.2.2.2.1
      exact absurd (hw.2.2.1.1 e (by rw [h4]; decide)).1 (by rw [z, h9]; exact va_T.out h8)
    · rw [hr] at d1
      cases d1
      rw [z, d3] at h5
      exact h2 (Option.some.inj h5).symm
  refine m_fin hw [o, q] hs (fun b h1 h2 => hq b h1 (fun z => h2 (by simp [z])) (fun z => h2 (by simp [z]))) (fun b hb => ?_) hL (fun b hb => ?_) (fun b eb hb => ?_) ?_
  · rcases List.mem_cons.mp hb with h | h
    · rw [h]; exact hoA
    · rw [List.mem_singleton.mp h]; exact hqA.1
  · rcases cs b with h | ⟨h1, h2, h3⟩ | ⟨h1, h2⟩
    · rw [h]; exact Or.inr hqA
    · exact Or.inl (by rw [h2]; decide)
    · rw [ko b h1 h2] at hb; exact Or.inl hb
  · rcases cs b with h | ⟨h1, h2, h3⟩ | ⟨h1, h2⟩
    · subst h
      rw [m_ent_40 kq, r99q] at hb
      simp only [Option.getD_some, m_up_self] at hb
      cases hb
      exact Or.inr hae
    · unfold m_ent at hb
      simp [h3] at hb
    · by_cases h4 : b = o
      · subst h4
        rw [m_ent_11 hoK, r111o] at hb
        cases hb
        exact Or.inr hat
      · refine Or.inl ⟨by simp [h1, h4], ?_⟩
        rw [← hb]
        exact (m_ent_same (ko b h1 h2) (fun _ => rfl) (fun f => rne f b h1 h4) rfl rfl (m_up_ne _ _ h1) rfl rfl rfl rfl (fun _ => rfl)).symm
  · refine ⟨fun b hb => ?_, fun b hb => ?_, fun b hb => ?_, fun b hb => ?_, fun b hb => ?_⟩
    · rcases cs b with h | ⟨h1, h2, h3⟩ | ⟨h1, h2⟩
      · rw [h, kq] at hb; exact absurd hb (by decide)
      · rw [h3] at hb; exact absurd hb (by decide)
      · rw [ko b h1 h2] at hb
        obtain ⟨a1, a2, a3, a4, a5, a6⟩ := p1 b hb
        exact ⟨a1, fun f => (rne f b h1 (fun z => by rw [z, hk] at hb; exact absurd hb (by decide))).trans (a2 f), a3, a4, (m_up_ne _ _ h1).trans a5, a6⟩
    · rcases cs b with h | ⟨h1, h2, h3⟩ | ⟨h1, h2⟩
      · rw [h, kq] at hb; exact absurd hb (by decide)
      · rw [h3] at hb; exact absurd hb (by decide)
      · rw [ko b h1 h2] at hb
        by_cases ho : b = o
        · subst ho
          exact Or.inr (Or.inr ⟨q, r111o, kq, r99q, by rw [m_up_self]; exact hn, by rw [m_up_self]; exact hn0, by rw [m_up_self]; exact hn1⟩)
        · rw [r111 b ho]
          rcases p2 b hb with h | h | ⟨e, b1, b2, b3, b4⟩
          · exact Or.inl h
          · exact Or.inr (Or.inl h)
          · have e1 : e ≠ q := fun z => by rw [z, hq0] at b2; exact absurd b2 (by decide)
            have e2 : e ≠ e0 := ne0 b e hb ho b1 b2 b3
            exact Or.inr (Or.inr ⟨e, b1, (ko e e1 (fun z => e2 z.1)).trans b2, (r99 e e1).trans b3, by rw [m_up_ne _ _ e1]; exact b4⟩)
    · rcases cs b with h | ⟨h1, h2, h3⟩ | ⟨h1, h2⟩
      · subst h
        exact ⟨o, r99q, hoK, r111o⟩
      · rw [h3] at hb; exact absurd hb (by decide)
      · rw [ko b h1 h2] at hb
        obtain ⟨o2, b1, b2, b3⟩ := p3 b hb
        have ho2 : o2 ≠ o := fun z => h2 ⟨own b hb (by rw [b1, z]), hb⟩
        have e1 : o2 ≠ q := fun z => by rw [z, hq0] at b2; exact absurd b2 (by decide)
        exact ⟨o2, (r99 b h1).trans b1, (kb o2 (by rw [b2]; decide) e1).trans b2, (r111 o2 ho2).trans b3⟩
    · rcases cs b with h | ⟨h1, h2, h3⟩ | ⟨h1, h2⟩
      · rw [h, kq] at hb; exact absurd hb (by decide)
      · rw [h3] at hb; exact absurd hb (by decide)
      · rw [ko b h1 h2] at hb
        rw [rq 120 b (by decide) (by decide)]
        refine (p4 b hb).imp id (fun ⟨e, a1, a2, a3, a4, a5, a6, a7⟩ => ?_)
        have e1 : e ≠ q := fun z => by rw [z, hq0] at a2; exact absurd a2 (by decide)
        exact ⟨e, a1, (kb e (by rw [a2]; decide) e1).trans a2, (r99 e e1).trans a3, by rw [m_up_ne _ _ e1]; exact a4, by rw [m_up_ne _ _ e1]; exact a5, by rw [m_up_ne _ _ e1]; exact a6, a7⟩
    · rcases cs b with h | ⟨h1, h2, h3⟩ | ⟨h1, h2⟩
      · rw [h, kq] at hb; exact absurd hb (by decide)
      · rw [h3] at hb; exact absurd hb (by decide)
      · rw [ko b h1 h2] at hb
        obtain ⟨o2, b1, b2⟩ := p5 b hb
        exact ⟨o2, (r99 b h1).trans b1, (kb o2 (by rw [b2]; decide) (fun z => by rw [z, hq0] at b2; exact absurd b2 (by decide))).trans b2⟩
theorem m_pu_new {q k n : Nat} (h : m_pu G K I R F A N L T J D) (hq : K q = 0) (h0 : k ≠ 0) (h4 : k ≠ 40) (h1 : k ≠ 41) : m_pu G (m_up K q k) I R F A (m_up N q n) L T J D := by
  obtain ⟨p1, p2, p3, p4, p5⟩ := h
  have hd := p1 q hq
  have kq : m_up K q k q = k := m_up_self _ _ _
  have kb : ∀ b, b ≠ q → m_up K q k b = K b := fun b hb => m_up_ne _ _ hb
  have nb : ∀ b, b ≠ q → m_up N q n b = N b := fun b hb => m_up_ne _ _ hb
  have ne : ∀ b j, K b = j → j ≠ 0 → b ≠ q := fun b j hb hj z => by rw [z, hq] at hb; exact hj hb.symm
  refine ⟨fun b hb => ?_, fun b hb => ?_, fun b hb => ?_, fun b hb => ?_, fun b hb => ?_⟩
  · by_cases hbq : b = q
    · rw [hbq, kq] at hb; exact absurd hb h0
    · rw [kb b hbq] at hb
      obtain ⟨a1, a2, a3, a4, a5, a6⟩ := p1 b hb
      exact ⟨a1, a2, a3, a4, (nb b hbq).trans a5, a6⟩
  · by_cases hbq : b = q
    · subst hbq; exact Or.inl ⟨hd.2.1 111, hd.2.2.2.2.2.1⟩
    · rw [kb b hbq] at hb
      rcases p2 b hb with h | h | ⟨e, b1, b2, b3, b4⟩
      · exact Or.inl h
      · exact Or.inr (Or.inl h)
      · have e1 := ne e 40 b2 (by decide)
        exact Or.inr (Or.inr ⟨e, b1, (kb e e1).trans b2, b3, by rw [nb e e1]; exact b4⟩)
  · by_cases hbq : b = q
    · rw [hbq, kq] at hb; exact absurd hb h4
    · rw [kb b hbq] at hb
      obtain ⟨o2, b1, b2, b3⟩ := p3 b hb
      exact ⟨o2, b1, (kb o2 (ne o2 11 b2 (by decide))).trans b2, b3⟩
  · by_cases hbq : b = q
    · subst hbq; exact Or.inl ⟨hd.2.1 120, hd.2.2.2.2.2.2.1⟩
    · rw [kb b hbq] at hb
      refine (p4 b hb).imp id (fun ⟨e, a1, a2, a3, a4, a5, a6, a7⟩ => ?_)
      have e1 := ne e 41 a2 (by decide)
      exact ⟨e, a1, (kb e e1).trans a2, a3, by rw [nb e e1]; exact a4, by rw [nb e e1]; exact a5, by rw [nb e e1]; exact a6, a7⟩
  · by_cases hbq : b = q
    · rw [hbq, kq] at hb; exact absurd hb h1
    · rw [kb b hbq] at hb
      obtain ⟨o2, b1, b2⟩ := p5 b hb
      exact ⟨o2, b1, (kb o2 (ne o2 12 b2 (by decide))).trans b2⟩
theorem m_up_id (f : Nat → Nat) (q : Nat) : m_up f q (f q) = f := by
  funext b
  unfold m_up
  split
  · rename_i h; rw [h]
  · rfl
/-- a cell that has just been made comes into the picture -/
theorem m_fin_N {k n : Nat} {en : va_E} {H1 : Heap} (hw : m_wo G K I R F A N L T J D s H locs) (h0 : k ≠ 0) (h4 : k ≠ 40) (h1 : k ≠ 41) (hs : H1.size = H.size + 1) (hq : ∀ q : Nat, q < H.size → H1[q]? = H[q]?) (he : ∀ eb, m_ent G (m_up K H.size k) I R F A (m_up N H.size n) L T J D H.size = some eb → eb = en) (hat : va_at G.1 vwCl (H.size, en) H1) : K H.size = 0 ∧ m_wo G (m_up K H.size k) I R F A (m_up N H.size n) L T J D s H1 locs := by
  have hq0 : K H.size = 0 := Classical.byContradiction fun z => Nat.lt_irrefl _ (hw.2.2.1.1 _ z).2
  refine ⟨hq0, m_fin hw [] (by omega) (fun q h _ => hq q h) (fun q h => by simp at h) hw.2.2.2.1.2.2 (fun b hb => ?_) (fun b eb hb => ?_) (m_pu_new (m_wo_pu hw) hq0 h0 h4 h1)⟩
  · by_cases hbq : b = H.size
    · exact Or.inr ⟨by rw [hbq]; exact Nat.le_trans hw.2.2.2.2 hw.2.2.2.1.1, by omega⟩
    · rw [m_up_ne _ _ hbq] at hb; exact Or.inl hb
  · by_cases hbq : b = H.size
    · subst hbq
      rw [he eb hb]
      exact Or.inr hat
    · refine Or.inl ⟨by simp, ?_⟩
      rw [← hb]
      exact (m_ent_same (m_up_ne _ _ hbq) (fun _ => rfl) (fun _ => rfl) rfl rfl (m_up_ne _ _ hbq) rfl rfl rfl rfl (fun _ => rfl)).symm
theorem m_new_1 (hexec : p.tables.exec = Jvm.exec) (hb : c.code = cc) {own : String} {index : Nat} {Ts : List Cond} (hts : ∀ w ∈ Ts, w.before args s = true) (hin : ∀ w ∈ u_ws RX0 TX0 7, w ∈ Ts) (hown : s.vm.findClass own = some m.cls) (hcl : (Cond.classLink own index RX0).before args s = true) (hinst : (Cond.instantiable RX0 7).before args s = true) (hini : (Cond.initialized RX0).before args s = true) (hw : m_wo G K I R F A N L T J D s H locs) (hcells : cells + 1 ≤ R0.cells) (hslots : slots + 7 ≤ R0.slots) (hdg : decode cc pc = .ok (.new index, 3))
    (kk : ∀ (q : Nat) (H1 : Heap), K q = 0 → ((∀ f, I f q = 0) ∧ (∀ f, R f q = none) ∧ F q = 0 ∧ (∀ j, A q j = 0) ∧ N q = 0 ∧ L q = [] ∧ T q = [] ∧ (∀ j, J q j = 0) ∧ (∀ j, D q j = 0)) → m_wo G (m_up K q 1) I R F A N L T J D s H1 locs → W p l e R0 s m args below meth c H1 locs (cells + 1) (slots + 7) Q (F0 m (pc + 3) ls (.ref q :: rest))) : W p l e R0 s m args below meth c H locs cells slots Q (F0 m pc ls rest) := by
  refine W.newcK hexec hb hown hcl hinst hini rfl hdg hcells hslots (hw.1.1 5 _ rfl).2.1 rfl fun H1 kC hkC e1 z1 o1 => ?_
  have hq0 : K H.size = 0 := Classical.byContradiction fun z => Nat.lt_irrefl _ (hw.2.2.1.1 _ z).2
  have hd := hw.2.2.1.2.2.1 _ hq0
  have hat : va_at G.1 vwCl (H.size, .inr (5, [.int 0, .int 0, .int 0, .int 0, .null, .null, .int 0])) H1 := ⟨_, rfl, (u_born tyX0 hts hin (hw.1.1 5 _ rfl) hkC e1 tyX0_ok).to (fun j hj => by
      match j, hj with
      | 0, _ => rfl
      | 1, _ => rfl
      | 2, _ => rfl
      | 3, _ => rfl
      | 4, _ => rfl
      | 5, _ => rfl
      | 6, _ => rfl
      | n + 7, h => exact absurd h (by show ¬ n + 7 < 7; omega))⟩
  have h9 := (m_fin_N (k := 1) (n := N H.size) hw (by decide) (by decide) (by decide) z1 o1 (fun eb hb => by
    rw [m_ent_1 (m_up_self _ _ _)] at hb
    cases hb
    simp only [hd.1, hd.2.1, va_rf]) hat).2
  rw [m_up_id] at h9
  exact kk H.size H1 hq0 hd h9
theorem m_new_2 (hexec : p.tables.exec = Jvm.exec) (hb : c.code = cc) {own : String} {index : Nat} {Ts : List Cond} (hts : ∀ w ∈ Ts, w.before args s = true) (hin : ∀ w ∈ u_ws RX1 TX1 1, w ∈ Ts) (hown : s.vm.findClass own = some m.cls) (hcl : (Cond.classLink own index RX1).before args s = true) (hinst : (Cond.instantiable RX1 1).before args s = true) (hini : (Cond.initialized RX1).before args s = true) (hw : m_wo G K I R F A N L T J D s H locs) (hcells : cells + 1 ≤ R0.cells) (hslots : slots + 1 ≤ R0.slots) (hdg : decode cc pc = .ok (.new index, 3))
    (kk : ∀ (q : Nat) (H1 : Heap), K q = 0 → ((∀ f, I f q = 0) ∧ (∀ f, R f q = none) ∧ F q = 0 ∧ (∀ j, A q j = 0) ∧ N q = 0 ∧ L q = [] ∧ T q = [] ∧ (∀ j, J q j = 0) ∧ (∀ j, D q j = 0)) → m_wo G (m_up K q 2) I R F A N L T J D s H1 locs → W p l e R0 s m args below meth c H1 locs (cells + 1) (slots + 1) Q (F0 m (pc + 3) ls (.ref q :: rest))) : W p l e R0 s m args below meth c H locs cells slots Q (F0 m pc ls rest) := by
  refine W.newcK hexec hb hown hcl hinst hini rfl hdg hcells hslots (hw.1.1 6 _ rfl).2.1 rfl fun H1 kC hkC e1 z1 o1 => ?_
  have hq0 : K H.size = 0 := Classical.byContradiction fun z => Nat.lt_irrefl _ (hw.2.2.1.1 _ z).2
  have hd := hw.2.2.1.2.2.1 _ hq0
  have hat : va_at G.1 vwCl (H.size, .inr (6, [.null])) H1 := ⟨_, rfl, (u_born tyX1 hts hin (hw.1.1 6 _ rfl) hkC e1 tyX1_ok).to (fun j hj => by
      match j, hj with
      | 0, _ => rfl
      | n + 1, h => exact absurd h (by show ¬ n + 1 < 1; omega))⟩
  have h9 := (m_fin_N (k := 2) (n := N H.size) hw (by decide) (by decide) (by decide) z1 o1 (fun eb hb => by
    rw [m_ent_2 (m_up_self _ _ _)] at hb
    cases hb
    simp only [hd.1, hd.2.1, va_rf]) hat).2
  rw [m_up_id] at h9
  exact kk H.size H1 hq0 hd h9
theorem m_new_3 (hexec : p.tables.exec = Jvm.exec) (hb : c.code = cc) {own : String} {index : Nat} {Ts : List Cond} (hts : ∀ w ∈ Ts, w.before args s = true) (hin : ∀ w ∈ u_ws RX2 TX2 6, w ∈ Ts) (hown : s.vm.findClass own = some m.cls) (hcl : (Cond.classLink own index RX2).before args s = true) (hinst : (Cond.instantiable RX2 6).before args s = true) (hini : (Cond.initialized RX2).before args s = true) (hw : m_wo G K I R F A N L T J D s H locs) (hcells : cells + 1 ≤ R0.cells) (hslots : slots + 6 ≤ R0.slots) (hdg : decode cc pc = .ok (.new index, 3))
    (kk : ∀ (q : Nat) (H1 : Heap), K q = 0 → ((∀ f, I f q = 0) ∧ (∀ f, R f q = none) ∧ F q = 0 ∧ (∀ j, A q j = 0) ∧ N q = 0 ∧ L q = [] ∧ T q = [] ∧ (∀ j, J q j = 0) ∧ (∀ j, D q j = 0)) → m_wo G (m_up K q 3) I R F A N L T J D s H1 locs → W p l e R0 s m args below meth c H1 locs (cells + 1) (slots + 6) Q (F0 m (pc + 3) ls (.ref q :: rest))) : W p l e R0 s m args below meth c H locs cells slots Q (F0 m pc ls rest) := by
  refine W.newcK hexec hb hown hcl hinst hini rfl hdg hcells hslots (hw.1.1 7 _ rfl).2.1 rfl fun H1 kC hkC e1 z1 o1 => ?_
  have hq0 : K H.size = 0 := Classical.byContradiction fun z => Nat.lt_irrefl _ (hw.2.2.1.1 _ z).2
  have hd := hw.2.2.1.2.2.1 _ hq0
  have hat : va_at G.1 vwCl (H.size, .inr (7, [.int 0, .int 0, .int 0, .int 0, .int 0, .float 0])) H1 := ⟨_, rfl, (u_born tyX2 hts hin (hw.1.1 7 _ rfl) hkC e1 tyX2_ok).to (fun j hj => by
      match j, hj with
      | 0, _ => rfl
      | 1, _ => rfl
      | 2, _ => rfl
      | 3, _ => rfl
      | 4, _ => rfl
      | 5, _ => rfl
      | n + 6, h => exact absurd h (by show ¬ n + 6 < 6; omega))⟩
  have h9 := (m_fin_N (k := 3) (n := N H.size) hw (by decide) (by decide) (by decide) z1 o1 (fun eb hb => by
    rw [m_ent_3 (m_up_self _ _ _)] at hb
    cases hb
    simp only [hd.1, hd.2.1, hd.2.2.1, hd.2.2.2.2.2.1, hd.2.2.2.2.2.2.1, va_rf, List.length_nil, nI_0]) hat).2
  rw [m_up_id] at h9
  exact kk H.size H1 hq0 hd h9
theorem m_new_4 (hexec : p.tables.exec = Jvm.exec) (hb : c.code = cc) {own : String} {index : Nat} {Ts : List Cond} (hts : ∀ w ∈ Ts, w.before args s = true) (hin : ∀ w ∈ u_ws RX3 TX3 3, w ∈ Ts) (hown : s.vm.findClass own = some m.cls) (hcl : (Cond.classLink own index RX3).before args s = true) (hinst : (Cond.instantiable RX3 3).before args s = true) (hini : (Cond.initialized RX3).before args s = true) (hw : m_wo G K I R F A N L T J D s H locs) (hcells : cells + 1 ≤ R0.cells) (hslots : slots + 3 ≤ R0.slots) (hdg : decode cc pc = .ok (.new index, 3))
    (kk : ∀ (q : Nat) (H1 : Heap), K q = 0 → ((∀ f, I f q = 0) ∧ (∀ f, R f q = none) ∧ F q = 0 ∧ (∀ j, A q j = 0) ∧ N q = 0 ∧ L q = [] ∧ T q = [] ∧ (∀ j, J q j = 0) ∧ (∀ j, D q j = 0)) → m_wo G (m_up K q 4) I R F A N L T J D s H1 locs → W p l e R0 s m args below meth c H1 locs (cells + 1) (slots + 3) Q (F0 m (pc + 3) ls (.ref q :: rest))) : W p l e R0 s m args below meth c H locs cells slots Q (F0 m pc ls rest) := by
  refine W.newcK hexec hb hown hcl hinst hini rfl hdg hcells hslots (hw.1.1 8 _ rfl).2.1 rfl fun H1 kC hkC e1 z1 o1 => ?_
  have hq0 : K H.size = 0 := Classical.byContradiction fun z => Nat.lt_irrefl _ (hw.2.2.1.1 _ z).2
  have hd := hw.2.2.1.2.2.1 _ hq0
  have hat : va_at G.1 vwCl (H.size, .inr (8, [.null, .null, .int 0])) H1 := ⟨_, rfl, (u_born tyX3 hts hin (hw.1.1 8 _ rfl) hkC e1 tyX3_ok).to (fun j hj => by
      match j, hj with
      | 0, _ => rfl
      | 1, _ => rfl
      | 2, _ => rfl
      | n + 3, h => exact absurd h (by show ¬ n + 3 < 3; omega))⟩
  have h9 := (m_fin_N (k := 4) (n := N H.size) hw (by decide) (by decide) (by decide) z1 o1 (fun eb hb => by
    rw [m_ent_4 (m_up_self _ _ _)] at hb
    cases hb
    simp only [hd.1, hd.2.1, va_rf]) hat).2
  rw [m_up_id] at h9
  exact kk H.size H1 hq0 hd h9
theorem m_new_5 (hexec : p.tables.exec = Jvm.exec) (hb : c.code = cc) {own : String} {index : Nat} {Ts : List Cond} (hts : ∀ w ∈ Ts, w.before args s = true) (hin : ∀ w ∈ u_ws RX4 TX4 2, w ∈ Ts) (hown : s.vm.findClass own = some m.cls) (hcl : (Cond.classLink own index RX4).before args s = true) (hinst : (Cond.instantiable RX4 2).before args s = true) (hini : (Cond.initialized RX4).before args s = true) (hw : m_wo G K I R F A N L T J D s H locs) (hcells : cells + 1 ≤ R0.cells) (hslots : slots + 2 ≤ R0.slots) (hdg : decode cc pc = .ok (.new index, 3))
    (kk : ∀ (q : Nat) (H1 : Heap), K q = 0 → ((∀ f, I f q = 0) ∧ (∀ f, R f q = none) ∧ F q = 0 ∧ (∀ j, A q j = 0) ∧ N q = 0 ∧ L q = [] ∧ T q = [] ∧ (∀ j, J q j = 0) ∧ (∀ j, D q j = 0)) → m_wo G (m_up K q 5) I R F A N L T J D s H1 locs → W p l e R0 s m args below meth c H1 locs (cells + 1) (slots + 2) Q (F0 m (pc + 3) ls (.ref q :: rest))) : W p l e R0 s m args below meth c H locs cells slots Q (F0 m pc ls rest) := by
  refine W.newcK hexec hb hown hcl hinst hini rfl hdg hcells hslots (hw.1.1 9 _ rfl).2.1 rfl fun H1 kC hkC e1 z1 o1 => ?_
  have hq0 : K H.size = 0 := Classical.byContradiction fun z => Nat.lt_irrefl _ (hw.2.2.1.1 _ z).2
  have hd := hw.2.2.1.2.2.1 _ hq0
  have hat : va_at G.1 vwCl (H.size, .inr (9, [.int 0, .null])) H1 := ⟨_, rfl, (u_born tyX4 hts hin (hw.1.1 9 _ rfl) hkC e1 tyX4_ok).to (fun j hj => by
      match j, hj with
      | 0, _ => rfl
      | 1, _ => rfl
      | n + 2, h => exact absurd h (by show ¬ n + 2 < 2; omega))⟩
  have h9 := (m_fin_N (k := 5) (n := N H.size) hw (by decide) (by decide) (by decide) z1 o1 (fun eb hb => by
    rw [m_ent_5 (m_up_self _ _ _)] at hb
    cases hb
    simp only [hd.1, hd.2.1, va_rf]) hat).2
  rw [m_up_id] at h9
  exact kk H.size H1 hq0 hd h9
theorem m_new_6 (hexec : p.tables.exec = Jvm.exec) (hb : c.code = cc) {own : String} {index : Nat} {Ts : List Cond} (hts : ∀ w ∈ Ts, w.before args s = true) (hin : ∀ w ∈ u_ws RX5 TX5 3, w ∈ Ts) (hown : s.vm.findClass own = some m.cls) (hcl : (Cond.classLink own index RX5).before args s = true) (hinst : (Cond.instantiable RX5 3).before args s = true) (hini : (Cond.initialized RX5).before args s = true) (hw : m_wo G K I R F A N L T J D s H locs) (hcells : cells + 1 ≤ R0.cells) (hslots : slots + 3 ≤ R0.slots) (hdg : decode cc pc = .ok (.new index, 3))
    (kk : ∀ (q : Nat) (H1 : Heap), K q = 0 → ((∀ f, I f q = 0) ∧ (∀ f, R f q = none) ∧ F q = 0 ∧ (∀ j, A q j = 0) ∧ N q = 0 ∧ L q = [] ∧ T q = [] ∧ (∀ j, J q j = 0) ∧ (∀ j, D q j = 0)) → m_wo G (m_up K q 6) I R F A N L T J D s H1 locs → W p l e R0 s m args below meth c H1 locs (cells + 1) (slots + 3) Q (F0 m (pc + 3) ls (.ref q :: rest))) : W p l e R0 s m args below meth c H locs cells slots Q (F0 m pc ls rest) := by
  refine W.newcK hexec hb hown hcl hinst hini rfl hdg hcells hslots (hw.1.1 10 _ rfl).2.1 rfl fun H1 kC hkC e1 z1 o1 => ?_
  have hq0 : K H.size = 0 := Classical.byContradiction fun z => Nat.lt_irrefl _ (hw.2.2.1.1 _ z).2
  have hd := hw.2.2.1.2.2.1 _ hq0
  have hat : va_at G.1 vwCl (H.size, .inr (10, [.null, .null, .int 0])) H1 := ⟨_, rfl, (u_born tyX5 hts hin (hw.1.1 10 _ rfl) hkC e1 tyX5_ok).to (fun j hj => by
      match j, hj with
      | 0, _ => rfl
      | 1, _ => rfl
      | 2, _ => rfl
      | n + 3, h => exact absurd h (by show ¬ n + 3 < 3; omega))⟩
  have h9 := (m_fin_N (k := 6) (n := N H.size) hw (by decide) (by decide) (by decide) z1 o1 (fun eb hb => by
    rw [m_ent_6 (m_up_self _ _ _)] at hb
    cases hb
    simp only [hd.1, hd.2.1, va_rf]) hat).2
  rw [m_up_id] at h9
  exact kk H.size H1 hq0 hd h9
theorem m_new_7 (hexec : p.tables.exec = Jvm.exec) (hb : c.code = cc) {own : String} {index : Nat} {Ts : List Cond} (hts : ∀ w ∈ Ts, w.before args s = true) (hin : ∀ w ∈ u_ws RX6 TX6 5, w ∈ Ts) (hown : s.vm.findClass own = some m.cls) (hcl : (Cond.classLink own index RX6).before args s = true) (hinst : (Cond.instantiable RX6 5).before args s = true) (hini : (Cond.initialized RX6).before args s = true) (hw : m_wo G K I R F A N L T J D s H locs) (hcells : cells + 1 ≤ R0.cells) (hslots : slots + 5 ≤ R0.slots) (hdg : decode cc pc = .ok (.new index, 3))
    (kk : ∀ (q : Nat) (H1 : Heap), K q = 0 → ((∀ f, I f q = 0) ∧ (∀ f, R f q = none) ∧ F q = 0 ∧ (∀ j, A q j = 0) ∧ N q = 0 ∧ L q = [] ∧ T q = [] ∧ (∀ j, J q j = 0) ∧ (∀ j, D q j = 0)) → m_wo G (m_up K q 7) I R F A N L T J D s H1 locs → W p l e R0 s m args below meth c H1 locs (cells + 1) (slots + 5) Q (F0 m (pc + 3) ls (.ref q :: rest))) : W p l e R0 s m args below meth c H locs cells slots Q (F0 m pc ls rest) := by
  refine W.newcK hexec hb hown hcl hinst hini rfl hdg hcells hslots (hw.1.1 11 _ rfl).2.1 rfl fun H1 kC hkC e1 z1 o1 => ?_
  have hq0 : K H.size = 0 := Classical.byContradiction fun z => Nat.lt_irrefl _ (hw.2.2.1.1 _ z).2
  have hd := hw.2.2.1.2.2.1 _ hq0
  have hat : va_at G.1 vwCl (H.size, .inr (11, [.null, .null, .int 0, .null, .int 0])) H1 := ⟨_, rfl, (u_born tyX6 hts hin (hw.1.1 11 _ rfl) hkC e1 tyX6_ok).to (fun j hj => by
      match j, hj with
      | 0, _ => rfl
      | 1, _ => rfl
      | 2, _ => rfl
      | 3, _ => rfl
      | 4, _ => rfl
      | n + 5, h => exact absurd h (by show ¬ n + 5 < 5; omega))⟩
  have h9 := (m_fin_N (k := 7) (n := N H.size) hw (by decide) (by decide) (by decide) z1 o1 (fun eb hb => by
    rw [m_ent_7 (m_up_self _ _ _)] at hb
    cases hb
    simp only [hd.1, hd.2.1, va_rf]) hat).2
  rw [m_up_id] at h9
  exact kk H.size H1 hq0 hd h9
theorem m_new_8 (hexec : p.tables.exec = Jvm.exec) (hb : c.code = cc) {own : String} {index : Nat} {Ts : List Cond} (hts : ∀ w ∈ Ts, w.before args s = true) (hin : ∀ w ∈ u_ws RX7 TX7 2, w ∈ Ts) (hown : s.vm.findClass own = some m.cls) (hcl : (Cond.classLink own index RX7).before args s = true) (hinst : (Cond.instantiable RX7 2).before args s = true) (hini : (Cond.initialized RX7).before args s = true) (hw : m_wo G K I R F A N L T J D s H locs) (hcells : cells + 1 ≤ R0.cells) (hslots : slots + 2 ≤ R0.slots) (hdg : decode cc pc = .ok (.new index, 3))
    (kk : ∀ (q : Nat) (H1 : Heap), K q = 0 → ((∀ f, I f q = 0) ∧ (∀ f, R f q = none) ∧ F q = 0 ∧ (∀ j, A q j = 0) ∧ N q = 0 ∧ L q = [] ∧ T q = [] ∧ (∀ j, J q j = 0) ∧ (∀ j, D q j = 0)) → m_wo G (m_up K q 8) I R F A N L T J D s H1 locs → W p l e R0 s m args below meth c H1 locs (cells + 1) (slots + 2) Q (F0 m (pc + 3) ls (.ref q :: rest))) : W p l e R0 s m args below meth c H locs cells slots Q (F0 m pc ls rest) := by
  refine W.newcK hexec hb hown hcl hinst hini rfl hdg hcells hslots (hw.1.1 12 _ rfl).2.1 rfl fun H1 kC hkC e1 z1 o1 => ?_
  have hq0 : K H.size = 0 := Classical.byContradiction fun z => Nat.lt_irrefl _ (hw.2.2.1.1 _ z).2
  have hd := hw.2.2.1.2.2.1 _ hq0
  have hat : va_at G.1 vwCl (H.size, .inr (12, [.null, .null])) H1 := ⟨_, rfl, (u_born tyX7 hts hin (hw.1.1 12 _ rfl) hkC e1 tyX7_ok).to (fun j hj => by
      match j, hj with
      | 0, _ => rfl
      | 1, _ => rfl
      | n + 2, h => exact absurd h (by show ¬ n + 2 < 2; omega))⟩
  have h9 := (m_fin_N (k := 8) (n := N H.size) hw (by decide) (by decide) (by decide) z1 o1 (fun eb hb => by
    rw [m_ent_8 (m_up_self _ _ _)] at hb
    cases hb
    simp only [hd.1, hd.2.1, va_rf]) hat).2
  rw [m_up_id] at h9
  exact kk H.size H1 hq0 hd h9
theorem m_new_9 (hexec : p.tables.exec = Jvm.exec) (hb : c.code = cc) {own : String} {index : Nat} {Ts : List Cond} (hts : ∀ w ∈ Ts, w.before args s = true) (hin : ∀ w ∈ u_ws RX8 TX8 9, w ∈ Ts) (hown : s.vm.findClass own = some m.cls) (hcl : (Cond.classLink own index RX8).before args s = true) (hinst : (Cond.instantiable RX8 9).before args s = true) (hini : (Cond.initialized RX8).before args s = true) (hw : m_wo G K I R F A N L T J D s H locs) (hcells : cells + 1 ≤ R0.cells) (hslots : slots + 9 ≤ R0.slots) (hdg : decode cc pc = .ok (.new index, 3))
    (kk : ∀ (q : Nat) (H1 : Heap), K q = 0 → ((∀ f, I f q = 0) ∧ (∀ f, R f q = none) ∧ F q = 0 ∧ (∀ j, A q j = 0) ∧ N q = 0 ∧ L q = [] ∧ T q = [] ∧ (∀ j, J q j = 0) ∧ (∀ j, D q j = 0)) → m_wo G (m_up K q 9) I R F A N L T J D s H1 locs → W p l e R0 s m args below meth c H1 locs (cells + 1) (slots + 9) Q (F0 m (pc + 3) ls (.ref q :: rest))) : W p l e R0 s m args below meth c H locs cells slots Q (F0 m pc ls rest) := by
  refine W.newcK hexec hb hown hcl hinst hini rfl hdg hcells hslots (hw.1.1 13 _ rfl).2.1 rfl fun H1 kC hkC e1 z1 o1 => ?_
  have hq0 : K H.size = 0 := Classical.byContradiction fun z => Nat.lt_irrefl _ (hw.2.2.1.1 _ z).2
  have hd := hw.2.2.1.2.2.1 _ hq0
  have hat : va_at G.1 vwCl (H.size, .inr (13, [.null, .null, .null, .null, .null, .null, .null, .null, .null])) H1 := ⟨_, rfl, (u_born tyX8 hts hin (hw.1.1 13 _ rfl) hkC e1 tyX8_ok).to (fun j hj => by
      match j, hj with
      | 0, _ => rfl
      | 1, _ => rfl
      | 2, _ => rfl
      | 3, _ => rfl
      | 4, _ => rfl
      | 5, _ => rfl
      | 6, _ => rfl
      | 7, _ => rfl
      | 8, _ => rfl
      | n + 9, h => exact absurd h (by show ¬ n + 9 < 9; omega))⟩
  have h9 := (m_fin_N (k := 9) (n := N H.size) hw (by decide) (by decide) (by decide) z1 o1 (fun eb hb => by
    rw [m_ent_9 (m_up_self _ _ _)] at hb
    cases hb
    simp only [hd.1, hd.2.1, va_rf]) hat).2
  rw [m_up_id] at h9
  exact kk H.size H1 hq0 hd h9
theorem m_new_10 (hexec : p.tables.exec = Jvm.exec) (hb : c.code = cc) {own : String} {index : Nat} {Ts : List Cond} (hts : ∀ w ∈ Ts, w.before args s = true) (hin : ∀ w ∈ u_ws RX9 TX9 35, w ∈ Ts) (hown : s.vm.findClass own = some m.cls) (hcl : (Cond.classLink own index RX9).before args s = true) (hinst : (Cond.instantiable RX9 35).before args s = true) (hini : (Cond.initialized RX9).before args s = true) (hw : m_wo G K I R F A N L T J D s H locs) (hcells : cells + 1 ≤ R0.cells) (hslots : slots + 35 ≤ R0.slots) (hdg : decode cc pc = .ok (.new index, 3))
    (kk : ∀ (q : Nat) (H1 : Heap), K q = 0 → ((∀ f, I f q = 0) ∧ (∀ f, R f q = none) ∧ F q = 0 ∧ (∀ j, A q j = 0) ∧ N q = 0 ∧ L q = [] ∧ T q = [] ∧ (∀ j, J q j = 0) ∧ (∀ j, D q j = 0)) → m_wo G (m_up K q 10) I R F A N L T J D s H1 locs → W p l e R0 s m args below meth c H1 locs (cells + 1) (slots + 35) Q (F0 m (pc + 3) ls (.ref q :: rest))) : W p l e R0 s m args below meth c H locs cells slots Q (F0 m pc ls rest) := by
  refine W.newcK hexec hb hown hcl hinst hini rfl hdg hcells hslots (hw.1.1 14 _ rfl).2.1 rfl fun H1 kC hkC e1 z1 o1 => ?_
  have hq0 : K H.size = 0 := Classical.byContradiction fun z => Nat.lt_irrefl _ (hw.2.2.1.1 _ z).2
  have hd := hw.2.2.1.2.2.1 _ hq0
  have hat : va_at G.1 vwCl (H.size, .inr (14, [.int 0, .int 0, .int 0, .int 0, .int 0, .int 0, .int 0, .null, .null, .null, .null, .null, .null, .null, .null, .null, .null, .null, .null, .null, .null, .null, .null, .null, .null, .null, .null, .null, .null, .int 0, .int 0, .int 0, .null, .null, .null])) H1 := ⟨_, rfl, (u_born tyX9 hts hin (hw.1.1 14 _ rfl) hkC e1 tyX9_ok).to (fun j hj => by
      match j, hj with
      | 0, _ => rfl
      | 1, _ => rfl
      | 2, _ => rfl
      | 3, _ => rfl
      | 4, _ => rfl
      | 5, _ => rfl
      | 6, _ => rfl
      | 7, _ => rfl
      | 8, _ => rfl
      | 9, _ => rfl
      | 10, _ => rfl
      | 11, _ => rfl
      | 12, _ => rfl
      | 13, _ => rfl
      | 14, _ => rfl
      | 15, _ => rfl
      | 16, _ => rfl
      | 17, _ => rfl
      | 18, _ => rfl
      | 19, _ => rfl
      | 20, _ => rfl
      | 21, _ => rfl
      | 22, _ => rfl
      | 23, _ => rfl
      | 24, _ => rfl
      | 25, _ => rfl
      | 26, _ => rfl
      | 27, _ => rfl
      | 28, _ => rfl
      | 29, _ => rfl
      | 30, _ => rfl
      | 31, _ => rfl
      | 32, _ => rfl
      | 33, _ => rfl
      | 34, _ => rfl
      | n + 35, h => exact absurd h (by show ¬ n + 35 < 35; omega))⟩
  have h9 := (m_fin_N (k := 10) (n := N H.size) hw (by decide) (by decide) (by decide) z1 o1 (fun eb hb => by
    rw [m_ent_10 (m_up_self _ _ _)] at hb
    cases hb
    simp only [hd.1, hd.2.1, va_rf]) hat).2
  rw [m_up_id] at h9
  exact kk H.size H1 hq0 hd h9
theorem m_new_11 (hexec : p.tables.exec = Jvm.exec) (hb : c.code = cc) {own : String} {index : Nat} {Ts : List Cond} (hts : ∀ w ∈ Ts, w.before args s = true) (hin : ∀ w ∈ u_ws RJx4a65c TJx4a65c 3, w ∈ Ts) (hown : s.vm.findClass own = some m.cls) (hcl : (Cond.classLink own index RJx4a65c).before args s = true) (hinst : (Cond.instantiable RJx4a65c 3).before args s = true) (hini : (Cond.initialized RJx4a65c).before args s = true) (hw : m_wo G K I R F A N L T J D s H locs) (hcells : cells + 1 ≤ R0.cells) (hslots : slots + 3 ≤ R0.slots) (hdg : decode cc pc = .ok (.new index, 3))
    (kk : ∀ (q : Nat) (H1 : Heap), K q = 0 → ((∀ f, I f q = 0) ∧ (∀ f, R f q = none) ∧ F q = 0 ∧ (∀ j, A q j = 0) ∧ N q = 0 ∧ L q = [] ∧ T q = [] ∧ (∀ j, J q j = 0) ∧ (∀ j, D q j = 0)) → m_wo G (m_up K q 11) I R F A N L T J D s H1 locs → W p l e R0 s m args below meth c H1 locs (cells + 1) (slots + 3) Q (F0 m (pc + 3) ls (.ref q :: rest))) : W p l e R0 s m args below meth c H locs cells slots Q (F0 m pc ls rest) := by
  refine W.newcK hexec hb hown hcl hinst hini rfl hdg hcells hslots (hw.1.1 4 _ rfl).2.1 rfl fun H1 kC hkC e1 z1 o1 => ?_
  have hq0 : K H.size = 0 := Classical.byContradiction fun z => Nat.lt_irrefl _ (hw.2.2.1.1 _ z).2
  have hd := hw.2.2.1.2.2.1 _ hq0
  have hat : va_at G.1 vwCl (H.size, .inr (4, [.int 0, .null, .int 0])) H1 := ⟨_, rfl, (u_born tyJx4a65c hts hin (hw.1.1 4 _ rfl) hkC e1 tyJx4a65c_ok).to (fun j hj => by
      match j, hj with
      | 0, _ => rfl
      | 1, _ => rfl
      | 2, _ => rfl
      | n + 3, h => exact absurd h (by show ¬ n + 3 < 3; omega))⟩
  have h9 := (m_fin_N (k := 11) (n := N H.size) hw (by decide) (by decide) (by decide) z1 o1 (fun eb hb => by
    rw [m_ent_11 (m_up_self _ _ _)] at hb
    cases hb
    simp only [hd.1, hd.2.1, hd.2.2.1, hd.2.2.2.2.2.1, hd.2.2.2.2.2.2.1, va_rf, List.length_nil, nI_0]) hat).2
  rw [m_up_id] at h9
  exact kk H.size H1 hq0 hd h9
theorem m_new_12 (hexec : p.tables.exec = Jvm.exec) (hb : c.code = cc) {own : String} {index : Nat} {Ts : List Cond} (hts : ∀ w ∈ Ts, w.before args s = true) (hin : ∀ w ∈ u_ws RJ4 TJ4 4, w ∈ Ts) (hown : s.vm.findClass own = some m.cls) (hcl : (Cond.classLink own index RJ4).before args s = true) (hinst : (Cond.instantiable RJ4 4).before args s = true) (hini : (Cond.initialized RJ4).before args s = true) (hw : m_wo G K I R F A N L T J D s H locs) (hcells : cells + 1 ≤ R0.cells) (hslots : slots + 4 ≤ R0.slots) (hdg : decode cc pc = .ok (.new index, 3))
    (kk : ∀ (q : Nat) (H1 : Heap), K q = 0 → ((∀ f, I f q = 0) ∧ (∀ f, R f q = none) ∧ F q = 0 ∧ (∀ j, A q j = 0) ∧ N q = 0 ∧ L q = [] ∧ T q = [] ∧ (∀ j, J q j = 0) ∧ (∀ j, D q j = 0)) → m_wo G (m_up K q 12) I R F A N L T J D s H1 locs → W p l e R0 s m args below meth c H1 locs (cells + 1) (slots + 4) Q (F0 m (pc + 3) ls (.ref q :: rest))) : W p l e R0 s m args below meth c H locs cells slots Q (F0 m pc ls rest) := by
  refine W.newcK hexec hb hown hcl hinst hini rfl hdg hcells hslots (hw.1.1 1 _ rfl).2.1 rfl fun H1 kC hkC e1 z1 o1 => ?_
  have hq0 : K H.size = 0 := Classical.byContradiction fun z => Nat.lt_irrefl _ (hw.2.2.1.1 _ z).2
  have hd := hw.2.2.1.2.2.1 _ hq0
  have hat : va_at G.1 vwCl (H.size, .inr (1, [.null, .int 0, .int 0, .int 0])) H1 := ⟨_, rfl, (u_born tyJ4 hts hin (hw.1.1 1 _ rfl) hkC e1 tyJ4_ok).to (fun j hj => by
      match j, hj with
      | 0, _ => rfl
      | 1, _ => rfl
      | 2, _ => rfl
      | 3, _ => rfl
      | n + 4, h => exact absurd h (by show ¬ n + 4 < 4; omega))⟩
  have h9 := (m_fin_N (k := 12) (n := N H.size) hw (by decide) (by decide) (by decide) z1 o1 (fun eb hb => by
    rw [m_ent_12 (m_up_self _ _ _)] at hb
    cases hb
    simp only [hd.1, hd.2.1, hd.2.2.1, hd.2.2.2.2.2.1, hd.2.2.2.2.2.2.1, va_rf, List.length_nil, nI_0]) hat).2
  rw [m_up_id] at h9
  exact kk H.size H1 hq0 hd h9
theorem m_newa_20 (hexec : p.tables.exec = Jvm.exec) (hb : c.code = cc) (harr : (Cond.arrayClass (newarray.typeOf .int)).before args s = true) (hw : m_wo G K I R F A N L T J D s H locs) {n : Int32} {N' : Nat} (hn : ¬ n < 0) (hN : n.toNatClampNeg = N') (hN9 : N' ≤ 1000) (hcells : cells + 1 ≤ R0.cells) (hslots : slots + N' ≤ R0.slots) (hdg : decode cc pc = .ok (.newarray .int, 2))
    (kk : ∀ (q : Nat) (H1 : Heap), K q = 0 → ((∀ f, I f q = 0) ∧ (∀ f, R f q = none) ∧ F q = 0 ∧ (∀ j, A q j = 0) ∧ N q = 0 ∧ L q = [] ∧ T q = [] ∧ (∀ j, J q j = 0) ∧ (∀ j, D q j = 0)) → m_wo G (m_up K q 20) I R F A (m_up N q N') L T J D s H1 locs → W p l e R0 s m args below meth c H1 locs (cells + 1) (slots + N') Q (F0 m (pc + 2) ls (.ref q :: rest))) : W p l e R0 s m args below meth c H locs cells slots Q (F0 m pc ls (.int n :: rest)) := by
  refine va_newaK hexec hb harr rfl hdg rfl hn hN (Nat.le_trans (Nat.mul_le_mul_right _ hN9) (by decide)) hcells hslots rfl fun H1 cA e1 z1 o1 hAr hNm => ?_
  have hcA : cA = G.2.1 0 := Option.some.inj (hNm.symm.trans (hw.1.2 0 _ rfl).2)
  subst hcA
  have hq0 : K H.size = 0 := Classical.byContradiction fun z => Nat.lt_irrefl _ (hw.2.2.1.1 _ z).2
  have hd := hw.2.2.1.2.2.1 _ hq0
  have hat : va_at G.1 vwCl (H.size, .inl (G.2.1 0, (N', .inl (fun _ => 0)))) H1 := by
    show H1[H.size]? = some (vp_cell _ _)
    rw [vp_cell_i]
    exact e1
  refine kk H.size H1 hq0 hd (m_fin_N (k := 20) (n := N') hw (by decide) (by decide) (by decide) z1 o1 (fun eb hb => ?_) hat).2
  rw [m_ent_20 (m_up_self _ _ _), m_up_self, show A H.size = (fun _ => 0) from funext hd.2.2.2.1] at hb
  cases hb
  rfl
theorem m_newa_21 (hexec : p.tables.exec = Jvm.exec) (hb : c.code = cc) (harr : (Cond.arrayClass (newarray.typeOf .int)).before args s = true) (hw : m_wo G K I R F A N L T J D s H locs) {n : Int32} {N' : Nat} (hn : ¬ n < 0) (hN : n.toNatClampNeg = N') (hN9 : N' ≤ 1000) (hcells : cells + 1 ≤ R0.cells) (hslots : slots + N' ≤ R0.slots) (hdg : decode cc pc = .ok (.newarray .int, 2))
    (kk : ∀ (q : Nat) (H1 : Heap), K q = 0 → ((∀ f, I f q = 0) ∧ (∀ f, R f q = none) ∧ F q = 0 ∧ (∀ j, A q j = 0) ∧ N q = 0 ∧ L q = [] ∧ T q = [] ∧ (∀ j, J q j = 0) ∧ (∀ j, D q j = 0)) → m_wo G (m_up K q 21) I R F A (m_up N q N') L T J D s H1 locs → W p l e R0 s m args below meth c H1 locs (cells + 1) (slots + N') Q (F0 m (pc + 2) ls (.ref q :: rest))) : W p l e R0 s m args below meth c H locs cells slots Q (F0 m pc ls (.int n :: rest)) := by
  refine va_newaK hexec hb harr rfl hdg rfl hn hN (Nat.le_trans (Nat.mul_le_mul_right _ hN9) (by decide)) hcells hslots rfl fun H1 cA e1 z1 o1 hAr hNm => ?_
  have hcA : cA = G.2.1 0 := Option.some.inj (hNm.symm.trans (hw.1.2 0 _ rfl).2)
  subst hcA
  have hq0 : K H.size = 0 := Classical.byContradiction fun z => Nat.lt_irrefl _ (hw.2.2.1.1 _ z).2
  have hd := hw.2.2.1.2.2.1 _ hq0
  have hat : va_at G.1 vwCl (H.size, .inl (G.2.1 0, (N', .inl (fun _ => 0)))) H1 := by
    show H1[H.size]? = some (vp_cell _ _)
    rw [vp_cell_i]
    exact e1
  refine kk H.size H1 hq0 hd (m_fin_N (k := 21) (n := N') hw (by decide) (by decide) (by decide) z1 o1 (fun eb hb => ?_) hat).2
  rw [m_ent_21 (m_up_self _ _ _), m_up_self, show A H.size = (fun _ => 0) from funext hd.2.2.2.1] at hb
  cases hb
  rfl
theorem m_newa_22 (hexec : p.tables.exec = Jvm.exec) (hb : c.code = cc) (harr : (Cond.arrayClass (newarray.typeOf .int)).before args s = true) (hw : m_wo G K I R F A N L T J D s H locs) {n : Int32} {N' : Nat} (hn : ¬ n < 0) (hN : n.toNatClampNeg = N') (hN9 : N' ≤ 1000) (hcells : cells + 1 ≤ R0.cells) (hslots : slots + N' ≤ R0.slots) (hdg : decode cc pc = .ok (.newarray .int, 2))
    (kk : ∀ (q : Nat) (H1 : Heap), K q = 0 → ((∀ f, I f q = 0) ∧ (∀ f, R f q = none) ∧ F q = 0 ∧ (∀ j, A q j = 0) ∧ N q = 0 ∧ L q = [] ∧ T q = [] ∧ (∀ j, J q j = 0) ∧ (∀ j, D q j = 0)) → m_wo G (m_up K q 22) I R F A (m_up N q N') L T J D s H1 locs → W p l e R0 s m args below meth c H1 locs (cells + 1) (slots + N') Q (F0 m (pc + 2) ls (.ref q :: rest))) : W p l e R0 s m args below meth c H locs cells slots Q (F0 m pc ls (.int n :: rest)) := by
  refine va_newaK hexec hb harr rfl hdg rfl hn hN (Nat.le_trans (Nat.mul_le_mul_right _ hN9) (by decide)) hcells hslots rfl fun H1 cA e1 z1 o1 hAr hNm => ?_
  have hcA : cA = G.2.1 0 := Option.some.inj (hNm.symm.trans (hw.1.2 0 _ rfl).2)
  subst hcA
  have hq0 : K H.size = 0 := Classical.byContradiction fun z => Nat.lt_irrefl _ (hw.2.2.1.1 _ z).2
  have hd := hw.2.2.1.2.2.1 _ hq0
  have hat : va_at G.1 vwCl (H.size, .inl (G.2.1 0, (N', .inl (fun _ => 0)))) H1 := by
    show H1[H.size]? = some (vp_cell _ _)
    rw [vp_cell_i]
    exact e1
  refine kk H.size H1 hq0 hd (m_fin_N (k := 22) (n := N') hw (by decide) (by decide) (by decide) z1 o1 (fun eb hb => ?_) hat).2
  rw [m_ent_22 (m_up_self _ _ _), m_up_self, show A H.size = (fun _ => 0) from funext hd.2.2.2.1] at hb
  cases hb
  rfl
theorem m_newa_23 (hexec : p.tables.exec = Jvm.exec) (hb : c.code = cc) (harr : (Cond.arrayClass (newarray.typeOf .int)).before args s = true) (hw : m_wo G K I R F A N L T J D s H locs) {n : Int32} {N' : Nat} (hn : ¬ n < 0) (hN : n.toNatClampNeg = N') (hN9 : N' ≤ 1000) (hcells : cells + 1 ≤ R0.cells) (hslots : slots + N' ≤ R0.slots) (hdg : decode cc pc = .ok (.newarray .int, 2))
    (kk : ∀ (q : Nat) (H1 : Heap), K q = 0 → ((∀ f, I f q = 0) ∧ (∀ f, R f q = none) ∧ F q = 0 ∧ (∀ j, A q j = 0) ∧ N q = 0 ∧ L q = [] ∧ T q = [] ∧ (∀ j, J q j = 0) ∧ (∀ j, D q j = 0)) → m_wo G (m_up K q 23) I R F A (m_up N q N') L T J D s H1 locs → W p l e R0 s m args below meth c H1 locs (cells + 1) (slots + N') Q (F0 m (pc + 2) ls (.ref q :: rest))) : W p l e R0 s m args below meth c H locs cells slots Q (F0 m pc ls (.int n :: rest)) := by
  refine va_newaK hexec hb harr rfl hdg rfl hn hN (Nat.le_trans (Nat.mul_le_mul_right _ hN9) (by decide)) hcells hslots rfl fun H1 cA e1 z1 o1 hAr hNm => ?_
  have hcA : cA = G.2.1 0 := Option.some.inj (hNm.symm.trans (hw.1.2 0 _ rfl).2)
  subst hcA
  have hq0 : K H.size = 0 := Classical.byContradiction fun z => Nat.lt_irrefl _ (hw.2.2.1.1 _ z).2
  have hd := hw.2.2.1.2.2.1 _ hq0
  have hat : va_at G.1 vwCl (H.size, .inl (G.2.1 0, (N', .inl (fun _ => 0)))) H1 := by
    show H1[H.size]? = some (vp_cell _ _)
    rw [vp_cell_i]
    exact e1
  refine kk H.size H1 hq0 hd (m_fin_N (k := 23) (n := N') hw (by decide) (by decide) (by decide) z1 o1 (fun eb hb => ?_) hat).2
  rw [m_ent_23 (m_up_self _ _ _), m_up_self, show A H.size = (fun _ => 0) from funext hd.2.2.2.1] at hb
  cases hb
  rfl
theorem m_newa_24 (hexec : p.tables.exec = Jvm.exec) (hb : c.code = cc) (harr : (Cond.arrayClass (newarray.typeOf .int)).before args s = true) (hw : m_wo G K I R F A N L T J D s H locs) {n : Int32} {N' : Nat} (hn : ¬ n < 0) (hN : n.toNatClampNeg = N') (hN9 : N' ≤ 1000) (hcells : cells + 1 ≤ R0.cells) (hslots : slots + N' ≤ R0.slots) (hdg : decode cc pc = .ok (.newarray .int, 2))
    (kk : ∀ (q : Nat) (H1 : Heap), K q = 0 → ((∀ f, I f q = 0) ∧ (∀ f, R f q = none) ∧ F q = 0 ∧ (∀ j, A q j = 0) ∧ N q = 0 ∧ L q = [] ∧ T q = [] ∧ (∀ j, J q j = 0) ∧ (∀ j, D q j = 0)) → m_wo G (m_up K q 24) I R F A (m_up N q N') L T J D s H1 locs → W p l e R0 s m args below meth c H1 locs (cells + 1) (slots + N') Q (F0 m (pc + 2) ls (.ref q :: rest))) : W p l e R0 s m args below meth c H locs cells slots Q (F0 m pc ls (.int n :: rest)) := by
  refine va_newaK hexec hb harr rfl hdg rfl hn hN (Nat.le_trans (Nat.mul_le_mul_right _ hN9) (by decide)) hcells hslots rfl fun H1 cA e1 z1 o1 hAr hNm => ?_
  have hcA : cA = G.2.1 0 := Option.some.inj (hNm.symm.trans (hw.1.2 0 _ rfl).2)
  subst hcA
  have hq0 : K H.size = 0 := Classical.byContradiction fun z => Nat.lt_irrefl _ (hw.2.2.1.1 _ z).2
  have hd := hw.2.2.1.2.2.1 _ hq0
  have hat : va_at G.1 vwCl (H.size, .inl (G.2.1 0, (N', .inl (fun _ => 0)))) H1 := by
    show H1[H.size]? = some (vp_cell _ _)
    rw [vp_cell_i]
    exact e1
  refine kk H.size H1 hq0 hd (m_fin_N (k := 24) (n := N') hw (by decide) (by decide) (by decide) z1 o1 (fun eb hb => ?_) hat).2
  rw [m_ent_24 (m_up_self _ _ _), m_up_self, show A H.size = (fun _ => 0) from funext hd.2.2.2.1] at hb
  cases hb
  rfl
theorem m_newa_30 (hexec : p.tables.exec = Jvm.exec) (hb : c.code = cc) (harr : (Cond.arrayClass (newarray.typeOf .boolean)).before args s = true) (hw : m_wo G K I R F A N L T J D s H locs) {n : Int32} {N' : Nat} (hn : ¬ n < 0) (hN : n.toNatClampNeg = N') (hN9 : N' ≤ 1000) (hcells : cells + 1 ≤ R0.cells) (hslots : slots + N' ≤ R0.slots) (hdg : decode cc pc = .ok (.newarray .boolean, 2))
    (kk : ∀ (q : Nat) (H1 : Heap), K q = 0 → ((∀ f, I f q = 0) ∧ (∀ f, R f q = none) ∧ F q = 0 ∧ (∀ j, A q j = 0) ∧ N q = 0 ∧ L q = [] ∧ T q = [] ∧ (∀ j, J q j = 0) ∧ (∀ j, D q j = 0)) → m_wo G (m_up K q 30) I R F A (m_up N q N') L T J D s H1 locs → W p l e R0 s m args below meth c H1 locs (cells + 1) (slots + N') Q (F0 m (pc + 2) ls (.ref q :: rest))) : W p l e R0 s m args below meth c H locs cells slots Q (F0 m pc ls (.int n :: rest)) := by
  refine va_newaK hexec hb harr rfl hdg rfl hn hN (Nat.le_trans (Nat.mul_le_mul_right _ hN9) (by decide)) hcells hslots rfl fun H1 cA e1 z1 o1 hAr hNm => ?_
  have hcA : cA = G.2.1 1 := Option.some.inj (hNm.symm.trans (hw.1.2 1 _ rfl).2)
  subst hcA
  have hq0 : K H.size = 0 := Classical.byContradiction fun z => Nat.lt_irrefl _ (hw.2.2.1.1 _ z).2
  have hd := hw.2.2.1.2.2.1 _ hq0
  have hat : va_at G.1 vwCl (H.size, .inl (G.2.1 1, (N', .inl (fun _ => 0)))) H1 := by
    show H1[H.size]? = some (vp_cell _ _)
    rw [vp_cell_i]
    exact e1
  refine kk H.size H1 hq0 hd (m_fin_N (k := 30) (n := N') hw (by decide) (by decide) (by decide) z1 o1 (fun eb hb => ?_) hat).2
  rw [m_ent_30 (m_up_self _ _ _), m_up_self, show A H.size = (fun _ => 0) from funext hd.2.2.2.1] at hb
  cases hb
  rfl
theorem m_newa_34 (hexec : p.tables.exec = Jvm.exec) (hb : c.code = cc) (harr : (Cond.arrayClass (newarray.typeOf .char)).before args s = true) (hw : m_wo G K I R F A N L T J D s H locs) {n : Int32} {N' : Nat} (hn : ¬ n < 0) (hN : n.toNatClampNeg = N') (hN9 : N' ≤ 1000) (hcells : cells + 1 ≤ R0.cells) (hslots : slots + N' ≤ R0.slots) (hdg : decode cc pc = .ok (.newarray .char, 2))
    (kk : ∀ (q : Nat) (H1 : Heap), K q = 0 → ((∀ f, I f q = 0) ∧ (∀ f, R f q = none) ∧ F q = 0 ∧ (∀ j, A q j = 0) ∧ N q = 0 ∧ L q = [] ∧ T q = [] ∧ (∀ j, J q j = 0) ∧ (∀ j, D q j = 0)) → m_wo G (m_up K q 34) I R F A (m_up N q N') L T J D s H1 locs → W p l e R0 s m args below meth c H1 locs (cells + 1) (slots + N') Q (F0 m (pc + 2) ls (.ref q :: rest))) : W p l e R0 s m args below meth c H locs cells slots Q (F0 m pc ls (.int n :: rest)) := by
  refine va_newaK hexec hb harr rfl hdg rfl hn hN (Nat.le_trans (Nat.mul_le_mul_right _ hN9) (by decide)) hcells hslots rfl fun H1 cA e1 z1 o1 hAr hNm => ?_
  have hcA : cA = G.2.1 2 := Option.some.inj (hNm.symm.trans (hw.1.2 2 _ rfl).2)
  subst hcA
  have hq0 : K H.size = 0 := Classical.byContradiction fun z => Nat.lt_irrefl _ (hw.2.2.1.1 _ z).2
  have hd := hw.2.2.1.2.2.1 _ hq0
  have hat : va_at G.1 vwCl (H.size, .inl (G.2.1 2, (N', .inl (fun _ => 0)))) H1 := by
    show H1[H.size]? = some (vp_cell _ _)
    rw [vp_cell_i]
    exact e1
  refine kk H.size H1 hq0 hd (m_fin_N (k := 34) (n := N') hw (by decide) (by decide) (by decide) z1 o1 (fun eb hb => ?_) hat).2
  rw [m_ent_34 (m_up_self _ _ _), m_up_self, show A H.size = (fun _ => 0) from funext hd.2.2.2.1] at hb
  cases hb
  rfl
theorem m_newa_35 (hexec : p.tables.exec = Jvm.exec) (hb : c.code = cc) (harr : (Cond.arrayClass (newarray.typeOf .long)).before args s = true) (hw : m_wo G K I R F A N L T J D s H locs) {n : Int32} {N' : Nat} (hn : ¬ n < 0) (hN : n.toNatClampNeg = N') (hN9 : N' ≤ 1000) (hcells : cells + 1 ≤ R0.cells) (hslots : slots + N' ≤ R0.slots) (hdg : decode cc pc = .ok (.newarray .long, 2))
    (kk : ∀ (q : Nat) (H1 : Heap), K q = 0 → ((∀ f, I f q = 0) ∧ (∀ f, R f q = none) ∧ F q = 0 ∧ (∀ j, A q j = 0) ∧ N q = 0 ∧ L q = [] ∧ T q = [] ∧ (∀ j, J q j = 0) ∧ (∀ j, D q j = 0)) → m_wo G (m_up K q 35) I R F A (m_up N q N') L T J D s H1 locs → W p l e R0 s m args below meth c H1 locs (cells + 1) (slots + N') Q (F0 m (pc + 2) ls (.ref q :: rest))) : W p l e R0 s m args below meth c H locs cells slots Q (F0 m pc ls (.int n :: rest)) := by
  refine va_newaK hexec hb harr rfl hdg rfl hn hN (Nat.le_trans (Nat.mul_le_mul_right _ hN9) (by decide)) hcells hslots rfl fun H1 cA e1 z1 o1 hAr hNm => ?_
  have hcA : cA = G.2.1 3 := Option.some.inj (hNm.symm.trans (hw.1.2 3 _ rfl).2)
  subst hcA
  have hq0 : K H.size = 0 := Classical.byContradiction fun z => Nat.lt_irrefl _ (hw.2.2.1.1 _ z).2
  have hd := hw.2.2.1.2.2.1 _ hq0
  have hat : va_at G.1 vwCl (H.size, .inl (G.2.1 3, (N', .inr (.inl (fun _ => 0))))) H1 := by
    show H1[H.size]? = some (vp_cell _ _)
    rw [vp_cell_l]
    exact e1
  refine kk H.size H1 hq0 hd (m_fin_N (k := 35) (n := N') hw (by decide) (by decide) (by decide) z1 o1 (fun eb hb => ?_) hat).2
  rw [m_ent_35 (m_up_self _ _ _), m_up_self, show J H.size = (fun _ => 0) from funext hd.2.2.2.2.2.2.2.1] at hb
  cases hb
  rfl
theorem m_newa_36 (hexec : p.tables.exec = Jvm.exec) (hb : c.code = cc) (harr : (Cond.arrayClass (newarray.typeOf .double)).before args s = true) (hw : m_wo G K I R F A N L T J D s H locs) {n : Int32} {N' : Nat} (hn : ¬ n < 0) (hN : n.toNatClampNeg = N') (hN9 : N' ≤ 1000) (hcells : cells + 1 ≤ R0.cells) (hslots : slots + N' ≤ R0.slots) (hdg : decode cc pc = .ok (.newarray .double, 2))
    (kk : ∀ (q : Nat) (H1 : Heap), K q = 0 → ((∀ f, I f q = 0) ∧ (∀ f, R f q = none) ∧ F q = 0 ∧ (∀ j, A q j = 0) ∧ N q = 0 ∧ L q = [] ∧ T q = [] ∧ (∀ j, J q j = 0) ∧ (∀ j, D q j = 0)) → m_wo G (m_up K q 36) I R F A (m_up N q N') L T J D s H1 locs → W p l e R0 s m args below meth c H1 locs (cells + 1) (slots + N') Q (F0 m (pc + 2) ls (.ref q :: rest))) : W p l e R0 s m args below meth c H locs cells slots Q (F0 m pc ls (.int n :: rest)) := by
  refine va_newaK hexec hb harr rfl hdg rfl hn hN (Nat.le_trans (Nat.mul_le_mul_right _ hN9) (by decide)) hcells hslots rfl fun H1 cA e1 z1 o1 hAr hNm => ?_
  have hcA : cA = G.2.1 4 := Option.some.inj (hNm.symm.trans (hw.1.2 4 _ rfl).2)
  subst hcA
  have hq0 : K H.size = 0 := Classical.byContradiction fun z => Nat.lt_irrefl _ (hw.2.2.1.1 _ z).2
  have hd := hw.2.2.1.2.2.1 _ hq0
  have hat : va_at G.1 vwCl (H.size, .inl (G.2.1 4, (N', .inr (.inr (.inr (.inl (fun _ => 0))))))) H1 := by
    show H1[H.size]? = some (vp_cell _ _)
    rw [vp_cell_d]
    exact e1
  refine kk H.size H1 hq0 hd (m_fin_N (k := 36) (n := N') hw (by decide) (by decide) (by decide) z1 o1 (fun eb hb => ?_) hat).2
  rw [m_ent_36 (m_up_self _ _ _), m_up_self, show D H.size = (fun _ => 0) from funext hd.2.2.2.2.2.2.2.2] at hb
  cases hb
  rfl
end MJ2
