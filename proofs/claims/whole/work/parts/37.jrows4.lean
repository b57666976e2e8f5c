section MJ4
variable {p : Program} {l : Launch} {e : Env} {R0 : Room} {s : State} {m : MethodId} {args : Array Value} {below : List Frame} {meth : Method} {c : Code} {H : Heap} {locs : List Loc} {cells slots : Nat} {Q : State → Prop} {cc : ByteArray} {pc : Nat} {ls : Array Slot} {rest : List Value} {G : mG} {K : Nat → Nat} {I : Nat → Nat → Int32} {R : Nat → Nat → Option Nat} {F : Nat → UInt32} {A : Nat → Nat → Int32} {N : Nat → Nat} {L : Nat → List Nat} {T : Nat → List Int32} {J : Nat → Nat → Int64} {D : Nat → Nat → UInt64}
/-- what a text stands on -/
theorem m_text {o : Nat} (hw : m_wo G K I R F A N L T J D s H locs) (hk : K o = 12) (hr : R 120 o ≠ none) : ∃ e1, R 120 o = some e1 ∧ K e1 = 41 ∧ R 99 e1 = some o ∧ (T o).length ≤ N e1 ∧ 16 ≤ N e1 ∧ N e1 ≤ 1000 ∧ ∀ j, j < (T o).length → ∃ ch : Nat, ch < 256 ∧ (T o)[j]? = some (nI ch) ∧ A e1 j = sb_b ch := by
  rcases hw.2.2.1.2.2.2.2.2.1 o hk with h | h
  · exact absurd h.1 hr
  · exact h
theorem m_fin_T {o e1 : Nat} {t' : List Int32} {f' : Nat → Int32} {H1 : Heap} {locs1 : List Loc} (hw : m_wo G K I R F A N L T J D s H locs) (hk : K o = 12) (hr : R 120 o = some e1) (he : K e1 = 41) (ho : R 99 e1 = some o) (hn : t'.length ≤ N e1) (h16 : 16 ≤ N e1) (h1k : N e1 ≤ 1000) (ht : ∀ j, j < t'.length → ∃ ch : Nat, ch < 256 ∧ t'[j]? = some (nI ch) ∧ f' j = sb_b ch) (hs : H1.size = H.size) (hq : ∀ q : Nat, q ≠ o → q ≠ e1 → H1[q]? = H[q]?) (hL : ∀ q ∈ locs1, G.2.2.1 ≤ q.base)
    (hat : va_at G.1 vwCl (o, .inr (1, [va_rf (some e1), .int 0, .int (I 121 o), .int (nI t'.length)])) H1) (hae : va_at G.1 vwCl (e1, .inl (G.2.1 6, (N e1, .inl f'))) H1) : m_wo G K I R F (m_up A e1 f') N L (m_up T o t') J D s H1 locs1 := by
  have hne : e1 ≠ o := fun z => by rw [z, hk] at he; exact absurd he (by decide)
  refine m_fin hw [o, e1] (by omega) (fun q _ b => hq q (fun z => b (by simp [z])) (fun z => b (by simp [z]))) (fun q hq9 => ?_) hL (fun b hb => Or.inl hb) (fun b eb hb => ?_) ?_
  · rcases List.mem_cons.mp hq9 with h | h
    · rw [h]; exact (hw.2.2.1.1 o (by rw [hk]; decide)).1
    · rw [List.mem_singleton.mp h]; exact (hw.2.2.1.1 e1 (by rw [he]; decide)).1
  · by_cases h1 : b = o
    · subst h1
      rw [m_ent_12 hk, m_up_self, hr] at hb
      cases hb
      exact Or.inr hat
    · by_cases h2 : b = e1
      · subst h2
        rw [m_ent_41 he, m_up_self] at hb
        cases hb
        exact Or.inr hae
      · refine Or.inl ⟨by simp [h1, h2], ?_⟩
        rw [← hb]
        exact (m_ent_same rfl (fun _ => rfl) (fun _ => rfl) rfl (m_up_ne _ _ h2) rfl rfl (m_up_ne _ _ h1) rfl rfl (fun _ => rfl)).symm
  · obtain ⟨p1, p2, p3, p4, p5⟩ := m_wo_pu hw
    refine ⟨fun b hb => ?_, p2, p3, fun b hb => ?_, p5⟩
    · obtain ⟨a1, a2, a3, a4, a5, a6, a7, a8⟩ := p1 b hb
      exact ⟨a1, a2, a3, fun j => (congrFun (m_up_ne _ _ (fun z => by rw [z, he] at hb; exact absurd hb (by decide))) j).trans (a4 j), a5, a6, (m_up_ne _ _ (fun z => by rw [z, hk] at hb; exact absurd hb (by decide))).trans a7, a8⟩
    · by_cases h1 : b = o
      · subst h1
        exact Or.inr ⟨e1, hr, he, ho, by rw [m_up_self]; exact hn, h16, h1k, by rw [m_up_self, m_up_self]; exact ht⟩
      · rw [show m_up T o t' b = T b from m_up_ne _ _ h1]
        refine (p4 b hb).imp id (fun ⟨e2, b1, b2, b3, b4, b5, b6, b7⟩ => ⟨e2, b1, b2, b3, b4, b5, b6, ?_⟩)
        rw [show m_up A e1 f' e2 = A e2 from m_up_ne _ _ (fun z => by rw [z, ho] at b3; exact h1 (Option.some.inj b3).symm)]
        exact b7
/-- the text is empty -/
theorem m_fin_T0 {o k9 : Nat} {H1 : Heap} (hw : m_wo G K I R F A N L T J D s H locs) (hk : K o = 12) (hs : H1.size = H.size) (hq : ∀ q : Nat, q ≠ o → H1[q]? = H[q]?) (hat : va_at G.1 vwCl (o, .inr (1, [va_rf (R 120 o), .int 0, .int (I 121 o), .int (nI 0)])) H1) : m_wo G K I R F A N L (m_up T o []) J D s H1 (locs ++ [⟨o, k9⟩]) := by
  have hoA := (hw.2.2.1.1 o (by rw [hk]; decide)).1
  refine m_fin hw [o] (by omega) (fun q _ b => hq q (fun z => b (by simp [z]))) (fun q hq9 => by rw [List.mem_singleton.mp hq9]; exact hoA) (fun q hq9 => ?_) (fun b hb => Or.inl hb) (fun b eb hb => ?_) ?_
  · rcases List.mem_append.mp hq9 with h | h
    · exact hw.2.2.2.1.2.2 q h
    · rw [List.mem_singleton.mp h]; exact hoA
  · by_cases h1 : b = o
    · subst h1
      rw [m_ent_12 hk, m_up_self] at hb
      cases hb
      exact Or.inr hat
    · refine Or.inl ⟨by simp [h1], ?_⟩
      rw [← hb]
      exact (m_ent_same rfl (fun _ => rfl) (fun _ => rfl) rfl rfl rfl rfl (m_up_ne _ _ h1) rfl rfl (fun _ => rfl)).symm
  · obtain ⟨p1, p2, p3, p4, p5⟩ := m_wo_pu hw
    refine ⟨fun b hb => ?_, p2, p3, fun b hb => ?_, p5⟩
    · obtain ⟨a1, a2, a3, a4, a5, a6, a7, a8⟩ := p1 b hb
      exact ⟨a1, a2, a3, a4, a5, a6, (m_up_ne _ _ (fun z => by rw [z, hk] at hb; exact absurd hb (by decide))).trans a7, a8⟩
    · by_cases h1 : b = o
      · subst h1
        rw [m_up_self]
        exact (p4 b hb).imp (fun h => ⟨h.1, rfl⟩) (fun ⟨e2, b1, b2, b3, b4, b5, b6, b7⟩ => ⟨e2, b1, b2, b3, Nat.zero_le _, b5, b6, fun j hj => absurd hj (Nat.not_lt_zero _)⟩)
      · rw [show m_up T o [] b = T b from m_up_ne _ _ h1]
        exact p4 b hb
/-- a new text takes its bytes -/
theorem m_fin_TI {o q : Nat} {H1 : Heap} {locs1 : List Loc} (hw : m_wo G K I R F A N L T J D s H locs) (hk : K o = 12) (hr : R 120 o = none) (hl : T o = []) (hq0 : K q = 0) (hqA : G.2.2.1 ≤ q ∧ q < H1.size) (hs : H.size ≤ H1.size) (hq : ∀ b : Nat, b < H.size → b ≠ o → b ≠ q → H1[b]? = H[b]?) (hL : ∀ q ∈ locs1, G.2.2.1 ≤ q.base)
    (hat : va_at G.1 vwCl (o, .inr (1, [va_rf (some q), .int 0, .int (I 121 o), .int (nI (T o).length)])) H1) (hae : va_at G.1 vwCl (q, .inl (G.2.1 6, (16, .inl (fun _ => 0)))) H1) : m_wo G (m_up K q 41) I (m_up2 (m_up2 R 99 q (some o)) 120 o (some q)) F A (m_up N q 16) L T J D s H1 locs1 := by
  have hqo : q ≠ o := fun z => by rw [z, hk] at hq0; exact absurd hq0 (by decide)
  have hoA := (hw.2.2.1.1 o (by rw [hk]; decide)).1
  obtain ⟨p1, p2, p3, p4, p5⟩ := m_wo_pu hw
  have hd := p1 q hq0
  have kq : m_up K q 41 q = 41 := m_up_self _ _ _
  have kb : ∀ b, b ≠ q → m_up K q 41 b = K b := fun b h => m_up_ne _ _ h
  have ne : ∀ b j, K b = j → j ≠ 0 → b ≠ q := fun b j hb hj z => by rw [z, hq0] at hb; exact hj hb.symm
  have r1 : ∀ f b, f ≠ 99 → f ≠ 120 → m_up2 (m_up2 R 99 q (some o)) 120 o (some q) f b = R f b := fun f b h1 h2 => by rw [m_up2_ni _ _ h2, m_up2_ni _ _ h1]
  have r2 : ∀ f b, b ≠ q → b ≠ o → m_up2 (m_up2 R 99 q (some o)) 120 o (some q) f b = R f b := fun f b h1 h2 => by rw [m_up2_ne _ _ h2, m_up2_ne _ _ h1]
  have r99 : ∀ b, b ≠ q → m_up2 (m_up2 R 99 q (some o)) 120 o (some q) 99 b = R 99 b := fun b h => by rw [m_up2_ni _ _ (by decide), m_up2_ne _ _ h]
  have r99q : m_up2 (m_up2 R 99 q (some o)) 120 o (some q) 99 q = some o := by rw [m_up2_ni _ _ (by decide), m_up2_self]
  have r120o : m_up2 (m_up2 R 99 q (some o)) 120 o (some q) 120 o = some q := m_up2_self _ _ _ _
  refine m_fin hw [o, q] hs (fun b h1 h2 => hq b h1 (fun z => h2 (by simp [z])) (fun z => h2 (by simp [z]))) (fun b hb => ?_) hL (fun b hb => ?_) (fun b eb hb => ?_) ?_
  · rcases List.mem_cons.mp hb with h | h
    · rw [h]; exact hoA
    · rw [List.mem_singleton.mp h]; exact hqA.1
  · by_cases h1 : b = q
    · rw [h1]; exact Or.inr hqA
    · rw [kb b h1] at hb; exact Or.inl hb
  · by_cases h1 : b = q
    · subst h1
      rw [m_ent_41 kq, m_up_self, show A b = (fun _ => 0) from funext hd.2.2.2.1] at hb
      cases hb
      exact Or.inr hae
    · by_cases h2 : b = o
      · subst h2
        rw [m_ent_12 ((kb b h1).trans hk), r120o] at hb
        cases hb
        exact Or.inr hat
      · refine Or.inl ⟨by simp [h1, h2], ?_⟩
        rw [← hb]
        exact (m_ent_same (kb b h1) (fun _ => rfl) (fun f => r2 f b h1 h2) rfl rfl (m_up_ne _ _ h1) rfl rfl rfl rfl (fun _ => rfl)).symm
  · refine ⟨fun b hb => ?_, fun b hb => ?_, fun b hb => ?_, fun b hb => ?_, fun b hb => ?_⟩
    · by_cases h1 : b = q
      · rw [h1, kq] at hb; exact absurd hb (by decide)
      · rw [kb b h1] at hb
        obtain ⟨a1, a2, a3, a4, a5, a6⟩ := p1 b hb
        exact ⟨a1, fun f => (r2 f b h1 (fun z => by rw [z, hk] at hb; exact absurd hb (by decide))).trans (a2 f), a3, a4, (m_up_ne _ _ h1).trans a5, a6⟩
    · by_cases h1 : b = q
      · rw [h1, kq] at hb; exact absurd hb (by decide)
      · rw [kb b h1] at hb
        rw [r1 111 b (by decide) (by decide)]
        rcases p2 b hb with h | h | ⟨e, b1, b2, b3, b4⟩
        · exact Or.inl h
        · exact Or.inr (Or.inl h)
        · have e1 := ne e 40 b2 (by decide)
          exact Or.inr (Or.inr ⟨e, b1, (kb e e1).trans b2, (r99 e e1).trans b3, by rw [m_up_ne _ _ e1]; exact b4⟩)
    · by_cases h1 : b = q
      · rw [h1, kq] at hb; exact absurd hb (by decide)
      · rw [kb b h1] at hb
        obtain ⟨o2, b1, b2, b3⟩ := p3 b hb
        exact ⟨o2, (r99 b h1).trans b1, (kb o2 (ne o2 11 b2 (by decide))).trans b2, (r1 111 o2 (by decide) (by decide)).trans b3⟩
    · by_cases h1 : b = q
      · rw [h1, kq] at hb; exact absurd hb (by decide)
      · rw [kb b h1] at hb
        by_cases h2 : b = o
        · subst h2
          exact Or.inr ⟨q, r120o, kq, r99q, by rw [hl]; exact Nat.zero_le _, by rw [m_up_self]; exact Nat.le_refl _, by rw [m_up_self]; decide, fun j hj => by rw [hl] at hj; exact absurd hj (Nat.not_lt_zero _)⟩
        · rw [r2 120 b h1 h2]
          refine (p4 b hb).imp id (fun ⟨e, a1, a2, a3, a4, a5, a6, a7⟩ => ?_)
          have e1 := ne e 41 a2 (by decide)
          exact ⟨e, a1, (kb e e1).trans a2, (r99 e e1).trans a3, by rw [m_up_ne _ _ e1]; exact a4, by rw [m_up_ne _ _ e1]; exact a5, by rw [m_up_ne _ _ e1]; exact a6, a7⟩
    · by_cases h1 : b = q
      · subst h1; exact ⟨o, r99q, (kb o (Ne.symm hqo)).trans hk⟩
      · rw [kb b h1] at hb
        obtain ⟨o2, b1, b2⟩ := p5 b hb
        exact ⟨o2, (r99 b h1).trans b1, (kb o2 (ne o2 12 b2 (by decide))).trans b2⟩
/-- a store that changes nothing -/
theorem m_fin_S {o k9 : Nat} {en : va_E} {H1 : Heap} (hw : m_wo G K I R F A N L T J D s H locs) (hk : K o ≠ 0) (he : ∀ eb, m_ent G K I R F A N L T J D o = some eb → eb = en) (hs : H1.size = H.size) (hq : ∀ q : Nat, q ≠ o → H1[q]? = H[q]?) (hat : va_at G.1 vwCl (o, en) H1) : m_wo G K I R F A N L T J D s H1 (locs ++ [⟨o, k9⟩]) := by
  have hoA := (hw.2.2.1.1 o hk).1
  refine m_fin hw [o] (by omega) (fun q _ b => hq q (fun z => b (by simp [z]))) (fun q hq9 => by rw [List.mem_singleton.mp hq9]; exact hoA) (fun q hq9 => ?_) (fun b hb => Or.inl hb) (fun b eb hb => ?_) (m_wo_pu hw)
  · rcases List.mem_append.mp hq9 with h | h
    · exact hw.2.2.2.1.2.2 q h
    · rw [List.mem_singleton.mp h]; exact hoA
  · by_cases h1 : b = o
    · subst h1
      rw [he eb hb]
      exact Or.inr hat
    · exact Or.inl ⟨by simp [h1], hb⟩
theorem y_bast (hexec : p.tables.exec = Jvm.exec) (hb : c.code = cc) {a n : Nat} {f : Nat → Int32} {i x : Int32} (hKK : va_K G.1 vwCl (m_tys G) s) (ha : va_at G.1 vwCl (a, .inl (G.2.1 6, n, .inl f)) H) (hin : vp_in i n) (hdg : decode cc pc = .ok (.bastore, 1))
    (kk : ∀ (H1 : Heap) (k9 : Nat), H1.size = H.size → (∀ q : Nat, q ≠ a → H1[q]? = H[q]?) → va_at G.1 vwCl (a, .inl (G.2.1 6, n, .inl (upd f i.toNatClampNeg (vp_nar .byte x)))) H1 → W p l e R0 s m args below meth c H1 (locs ++ [⟨a, k9⟩]) cells slots Q (F0 m (pc + 1) ls rest)) : W p l e R0 s m args below meth c H locs cells slots Q (F0 m pc ls (.int x :: .int i :: .ref a :: rest)) := by
  refine W.bast hexec hb ha ((hKK.2 6 _ rfl).1 n (fun j => .int (f j))) (fun q => by cases q) (by show ¬ (i < 0 ∨ (arrV _ _ _).slots.size ≤ _); rw [arrV_size]; exact hin) rfl rfl hdg fun H1 e9 z oq => kk H1 _ z oq ?_
  show H1[a]? = some (vp_cell _ _)
  rw [e9, vp_cell_i, vp_cell_i, arrV_store]
  congr 2
  funext q
  by_cases hq : q = i.toNatClampNeg
  · subst hq
    simp [updV, upd, vp_nar]
    cases hn : narrow FieldType.byte (Value.int x) <;> simp_all [narrow]
  · simp [updV, upd, hq]
theorem y_newb (hexec : p.tables.exec = Jvm.exec) (hb : c.code = cc) (harr : (Cond.arrayClass (newarray.typeOf .byte)).before args s = true) (hKK : va_K G.1 vwCl (m_tys G) s) {n : Int32} {N' : Nat} (hn : ¬ n < 0) (hN : n.toNatClampNeg = N') (hN9 : N' ≤ 1000) (hcells : cells + 1 ≤ R0.cells) (hslots : slots + N' ≤ R0.slots) (hdg : decode cc pc = .ok (.newarray .byte, 2))
    (kk : ∀ (H1 : Heap), H1.size = H.size + 1 → (∀ q : Nat, q < H.size → H1[q]? = H[q]?) → va_at G.1 vwCl (H.size, .inl (G.2.1 6, (N', .inl (fun _ => 0)))) H1 → W p l e R0 s m args below meth c H1 locs (cells + 1) (slots + N') Q (F0 m (pc + 2) ls (.ref H.size :: rest))) : W p l e R0 s m args below meth c H locs cells slots Q (F0 m pc ls (.int n :: rest)) := by
  refine va_newaK hexec hb harr rfl hdg rfl hn hN (Nat.le_trans (Nat.mul_le_mul_right _ hN9) (by decide)) hcells hslots rfl fun H1 cA e1 z1 o1 hAr hNm => ?_
  have hcA : cA = G.2.1 6 := Option.some.inj (hNm.symm.trans (hKK.2 6 _ rfl).2)
  subst hcA
  refine kk H1 z1 o1 ?_
  show H1[H.size]? = some (vp_cell _ _)
  rw [vp_cell_i]
  exact e1
end MJ4
