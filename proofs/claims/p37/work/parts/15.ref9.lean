/-- equal but for what the reference uses for its counting alone -/
def o_sc (S S' : mS) : Prop := (∀ j, j ≠ 30 → S'.1 j = S.1 j) ∧ ∀ j, j ≠ 27 → j ≠ 28 → j ≠ 33 → j ≠ 34 → S'.2 j = S.2 j
theorem o_sc_rf (S : mS) : o_sc S S := ⟨fun _ _ => rfl, fun _ _ _ _ _ => rfl⟩
theorem o_sc_tr {S S' S'' : mS} (h : o_sc S S') (h' : o_sc S' S'') : o_sc S S'' :=
  ⟨fun j a => (h'.1 j a).trans (h.1 j a), fun j a b c d => (h'.2 j a b c d).trans (h.2 j a b c d)⟩
theorem o_sc_askT (S : mS) : o_sc S (o_askT S) :=
  ⟨fun _ a => z1_n _ _ a, fun _ a b _ _ => (mset_n _ _ b).trans (mset_n _ _ a)⟩
theorem o_sc_askK (S : mS) (s : Nat) : o_sc S (o_askK S s) :=
  ⟨fun _ a => z1_n _ _ a, fun _ a b _ _ => (mset_n _ _ b).trans (mset_n _ _ a)⟩
theorem o_sc_m {S : mS} {Z : mZ} {M M' : mM} (h : o_sc S (Z, M)) (h' : m_eq M M') : o_sc S (Z, M') :=
  ⟨h.1, fun j a b c d => (h' j c d).trans (h.2 j a b c d)⟩
theorem o_askT_28 (S : mS) {n k : Nat} (h : S.1 29 = nI n) (hn : n ≤ 4) (hk : k < n) : (o_askT S).2 28 k = S.2 26 k := by
  unfold o_askT
  dsimp only
  rw [mset_s, zn_of h (by omega)]
  exact if_pos hk
theorem o_askT_27 (S : mS) {n k : Nat} (h : S.1 29 = nI n) (hn : n ≤ 4) (hk : k < n) : (o_askT S).2 27 k = S.2 25 k := by
  unfold o_askT
  dsimp only
  rw [mset_n _ _ (by decide), mset_s, zn_of h (by omega)]
  exact if_pos hk
theorem o_askT_30 (S : mS) {n : Nat} (h : S.1 29 = nI n) : (o_askT S).1 30 = nI n := (z1_s S.1 30 _).trans h
/-- the hits on an island by the typed map -/
def o_hitT (Z : mZ) (M : mM) (i : Int32) : Nat := o_hitsOn (o_askT (Z, M)).1 (o_askT (Z, M)).2 i
