section MJ3
variable {p : Program} {l : Launch} {e : Env} {R0 : Room} {s : State} {m : MethodId} {args : Array Value} {below : List Frame} {meth : Method} {c : Code} {H : Heap} {locs : List Loc} {cells slots : Nat} {Q : State → Prop} {cc : ByteArray} {pc : Nat} {ls : Array Slot} {rest : List Value} {G : mG} {K : Nat → Nat} {I : Nat → Nat → Int32} {R : Nat → Nat → Option Nat} {F : Nat → UInt32} {A : Nat → Nat → Int32} {N : Nat → Nat} {L : Nat → List Nat} {T : Nat → List Int32} {J : Nat → Nat → Int64} {D : Nat → Nat → UInt64}
/-- an array that has just been made, outside the picture: it holds what the list o holds -/
def y_raw (G : mG) (K : Nat → Nat) (L : Nat → List Nat) (o n q : Nat) (H : Heap) : Prop := K q = 0 ∧ G.2.2.1 ≤ q ∧ q < H.size ∧ va_at G.1 vwCl (q, .inl (G.2.1 5, (n, .inr (.inr (.inr (.inr (fun i => (L o)[i]?))))))) H
theorem m_cqy {S : Type} {post : Option Nat → S → Prop} {E9 : S → Heap → Prop} {fK : S → (Nat → Nat)} {fI : S → (Nat → Nat → Int32)} {fR : S → (Nat → Nat → Option Nat)} {fF : S → (Nat → UInt32)} {fA : S → (Nat → Nat → Int32)} {fN : S → (Nat → Nat)} {fL : S → (Nat → List Nat)} {fT : S → (Nat → List Int32)} {fJ : S → (Nat → Nat → Int64)} {fD : S → (Nat → Nat → UInt64)} {st0 : List Value} {a : Array Value} {mc ms : Nat} (hr : va_Run p l e R0 s m args below meth c H locs cells slots mc ms (F0 m pc ls st0) rest (va_Qq post (fun u U => m_B G (fK u) (fI u) (fR u) (fF u) (fA u) (fN u) (fL u) (fT u) (fJ u) (fD u) U ∧ E9 u U.heap) (m_A G) a) (m_A G)) (hw : m_wo G K I R F A N L T J D s H locs)
    (kk : ∀ (r : Option Nat) (u : S) (H1 : Heap) (locs1 : List Loc), post r u → m_wo G (fK u) (fI u) (fR u) (fF u) (fA u) (fN u) (fL u) (fT u) (fJ u) (fD u) s H1 locs1 → E9 u H1 → W p l e R0 s m args below meth c H1 locs1 (cells + mc) (slots + ms) Q (F0 m (pc + 3) ls (va_rf r :: rest))) : W p l e R0 s m args below meth c H locs cells slots Q (F0 m pc ls st0) :=
  va_callq hr hw.2.2.2.1 (fun _ _ h => h) (fun _ h => h) (fun r u t H1 locs1 ht hvm hp hB _ _ hS => kk r u H1 locs1 hp (m_wo_back hw hB.1 ht hS) (by rw [← ht]; exact hB.2))
/-- the next capacity of a full list -/
def m_nc (n : Nat) : Nat := if n = 0 then 10 else n + max 1 (n / 2)
def m_dc (n c9 : Nat) : Nat := if n = c9 then m_nc n - n else 0
theorem m_nc_gt (n : Nat) : n < m_nc n := by
  unfold m_nc
  split
  · omega
  · have := Nat.le_max_left 1 (n / 2)
    omega
theorem m_nc_le {n : Nat} (h : n ≤ 600) : m_nc n ≤ 1000 := by
  unfold m_nc
  split
  · omega
  · have : max 1 (n / 2) ≤ 300 := Nat.max_le.mpr ⟨by omega, by omega⟩
    omega
theorem m_nc_4 (n : Nat) : m_nc n ≤ 4 * (m_nc n - n) := by
  unfold m_nc
  split
  · omega
  · rcases Nat.le_total 1 (n / 2) with h | h
    · rw [Nat.max_eq_right h]; omega
    · rw [Nat.max_eq_left h]; omega
/-- what a list's method may change besides the list's content: its array, its count of changes -/
def m_hid (o : Nat) (K : Nat → Nat) (I : Nat → Nat → Int32) (R : Nat → Nat → Option Nat) (N : Nat → Nat) (K' : Nat → Nat) (I' : Nat → Nat → Int32) (R' : Nat → Nat → Option Nat) (N' : Nat → Nat) : Prop :=
  (∀ b, K b ≠ 0 → K b ≠ 40 → K' b = K b) ∧ (∀ b, K' b ≠ 0 → K' b ≠ 40 → K' b ≠ 42 → K' b = K b) ∧ (∀ f b, f ≠ 110 → I' f b = I f b) ∧ (∀ f b, f ≠ 111 → f ≠ 99 → R' f b = R f b) ∧ (∀ b, (K' b = 0 ∨ K b ≠ 0) → N' b = N b) ∧ (∀ b, b ≠ o → R' 111 b = R 111 b) ∧ R' 111 o ≠ none
theorem m_hid_G {o e0 q n : Nat} (hq : K q = 0) : m_hid o K I R N (m_gK K e0 q) I (m_gR R o q) (m_up N q n) := by
  refine ⟨fun b h1 h2 => ?_, fun b h1 h2 h3 => ?_, fun _ _ _ => rfl, fun f b h1 h2 => ?_, fun b hb => ?_, fun b hb => ?_, ?_⟩
  · unfold m_gK
    rw [if_neg (show ¬ b = q from fun z => h1 (by rw [z]; exact hq)), if_neg (fun z => h2 z.2)]
  · unfold m_gK at h1 h2 h3 ⊢
    split at h2
    · exact absurd rfl h2
    · rename_i h4
      rw [if_neg h4] at h3 ⊢
      split at h3
      · exact absurd rfl h3
      · rename_i h5
        rw [if_neg h5]
  · unfold m_gR
    rw [m_up2_ni _ _ h1, m_up2_ni _ _ h2]
  · refine m_up_ne _ _ (fun z => ?_)
    rcases hb with h | h
    · rw [z] at h
      unfold m_gK at h
      rw [if_pos rfl] at h
      exact absurd h (by decide)
    · exact h (z ▸ hq)
  · unfold m_gR
    rw [m_up2_ne _ _ hb, m_up2_ni _ _ (by decide)]
  · unfold m_gR
    rw [m_up2_self]
    simp
theorem m_cap_G {o q n : Nat} : m_cap (m_gR R o q) (m_up N q n) o = n := by
  unfold m_cap m_gR
  rw [m_up2_self]
  exact m_up_self _ _ _
theorem m_hid_I {o : Nat} {v : Int32} {K' : Nat → Nat} {R' : Nat → Nat → Option Nat} {N' : Nat → Nat} (h : m_hid o K (m_up2 I 110 o v) R N K' (m_up2 I 110 o v) R' N') : m_hid o K I R N K' (m_up2 I 110 o v) R' N' :=
  ⟨h.1, h.2.1, fun f b hf => m_up2_ni _ _ hf, h.2.2.2⟩
theorem m_hid_rf {o : Nat} (hr : R 111 o ≠ none) : m_hid o K I R N K I R N := ⟨fun _ _ _ => rfl, fun _ _ _ _ => rfl, fun _ _ _ => rfl, fun _ _ _ _ => rfl, fun _ _ => rfl, fun _ _ => rfl, hr⟩
theorem m_elt_k {K' : Nat → Nat} {y : Nat} (e9 : K' y = K y) (h : m_elt K y) : m_elt K' y := by
  unfold m_elt at h ⊢
  rw [e9]
  exact h
theorem m_elt_0 {y : Nat} (h : m_elt K y) : K y ≠ 0 ∧ K y ≠ 40 := by
  rcases h with h | h | h | h <;> rw [h] <;> decide
theorem m_elt_hid {o y : Nat} {K' : Nat → Nat} {I' : Nat → Nat → Int32} {R' : Nat → Nat → Option Nat} {N' : Nat → Nat} (h : m_hid o K I R N K' I' R' N') (hy : m_elt K y) : m_elt K' y := m_elt_k (h.1 y (m_elt_0 hy).1 (m_elt_0 hy).2) hy
theorem y_snoc (l9 : List Nat) (a9 : Nat) : va_up (fun i => l9[i]?) l9.length (some a9) = fun i => (l9 ++ [a9])[i]? := by
  funext i
  unfold va_up
  split
  · rename_i h; rw [h]; simp
  · rename_i h
    rcases Nat.lt_or_ge i l9.length with h2 | h2
    · rw [List.getElem?_append_left h2]
    · show l9[i]? = _
      rw [List.getElem?_eq_none h2, List.getElem?_eq_none (by simp; omega)]
def y_ins (l9 : List Nat) (i a9 : Nat) : List Nat := l9.take i ++ a9 :: l9.drop i
theorem y_ins_len (l9 : List Nat) {i : Nat} (a9 : Nat) (h : i ≤ l9.length) : (y_ins l9 i a9).length = l9.length + 1 := by
  unfold y_ins
  rw [List.length_append, List.length_cons, List.length_take, List.length_drop]
  omega
theorem y_cpy (f g : Nat → Option Nat) (sp dp n j : Nat) : va_cpy f g sp dp n j = if dp ≤ j ∧ j < dp + n then f (sp + (j - dp)) else g j := by
  by_cases h : dp ≤ j ∧ j < dp + n
  · rw [if_pos h]; exact pk_cpy_in h.1 h.2
  · rw [if_neg h]; exact pk_cpy_out (by omega)
theorem y_insE (l9 : List Nat) {i : Nat} (a9 : Nat) (h : i ≤ l9.length) : va_up (va_cpy (fun i => l9[i]?) (fun i => l9[i]?) i (i + 1) (l9.length - i)) i (some a9) = fun j => (y_ins l9 i a9)[j]? := by
  funext j
  unfold va_up y_ins
  have hl : (l9.take i).length = i := by rw [List.length_take]; omega
  split
  · rename_i hj
    rw [hj, List.getElem?_append_right (by omega), hl, Nat.sub_self]
    rfl
  · rename_i hj
    rw [y_cpy]
    rcases Nat.lt_or_ge j i with h1 | h1
    · rw [if_neg (by omega), List.getElem?_append_left (by omega), List.getElem?_take_of_lt h1]
    · rw [List.getElem?_append_right (by omega), hl]
      obtain ⟨k, rfl⟩ : ∃ k, j = i + 1 + k := ⟨j - i - 1, by omega⟩
      rw [show i + 1 + k - i = k + 1 by omega, List.getElem?_cons_succ, List.getElem?_drop]
      by_cases h2 : k < l9.length - i
      · rw [if_pos (by omega)]
        congr 1
        omega
      · rw [if_neg (by omega), List.getElem?_eq_none (by omega), List.getElem?_eq_none (by omega)]
theorem y_delE (l9 : List Nat) {i : Nat} (h : i < l9.length) (f : Nat → Option Nat) (hf : ∀ j, j < l9.length - 1 → f j = if j < i then l9[j]? else l9[j + 1]?) (hf2 : ∀ j, l9.length ≤ j → f j = none) : va_up f (l9.length - 1) none = fun j => (l9.eraseIdx i)[j]? := by
  funext j
  unfold va_up
  have hl : (l9.eraseIdx i).length = l9.length - 1 := List.length_eraseIdx_of_lt h
  split
  · rename_i hj
    rw [List.getElem?_eq_none (by omega)]
  · rename_i hj
    rcases Nat.lt_or_ge j (l9.length - 1) with h1 | h1
    · rw [hf j h1, List.getElem?_eraseIdx]
    · rw [hf2 j (by omega), List.getElem?_eq_none (by omega)]
end MJ3
