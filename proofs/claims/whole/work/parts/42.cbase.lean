theorem lg_get {l : List Nat} {i a : Nat} (h : l[i]? = some a) : l.getD i 0 = a := by
  rw [List.getD_eq_getElem?_getD, h]
  rfl
theorem lg_some {l : List Nat} {i : Nat} (h : i < l.length) : l[i]? = some (l.getD i 0) := by
  rw [List.getD_eq_getElem?_getD, List.getElem?_eq_getElem h]
  rfl
theorem lg_mem {l : List Nat} {i : Nat} (h : i < l.length) : l.getD i 0 ∈ l := List.mem_of_getElem? (lg_some h)
theorem cnt_take (q : Nat → Bool) (l : List Nat) : ∀ n, n ≤ l.length → cntB (fun j => q (l.getD j 0)) n = (l.take n).countP q
  | 0, _ => by simp [cntB]
  | n + 1, h => by
    have ih := cnt_take q l n (by omega)
    simp only [cntB]
    rw [ih, List.take_succ, List.countP_append, lg_some (show n < l.length by omega)]
    simp [List.countP_cons]
theorem cnt_list (q : Nat → Bool) (l : List Nat) : cntB (fun j => q (l.getD j 0)) l.length = l.countP q := by
  rw [cnt_take q l _ (Nat.le_refl _), List.take_length]
theorem filt_at (q : Nat → Bool) {l : List Nat} {i a : Nat} (h : l[i]? = some a) (hq : q a = true) : (l.filter q)[cntB (fun j => q (l.getD j 0)) i]? = some a := by
  have hi : i < l.length := (List.getElem?_eq_some_iff.mp h).1
  have hc := cnt_take q l i (by omega)
  have e1 : l = l.take i ++ a :: l.drop (i + 1) := by
    have h2 : l.drop i = a :: l.drop (i + 1) := by
      rw [List.drop_eq_getElem_cons hi]
      congr 1
      exact (List.getElem?_eq_some_iff.mp h).2
    rw [← h2, List.take_append_drop]
  have e2 : l.filter q = (l.take i).filter q ++ a :: (l.drop (i + 1)).filter q := by
    conv => lhs; rw [e1]
    rw [List.filter_append, List.filter_cons, if_pos hq]
  have e3 : ((l.take i).filter q).length = cntB (fun j => q (l.getD j 0)) i := by
    rw [hc, List.countP_eq_length_filter]
  rw [e2, List.getElem?_append_right (by omega), e3, Nat.sub_self]
  rfl
theorem filt_none (q : Nat → Bool) {l : List Nat} {k : Nat} (h : cntB (fun j => q (l.getD j 0)) l.length ≤ k) : (l.filter q)[k]? = none := by
  rw [cnt_list] at h
  rw [List.getElem?_eq_none]
  rw [← List.countP_eq_length_filter]
  exact h
theorem find_at (q : Nat → Bool) : ∀ {l : List Nat} {i a : Nat}, l[i]? = some a → q a = true → (∀ j, j < i → q (l.getD j 0) = false) → l.find? q = some a
  | [], i, a, h, _, _ => by simp at h
  | b :: l, 0, a, h, hq, _ => by
    have e : b = a := by simpa using h
    subst e
    rw [List.find?_cons_of_pos hq]
  | b :: l, i + 1, a, h, hq, hn => by
    have hb : q b = false := hn 0 (by omega)
    rw [List.find?_cons_of_neg (by rw [hb]; decide)]
    exact find_at q (l := l) (i := i) (by simpa using h) hq (fun j hj => by
      have := hn (j + 1) (by omega)
      simpa [List.getD_eq_getElem?_getD] using this)
theorem find_no (q : Nat → Bool) : ∀ {l : List Nat}, (∀ j, j < l.length → q (l.getD j 0) = false) → l.find? q = none
  | [], _ => rfl
  | b :: l, hn => by
    have hb : q b = false := hn 0 (by simp)
    rw [List.find?_cons_of_neg (by rw [hb]; decide)]
    exact find_no q (fun j hj => by
      have := hn (j + 1) (by simpa using hj)
      simpa [List.getD_eq_getElem?_getD] using this)
theorem erase_at : ∀ {l : List Nat} {i a : Nat}, l[i]? = some a → (∀ j, j < i → l.getD j 0 ≠ a) → l.eraseIdx i = l.erase a
  | [], i, a, h, _ => by simp at h
  | b :: l, 0, a, h, _ => by
    have e : b = a := by simpa using h
    subst e
    simp
  | b :: l, i + 1, a, h, hn => by
    have hb : b ≠ a := hn 0 (by omega)
    have ih := erase_at (l := l) (i := i) (a := a) (by simpa using h) (fun j hj => by
      have := hn (j + 1) (by omega)
      simpa [List.getD_eq_getElem?_getD] using this)
    rw [List.eraseIdx_cons_succ, List.erase_cons_tail (by simpa using hb), ih]
theorem cnt_T (q : Nat → Bool) {l : List Nat} {i a : Nat} (ha : l[i]? = some a) (hq : q a = true) : cntB (fun j => q (l.getD j 0)) (i + 1) = cntB (fun j => q (l.getD j 0)) i + 1 := by
  have e : q (l.getD i 0) = true := by rw [lg_get ha]; exact hq
  show cntB _ i + (if q (l.getD i 0) = true then 1 else 0) = _
  rw [if_pos e]
theorem cnt_F (q : Nat → Bool) {l : List Nat} {i a : Nat} (ha : l[i]? = some a) (hq : q a = false) : cntB (fun j => q (l.getD j 0)) (i + 1) = cntB (fun j => q (l.getD j 0)) i := by
  have e : ¬ q (l.getD i 0) = true := by rw [lg_get ha, hq]; decide
  show cntB _ i + (if q (l.getD i 0) = true then 1 else 0) = _
  rw [if_neg e]
  rfl
/-- the changes of island along a row: how many, and the last island -/
def c_il (I : Nat → Nat → Int32) (q : Nat → Bool) (f : Nat → Nat) : Nat → Nat × Int32
  | 0 => (0, -1)
  | n + 1 => if q (f n) = true then (if I 12 (f n) = (c_il I q f n).2 then c_il I q f n else ((c_il I q f n).1 + 1, I 12 (f n))) else c_il I q f n
