/-! the class stands for (Z, M) -/
def q_isl (K : Nat → Nat) (I : Nat → Nat → Int32) (L : Nat → List Nat) (cd : Nat → Nat) (Z : mZ) (M : mM) : Prop :=
  Z 0 = nI (L (cd 0)).length ∧ (L (cd 0)).length ≤ 12 ∧ ∀ i a, (L (cd 0))[i]? = some a → K a = 3 ∧ I 30 a = nI i ∧ I 31 a = M 7 i ∧ I 32 a = M 8 i ∧ I 33 a = M 9 i ∧ I 34 a = if M 10 i = 0 then 1 else 0
/-- the segment of a number -/
def q_sgo (I : Nat → Nat → Int32) (l9 : List Nat) (v : Int32) : Option Nat := if v = -1 then none else l9.find? (fun b => decide (I 50 b = v))
def q_fnd (K : Nat → Nat) (I : Nat → Nat → Int32) (R : Nat → Nat → Option Nat) (L : Nat → List Nat) (cd : Nat → Nat) (Z : mZ) (M : mM) : Prop :=
  Z 1 = nI (L (cd 1)).length ∧ (L (cd 1)).length ≤ 120 ∧ ∀ f a, (L (cd 1))[f]? = some a → K a = 1 ∧ I 10 a = nI f ∧ I 11 a = M 11 f ∧ I 12 a = M 12 f ∧ I 13 a = M 13 f ∧ I 16 a = M 16 f ∧ (R 14 a = if M 15 f = -1 then none else (L (cd 5))[(M 15 f).toNatClampNeg]?) ∧ (M 15 f = -1 ∨ (M 15 f).toNatClampNeg < (L (cd 5)).length) ∧ R 15 a = q_sgo I (L (cd 10)) (M 14 f) ∧ (M 14 f = -1 ∨ R 15 a ≠ none) ∧ ∃ p, p < 41 ∧ M 13 f = nI p
/-- is the find a posting -/
def q_psb (I : Nat → Nat → Int32) (R : Nat → Nat → Option Nat) (a : Nat) : Bool := (R 15 a).isSome && decide (I 16 a = 0)
theorem q_psb_i {I : Nat → Nat → Int32} {R : Nat → Nat → Option Nat} {a : Nat} : q_psb I R a = true ↔ (R 15 a ≠ none ∧ I 16 a = 0) := by
  unfold q_psb
  rw [Bool.and_eq_true, decide_eq_true_eq]
  cases hr : R 15 a with
  | none => exact ⟨fun h => absurd h.1 (by decide), fun h => absurd rfl h.1⟩
  | some z => exact ⟨fun h => ⟨by simp, h.2⟩, fun h => ⟨rfl, h.2⟩⟩
theorem q_pwb {I : Nat → Nat → Int32} {R : Nat → Nat → Option Nat} {w9 : Int32} {a : Nat} (h : c_pw I R w9 a = true) : q_psb I R a = true := by
  unfold c_pw at h
  rw [Bool.and_eq_true] at h
  exact h.2
/-- the row of the index: the log's postings, sorted -/
def q_row (I : Nat → Nat → Int32) (R : Nat → Nat → Option Nat) (L : Nat → List Nat) (cd : Nat → Nat) : Prop := (L (cd 9)).Perm ((L (cd 1)).filter (q_psb I R)) ∧ (L (cd 9)).Pairwise (fun a b => c_lt I a b = true)
def q_shf (K : Nat → Nat) (I : Nat → Nat → Int32) (R : Nat → Nat → Option Nat) (L : Nat → List Nat) (cd : Nat → Nat) (Z : mZ) (M : mM) : Prop :=
  Z 3 = nI (L (cd 10)).length ∧ (L (cd 10)).length ≤ 20 ∧
  (∀ k a, (L (cd 10))[k]? = some a → K a = 5 ∧ I 50 a = M 17 k ∧ ∃ fl, R 51 a = some fl ∧ K fl = 11 ∧ R 111 fl ≠ none ∧ (∀ i, i < 11 → fl ≠ cd i) ∧ (L fl).Perm ((L (cd 1)).filter (fun b => decide (R 15 b = some a)))) ∧
  (∀ a b, a ∈ L (cd 10) → b ∈ L (cd 10) → R 51 a = R 51 b → a = b) ∧ (∀ a b, a ∈ L (cd 10) → b ∈ L (cd 10) → I 50 a = I 50 b → a = b) ∧ (L (cd 10)).Nodup ∧
  I 62 (cd 4) = Z 4 ∧ R 61 (cd 4) = q_sgo I (L (cd 10)) (Z 5) ∧ (Z 5 = -1 ∨ R 61 (cd 4) ≠ none) ∧ ∃ m, Z 4 = nI m ∧ m < 2 ^ 30 ∧ ∀ a, a ∈ L (cd 10) → ∃ v, v < m ∧ I 50 a = nI v
/-- the ship a is the number s -/
def q_shp (K : Nat → Nat) (I : Nat → Nat → Int32) (R : Nat → Nat → Option Nat) (N : Nat → Nat) (A : Nat → Nat → Int32) (L : Nat → List Nat) (cd : Nat → Nat) (M : mM) (s a : Nat) : Prop :=
  ∃ ph w9 d9 n is9 came, R 70 a = some ph ∧ c_ph K R N I A ph w9 d9 n ∧ R 71 a = some is9 ∧ (L (cd 0))[(M 18 s).toNatClampNeg]? = some is9 ∧ (∃ j, j < 12 ∧ M 18 s = nI j) ∧ R 73 a = some came ∧ came ∈ L (cd 0) ∧ K a = 7 ∧ (I 74 a = 0 ∨ I 74 a = 1) ∧ I 72 a = M 19 s ∧ M 22 s = nI n ∧
    (∀ k, k < n → A w9 k = M 23 (4 * s + k)) ∧ (∀ k, 1 ≤ k → k < n → A d9 k = M 24 (4 * s + k)) ∧ ph ≠ cd 6 ∧ w9 ≠ cd 13 ∧ d9 ≠ cd 14 ∧
    (n ≠ 0 → (L (cd 0))[(M 20 s).toNatClampNeg]? = some came ∧ (∃ j, j < 12 ∧ M 20 s = nI j) ∧ (I 74 a = if M 21 s = -1 then 0 else 1) ∧ (M 21 s = -1 ∨ M 21 s = M 9 (M 18 s).toNatClampNeg))
def q_flt (K : Nat → Nat) (I : Nat → Nat → Int32) (R : Nat → Nat → Option Nat) (N : Nat → Nat) (A : Nat → Nat → Int32) (L : Nat → List Nat) (cd : Nat → Nat) (Z : mZ) (M : mM) : Prop :=
  Z 2 = nI (L (cd 5)).length ∧ (L (cd 5)).length ≤ 5 ∧ (L (cd 5)).Nodup ∧ (∀ s a, (L (cd 5))[s]? = some a → q_shp K I R N A L cd M s a) ∧
  (∀ a b, a ∈ L (cd 5) → b ∈ L (cd 5) → a ≠ b → R 70 a ≠ R 70 b) ∧ (∀ a b p q, a ∈ L (cd 5) → b ∈ L (cd 5) → a ≠ b → R 70 a = some p → R 70 b = some q → R 40 p ≠ R 40 q ∧ R 41 p ≠ R 41 q)
def q_typ (K : Nat → Nat) (I : Nat → Nat → Int32) (R : Nat → Nat → Option Nat) (N : Nat → Nat) (A : Nat → Nat → Int32) (cd : Nat → Nat) (Z : mZ) (M : mM) : Prop :=
  ∃ n, Z 29 = nI n ∧ c_ph K R N I A (cd 6) (cd 13) (cd 14) n ∧ (∀ k, k < n → A (cd 13) k = M 25 k) ∧ ∀ k, 1 ≤ k → k < n → A (cd 14) k = M 26 k
def q_cau (T : Nat → List Int32) (cd : Nat → Nat) (Z : mZ) (M : mM) : Prop := Z 31 = nI (T (cd 7)).length ∧ (T (cd 7)).length ≤ 2 ∧ ∀ k ch, (T (cd 7))[k]? = some ch → ch = M 32 k
def c_sim (K : Nat → Nat) (I : Nat → Nat → Int32) (R : Nat → Nat → Option Nat) (N : Nat → Nat) (A : Nat → Nat → Int32) (L : Nat → List Nat) (T : Nat → List Int32) (x : Nat) (cd : Nat → Nat) (Z : mZ) (M : mM) : Prop :=
  c_ok K R N x cd ∧ q_isl K I L cd Z M ∧ q_fnd K I R L cd Z M ∧ q_row I R L cd ∧ q_shf K I R L cd Z M ∧ q_flt K I R N A L cd Z M ∧ q_typ K I R N A cd Z M ∧ q_cau T cd Z M ∧ m_cap R N (cd 8) ≤ 1000
section
variable {K : Nat → Nat} {I : Nat → Nat → Int32} {R : Nat → Nat → Option Nat} {N : Nat → Nat} {A : Nat → Nat → Int32} {L : Nat → List Nat} {T : Nat → List Int32} {x : Nat} {cd : Nat → Nat} {Z : mZ} {M : mM}
theorem q_el {l9 : List Nat} {P : Nat → Nat → Prop} (h : ∀ i a, l9[i]? = some a → P i a) : ∀ a, a ∈ l9 → ∃ i, P i a := fun a ha => by
  obtain ⟨i, hi, hi2⟩ := List.getElem_of_mem ha
  exact ⟨i, h i a (List.getElem?_eq_some_iff.mpr ⟨hi, hi2⟩)⟩
theorem q_el0 (h : c_sim K I R N A L T x cd Z M) : ∀ a, a ∈ L (cd 0) → K a = 3 := fun a ha => (q_el h.2.1.2.2 a ha).elim fun _ q => q.1
theorem q_el1 (h : c_sim K I R N A L T x cd Z M) : ∀ a, a ∈ L (cd 1) → K a = 1 := fun a ha => (q_el h.2.2.1.2.2 a ha).elim fun _ q => q.1
theorem q_m9 (h : c_sim K I R N A L T x cd Z M) {a : Nat} (ha : a ∈ L (cd 9)) : a ∈ L (cd 1) := (List.mem_filter.mp (h.2.2.2.1.1.mem_iff.mp ha)).1
theorem q_m9i (h : c_sim K I R N A L T x cd Z M) {a : Nat} (ha : a ∈ L (cd 1)) (hq : q_psb I R a = true) : a ∈ L (cd 9) := h.2.2.2.1.1.mem_iff.mpr (List.mem_filter.mpr ⟨ha, hq⟩)
theorem q_el9 (h : c_sim K I R N A L T x cd Z M) : ∀ a, a ∈ L (cd 9) → K a = 1 := fun a ha => q_el1 h a (q_m9 h ha)
theorem q_ps9 (h : c_sim K I R N A L T x cd Z M) : c_pst I R (L (cd 9)) := fun a ha => q_psb_i.mp (List.mem_filter.mp (h.2.2.2.1.1.mem_iff.mp ha)).2
theorem q_l9 (h : c_sim K I R N A L T x cd Z M) : (L (cd 9)).length ≤ (L (cd 1)).length := by rw [h.2.2.2.1.1.length_eq]; exact List.length_filter_le _ _
theorem q_cnt9 (h : c_sim K I R N A L T x cd Z M) {q : Nat → Bool} (hq : ∀ a, q a = true → q_psb I R a = true) : (L (cd 9)).countP q = (L (cd 1)).countP q := by
  rw [h.2.2.2.1.1.countP_eq, List.countP_filter]
  refine List.countP_congr (fun b _ => ?_)
  rw [Bool.and_eq_true]
  exact ⟨fun z => z.1, fun z => ⟨z, hq b z⟩⟩
theorem q_el5 (h : c_sim K I R N A L T x cd Z M) : ∀ a, a ∈ L (cd 10) → K a = 5 := fun a ha => (q_el h.2.2.2.2.1.2.2.1 a ha).elim fun _ q => q.1
theorem q_el7 (h : c_sim K I R N A L T x cd Z M) : ∀ a, a ∈ L (cd 5) → K a = 7 := fun a ha => (q_el h.2.2.2.2.2.1.2.2.2.1 a ha).elim fun _ ⟨_, _, _, _, _, _, _, _, _, _, _, _, _, q, _⟩ => q
theorem q_rw (h : c_sim K I R N A L T x cd Z M) : c_rwd K I R (L (cd 9)) := ⟨q_el9 h, fun a ha => by
  obtain ⟨i, q⟩ := q_el h.2.2.1.2.2 a (q_m9 h ha)
  rw [q.2.2.2.2.1]
  exact q.2.2.2.2.2.2.2.2.2.2, q_ps9 h⟩
theorem q_rng {z v : Int32} {n : Nat} (hz : z = nI n) (hn : n < 2 ^ 31) : o_rng v 0 (z - 1) = true ↔ ∃ i, i < n ∧ v = nI i := by
  constructor
  · intro h
    exact o_isl_nat (Z := fun _ => z) (v := v) (n := n) h hz hn
  · rintro ⟨i, hi, rfl⟩
    unfold o_rng
    rw [hz]
    cases n with
    | zero => omega
    | succ n =>
      rw [nI_pred, Bool.and_eq_true, decide_eq_true_eq, decide_eq_true_eq, show (0 : Int32) = nI 0 from rfl, nI_leI (by decide) (by omega), nI_leI (by omega) (by omega)]
      omega
theorem q_isl_nm (h : c_sim K I R N A L T x cd Z M) (v : Int32) : o_isl Z v = true ↔ ∃ i, i < (L (cd 0)).length ∧ v = nI i := by
  have h0 := h.2.1.1
  have h1 := h.2.1.2.1
  exact q_rng h0 (by omega)
theorem q_shp_nm (h : c_sim K I R N A L T x cd Z M) (v : Int32) : o_shp Z v = true ↔ ∃ i, i < (L (cd 5)).length ∧ v = nI i := by
  have h0 := h.2.2.2.2.2.1.1
  have h1 := h.2.2.2.2.2.1.2.1
  exact q_rng h0 (by omega)
theorem q_fnd_nm (h : c_sim K I R N A L T x cd Z M) (v : Int32) : o_rng v 0 (Z 1 - 1) = true ↔ ∃ i, i < (L (cd 1)).length ∧ v = nI i := by
  have h0 := h.2.2.1.1
  have h1 := h.2.2.1.2.1
  exact q_rng h0 (by omega)
theorem q_tb0 {b : Bool} : t_b b = 0 ↔ b = true := by cases b <;> decide
theorem q_tb1 {b : Bool} : ¬ t_b b = 0 ↔ ¬ b = true := by cases b <;> decide
end
