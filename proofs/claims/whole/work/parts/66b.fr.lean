/-- the kinds that the class never touches -/
def c_oth (k : Nat) : Prop := k = 10 ∨ k = 20 ∨ k = 30 ∨ k = 34 ∨ k = 35 ∨ k = 36
def c_fr (K : Nat → Nat) (I : Nat → Nat → Int32) (R : Nat → Nat → Option Nat) (N : Nat → Nat) (A : Nat → Nat → Int32) (K' : Nat → Nat) (I' : Nat → Nat → Int32) (R' : Nat → Nat → Option Nat) (N' : Nat → Nat) (A' : Nat → Nat → Int32) : Prop :=
  ∀ b, c_oth (K b) → K' b = K b ∧ N' b = N b ∧ (∀ f, 1000 ≤ f → I' f b = I f b) ∧ (∀ f, 1000 ≤ f → R' f b = R f b) ∧ A' b = A b
section
variable {K K' K2 : Nat → Nat} {I I' I2 : Nat → Nat → Int32} {R R' R2 : Nat → Nat → Option Nat} {N N' N2 : Nat → Nat} {A A' A2 : Nat → Nat → Int32} {x : Nat} {cd : Nat → Nat} {EI ER : Nat → Nat → Prop}
theorem c_oth_n {k : Nat} (h : c_oth k) : k ≠ 0 ∧ k ≠ 40 ∧ k ≠ 21 ∧ k ≠ 22 ∧ k ≠ 23 ∧ k ≠ 24 ∧ k ≠ 41 := by
  rcases h with h | h | h | h | h | h <;> rw [h] <;> decide
theorem c_fr_rf : c_fr K I R N A K I R N A := fun _ _ => ⟨rfl, rfl, fun _ _ => rfl, fun _ _ => rfl, rfl⟩
theorem c_fr_tr (h : c_fr K I R N A K' I' R' N' A') (h2 : c_fr K' I' R' N' A' K2 I2 R2 N2 A2) : c_fr K I R N A K2 I2 R2 N2 A2 := fun b hb => by
  obtain ⟨a1, a2, a3, a4, a5⟩ := h b hb
  obtain ⟨b1, b2, b3, b4, b5⟩ := h2 b (by rw [a1]; exact hb)
  exact ⟨b1.trans a1, b2.trans a2, fun f hf => (b3 f hf).trans (a3 f hf), fun f hf => (b4 f hf).trans (a4 f hf), b5.trans a5⟩
theorem c_fr_c (h : c_chg K I R N K' I' R' N' EI ER) (hI : ∀ f b, EI f b → f < 1000) (hR : ∀ f b, ER f b → f < 1000) : c_fr K I R N A K' I' R' N' A := fun b hb => by
  have n := c_oth_n hb
  obtain ⟨a1, a2, a3, a4, a5⟩ := h b n.1 n.2.1
  exact ⟨a1, a2, fun f hf => a3 f (by omega) (fun z => by have := hI f b z; omega), fun f hf => a4 f (by omega) (by omega) (fun z => by have := hR f b z; omega), rfl⟩
theorem c_fr_n (h : c_chg K I R N K' I' R' N' c_no c_no) : c_fr K I R N A K' I' R' N' A := c_fr_c h (fun _ _ z => absurd z id) (fun _ _ z => absurd z id)
theorem c_fr_I (h : ∀ f b, 1000 ≤ f → I' f b = I f b) : c_fr K I R N A K I' R N A := fun b _ => ⟨rfl, rfl, fun f hf => h f b hf, fun _ _ => rfl, rfl⟩
theorem c_fr_R (h : ∀ f b, 1000 ≤ f → R' f b = R f b) : c_fr K I R N A K I R' N A := fun b _ => ⟨rfl, rfl, fun _ _ => rfl, fun f hf => h f b hf, rfl⟩
theorem c_fr_A (h : ∀ b, K b ≠ 21 → K b ≠ 22 → K b ≠ 23 → K b ≠ 24 → K b ≠ 41 → A' b = A b) : c_fr K I R N A K I R N A' := fun b hb => by
  have n := c_oth_n hb
  exact ⟨rfl, rfl, fun _ _ => rfl, fun _ _ => rfl, h b n.2.2.1 n.2.2.2.1 n.2.2.2.2.1 n.2.2.2.2.2.1 n.2.2.2.2.2.2⟩
theorem c_fr_A2 (hok : c_ok K R N x cd) (h : ∀ b, b ≠ cd 11 → b ≠ cd 12 → A' b = A b) : c_fr K I R N A K I R N A' :=
  c_fr_A (fun b _ _ h3 h4 _ => h b (fun z => h3 (by rw [z]; exact hok.2.2.2.2.2.2.2.2.2.2.2.2.2.2.2.2.2.2.2.2.2.1)) (fun z => h4 (by rw [z]; exact hok.2.2.2.2.2.2.2.2.2.2.2.2.2.2.2.2.2.2.2.2.2.2.1)))
theorem c_fr_nw {q k : Nat} (hz : K q = 0) (hI : ∀ f b, b ≠ q → I' f b = I f b) (hR : ∀ f b, b ≠ q → R' f b = R f b) : c_fr K I R N A (m_up K q k) I' R' N A := fun b hb => by
  have hne : b ≠ q := fun z => (c_oth_n hb).1 (by rw [z]; exact hz)
  exact ⟨m_up_ne _ _ hne, rfl, fun f _ => hI f b hne, fun f _ => hR f b hne, rfl⟩
end
