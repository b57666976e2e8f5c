section
variable {K K' K2 : Nat → Nat} {I I' I2 : Nat → Nat → Int32} {R R' R2 : Nat → Nat → Option Nat} {N N' N2 : Nat → Nat} {EI EI' ER ER' : Nat → Nat → Prop}
/-- from one memory to the next: what was there is there, but for the fields told by EI and ER (and what lists keep for themselves) -/
def c_chg (K : Nat → Nat) (I : Nat → Nat → Int32) (R : Nat → Nat → Option Nat) (N : Nat → Nat) (K' : Nat → Nat) (I' : Nat → Nat → Int32) (R' : Nat → Nat → Option Nat) (N' : Nat → Nat) (EI ER : Nat → Nat → Prop) : Prop :=
  ∀ b, K b ≠ 0 → K b ≠ 40 → K' b = K b ∧ N' b = N b ∧ (∀ f, f ≠ 110 → ¬ EI f b → I' f b = I f b) ∧ (∀ f, f ≠ 111 → f ≠ 99 → ¬ ER f b → R' f b = R f b) ∧ (R 111 b ≠ none → R' 111 b ≠ none)
abbrev c_no : Nat → Nat → Prop := fun _ _ => False
theorem c_chg_rf : c_chg K I R N K I R N c_no c_no := fun _ _ _ => ⟨rfl, rfl, fun _ _ _ => rfl, fun _ _ _ _ => rfl, fun h => h⟩
theorem c_chg_tr (h : c_chg K I R N K' I' R' N' EI ER) (h2 : c_chg K' I' R' N' K2 I2 R2 N2 EI' ER') : c_chg K I R N K2 I2 R2 N2 (fun f b => EI f b ∨ EI' f b) (fun f b => ER f b ∨ ER' f b) := fun b h0 h4 => by
  obtain ⟨a1, a2, a3, a4, a5⟩ := h b h0 h4
  obtain ⟨b1, b2, b3, b4, b5⟩ := h2 b (by rw [a1]; exact h0) (by rw [a1]; exact h4)
  exact ⟨b1.trans a1, b2.trans a2, fun f h1 h3 => (b3 f h1 (fun z => h3 (Or.inr z))).trans (a3 f h1 (fun z => h3 (Or.inl z))), fun f h1 h2 h3 => (b4 f h1 h2 (fun z => h3 (Or.inr z))).trans (a4 f h1 h2 (fun z => h3 (Or.inl z))), fun h => b5 (a5 h)⟩
theorem c_chg_mono (h : c_chg K I R N K' I' R' N' EI ER) (hI : ∀ f b, EI f b → EI' f b) (hR : ∀ f b, ER f b → ER' f b) : c_chg K I R N K' I' R' N' EI' ER' := fun b h0 h4 => by
  obtain ⟨a1, a2, a3, a4, a5⟩ := h b h0 h4
  exact ⟨a1, a2, fun f h1 h3 => a3 f h1 (fun z => h3 (hI f b z)), fun f h1 h2 h3 => a4 f h1 h2 (fun z => h3 (hR f b z)), a5⟩
theorem c_chg_hid {o : Nat} (h : m_hid o K I R N K' I' R' N') : c_chg K I R N K' I' R' N' c_no c_no := fun b h0 h4 => by
  refine ⟨h.1 b h0 h4, h.2.2.2.2.1 b (Or.inr h0), fun f h1 _ => h.2.2.1 f b h1, fun f h1 h2 _ => h.2.2.2.1 f b h1 h2, fun h9 => ?_⟩
  by_cases hb : b = o
  · rw [hb]; exact h.2.2.2.2.2.2
  · rw [h.2.2.2.2.2.1 b hb]; exact h9
theorem c_chg_new {q k n : Nat} (hq : K q = 0) : c_chg K I R N (m_up K q k) I R N c_no c_no := fun b h0 _ =>
  ⟨m_up_ne _ _ (fun z => h0 (by rw [z]; exact hq)), rfl, fun _ _ _ => rfl, fun _ _ _ _ => rfl, fun h => h⟩
theorem c_chg_I {f b : Nat} {v : Int32} : c_chg K I R N K (m_up2 I f b v) R N (fun g a => g = f ∧ a = b) c_no := fun a _ _ =>
  ⟨rfl, rfl, fun g _ h => if_neg h, fun _ _ _ _ => rfl, fun h => h⟩
theorem c_chg_R {f b : Nat} {v : Option Nat} (hf : f ≠ 111) : c_chg K I R N K I (m_up2 R f b v) N c_no (fun g a => g = f ∧ a = b) := fun a _ _ =>
  ⟨rfl, rfl, fun _ _ _ => rfl, fun g _ _ h => if_neg h, fun h => by rw [m_up2_ni _ _ (Ne.symm hf)]; exact h⟩
theorem c_chg_110 (h : ∀ f b, f ≠ 110 → I' f b = I f b) : c_chg K I R N K I' R N c_no c_no := fun b _ _ =>
  ⟨rfl, rfl, fun f h1 _ => h f b h1, fun _ _ _ _ => rfl, fun h => h⟩
end
