section MJ7
variable {p : Program} {l : Launch} {e : Env} {R0 : Room} {s : State} {m : MethodId} {args : Array Value} {below : List Frame} {meth : Method} {c : Code} {H : Heap} {locs : List Loc} {cells slots : Nat} {Q : State → Prop} {cc : ByteArray} {pc : Nat} {ls : Array Slot} {rest : List Value} {G : mG} {K : Nat → Nat} {I : Nat → Nat → Int32} {R : Nat → Nat → Option Nat} {F : Nat → UInt32} {A : Nat → Nat → Int32} {N : Nat → Nat} {L : Nat → List Nat} {T : Nat → List Int32} {J : Nat → Nat → Int64} {D : Nat → Nat → UInt64}
theorem m_loopC {σ : Type} (fc fs : σ → Nat) (μ : σ → Nat) (P : σ → Heap → List Loc → Array Slot → Prop) (hs : ∀ (a : σ) (H : Heap) (locs : List Loc) (ls : Array Slot), P a H locs ls → (∀ (a' : σ) (H' : Heap) (locs' : List Loc) (ls' : Array Slot), μ a' < μ a → P a' H' locs' ls' → W p l e R0 s m args below meth c H' locs' (fc a') (fs a') Q (F0 m pc ls' rest)) → W p l e R0 s m args below meth c H locs (fc a) (fs a) Q (F0 m pc ls rest)) (a : σ) (h : P a H locs ls) : W p l e R0 s m args below meth c H locs (fc a) (fs a) Q (F0 m pc ls rest) := by
  have key : ∀ (n : Nat) (a : σ) (H : Heap) (locs : List Loc) (ls : Array Slot), μ a ≤ n → P a H locs ls → W p l e R0 s m args below meth c H locs (fc a) (fs a) Q (F0 m pc ls rest) := by
    intro n
    induction n with
    | zero => exact fun a H locs ls hn hp => hs a H locs ls hp (fun a' _ _ _ hlt _ => absurd hlt (by omega))
    | succ n ih => exact fun a H locs ls hn hp => hs a H locs ls hp (fun a' H' locs' ls' hlt hp' => ih a' H' locs' ls' (by omega) hp')
  exact key (μ a) a H locs ls (Nat.le_refl _) h
theorem m_hid_tr {o : Nat} {K' K2 : Nat → Nat} {I' I2 : Nat → Nat → Int32} {R' R2 : Nat → Nat → Option Nat} {N' N2 : Nat → Nat} (h : m_hid o K I R N K' I' R' N') (h2 : m_hid o K' I' R' N' K2 I2 R2 N2) (b : Nat) (h0 : K b ≠ 0) (h4 : K b ≠ 40) : K2 b = K b ∧ (∀ f, f ≠ 110 → I2 f b = I f b) ∧ (∀ f, f ≠ 111 → f ≠ 99 → R2 f b = R f b) ∧ N2 b = N b := by
  have e := h.1 b h0 h4
  exact ⟨(h2.1 b (by rw [e]; exact h0) (by rw [e]; exact h4)).trans e, fun f hf => (h2.2.2.1 f b hf).trans (h.2.2.1 f b hf), fun f h1 h9 => (h2.2.2.2.1 f b h1 h9).trans (h.2.2.2.1 f b h1 h9), (h2.2.2.2.2.1 b (Or.inr (by rw [e]; exact h0))).trans (h.2.2.2.2.1 b (Or.inr h0))⟩
end MJ7
