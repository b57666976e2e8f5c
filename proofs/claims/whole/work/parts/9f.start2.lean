/-- a part that nobody speaks of any more: what has the kind 10 is forgotten -/
theorem m_hp_fg {G : mG} {K : Nat → Nat} {I : Nat → Nat → Int32} {R : Nat → Nat → Option Nat} {F : Nat → UInt32} {A : Nat → Nat → Int32} {N : Nat → Nat} {L : Nat → List Nat} {T : Nat → List Int32} {J : Nat → Nat → Int64} {D : Nat → Nat → UInt64} {H : Heap} (h : m_hp G K I R F A N L T J D H) : m_hp G (fun b => if K b = 10 then 0 else K b) (fun f b => if K b = 10 then 0 else I f b) (fun f b => if K b = 10 then none else R f b) (fun b => if K b = 10 then 0 else F b) (fun b => if K b = 10 then fun _ => 0 else A b) (fun b => if K b = 10 then 0 else N b) (fun b => if K b = 10 then [] else L b) (fun b => if K b = 10 then [] else T b) (fun b => if K b = 10 then fun _ => 0 else J b) (fun b => if K b = 10 then fun _ => 0 else D b) H := by
  obtain ⟨h1, h2, h3, h4, h5, h6, h7⟩ := h
  have kb : ∀ {o k : Nat}, k ≠ 0 → (if K o = 10 then 0 else K o) = k → K o = k ∧ ¬ K o = 10 := fun {o k} hk e => by
    by_cases c : K o = 10
    · rw [if_pos c] at e; exact absurd e.symm hk
    · rw [if_neg c] at e; exact ⟨e, c⟩
  have nt : ∀ {o k : Nat}, K o = k → k ≠ 10 → ¬ K o = 10 := fun e hk z => hk (e.symm.trans z)
  refine ⟨fun o ho => h1 o (fun z => ho ?_), fun o e he => h2 o e ?_, fun o ho => ?_, fun o ho => ?_, fun e he => ?_, fun o ho => ?_, fun e he => ?_⟩
  · show (if K o = 10 then 0 else K o) = 0
    rw [if_neg (nt z (by decide))]; exact z
  · by_cases c : K o = 10
    · exact absurd ((m_ent_0 (K := fun b => if K b = 10 then 0 else K b) (if_pos c)).symm.trans he) (fun z => nomatch z)
    · rw [m_ent_same (K := K) (I := I) (R := R) (F := F) (A := A) (N := N) (L := L) (T := T) (J := J) (D := D) (if_neg c) (fun _ => if_neg c) (fun _ => if_neg c) (if_neg c) (if_neg c) (if_neg c) (if_neg c) (if_neg c) (if_neg c) (if_neg c) (fun hk => ?_)] at he
      · exact he
      · obtain ⟨q, q1, q2, -⟩ := h5 o hk
        rw [q1]
        exact if_neg (nt q2 (by decide))
  · by_cases c : K o = 10
    · exact ⟨fun _ => if_pos c, fun _ => if_pos c, if_pos c, fun j => by show (if K o = 10 then fun _ => 0 else A o) j = 0; rw [if_pos c], if_pos c, if_pos c, if_pos c, fun j => by show (if K o = 10 then fun _ => 0 else J o) j = 0; rw [if_pos c], fun j => by show (if K o = 10 then fun _ => 0 else D o) j = 0; rw [if_pos c]⟩
    · have := h3 o ((if_neg c).symm.trans ho)
      simp only [if_neg c]
      exact this
  · obtain ⟨k, c⟩ := kb (by decide) ho
    rcases h4 o k with ⟨a1, a2⟩ | ⟨a1, a2⟩ | ⟨e, a1, a2, a3, a4, a5, a6⟩
    · exact Or.inl ⟨(if_neg c).trans a1, (if_neg c).trans a2⟩
    · exact Or.inr (Or.inl ⟨(if_neg c).trans a1, (if_neg c).trans a2⟩)
    · have ce := nt a2 (by decide)
      exact Or.inr (Or.inr ⟨e, (if_neg c).trans a1, (if_neg ce).trans a2, (if_neg ce).trans a3, by simp only [if_neg c, if_neg ce]; exact a4, by simp only [if_neg ce]; exact a5, by simp only [if_neg ce]; exact a6⟩)
  · obtain ⟨k, c⟩ := kb (by decide) he
    obtain ⟨q, q1, q2, q3⟩ := h5 e k
    have cq := nt q2 (by decide)
    exact ⟨q, (if_neg c).trans q1, (if_neg cq).trans q2, (if_neg cq).trans q3⟩
  · obtain ⟨k, c⟩ := kb (by decide) ho
    rcases h6 o k with ⟨a1, a2⟩ | ⟨e, a1, a2, a3, a4, a5, a6, a7⟩
    · exact Or.inl ⟨(if_neg c).trans a1, (if_neg c).trans a2⟩
    · have ce := nt a2 (by decide)
      exact Or.inr ⟨e, (if_neg c).trans a1, (if_neg ce).trans a2, (if_neg ce).trans a3, by simp only [if_neg c, if_neg ce]; exact a4, by simp only [if_neg ce]; exact a5, by simp only [if_neg ce]; exact a6, by simp only [if_neg c, if_neg ce]; exact a7⟩
  · obtain ⟨k, c⟩ := kb (by decide) he
    obtain ⟨q, q1, q2⟩ := h7 e k
    exact ⟨q, (if_neg c).trans q1, (if_neg (nt q2 (by decide))).trans q2⟩
def c_trl (K : Nat → Nat) (I : Nat → Nat → Int32) (R : Nat → Nat → Option Nat) (N : Nat → Nat) (K' : Nat → Nat) (I' : Nat → Nat → Int32) (R' : Nat → Nat → Option Nat) (N' : Nat → Nat) : Prop := ∀ b, K b ≠ 0 → K b ≠ 10 → K b ≠ 40 → K' b = K b ∧ N' b = N b ∧ (∀ f, f ≠ 110 → I' f b = I f b) ∧ (∀ f, f ≠ 111 → f ≠ 99 → R' f b = R f b) ∧ (R 111 b ≠ none → R' 111 b ≠ none)
theorem m_forget {G : mG} {K : Nat → Nat} {I : Nat → Nat → Int32} {R : Nat → Nat → Option Nat} {F : Nat → UInt32} {A : Nat → Nat → Int32} {N : Nat → Nat} {L : Nat → List Nat} {T : Nat → List Int32} {J : Nat → Nat → Int64} {D : Nat → Nat → UInt64} {s : State} {H : Heap} {locs : List Loc} (hw : m_wo G K I R F A N L T J D s H locs) : ∃ (K2 : Nat → Nat) (I2 : Nat → Nat → Int32) (R2 : Nat → Nat → Option Nat) (F2 : Nat → UInt32) (A2 : Nat → Nat → Int32) (N2 : Nat → Nat) (L2 : Nat → List Nat) (T2 : Nat → List Int32) (J2 : Nat → Nat → Int64) (D2 : Nat → Nat → UInt64), m_wo G K2 I2 R2 F2 A2 N2 L2 T2 J2 D2 s H locs ∧ (∀ b, K2 b ≠ 10) ∧ c_trl K I R N K2 I2 R2 N2 ∧ (∀ b, K b ≠ 10 → L2 b = L b ∧ T2 b = T b) := by
  refine ⟨(fun b => if K b = 10 then 0 else K b), (fun f b => if K b = 10 then 0 else I f b), (fun f b => if K b = 10 then none else R f b), (fun b => if K b = 10 then 0 else F b), (fun b => if K b = 10 then fun _ => 0 else A b), (fun b => if K b = 10 then 0 else N b), (fun b => if K b = 10 then [] else L b), (fun b => if K b = 10 then [] else T b), (fun b => if K b = 10 then fun _ => 0 else J b), (fun b => if K b = 10 then fun _ => 0 else D b), ⟨hw.1, hw.2.1, m_hp_fg hw.2.2.1, hw.2.2.2⟩, fun b z => ?_, fun b h0 h1 h4 => ⟨if_neg h1, if_neg h1, fun _ _ => if_neg h1, fun _ _ _ => if_neg h1, fun z => by show (if K b = 10 then none else R 111 b) ≠ none; rw [if_neg h1]; exact z⟩, fun b h => ⟨if_neg h, if_neg h⟩⟩
  dsimp only at z
  by_cases c : K b = 10
  · rw [if_pos c] at z; exact absurd z (by decide)
  · rw [if_neg c] at z; exact c z
section
variable {K K' K2 : Nat → Nat} {I I' I2 : Nat → Nat → Int32} {R R' R2 : Nat → Nat → Option Nat} {N N' N2 : Nat → Nat} {A : Nat → Nat → Int32} {L : Nat → List Nat} {T : Nat → List Int32} {x : Nat} {cd : Nat → Nat} {EI ER : Nat → Nat → Prop}
theorem c_trl_tr (h : c_trl K I R N K' I' R' N') (h2 : c_trl K' I' R' N' K2 I2 R2 N2) : c_trl K I R N K2 I2 R2 N2 := fun b h0 h1 h4 => by
  obtain ⟨a1, a2, a3, a4, a5⟩ := h b h0 h1 h4
  obtain ⟨b1, b2, b3, b4, b5⟩ := h2 b (by rw [a1]; exact h0) (by rw [a1]; exact h1) (by rw [a1]; exact h4)
  exact ⟨b1.trans a1, b2.trans a2, fun f q => (b3 f q).trans (a3 f q), fun f q1 q2 => (b4 f q1 q2).trans (a4 f q1 q2), fun z => b5 (a5 z)⟩
theorem c_trl_c (h : c_chg K I R N K' I' R' N' EI ER) (hI : ∀ f b, EI f b → K b = 0 ∨ K b = 10 ∨ K' b = 10) (hR : ∀ f b, ER f b → K b = 0 ∨ K b = 10) : c_trl K I R N K' I' R' N' := fun b h0 h1 h4 => by
  obtain ⟨a1, a2, a3, a4, a5⟩ := h b h0 h4
  exact ⟨a1, a2, fun f q => a3 f q (fun z => by rcases hI f b z with y | y | y; exact h0 y; exact h1 y; exact h1 (a1.symm.trans y)), fun f q1 q2 => a4 f q1 q2 (fun z => (hR f b z).elim h0 h1), a5⟩
theorem c_trl_n {q k : Nat} (hq : K q = 0) : c_trl K I R N (m_up K q k) I R N := fun b h0 _ _ => ⟨m_up_ne _ _ (fun z => h0 (by rw [z]; exact hq)), rfl, fun _ _ => rfl, fun _ _ _ => rfl, fun z => z⟩
theorem c_trl_a {q k n : Nat} (hq : K q = 0) : c_trl K I R N (m_up K q k) I R (m_up N q n) := fun b h0 _ _ => ⟨m_up_ne _ _ (fun z => h0 (by rw [z]; exact hq)), m_up_ne _ _ (fun z => h0 (by rw [z]; exact hq)), fun _ _ => rfl, fun _ _ _ => rfl, fun z => z⟩
theorem c_fr_a {q k n : Nat} (hq : K q = 0) : c_fr K I R N A (m_up K q k) I R (m_up N q n) A := fun b hb => by
  have hne : b ≠ q := fun z => (c_oth_n hb).1 (by rw [z]; exact hq)
  exact ⟨m_up_ne _ _ hne, m_up_ne _ _ hne, fun _ _ => rfl, fun _ _ => rfl, rfl⟩
def c_f0 (K : Nat → Nat) (I : Nat → Nat → Int32) (R : Nat → Nat → Option Nat) (N : Nat → Nat) (x : Nat) (cd : Nat → Nat) (sg fl : Nat) : Prop := c_ok K R N x cd ∧ K sg = 5 ∧ R 51 sg = some fl ∧ K fl = 11 ∧ R 111 fl ≠ none ∧ R 61 (cd 4) = some sg ∧ I 50 sg = 0 ∧ I 62 (cd 4) = 1 ∧ I 42 (cd 6) = 0
theorem c_f0_tr {sg fl : Nat} (h : c_f0 K I R N x cd sg fl) (ht : c_trl K I R N K' I' R' N') : c_f0 K' I' R' N' x cd sg fl := by
  obtain ⟨⟨h0, h1, h2, h3, h4, h5, h6, h7, h8, h9, h10, h11, h12, h13, h14, h15, h16, h17, h18, h19, h20, h21, h22, h23, h24, h25, h26, h27, h28, h29, h30, h31, h32, h33, h34, h35, h36, h37, h38, h39, h40, h41, h42, h43, h44, h45, h46, h47, h48, h49, h50, h51, h52, h53, h54, h55, h56⟩, f1, f2, f3, f4, f5, f6, f7, f8⟩ := h
  have kk : ∀ {b k : Nat}, K b = k → k ≠ 0 → k ≠ 10 → k ≠ 40 → K' b = K b ∧ N' b = N b ∧ (∀ f, f ≠ 110 → I' f b = I f b) ∧ (∀ f, f ≠ 111 → f ≠ 99 → R' f b = R f b) ∧ (R 111 b ≠ none → R' 111 b ≠ none) := fun {b k} e a1 a2 a3 => ht b (by rw [e]; exact a1) (by rw [e]; exact a2) (by rw [e]; exact a3)
  exact ⟨⟨(kk h0 (by decide) (by decide) (by decide)).1.trans h0, ((kk h0 (by decide) (by decide) (by decide)).2.2.2.1 90 (by decide) (by decide)).trans h1, ((kk h0 (by decide) (by decide) (by decide)).2.2.2.1 91 (by decide) (by decide)).trans h2, ((kk h0 (by decide) (by decide) (by decide)).2.2.2.1 92 (by decide) (by decide)).trans h3, ((kk h0 (by decide) (by decide) (by decide)).2.2.2.1 93 (by decide) (by decide)).trans h4, ((kk h0 (by decide) (by decide) (by decide)).2.2.2.1 94 (by decide) (by decide)).trans h5, ((kk h0 (by decide) (by decide) (by decide)).2.2.2.1 95 (by decide) (by decide)).trans h6, ((kk h0 (by decide) (by decide) (by decide)).2.2.2.1 96 (by decide) (by decide)).trans h7, ((kk h0 (by decide) (by decide) (by decide)).2.2.2.1 97 (by decide) (by decide)).trans h8, ((kk h0 (by decide) (by decide) (by decide)).2.2.2.1 98 (by decide) (by decide)).trans h9, (kk h10 (by decide) (by decide) (by decide)).1.trans h10, (kk h11 (by decide) (by decide) (by decide)).1.trans h11, (kk h12 (by decide) (by decide) (by decide)).1.trans h12, (kk h13 (by decide) (by decide) (by decide)).1.trans h13, (kk h14 (by decide) (by decide) (by decide)).1.trans h14, (kk h15 (by decide) (by decide) (by decide)).1.trans h15, (kk h16 (by decide) (by decide) (by decide)).1.trans h16, (kk h17 (by decide) (by decide) (by decide)).1.trans h17, (kk h18 (by decide) (by decide) (by decide)).1.trans h18, (kk h19 (by decide) (by decide) (by decide)).1.trans h19, (kk h20 (by decide) (by decide) (by decide)).1.trans h20, (kk h21 (by decide) (by decide) (by decide)).1.trans h21, (kk h22 (by decide) (by decide) (by decide)).1.trans h22, (kk h23 (by decide) (by decide) (by decide)).1.trans h23, (kk h24 (by decide) (by decide) (by decide)).1.trans h24, ((kk h12 (by decide) (by decide) (by decide)).2.2.2.1 20 (by decide) (by decide)).trans h25, ((kk h14 (by decide) (by decide) (by decide)).2.2.2.1 60 (by decide) (by decide)).trans h26, ((kk h13 (by decide) (by decide) (by decide)).2.2.2.1 80 (by decide) (by decide)).trans h27, ((kk h13 (by decide) (by decide) (by decide)).2.2.2.1 81 (by decide) (by decide)).trans h28, ((kk h16 (by decide) (by decide) (by decide)).2.2.2.1 40 (by decide) (by decide)).trans h29, ((kk h16 (by decide) (by decide) (by decide)).2.2.2.1 41 (by decide) (by decide)).trans h30, (kk h21 (by decide) (by decide) (by decide)).2.1.trans h31, (kk h22 (by decide) (by decide) (by decide)).2.1.trans h32, (kk h23 (by decide) (by decide) (by decide)).2.1.trans h33, (kk h24 (by decide) (by decide) (by decide)).2.1.trans h34, (kk h10 (by decide) (by decide) (by decide)).2.2.2.2 h35, (kk h11 (by decide) (by decide) (by decide)).2.2.2.2 h36, (kk h15 (by decide) (by decide) (by decide)).2.2.2.2 h37, (kk h18 (by decide) (by decide) (by decide)).2.2.2.2 h38, (kk h19 (by decide) (by decide) (by decide)).2.2.2.2 h39, (kk h20 (by decide) (by decide) (by decide)).2.2.2.2 h40, (by rw [(kk h17 (by decide) (by decide) (by decide)).2.2.2.1 120 (by decide) (by decide)]; exact h41), h42, h43, h44, h45, h46, h47, h48, h49, h50, h51, h52, h53, h54, h55, h56⟩, (kk f1 (by decide) (by decide) (by decide)).1.trans f1, ((kk f1 (by decide) (by decide) (by decide)).2.2.2.1 51 (by decide) (by decide)).trans f2, (kk f3 (by decide) (by decide) (by decide)).1.trans f3, (kk f3 (by decide) (by decide) (by decide)).2.2.2.2 f4, ((kk h14 (by decide) (by decide) (by decide)).2.2.2.1 61 (by decide) (by decide)).trans f5, ((kk f1 (by decide) (by decide) (by decide)).2.2.1 50 (by decide)).trans f6, ((kk h14 (by decide) (by decide) (by decide)).2.2.1 62 (by decide)).trans f7, ((kk h16 (by decide) (by decide) (by decide)).2.2.1 42 (by decide)).trans f8⟩
theorem c_sim_0 {sg fl : Nat} (h : c_f0 K I R N x cd sg fl) (hd : ∀ i, i < 11 → fl ≠ cd i) (hcap : m_cap R N (cd 8) ≤ 1000) (l0 : L (cd 0) = []) (l1 : L (cd 1) = []) (l5 : L (cd 5) = []) (l9 : L (cd 9) = []) (l10 : L (cd 10) = [sg]) (lf : L fl = []) (t7 : T (cd 7) = []) : c_sim K I R N A L T x cd r_Z0 (fun _ _ => 0) := by
  obtain ⟨hok, f1, f2, f3, f4, f5, f6, f7, f8⟩ := h
  have hok2 := hok
  obtain ⟨h0, h1, h2, h3, h4, h5, h6, h7, h8, h9, h10, h11, h12, h13, h14, h15, h16, h17, h18, h19, h20, h21, h22, h23, h24, h25, h26, h27, h28, h29, h30, h31, h32, h33, h34, h35, h36, h37, h38, h39, h40, h41, h42, h43, h44, h45, h46, h47, h48, h49, h50, h51, h52, h53, h54, h55, h56⟩ := hok2
  refine ⟨hok, ⟨by rw [l0]; rfl, by rw [l0]; exact Nat.zero_le _, fun i a ha => ?_⟩, ⟨by rw [l1]; rfl, by rw [l1]; exact Nat.zero_le _, fun i a ha => ?_⟩, ⟨by rw [l9, l1]; exact List.Perm.nil, by rw [l9]; exact List.Pairwise.nil⟩, ⟨by rw [l10]; rfl, by rw [l10]; exact (by decide : (1 : Nat) ≤ 20), fun k a ha => ?_, ?_, ?_, by rw [l10]; exact List.nodup_cons.mpr ⟨List.not_mem_nil, List.nodup_nil⟩, f7, ?_, Or.inr (by rw [f5]; exact fun z => nomatch z), ⟨1, rfl, by decide, fun a ha => ?_⟩⟩, ⟨by rw [l5]; rfl, by rw [l5]; exact Nat.zero_le _, by rw [l5]; exact List.nodup_nil, fun i a ha => ?_, ?_, ?_⟩, ⟨0, rfl, ⟨h16, h29, h23, h33, h30, h24, h34, f8, by decide, fun k _ k2 => absurd k2 (Nat.not_lt_zero k)⟩, fun k k2 => absurd k2 (Nat.not_lt_zero k), fun k _ k2 => absurd k2 (Nat.not_lt_zero k)⟩, ⟨by rw [t7]; rfl, by rw [t7]; exact Nat.zero_le _, fun k ch hk => ?_⟩, hcap⟩
  · rw [l0] at ha; cases ha
  · rw [l1] at ha; cases ha
  · rw [l10] at ha
    have hk : k = 0 ∧ a = sg := by
      cases k with
      | zero => exact ⟨rfl, (Option.some.inj ha).symm⟩
      | succ k => cases ha
    obtain ⟨rfl, rfl⟩ := hk
    exact ⟨f1, f6, fl, f2, f3, f4, hd, by rw [lf, l1]; exact List.Perm.nil⟩
  · rw [l10]
    exact fun a b ha hb _ => (List.mem_singleton.mp ha).trans (List.mem_singleton.mp hb).symm
  · rw [l10]
    exact fun a b ha hb _ => (List.mem_singleton.mp ha).trans (List.mem_singleton.mp hb).symm
  · rw [f5, l10]
    show some sg = if (0 : Int32) = -1 then none else [sg].find? (fun b => decide (I 50 b = 0))
    rw [if_neg (by decide), List.find?_cons, f6]
    rfl
  · rw [l10] at ha
    rw [List.mem_singleton.mp ha]
    exact ⟨0, by decide, f6⟩
  · rw [l5] at ha; cases ha
  · rw [l5]; exact fun a b ha => absurd ha List.not_mem_nil
  · rw [l5]; exact fun a b p q ha => absurd ha List.not_mem_nil
  · rw [t7] at hk; cases hk
theorem w_f_0 : w_f r_Z0 (fun _ _ => 0) 0 := by
  have z0 : zn r_Z0 0 = 0 := rfl
  have z1' : zn r_Z0 1 = 0 := rfl
  refine ⟨fun _ => ⟨0, by decide, rfl⟩, fun _ => ⟨0, by decide, rfl⟩, fun _ => ⟨0, by decide, rfl⟩, fun _ _ => rfl, fun _ => Or.inl rfl, fun f hf => ?_, fun _ => ⟨0, by decide, rfl⟩, ⟨1, rfl, by decide, fun f hf => ?_, Or.inr ⟨0, by decide, rfl⟩, fun _ => ?_⟩, fun _ => ⟨0, by decide, rfl⟩, fun _ => ⟨0, by decide, rfl⟩, fun f hf => ?_⟩
  · rw [z1'] at hf; exact absurd hf (Nat.not_lt_zero f)
  · rw [z1'] at hf; exact absurd hf (Nat.not_lt_zero f)
  · unfold o_size
    rw [z1']
    exact Nat.zero_le _
  · rw [z1'] at hf; exact absurd hf (Nat.not_lt_zero f)
end
