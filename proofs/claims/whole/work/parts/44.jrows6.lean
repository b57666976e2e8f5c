section MJ6
variable {p : Program} {l : Launch} {e : Env} {R0 : Room} {s : State} {m : MethodId} {args : Array Value} {below : List Frame} {meth : Method} {c : Code} {H : Heap} {locs : List Loc} {cells slots : Nat} {Q : State → Prop} {cc : ByteArray} {pc : Nat} {ls : Array Slot} {rest : List Value} {G : mG} {K : Nat → Nat} {I : Nat → Nat → Int32} {R : Nat → Nat → Option Nat} {F : Nat → UInt32} {A : Nat → Nat → Int32} {N : Nat → Nat} {L : Nat → List Nat} {T : Nat → List Int32} {J : Nat → Nat → Int64} {D : Nat → Nat → UInt64}
theorem m_copy_2324 (hexec : p.tables.exec = Jvm.exec) (hb : c.code = cc) (hml : c.maxLocals = ls.size) {own : String} {index : Nat} (hown : s.vm.findClass own = some m.cls) (hlink : (Cond.methodLink own index arraycopyName).before args s = true) (hnat : (Cond.native arraycopyName).before args s = true) (hstat : (Cond.static arraycopyName).before args s = true) (hini : (Cond.initialized "java/lang/System").before args s = true)
    (hw : m_wo G K I R F A N L T J D s H locs) {a0 a N' : Nat} (hk0 : K a0 = 23) (hk1 : K a = 24) (hn0 : N a0 = N') (hn1 : N a = N') (hN : N' ≤ 1000) (hframes : 1 ≤ R0.frames) (hlocals : (rest.map fun v => v.category).sum + (nativeFrameWords "java/lang/System" "arraycopy" 5 + 11) ≤ R0.locals) (hdg : decode cc pc = .ok (.invokestatic index, 3))
    (kk : ∀ (H1 : Heap) (locs1 : List Loc), m_wo G K I R F (m_up A a (va_cpy (A a0) (A a) 0 0 N')) N L T J D s H1 locs1 → W p l e R0 s m args below meth c H1 locs1 cells slots Q (F0 m (pc + 3) ls rest)) : W p l e R0 s m args below meth c H locs cells slots Q (F0 m pc ls (.int (nI N') :: .int 0 :: .ref a :: .int 0 :: .ref a0 :: rest)) := by
  have hat0 := hw.2.2.1.2.1 a0 _ (m_ent_23 hk0)
  have hat1 := hw.2.2.1.2.1 a _ (m_ent_24 hk1)
  rw [hn0] at hat0
  rw [hn1] at hat1
  have hKK := hw.1
  have hz : (0 : Int32).toNatClampNeg = 0 := rfl
  have hzn : (nI N').toNatClampNeg = N' := nI_clamp (by omega)
  have hti : (nI N').toInt = (N' : Int) := nI_toInt (by omega)
  intro T hT X
  have hc0 : H[a0]? = some (vp_cell (G.2.1 0) (N', .inl (A a0))) := hat0
  have hc1 : H[a]? = some (vp_cell (G.2.1 0) (N', .inl (A a))) := hat1
  obtain ⟨-, k0, hk0', cm0, hkk0⟩ := (hKK.2 0 _ rfl).1 N' (fun j => .int (A a0 j))
  obtain ⟨-, k1, hk1', cm1, hkk1⟩ := (hKK.2 0 _ rfl).1 N' (fun j => .int (A a j))
  obtain ⟨vm', X', step⟩ := X.arraycopy hexec hown hlink hnat hstat hini (src := a0) (dst := a) (cs := vp_cell (G.2.1 0) (N', .inl (A a0))) (cd := vp_cell (G.2.1 0) (N', .inl (A a))) (srcPos := 0) (destPos := 0) (n := nI N') (by rw [hT]; exact hc0) (by rw [hT]; exact hc1)
    (fun _ h => by cases h) (fun _ h => by cases h) (fun h => by cases h) (fun h => by cases h) hk0' hk1' hkk0 hkk1 rfl (by decide) (by decide) (nI_pos (by omega))
    (by rw [hti]; show ¬ (0 : Int32).toInt + _ > ((arrV (G.2.1 0) N' (fun j => .int (A a0 j))).slots.size : Int); rw [arrV_size]; show ¬ (0 : Int) + _ > _; omega)
    (by rw [hti]; show ¬ (0 : Int32).toInt + _ > ((arrV (G.2.1 0) N' (fun j => .int (A a j))).slots.size : Int); rw [arrV_size]; show ¬ (0 : Int) + _ > _; omega)
    (fun vm₁ _ i hi => by
      have e9 : (vp_cell (G.2.1 0) (N', .inl (A a0))).slots.getD ((0 : Int32).toNatClampNeg + i) .null = .int (A a0 (0 + i)) := by
        show (arrV (G.2.1 0) N' (fun j => .int (A a0 j))).slots.getD _ _ = _
        rw [hz, Array.getD_eq_getD_getElem?, arrV_read _ _ (by omega)]
        rfl
      rw [e9]
      exact ⟨rfl, trivial⟩)
    (g := F0 m pc ls (.int (nI N') :: .int 0 :: .ref a :: .int 0 :: .ref a0 :: rest)) rfl (by rw [hml]) (rest := rest) rfl (by rw [hb]; exact hdg) hframes (by show 2 * 0 + _ + _ ≤ _; omega)
  have e1 : copied (vp_cell (G.2.1 0) (N', .inl (A a0))) (vp_cell (G.2.1 0) (N', .inl (A a))) 0 0 (nI N') = vp_cell (G.2.1 0) (N', .inl (va_cpy (A a0) (A a) 0 0 N')) := by
    have h9 : copied (vp_cell (G.2.1 0) (N', .inl (A a0))) (vp_cell (G.2.1 0) (N', .inl (A a))) 0 0 (nI N') = vp_cell (G.2.1 0) (N', .inl (va_cpy (A a0) (A a) (0 : Int32).toNatClampNeg (0 : Int32).toNatClampNeg (nI N').toNatClampNeg)) := va_copied (fun z => .int z) (G.2.1 0) (G.2.1 0) (A a0) (A a) (by rw [hz, hzn]; omega)
    rw [hz, hzn] at h9
    exact h9
  rw [e1] at X' step
  have hl : a < H.size := (Array.getElem?_eq_some_iff.mp hc1).1
  have hheap : ((T.setVm vm').setCell a (vp_cell (G.2.1 0) (N', .inl (va_cpy (A a0) (A a) 0 0 N')))).heap = H.setIfInBounds a (vp_cell (G.2.1 0) (N', .inl (va_cpy (A a0) (A a) 0 0 N'))) := by rw [← hT]; rfl
  have oq : ∀ q : Nat, q ≠ a → (H.setIfInBounds a (vp_cell (G.2.1 0) (N', .inl (va_cpy (A a0) (A a) 0 0 N'))))[q]? = H[q]? := fun q hq => by simp [Array.getElem?_setIfInBounds, Ne.symm hq]
  have hsz : (H.setIfInBounds a (vp_cell (G.2.1 0) (N', .inl (va_cpy (A a0) (A a) 0 0 N')))).size = H.size := by simp
  have hB := (hw.2.2.1.1 a (by rw [hk1]; decide)).1
  obtain ⟨t, a1, b1⟩ := kk _ _ ⟨hw.1, hw.2.1, m_hp_A (by rw [hk1]; decide) hw.2.2.1 (by rw [hk1]; decide) (m_ent_24 hk1) hsz oq (by
    rw [m_up_self, hn1]
    show (H.setIfInBounds a _)[a]? = some _
    simp [Array.getElem?_setIfInBounds, hl]), ⟨by rw [hsz]; exact hw.2.2.2.1.1, fun q g1 g2 => by
      rw [oq q (fun z => g2 (by rw [z]; exact hB))]
      exact hw.2.2.2.1.2.1 q g1 g2, fun q hq => by
      rcases List.mem_append.mp hq with h | h
      · exact hw.2.2.2.1.2.2 q h
      · obtain ⟨z, -, hz2⟩ := List.mem_map.mp h
        rw [← hz2]
        exact hB⟩, hw.2.2.2.2⟩ _ hheap X'
  exact ⟨t, step t a1, b1⟩
/-- a number one below: -1 for 0 -/
def c_pr (k : Nat) : Int32 := nI k - 1
theorem c_pr_s (k : Nat) : c_pr (k + 1) = nI k := nI_pred k
theorem c_pr_0 : c_pr 0 = -1 := by decide
theorem c_pr_d (k : Nat) : c_pr (k + 1) + (-1) = c_pr k := by
  rw [c_pr_s]
  unfold c_pr
  rw [Int32.sub_eq_add_neg]
theorem c_pr_le {k q : Nat} (hk : k ≤ 1000) (hq : q ≤ 1000) : nI q ≤ c_pr k ↔ q < k := by
  cases k with
  | zero =>
    rw [c_pr_0]
    constructor
    · intro h
      have h9 := Int32.le_iff_toInt_le.mp h
      rw [nI_toInt (by omega), show (-1 : Int32).toInt = -1 from by decide] at h9
      omega
    · intro h; omega
  | succ k => rw [c_pr_s, nI_leI (by omega) (by omega)]; omega
theorem c_pr_neg {k : Nat} (hk : k ≤ 1000) : c_pr k < 0 ↔ k = 0 := by
  cases k with
  | zero => rw [c_pr_0]; decide
  | succ k =>
    rw [c_pr_s]
    constructor
    · intro h; exact absurd h (nI_pos (by omega))
    · intro h; omega
theorem sumN_add (f g : Nat → Nat) : ∀ n, sumN (fun j => f j + g j) n = sumN f n + sumN g n
  | 0 => rfl
  | n + 1 => by
    show sumN (fun j => f j + g j) n + (f n + g n) = (sumN f n + f n) + (sumN g n + g n)
    rw [sumN_add f g n]
    omega
theorem sumN_front (f : Nat → Nat) : ∀ n, sumN f (n + 1) = f 0 + sumN (fun j => f (j + 1)) n
  | 0 => by show 0 + f 0 = f 0 + 0; omega
  | n + 1 => by
    show sumN f (n + 1) + f (n + 1) = f 0 + (sumN (fun j => f (j + 1)) n + f (n + 1))
    rw [sumN_front f n]
    omega
theorem sumN_rev (f : Nat → Nat) : ∀ n, sumN f n = sumN (fun b => f (n - (b + 1))) n
  | 0 => rfl
  | n + 1 => by
    rw [sumN_front (fun b => f (n + 1 - (b + 1))) n]
    show sumN f n + f n = f (n + 1 - (0 + 1)) + _
    rw [sumN_rev f n, show n + 1 - (0 + 1) = n from rfl]
    have e : sumN (fun j => f (n + 1 - (j + 1 + 1))) n = sumN (fun b => f (n - (b + 1))) n := sumN_congr (fun k _ => by rw [show n + 1 - (k + 1 + 1) = n - (k + 1) by omega])
    rw [e]
    omega
end MJ6
