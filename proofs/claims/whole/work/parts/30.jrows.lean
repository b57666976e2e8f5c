section MJ
variable {p : Program} {l : Launch} {e : Env} {R0 : Room} {s : State} {m : MethodId} {args : Array Value} {below : List Frame} {meth : Method} {c : Code} {H : Heap} {locs : List Loc} {cells slots : Nat} {Q : State → Prop} {cc : ByteArray} {pc : Nat} {ls : Array Slot} {rest : List Value} {G : mG} {K : Nat → Nat} {I : Nat → Nat → Int32} {R : Nat → Nat → Option Nat} {F : Nat → UInt32} {A : Nat → Nat → Int32} {N : Nat → Nat} {L : Nat → List Nat} {T : Nat → List Int32} {J : Nat → Nat → Int64} {D : Nat → Nat → UInt64}
theorem y_P1 {o : Nat} {en : va_E} (h : va_at G.1 vwCl (o, en) H) : va_P G.1 vwCl [(o, en)] H := by
  intro k q hk
  match k, hk with
  | 0, hk => cases hk; exact h
  | k + 1, hk => simp at hk
theorem y_put (hexec : p.tables.exec = Jvm.exec) (hb : c.code = cc) {own ref C : String} {TT : u_T} {NN ci index o : Nat} {Ts : List Cond} (hts : ∀ w ∈ Ts, w.before args s = true) (hin : ∀ w ∈ u_ws C TT NN, w ∈ Ts) (ty0 : Nat → FieldType) (hty : ∀ k, k < NN → parseFieldDescriptor (TT k).2.2.1 = some (ty0 k)) (hnm : ∀ a, a < NN → ∀ b, b < NN → a ≠ b → (TT a).2.1 ≠ (TT b).2.1) (hown : s.vm.findClass own = some m.cls) (hKK : va_K G.1 vwCl (m_tys G) s) {fs : List Value} (hat : va_at G.1 vwCl (o, .inr (ci, fs)) H) (hc : vwCl[ci]? = some (C, TT, NN)) (k : Nat) (hk : k < NN) (hlink : (Cond.fieldLink own index ref (TT k).2.1 (TT k).2.2.1).before args s = true) (hsame : ∀ x, s.fieldFound? (TT k).1 (TT k).2.1 (TT k).2.2.1 = some x → s.fieldFound? ref (TT k).2.1 (TT k).2.2.1 = some x) (hfin : (TT k).2.2.2 = false) {ty : FieldType} {v : Value} (hd : parseFieldDescriptor (TT k).2.2.1 = some ty) (hn : narrow ty v = v) (hfit : fits ty v = true) (hl : k < fs.length)
    (hdg : decode cc pc = .ok (.putfield index, 3)) (kk : ∀ (H1 : Heap) (k9 : Nat), H1.size = H.size → (∀ q : Nat, q ≠ o → H1[q]? = H[q]?) → va_at G.1 vwCl (o, .inr (ci, fs.set k v)) H1 → W p l e R0 s m args below meth c H1 (locs ++ [⟨o, k9⟩]) cells slots Q (F0 m (pc + 3) ls rest)) : W p l e R0 s m args below meth c H locs cells slots Q (F0 m pc ls (v :: .ref o :: rest)) := by
  have hap := va_apart (own := own) hts hin ty0 hty hnm hKK hc
  obtain ⟨r, h1, cell, q1, q2, q3, q4⟩ := hat
  have hr : r = (C, TT, NN) := Option.some.inj (h1.symm.trans hc)
  subst hr
  obtain ⟨hS, hfc, kC, hkC, hkind⟩ := hKK.1 ci _ hc
  obtain ⟨cf, kf, fi, f, hi, hsl⟩ := hS k hk
  have hlay := hts _ (hin _ (u_in_lay hk))
  have hst := (u_facts hfc hkC (u_lays hts hin hk) hi).1
  unfold u_lay at hlay
  rw [if_neg (by rw [hfin]; decide)] at hlay
  have h6 := u_store hfc hkC hkind hlay hi hd hn hfit
  refine W.putK hexec hb (f := f) ⟨hown, hlink, ⟨_, _, _, hsame _ hi⟩, hst⟩ (by rw [q2]; exact h6) q1 q3 (by rw [hsl]; exact k2_hasslot (q4 k hk)) rfl rfl hdg fun H' e1 e2 e3 => kk H' _ e2 e3 ?_
  rw [hsl] at e1
  exact ⟨_, hc, t_OB.to (V := updV (vp_V fs) k v) ⟨_, e1, q2, q3, t_set q4 hap hk v⟩ (fun j _ => vp_updV_set hl v j)⟩
theorem y_astq (hexec : p.tables.exec = Jvm.exec) (hb : c.code = cc) {a n ci v : Nat} {r : vw_C} {vs : List Value} {f : Nat → Option Nat} {i : Int32} (hKK : va_K G.1 vwCl (m_tys G) s) (ha : va_at G.1 vwCl (a, .inl (G.2.1 5, n, .inr (.inr (.inr (.inr f))))) H) (hca : va_Nw (.castable r.1 "java/lang/Object") s) (hv : va_at G.1 vwCl (v, .inr (ci, vs)) H) (hc : vwCl[ci]? = some r) (hin : vp_in i n) (hdg : decode cc pc = .ok (.aastore, 1))
    (kk : ∀ (H1 : Heap) (k9 : Nat), H1.size = H.size → (∀ q : Nat, q ≠ a → H1[q]? = H[q]?) → va_at G.1 vwCl (a, .inl (G.2.1 5, n, .inr (.inr (.inr (.inr (va_up f i.toNatClampNeg (some v))))))) H1 → W p l e R0 s m args below meth c H1 (locs ++ [⟨a, k9⟩]) cells slots Q (F0 m (pc + 1) ls rest)) : W p l e R0 s m args below meth c H locs cells slots Q (F0 m pc ls (.ref v :: .int i :: .ref a :: rest)) := by
  have hlt : i.toNatClampNeg < n := Nat.not_le.mp fun q => hin (Or.inr q)
  have h0 : ¬ i < 0 := fun q => hin (Or.inl q)
  obtain ⟨r', hr', cellV, g1, g2, g3, -⟩ := hv
  have hcls := (hKK.1 ci r hc).2
  obtain ⟨kA, comp, k1, k2, k3, -⟩ := (hKK.2 5 _ rfl).2
  obtain ⟨kE, hkE, -⟩ := Vm.findClass_spec k3
  obtain ⟨c0, t1, f1, f2, f3⟩ := Cond.castable_spec (va_Nw.use (A := args) rfl hca)
  cases hcls.1.symm.trans f1
  cases k3.symm.trans f2
  obtain ⟨kC, hkC, -⟩ := hcls.2
  refine W.aast hexec hb ha (fun q h => by cases h) (fun h => by cases h) k1 k2 rfl hkE ⟨h0, by show _ < (arrV _ _ _).slots.size; rw [arrV_size]; exact hlt⟩ g1 (fun q h => by rw [g3] at h; cases h) (by rw [g2]; exact hkC) (by rw [g2]; exact f3) rfl rfl hdg fun H1 e9 z oq => kk H1 _ z oq ?_
  show H1[a]? = some (vp_cell _ _)
  rw [e9]
  rw [vp_cell_q, vp_cell_q, arrV_store]
  congr 2
  funext q
  by_cases hq : q = i.toNatClampNeg
  · subst hq
    simp [updV, va_up, va_rf]
  · simp [updV, va_up, hq]
theorem y_astqN (hexec : p.tables.exec = Jvm.exec) (hb : c.code = cc) {a n : Nat} {f : Nat → Option Nat} {i : Int32} (hKK : va_K G.1 vwCl (m_tys G) s) (ha : va_at G.1 vwCl (a, .inl (G.2.1 5, n, .inr (.inr (.inr (.inr f))))) H) (hin : vp_in i n) (hdg : decode cc pc = .ok (.aastore, 1))
    (kk : ∀ (H1 : Heap) (k9 : Nat), H1.size = H.size → (∀ q : Nat, q ≠ a → H1[q]? = H[q]?) → va_at G.1 vwCl (a, .inl (G.2.1 5, n, .inr (.inr (.inr (.inr (va_up f i.toNatClampNeg none)))))) H1 → W p l e R0 s m args below meth c H1 (locs ++ [⟨a, k9⟩]) cells slots Q (F0 m (pc + 1) ls rest)) : W p l e R0 s m args below meth c H locs cells slots Q (F0 m pc ls (.null :: .int i :: .ref a :: rest)) := by
  refine va_WaastN (C := "java/lang/Object") hexec hb ha ((hKK.2 5 _ rfl).1 n (fun j => va_rf (f j))) (fun h => by cases h) (by show ¬ (i < 0 ∨ (arrV _ _ _).slots.size ≤ _); rw [arrV_size]; exact hin) rfl rfl hdg fun H1 e9 z oq => kk H1 _ z oq ?_
  show H1[a]? = some (vp_cell _ _)
  rw [e9]
  rw [vp_cell_q, vp_cell_q, arrV_store]
  congr 2
  funext q
  by_cases hq : q = i.toNatClampNeg
  · subst hq
    simp [updV, va_up, va_rf]
  · simp [updV, va_up, hq]
theorem y_copyq (hexec : p.tables.exec = Jvm.exec) (hb : c.code = cc) (hml : c.maxLocals = ls.size) {own : String} {index : Nat} (hown : s.vm.findClass own = some m.cls) (hlink : (Cond.methodLink own index arraycopyName).before args s = true) (hnat : (Cond.native arraycopyName).before args s = true) (hstat : (Cond.static arraycopyName).before args s = true) (hini : (Cond.initialized "java/lang/System").before args s = true)
    (hKK : va_K G.1 vwCl (m_tys G) s) {a0 a n0 n1 : Nat} {f f1 : Nat → Option Nat} (ha0 : va_at G.1 vwCl (a0, .inl (G.2.1 5, n0, .inr (.inr (.inr (.inr f))))) H) (ha1 : va_at G.1 vwCl (a, .inl (G.2.1 5, n1, .inr (.inr (.inr (.inr f1))))) H)
    {sp dp n : Int32} (h1 : ¬ sp < 0) (h2 : ¬ dp < 0) (h3 : ¬ n < 0) (h4 : sp.toNatClampNeg + n.toNatClampNeg ≤ n0) (h5 : dp.toNatClampNeg + n.toNatClampNeg ≤ n1) (hel : ∀ i : Nat, i < n.toNatClampNeg → ∀ y : Nat, f (sp.toNatClampNeg + i) = some y → ∃ (ci : Nat) (r : vw_C) (vs : List Value), va_at G.1 vwCl (y, .inr (ci, vs)) H ∧ vwCl[ci]? = some r ∧ va_Nw (.castable r.1 "java/lang/Object") s)
    (hframes : 1 ≤ R0.frames) (hlocals : (rest.map fun v => v.category).sum + (nativeFrameWords "java/lang/System" "arraycopy" 5 + 11) ≤ R0.locals) (hdg : decode cc pc = .ok (.invokestatic index, 3))
    (kk : ∀ (H1 : Heap) (locs1 : List Loc), H1.size = H.size → (∀ q : Nat, q ≠ a → H1[q]? = H[q]?) → (∀ q ∈ locs1, q.base = a) → va_at G.1 vwCl (a, .inl (G.2.1 5, n1, .inr (.inr (.inr (.inr (va_cpy f f1 sp.toNatClampNeg dp.toNatClampNeg n.toNatClampNeg)))))) H1 → W p l e R0 s m args below meth c H1 (locs ++ locs1) cells slots Q (F0 m (pc + 3) ls rest)) : W p l e R0 s m args below meth c H locs cells slots Q (F0 m pc ls (.int n :: .int dp :: .ref a :: .int sp :: .ref a0 :: rest)) := by
  have nn : ∀ z : Int32, ¬ z < 0 → z.toInt = (z.toNatClampNeg : Int) := by
    intro z hz
    have hz0 : (0 : Int) ≤ z.toInt := by
      have := Int32.not_lt.mp hz
      simpa using Int32.le_iff_toInt_le.mp this
    show z.toInt = ((z.toInt.toNat : Nat) : Int)
    omega
  intro T hT X
  have hc0 : H[a0]? = some (vp_cell (G.2.1 5) (n0, .inr (.inr (.inr (.inr f))))) := ha0
  have hc1 : H[a]? = some (vp_cell (G.2.1 5) (n1, .inr (.inr (.inr (.inr f1))))) := ha1
  obtain ⟨-, k0, hk0, cm0, hkk0⟩ := (hKK.2 5 _ rfl).1 n0 (fun j => va_rf (f j))
  obtain ⟨-, k1, hk1, cm1, hkk1⟩ := (hKK.2 5 _ rfl).1 n1 (fun j => va_rf (f1 j))
  obtain ⟨vm', X', step⟩ := X.arraycopy hexec hown hlink hnat hstat hini (src := a0) (dst := a) (cs := vp_cell (G.2.1 5) (n0, .inr (.inr (.inr (.inr f))))) (cd := vp_cell (G.2.1 5) (n1, .inr (.inr (.inr (.inr f1))))) (srcPos := sp) (destPos := dp) (n := n) (by rw [hT]; exact hc0) (by rw [hT]; exact hc1)
    (fun _ h => by cases h) (fun _ h => by cases h) (fun h => by cases h) (fun h => by cases h) hk0 hk1 hkk0 hkk1 rfl h1 h2 h3
    (by rw [nn sp h1, nn n h3]; show ¬ _ > ((arrV (G.2.1 5) n0 (fun j => va_rf (f j))).slots.size : Int); rw [arrV_size]; omega)
    (by rw [nn dp h2, nn n h3]; show ¬ _ > ((arrV (G.2.1 5) n1 (fun j => va_rf (f1 j))).slots.size : Int); rw [arrV_size]; omega)
    (fun vm₁ hal i hi => by
      have e9 : (vp_cell (G.2.1 5) (n0, .inr (.inr (.inr (.inr f))))).slots.getD (sp.toNatClampNeg + i) .null = va_rf (f (sp.toNatClampNeg + i)) := by
        show (arrV (G.2.1 5) n0 (fun j => va_rf (f j))).slots.getD _ _ = _
        rw [Array.getD_eq_getD_getElem?, arrV_read _ _ (by omega)]
        rfl
      rw [e9]
      cases hy : f (sp.toNatClampNeg + i) with
      | none => exact ⟨rfl, trivial⟩
      | some y =>
        obtain ⟨ci, r, vs, hv, hc, hca⟩ := hel i hi y hy
        obtain ⟨r', hr', cellV, g1, g2, g3, -⟩ := hv
        have hcls := (hKK.1 ci r hc).2
        obtain ⟨kA, comp, r1, r2, r3, -⟩ := (hKK.2 5 _ rfl).2
        cases hk1.symm.trans r1
        cases hkk1.symm.trans r2
        obtain ⟨c0, t1, q1, q2, q3⟩ := Cond.castable_spec (va_Nw.use (A := args) rfl hca)
        cases hcls.1.symm.trans q1
        cases r3.symm.trans q2
        obtain ⟨kC, hkC, -⟩ := Vm.findClass_spec q1
        obtain ⟨kE, hkE, -⟩ := Vm.findClass_spec r3
        obtain ⟨kC', hkC', -⟩ := hal.2.2 _ _ hkC
        obtain ⟨kE', hkE', -⟩ := hal.2.2 _ _ hkE
        refine ⟨rfl, cellV, (show T.heap[y]? = some cellV by rw [hT]; exact g1), (fun q h => by rw [h] at g3; cases g3), ⟨kC', by rw [g2]; exact hkC'⟩, ⟨kE', hkE'⟩, ?_⟩
        show vm₁.assignable _ _ = true
        rw [hal.assignable, g2]
        exact q3)
    (g := F0 m pc ls (.int n :: .int dp :: .ref a :: .int sp :: .ref a0 :: rest)) rfl (by rw [hml]) (rest := rest) rfl (by rw [hb]; exact hdg) hframes (by show 2 * 0 + _ + _ ≤ _; omega)
  have e1 : copied (vp_cell (G.2.1 5) (n0, .inr (.inr (.inr (.inr f))))) (vp_cell (G.2.1 5) (n1, .inr (.inr (.inr (.inr f1))))) sp dp n = vp_cell (G.2.1 5) (n1, .inr (.inr (.inr (.inr (va_cpy f f1 sp.toNatClampNeg dp.toNatClampNeg n.toNatClampNeg))))) := by
    rw [vp_cell_q, vp_cell_q, vp_cell_q]
    exact va_copied (fun z => va_rf z) _ _ f f1 h4
  rw [e1] at X' step
  have hl : a < H.size := (Array.getElem?_eq_some_iff.mp hc1).1
  have hheap : ((T.setVm vm').setCell a (vp_cell (G.2.1 5) (n1, .inr (.inr (.inr (.inr (va_cpy f f1 sp.toNatClampNeg dp.toNatClampNeg n.toNatClampNeg))))))).heap = H.setIfInBounds a (vp_cell (G.2.1 5) (n1, .inr (.inr (.inr (.inr (va_cpy f f1 sp.toNatClampNeg dp.toNatClampNeg n.toNatClampNeg)))))) := by rw [← hT]; rfl
  have oq : ∀ q : Nat, q ≠ a → (H.setIfInBounds a (vp_cell (G.2.1 5) (n1, .inr (.inr (.inr (.inr (va_cpy f f1 sp.toNatClampNeg dp.toNatClampNeg n.toNatClampNeg)))))))[q]? = H[q]? := fun q hq => by simp [Array.getElem?_setIfInBounds, Ne.symm hq]
  obtain ⟨t, a1, b1⟩ := kk _ _ (by simp) oq (fun q hq => by
      obtain ⟨z, -, hz⟩ := List.mem_map.mp hq
      rw [← hz]) (show (H.setIfInBounds a _)[a]? = some _ by simp [Array.getElem?_setIfInBounds, hl]) _ hheap X'
  exact ⟨t, step t a1, b1⟩
/-- a fresh array of references -/
theorem y_newq (hexec : p.tables.exec = Jvm.exec) (hb : c.code = cc) {own : String} {index : Nat} (hown : s.vm.findClass own = some m.cls) (hclink : (Cond.classLink own index "java/lang/Object").before args s = true) (hover : va_AO "java/lang/Object" s) (hKK : va_K G.1 vwCl (m_tys G) s) {n : Int32} {N' : Nat} (hn : ¬ n < 0) (hN : n.toNatClampNeg = N') (hbytes : N' * 4 ≤ 536870912) (hcells : cells + 1 ≤ R0.cells) (hslots : slots + N' ≤ R0.slots) (hdg : decode cc pc = .ok (.anewarray index, 3))
    (kk : ∀ (H1 : Heap), H1.size = H.size + 1 → (∀ q : Nat, q < H.size → H1[q]? = H[q]?) → va_at G.1 vwCl (H.size, .inl (G.2.1 5, N', .inr (.inr (.inr (.inr (fun _ => none)))))) H1 → W p l e R0 s m args below meth c H1 locs (cells + 1) (slots + N') Q (F0 m (pc + 3) ls (.ref H.size :: rest))) : W p l e R0 s m args below meth c H locs cells slots Q (F0 m pc ls (.int n :: rest)) := by
  subst hN
  refine W.anew hexec hb hown hclink (va_AO.use hover) rfl hdg rfl hn hbytes hcells hslots fun cA kA comp f1 f2 f3 f4 => ?_
  generalize hH1 : H.push ({ cls := cA, slots := Array.replicate n.toNatClampNeg .null, vm := .none } : Cell) = H1
  have z1 : H1.size = H.size + 1 := by rw [← hH1, Array.size_push]
  have e1 : H1[H.size]? = some (arrV cA n.toNatClampNeg (fun _ => .null)) := by rw [← hH1, Array.getElem?_push_size, ← arrV_new]
  have o1 : ∀ q : Nat, q < H.size → H1[q]? = H[q]? := fun q hq => by rw [← hH1, Array.getElem?_push, if_neg (Nat.ne_of_lt hq)]
  obtain ⟨kA', comp', r1, r2, r3, r4⟩ := (hKK.2 5 _ rfl).2
  have hcA : cA = G.2.1 5 := Option.some.inj (f1.symm.trans r4)
  subst hcA
  refine kk H1 z1 o1 ?_
  show H1[H.size]? = some (vp_cell _ _)
  rw [vp_cell_q]
  exact e1
/-- the clauses of the memory that say nothing of the heap -/
def m_pu (G : mG) (K : Nat → Nat) (I : Nat → Nat → Int32) (R : Nat → Nat → Option Nat) (F : Nat → UInt32) (A : Nat → Nat → Int32) (N : Nat → Nat) (L : Nat → List Nat) (T : Nat → List Int32) (J : Nat → Nat → Int64) (D : Nat → Nat → UInt64) : Prop :=
  (∀ o, K o = 0 → (∀ f, I f o = 0) ∧ (∀ f, R f o = none) ∧ F o = 0 ∧ (∀ j, A o j = 0) ∧ N o = 0 ∧ L o = [] ∧ T o = [] ∧ (∀ j, J o j = 0) ∧ (∀ j, D o j = 0)) ∧
  (∀ o, K o = 11 → (R 111 o = none ∧ L o = []) ∨ (R 111 o = some G.2.2.2 ∧ L o = []) ∨ ∃ e, R 111 o = some e ∧ K e = 40 ∧ R 99 e = some o ∧ (L o).length ≤ N e ∧ 0 < N e ∧ N e ≤ 1000) ∧
  (∀ e, K e = 40 → ∃ o, R 99 e = some o ∧ K o = 11 ∧ R 111 o = some e) ∧
  (∀ o, K o = 12 → (R 120 o = none ∧ T o = []) ∨ ∃ e, R 120 o = some e ∧ K e = 41 ∧ R 99 e = some o ∧ (T o).length ≤ N e ∧ 16 ≤ N e ∧ N e ≤ 1000 ∧ ∀ j, j < (T o).length → ∃ ch : Nat, ch < 256 ∧ (T o)[j]? = some (nI ch) ∧ A e j = sb_b ch) ∧
  (∀ e, K e = 41 → ∃ o, R 99 e = some o ∧ K o = 12)
theorem m_wo_pu (hw : m_wo G K I R F A N L T J D s H locs) : m_pu G K I R F A N L T J D := hw.2.2.1.2.2
/-- the picture is whole again -/
theorem m_fin {K' : Nat → Nat} {I' : Nat → Nat → Int32} {R' : Nat → Nat → Option Nat} {F' : Nat → UInt32} {A' : Nat → Nat → Int32} {N' : Nat → Nat} {L' : Nat → List Nat} {T' : Nat → List Int32} {J' : Nat → Nat → Int64} {D' : Nat → Nat → UInt64} {H1 : Heap} {locs1 : List Loc} (hw : m_wo G K I R F A N L T J D s H locs) (Y : List Nat) (hs : H.size ≤ H1.size) (hq : ∀ q : Nat, q < H.size → q ∉ Y → H1[q]? = H[q]?) (hY : ∀ q ∈ Y, G.2.2.1 ≤ q) (hL : ∀ q ∈ locs1, G.2.2.1 ≤ q.base)
    (hK : ∀ o, K' o ≠ 0 → (K o ≠ 0 ∨ (G.2.2.1 ≤ o ∧ o < H1.size))) (hent : ∀ b eb, m_ent G K' I' R' F' A' N' L' T' J' D' b = some eb → (b ∉ Y ∧ m_ent G K I R F A N L T J D b = some eb) ∨ va_at G.1 vwCl (b, eb) H1) (hpu : m_pu G K' I' R' F' A' N' L' T' J' D') : m_wo G K' I' R' F' A' N' L' T' J' D' s H1 locs1 := by
  obtain ⟨h1, h2, h3, h4, h5⟩ := hw
  refine ⟨h1, h2, ⟨fun o ho => ?_, fun b eb hb => ?_, hpu⟩, ⟨Nat.le_trans h4.1 hs, fun q g1 g2 => ?_, hL⟩, h5⟩
  · rcases hK o ho with h | h
    · exact ⟨(h3.1 o h).1, Nat.lt_of_lt_of_le (h3.1 o h).2 hs⟩
    · exact h
  · rcases hent b eb hb with ⟨n1, h⟩ | h
    · have h9 := h3.2.1 b eb h
      exact h9.kept (hq b h9.lt n1)
    · exact h
  · rw [hq q (Nat.lt_of_lt_of_le g1 h4.1) (fun h => g2 (hY q h))]
    exact h4.2.1 q g1 g2
theorem g_11_0 (hexec : p.tables.exec = Jvm.exec) (hb : c.code = cc) {own : String} {index o : Nat} {Ts : List Cond} (hts : ∀ w ∈ Ts, w.before args s = true) (hin : ∀ w ∈ u_ws RJx4a65c TJx4a65c 3, w ∈ Ts) (hown : s.vm.findClass own = some m.cls) (hw : m_wo G K I R F A N L T J D s H locs) (hk : K o = 11) {ref : String} (hsame : ∀ x, s.fieldFound? (TJx4a65c 0).1 (TJx4a65c 0).2.1 (TJx4a65c 0).2.2.1 = some x → s.fieldFound? ref (TJx4a65c 0).2.1 (TJx4a65c 0).2.2.1 = some x) (hlink : (Cond.fieldLink own index ref (TJx4a65c 0).2.1 (TJx4a65c 0).2.2.1).before args s = true) (hdg : decode cc pc = .ok (.getfield index, 3)) (kk : W p l e R0 s m args below meth c H locs cells slots Q (F0 m (pc + 3) ls (.int (I 110 o) :: rest))) : W p l e R0 s m args below meth c H locs cells slots Q (F0 m pc ls (.ref o :: rest)) :=
  m_get hexec hb hts hin hown hw (m_ent_11 hk) rfl 0 (by decide) hlink hsame rfl hdg kk
theorem g_11_1 (hexec : p.tables.exec = Jvm.exec) (hb : c.code = cc) {own : String} {index o : Nat} {Ts : List Cond} (hts : ∀ w ∈ Ts, w.before args s = true) (hin : ∀ w ∈ u_ws RJx4a65c TJx4a65c 3, w ∈ Ts) (hown : s.vm.findClass own = some m.cls) (hw : m_wo G K I R F A N L T J D s H locs) (hk : K o = 11)  (hlink : (Cond.fieldLink own index RJx4a65c (TJx4a65c 1).2.1 (TJx4a65c 1).2.2.1).before args s = true) {r9 : Option Nat} (hr : R 111 o = r9) (hdg : decode cc pc = .ok (.getfield index, 3)) (kk : W p l e R0 s m args below meth c H locs cells slots Q (F0 m (pc + 3) ls (va_rf r9 :: rest))) : W p l e R0 s m args below meth c H locs cells slots Q (F0 m pc ls (.ref o :: rest)) :=
  m_get hexec hb hts hin hown hw (m_ent_11 hk) rfl 1 (by decide) hlink (fun _ h9 => h9) rfl hdg (by rw [hr]; exact kk)
theorem g_11_2 (hexec : p.tables.exec = Jvm.exec) (hb : c.code = cc) {own : String} {index o : Nat} {Ts : List Cond} (hts : ∀ w ∈ Ts, w.before args s = true) (hin : ∀ w ∈ u_ws RJx4a65c TJx4a65c 3, w ∈ Ts) (hown : s.vm.findClass own = some m.cls) (hw : m_wo G K I R F A N L T J D s H locs) (hk : K o = 11)  (hlink : (Cond.fieldLink own index RJx4a65c (TJx4a65c 2).2.1 (TJx4a65c 2).2.2.1).before args s = true) (hdg : decode cc pc = .ok (.getfield index, 3)) (kk : W p l e R0 s m args below meth c H locs cells slots Q (F0 m (pc + 3) ls (.int (nI (L o).length) :: rest))) : W p l e R0 s m args below meth c H locs cells slots Q (F0 m pc ls (.ref o :: rest)) :=
  m_get hexec hb hts hin hown hw (m_ent_11 hk) rfl 2 (by decide) hlink (fun _ h9 => h9) rfl hdg kk
theorem g_12_0 (hexec : p.tables.exec = Jvm.exec) (hb : c.code = cc) {own : String} {index o : Nat} {Ts : List Cond} (hts : ∀ w ∈ Ts, w.before args s = true) (hin : ∀ w ∈ u_ws RJ4 TJ4 4, w ∈ Ts) (hown : s.vm.findClass own = some m.cls) (hw : m_wo G K I R F A N L T J D s H locs) (hk : K o = 12) {ref : String} (hsame : ∀ x, s.fieldFound? (TJ4 0).1 (TJ4 0).2.1 (TJ4 0).2.2.1 = some x → s.fieldFound? ref (TJ4 0).2.1 (TJ4 0).2.2.1 = some x) (hlink : (Cond.fieldLink own index ref (TJ4 0).2.1 (TJ4 0).2.2.1).before args s = true) {r9 : Option Nat} (hr : R 120 o = r9) (hdg : decode cc pc = .ok (.getfield index, 3)) (kk : W p l e R0 s m args below meth c H locs cells slots Q (F0 m (pc + 3) ls (va_rf r9 :: rest))) : W p l e R0 s m args below meth c H locs cells slots Q (F0 m pc ls (.ref o :: rest)) :=
  m_get hexec hb hts hin hown hw (m_ent_12 hk) rfl 0 (by decide) hlink hsame rfl hdg (by rw [hr]; exact kk)
theorem g_12_1 (hexec : p.tables.exec = Jvm.exec) (hb : c.code = cc) {own : String} {index o : Nat} {Ts : List Cond} (hts : ∀ w ∈ Ts, w.before args s = true) (hin : ∀ w ∈ u_ws RJ4 TJ4 4, w ∈ Ts) (hown : s.vm.findClass own = some m.cls) (hw : m_wo G K I R F A N L T J D s H locs) (hk : K o = 12) {ref : String} (hsame : ∀ x, s.fieldFound? (TJ4 1).1 (TJ4 1).2.1 (TJ4 1).2.2.1 = some x → s.fieldFound? ref (TJ4 1).2.1 (TJ4 1).2.2.1 = some x) (hlink : (Cond.fieldLink own index ref (TJ4 1).2.1 (TJ4 1).2.2.1).before args s = true) (hdg : decode cc pc = .ok (.getfield index, 3)) (kk : W p l e R0 s m args below meth c H locs cells slots Q (F0 m (pc + 3) ls (.int 0 :: rest))) : W p l e R0 s m args below meth c H locs cells slots Q (F0 m pc ls (.ref o :: rest)) :=
  m_get hexec hb hts hin hown hw (m_ent_12 hk) rfl 1 (by decide) hlink hsame rfl hdg kk
theorem g_12_3 (hexec : p.tables.exec = Jvm.exec) (hb : c.code = cc) {own : String} {index o : Nat} {Ts : List Cond} (hts : ∀ w ∈ Ts, w.before args s = true) (hin : ∀ w ∈ u_ws RJ4 TJ4 4, w ∈ Ts) (hown : s.vm.findClass own = some m.cls) (hw : m_wo G K I R F A N L T J D s H locs) (hk : K o = 12) {ref : String} (hsame : ∀ x, s.fieldFound? (TJ4 3).1 (TJ4 3).2.1 (TJ4 3).2.2.1 = some x → s.fieldFound? ref (TJ4 3).2.1 (TJ4 3).2.2.1 = some x) (hlink : (Cond.fieldLink own index ref (TJ4 3).2.1 (TJ4 3).2.2.1).before args s = true) (hdg : decode cc pc = .ok (.getfield index, 3)) (kk : W p l e R0 s m args below meth c H locs cells slots Q (F0 m (pc + 3) ls (.int (nI (T o).length) :: rest))) : W p l e R0 s m args below meth c H locs cells slots Q (F0 m pc ls (.ref o :: rest)) :=
  m_get hexec hb hts hin hown hw (m_ent_12 hk) rfl 3 (by decide) hlink hsame rfl hdg kk
theorem p_11_0 (hexec : p.tables.exec = Jvm.exec) (hb : c.code = cc) {own : String} {index o : Nat} {Ts : List Cond} (hts : ∀ w ∈ Ts, w.before args s = true) (hin : ∀ w ∈ u_ws RJx4a65c TJx4a65c 3, w ∈ Ts) (hown : s.vm.findClass own = some m.cls) (hw : m_wo G K I R F A N L T J D s H locs) (hk : K o = 11) {ref : String} (hsame : ∀ x, s.fieldFound? (TJx4a65c 0).1 (TJx4a65c 0).2.1 (TJx4a65c 0).2.2.1 = some x → s.fieldFound? ref (TJx4a65c 0).2.1 (TJx4a65c 0).2.2.1 = some x) (hlink : (Cond.fieldLink own index ref (TJx4a65c 0).2.1 (TJx4a65c 0).2.2.1).before args s = true) {x : Int32}  (hdg : decode cc pc = .ok (.putfield index, 3)) (kk : ∀ (H : Heap) (locs : List Loc), m_wo G K (m_up2 I 110 o x) R F A N L T J D s H locs → W p l e R0 s m args below meth c H locs cells slots Q (F0 m (pc + 3) ls rest)) : W p l e R0 s m args below meth c H locs cells slots Q (F0 m pc ls (.int x :: .ref o :: rest)) := by
  refine m_put hexec hb hts hin tyJx4a65c tyJx4a65c_ok nmJx4a65c hown hw (m_ent_11 hk) rfl 0 (by decide) hlink hsame (Or.inl (by decide)) (ty := .int) (by decide +kernel) rfl rfl (by simp) hdg (fun H1 h1 h2 h3 => ?_) (by rw [hk]; decide) kk
  refine m_hp_I hw.2.2.1 (by rw [hk]; decide) (m_ent_11 (I := m_up2 I 110 o x) hk) h1 h2 ?_
  simp only [m_up2] at h3 ⊢
  simpa using h3
theorem p_12_2 (hexec : p.tables.exec = Jvm.exec) (hb : c.code = cc) {own : String} {index o : Nat} {Ts : List Cond} (hts : ∀ w ∈ Ts, w.before args s = true) (hin : ∀ w ∈ u_ws RJ4 TJ4 4, w ∈ Ts) (hown : s.vm.findClass own = some m.cls) (hw : m_wo G K I R F A N L T J D s H locs) (hk : K o = 12) {ref : String} (hsame : ∀ x, s.fieldFound? (TJ4 2).1 (TJ4 2).2.1 (TJ4 2).2.2.1 = some x → s.fieldFound? ref (TJ4 2).2.1 (TJ4 2).2.2.1 = some x) (hlink : (Cond.fieldLink own index ref (TJ4 2).2.1 (TJ4 2).2.2.1).before args s = true) {x : Int32} (hx : x = 0 ∨ x = 1) (hdg : decode cc pc = .ok (.putfield index, 3)) (kk : ∀ (H : Heap) (locs : List Loc), m_wo G K (m_up2 I 121 o x) R F A N L T J D s H locs → W p l e R0 s m args below meth c H locs cells slots Q (F0 m (pc + 3) ls rest)) : W p l e R0 s m args below meth c H locs cells slots Q (F0 m pc ls (.int x :: .ref o :: rest)) := by
  refine m_put hexec hb hts hin tyJ4 tyJ4_ok nmJ4 hown hw (m_ent_12 hk) rfl 2 (by decide) hlink hsame (Or.inl (by decide)) (ty := .boolean) (by decide +kernel) (by rcases hx with rfl | rfl <;> rfl) (by rcases hx with rfl | rfl <;> rfl) (by simp) hdg (fun H1 h1 h2 h3 => ?_) (by rw [hk]; decide) kk
  refine m_hp_I hw.2.2.1 (by rw [hk]; decide) (m_ent_12 (I := m_up2 I 121 o x) hk) h1 h2 ?_
  simp only [m_up2] at h3 ⊢
  simpa using h3
theorem m_aald_40 (hexec : p.tables.exec = Jvm.exec) (hb : c.code = cc) {o e0 : Nat} {i : Int32} (hw : m_wo G K I R F A N L T J D s H locs) (hk : K e0 = 40) (ho : R 99 e0 = some o) (hin : vp_in i (N e0)) (hdg : decode cc pc = .ok (.aaload, 1)) (kk : W p l e R0 s m args below meth c H locs cells slots Q (F0 m (pc + 1) ls (va_rf ((L o)[i.toNatClampNeg]?) :: rest))) : W p l e R0 s m args below meth c H locs cells slots Q (F0 m pc ls (.int i :: .ref e0 :: rest)) :=
  va_aldq hexec hb hw.1 (m_P1 hw (m_ent_40 hk)) 0 5 rfl rfl hin hdg (by rw [ho]; exact kk)
theorem m_alen_40 (hexec : p.tables.exec = Jvm.exec) (hb : c.code = cc) {o : Nat} (hw : m_wo G K I R F A N L T J D s H locs) (hk : K o = 40) (hdg : decode cc pc = .ok (.arraylength, 1)) (kk : W p l e R0 s m args below meth c H locs cells slots Q (F0 m (pc + 1) ls (.int (nI (N o)) :: rest))) : W p l e R0 s m args below meth c H locs cells slots Q (F0 m pc ls (.ref o :: rest)) :=
  va_alen hexec hb hw.1 (m_P1 hw (m_ent_40 hk)) 0 5 rfl rfl rfl hdg kk
theorem m_alen_41 (hexec : p.tables.exec = Jvm.exec) (hb : c.code = cc) {o : Nat} (hw : m_wo G K I R F A N L T J D s H locs) (hk : K o = 41) (hdg : decode cc pc = .ok (.arraylength, 1)) (kk : W p l e R0 s m args below meth c H locs cells slots Q (F0 m (pc + 1) ls (.int (nI (N o)) :: rest))) : W p l e R0 s m args below meth c H locs cells slots Q (F0 m pc ls (.ref o :: rest)) :=
  va_alen hexec hb hw.1 (m_P1 hw (m_ent_41 hk)) 0 6 rfl rfl rfl hdg kk
theorem m_alen_0 (hexec : p.tables.exec = Jvm.exec) (hb : c.code = cc) (hw : m_wo G K I R F A N L T J D s H locs) (hdg : decode cc pc = .ok (.arraylength, 1)) (kk : W p l e R0 s m args below meth c H locs cells slots Q (F0 m (pc + 1) ls (.int (nI 0) :: rest))) : W p l e R0 s m args below meth c H locs cells slots Q (F0 m pc ls (.ref G.2.2.2 :: rest)) := by
  obtain ⟨z, cell, h1, h2, h3, h4, h5, h6, h7⟩ := (m_st_kept hw.2.1 hw.2.2.2.1.2.1).2.2.2.1
  exact W.alen (n := Int32.ofNat 0) hexec hb h1 h2 h5 rfl rfl hdg kk
/-- what a list may hold -/
def m_elt (K : Nat → Nat) (y : Nat) : Prop := K y = 1 ∨ K y = 3 ∨ K y = 5 ∨ K y = 7
theorem y_elt {y : Nat} (hw : m_wo G K I R F A N L T J D s H locs) (h : m_elt K y) : ∃ (ci : Nat) (r : vw_C) (vs : List Value), va_at G.1 vwCl (y, .inr (ci, vs)) H ∧ vwCl[ci]? = some r ∧ va_Nw (.castable r.1 "java/lang/Object") s := by
  have hc := hw.2.1.2.2.2.2.1
  rcases h with h | h | h | h
  · exact ⟨5, _, _, hw.2.2.1.2.1 y _ (m_ent_1 h), rfl, hc ("Pirateindex$Find", "java/lang/Object") (by decide)⟩
  · exact ⟨7, _, _, hw.2.2.1.2.1 y _ (m_ent_3 h), rfl, hc ("Pirateindex$Isle", "java/lang/Object") (by decide)⟩
  · exact ⟨9, _, _, hw.2.2.1.2.1 y _ (m_ent_5 h), rfl, hc ("Pirateindex$Segment", "java/lang/Object") (by decide)⟩
  · exact ⟨11, _, _, hw.2.2.1.2.1 y _ (m_ent_7 h), rfl, hc ("Pirateindex$Ship", "java/lang/Object") (by decide)⟩
def m_cap (R : Nat → Nat → Option Nat) (N : Nat → Nat) (o : Nat) : Nat := match R 111 o with
  | some e => N e
  | none => 0
/-- what a list stands on: the empty array, or one of its own -/
theorem m_list {o : Nat} (hw : m_wo G K I R F A N L T J D s H locs) (hk : K o = 11) (hr : R 111 o ≠ none) : (R 111 o = some G.2.2.2 ∧ L o = [] ∧ m_cap R N o = 0) ∨ ∃ e, R 111 o = some e ∧ K e = 40 ∧ R 99 e = some o ∧ (L o).length ≤ N e ∧ 0 < N e ∧ N e ≤ 1000 ∧ m_cap R N o = N e ∧ e ≠ G.2.2.2 := by
  have hn0 : ¬ G.2.2.1 ≤ G.2.2.2 := by
    obtain ⟨z, h⟩ := hw.2.1.2.2.2.1
    exact va_T.out h
  have hk0 : K G.2.2.2 = 0 := Classical.byContradiction fun h => hn0 (hw.2.2.1.1 _ h).1
  rcases hw.2.2.1.2.2.2.1 o hk with h | h | ⟨e, h1, h2, h3, h4, h5, h6⟩
  · exact absurd h.1 hr
  · refine Or.inl ⟨h.1, h.2, ?_⟩
    unfold m_cap
    rw [h.1]
    exact (hw.2.2.1.2.2.1 _ hk0).2.2.2.2.1
  · refine Or.inr ⟨e, h1, h2, h3, h4, h5, h6, ?_, fun z => by rw [z, hk0] at h2; exact absurd h2 (by decide)⟩
    unfold m_cap
    rw [h1]
theorem m_len {o : Nat} (hw : m_wo G K I R F A N L T J D s H locs) (hk : K o = 11) : (L o).length ≤ 1000 := by
  rcases hw.2.2.1.2.2.2.1 o hk with h | h | ⟨e, h1, h2, h3, h4, h5, h6⟩
  · rw [h.2]; decide
  · rw [h.2]; decide
  · omega
end MJ
