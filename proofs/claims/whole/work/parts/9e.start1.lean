section
variable {s : State} {args : Array Value}
theorem lw_tb (hts : ∀ w ∈ lw_tbl, w.before args s = true) : ∀ w ∈ tables_1, w.before args s = true := fun w h => hts w (List.mem_append_right _ h)
theorem lw_x1 (hT : ∀ w ∈ tables_1, w.before args s = true) {n d : String} (hpriv : (Cond.privateMethod (lw_sb n d)).before args s = true) (hinst : (Cond.instanceMethod (lw_sb n d)).before args s = true) : (Cond.selects "java/lang/StringBuilder" (lw_sb n d) (lw_sb n d)).before args s = true := by
  obtain ⟨c, r, m, -, -, h3, -, mk, h4, h5⟩ := Cond.selects_spec (hT (.selects "java/lang/StringBuilder" (lw_sb "isLatin1" "()Z") (lw_sb "isLatin1" "()Z")) (List.mem_of_getElem? (i := 732) (by decide +kernel)))
  refine lw_selP ⟨show ("java/lang/AbstractStringBuilder" : String) ≠ _ by decide, show ("java/lang/AbstractStringBuilder" : String) ≠ _ by decide⟩ (hT (.instantiable "java/lang/StringBuilder" 4) (List.mem_of_getElem? (i := 225) (by decide +kernel))) ?_ hpriv hinst
  obtain ⟨mk2, methM, hnamed, -⟩ := Cond.instanceMethod_spec hinst
  have e1 : s.vm.findClass "java/lang/AbstractStringBuilder" = some mk2.cls := findClass_of_methodNamed hnamed
  have e2 : s.vm.findClass "java/lang/AbstractStringBuilder" = some m.cls := findClass_of_methodNamed h3
  have e := Option.some.inj (e1.symm.trans e2)
  exact ⟨mk, mk2, hnamed, by rw [e]; exact h4, h5⟩
theorem lw_tbx_ok (hts : ∀ w ∈ lw_tbl, w.before args s = true) : ∀ w ∈ lw_tbx, w.before args s = true := fun w h => (List.mem_append.mp h).elim (hts w) (fun h => by
  have hT := lw_tb hts
  rcases List.mem_cons.mp h with rfl | h
  · exact lw_x1 hT (hT (.privateMethod (lw_sb "ensureCapacityInternal" "(I)V")) (List.mem_of_getElem? (i := 710) (by decide +kernel))) (hT (.instanceMethod (lw_sb "ensureCapacityInternal" "(I)V")) (List.mem_of_getElem? (i := 711) (by decide +kernel)))
  · rcases List.mem_cons.mp h with rfl | h
    · exact lw_x1 hT (hT (.privateMethod (lw_sb "newCapacity" "(I)I")) (List.mem_of_getElem? (i := 714) (by decide +kernel))) (hT (.instanceMethod (lw_sb "newCapacity" "(I)I")) (List.mem_of_getElem? (i := 715) (by decide +kernel)))
    · rcases List.mem_cons.mp h with rfl | h
      · exact lw_x1 hT (hT (.privateMethod (lw_sb "inflate" "()V")) (List.mem_of_getElem? (i := 779) (by decide +kernel))) (hT (.instanceMethod (lw_sb "inflate" "()V")) (List.mem_of_getElem? (i := 780) (by decide +kernel)))
      · exact absurd h List.not_mem_nil)
theorem m_ent_0 {G : mG} {K : Nat → Nat} {I : Nat → Nat → Int32} {R : Nat → Nat → Option Nat} {F : Nat → UInt32} {A : Nat → Nat → Int32} {N : Nat → Nat} {L : Nat → List Nat} {T : Nat → List Int32} {J : Nat → Nat → Int64} {D : Nat → Nat → UInt64} {o : Nat} (h : K o = 0) : m_ent G K I R F A N L T J D o = none := by unfold m_ent; simp [h]
theorem m_prim {ty : FieldType} (h : (Cond.arrayClass ty).before args s = true) (hp : ∀ C, ty ≠ .object C) (hr : ∀ cA, va_RA s cA ty = (s.vm.findClass ("[" ++ ty.toString) = some cA)) : ∃ cA : ClassId, ArrOfT s cA ty ∧ va_RA s cA ty := by
  obtain ⟨c, k, comp, h1, h2, h3⟩ := Cond.arrayClass_spec h
  exact ⟨c, fun n z => ⟨fun k h => (by cases h), k, h2, comp, h3⟩, by rw [hr]; exact h1⟩
set_option maxHeartbeats 3200000 in
set_option maxRecDepth 100000 in
theorem m_start (hts : ∀ w ∈ lw_tbl, w.before args s = true) (hg : (Jvm.Cond.and given_1 narrow_1).before args s = true) : ∃ G : mG, G.2.2.1 = s.heap.size ∧ m_wo G (fun _ => 0) (fun _ _ => 0) (fun _ _ => none) (fun _ => 0) (fun _ _ => 0) (fun _ => 0) (fun _ => []) (fun _ => []) (fun _ _ => 0) (fun _ _ => 0) s s.heap [] := by
  have hT := lw_tb hts
  have hX := lw_tbx_ok hts
  have hN := flat_of_before _ hg
  have hA : ∀ a : Nat, a < s.heap.size → ¬ s.heap.size ≤ a := fun a h => Nat.not_le.mpr h
  have hk : ∀ q ∈ vwCl, ∃ (cC : ClassId) (iS : Nat → Nat), u_Kn s q.1 q.2.1 q.2.2 cC iS := (List.forall_mem_cons.mpr ⟨u_known hX inJ0 (hT (.instantiable RJ0 4) (List.mem_of_getElem? (i := 572) (by decide +kernel))), (List.forall_mem_cons.mpr ⟨u_known hX inJ4 (hT (.instantiable RJ4 4) (List.mem_of_getElem? (i := 225) (by decide +kernel))), (List.forall_mem_cons.mpr ⟨u_known hX inJx00060 (hT (.instantiable RJx00060 6) (List.mem_of_getElem? (i := 554) (by decide +kernel))), (List.forall_mem_cons.mpr ⟨u_known hX inJx7c733 (hT (.instantiable RJx7c733 6) (List.mem_of_getElem? (i := 1019) (by decide +kernel))), (List.forall_mem_cons.mpr ⟨u_known hX inJx4a65c (hT (.instantiable RJx4a65c 3) (List.mem_of_getElem? (i := 48) (by decide +kernel))), (List.forall_mem_cons.mpr ⟨u_known hX inX0 (hT (.instantiable RX0 7) (List.mem_of_getElem? (i := 608) (by decide +kernel))), (List.forall_mem_cons.mpr ⟨u_known hX inX1 (hT (.instantiable RX1 1) (List.mem_of_getElem? (i := 74) (by decide +kernel))), (List.forall_mem_cons.mpr ⟨u_known hX inX2 (hT (.instantiable RX2 6) (List.mem_of_getElem? (i := 520) (by decide +kernel))), (List.forall_mem_cons.mpr ⟨u_known hX inX3 (hT (.instantiable RX3 3) (List.mem_of_getElem? (i := 207) (by decide +kernel))), (List.forall_mem_cons.mpr ⟨u_known hX inX4 (hT (.instantiable RX4 2) (List.mem_of_getElem? (i := 109) (by decide +kernel))), (List.forall_mem_cons.mpr ⟨u_known hX inX5 (hT (.instantiable RX5 3) (List.mem_of_getElem? (i := 101) (by decide +kernel))), (List.forall_mem_cons.mpr ⟨u_known hX inX6 (hT (.instantiable RX6 5) (List.mem_of_getElem? (i := 896) (by decide +kernel))), (List.forall_mem_cons.mpr ⟨u_known hX inX7 (hT (.instantiable RX7 2) (List.mem_of_getElem? (i := 87) (by decide +kernel))), (List.forall_mem_cons.mpr ⟨u_known hX inX8 (hT (.instantiable RX8 9) (List.mem_of_getElem? (i := 40) (by decide +kernel))), (List.forall_mem_cons.mpr ⟨u_known hX inX9 (hT (.instantiable RX9 35) (List.mem_of_getElem? (i := 1412) (by decide +kernel))), (fun _ h => absurd h List.not_mem_nil)⟩)⟩)⟩)⟩)⟩)⟩)⟩)⟩)⟩)⟩)⟩)⟩)⟩)⟩)⟩)
  have h1 : ∀ c : Nat, ∃ d : ClassId × (Nat → Nat), ∀ q, vwCl[c]? = some q → u_Kn s q.1 q.2.1 q.2.2 d.1 d.2 := fun c => by
    rcases hq : vwCl[c]? with _ | q
    · exact ⟨(0, fun _ => 0), fun q h => nomatch h⟩
    · obtain ⟨a, b, h⟩ := hk q (List.mem_of_getElem? hq)
      exact ⟨(a, b), fun q' h' => by cases h'; exact h⟩
  obtain ⟨D, hD⟩ := Classical.axiomOfChoice h1
  obtain ⟨c0, ha0⟩ := m_prim (hT (.arrayClass .int) (List.mem_of_getElem? (i := 99) (by decide +kernel))) (fun _ h => nomatch h) (fun _ => rfl)
  obtain ⟨c1, ha1⟩ := m_prim (hT (.arrayClass .boolean) (List.mem_of_getElem? (i := 1527) (by decide +kernel))) (fun _ h => nomatch h) (fun _ => rfl)
  obtain ⟨c2, ha2⟩ := m_prim (hT (.arrayClass .char) (List.mem_of_getElem? (i := 1528) (by decide +kernel))) (fun _ h => nomatch h) (fun _ => rfl)
  obtain ⟨c3, ha3⟩ := m_prim (hT (.arrayClass .long) (List.mem_of_getElem? (i := 1786) (by decide +kernel))) (fun _ h => nomatch h) (fun _ => rfl)
  obtain ⟨c4, ha4⟩ := m_prim (hT (.arrayClass .double) (List.mem_of_getElem? (i := 1787) (by decide +kernel))) (fun _ h => nomatch h) (fun _ => rfl)
  obtain ⟨c6, ha6⟩ := m_prim (hT (.arrayClass .byte) (List.mem_of_getElem? (i := 256) (by decide +kernel))) (fun _ h => nomatch h) (fun _ => rfl)
  obtain ⟨comp, c5, k5, o1, -, o3, o4, o5⟩ := Cond.arrayOver_spec (hT (.arrayOver (.object "java/lang/Object")) (List.mem_of_getElem? (i := 185) (by decide +kernel)))
  have ha5 : ArrOfT s c5 (.object "java/lang/Object") ∧ va_RA s c5 (.object "java/lang/Object") := ⟨fun N z => ⟨fun k h => (by cases h), k5, o3, comp, o4⟩, k5, comp, o3, o4, o1, o5⟩
  obtain ⟨mi, hmi⟩ := va_Mi.of (hN (.isRef (.mirror "[Ljava/lang/Object;")) (by decide +kernel))
  obtain ⟨t, ht, hTt⟩ := va_Tof (N := 0) (f := fun _ => Value.null) (A := fun q => s.heap.size ≤ q) (by decide) (hN (.arrayOf (.static "java/util/ArrayList" "DEFAULTCAPACITY_EMPTY_ELEMENTDATA" "[Ljava/lang/Object;") (.object "java/lang/Object")) (by decide +kernel)) (va_eqt (hN (.eq (.length (.static "java/util/ArrayList" "DEFAULTCAPACITY_EMPTY_ELEMENTDATA" "[Ljava/lang/Object;")) (.int 0)) (by decide +kernel))) (fun j h => absurd h (Nat.not_lt_zero j)) hA
  have w1 := vx_Zqof (A := fun q => s.heap.size ≤ q) (hT (.laysStatic Bundle.tN "UNASSIGNED_STACK" Bundle.steD) (List.mem_of_getElem? (i := 459) (by decide +kernel))) (hT (.initialized Bundle.tN) (List.mem_of_getElem? (i := 19) (by decide +kernel))) (hN (.isRef (.static Bundle.tN "UNASSIGNED_STACK" Bundle.steD)) (by decide +kernel)) hA
  have w2 := vx_Zqof (A := fun q => s.heap.size ≤ q) (hT (.laysStatic Bundle.tN "SUPPRESSED_SENTINEL" Bundle.listD) (List.mem_of_getElem? (i := 461) (by decide +kernel))) (hT (.initialized Bundle.tN) (List.mem_of_getElem? (i := 19) (by decide +kernel))) (hN (.isRef (.static Bundle.tN "SUPPRESSED_SENTINEL" Bundle.listD)) (by decide +kernel)) hA
  have w3 := va_Zref (A := fun q => s.heap.size ≤ q) (hT (.laysStatic "java/util/ArrayList" "DEFAULTCAPACITY_EMPTY_ELEMENTDATA" "[Ljava/lang/Object;") (List.mem_of_getElem? (i := 60) (by decide +kernel))) (hT (.initialized "java/util/ArrayList") (List.mem_of_getElem? (i := 4) (by decide +kernel))) ht hA
  have w4 := va_Zof (A := fun q => s.heap.size ≤ q) (hT (.laysStatic "java/lang/String" "COMPACT_STRINGS" "Z") (List.mem_of_getElem? (i := 234) (by decide +kernel))) (hT (.initialized "java/lang/String") (List.mem_of_getElem? (i := 16) (by decide +kernel))) (va_eqt (hN (.eq (.static "java/lang/String" "COMPACT_STRINGS" "Z") (.int 1)) (by decide +kernel))) hA
  have w5 := vx_Zqof (A := fun q => s.heap.size ≤ q) (hT (.laysStatic "jdk/internal/util/Preconditions" "SIOOBE_FORMATTER" "Ljava/util/function/BiFunction;") (List.mem_of_getElem? (i := 747) (by decide +kernel))) (hT (.initialized "jdk/internal/util/Preconditions") (List.mem_of_getElem? (i := 28) (by decide +kernel))) (hN (.isRef (.static "jdk/internal/util/Preconditions" "SIOOBE_FORMATTER" "Ljava/util/function/BiFunction;")) (by decide +kernel)) hA
  have hcas : ∀ q : String × String, q ∈ m_cas → va_Nw (.castable q.1 q.2) s := fun q hq => va_Nw.of rfl (hT _ ((by decide +kernel : ∀ q ∈ m_cas, Cond.castable q.1 q.2 ∈ tables_1) q hq))
  have hncs : ∀ q : String × String, q ∈ m_ncs → va_Nc q.1 q.2 s := fun q hq => va_Nc.of (hN _ ((by decide +kernel : ∀ q ∈ m_ncs, Cond.not (.castable q.1 q.2) ∈ flatC (Jvm.Cond.and given_1 narrow_1)) q hq))
  refine ⟨((fun c => (D c).1, fun c => (D c).2), (fun k => if k = 0 then c0 else if k = 1 then c1 else if k = 2 then c2 else if k = 3 then c3 else if k = 4 then c4 else if k = 5 then c5 else if k = 6 then c6 else mi), s.heap.size, t), rfl, ⟨fun c q hq => hD c q hq, fun k q hq => ?_⟩, ⟨w1, w2, w3, ⟨_, hTt⟩, hcas, hncs, va_AO.of (hT (.arrayOver (.object "java/lang/Object")) (List.mem_of_getElem? (i := 185) (by decide +kernel))), va_Dc.of (hT (.declares ⟨"java/lang/Object", "getClass", "()Ljava/lang/Class;"⟩) (List.mem_of_getElem? (i := 1828) (by decide +kernel))), hmi, w4, w5⟩, ⟨fun o h => absurd rfl h, fun o e h => ?_, fun o _ => ⟨fun _ => rfl, fun _ => rfl, rfl, fun _ => rfl, rfl, rfl, rfl, fun _ => rfl, fun _ => rfl⟩, fun o h => absurd (show (0 : Nat) = 11 from h) (by decide), fun o h => absurd (show (0 : Nat) = 40 from h) (by decide), fun o h => absurd (show (0 : Nat) = 12 from h) (by decide), fun o h => absurd (show (0 : Nat) = 41 from h) (by decide)⟩, va_S.rf, Nat.le_refl _⟩
  · have hm := List.mem_of_getElem? hq
    simp only [m_tys, List.mem_cons, List.not_mem_nil, or_false] at hm
    rcases hm with rfl | rfl | rfl | rfl | rfl | rfl | rfl
    · exact ha0
    · exact ha1
    · exact ha2
    · exact ha3
    · exact ha4
    · exact ha5
    · exact ha6
  · rw [m_ent_0 rfl] at h
    cases h
theorem m_cstr (hts : ∀ w ∈ lw_tbl, w.before args s = true) (hg : (Jvm.Cond.and given_1 narrow_1).before args s = true) : c_str s := by
  have hT := lw_tb hts
  have hN := flat_of_before _ hg
  refine ⟨fun q hq => ?_, fun y hy => va_Nw.of rfl (hT _ ((by decide +kernel : ∀ y ∈ c_dcs, Cond.declares (Bundle.initS y) ∈ tables_1) y hy))⟩
  obtain ⟨a, c, cell, k, h1, -⟩ := Cond.exactly_spec (hN _ ((by decide +kernel : ∀ q ∈ c_strs, Cond.exactly (.string RX8 q.1) "java/lang/String" ∈ flatC (Jvm.Cond.and given_1 narrow_1)) q hq))
  exact ⟨a, vk_R.of (hT _ ((by decide +kernel : ∀ q ∈ c_strs, Cond.stringRef RX8 q.1 q.2 ∈ tables_1) q hq)) h1⟩
end
