set_option maxHeartbeats 400000 in
set_option maxRecDepth 100000 in
theorem c_J7_copyOf_6403c (l : Launch) {G : mG} {K : Nat → Nat} {I : Nat → Nat → Int32} {R : Nat → Nat → Option Nat} {F : Nat → UInt32} {A : Nat → Nat → Int32} {N : Nat → Nat} {L : Nat → List Nat} {T : Nat → List Int32} {J : Nat → Nat → Int64} {D : Nat → Nat → UInt64} {o e0 n : Nat} (hke : K e0 = 40) (hoe : R 99 e0 = some o) (hNn : N e0 ≤ n) (hn : n ≤ 1000) (hle : (L o).length ≤ N e0) (hel : ∀ y, y ∈ L o → m_elt K y) : Met l yJ7_copyOf_6403c wsJ7_copyOf_6403c ({ frames := 1, cells := 1, slots := n, locals := 60 } : Room) (va_Pc [.ref e0, .int (nI n), .ref (G.2.1 7)] (m_B G K I R F A N L T J D)) (va_Qq (fun (r : Option Nat) (u : Nat) => r = some u) (fun (u : Nat) U => m_B G K I R F A N L T J D U ∧ y_raw G K L o n u U.heap) (m_A G)) 1 n (m_A G) := by
  refine Met.ofW (cc := cJ7_copyOf_6403c) (maxL := 4) (ret := (some (.array (.object "java/lang/Object")))) (by decide) rfl ?_
  intro p e s m args below meth c s₁ B hml hv
  obtain ⟨rfl, hB⟩ := hv
  have hx := B.exec
  have hb := B.bytes
  have hr := B.returns
  have hts := atoms_spec (ws := wsJ7_copyOf_6403c) B.pre
  have hown : s.vm.findClass RJ7 = some m.cls := findClass_of_methodNamed B.named
  have hlocks := B.notSynchronized
  have hw := m_wo_in hB
  have hl := lv_entry ([.ref e0, .int (nI n), .ref (G.2.1 7)]) (n := 4) (Nat.le_of_ble_eq_true rfl)
  rw [lg_entry_eq]
  generalize (lg_sl ([.ref e0, .int (nI n), .ref (G.2.1 7)]) ++ List.replicate (4 - (lg_sl ([.ref e0, .int (nI n), .ref (G.2.1 7)])).length) Slot.unset).toArray = ls at hl ⊢
  have hl : lv_has ls 4 [(0, .ref e0), (1, .int (nI n)), (2, .ref (G.2.1 7))] := hl
  refine lv_aload_n hx hb dJ7_copyOf_6403c_0 rfl (lv_at hl 2 rfl) ?_
  refine va_ldcM hx hb hown (hts (.classLink RJ7 110 "[Ljava/lang/Object;") (by decide +kernel)) hw.2.1.2.2.2.2.2.2.2.2.1 dJ7_copyOf_6403c_1 ?_
  refine lv_acmp_ne (rx := (some (G.2.1 7))) (ry := (some (G.2.1 7))) (tgt := 13) hx hb dJ7_copyOf_6403c_3 (by decide) (fun c_3 => absurd rfl c_3) (fun c_3 => ?_)
  refine lv_iload_n hx hb dJ7_copyOf_6403c_6 rfl (lv_at hl 1 rfl) ?_
  refine y_newq hx hb hown (hts (.classLink RJ7 2 "java/lang/Object") (by decide +kernel)) hw.2.1.2.2.2.2.2.2.1 hw.1 (nI_pos (by omega)) (nI_clamp (by omega)) (by omega) (Nat.le_of_ble_eq_true rfl) (by show 0 + n ≤ n; omega) dJ7_copyOf_6403c_7 (fun H1 hz1 ho1 hat1 => ?_)
  have hE1 := (hw.2.2.1.2.1 e0 _ (m_ent_40 hke)).kept (ho1 e0 (hw.2.2.1.1 e0 (by rw [hke]; decide)).2)
  rw [hoe] at hE1
  simp only [Option.getD_some] at hE1
  refine lv_goto (tgt := 24) hx hb dJ7_copyOf_6403c_10 (by decide) ?_
  refine lv_astore_n (lv' := [(3, .ref (s.heap.size)), (0, .ref e0), (1, .int (nI n)), (2, .ref (G.2.1 7))]) hx hb dJ7_copyOf_6403c_24 rfl hl (by decide) rfl (fun ls hl => ?_)
  refine lv_aload_n hx hb dJ7_copyOf_6403c_25 rfl (lv_at hl 1 rfl) ?_
  refine lv_iconst (v := 0) hx hb dJ7_copyOf_6403c_26 (by decide) ?_
  refine lv_aload_n hx hb dJ7_copyOf_6403c_27 rfl (lv_at hl 0 rfl) ?_
  refine lv_iconst (v := 0) hx hb dJ7_copyOf_6403c_28 (by decide) ?_
  refine lv_aload_n hx hb dJ7_copyOf_6403c_29 rfl (lv_at hl 1 rfl) ?_
  refine va_alen (v := nI (N e0)) hx hb hw.1 (y_P1 hE1) 0 5 rfl rfl rfl dJ7_copyOf_6403c_30 ?_
  refine lv_iload_n hx hb dJ7_copyOf_6403c_31 rfl (lv_at hl 2 rfl) ?_
  refine va_mmin hx hb (by rw [hml]; exact hl.1.symm) hown (hts (.methodLink RJ7 304 Lib.Math.min.name) (by decide +kernel)) (hts (.static Lib.Math.min.name) (by decide +kernel)) (hts (.initialized "java/lang/Math") (by decide +kernel)) (hts (.code Lib.Math.min.name Lib.Math.min.code 2 (some .int)) (by decide +kernel)) (Nat.le_of_ble_eq_true rfl) (Nat.le_of_ble_eq_true rfl) (Nat.le_of_ble_eq_true rfl) (by show 0 + n ≤ n; omega) dJ7_copyOf_6403c_32 ?_
  rw [show (if (nI n) < (nI (N e0)) then (nI n) else (nI (N e0))) = (nI (N e0)) from (nI_min (by omega) (by omega)).trans (congrArg nI (Nat.min_eq_left hNn))]
  refine y_copyq hx hb (by rw [hml]; exact hl.1.symm) hown (hts (.methodLink RJ7 150 arraycopyName) (by decide +kernel)) (hts (.native arraycopyName) (by decide +kernel)) (hts (.static arraycopyName) (by decide +kernel)) (hts (.initialized "java/lang/System") (by decide +kernel)) hw.1 hE1 hat1 (by decide) (by decide) (nI_pos (by omega)) (by rw [nI_clamp (by omega)]; show 0 + N e0 ≤ N e0; omega) (by rw [nI_clamp (by omega)]; show 0 + N e0 ≤ n; omega) (fun i9 _ y9 hy9 => ?_) (Nat.le_of_ble_eq_true rfl) (Nat.le_of_ble_eq_true rfl) dJ7_copyOf_6403c_35 (fun H2 locs2 hz2 ho2 hL2 hat2 => ?_)
  · obtain ⟨ci, r9, vs, h1, h2, h3⟩ := y_elt hw (hel y9 (List.mem_of_getElem? hy9)); exact ⟨ci, r9, vs, h1.kept (ho1 y9 h1.lt), h2, h3⟩
  have hq0 : K s.heap.size = 0 := Classical.byContradiction fun z => Nat.lt_irrefl _ (hw.2.2.1.1 _ z).2
  have hbs := hw.2.2.2.2
  have hw := m_fin (locs1 := [] ++ locs2) hw [] (by omega) (fun q a _ => (ho2 q (Nat.ne_of_lt a)).trans (ho1 q a)) (by simp) (fun q hq => by rw [hL2 q (by simpa using hq)]; exact hbs) (fun b hb => Or.inl hb) (fun b eb hb => Or.inl ⟨by simp, hb⟩) (m_wo_pu hw)
  have hct : va_cpy (fun i => (L o)[i]?) (fun _ => none) (0 : Int32).toNatClampNeg (0 : Int32).toNatClampNeg (nI (N e0)).toNatClampNeg = fun i => (L o)[i]? := by
    funext j
    rw [nI_clamp (by omega), y_cpy]
    show (if 0 ≤ j ∧ j < 0 + N e0 then (L o)[0 + (j - 0)]? else none) = (L o)[j]?
    split
    · congr 1; omega
    · rw [List.getElem?_eq_none (by omega)]
  rw [hct] at hat2
  have hraw : y_raw G K L o n s.heap.size H2 := ⟨hq0, hbs, by omega, hat2⟩
  refine lv_aload_n hx hb dJ7_copyOf_6403c_38 rfl (lv_at hl 0 rfl) ?_
  refine W.widen (k := 1) (n := n) (by omega) (by omega) ?_
  exact W.aret (v := .ref (s.heap.size)) hx hb hr (Or.inr ⟨_, rfl⟩) (Or.inr ⟨_, rfl⟩) (fun t ht hW => ⟨⟨some (s.heap.size), s.heap.size, rfl, rfl, m_wo_out hw ht hW.alike, by rw [ht]; exact hraw⟩, m_wo_F hw ht⟩) (m_wo_L hw) dJ7_copyOf_6403c_39
set_option maxHeartbeats 400000 in
set_option maxRecDepth 100000 in
theorem c_J7_copyOf_1904c (l : Launch) {G : mG} {K : Nat → Nat} {I : Nat → Nat → Int32} {R : Nat → Nat → Option Nat} {F : Nat → UInt32} {A : Nat → Nat → Int32} {N : Nat → Nat} {L : Nat → List Nat} {T : Nat → List Int32} {J : Nat → Nat → Int64} {D : Nat → Nat → UInt64} {o e0 n : Nat} (hke : K e0 = 40) (hoe : R 99 e0 = some o) (hNn : N e0 ≤ n) (hn : n ≤ 1000) (hle : (L o).length ≤ N e0) (hel : ∀ y, y ∈ L o → m_elt K y) : Met l yJ7_copyOf_1904c wsJ7_copyOf_1904c ({ frames := 2, cells := 1, slots := n, locals := 90 } : Room) (va_Pc [.ref e0, .int (nI n)] (m_B G K I R F A N L T J D)) (va_Qq (fun (r : Option Nat) (u : Nat) => r = some u) (fun (u : Nat) U => m_B G K I R F A N L T J D U ∧ y_raw G K L o n u U.heap) (m_A G)) 1 n (m_A G) := by
  refine Met.ofW (cc := cJ7_copyOf_1904c) (maxL := 2) (ret := (some (.array (.object "java/lang/Object")))) (by decide) rfl ?_
  intro p e s m args below meth c s₁ B hml hv
  obtain ⟨rfl, hB⟩ := hv
  have hx := B.exec
  have hb := B.bytes
  have hr := B.returns
  have hts := atoms_spec (ws := wsJ7_copyOf_1904c) B.pre
  have hown : s.vm.findClass RJ7 = some m.cls := findClass_of_methodNamed B.named
  have hlocks := B.notSynchronized
  have hw := m_wo_in hB
  have hl := lv_entry ([.ref e0, .int (nI n)]) (n := 2) (Nat.le_of_ble_eq_true rfl)
  rw [lg_entry_eq]
  generalize (lg_sl ([.ref e0, .int (nI n)]) ++ List.replicate (2 - (lg_sl ([.ref e0, .int (nI n)])).length) Slot.unset).toArray = ls at hl ⊢
  have hl : lv_has ls 2 [(0, .ref e0), (1, .int (nI n))] := hl
  refine lv_aload_n hx hb dJ7_copyOf_1904c_0 rfl (lv_at hl 0 rfl) ?_
  refine lv_iload_n hx hb dJ7_copyOf_1904c_1 rfl (lv_at hl 1 rfl) ?_
  refine lv_aload_n hx hb dJ7_copyOf_1904c_2 rfl (lv_at hl 0 rfl) ?_
  refine va_getC hx hb (by rw [hml]; exact hl.1.symm) hown (hts (.methodLink RJ7 86 ⟨"java/lang/Object", "getClass", "()Ljava/lang/Class;"⟩) (by decide +kernel)) (va_Dc.use hw.2.1.2.2.2.2.2.2.2.1) (hts (.selects "[Ljava/lang/Object;" ⟨"java/lang/Object", "getClass", "()Ljava/lang/Class;"⟩ ⟨"java/lang/Object", "getClass", "()Ljava/lang/Class;"⟩) (by decide +kernel)) (hts (.instanceMethod ⟨"java/lang/Object", "getClass", "()Ljava/lang/Class;"⟩) (by decide +kernel)) (hts (.native ⟨"java/lang/Object", "getClass", "()Ljava/lang/Class;"⟩) (by decide +kernel)) hw.2.1.2.2.2.2.2.2.2.2.1 ⟨_, hw.2.2.1.2.1 e0 _ (m_ent_40 hke), rfl, va_nmO (hw.1.2 5 _ rfl).2 (by decide +kernel)⟩ (Nat.le_of_ble_eq_true rfl) (Nat.le_of_ble_eq_true rfl) dJ7_copyOf_1904c_3 ?_
  refine m_cqy (va_runS (As := [.ref e0, .int (nI n), .ref (G.2.1 7)]) (rest := []) ⟨hx, hb, hml, hown, hts⟩ (c_J7_copyOf_6403c l hke hoe hNn hn hle hel) (va_cwS 3 hts gJ7_copyOf_1904c_J7_copyOf_6403c rfl rfl rfl (by decide +kernel) ⟨Nat.le_of_ble_eq_true rfl, Nat.le_of_ble_eq_true rfl⟩) ⟨m_blind m_B_calling, fun U hU hW => ⟨rfl, m_wo_call hw hU hW⟩⟩ rfl rfl hl.1 rfl (lv_room (Nat.le_of_ble_eq_true rfl)) dJ7_copyOf_1904c_6 ⟨Nat.le_of_ble_eq_true rfl, by show 0 + n ≤ n; omega⟩) hw (fun r_6 u_6 H locs hp_6 hw hraw => ?_)
  obtain rfl : r_6 = some u_6 := hp_6
  refine W.widen (k := 1) (n := n) (by omega) (by omega) ?_
  exact W.aret (v := .ref u_6) hx hb hr (Or.inr ⟨_, rfl⟩) (Or.inr ⟨_, rfl⟩) (fun t ht hW => ⟨⟨some u_6, u_6, rfl, rfl, m_wo_out hw ht hW.alike, by rw [ht]; exact hraw⟩, m_wo_F hw ht⟩) (m_wo_L hw) dJ7_copyOf_1904c_9
set_option maxHeartbeats 400000 in
set_option maxRecDepth 100000 in
theorem c_Jx4a65c_grow_92f84 (l : Launch) {G : mG} {K : Nat → Nat} {I : Nat → Nat → Int32} {R : Nat → Nat → Option Nat} {F : Nat → UInt32} {A : Nat → Nat → Int32} {N : Nat → Nat} {L : Nat → List Nat} {T : Nat → List Int32} {J : Nat → Nat → Int64} {D : Nat → Nat → UInt64} {o : Nat} (hko : K o = 11) (hr1 : R 111 o ≠ none) (hfull : (L o).length = m_cap R N o) (hc6 : (L o).length ≤ 600) (hel : ∀ y, y ∈ L o → m_elt K y) : Met l yJx4a65c_grow_92f84 wsJx4a65c_grow_92f84 ({ frames := 3, cells := 1, slots := (m_nc (L o).length), locals := 120 } : Room) (va_Pc [.ref o, .int (nI ((L o).length + 1))] (m_B G K I R F A N L T J D)) (va_Qq (fun (r : Option Nat) (u : (Nat → Nat) × (Nat → Nat → Option Nat) × (Nat → Nat)) => ∃ q, r = some q ∧ K q = 0 ∧ u.1 = m_gK K ((R 111 o).getD 0) q ∧ u.2.1 = m_gR R o q ∧ u.2.2 = m_up N q (m_nc (L o).length)) (fun u : (Nat → Nat) × (Nat → Nat → Option Nat) × (Nat → Nat) => m_B G (u.1) I (u.2.1) F A (u.2.2) L T J D) (m_A G)) 1 (m_nc (L o).length) (m_A G) := by
  refine Met.ofW (cc := cJx4a65c_grow_92f84) (maxL := 4) (ret := (some (.array (.object "java/lang/Object")))) (by decide) rfl ?_
  intro p e s m args below meth c s₁ B hml hv
  obtain ⟨rfl, hB⟩ := hv
  have hx := B.exec
  have hb := B.bytes
  have hr := B.returns
  have hts := atoms_spec (ws := wsJx4a65c_grow_92f84) B.pre
  have hown : s.vm.findClass RJx4a65c = some m.cls := findClass_of_methodNamed B.named
  have hlocks := B.notSynchronized
  have hw := m_wo_in hB
  have hl := lv_entry ([.ref o, .int (nI ((L o).length + 1))]) (n := 4) (Nat.le_of_ble_eq_true rfl)
  rw [lg_entry_eq]
  generalize (lg_sl ([.ref o, .int (nI ((L o).length + 1))]) ++ List.replicate (4 - (lg_sl ([.ref o, .int (nI ((L o).length + 1))])).length) Slot.unset).toArray = ls at hl ⊢
  have hl : lv_has ls 4 [(0, .ref o), (1, .int (nI ((L o).length + 1)))] := hl
  have hncg := m_nc_gt (L o).length
  have hncl := m_nc_le hc6
  rcases m_list hw hko hr1 with ⟨hr0, hl0, hc0⟩ | ⟨e0, hr0, hke, hoe, hle, hN0, hN1, hc0, hne⟩
  · skip
    have hlen0 : (L o).length = 0 := by rw [hl0]; rfl
    refine lv_aload_n hx hb dJx4a65c_grow_92f84_0 rfl (lv_at hl 0 rfl) ?_
    refine g_11_1 (r9 := (some (G.2.2.2))) hx hb hts (by decide +kernel) hown hw hko (hts (.fieldLink RJx4a65c 9 "java/util/ArrayList" "elementData" "[Ljava/lang/Object;") (by decide +kernel)) hr0 dJx4a65c_grow_92f84_1 ?_
    refine m_alen_0 hx hb hw dJx4a65c_grow_92f84_4 ?_
    refine lv_istore_n (lv' := [(2, .int (nI 0)), (0, .ref o), (1, .int (nI ((L o).length + 1)))]) hx hb dJx4a65c_grow_92f84_5 rfl hl (by decide) rfl (fun ls hl => ?_)
    refine lv_iload_n hx hb dJx4a65c_grow_92f84_6 rfl (lv_at hl 0 rfl) ?_
    refine lv_if_gt (tgt := 20) hx hb dJx4a65c_grow_92f84_7 (by decide) (fun c_7 => absurd c_7 (by decide)) (fun c_7 => ?_)
    refine lv_aload_n hx hb dJx4a65c_grow_92f84_10 rfl (lv_at hl 1 rfl) ?_
    refine g_11_1 (r9 := (some (G.2.2.2))) hx hb hts (by decide +kernel) hown hw hko (hts (.fieldLink RJx4a65c 9 "java/util/ArrayList" "elementData" "[Ljava/lang/Object;") (by decide +kernel)) hr0 dJx4a65c_grow_92f84_11 ?_
    refine va_gets hx hb hw.2.1.2.2.1 hw.2.2.2.1 hown (hts (.fieldLink RJx4a65c 39 "java/util/ArrayList" "DEFAULTCAPACITY_EMPTY_ELEMENTDATA" "[Ljava/lang/Object;") (by decide +kernel)) (fun _ h9 => h9) dJx4a65c_grow_92f84_14 ?_
    refine lv_acmp_eq (rx := (some (G.2.2.2))) (ry := (some (G.2.2.2))) (tgt := 45) hx hb dJx4a65c_grow_92f84_17 (by decide) (fun c_17 => ?_) (fun c_17 => absurd rfl c_17)
    refine lv_aload_n hx hb dJx4a65c_grow_92f84_45 rfl (lv_at hl 1 rfl) ?_
    refine lv_bipush (v := 10) hx hb dJx4a65c_grow_92f84_46 (by decide) ?_
    refine lv_iload_n hx hb dJx4a65c_grow_92f84_48 rfl (lv_at hl 2 rfl) ?_
    refine va_mmax hx hb (by rw [hml]; exact hl.1.symm) hown (hts (.methodLink RJx4a65c 79 Lib.Math.max.name) (by decide +kernel)) (hts (.static Lib.Math.max.name) (by decide +kernel)) (hts (.initialized "java/lang/Math") (by decide +kernel)) (hts (.code Lib.Math.max.name Lib.Math.max.code 2 (some .int)) (by decide +kernel)) (Nat.le_of_ble_eq_true rfl) (Nat.le_of_ble_eq_true rfl) (Nat.le_of_ble_eq_true rfl) (Nat.le_of_ble_eq_true rfl) dJx4a65c_grow_92f84_49 ?_
    rw [show (if 10 < (nI ((L o).length + 1)) then (nI ((L o).length + 1)) else 10) = (nI 10) from by rw [hlen0]; decide]
    refine y_newq hx hb hown (hts (.classLink RJx4a65c 7 "java/lang/Object") (by decide +kernel)) hw.2.1.2.2.2.2.2.2.1 hw.1 (by decide) (N' := 10) (by decide) (by decide) (Nat.le_of_ble_eq_true rfl) (by show 0 + 10 ≤ m_nc (L o).length; rw [hlen0]; decide) dJx4a65c_grow_92f84_52 (fun H1 hz1 ho1 hat1 => ?_)
    have hq0 : K s.heap.size = 0 := Classical.byContradiction fun z => Nat.lt_irrefl _ (hw.2.2.1.1 _ z).2
    have hoL := (hw.2.2.1.1 o (by rw [hko]; decide)).2
    have hnc0 : m_nc (L o).length = 10 := by rw [hlen0]; rfl
    have hatA : va_at G.1 vwCl (s.heap.size, .inl (G.2.1 5, (m_nc (L o).length, .inr (.inr (.inr (.inr (fun i => (L o)[i]?))))))) H1 := by
      rw [hnc0, hl0]
      simpa using hat1
    refine lv_dup_x1 hx hb dJx4a65c_grow_92f84_55 rfl rfl ?_
    have hoB := (hw.2.2.1.1 o (by rw [hko]; decide)).1
    have hbq : G.2.2.1 ≤ s.heap.size := hw.2.2.2.2
    have hqo : s.heap.size ≠ o := fun z => by omega
    have hLL := hw.2.2.2.1.2.2
    refine y_put hx hb hts (by decide +kernel) tyJx4a65c tyJx4a65c_ok nmJx4a65c hown hw.1 ((hw.2.2.1.2.1 o _ (m_ent_11 hko)).kept (ho1 o hoL)) rfl 1 (by decide) (hts (.fieldLink RJx4a65c 9 "java/util/ArrayList" "elementData" "[Ljava/lang/Object;") (by decide +kernel)) (fun _ h9 => h9) (by decide) (ty := .array (.object "java/lang/Object")) (by decide +kernel) rfl rfl (by simp) dJx4a65c_grow_92f84_56 (fun H2 k9 hz2 hq2 hat2 => ?_)
    have hw := m_fin_G (H1 := H2) (locs1 := [] ++ [⟨o, k9⟩]) (n := m_nc (L o).length) hw hko hr0 hq0 ⟨hbq, by omega⟩ (by omega) (by omega) hncl (by omega) (fun b a b1 b2 => (hq2 b b1).trans (ho1 b a)) (fun q hq => by
      rcases List.mem_append.mp hq with h | h
      · exact hLL q h
      · rw [List.mem_singleton.mp h]; exact hoB) (by simpa [va_rf] using hat2) (hatA.kept (hq2 (s.heap.size) hqo))
    refine W.widen (k := 1) (n := (m_nc (L o).length)) (by omega) (by rw [hnc0]; omega) ?_
    exact W.aret (v := .ref (s.heap.size)) hx hb hr (Or.inr ⟨_, rfl⟩) (Or.inr ⟨_, rfl⟩) (fun t ht hW => ⟨⟨(some (s.heap.size)), (m_gK K G.2.2.2 (s.heap.size), m_gR R o (s.heap.size), m_up N (s.heap.size) (m_nc (L o).length)), rfl, ⟨s.heap.size, rfl, hq0, by rw [hr0]; rfl, rfl, rfl⟩, m_wo_out hw ht hW.alike⟩, m_wo_F hw ht⟩) (m_wo_L hw) dJx4a65c_grow_92f84_59
  · skip
    have hlenN : (L o).length = N e0 := hfull.trans hc0
    refine lv_aload_n hx hb dJx4a65c_grow_92f84_0 rfl (lv_at hl 0 rfl) ?_
    refine g_11_1 (r9 := (some e0)) hx hb hts (by decide +kernel) hown hw hko (hts (.fieldLink RJx4a65c 9 "java/util/ArrayList" "elementData" "[Ljava/lang/Object;") (by decide +kernel)) hr0 dJx4a65c_grow_92f84_1 ?_
    refine m_alen_40 hx hb hw hke dJx4a65c_grow_92f84_4 ?_
    refine lv_istore_n (lv' := [(2, .int (nI (N e0))), (0, .ref o), (1, .int (nI ((L o).length + 1)))]) hx hb dJx4a65c_grow_92f84_5 rfl hl (by decide) rfl (fun ls hl => ?_)
    refine lv_iload_n hx hb dJx4a65c_grow_92f84_6 rfl (lv_at hl 0 rfl) ?_
    refine lv_if_gt (tgt := 20) hx hb dJx4a65c_grow_92f84_7 (by decide) (fun c_7 => ?_) (fun c_7 => absurd (nI_lt (a := 0) hN0 (by omega)) c_7)
    refine lv_iload_n hx hb dJx4a65c_grow_92f84_20 rfl (lv_at hl 0 rfl) ?_
    refine lv_iload_n hx hb dJx4a65c_grow_92f84_21 rfl (lv_at hl 2 rfl) ?_
    refine lv_iload_n hx hb dJx4a65c_grow_92f84_22 rfl (lv_at hl 0 rfl) ?_
    refine lv_isub hx hb dJx4a65c_grow_92f84_23 ?_
    rw [pk_sub (show N e0 ≤ (L o).length + 1 by omega), show (L o).length + 1 - N e0 = 1 by omega]
    refine lv_iload_n hx hb dJx4a65c_grow_92f84_24 rfl (lv_at hl 0 rfl) ?_
    refine lv_iconst (v := 1) hx hb dJx4a65c_grow_92f84_25 (by decide) ?_
    refine lv_ishr hx hb dJx4a65c_grow_92f84_26 ?_
    rw [show (nI (N e0) >>> ((1 : Int32) &&& 31)) = nI (N e0 / 2) from by rw [show ((1 : Int32) &&& 31) = 1 from by decide, pk_shrN (by omega) 1 1 (by decide)]]
    refine m_ci (va_runS (As := [.int (nI (N e0)), .int (nI 1), .int (nI (N e0 / 2))]) (rest := []) ⟨hx, hb, hml, hown, hts⟩ (c_J8_newLength_cabcc l (by omega) (by omega) (by omega) (by omega)) (va_cwS 3 hts gJx4a65c_grow_92f84_J8_newLength_cabcc rfl rfl rfl (by decide +kernel) ⟨Nat.le_of_ble_eq_true rfl, Nat.le_of_ble_eq_true rfl⟩) ⟨m_blind m_B_calling, fun U hU hW => ⟨rfl, m_wo_call hw hU hW⟩⟩ rfl rfl hl.1 rfl (lv_room (Nat.le_of_ble_eq_true rfl)) dJx4a65c_grow_92f84_27 ⟨Nat.le_of_ble_eq_true rfl, Nat.le_of_ble_eq_true rfl⟩) hw (fun r_27 u_27 H locs hp_27 hw => ?_)
    have hncE : N e0 + max 1 (N e0 / 2) = m_nc (L o).length := by rw [hlenN]; unfold m_nc; rw [if_neg (by omega)]
    obtain rfl : r_27 = nI (m_nc (L o).length) := by rw [← hncE]; exact hp_27
    refine lv_istore_n (lv' := [(3, .int (nI (m_nc (L o).length))), (2, .int (nI (N e0))), (0, .ref o), (1, .int (nI ((L o).length + 1)))]) hx hb dJx4a65c_grow_92f84_30 rfl hl (by decide) rfl (fun ls hl => ?_)
    refine lv_aload_n hx hb dJx4a65c_grow_92f84_31 rfl (lv_at hl 2 rfl) ?_
    refine lv_aload_n hx hb dJx4a65c_grow_92f84_32 rfl (lv_at hl 2 rfl) ?_
    refine g_11_1 (r9 := (some e0)) hx hb hts (by decide +kernel) hown hw hko (hts (.fieldLink RJx4a65c 9 "java/util/ArrayList" "elementData" "[Ljava/lang/Object;") (by decide +kernel)) hr0 dJx4a65c_grow_92f84_33 ?_
    refine lv_iload_n hx hb dJx4a65c_grow_92f84_36 rfl (lv_at hl 0 rfl) ?_
    refine m_cqy (va_runS (As := [.ref e0, .int (nI (m_nc (L o).length))]) (rest := [.ref o]) ⟨hx, hb, hml, hown, hts⟩ (c_J7_copyOf_1904c l hke hoe (by omega) hncl hle hel) (va_cwS 2 hts gJx4a65c_grow_92f84_J7_copyOf_1904c rfl rfl rfl (by decide +kernel) ⟨Nat.le_of_ble_eq_true rfl, Nat.le_of_ble_eq_true rfl⟩) ⟨m_blind m_B_calling, fun U hU hW => ⟨rfl, m_wo_call hw hU hW⟩⟩ rfl rfl hl.1 rfl (lv_room (Nat.le_of_ble_eq_true rfl)) dJx4a65c_grow_92f84_37 ⟨Nat.le_of_ble_eq_true rfl, by show 0 + 0 + m_nc (L o).length ≤ m_nc (L o).length; omega⟩) hw (fun r_37 u_37 H locs hp_37 hw hraw => ?_)
    obtain rfl : r_37 = some u_37 := hp_37
    obtain ⟨hq0, hbq, hqz, hatA⟩ := hraw
    have hoL := (hw.2.2.1.1 o (by rw [hko]; decide)).2
    have hqo : u_37 ≠ o := fun z => by rw [z, hko] at hq0; exact absurd hq0 (by decide)
    have hLL := hw.2.2.2.1.2.2
    have ho1 : ∀ q : Nat, q < H.size → H[q]? = H[q]? := fun _ _ => rfl
    refine lv_dup_x1 hx hb dJx4a65c_grow_92f84_40 rfl rfl ?_
    have hoB := (hw.2.2.1.1 o (by rw [hko]; decide)).1
    refine y_put hx hb hts (by decide +kernel) tyJx4a65c tyJx4a65c_ok nmJx4a65c hown hw.1 ((hw.2.2.1.2.1 o _ (m_ent_11 hko)).kept (ho1 o hoL)) rfl 1 (by decide) (hts (.fieldLink RJx4a65c 9 "java/util/ArrayList" "elementData" "[Ljava/lang/Object;") (by decide +kernel)) (fun _ h9 => h9) (by decide) (ty := .array (.object "java/lang/Object")) (by decide +kernel) rfl rfl (by simp) dJx4a65c_grow_92f84_41 (fun H2 k9 hz2 hq2 hat2 => ?_)
    have hw := m_fin_G (H1 := H2) (locs1 := locs ++ [⟨o, k9⟩]) (n := m_nc (L o).length) hw hko hr0 hq0 ⟨hbq, by omega⟩ (by omega) (by omega) hncl (by omega) (fun b a b1 b2 => (hq2 b b1).trans (ho1 b a)) (fun q hq => by
      rcases List.mem_append.mp hq with h | h
      · exact hLL q h
      · rw [List.mem_singleton.mp h]; exact hoB) (by simpa [va_rf] using hat2) (hatA.kept (hq2 u_37 hqo))
    refine W.widen (k := 1) (n := (m_nc (L o).length)) (by omega) (by omega) ?_
    exact W.aret (v := .ref u_37) hx hb hr (Or.inr ⟨_, rfl⟩) (Or.inr ⟨_, rfl⟩) (fun t ht hW => ⟨⟨(some u_37), (m_gK K e0 u_37, m_gR R o u_37, m_up N u_37 (m_nc (L o).length)), rfl, ⟨u_37, rfl, hq0, by rw [hr0]; rfl, rfl, rfl⟩, m_wo_out hw ht hW.alike⟩, m_wo_F hw ht⟩) (m_wo_L hw) dJx4a65c_grow_92f84_44
set_option maxHeartbeats 400000 in
set_option maxRecDepth 100000 in
theorem c_Jx4a65c_grow_d5877 (l : Launch) {G : mG} {K : Nat → Nat} {I : Nat → Nat → Int32} {R : Nat → Nat → Option Nat} {F : Nat → UInt32} {A : Nat → Nat → Int32} {N : Nat → Nat} {L : Nat → List Nat} {T : Nat → List Int32} {J : Nat → Nat → Int64} {D : Nat → Nat → UInt64} {o : Nat} (hko : K o = 11) (hr1 : R 111 o ≠ none) (hfull : (L o).length = m_cap R N o) (hc6 : (L o).length ≤ 600) (hel : ∀ y, y ∈ L o → m_elt K y) : Met l yJx4a65c_grow_d5877 wsJx4a65c_grow_d5877 ({ frames := 4, cells := 1, slots := (m_nc (L o).length), locals := 150 } : Room) (va_Pc [.ref o] (m_B G K I R F A N L T J D)) (va_Qq (fun (r : Option Nat) (u : (Nat → Nat) × (Nat → Nat → Option Nat) × (Nat → Nat)) => ∃ q, r = some q ∧ K q = 0 ∧ u.1 = m_gK K ((R 111 o).getD 0) q ∧ u.2.1 = m_gR R o q ∧ u.2.2 = m_up N q (m_nc (L o).length)) (fun u : (Nat → Nat) × (Nat → Nat → Option Nat) × (Nat → Nat) => m_B G (u.1) I (u.2.1) F A (u.2.2) L T J D) (m_A G)) 1 (m_nc (L o).length) (m_A G) := by
  refine Met.ofW (cc := cJx4a65c_grow_d5877) (maxL := 1) (ret := (some (.array (.object "java/lang/Object")))) (by decide) rfl ?_
  intro p e s m args below meth c s₁ B hml hv
  obtain ⟨rfl, hB⟩ := hv
  have hx := B.exec
  have hb := B.bytes
  have hr := B.returns
  have hts := atoms_spec (ws := wsJx4a65c_grow_d5877) B.pre
  have hown : s.vm.findClass RJx4a65c = some m.cls := findClass_of_methodNamed B.named
  have hlocks := B.notSynchronized
  have hw := m_wo_in hB
  have hl := lv_entry ([.ref o]) (n := 1) (Nat.le_of_ble_eq_true rfl)
  rw [lg_entry_eq]
  generalize (lg_sl ([.ref o]) ++ List.replicate (1 - (lg_sl ([.ref o])).length) Slot.unset).toArray = ls at hl ⊢
  have hl : lv_has ls 1 [(0, .ref o)] := hl
  refine lv_aload_n hx hb dJx4a65c_grow_d5877_0 rfl (lv_at hl 0 rfl) ?_
  refine lv_aload_n hx hb dJx4a65c_grow_d5877_1 rfl (lv_at hl 0 rfl) ?_
  refine g_11_2 hx hb hts (by decide +kernel) hown hw hko (hts (.fieldLink RJx4a65c 48 "java/util/ArrayList" "size" "I") (by decide +kernel)) dJx4a65c_grow_d5877_2 ?_
  refine lv_iconst (v := 1) hx hb dJx4a65c_grow_d5877_5 (by decide) ?_
  refine lv_iadd hx hb dJx4a65c_grow_d5877_6 ?_
  rw [nI_1]
  refine m_cq (va_runV (As := [.int (nI ((L o).length + 1))]) (rest := []) ⟨hx, hb, hml, hown, hts⟩ (c_Jx4a65c_grow_92f84 l hko hr1 hfull hc6 hel) (cwV 1 hts gJx4a65c_grow_d5877_Jx4a65c_grow_92f84 rfl rfl rfl (by decide +kernel) ⟨Nat.le_of_ble_eq_true rfl, Nat.le_of_ble_eq_true rfl⟩) ⟨m_blind m_B_calling, m_recv hw (m_ent_11 hko) rfl, fun U hU hW => ⟨rfl, m_wo_call hw hU hW⟩⟩ rfl rfl hl.1 rfl (lv_room (Nat.le_of_ble_eq_true rfl)) dJx4a65c_grow_d5877_7 ⟨Nat.le_of_ble_eq_true rfl, by show 0 + m_nc (L o).length ≤ m_nc (L o).length; omega⟩) hw (fun r_7 u_7 H locs hp_7 hw => ?_)
  obtain ⟨K_1, R_2, N_3⟩ := u_7
  have hw : m_wo G K_1 I R_2 F A N_3 L T J D s H locs := hw
  dsimp only at hp_7
  obtain ⟨q9, hr9, hq9, eK9, eR9, eN9⟩ := hp_7
  obtain rfl : r_7 = some q9 := hr9
  refine W.widen (k := 1) (n := (m_nc (L o).length)) (by omega) (by omega) ?_
  exact W.aret (v := .ref q9) hx hb hr (Or.inr ⟨_, rfl⟩) (Or.inr ⟨_, rfl⟩) (fun t ht hW => ⟨⟨(some q9), (K_1, R_2, N_3), rfl, ⟨q9, rfl, hq9, eK9, eR9, eN9⟩, m_wo_out hw ht hW.alike⟩, m_wo_F hw ht⟩) (m_wo_L hw) dJx4a65c_grow_d5877_10
