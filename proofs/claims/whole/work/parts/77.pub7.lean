theorem q_any {p : Nat → Bool} : ∀ {n : Nat}, anyB p n = true ↔ ∃ k, k < n ∧ p k = true
  | 0 => ⟨fun h => Bool.noConfusion h, fun ⟨_, h, _⟩ => absurd h (Nat.not_lt_zero _)⟩
  | n + 1 => by
    show (anyB p n || p n) = true ↔ _
    rw [Bool.or_eq_true, q_any]
    constructor
    · rintro (⟨k, h1, h2⟩ | h)
      · exact ⟨k, by omega, h2⟩
      · exact ⟨n, by omega, h⟩
    · rintro ⟨k, h1, h2⟩
      by_cases e : k = n
      · exact Or.inr (by rw [← e]; exact h2)
      · exact Or.inl ⟨k, by omega, h2⟩
section
variable {K : Nat → Nat} {I : Nat → Nat → Int32} {R : Nat → Nat → Option Nat} {N : Nat → Nat} {A : Nat → Nat → Int32} {L : Nat → List Nat} {T : Nat → List Int32} {x : Nat} {cd : Nat → Nat} {Z : mZ} {M : mM}
theorem q_seg (h : c_sim K I R N A L T x cd Z M) (v : Int32) : o_seg Z M v = true ↔ ∃ a, (L (cd 10)).find? (fun a => decide (I 50 a = v)) = some a := by
  have hs := h.2.2.2.2.1
  have hz : zn Z 3 = (L (cd 10)).length := zn_of hs.1 (by have := hs.2.1; omega)
  unfold o_seg
  rw [q_any, hz]
  constructor
  · rintro ⟨k, h1, h2⟩
    have ha := List.getElem?_eq_getElem h1
    have h3 := (hs.2.2.1 k _ ha).2.1
    cases hf : (L (cd 10)).find? (fun a => decide (I 50 a = v)) with
    | some a => exact ⟨a, rfl⟩
    | none =>
      have := List.find?_eq_none.mp hf _ (List.mem_of_getElem? ha)
      exact absurd (by rw [h3]; exact h2) this
  · rintro ⟨a, ha⟩
    obtain ⟨k, hk, hk2⟩ := List.getElem_of_mem (List.mem_of_find?_eq_some ha)
    refine ⟨k, hk, ?_⟩
    rw [← (hs.2.2.1 k a (List.getElem?_eq_some_iff.mpr ⟨hk, hk2⟩)).2.1]
    exact List.find?_some (p := fun a => decide (I 50 a = v)) ha
theorem q_num (h : c_sim K I R N A L T x cd Z M) {a : Nat} (ha : a ∈ L (cd 10)) : ¬ I 50 a = -1 := by
  obtain ⟨m, -, h2, h3⟩ := h.2.2.2.2.1.2.2.2.2.2.2.2.2.2
  obtain ⟨v, hv, e⟩ := h3 a ha
  rw [e]
  exact nI_nm1 (by omega)
/-- a find's segment by its number -/
theorem q_in (h : c_sim K I R N A L T x cd Z M) {f b a : Nat} {v : Int32} (hb : (L (cd 1))[f]? = some b) (ha : (L (cd 10)).find? (fun a => decide (I 50 a = v)) = some a) : R 15 b = some a ↔ M 14 f = v := by
  have h15 := (h.2.2.1.2.2 f b hb).2.2.2.2.2.2.2.2.1
  have e50 : I 50 a = v := of_decide_eq_true (List.find?_some (p := fun a => decide (I 50 a = v)) ha)
  have hm := List.mem_of_find?_eq_some ha
  constructor
  · intro e
    rw [e] at h15
    unfold q_sgo at h15
    split at h15
    · exact absurd h15 (by simp)
    · rw [← e50]
      exact (of_decide_eq_true (List.find?_some (p := fun b => decide (I 50 b = M 14 f)) h15.symm)).symm
  · intro e
    rw [h15, e]
    unfold q_sgo
    rw [if_neg (by rw [← e50]; exact q_num h hm)]
    exact ha
theorem q_size (h : c_sim K I R N A L T x cd Z M) {a fl : Nat} {v : Int32} (ha : (L (cd 10)).find? (fun a => decide (I 50 a = v)) = some a) (hfl : R 51 a = some fl) : (L fl).length = o_size Z M v := by
  obtain ⟨k, -, -, fl2, h1, -, -, -, h2⟩ := q_el h.2.2.2.2.1.2.2.1 a (List.mem_of_find?_eq_some ha)
  obtain rfl : fl = fl2 := Option.some.inj (hfl.symm.trans h1)
  have hz : zn Z 1 = (L (cd 1)).length := zn_of h.2.2.1.1 (by have := h.2.2.1.2.1; omega)
  rw [h2.length_eq, ← List.countP_eq_length_filter, ← cnt_list]
  unfold o_size
  rw [hz]
  refine cntB_congr (fun j hj => ?_)
  have hb : (L (cd 1))[j]? = some ((L (cd 1)).getD j 0) := by
    rw [List.getD_eq_getElem?_getD, List.getElem?_eq_getElem hj]
    rfl
  exact decide_eq_decide.mpr (q_in h hb ha)
end
set_option maxHeartbeats 400000 in
set_option maxRecDepth 100000 in
theorem c_X8_size (l : Launch) (hnt : l.stackTraces = false) {G : mG} {K : Nat → Nat} {I : Nat → Nat → Int32} {R : Nat → Nat → Option Nat} {F : Nat → UInt32} {A : Nat → Nat → Int32} {N : Nat → Nat} {L : Nat → List Nat} {T : Nat → List Int32} {J : Nat → Nat → Int64} {D : Nat → Nat → UInt64} {o : Nat} {cd : Nat → Nat} {Z : Nat → Int32} {M : Nat → Nat → Int32} {nn : Int32} (hs : c_sim K I R N A L T o cd Z M) : vx_Met l yX8_size wsX8_size ({ frames := 9, cells := 1, slots := 6, locals := 260 } : Room) (va_Pc [.ref o, .int nn] (fun U => m_B G K I R F A N L T J D U ∧ c_str U)) (va_Qi (fun (r : Int32) (_ : Unit) => t_size Z M nn = 0 ∧ r = nI (o_size Z M nn)) (fun u : Unit => m_B G K I R F A N L T J D) (m_A G)) (vx_X (fun (u : Unit) => ¬ t_size Z M nn = 0) (fun E (u : Unit) t => E = "java/util/NoSuchElementException" ∧ m_B G K I R F A N L T J D t) (m_A G)) 1 6 (m_A G) := by
  refine vx_ofW (cc := cX8_size) (maxL := 2) (ret := (some .int)) (by decide) rfl ?_
  intro p e s m args below meth c s₁ B hml hxt hv
  obtain ⟨rfl, hB, hcs⟩ := hv
  have hx := B.exec
  have hb := B.bytes
  have hr := B.returns
  have hts := atoms_spec (ws := wsX8_size) B.pre
  have hown : s.vm.findClass RX8 = some m.cls := findClass_of_methodNamed B.named
  have hlocks := B.notSynchronized
  have hw := m_wo_in hB
  have hl := lv_entry ([.ref o, .int nn]) (n := 2) (Nat.le_of_ble_eq_true rfl)
  rw [lg_entry_eq]
  generalize (lg_sl ([.ref o, .int nn]) ++ List.replicate (2 - (lg_sl ([.ref o, .int nn])).length) Slot.unset).toArray = ls at hl ⊢
  have hl : lv_has ls 2 [(0, .ref o), (1, .int nn)] := hl
  have hok := hs.1
  have hel0 := q_el0 hs
  have hel1 := q_el1 hs
  have hel5 := q_el5 hs
  have hel7 := q_el7 hs
  have hel9 := q_el9 hs
  refine lv_aload_n hx hb dX8_size_0 rfl (lv_at hl 0 rfl) ?_
  refine lv_iload_n hx hb dX8_size_1 rfl (lv_at hl 1 rfl) ?_
  refine m_xq (vx_runV (As := [.int nn]) (rest := []) ⟨hx, hb, hml, hown, hts⟩ (c_X8_segmentNumbered l hnt hok hel5) (cwV 1 hts gX8_size_X8_segmentNumbered rfl rfl rfl (by decide +kernel) ⟨Nat.le_of_ble_eq_true rfl, Nat.le_of_ble_eq_true rfl⟩) ⟨m_blind (fun U g mk a h => ⟨m_B_calling U g mk a h.1, c_str_calling U g mk a h.2⟩), m_recv hw (m_ent_9 hok.1) rfl, fun U hU hW => ⟨rfl, m_wo_call hw hU hW, c_str_warm hW hcs⟩⟩ rfl rfl hl.1 rfl (lv_room (Nat.le_of_ble_eq_true rfl)) dX8_size_2 ⟨Nat.le_of_ble_eq_true rfl, Nat.le_of_ble_eq_true rfl⟩) hw (fun E_ ce_ q9_ u_2x H locs hpx hw hce hcv hcl => ?_) (fun r_2 u_2 H locs hp_2 hw => ?_)
  · skip
    obtain ⟨hpx, rfl⟩ := hpx
    exact vx_out (fun x hx9 => absurd (hxt x hx9) id) hlocks hce hcv hcl (fun t ht9 hA9 => ⟨(), (fun z => by obtain ⟨sg, h9⟩ := (q_seg hs nn).mp (q_tb0.mp z); rw [hpx] at h9; exact absurd h9 (by simp)), ⟨rfl, m_wo_out hw ht9 hA9⟩, m_wo_F hw ht9⟩) (m_wo_L hw) (Nat.le_of_ble_eq_true rfl) (Nat.le_of_ble_eq_true rfl)
  obtain ⟨hf1, hf2⟩ := hp_2
  obtain ⟨sg, hsg⟩ : ∃ z, r_2 = some z := Option.ne_none_iff_exists'.mp hf2
  have hfd := hf1.symm.trans hsg
  obtain rfl : r_2 = some sg := hsg
  have hm := List.mem_of_find?_eq_some hfd
  have hkg := hel5 sg hm
  obtain ⟨k9, -, -, fl, hfl, hkf, -, -, hpm⟩ := q_el hs.2.2.2.2.1.2.2.1 sg hm
  have htz : t_size Z M nn = 0 := q_tb0.mpr ((q_seg hs nn).mpr ⟨sg, hfd⟩)
  refine g_5_1 (r := some fl) hx hb hts (by decide +kernel) hown hw hkg (hts (.fieldLink RX8 152 "Pirateindex$Segment" "finds" "Ljava/util/ArrayList;") (by decide +kernel)) hfl dX8_size_5 ?_
  refine m_ci (va_runV (As := []) (rest := []) ⟨hx, hb, hml, hown, hts⟩ (c_Jx4a65c_size_8abf5 l hkf) (cwV 0 hts gX8_size_Jx4a65c_size_8abf5 rfl rfl rfl (by decide +kernel) ⟨Nat.le_of_ble_eq_true rfl, Nat.le_of_ble_eq_true rfl⟩) ⟨m_blind m_B_calling, m_recv hw (m_ent_11 hkf) rfl, fun U hU hW => ⟨rfl, m_wo_call hw hU hW⟩⟩ rfl rfl hl.1 rfl (lv_room (Nat.le_of_ble_eq_true rfl)) dX8_size_8 ⟨Nat.le_of_ble_eq_true rfl, Nat.le_of_ble_eq_true rfl⟩) hw (fun r_8 u_8 H locs hp_8 hw => ?_)
  obtain rfl : r_8 = (nI (L fl).length) := hp_8
  refine vx_ret ?_
  exact W.iret (v := (nI (L fl).length)) hx hb hr (fun t ht hW => ⟨⟨(nI (L fl).length), (), rfl, ⟨htz, congrArg nI (q_size hs hfd hfl)⟩, m_wo_out hw ht hW.alike⟩, m_wo_F hw ht⟩) (m_wo_L hw) dX8_size_11
