/-- not struck -/
def c_us (I : Nat → Nat → Int32) (a : Nat) : Bool := decide (I 16 a = 0)
theorem c_us_T {I : Nat → Nat → Int32} {a : Nat} (h : I 16 a = 0) : [a].filter (c_us I) = [a] := by
  rw [List.filter_cons, if_pos (show c_us I a = true from decide_eq_true h)]
  rfl
theorem c_us_F {I : Nat → Nat → Int32} {a : Nat} (h : ¬ I 16 a = 0) : [a].filter (c_us I) = [] := by
  rw [List.filter_cons, if_neg (show ¬ c_us I a = true from fun z => h (of_decide_eq_true z))]
  rfl
theorem c_us_app {I : Nat → Nat → Int32} {l m : List Nat} {y : Nat} (h : y ∈ l.filter (c_us I) ++ m.filter (c_us I)) : y ∈ l ++ m := by
  rw [← List.filter_append] at h
  exact (List.mem_filter.mp h).1
/-- the finds of segments, one after another -/
def c_all (R : Nat → Nat → Option Nat) (L : Nat → List Nat) : List Nat → List Nat
  | [] => []
  | a :: l => L ((R 51 a).getD 0) ++ c_all R L l
theorem c_all_app (R : Nat → Nat → Option Nat) (L : Nat → List Nat) (x y : List Nat) : c_all R L (x ++ y) = c_all R L x ++ c_all R L y := by
  induction x with
  | nil => rfl
  | cons a l ih => show L _ ++ c_all R L (l ++ y) = _; rw [ih, ← List.append_assoc]; rfl
theorem lg_take {l : List Nat} {i a : Nat} (h : l[i]? = some a) : l.take (i + 1) = l.take i ++ [a] := by rw [List.take_succ, h]; rfl
theorem c_all_take (R : Nat → Nat → Option Nat) (L : Nat → List Nat) {l : List Nat} {i a f : Nat} (h : l[i]? = some a) (hf : R 51 a = some f) : c_all R L (l.take (i + 1)) = c_all R L (l.take i) ++ L f := by
  rw [lg_take h, c_all_app]
  show _ ++ (L ((R 51 a).getD 0) ++ []) = _
  rw [hf, List.append_nil]
  rfl
theorem c_all_le (R : Nat → Nat → Option Nat) (L : Nat → List Nat) (l : List Nat) (i : Nat) : (c_all R L (l.take i)).length ≤ (c_all R L l).length := by
  have h := congrArg (fun z => (c_all R L z).length) (List.take_append_drop i l)
  simp only [c_all_app, List.length_append] at h
  omega
theorem c_all_mem (R : Nat → Nat → Option Nat) (L : Nat → List Nat) {l : List Nat} {b : Nat} : b ∈ c_all R L l ↔ ∃ a, a ∈ l ∧ b ∈ L ((R 51 a).getD 0) := by
  induction l with
  | nil => exact ⟨fun h => absurd h List.not_mem_nil, fun ⟨a, h, _⟩ => absurd h List.not_mem_nil⟩
  | cons x l ih =>
    show b ∈ L _ ++ c_all R L l ↔ _
    rw [List.mem_append, ih]
    constructor
    · rintro (h | ⟨a, h1, h2⟩)
      · exact ⟨x, List.mem_cons_self, h⟩
      · exact ⟨a, List.mem_cons_of_mem _ h1, h2⟩
    · rintro ⟨a, h1, h2⟩
      rcases List.mem_cons.mp h1 with h | h
      · rw [h] at h2; exact Or.inl h2
      · exact Or.inr ⟨a, h, h2⟩
theorem c_all_k {K : Nat → Nat} {R : Nat → Nat → Option Nat} {L : Nat → List Nat} {l l2 : List Nat} {y k : Nat} (h : ∀ a, a ∈ l → ∃ f, R 51 a = some f ∧ ∀ b, b ∈ L f → K b = 1) (h2 : ∀ b, b ∈ l2 → K b = 1) (hy : y ∈ c_all R L l ++ l2.take k) : K y = 1 := by
  rcases List.mem_append.mp hy with h1 | h1
  · obtain ⟨a, h3, h4⟩ := (c_all_mem R L).mp h1
    obtain ⟨f, h5, h6⟩ := h a h3
    rw [h5] at h4
    exact h6 y h4
  · exact h2 y (List.mem_of_mem_take h1)
theorem c_cap250 {n c c5 : Nat} (hc : c5 ≤ c ∧ (c ≤ c5 ∨ c ≤ 250)) (hn : n < 120) : c5 ≤ c + m_dc n c ∧ (c + m_dc n c ≤ c5 ∨ c + m_dc n c ≤ 250) := by
  unfold m_dc
  split
  · rename_i h
    subst h
    have h1 := m_nc_gt n
    have h2 : m_nc n ≤ 10 + 2 * (n + 1) := by
      unfold m_nc
      split
      · omega
      · have : max 1 (n / 2) ≤ n + 1 := Nat.max_le.mpr ⟨by omega, by omega⟩
        omega
    omega
  · omega
theorem c_kk {K K' : Nat → Nat} {I I' : Nat → Nat → Int32} {R R' : Nat → Nat → Option Nat} {N N' : Nat → Nat} {EI ER : Nat → Nat → Prop} {b j : Nat} (h : c_chg K I R N K' I' R' N' EI ER) (hb : K b = j) (h0 : j ≠ 0) (h4 : j ≠ 40) : K' b = j := (h b (by rw [hb]; exact h0) (by rw [hb]; exact h4)).1.trans hb
theorem c_rr {K K' : Nat → Nat} {I I' : Nat → Nat → Int32} {R R' : Nat → Nat → Option Nat} {N N' : Nat → Nat} {EI : Nat → Nat → Prop} {b j f : Nat} (h : c_chg K I R N K' I' R' N' EI c_no) (hb : K b = j) (h0 : j ≠ 0) (h4 : j ≠ 40) (h1 : f ≠ 111) (h9 : f ≠ 99) : R' f b = R f b := (h b (by rw [hb]; exact h0) (by rw [hb]; exact h4)).2.2.2.1 f h1 h9 id
set_option maxHeartbeats 400000 in
set_option maxRecDepth 100000 in
theorem c_X5_timesHeld (l : Launch) {G : mG} {K : Nat → Nat} {I : Nat → Nat → Int32} {R : Nat → Nat → Option Nat} {F : Nat → UInt32} {A : Nat → Nat → Int32} {N : Nat → Nat} {L : Nat → List Nat} {T : Nat → List Int32} {J : Nat → Nat → Int64} {D : Nat → Nat → UInt64} {o lr : Nat} {f9 : Nat} (hko : K o = 6) (hrow : R 60 o = some lr) (hlr : K lr = 11) (hel : ∀ a, a ∈ L lr → K a = 5) (hsg : ∀ a, a ∈ L lr → ∃ fl, R 51 a = some fl ∧ K fl = 11 ∧ ∀ b, b ∈ L fl → K b = 1) : Met l yX5_timesHeld wsX5_timesHeld ({ frames := 3, cells := 0, slots := 0, locals := 120 } : Room) (va_Pc [.ref o, .ref f9] (m_B G K I R F A N L T J D)) (va_Qi (fun (r : Int32) (_ : Unit) => r = nI ((c_all R L (L lr)).count f9)) (fun u : Unit => m_B G K I R F A N L T J D) (m_A G)) 0 0 (m_A G) := by
  refine Met.ofW (cc := cX5_timesHeld) (maxL := 6) (ret := (some .int)) (by decide) rfl ?_
  intro p e s m args below meth c s₁ B hml hv
  obtain ⟨rfl, hB⟩ := hv
  have hx := B.exec
  have hb := B.bytes
  have hr := B.returns
  have hts := atoms_spec (ws := wsX5_timesHeld) B.pre
  have hown : s.vm.findClass RX5 = some m.cls := findClass_of_methodNamed B.named
  have hlocks := B.notSynchronized
  have hw := m_wo_in hB
  have hl := lv_entry ([.ref o, .ref f9]) (n := 6) (Nat.le_of_ble_eq_true rfl)
  rw [lg_entry_eq]
  generalize (lg_sl ([.ref o, .ref f9]) ++ List.replicate (6 - (lg_sl ([.ref o, .ref f9])).length) Slot.unset).toArray = ls at hl ⊢
  have hl : lv_has ls 6 [(0, .ref o), (1, .ref f9)] := hl
  have hlen := m_len hw hlr
  refine lv_iconst (v := 0) hx hb dX5_timesHeld_0 (by decide) ?_
  refine lv_istore_n (lv' := [(2, .int 0), (0, .ref o), (1, .ref f9)]) hx hb dX5_timesHeld_1 rfl hl (by decide) rfl (fun ls hl => ?_)
  refine lv_iconst (v := 0) hx hb dX5_timesHeld_2 (by decide) ?_
  refine lv_istore_n (lv' := [(3, .int 0), (2, .int 0), (0, .ref o), (1, .ref f9)]) hx hb dX5_timesHeld_3 rfl hl (by decide) rfl (fun ls hl => ?_)
  refine m_loop (σ := Nat × Int32) (fun a => (L lr).length - (a.1)) (fun a H locs ls => ((a.1) ≤ (L lr).length ∧ (a.2) = nI ((c_all R L ((L lr).take (a.1))).count f9)) ∧ m_wo G K I R F A N L T J D s H locs ∧ lv_has ls 6 [(0, .ref o), (1, .ref f9), (2, .int (a.2)), (3, .int (nI (a.1)))]) ?_ (0, 0) ⟨⟨Nat.zero_le _, rfl⟩, hw, lv_sub hl [2, 3, 1, 0] rfl⟩
  rintro ⟨i, x⟩ H locs ls ⟨hinv, hw, hl⟩ ih
  dsimp only at hinv hw hl
  obtain ⟨hi0, hx0⟩ := hinv
  have ih1 := ih
  refine lv_iload_n hx hb dX5_timesHeld_4 rfl (lv_at hl 3 rfl) ?_
  refine lv_aload_n hx hb dX5_timesHeld_5 rfl (lv_at hl 0 rfl) ?_
  refine g_6_0 (r := some lr) hx hb hts (by decide +kernel) hown hw hko (hts (.fieldLink RX5 12 "Pirateindex$Shelf" "row" "Ljava/util/ArrayList;") (by decide +kernel)) hrow dX5_timesHeld_6 ?_
  refine m_ci (va_runV (As := []) (rest := [.int (nI i)]) ⟨hx, hb, hml, hown, hts⟩ (c_Jx4a65c_size_8abf5 l hlr) (cwV 0 hts gX5_timesHeld_Jx4a65c_size_8abf5 rfl rfl rfl (by decide +kernel) ⟨Nat.le_of_ble_eq_true rfl, Nat.le_of_ble_eq_true rfl⟩) ⟨m_blind m_B_calling, m_recv hw (m_ent_11 hlr) rfl, fun U hU hW => ⟨rfl, m_wo_call hw hU hW⟩⟩ rfl rfl hl.1 rfl (lv_room (Nat.le_of_ble_eq_true rfl)) dX5_timesHeld_9 ⟨Nat.le_of_ble_eq_true rfl, Nat.le_of_ble_eq_true rfl⟩) hw (fun r_9 u_9 H locs hp_9 hw => ?_)
  obtain rfl : r_9 = (nI (L lr).length) := hp_9
  refine lv_icmp_ge (tgt := 70) hx hb dX5_timesHeld_12 (by decide) (fun c_12 => ?_) (fun c_12 => ?_)
  · skip
    rw [nI_leI (by omega) (by omega)] at c_12
    have hi : i = (L lr).length := by omega
    refine lv_iload_n hx hb dX5_timesHeld_70 rfl (lv_at hl 2 rfl) ?_
    exact W.iret (v := x) hx hb hr (fun t ht hW => ⟨⟨x, (), rfl, (by rw [hx0, hi, List.take_length]), m_wo_out hw ht hW.alike⟩, m_wo_F hw ht⟩) (m_wo_L hw) dX5_timesHeld_71
  · skip
    rw [nI_leI (by omega) (by omega)] at c_12
    have hi : i < (L lr).length := by omega
    refine lv_aload_n hx hb dX5_timesHeld_15 rfl (lv_at hl 0 rfl) ?_
    refine g_6_0 (r := some lr) hx hb hts (by decide +kernel) hown hw hko (hts (.fieldLink RX5 12 "Pirateindex$Shelf" "row" "Ljava/util/ArrayList;") (by decide +kernel)) hrow dX5_timesHeld_16 ?_
    refine lv_iload_n hx hb dX5_timesHeld_19 rfl (lv_at hl 3 rfl) ?_
    obtain ⟨ai, ha⟩ : ∃ z, (L lr)[i]? = some z := ⟨_, lg_some hi⟩
    have hka : K ai = 5 := hel ai (List.mem_of_getElem? ha)
    refine m_cq (va_runV (As := [.int (nI i)]) (rest := []) ⟨hx, hb, hml, hown, hts⟩ (c_Jx4a65c_get_915e3 l hlr hi) (cwV 1 hts gX5_timesHeld_Jx4a65c_get_915e3 rfl rfl rfl (by decide +kernel) ⟨Nat.le_of_ble_eq_true rfl, Nat.le_of_ble_eq_true rfl⟩) ⟨m_blind m_B_calling, m_recv hw (m_ent_11 hlr) rfl, fun U hU hW => ⟨rfl, m_wo_call hw hU hW⟩⟩ rfl rfl hl.1 rfl (lv_room (Nat.le_of_ble_eq_true rfl)) dX5_timesHeld_20 ⟨Nat.le_of_ble_eq_true rfl, Nat.le_of_ble_eq_true rfl⟩) hw (fun r_20 u_20 H locs hp_20 hw => ?_)
    obtain rfl : r_20 = some ai := hp_20.trans ha
    obtain ⟨fl, hfl, hkf, hel1⟩ := hsg ai (List.mem_of_getElem? ha)
    have hlenf := m_len hw hkf
    have hal := c_all_take R L ha hfl
    refine va_castS hx hb hown (hts (.classLink RX5 18 "Pirateindex$Segment") (by decide +kernel)) (hw.1.1 9 _ rfl).2 (m_recv hw (m_ent_5 hka) rfl) dX5_timesHeld_23 ?_
    refine g_5_1 (r := some fl) hx hb hts (by decide +kernel) hown hw hka (hts (.fieldLink RX5 46 "Pirateindex$Segment" "finds" "Ljava/util/ArrayList;") (by decide +kernel)) hfl dX5_timesHeld_26 ?_
    refine lv_astore (lv' := [(4, .ref fl), (0, .ref o), (1, .ref f9), (2, .int x), (3, .int (nI i))]) hx hb dX5_timesHeld_29 hl (by decide) rfl (fun ls hl => ?_)
    refine lv_iconst (v := 0) hx hb dX5_timesHeld_31 (by decide) ?_
    refine lv_istore (lv' := [(5, .int 0), (4, .ref fl), (0, .ref o), (1, .ref f9), (2, .int x), (3, .int (nI i))]) hx hb dX5_timesHeld_32 hl (by decide) rfl (fun ls hl => ?_)
    refine m_loop (σ := Nat × Int32) (fun a => (L fl).length - (a.1)) (fun a H locs ls => ((a.1) ≤ (L fl).length ∧ (a.2) = nI ((c_all R L ((L lr).take i) ++ (L fl).take (a.1)).count f9)) ∧ m_wo G K I R F A N L T J D s H locs ∧ lv_has ls 6 [(0, .ref o), (1, .ref f9), (2, .int (a.2)), (3, .int (nI i)), (4, .ref fl), (5, .int (nI (a.1)))]) ?_ (0, x) ⟨⟨Nat.zero_le _, by rw [List.take_zero, List.append_nil]; exact hx0⟩, hw, lv_sub hl [2, 3, 4, 5, 1, 0] rfl⟩
    rintro ⟨k, y⟩ H locs ls ⟨hinv, hw, hl⟩ ih
    dsimp only at hinv hw hl
    obtain ⟨hk0, hy0⟩ := hinv
    refine lv_iload hx hb dX5_timesHeld_34 (lv_at hl 5 rfl) ?_
    refine lv_aload hx hb dX5_timesHeld_36 (lv_at hl 4 rfl) ?_
    refine m_ci (va_runV (As := []) (rest := [.int (nI k)]) ⟨hx, hb, hml, hown, hts⟩ (c_Jx4a65c_size_8abf5 l hkf) (cwV 0 hts gX5_timesHeld_Jx4a65c_size_8abf5 rfl rfl rfl (by decide +kernel) ⟨Nat.le_of_ble_eq_true rfl, Nat.le_of_ble_eq_true rfl⟩) ⟨m_blind m_B_calling, m_recv hw (m_ent_11 hkf) rfl, fun U hU hW => ⟨rfl, m_wo_call hw hU hW⟩⟩ rfl rfl hl.1 rfl (lv_room (Nat.le_of_ble_eq_true rfl)) dX5_timesHeld_38 ⟨Nat.le_of_ble_eq_true rfl, Nat.le_of_ble_eq_true rfl⟩) hw (fun r_38 u_38 H locs hp_38 hw => ?_)
    obtain rfl : r_38 = (nI (L fl).length) := hp_38
    refine lv_icmp_ge (tgt := 64) hx hb dX5_timesHeld_41 (by decide) (fun c_41 => ?_) (fun c_41 => ?_)
    · skip
      rw [nI_leI (by omega) (by omega)] at c_41
      have hk : k = (L fl).length := by omega
      have hx1 : y = nI ((c_all R L ((L lr).take (i + 1))).count f9) := by rw [hal, hy0, hk, List.take_length]
      refine lv_iinc (v := nI (i + 1)) (lv' := [(3, .int (nI (i + 1))), (0, .ref o), (1, .ref f9), (2, .int y), (4, .ref fl), (5, .int (nI k))]) hx hb dX5_timesHeld_64 hl (k := 3) rfl (nI_1 _) (by decide) rfl (fun ls hl => ?_)
      refine lv_goto (tgt := 4) hx hb dX5_timesHeld_67 (by decide) ?_
      exact ih1 (i + 1, y) _ _ _ (by dsimp only; omega) ⟨⟨by omega, hx1⟩, hw, lv_sub hl [1, 2, 3, 0] rfl⟩
    · skip
      rw [nI_leI (by omega) (by omega)] at c_41
      have hk : k < (L fl).length := by omega
      refine lv_aload hx hb dX5_timesHeld_44 (lv_at hl 4 rfl) ?_
      refine lv_iload hx hb dX5_timesHeld_46 (lv_at hl 5 rfl) ?_
      obtain ⟨bi, hb9⟩ : ∃ z, (L fl)[k]? = some z := ⟨_, lg_some hk⟩
      have hkb : K bi = 1 := hel1 bi (List.mem_of_getElem? hb9)
      refine m_cq (va_runV (As := [.int (nI k)]) (rest := []) ⟨hx, hb, hml, hown, hts⟩ (c_Jx4a65c_get_915e3 l hkf hk) (cwV 1 hts gX5_timesHeld_Jx4a65c_get_915e3 rfl rfl rfl (by decide +kernel) ⟨Nat.le_of_ble_eq_true rfl, Nat.le_of_ble_eq_true rfl⟩) ⟨m_blind m_B_calling, m_recv hw (m_ent_11 hkf) rfl, fun U hU hW => ⟨rfl, m_wo_call hw hU hW⟩⟩ rfl rfl hl.1 rfl (lv_room (Nat.le_of_ble_eq_true rfl)) dX5_timesHeld_48 ⟨Nat.le_of_ble_eq_true rfl, Nat.le_of_ble_eq_true rfl⟩) hw (fun r_48 u_48 H locs hp_48 hw => ?_)
      obtain rfl : r_48 = some bi := hp_48.trans hb9
      refine lv_aload_n hx hb dX5_timesHeld_51 rfl (lv_at hl 1 rfl) ?_
      refine lv_acmp_ne (rx := (some bi)) (ry := (some f9)) (tgt := 58) hx hb dX5_timesHeld_52 (by decide) (fun c_52 => ?_) (fun c_52 => ?_)
      · skip
        have hy1 : y = nI ((c_all R L ((L lr).take i) ++ (L fl).take (k + 1)).count f9) := by rw [lg_take hb9, ← List.append_assoc, List.count_append, List.count_singleton]; rw [if_neg (fun z => c_52 (congrArg some (beq_iff_eq.mp z)))]; exact hy0
        refine lv_iinc (v := nI (k + 1)) (lv' := [(5, .int (nI (k + 1))), (0, .ref o), (1, .ref f9), (2, .int y), (3, .int (nI i)), (4, .ref fl)]) hx hb dX5_timesHeld_58 hl (k := 5) rfl (nI_1 _) (by decide) rfl (fun ls hl => ?_)
        refine lv_goto (tgt := 34) hx hb dX5_timesHeld_61 (by decide) ?_
        exact ih (k + 1, y) _ _ _ (by dsimp only; omega) ⟨⟨by omega, hy1⟩, hw, lv_sub hl [1, 2, 3, 4, 5, 0] rfl⟩
      · skip
        have hy1 : y + 1 = nI ((c_all R L ((L lr).take i) ++ (L fl).take (k + 1)).count f9) := by rw [lg_take hb9, ← List.append_assoc, List.count_append, List.count_singleton]; rw [if_pos (beq_iff_eq.mpr (Option.some.inj c_52)), hy0]; exact nI_1 _
        refine lv_iinc (v := y + 1) (lv' := [(2, .int (y + 1)), (0, .ref o), (1, .ref f9), (3, .int (nI i)), (4, .ref fl), (5, .int (nI k))]) hx hb dX5_timesHeld_55 hl (k := 2) rfl rfl (by decide) rfl (fun ls hl => ?_)
        refine lv_iinc (v := nI (k + 1)) (lv' := [(5, .int (nI (k + 1))), (2, .int (y + 1)), (0, .ref o), (1, .ref f9), (3, .int (nI i)), (4, .ref fl)]) hx hb dX5_timesHeld_58 hl (k := 5) rfl (nI_1 _) (by decide) rfl (fun ls hl => ?_)
        refine lv_goto (tgt := 34) hx hb dX5_timesHeld_61 (by decide) ?_
        exact ih (k + 1, y + 1) _ _ _ (by dsimp only; omega) ⟨⟨by omega, hy1⟩, hw, lv_sub hl [2, 3, 1, 4, 5, 0] rfl⟩
set_option maxHeartbeats 1600000 in
set_option maxRecDepth 100000 in
theorem c_X5_gatherUnstruck (l : Launch) {G : mG} {K : Nat → Nat} {I : Nat → Nat → Int32} {R : Nat → Nat → Option Nat} {F : Nat → UInt32} {A : Nat → Nat → Int32} {N : Nat → Nat} {L : Nat → List Nat} {T : Nat → List Int32} {J : Nat → Nat → Int64} {D : Nat → Nat → UInt64} {o lr : Nat} {ga : Nat} (hko : K o = 6) (hrow : R 60 o = some lr) (hlr : K lr = 11) (hel : ∀ a, a ∈ L lr → K a = 5) (hga : K ga = 11) (hr1 : R 111 ga ≠ none) (hgl : ga ≠ lr) (hcg : m_cap R N ga ≤ 1000) (hsg : ∀ a, a ∈ L lr → ∃ fl, R 51 a = some fl ∧ K fl = 11 ∧ ∀ b, b ∈ L fl → K b = 1) (hgf : ∀ a, a ∈ L lr → R 51 a ≠ some ga) (h120 : (c_all R L (L lr)).length ≤ 120) : Met l yX5_gatherUnstruck wsX5_gatherUnstruck ({ frames := 8, cells := 120, slots := 1000, locals := 360 } : Room) (va_Pc [.ref o, .ref ga] (m_B G K I R F A N L T J D)) (va_Qv (fun (u : (Nat → Nat) × (Nat → Nat → Int32) × (Nat → Nat → Option Nat) × (Nat → Nat) × (Nat → List Nat)) => c_chg K I R N u.1 u.2.1 u.2.2.1 u.2.2.2.1 c_no c_no ∧ u.2.2.2.2 = m_up L ga ((c_all R L (L lr)).filter (c_us I)) ∧ m_cap u.2.2.1 u.2.2.2.1 ga ≤ 1000) (fun u : (Nat → Nat) × (Nat → Nat → Int32) × (Nat → Nat → Option Nat) × (Nat → Nat) × (Nat → List Nat) => m_B G (u.1) (u.2.1) (u.2.2.1) F A (u.2.2.2.1) (u.2.2.2.2) T J D) (m_A G)) 120 1000 (m_A G) := by
  refine Met.ofW (cc := cX5_gatherUnstruck) (maxL := 5) (ret := none) (by decide) rfl ?_
  intro p e s m args below meth c s₁ B hml hv
  obtain ⟨rfl, hB⟩ := hv
  have hx := B.exec
  have hb := B.bytes
  have hr := B.returns
  have hts := atoms_spec (ws := wsX5_gatherUnstruck) B.pre
  have hown : s.vm.findClass RX5 = some m.cls := findClass_of_methodNamed B.named
  have hlocks := B.notSynchronized
  have hw := m_wo_in hB
  have hl := lv_entry ([.ref o, .ref ga]) (n := 5) (Nat.le_of_ble_eq_true rfl)
  rw [lg_entry_eq]
  generalize (lg_sl ([.ref o, .ref ga]) ++ List.replicate (5 - (lg_sl ([.ref o, .ref ga])).length) Slot.unset).toArray = ls at hl ⊢
  have hl : lv_has ls 5 [(0, .ref o), (1, .ref ga)] := hl
  have hlen := m_len hw hlr
  have hlr0 := hlr
  obtain ⟨c5, hc5⟩ : ∃ z, z = m_cap R N ga := ⟨_, rfl⟩
  refine lv_aload_n hx hb dX5_gatherUnstruck_0 rfl (lv_at hl 1 rfl) ?_
  refine m_cv (va_runV (As := []) (rest := []) ⟨hx, hb, hml, hown, hts⟩ (c_Jx4a65c_clear_da8c8 l hga hr1) (cwV 0 hts gX5_gatherUnstruck_Jx4a65c_clear_da8c8 rfl rfl rfl (by decide +kernel) ⟨Nat.le_of_ble_eq_true rfl, Nat.le_of_ble_eq_true rfl⟩) ⟨m_blind m_B_calling, m_recv hw (m_ent_11 hga) rfl, fun U hU hW => ⟨rfl, m_wo_call hw hU hW⟩⟩ rfl rfl hl.1 rfl (lv_room (Nat.le_of_ble_eq_true rfl)) dX5_gatherUnstruck_1 ⟨Nat.le_of_ble_eq_true rfl, Nat.le_of_ble_eq_true rfl⟩) hw (fun u_1 H locs hp_1 hw => ?_)
  obtain ⟨I_1, L_2⟩ := u_1
  have hw : m_wo G K I_1 R F A N L_2 T J D s H locs := hw
  dsimp only at hp_1
  obtain ⟨hI1, hL1⟩ := hp_1
  have hh0 : c_chg K I R N K I_1 R N c_no c_no := c_chg_110 hI1
  refine lv_iconst (v := 0) hx hb dX5_gatherUnstruck_4 (by decide) ?_
  refine lv_istore_n (lv' := [(2, .int 0), (0, .ref o), (1, .ref ga)]) hx hb dX5_gatherUnstruck_5 rfl hl (by decide) rfl (fun ls hl => ?_)
  refine W.widen (k := (c_all R L ((L lr).take 0)).length) (n := 4 * (c5 - c5)) (Nat.zero_le _) (Nat.zero_le _) ?_
  refine m_loopC (σ := Nat × Nat × (Nat → Nat) × (Nat → Nat → Int32) × (Nat → Nat → Option Nat) × (Nat → Nat) × (Nat → List Nat)) (fun a => (c_all R L ((L lr).take (a.1))).length) (fun a => 4 * ((a.2.1) - c5)) (fun a => (L lr).length - (a.1)) (fun a H locs ls => ((a.1) ≤ (L lr).length ∧ c_chg K I R N (a.2.2.1) (a.2.2.2.1) (a.2.2.2.2.1) (a.2.2.2.2.2.1) c_no c_no ∧ (a.2.2.2.2.2.2) = m_up L ga ((c_all R L ((L lr).take (a.1))).filter (c_us I)) ∧ m_cap (a.2.2.2.2.1) (a.2.2.2.2.2.1) ga = (a.2.1) ∧ c5 ≤ (a.2.1) ∧ ((a.2.1) ≤ c5 ∨ (a.2.1) ≤ 250)) ∧ m_wo G (a.2.2.1) (a.2.2.2.1) (a.2.2.2.2.1) F A (a.2.2.2.2.2.1) (a.2.2.2.2.2.2) T J D s H locs ∧ lv_has ls 5 [(0, .ref o), (1, .ref ga), (2, .int (nI (a.1)))]) ?_ (0, c5, K, I_1, R, N, L_2) ⟨⟨Nat.zero_le _, hh0, hL1, hc5.symm, Nat.le_refl _, Or.inl (Nat.le_refl _)⟩, hw, lv_sub hl [1, 2, 0] rfl⟩
  rintro ⟨i, c9, Kc, Ic, Rc, Nc, Lc⟩ H locs ls ⟨hinv, hw, hl⟩ ih
  dsimp only at hinv hw hl
  (try dsimp only)
  have ih1 := ih
  obtain ⟨hi0, hh, eLc, hcap9, hc9⟩ := hinv
  have hLr : Lc lr = L lr := by rw [eLc]; exact m_up_ne _ _ (Ne.symm hgl)
  have hkr := c_kk hh hlr0 (by decide) (by decide)
  have hko1 := c_kk hh hko (by decide) (by decide)
  have hrow1 := (c_rr hh hko (f := 60) (by decide) (by decide) (by decide) (by decide)).trans hrow
  have hle0 := c_all_le R L (L lr) i
  refine lv_iload_n hx hb dX5_gatherUnstruck_6 rfl (lv_at hl 2 rfl) ?_
  refine lv_aload_n hx hb dX5_gatherUnstruck_7 rfl (lv_at hl 0 rfl) ?_
  refine g_6_0 (r := some lr) hx hb hts (by decide +kernel) hown hw hko1 (hts (.fieldLink RX5 12 "Pirateindex$Shelf" "row" "Ljava/util/ArrayList;") (by decide +kernel)) hrow1 dX5_gatherUnstruck_8 ?_
  refine m_ci (va_runV (As := []) (rest := [.int (nI i)]) ⟨hx, hb, hml, hown, hts⟩ (c_Jx4a65c_size_8abf5 l hkr) (cwV 0 hts gX5_gatherUnstruck_Jx4a65c_size_8abf5 rfl rfl rfl (by decide +kernel) ⟨Nat.le_of_ble_eq_true rfl, Nat.le_of_ble_eq_true rfl⟩) ⟨m_blind m_B_calling, m_recv hw (m_ent_11 hkr) rfl, fun U hU hW => ⟨rfl, m_wo_call hw hU hW⟩⟩ rfl rfl hl.1 rfl (lv_room (Nat.le_of_ble_eq_true rfl)) dX5_gatherUnstruck_11 ⟨by show (c_all R L ((L lr).take i)).length + 0 ≤ 120; omega, by show 4 * (c9 - c5) + 0 ≤ 1000; omega⟩) hw (fun r_11 u_11 H locs hp_11 hw => ?_)
  obtain rfl : r_11 = nI (L lr).length := hp_11.trans (congrArg (fun z => nI (List.length z)) hLr)
  refine lv_icmp_ge (tgt := 85) hx hb dX5_gatherUnstruck_14 (by decide) (fun c_14 => ?_) (fun c_14 => ?_)
  · skip
    rw [nI_leI (by omega) (by omega)] at c_14
    have hi : i = (L lr).length := by omega
    refine W.widen (k := 120) (n := 1000) (by omega) (by omega) ?_
    exact W.vret hx hb hr (fun t ht hW => ⟨⟨(Kc, Ic, Rc, Nc, Lc), rfl, ⟨hh, by show Lc = _; rw [eLc, hi, List.take_length], by show m_cap Rc Nc ga ≤ 1000; omega⟩, m_wo_out hw ht hW.alike⟩, m_wo_F hw ht⟩) (m_wo_L hw) dX5_gatherUnstruck_85
  · skip
    rw [nI_leI (by omega) (by omega)] at c_14
    have hi : i < (L lr).length := by omega
    refine lv_aload_n hx hb dX5_gatherUnstruck_17 rfl (lv_at hl 0 rfl) ?_
    refine g_6_0 (r := some lr) hx hb hts (by decide +kernel) hown hw hko1 (hts (.fieldLink RX5 12 "Pirateindex$Shelf" "row" "Ljava/util/ArrayList;") (by decide +kernel)) hrow1 dX5_gatherUnstruck_18 ?_
    refine lv_iload_n hx hb dX5_gatherUnstruck_21 rfl (lv_at hl 2 rfl) ?_
    obtain ⟨ai, ha⟩ : ∃ z, (L lr)[i]? = some z := ⟨_, lg_some hi⟩
    have hm1 := List.mem_of_getElem? ha
    have hka := c_kk hh (hel ai hm1) (by decide) (by decide)
    obtain ⟨fl, hfl, hkf, hel1⟩ := hsg ai hm1
    have hfg : fl ≠ ga := fun z => hgf ai hm1 (by rw [hfl, z])
    have hlenf := m_len hw (c_kk hh hkf (by decide) (by decide))
    have hLf : Lc fl = L fl := by rw [eLc]; exact m_up_ne _ _ hfg
    rw [hLf] at hlenf
    have hal := c_all_take R L ha hfl
    have hle1 : (c_all R L ((L lr).take i)).length + (L fl).length ≤ (c_all R L (L lr)).length := by have h9 := c_all_le R L (L lr) (i + 1); rw [hal, List.length_append] at h9; exact h9
    have hfl1 := (c_rr hh (hel ai hm1) (f := 51) (by decide) (by decide) (by decide) (by decide)).trans hfl
    refine m_cq (va_runV (As := [.int (nI i)]) (rest := []) ⟨hx, hb, hml, hown, hts⟩ (c_Jx4a65c_get_915e3 l (i := i) hkr (by rw [hLr]; exact hi)) (cwV 1 hts gX5_gatherUnstruck_Jx4a65c_get_915e3 rfl rfl rfl (by decide +kernel) ⟨Nat.le_of_ble_eq_true rfl, Nat.le_of_ble_eq_true rfl⟩) ⟨m_blind m_B_calling, m_recv hw (m_ent_11 hkr) rfl, fun U hU hW => ⟨rfl, m_wo_call hw hU hW⟩⟩ rfl rfl hl.1 rfl (lv_room (Nat.le_of_ble_eq_true rfl)) dX5_gatherUnstruck_22 ⟨by show (c_all R L ((L lr).take i)).length + 0 ≤ 120; omega, by show 4 * (c9 - c5) + 0 ≤ 1000; omega⟩) hw (fun r_22 u_22 H locs hp_22 hw => ?_)
    obtain rfl : r_22 = some ai := hp_22.trans (by rw [hLr]; exact ha)
    refine va_castS hx hb hown (hts (.classLink RX5 18 "Pirateindex$Segment") (by decide +kernel)) (hw.1.1 9 _ rfl).2 (m_recv hw (m_ent_5 hka) rfl) dX5_gatherUnstruck_25 ?_
    refine g_5_1 (r := some fl) hx hb hts (by decide +kernel) hown hw hka (hts (.fieldLink RX5 46 "Pirateindex$Segment" "finds" "Ljava/util/ArrayList;") (by decide +kernel)) hfl1 dX5_gatherUnstruck_28 ?_
    refine lv_astore_n (lv' := [(3, .ref fl), (0, .ref o), (1, .ref ga), (2, .int (nI i))]) hx hb dX5_gatherUnstruck_31 rfl hl (by decide) rfl (fun ls hl => ?_)
    refine lv_iconst (v := 0) hx hb dX5_gatherUnstruck_32 (by decide) ?_
    refine lv_istore (lv' := [(4, .int 0), (3, .ref fl), (0, .ref o), (1, .ref ga), (2, .int (nI i))]) hx hb dX5_gatherUnstruck_33 hl (by decide) rfl (fun ls hl => ?_)
    refine W.widen (k := ((c_all R L ((L lr).take i)).length + 0)) (n := 4 * (c9 - c5)) (Nat.le_refl _) (Nat.le_refl _) ?_
    refine m_loopC (σ := Nat × Nat × (Nat → Nat) × (Nat → Nat → Int32) × (Nat → Nat → Option Nat) × (Nat → Nat) × (Nat → List Nat)) (fun a => ((c_all R L ((L lr).take i)).length + (a.1))) (fun a => 4 * ((a.2.1) - c5)) (fun a => (L fl).length - (a.1)) (fun a H locs ls => ((a.1) ≤ (L fl).length ∧ c_chg K I R N (a.2.2.1) (a.2.2.2.1) (a.2.2.2.2.1) (a.2.2.2.2.2.1) c_no c_no ∧ (a.2.2.2.2.2.2) = m_up L ga (((c_all R L ((L lr).take i)).filter (c_us I)) ++ ((L fl).take (a.1)).filter (c_us I)) ∧ m_cap (a.2.2.2.2.1) (a.2.2.2.2.2.1) ga = (a.2.1) ∧ c5 ≤ (a.2.1) ∧ ((a.2.1) ≤ c5 ∨ (a.2.1) ≤ 250)) ∧ m_wo G (a.2.2.1) (a.2.2.2.1) (a.2.2.2.2.1) F A (a.2.2.2.2.2.1) (a.2.2.2.2.2.2) T J D s H locs ∧ lv_has ls 5 [(0, .ref o), (1, .ref ga), (2, .int (nI i)), (3, .ref fl), (4, .int (nI (a.1)))]) ?_ (0, c9, Kc, Ic, Rc, Nc, Lc) ⟨⟨Nat.zero_le _, hh, (by rw [List.take_zero, List.filter_nil, List.append_nil]; exact eLc), hcap9, hc9⟩, hw, lv_sub hl [2, 3, 4, 1, 0] rfl⟩
    rintro ⟨k, c8, Kd, Id9, Rd, Nd, Ld⟩ H locs ls ⟨hinv, hw, hl⟩ ih
    dsimp only at hinv hw hl
    (try dsimp only)
    obtain ⟨hk0, hh2, eLd, hcap8, hc8⟩ := hinv
    have hLf2 : Ld fl = L fl := by rw [eLd]; exact m_up_ne _ _ hfg
    have hLg2 : Ld ga = (((c_all R L ((L lr).take i)).filter (c_us I)) ++ ((L fl).take k).filter (c_us I)) := by rw [eLd]; exact m_up_self _ _ _
    have hkf2 := c_kk hh2 hkf (by decide) (by decide)
    have hkg2 := c_kk hh2 hga (by decide) (by decide)
    have hlk : (((c_all R L ((L lr).take i)).filter (c_us I)) ++ ((L fl).take k).filter (c_us I)).length ≤ (c_all R L ((L lr).take i)).length + k := by
      rw [List.length_append]
      have h1 := List.length_filter_le (c_us I) (c_all R L ((L lr).take i))
      have h2 := List.length_filter_le (c_us I) ((L fl).take k)
      rw [List.length_take, Nat.min_eq_left hk0] at h2
      omega
    refine lv_iload hx hb dX5_gatherUnstruck_35 (lv_at hl 4 rfl) ?_
    refine lv_aload_n hx hb dX5_gatherUnstruck_37 rfl (lv_at hl 3 rfl) ?_
    refine m_ci (va_runV (As := []) (rest := [.int (nI k)]) ⟨hx, hb, hml, hown, hts⟩ (c_Jx4a65c_size_8abf5 l hkf2) (cwV 0 hts gX5_gatherUnstruck_Jx4a65c_size_8abf5 rfl rfl rfl (by decide +kernel) ⟨Nat.le_of_ble_eq_true rfl, Nat.le_of_ble_eq_true rfl⟩) ⟨m_blind m_B_calling, m_recv hw (m_ent_11 hkf2) rfl, fun U hU hW => ⟨rfl, m_wo_call hw hU hW⟩⟩ rfl rfl hl.1 rfl (lv_room (Nat.le_of_ble_eq_true rfl)) dX5_gatherUnstruck_38 ⟨by show ((c_all R L ((L lr).take i)).length + k) + 0 ≤ 120; omega, by show 4 * (c8 - c5) + 0 ≤ 1000; omega⟩) hw (fun r_38 u_38 H locs hp_38 hw => ?_)
    obtain rfl : r_38 = nI (L fl).length := hp_38.trans (congrArg (fun z => nI (List.length z)) hLf2)
    refine lv_icmp_ge (tgt := 79) hx hb dX5_gatherUnstruck_41 (by decide) (fun c_41 => ?_) (fun c_41 => ?_)
    · skip
      rw [nI_leI (by omega) (by omega)] at c_41
      have hk : k = (L fl).length := by omega
      have hD1 := hh2
      have hD3 : Ld = m_up L ga ((c_all R L ((L lr).take (i + 1))).filter (c_us I)) := by rw [hal, List.filter_append, eLd, hk, List.take_length]
      have hD4 := hcap8
      have hD5 := hc8
      refine lv_iinc (v := nI (i + 1)) (lv' := [(2, .int (nI (i + 1))), (0, .ref o), (1, .ref ga), (3, .ref fl), (4, .int (nI k))]) hx hb dX5_gatherUnstruck_79 hl (k := 2) rfl (nI_1 _) (by decide) rfl (fun ls hl => ?_)
      refine lv_goto (tgt := 6) hx hb dX5_gatherUnstruck_82 (by decide) ?_
      refine W.widen (k := (c_all R L ((L lr).take (i + 1))).length) (n := 4 * (c8 - c5)) (by rw [hal, List.length_append]; omega) (by show 4 * (c8 - c5) + 0 ≤ _; omega) ?_
      exact ih1 (i + 1, c8, Kd, Id9, Rd, Nd, Ld) _ _ _ (by dsimp only; omega) ⟨⟨by omega, hD1, hD3, hD4, hD5⟩, hw, lv_sub hl [1, 2, 0] rfl⟩
    · skip
      rw [nI_leI (by omega) (by omega)] at c_41
      have hk : k < (L fl).length := by omega
      refine lv_aload_n hx hb dX5_gatherUnstruck_44 rfl (lv_at hl 3 rfl) ?_
      refine lv_iload hx hb dX5_gatherUnstruck_45 (lv_at hl 4 rfl) ?_
      obtain ⟨bi, hb9⟩ : ∃ z, (L fl)[k]? = some z := ⟨_, lg_some hk⟩
      have hkb0 := hel1 bi (List.mem_of_getElem? hb9)
      have hkb := c_kk hh2 hkb0 (by decide) (by decide)
      have hst16 : Id9 16 bi = I 16 bi := (hh2 bi (by rw [hkb0]; decide) (by rw [hkb0]; decide)).2.2.1 16 (by decide) id
      refine m_cq (va_runV (As := [.int (nI k)]) (rest := []) ⟨hx, hb, hml, hown, hts⟩ (c_Jx4a65c_get_915e3 l (i := k) hkf2 (by rw [hLf2]; exact hk)) (cwV 1 hts gX5_gatherUnstruck_Jx4a65c_get_915e3 rfl rfl rfl (by decide +kernel) ⟨Nat.le_of_ble_eq_true rfl, Nat.le_of_ble_eq_true rfl⟩) ⟨m_blind m_B_calling, m_recv hw (m_ent_11 hkf2) rfl, fun U hU hW => ⟨rfl, m_wo_call hw hU hW⟩⟩ rfl rfl hl.1 rfl (lv_room (Nat.le_of_ble_eq_true rfl)) dX5_gatherUnstruck_47 ⟨by show ((c_all R L ((L lr).take i)).length + k) + 0 ≤ 120; omega, by show 4 * (c8 - c5) + 0 ≤ 1000; omega⟩) hw (fun r_47 u_47 H locs hp_47 hw => ?_)
      obtain rfl : r_47 = some bi := hp_47.trans (by rw [hLf2]; exact hb9)
      refine va_castS hx hb hown (hts (.classLink RX5 61 "Pirateindex$Find") (by decide +kernel)) (hw.1.1 5 _ rfl).2 (m_recv hw (m_ent_1 hkb) rfl) dX5_gatherUnstruck_50 ?_
      refine g_1_6 hx hb hts (by decide +kernel) hown hw hkb (hts (.fieldLink RX5 69 "Pirateindex$Find" "struck" "Z") (by decide +kernel)) dX5_gatherUnstruck_53 ?_
      rw [hst16]
      refine lv_if_ne (tgt := 73) hx hb dX5_gatherUnstruck_56 (by decide) (fun c_56 => ?_) (fun c_56 => ?_)
      · skip
        have hE1 := hh2
        have hE3 : Ld = m_up L ga (((c_all R L ((L lr).take i)).filter (c_us I)) ++ ((L fl).take (k + 1)).filter (c_us I)) := by rw [lg_take hb9, List.filter_append, c_us_F c_56, List.append_nil]; exact eLd
        have hE4 := hcap8
        have hE5 := hc8
        refine lv_iinc (v := nI (k + 1)) (lv' := [(4, .int (nI (k + 1))), (0, .ref o), (1, .ref ga), (2, .int (nI i)), (3, .ref fl)]) hx hb dX5_gatherUnstruck_73 hl (k := 4) rfl (nI_1 _) (by decide) rfl (fun ls hl => ?_)
        refine lv_goto (tgt := 35) hx hb dX5_gatherUnstruck_76 (by decide) ?_
        refine W.widen (k := ((c_all R L ((L lr).take i)).length + (k + 1))) (n := 4 * (c8 - c5)) (by omega) (by omega) ?_
        exact ih (k + 1, c8, Kd, Id9, Rd, Nd, Ld) _ _ _ (by dsimp only; omega) ⟨⟨by omega, hE1, hE3, hE4, hE5⟩, hw, lv_sub hl [1, 2, 3, 4, 0] rfl⟩
      · skip
        refine lv_aload_n hx hb dX5_gatherUnstruck_59 rfl (lv_at hl 1 rfl) ?_
        refine lv_aload_n hx hb dX5_gatherUnstruck_60 rfl (lv_at hl 3 rfl) ?_
        refine lv_iload hx hb dX5_gatherUnstruck_61 (lv_at hl 4 rfl) ?_
        refine m_cq (va_runV (As := [.int (nI k)]) (rest := [.ref ga]) ⟨hx, hb, hml, hown, hts⟩ (c_Jx4a65c_get_915e3 l (i := k) hkf2 (by rw [hLf2]; exact hk)) (cwV 1 hts gX5_gatherUnstruck_Jx4a65c_get_915e3 rfl rfl rfl (by decide +kernel) ⟨Nat.le_of_ble_eq_true rfl, Nat.le_of_ble_eq_true rfl⟩) ⟨m_blind m_B_calling, m_recv hw (m_ent_11 hkf2) rfl, fun U hU hW => ⟨rfl, m_wo_call hw hU hW⟩⟩ rfl rfl hl.1 rfl (lv_room (Nat.le_of_ble_eq_true rfl)) dX5_gatherUnstruck_63 ⟨by show ((c_all R L ((L lr).take i)).length + k) + 0 ≤ 120; omega, by show 4 * (c8 - c5) + 0 ≤ 1000; omega⟩) hw (fun r_63 u_63 H locs hp_63 hw => ?_)
        obtain rfl : r_63 = some bi := hp_63.trans (by rw [hLf2]; exact hb9)
        refine va_castS hx hb hown (hts (.classLink RX5 61 "Pirateindex$Find") (by decide +kernel)) (hw.1.1 5 _ rfl).2 (m_recv hw (m_ent_1 hkb) rfl) dX5_gatherUnstruck_66 ?_
        refine m_ci (va_runV (As := [.ref bi]) (rest := []) ⟨hx, hb, hml, hown, hts⟩ (c_Jx4a65c_add_9ea2d l hkg2 ((hh2 ga (by rw [hga]; decide) (by rw [hga]; decide)).2.2.2.2 hr1) (Or.inl hkb) (fun y9 hy9 => Or.inl (by rw [hLg2] at hy9; exact c_kk hh2 (c_all_k (K := K) (fun a ha9 => by obtain ⟨z1, z2, z3, z4⟩ := hsg a (List.mem_of_mem_take ha9); exact ⟨z1, z2, z4⟩) hel1 (c_us_app hy9)) (by decide) (by decide))) (by rw [hLg2]; omega)) (cwV 1 hts gX5_gatherUnstruck_Jx4a65c_add_9ea2d rfl rfl rfl (by decide +kernel) ⟨Nat.le_of_ble_eq_true rfl, Nat.le_of_ble_eq_true rfl⟩) ⟨m_blind m_B_calling, m_recv hw (m_ent_11 hkg2) rfl, fun U hU hW => ⟨rfl, m_wo_call hw hU hW⟩⟩ rfl rfl hl.1 rfl (lv_room (Nat.le_of_ble_eq_true rfl)) dX5_gatherUnstruck_69 ⟨by show ((c_all R L ((L lr).take i)).length + k) + (if _ then _ else _) ≤ 120; split <;> omega, by show 4 * (c8 - c5) + (if _ then _ else _) ≤ 1000; have h4 := c_pot (((c_all R L ((L lr).take i)).filter (c_us I)) ++ ((L fl).take k).filter (c_us I)).length c8; have h5 := c_cap250 (n := (((c_all R L ((L lr).take i)).filter (c_us I)) ++ ((L fl).take k).filter (c_us I)).length) hc8 (by omega); rw [hLg2, hcap8]; omega⟩) hw (fun r_69 u_69 H locs hp_69 hw => ?_)
        obtain ⟨K_3, I_4, R_5, N_6, L_7⟩ := u_69
        have hw : m_wo G K_3 I_4 R_5 F A N_6 L_7 T J D s H locs := hw
        dsimp only at hp_69
        obtain ⟨hh9, hcapn, eLn⟩ := hp_69
        have hE1 : c_chg K I R N K_3 I_4 R_5 N_6 c_no c_no := c_chg_mono (c_chg_tr hh2 (c_chg_hid hh9)) (fun _ _ h => h.elim id id) (fun _ _ h => h.elim id id)
        have hE3 : L_7 = m_up L ga (((c_all R L ((L lr).take i)).filter (c_us I)) ++ ((L fl).take (k + 1)).filter (c_us I)) := by
          rw [eLn, hLg2, lg_take hb9, List.filter_append, c_us_T c_56, ← List.append_assoc, eLd]
          funext b
          unfold m_up
          split <;> rfl
        have hE4 : m_cap R_5 N_6 ga = c8 + m_dc (((c_all R L ((L lr).take i)).filter (c_us I)) ++ ((L fl).take k).filter (c_us I)).length c8 := by rw [hcapn, hLg2, hcap8]
        have hE5 := c_cap250 (n := (((c_all R L ((L lr).take i)).filter (c_us I)) ++ ((L fl).take k).filter (c_us I)).length) hc8 (by omega)
        refine lv_pop hx hb dX5_gatherUnstruck_72 rfl ?_
        refine lv_iinc (v := nI (k + 1)) (lv' := [(4, .int (nI (k + 1))), (0, .ref o), (1, .ref ga), (2, .int (nI i)), (3, .ref fl)]) hx hb dX5_gatherUnstruck_73 hl (k := 4) rfl (nI_1 _) (by decide) rfl (fun ls hl => ?_)
        refine lv_goto (tgt := 35) hx hb dX5_gatherUnstruck_76 (by decide) ?_
        refine W.widen (k := ((c_all R L ((L lr).take i)).length + (k + 1))) (n := 4 * ((c8 + m_dc (((c_all R L ((L lr).take i)).filter (c_us I)) ++ ((L fl).take k).filter (c_us I)).length c8) - c5)) (by split <;> omega) (by have h4 := c_pot (((c_all R L ((L lr).take i)).filter (c_us I)) ++ ((L fl).take k).filter (c_us I)).length c8; rw [hLg2, hcap8]; omega) ?_
        exact ih (k + 1, (c8 + m_dc (((c_all R L ((L lr).take i)).filter (c_us I)) ++ ((L fl).take k).filter (c_us I)).length c8), K_3, I_4, R_5, N_6, L_7) _ _ _ (by dsimp only; omega) ⟨⟨by omega, hE1, hE3, hE4, hE5⟩, hw, lv_sub hl [1, 2, 3, 4, 0] rfl⟩
