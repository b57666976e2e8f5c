/-- the reference's start -/
def r_Z0 : Nat → Int32 := fun j => if j = 3 ∨ j = 4 then 1 else 0
theorem r_opens0 : z1 (o_opens ((fun _ => 0), (fun _ _ => 0))).1 5 0 = r_Z0 ∧ (o_opens ((fun _ => 0), (fun _ _ => 0))).2 = fun _ _ => 0 := by
  constructor
  · funext j
    unfold o_opens z1 r_Z0
    by_cases h5 : j = 5
    · subst h5; rfl
    · by_cases h4 : j = 4
      · subst h4; rfl
      · by_cases h3 : j = 3
        · subst h3; rfl
        · simp [h5, h4, h3]
  · funext j k
    unfold o_opens m1 upd
    by_cases h : j = 17
    · simp [h]
    · simp [h]
def r_at (i : Nat) : Nat := if i < 22 then i + 7 else i + 10
def r_ix (j : Nat) : Nat := if j ≤ 28 then j - 7 else j - 10
def r_ad (qs : List Nat) : Nat → Nat := fun j => qs.getD (r_ix j) 0
theorem r_ixs {j : Nat} (h : r_sl j = true) : r_ix j < 25 ∧ r_at (r_ix j) = j := by
  unfold r_sl at h
  simp only [Bool.or_eq_true, Bool.and_eq_true, decide_eq_true_eq] at h
  unfold r_ix r_at
  rcases h with h | h
  · rw [if_pos h.2]
    exact ⟨by omega, by rw [if_pos (by omega)]; omega⟩
  · rw [if_neg (by omega)]
    exact ⟨by omega, by rw [if_neg (by omega)]; omega⟩
section
variable {K : Nat → Nat} {I : Nat → Nat → Int32} {R : Nat → Nat → Option Nat} {N : Nat → Nat} {A : Nat → Nat → Int32} {o : Nat}
/-- its arrays so far -/
def r_bld (K : Nat → Nat) (R : Nat → Nat → Option Nat) (N : Nat → Nat) (A : Nat → Nat → Int32) (o : Nat) (qs : List Nat) : Prop :=
  ∀ i q, qs[i]? = some q → R (1000 + r_at i) o = some q ∧ K q = r_kd (r_at i) ∧ N q = r_ln (r_at i) ∧ A q = (fun _ => 0) ∧ ∀ j, qs[j]? = some q → i = j
theorem r_bld_0 : r_bld K R N A o [] := fun i q h => by simp at h
theorem r_at_inj {i j : Nat} (h : r_at i = r_at j) : i = j := by
  unfold r_at at h
  split at h <;> split at h <;> omega
theorem r_kd_0 (j : Nat) : r_kd j ≠ 0 := by rcases r_kd_3 j with h | h | h <;> rw [h] <;> decide
theorem r_bld_s {n q k m f : Nat} {qs : List Nat} (h : r_bld K R N A o qs) (hn : qs.length = n) (hz : K q = 0) (hA : A q = fun _ => 0) (ho : K o = 10) (hk : k = r_kd (r_at n)) (hm : m = r_ln (r_at n)) (hf : f = 1000 + r_at n) : r_bld (m_up K q k) (m_up2 R f o (some q)) (m_up N q m) A o (qs ++ [q]) := by
  intro i a hi
  have hne : ∀ j b, qs[j]? = some b → b ≠ q := fun j b hb z => by
    have := (h j b hb).2.1
    rw [z, hz] at this
    exact r_kd_0 _ this.symm
  have hlast : ∀ j, qs.length ≤ j → (qs ++ [q])[j]? = some a → j = qs.length ∧ a = q := fun j hj h9 => by
    have hl9 := (List.getElem?_eq_some_iff.mp h9).1
    rw [List.length_append, List.length_singleton] at hl9
    have e : j = qs.length := by omega
    rw [e, List.getElem?_concat_length] at h9
    exact ⟨e, (Option.some.inj h9).symm⟩
  rcases Nat.lt_or_ge i qs.length with hl | hl
  · rw [List.getElem?_append_left hl] at hi
    obtain ⟨h1, h2, h3, h4, h5⟩ := h i a hi
    have haq := hne i a hi
    refine ⟨?_, (m_up_ne _ _ haq).trans h2, (m_up_ne _ _ haq).trans h3, h4, fun j hj => ?_⟩
    · rw [m_up2_ni _ _ (fun z => absurd (r_at_inj (Nat.add_left_cancel (z.trans hf))) (by omega))]; exact h1
    · rcases Nat.lt_or_ge j qs.length with hl2 | hl2
      · rw [List.getElem?_append_left hl2] at hj
        exact h5 j hj
      · exact absurd (hlast j hl2 hj).2 haq
  · obtain ⟨e1, e2⟩ := hlast i hl hi
    rw [e2, e1, hn]
    refine ⟨by rw [hf, m_up2_self], by rw [m_up_self]; exact hk, by rw [m_up_self]; exact hm, hA, fun j hj => ?_⟩
    rcases Nat.lt_or_ge j qs.length with hl2 | hl2
    · rw [List.getElem?_append_left hl2] at hj
      exact absurd rfl (hne j q hj)
    · have hj2 : (qs ++ [q])[j]? = some a := by rw [e2]; exact hj
      rw [(hlast j hl2 hj2).1, hn]
theorem r_bstep {q k m f : Nat} {v : Option Nat} (hz : K q = 0) (hf : f ≠ 111 := by decide) : c_chg K I R N (m_up K q k) I (m_up2 R f o v) (m_up N q m) c_no (fun _ b => b = o) := fun b h0 h4 => by
  have hb : b ≠ q := fun z => h0 (by rw [z]; exact hz)
  exact ⟨m_up_ne _ _ hb, m_up_ne _ _ hb, fun _ _ _ => rfl, fun f1 _ _ h3 => m_up2_ne _ _ h3, fun h => by rw [m_up2_ni _ _ (Ne.symm hf)]; exact h⟩
theorem r_bok {qs : List Nat} (ho : K o = 10) (h : r_bld K R N A o qs) (hn : qs.length = 25) : r_ok K R N o (r_ad qs) := by
  have hg : ∀ j, r_sl j = true → qs[r_ix j]? = some (r_ad qs j) := fun j hj => by
    have := (r_ixs hj).1
    unfold r_ad
    rw [List.getElem?_eq_getElem (by omega), List.getD_eq_getElem?_getD, List.getElem?_eq_getElem (by omega)]
    rfl
  refine ⟨ho, fun j hj => ?_, fun i j hi hj e => ?_⟩
  · obtain ⟨h1, h2, h3, _⟩ := h _ _ (hg j hj)
    rw [(r_ixs hj).2] at h1 h2 h3
    exact ⟨h1, h2, h3⟩
  · have h5 := (h _ _ (hg i hi)).2.2.2.2 (r_ix j) (by rw [e]; exact hg j hj)
    rw [← (r_ixs hi).2, ← (r_ixs hj).2, h5]
theorem r_bA {qs : List Nat} (h : r_bld K R N A o qs) (hn : qs.length = 25) (j : Nat) (hj : r_sl j = true) : A (r_ad qs j) = fun _ => 0 := by
  have := (r_ixs hj).1
  refine (h (r_ix j) _ ?_).2.2.2.1
  unfold r_ad
  rw [List.getElem?_eq_getElem (by omega), List.getD_eq_getElem?_getD, List.getElem?_eq_getElem (by omega)]
  rfl
theorem r_cfin {K2 : Nat → Nat} {I2 : Nat → Nat → Int32} {R2 : Nat → Nat → Option Nat} {N2 : Nat → Nat} {ER : Nat → Nat → Prop} (hc : c_chg K I R N K2 I R2 N2 c_no ER) (hI : ∀ f b, K2 b ≠ 10 → I2 f b = I f b) : c_chg K I R N K2 I2 R2 N2 (fun _ b => K2 b = 10) ER := fun b h0 h4 => by
  obtain ⟨a1, a2, a3, a4, a5⟩ := hc b h0 h4
  exact ⟨a1, a2, fun f _ h3 => hI f b h3, a4, a5⟩
end
set_option maxHeartbeats 3200000 in
set_option maxRecDepth 100000 in
theorem c_X9_init (l : Launch) {G : mG} {K : Nat → Nat} {I : Nat → Nat → Int32} {R : Nat → Nat → Option Nat} {F : Nat → UInt32} {A : Nat → Nat → Int32} {N : Nat → Nat} {L : Nat → List Nat} {T : Nat → List Int32} {J : Nat → Nat → Int64} {D : Nat → Nat → UInt64} {o : Nat} (hko : K o = 10) (hI0 : ∀ f, I f o = 0) (hK1 : ∀ b, K b = 10 → b = o) : Met l yX9_init wsX9_init ({ frames := 3, cells := 25, slots := 957, locals := 100 } : Room) (va_Pc [.ref o] (m_B G K I R F A N L T J D)) (va_Qv (fun (u : (Nat → Nat) × (Nat → Nat → Int32) × (Nat → Nat → Option Nat) × (Nat → Nat) × (Nat → Nat → Int32)) => ∃ ad : Nat → Nat, r_ok u.1 u.2.2.1 u.2.2.2.1 o ad ∧ c_chg K I R N u.1 u.2.1 u.2.2.1 u.2.2.2.1 (fun _ b => u.1 b = 10) (fun _ b => b = o) ∧ r_st u.1 o ad I A u.2.1 u.2.2.2.2 r_Z0 (fun _ _ => 0) 0 ∧ (∀ b, K b ≠ 0 → K b ≠ 40 → K b ≠ 20 → K b ≠ 30 → K b ≠ 34 → u.2.2.2.2 b = A b)) (fun u : (Nat → Nat) × (Nat → Nat → Int32) × (Nat → Nat → Option Nat) × (Nat → Nat) × (Nat → Nat → Int32) => m_B G (u.1) (u.2.1) (u.2.2.1) F (u.2.2.2.2) (u.2.2.2.1) L T J D) (m_A G)) 25 957 (m_A G) := by
  refine Met.ofW (cc := cX9_init) (maxL := 1) (ret := none) (by decide) rfl ?_
  intro p e s m args below meth c s₁ B hml hv
  obtain ⟨rfl, hB⟩ := hv
  have hx := B.exec
  have hb := B.bytes
  have hr := B.returns
  have hts := atoms_spec (ws := wsX9_init) B.pre
  have hown : s.vm.findClass RX9 = some m.cls := findClass_of_methodNamed B.named
  have hlocks := B.notSynchronized
  have hin2 : meth.name = "<init>" := (name_of_methodNamed B.named B.method).1
  have hw := m_wo_in hB
  have hl := lv_entry ([.ref o]) (n := 1) (Nat.le_of_ble_eq_true rfl)
  rw [lg_entry_eq]
  generalize (lg_sl ([.ref o]) ++ List.replicate (1 - (lg_sl ([.ref o])).length) Slot.unset).toArray = ls at hl ⊢
  have hl : lv_has ls 1 [(0, .ref o)] := hl
  have hcA : c_chg K I R N K I R N c_no (fun _ b => b = o) := c_chg_mono c_chg_rf (fun _ _ h => h) (fun _ _ h => absurd h id)
  have hbl : r_bld K R N A o [] := r_bld_0
  have hkob := hko
  refine lv_aload_n hx hb dX9_init_0 rfl (lv_at hl 0 rfl) ?_
  refine W.objInit hx hb hown (hts (.methodLink RX9 1 objectInit) (by decide +kernel)) (hts (.instanceMethod objectInit) (by decide +kernel)) (hts (.code objectInit ⟨#[0xb1]⟩ 1 none) (by decide +kernel)) rfl (by rw [hml]; exact hl.1) rfl dX9_init_1 (Nat.le_of_ble_eq_true rfl) (Nat.le_of_ble_eq_true rfl) ?_
  refine W.eq (g2 := F0 m 4 ls []) rfl ?_
  refine lv_aload_n hx hb dX9_init_4 rfl (lv_at hl 0 rfl) ?_
  refine lv_bipush (v := 12) hx hb dX9_init_5 (by decide) ?_
  refine m_newa_20 hx hb (hts (.arrayClass .int) (by decide +kernel)) hw (n := 12) (N' := 12) (by decide) (by decide) (by decide) (Nat.le_of_ble_eq_true rfl) (Nat.le_of_ble_eq_true rfl) dX9_init_7 (fun q_7 H hz_7 hd_7 hw => ?_)
  have hk_7 : m_up K q_7 20 q_7 = 20 := m_up_self _ _ _
  have hko := m_up_k (k := 20) hz_7 hko (by decide)
  refine p_10_7 hx hb hts (by decide +kernel) hown hw hko (hts (.fieldLink RX9 7 "PirateindexModel" "placeX" "[I") (by decide +kernel)) hin2 (some q_7) dX9_init_9 (fun H locs hw => ?_)
  have hcs : c_chg K I R N (m_up K q_7 20) I (m_up2 R 1007 o (some q_7)) (m_up N q_7 12) c_no (fun _ b => b = o) := r_bstep hz_7
  obtain ⟨Kf1, Rf1, Nf1, hw, hbl, hcA, hko⟩ : ∃ (Kf1 : Nat → Nat) (Rf1 : Nat → Nat → Option Nat) (Nf1 : Nat → Nat), m_wo G Kf1 I Rf1 F A Nf1 L T J D s H locs ∧ r_bld Kf1 Rf1 Nf1 A o [q_7] ∧ c_chg K I R N Kf1 I Rf1 Nf1 c_no (fun _ b => b = o) ∧ Kf1 o = 10 := ⟨_, _, _, hw, r_bld_s (n := 0) hbl rfl hz_7 (funext hd_7.2.2.2.1) hkob rfl rfl rfl, c_chg_mono (c_chg_tr hcA hcs) (fun _ _ h => h.elim id id) (fun _ _ h => h.elim id id), hko⟩
  have hkob := hko
  refine lv_aload_n hx hb dX9_init_12 rfl (lv_at hl 0 rfl) ?_
  refine lv_bipush (v := 12) hx hb dX9_init_13 (by decide) ?_
  refine m_newa_20 hx hb (hts (.arrayClass .int) (by decide +kernel)) hw (n := 12) (N' := 12) (by decide) (by decide) (by decide) (Nat.le_of_ble_eq_true rfl) (Nat.le_of_ble_eq_true rfl) dX9_init_15 (fun q_15 H hz_15 hd_15 hw => ?_)
  have hk_15 : m_up Kf1 q_15 20 q_15 = 20 := m_up_self _ _ _
  have hko := m_up_k (k := 20) hz_15 hko (by decide)
  refine p_10_8 hx hb hts (by decide +kernel) hown hw hko (hts (.fieldLink RX9 13 "PirateindexModel" "placeY" "[I") (by decide +kernel)) hin2 (some q_15) dX9_init_17 (fun H locs hw => ?_)
  have hcs : c_chg Kf1 I Rf1 Nf1 (m_up Kf1 q_15 20) I (m_up2 Rf1 1008 o (some q_15)) (m_up Nf1 q_15 12) c_no (fun _ b => b = o) := r_bstep hz_15
  obtain ⟨Kf2, Rf2, Nf2, hw, hbl, hcA, hko⟩ : ∃ (Kf2 : Nat → Nat) (Rf2 : Nat → Nat → Option Nat) (Nf2 : Nat → Nat), m_wo G Kf2 I Rf2 F A Nf2 L T J D s H locs ∧ r_bld Kf2 Rf2 Nf2 A o [q_7, q_15] ∧ c_chg K I R N Kf2 I Rf2 Nf2 c_no (fun _ b => b = o) ∧ Kf2 o = 10 := ⟨_, _, _, hw, r_bld_s (n := 1) hbl rfl hz_15 (funext hd_15.2.2.2.1) hkob rfl rfl rfl, c_chg_mono (c_chg_tr hcA hcs) (fun _ _ h => h.elim id id) (fun _ _ h => h.elim id id), hko⟩
  have hkob := hko
  refine lv_aload_n hx hb dX9_init_20 rfl (lv_at hl 0 rfl) ?_
  refine lv_bipush (v := 12) hx hb dX9_init_21 (by decide) ?_
  refine m_newa_20 hx hb (hts (.arrayClass .int) (by decide +kernel)) hw (n := 12) (N' := 12) (by decide) (by decide) (by decide) (Nat.le_of_ble_eq_true rfl) (Nat.le_of_ble_eq_true rfl) dX9_init_23 (fun q_23 H hz_23 hd_23 hw => ?_)
  have hk_23 : m_up Kf2 q_23 20 q_23 = 20 := m_up_self _ _ _
  have hko := m_up_k (k := 20) hz_23 hko (by decide)
  refine p_10_9 hx hb hts (by decide +kernel) hown hw hko (hts (.fieldLink RX9 16 "PirateindexModel" "treasure" "[I") (by decide +kernel)) hin2 (some q_23) dX9_init_25 (fun H locs hw => ?_)
  have hcs : c_chg Kf2 I Rf2 Nf2 (m_up Kf2 q_23 20) I (m_up2 Rf2 1009 o (some q_23)) (m_up Nf2 q_23 12) c_no (fun _ b => b = o) := r_bstep hz_23
  obtain ⟨Kf3, Rf3, Nf3, hw, hbl, hcA, hko⟩ : ∃ (Kf3 : Nat → Nat) (Rf3 : Nat → Nat → Option Nat) (Nf3 : Nat → Nat), m_wo G Kf3 I Rf3 F A Nf3 L T J D s H locs ∧ r_bld Kf3 Rf3 Nf3 A o [q_7, q_15, q_23] ∧ c_chg K I R N Kf3 I Rf3 Nf3 c_no (fun _ b => b = o) ∧ Kf3 o = 10 := ⟨_, _, _, hw, r_bld_s (n := 2) hbl rfl hz_23 (funext hd_23.2.2.2.1) hkob rfl rfl rfl, c_chg_mono (c_chg_tr hcA hcs) (fun _ _ h => h.elim id id) (fun _ _ h => h.elim id id), hko⟩
  have hkob := hko
  refine lv_aload_n hx hb dX9_init_28 rfl (lv_at hl 0 rfl) ?_
  refine lv_bipush (v := 12) hx hb dX9_init_29 (by decide) ?_
  refine m_newa_30 hx hb (hts (.arrayClass .boolean) (by decide +kernel)) hw (n := 12) (N' := 12) (by decide) (by decide) (by decide) (Nat.le_of_ble_eq_true rfl) (Nat.le_of_ble_eq_true rfl) dX9_init_31 (fun q_31 H hz_31 hd_31 hw => ?_)
  have hk_31 : m_up Kf3 q_31 30 q_31 = 30 := m_up_self _ _ _
  have hko := m_up_k (k := 30) hz_31 hko (by decide)
  refine p_10_10 hx hb hts (by decide +kernel) hown hw hko (hts (.fieldLink RX9 19 "PirateindexModel" "taken" "[Z") (by decide +kernel)) hin2 (some q_31) dX9_init_33 (fun H locs hw => ?_)
  have hcs : c_chg Kf3 I Rf3 Nf3 (m_up Kf3 q_31 30) I (m_up2 Rf3 1010 o (some q_31)) (m_up Nf3 q_31 12) c_no (fun _ b => b = o) := r_bstep hz_31
  obtain ⟨Kf4, Rf4, Nf4, hw, hbl, hcA, hko⟩ : ∃ (Kf4 : Nat → Nat) (Rf4 : Nat → Nat → Option Nat) (Nf4 : Nat → Nat), m_wo G Kf4 I Rf4 F A Nf4 L T J D s H locs ∧ r_bld Kf4 Rf4 Nf4 A o [q_7, q_15, q_23, q_31] ∧ c_chg K I R N Kf4 I Rf4 Nf4 c_no (fun _ b => b = o) ∧ Kf4 o = 10 := ⟨_, _, _, hw, r_bld_s (n := 3) hbl rfl hz_31 (funext hd_31.2.2.2.1) hkob rfl rfl rfl, c_chg_mono (c_chg_tr hcA hcs) (fun _ _ h => h.elim id id) (fun _ _ h => h.elim id id), hko⟩
  have hkob := hko
  refine lv_aload_n hx hb dX9_init_36 rfl (lv_at hl 0 rfl) ?_
  refine lv_bipush (v := 120) hx hb dX9_init_37 (by decide) ?_
  refine m_newa_20 hx hb (hts (.arrayClass .int) (by decide +kernel)) hw (n := 120) (N' := 120) (by decide) (by decide) (by decide) (Nat.le_of_ble_eq_true rfl) (Nat.le_of_ble_eq_true rfl) dX9_init_39 (fun q_39 H hz_39 hd_39 hw => ?_)
  have hk_39 : m_up Kf4 q_39 20 q_39 = 20 := m_up_self _ _ _
  have hko := m_up_k (k := 20) hz_39 hko (by decide)
  refine p_10_11 hx hb hts (by decide +kernel) hown hw hko (hts (.fieldLink RX9 23 "PirateindexModel" "words" "[I") (by decide +kernel)) hin2 (some q_39) dX9_init_41 (fun H locs hw => ?_)
  have hcs : c_chg Kf4 I Rf4 Nf4 (m_up Kf4 q_39 20) I (m_up2 Rf4 1011 o (some q_39)) (m_up Nf4 q_39 120) c_no (fun _ b => b = o) := r_bstep hz_39
  obtain ⟨Kf5, Rf5, Nf5, hw, hbl, hcA, hko⟩ : ∃ (Kf5 : Nat → Nat) (Rf5 : Nat → Nat → Option Nat) (Nf5 : Nat → Nat), m_wo G Kf5 I Rf5 F A Nf5 L T J D s H locs ∧ r_bld Kf5 Rf5 Nf5 A o [q_7, q_15, q_23, q_31, q_39] ∧ c_chg K I R N Kf5 I Rf5 Nf5 c_no (fun _ b => b = o) ∧ Kf5 o = 10 := ⟨_, _, _, hw, r_bld_s (n := 4) hbl rfl hz_39 (funext hd_39.2.2.2.1) hkob rfl rfl rfl, c_chg_mono (c_chg_tr hcA hcs) (fun _ _ h => h.elim id id) (fun _ _ h => h.elim id id), hko⟩
  have hkob := hko
  refine lv_aload_n hx hb dX9_init_44 rfl (lv_at hl 0 rfl) ?_
  refine lv_bipush (v := 120) hx hb dX9_init_45 (by decide) ?_
  refine m_newa_20 hx hb (hts (.arrayClass .int) (by decide +kernel)) hw (n := 120) (N' := 120) (by decide) (by decide) (by decide) (Nat.le_of_ble_eq_true rfl) (Nat.le_of_ble_eq_true rfl) dX9_init_47 (fun q_47 H hz_47 hd_47 hw => ?_)
  have hk_47 : m_up Kf5 q_47 20 q_47 = 20 := m_up_self _ _ _
  have hko := m_up_k (k := 20) hz_47 hko (by decide)
  refine p_10_12 hx hb hts (by decide +kernel) hown hw hko (hts (.fieldLink RX9 26 "PirateindexModel" "on" "[I") (by decide +kernel)) hin2 (some q_47) dX9_init_49 (fun H locs hw => ?_)
  have hcs : c_chg Kf5 I Rf5 Nf5 (m_up Kf5 q_47 20) I (m_up2 Rf5 1012 o (some q_47)) (m_up Nf5 q_47 120) c_no (fun _ b => b = o) := r_bstep hz_47
  obtain ⟨Kf6, Rf6, Nf6, hw, hbl, hcA, hko⟩ : ∃ (Kf6 : Nat → Nat) (Rf6 : Nat → Nat → Option Nat) (Nf6 : Nat → Nat), m_wo G Kf6 I Rf6 F A Nf6 L T J D s H locs ∧ r_bld Kf6 Rf6 Nf6 A o [q_7, q_15, q_23, q_31, q_39, q_47] ∧ c_chg K I R N Kf6 I Rf6 Nf6 c_no (fun _ b => b = o) ∧ Kf6 o = 10 := ⟨_, _, _, hw, r_bld_s (n := 5) hbl rfl hz_47 (funext hd_47.2.2.2.1) hkob rfl rfl rfl, c_chg_mono (c_chg_tr hcA hcs) (fun _ _ h => h.elim id id) (fun _ _ h => h.elim id id), hko⟩
  have hkob := hko
  refine lv_aload_n hx hb dX9_init_52 rfl (lv_at hl 0 rfl) ?_
  refine lv_bipush (v := 120) hx hb dX9_init_53 (by decide) ?_
  refine m_newa_20 hx hb (hts (.arrayClass .int) (by decide +kernel)) hw (n := 120) (N' := 120) (by decide) (by decide) (by decide) (Nat.le_of_ble_eq_true rfl) (Nat.le_of_ble_eq_true rfl) dX9_init_55 (fun q_55 H hz_55 hd_55 hw => ?_)
  have hk_55 : m_up Kf6 q_55 20 q_55 = 20 := m_up_self _ _ _
  have hko := m_up_k (k := 20) hz_55 hko (by decide)
  refine p_10_13 hx hb hts (by decide +kernel) hown hw hko (hts (.fieldLink RX9 29 "PirateindexModel" "places" "[I") (by decide +kernel)) hin2 (some q_55) dX9_init_57 (fun H locs hw => ?_)
  have hcs : c_chg Kf6 I Rf6 Nf6 (m_up Kf6 q_55 20) I (m_up2 Rf6 1013 o (some q_55)) (m_up Nf6 q_55 120) c_no (fun _ b => b = o) := r_bstep hz_55
  obtain ⟨Kf7, Rf7, Nf7, hw, hbl, hcA, hko⟩ : ∃ (Kf7 : Nat → Nat) (Rf7 : Nat → Nat → Option Nat) (Nf7 : Nat → Nat), m_wo G Kf7 I Rf7 F A Nf7 L T J D s H locs ∧ r_bld Kf7 Rf7 Nf7 A o [q_7, q_15, q_23, q_31, q_39, q_47, q_55] ∧ c_chg K I R N Kf7 I Rf7 Nf7 c_no (fun _ b => b = o) ∧ Kf7 o = 10 := ⟨_, _, _, hw, r_bld_s (n := 6) hbl rfl hz_55 (funext hd_55.2.2.2.1) hkob rfl rfl rfl, c_chg_mono (c_chg_tr hcA hcs) (fun _ _ h => h.elim id id) (fun _ _ h => h.elim id id), hko⟩
  have hkob := hko
  refine lv_aload_n hx hb dX9_init_60 rfl (lv_at hl 0 rfl) ?_
  refine lv_bipush (v := 120) hx hb dX9_init_61 (by decide) ?_
  refine m_newa_20 hx hb (hts (.arrayClass .int) (by decide +kernel)) hw (n := 120) (N' := 120) (by decide) (by decide) (by decide) (Nat.le_of_ble_eq_true rfl) (Nat.le_of_ble_eq_true rfl) dX9_init_63 (fun q_63 H hz_63 hd_63 hw => ?_)
  have hk_63 : m_up Kf7 q_63 20 q_63 = 20 := m_up_self _ _ _
  have hko := m_up_k (k := 20) hz_63 hko (by decide)
  refine p_10_14 hx hb hts (by decide +kernel) hown hw hko (hts (.fieldLink RX9 32 "PirateindexModel" "within" "[I") (by decide +kernel)) hin2 (some q_63) dX9_init_65 (fun H locs hw => ?_)
  have hcs : c_chg Kf7 I Rf7 Nf7 (m_up Kf7 q_63 20) I (m_up2 Rf7 1014 o (some q_63)) (m_up Nf7 q_63 120) c_no (fun _ b => b = o) := r_bstep hz_63
  obtain ⟨Kf8, Rf8, Nf8, hw, hbl, hcA, hko⟩ : ∃ (Kf8 : Nat → Nat) (Rf8 : Nat → Nat → Option Nat) (Nf8 : Nat → Nat), m_wo G Kf8 I Rf8 F A Nf8 L T J D s H locs ∧ r_bld Kf8 Rf8 Nf8 A o [q_7, q_15, q_23, q_31, q_39, q_47, q_55, q_63] ∧ c_chg K I R N Kf8 I Rf8 Nf8 c_no (fun _ b => b = o) ∧ Kf8 o = 10 := ⟨_, _, _, hw, r_bld_s (n := 7) hbl rfl hz_63 (funext hd_63.2.2.2.1) hkob rfl rfl rfl, c_chg_mono (c_chg_tr hcA hcs) (fun _ _ h => h.elim id id) (fun _ _ h => h.elim id id), hko⟩
  have hkob := hko
  refine lv_aload_n hx hb dX9_init_68 rfl (lv_at hl 0 rfl) ?_
  refine lv_bipush (v := 120) hx hb dX9_init_69 (by decide) ?_
  refine m_newa_20 hx hb (hts (.arrayClass .int) (by decide +kernel)) hw (n := 120) (N' := 120) (by decide) (by decide) (by decide) (Nat.le_of_ble_eq_true rfl) (Nat.le_of_ble_eq_true rfl) dX9_init_71 (fun q_71 H hz_71 hd_71 hw => ?_)
  have hk_71 : m_up Kf8 q_71 20 q_71 = 20 := m_up_self _ _ _
  have hko := m_up_k (k := 20) hz_71 hko (by decide)
  refine p_10_15 hx hb hts (by decide +kernel) hown hw hko (hts (.fieldLink RX9 35 "PirateindexModel" "rival" "[I") (by decide +kernel)) hin2 (some q_71) dX9_init_73 (fun H locs hw => ?_)
  have hcs : c_chg Kf8 I Rf8 Nf8 (m_up Kf8 q_71 20) I (m_up2 Rf8 1015 o (some q_71)) (m_up Nf8 q_71 120) c_no (fun _ b => b = o) := r_bstep hz_71
  obtain ⟨Kf9, Rf9, Nf9, hw, hbl, hcA, hko⟩ : ∃ (Kf9 : Nat → Nat) (Rf9 : Nat → Nat → Option Nat) (Nf9 : Nat → Nat), m_wo G Kf9 I Rf9 F A Nf9 L T J D s H locs ∧ r_bld Kf9 Rf9 Nf9 A o [q_7, q_15, q_23, q_31, q_39, q_47, q_55, q_63, q_71] ∧ c_chg K I R N Kf9 I Rf9 Nf9 c_no (fun _ b => b = o) ∧ Kf9 o = 10 := ⟨_, _, _, hw, r_bld_s (n := 8) hbl rfl hz_71 (funext hd_71.2.2.2.1) hkob rfl rfl rfl, c_chg_mono (c_chg_tr hcA hcs) (fun _ _ h => h.elim id id) (fun _ _ h => h.elim id id), hko⟩
  have hkob := hko
  refine lv_aload_n hx hb dX9_init_76 rfl (lv_at hl 0 rfl) ?_
  refine lv_bipush (v := 120) hx hb dX9_init_77 (by decide) ?_
  refine m_newa_30 hx hb (hts (.arrayClass .boolean) (by decide +kernel)) hw (n := 120) (N' := 120) (by decide) (by decide) (by decide) (Nat.le_of_ble_eq_true rfl) (Nat.le_of_ble_eq_true rfl) dX9_init_79 (fun q_79 H hz_79 hd_79 hw => ?_)
  have hk_79 : m_up Kf9 q_79 30 q_79 = 30 := m_up_self _ _ _
  have hko := m_up_k (k := 30) hz_79 hko (by decide)
  refine p_10_16 hx hb hts (by decide +kernel) hown hw hko (hts (.fieldLink RX9 38 "PirateindexModel" "struck" "[Z") (by decide +kernel)) hin2 (some q_79) dX9_init_81 (fun H locs hw => ?_)
  have hcs : c_chg Kf9 I Rf9 Nf9 (m_up Kf9 q_79 30) I (m_up2 Rf9 1016 o (some q_79)) (m_up Nf9 q_79 120) c_no (fun _ b => b = o) := r_bstep hz_79
  obtain ⟨Kf10, Rf10, Nf10, hw, hbl, hcA, hko⟩ : ∃ (Kf10 : Nat → Nat) (Rf10 : Nat → Nat → Option Nat) (Nf10 : Nat → Nat), m_wo G Kf10 I Rf10 F A Nf10 L T J D s H locs ∧ r_bld Kf10 Rf10 Nf10 A o [q_7, q_15, q_23, q_31, q_39, q_47, q_55, q_63, q_71, q_79] ∧ c_chg K I R N Kf10 I Rf10 Nf10 c_no (fun _ b => b = o) ∧ Kf10 o = 10 := ⟨_, _, _, hw, r_bld_s (n := 9) hbl rfl hz_79 (funext hd_79.2.2.2.1) hkob rfl rfl rfl, c_chg_mono (c_chg_tr hcA hcs) (fun _ _ h => h.elim id id) (fun _ _ h => h.elim id id), hko⟩
  have hkob := hko
  refine lv_aload_n hx hb dX9_init_84 rfl (lv_at hl 0 rfl) ?_
  refine lv_bipush (v := 24) hx hb dX9_init_85 (by decide) ?_
  refine m_newa_20 hx hb (hts (.arrayClass .int) (by decide +kernel)) hw (n := 24) (N' := 24) (by decide) (by decide) (by decide) (Nat.le_of_ble_eq_true rfl) (Nat.le_of_ble_eq_true rfl) dX9_init_87 (fun q_87 H hz_87 hd_87 hw => ?_)
  have hk_87 : m_up Kf10 q_87 20 q_87 = 20 := m_up_self _ _ _
  have hko := m_up_k (k := 20) hz_87 hko (by decide)
  refine p_10_17 hx hb hts (by decide +kernel) hown hw hko (hts (.fieldLink RX9 41 "PirateindexModel" "numbers" "[I") (by decide +kernel)) hin2 (some q_87) dX9_init_89 (fun H locs hw => ?_)
  have hcs : c_chg Kf10 I Rf10 Nf10 (m_up Kf10 q_87 20) I (m_up2 Rf10 1017 o (some q_87)) (m_up Nf10 q_87 24) c_no (fun _ b => b = o) := r_bstep hz_87
  obtain ⟨Kf11, Rf11, Nf11, hw, hbl, hcA, hko⟩ : ∃ (Kf11 : Nat → Nat) (Rf11 : Nat → Nat → Option Nat) (Nf11 : Nat → Nat), m_wo G Kf11 I Rf11 F A Nf11 L T J D s H locs ∧ r_bld Kf11 Rf11 Nf11 A o [q_7, q_15, q_23, q_31, q_39, q_47, q_55, q_63, q_71, q_79, q_87] ∧ c_chg K I R N Kf11 I Rf11 Nf11 c_no (fun _ b => b = o) ∧ Kf11 o = 10 := ⟨_, _, _, hw, r_bld_s (n := 10) hbl rfl hz_87 (funext hd_87.2.2.2.1) hkob rfl rfl rfl, c_chg_mono (c_chg_tr hcA hcs) (fun _ _ h => h.elim id id) (fun _ _ h => h.elim id id), hko⟩
  have hkob := hko
  refine lv_aload_n hx hb dX9_init_92 rfl (lv_at hl 0 rfl) ?_
  refine lv_iconst (v := 5) hx hb dX9_init_93 (by decide) ?_
  refine m_newa_20 hx hb (hts (.arrayClass .int) (by decide +kernel)) hw (n := 5) (N' := 5) (by decide) (by decide) (by decide) (Nat.le_of_ble_eq_true rfl) (Nat.le_of_ble_eq_true rfl) dX9_init_94 (fun q_94 H hz_94 hd_94 hw => ?_)
  have hk_94 : m_up Kf11 q_94 20 q_94 = 20 := m_up_self _ _ _
  have hko := m_up_k (k := 20) hz_94 hko (by decide)
  refine p_10_18 hx hb hts (by decide +kernel) hown hw hko (hts (.fieldLink RX9 44 "PirateindexModel" "stands" "[I") (by decide +kernel)) hin2 (some q_94) dX9_init_96 (fun H locs hw => ?_)
  have hcs : c_chg Kf11 I Rf11 Nf11 (m_up Kf11 q_94 20) I (m_up2 Rf11 1018 o (some q_94)) (m_up Nf11 q_94 5) c_no (fun _ b => b = o) := r_bstep hz_94
  obtain ⟨Kf12, Rf12, Nf12, hw, hbl, hcA, hko⟩ : ∃ (Kf12 : Nat → Nat) (Rf12 : Nat → Nat → Option Nat) (Nf12 : Nat → Nat), m_wo G Kf12 I Rf12 F A Nf12 L T J D s H locs ∧ r_bld Kf12 Rf12 Nf12 A o [q_7, q_15, q_23, q_31, q_39, q_47, q_55, q_63, q_71, q_79, q_87, q_94] ∧ c_chg K I R N Kf12 I Rf12 Nf12 c_no (fun _ b => b = o) ∧ Kf12 o = 10 := ⟨_, _, _, hw, r_bld_s (n := 11) hbl rfl hz_94 (funext hd_94.2.2.2.1) hkob rfl rfl rfl, c_chg_mono (c_chg_tr hcA hcs) (fun _ _ h => h.elim id id) (fun _ _ h => h.elim id id), hko⟩
  have hkob := hko
  refine lv_aload_n hx hb dX9_init_99 rfl (lv_at hl 0 rfl) ?_
  refine lv_iconst (v := 5) hx hb dX9_init_100 (by decide) ?_
  refine m_newa_20 hx hb (hts (.arrayClass .int) (by decide +kernel)) hw (n := 5) (N' := 5) (by decide) (by decide) (by decide) (Nat.le_of_ble_eq_true rfl) (Nat.le_of_ble_eq_true rfl) dX9_init_101 (fun q_101 H hz_101 hd_101 hw => ?_)
  have hk_101 : m_up Kf12 q_101 20 q_101 = 20 := m_up_self _ _ _
  have hko := m_up_k (k := 20) hz_101 hko (by decide)
  refine p_10_19 hx hb hts (by decide +kernel) hown hw hko (hts (.fieldLink RX9 47 "PirateindexModel" "purse" "[I") (by decide +kernel)) hin2 (some q_101) dX9_init_103 (fun H locs hw => ?_)
  have hcs : c_chg Kf12 I Rf12 Nf12 (m_up Kf12 q_101 20) I (m_up2 Rf12 1019 o (some q_101)) (m_up Nf12 q_101 5) c_no (fun _ b => b = o) := r_bstep hz_101
  obtain ⟨Kf13, Rf13, Nf13, hw, hbl, hcA, hko⟩ : ∃ (Kf13 : Nat → Nat) (Rf13 : Nat → Nat → Option Nat) (Nf13 : Nat → Nat), m_wo G Kf13 I Rf13 F A Nf13 L T J D s H locs ∧ r_bld Kf13 Rf13 Nf13 A o [q_7, q_15, q_23, q_31, q_39, q_47, q_55, q_63, q_71, q_79, q_87, q_94, q_101] ∧ c_chg K I R N Kf13 I Rf13 Nf13 c_no (fun _ b => b = o) ∧ Kf13 o = 10 := ⟨_, _, _, hw, r_bld_s (n := 12) hbl rfl hz_101 (funext hd_101.2.2.2.1) hkob rfl rfl rfl, c_chg_mono (c_chg_tr hcA hcs) (fun _ _ h => h.elim id id) (fun _ _ h => h.elim id id), hko⟩
  have hkob := hko
  refine lv_aload_n hx hb dX9_init_106 rfl (lv_at hl 0 rfl) ?_
  refine lv_iconst (v := 5) hx hb dX9_init_107 (by decide) ?_
  refine m_newa_20 hx hb (hts (.arrayClass .int) (by decide +kernel)) hw (n := 5) (N' := 5) (by decide) (by decide) (by decide) (Nat.le_of_ble_eq_true rfl) (Nat.le_of_ble_eq_true rfl) dX9_init_108 (fun q_108 H hz_108 hd_108 hw => ?_)
  have hk_108 : m_up Kf13 q_108 20 q_108 = 20 := m_up_self _ _ _
  have hko := m_up_k (k := 20) hz_108 hko (by decide)
  refine p_10_20 hx hb hts (by decide +kernel) hown hw hko (hts (.fieldLink RX9 50 "PirateindexModel" "cameFrom" "[I") (by decide +kernel)) hin2 (some q_108) dX9_init_110 (fun H locs hw => ?_)
  have hcs : c_chg Kf13 I Rf13 Nf13 (m_up Kf13 q_108 20) I (m_up2 Rf13 1020 o (some q_108)) (m_up Nf13 q_108 5) c_no (fun _ b => b = o) := r_bstep hz_108
  obtain ⟨Kf14, Rf14, Nf14, hw, hbl, hcA, hko⟩ : ∃ (Kf14 : Nat → Nat) (Rf14 : Nat → Nat → Option Nat) (Nf14 : Nat → Nat), m_wo G Kf14 I Rf14 F A Nf14 L T J D s H locs ∧ r_bld Kf14 Rf14 Nf14 A o [q_7, q_15, q_23, q_31, q_39, q_47, q_55, q_63, q_71, q_79, q_87, q_94, q_101, q_108] ∧ c_chg K I R N Kf14 I Rf14 Nf14 c_no (fun _ b => b = o) ∧ Kf14 o = 10 := ⟨_, _, _, hw, r_bld_s (n := 13) hbl rfl hz_108 (funext hd_108.2.2.2.1) hkob rfl rfl rfl, c_chg_mono (c_chg_tr hcA hcs) (fun _ _ h => h.elim id id) (fun _ _ h => h.elim id id), hko⟩
  have hkob := hko
  refine lv_aload_n hx hb dX9_init_113 rfl (lv_at hl 0 rfl) ?_
  refine lv_iconst (v := 5) hx hb dX9_init_114 (by decide) ?_
  refine m_newa_20 hx hb (hts (.arrayClass .int) (by decide +kernel)) hw (n := 5) (N' := 5) (by decide) (by decide) (by decide) (Nat.le_of_ble_eq_true rfl) (Nat.le_of_ble_eq_true rfl) dX9_init_115 (fun q_115 H hz_115 hd_115 hw => ?_)
  have hk_115 : m_up Kf14 q_115 20 q_115 = 20 := m_up_self _ _ _
  have hko := m_up_k (k := 20) hz_115 hko (by decide)
  refine p_10_21 hx hb hts (by decide +kernel) hown hw hko (hts (.fieldLink RX9 53 "PirateindexModel" "took" "[I") (by decide +kernel)) hin2 (some q_115) dX9_init_117 (fun H locs hw => ?_)
  have hcs : c_chg Kf14 I Rf14 Nf14 (m_up Kf14 q_115 20) I (m_up2 Rf14 1021 o (some q_115)) (m_up Nf14 q_115 5) c_no (fun _ b => b = o) := r_bstep hz_115
  obtain ⟨Kf15, Rf15, Nf15, hw, hbl, hcA, hko⟩ : ∃ (Kf15 : Nat → Nat) (Rf15 : Nat → Nat → Option Nat) (Nf15 : Nat → Nat), m_wo G Kf15 I Rf15 F A Nf15 L T J D s H locs ∧ r_bld Kf15 Rf15 Nf15 A o [q_7, q_15, q_23, q_31, q_39, q_47, q_55, q_63, q_71, q_79, q_87, q_94, q_101, q_108, q_115] ∧ c_chg K I R N Kf15 I Rf15 Nf15 c_no (fun _ b => b = o) ∧ Kf15 o = 10 := ⟨_, _, _, hw, r_bld_s (n := 14) hbl rfl hz_115 (funext hd_115.2.2.2.1) hkob rfl rfl rfl, c_chg_mono (c_chg_tr hcA hcs) (fun _ _ h => h.elim id id) (fun _ _ h => h.elim id id), hko⟩
  have hkob := hko
  refine lv_aload_n hx hb dX9_init_120 rfl (lv_at hl 0 rfl) ?_
  refine lv_iconst (v := 5) hx hb dX9_init_121 (by decide) ?_
  refine m_newa_20 hx hb (hts (.arrayClass .int) (by decide +kernel)) hw (n := 5) (N' := 5) (by decide) (by decide) (by decide) (Nat.le_of_ble_eq_true rfl) (Nat.le_of_ble_eq_true rfl) dX9_init_122 (fun q_122 H hz_122 hd_122 hw => ?_)
  have hk_122 : m_up Kf15 q_122 20 q_122 = 20 := m_up_self _ _ _
  have hko := m_up_k (k := 20) hz_122 hko (by decide)
  refine p_10_22 hx hb hts (by decide +kernel) hown hw hko (hts (.fieldLink RX9 56 "PirateindexModel" "kept" "[I") (by decide +kernel)) hin2 (some q_122) dX9_init_124 (fun H locs hw => ?_)
  have hcs : c_chg Kf15 I Rf15 Nf15 (m_up Kf15 q_122 20) I (m_up2 Rf15 1022 o (some q_122)) (m_up Nf15 q_122 5) c_no (fun _ b => b = o) := r_bstep hz_122
  obtain ⟨Kf16, Rf16, Nf16, hw, hbl, hcA, hko⟩ : ∃ (Kf16 : Nat → Nat) (Rf16 : Nat → Nat → Option Nat) (Nf16 : Nat → Nat), m_wo G Kf16 I Rf16 F A Nf16 L T J D s H locs ∧ r_bld Kf16 Rf16 Nf16 A o [q_7, q_15, q_23, q_31, q_39, q_47, q_55, q_63, q_71, q_79, q_87, q_94, q_101, q_108, q_115, q_122] ∧ c_chg K I R N Kf16 I Rf16 Nf16 c_no (fun _ b => b = o) ∧ Kf16 o = 10 := ⟨_, _, _, hw, r_bld_s (n := 15) hbl rfl hz_122 (funext hd_122.2.2.2.1) hkob rfl rfl rfl, c_chg_mono (c_chg_tr hcA hcs) (fun _ _ h => h.elim id id) (fun _ _ h => h.elim id id), hko⟩
  have hkob := hko
  refine lv_aload_n hx hb dX9_init_127 rfl (lv_at hl 0 rfl) ?_
  refine lv_bipush (v := 20) hx hb dX9_init_128 (by decide) ?_
  refine m_newa_20 hx hb (hts (.arrayClass .int) (by decide +kernel)) hw (n := 20) (N' := 20) (by decide) (by decide) (by decide) (Nat.le_of_ble_eq_true rfl) (Nat.le_of_ble_eq_true rfl) dX9_init_130 (fun q_130 H hz_130 hd_130 hw => ?_)
  have hk_130 : m_up Kf16 q_130 20 q_130 = 20 := m_up_self _ _ _
  have hko := m_up_k (k := 20) hz_130 hko (by decide)
  refine p_10_23 hx hb hts (by decide +kernel) hown hw hko (hts (.fieldLink RX9 59 "PirateindexModel" "keptWord" "[I") (by decide +kernel)) hin2 (some q_130) dX9_init_132 (fun H locs hw => ?_)
  have hcs : c_chg Kf16 I Rf16 Nf16 (m_up Kf16 q_130 20) I (m_up2 Rf16 1023 o (some q_130)) (m_up Nf16 q_130 20) c_no (fun _ b => b = o) := r_bstep hz_130
  obtain ⟨Kf17, Rf17, Nf17, hw, hbl, hcA, hko⟩ : ∃ (Kf17 : Nat → Nat) (Rf17 : Nat → Nat → Option Nat) (Nf17 : Nat → Nat), m_wo G Kf17 I Rf17 F A Nf17 L T J D s H locs ∧ r_bld Kf17 Rf17 Nf17 A o [q_7, q_15, q_23, q_31, q_39, q_47, q_55, q_63, q_71, q_79, q_87, q_94, q_101, q_108, q_115, q_122, q_130] ∧ c_chg K I R N Kf17 I Rf17 Nf17 c_no (fun _ b => b = o) ∧ Kf17 o = 10 := ⟨_, _, _, hw, r_bld_s (n := 16) hbl rfl hz_130 (funext hd_130.2.2.2.1) hkob rfl rfl rfl, c_chg_mono (c_chg_tr hcA hcs) (fun _ _ h => h.elim id id) (fun _ _ h => h.elim id id), hko⟩
  have hkob := hko
  refine lv_aload_n hx hb dX9_init_135 rfl (lv_at hl 0 rfl) ?_
  refine lv_bipush (v := 20) hx hb dX9_init_136 (by decide) ?_
  refine m_newa_20 hx hb (hts (.arrayClass .int) (by decide +kernel)) hw (n := 20) (N' := 20) (by decide) (by decide) (by decide) (Nat.le_of_ble_eq_true rfl) (Nat.le_of_ble_eq_true rfl) dX9_init_138 (fun q_138 H hz_138 hd_138 hw => ?_)
  have hk_138 : m_up Kf17 q_138 20 q_138 = 20 := m_up_self _ _ _
  have hko := m_up_k (k := 20) hz_138 hko (by decide)
  refine p_10_24 hx hb hts (by decide +kernel) hown hw hko (hts (.fieldLink RX9 62 "PirateindexModel" "keptGap" "[I") (by decide +kernel)) hin2 (some q_138) dX9_init_140 (fun H locs hw => ?_)
  have hcs : c_chg Kf17 I Rf17 Nf17 (m_up Kf17 q_138 20) I (m_up2 Rf17 1024 o (some q_138)) (m_up Nf17 q_138 20) c_no (fun _ b => b = o) := r_bstep hz_138
  obtain ⟨Kf18, Rf18, Nf18, hw, hbl, hcA, hko⟩ : ∃ (Kf18 : Nat → Nat) (Rf18 : Nat → Nat → Option Nat) (Nf18 : Nat → Nat), m_wo G Kf18 I Rf18 F A Nf18 L T J D s H locs ∧ r_bld Kf18 Rf18 Nf18 A o [q_7, q_15, q_23, q_31, q_39, q_47, q_55, q_63, q_71, q_79, q_87, q_94, q_101, q_108, q_115, q_122, q_130, q_138] ∧ c_chg K I R N Kf18 I Rf18 Nf18 c_no (fun _ b => b = o) ∧ Kf18 o = 10 := ⟨_, _, _, hw, r_bld_s (n := 17) hbl rfl hz_138 (funext hd_138.2.2.2.1) hkob rfl rfl rfl, c_chg_mono (c_chg_tr hcA hcs) (fun _ _ h => h.elim id id) (fun _ _ h => h.elim id id), hko⟩
  have hkob := hko
  refine lv_aload_n hx hb dX9_init_143 rfl (lv_at hl 0 rfl) ?_
  refine lv_iconst (v := 4) hx hb dX9_init_144 (by decide) ?_
  refine m_newa_20 hx hb (hts (.arrayClass .int) (by decide +kernel)) hw (n := 4) (N' := 4) (by decide) (by decide) (by decide) (Nat.le_of_ble_eq_true rfl) (Nat.le_of_ble_eq_true rfl) dX9_init_145 (fun q_145 H hz_145 hd_145 hw => ?_)
  have hk_145 : m_up Kf18 q_145 20 q_145 = 20 := m_up_self _ _ _
  have hko := m_up_k (k := 20) hz_145 hko (by decide)
  refine p_10_25 hx hb hts (by decide +kernel) hown hw hko (hts (.fieldLink RX9 65 "PirateindexModel" "mapWord" "[I") (by decide +kernel)) hin2 (some q_145) dX9_init_147 (fun H locs hw => ?_)
  have hcs : c_chg Kf18 I Rf18 Nf18 (m_up Kf18 q_145 20) I (m_up2 Rf18 1025 o (some q_145)) (m_up Nf18 q_145 4) c_no (fun _ b => b = o) := r_bstep hz_145
  obtain ⟨Kf19, Rf19, Nf19, hw, hbl, hcA, hko⟩ : ∃ (Kf19 : Nat → Nat) (Rf19 : Nat → Nat → Option Nat) (Nf19 : Nat → Nat), m_wo G Kf19 I Rf19 F A Nf19 L T J D s H locs ∧ r_bld Kf19 Rf19 Nf19 A o [q_7, q_15, q_23, q_31, q_39, q_47, q_55, q_63, q_71, q_79, q_87, q_94, q_101, q_108, q_115, q_122, q_130, q_138, q_145] ∧ c_chg K I R N Kf19 I Rf19 Nf19 c_no (fun _ b => b = o) ∧ Kf19 o = 10 := ⟨_, _, _, hw, r_bld_s (n := 18) hbl rfl hz_145 (funext hd_145.2.2.2.1) hkob rfl rfl rfl, c_chg_mono (c_chg_tr hcA hcs) (fun _ _ h => h.elim id id) (fun _ _ h => h.elim id id), hko⟩
  have hkob := hko
  refine lv_aload_n hx hb dX9_init_150 rfl (lv_at hl 0 rfl) ?_
  refine lv_iconst (v := 4) hx hb dX9_init_151 (by decide) ?_
  refine m_newa_20 hx hb (hts (.arrayClass .int) (by decide +kernel)) hw (n := 4) (N' := 4) (by decide) (by decide) (by decide) (Nat.le_of_ble_eq_true rfl) (Nat.le_of_ble_eq_true rfl) dX9_init_152 (fun q_152 H hz_152 hd_152 hw => ?_)
  have hk_152 : m_up Kf19 q_152 20 q_152 = 20 := m_up_self _ _ _
  have hko := m_up_k (k := 20) hz_152 hko (by decide)
  refine p_10_26 hx hb hts (by decide +kernel) hown hw hko (hts (.fieldLink RX9 68 "PirateindexModel" "mapGap" "[I") (by decide +kernel)) hin2 (some q_152) dX9_init_154 (fun H locs hw => ?_)
  have hcs : c_chg Kf19 I Rf19 Nf19 (m_up Kf19 q_152 20) I (m_up2 Rf19 1026 o (some q_152)) (m_up Nf19 q_152 4) c_no (fun _ b => b = o) := r_bstep hz_152
  obtain ⟨Kf20, Rf20, Nf20, hw, hbl, hcA, hko⟩ : ∃ (Kf20 : Nat → Nat) (Rf20 : Nat → Nat → Option Nat) (Nf20 : Nat → Nat), m_wo G Kf20 I Rf20 F A Nf20 L T J D s H locs ∧ r_bld Kf20 Rf20 Nf20 A o [q_7, q_15, q_23, q_31, q_39, q_47, q_55, q_63, q_71, q_79, q_87, q_94, q_101, q_108, q_115, q_122, q_130, q_138, q_145, q_152] ∧ c_chg K I R N Kf20 I Rf20 Nf20 c_no (fun _ b => b = o) ∧ Kf20 o = 10 := ⟨_, _, _, hw, r_bld_s (n := 19) hbl rfl hz_152 (funext hd_152.2.2.2.1) hkob rfl rfl rfl, c_chg_mono (c_chg_tr hcA hcs) (fun _ _ h => h.elim id id) (fun _ _ h => h.elim id id), hko⟩
  have hkob := hko
  refine lv_aload_n hx hb dX9_init_157 rfl (lv_at hl 0 rfl) ?_
  refine lv_iconst (v := 4) hx hb dX9_init_158 (by decide) ?_
  refine m_newa_20 hx hb (hts (.arrayClass .int) (by decide +kernel)) hw (n := 4) (N' := 4) (by decide) (by decide) (by decide) (Nat.le_of_ble_eq_true rfl) (Nat.le_of_ble_eq_true rfl) dX9_init_159 (fun q_159 H hz_159 hd_159 hw => ?_)
  have hk_159 : m_up Kf20 q_159 20 q_159 = 20 := m_up_self _ _ _
  have hko := m_up_k (k := 20) hz_159 hko (by decide)
  refine p_10_27 hx hb hts (by decide +kernel) hown hw hko (hts (.fieldLink RX9 71 "PirateindexModel" "askWord" "[I") (by decide +kernel)) hin2 (some q_159) dX9_init_161 (fun H locs hw => ?_)
  have hcs : c_chg Kf20 I Rf20 Nf20 (m_up Kf20 q_159 20) I (m_up2 Rf20 1027 o (some q_159)) (m_up Nf20 q_159 4) c_no (fun _ b => b = o) := r_bstep hz_159
  obtain ⟨Kf21, Rf21, Nf21, hw, hbl, hcA, hko⟩ : ∃ (Kf21 : Nat → Nat) (Rf21 : Nat → Nat → Option Nat) (Nf21 : Nat → Nat), m_wo G Kf21 I Rf21 F A Nf21 L T J D s H locs ∧ r_bld Kf21 Rf21 Nf21 A o [q_7, q_15, q_23, q_31, q_39, q_47, q_55, q_63, q_71, q_79, q_87, q_94, q_101, q_108, q_115, q_122, q_130, q_138, q_145, q_152, q_159] ∧ c_chg K I R N Kf21 I Rf21 Nf21 c_no (fun _ b => b = o) ∧ Kf21 o = 10 := ⟨_, _, _, hw, r_bld_s (n := 20) hbl rfl hz_159 (funext hd_159.2.2.2.1) hkob rfl rfl rfl, c_chg_mono (c_chg_tr hcA hcs) (fun _ _ h => h.elim id id) (fun _ _ h => h.elim id id), hko⟩
  have hkob := hko
  refine lv_aload_n hx hb dX9_init_164 rfl (lv_at hl 0 rfl) ?_
  refine lv_iconst (v := 4) hx hb dX9_init_165 (by decide) ?_
  refine m_newa_20 hx hb (hts (.arrayClass .int) (by decide +kernel)) hw (n := 4) (N' := 4) (by decide) (by decide) (by decide) (Nat.le_of_ble_eq_true rfl) (Nat.le_of_ble_eq_true rfl) dX9_init_166 (fun q_166 H hz_166 hd_166 hw => ?_)
  have hk_166 : m_up Kf21 q_166 20 q_166 = 20 := m_up_self _ _ _
  have hko := m_up_k (k := 20) hz_166 hko (by decide)
  refine p_10_28 hx hb hts (by decide +kernel) hown hw hko (hts (.fieldLink RX9 74 "PirateindexModel" "askGap" "[I") (by decide +kernel)) hin2 (some q_166) dX9_init_168 (fun H locs hw => ?_)
  have hcs : c_chg Kf21 I Rf21 Nf21 (m_up Kf21 q_166 20) I (m_up2 Rf21 1028 o (some q_166)) (m_up Nf21 q_166 4) c_no (fun _ b => b = o) := r_bstep hz_166
  obtain ⟨Kf22, Rf22, Nf22, hw, hbl, hcA, hko⟩ : ∃ (Kf22 : Nat → Nat) (Rf22 : Nat → Nat → Option Nat) (Nf22 : Nat → Nat), m_wo G Kf22 I Rf22 F A Nf22 L T J D s H locs ∧ r_bld Kf22 Rf22 Nf22 A o [q_7, q_15, q_23, q_31, q_39, q_47, q_55, q_63, q_71, q_79, q_87, q_94, q_101, q_108, q_115, q_122, q_130, q_138, q_145, q_152, q_159, q_166] ∧ c_chg K I R N Kf22 I Rf22 Nf22 c_no (fun _ b => b = o) ∧ Kf22 o = 10 := ⟨_, _, _, hw, r_bld_s (n := 21) hbl rfl hz_166 (funext hd_166.2.2.2.1) hkob rfl rfl rfl, c_chg_mono (c_chg_tr hcA hcs) (fun _ _ h => h.elim id id) (fun _ _ h => h.elim id id), hko⟩
  have hkob := hko
  refine lv_aload_n hx hb dX9_init_171 rfl (lv_at hl 0 rfl) ?_
  refine lv_iconst (v := 2) hx hb dX9_init_172 (by decide) ?_
  refine m_newa_34 hx hb (hts (.arrayClass .char) (by decide +kernel)) hw (n := 2) (N' := 2) (by decide) (by decide) (by decide) (Nat.le_of_ble_eq_true rfl) (Nat.le_of_ble_eq_true rfl) dX9_init_173 (fun q_173 H hz_173 hd_173 hw => ?_)
  have hk_173 : m_up Kf22 q_173 34 q_173 = 34 := m_up_self _ _ _
  have hko := m_up_k (k := 34) hz_173 hko (by decide)
  refine p_10_32 hx hb hts (by decide +kernel) hown hw hko (hts (.fieldLink RX9 77 "PirateindexModel" "cause" "[C") (by decide +kernel)) hin2 (some q_173) dX9_init_175 (fun H locs hw => ?_)
  have hcs : c_chg Kf22 I Rf22 Nf22 (m_up Kf22 q_173 34) I (m_up2 Rf22 1032 o (some q_173)) (m_up Nf22 q_173 2) c_no (fun _ b => b = o) := r_bstep hz_173
  obtain ⟨Kf23, Rf23, Nf23, hw, hbl, hcA, hko⟩ : ∃ (Kf23 : Nat → Nat) (Rf23 : Nat → Nat → Option Nat) (Nf23 : Nat → Nat), m_wo G Kf23 I Rf23 F A Nf23 L T J D s H locs ∧ r_bld Kf23 Rf23 Nf23 A o [q_7, q_15, q_23, q_31, q_39, q_47, q_55, q_63, q_71, q_79, q_87, q_94, q_101, q_108, q_115, q_122, q_130, q_138, q_145, q_152, q_159, q_166, q_173] ∧ c_chg K I R N Kf23 I Rf23 Nf23 c_no (fun _ b => b = o) ∧ Kf23 o = 10 := ⟨_, _, _, hw, r_bld_s (n := 22) hbl rfl hz_173 (funext hd_173.2.2.2.1) hkob rfl rfl rfl, c_chg_mono (c_chg_tr hcA hcs) (fun _ _ h => h.elim id id) (fun _ _ h => h.elim id id), hko⟩
  have hkob := hko
  refine lv_aload_n hx hb dX9_init_178 rfl (lv_at hl 0 rfl) ?_
  refine lv_bipush (v := 41) hx hb dX9_init_179 (by decide) ?_
  refine m_newa_20 hx hb (hts (.arrayClass .int) (by decide +kernel)) hw (n := 41) (N' := 41) (by decide) (by decide) (by decide) (Nat.le_of_ble_eq_true rfl) (Nat.le_of_ble_eq_true rfl) dX9_init_181 (fun q_181 H hz_181 hd_181 hw => ?_)
  have hk_181 : m_up Kf23 q_181 20 q_181 = 20 := m_up_self _ _ _
  have hko := m_up_k (k := 20) hz_181 hko (by decide)
  refine p_10_33 hx hb hts (by decide +kernel) hown hw hko (hts (.fieldLink RX9 81 "PirateindexModel" "ways" "[I") (by decide +kernel)) hin2 (some q_181) dX9_init_183 (fun H locs hw => ?_)
  have hcs : c_chg Kf23 I Rf23 Nf23 (m_up Kf23 q_181 20) I (m_up2 Rf23 1033 o (some q_181)) (m_up Nf23 q_181 41) c_no (fun _ b => b = o) := r_bstep hz_181
  obtain ⟨Kf24, Rf24, Nf24, hw, hbl, hcA, hko⟩ : ∃ (Kf24 : Nat → Nat) (Rf24 : Nat → Nat → Option Nat) (Nf24 : Nat → Nat), m_wo G Kf24 I Rf24 F A Nf24 L T J D s H locs ∧ r_bld Kf24 Rf24 Nf24 A o [q_7, q_15, q_23, q_31, q_39, q_47, q_55, q_63, q_71, q_79, q_87, q_94, q_101, q_108, q_115, q_122, q_130, q_138, q_145, q_152, q_159, q_166, q_173, q_181] ∧ c_chg K I R N Kf24 I Rf24 Nf24 c_no (fun _ b => b = o) ∧ Kf24 o = 10 := ⟨_, _, _, hw, r_bld_s (n := 23) hbl rfl hz_181 (funext hd_181.2.2.2.1) hkob rfl rfl rfl, c_chg_mono (c_chg_tr hcA hcs) (fun _ _ h => h.elim id id) (fun _ _ h => h.elim id id), hko⟩
  have hkob := hko
  refine lv_aload_n hx hb dX9_init_186 rfl (lv_at hl 0 rfl) ?_
  refine lv_bipush (v := 41) hx hb dX9_init_187 (by decide) ?_
  refine m_newa_20 hx hb (hts (.arrayClass .int) (by decide +kernel)) hw (n := 41) (N' := 41) (by decide) (by decide) (by decide) (Nat.le_of_ble_eq_true rfl) (Nat.le_of_ble_eq_true rfl) dX9_init_189 (fun q_189 H hz_189 hd_189 hw => ?_)
  have hk_189 : m_up Kf24 q_189 20 q_189 = 20 := m_up_self _ _ _
  have hko := m_up_k (k := 20) hz_189 hko (by decide)
  refine p_10_34 hx hb hts (by decide +kernel) hown hw hko (hts (.fieldLink RX9 84 "PirateindexModel" "then" "[I") (by decide +kernel)) hin2 (some q_189) dX9_init_191 (fun H locs hw => ?_)
  have hcs : c_chg Kf24 I Rf24 Nf24 (m_up Kf24 q_189 20) I (m_up2 Rf24 1034 o (some q_189)) (m_up Nf24 q_189 41) c_no (fun _ b => b = o) := r_bstep hz_189
  obtain ⟨Kf25, Rf25, Nf25, hw, hbl, hcA, hko⟩ : ∃ (Kf25 : Nat → Nat) (Rf25 : Nat → Nat → Option Nat) (Nf25 : Nat → Nat), m_wo G Kf25 I Rf25 F A Nf25 L T J D s H locs ∧ r_bld Kf25 Rf25 Nf25 A o [q_7, q_15, q_23, q_31, q_39, q_47, q_55, q_63, q_71, q_79, q_87, q_94, q_101, q_108, q_115, q_122, q_130, q_138, q_145, q_152, q_159, q_166, q_173, q_181, q_189] ∧ c_chg K I R N Kf25 I Rf25 Nf25 c_no (fun _ b => b = o) ∧ Kf25 o = 10 := ⟨_, _, _, hw, r_bld_s (n := 24) hbl rfl hz_189 (funext hd_189.2.2.2.1) hkob rfl rfl rfl, c_chg_mono (c_chg_tr hcA hcs) (fun _ _ h => h.elim id id) (fun _ _ h => h.elim id id), hko⟩
  have hkob := hko
  have hro := r_bok hko hbl rfl
  have hz : r_st Kf25 o (r_ad [q_7, q_15, q_23, q_31, q_39, q_47, q_55, q_63, q_71, q_79, q_87, q_94, q_101, q_108, q_115, q_122, q_130, q_138, q_145, q_152, q_159, q_166, q_173, q_181, q_189]) I A I A (fun _ => 0) (fun _ _ => 0) 0 := ⟨fun j _ => hI0 _, fun j hj => r_bA hbl rfl j hj, fun _ _ _ => rfl, fun _ _ _ _ => rfl, hI0 _⟩
  refine lv_aload_n hx hb dX9_init_194 rfl (lv_at hl 0 rfl) ?_
  refine lv_aload_n hx hb dX9_init_195 rfl (lv_at hl 0 rfl) ?_
  refine m_ci (va_runV (As := []) (rest := [.ref o]) ⟨hx, hb, hml, hown, hts⟩ (c_X9_opens l hro hz (k := 0) rfl (by decide)) (cwV 0 hts gX9_init_X9_opens rfl rfl rfl (by decide +kernel) ⟨Nat.le_of_ble_eq_true rfl, Nat.le_of_ble_eq_true rfl⟩) ⟨m_blind m_B_calling, m_recv hw (m_ent_10 hko) rfl, fun U hU hW => ⟨rfl, m_wo_call hw hU hW⟩⟩ rfl rfl hl.1 rfl (lv_room (Nat.le_of_ble_eq_true rfl)) dX9_init_196 ⟨Nat.le_of_ble_eq_true rfl, Nat.le_of_ble_eq_true rfl⟩) hw (fun r_196 u_196 H locs hp_196 hw => ?_)
  obtain ⟨I_1, A_2⟩ := u_196
  have hw : m_wo G Kf25 I_1 Rf25 F A_2 Nf25 L T J D s H locs := hw
  dsimp only at hp_196
  obtain ⟨hz2, hr2⟩ := hp_196
  obtain rfl : r_196 = 0 := hr2
  refine p_10_5 hx hb hts (by decide +kernel) hown hw hko (hts (.fieldLink RX9 91 "PirateindexModel" "open" "I") (by decide +kernel)) dX9_init_199 (fun H locs hw => ?_)
  have hz3 := r_st_z hz2 5 0 hko (by decide)
  have hz4 : r_st Kf25 o (r_ad [q_7, q_15, q_23, q_31, q_39, q_47, q_55, q_63, q_71, q_79, q_87, q_94, q_101, q_108, q_115, q_122, q_130, q_138, q_145, q_152, q_159, q_166, q_173, q_181, q_189]) I A (m_up2 I_1 1005 o 0) A_2 r_Z0 (fun _ _ => 0) 0 := by rw [← r_opens0.1, ← r_opens0.2]; exact hz3
  exact W.vret hx hb hr (fun t ht hW => ⟨⟨(Kf25, m_up2 I_1 1005 o 0, Rf25, Nf25, A_2), rfl, ⟨r_ad [q_7, q_15, q_23, q_31, q_39, q_47, q_55, q_63, q_71, q_79, q_87, q_94, q_101, q_108, q_115, q_122, q_130, q_138, q_145, q_152, q_159, q_166, q_173, q_181, q_189], hro, r_cfin hcA hz4.2.2.1, hz4, fun b h0 h4 h1 h2 h3 => hz4.2.2.2.1 b (fun z => h1 ((hcA b h0 h4).1.symm.trans z)) (fun z => h2 ((hcA b h0 h4).1.symm.trans z)) (fun z => h3 ((hcA b h0 h4).1.symm.trans z))⟩, m_wo_out hw ht hW.alike⟩, m_wo_F hw ht⟩) (m_wo_L hw) dX9_init_202
