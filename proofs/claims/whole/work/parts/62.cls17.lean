theorem c_k0 {K K' : Nat → Nat} {I I' : Nat → Nat → Int32} {R R' : Nat → Nat → Option Nat} {N N' : Nat → Nat} {EI ER : Nat → Nat → Prop} {x : Nat} (hc : c_chg K I R N K' I' R' N' EI ER) (h : K' x = 0) (b : Nat) (h0 : K b ≠ 0) (h4 : K b ≠ 40) : b ≠ x := fun z => h0 (by rw [← (hc b h0 h4).1, z]; exact h)
def c_sta (f : Nat) : Bool := decide (f ∈ [20, 40, 41, 60, 80, 81, 90, 91, 92, 93, 94, 95, 96, 97, 98, 120])
theorem c_ok_chg {K K' : Nat → Nat} {I I' : Nat → Nat → Int32} {R R' : Nat → Nat → Option Nat} {N N' : Nat → Nat} {EI ER : Nat → Nat → Prop} {x : Nat} {cd : Nat → Nat} (hok : c_ok K R N x cd) (hc : c_chg K I R N K' I' R' N' EI ER) (hE : ∀ f b, ER f b → c_sta f = false) : c_ok K' R' N' x cd := by
  have hR : ∀ {f b j : Nat}, K b = j → j ≠ 0 → j ≠ 40 → f ≠ 111 → f ≠ 99 → c_sta f = true → R' f b = R f b := fun hb h0 h4 h1 h9 hs => (hc _ (by rw [hb]; exact h0) (by rw [hb]; exact h4)).2.2.2.1 _ h1 h9 (fun z => absurd (hE _ _ z) (by rw [hs]; decide))
  have hN : ∀ {b j : Nat}, K b = j → j ≠ 0 → j ≠ 40 → N' b = N b := fun hb h0 h4 => (hc _ (by rw [hb]; exact h0) (by rw [hb]; exact h4)).2.1
  have hE1 : ∀ {b j : Nat}, K b = j → j ≠ 0 → j ≠ 40 → R 111 b ≠ none → R' 111 b ≠ none := fun hb h0 h4 => (hc _ (by rw [hb]; exact h0) (by rw [hb]; exact h4)).2.2.2.2
  exact ⟨c_kk hc hok.1 (by decide) (by decide), (hR (f := 90) hok.1 (by decide) (by decide) (by decide) (by decide) (by decide)).trans hok.2.1, (hR (f := 91) hok.1 (by decide) (by decide) (by decide) (by decide) (by decide)).trans hok.2.2.1, (hR (f := 92) hok.1 (by decide) (by decide) (by decide) (by decide) (by decide)).trans hok.2.2.2.1, (hR (f := 93) hok.1 (by decide) (by decide) (by decide) (by decide) (by decide)).trans hok.2.2.2.2.1, (hR (f := 94) hok.1 (by decide) (by decide) (by decide) (by decide) (by decide)).trans hok.2.2.2.2.2.1, (hR (f := 95) hok.1 (by decide) (by decide) (by decide) (by decide) (by decide)).trans hok.2.2.2.2.2.2.1, (hR (f := 96) hok.1 (by decide) (by decide) (by decide) (by decide) (by decide)).trans hok.2.2.2.2.2.2.2.1, (hR (f := 97) hok.1 (by decide) (by decide) (by decide) (by decide) (by decide)).trans hok.2.2.2.2.2.2.2.2.1, (hR (f := 98) hok.1 (by decide) (by decide) (by decide) (by decide) (by decide)).trans hok.2.2.2.2.2.2.2.2.2.1, c_kk hc hok.2.2.2.2.2.2.2.2.2.2.1 (by decide) (by decide), c_kk hc hok.2.2.2.2.2.2.2.2.2.2.2.1 (by decide) (by decide), c_kk hc hok.2.2.2.2.2.2.2.2.2.2.2.2.1 (by decide) (by decide), c_kk hc hok.2.2.2.2.2.2.2.2.2.2.2.2.2.1 (by decide) (by decide), c_kk hc hok.2.2.2.2.2.2.2.2.2.2.2.2.2.2.1 (by decide) (by decide), c_kk hc hok.2.2.2.2.2.2.2.2.2.2.2.2.2.2.2.1 (by decide) (by decide), c_kk hc hok.2.2.2.2.2.2.2.2.2.2.2.2.2.2.2.2.1 (by decide) (by decide), c_kk hc hok.2.2.2.2.2.2.2.2.2.2.2.2.2.2.2.2.2.1 (by decide) (by decide), c_kk hc hok.2.2.2.2.2.2.2.2.2.2.2.2.2.2.2.2.2.2.1 (by decide) (by decide), c_kk hc hok.2.2.2.2.2.2.2.2.2.2.2.2.2.2.2.2.2.2.2.1 (by decide) (by decide), c_kk hc hok.2.2.2.2.2.2.2.2.2.2.2.2.2.2.2.2.2.2.2.2.1 (by decide) (by decide), c_kk hc hok.2.2.2.2.2.2.2.2.2.2.2.2.2.2.2.2.2.2.2.2.2.1 (by decide) (by decide), c_kk hc hok.2.2.2.2.2.2.2.2.2.2.2.2.2.2.2.2.2.2.2.2.2.2.1 (by decide) (by decide), c_kk hc hok.2.2.2.2.2.2.2.2.2.2.2.2.2.2.2.2.2.2.2.2.2.2.2.1 (by decide) (by decide), c_kk hc hok.2.2.2.2.2.2.2.2.2.2.2.2.2.2.2.2.2.2.2.2.2.2.2.2.1 (by decide) (by decide), (hR (f := 20) hok.2.2.2.2.2.2.2.2.2.2.2.2.1 (by decide) (by decide) (by decide) (by decide) (by decide)).trans hok.2.2.2.2.2.2.2.2.2.2.2.2.2.2.2.2.2.2.2.2.2.2.2.2.2.1, (hR (f := 60) hok.2.2.2.2.2.2.2.2.2.2.2.2.2.2.1 (by decide) (by decide) (by decide) (by decide) (by decide)).trans hok.2.2.2.2.2.2.2.2.2.2.2.2.2.2.2.2.2.2.2.2.2.2.2.2.2.2.1, (hR (f := 80) hok.2.2.2.2.2.2.2.2.2.2.2.2.2.1 (by decide) (by decide) (by decide) (by decide) (by decide)).trans hok.2.2.2.2.2.2.2.2.2.2.2.2.2.2.2.2.2.2.2.2.2.2.2.2.2.2.2.1, (hR (f := 81) hok.2.2.2.2.2.2.2.2.2.2.2.2.2.1 (by decide) (by decide) (by decide) (by decide) (by decide)).trans hok.2.2.2.2.2.2.2.2.2.2.2.2.2.2.2.2.2.2.2.2.2.2.2.2.2.2.2.2.1, (hR (f := 40) hok.2.2.2.2.2.2.2.2.2.2.2.2.2.2.2.2.1 (by decide) (by decide) (by decide) (by decide) (by decide)).trans hok.2.2.2.2.2.2.2.2.2.2.2.2.2.2.2.2.2.2.2.2.2.2.2.2.2.2.2.2.2.1, (hR (f := 41) hok.2.2.2.2.2.2.2.2.2.2.2.2.2.2.2.2.1 (by decide) (by decide) (by decide) (by decide) (by decide)).trans hok.2.2.2.2.2.2.2.2.2.2.2.2.2.2.2.2.2.2.2.2.2.2.2.2.2.2.2.2.2.2.1, (hN hok.2.2.2.2.2.2.2.2.2.2.2.2.2.2.2.2.2.2.2.2.2.1 (by decide) (by decide)).trans hok.2.2.2.2.2.2.2.2.2.2.2.2.2.2.2.2.2.2.2.2.2.2.2.2.2.2.2.2.2.2.2.1, (hN hok.2.2.2.2.2.2.2.2.2.2.2.2.2.2.2.2.2.2.2.2.2.2.1 (by decide) (by decide)).trans hok.2.2.2.2.2.2.2.2.2.2.2.2.2.2.2.2.2.2.2.2.2.2.2.2.2.2.2.2.2.2.2.2.1, (hN hok.2.2.2.2.2.2.2.2.2.2.2.2.2.2.2.2.2.2.2.2.2.2.2.1 (by decide) (by decide)).trans hok.2.2.2.2.2.2.2.2.2.2.2.2.2.2.2.2.2.2.2.2.2.2.2.2.2.2.2.2.2.2.2.2.2.1, (hN hok.2.2.2.2.2.2.2.2.2.2.2.2.2.2.2.2.2.2.2.2.2.2.2.2.1 (by decide) (by decide)).trans hok.2.2.2.2.2.2.2.2.2.2.2.2.2.2.2.2.2.2.2.2.2.2.2.2.2.2.2.2.2.2.2.2.2.2.1, hE1 hok.2.2.2.2.2.2.2.2.2.2.1 (by decide) (by decide) hok.2.2.2.2.2.2.2.2.2.2.2.2.2.2.2.2.2.2.2.2.2.2.2.2.2.2.2.2.2.2.2.2.2.2.2.1, hE1 hok.2.2.2.2.2.2.2.2.2.2.2.1 (by decide) (by decide) hok.2.2.2.2.2.2.2.2.2.2.2.2.2.2.2.2.2.2.2.2.2.2.2.2.2.2.2.2.2.2.2.2.2.2.2.2.1, hE1 hok.2.2.2.2.2.2.2.2.2.2.2.2.2.2.2.1 (by decide) (by decide) hok.2.2.2.2.2.2.2.2.2.2.2.2.2.2.2.2.2.2.2.2.2.2.2.2.2.2.2.2.2.2.2.2.2.2.2.2.2.1, hE1 hok.2.2.2.2.2.2.2.2.2.2.2.2.2.2.2.2.2.2.1 (by decide) (by decide) hok.2.2.2.2.2.2.2.2.2.2.2.2.2.2.2.2.2.2.2.2.2.2.2.2.2.2.2.2.2.2.2.2.2.2.2.2.2.2.1, hE1 hok.2.2.2.2.2.2.2.2.2.2.2.2.2.2.2.2.2.2.2.1 (by decide) (by decide) hok.2.2.2.2.2.2.2.2.2.2.2.2.2.2.2.2.2.2.2.2.2.2.2.2.2.2.2.2.2.2.2.2.2.2.2.2.2.2.2.1, hE1 hok.2.2.2.2.2.2.2.2.2.2.2.2.2.2.2.2.2.2.2.2.1 (by decide) (by decide) hok.2.2.2.2.2.2.2.2.2.2.2.2.2.2.2.2.2.2.2.2.2.2.2.2.2.2.2.2.2.2.2.2.2.2.2.2.2.2.2.2.1, (by rw [hR (f := 120) hok.2.2.2.2.2.2.2.2.2.2.2.2.2.2.2.2.2.1 (by decide) (by decide) (by decide) (by decide) (by decide)]; exact hok.2.2.2.2.2.2.2.2.2.2.2.2.2.2.2.2.2.2.2.2.2.2.2.2.2.2.2.2.2.2.2.2.2.2.2.2.2.2.2.2.2.1), hok.2.2.2.2.2.2.2.2.2.2.2.2.2.2.2.2.2.2.2.2.2.2.2.2.2.2.2.2.2.2.2.2.2.2.2.2.2.2.2.2.2.2.1, hok.2.2.2.2.2.2.2.2.2.2.2.2.2.2.2.2.2.2.2.2.2.2.2.2.2.2.2.2.2.2.2.2.2.2.2.2.2.2.2.2.2.2.2.1, hok.2.2.2.2.2.2.2.2.2.2.2.2.2.2.2.2.2.2.2.2.2.2.2.2.2.2.2.2.2.2.2.2.2.2.2.2.2.2.2.2.2.2.2.2.1, hok.2.2.2.2.2.2.2.2.2.2.2.2.2.2.2.2.2.2.2.2.2.2.2.2.2.2.2.2.2.2.2.2.2.2.2.2.2.2.2.2.2.2.2.2.2.1, hok.2.2.2.2.2.2.2.2.2.2.2.2.2.2.2.2.2.2.2.2.2.2.2.2.2.2.2.2.2.2.2.2.2.2.2.2.2.2.2.2.2.2.2.2.2.2.1, hok.2.2.2.2.2.2.2.2.2.2.2.2.2.2.2.2.2.2.2.2.2.2.2.2.2.2.2.2.2.2.2.2.2.2.2.2.2.2.2.2.2.2.2.2.2.2.2.1, hok.2.2.2.2.2.2.2.2.2.2.2.2.2.2.2.2.2.2.2.2.2.2.2.2.2.2.2.2.2.2.2.2.2.2.2.2.2.2.2.2.2.2.2.2.2.2.2.2.1, hok.2.2.2.2.2.2.2.2.2.2.2.2.2.2.2.2.2.2.2.2.2.2.2.2.2.2.2.2.2.2.2.2.2.2.2.2.2.2.2.2.2.2.2.2.2.2.2.2.2.1, hok.2.2.2.2.2.2.2.2.2.2.2.2.2.2.2.2.2.2.2.2.2.2.2.2.2.2.2.2.2.2.2.2.2.2.2.2.2.2.2.2.2.2.2.2.2.2.2.2.2.2.1, hok.2.2.2.2.2.2.2.2.2.2.2.2.2.2.2.2.2.2.2.2.2.2.2.2.2.2.2.2.2.2.2.2.2.2.2.2.2.2.2.2.2.2.2.2.2.2.2.2.2.2.2.1, hok.2.2.2.2.2.2.2.2.2.2.2.2.2.2.2.2.2.2.2.2.2.2.2.2.2.2.2.2.2.2.2.2.2.2.2.2.2.2.2.2.2.2.2.2.2.2.2.2.2.2.2.2.1, hok.2.2.2.2.2.2.2.2.2.2.2.2.2.2.2.2.2.2.2.2.2.2.2.2.2.2.2.2.2.2.2.2.2.2.2.2.2.2.2.2.2.2.2.2.2.2.2.2.2.2.2.2.2.1, hok.2.2.2.2.2.2.2.2.2.2.2.2.2.2.2.2.2.2.2.2.2.2.2.2.2.2.2.2.2.2.2.2.2.2.2.2.2.2.2.2.2.2.2.2.2.2.2.2.2.2.2.2.2.2.1, hok.2.2.2.2.2.2.2.2.2.2.2.2.2.2.2.2.2.2.2.2.2.2.2.2.2.2.2.2.2.2.2.2.2.2.2.2.2.2.2.2.2.2.2.2.2.2.2.2.2.2.2.2.2.2.2.1, hok.2.2.2.2.2.2.2.2.2.2.2.2.2.2.2.2.2.2.2.2.2.2.2.2.2.2.2.2.2.2.2.2.2.2.2.2.2.2.2.2.2.2.2.2.2.2.2.2.2.2.2.2.2.2.2.2⟩
theorem c_lt_I {I I' : Nat → Nat → Int32} (h : ∀ f b, f ≠ 110 → I' f b = I f b) : c_lt I' = c_lt I := by
  funext a b
  unfold c_lt
  rw [h 11 a (by decide), h 11 b (by decide), h 12 a (by decide), h 12 b (by decide), h 13 a (by decide), h 13 b (by decide), h 10 a (by decide), h 10 b (by decide)]
theorem m_nc_120 {n : Nat} (h : n ≤ 120) : m_nc n ≤ 252 := by
  unfold m_nc
  split
  · omega
  · have : max 1 (n / 2) ≤ n + 1 := Nat.max_le.mpr ⟨by omega, by omega⟩
    omega
set_option maxHeartbeats 1600000 in
set_option maxRecDepth 100000 in
theorem c_X8_enter_o (l : Launch) {G : mG} {K : Nat → Nat} {I : Nat → Nat → Int32} {R : Nat → Nat → Option Nat} {F : Nat → UInt32} {A : Nat → Nat → Int32} {N : Nat → Nat} {L : Nat → List Nat} {T : Nat → List Int32} {J : Nat → Nat → Int64} {D : Nat → Nat → UInt64} {o : Nat} {cd : Nat → Nat} {f9 sg fl : Nat} (hok : c_ok K R N o cd) (hel1 : ∀ a, a ∈ L (cd 1) → K a = 1) (hel9 : ∀ a, a ∈ L (cd 9) → K a = 1) (hf9 : K f9 = 1) (hl1 : (L (cd 1)).length ≤ 120) (hl9 : (L (cd 9)).length ≤ 120) (hop : R 61 (cd 4) = some sg) (hksg : K sg = 5) (hfl : R 51 sg = some fl) (hkf : K fl = 11) (hrf : R 111 fl ≠ none) (helf : ∀ a, a ∈ L fl → K a = 1) (hc20 : (L fl).length ≤ 20) (hn1 : fl ≠ cd 1) (hn9 : fl ≠ cd 9) : Met l yX8_enter wsX8_enter ({ frames := 14, cells := 6, slots := 564, locals := 520 } : Room) (va_Pc [.ref o, .ref f9] (m_B G K I R F A N L T J D)) (va_Qi (fun (r : Int32) (u : (Nat → Nat) × (Nat → Nat → Int32) × (Nat → Nat → Option Nat) × (Nat → Nat) × (Nat → List Nat)) => r = I 10 f9 ∧ c_chg K I R N u.1 u.2.1 u.2.2.1 u.2.2.2.1 c_no (fun f b => (f = 15 ∧ b = f9) ∨ (f = 61 ∧ b = cd 4)) ∧ u.2.2.1 15 f9 = some sg ∧ u.2.2.1 61 (cd 4) = (if (L fl).length + 1 < 10 then some sg else none) ∧ (∃ k, k ≤ (L (cd 9)).length ∧ u.2.2.2.2 = m_up (m_up (m_up L (cd 1) (L (cd 1) ++ [f9])) (cd 9) (y_ins (L (cd 9)) k f9)) fl (L fl ++ [f9]) ∧ (∀ j, k ≤ j → j < (L (cd 9)).length → c_lt I f9 ((L (cd 9)).getD j 0) = true) ∧ (k = 0 ∨ c_lt I f9 ((L (cd 9)).getD (k - 1) 0) = false))) (fun u : (Nat → Nat) × (Nat → Nat → Int32) × (Nat → Nat → Option Nat) × (Nat → Nat) × (Nat → List Nat) => m_B G (u.1) (u.2.1) (u.2.2.1) F A (u.2.2.2.1) (u.2.2.2.2) T J D) (m_A G)) 6 564 (m_A G) := by
  refine Met.ofW (cc := cX8_enter) (maxL := 2) (ret := (some .int)) (by decide) rfl ?_
  intro p e s m args below meth c s₁ B hml hv
  obtain ⟨rfl, hB⟩ := hv
  have hx := B.exec
  have hb := B.bytes
  have hr := B.returns
  have hts := atoms_spec (ws := wsX8_enter) B.pre
  have hown : s.vm.findClass RX8 = some m.cls := findClass_of_methodNamed B.named
  have hlocks := B.notSynchronized
  have hw := m_wo_in hB
  have hl := lv_entry ([.ref o, .ref f9]) (n := 2) (Nat.le_of_ble_eq_true rfl)
  rw [lg_entry_eq]
  generalize (lg_sl ([.ref o, .ref f9]) ++ List.replicate (2 - (lg_sl ([.ref o, .ref f9])).length) Slot.unset).toArray = ls at hl ⊢
  have hl : lv_has ls 2 [(0, .ref o), (1, .ref f9)] := hl
  have hnc1 := m_nc_120 hl1
  have hnc9 := m_nc_120 hl9
  have hok0 := hok
  have hf90 := hf9
  refine lv_aload_n hx hb dX8_enter_0 rfl (lv_at hl 0 rfl) ?_
  refine g_9_1 (r := some (cd 1)) hx hb hts (by decide +kernel) hown hw hok.1 (hts (.fieldLink RX8 16 "Pirateindex" "log" "Ljava/util/ArrayList;") (by decide +kernel)) hok.2.2.1 dX8_enter_1 ?_
  refine lv_aload_n hx hb dX8_enter_4 rfl (lv_at hl 1 rfl) ?_
  refine m_ci (va_runV (As := [.ref f9]) (rest := []) ⟨hx, hb, hml, hown, hts⟩ (c_Jx4a65c_add_9ea2d l hok.2.2.2.2.2.2.2.2.2.2.2.1 hok.2.2.2.2.2.2.2.2.2.2.2.2.2.2.2.2.2.2.2.2.2.2.2.2.2.2.2.2.2.2.2.2.2.2.2.2.1 (Or.inl hf9) (fun y hy => Or.inl (hel1 y hy)) (by omega)) (cwV 1 hts gX8_enter_Jx4a65c_add_9ea2d rfl rfl rfl (by decide +kernel) ⟨Nat.le_of_ble_eq_true rfl, Nat.le_of_ble_eq_true rfl⟩) ⟨m_blind m_B_calling, m_recv hw (m_ent_11 hok.2.2.2.2.2.2.2.2.2.2.2.1) rfl, fun U hU hW => ⟨rfl, m_wo_call hw hU hW⟩⟩ rfl rfl hl.1 rfl (lv_room (Nat.le_of_ble_eq_true rfl)) dX8_enter_5 ⟨by show 0 + (if _ then _ else _) ≤ 6; split <;> omega, by show 0 + (if _ then _ else _) ≤ 564; split <;> omega⟩) hw (fun r_5 u_5 H locs hp_5 hw => ?_)
  obtain ⟨K_1, I_2, R_3, N_4, L_5⟩ := u_5
  have hw : m_wo G K_1 I_2 R_3 F A N_4 L_5 T J D s H locs := hw
  dsimp only at hp_5
  obtain ⟨hh1, hcap1, eL1⟩ := hp_5
  have hcs1 : c_chg K I R N K_1 I_2 R_3 N_4 c_no c_no := c_chg_hid hh1
  have hok := c_ok_chg hok0 hcs1 (fun _ _ h => absurd h id)
  have hf9 : K_1 f9 = 1 := c_kk hcs1 hf90 (by decide) (by decide)
  have hL19 : L_5 (cd 9) = L (cd 9) := by rw [eL1, m_up_ne _ _ (Ne.symm hok0.2.2.2.2.2.2.2.2.2.2.2.2.2.2.2.2.2.2.2.2.2.2.2.2.2.2.2.2.2.2.2.2.2.2.2.2.2.2.2.2.2.2.2.2.2.2.2.2.2.1)]
  refine lv_pop hx hb dX8_enter_8 rfl ?_
  refine lv_aload_n hx hb dX8_enter_9 rfl (lv_at hl 0 rfl) ?_
  refine g_9_2 (r := some (cd 2)) hx hb hts (by decide +kernel) hown hw hok.1 (hts (.fieldLink RX8 22 "Pirateindex" "index" "LPirateindex$Index;") (by decide +kernel)) hok.2.2.2.1 dX8_enter_10 ?_
  refine lv_aload_n hx hb dX8_enter_13 rfl (lv_at hl 1 rfl) ?_
  refine m_cv (va_runV (As := [.ref f9]) (rest := []) ⟨hx, hb, hml, hown, hts⟩ (c_X1_enter l hok.2.2.2.2.2.2.2.2.2.2.2.2.1 hok.2.2.2.2.2.2.2.2.2.2.2.2.2.2.2.2.2.2.2.2.2.2.2.2.2.1 hok.2.2.2.2.2.2.2.2.2.2.2.2.2.2.2.2.2.2.2.1 (fun a ha => c_kk hcs1 (hel9 a (by rw [← hL19]; exact ha)) (by decide) (by decide)) hok.2.2.2.2.2.2.2.2.2.2.2.2.2.2.2.2.2.2.2.2.2.2.2.2.2.2.2.2.2.2.2.2.2.2.2.2.2.2.2.1 hf9 (by rw [hL19]; omega)) (cwV 1 hts gX8_enter_X1_enter rfl rfl rfl (by decide +kernel) ⟨Nat.le_of_ble_eq_true rfl, Nat.le_of_ble_eq_true rfl⟩) ⟨m_blind m_B_calling, m_recv hw (m_ent_2 hok.2.2.2.2.2.2.2.2.2.2.2.2.1) rfl, fun U hU hW => ⟨rfl, m_wo_call hw hU hW⟩⟩ rfl rfl hl.1 rfl (lv_room (Nat.le_of_ble_eq_true rfl)) dX8_enter_14 ⟨by show 0 + (if _ then _ else _) + (if _ then _ else _) ≤ 6; split <;> split <;> omega, by rw [hL19]; show 0 + (if _ then _ else _) + (if _ then _ else _) ≤ 564; split <;> split <;> omega⟩) hw (fun u_14 H locs hp_14 hw => ?_)
  obtain ⟨K_6, I_7, R_8, N_9, L_10⟩ := u_14
  have hw : m_wo G K_6 I_7 R_8 F A N_9 L_10 T J D s H locs := hw
  dsimp only at hp_14
  obtain ⟨hh2, k9, hk9, eL2, hlt2, hlt3⟩ := hp_14
  have hcs2 : c_chg K I R N K_6 I_7 R_8 N_9 c_no c_no := c_chg_mono (c_chg_tr hcs1 (c_chg_hid hh2)) (fun _ _ h => h.elim id id) (fun _ _ h => h.elim id id)
  have hok := c_ok_chg hok0 hcs2 (fun _ _ h => absurd h id)
  have hf9 : K_6 f9 = 1 := c_kk hcs2 hf90 (by decide) (by decide)
  rw [hL19] at hk9 eL2 hlt2 hlt3
  have hI1 : ∀ f b, f ≠ 110 → I_2 f b = I f b := hh1.2.2.1
  rw [c_lt_I hI1] at hlt2 hlt3
  refine lv_aload_n hx hb dX8_enter_17 rfl (lv_at hl 0 rfl) ?_
  refine g_9_4 (r := some (cd 4)) hx hb hts (by decide +kernel) hown hw hok.1 (hts (.fieldLink RX8 36 "Pirateindex" "shelf" "LPirateindex$Shelf;") (by decide +kernel)) hok.2.2.2.2.2.1 dX8_enter_18 ?_
  refine lv_aload_n hx hb dX8_enter_21 rfl (lv_at hl 1 rfl) ?_
  have hL2f : L_10 fl = L fl := by rw [eL2, m_up_ne _ _ hn9, eL1, m_up_ne _ _ hn1]
  have hkf2 : K_6 fl = 11 := c_kk hcs2 hkf (by decide) (by decide)
  refine m_cv (va_runV (As := [.ref f9]) (rest := []) ⟨hx, hb, hml, hown, hts⟩ (c_X5_put_o l hok.2.2.2.2.2.2.2.2.2.2.2.2.2.2.1 ((c_rr hcs2 hok0.2.2.2.2.2.2.2.2.2.2.2.2.2.2.1 (by decide) (by decide) (f := 61) (by decide) (by decide)).trans hop) (c_kk hcs2 hksg (by decide) (by decide)) ((c_rr hcs2 hksg (by decide) (by decide) (f := 51) (by decide) (by decide)).trans hfl) hkf2 ((hcs2 fl (by rw [hkf]; decide) (by rw [hkf]; decide)).2.2.2.2 hrf) (fun a ha => c_kk hcs2 (helf a (by rw [← hL2f]; exact ha)) (by decide) (by decide)) hf9 (by rw [hL2f]; exact hc20)) (cwV 1 hts gX8_enter_X5_put rfl rfl rfl (by decide +kernel) ⟨Nat.le_of_ble_eq_true rfl, Nat.le_of_ble_eq_true rfl⟩) ⟨m_blind m_B_calling, m_recv hw (m_ent_6 hok.2.2.2.2.2.2.2.2.2.2.2.2.2.2.1) rfl, fun U hU hW => ⟨rfl, m_wo_call hw hU hW⟩⟩ rfl rfl hl.1 rfl (lv_room (Nat.le_of_ble_eq_true rfl)) dX8_enter_22 ⟨by show 0 + (if _ then _ else _) + (if _ then _ else _) + 4 ≤ 6; split <;> split <;> omega, by rw [hL19]; show 0 + (if _ then _ else _) + (if _ then _ else _) + 60 ≤ 564; split <;> split <;> omega⟩) hw (fun u_22 H locs hp_22 hw => ?_)
  obtain ⟨K_11, I_12, R_13, N_14, L_15⟩ := u_22
  have hw : m_wo G K_11 I_12 R_13 F A N_14 L_15 T J D s H locs := hw
  dsimp only at hp_22
  obtain ⟨R9, hh3, eR3, eL3⟩ := hp_22
  rw [hL2f] at eR3 eL3
  have hcs3 : c_chg K I R N K_11 I_12 R_13 N_14 c_no (fun f b => (f = 15 ∧ b = f9) ∨ (f = 61 ∧ b = cd 4)) := by
    rw [eR3]
    exact c_chg_mono (c_chg_tr hcs2 (c_chg_tr (c_chg_hid hh3) (c_chg_tr (c_chg_R (f := 15) (b := f9) (by decide)) (c_chg_R (f := 61) (b := cd 4) (by decide))))) (fun _ _ h => h.elim id (fun h => h.elim id (fun h => h.elim id id))) (fun _ _ h => h.elim False.elim (fun h => h.elim False.elim id))
  have hI10 : I_12 10 f9 = I 10 f9 := (hcs3 f9 (by rw [hf90]; decide) (by rw [hf90]; decide)).2.2.1 10 (by decide) id
  have hf93 : K_11 f9 = 1 := c_kk hcs3 hf90 (by decide) (by decide)
  have ht15 : R_13 15 f9 = some sg := by rw [eR3, m_up2_ni _ _ (by decide), m_up2_self]
  have ht61 : R_13 61 (cd 4) = (if (L fl).length + 1 < 10 then some sg else none) := by rw [eR3, m_up2_self]
  refine lv_aload_n hx hb dX8_enter_25 rfl (lv_at hl 1 rfl) ?_
  refine g_1_0 hx hb hts (by decide +kernel) hown hw hf93 (hts (.fieldLink RX8 218 "Pirateindex$Find" "number" "I") (by decide +kernel)) dX8_enter_26 ?_
  rw [hI10]
  refine W.widen (k := 6) (n := 564) (by split <;> split <;> omega) (by rw [hL19]; split <;> split <;> omega) ?_
  exact W.iret (v := (I 10 f9)) hx hb hr (fun t ht hW => ⟨⟨(I 10 f9), (K_11, I_12, R_13, N_14, L_15), rfl, ⟨rfl, hcs3, ht15, ht61, k9, hk9, by rw [eL3, eL2, eL1], hlt2, hlt3⟩, m_wo_out hw ht hW.alike⟩, m_wo_F hw ht⟩) (m_wo_L hw) dX8_enter_29
set_option maxHeartbeats 1600000 in
set_option maxRecDepth 100000 in
theorem c_X8_enter_n (l : Launch) {G : mG} {K : Nat → Nat} {I : Nat → Nat → Int32} {R : Nat → Nat → Option Nat} {F : Nat → UInt32} {A : Nat → Nat → Int32} {N : Nat → Nat} {L : Nat → List Nat} {T : Nat → List Int32} {J : Nat → Nat → Int64} {D : Nat → Nat → UInt64} {o : Nat} {cd : Nat → Nat} {f9 : Nat} (hok : c_ok K R N o cd) (hel1 : ∀ a, a ∈ L (cd 1) → K a = 1) (hel9 : ∀ a, a ∈ L (cd 9) → K a = 1) (hf9 : K f9 = 1) (hl1 : (L (cd 1)).length ≤ 120) (hl9 : (L (cd 9)).length ≤ 120) (hop : R 61 (cd 4) = none) (hel5 : ∀ a, a ∈ L (cd 10) → K a = 5) (hl10 : (L (cd 10)).length ≤ 20) : Met l yX8_enter wsX8_enter ({ frames := 14, cells := 6, slots := 564, locals := 560 } : Room) (va_Pc [.ref o, .ref f9] (m_B G K I R F A N L T J D)) (va_Qi (fun (r : Int32) (u : (Nat → Nat) × (Nat → Nat → Int32) × (Nat → Nat → Option Nat) × (Nat → Nat) × (Nat → List Nat)) => r = I 10 f9 ∧ ∃ sg fl, (∀ b, K b ≠ 0 → K b ≠ 40 → b ≠ sg ∧ b ≠ fl) ∧ sg ≠ fl ∧ c_chg K I R N u.1 u.2.1 u.2.2.1 u.2.2.2.1 (fun f b => f = 62 ∧ b = cd 4) (fun f b => (f = 15 ∧ b = f9) ∨ (f = 61 ∧ b = cd 4)) ∧ u.1 sg = 5 ∧ u.1 fl = 11 ∧ u.2.2.1 51 sg = some fl ∧ u.2.2.1 111 fl ≠ none ∧ u.2.1 50 sg = I 62 (cd 4) ∧ u.2.1 62 (cd 4) = I 62 (cd 4) + 1 ∧ u.2.2.1 15 f9 = some sg ∧ u.2.2.1 61 (cd 4) = some sg ∧ (∃ k, k ≤ (L (cd 9)).length ∧ u.2.2.2.2 = m_up (m_up (m_up (m_up L (cd 1) (L (cd 1) ++ [f9])) (cd 9) (y_ins (L (cd 9)) k f9)) (cd 10) (L (cd 10) ++ [sg])) fl [f9] ∧ (∀ j, k ≤ j → j < (L (cd 9)).length → c_lt I f9 ((L (cd 9)).getD j 0) = true) ∧ (k = 0 ∨ c_lt I f9 ((L (cd 9)).getD (k - 1) 0) = false))) (fun u : (Nat → Nat) × (Nat → Nat → Int32) × (Nat → Nat → Option Nat) × (Nat → Nat) × (Nat → List Nat) => m_B G (u.1) (u.2.1) (u.2.2.1) F A (u.2.2.2.1) (u.2.2.2.2) T J D) (m_A G)) 6 564 (m_A G) := by
  refine Met.ofW (cc := cX8_enter) (maxL := 2) (ret := (some .int)) (by decide) rfl ?_
  intro p e s m args below meth c s₁ B hml hv
  obtain ⟨rfl, hB⟩ := hv
  have hx := B.exec
  have hb := B.bytes
  have hr := B.returns
  have hts := atoms_spec (ws := wsX8_enter) B.pre
  have hown : s.vm.findClass RX8 = some m.cls := findClass_of_methodNamed B.named
  have hlocks := B.notSynchronized
  have hw := m_wo_in hB
  have hl := lv_entry ([.ref o, .ref f9]) (n := 2) (Nat.le_of_ble_eq_true rfl)
  rw [lg_entry_eq]
  generalize (lg_sl ([.ref o, .ref f9]) ++ List.replicate (2 - (lg_sl ([.ref o, .ref f9])).length) Slot.unset).toArray = ls at hl ⊢
  have hl : lv_has ls 2 [(0, .ref o), (1, .ref f9)] := hl
  have hnc1 := m_nc_120 hl1
  have hnc9 := m_nc_120 hl9
  have hok0 := hok
  have hf90 := hf9
  refine lv_aload_n hx hb dX8_enter_0 rfl (lv_at hl 0 rfl) ?_
  refine g_9_1 (r := some (cd 1)) hx hb hts (by decide +kernel) hown hw hok.1 (hts (.fieldLink RX8 16 "Pirateindex" "log" "Ljava/util/ArrayList;") (by decide +kernel)) hok.2.2.1 dX8_enter_1 ?_
  refine lv_aload_n hx hb dX8_enter_4 rfl (lv_at hl 1 rfl) ?_
  refine m_ci (va_runV (As := [.ref f9]) (rest := []) ⟨hx, hb, hml, hown, hts⟩ (c_Jx4a65c_add_9ea2d l hok.2.2.2.2.2.2.2.2.2.2.2.1 hok.2.2.2.2.2.2.2.2.2.2.2.2.2.2.2.2.2.2.2.2.2.2.2.2.2.2.2.2.2.2.2.2.2.2.2.2.1 (Or.inl hf9) (fun y hy => Or.inl (hel1 y hy)) (by omega)) (cwV 1 hts gX8_enter_Jx4a65c_add_9ea2d rfl rfl rfl (by decide +kernel) ⟨Nat.le_of_ble_eq_true rfl, Nat.le_of_ble_eq_true rfl⟩) ⟨m_blind m_B_calling, m_recv hw (m_ent_11 hok.2.2.2.2.2.2.2.2.2.2.2.1) rfl, fun U hU hW => ⟨rfl, m_wo_call hw hU hW⟩⟩ rfl rfl hl.1 rfl (lv_room (Nat.le_of_ble_eq_true rfl)) dX8_enter_5 ⟨by show 0 + (if _ then _ else _) ≤ 6; split <;> omega, by show 0 + (if _ then _ else _) ≤ 564; split <;> omega⟩) hw (fun r_5 u_5 H locs hp_5 hw => ?_)
  obtain ⟨K_1, I_2, R_3, N_4, L_5⟩ := u_5
  have hw : m_wo G K_1 I_2 R_3 F A N_4 L_5 T J D s H locs := hw
  dsimp only at hp_5
  obtain ⟨hh1, hcap1, eL1⟩ := hp_5
  have hcs1 : c_chg K I R N K_1 I_2 R_3 N_4 c_no c_no := c_chg_hid hh1
  have hok := c_ok_chg hok0 hcs1 (fun _ _ h => absurd h id)
  have hf9 : K_1 f9 = 1 := c_kk hcs1 hf90 (by decide) (by decide)
  have hL19 : L_5 (cd 9) = L (cd 9) := by rw [eL1, m_up_ne _ _ (Ne.symm hok0.2.2.2.2.2.2.2.2.2.2.2.2.2.2.2.2.2.2.2.2.2.2.2.2.2.2.2.2.2.2.2.2.2.2.2.2.2.2.2.2.2.2.2.2.2.2.2.2.2.1)]
  refine lv_pop hx hb dX8_enter_8 rfl ?_
  refine lv_aload_n hx hb dX8_enter_9 rfl (lv_at hl 0 rfl) ?_
  refine g_9_2 (r := some (cd 2)) hx hb hts (by decide +kernel) hown hw hok.1 (hts (.fieldLink RX8 22 "Pirateindex" "index" "LPirateindex$Index;") (by decide +kernel)) hok.2.2.2.1 dX8_enter_10 ?_
  refine lv_aload_n hx hb dX8_enter_13 rfl (lv_at hl 1 rfl) ?_
  refine m_cv (va_runV (As := [.ref f9]) (rest := []) ⟨hx, hb, hml, hown, hts⟩ (c_X1_enter l hok.2.2.2.2.2.2.2.2.2.2.2.2.1 hok.2.2.2.2.2.2.2.2.2.2.2.2.2.2.2.2.2.2.2.2.2.2.2.2.2.1 hok.2.2.2.2.2.2.2.2.2.2.2.2.2.2.2.2.2.2.2.1 (fun a ha => c_kk hcs1 (hel9 a (by rw [← hL19]; exact ha)) (by decide) (by decide)) hok.2.2.2.2.2.2.2.2.2.2.2.2.2.2.2.2.2.2.2.2.2.2.2.2.2.2.2.2.2.2.2.2.2.2.2.2.2.2.2.1 hf9 (by rw [hL19]; omega)) (cwV 1 hts gX8_enter_X1_enter rfl rfl rfl (by decide +kernel) ⟨Nat.le_of_ble_eq_true rfl, Nat.le_of_ble_eq_true rfl⟩) ⟨m_blind m_B_calling, m_recv hw (m_ent_2 hok.2.2.2.2.2.2.2.2.2.2.2.2.1) rfl, fun U hU hW => ⟨rfl, m_wo_call hw hU hW⟩⟩ rfl rfl hl.1 rfl (lv_room (Nat.le_of_ble_eq_true rfl)) dX8_enter_14 ⟨by show 0 + (if _ then _ else _) + (if _ then _ else _) ≤ 6; split <;> split <;> omega, by rw [hL19]; show 0 + (if _ then _ else _) + (if _ then _ else _) ≤ 564; split <;> split <;> omega⟩) hw (fun u_14 H locs hp_14 hw => ?_)
  obtain ⟨K_6, I_7, R_8, N_9, L_10⟩ := u_14
  have hw : m_wo G K_6 I_7 R_8 F A N_9 L_10 T J D s H locs := hw
  dsimp only at hp_14
  obtain ⟨hh2, k9, hk9, eL2, hlt2, hlt3⟩ := hp_14
  have hcs2 : c_chg K I R N K_6 I_7 R_8 N_9 c_no c_no := c_chg_mono (c_chg_tr hcs1 (c_chg_hid hh2)) (fun _ _ h => h.elim id id) (fun _ _ h => h.elim id id)
  have hok := c_ok_chg hok0 hcs2 (fun _ _ h => absurd h id)
  have hf9 : K_6 f9 = 1 := c_kk hcs2 hf90 (by decide) (by decide)
  rw [hL19] at hk9 eL2 hlt2 hlt3
  have hI1 : ∀ f b, f ≠ 110 → I_2 f b = I f b := hh1.2.2.1
  rw [c_lt_I hI1] at hlt2 hlt3
  refine lv_aload_n hx hb dX8_enter_17 rfl (lv_at hl 0 rfl) ?_
  refine g_9_4 (r := some (cd 4)) hx hb hts (by decide +kernel) hown hw hok.1 (hts (.fieldLink RX8 36 "Pirateindex" "shelf" "LPirateindex$Shelf;") (by decide +kernel)) hok.2.2.2.2.2.1 dX8_enter_18 ?_
  refine lv_aload_n hx hb dX8_enter_21 rfl (lv_at hl 1 rfl) ?_
  have hL2f : L_10 (cd 10) = L (cd 10) := by rw [eL2, m_up_ne _ _ (Ne.symm hok0.2.2.2.2.2.2.2.2.2.2.2.2.2.2.2.2.2.2.2.2.2.2.2.2.2.2.2.2.2.2.2.2.2.2.2.2.2.2.2.2.2.2.2.2.2.2.2.2.2.2.2.2.2.2.2.2), eL1, m_up_ne _ _ (Ne.symm hok0.2.2.2.2.2.2.2.2.2.2.2.2.2.2.2.2.2.2.2.2.2.2.2.2.2.2.2.2.2.2.2.2.2.2.2.2.2.2.2.2.2.2.2.2.2.2.2.2.2.2.1)]
  refine m_cv (va_runV (As := [.ref f9]) (rest := []) ⟨hx, hb, hml, hown, hts⟩ (c_X5_put_n l hok.2.2.2.2.2.2.2.2.2.2.2.2.2.2.1 hok.2.2.2.2.2.2.2.2.2.2.2.2.2.2.2.2.2.2.2.2.2.2.2.2.2.2.1 hok.2.2.2.2.2.2.2.2.2.2.2.2.2.2.2.2.2.2.2.2.1 (fun a ha => c_kk hcs2 (hel5 a (by rw [← hL2f]; exact ha)) (by decide) (by decide)) hok.2.2.2.2.2.2.2.2.2.2.2.2.2.2.2.2.2.2.2.2.2.2.2.2.2.2.2.2.2.2.2.2.2.2.2.2.2.2.2.2.1 ((c_rr hcs2 hok0.2.2.2.2.2.2.2.2.2.2.2.2.2.2.1 (by decide) (by decide) (f := 61) (by decide) (by decide)).trans hop) hf9 (by rw [hL2f]; exact hl10)) (cwV 1 hts gX8_enter_X5_put rfl rfl rfl (by decide +kernel) ⟨Nat.le_of_ble_eq_true rfl, Nat.le_of_ble_eq_true rfl⟩) ⟨m_blind m_B_calling, m_recv hw (m_ent_6 hok.2.2.2.2.2.2.2.2.2.2.2.2.2.2.1) rfl, fun U hU hW => ⟨rfl, m_wo_call hw hU hW⟩⟩ rfl rfl hl.1 rfl (lv_room (Nat.le_of_ble_eq_true rfl)) dX8_enter_22 ⟨by show 0 + (if _ then _ else _) + (if _ then _ else _) + 4 ≤ 6; split <;> split <;> omega, by rw [hL19]; show 0 + (if _ then _ else _) + (if _ then _ else _) + 60 ≤ 564; split <;> split <;> omega⟩) hw (fun u_22 H locs hp_22 hw => ?_)
  obtain ⟨K_11, I_12, R_13, N_14, L_15⟩ := u_22
  have hw : m_wo G K_11 I_12 R_13 F A N_14 L_15 T J D s H locs := hw
  dsimp only at hp_22
  obtain ⟨sg, fl, Ka, Ia, Ra, Na, Rb, hzs, hzf, hLf, hha, hhb, eR3, eL3⟩ := hp_22
  have hnlf : fl ≠ cd 10 := fun z => by rw [z, m_up_k hzs hok.2.2.2.2.2.2.2.2.2.2.2.2.2.2.2.2.2.2.2.2.1 (by decide)] at hzf; exact absurd hzf (by decide)
  obtain ⟨hca, hks, hkf, hrs, hrf, hi50, hi62, hsf⟩ := c_newr hzs hzf hha hnlf
  have hcab := c_chg_tr hca (c_chg_hid hhb)
  have hcs3 : c_chg K I R N K_11 I_12 R_13 N_14 (fun f b => f = 62 ∧ b = cd 4) (fun f b => (f = 15 ∧ b = f9) ∨ (f = 61 ∧ b = cd 4)) := by
    rw [eR3]
    exact c_chg_mono (c_chg_tr hcs2 (c_chg_tr hcab (c_chg_tr (c_chg_R (f := 15) (b := f9) (by decide)) (c_chg_R (f := 61) (b := cd 4) (by decide))))) (fun _ _ h => h.elim False.elim (fun h => h.elim (fun h => h.elim id False.elim) (fun h => h.elim False.elim False.elim))) (fun _ _ h => h.elim False.elim (fun h => h.elim (fun h => h.elim False.elim False.elim) id))
  have hI10 : I_12 10 f9 = I 10 f9 := (hcs3 f9 (by rw [hf90]; decide) (by rw [hf90]; decide)).2.2.1 10 (by decide) (fun h => absurd (show (10 : Nat) = 62 from h.1) (by decide))
  have hf93 : K_11 f9 = 1 := c_kk hcs3 hf90 (by decide) (by decide)
  have ht15 : R_13 15 f9 = some sg := by rw [eR3, m_up2_ni _ _ (by decide), m_up2_self]
  have ht61 : R_13 61 (cd 4) = some sg := by rw [eR3, m_up2_self]
  have hz0s : ∀ b, K b ≠ 0 → K b ≠ 40 → b ≠ sg ∧ b ≠ fl := fun b h0 h4 => ⟨c_k0 hcs2 hzs b h0 h4, c_k0 hcs2 ((m_up_ne _ _ (Ne.symm hsf)).symm.trans hzf) b h0 h4⟩
  have hks3 : K_11 sg = 5 := m_hid_k hhb hks (by decide) (by decide)
  have hkf3 : K_11 fl = 11 := m_hid_k hhb hkf (by decide) (by decide)
  have hrs3 : R_13 51 sg = some fl := by rw [eR3, m_up2_ni _ _ (by decide), m_up2_ni _ _ (by decide)]; exact (hhb.2.2.2.1 51 sg (by decide) (by decide)).trans hrs
  have hrf3 : R_13 111 fl ≠ none := by rw [eR3, m_up2_ni _ _ (by decide), m_up2_ni _ _ (by decide)]; exact hhb.2.2.2.2.2.2
  have h62 : I_7 62 (cd 4) = I 62 (cd 4) := (hcs2 _ (by rw [hok0.2.2.2.2.2.2.2.2.2.2.2.2.2.2.1]; decide) (by rw [hok0.2.2.2.2.2.2.2.2.2.2.2.2.2.2.1]; decide)).2.2.1 62 (by decide) id
  have hi503 : I_12 50 sg = I 62 (cd 4) := (hhb.2.2.1 50 sg (by decide)).trans (hi50.trans h62)
  have hi623 : I_12 62 (cd 4) = I 62 (cd 4) + 1 := (hhb.2.2.1 62 _ (by decide)).trans (by rw [hi62, h62])
  refine lv_aload_n hx hb dX8_enter_25 rfl (lv_at hl 1 rfl) ?_
  refine g_1_0 hx hb hts (by decide +kernel) hown hw hf93 (hts (.fieldLink RX8 218 "Pirateindex$Find" "number" "I") (by decide +kernel)) dX8_enter_26 ?_
  rw [hI10]
  refine W.widen (k := 6) (n := 564) (by split <;> split <;> omega) (by rw [hL19]; split <;> split <;> omega) ?_
  exact W.iret (v := (I 10 f9)) hx hb hr (fun t ht hW => ⟨⟨(I 10 f9), (K_11, I_12, R_13, N_14, L_15), rfl, ⟨rfl, sg, fl, hz0s, hsf, hcs3, hks3, hkf3, hrs3, hrf3, hi503, hi623, ht15, ht61, k9, hk9, by rw [eL3, hL2f, eL2, eL1], hlt2, hlt3⟩, m_wo_out hw ht hW.alike⟩, m_wo_F hw ht⟩) (m_wo_L hw) dX8_enter_29
