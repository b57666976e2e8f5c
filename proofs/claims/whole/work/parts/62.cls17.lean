theorem c_k0 {K K' : Nat → Nat} {I I' : Nat → Nat → Int32} {R R' : Nat → Nat → Option Nat} {N N' : Nat → Nat} {EI ER : Nat → Nat → Prop} {x : Nat} (hc : c_chg K I R N K' I' R' N' EI ER) (h : K' x = 0) (b : Nat) (h0 : K b ≠ 0) (h4 : K b ≠ 40) : b ≠ x := fun z => h0 (by rw [← (hc b h0 h4).1, z]; exact h)
def c_sta (f : Nat) : Bool := decide (f ∈ [20, 40, 41, 60, 80, 81, 90, 91, 92, 93, 94, 95, 96, 97, 98, 120])
theorem c_ok_chg {K K' : Nat → Nat} {I I' : Nat → Nat → Int32} {R R' : Nat → Nat → Option Nat} {N N' : Nat → Nat} {EI ER : Nat → Nat → Prop} {x : Nat} {cd : Nat → Nat} (hok : c_ok K R N x cd) (hc : c_chg K I R N K' I' R' N' EI ER) (hE : ∀ f b, ER f b → c_sta f = false) : c_ok K' R' N' x cd := by
  have hR : ∀ {f b j : Nat}, K b = j → j ≠ 0 → j ≠ 40 → f ≠ 111 → f ≠ 99 → c_sta f = true → R' f b = R f b := fun hb h0 h4 h1 h9 hs => (hc _ (by rw [hb]; exact h0) (by rw [hb]; exact h4)).2.2.2.1 _ h1 h9 (fun z => absurd (hE _ _ z) (by rw [hs]; decide))
  have hN : ∀ {b j : Nat}, K b = j → j ≠ 0 → j ≠ 40 → N' b = N b := fun hb h0 h4 => (hc _ (by rw [hb]; exact h0) (by rw [hb]; exact h4)).2.1
  have hE1 : ∀ {b j : Nat}, K b = j → j ≠ 0 → j ≠ 40 → R 111 b ≠ none → R' 111 b ≠ none := fun hb h0 h4 => (hc _ (by rw [hb]; exact h0) (by rw [hb]; exact h4)).2.2.2.2
  exact ⟨c_kk hc hok.1 (by decide) (by decide), (hR (f := 90) hok.1 (by decide) (by decide) (by decide) (by decide) (by decide)).trans hok.2.1, (hR (f := 91) hok.1 (by decide) (by decide) (by decide) (by decide) (by decide)).trans hok.2.2.1, (hR (f := 92) hok.1 (by decide) (by decide) (by decide) (by decide) (by decide)).trans hok.2.2.2.1, (hR (f := 93) hok.1 (by decide) (by decide) (by decide) (by decide) (by decide)).trans hok.2.2.2.2.1, (hR (f := 94) hok.1 (by decide) (by decide) (by decide) (by decide) (by decide)).trans hok.2.2.2.2.2.1, (hR (f := 95) hok.1 (by decide) (by decide) (by decide) (by decide) (by decide)).trans hok.2.2.2.2.2.2.1, (hR (f := 96) hok.1 (by decide) (by decide) (by decide) (by decide) (by decide)).trans hok.2.2.2.2.2.2.2.1, (hR (f := 97) hok.1 (by decide) (by decide) (by decide) (by decide) (by decide)).trans hok.2.2.2.2.2.2.2.2.1, (hR (f := 98) hok.1 (by decide) (by decide) (by decide) (by decide) (by decide)).trans hok.2.2.2.2.2.2.2.2.2.1, c_kk hc hok.2.2.2.2.2.2.2.2.2.2.1 (by decide) (by decide), c_kk hc hok.2.2.2.2.2.2.2.2.2.2.2.1 (by decide) (by decide), c_kk hc hok.2.2.2.2.2.2.2.2.2.2.2.2.1 (by decide) (by decide), c_kk hc hok.2.2.2.2.2.2.2.2.2.2.2.2.2.1 (by decide) (by decide), c_kk hc hok.2.2.2.2.2.2.2.2.2.2.2.2.2.2.1 (by decide) (by decide), c_kk hc hok.2.2.2.2.2.2.2.2.2.2.2.2.2.2.2.1 (by decide) (by decide), c_kk hc hok.2.2.2.2.2.2.2.2.2.2.2.2.2.2.2.2.1 (by decide) (by decide), c_kk hc hok.2.2.2.2.2.2.2.2.2.2.2.2.2.2.2.2.2.1 (by decide) (by decide), c_kk hc hok.2.2.2.2.2.2.2.2.2.2.2.2.2.2.2.2.2.2.1 (by decide) (by decide), c_kk hc hok.2.2.2.2.2.2.2.2.2.2.2.2.2.2.2.2.2.2.2.1 (by decide) (by decide), c_kk hc hok.2.2.2.2.2.2.2.2.2.2.2.2.2.2.2.2.2.2.2.2.1 (by decide) (by decide), c_kk hc hok.2.2.2.2.2.2.2.2.2.2.2.2.2.2.2.2.2.2.2.2.2.1 (by decide) (by decide), c_kk hc hok.2.2.2.2.2.2.2.2.2.2.2.2.2.2.2.2.2.2.2.2.2.2.1 (by decide) (by decide), c_kk hc hok.2.2.2.2.2.2.2.2.2.2.2.2.2.2.2.2.2.2.2.2.2.2.2.1 (by decide) (by decide), c_kk hc hok.2.2.2.2.2.2.2.2.2.2.2.2.2.2.2.2.2.2.2.2.2.2.2.2.1 (by decide) (by decide), (hR (f := 20) hok.2.2.2.2.2.2.2.2.2.2.2.2.1 (by decide) (by decide) (by decide) (by decide) (by decide)).trans hok.2.2.2.2.2.2.2.2.2.2.2.2.2.2.2.2.2.2.2.2.2.2.2.2.2.1, (hR (f := 60) hok.2.2.2.2.2.2.2.2.2.2.2.2.2.2.1 (by decide) (by decide) (by decide) (by decide) (by decide)).trans hok.2.2.2.2.2.2.2.2.2.2.2.2.2.2.2.2.2.2.2.2.2.2.2.2.2.2.1, (hR (f := 80) hok.2.2.2.2.2.2.2.2.2.2.2.2.2.1 (by decide) (by decide) (by decide) (by decide) (by decide)).trans hok.2.2.2.2.2.2.2.2.2.2.2.2.2.2.2.2.2.2.2.2.2.2.2.2.2.2.2.1, (hR (f := 81) hok.2.2.2.2.2.2.2.2.2.2.2.2.2.1 (by decide) (by decide) (by decide) (by decide) (by decide)).trans hok.2.2.2.2.2.2.2.2.2.2.2.2.2.2.2.2.2.2.2.2.2.2.2.2.2.2.2.2.1, (hR (f := 40) hok.2.2.2.2.2.2.2.2.2.2.2.2.2.2.2.2.1 (by decide) (by decide) (by decide) (by decide) (by decide)).trans hok.2.2.2.2.2.2.2.2.2.2.2.2.2.2.2.2.2.2.2.2.2.2.2.2.2.2.2.2.2.1, (hR (f := 41) hok.2.2.2.2.2.2.2.2.2.2.2.2.2.2.2.2.1 (by decide) (by decide) (by decide) (by decide) (by decide)).trans hok.2.2.2.2.2.2.2.2.2.2.2.2.2.2.2.2.2.2.2.2.2.2.2.2.2.2.2.2.2.2.1, (hN hok.2.2.2.2.2.2.2.2.2.2.2.2.2.2.2.2.2.2.2.2.2.1 (by decide) (by decide)).trans hok.2.2.2.2.2.2.2.2.2.2.2.2.2.2.2.2.2.2.2.2.2.2.2.2.2.2.2.2.2.2.2.1, (hN hok.2.2.2.2.2.2.2.2.2.2.2.2.2.2.2.2.2.2.2.2.2.2.1 (by decide) (by decide)).trans hok.2.2.2.2.2.2.2.2.2.2.2.2.2.2.2.2.2.2.2.2.2.2.2.2.2.2.2.2.2.2.2.2.1, (hN hok.2.2.2.2.2.2.2.2.2.2.2.2.2.2.2.2.2.2.2.2.2.2.2.1 (by decide) (by decide)).trans hok.2.2.2.2.2.2.2.2.2.2.2.2.2.2.2.2.2.2.2.2.2.2.2.2.2.2.2.2.2.2.2.2.2.1, (hN hok.2.2.2.2.2.2.2.2.2.2.2.2.2.2.2.2.2.2.2.2.2.2.2.2.1 (by decide) (by decide)).trans hok.2.2.2.2.2.2.2.2.2.2.2.2.2.2.2.2.2.2.2.2.2.2.2.2.2.2.2.2.2.2.2.2.2.2.1, hE1 hok.2.2.2.2.2.2.2.2.2.2.1 (by decide) (by decide) hok.2.2.2.2.2.2.2.2.2.2.2.2.2.2.2.2.2.2.2.2.2.2.2.2.2.2.2.2.2.2.2.2.2.2.2.1, hE1 hok.2.2.2.2.2.2.2.2.2.2.2.1 (by decide) (by decide) hok.2.2.2.2.2.2.2.2.2.2.2.2.2.2.2.2.2.2.2.2.2.2.2.2.2.2.2.2.2.2.2.2.2.2.2.2.1, hE1 hok.2.2.2.2.2.2.2.2.2.2.2.2.2.2.2.1 (by decide) (by decide) hok.2.2.2.2.2.2.2.2.2.2.2.2.2.2.2.2.2.2.2.2.2.2.2.2.2.2.2.2.2.2.2.2.2.2.2.2.2.1, hE1 hok.2.2.2.2.2.2.2.2.2.2.2.2.2.2.2.2.2.2.1 (by decide) (by decide) hok.2.2.2.2.2.2.2.2.2.2.2.2.2.2.2.2.2.2.2.2.2.2.2.2.2.2.2.2.2.2.2.2.2.2.2.2.2.2.1, hE1 hok.2.2.2.2.2.2.2.2.2.2.2.2.2.2.2.2.2.2.2.1 (by decide) (by decide) hok.2.2.2.2.2.2.2.2.2.2.2.2.2.2.2.2.2.2.2.2.2.2.2.2.2.2.2.2.2.2.2.2.2.2.2.2.2.2.2.1, hE1 hok.2.2.2.2.2.2.2.2.2.2.2.2.2.2.2.2.2.2.2.2.1 (by decide) (by decide) hok.2.2.2.2.2.2.2.2.2.2.2.2.2.2.2.2.2.2.2.2.2.2.2.2.2.2.2.2.2.2.2.2.2.2.2.2.2.2.2.2.1, (by rw [hR (f := 120) hok.2.2.2.2.2.2.2.2.2.2.2.2.2.2.2.2.2.1 (by decide) (by decide) (by decide) (by decide) (by decide)]; exact hok.2.2.2.2.2.2.2.2.2.2.2.2.2.2.2.2.2.2.2.2.2.2.2.2.2.2.2.2.2.2.2.2.2.2.2.2.2.2.2.2.2.1), hok.2.2.2.2.2.2.2.2.2.2.2.2.2.2.2.2.2.2.2.2.2.2.2.2.2.2.2.2.2.2.2.2.2.2.2.2.2.2.2.2.2.2.1, hok.2.2.2.2.2.2.2.2.2.2.2.2.2.2.2.2.2.2.2.2.2.2.2.2.2.2.2.2.2.2.2.2.2.2.2.2.2.2.2.2.2.2.2.1, hok.2.2.2.2.2.2.2.2.2.2.2.2.2.2.2.2.2.2.2.2.2.2.2.2.2.2.2.2.2.2.2.2.2.2.2.2.2.2.2.2.2.2.2.2.1, hok.2.2.2.2.2.2.2.2.2.2.2.2.2.2.2.2.2.2.2.2.2.2.2.2.2.2.2.2.2.2.2.2.2.2.2.2.2.2.2.2.2.2.2.2.2.1, hok.2.2.2.2.2.2.2.2.2.2.2.2.2.2.2.2.2.2.2.2.2.2.2.2.2.2.2.2.2.2.2.2.2.2.2.2.2.2.2.2.2.2.2.2.2.2.1, hok.2.2.2.2.2.2.2.2.2.2.2.2.2.2.2.2.2.2.2.2.2.2.2.2.2.2.2.2.2.2.2.2.2.2.2.2.2.2.2.2.2.2.2.2.2.2.2.1, hok.2.2.2.2.2.2.2.2.2.2.2.2.2.2.2.2.2.2.2.2.2.2.2.2.2.2.2.2.2.2.2.2.2.2.2.2.2.2.2.2.2.2.2.2.2.2.2.2.1, hok.2.2.2.2.2.2.2.2.2.2.2.2.2.2.2.2.2.2.2.2.2.2.2.2.2.2.2.2.2.2.2.2.2.2.2.2.2.2.2.2.2.2.2.2.2.2.2.2.2.1, hok.2.2.2.2.2.2.2.2.2.2.2.2.2.2.2.2.2.2.2.2.2.2.2.2.2.2.2.2.2.2.2.2.2.2.2.2.2.2.2.2.2.2.2.2.2.2.2.2.2.2.1, hok.2.2.2.2.2.2.2.2.2.2.2.2.2.2.2.2.2.2.2.2.2.2.2.2.2.2.2.2.2.2.2.2.2.2.2.2.2.2.2.2.2.2.2.2.2.2.2.2.2.2.2.1, hok.2.2.2.2.2.2.2.2.2.2.2.2.2.2.2.2.2.2.2.2.2.2.2.2.2.2.2.2.2.2.2.2.2.2.2.2.2.2.2.2.2.2.2.2.2.2.2.2.2.2.2.2.1, hok.2.2.2.2.2.2.2.2.2.2.2.2.2.2.2.2.2.2.2.2.2.2.2.2.2.2.2.2.2.2.2.2.2.2.2.2.2.2.2.2.2.2.2.2.2.2.2.2.2.2.2.2.2.1, hok.2.2.2.2.2.2.2.2.2.2.2.2.2.2.2.2.2.2.2.2.2.2.2.2.2.2.2.2.2.2.2.2.2.2.2.2.2.2.2.2.2.2.2.2.2.2.2.2.2.2.2.2.2.2.1, hok.2.2.2.2.2.2.2.2.2.2.2.2.2.2.2.2.2.2.2.2.2.2.2.2.2.2.2.2.2.2.2.2.2.2.2.2.2.2.2.2.2.2.2.2.2.2.2.2.2.2.2.2.2.2.2.1, hok.2.2.2.2.2.2.2.2.2.2.2.2.2.2.2.2.2.2.2.2.2.2.2.2.2.2.2.2.2.2.2.2.2.2.2.2.2.2.2.2.2.2.2.2.2.2.2.2.2.2.2.2.2.2.2.2⟩
theorem m_up_sm {α : Type} (f : Nat → α) (a : Nat) : f = m_up f a (f a) := by
  funext b
  unfold m_up
  split
  · rename_i e; rw [e]
  · rfl
theorem er_sub {a : Nat} : ∀ {l m : List Nat}, a ∈ m.foldl List.erase l → a ∈ l
  | _, [], h => h
  | l, x :: m, h => List.mem_of_mem_erase (er_sub (l := l.erase x) (m := m) h)
theorem c_lt_I {I I' : Nat → Nat → Int32} (h : ∀ f b, f < 20 → I' f b = I f b) : c_lt I' = c_lt I := by
  funext a b
  unfold c_lt
  rw [h 12 a (by decide), h 12 b (by decide), h 13 a (by decide), h 13 b (by decide), h 10 a (by decide), h 10 b (by decide)]
theorem m_nc_120 {n : Nat} (h : n ≤ 120) : m_nc n ≤ 252 := by
  unfold m_nc
  split
  · omega
  · have : max 1 (n / 2) ≤ n + 1 := Nat.max_le.mpr ⟨by omega, by omega⟩
    omega
set_option maxHeartbeats 1600000 in
set_option maxRecDepth 100000 in
theorem c_X8_store_o (l : Launch) {G : mG} {K : Nat → Nat} {I : Nat → Nat → Int32} {R : Nat → Nat → Option Nat} {F : Nat → UInt32} {A : Nat → Nat → Int32} {N : Nat → Nat} {L : Nat → List Nat} {T : Nat → List Int32} {J : Nat → Nat → Int64} {D : Nat → Nat → UInt64} {o : Nat} {cd : Nat → Nat} {f9 sg fl : Nat} (hok : c_ok K R N o cd) (hel9 : ∀ a, a ∈ L (cd 9) → K a = 1) (hf9 : K f9 = 1) (hl9 : (L (cd 9)).length ≤ 120) (hop : R 61 (cd 4) = some sg) (hksg : K sg = 5) (hfl : R 51 sg = some fl) (hkf : K fl = 11) (hrf : R 111 fl ≠ none) (helf : ∀ a, a ∈ L fl → K a = 1) (hc20 : (L fl).length ≤ 20) (hn9 : fl ≠ cd 9) : Met l yX8_store wsX8_store ({ frames := 10, cells := 5, slots := (60 + (if (L (cd 9)).length = m_cap R N (cd 9) then m_nc (L (cd 9)).length else 0)), locals := 440 } : Room) (va_Pc [.ref o, .ref f9] (m_B G K I R F A N L T J D)) (va_Qv (fun (u : (Nat → Nat) × (Nat → Nat → Int32) × (Nat → Nat → Option Nat) × (Nat → Nat) × (Nat → List Nat)) => c_chg K I R N u.1 u.2.1 u.2.2.1 u.2.2.2.1 c_no (fun f b => (f = 15 ∧ b = f9) ∨ (f = 61 ∧ b = cd 4)) ∧ u.2.2.1 15 f9 = some sg ∧ u.2.2.1 61 (cd 4) = (if (L fl).length + 1 < 10 then some sg else none) ∧ m_cap u.2.2.1 u.2.2.2.1 (cd 9) = m_cap R N (cd 9) + m_dc (L (cd 9)).length (m_cap R N (cd 9)) ∧ (∃ k, k ≤ (L (cd 9)).length ∧ u.2.2.2.2 = m_up (m_up L fl (L fl ++ [f9])) (cd 9) (y_ins (L (cd 9)) k f9) ∧ (∀ j, k ≤ j → j < (L (cd 9)).length → c_lt I f9 ((L (cd 9)).getD j 0) = true) ∧ (k = 0 ∨ c_lt I f9 ((L (cd 9)).getD (k - 1) 0) = false))) (fun u : (Nat → Nat) × (Nat → Nat → Int32) × (Nat → Nat → Option Nat) × (Nat → Nat) × (Nat → List Nat) => m_B G (u.1) (u.2.1) (u.2.2.1) F A (u.2.2.2.1) (u.2.2.2.2) T J D) (m_A G)) 5 (60 + (if (L (cd 9)).length = m_cap R N (cd 9) then m_nc (L (cd 9)).length else 0)) (m_A G) := by
  refine Met.ofW (cc := cX8_store) (maxL := 2) (ret := none) (by decide) rfl ?_
  intro p e s m args below meth c s₁ B hml hv
  obtain ⟨rfl, hB⟩ := hv
  have hx := B.exec
  have hb := B.bytes
  have hr := B.returns
  have hts := atoms_spec (ws := wsX8_store) B.pre
  have hown : s.vm.findClass RX8 = some m.cls := findClass_of_methodNamed B.named
  have hlocks := B.notSynchronized
  have hw := m_wo_in hB
  have hl := lv_entry ([.ref o, .ref f9]) (n := 2) (Nat.le_of_ble_eq_true rfl)
  rw [lg_entry_eq]
  generalize (lg_sl ([.ref o, .ref f9]) ++ List.replicate (2 - (lg_sl ([.ref o, .ref f9])).length) Slot.unset).toArray = ls at hl ⊢
  have hl : lv_has ls 2 [(0, .ref o), (1, .ref f9)] := hl
  have hok0 := hok
  have hf90 := hf9
  have hw00 := hw
  have hnc9 := m_nc_120 hl9
  refine lv_aload_n hx hb dX8_store_0 rfl (lv_at hl 0 rfl) ?_
  refine g_9_4 (r := some (cd 4)) hx hb hts (by decide +kernel) hown hw hok.1 (hts (.fieldLink RX8 36 "Pirateindex" "shelf" "LPirateindex$Shelf;") (by decide +kernel)) hok.2.2.2.2.2.1 dX8_store_1 ?_
  refine lv_aload_n hx hb dX8_store_4 rfl (lv_at hl 1 rfl) ?_
  refine m_cv (va_runV (As := [.ref f9]) (rest := []) ⟨hx, hb, hml, hown, hts⟩ (c_X5_put_o l hok.2.2.2.2.2.2.2.2.2.2.2.2.2.2.1 hop hksg hfl hkf hrf helf hf9 hc20) (cwV 1 hts gX8_store_X5_put rfl rfl rfl (by decide +kernel) ⟨Nat.le_of_ble_eq_true rfl, Nat.le_of_ble_eq_true rfl⟩) ⟨m_blind m_B_calling, m_recv hw (m_ent_6 hok.2.2.2.2.2.2.2.2.2.2.2.2.2.2.1) rfl, fun U hU hW => ⟨rfl, m_wo_call hw hU hW⟩⟩ rfl rfl hl.1 rfl (lv_room (Nat.le_of_ble_eq_true rfl)) dX8_store_5 ⟨by show 0 + 4 ≤ 5; omega, by show 0 + 60 ≤ 60 + (if _ then _ else _); omega⟩) hw (fun u_5 H locs hp_5 hw => ?_)
  obtain ⟨K_1, I_2, R_3, N_4, L_5⟩ := u_5
  have hw : m_wo G K_1 I_2 R_3 F A N_4 L_5 T J D s H locs := hw
  dsimp only at hp_5
  obtain ⟨R9, hh3, eR3, eL3, hcp3⟩ := hp_5
  have hcs3 : c_chg K I R N K_1 I_2 R_3 N_4 c_no (fun f b => (f = 15 ∧ b = f9) ∨ (f = 61 ∧ b = cd 4)) := by
    rw [eR3]
    exact c_chg_mono (c_chg_tr (c_chg_hid hh3) (c_chg_tr (c_chg_R (f := 15) (b := f9) (by decide)) (c_chg_R (f := 61) (b := cd 4) (by decide)))) (fun _ _ h => h.elim id (fun h => h.elim id id)) (fun _ _ h => h.elim False.elim id)
  have hI3 : ∀ f b, f < 20 → I_2 f b = I f b := fun f b hf => hh3.2.2.1 f b (by omega)
  have hL39 : L_5 (cd 9) = L (cd 9) := by rw [eL3, m_up_ne _ _ (Ne.symm hn9)]
  have ht15 : R_3 15 f9 = some sg := by rw [eR3, m_up2_ni _ _ (by decide), m_up2_self]
  have ht61 : R_3 61 (cd 4) = (if (L fl).length + 1 < 10 then some sg else none) := by rw [eR3, m_up2_self]
  have hcap3 := hcp3 (cd 9) (Ne.symm hn9) hok0.2.2.2.2.2.2.2.2.2.2.2.2.2.2.2.2.2.2.2.1 hok0.2.2.2.2.2.2.2.2.2.2.2.2.2.2.2.2.2.2.2.2.2.2.2.2.2.2.2.2.2.2.2.2.2.2.2.2.2.2.2.1
  have hok := c_ok_chg hok0 hcs3 (fun f b z => by rcases z with ⟨z, -⟩ | ⟨z, -⟩ <;> rw [z] <;> rfl)
  have hf9 : K_1 f9 = 1 := c_kk hcs3 hf90 (by decide) (by decide)
  refine lv_aload_n hx hb dX8_store_8 rfl (lv_at hl 0 rfl) ?_
  refine g_9_2 (r := some (cd 2)) hx hb hts (by decide +kernel) hown hw hok.1 (hts (.fieldLink RX8 22 "Pirateindex" "index" "LPirateindex$Index;") (by decide +kernel)) hok.2.2.2.1 dX8_store_9 ?_
  refine lv_aload_n hx hb dX8_store_12 rfl (lv_at hl 1 rfl) ?_
  refine m_cv (va_runV (As := [.ref f9]) (rest := []) ⟨hx, hb, hml, hown, hts⟩ (c_X1_enter l hok.2.2.2.2.2.2.2.2.2.2.2.2.1 hok.2.2.2.2.2.2.2.2.2.2.2.2.2.2.2.2.2.2.2.2.2.2.2.2.2.1 hok.2.2.2.2.2.2.2.2.2.2.2.2.2.2.2.2.2.2.2.1 (fun a ha => c_kk hcs3 (hel9 a (by rw [← hL39]; exact ha)) (by decide) (by decide)) hok.2.2.2.2.2.2.2.2.2.2.2.2.2.2.2.2.2.2.2.2.2.2.2.2.2.2.2.2.2.2.2.2.2.2.2.2.2.2.2.1 hf9 (by rw [hL39]; omega)) (cwV 1 hts gX8_store_X1_enter rfl rfl rfl (by decide +kernel) ⟨Nat.le_of_ble_eq_true rfl, Nat.le_of_ble_eq_true rfl⟩) ⟨m_blind m_B_calling, m_recv hw (m_ent_2 hok.2.2.2.2.2.2.2.2.2.2.2.2.1) rfl, fun U hU hW => ⟨rfl, m_wo_call hw hU hW⟩⟩ rfl rfl hl.1 rfl (lv_room (Nat.le_of_ble_eq_true rfl)) dX8_store_13 ⟨by show 0 + 4 + (if _ then _ else _) ≤ 5; split <;> omega, by rw [hL39, hcap3]; exact Nat.le_refl _⟩) hw (fun u_13 H locs hp_13 hw => ?_)
  obtain ⟨K_6, I_7, R_8, N_9, L_10⟩ := u_13
  have hw : m_wo G K_6 I_7 R_8 F A N_9 L_10 T J D s H locs := hw
  dsimp only at hp_13
  obtain ⟨hh2, hcap2, k9, hk9, eL2, hlt2, hlt3⟩ := hp_13
  rw [hL39] at hk9 eL2 hlt2 hlt3 hcap2
  rw [hcap3] at hcap2
  rw [c_lt_I hI3] at hlt2 hlt3
  have hcs2 := c_chg_mono (c_chg_tr hcs3 (c_chg_hid hh2)) (fun _ _ h => h.elim id False.elim) (fun _ _ h => h.elim id False.elim)
  have hu15 := (hh2.2.2.2.1 15 f9 (by decide) (by decide)).trans ht15
  have hu61 := (hh2.2.2.2.1 61 (cd 4) (by decide) (by decide)).trans ht61
  refine W.widen (k := 5) (n := (60 + (if (L (cd 9)).length = m_cap R N (cd 9) then m_nc (L (cd 9)).length else 0))) (by split <;> omega) (by rw [hL39, hcap3]; exact Nat.le_refl _) ?_
  exact W.vret hx hb hr (fun t ht hW => ⟨⟨(K_6, I_7, R_8, N_9, L_10), rfl, ⟨hcs2, hu15, hu61, hcap2, k9, hk9, by rw [eL2, eL3], hlt2, hlt3⟩, m_wo_out hw ht hW.alike⟩, m_wo_F hw ht⟩) (m_wo_L hw) dX8_store_16
set_option maxHeartbeats 1600000 in
set_option maxRecDepth 100000 in
theorem c_X8_store_n (l : Launch) {G : mG} {K : Nat → Nat} {I : Nat → Nat → Int32} {R : Nat → Nat → Option Nat} {F : Nat → UInt32} {A : Nat → Nat → Int32} {N : Nat → Nat} {L : Nat → List Nat} {T : Nat → List Int32} {J : Nat → Nat → Int64} {D : Nat → Nat → UInt64} {o : Nat} {cd : Nat → Nat} {f9 : Nat} (hok : c_ok K R N o cd) (hel9 : ∀ a, a ∈ L (cd 9) → K a = 1) (hf9 : K f9 = 1) (hl9 : (L (cd 9)).length ≤ 120) (hop : R 61 (cd 4) = none) (hel5 : ∀ a, a ∈ L (cd 10) → K a = 5) (hl10 : (L (cd 10)).length ≤ 20) : Met l yX8_store wsX8_store ({ frames := 10, cells := 5, slots := (60 + (if (L (cd 9)).length = m_cap R N (cd 9) then m_nc (L (cd 9)).length else 0)), locals := 440 } : Room) (va_Pc [.ref o, .ref f9] (m_B G K I R F A N L T J D)) (va_Qv (fun (u : (Nat → Nat) × (Nat → Nat → Int32) × (Nat → Nat → Option Nat) × (Nat → Nat) × (Nat → List Nat)) => ∃ sg fl, (∀ b, K b ≠ 0 → K b ≠ 40 → b ≠ sg ∧ b ≠ fl) ∧ sg ≠ fl ∧ c_chg K I R N u.1 u.2.1 u.2.2.1 u.2.2.2.1 (fun f b => f = 62 ∧ b = cd 4) (fun f b => (f = 15 ∧ b = f9) ∨ (f = 61 ∧ b = cd 4)) ∧ u.1 sg = 5 ∧ u.1 fl = 11 ∧ u.2.2.1 51 sg = some fl ∧ u.2.2.1 111 fl ≠ none ∧ u.2.1 50 sg = I 62 (cd 4) ∧ u.2.1 62 (cd 4) = I 62 (cd 4) + 1 ∧ u.2.2.1 15 f9 = some sg ∧ u.2.2.1 61 (cd 4) = some sg ∧ m_cap u.2.2.1 u.2.2.2.1 (cd 9) = m_cap R N (cd 9) + m_dc (L (cd 9)).length (m_cap R N (cd 9)) ∧ (∃ k, k ≤ (L (cd 9)).length ∧ u.2.2.2.2 = m_up (m_up (m_up L (cd 10) (L (cd 10) ++ [sg])) fl [f9]) (cd 9) (y_ins (L (cd 9)) k f9) ∧ (∀ j, k ≤ j → j < (L (cd 9)).length → c_lt I f9 ((L (cd 9)).getD j 0) = true) ∧ (k = 0 ∨ c_lt I f9 ((L (cd 9)).getD (k - 1) 0) = false))) (fun u : (Nat → Nat) × (Nat → Nat → Int32) × (Nat → Nat → Option Nat) × (Nat → Nat) × (Nat → List Nat) => m_B G (u.1) (u.2.1) (u.2.2.1) F A (u.2.2.2.1) (u.2.2.2.2) T J D) (m_A G)) 5 (60 + (if (L (cd 9)).length = m_cap R N (cd 9) then m_nc (L (cd 9)).length else 0)) (m_A G) := by
  refine Met.ofW (cc := cX8_store) (maxL := 2) (ret := none) (by decide) rfl ?_
  intro p e s m args below meth c s₁ B hml hv
  obtain ⟨rfl, hB⟩ := hv
  have hx := B.exec
  have hb := B.bytes
  have hr := B.returns
  have hts := atoms_spec (ws := wsX8_store) B.pre
  have hown : s.vm.findClass RX8 = some m.cls := findClass_of_methodNamed B.named
  have hlocks := B.notSynchronized
  have hw := m_wo_in hB
  have hl := lv_entry ([.ref o, .ref f9]) (n := 2) (Nat.le_of_ble_eq_true rfl)
  rw [lg_entry_eq]
  generalize (lg_sl ([.ref o, .ref f9]) ++ List.replicate (2 - (lg_sl ([.ref o, .ref f9])).length) Slot.unset).toArray = ls at hl ⊢
  have hl : lv_has ls 2 [(0, .ref o), (1, .ref f9)] := hl
  have hok0 := hok
  have hf90 := hf9
  have hw00 := hw
  have hnc9 := m_nc_120 hl9
  refine lv_aload_n hx hb dX8_store_0 rfl (lv_at hl 0 rfl) ?_
  refine g_9_4 (r := some (cd 4)) hx hb hts (by decide +kernel) hown hw hok.1 (hts (.fieldLink RX8 36 "Pirateindex" "shelf" "LPirateindex$Shelf;") (by decide +kernel)) hok.2.2.2.2.2.1 dX8_store_1 ?_
  refine lv_aload_n hx hb dX8_store_4 rfl (lv_at hl 1 rfl) ?_
  refine m_cv (va_runV (As := [.ref f9]) (rest := []) ⟨hx, hb, hml, hown, hts⟩ (c_X5_put_n l hok.2.2.2.2.2.2.2.2.2.2.2.2.2.2.1 hok.2.2.2.2.2.2.2.2.2.2.2.2.2.2.2.2.2.2.2.2.2.2.2.2.2.2.1 hok.2.2.2.2.2.2.2.2.2.2.2.2.2.2.2.2.2.2.2.2.1 hel5 hok.2.2.2.2.2.2.2.2.2.2.2.2.2.2.2.2.2.2.2.2.2.2.2.2.2.2.2.2.2.2.2.2.2.2.2.2.2.2.2.2.1 hop hf9 hl10) (cwV 1 hts gX8_store_X5_put rfl rfl rfl (by decide +kernel) ⟨Nat.le_of_ble_eq_true rfl, Nat.le_of_ble_eq_true rfl⟩) ⟨m_blind m_B_calling, m_recv hw (m_ent_6 hok.2.2.2.2.2.2.2.2.2.2.2.2.2.2.1) rfl, fun U hU hW => ⟨rfl, m_wo_call hw hU hW⟩⟩ rfl rfl hl.1 rfl (lv_room (Nat.le_of_ble_eq_true rfl)) dX8_store_5 ⟨by show 0 + 4 ≤ 5; omega, by show 0 + 60 ≤ 60 + (if _ then _ else _); omega⟩) hw (fun u_5 H locs hp_5 hw => ?_)
  obtain ⟨K_1, I_2, R_3, N_4, L_5⟩ := u_5
  have hw : m_wo G K_1 I_2 R_3 F A N_4 L_5 T J D s H locs := hw
  dsimp only at hp_5
  obtain ⟨sg, fl, Ka, Ia, Ra, Na, Rb, hzs, hzf, hLf, hha, hhb, eR3, eL3, hcp3⟩ := hp_5
  have hnlf : fl ≠ cd 10 := fun z => by rw [z, m_up_k hzs hok0.2.2.2.2.2.2.2.2.2.2.2.2.2.2.2.2.2.2.2.2.1 (by decide)] at hzf; exact absurd hzf (by decide)
  have hnlf9 : fl ≠ cd 9 := fun z => by rw [z, m_up_k hzs hok0.2.2.2.2.2.2.2.2.2.2.2.2.2.2.2.2.2.2.2.1 (by decide)] at hzf; exact absurd hzf (by decide)
  obtain ⟨hca, hks, hkf, hrs, hrf, hi50, hi62, hsf⟩ := c_newr hzs hzf hha hnlf
  have hcab := c_chg_tr hca (c_chg_hid hhb)
  have hcs3 : c_chg K I R N K_1 I_2 R_3 N_4 (fun f b => f = 62 ∧ b = cd 4) (fun f b => (f = 15 ∧ b = f9) ∨ (f = 61 ∧ b = cd 4)) := by
    rw [eR3]
    exact c_chg_mono (c_chg_tr hcab (c_chg_tr (c_chg_R (f := 15) (b := f9) (by decide)) (c_chg_R (f := 61) (b := cd 4) (by decide)))) (fun _ _ h => h.elim (fun h => h.elim id False.elim) (fun h => h.elim False.elim False.elim)) (fun _ _ h => h.elim (fun h => h.elim False.elim False.elim) id)
  have hI3 : ∀ f b, f < 20 → I_2 f b = I f b := fun f b hf => by rw [hhb.2.2.1 f b (by omega), hha.2.2.1 f b (by omega), m_up2_ni _ _ (by omega), m_up2_ni _ _ (by omega), m_up2_ni _ _ (by omega)]
  have hL39 : L_5 (cd 9) = L (cd 9) := by rw [eL3, m_up_ne _ _ (Ne.symm hnlf9), m_up_ne _ _ hok0.2.2.2.2.2.2.2.2.2.2.2.2.2.2.2.2.2.2.2.2.2.2.2.2.2.2.2.2.2.2.2.2.2.2.2.2.2.2.2.2.2.2.2.2.2.2.2.2.2.2.2.2.2.2.2.2]
  have hz0s : ∀ b, K b ≠ 0 → K b ≠ 40 → b ≠ sg ∧ b ≠ fl := fun b h0 h4 => ⟨fun z => h0 (by rw [z]; exact hzs), fun z => h0 (by rw [z]; exact (m_up_ne _ _ (Ne.symm hsf)).symm.trans hzf)⟩
  have hks3 : K_1 sg = 5 := m_hid_k hhb hks (by decide) (by decide)
  have hkf3 : K_1 fl = 11 := m_hid_k hhb hkf (by decide) (by decide)
  have hrs3 : R_3 51 sg = some fl := by rw [eR3, m_up2_ni _ _ (by decide), m_up2_ni _ _ (by decide)]; exact (hhb.2.2.2.1 51 sg (by decide) (by decide)).trans hrs
  have hrf3 : R_3 111 fl ≠ none := by rw [eR3, m_up2_ni _ _ (by decide), m_up2_ni _ _ (by decide)]; exact hhb.2.2.2.2.2.2
  have hi503 : I_2 50 sg = I 62 (cd 4) := (hhb.2.2.1 50 sg (by decide)).trans hi50
  have hi623 : I_2 62 (cd 4) = I 62 (cd 4) + 1 := (hhb.2.2.1 62 _ (by decide)).trans hi62
  have ht15 : R_3 15 f9 = some sg := by rw [eR3, m_up2_ni _ _ (by decide), m_up2_self]
  have ht61 : R_3 61 (cd 4) = some sg := by rw [eR3, m_up2_self]
  have hcap3 := hcp3 (cd 9) hok0.2.2.2.2.2.2.2.2.2.2.2.2.2.2.2.2.2.2.2.2.2.2.2.2.2.2.2.2.2.2.2.2.2.2.2.2.2.2.2.2.2.2.2.2.2.2.2.2.2.2.2.2.2.2.2.2 hok0.2.2.2.2.2.2.2.2.2.2.2.2.2.2.2.2.2.2.2.1 hok0.2.2.2.2.2.2.2.2.2.2.2.2.2.2.2.2.2.2.2.2.2.2.2.2.2.2.2.2.2.2.2.2.2.2.2.2.2.2.2.1
  have hok := c_ok_chg hok0 hcs3 (fun f b z => by rcases z with ⟨z, -⟩ | ⟨z, -⟩ <;> rw [z] <;> rfl)
  have hf9 : K_1 f9 = 1 := c_kk hcs3 hf90 (by decide) (by decide)
  refine lv_aload_n hx hb dX8_store_8 rfl (lv_at hl 0 rfl) ?_
  refine g_9_2 (r := some (cd 2)) hx hb hts (by decide +kernel) hown hw hok.1 (hts (.fieldLink RX8 22 "Pirateindex" "index" "LPirateindex$Index;") (by decide +kernel)) hok.2.2.2.1 dX8_store_9 ?_
  refine lv_aload_n hx hb dX8_store_12 rfl (lv_at hl 1 rfl) ?_
  refine m_cv (va_runV (As := [.ref f9]) (rest := []) ⟨hx, hb, hml, hown, hts⟩ (c_X1_enter l hok.2.2.2.2.2.2.2.2.2.2.2.2.1 hok.2.2.2.2.2.2.2.2.2.2.2.2.2.2.2.2.2.2.2.2.2.2.2.2.2.1 hok.2.2.2.2.2.2.2.2.2.2.2.2.2.2.2.2.2.2.2.1 (fun a ha => c_kk hcs3 (hel9 a (by rw [← hL39]; exact ha)) (by decide) (by decide)) hok.2.2.2.2.2.2.2.2.2.2.2.2.2.2.2.2.2.2.2.2.2.2.2.2.2.2.2.2.2.2.2.2.2.2.2.2.2.2.2.1 hf9 (by rw [hL39]; omega)) (cwV 1 hts gX8_store_X1_enter rfl rfl rfl (by decide +kernel) ⟨Nat.le_of_ble_eq_true rfl, Nat.le_of_ble_eq_true rfl⟩) ⟨m_blind m_B_calling, m_recv hw (m_ent_2 hok.2.2.2.2.2.2.2.2.2.2.2.2.1) rfl, fun U hU hW => ⟨rfl, m_wo_call hw hU hW⟩⟩ rfl rfl hl.1 rfl (lv_room (Nat.le_of_ble_eq_true rfl)) dX8_store_13 ⟨by show 0 + 4 + (if _ then _ else _) ≤ 5; split <;> omega, by rw [hL39, hcap3]; exact Nat.le_refl _⟩) hw (fun u_13 H locs hp_13 hw => ?_)
  obtain ⟨K_6, I_7, R_8, N_9, L_10⟩ := u_13
  have hw : m_wo G K_6 I_7 R_8 F A N_9 L_10 T J D s H locs := hw
  dsimp only at hp_13
  obtain ⟨hh2, hcap2, k9, hk9, eL2, hlt2, hlt3⟩ := hp_13
  rw [hL39] at hk9 eL2 hlt2 hlt3 hcap2
  rw [hcap3] at hcap2
  rw [c_lt_I hI3] at hlt2 hlt3
  have hcs2 := c_chg_mono (c_chg_tr hcs3 (c_chg_hid hh2)) (fun _ _ h => h.elim id False.elim) (fun _ _ h => h.elim id False.elim)
  have hu15 := (hh2.2.2.2.1 15 f9 (by decide) (by decide)).trans ht15
  have hu61 := (hh2.2.2.2.1 61 (cd 4) (by decide) (by decide)).trans ht61
  refine W.widen (k := 5) (n := (60 + (if (L (cd 9)).length = m_cap R N (cd 9) then m_nc (L (cd 9)).length else 0))) (by split <;> omega) (by rw [hL39, hcap3]; exact Nat.le_refl _) ?_
  exact W.vret hx hb hr (fun t ht hW => ⟨⟨(K_6, I_7, R_8, N_9, L_10), rfl, ⟨sg, fl, hz0s, hsf, hcs2, m_hid_k hh2 hks3 (by decide) (by decide), m_hid_k hh2 hkf3 (by decide) (by decide), (hh2.2.2.2.1 51 sg (by decide) (by decide)).trans hrs3, (fun z9 => hrf3 ((hh2.2.2.2.2.2.1 fl hnlf9).symm.trans z9)), (hh2.2.2.1 50 sg (by decide)).trans hi503, (hh2.2.2.1 62 _ (by decide)).trans hi623, hu15, hu61, hcap2, k9, hk9, by rw [eL2, eL3], hlt2, hlt3⟩, m_wo_out hw ht hW.alike⟩, m_wo_F hw ht⟩) (m_wo_L hw) dX8_store_16
set_option maxHeartbeats 1600000 in
set_option maxRecDepth 100000 in
theorem c_X8_enter_o (l : Launch) {G : mG} {K : Nat → Nat} {I : Nat → Nat → Int32} {R : Nat → Nat → Option Nat} {F : Nat → UInt32} {A : Nat → Nat → Int32} {N : Nat → Nat} {L : Nat → List Nat} {T : Nat → List Int32} {J : Nat → Nat → Int64} {D : Nat → Nat → UInt64} {o : Nat} {cd : Nat → Nat} {f9 sg fl : Nat} (hok : c_ok K R N o cd) (hel1 : ∀ a, a ∈ L (cd 1) → K a = 1) (hel9 : ∀ a, a ∈ L (cd 9) → K a = 1) (hf9 : K f9 = 1) (hl1 : (L (cd 1)).length ≤ 120) (hl9 : (L (cd 9)).length ≤ 120) (hop : R 61 (cd 4) = some sg) (hksg : K sg = 5) (hfl : R 51 sg = some fl) (hkf : K fl = 11) (hrf : R 111 fl ≠ none) (helf : ∀ a, a ∈ L fl → K a = 1) (hc20 : (L fl).length ≤ 20) (hn9 : fl ≠ cd 9) (hn1 : fl ≠ cd 1) : Met l yX8_enter wsX8_enter ({ frames := 14, cells := 6, slots := 564, locals := 520 } : Room) (va_Pc [.ref o, .ref f9] (m_B G K I R F A N L T J D)) (va_Qi (fun (r : Int32) (u : (Nat → Nat) × (Nat → Nat → Int32) × (Nat → Nat → Option Nat) × (Nat → Nat) × (Nat → List Nat)) => r = I 10 f9 ∧ c_chg K I R N u.1 u.2.1 u.2.2.1 u.2.2.2.1 c_no (fun f b => (f = 15 ∧ b = f9) ∨ (f = 61 ∧ b = cd 4)) ∧ u.2.2.1 15 f9 = some sg ∧ u.2.2.1 61 (cd 4) = (if (L fl).length + 1 < 10 then some sg else none) ∧ (∃ k, k ≤ (L (cd 9)).length ∧ u.2.2.2.2 = m_up (m_up (m_up L (cd 1) (L (cd 1) ++ [f9])) fl (L fl ++ [f9])) (cd 9) (y_ins (L (cd 9)) k f9) ∧ (∀ j, k ≤ j → j < (L (cd 9)).length → c_lt I f9 ((L (cd 9)).getD j 0) = true) ∧ (k = 0 ∨ c_lt I f9 ((L (cd 9)).getD (k - 1) 0) = false))) (fun u : (Nat → Nat) × (Nat → Nat → Int32) × (Nat → Nat → Option Nat) × (Nat → Nat) × (Nat → List Nat) => m_B G (u.1) (u.2.1) (u.2.2.1) F A (u.2.2.2.1) (u.2.2.2.2) T J D) (m_A G)) 6 564 (m_A G) := by
  refine Met.ofW (cc := cX8_enter) (maxL := 2) (ret := (some .int)) (by decide) rfl ?_
  intro p e s m args below meth c s₁ B hml hv
  obtain ⟨rfl, hB⟩ := hv
  have hx := B.exec
  have hb := B.bytes
  have hr := B.returns
  have hts := atoms_spec (ws := wsX8_enter) B.pre
  have hown : s.vm.findClass RX8 = some m.cls := findClass_of_methodNamed B.named
  have hlocks := B.notSynchronized
  have hw := m_wo_in hB
  have hl := lv_entry ([.ref o, .ref f9]) (n := 2) (Nat.le_of_ble_eq_true rfl)
  rw [lg_entry_eq]
  generalize (lg_sl ([.ref o, .ref f9]) ++ List.replicate (2 - (lg_sl ([.ref o, .ref f9])).length) Slot.unset).toArray = ls at hl ⊢
  have hl : lv_has ls 2 [(0, .ref o), (1, .ref f9)] := hl
  have hnc1 := m_nc_120 hl1
  have hnc9 := m_nc_120 hl9
  have hok0 := hok
  have hf90 := hf9
  refine lv_aload_n hx hb dX8_enter_0 rfl (lv_at hl 0 rfl) ?_
  refine g_9_1 (r := some (cd 1)) hx hb hts (by decide +kernel) hown hw hok.1 (hts (.fieldLink RX8 16 "Pirateindex" "log" "Ljava/util/ArrayList;") (by decide +kernel)) hok.2.2.1 dX8_enter_1 ?_
  refine lv_aload_n hx hb dX8_enter_4 rfl (lv_at hl 1 rfl) ?_
  refine m_ci (va_runV (As := [.ref f9]) (rest := []) ⟨hx, hb, hml, hown, hts⟩ (c_Jx4a65c_add_9ea2d l hok.2.2.2.2.2.2.2.2.2.2.2.1 hok.2.2.2.2.2.2.2.2.2.2.2.2.2.2.2.2.2.2.2.2.2.2.2.2.2.2.2.2.2.2.2.2.2.2.2.2.1 (Or.inl hf9) (fun y hy => Or.inl (hel1 y hy)) (by omega)) (cwV 1 hts gX8_enter_Jx4a65c_add_9ea2d rfl rfl rfl (by decide +kernel) ⟨Nat.le_of_ble_eq_true rfl, Nat.le_of_ble_eq_true rfl⟩) ⟨m_blind m_B_calling, m_recv hw (m_ent_11 hok.2.2.2.2.2.2.2.2.2.2.2.1) rfl, fun U hU hW => ⟨rfl, m_wo_call hw hU hW⟩⟩ rfl rfl hl.1 rfl (lv_room (Nat.le_of_ble_eq_true rfl)) dX8_enter_5 ⟨by show 0 + (if _ then _ else _) ≤ 6; split <;> omega, by show 0 + (if _ then _ else _) ≤ 564; split <;> omega⟩) hw (fun r_5 u_5 H locs hp_5 hw => ?_)
  obtain ⟨K_1, I_2, R_3, N_4, L_5⟩ := u_5
  have hw : m_wo G K_1 I_2 R_3 F A N_4 L_5 T J D s H locs := hw
  dsimp only at hp_5
  obtain ⟨hh1, hcap1, eL1⟩ := hp_5
  have hcs1 : c_chg K I R N K_1 I_2 R_3 N_4 c_no c_no := c_chg_hid hh1
  have hok := c_ok_chg hok0 hcs1 (fun _ _ h => absurd h id)
  have hf9 : K_1 f9 = 1 := c_kk hcs1 hf90 (by decide) (by decide)
  have hI1 : ∀ f b, f < 20 → I_2 f b = I f b := fun f b hf => hh1.2.2.1 f b (by omega)
  have hL19 : L_5 (cd 9) = L (cd 9) := by rw [eL1, m_up_ne _ _ (Ne.symm hok0.2.2.2.2.2.2.2.2.2.2.2.2.2.2.2.2.2.2.2.2.2.2.2.2.2.2.2.2.2.2.2.2.2.2.2.2.2.2.2.2.2.2.2.2.2.2.2.2.2.1)]
  have hL1f : L_5 fl = L fl := by rw [eL1, m_up_ne _ _ hn1]
  have hkf1 : K_1 fl = 11 := c_kk hcs1 hkf (by decide) (by decide)
  refine lv_pop hx hb dX8_enter_8 rfl ?_
  refine lv_aload_n hx hb dX8_enter_9 rfl (lv_at hl 0 rfl) ?_
  refine lv_aload_n hx hb dX8_enter_10 rfl (lv_at hl 1 rfl) ?_
  refine m_cv (va_runV (As := [.ref f9]) (rest := []) ⟨hx, hb, hml, hown, hts⟩ (c_X8_store_o l hok (fun a ha => c_kk hcs1 (hel9 a (by rw [← hL19]; exact ha)) (by decide) (by decide)) hf9 (by rw [hL19]; exact hl9) ((c_rr hcs1 hok0.2.2.2.2.2.2.2.2.2.2.2.2.2.2.1 (by decide) (by decide) (f := 61) (by decide) (by decide)).trans hop) (c_kk hcs1 hksg (by decide) (by decide)) ((c_rr hcs1 hksg (by decide) (by decide) (f := 51) (by decide) (by decide)).trans hfl) hkf1 ((hcs1 fl (by rw [hkf]; decide) (by rw [hkf]; decide)).2.2.2.2 hrf) (fun a ha => c_kk hcs1 (helf a (by rw [← hL1f]; exact ha)) (by decide) (by decide)) (by rw [hL1f]; exact hc20) hn9) (cwV 1 hts gX8_enter_X8_store rfl rfl rfl (by decide +kernel) ⟨Nat.le_of_ble_eq_true rfl, Nat.le_of_ble_eq_true rfl⟩) ⟨m_blind m_B_calling, m_recv hw (m_ent_9 hok.1) rfl, fun U hU hW => ⟨rfl, m_wo_call hw hU hW⟩⟩ rfl rfl hl.1 rfl (lv_room (Nat.le_of_ble_eq_true rfl)) dX8_enter_11 ⟨by show 0 + (if _ then _ else _) + 5 ≤ 6; split <;> omega, by rw [hL19]; show 0 + (if _ then _ else _) + (60 + (if _ then _ else _)) ≤ 564; split <;> split <;> omega⟩) hw (fun u_11 H locs hp_11 hw => ?_)
  obtain ⟨K_6, I_7, R_8, N_9, L_10⟩ := u_11
  have hw : m_wo G K_6 I_7 R_8 F A N_9 L_10 T J D s H locs := hw
  dsimp only at hp_11
  obtain ⟨hc2, ht15, ht61, -, k9, hk9, eL2, hlt2, hlt3⟩ := hp_11
  rw [hL19] at hk9 eL2 hlt2 hlt3
  rw [hL1f] at ht61 eL2
  have hcs2 := c_chg_mono (c_chg_tr hcs1 hc2) (fun _ _ h => h.elim id id) (fun _ _ h => h.elim False.elim id)
  have hI10 : I_7 10 f9 = I 10 f9 := (hcs2 f9 (by rw [hf90]; decide) (by rw [hf90]; decide)).2.2.1 10 (by decide) id
  rw [c_lt_I hI1] at hlt2 hlt3
  have hf92 : K_6 f9 = 1 := c_kk hcs2 hf90 (by decide) (by decide)
  refine lv_aload_n hx hb dX8_enter_14 rfl (lv_at hl 1 rfl) ?_
  refine g_1_0 hx hb hts (by decide +kernel) hown hw hf92 (hts (.fieldLink RX8 221 "Pirateindex$Find" "number" "I") (by decide +kernel)) dX8_enter_15 ?_
  rw [hI10]
  refine W.widen (k := 6) (n := 564) (by split <;> omega) (by rw [hL19]; split <;> split <;> omega) ?_
  exact W.iret (v := (I 10 f9)) hx hb hr (fun t ht hW => ⟨⟨(I 10 f9), (K_6, I_7, R_8, N_9, L_10), rfl, ⟨rfl, hcs2, ht15, ht61, k9, hk9, by rw [eL2, eL1], hlt2, hlt3⟩, m_wo_out hw ht hW.alike⟩, m_wo_F hw ht⟩) (m_wo_L hw) dX8_enter_18
set_option maxHeartbeats 1600000 in
set_option maxRecDepth 100000 in
theorem c_X8_enter_n (l : Launch) {G : mG} {K : Nat → Nat} {I : Nat → Nat → Int32} {R : Nat → Nat → Option Nat} {F : Nat → UInt32} {A : Nat → Nat → Int32} {N : Nat → Nat} {L : Nat → List Nat} {T : Nat → List Int32} {J : Nat → Nat → Int64} {D : Nat → Nat → UInt64} {o : Nat} {cd : Nat → Nat} {f9 : Nat} (hok : c_ok K R N o cd) (hel1 : ∀ a, a ∈ L (cd 1) → K a = 1) (hel9 : ∀ a, a ∈ L (cd 9) → K a = 1) (hf9 : K f9 = 1) (hl1 : (L (cd 1)).length ≤ 120) (hl9 : (L (cd 9)).length ≤ 120) (hop : R 61 (cd 4) = none) (hel5 : ∀ a, a ∈ L (cd 10) → K a = 5) (hl10 : (L (cd 10)).length ≤ 20) : Met l yX8_enter wsX8_enter ({ frames := 14, cells := 6, slots := 564, locals := 520 } : Room) (va_Pc [.ref o, .ref f9] (m_B G K I R F A N L T J D)) (va_Qi (fun (r : Int32) (u : (Nat → Nat) × (Nat → Nat → Int32) × (Nat → Nat → Option Nat) × (Nat → Nat) × (Nat → List Nat)) => r = I 10 f9 ∧ ∃ sg fl, (∀ b, K b ≠ 0 → K b ≠ 40 → b ≠ sg ∧ b ≠ fl) ∧ sg ≠ fl ∧ c_chg K I R N u.1 u.2.1 u.2.2.1 u.2.2.2.1 (fun f b => f = 62 ∧ b = cd 4) (fun f b => (f = 15 ∧ b = f9) ∨ (f = 61 ∧ b = cd 4)) ∧ u.1 sg = 5 ∧ u.1 fl = 11 ∧ u.2.2.1 51 sg = some fl ∧ u.2.2.1 111 fl ≠ none ∧ u.2.1 50 sg = I 62 (cd 4) ∧ u.2.1 62 (cd 4) = I 62 (cd 4) + 1 ∧ u.2.2.1 15 f9 = some sg ∧ u.2.2.1 61 (cd 4) = some sg ∧ (∃ k, k ≤ (L (cd 9)).length ∧ u.2.2.2.2 = m_up (m_up (m_up (m_up L (cd 1) (L (cd 1) ++ [f9])) (cd 10) (L (cd 10) ++ [sg])) fl [f9]) (cd 9) (y_ins (L (cd 9)) k f9) ∧ (∀ j, k ≤ j → j < (L (cd 9)).length → c_lt I f9 ((L (cd 9)).getD j 0) = true) ∧ (k = 0 ∨ c_lt I f9 ((L (cd 9)).getD (k - 1) 0) = false))) (fun u : (Nat → Nat) × (Nat → Nat → Int32) × (Nat → Nat → Option Nat) × (Nat → Nat) × (Nat → List Nat) => m_B G (u.1) (u.2.1) (u.2.2.1) F A (u.2.2.2.1) (u.2.2.2.2) T J D) (m_A G)) 6 564 (m_A G) := by
  refine Met.ofW (cc := cX8_enter) (maxL := 2) (ret := (some .int)) (by decide) rfl ?_
  intro p e s m args below meth c s₁ B hml hv
  obtain ⟨rfl, hB⟩ := hv
  have hx := B.exec
  have hb := B.bytes
  have hr := B.returns
  have hts := atoms_spec (ws := wsX8_enter) B.pre
  have hown : s.vm.findClass RX8 = some m.cls := findClass_of_methodNamed B.named
  have hlocks := B.notSynchronized
  have hw := m_wo_in hB
  have hl := lv_entry ([.ref o, .ref f9]) (n := 2) (Nat.le_of_ble_eq_true rfl)
  rw [lg_entry_eq]
  generalize (lg_sl ([.ref o, .ref f9]) ++ List.replicate (2 - (lg_sl ([.ref o, .ref f9])).length) Slot.unset).toArray = ls at hl ⊢
  have hl : lv_has ls 2 [(0, .ref o), (1, .ref f9)] := hl
  have hnc1 := m_nc_120 hl1
  have hnc9 := m_nc_120 hl9
  have hok0 := hok
  have hf90 := hf9
  refine lv_aload_n hx hb dX8_enter_0 rfl (lv_at hl 0 rfl) ?_
  refine g_9_1 (r := some (cd 1)) hx hb hts (by decide +kernel) hown hw hok.1 (hts (.fieldLink RX8 16 "Pirateindex" "log" "Ljava/util/ArrayList;") (by decide +kernel)) hok.2.2.1 dX8_enter_1 ?_
  refine lv_aload_n hx hb dX8_enter_4 rfl (lv_at hl 1 rfl) ?_
  refine m_ci (va_runV (As := [.ref f9]) (rest := []) ⟨hx, hb, hml, hown, hts⟩ (c_Jx4a65c_add_9ea2d l hok.2.2.2.2.2.2.2.2.2.2.2.1 hok.2.2.2.2.2.2.2.2.2.2.2.2.2.2.2.2.2.2.2.2.2.2.2.2.2.2.2.2.2.2.2.2.2.2.2.2.1 (Or.inl hf9) (fun y hy => Or.inl (hel1 y hy)) (by omega)) (cwV 1 hts gX8_enter_Jx4a65c_add_9ea2d rfl rfl rfl (by decide +kernel) ⟨Nat.le_of_ble_eq_true rfl, Nat.le_of_ble_eq_true rfl⟩) ⟨m_blind m_B_calling, m_recv hw (m_ent_11 hok.2.2.2.2.2.2.2.2.2.2.2.1) rfl, fun U hU hW => ⟨rfl, m_wo_call hw hU hW⟩⟩ rfl rfl hl.1 rfl (lv_room (Nat.le_of_ble_eq_true rfl)) dX8_enter_5 ⟨by show 0 + (if _ then _ else _) ≤ 6; split <;> omega, by show 0 + (if _ then _ else _) ≤ 564; split <;> omega⟩) hw (fun r_5 u_5 H locs hp_5 hw => ?_)
  obtain ⟨K_1, I_2, R_3, N_4, L_5⟩ := u_5
  have hw : m_wo G K_1 I_2 R_3 F A N_4 L_5 T J D s H locs := hw
  dsimp only at hp_5
  obtain ⟨hh1, hcap1, eL1⟩ := hp_5
  have hcs1 : c_chg K I R N K_1 I_2 R_3 N_4 c_no c_no := c_chg_hid hh1
  have hok := c_ok_chg hok0 hcs1 (fun _ _ h => absurd h id)
  have hf9 : K_1 f9 = 1 := c_kk hcs1 hf90 (by decide) (by decide)
  have hI1 : ∀ f b, f < 20 → I_2 f b = I f b := fun f b hf => hh1.2.2.1 f b (by omega)
  have hL19 : L_5 (cd 9) = L (cd 9) := by rw [eL1, m_up_ne _ _ (Ne.symm hok0.2.2.2.2.2.2.2.2.2.2.2.2.2.2.2.2.2.2.2.2.2.2.2.2.2.2.2.2.2.2.2.2.2.2.2.2.2.2.2.2.2.2.2.2.2.2.2.2.2.1)]
  have hL110 : L_5 (cd 10) = L (cd 10) := by rw [eL1, m_up_ne _ _ (Ne.symm hok0.2.2.2.2.2.2.2.2.2.2.2.2.2.2.2.2.2.2.2.2.2.2.2.2.2.2.2.2.2.2.2.2.2.2.2.2.2.2.2.2.2.2.2.2.2.2.2.2.2.2.1)]
  refine lv_pop hx hb dX8_enter_8 rfl ?_
  refine lv_aload_n hx hb dX8_enter_9 rfl (lv_at hl 0 rfl) ?_
  refine lv_aload_n hx hb dX8_enter_10 rfl (lv_at hl 1 rfl) ?_
  refine m_cv (va_runV (As := [.ref f9]) (rest := []) ⟨hx, hb, hml, hown, hts⟩ (c_X8_store_n l hok (fun a ha => c_kk hcs1 (hel9 a (by rw [← hL19]; exact ha)) (by decide) (by decide)) hf9 (by rw [hL19]; exact hl9) ((c_rr hcs1 hok0.2.2.2.2.2.2.2.2.2.2.2.2.2.2.1 (by decide) (by decide) (f := 61) (by decide) (by decide)).trans hop) (fun a ha => c_kk hcs1 (hel5 a (by rw [← hL110]; exact ha)) (by decide) (by decide)) (by rw [hL110]; exact hl10)) (cwV 1 hts gX8_enter_X8_store rfl rfl rfl (by decide +kernel) ⟨Nat.le_of_ble_eq_true rfl, Nat.le_of_ble_eq_true rfl⟩) ⟨m_blind m_B_calling, m_recv hw (m_ent_9 hok.1) rfl, fun U hU hW => ⟨rfl, m_wo_call hw hU hW⟩⟩ rfl rfl hl.1 rfl (lv_room (Nat.le_of_ble_eq_true rfl)) dX8_enter_11 ⟨by show 0 + (if _ then _ else _) + 5 ≤ 6; split <;> omega, by rw [hL19]; show 0 + (if _ then _ else _) + (60 + (if _ then _ else _)) ≤ 564; split <;> split <;> omega⟩) hw (fun u_11 H locs hp_11 hw => ?_)
  obtain ⟨K_6, I_7, R_8, N_9, L_10⟩ := u_11
  have hw : m_wo G K_6 I_7 R_8 F A N_9 L_10 T J D s H locs := hw
  dsimp only at hp_11
  obtain ⟨sg, fl, hnw, hsf, hc2, ks2, kf2, e51, e111, e50, e62, ht15, ht61, -, k9, hk9, eL2, hlt2, hlt3⟩ := hp_11
  rw [hL19] at hk9 eL2 hlt2 hlt3
  rw [hL110] at eL2
  have hcs2 := c_chg_mono (c_chg_tr hcs1 hc2) (fun _ _ h => h.elim False.elim id) (fun _ _ h => h.elim False.elim id)
  have hI10 : I_7 10 f9 = I 10 f9 := (hcs2 f9 (by rw [hf90]; decide) (by rw [hf90]; decide)).2.2.1 10 (by decide) (fun h => absurd (show (10 : Nat) = 62 from h.1) (by decide))
  have h62 : I_2 62 (cd 4) = I 62 (cd 4) := (hcs1 _ (by rw [hok0.2.2.2.2.2.2.2.2.2.2.2.2.2.2.1]; decide) (by rw [hok0.2.2.2.2.2.2.2.2.2.2.2.2.2.2.1]; decide)).2.2.1 62 (by decide) id
  rw [h62] at e50 e62
  have hnw0 : ∀ b, K b ≠ 0 → K b ≠ 40 → b ≠ sg ∧ b ≠ fl := fun b h0 h4 => hnw b (by rw [(hcs1 b h0 h4).1]; exact h0) (by rw [(hcs1 b h0 h4).1]; exact h4)
  rw [c_lt_I hI1] at hlt2 hlt3
  have hf92 : K_6 f9 = 1 := c_kk hcs2 hf90 (by decide) (by decide)
  refine lv_aload_n hx hb dX8_enter_14 rfl (lv_at hl 1 rfl) ?_
  refine g_1_0 hx hb hts (by decide +kernel) hown hw hf92 (hts (.fieldLink RX8 221 "Pirateindex$Find" "number" "I") (by decide +kernel)) dX8_enter_15 ?_
  rw [hI10]
  refine W.widen (k := 6) (n := 564) (by split <;> omega) (by rw [hL19]; split <;> split <;> omega) ?_
  exact W.iret (v := (I 10 f9)) hx hb hr (fun t ht hW => ⟨⟨(I 10 f9), (K_6, I_7, R_8, N_9, L_10), rfl, ⟨rfl, sg, fl, hnw0, hsf, hcs2, ks2, kf2, e51, e111, e50, e62, ht15, ht61, k9, hk9, by rw [eL2, eL1], hlt2, hlt3⟩, m_wo_out hw ht hW.alike⟩, m_wo_F hw ht⟩) (m_wo_L hw) dX8_enter_18
set_option maxHeartbeats 400000 in
set_option maxRecDepth 100000 in
theorem c_X8_takeFromIndex (l : Launch) {G : mG} {K : Nat → Nat} {I : Nat → Nat → Int32} {R : Nat → Nat → Option Nat} {F : Nat → UInt32} {A : Nat → Nat → Int32} {N : Nat → Nat} {L : Nat → List Nat} {T : Nat → List Int32} {J : Nat → Nat → Int64} {D : Nat → Nat → UInt64} {o : Nat} {cd : Nat → Nat} {sg fl : Nat} (hok : c_ok K R N o cd) (hel9 : ∀ a, a ∈ L (cd 9) → K a = 1) (hksg : K sg = 5) (hfl : R 51 sg = some fl) (hkf : K fl = 11) (hel1 : ∀ a, a ∈ L fl → K a = 1) (hn9 : fl ≠ cd 9) : Met l yX8_takeFromIndex wsX8_takeFromIndex ({ frames := 5, cells := 0, slots := 0, locals := 200 } : Room) (va_Pc [.ref o, .ref sg] (m_B G K I R F A N L T J D)) (va_Qv (fun (u : (Nat → Nat → Int32) × (Nat → List Nat)) => (∀ f b, f ≠ 110 → u.1 f b = I f b) ∧ u.2 = m_up L (cd 9) ((L fl).foldl List.erase (L (cd 9)))) (fun u : (Nat → Nat → Int32) × (Nat → List Nat) => m_B G K (u.1) R F A N (u.2) T J D) (m_A G)) 0 0 (m_A G) := by
  refine Met.ofW (cc := cX8_takeFromIndex) (maxL := 3) (ret := none) (by decide) rfl ?_
  intro p e s m args below meth c s₁ B hml hv
  obtain ⟨rfl, hB⟩ := hv
  have hx := B.exec
  have hb := B.bytes
  have hr := B.returns
  have hts := atoms_spec (ws := wsX8_takeFromIndex) B.pre
  have hown : s.vm.findClass RX8 = some m.cls := findClass_of_methodNamed B.named
  have hlocks := B.notSynchronized
  have hw := m_wo_in hB
  have hl := lv_entry ([.ref o, .ref sg]) (n := 3) (Nat.le_of_ble_eq_true rfl)
  rw [lg_entry_eq]
  generalize (lg_sl ([.ref o, .ref sg]) ++ List.replicate (3 - (lg_sl ([.ref o, .ref sg])).length) Slot.unset).toArray = ls at hl ⊢
  have hl : lv_has ls 3 [(0, .ref o), (1, .ref sg)] := hl
  have hlenf := m_len hw hkf
  refine lv_iconst (v := 0) hx hb dX8_takeFromIndex_0 (by decide) ?_
  refine lv_istore_n (lv' := [(2, .int 0), (0, .ref o), (1, .ref sg)]) hx hb dX8_takeFromIndex_1 rfl hl (by decide) rfl (fun ls hl => ?_)
  refine m_loop (σ := Nat × (Nat → Nat → Int32) × (Nat → List Nat)) (fun a => (L fl).length - (a.1)) (fun a H locs ls => ((a.1) ≤ (L fl).length ∧ (∀ f b, f ≠ 110 → (a.2.1) f b = I f b) ∧ (a.2.2) = m_up L (cd 9) (((L fl).take (a.1)).foldl List.erase (L (cd 9)))) ∧ m_wo G K (a.2.1) R F A N (a.2.2) T J D s H locs ∧ lv_has ls 3 [(0, .ref o), (1, .ref sg), (2, .int (nI (a.1)))]) ?_ (0, I, L) ⟨⟨Nat.zero_le _, fun _ _ _ => rfl, m_up_sm L (cd 9)⟩, hw, lv_sub hl [1, 2, 0] rfl⟩
  rintro ⟨i, Ii, Li⟩ H locs ls ⟨hinv, hw, hl⟩ ih
  dsimp only at hinv hw hl
  obtain ⟨hi0, hI0, eLi⟩ := hinv
  have hLf : Li fl = L fl := by rw [eLi, m_up_ne _ _ hn9]
  have hLi9 : Li (cd 9) = ((L fl).take i).foldl List.erase (L (cd 9)) := by rw [eLi, m_up_self]
  have hel9i : ∀ a, a ∈ Li (cd 9) → K a = 1 := fun a ha => hel9 a (er_sub (by rw [← hLi9]; exact ha))
  refine lv_iload_n hx hb dX8_takeFromIndex_2 rfl (lv_at hl 2 rfl) ?_
  refine lv_aload_n hx hb dX8_takeFromIndex_3 rfl (lv_at hl 1 rfl) ?_
  refine g_5_1 (r := some fl) hx hb hts (by decide +kernel) hown hw hksg (hts (.fieldLink RX8 152 "Pirateindex$Segment" "finds" "Ljava/util/ArrayList;") (by decide +kernel)) hfl dX8_takeFromIndex_4 ?_
  refine m_ci (va_runV (As := []) (rest := [.int (nI i)]) ⟨hx, hb, hml, hown, hts⟩ (c_Jx4a65c_size_8abf5 l hkf) (cwV 0 hts gX8_takeFromIndex_Jx4a65c_size_8abf5 rfl rfl rfl (by decide +kernel) ⟨Nat.le_of_ble_eq_true rfl, Nat.le_of_ble_eq_true rfl⟩) ⟨m_blind m_B_calling, m_recv hw (m_ent_11 hkf) rfl, fun U hU hW => ⟨rfl, m_wo_call hw hU hW⟩⟩ rfl rfl hl.1 rfl (lv_room (Nat.le_of_ble_eq_true rfl)) dX8_takeFromIndex_7 ⟨Nat.le_of_ble_eq_true rfl, Nat.le_of_ble_eq_true rfl⟩) hw (fun r_7 u_7 H locs hp_7 hw => ?_)
  obtain rfl : r_7 = nI (L fl).length := hp_7.trans (congrArg (fun z => nI (List.length z)) hLf)
  refine lv_icmp_ge (tgt := 37) hx hb dX8_takeFromIndex_10 (by decide) (fun c_10 => ?_) (fun c_10 => ?_)
  · skip
    rw [nI_leI (by omega) (by omega)] at c_10
    have hi : i = (L fl).length := by omega
    exact W.vret hx hb hr (fun t ht hW => ⟨⟨(Ii, Li), rfl, ⟨hI0, by show Li = _; rw [eLi, hi, List.take_length]⟩, m_wo_out hw ht hW.alike⟩, m_wo_F hw ht⟩) (m_wo_L hw) dX8_takeFromIndex_37
  · skip
    rw [nI_leI (by omega) (by omega)] at c_10
    have hi : i < (L fl).length := by omega
    refine lv_aload_n hx hb dX8_takeFromIndex_13 rfl (lv_at hl 0 rfl) ?_
    refine g_9_2 (r := some (cd 2)) hx hb hts (by decide +kernel) hown hw hok.1 (hts (.fieldLink RX8 22 "Pirateindex" "index" "LPirateindex$Index;") (by decide +kernel)) hok.2.2.2.1 dX8_takeFromIndex_14 ?_
    refine lv_aload_n hx hb dX8_takeFromIndex_17 rfl (lv_at hl 1 rfl) ?_
    refine g_5_1 (r := some fl) hx hb hts (by decide +kernel) hown hw hksg (hts (.fieldLink RX8 152 "Pirateindex$Segment" "finds" "Ljava/util/ArrayList;") (by decide +kernel)) hfl dX8_takeFromIndex_18 ?_
    refine lv_iload_n hx hb dX8_takeFromIndex_21 rfl (lv_at hl 2 rfl) ?_
    obtain ⟨ai, ha⟩ : ∃ z, (L fl)[i]? = some z := ⟨_, lg_some hi⟩
    have hka : K ai = 1 := hel1 ai (List.mem_of_getElem? ha)
    refine m_cq (va_runV (As := [.int (nI i)]) (rest := [.ref (cd 2)]) ⟨hx, hb, hml, hown, hts⟩ (c_Jx4a65c_get_915e3 l (i := i) hkf (by rw [hLf]; exact hi)) (cwV 1 hts gX8_takeFromIndex_Jx4a65c_get_915e3 rfl rfl rfl (by decide +kernel) ⟨Nat.le_of_ble_eq_true rfl, Nat.le_of_ble_eq_true rfl⟩) ⟨m_blind m_B_calling, m_recv hw (m_ent_11 hkf) rfl, fun U hU hW => ⟨rfl, m_wo_call hw hU hW⟩⟩ rfl rfl hl.1 rfl (lv_room (Nat.le_of_ble_eq_true rfl)) dX8_takeFromIndex_22 ⟨Nat.le_of_ble_eq_true rfl, Nat.le_of_ble_eq_true rfl⟩) hw (fun r_22 u_22 H locs hp_22 hw => ?_)
    obtain rfl : r_22 = some ai := hp_22.trans (by rw [hLf]; exact ha)
    refine va_castS hx hb hown (hts (.classLink RX8 95 "Pirateindex$Find") (by decide +kernel)) (hw.1.1 5 _ rfl).2 (m_recv hw (m_ent_1 hka) rfl) dX8_takeFromIndex_25 ?_
    refine m_cv (va_runV (As := [.ref ai]) (rest := []) ⟨hx, hb, hml, hown, hts⟩ (c_X1_leave l hok.2.2.2.2.2.2.2.2.2.2.2.2.1 hok.2.2.2.2.2.2.2.2.2.2.2.2.2.2.2.2.2.2.2.2.2.2.2.2.2.1 hok.2.2.2.2.2.2.2.2.2.2.2.2.2.2.2.2.2.2.2.1 hel9i) (cwV 1 hts gX8_takeFromIndex_X1_leave rfl rfl rfl (by decide +kernel) ⟨Nat.le_of_ble_eq_true rfl, Nat.le_of_ble_eq_true rfl⟩) ⟨m_blind m_B_calling, m_recv hw (m_ent_2 hok.2.2.2.2.2.2.2.2.2.2.2.2.1) rfl, fun U hU hW => ⟨rfl, m_wo_call hw hU hW⟩⟩ rfl rfl hl.1 rfl (lv_room (Nat.le_of_ble_eq_true rfl)) dX8_takeFromIndex_28 ⟨Nat.le_of_ble_eq_true rfl, Nat.le_of_ble_eq_true rfl⟩) hw (fun u_28 H locs hp_28 hw => ?_)
    obtain ⟨I_1, L_2⟩ := u_28
    have hw : m_wo G K I_1 R F A N L_2 T J D s H locs := hw
    dsimp only at hp_28
    obtain ⟨hI9, eL9⟩ := hp_28
    have hI1 : ∀ f b, f ≠ 110 → I_1 f b = I f b := fun f b hf => (hI9 f b hf).trans (hI0 f b hf)
    have eL1 : L_2 = m_up L (cd 9) (((L fl).take (i + 1)).foldl List.erase (L (cd 9))) := by
      rw [eL9, hLi9, lg_take ha, List.foldl_append, eLi]
      exact m_up_up _ _ _ _
    refine lv_iinc (v := nI (i + 1)) (lv' := [(2, .int (nI (i + 1))), (0, .ref o), (1, .ref sg)]) hx hb dX8_takeFromIndex_31 hl (k := 2) rfl (nI_1 _) (by decide) rfl (fun ls hl => ?_)
    refine lv_goto (tgt := 2) hx hb dX8_takeFromIndex_34 (by decide) ?_
    exact ih (i + 1, I_1, L_2) _ _ _ (by dsimp only; omega) ⟨⟨by omega, hI1, eL1⟩, hw, lv_sub hl [1, 2, 0] rfl⟩
