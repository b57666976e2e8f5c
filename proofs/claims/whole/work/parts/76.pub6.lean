theorem q_isl1 {Z : mZ} {x y c : Int32} (h : ¬ (o_rng x 0 99 = true ∧ o_rng y 0 99 = true ∧ o_rng c 0 999 = true)) : t_island Z x y c = 1 := by
  unfold t_island
  exact if_neg (fun z => h (by rw [Bool.and_eq_true, Bool.and_eq_true] at z; exact z))
theorem q_isl0 {Z : mZ} {x y c : Int32} (h : o_rng x 0 99 = true ∧ o_rng y 0 99 = true ∧ o_rng c 0 999 = true) (h2 : ¬ 12 ≤ Z 0) : t_island Z x y c = 0 := by
  unfold t_island
  rw [if_pos (by rw [Bool.and_eq_true, Bool.and_eq_true]; exact h), if_neg h2]
theorem q_isl2 {Z : mZ} {x y c : Int32} (h : o_rng x 0 99 = true ∧ o_rng y 0 99 = true ∧ o_rng c 0 999 = true) (h2 : 12 ≤ Z 0) : t_island Z x y c = 2 := by
  unfold t_island
  rw [if_pos (by rw [Bool.and_eq_true, Bool.and_eq_true]; exact h), if_pos h2]
theorem c_chg_q {K : Nat → Nat} {I I' : Nat → Nat → Int32} {R R' : Nat → Nat → Option Nat} {N : Nat → Nat} {q : Nat} (hI : ∀ f b, b ≠ q → I' f b = I f b) (hR : ∀ f b, b ≠ q → R' f b = R f b) (hq : ∀ b, b = q → R b b = R b b → R 111 q ≠ none → R' 111 q ≠ none) : c_chg K I R N K I' R' N (fun _ b => b = q) (fun _ b => b = q) := fun b _ _ =>
  ⟨rfl, rfl, fun f _ h => hI f b h, fun f _ _ h => hR f b h, fun h => by
    by_cases e : b = q
    · rw [e] at h ⊢; exact hq q rfl rfl h
    · rw [hR 111 b e]; exact h⟩
theorem lg_app {l : List Nat} {q i a : Nat} (h : (l ++ [q])[i]? = some a) : (i < l.length ∧ l[i]? = some a) ∨ (i = l.length ∧ a = q) := by
  rcases Nat.lt_or_ge i l.length with h1 | h1
  · rw [List.getElem?_append_left h1] at h; exact Or.inl ⟨h1, h⟩
  · have h2 := (List.getElem?_eq_some_iff.mp h).1
    rw [List.length_append, List.length_singleton] at h2
    have e : i = l.length := by omega
    rw [e, List.getElem?_concat_length] at h
    exact Or.inr ⟨e, (Option.some.inj h).symm⟩
theorem m_cap_hid {G : mG} {K K2 : Nat → Nat} {I I2 : Nat → Nat → Int32} {R R2 : Nat → Nat → Option Nat} {F F2 : Nat → UInt32} {A A2 : Nat → Nat → Int32} {N N2 : Nat → Nat} {L L2 : Nat → List Nat} {T T2 : Nat → List Int32} {J J2 : Nat → Nat → Int64} {D D2 : Nat → Nat → UInt64} {s s2 : State} {H H2 : Heap} {locs locs2 : List Loc} {o o2 : Nat} (hw : m_wo G K I R F A N L T J D s H locs) (hk : K o2 = 11) (hr : R 111 o2 ≠ none) (hh : m_hid o K I R N K2 I2 R2 N2) (hne : o2 ≠ o) (hw2 : m_wo G K2 I2 R2 F2 A2 N2 L2 T2 J2 D2 s2 H2 locs2) : m_cap R2 N2 o2 = m_cap R N o2 := by
  have e := hh.2.2.2.2.2.1 o2 hne
  rcases m_list hw hk hr with ⟨h1, h2, h3⟩ | ⟨e0, h1, h2, h3, h4, h5, h6, h7, h8⟩
  · rw [h3]
    exact m_cap0 hw2 (m_hid_k hh hk (by decide) (by decide)) (e.trans h1)
  · have hN := hh.2.2.2.2.1 e0 (Or.inr (by rw [h2]; decide))
    unfold m_cap
    rw [e, h1]
    exact hN
theorem q_island {K K2 : Nat → Nat} {I I1 I2 : Nat → Nat → Int32} {R R2 : Nat → Nat → Option Nat} {N N2 : Nat → Nat} {A : Nat → Nat → Int32} {L L2 : Nat → List Nat} {T : Nat → List Int32} {x : Nat} {cd : Nat → Nat} {Z : mZ} {M : mM} {q : Nat} {xx yy tr : Int32} (hs : c_sim K I R N A L T x cd Z M) (h10 : M 10 (L (cd 0)).length = 0) (hz : K q = 0) (hh : m_hid (cd 0) (m_up K q 3) I1 R N K2 I2 R2 N2)
    (eI : I1 = m_up2 (m_up2 (m_up2 (m_up2 (m_up2 I 30 q (nI (L (cd 0)).length)) 31 q xx) 32 q yy) 33 q tr) 34 q 1) (eL : L2 = m_up L (cd 0) (L (cd 0) ++ [q])) (hlt : (L (cd 0)).length < 12) (hcap : m_cap R2 N2 (cd 8) ≤ 1000) : c_sim K2 I2 R2 N2 A L2 T x cd (p_island (Z, M) xx yy tr).1 (p_island (Z, M) xx yy tr).2 := by
  have hel1 := q_el1 hs
  have hel5 := q_el5 hs
  have hel0 := q_el0 hs
  obtain ⟨hok, hi, hf, hr, hsh, hfl, hty, hca, hcp⟩ := hs
  have hl := hi.2.1
  have hzn : zn Z 0 = (L (cd 0)).length := zn_of hi.1 (by omega)
  have hc : c_chg K I R N K2 I2 R2 N2 c_no c_no := by
    refine c_chg_mk (c_chg_tr (c_chg_tr (c_chg_new (n := 0) hz) (c_chg_q (I' := I1) (R' := R) (fun f b hb => ?_) (fun _ _ _ => rfl) (fun _ _ _ h => h))) (c_chg_hid hh)) (fun f b h0 h => h.elim (fun h => h.elim id (fun h => absurd (by rw [show b = q from h]; exact hz) h0)) id) (fun f b h0 h => h.elim (fun h => h.elim id (fun h => absurd (by rw [show b = q from h]; exact hz) h0)) id)
    rw [eI, m_up2_ne _ _ hb, m_up2_ne _ _ hb, m_up2_ne _ _ hb, m_up2_ne _ _ hb, m_up2_ne _ _ hb]
  have hL0 : L2 (cd 0) = L (cd 0) ++ [q] := by rw [eL, m_up_self]
  have hLn : ∀ b, b ≠ cd 0 → L2 b = L b := fun b hb => by rw [eL, m_up_ne _ _ hb]
  have e50 : ∀ a, a ∈ L (cd 10) → I2 50 a = I 50 a := fun a ha => (hc a (by rw [hel5 a ha]; decide) (by rw [hel5 a ha]; decide)).2.2.1 50 (by decide) id
  have hq2 : ∀ f, f ≠ 110 → I2 f q = I1 f q := fun f h => hh.2.2.1 f q h
  have mM : ∀ j, j ≠ 7 → j ≠ 8 → j ≠ 9 → (p_island (Z, M) xx yy tr).2 j = M j := fun j a b c => by
    unfold p_island
    dsimp only
    rw [m1_n _ _ c, m1_n _ _ b, m1_n _ _ a]
  have m789 : ∀ j i, j = 7 ∨ j = 8 ∨ j = 9 → i ≠ (L (cd 0)).length → (p_island (Z, M) xx yy tr).2 j i = M j i := fun j i hj hne => by
    unfold p_island
    dsimp only
    rw [hzn]
    unfold m1 upd
    rcases hj with h | h | h <;> subst h <;> simp [hne]
  have z0 : ∀ j, j ≠ 0 → (p_island (Z, M) xx yy tr).1 j = Z j := fun j h => z1_n _ _ h
  refine ⟨c_ok_chg hok hc (fun _ _ z => absurd z id), ⟨?_, ?_, fun i a ha => ?_⟩, q_fnd_t hf hc (fun _ _ z => absurd z id) (fun _ _ z => absurd z id) e50 (hLn _ (Ne.symm hok.2.2.2.2.2.2.2.2.2.2.2.2.2.2.2.2.2.2.2.2.2.2.2.2.2.2.2.2.2.2.2.2.2.2.2.2.2.2.2.2.2.2.1)) (fun j z => by rw [hLn _ (Ne.symm hok.2.2.2.2.2.2.2.2.2.2.2.2.2.2.2.2.2.2.2.2.2.2.2.2.2.2.2.2.2.2.2.2.2.2.2.2.2.2.2.2.2.2.2.1)]; exact ⟨rfl, z⟩) (hLn _ (Ne.symm hok.2.2.2.2.2.2.2.2.2.2.2.2.2.2.2.2.2.2.2.2.2.2.2.2.2.2.2.2.2.2.2.2.2.2.2.2.2.2.2.2.2.2.2.2.2.2.1)) (z0 1 (by decide)) (mM 11 (by decide) (by decide) (by decide)) (mM 12 (by decide) (by decide) (by decide)) (mM 13 (by decide) (by decide) (by decide)) (mM 14 (by decide) (by decide) (by decide)) (mM 15 (by decide) (by decide) (by decide)) (mM 16 (by decide) (by decide) (by decide)), q_row_t hr hel1 hc (fun _ _ z => absurd z id) (fun _ _ z => absurd z id) (hLn _ (Ne.symm hok.2.2.2.2.2.2.2.2.2.2.2.2.2.2.2.2.2.2.2.2.2.2.2.2.2.2.2.2.2.2.2.2.2.2.2.2.2.2.2.2.2.2.1)) (hLn _ (Ne.symm hok.2.2.2.2.2.2.2.2.2.2.2.2.2.2.2.2.2.2.2.2.2.2.2.2.2.2.2.2.2.2.2.2.2.2.2.2.2.2.2.2.2.2.2.2.2.1)), q_shf_t hok hsh hel1 hc (fun _ _ z => absurd z id) (fun _ _ z => absurd z id) (hLn _ (Ne.symm hok.2.2.2.2.2.2.2.2.2.2.2.2.2.2.2.2.2.2.2.2.2.2.2.2.2.2.2.2.2.2.2.2.2.2.2.2.2.2.2.2.2.2.1)) (hLn _ (Ne.symm hok.2.2.2.2.2.2.2.2.2.2.2.2.2.2.2.2.2.2.2.2.2.2.2.2.2.2.2.2.2.2.2.2.2.2.2.2.2.2.2.2.2.2.2.2.2.2.1)) (fun a fl ha hf9 => hLn _ ?_) (z0 3 (by decide)) (z0 4 (by decide)) (z0 5 (by decide)) (mM 17 (by decide) (by decide) (by decide)), q_flt_t hok hfl hc (fun _ _ z => absurd z id) (fun _ _ z => z) (fun _ _ z => absurd z id) (fun _ _ _ _ => rfl) (fun j b h => by rw [hL0, List.getElem?_append_left (List.getElem?_eq_some_iff.mp h).1]; exact h) (hLn _ (Ne.symm hok.2.2.2.2.2.2.2.2.2.2.2.2.2.2.2.2.2.2.2.2.2.2.2.2.2.2.2.2.2.2.2.2.2.2.2.2.2.2.2.2.2.2.2.1)) (z0 2 (by decide)) (fun j h => m789 9 j (Or.inr (Or.inr rfl)) (by omega)) (mM 18 (by decide) (by decide) (by decide)) (mM 19 (by decide) (by decide) (by decide)) (mM 20 (by decide) (by decide) (by decide)) (mM 21 (by decide) (by decide) (by decide)) (mM 22 (by decide) (by decide) (by decide)) (mM 23 (by decide) (by decide) (by decide)) (mM 24 (by decide) (by decide) (by decide)), q_typ_t hty hc id (fun _ _ z => absurd z id) rfl rfl (z0 29 (by decide)) (mM 25 (by decide) (by decide) (by decide)) (mM 26 (by decide) (by decide) (by decide)), q_cau_t hca rfl (z0 31 (by decide)) (mM 32 (by decide) (by decide) (by decide)), ?_⟩
  · rw [hL0, List.length_append, List.length_singleton]
    show z1 Z 0 (Z 0 + 1) 0 = _
    rw [z1_s, hi.1, nI_1]
  · rw [hL0, List.length_append, List.length_singleton]
    omega
  · rw [hL0] at ha
    rcases lg_app ha with ⟨h1, h2⟩ | ⟨h1, h2⟩
    · obtain ⟨k, b1, b2, b3, b4, b5⟩ := hi.2.2 i a h2
      have e := q_fI hc k (by decide) (by decide) (fs := [30, 31, 32, 33, 34]) (fun f z => absurd z id) (by decide)
      rw [m789 7 i (Or.inl rfl) (by omega), m789 8 i (Or.inr (Or.inl rfl)) (by omega), m789 9 i (Or.inr (Or.inr rfl)) (by omega), mM 10 (by decide) (by decide) (by decide)]
      exact ⟨c_kk hc k (by decide) (by decide), (e 30 (by decide)).trans b1, (e 31 (by decide)).trans b2, (e 32 (by decide)).trans b3, (e 33 (by decide)).trans b4, (e 34 (by decide)).trans b5⟩
    · rw [h1, h2, hq2 30 (by decide), hq2 31 (by decide), hq2 32 (by decide), hq2 33 (by decide), hq2 34 (by decide), eI, mM 10 (by decide) (by decide) (by decide), if_pos h10]
      refine ⟨m_hid_k hh (m_up_self _ _ _) (by decide) (by decide), ?_, ?_, ?_, ?_, m_up2_self _ _ _ _⟩
      · rw [m_up2_ni _ _ (by decide), m_up2_ni _ _ (by decide), m_up2_ni _ _ (by decide), m_up2_ni _ _ (by decide), m_up2_self]
      · rw [m_up2_ni _ _ (by decide), m_up2_ni _ _ (by decide), m_up2_ni _ _ (by decide), m_up2_self]
        unfold p_island
        dsimp only
        rw [m1_n _ _ (by decide), m1_n _ _ (by decide), m1_s, hzn]
        exact (if_pos rfl).symm
      · rw [m_up2_ni _ _ (by decide), m_up2_ni _ _ (by decide), m_up2_self]
        unfold p_island
        dsimp only
        rw [m1_n _ _ (by decide), m1_s, hzn]
        exact (if_pos rfl).symm
      · rw [m_up2_ni _ _ (by decide), m_up2_self]
        unfold p_island
        dsimp only
        rw [m1_s, hzn]
        exact (if_pos rfl).symm
  · obtain ⟨k, -, -, f2, b3, -, -, b6, -⟩ := q_el hsh.2.2.1 a ha
    rw [hf9] at b3
    rw [Option.some.inj b3]
    exact b6 0 (by decide)
  · exact hcap
set_option maxHeartbeats 800000 in
set_option maxRecDepth 100000 in
theorem c_X8_island (l : Launch) (hnt : l.stackTraces = false) {G : mG} {K : Nat → Nat} {I : Nat → Nat → Int32} {R : Nat → Nat → Option Nat} {F : Nat → UInt32} {A : Nat → Nat → Int32} {N : Nat → Nat} {L : Nat → List Nat} {T : Nat → List Int32} {J : Nat → Nat → Int64} {D : Nat → Nat → UInt64} {o : Nat} {cd : Nat → Nat} {Z : Nat → Int32} {M : Nat → Nat → Int32} {xx yy tr : Int32} (hs : c_sim K I R N A L T o cd Z M) (h10 : M 10 (L (cd 0)).length = 0) : vx_Met l yX8_island wsX8_island ({ frames := 9, cells := 5, slots := 54, locals := 340 } : Room) (va_Pc [.ref o, .int xx, .int yy, .int tr] (fun U => m_B G K I R F A N L T J D U ∧ c_str U)) (va_Qi (fun (r : Int32) (u : (Nat → Nat) × (Nat → Nat → Int32) × (Nat → Nat → Option Nat) × (Nat → Nat) × (Nat → List Nat)) => t_island Z xx yy tr = 0 ∧ r = Z 0 ∧ c_sim u.1 u.2.1 u.2.2.1 u.2.2.2.1 A u.2.2.2.2 T o cd (p_island (Z, M) xx yy tr).1 (p_island (Z, M) xx yy tr).2 ∧ c_fr K I R N A u.1 u.2.1 u.2.2.1 u.2.2.2.1 A) (fun u : (Nat → Nat) × (Nat → Nat → Int32) × (Nat → Nat → Option Nat) × (Nat → Nat) × (Nat → List Nat) => m_B G (u.1) (u.2.1) (u.2.2.1) F A (u.2.2.2.1) (u.2.2.2.2) T J D) (m_A G)) (vx_X (fun (u : Unit) => ¬ t_island Z xx yy tr = 0) (fun E (u : Unit) t => E = (if t_island Z xx yy tr = 1 then "java/lang/IllegalArgumentException" else "java/lang/IllegalStateException") ∧ m_B G K I R F A N L T J D t) (m_A G)) 5 54 (m_A G) := by
  refine vx_ofW (cc := cX8_island) (maxL := 5) (ret := (some .int)) (by decide) rfl ?_
  intro p e s m args below meth c s₁ B hml hxt hv
  obtain ⟨rfl, hB, hcs⟩ := hv
  have hx := B.exec
  have hb := B.bytes
  have hr := B.returns
  have hts := atoms_spec (ws := wsX8_island) B.pre
  have hown : s.vm.findClass RX8 = some m.cls := findClass_of_methodNamed B.named
  have hlocks := B.notSynchronized
  have hw := m_wo_in hB
  have hl := lv_entry ([.ref o, .int xx, .int yy, .int tr]) (n := 5) (Nat.le_of_ble_eq_true rfl)
  rw [lg_entry_eq]
  generalize (lg_sl ([.ref o, .int xx, .int yy, .int tr]) ++ List.replicate (5 - (lg_sl ([.ref o, .int xx, .int yy, .int tr])).length) Slot.unset).toArray = ls at hl ⊢
  have hl : lv_has ls 5 [(0, .ref o), (1, .int xx), (2, .int yy), (3, .int tr)] := hl
  have hok := hs.1
  have hel0 := q_el0 hs
  have hel1 := q_el1 hs
  have hel5 := q_el5 hs
  have hel7 := q_el7 hs
  have hel9 := q_el9 hs
  have hlen := hs.2.1.2.1
  have hnc := m_nc_20 (n := (L (cd 0)).length) (by omega)
  have hok0 := hok
  have hel00 := hel0
  refine lv_iload_n hx hb dX8_island_0 rfl (lv_at hl 1 rfl) ?_
  refine lv_bipush (v := 99) hx hb dX8_island_1 (by decide) ?_
  refine m_xv (vx_runS (As := [.int xx, .int 99]) (rest := []) ⟨hx, hb, hml, hown, hts⟩ (c_X8_requireRange l hnt ) (va_cwS 2 hts gX8_island_X8_requireRange rfl rfl rfl (by decide +kernel) ⟨Nat.le_of_ble_eq_true rfl, Nat.le_of_ble_eq_true rfl⟩) ⟨m_blind (fun U g mk a h => ⟨m_B_calling U g mk a h.1, c_str_calling U g mk a h.2⟩), fun U hU hW => ⟨rfl, m_wo_call hw hU hW, c_str_warm hW hcs⟩⟩ rfl rfl hl.1 rfl (lv_room (Nat.le_of_ble_eq_true rfl)) dX8_island_3 ⟨Nat.le_of_ble_eq_true rfl, Nat.le_of_ble_eq_true rfl⟩) hw (fun E_ ce_ q9_ u_3x H locs hpx hw hce hcv hcl => ?_) (fun u_3 H locs hp_3 hw => ?_)
  · skip
    obtain ⟨hpx, rfl⟩ := hpx
    exact vx_out (fun x hx9 => absurd (hxt x hx9) id) hlocks hce hcv hcl (fun t ht9 hA9 => ⟨(), (by rw [(q_isl1 (fun z => hpx (q_rngs.mp z.1)))]; decide), ⟨(by rw [(q_isl1 (fun z => hpx (q_rngs.mp z.1)))]; rfl), m_wo_out hw ht9 hA9⟩, m_wo_F hw ht9⟩) (m_wo_L hw) (Nat.le_of_ble_eq_true rfl) (Nat.le_of_ble_eq_true rfl)
  have h1 := q_rngs.mpr hp_3
  refine lv_iload_n hx hb dX8_island_6 rfl (lv_at hl 2 rfl) ?_
  refine lv_bipush (v := 99) hx hb dX8_island_7 (by decide) ?_
  refine m_xv (vx_runS (As := [.int yy, .int 99]) (rest := []) ⟨hx, hb, hml, hown, hts⟩ (c_X8_requireRange l hnt ) (va_cwS 2 hts gX8_island_X8_requireRange rfl rfl rfl (by decide +kernel) ⟨Nat.le_of_ble_eq_true rfl, Nat.le_of_ble_eq_true rfl⟩) ⟨m_blind (fun U g mk a h => ⟨m_B_calling U g mk a h.1, c_str_calling U g mk a h.2⟩), fun U hU hW => ⟨rfl, m_wo_call hw hU hW, c_str_warm hW hcs⟩⟩ rfl rfl hl.1 rfl (lv_room (Nat.le_of_ble_eq_true rfl)) dX8_island_9 ⟨Nat.le_of_ble_eq_true rfl, Nat.le_of_ble_eq_true rfl⟩) hw (fun E_ ce_ q9_ u_9x H locs hpx hw hce hcv hcl => ?_) (fun u_9 H locs hp_9 hw => ?_)
  · skip
    obtain ⟨hpx, rfl⟩ := hpx
    exact vx_out (fun x hx9 => absurd (hxt x hx9) id) hlocks hce hcv hcl (fun t ht9 hA9 => ⟨(), (by rw [(q_isl1 (fun z => hpx (q_rngs.mp z.2.1)))]; decide), ⟨(by rw [(q_isl1 (fun z => hpx (q_rngs.mp z.2.1)))]; rfl), m_wo_out hw ht9 hA9⟩, m_wo_F hw ht9⟩) (m_wo_L hw) (Nat.le_of_ble_eq_true rfl) (Nat.le_of_ble_eq_true rfl)
  have h2 := q_rngs.mpr hp_9
  refine lv_iload_n hx hb dX8_island_12 rfl (lv_at hl 3 rfl) ?_
  refine lv_sipush (v := 999) hx hb dX8_island_13 (by decide) ?_
  refine m_xv (vx_runS (As := [.int tr, .int 999]) (rest := []) ⟨hx, hb, hml, hown, hts⟩ (c_X8_requireRange l hnt ) (va_cwS 2 hts gX8_island_X8_requireRange rfl rfl rfl (by decide +kernel) ⟨Nat.le_of_ble_eq_true rfl, Nat.le_of_ble_eq_true rfl⟩) ⟨m_blind (fun U g mk a h => ⟨m_B_calling U g mk a h.1, c_str_calling U g mk a h.2⟩), fun U hU hW => ⟨rfl, m_wo_call hw hU hW, c_str_warm hW hcs⟩⟩ rfl rfl hl.1 rfl (lv_room (Nat.le_of_ble_eq_true rfl)) dX8_island_16 ⟨Nat.le_of_ble_eq_true rfl, Nat.le_of_ble_eq_true rfl⟩) hw (fun E_ ce_ q9_ u_16x H locs hpx hw hce hcv hcl => ?_) (fun u_16 H locs hp_16 hw => ?_)
  · skip
    obtain ⟨hpx, rfl⟩ := hpx
    exact vx_out (fun x hx9 => absurd (hxt x hx9) id) hlocks hce hcv hcl (fun t ht9 hA9 => ⟨(), (by rw [(q_isl1 (fun z => hpx (q_rngs.mp z.2.2)))]; decide), ⟨(by rw [(q_isl1 (fun z => hpx (q_rngs.mp z.2.2)))]; rfl), m_wo_out hw ht9 hA9⟩, m_wo_F hw ht9⟩) (m_wo_L hw) (Nat.le_of_ble_eq_true rfl) (Nat.le_of_ble_eq_true rfl)
  have h3 := q_rngs.mpr hp_16
  refine lv_aload_n hx hb dX8_island_19 rfl (lv_at hl 0 rfl) ?_
  refine g_9_0 (r := some (cd 0)) hx hb hts (by decide +kernel) hown hw hok.1 (hts (.fieldLink RX8 10 "Pirateindex" "isles" "Ljava/util/ArrayList;") (by decide +kernel)) hok.2.1 dX8_island_20 ?_
  refine m_ci (va_runV (As := []) (rest := []) ⟨hx, hb, hml, hown, hts⟩ (c_Jx4a65c_size_8abf5 l hok.2.2.2.2.2.2.2.2.2.2.1) (cwV 0 hts gX8_island_Jx4a65c_size_8abf5 rfl rfl rfl (by decide +kernel) ⟨Nat.le_of_ble_eq_true rfl, Nat.le_of_ble_eq_true rfl⟩) ⟨m_blind m_B_calling, m_recv hw (m_ent_11 hok.2.2.2.2.2.2.2.2.2.2.1) rfl, fun U hU hW => ⟨rfl, m_wo_call hw hU hW⟩⟩ rfl rfl hl.1 rfl (lv_room (Nat.le_of_ble_eq_true rfl)) dX8_island_23 ⟨Nat.le_of_ble_eq_true rfl, Nat.le_of_ble_eq_true rfl⟩) hw (fun r_23 u_23 H locs hp_23 hw => ?_)
  obtain rfl : r_23 = (nI (L (cd 0)).length) := hp_23
  refine lv_bipush (v := 12) hx hb dX8_island_26 (by decide) ?_
  refine lv_icmp_lt (tgt := 41) hx hb dX8_island_28 (by decide) (fun c_28 => ?_) (fun c_28 => ?_)
  · skip
    have hlt : (L (cd 0)).length < 12 := nI_ltN (n := 12) (by omega) (by decide) c_28
    have htz : t_island Z xx yy tr = 0 := q_isl0 ⟨h1, h2, h3⟩ (by rw [hs.2.1.1]; exact fun z => absurd ((nI_leI (a := 12) (by decide) (by omega)).mp z) (by omega))
    refine m_new_3 hx hb hts (by decide +kernel) hown (hts (.classLink RX8 75 "Pirateindex$Isle") (by decide +kernel)) (hts (.instantiable RX2 6) (by decide +kernel)) (hts (.initialized RX2) (by decide +kernel)) hw (Nat.le_of_ble_eq_true rfl) (Nat.le_of_ble_eq_true rfl) dX8_island_41 (fun q_41 H hz_41 hd_41 hw => ?_)
    have hk_41 : m_up K q_41 3 q_41 = 3 := m_up_self _ _ _
    have hcn : c_chg K I R N (m_up K q_41 3) I R N c_no c_no := c_chg_new (n := 0) hz_41
    have hok := c_ok_chg hok0 hcn (fun _ _ h => absurd h id)
    have hel0 : ∀ a, a ∈ L (cd 0) → (m_up K q_41 3) a = 3 := fun a ha => m_up_k hz_41 (hel00 a ha) (by decide)
    refine lv_dup hx hb dX8_island_44 rfl ?_
    refine lv_aload_n hx hb dX8_island_45 rfl (lv_at hl 0 rfl) ?_
    refine g_9_0 (r := some (cd 0)) hx hb hts (by decide +kernel) hown hw hok.1 (hts (.fieldLink RX8 10 "Pirateindex" "isles" "Ljava/util/ArrayList;") (by decide +kernel)) hok.2.1 dX8_island_46 ?_
    refine m_ci (va_runV (As := []) (rest := [.ref q_41, .ref q_41]) ⟨hx, hb, hml, hown, hts⟩ (c_Jx4a65c_size_8abf5 l hok.2.2.2.2.2.2.2.2.2.2.1) (cwV 0 hts gX8_island_Jx4a65c_size_8abf5 rfl rfl rfl (by decide +kernel) ⟨Nat.le_of_ble_eq_true rfl, Nat.le_of_ble_eq_true rfl⟩) ⟨m_blind m_B_calling, m_recv hw (m_ent_11 hok.2.2.2.2.2.2.2.2.2.2.1) rfl, fun U hU hW => ⟨rfl, m_wo_call hw hU hW⟩⟩ rfl rfl hl.1 rfl (lv_room (Nat.le_of_ble_eq_true rfl)) dX8_island_49 ⟨Nat.le_of_ble_eq_true rfl, Nat.le_of_ble_eq_true rfl⟩) hw (fun r_49 u_49 H locs hp_49 hw => ?_)
    obtain rfl : r_49 = (nI (L (cd 0)).length) := hp_49
    refine lv_iload_n hx hb dX8_island_52 rfl (lv_at hl 1 rfl) ?_
    refine lv_iload_n hx hb dX8_island_53 rfl (lv_at hl 2 rfl) ?_
    refine lv_iload_n hx hb dX8_island_54 rfl (lv_at hl 3 rfl) ?_
    refine m_cv (va_runI (As := [.int (nI (L (cd 0)).length), .int xx, .int yy, .int tr]) (rest := [.ref q_41]) ⟨hx, hb, hml, hown, hts⟩ (c_X2_init l hk_41) (cwI 4 hts gX8_island_X2_init rfl rfl rfl (hts (.initialized RX2) (by decide +kernel)) (hts (.methodLink RX8 77 yX2_init) (by decide +kernel)) (hts (.instanceMethod yX2_init) (by decide +kernel)) rfl (by decide +kernel) ⟨Nat.le_of_ble_eq_true rfl, Nat.le_of_ble_eq_true rfl⟩) ⟨m_blind m_B_calling, fun U hU hW => ⟨rfl, m_wo_call hw hU hW⟩⟩ rfl rfl hl.1 rfl (lv_room (Nat.le_of_ble_eq_true rfl)) dX8_island_55 ⟨Nat.le_of_ble_eq_true rfl, Nat.le_of_ble_eq_true rfl⟩) hw (fun u_55 H locs hp_55 hw => ?_)
    have hw : m_wo G (m_up K q_41 3) u_55 R F A N L T J D s H locs := hw
    have eI1 := hp_55
    refine lv_astore (lv' := [(4, .ref q_41), (0, .ref o), (1, .int xx), (2, .int yy), (3, .int tr)]) hx hb dX8_island_58 hl (by decide) rfl (fun ls hl => ?_)
    refine lv_aload_n hx hb dX8_island_60 rfl (lv_at hl 1 rfl) ?_
    refine g_9_0 (r := some (cd 0)) hx hb hts (by decide +kernel) hown hw hok.1 (hts (.fieldLink RX8 10 "Pirateindex" "isles" "Ljava/util/ArrayList;") (by decide +kernel)) hok.2.1 dX8_island_61 ?_
    refine lv_aload hx hb dX8_island_64 (lv_at hl 0 rfl) ?_
    have hwb := hw
    refine m_ci (va_runV (As := [.ref q_41]) (rest := []) ⟨hx, hb, hml, hown, hts⟩ (c_Jx4a65c_add_9ea2d l hok.2.2.2.2.2.2.2.2.2.2.1 hok.2.2.2.2.2.2.2.2.2.2.2.2.2.2.2.2.2.2.2.2.2.2.2.2.2.2.2.2.2.2.2.2.2.2.2.1 (Or.inr (Or.inl hk_41)) (fun y9 hy9 => Or.inr (Or.inl (hel0 y9 hy9))) (by omega)) (cwV 1 hts gX8_island_Jx4a65c_add_9ea2d rfl rfl rfl (by decide +kernel) ⟨Nat.le_of_ble_eq_true rfl, Nat.le_of_ble_eq_true rfl⟩) ⟨m_blind m_B_calling, m_recv hw (m_ent_11 hok.2.2.2.2.2.2.2.2.2.2.1) rfl, fun U hU hW => ⟨rfl, m_wo_call hw hU hW⟩⟩ rfl rfl hl.1 rfl (lv_room (Nat.le_of_ble_eq_true rfl)) dX8_island_66 ⟨by show 4 + (if _ then _ else _) ≤ 5; split <;> omega, by show 24 + (if _ then _ else _) ≤ 54; split <;> omega⟩) hw (fun r_66 u_66 H locs hp_66 hw => ?_)
    obtain ⟨K_2, I_3, R_4, N_5, L_6⟩ := u_66
    have hw : m_wo G K_2 I_3 R_4 F A N_5 L_6 T J D s H locs := hw
    dsimp only at hp_66
    obtain ⟨hh9, hcap9, eL9⟩ := hp_66
    have hkq : K_2 q_41 = 3 := m_hid_k hh9 hk_41 (by decide) (by decide)
    have h30 : I_3 30 q_41 = nI (L (cd 0)).length := by rw [hh9.2.2.1 30 q_41 (by decide), eI1, m_up2_ni _ _ (by decide), m_up2_ni _ _ (by decide), m_up2_ni _ _ (by decide), m_up2_ni _ _ (by decide), m_up2_self]
    have hss := q_island hs h10 hz_41 hh9 eI1 eL9 hlt (by rw [m_cap_hid hwb hok.2.2.2.2.2.2.2.2.2.2.2.2.2.2.2.2.2.2.1 hok.2.2.2.2.2.2.2.2.2.2.2.2.2.2.2.2.2.2.2.2.2.2.2.2.2.2.2.2.2.2.2.2.2.2.2.2.2.2.1 hh9 (Ne.symm hok.2.2.2.2.2.2.2.2.2.2.2.2.2.2.2.2.2.2.2.2.2.2.2.2.2.2.2.2.2.2.2.2.2.2.2.2.2.2.2.2.2.2.2.2.1) hw]; exact hs.2.2.2.2.2.2.2.2)
    refine lv_pop hx hb dX8_island_69 rfl ?_
    refine lv_aload hx hb dX8_island_70 (lv_at hl 0 rfl) ?_
    refine g_3_0 hx hb hts (by decide +kernel) hown hw hkq (hts (.fieldLink RX8 84 "Pirateindex$Isle" "number" "I") (by decide +kernel)) dX8_island_72 ?_
    rw [h30.trans hs.2.1.1.symm]
    have hfr9 : c_fr K I R N A K_2 I_3 R_4 N_5 A := c_fr_tr (c_fr_tr (c_fr_n (c_chg_new (n := 0) hz_41)) (c_fr_I (fun f b h => by rw [eI1, m_up2_ni _ _ (by omega), m_up2_ni _ _ (by omega), m_up2_ni _ _ (by omega), m_up2_ni _ _ (by omega), m_up2_ni _ _ (by omega)]))) (c_fr_n (c_chg_hid hh9))
    refine vx_ret ?_
    refine W.widen (k := 5) (n := 54) (by split <;> omega) (by split <;> omega) ?_
    exact W.iret (v := (Z 0)) hx hb hr (fun t ht hW => ⟨⟨(Z 0), (K_2, I_3, R_4, N_5, L_6), rfl, ⟨htz, rfl, hss, hfr9⟩, m_wo_out hw ht hW.alike⟩, m_wo_F hw ht⟩) (m_wo_L hw) dX8_island_75
  · skip
    have htz : t_island Z xx yy tr = 2 := q_isl2 ⟨h1, h2, h3⟩ (by rw [hs.2.1.1]; exact Int32.not_lt.mp c_28)
    obtain ⟨sa, hsa⟩ := hcs.1 (70, "there are 12 islands") (by decide)
    refine vx_throwS (names := ["java/lang/RuntimeException", "java/lang/Exception"]) hx hb hnt hown (by decide) (by decide) (hts (.classLink RX8 68 "java/lang/IllegalStateException") (by decide +kernel)) (hts (.initialized "java/lang/IllegalStateException") (by decide +kernel)) hsa (vx_hat (B := .castable "java/lang/IllegalStateException" "java/lang/IllegalStateException" :: [.declares (Bundle.initS "java/lang/RuntimeException"), .declares (Bundle.initS "java/lang/Exception"), .declares (Bundle.initS Bundle.tN)]) (fun w h => hts w ((by decide +kernel : ∀ w ∈ (vx_atS RX8 72 "java/lang/IllegalStateException" ["java/lang/RuntimeException", "java/lang/Exception"]).filter goodWord, w ∈ wsX8_island) w h)) (by decide +kernel) (vx_c (m_wo_cas hw (by decide)) (c_str_dc hcs))) (by decide +kernel) hw.2.1.1 hw.2.1.2.1 hw.2.2.2.1 (hl.1.trans hml.symm) dX8_island_31 dX8_island_34 dX8_island_35 dX8_island_37 dX8_island_40 (fun x hx9 => absurd (hxt x hx9) id) (Nat.le_of_ble_eq_true rfl) (Nat.le_of_ble_eq_true rfl) (Nat.le_of_ble_eq_true rfl) (Nat.le_of_ble_eq_true rfl) hlocks (fun t hA9 hs9 hq9 => ⟨(), (by rw [htz]; decide), ⟨(by rw [htz]; rfl), m_wo_up hw hA9 hs9 hq9⟩, m_wo_uF hw hs9 hq9⟩) (m_wo_L hw) (Nat.le_of_ble_eq_true rfl) (Nat.le_of_ble_eq_true rfl)
