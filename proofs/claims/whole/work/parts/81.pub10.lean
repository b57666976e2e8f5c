theorem q_dg1 {Z : mZ} {M : mM} {v : Int32} (h : ¬ o_shp Z v = true) : t_dig Z M v = 1 := if_neg h
theorem q_dg2 {Z : mZ} {M : mM} {v : Int32} (h : o_shp Z v = true) (h2 : o_digs Z M v.toNatClampNeg = false) : t_dig Z M v = 2 := (if_pos h).trans (if_neg (by rw [h2]; decide))
theorem q_dg0 {Z : mZ} {M : mM} {v : Int32} (h : o_shp Z v = true) (h2 : o_digs Z M v.toNatClampNeg = true) : t_dig Z M v = 0 := (if_pos h).trans (if_pos h2)
theorem q_dig {K : Nat → Nat} {I I2 : Nat → Nat → Int32} {R : Nat → Nat → Option Nat} {N : Nat → Nat} {A : Nat → Nat → Int32} {L : Nat → List Nat} {T : Nat → List Int32} {x : Nat} {cd : Nat → Nat} {Z : mZ} {M : mM} {i a is9 : Nat} (hs : c_sim K I R N A L T x cd Z M) (h9 : ∀ j, ¬ M 9 j = -1) (ha : (L (cd 5))[i]? = some a) (h71 : R 71 a = some is9) (hst : (L (cd 0))[(M 18 i).toNatClampNeg]? = some is9) (eI : I2 = m_up2 (m_up2 (m_up2 I 34 is9 0) 72 a (I 72 a + I 33 is9)) 74 a 1) : c_sim K I2 R N A L T x cd Z (p_dig M i) := by
  have hel1 := q_el1 hs
  have hel7 := q_el7 hs
  have hel0 := q_el0 hs
  obtain ⟨hok, hi, hf, hr, hsh, hfl, hty, hca, hcp⟩ := hs
  obtain ⟨t, ht⟩ : ∃ t, t = (M 18 i).toNatClampNeg := ⟨_, rfl⟩
  rw [← ht] at hst
  have hl0 := hi.2.1
  have ki : K is9 = 3 := hel0 is9 (List.mem_of_getElem? hst)
  have ka : K a = 7 := hel7 a (List.mem_of_getElem? ha)
  have hI : ∀ f b, ¬ (f = 34 ∧ b = is9) → ¬ (f = 72 ∧ b = a) → ¬ (f = 74 ∧ b = a) → I2 f b = I f b := fun f b h1 h2 h3 => by
    rw [eI]
    exact (if_neg h3).trans ((if_neg h2).trans (if_neg h1))
  have hc : c_chg K I R N K I2 R N (fun f b => (f = 34 ∧ b = is9) ∨ ((f = 72 ∨ f = 74) ∧ b = a)) c_no := fun b _ _ => ⟨rfl, rfl, fun f _ h => hI f b (fun z => h (Or.inl z)) (fun z => h (Or.inr ⟨Or.inl z.1, z.2⟩)) (fun z => h (Or.inr ⟨Or.inr z.1, z.2⟩)), fun _ _ _ _ => rfl, fun h => h⟩
  have i34 : I2 34 is9 = 0 := by rw [eI, m_up2_ni _ _ (by decide), m_up2_ni _ _ (by decide), m_up2_self]
  have i74 : I2 74 a = 1 := by rw [eI, m_up2_self]
  have i72 : I2 72 a = I 72 a + I 33 is9 := by rw [eI, m_up2_ni _ _ (by decide), m_up2_self]
  have mM : ∀ j, j ≠ 10 → j ≠ 21 → j ≠ 19 → p_dig M i j = M j := fun j b c d => by
    unfold p_dig
    rw [m1_n _ _ d, m1_n _ _ c, m1_n _ _ b]
  have mI : ∀ j k, j = 21 ∨ j = 19 → k ≠ i → p_dig M i j k = M j k := fun j k hj hk => by
    unfold p_dig m1 upd
    rcases hj with h | h <;> subst h <;> simp [hk]
  have m10 : ∀ k, p_dig M i 10 k = if k = t then 1 else M 10 k := fun k => by
    unfold p_dig m1 upd
    simp [← ht]
  have m21 : p_dig M i 21 i = M 9 t := by
    unfold p_dig m1 upd
    simp [← ht]
  have m19 : p_dig M i 19 i = M 19 i + M 9 t := by
    unfold p_dig m1 upd
    simp [← ht]
  refine ⟨hok, ⟨hi.1, hi.2.1, fun j b hb => ?_⟩, q_fnd_t hf hc (fun f b z => by rcases z with ⟨z, -⟩ | ⟨z | z, -⟩ <;> rw [z] <;> decide) (fun _ _ z => absurd z id) (fun b _ => hI 50 b (fun z => absurd z.1 (by decide)) (fun z => absurd z.1 (by decide)) (fun z => absurd z.1 (by decide))) rfl (fun _ z => ⟨rfl, z⟩) rfl rfl (mM 11 (by decide) (by decide) (by decide)) (mM 12 (by decide) (by decide) (by decide)) (mM 13 (by decide) (by decide) (by decide)) (mM 14 (by decide) (by decide) (by decide)) (mM 15 (by decide) (by decide) (by decide)) (mM 16 (by decide) (by decide) (by decide)), q_row_t hr hel1 hc (fun f b z => by rcases z with ⟨z, -⟩ | ⟨z | z, -⟩ <;> rw [z] <;> decide) (fun _ _ z => absurd z id) rfl rfl, q_shf_t hok hsh hel1 hc (fun f b z => by rcases z with ⟨z, -⟩ | ⟨z | z, -⟩ <;> rw [z] <;> decide) (fun _ _ z => absurd z id) rfl rfl (fun _ _ _ _ => rfl) rfl rfl rfl (mM 17 (by decide) (by decide) (by decide)), ⟨hfl.1, hfl.2.1, hfl.2.2.1, fun s b hb => ?_, hfl.2.2.2.2.1, hfl.2.2.2.2.2⟩, q_typ_t hty hc (fun z => by rcases z with ⟨z, -⟩ | ⟨z | z, -⟩ <;> exact absurd z (by decide)) (fun _ _ z => absurd z id) rfl rfl rfl (mM 25 (by decide) (by decide) (by decide)) (mM 26 (by decide) (by decide) (by decide)), q_cau_t hca rfl rfl (mM 32 (by decide) (by decide) (by decide)), hcp⟩
  · obtain ⟨k, b1, b2, b3, b4, b5⟩ := hi.2.2 j b hb
    have kb : b ≠ a := fun z => by rw [z, ka] at k; exact absurd k (by decide)
    have e : ∀ f, f ≠ 34 → I2 f b = I f b := fun f h => hI f b (fun z => h z.1) (fun z => kb z.2) (fun z => kb z.2)
    rw [mM 7 (by decide) (by decide) (by decide), mM 8 (by decide) (by decide) (by decide), mM 9 (by decide) (by decide) (by decide), m10 j]
    refine ⟨k, (e 30 (by decide)).trans b1, (e 31 (by decide)).trans b2, (e 32 (by decide)).trans b3, (e 33 (by decide)).trans b4, ?_⟩
    by_cases hj : j = t
    · rw [hj] at hb ⊢
      obtain rfl : is9 = b := Option.some.inj (hst.symm.trans hb)
      rw [i34, if_pos rfl]
      rfl
    · have hne : b ≠ is9 := fun z => hj (by
        have c1 := (hi.2.2 t is9 hst).2.1
        rw [z] at b1
        have l1 := (List.getElem?_eq_some_iff.mp hb).1
        have l2 := (List.getElem?_eq_some_iff.mp hst).1
        exact (nI_eq (by omega) (by omega)).mp (b1.symm.trans c1))
      rw [if_neg hj, hI 34 b (fun z => hne z.2) (fun z => kb z.2) (fun z => kb z.2)]
      exact b5
  · by_cases hsi : s = i
    · rw [hsi] at hb ⊢
      obtain rfl : a = b := Option.some.inj (ha.symm.trans hb)
      obtain ⟨ph, w9, d9, n, is8, came, b1, b2, b3, b4, b5, b6, b7, b8, b9, b10, b11, b12, b13, b14, b15, b16, b17⟩ := hfl.2.2.2.1 i a ha
      have kp := b2.1
      have h33 := (hi.2.2 t is9 hst).2.2.2.2.1
      refine ⟨ph, w9, d9, n, is8, came, b1, c_ph_t b2 hc (fun z => by rcases z with ⟨z, -⟩ | ⟨z | z, -⟩ <;> exact absurd z (by decide)) (fun _ z => absurd z id) rfl, b3, ?_⟩
      rw [mM 18 (by decide) (by decide) (by decide), mM 22 (by decide) (by decide) (by decide), mM 23 (by decide) (by decide) (by decide), mM 24 (by decide) (by decide) (by decide), mM 20 (by decide) (by decide) (by decide), mM 9 (by decide) (by decide) (by decide), m21, m19, i74, i72, h33, b10, ← ht]
      exact ⟨by rw [ht]; exact b4, b5, b6, b7, b8, Or.inr rfl, rfl, b11, b12, b13, b14, b15, b16, fun z => ⟨(b17 z).1, (b17 z).2.1, (if_neg (h9 t)).symm, Or.inr rfl⟩⟩
    · have hba : b ≠ a := fun z => hsi (c_nd hfl.2.2.1 (by rw [← z]; exact hb) ha)
      have hE9 : ∀ f, ((f = 34 ∧ b = is9) ∨ ((f = 72 ∨ f = 74) ∧ b = a)) → f ∉ [72, 74] := fun f z => z.elim (fun z => by rw [z.1]; decide) (fun z => absurd z.2 hba)
      have h3 := q_shp_t (M' := M) (L' := L) (A' := A) (hfl.2.2.2.1 s b hb) hc hE9 (fun _ _ z => by rcases z with ⟨z, -⟩ | ⟨z | z, -⟩ <;> exact absurd z (by decide)) (fun _ _ z => absurd z id) (fun _ _ _ _ => rfl) (fun _ _ h => h) hok.2.2.2.2.2.2.2.2.2.2.2.2.2.2.2.2.2.2.2.2.2.2.2.1 hok.2.2.2.2.2.2.2.2.2.2.2.2.2.2.2.2.2.2.2.2.2.2.2.2.1 (fun _ _ => rfl) rfl rfl rfl rfl rfl rfl rfl
      exact q_shp_M h3 (by rw [mM 9 (by decide) (by decide) (by decide)]) (by rw [mM 18 (by decide) (by decide) (by decide)]) (mI 19 s (Or.inr rfl) hsi) (by rw [mM 20 (by decide) (by decide) (by decide)]) (mI 21 s (Or.inl rfl) hsi) (by rw [mM 22 (by decide) (by decide) (by decide)]) (fun k _ => by rw [mM 23 (by decide) (by decide) (by decide)]) (fun k _ => by rw [mM 24 (by decide) (by decide) (by decide)])
set_option maxHeartbeats 400000 in
set_option maxRecDepth 100000 in
theorem c_X8_dig (l : Launch) (hnt : l.stackTraces = false) {G : mG} {K : Nat → Nat} {I : Nat → Nat → Int32} {R : Nat → Nat → Option Nat} {F : Nat → UInt32} {A : Nat → Nat → Int32} {N : Nat → Nat} {L : Nat → List Nat} {T : Nat → List Int32} {J : Nat → Nat → Int64} {D : Nat → Nat → UInt64} {o : Nat} {cd : Nat → Nat} {Z : Nat → Int32} {M : Nat → Nat → Int32} {nn : Int32} (hs : c_sim K I R N A L T o cd Z M) (hlt : ∀ s, o_still Z M s < 2 ^ 31) (h9 : ∀ j, ¬ M 9 j = -1) : vx_Met l yX8_dig wsX8_dig ({ frames := 10, cells := 2, slots := 12, locals := 340 } : Room) (va_Pc [.ref o, .int nn] (fun U => m_B G K I R F A N L T J D U ∧ c_str U)) (va_Qi (fun (r : Int32) (u : (Nat → Nat → Int32) × (Nat → Nat → Int32)) => t_dig Z M nn = 0 ∧ r = M 9 (M 18 nn.toNatClampNeg).toNatClampNeg ∧ c_sim K u.1 R N u.2 L T o cd Z (p_dig M nn.toNatClampNeg) ∧ c_fr K I R N A K u.1 R N u.2) (fun u : (Nat → Nat → Int32) × (Nat → Nat → Int32) => m_B G K (u.1) R F (u.2) N L T J D) (m_A G)) (vx_X (fun (u : Nat → Nat → Int32) => ¬ t_dig Z M nn = 0 ∧ c_sim K I R N u L T o cd Z M ∧ c_fr K I R N A K I R N u) (fun E (u : Nat → Nat → Int32) t => E = (if t_dig Z M nn = 1 then "java/lang/IndexOutOfBoundsException" else "java/lang/UnsupportedOperationException") ∧ m_B G K I R F u N L T J D t) (m_A G)) 2 12 (m_A G) := by
  refine vx_ofW (cc := cX8_dig) (maxL := 3) (ret := (some .int)) (by decide) rfl ?_
  intro p e s m args below meth c s₁ B hml hxt hv
  obtain ⟨rfl, hB, hcs⟩ := hv
  have hx := B.exec
  have hb := B.bytes
  have hr := B.returns
  have hts := atoms_spec (ws := wsX8_dig) B.pre
  have hown : s.vm.findClass RX8 = some m.cls := findClass_of_methodNamed B.named
  have hlocks := B.notSynchronized
  have hw := m_wo_in hB
  have hl := lv_entry ([.ref o, .int nn]) (n := 3) (Nat.le_of_ble_eq_true rfl)
  rw [lg_entry_eq]
  generalize (lg_sl ([.ref o, .int nn]) ++ List.replicate (3 - (lg_sl ([.ref o, .int nn])).length) Slot.unset).toArray = ls at hl ⊢
  have hl : lv_has ls 3 [(0, .ref o), (1, .int nn)] := hl
  have hok := hs.1
  have hel0 := q_el0 hs
  have hel1 := q_el1 hs
  have hel5 := q_el5 hs
  have hel7 := q_el7 hs
  have hel9 := q_el9 hs
  have hrw := q_rw hs
  refine lv_aload_n hx hb dX8_dig_0 rfl (lv_at hl 0 rfl) ?_
  refine lv_iload_n hx hb dX8_dig_1 rfl (lv_at hl 1 rfl) ?_
  refine m_xq (vx_runV (As := [.int nn]) (rest := []) ⟨hx, hb, hml, hown, hts⟩ (c_X8_shipOf l hnt hok hel7) (cwV 1 hts gX8_dig_X8_shipOf rfl rfl rfl (by decide +kernel) ⟨Nat.le_of_ble_eq_true rfl, Nat.le_of_ble_eq_true rfl⟩) ⟨m_blind (fun U g mk a h => ⟨m_B_calling U g mk a h.1, c_str_calling U g mk a h.2⟩), m_recv hw (m_ent_9 hok.1) rfl, fun U hU hW => ⟨rfl, m_wo_call hw hU hW, c_str_warm hW hcs⟩⟩ rfl rfl hl.1 rfl (lv_room (Nat.le_of_ble_eq_true rfl)) dX8_dig_2 ⟨Nat.le_of_ble_eq_true rfl, Nat.le_of_ble_eq_true rfl⟩) hw (fun E_ ce_ q9_ u_2x H locs hpx hw hce hcv hcl => ?_) (fun r_2 u_2 H locs hp_2 hw => ?_)
  · skip
    obtain ⟨hpx, rfl⟩ := hpx
    exact vx_out (fun x hx9 => absurd (hxt x hx9) id) hlocks hce hcv hcl (fun t ht9 hA9 => ⟨A, ⟨by rw [(q_dg1 (fun z => hpx ((q_shp_nm hs nn).mp z)))]; decide, hs, c_fr_rf⟩, ⟨(by rw [(q_dg1 (fun z => hpx ((q_shp_nm hs nn).mp z)))]; rfl), m_wo_out hw ht9 hA9⟩, m_wo_F hw ht9⟩) (m_wo_L hw) (Nat.le_of_ble_eq_true rfl) (Nat.le_of_ble_eq_true rfl)
  obtain ⟨i, ai, rfl, hi31, ha, rfl⟩ := hp_2
  have hi : i < (L (cd 5)).length := (List.getElem?_eq_some_iff.mp ha).1
  have hka := hel7 ai (List.mem_of_getElem? ha)
  have hv := (q_shp_nm hs (nI i)).mpr ⟨i, hi, rfl⟩
  obtain ⟨ph, w9, d9, n, is9, came, h70, hph, h71, hst, hst9, h73, hcm, hk7, h74, h72, hn, hwd, hgp, np, nw, nd, hkp⟩ := hs.2.2.2.2.2.1.2.2.2.1 i ai ha
  have hkis : K is9 = 3 := hel0 is9 (List.mem_of_getElem? hst)
  have hkph := hph.1
  have hcl : (nI i).toNatClampNeg = i := nI_clamp hi31
  have hil := hs.2.1.2.2 _ is9 hst
  have h18 : nI (M 18 i).toNatClampNeg = M 18 i := by obtain ⟨j, hj, e⟩ := hst9; rw [e, nI_clamp (by omega)]
  have hp42 : I 42 ph = nI n := hph.2.2.2.2.2.2.2.1
  have hn4 : n ≤ 4 := hph.2.2.2.2.2.2.2.2.1
  refine lv_astore_n (lv' := [(2, .ref ai), (0, .ref o), (1, .int (nI i))]) hx hb dX8_dig_5 rfl hl (by decide) rfl (fun ls hl => ?_)
  refine lv_aload_n hx hb dX8_dig_6 rfl (lv_at hl 0 rfl) ?_
  refine g_7_0 (r := some ph) hx hb hts (by decide +kernel) hown hw hka (hts (.fieldLink RX8 280 "Pirateindex$Ship" "map" "LPirateindex$Phrase;") (by decide +kernel)) h70 dX8_dig_7 ?_
  refine m_ci (va_runV (As := []) (rest := []) ⟨hx, hb, hml, hown, hts⟩ (c_X3_isEmpty l hkph) (cwV 0 hts gX8_dig_X3_isEmpty rfl rfl rfl (by decide +kernel) ⟨Nat.le_of_ble_eq_true rfl, Nat.le_of_ble_eq_true rfl⟩) ⟨m_blind m_B_calling, m_recv hw (m_ent_4 hkph) rfl, fun U hU hW => ⟨rfl, m_wo_call hw hU hW⟩⟩ rfl rfl hl.1 rfl (lv_room (Nat.le_of_ble_eq_true rfl)) dX8_dig_10 ⟨Nat.le_of_ble_eq_true rfl, Nat.le_of_ble_eq_true rfl⟩) hw (fun r_10 u_10 H locs hp_10 hw => ?_)
  obtain rfl : r_10 = b2i (decide (I 42 ph = 0)) := hp_10
  refine lv_if_eq (tgt := 27) hx hb dX8_dig_13 (by decide) (fun c_13 => ?_) (fun c_13 => ?_)
  · skip
    have hq := of_decide_eq_false ((b2i_eq _).mp c_13)
    have hn0 : n ≠ 0 := fun z => hq (by rw [hp42, z]; rfl)
    have h22 : 0 < M 22 i := by rw [hn]; exact q_pos (by omega) (fun z => hq (hp42.trans z))
    refine lv_aload_n hx hb dX8_dig_27 rfl (lv_at hl 0 rfl) ?_
    refine g_7_1 (r := some is9) hx hb hts (by decide +kernel) hown hw hka (hts (.fieldLink RX8 245 "Pirateindex$Ship" "where" "LPirateindex$Isle;") (by decide +kernel)) h71 dX8_dig_28 ?_
    refine g_3_4 hx hb hts (by decide +kernel) hown hw hkis (hts (.fieldLink RX8 285 "Pirateindex$Isle" "treasureThere" "Z") (by decide +kernel)) dX8_dig_31 ?_
    rw [hil.2.2.2.2.2]
    refine lv_if_ne (tgt := 48) hx hb dX8_dig_34 (by decide) (fun c_34 => ?_) (fun c_34 => ?_)
    · skip
      have hq2 : M 10 (M 18 i).toNatClampNeg = 0 := Classical.byContradiction (fun z => c_34 (if_neg z))
      refine lv_aload_n hx hb dX8_dig_48 rfl (lv_at hl 1 rfl) ?_
      refine lv_aload_n hx hb dX8_dig_49 rfl (lv_at hl 0 rfl) ?_
      refine g_7_0 (r := some ph) hx hb hts (by decide +kernel) hown hw hka (hts (.fieldLink RX8 280 "Pirateindex$Ship" "map" "LPirateindex$Phrase;") (by decide +kernel)) h70 dX8_dig_50 ?_
      refine lv_aload_n hx hb dX8_dig_53 rfl (lv_at hl 0 rfl) ?_
      refine g_7_1 (r := some is9) hx hb hts (by decide +kernel) hown hw hka (hts (.fieldLink RX8 245 "Pirateindex$Ship" "where" "LPirateindex$Isle;") (by decide +kernel)) h71 dX8_dig_54 ?_
      refine m_ci (va_runV (As := [.ref ph, .ref is9]) (rest := []) ⟨hx, hb, hml, hown, hts⟩ (c_X8_isHit l hok hkis hph hrw) (cwV 2 hts gX8_dig_X8_isHit rfl rfl rfl (by decide +kernel) ⟨Nat.le_of_ble_eq_true rfl, Nat.le_of_ble_eq_true rfl⟩) ⟨m_blind m_B_calling, m_recv hw (m_ent_9 hok.1) rfl, fun U hU hW => ⟨rfl, m_wo_call hw hU hW⟩⟩ rfl rfl hl.1 rfl (lv_room (Nat.le_of_ble_eq_true rfl)) dX8_dig_57 ⟨Nat.le_of_ble_eq_true rfl, Nat.le_of_ble_eq_true rfl⟩) hw (fun r_57 u_57 H locs hp_57 hw => ?_)
      have hw : m_wo G K I R F u_57 N L T J D s H locs := hw
      obtain ⟨hA1, hr1⟩ := hp_57
      rw [hil.2.1, h18, q_hitK hs hn hn0 hn4 hwd hgp] at hr1
      have hq9 : decide (0 < nI (o_hitsOn (o_askK (Z, M) i).1 (o_askK (Z, M) i).2 (M 18 i))) = decide (0 < o_still Z M i) := decide_eq_decide.mpr (nI_ltI (a := 0) (b := o_still Z M i) (by decide) (hlt _))
      rw [hq9] at hr1
      obtain rfl : r_57 = b2i (decide (0 < o_still Z M i)) := hr1
      have hs1 : c_sim K I R N u_57 L T o cd Z M := c_sim_scr hs c_chg_rf (fun _ _ => rfl) (fun b h1 h2 _ => hA1 b h1 h2) hs.2.2.2.2.2.2.2.2
      refine lv_if_ne (tgt := 74) hx hb dX8_dig_60 (by decide) (fun c_60 => ?_) (fun c_60 => ?_)
      · skip
        have hq3 := of_decide_eq_true ((b2i_ne _).mp c_60)
        have htz : t_dig Z M (nI i) = 0 := q_dg0 hv (by rw [hcl]; unfold o_digs; rw [decide_eq_true h22, decide_eq_true hq2, decide_eq_true hq3]; rfl)
        refine lv_aload_n hx hb dX8_dig_74 rfl (lv_at hl 0 rfl) ?_
        refine m_ci (va_runV (As := []) (rest := []) ⟨hx, hb, hml, hown, hts⟩ (c_X6_takeTreasure l hka h71 hkis) (cwV 0 hts gX8_dig_X6_takeTreasure rfl rfl rfl (by decide +kernel) ⟨Nat.le_of_ble_eq_true rfl, Nat.le_of_ble_eq_true rfl⟩) ⟨m_blind m_B_calling, m_recv hw (m_ent_7 hka) rfl, fun U hU hW => ⟨rfl, m_wo_call hw hU hW⟩⟩ rfl rfl hl.1 rfl (lv_room (Nat.le_of_ble_eq_true rfl)) dX8_dig_75 ⟨Nat.le_of_ble_eq_true rfl, Nat.le_of_ble_eq_true rfl⟩) hw (fun r_75 u_75 H locs hp_75 hw => ?_)
        have hw : m_wo G K u_75 R F u_57 N L T J D s H locs := hw
        obtain ⟨hr2, eI2⟩ := hp_75
        have hss := q_dig hs1 h9 (i := i) ha h71 hst eI2
        obtain rfl : r_75 = M 9 (M 18 i).toNatClampNeg := hr2.trans hil.2.2.2.2.1
        have hfr9 : c_fr K I R N A K u_75 R N u_57 := c_fr_tr (c_fr_A2 hok hA1) (c_fr_I (fun f b h => by rw [eI2, m_up2_ni _ _ (by omega), m_up2_ni _ _ (by omega), m_up2_ni _ _ (by omega)]))
        refine vx_ret ?_
        refine W.widen (k := 2) (n := 12) (by omega) (by omega) ?_
        exact W.iret (v := (M 9 (M 18 i).toNatClampNeg)) hx hb hr (fun t ht hW => ⟨⟨(M 9 (M 18 i).toNatClampNeg), (u_75, u_57), rfl, ⟨htz, by rw [hcl], by rw [hcl]; exact hss, hfr9⟩, m_wo_out hw ht hW.alike⟩, m_wo_F hw ht⟩) (m_wo_L hw) dX8_dig_78
      · skip
        have hq3 := of_decide_eq_false ((b2i_eq _).mp c_60)
        have htz : t_dig Z M (nI i) = 2 := q_dg2 hv (by rw [hcl]; unfold o_digs; rw [decide_eq_false hq3, Bool.and_false, Bool.and_false])
        obtain ⟨sa, hsa⟩ := hcs.1 (291, "the island is no hit any more") (by decide)
        refine vx_throwSW (names := ["java/lang/RuntimeException", "java/lang/Exception"]) hx hb hnt hown (by decide) (by decide) (hts (.classLink RX8 128 "java/lang/UnsupportedOperationException") (by decide +kernel)) (hts (.initialized "java/lang/UnsupportedOperationException") (by decide +kernel)) hsa (vx_hat (B := .castable "java/lang/UnsupportedOperationException" "java/lang/UnsupportedOperationException" :: [.declares (Bundle.initS "java/lang/RuntimeException"), .declares (Bundle.initS "java/lang/Exception"), .declares (Bundle.initS Bundle.tN)]) (fun w h => hts w ((by decide +kernel : ∀ w ∈ (vx_atS RX8 132 "java/lang/UnsupportedOperationException" ["java/lang/RuntimeException", "java/lang/Exception"]).filter goodWord, w ∈ wsX8_dig) w h)) (by decide +kernel) (vx_c (m_wo_cas hw (by decide)) (c_str_dc hcs))) (by decide +kernel) hw.2.1.1 hw.2.1.2.1 hw.2.2.2.1 (hl.1.trans hml.symm) dX8_dig_63 dX8_dig_66 dX8_dig_67 dX8_dig_70 dX8_dig_73 (fun x hx9 => absurd (hxt x hx9) id) (Nat.le_of_ble_eq_true rfl) (Nat.le_of_ble_eq_true rfl) (Nat.le_of_ble_eq_true rfl) (Nat.le_of_ble_eq_true rfl) hlocks (fun t hA9 hs9 hq9 => ⟨u_57, ⟨by rw [htz]; decide, hs1, c_fr_A2 hok hA1⟩, ⟨(by rw [htz]; rfl), m_wo_up hw hA9 hs9 hq9⟩, m_wo_uF hw hs9 hq9⟩) (m_wo_L hw) (Nat.le_of_ble_eq_true rfl) (Nat.le_of_ble_eq_true rfl)
    · skip
      have hq2 : ¬ M 10 (M 18 i).toNatClampNeg = 0 := fun z => by rw [if_pos z] at c_34; exact absurd c_34 (by decide)
      have htz : t_dig Z M (nI i) = 2 := q_dg2 hv (by rw [hcl]; unfold o_digs; rw [decide_eq_false hq2, Bool.false_and, Bool.and_false])
      obtain ⟨sa, hsa⟩ := hcs.1 (289, "the treasure is taken") (by decide)
      refine vx_throwSW (names := ["java/lang/RuntimeException", "java/lang/Exception"]) hx hb hnt hown (by decide) (by decide) (hts (.classLink RX8 128 "java/lang/UnsupportedOperationException") (by decide +kernel)) (hts (.initialized "java/lang/UnsupportedOperationException") (by decide +kernel)) hsa (vx_hat (B := .castable "java/lang/UnsupportedOperationException" "java/lang/UnsupportedOperationException" :: [.declares (Bundle.initS "java/lang/RuntimeException"), .declares (Bundle.initS "java/lang/Exception"), .declares (Bundle.initS Bundle.tN)]) (fun w h => hts w ((by decide +kernel : ∀ w ∈ (vx_atS RX8 132 "java/lang/UnsupportedOperationException" ["java/lang/RuntimeException", "java/lang/Exception"]).filter goodWord, w ∈ wsX8_dig) w h)) (by decide +kernel) (vx_c (m_wo_cas hw (by decide)) (c_str_dc hcs))) (by decide +kernel) hw.2.1.1 hw.2.1.2.1 hw.2.2.2.1 (hl.1.trans hml.symm) dX8_dig_37 dX8_dig_40 dX8_dig_41 dX8_dig_44 dX8_dig_47 (fun x hx9 => absurd (hxt x hx9) id) (Nat.le_of_ble_eq_true rfl) (Nat.le_of_ble_eq_true rfl) (Nat.le_of_ble_eq_true rfl) (Nat.le_of_ble_eq_true rfl) hlocks (fun t hA9 hs9 hq9 => ⟨A, ⟨by rw [htz]; decide, hs, c_fr_rf⟩, ⟨(by rw [htz]; rfl), m_wo_up hw hA9 hs9 hq9⟩, m_wo_uF hw hs9 hq9⟩) (m_wo_L hw) (Nat.le_of_ble_eq_true rfl) (Nat.le_of_ble_eq_true rfl)
  · skip
    have hq := of_decide_eq_true ((b2i_ne _).mp c_13)
    have htz : t_dig Z M (nI i) = 2 := q_dg2 hv (by rw [hcl]; unfold o_digs; rw [decide_eq_false (show ¬ 0 < M 22 i from by rw [hn, ← hp42, hq]; decide)]; rfl)
    obtain ⟨sa, hsa⟩ := hcs.1 (283, "the ship did not come by a map") (by decide)
    refine vx_throwSW (names := ["java/lang/RuntimeException", "java/lang/Exception"]) hx hb hnt hown (by decide) (by decide) (hts (.classLink RX8 128 "java/lang/UnsupportedOperationException") (by decide +kernel)) (hts (.initialized "java/lang/UnsupportedOperationException") (by decide +kernel)) hsa (vx_hat (B := .castable "java/lang/UnsupportedOperationException" "java/lang/UnsupportedOperationException" :: [.declares (Bundle.initS "java/lang/RuntimeException"), .declares (Bundle.initS "java/lang/Exception"), .declares (Bundle.initS Bundle.tN)]) (fun w h => hts w ((by decide +kernel : ∀ w ∈ (vx_atS RX8 132 "java/lang/UnsupportedOperationException" ["java/lang/RuntimeException", "java/lang/Exception"]).filter goodWord, w ∈ wsX8_dig) w h)) (by decide +kernel) (vx_c (m_wo_cas hw (by decide)) (c_str_dc hcs))) (by decide +kernel) hw.2.1.1 hw.2.1.2.1 hw.2.2.2.1 (hl.1.trans hml.symm) dX8_dig_16 dX8_dig_19 dX8_dig_20 dX8_dig_23 dX8_dig_26 (fun x hx9 => absurd (hxt x hx9) id) (Nat.le_of_ble_eq_true rfl) (Nat.le_of_ble_eq_true rfl) (Nat.le_of_ble_eq_true rfl) (Nat.le_of_ble_eq_true rfl) hlocks (fun t hA9 hs9 hq9 => ⟨A, ⟨by rw [htz]; decide, hs, c_fr_rf⟩, ⟨(by rw [htz]; rfl), m_wo_up hw hA9 hs9 hq9⟩, m_wo_uF hw hs9 hq9⟩) (m_wo_L hw) (Nat.le_of_ble_eq_true rfl) (Nat.le_of_ble_eq_true rfl)
