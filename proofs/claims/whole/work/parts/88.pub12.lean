theorem c_lost16 {I : Nat → Nat → Int32} {R : Nat → Nat → Option Nat} {a : Nat} (h : c_lost I R a = true) : I 16 a = 0 := by
  unfold c_lost at h
  rw [Bool.and_eq_true, decide_eq_true_eq] at h
  exact h.2
theorem c_cap252 {n c c5 : Nat} (hc : c5 ≤ c ∧ (c ≤ c5 ∨ c ≤ 252)) (hn : n ≤ 120) : c5 ≤ c + m_dc n c ∧ (c + m_dc n c ≤ c5 ∨ c + m_dc n c ≤ 252) := by
  unfold m_dc
  split
  · rename_i h
    subst h
    have h1 := m_nc_gt n
    have h2 := m_nc_120 hn
    omega
  · omega
set_option maxHeartbeats 400000 in
set_option maxRecDepth 100000 in
theorem c_X8_storm (l : Launch) (hnt : l.stackTraces = false) {G : mG} {K : Nat → Nat} {I : Nat → Nat → Int32} {R : Nat → Nat → Option Nat} {F : Nat → UInt32} {A : Nat → Nat → Int32} {N : Nat → Nat} {L : Nat → List Nat} {T : Nat → List Int32} {J : Nat → Nat → Int64} {D : Nat → Nat → UInt64} {o : Nat} {cd : Nat → Nat} {Z : Nat → Int32} {M : Nat → Nat → Int32} {nn : Int32} (hs : c_sim K I R N A L T o cd Z M) : vx_Met l yX8_storm wsX8_storm ({ frames := 9, cells := 2, slots := 12, locals := 300 } : Room) (va_Pc [.ref o, .int nn] (fun U => m_B G K I R F A N L T J D U ∧ c_str U)) (va_Qi (fun (r : Int32) (u : (Nat → Nat → Int32) × (Nat → Nat → Option Nat) × (Nat → List Nat)) => t_storm Z M nn = 0 ∧ r = nI (o_lost (p_storm (Z, M) nn).1 (p_storm (Z, M) nn).2) ∧ c_sim K u.1 u.2.1 N A u.2.2 T o cd (p_storm (Z, M) nn).1 (p_storm (Z, M) nn).2 ∧ c_fr K I R N A K u.1 u.2.1 N A) (fun u : (Nat → Nat → Int32) × (Nat → Nat → Option Nat) × (Nat → List Nat) => m_B G K (u.1) (u.2.1) F A N (u.2.2) T J D) (m_A G)) (vx_X (fun (u : Unit) => ¬ t_storm Z M nn = 0) (fun E (u : Unit) t => E = (if t_storm Z M nn = 1 then "java/util/NoSuchElementException" else "java/lang/UnsupportedOperationException") ∧ m_B G K I R F A N L T J D t) (m_A G)) 2 12 (m_A G) := by
  refine vx_ofW (cc := cX8_storm) (maxL := 3) (ret := (some .int)) (by decide) rfl ?_
  intro p e s m args below meth c s₁ B hml hxt hv
  obtain ⟨rfl, hB, hcs⟩ := hv
  have hx := B.exec
  have hb := B.bytes
  have hr := B.returns
  have hts := atoms_spec (ws := wsX8_storm) B.pre
  have hown : s.vm.findClass RX8 = some m.cls := findClass_of_methodNamed B.named
  have hlocks := B.notSynchronized
  have hw := m_wo_in hB
  have hl := lv_entry ([.ref o, .int nn]) (n := 3) (Nat.le_of_ble_eq_true rfl)
  rw [lg_entry_eq]
  generalize (lg_sl ([.ref o, .int nn]) ++ List.replicate (3 - (lg_sl ([.ref o, .int nn])).length) Slot.unset).toArray = ls at hl ⊢
  have hl : lv_has ls 3 [(0, .ref o), (1, .int nn)] := hl
  have hok := hs.1
  have hel0 := q_el0 hs
  have hel1 := q_el1 hs
  have hel5 := q_el5 hs
  have hel7 := q_el7 hs
  have hel9 := q_el9 hs
  refine lv_aload_n hx hb dX8_storm_0 rfl (lv_at hl 0 rfl) ?_
  refine lv_iload_n hx hb dX8_storm_1 rfl (lv_at hl 1 rfl) ?_
  refine m_xq (vx_runV (As := [.int nn]) (rest := []) ⟨hx, hb, hml, hown, hts⟩ (c_X8_segmentNumbered l hnt hok hel5) (cwV 1 hts gX8_storm_X8_segmentNumbered rfl rfl rfl (by decide +kernel) ⟨Nat.le_of_ble_eq_true rfl, Nat.le_of_ble_eq_true rfl⟩) ⟨m_blind (fun U g mk a h => ⟨m_B_calling U g mk a h.1, c_str_calling U g mk a h.2⟩), m_recv hw (m_ent_9 hok.1) rfl, fun U hU hW => ⟨rfl, m_wo_call hw hU hW, c_str_warm hW hcs⟩⟩ rfl rfl hl.1 rfl (lv_room (Nat.le_of_ble_eq_true rfl)) dX8_storm_2 ⟨Nat.le_of_ble_eq_true rfl, Nat.le_of_ble_eq_true rfl⟩) hw (fun E_ ce_ q9_ u_2x H locs hpx hw hce hcv hcl => ?_) (fun r_2 u_2 H locs hp_2 hw => ?_)
  · skip
    obtain ⟨hpx, rfl⟩ := hpx
    exact vx_out (fun x hx9 => absurd (hxt x hx9) id) hlocks hce hcv hcl (fun t ht9 hA9 => ⟨(), (by rw [q_storm1 (q_st1 hs hpx)]; decide), ⟨(by rw [q_storm1 (q_st1 hs hpx)]; rfl), m_wo_out hw ht9 hA9⟩, m_wo_F hw ht9⟩) (m_wo_L hw) (Nat.le_of_ble_eq_true rfl) (Nat.le_of_ble_eq_true rfl)
  obtain ⟨hf1, hf2⟩ := hp_2
  obtain ⟨sg, hsg⟩ : ∃ z, r_2 = some z := Option.ne_none_iff_exists'.mp hf2
  have hfd := hf1.symm.trans hsg
  obtain rfl : r_2 = some sg := hsg
  have hm := List.mem_of_find?_eq_some hfd
  have hkg := hel5 sg hm
  obtain ⟨k9, -, -, fl, hfl, hkf, hrf, hncd, hpm⟩ := q_el hs.2.2.2.2.1.2.2.1 sg hm
  have hos := q_st0 hs hfd
  refine lv_astore_n (lv' := [(2, .ref sg), (0, .ref o), (1, .int nn)]) hx hb dX8_storm_5 rfl hl (by decide) rfl (fun ls hl => ?_)
  refine lv_aload_n hx hb dX8_storm_6 rfl (lv_at hl 1 rfl) ?_
  refine lv_aload_n hx hb dX8_storm_7 rfl (lv_at hl 0 rfl) ?_
  refine m_xv (vx_runV (As := [.ref sg]) (rest := []) ⟨hx, hb, hml, hown, hts⟩ (c_X8_requireClosed l hnt hok) (cwV 1 hts gX8_storm_X8_requireClosed rfl rfl rfl (by decide +kernel) ⟨Nat.le_of_ble_eq_true rfl, Nat.le_of_ble_eq_true rfl⟩) ⟨m_blind (fun U g mk a h => ⟨m_B_calling U g mk a h.1, c_str_calling U g mk a h.2⟩), m_recv hw (m_ent_9 hok.1) rfl, fun U hU hW => ⟨rfl, m_wo_call hw hU hW, c_str_warm hW hcs⟩⟩ rfl rfl hl.1 rfl (lv_room (Nat.le_of_ble_eq_true rfl)) dX8_storm_8 ⟨Nat.le_of_ble_eq_true rfl, Nat.le_of_ble_eq_true rfl⟩) hw (fun E_ ce_ q9_ u_8x H locs hpx hw hce hcv hcl => ?_) (fun u_8 H locs hp_8 hw => ?_)
  · skip
    obtain ⟨hpx, rfl⟩ := hpx
    exact vx_out (fun x hx9 => absurd (hxt x hx9) id) hlocks hce hcv hcl (fun t ht9 hA9 => ⟨(), (by rw [q_storm2 hos ((q_isop hs hfd).mp hpx)]; decide), ⟨(by rw [q_storm2 hos ((q_isop hs hfd).mp hpx)]; rfl), m_wo_out hw ht9 hA9⟩, m_wo_F hw ht9⟩) (m_wo_L hw) (Nat.le_of_ble_eq_true rfl) (Nat.le_of_ble_eq_true rfl)
  have hnv : ¬ nn = Z 5 := fun z => hp_8 ((q_isop hs hfd).mpr z)
  refine lv_aload_n hx hb dX8_storm_11 rfl (lv_at hl 1 rfl) ?_
  refine g_9_4 (r := some (cd 4)) hx hb hts (by decide +kernel) hown hw hok.1 (hts (.fieldLink RX8 36 "Pirateindex" "shelf" "LPirateindex$Shelf;") (by decide +kernel)) hok.2.2.2.2.2.1 dX8_storm_12 ?_
  refine lv_aload_n hx hb dX8_storm_15 rfl (lv_at hl 0 rfl) ?_
  refine m_cv (va_runV (As := [.ref sg]) (rest := []) ⟨hx, hb, hml, hown, hts⟩ (c_X5_lose l hok.2.2.2.2.2.2.2.2.2.2.2.2.2.2.1 hok.2.2.2.2.2.2.2.2.2.2.2.2.2.2.2.2.2.2.2.2.2.2.2.2.2.2.1 hok.2.2.2.2.2.2.2.2.2.2.2.2.2.2.2.2.2.2.2.2.1 hel5 hm hfl hkf (fun a ha => hel1 a (List.mem_filter.mp (hpm.mem_iff.mp ha)).1) (hncd 10 (by decide))) (cwV 1 hts gX8_storm_X5_lose rfl rfl rfl (by decide +kernel) ⟨Nat.le_of_ble_eq_true rfl, Nat.le_of_ble_eq_true rfl⟩) ⟨m_blind m_B_calling, m_recv hw (m_ent_6 hok.2.2.2.2.2.2.2.2.2.2.2.2.2.2.1) rfl, fun U hU hW => ⟨rfl, m_wo_call hw hU hW⟩⟩ rfl rfl hl.1 rfl (lv_room (Nat.le_of_ble_eq_true rfl)) dX8_storm_16 ⟨Nat.le_of_ble_eq_true rfl, Nat.le_of_ble_eq_true rfl⟩) hw (fun u_16 H locs hp_16 hw => ?_)
  obtain ⟨I_1, R_2, L_3⟩ := u_16
  have hw : m_wo G K I_1 R_2 F A N L_3 T J D s H locs := hw
  dsimp only at hp_16
  obtain ⟨eI9, eL9, eR9, e159, e15n9⟩ := hp_16
  have hok0 := hok
  have hok : c_ok K R_2 N o cd := c_ok_chg (I := I) (I' := I_1) (K' := K) (N' := N) (EI := c_no) (ER := fun f _ => f = 15) hok0 (fun b _ _ => ⟨rfl, rfl, fun f h1 _ => eI9 f b h1, fun f _ _ h => eR9 f b h, fun h => by rw [eR9 111 b (by decide)]; exact h⟩) (fun f b z => by rw [show f = 15 from z]; rfl)
  have hL19 : L_3 (cd 9) = L (cd 9) := by rw [eL9, m_up_ne _ _ hok0.2.2.2.2.2.2.2.2.2.2.2.2.2.2.2.2.2.2.2.2.2.2.2.2.2.2.2.2.2.2.2.2.2.2.2.2.2.2.2.2.2.2.2.2.2.2.2.2.2.2.2.2.2.2.2.2]
  have hL1f : L_3 fl = L fl := by rw [eL9, m_up_ne _ _ (hncd 10 (by decide))]
  refine lv_aload_n hx hb dX8_storm_19 rfl (lv_at hl 1 rfl) ?_
  refine lv_aload_n hx hb dX8_storm_20 rfl (lv_at hl 0 rfl) ?_
  refine m_cv (va_runV (As := [.ref sg]) (rest := []) ⟨hx, hb, hml, hown, hts⟩ (c_X8_takeFromIndex l hok (fun a ha => hel9 a (by rw [← hL19]; exact ha)) hkg ((eR9 51 sg (by decide)).trans hfl) hkf (fun a ha => hel1 a (List.mem_filter.mp (hpm.mem_iff.mp (by rw [← hL1f]; exact ha))).1) (hncd 9 (by decide))) (cwV 1 hts gX8_storm_X8_takeFromIndex rfl rfl rfl (by decide +kernel) ⟨Nat.le_of_ble_eq_true rfl, Nat.le_of_ble_eq_true rfl⟩) ⟨m_blind m_B_calling, m_recv hw (m_ent_9 hok.1) rfl, fun U hU hW => ⟨rfl, m_wo_call hw hU hW⟩⟩ rfl rfl hl.1 rfl (lv_room (Nat.le_of_ble_eq_true rfl)) dX8_storm_21 ⟨Nat.le_of_ble_eq_true rfl, Nat.le_of_ble_eq_true rfl⟩) hw (fun u_21 H locs hp_21 hw => ?_)
  obtain ⟨I_4, L_5⟩ := u_21
  have hw : m_wo G K I_4 R_2 F A N L_5 T J D s H locs := hw
  dsimp only at hp_21
  obtain ⟨eI8, eL8⟩ := hp_21
  rw [hL1f, hL19, eL9] at eL8
  have eI89 := fun f b h => (eI8 f b h).trans (eI9 f b h)
  have hss := q_storm hs hfd hnv hfl eI89 eL8 eR9 e159 e15n9 (m_cap_le hw hok.2.2.2.2.2.2.2.2.2.2.2.2.2.2.2.2.2.2.1 hok.2.2.2.2.2.2.2.2.2.2.2.2.2.2.2.2.2.2.2.2.2.2.2.2.2.2.2.2.2.2.2.2.2.2.2.2.2.2.1)
  refine lv_aload_n hx hb dX8_storm_24 rfl (lv_at hl 1 rfl) ?_
  refine m_ci (va_runV (As := []) (rest := []) ⟨hx, hb, hml, hown, hts⟩ (c_X8_lostFinds l hss.1 (q_el1 hss)) (cwV 0 hts gX8_storm_X8_lostFinds rfl rfl rfl (by decide +kernel) ⟨Nat.le_of_ble_eq_true rfl, Nat.le_of_ble_eq_true rfl⟩) ⟨m_blind m_B_calling, m_recv hw (m_ent_9 hok.1) rfl, fun U hU hW => ⟨rfl, m_wo_call hw hU hW⟩⟩ rfl rfl hl.1 rfl (lv_room (Nat.le_of_ble_eq_true rfl)) dX8_storm_25 ⟨Nat.le_of_ble_eq_true rfl, Nat.le_of_ble_eq_true rfl⟩) hw (fun r_25 u_25 H locs hp_25 hw => ?_)
  have hfr9 : c_fr K I R N A K I_4 R_2 N A := c_fr_tr (c_fr_I (fun f b h => eI89 f b (by omega))) (c_fr_R (fun f b h => eR9 f b (by omega)))
  refine vx_ret ?_
  exact W.iret (v := r_25) hx hb hr (fun t ht hW => ⟨⟨r_25, (I_4, R_2, L_5), rfl, ⟨q_storm0 hos hnv, hp_25.trans (congrArg nI (q_lost hss)), hss, hfr9⟩, m_wo_out hw ht hW.alike⟩, m_wo_F hw ht⟩) (m_wo_L hw) dX8_storm_28
set_option maxHeartbeats 1600000 in
set_option maxRecDepth 100000 in
theorem c_X8_rebuild (l : Launch) (hnt : l.stackTraces = false) {G : mG} {K : Nat → Nat} {I : Nat → Nat → Int32} {R : Nat → Nat → Option Nat} {F : Nat → UInt32} {A : Nat → Nat → Int32} {N : Nat → Nat} {L : Nat → List Nat} {T : Nat → List Int32} {J : Nat → Nat → Int64} {D : Nat → Nat → UInt64} {o : Nat} {cd : Nat → Nat} {Z : Nat → Int32} {M : Nat → Nat → Int32}  (hs : c_sim K I R N A L T o cd Z M) (h9 : ∀ i, i ≤ (L (cd 1)).length → ¬ (o_reb (Z, M) i).1 5 = -1 → o_size (o_reb (Z, M) i).1 (o_reb (Z, M) i).2 ((o_reb (Z, M) i).1 5) ≤ 9) (h3 : t_rebuild Z M = 0 → ∀ i, i ≤ (L (cd 1)).length → ∃ k, k ≤ 20 ∧ (o_reb (Z, M) i).1 3 = nI k) (h4 : ∀ i, i ≤ (L (cd 1)).length → ∃ m, (o_reb (Z, M) i).1 4 = nI m ∧ m + 1 < 2 ^ 30) : vx_Met l yX8_rebuild wsX8_rebuild ({ frames := 12, cells := 600, slots := 8300, locals := 520 } : Room) (va_Pc [.ref o] (fun U => m_B G K I R F A N L T J D U ∧ c_str U)) (va_Qi (fun (r : Int32) (u : (Nat → Nat) × (Nat → Nat → Int32) × (Nat → Nat → Option Nat) × (Nat → Nat) × (Nat → List Nat)) => t_rebuild Z M = 0 ∧ r = nI (o_lost Z M) ∧ c_sim u.1 u.2.1 u.2.2.1 u.2.2.2.1 A u.2.2.2.2 T o cd (p_rebuild (Z, M)).1 (p_rebuild (Z, M)).2 ∧ c_fr K I R N A u.1 u.2.1 u.2.2.1 u.2.2.2.1 A) (fun u : (Nat → Nat) × (Nat → Nat → Int32) × (Nat → Nat → Option Nat) × (Nat → Nat) × (Nat → List Nat) => m_B G (u.1) (u.2.1) (u.2.2.1) F A (u.2.2.2.1) (u.2.2.2.2) T J D) (m_A G)) (vx_X (fun (u : (Nat → Nat → Int32) × (Nat → Nat → Int32) × (Nat → List Int32)) => ¬ t_rebuild Z M = 0 ∧ c_sim K u.1 R N u.2.1 L u.2.2 o cd (p_rebuild (Z, M)).1 (p_rebuild (Z, M)).2 ∧ c_fr K I R N A K u.1 R N u.2.1) (fun E (u : (Nat → Nat → Int32) × (Nat → Nat → Int32) × (Nat → List Int32)) t => E = "java/lang/IllegalStateException" ∧ m_B G K u.1 R F u.2.1 N L u.2.2 J D t) (m_A G)) 600 8300 (m_A G) := by
  refine vx_ofW (cc := cX8_rebuild) (maxL := 3) (ret := (some .int)) (by decide) rfl ?_
  intro p e s m args below meth c s₁ B hml hxt hv
  obtain ⟨rfl, hB, hcs⟩ := hv
  have hx := B.exec
  have hb := B.bytes
  have hr := B.returns
  have hts := atoms_spec (ws := wsX8_rebuild) B.pre
  have hown : s.vm.findClass RX8 = some m.cls := findClass_of_methodNamed B.named
  have hlocks := B.notSynchronized
  have hw := m_wo_in hB
  have hl := lv_entry ([.ref o]) (n := 3) (Nat.le_of_ble_eq_true rfl)
  rw [lg_entry_eq]
  generalize (lg_sl ([.ref o]) ++ List.replicate (3 - (lg_sl ([.ref o])).length) Slot.unset).toArray = ls at hl ⊢
  have hl : lv_has ls 3 [(0, .ref o)] := hl
  have hok := hs.1
  have hel0 := q_el0 hs
  have hel1 := q_el1 hs
  have hel5 := q_el5 hs
  have hel7 := q_el7 hs
  have hel9 := q_el9 hs
  have hok0 := hok
  obtain ⟨rm, hrm⟩ := q_rbop hs
  have hl120 := hs.2.2.1.2.1
  have h90 : ¬ Z 5 = -1 → o_size Z M (Z 5) ≤ 9 := h9 0 (Nat.zero_le _)
  obtain ⟨c5, hc5⟩ : ∃ z, z = m_cap R N (cd 9) := ⟨_, rfl⟩
  refine lv_aload_n hx hb dX8_rebuild_0 rfl (lv_at hl 0 rfl) ?_
  refine m_ci (va_runV (As := []) (rest := []) ⟨hx, hb, hml, hown, hts⟩ (c_X8_lostFinds l hok hel1) (cwV 0 hts gX8_rebuild_X8_lostFinds rfl rfl rfl (by decide +kernel) ⟨Nat.le_of_ble_eq_true rfl, Nat.le_of_ble_eq_true rfl⟩) ⟨m_blind m_B_calling, m_recv hw (m_ent_9 hok.1) rfl, fun U hU hW => ⟨rfl, m_wo_call hw hU hW⟩⟩ rfl rfl hl.1 rfl (lv_room (Nat.le_of_ble_eq_true rfl)) dX8_rebuild_1 ⟨Nat.le_of_ble_eq_true rfl, Nat.le_of_ble_eq_true rfl⟩) hw (fun r_1 u_1 H locs hp_1 hw => ?_)
  obtain rfl : r_1 = nI (o_lost Z M) := hp_1.trans (congrArg nI (q_lost hs))
  refine lv_istore_n (lv' := [(1, .int (nI (o_lost Z M))), (0, .ref o)]) hx hb dX8_rebuild_4 rfl hl (by decide) rfl (fun ls hl => ?_)
  refine lv_aload_n hx hb dX8_rebuild_5 rfl (lv_at hl 1 rfl) ?_
  refine g_9_4 (r := some (cd 4)) hx hb hts (by decide +kernel) hown hw hok.1 (hts (.fieldLink RX8 36 "Pirateindex" "shelf" "LPirateindex$Shelf;") (by decide +kernel)) hok.2.2.2.2.2.1 dX8_rebuild_6 ?_
  refine lv_iload_n hx hb dX8_rebuild_9 rfl (lv_at hl 0 rfl) ?_
  refine m_ci (va_runV (As := [.int (nI (o_lost Z M))]) (rest := []) ⟨hx, hb, hml, hown, hts⟩ (c_X5_hasRoomFor_s l hok.2.2.2.2.2.2.2.2.2.2.2.2.2.2.1 hok.2.2.2.2.2.2.2.2.2.2.2.2.2.2.2.2.2.2.2.2.2.2.2.2.2.2.1 hok.2.2.2.2.2.2.2.2.2.2.2.2.2.2.2.2.2.2.2.2.1 hel5 hrm) (cwV 1 hts gX8_rebuild_X5_hasRoomFor rfl rfl rfl (by decide +kernel) ⟨Nat.le_of_ble_eq_true rfl, Nat.le_of_ble_eq_true rfl⟩) ⟨m_blind m_B_calling, m_recv hw (m_ent_6 hok.2.2.2.2.2.2.2.2.2.2.2.2.2.2.1) rfl, fun U hU hW => ⟨rfl, m_wo_call hw hU hW⟩⟩ rfl rfl hl.1 rfl (lv_room (Nat.le_of_ble_eq_true rfl)) dX8_rebuild_10 ⟨Nat.le_of_ble_eq_true rfl, Nat.le_of_ble_eq_true rfl⟩) hw (fun r_10 u_10 H locs hp_10 hw => ?_)
  obtain rfl : r_10 = b2i (decide (t_rebuild Z M = 0)) := hp_10.trans (by rw [q_rb hs h90 hrm])
  refine lv_if_ne (tgt := 32) hx hb dX8_rebuild_13 (by decide) (fun c_13 => ?_) (fun c_13 => ?_)
  · skip
    have htz := of_decide_eq_true ((b2i_ne _).mp c_13)
    have hp0 := q_pr0 hs.2.2.1.1 hl120 htz
    refine lv_iconst (v := 0) hx hb dX8_rebuild_32 (by decide) ?_
    refine lv_istore_n (lv' := [(2, .int 0), (1, .int (nI (o_lost Z M))), (0, .ref o)]) hx hb dX8_rebuild_33 rfl hl (by decide) rfl (fun ls hl => ?_)
    refine W.widen (k := 5 * 0) (n := 60 * 0 + 4 * (c5 - c5)) (Nat.zero_le _) (Nat.zero_le _) ?_
    refine m_loopC (σ := Nat × Nat × (Nat → Nat) × (Nat → Nat → Int32) × (Nat → Nat → Option Nat) × (Nat → Nat) × (Nat → List Nat)) (fun a => 5 * (a.1)) (fun a => 60 * (a.1) + 4 * ((a.2.1) - c5)) (fun a => (L (cd 1)).length - (a.1)) (fun a H locs ls => ((a.1) ≤ (L (cd 1)).length ∧ (a.2.2.2.2.2.2) (cd 1) = L (cd 1) ∧ c_sim (a.2.2.1) (a.2.2.2.1) (a.2.2.2.2.1) (a.2.2.2.2.2.1) A (a.2.2.2.2.2.2) T o cd (o_reb (Z, M) (a.1)).1 (o_reb (Z, M) (a.1)).2 ∧ c_fr K I R N A (a.2.2.1) (a.2.2.2.1) (a.2.2.2.2.1) (a.2.2.2.2.2.1) A ∧ m_cap (a.2.2.2.2.1) (a.2.2.2.2.2.1) (cd 9) = (a.2.1) ∧ c5 ≤ (a.2.1) ∧ ((a.2.1) ≤ c5 ∨ (a.2.1) ≤ 252)) ∧ m_wo G (a.2.2.1) (a.2.2.2.1) (a.2.2.2.2.1) F A (a.2.2.2.2.2.1) (a.2.2.2.2.2.2) T J D s H locs ∧ lv_has ls 3 [(0, .ref o), (1, .int (nI (o_lost Z M))), (2, .int (nI (a.1)))]) ?_ (0, c5, K, I, R, N, L) ⟨⟨Nat.zero_le _, rfl, hs, c_fr_rf, hc5.symm, Nat.le_refl _, Or.inl (Nat.le_refl _)⟩, hw, lv_sub hl [2, 1, 0] rfl⟩
    rintro ⟨i, cp, Kc, Ic, Rc, Nc, Lc⟩ H locs ls ⟨hinv, hw, hl⟩ ih
    dsimp only at hinv hw hl
    (try dsimp only)
    obtain ⟨hi0, hLc, hsc, hfr0, hcp1, hcp2⟩ := hinv
    have hok := hsc.1
    have hl9c : (Lc (cd 9)).length ≤ 120 := Nat.le_trans (q_l9 hsc) (by rw [hLc]; exact hl120)
    have hpot := c_pot (Lc (cd 9)).length cp
    have hpo2 := c_cap252 (n := (Lc (cd 9)).length) hcp2 hl9c
    refine lv_iload_n hx hb dX8_rebuild_34 rfl (lv_at hl 2 rfl) ?_
    refine lv_aload_n hx hb dX8_rebuild_35 rfl (lv_at hl 0 rfl) ?_
    refine g_9_1 (r := some (cd 1)) hx hb hts (by decide +kernel) hown hw hok.1 (hts (.fieldLink RX8 16 "Pirateindex" "log" "Ljava/util/ArrayList;") (by decide +kernel)) hok.2.2.1 dX8_rebuild_36 ?_
    refine m_ci (va_runV (As := []) (rest := [.int (nI i)]) ⟨hx, hb, hml, hown, hts⟩ (c_Jx4a65c_size_8abf5 l hok.2.2.2.2.2.2.2.2.2.2.2.1) (cwV 0 hts gX8_rebuild_Jx4a65c_size_8abf5 rfl rfl rfl (by decide +kernel) ⟨Nat.le_of_ble_eq_true rfl, Nat.le_of_ble_eq_true rfl⟩) ⟨m_blind m_B_calling, m_recv hw (m_ent_11 hok.2.2.2.2.2.2.2.2.2.2.2.1) rfl, fun U hU hW => ⟨rfl, m_wo_call hw hU hW⟩⟩ rfl rfl hl.1 rfl (lv_room (Nat.le_of_ble_eq_true rfl)) dX8_rebuild_39 ⟨by show 5 * i + 0 ≤ 600; omega, by show 60 * i + 4 * (cp - c5) + 0 ≤ 8300; omega⟩) hw (fun r_39 u_39 H locs hp_39 hw => ?_)
    obtain rfl : r_39 = nI (L (cd 1)).length := hp_39.trans (congrArg (fun z => nI (List.length z)) hLc)
    refine lv_icmp_ge (tgt := 83) hx hb dX8_rebuild_42 (by decide) (fun c_42 => ?_) (fun c_42 => ?_)
    · skip
      rw [nI_leI (by omega) (by omega)] at c_42
      have hi : i = (L (cd 1)).length := by omega
      refine lv_iload_n hx hb dX8_rebuild_83 rfl (lv_at hl 1 rfl) ?_
      refine vx_ret ?_
      refine W.widen (k := 600) (n := 8300) (by omega) (by omega) ?_
      exact W.iret (v := (nI (o_lost Z M))) hx hb hr (fun t ht hW => ⟨⟨(nI (o_lost Z M)), (Kc, Ic, Rc, Nc, Lc), rfl, ⟨htz, rfl, by rw [hp0, ← hi]; exact hsc, hfr0⟩, m_wo_out hw ht hW.alike⟩, m_wo_F hw ht⟩) (m_wo_L hw) dX8_rebuild_84
    · skip
      rw [nI_leI (by omega) (by omega)] at c_42
      have hi : i < (L (cd 1)).length := by omega
      refine lv_aload_n hx hb dX8_rebuild_45 rfl (lv_at hl 0 rfl) ?_
      refine g_9_1 (r := some (cd 1)) hx hb hts (by decide +kernel) hown hw hok.1 (hts (.fieldLink RX8 16 "Pirateindex" "log" "Ljava/util/ArrayList;") (by decide +kernel)) hok.2.2.1 dX8_rebuild_46 ?_
      refine lv_iload_n hx hb dX8_rebuild_49 rfl (lv_at hl 2 rfl) ?_
      obtain ⟨ai, ha⟩ : ∃ z, (Lc (cd 1))[i]? = some z := ⟨_, lg_some (by rw [hLc]; exact hi)⟩
      have hka := q_el1 hsc ai (List.mem_of_getElem? ha)
      refine m_cq (va_runV (As := [.int (nI i)]) (rest := []) ⟨hx, hb, hml, hown, hts⟩ (c_Jx4a65c_get_915e3 l (i := i) hok.2.2.2.2.2.2.2.2.2.2.2.1 (by rw [hLc]; exact hi)) (cwV 1 hts gX8_rebuild_Jx4a65c_get_915e3 rfl rfl rfl (by decide +kernel) ⟨Nat.le_of_ble_eq_true rfl, Nat.le_of_ble_eq_true rfl⟩) ⟨m_blind m_B_calling, m_recv hw (m_ent_11 hok.2.2.2.2.2.2.2.2.2.2.2.1) rfl, fun U hU hW => ⟨rfl, m_wo_call hw hU hW⟩⟩ rfl rfl hl.1 rfl (lv_room (Nat.le_of_ble_eq_true rfl)) dX8_rebuild_50 ⟨by show 5 * i + 0 ≤ 600; omega, by show 60 * i + 4 * (cp - c5) + 0 ≤ 8300; omega⟩) hw (fun r_50 u_50 H locs hp_50 hw => ?_)
      obtain rfl : r_50 = some ai := hp_50.trans ha
      refine va_castS hx hb hown (hts (.classLink RX8 95 "Pirateindex$Find") (by decide +kernel)) (hw.1.1 5 _ rfl).2 (m_recv hw (m_ent_1 hka) rfl) dX8_rebuild_53 ?_
      refine m_ci (va_runV (As := []) (rest := []) ⟨hx, hb, hml, hown, hts⟩ (c_X0_isLost l hka) (cwV 0 hts gX8_rebuild_X0_isLost rfl rfl rfl (by decide +kernel) ⟨Nat.le_of_ble_eq_true rfl, Nat.le_of_ble_eq_true rfl⟩) ⟨m_blind m_B_calling, m_recv hw (m_ent_1 hka) rfl, fun U hU hW => ⟨rfl, m_wo_call hw hU hW⟩⟩ rfl rfl hl.1 rfl (lv_room (Nat.le_of_ble_eq_true rfl)) dX8_rebuild_56 ⟨by show 5 * i + 0 ≤ 600; omega, by show 60 * i + 4 * (cp - c5) + 0 ≤ 8300; omega⟩) hw (fun r_56 u_56 H locs hp_56 hw => ?_)
      obtain rfl : r_56 = b2i (c_lost Ic Rc ai) := hp_56
      refine lv_if_eq (tgt := 77) hx hb dX8_rebuild_59 (by decide) (fun c_59 => ?_) (fun c_59 => ?_)
      · skip
        have hq := (b2i_eq _).mp c_59
        have hD1 := hLc
        have hD2 := hsc
        have hD3 := hfr0
        have hD4 := hcp1
        have hD5 := hcp2
        rw [← q_rbF hsc ha hq] at hD2
        refine lv_iinc (v := nI (i + 1)) (lv' := [(2, .int (nI (i + 1))), (0, .ref o), (1, .int (nI (o_lost Z M)))]) hx hb dX8_rebuild_77 hl (k := 2) rfl (nI_1 _) (by decide) rfl (fun ls hl => ?_)
        refine lv_goto (tgt := 34) hx hb dX8_rebuild_80 (by decide) ?_
        refine W.widen (k := 5 * (i + 1)) (n := 60 * (i + 1) + 4 * (cp - c5)) (by omega) (by omega) ?_
        exact ih (i + 1, cp, Kc, Ic, Rc, Nc, Lc) _ _ _ (by dsimp only; omega) ⟨⟨by omega, hD1, hD2, hD3, hD4, hD5⟩, hw, lv_sub hl [1, 2, 0] rfl⟩
      · skip
        have hq := (b2i_ne _).mp c_59
        obtain ⟨hrb, h15⟩ := q_rbT hsc ha hq
        have h16 := c_lost16 hq
        rcases hop : Rc 61 (cd 4) with _ | sg
        · skip
          obtain ⟨k3, hk3, hk33⟩ := h3 htz (i + 1) (by omega)
          rw [hrb, q_puts3 (q_opn0 hsc hop), hsc.2.2.2.2.1.1, nI_1] at hk33
          have h20 : (Lc (cd 10)).length < 20 := by have h8 := hsc.2.2.2.2.1.2.1; have h7 := (nI_eq (by omega) (by omega)).mp hk33; omega
          refine lv_aload_n hx hb dX8_rebuild_62 rfl (lv_at hl 0 rfl) ?_
          refine lv_aload_n hx hb dX8_rebuild_63 rfl (lv_at hl 0 rfl) ?_
          refine g_9_1 (r := some (cd 1)) hx hb hts (by decide +kernel) hown hw hok.1 (hts (.fieldLink RX8 16 "Pirateindex" "log" "Ljava/util/ArrayList;") (by decide +kernel)) hok.2.2.1 dX8_rebuild_64 ?_
          refine lv_iload_n hx hb dX8_rebuild_67 rfl (lv_at hl 2 rfl) ?_
          refine m_cq (va_runV (As := [.int (nI i)]) (rest := [.ref o]) ⟨hx, hb, hml, hown, hts⟩ (c_Jx4a65c_get_915e3 l (i := i) hok.2.2.2.2.2.2.2.2.2.2.2.1 (by rw [hLc]; exact hi)) (cwV 1 hts gX8_rebuild_Jx4a65c_get_915e3 rfl rfl rfl (by decide +kernel) ⟨Nat.le_of_ble_eq_true rfl, Nat.le_of_ble_eq_true rfl⟩) ⟨m_blind m_B_calling, m_recv hw (m_ent_11 hok.2.2.2.2.2.2.2.2.2.2.2.1) rfl, fun U hU hW => ⟨rfl, m_wo_call hw hU hW⟩⟩ rfl rfl hl.1 rfl (lv_room (Nat.le_of_ble_eq_true rfl)) dX8_rebuild_68 ⟨by show 5 * i + 0 ≤ 600; omega, by show 60 * i + 4 * (cp - c5) + 0 ≤ 8300; omega⟩) hw (fun r_68 u_68 H locs hp_68 hw => ?_)
          obtain rfl : r_68 = some ai := hp_68.trans ha
          refine va_castS hx hb hown (hts (.classLink RX8 95 "Pirateindex$Find") (by decide +kernel)) (hw.1.1 5 _ rfl).2 (m_recv hw (m_ent_1 hka) rfl) dX8_rebuild_71 ?_
          refine m_cv (va_runV (As := [.ref ai]) (rest := []) ⟨hx, hb, hml, hown, hts⟩ (c_X8_store_n l hok (q_el9 hsc) hka hl9c hop (q_el5 hsc) (by omega)) (cwV 1 hts gX8_rebuild_X8_store rfl rfl rfl (by decide +kernel) ⟨Nat.le_of_ble_eq_true rfl, Nat.le_of_ble_eq_true rfl⟩) ⟨m_blind m_B_calling, m_recv hw (m_ent_9 hok.1) rfl, fun U hU hW => ⟨rfl, m_wo_call hw hU hW⟩⟩ rfl rfl hl.1 rfl (lv_room (Nat.le_of_ble_eq_true rfl)) dX8_rebuild_74 ⟨by show 5 * i + 5 ≤ 600; omega, by show 60 * i + 4 * (cp - c5) + (60 + (if _ then _ else _)) ≤ 8300; rw [hcp1]; omega⟩) hw (fun u_74 H locs hp_74 hw => ?_)
          obtain ⟨K_1, I_2, R_3, N_4, L_5⟩ := u_74
          have hw : m_wo G K_1 I_2 R_3 F A N_4 L_5 T J D s H locs := hw
          dsimp only at hp_74
          obtain ⟨sg, fl, hnw, hsf, hc9, ks9, kf9, e51, e111, e50, e62, e15, e61, hcapn, k9, hk9, eL3, hlt2, hlt3⟩ := hp_74
          have hok2 := c_ok_chg hsc.1 hc9 (fun f b z => by rcases z with ⟨z, -⟩ | ⟨z, -⟩ <;> rw [z] <;> rfl)
          have hD2 := q_put_n hsc ha h15 hop h20 (h4 i (by omega)) hc9 hnw ks9 kf9 e51 e111 e50 e62 e15 e61 h16 hk9 hlt2 hlt3 eL3 (m_cap_le hw hok2.2.2.2.2.2.2.2.2.2.2.2.2.2.2.2.2.2.2.1 hok2.2.2.2.2.2.2.2.2.2.2.2.2.2.2.2.2.2.2.2.2.2.2.2.2.2.2.2.2.2.2.2.2.2.2.2.2.2.2.1)
          have hD1 : L_5 (cd 1) = L (cd 1) := by rw [eL3, m_up_ne _ _ hok.2.2.2.2.2.2.2.2.2.2.2.2.2.2.2.2.2.2.2.2.2.2.2.2.2.2.2.2.2.2.2.2.2.2.2.2.2.2.2.2.2.2.2.2.2.2.2.2.2.1, m_up_ne _ _ (hnw _ (by rw [hok.2.2.2.2.2.2.2.2.2.2.2.1]; decide) (by rw [hok.2.2.2.2.2.2.2.2.2.2.2.1]; decide)).2, m_up_ne _ _ hok.2.2.2.2.2.2.2.2.2.2.2.2.2.2.2.2.2.2.2.2.2.2.2.2.2.2.2.2.2.2.2.2.2.2.2.2.2.2.2.2.2.2.2.2.2.2.2.2.2.2.1]; exact hLc
          have hD4 : m_cap R_3 N_4 (cd 9) = cp + m_dc (Lc (cd 9)).length cp := by rw [hcapn, hcp1]
          have hD5 := hpo2
          have hD3 := c_fr_tr hfr0 (c_fr_c (A := A) hc9 (fun f b z => by omega) (fun f b z => by omega))
          rw [← hrb] at hD2
          refine lv_iinc (v := nI (i + 1)) (lv' := [(2, .int (nI (i + 1))), (0, .ref o), (1, .int (nI (o_lost Z M)))]) hx hb dX8_rebuild_77 hl (k := 2) rfl (nI_1 _) (by decide) rfl (fun ls hl => ?_)
          refine lv_goto (tgt := 34) hx hb dX8_rebuild_80 (by decide) ?_
          refine W.widen (k := 5 * (i + 1)) (n := 60 * (i + 1) + 4 * ((cp + m_dc (Lc (cd 9)).length cp) - c5)) (by omega) (by rw [hcp1]; omega) ?_
          exact ih (i + 1, (cp + m_dc (Lc (cd 9)).length cp), K_1, I_2, R_3, N_4, L_5) _ _ _ (by dsimp only; omega) ⟨⟨by omega, hD1, hD2, hD3, hD4, hD5⟩, hw, lv_sub hl [1, 2, 0] rfl⟩
        · skip
          obtain ⟨fl, hksg, hfl, hkf, hrf, helf, h9l, hncd⟩ := q_op9 hsc hop (h9 i (by omega))
          refine lv_aload_n hx hb dX8_rebuild_62 rfl (lv_at hl 0 rfl) ?_
          refine lv_aload_n hx hb dX8_rebuild_63 rfl (lv_at hl 0 rfl) ?_
          refine g_9_1 (r := some (cd 1)) hx hb hts (by decide +kernel) hown hw hok.1 (hts (.fieldLink RX8 16 "Pirateindex" "log" "Ljava/util/ArrayList;") (by decide +kernel)) hok.2.2.1 dX8_rebuild_64 ?_
          refine lv_iload_n hx hb dX8_rebuild_67 rfl (lv_at hl 2 rfl) ?_
          refine m_cq (va_runV (As := [.int (nI i)]) (rest := [.ref o]) ⟨hx, hb, hml, hown, hts⟩ (c_Jx4a65c_get_915e3 l (i := i) hok.2.2.2.2.2.2.2.2.2.2.2.1 (by rw [hLc]; exact hi)) (cwV 1 hts gX8_rebuild_Jx4a65c_get_915e3 rfl rfl rfl (by decide +kernel) ⟨Nat.le_of_ble_eq_true rfl, Nat.le_of_ble_eq_true rfl⟩) ⟨m_blind m_B_calling, m_recv hw (m_ent_11 hok.2.2.2.2.2.2.2.2.2.2.2.1) rfl, fun U hU hW => ⟨rfl, m_wo_call hw hU hW⟩⟩ rfl rfl hl.1 rfl (lv_room (Nat.le_of_ble_eq_true rfl)) dX8_rebuild_68 ⟨by show 5 * i + 0 ≤ 600; omega, by show 60 * i + 4 * (cp - c5) + 0 ≤ 8300; omega⟩) hw (fun r_68 u_68 H locs hp_68 hw => ?_)
          obtain rfl : r_68 = some ai := hp_68.trans ha
          refine va_castS hx hb hown (hts (.classLink RX8 95 "Pirateindex$Find") (by decide +kernel)) (hw.1.1 5 _ rfl).2 (m_recv hw (m_ent_1 hka) rfl) dX8_rebuild_71 ?_
          refine m_cv (va_runV (As := [.ref ai]) (rest := []) ⟨hx, hb, hml, hown, hts⟩ (c_X8_store_o l hok (q_el9 hsc) hka hl9c hop hksg hfl hkf hrf helf (by omega) (hncd 9 (by decide))) (cwV 1 hts gX8_rebuild_X8_store rfl rfl rfl (by decide +kernel) ⟨Nat.le_of_ble_eq_true rfl, Nat.le_of_ble_eq_true rfl⟩) ⟨m_blind m_B_calling, m_recv hw (m_ent_9 hok.1) rfl, fun U hU hW => ⟨rfl, m_wo_call hw hU hW⟩⟩ rfl rfl hl.1 rfl (lv_room (Nat.le_of_ble_eq_true rfl)) dX8_rebuild_74 ⟨by show 5 * i + 5 ≤ 600; omega, by show 60 * i + 4 * (cp - c5) + (60 + (if _ then _ else _)) ≤ 8300; rw [hcp1]; omega⟩) hw (fun u_74 H locs hp_74 hw => ?_)
          obtain ⟨K_6, I_7, R_8, N_9, L_10⟩ := u_74
          have hw : m_wo G K_6 I_7 R_8 F A N_9 L_10 T J D s H locs := hw
          dsimp only at hp_74
          obtain ⟨hc9, e15, e61, hcapn, k9, hk9, eL3, hlt2, hlt3⟩ := hp_74
          have hok2 := c_ok_chg hsc.1 hc9 (fun f b z => by rcases z with ⟨z, -⟩ | ⟨z, -⟩ <;> rw [z] <;> rfl)
          have hD2 := q_put_o hsc ha h15 hop hfl h9l hc9 e15 e61 h16 hk9 hlt2 hlt3 eL3 (m_cap_le hw hok2.2.2.2.2.2.2.2.2.2.2.2.2.2.2.2.2.2.2.1 hok2.2.2.2.2.2.2.2.2.2.2.2.2.2.2.2.2.2.2.2.2.2.2.2.2.2.2.2.2.2.2.2.2.2.2.2.2.2.2.1)
          have hD1 : L_10 (cd 1) = L (cd 1) := by rw [eL3, m_up_ne _ _ hok.2.2.2.2.2.2.2.2.2.2.2.2.2.2.2.2.2.2.2.2.2.2.2.2.2.2.2.2.2.2.2.2.2.2.2.2.2.2.2.2.2.2.2.2.2.2.2.2.2.1, m_up_ne _ _ (Ne.symm (hncd 1 (by decide)))]; exact hLc
          have hD4 : m_cap R_8 N_9 (cd 9) = cp + m_dc (Lc (cd 9)).length cp := by rw [hcapn, hcp1]
          have hD5 := hpo2
          have hD3 := c_fr_tr hfr0 (c_fr_c (A := A) hc9 (fun _ _ z => absurd z id) (fun f b z => by omega))
          rw [← hrb] at hD2
          refine lv_iinc (v := nI (i + 1)) (lv' := [(2, .int (nI (i + 1))), (0, .ref o), (1, .int (nI (o_lost Z M)))]) hx hb dX8_rebuild_77 hl (k := 2) rfl (nI_1 _) (by decide) rfl (fun ls hl => ?_)
          refine lv_goto (tgt := 34) hx hb dX8_rebuild_80 (by decide) ?_
          refine W.widen (k := 5 * (i + 1)) (n := 60 * (i + 1) + 4 * ((cp + m_dc (Lc (cd 9)).length cp) - c5)) (by omega) (by rw [hcp1]; omega) ?_
          exact ih (i + 1, (cp + m_dc (Lc (cd 9)).length cp), K_6, I_7, R_8, N_9, L_10) _ _ _ (by dsimp only; omega) ⟨⟨by omega, hD1, hD2, hD3, hD4, hD5⟩, hw, lv_sub hl [1, 2, 0] rfl⟩
  · skip
    have htn := of_decide_eq_false ((b2i_eq _).mp c_13)
    obtain ⟨hp1, ht1⟩ := q_pr1 htn
    refine lv_aload_n hx hb dX8_rebuild_16 rfl (lv_at hl 1 rfl) ?_
    refine lv_bipush (v := 102) hx hb dX8_rebuild_17 (by decide) ?_
    refine m_cv (va_runV (As := [.int 102]) (rest := []) ⟨hx, hb, hml, hown, hts⟩ (c_X8_leaveCause l (ch := 102) hok (by decide)) (cwV 1 hts gX8_rebuild_X8_leaveCause rfl rfl rfl (by decide +kernel) ⟨Nat.le_of_ble_eq_true rfl, Nat.le_of_ble_eq_true rfl⟩) ⟨m_blind m_B_calling, m_recv hw (m_ent_9 hok.1) rfl, fun U hU hW => ⟨rfl, m_wo_call hw hU hW⟩⟩ rfl rfl hl.1 rfl (lv_room (Nat.le_of_ble_eq_true rfl)) dX8_rebuild_19 ⟨Nat.le_of_ble_eq_true rfl, Nat.le_of_ble_eq_true rfl⟩) hw (fun u_19 H locs hp_19 hw => ?_)
    obtain ⟨I_11, A_12, T_13⟩ := u_19
    have hw : m_wo G K I_11 R F A_12 N L T_13 J D s H locs := hw
    dsimp only at hp_19
    obtain ⟨hI9, hA9, eT9⟩ := hp_19
    have hsC := q_cause1 (ch := 102) hs hI9 hA9 eT9
    have hfC : c_fr K I R N A K I_11 R N A_12 := c_fr_tr (c_fr_I (fun f b h => hI9 f b (by omega))) (c_fr_A (fun b _ _ _ _ h => hA9 b h))
    obtain ⟨sa, hsa⟩ := hcs.1 (192, "more than 20 segments") (by decide)
    refine vx_throwS (names := ["java/lang/RuntimeException", "java/lang/Exception"]) hx hb hnt hown (by decide) (by decide) (hts (.classLink RX8 68 "java/lang/IllegalStateException") (by decide +kernel)) (hts (.initialized "java/lang/IllegalStateException") (by decide +kernel)) hsa (vx_hat (B := .castable "java/lang/IllegalStateException" "java/lang/IllegalStateException" :: [.declares (Bundle.initS "java/lang/RuntimeException"), .declares (Bundle.initS "java/lang/Exception"), .declares (Bundle.initS Bundle.tN)]) (fun w h => hts w ((by decide +kernel : ∀ w ∈ (vx_atS RX8 72 "java/lang/IllegalStateException" ["java/lang/RuntimeException", "java/lang/Exception"]).filter goodWord, w ∈ wsX8_rebuild) w h)) (by decide +kernel) (vx_c (m_wo_cas hw (by decide)) (c_str_dc hcs))) (by decide +kernel) hw.2.1.1 hw.2.1.2.1 hw.2.2.2.1 (hl.1.trans hml.symm) dX8_rebuild_22 dX8_rebuild_25 dX8_rebuild_26 dX8_rebuild_28 dX8_rebuild_31 (fun x hx9 => absurd (hxt x hx9) id) (Nat.le_of_ble_eq_true rfl) (Nat.le_of_ble_eq_true rfl) (Nat.le_of_ble_eq_true rfl) (Nat.le_of_ble_eq_true rfl) hlocks (fun t hA9 hs9 hq9 => ⟨(I_11, A_12, T_13), ⟨htn, by rw [hp1]; exact hsC, hfC⟩, ⟨rfl, m_wo_up hw hA9 hs9 hq9⟩, m_wo_uF hw hs9 hq9⟩) (m_wo_L hw) (Nat.le_of_ble_eq_true rfl) (Nat.le_of_ble_eq_true rfl)
