theorem c_newr {K : Nat → Nat} {I : Nat → Nat → Int32} {R : Nat → Nat → Option Nat} {N : Nat → Nat} {K' : Nat → Nat} {I' : Nat → Nat → Int32} {R' : Nat → Nat → Option Nat} {N' : Nat → Nat} {o lr sg fl e : Nat} {v0 v1 : Int32} (hzs : K sg = 0) (hzf : m_up K sg 5 fl = 0) (hh : m_hid lr (m_up (m_up K sg 5) fl 11) (m_up2 (m_up2 (m_up2 I 50 sg v0) 110 fl 0) 62 o v1) (m_up2 (m_up2 R 111 fl (some e)) 51 sg (some fl)) N K' I' R' N') (hnl : fl ≠ lr) :
    c_chg K I R N K' I' R' N' (fun f b => f = 62 ∧ b = o) c_no ∧ K' sg = 5 ∧ K' fl = 11 ∧ R' 51 sg = some fl ∧ R' 111 fl ≠ none ∧ I' 50 sg = v0 ∧ I' 62 o = v1 ∧ sg ≠ fl := by
  have hsf : sg ≠ fl := fun z => by rw [← z, m_up_self] at hzf; exact absurd hzf (by decide)
  have hzf0 : K fl = 0 := (m_up_ne _ _ (Ne.symm hsf)).symm.trans hzf
  refine ⟨fun b h0 h4 => ?_, m_hid_k hh (m_up_k hzf (m_up_self _ _ _) (by decide)) (by decide) (by decide), m_hid_k hh (m_up_self _ _ _) (by decide) (by decide), (hh.2.2.2.1 51 sg (by decide) (by decide)).trans (m_up2_self _ _ _ _), ?_, ?_, (hh.2.2.1 62 o (by decide)).trans (m_up2_self _ _ _ _), hsf⟩
  · have hbs : b ≠ sg := fun z => h0 (by rw [z]; exact hzs)
    have hbf : b ≠ fl := fun z => h0 (by rw [z]; exact hzf0)
    have ek : m_up (m_up K sg 5) fl 11 b = K b := (m_up_ne _ _ hbf).trans (m_up_ne _ _ hbs)
    refine ⟨(hh.1 b (by rw [ek]; exact h0) (by rw [ek]; exact h4)).trans ek, hh.2.2.2.2.1 b (Or.inr (by rw [ek]; exact h0)), fun f h1 h2 => ?_, fun f h1 h2 _ => ?_, fun h9 => ?_⟩
    · rw [hh.2.2.1 f b h1]
      have e1 : m_up2 (m_up2 (m_up2 I 50 sg v0) 110 fl 0) 62 o v1 f b = m_up2 (m_up2 I 50 sg v0) 110 fl 0 f b := if_neg h2
      rw [e1, m_up2_ne _ _ hbf, m_up2_ne _ _ hbs]
    · rw [hh.2.2.2.1 f b h1 h2, m_up2_ne _ _ hbs, m_up2_ne _ _ hbf]
    · by_cases hb : b = lr
      · rw [hb]; exact hh.2.2.2.2.2.2
      · rw [hh.2.2.2.2.2.1 b hb, m_up2_ne _ _ hbs, m_up2_ne _ _ hbf]; exact h9
  · rw [hh.2.2.2.2.2.1 fl hnl, m_up2_ni _ _ (by decide), m_up2_self]
    simp
  · rw [hh.2.2.1 50 sg (by decide), m_up2_ni _ _ (by decide), m_up2_ni _ _ (by decide), m_up2_self]
theorem c_nd {l : List Nat} (h : l.Nodup) {i j a : Nat} (hi : l[i]? = some a) (hj : l[j]? = some a) : i = j := by
  have h1 := (List.getElem?_eq_some_iff.mp hi)
  have h2 := (List.getElem?_eq_some_iff.mp hj)
  obtain ⟨a1, b1⟩ := h1
  obtain ⟨a2, b2⟩ := h2
  have hp := List.pairwise_iff_getElem.mp h
  rcases Nat.lt_trichotomy i j with h3 | h3 | h3
  · exact absurd (b1.trans b2.symm) (hp i j a1 a2 h3)
  · exact h3
  · exact absurd (b2.trans b1.symm) (hp j i a2 a1 h3)
theorem c_lup (L : Nat → List Nat) (lr fl : Nat) (x y z v : List Nat) : m_up (m_up (m_up (m_up L lr x) lr y) lr z) fl v = m_up (m_up L lr z) fl v := by
  funext b
  unfold m_up
  by_cases h : b = fl
  · simp [h]
  · by_cases h2 : b = lr <;> simp [h, h2]
theorem c_pot (n c : Nat) : (if n = c then m_nc n else 0) ≤ 4 * m_dc n c := by
  unfold m_dc
  split
  · exact m_nc_4 n
  · omega
theorem c_capb {n c i : Nat} (hc : c ≤ 10 + 2 * i) (hn : n ≤ i) : c + m_dc n c ≤ 10 + 2 * (i + 1) := by
  unfold m_dc
  split
  · rename_i h
    subst h
    have := m_nc_gt n
    have h2 : m_nc n ≤ 10 + 2 * (n + 1) := by
      unfold m_nc
      split
      · omega
      · have : max 1 (n / 2) ≤ n + 1 := Nat.max_le.mpr ⟨by omega, by omega⟩
        omega
    omega
  · omega
set_option maxHeartbeats 1600000 in
set_option maxRecDepth 100000 in
theorem c_X5_unite (l : Launch) {G : mG} {K : Nat → Nat} {I : Nat → Nat → Int32} {R : Nat → Nat → Option Nat} {F : Nat → UInt32} {A : Nat → Nat → Int32} {N : Nat → Nat} {L : Nat → List Nat} {T : Nat → List Int32} {J : Nat → Nat → Int64} {D : Nat → Nat → UInt64} {o lr : Nat} {one other lg : Nat} (hko : K o = 6) (hrow : R 60 o = some lr) (hlr : K lr = 11) (hel : ∀ a, a ∈ L lr → K a = 5) (hr1 : R 111 lr ≠ none) (h1m : one ∈ L lr) (h2m : other ∈ L lr) (hne : other ≠ one) (hlg : K lg = 11) (hll : lg ≠ lr) (hel1 : ∀ a, a ∈ L lg → K a = 1) (hnd : (L lg).Nodup) (hlg120 : (L lg).length ≤ 120) (hr20 : (L lr).length ≤ 20) : Met l yX5_unite wsX5_unite ({ frames := 9, cells := 130, slots := 1100, locals := 380 } : Room) (va_Pc [.ref o, .ref one, .ref other, .ref lg] (m_B G K I R F A N L T J D)) (va_Qq (fun (r : Option Nat) (u : (Nat → Nat) × (Nat → Nat → Int32) × (Nat → Nat → Option Nat) × (Nat → Nat) × (Nat → List Nat)) => ∃ sg fl, r = some sg ∧ K sg = 0 ∧ K fl = 0 ∧ sg ≠ fl ∧ c_chg K I R N u.1 u.2.1 u.2.2.1 u.2.2.2.1 (fun f b => f = 62 ∧ b = o) (fun f _ => f = 15) ∧ u.1 sg = 5 ∧ u.1 fl = 11 ∧ u.2.2.1 51 sg = some fl ∧ u.2.2.1 111 fl ≠ none ∧ u.2.1 50 sg = I 62 o ∧ u.2.1 62 o = I 62 o + 1 ∧ (∀ a, a ∈ L lg → u.2.2.1 15 a = if (fun a => decide (R 15 a = some one) || decide (R 15 a = some other)) a = true then some sg else R 15 a) ∧ u.2.2.2.2 = m_up (m_up L lr (((L lr).erase one).erase other ++ [sg])) fl ((L lg).filter (fun a => decide (R 15 a = some one) || decide (R 15 a = some other)))) (fun u : (Nat → Nat) × (Nat → Nat → Int32) × (Nat → Nat → Option Nat) × (Nat → Nat) × (Nat → List Nat) => m_B G (u.1) (u.2.1) (u.2.2.1) F A (u.2.2.2.1) (u.2.2.2.2) T J D) (m_A G)) 130 1100 (m_A G) := by
  refine Met.ofW (cc := cX5_unite) (maxL := 7) (ret := (some (.object "Pirateindex$Segment"))) (by decide) rfl ?_
  intro p e s m args below meth c s₁ B hml hv
  obtain ⟨rfl, hB⟩ := hv
  have hx := B.exec
  have hb := B.bytes
  have hr := B.returns
  have hts := atoms_spec (ws := wsX5_unite) B.pre
  have hown : s.vm.findClass RX5 = some m.cls := findClass_of_methodNamed B.named
  have hlocks := B.notSynchronized
  have hw := m_wo_in hB
  have hl := lv_entry ([.ref o, .ref one, .ref other, .ref lg]) (n := 7) (Nat.le_of_ble_eq_true rfl)
  rw [lg_entry_eq]
  generalize (lg_sl ([.ref o, .ref one, .ref other, .ref lg]) ++ List.replicate (7 - (lg_sl ([.ref o, .ref one, .ref other, .ref lg])).length) Slot.unset).toArray = ls at hl ⊢
  have hl : lv_has ls 7 [(0, .ref o), (1, .ref one), (2, .ref other), (3, .ref lg)] := hl
  have hlen := m_len hw hlr
  have hlr0 := hlr
  have hlg0 := hlg
  refine lv_aload_n hx hb dX5_unite_0 rfl (lv_at hl 0 rfl) ?_
  refine lv_aload_n hx hb dX5_unite_1 rfl (lv_at hl 1 rfl) ?_
  refine m_cv (va_runV (As := [.ref one]) (rest := []) ⟨hx, hb, hml, hown, hts⟩ (c_X5_takeOff l hko hrow hlr hel h1m) (cwV 1 hts gX5_unite_X5_takeOff rfl rfl rfl (by decide +kernel) ⟨Nat.le_of_ble_eq_true rfl, Nat.le_of_ble_eq_true rfl⟩) ⟨m_blind m_B_calling, m_recv hw (m_ent_6 hko) rfl, fun U hU hW => ⟨rfl, m_wo_call hw hU hW⟩⟩ rfl rfl hl.1 rfl (lv_room (Nat.le_of_ble_eq_true rfl)) dX5_unite_2 ⟨Nat.le_of_ble_eq_true rfl, Nat.le_of_ble_eq_true rfl⟩) hw (fun u_2 H locs hp_2 hw => ?_)
  obtain ⟨I_1, L_2⟩ := u_2
  have hw : m_wo G K I_1 R F A N L_2 T J D s H locs := hw
  dsimp only at hp_2
  obtain ⟨hI1, hL1⟩ := hp_2
  have eL1 : L_2 lr = (L lr).erase one := by rw [hL1]; exact m_up_self _ _ _
  have hel2 : ∀ a, a ∈ L_2 lr → K a = 5 := fun a ha => hel a (List.mem_of_mem_erase (by rw [← eL1]; exact ha))
  have h2m2 : other ∈ L_2 lr := by rw [eL1]; exact (List.mem_erase_of_ne hne).mpr h2m
  refine lv_aload_n hx hb dX5_unite_5 rfl (lv_at hl 0 rfl) ?_
  refine lv_aload_n hx hb dX5_unite_6 rfl (lv_at hl 2 rfl) ?_
  refine m_cv (va_runV (As := [.ref other]) (rest := []) ⟨hx, hb, hml, hown, hts⟩ (c_X5_takeOff l hko hrow hlr hel2 h2m2) (cwV 1 hts gX5_unite_X5_takeOff rfl rfl rfl (by decide +kernel) ⟨Nat.le_of_ble_eq_true rfl, Nat.le_of_ble_eq_true rfl⟩) ⟨m_blind m_B_calling, m_recv hw (m_ent_6 hko) rfl, fun U hU hW => ⟨rfl, m_wo_call hw hU hW⟩⟩ rfl rfl hl.1 rfl (lv_room (Nat.le_of_ble_eq_true rfl)) dX5_unite_7 ⟨Nat.le_of_ble_eq_true rfl, Nat.le_of_ble_eq_true rfl⟩) hw (fun u_7 H locs hp_7 hw => ?_)
  obtain ⟨I_3, L_4⟩ := u_7
  have hw : m_wo G K I_3 R F A N L_4 T J D s H locs := hw
  dsimp only at hp_7
  obtain ⟨hI2, hL2⟩ := hp_7
  have eL2 : L_4 lr = ((L lr).erase one).erase other := by rw [hL2, m_up_self, eL1]
  have hL2n : ∀ b, b ≠ lr → L_4 b = L b := fun b hb => by rw [hL2, m_up_ne _ _ hb, hL1, m_up_ne _ _ hb]
  have hel3 : ∀ a, a ∈ L_4 lr → K a = 5 := fun a ha => hel a (List.mem_of_mem_erase (List.mem_of_mem_erase (by rw [← eL2]; exact ha)))
  have hlen3 : (L_4 lr).length ≤ 20 := by rw [eL2]; exact Nat.le_trans (List.length_erase_le) (Nat.le_trans (List.length_erase_le) hr20)
  have hnc3 := m_nc_20 hlen3
  have hc2 : c_chg K I R N K I_3 R N c_no c_no := c_chg_110 (fun f b hf => (hI2 f b hf).trans (hI1 f b hf))
  refine lv_aload_n hx hb dX5_unite_10 rfl (lv_at hl 0 rfl) ?_
  refine m_cq (va_runV (As := []) (rest := []) ⟨hx, hb, hml, hown, hts⟩ (c_X5_addNext l hko hrow hlr hel3 hr1 (by omega)) (cwV 0 hts gX5_unite_X5_addNext rfl rfl rfl (by decide +kernel) ⟨Nat.le_of_ble_eq_true rfl, Nat.le_of_ble_eq_true rfl⟩) ⟨m_blind m_B_calling, m_recv hw (m_ent_6 hko) rfl, fun U hU hW => ⟨rfl, m_wo_call hw hU hW⟩⟩ rfl rfl hl.1 rfl (lv_room (Nat.le_of_ble_eq_true rfl)) dX5_unite_11 ⟨by show 0 + 0 + 0 + (2 + if _ then _ else _) ≤ 130; split <;> omega, by show 0 + 0 + 0 + (5 + if _ then _ else _) ≤ 1100; split <;> omega⟩) hw (fun r_11 u_11 H locs hp_11 hw => ?_)
  obtain ⟨K_5, I_6, R_7, N_8, L_9⟩ := u_11
  have hw : m_wo G K_5 I_6 R_7 F A N_8 L_9 T J D s H locs := hw
  dsimp only at hp_11
  obtain ⟨sg, fl, R9, hr9, hzs, hzf, hLf, hh3, eR3, eL3⟩ := hp_11
  obtain rfl : r_11 = some sg := hr9
  subst eR3
  have hnl : fl ≠ lr := fun z => by rw [z, m_up_k hzs hlr (by decide)] at hzf; exact absurd hzf (by decide)
  obtain ⟨hc3, hs3, hf3, hr3, hrf3, hi3, hn3, hsf⟩ := c_newr hzs hzf hh3 hnl
  have hc3 := c_chg_tr hc2 hc3
  have hzf0 : K fl = 0 := by rw [← hzf]; exact (m_up_ne _ _ (Ne.symm hsf)).symm
  have hgl : lg ≠ fl := fun z => by rw [z, hzf0] at hlg; exact absurd hlg (by decide)
  have hlg3 : L_9 lg = L lg := by rw [eL3, m_up_ne _ _ hll, hL2n lg hll]
  have hLf3 : L_9 fl = [] := by rw [eL3, m_up_ne _ _ hnl]; exact hLf
  have hcap3 : m_cap R_7 N_8 fl = 0 := m_cap0 hw hf3 (by rw [hh3.2.2.2.2.2.1 fl hnl, m_up2_ni _ _ (by decide), m_up2_self])
  have ho3 : ∀ a, K a = 1 → R_7 15 a = R 15 a := fun a ha => (hc3 a (by rw [ha]; decide) (by rw [ha]; decide)).2.2.2.1 15 (by decide) (by decide) (fun h => h.elim id id)
  have hK1 : ∀ a, K a = 1 → K_5 a = 1 := fun a ha => (hc3 a (by rw [ha]; decide) (by rw [ha]; decide)).1.trans ha
  have hk63 := (hc3 o (by rw [hko]; decide) (by rw [hko]; decide)).1.trans hko
  have hkl3 := (hc3 lg (by rw [hlg]; decide) (by rw [hlg]; decide)).1.trans hlg
  obtain ⟨pr, epr⟩ : ∃ z : Nat → Bool, z = (fun a => decide (R 15 a = some one) || decide (R 15 a = some other)) := ⟨_, rfl⟩
  refine lv_astore (lv' := [(4, .ref sg), (0, .ref o), (1, .ref one), (2, .ref other), (3, .ref lg)]) hx hb dX5_unite_14 hl (by decide) rfl (fun ls hl => ?_)
  refine lv_iconst (v := 0) hx hb dX5_unite_16 (by decide) ?_
  refine lv_istore (lv' := [(5, .int 0), (4, .ref sg), (0, .ref o), (1, .ref one), (2, .ref other), (3, .ref lg)]) hx hb dX5_unite_17 hl (by decide) rfl (fun ls hl => ?_)
  refine W.widen (k := 3 + 0) (n := 36 + 4 * 0) (by split <;> omega) (by split <;> omega) ?_
  refine m_loopC (σ := Nat × Nat × (Nat → Nat) × (Nat → Nat → Int32) × (Nat → Nat → Option Nat) × (Nat → Nat) × (Nat → List Nat)) (fun a => 3 + (a.1)) (fun a => 36 + 4 * (a.2.1)) (fun a => (L lg).length - (a.1)) (fun a H locs ls => ((a.1) ≤ (L lg).length ∧ c_chg K_5 I_6 R_7 N_8 (a.2.2.1) (a.2.2.2.1) (a.2.2.2.2.1) (a.2.2.2.2.2.1) c_no (fun f _ => f = 15) ∧ (∀ (y9 j9 : Nat), (L lg)[j9]? = some y9 → (a.2.2.2.2.1) 15 y9 = if j9 < (a.1) ∧ pr y9 = true then some sg else R_7 15 y9) ∧ (a.2.2.2.2.2.2) = m_up L_9 fl (((L lg).take (a.1)).filter pr) ∧ m_cap (a.2.2.2.2.1) (a.2.2.2.2.2.1) fl = (a.2.1) ∧ (a.2.1) ≤ 10 + 2 * (a.1)) ∧ m_wo G (a.2.2.1) (a.2.2.2.1) (a.2.2.2.2.1) F A (a.2.2.2.2.2.1) (a.2.2.2.2.2.2) T J D s H locs ∧ lv_has ls 7 [(0, .ref o), (1, .ref one), (2, .ref other), (3, .ref lg), (4, .ref sg), (5, .int (nI (a.1)))]) ?_ (0, 0, K_5, I_6, R_7, N_8, L_9) ⟨⟨Nat.zero_le _, c_chg_mono c_chg_rf (fun _ _ h => h) (fun _ _ h => absurd h id), fun a _ _ => rfl, (by rw [List.take_zero, List.filter_nil, ← hLf3]; funext b; unfold m_up; split <;> simp_all), hcap3, Nat.zero_le _⟩, hw, lv_sub hl [2, 3, 4, 5, 1, 0] rfl⟩
  rintro ⟨i, c9, Kc, Ic, Rc, Nc, Lc⟩ H locs ls ⟨hinv, hw, hl⟩ ih
  dsimp only at hinv hw hl
  (try dsimp only)
  obtain ⟨hi0, hcc, hR15, eLc, hcap9, hc9⟩ := hinv
  have hLcg : Lc lg = L lg := by rw [eLc, m_up_ne _ _ hgl]; exact hlg3
  have hLcf : Lc fl = ((L lg).take i).filter pr := by rw [eLc]; exact m_up_self _ _ _
  have hkg := (hcc lg (by rw [hkl3]; decide) (by rw [hkl3]; decide)).1.trans hkl3
  obtain ⟨ks1, ks2, ks3, ks4, ks5⟩ := hcc sg (by rw [hs3]; decide) (by rw [hs3]; decide)
  obtain ⟨kf1, kf2, kf3, kf4, kf5⟩ := hcc fl (by rw [hf3]; decide) (by rw [hf3]; decide)
  have hksg := ks1.trans hs3
  have hkf := kf1.trans hf3
  have hfl := (ks4 51 (by decide) (by decide) (fun h => absurd (show (51 : Nat) = 15 from h) (by decide))).trans hr3
  have hrf := kf5 hrf3
  refine lv_iload hx hb dX5_unite_19 (lv_at hl 5 rfl) ?_
  refine lv_aload_n hx hb dX5_unite_21 rfl (lv_at hl 3 rfl) ?_
  refine m_ci (va_runV (As := []) (rest := [.int (nI i)]) ⟨hx, hb, hml, hown, hts⟩ (c_Jx4a65c_size_8abf5 l hkg) (cwV 0 hts gX5_unite_Jx4a65c_size_8abf5 rfl rfl rfl (by decide +kernel) ⟨Nat.le_of_ble_eq_true rfl, Nat.le_of_ble_eq_true rfl⟩) ⟨m_blind m_B_calling, m_recv hw (m_ent_11 hkg) rfl, fun U hU hW => ⟨rfl, m_wo_call hw hU hW⟩⟩ rfl rfl hl.1 rfl (lv_room (Nat.le_of_ble_eq_true rfl)) dX5_unite_22 ⟨by show 3 + i + 0 ≤ 130; omega, by show 36 + 4 * c9 + 0 ≤ 1100; omega⟩) hw (fun r_22 u_22 H locs hp_22 hw => ?_)
  obtain rfl : r_22 = nI (L lg).length := hp_22.trans (congrArg (fun z => nI (List.length z)) hLcg)
  refine lv_icmp_ge (tgt := 70) hx hb dX5_unite_25 (by decide) (fun c_25 => ?_) (fun c_25 => ?_)
  · skip
    rw [nI_leI (by omega) (by omega)] at c_25
    have hi : i = (L lg).length := by omega
    refine lv_aload hx hb dX5_unite_70 (lv_at hl 4 rfl) ?_
    refine W.widen (k := 130) (n := 1100) (by omega) (by omega) ?_
    exact W.aret (v := .ref sg) hx hb hr (Or.inl ⟨_, rfl⟩) (Or.inr ⟨_, rfl⟩) (fun t ht hW => ⟨⟨(some sg), (Kc, Ic, Rc, Nc, Lc), rfl, ⟨sg, fl, rfl, hzs, hzf0, hsf, c_chg_mono (c_chg_tr hc3 hcc) (fun _ _ h => h.elim (fun h => h.elim False.elim id) False.elim) (fun _ _ h => h.elim (fun h => h.elim False.elim False.elim) id), hksg, hkf, hfl, hrf, (ks3 50 (by decide) id).trans (hi3.trans ((hI2 62 o (by decide)).trans (hI1 62 o (by decide)))), (((hcc o (by rw [hk63]; decide) (by rw [hk63]; decide)).2.2.1 62 (by decide) id).trans hn3).trans (by rw [(hI2 62 o (by decide)).trans (hI1 62 o (by decide))]), fun a ha9 => by
      obtain ⟨j, hj, hj2⟩ := List.getElem_of_mem ha9
      show Rc 15 a = _
      rw [hR15 a j (List.getElem?_eq_some_iff.mpr ⟨hj, hj2⟩), ho3 a (hel1 a ha9)]
      have e9 : pr a = (decide (R 15 a = some one) || decide (R 15 a = some other)) := by rw [epr]
      by_cases h : pr a = true
      · exact (if_pos ⟨by omega, h⟩).trans (if_pos (e9.symm.trans h)).symm
      · exact (if_neg (fun z => h z.2)).trans (if_neg (fun z => h (e9.trans z))).symm, by
      show Lc = _
      rw [eLc, hi, List.take_length, ← epr, eL3, eL2, hL2, hL1]
      exact c_lup L lr fl _ _ _ _⟩, m_wo_out hw ht hW.alike⟩, m_wo_F hw ht⟩) (m_wo_L hw) dX5_unite_72
  · skip
    rw [nI_leI (by omega) (by omega)] at c_25
    have hi : i < (L lg).length := by omega
    refine lv_aload_n hx hb dX5_unite_28 rfl (lv_at hl 3 rfl) ?_
    refine lv_iload hx hb dX5_unite_29 (lv_at hl 5 rfl) ?_
    obtain ⟨ai, ha⟩ : ∃ z, (L lg)[i]? = some z := ⟨_, lg_some hi⟩
    have hm1 := hel1 ai (List.mem_of_getElem? ha)
    have hk31 := hK1 ai hm1
    have hka := (hcc ai (by rw [hk31]; decide) (by rw [hk31]; decide)).1.trans hk31
    have hRa : Rc 15 ai = R 15 ai := by rw [hR15 ai i ha, if_neg (fun h => Nat.lt_irrefl _ h.1)]; exact ho3 ai hm1
    refine m_cq (va_runV (As := [.int (nI i)]) (rest := []) ⟨hx, hb, hml, hown, hts⟩ (c_Jx4a65c_get_915e3 l (i := i) hkg (by rw [hLcg]; exact hi)) (cwV 1 hts gX5_unite_Jx4a65c_get_915e3 rfl rfl rfl (by decide +kernel) ⟨Nat.le_of_ble_eq_true rfl, Nat.le_of_ble_eq_true rfl⟩) ⟨m_blind m_B_calling, m_recv hw (m_ent_11 hkg) rfl, fun U hU hW => ⟨rfl, m_wo_call hw hU hW⟩⟩ rfl rfl hl.1 rfl (lv_room (Nat.le_of_ble_eq_true rfl)) dX5_unite_31 ⟨by show 3 + i + 0 ≤ 130; omega, by show 36 + 4 * c9 + 0 ≤ 1100; omega⟩) hw (fun r_31 u_31 H locs hp_31 hw => ?_)
    obtain rfl : r_31 = some ai := hp_31.trans (by rw [hLcg]; exact ha)
    refine va_castS hx hb hown (hts (.classLink RX5 61 "Pirateindex$Find") (by decide +kernel)) (hw.1.1 5 _ rfl).2 (m_recv hw (m_ent_1 hka) rfl) dX5_unite_34 ?_
    refine lv_astore (lv' := [(6, .ref ai), (0, .ref o), (1, .ref one), (2, .ref other), (3, .ref lg), (4, .ref sg), (5, .int (nI i))]) hx hb dX5_unite_37 hl (by decide) rfl (fun ls hl => ?_)
    refine lv_aload hx hb dX5_unite_39 (lv_at hl 0 rfl) ?_
    refine g_1_5 (r := (R 15 ai)) hx hb hts (by decide +kernel) hown hw hka (hts (.fieldLink RX5 63 "Pirateindex$Find" "segment" "LPirateindex$Segment;") (by decide +kernel)) hRa dX5_unite_41 ?_
    refine lv_aload_n hx hb dX5_unite_44 rfl (lv_at hl 2 rfl) ?_
    refine lv_acmp_eq (rx := (R 15 ai)) (ry := (some one)) (tgt := 57) hx hb dX5_unite_45 (by decide) (fun c_45 => ?_) (fun c_45 => ?_)
    · skip
      have hpa : pr ai = true := by rw [epr]; show (decide (R 15 ai = some one) || decide (R 15 ai = some other)) = true; rw [decide_eq_true c_45]; rfl
      refine lv_aload hx hb dX5_unite_57 (lv_at hl 5 rfl) ?_
      refine lv_aload hx hb dX5_unite_59 (lv_at hl 0 rfl) ?_
      refine m_cv (va_runV (As := [.ref ai]) (rest := []) ⟨hx, hb, hml, hown, hts⟩ (c_X4_take l hksg hfl hkf hrf (fun a ha9 => by rw [hLcf] at ha9; have h9 := hK1 a (hel1 a (List.mem_of_mem_take (List.mem_filter.mp ha9).1)); exact (hcc a (by rw [h9]; decide) (by rw [h9]; decide)).1.trans h9) hka (by rw [hLcf]; have := List.length_filter_le pr ((L lg).take i); rw [List.length_take] at this; omega)) (cwV 1 hts gX5_unite_X4_take rfl rfl rfl (by decide +kernel) ⟨Nat.le_of_ble_eq_true rfl, Nat.le_of_ble_eq_true rfl⟩) ⟨m_blind m_B_calling, m_recv hw (m_ent_5 hksg) rfl, fun U hU hW => ⟨rfl, m_wo_call hw hU hW⟩⟩ rfl rfl hl.1 rfl (lv_room (Nat.le_of_ble_eq_true rfl)) dX5_unite_61 ⟨by show 3 + i + (if _ then _ else _) ≤ 130; split <;> omega, by show 36 + 4 * c9 + (if _ then _ else _) ≤ 1100; have h4 := c_pot ((L lg).take i |>.filter pr).length c9; have h5 := c_capb (i := i) (n := ((L lg).take i |>.filter pr).length) hc9 (Nat.le_trans (List.length_filter_le _ _) (by rw [List.length_take]; omega)); rw [hLcf, hcap9]; omega⟩) hw (fun u_61 H locs hp_61 hw => ?_)
      obtain ⟨K_10, I_11, R_12, N_13, L_14⟩ := u_61
      have hw : m_wo G K_10 I_11 R_12 F A N_13 L_14 T J D s H locs := hw
      dsimp only at hp_61
      obtain ⟨R1, hh9, eRn, eLn, hcapn⟩ := hp_61
      have ht1 : (L lg).take (i + 1) = (L lg).take i ++ [ai] := by rw [List.take_succ, ha]; rfl
      have hD1 : c_chg K_5 I_6 R_7 N_8 K_10 I_11 R_12 N_13 c_no (fun f _ => f = 15) := c_chg_mono (c_chg_tr hcc (c_chg_tr (c_chg_hid hh9) (c_chg_R (f := 15) (b := ai) (v := some sg) (by decide)))) (fun _ _ h => h.elim id (fun h => h.elim id id)) (fun _ _ h => h.elim id (fun h => h.elim False.elim And.left)) |> (fun h => by rw [eRn]; exact h)
      have hD2 : ∀ (a j : Nat), (L lg)[j]? = some a → R_12 15 a = if j < i + 1 ∧ pr a = true then some sg else R_7 15 a := fun a j hj => by
        rw [eRn]
        by_cases h : a = ai
        · have hji : j = i := c_nd hnd hj (by rw [h]; exact ha)
          rw [h, m_up2_self, if_pos ⟨by omega, hpa⟩]
        · have hji : j ≠ i := fun z => h (by rw [z] at hj; exact Option.some.inj (hj.symm.trans ha))
          rw [m_up2_ne _ _ h, hh9.2.2.2.1 15 a (by decide) (by decide), hR15 a j hj]
          by_cases h2 : j < i
          · simp [h2, show j < i + 1 by omega]
          · rw [if_neg (fun z => h2 z.1), if_neg (fun z => absurd z.1 (by omega))]
      have hD3 : L_14 = m_up L_9 fl (((L lg).take (i + 1)).filter pr) := by
        rw [eLn, hLcf, ht1, List.filter_append, List.filter_cons, if_pos hpa, List.filter_nil, eLc]
        funext b
        unfold m_up
        split <;> rfl
      have hD4 : m_cap R_12 N_13 fl = c9 + m_dc ((L lg).take i |>.filter pr).length c9 := by rw [hcapn, hLcf, hcap9]
      have hlnf : ((L lg).take i |>.filter pr).length ≤ i := Nat.le_trans (List.length_filter_le _ _) (by rw [List.length_take]; omega)
      have hD5 : c9 + m_dc ((L lg).take i |>.filter pr).length c9 ≤ 10 + 2 * (i + 1) := c_capb hc9 hlnf
      refine lv_iinc (v := nI (i + 1)) (lv' := [(5, .int (nI (i + 1))), (6, .ref ai), (0, .ref o), (1, .ref one), (2, .ref other), (3, .ref lg), (4, .ref sg)]) hx hb dX5_unite_64 hl (k := 6) rfl (nI_1 _) (by decide) rfl (fun ls hl => ?_)
      refine lv_goto (tgt := 19) hx hb dX5_unite_67 (by decide) ?_
      refine W.widen (k := 3 + (i + 1)) (n := 36 + 4 * (c9 + m_dc ((L lg).take i |>.filter pr).length c9)) (by split <;> omega) (by have h4 := c_pot ((L lg).take i |>.filter pr).length c9; rw [hLcf, hcap9]; omega) ?_
      exact ih (i + 1, (c9 + m_dc ((L lg).take i |>.filter pr).length c9), K_10, I_11, R_12, N_13, L_14) _ _ _ (by dsimp only; omega) ⟨⟨by omega, hD1, hD2, hD3, hD4, hD5⟩, hw, lv_sub hl [2, 3, 4, 5, 6, 0] rfl⟩
    · skip
      refine lv_aload hx hb dX5_unite_48 (lv_at hl 0 rfl) ?_
      refine g_1_5 (r := (R 15 ai)) hx hb hts (by decide +kernel) hown hw hka (hts (.fieldLink RX5 63 "Pirateindex$Find" "segment" "LPirateindex$Segment;") (by decide +kernel)) hRa dX5_unite_50 ?_
      refine lv_aload_n hx hb dX5_unite_53 rfl (lv_at hl 3 rfl) ?_
      refine lv_acmp_ne (rx := (R 15 ai)) (ry := (some other)) (tgt := 64) hx hb dX5_unite_54 (by decide) (fun c_54 => ?_) (fun c_54 => ?_)
      · skip
        have hpa : pr ai = false := by rw [epr]; show (decide (R 15 ai = some one) || decide (R 15 ai = some other)) = false; rw [decide_eq_false c_45, decide_eq_false c_54]; rfl
        have ht1 : (L lg).take (i + 1) = (L lg).take i ++ [ai] := by rw [List.take_succ, ha]; rfl
        have hD1 := hcc
        have hD2 : ∀ (a j : Nat), (L lg)[j]? = some a → Rc 15 a = if j < i + 1 ∧ pr a = true then some sg else R_7 15 a := fun a j hj => by
          rw [hR15 a j hj]
          by_cases h : j = i
          · rw [h] at hj
            obtain rfl : ai = a := Option.some.inj (ha.symm.trans hj)
            rw [if_neg (fun z => absurd z.2 (by rw [hpa]; decide)), if_neg (fun z => absurd z.2 (by rw [hpa]; decide))]
          · by_cases h2 : j < i
            · simp [h2, show j < i + 1 by omega]
            · rw [if_neg (fun z => h2 z.1), if_neg (fun z => absurd z.1 (by omega))]
        have hD3 : Lc = m_up L_9 fl (((L lg).take (i + 1)).filter pr) := by rw [ht1, List.filter_append, List.filter_cons, if_neg (by rw [hpa]; decide), List.filter_nil, List.append_nil]; exact eLc
        have hD4 := hcap9
        have hD5 : c9 ≤ 10 + 2 * (i + 1) := by omega
        refine lv_iinc (v := nI (i + 1)) (lv' := [(5, .int (nI (i + 1))), (6, .ref ai), (0, .ref o), (1, .ref one), (2, .ref other), (3, .ref lg), (4, .ref sg)]) hx hb dX5_unite_64 hl (k := 6) rfl (nI_1 _) (by decide) rfl (fun ls hl => ?_)
        refine lv_goto (tgt := 19) hx hb dX5_unite_67 (by decide) ?_
        refine W.widen (k := 3 + (i + 1)) (n := 36 + 4 * c9) (by omega) (by omega) ?_
        exact ih (i + 1, c9, Kc, Ic, Rc, Nc, Lc) _ _ _ (by dsimp only; omega) ⟨⟨by omega, hD1, hD2, hD3, hD4, hD5⟩, hw, lv_sub hl [2, 3, 4, 5, 6, 0] rfl⟩
      · skip
        have hpa : pr ai = true := by rw [epr]; show (decide (R 15 ai = some one) || decide (R 15 ai = some other)) = true; rw [decide_eq_true c_54, Bool.or_true]
        refine lv_aload hx hb dX5_unite_57 (lv_at hl 5 rfl) ?_
        refine lv_aload hx hb dX5_unite_59 (lv_at hl 0 rfl) ?_
        refine m_cv (va_runV (As := [.ref ai]) (rest := []) ⟨hx, hb, hml, hown, hts⟩ (c_X4_take l hksg hfl hkf hrf (fun a ha9 => by rw [hLcf] at ha9; have h9 := hK1 a (hel1 a (List.mem_of_mem_take (List.mem_filter.mp ha9).1)); exact (hcc a (by rw [h9]; decide) (by rw [h9]; decide)).1.trans h9) hka (by rw [hLcf]; have := List.length_filter_le pr ((L lg).take i); rw [List.length_take] at this; omega)) (cwV 1 hts gX5_unite_X4_take rfl rfl rfl (by decide +kernel) ⟨Nat.le_of_ble_eq_true rfl, Nat.le_of_ble_eq_true rfl⟩) ⟨m_blind m_B_calling, m_recv hw (m_ent_5 hksg) rfl, fun U hU hW => ⟨rfl, m_wo_call hw hU hW⟩⟩ rfl rfl hl.1 rfl (lv_room (Nat.le_of_ble_eq_true rfl)) dX5_unite_61 ⟨by show 3 + i + (if _ then _ else _) ≤ 130; split <;> omega, by show 36 + 4 * c9 + (if _ then _ else _) ≤ 1100; have h4 := c_pot ((L lg).take i |>.filter pr).length c9; have h5 := c_capb (i := i) (n := ((L lg).take i |>.filter pr).length) hc9 (Nat.le_trans (List.length_filter_le _ _) (by rw [List.length_take]; omega)); rw [hLcf, hcap9]; omega⟩) hw (fun u_61 H locs hp_61 hw => ?_)
        obtain ⟨K_15, I_16, R_17, N_18, L_19⟩ := u_61
        have hw : m_wo G K_15 I_16 R_17 F A N_18 L_19 T J D s H locs := hw
        dsimp only at hp_61
        obtain ⟨R1, hh9, eRn, eLn, hcapn⟩ := hp_61
        have ht1 : (L lg).take (i + 1) = (L lg).take i ++ [ai] := by rw [List.take_succ, ha]; rfl
        have hD1 : c_chg K_5 I_6 R_7 N_8 K_15 I_16 R_17 N_18 c_no (fun f _ => f = 15) := c_chg_mono (c_chg_tr hcc (c_chg_tr (c_chg_hid hh9) (c_chg_R (f := 15) (b := ai) (v := some sg) (by decide)))) (fun _ _ h => h.elim id (fun h => h.elim id id)) (fun _ _ h => h.elim id (fun h => h.elim False.elim And.left)) |> (fun h => by rw [eRn]; exact h)
        have hD2 : ∀ (a j : Nat), (L lg)[j]? = some a → R_17 15 a = if j < i + 1 ∧ pr a = true then some sg else R_7 15 a := fun a j hj => by
          rw [eRn]
          by_cases h : a = ai
          · have hji : j = i := c_nd hnd hj (by rw [h]; exact ha)
            rw [h, m_up2_self, if_pos ⟨by omega, hpa⟩]
          · have hji : j ≠ i := fun z => h (by rw [z] at hj; exact Option.some.inj (hj.symm.trans ha))
            rw [m_up2_ne _ _ h, hh9.2.2.2.1 15 a (by decide) (by decide), hR15 a j hj]
            by_cases h2 : j < i
            · simp [h2, show j < i + 1 by omega]
            · rw [if_neg (fun z => h2 z.1), if_neg (fun z => absurd z.1 (by omega))]
        have hD3 : L_19 = m_up L_9 fl (((L lg).take (i + 1)).filter pr) := by
          rw [eLn, hLcf, ht1, List.filter_append, List.filter_cons, if_pos hpa, List.filter_nil, eLc]
          funext b
          unfold m_up
          split <;> rfl
        have hD4 : m_cap R_17 N_18 fl = c9 + m_dc ((L lg).take i |>.filter pr).length c9 := by rw [hcapn, hLcf, hcap9]
        have hlnf : ((L lg).take i |>.filter pr).length ≤ i := Nat.le_trans (List.length_filter_le _ _) (by rw [List.length_take]; omega)
        have hD5 : c9 + m_dc ((L lg).take i |>.filter pr).length c9 ≤ 10 + 2 * (i + 1) := c_capb hc9 hlnf
        refine lv_iinc (v := nI (i + 1)) (lv' := [(5, .int (nI (i + 1))), (6, .ref ai), (0, .ref o), (1, .ref one), (2, .ref other), (3, .ref lg), (4, .ref sg)]) hx hb dX5_unite_64 hl (k := 6) rfl (nI_1 _) (by decide) rfl (fun ls hl => ?_)
        refine lv_goto (tgt := 19) hx hb dX5_unite_67 (by decide) ?_
        refine W.widen (k := 3 + (i + 1)) (n := 36 + 4 * (c9 + m_dc ((L lg).take i |>.filter pr).length c9)) (by split <;> omega) (by have h4 := c_pot ((L lg).take i |>.filter pr).length c9; rw [hLcf, hcap9]; omega) ?_
        exact ih (i + 1, (c9 + m_dc ((L lg).take i |>.filter pr).length c9), K_15, I_16, R_17, N_18, L_19) _ _ _ (by dsimp only; omega) ⟨⟨by omega, hD1, hD2, hD3, hD4, hD5⟩, hw, lv_sub hl [2, 3, 4, 5, 6, 0] rfl⟩
