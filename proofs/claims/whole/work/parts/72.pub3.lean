theorem q_rngs {v hi : Int32} : o_rng v 0 hi = true ↔ (0 ≤ v ∧ v ≤ hi) := by
  unfold o_rng
  rw [Bool.and_eq_true, decide_eq_true_eq, decide_eq_true_eq]
theorem q_word1 {Z : mZ} {v g : Int32} (h : ¬ (o_rng v 0 30 = true ∧ (Z 29 = 0 ∨ o_rng g 0 9 = true))) : t_word Z v g = 1 := by
  unfold t_word
  refine if_neg (fun z => h ?_)
  rw [Bool.and_eq_true, Bool.or_eq_true, decide_eq_true_eq] at z
  exact z
theorem q_word0 {Z : mZ} {v g : Int32} (h1 : o_rng v 0 30 = true) (h2 : Z 29 = 0 ∨ o_rng g 0 9 = true) (h3 : ¬ 4 ≤ Z 29) : t_word Z v g = 0 := by
  unfold t_word
  rw [if_pos (by rw [Bool.and_eq_true, Bool.or_eq_true, decide_eq_true_eq]; exact ⟨h1, h2⟩), if_neg h3]
theorem q_word2 {Z : mZ} {v g : Int32} (h1 : o_rng v 0 30 = true) (h2 : Z 29 = 0 ∨ o_rng g 0 9 = true) (h3 : 4 ≤ Z 29) : t_word Z v g = 2 := by
  unfold t_word
  rw [if_pos (by rw [Bool.and_eq_true, Bool.or_eq_true, decide_eq_true_eq]; exact ⟨h1, h2⟩), if_pos h3]
theorem q_g9 {g : Int32} (h : 0 ≤ g ∧ g ≤ 9) : ∃ k, k ≤ 9 ∧ g = nI k := o_rng_nat (q_rngs.mpr h) (n := 9) rfl (by decide)
theorem q_word {K : Nat → Nat} {I I' : Nat → Nat → Int32} {R : Nat → Nat → Option Nat} {N : Nat → Nat} {A A' : Nat → Nat → Int32} {L : Nat → List Nat} {T : Nat → List Int32} {x : Nat} {cd : Nat → Nat} {Z : mZ} {M : mM} {n : Nat} {v g d : Int32} (hs : c_sim K I R N A L T x cd Z M) (hn : Z 29 = nI n) (hlt : n < 4) (eI : I' = m_up2 I 42 (cd 6) (nI (n + 1))) (eA : A' = m_up (m_up A (cd 13) (upd (A (cd 13)) n v)) (cd 14) (upd (A (cd 14)) n d)) (hd : n = 0 ∨ d = g) (hg : n ≠ 0 → ∃ k, k ≤ 9 ∧ g = nI k) : c_sim K I' R N A' L T x cd (p_word (Z, M) v g).1 (p_word (Z, M) v g).2 := by
  obtain ⟨n2, ht1, ⟨p1, p2, p3, p4, p5, p6, p7, p8, p9, p10⟩, ht3, ht4⟩ := hs.2.2.2.2.2.2.1
  obtain rfl : n = n2 := (nI_eq (by omega) (by omega)).mp (hn.symm.trans ht1)
  have hne : cd 13 ≠ cd 14 := c_kn p3 p6 (by decide)
  have e13 : A' (cd 13) = upd (A (cd 13)) n v := by rw [eA, m_up_ne _ _ hne, m_up_self]
  have e14 : A' (cd 14) = upd (A (cd 14)) n d := by rw [eA, m_up_self]
  have hz : zn Z 29 = n := by unfold zn; rw [hn, nI_clamp (by omega)]
  refine c_sim_typ hs (fun f b h => by rw [eI]; exact if_neg h) (fun b h1 h2 => by rw [eA, m_up_ne _ _ h2, m_up_ne _ _ h1]) ⟨n + 1, ?_, ⟨p1, p2, p3, p4, p5, p6, p7, by rw [eI, m_up2_self], by omega, fun k h1 h2 => ?_⟩, fun k h => ?_, fun k h1 h => ?_⟩ (fun j h => z1_n _ _ h) (fun j h1 h2 => by unfold p_word; simp only [m1, h1, h2, if_false])
  · show z1 Z 29 (Z 29 + 1) 29 = _
    rw [z1_s, hn, nI_1]
  · rw [e14]
    unfold upd
    by_cases hk : k = n
    · rw [if_pos hk]
      have h0 : n ≠ 0 := by omega
      rw [hd.resolve_left h0]
      exact hg h0
    · rw [if_neg hk]; exact p10 k h1 (by omega)
  · rw [e13]
    show upd (A (cd 13)) n v k = m1 (m1 M 25 (zn Z 29) v) 26 (zn Z 29) g 25 k
    rw [m1_n _ _ (by decide), m1_s, hz]
    unfold upd
    by_cases hk : k = n
    · rw [if_pos hk, if_pos hk]
    · rw [if_neg hk, if_neg hk]; exact ht3 k (by omega)
  · rw [e14]
    show upd (A (cd 14)) n d k = m1 (m1 M 25 (zn Z 29) v) 26 (zn Z 29) g 26 k
    rw [m1_s, m1_n _ _ (by decide), hz]
    unfold upd
    by_cases hk : k = n
    · rw [if_pos hk, if_pos hk]; exact hd.resolve_left (by omega)
    · rw [if_neg hk, if_neg hk]; exact ht4 k h1 (by omega)
set_option maxHeartbeats 400000 in
set_option maxRecDepth 100000 in
theorem c_X8_word (l : Launch) (hnt : l.stackTraces = false) {G : mG} {K : Nat → Nat} {I : Nat → Nat → Int32} {R : Nat → Nat → Option Nat} {F : Nat → UInt32} {A : Nat → Nat → Int32} {N : Nat → Nat} {L : Nat → List Nat} {T : Nat → List Int32} {J : Nat → Nat → Int64} {D : Nat → Nat → UInt64} {o : Nat} {cd : Nat → Nat} {Z : Nat → Int32} {M : Nat → Nat → Int32} {v g : Int32} (hs : c_sim K I R N A L T o cd Z M) : vx_Met l yX8_word wsX8_word ({ frames := 9, cells := 3, slots := 18, locals := 260 } : Room) (va_Pc [.ref o, .int v, .int g] (fun U => m_B G K I R F A N L T J D U ∧ c_str U)) (va_Qi (fun (r : Int32) (u : (Nat → Nat → Int32) × (Nat → Nat → Int32)) => t_word Z v g = 0 ∧ r = Z 29 + 1 ∧ c_sim K u.1 R N u.2 L T o cd (p_word (Z, M) v g).1 (p_word (Z, M) v g).2 ∧ c_fr K I R N A K u.1 R N u.2) (fun u : (Nat → Nat → Int32) × (Nat → Nat → Int32) => m_B G K (u.1) R F (u.2) N L T J D) (m_A G)) (vx_X (fun (u : Unit) => ¬ t_word Z v g = 0) (fun E (u : Unit) t => E = (if t_word Z v g = 1 then "java/lang/IllegalArgumentException" else "java/lang/IllegalStateException") ∧ m_B G K I R F A N L T J D t) (m_A G)) 3 18 (m_A G) := by
  refine vx_ofW (cc := cX8_word) (maxL := 4) (ret := (some .int)) (by decide) rfl ?_
  intro p e s m args below meth c s₁ B hml hxt hv
  obtain ⟨rfl, hB, hcs⟩ := hv
  have hx := B.exec
  have hb := B.bytes
  have hr := B.returns
  have hts := atoms_spec (ws := wsX8_word) B.pre
  have hown : s.vm.findClass RX8 = some m.cls := findClass_of_methodNamed B.named
  have hlocks := B.notSynchronized
  have hw := m_wo_in hB
  have hl := lv_entry ([.ref o, .int v, .int g]) (n := 4) (Nat.le_of_ble_eq_true rfl)
  rw [lg_entry_eq]
  generalize (lg_sl ([.ref o, .int v, .int g]) ++ List.replicate (4 - (lg_sl ([.ref o, .int v, .int g])).length) Slot.unset).toArray = ls at hl ⊢
  have hl : lv_has ls 4 [(0, .ref o), (1, .int v), (2, .int g)] := hl
  have hok := hs.1
  have hel0 := q_el0 hs
  have hel1 := q_el1 hs
  have hel5 := q_el5 hs
  have hel7 := q_el7 hs
  have hel9 := q_el9 hs
  obtain ⟨n, ht1, ht2, ht3, ht4⟩ := hs.2.2.2.2.2.2.1
  have hp42 : I 42 (cd 6) = nI n := ht2.2.2.2.2.2.2.2.1
  have hn4 : n ≤ 4 := ht2.2.2.2.2.2.2.2.2.1
  refine lv_iload_n hx hb dX8_word_0 rfl (lv_at hl 1 rfl) ?_
  refine lv_bipush (v := 30) hx hb dX8_word_1 (by decide) ?_
  refine m_xv (vx_runS (As := [.int v, .int 30]) (rest := []) ⟨hx, hb, hml, hown, hts⟩ (c_X8_requireRange l hnt ) (va_cwS 2 hts gX8_word_X8_requireRange rfl rfl rfl (by decide +kernel) ⟨Nat.le_of_ble_eq_true rfl, Nat.le_of_ble_eq_true rfl⟩) ⟨m_blind (fun U g mk a h => ⟨m_B_calling U g mk a h.1, c_str_calling U g mk a h.2⟩), fun U hU hW => ⟨rfl, m_wo_call hw hU hW, c_str_warm hW hcs⟩⟩ rfl rfl hl.1 rfl (lv_room (Nat.le_of_ble_eq_true rfl)) dX8_word_3 ⟨Nat.le_of_ble_eq_true rfl, Nat.le_of_ble_eq_true rfl⟩) hw (fun E_ ce_ q9_ u_3x H locs hpx hw hce hcv hcl => ?_) (fun u_3 H locs hp_3 hw => ?_)
  · skip
    obtain ⟨hpx, rfl⟩ := hpx
    exact vx_out (fun x hx9 => absurd (hxt x hx9) id) hlocks hce hcv hcl (fun t ht9 hA9 => ⟨(), (by rw [(q_word1 (fun z => hpx (q_rngs.mp z.1)))]; decide), ⟨(by rw [(q_word1 (fun z => hpx (q_rngs.mp z.1)))]; rfl), m_wo_out hw ht9 hA9⟩, m_wo_F hw ht9⟩) (m_wo_L hw) (Nat.le_of_ble_eq_true rfl) (Nat.le_of_ble_eq_true rfl)
  have hv := hp_3
  refine lv_aload_n hx hb dX8_word_6 rfl (lv_at hl 0 rfl) ?_
  refine g_9_6 (r := some (cd 6)) hx hb hts (by decide +kernel) hown hw hok.1 (hts (.fieldLink RX8 46 "Pirateindex" "typed" "LPirateindex$Phrase;") (by decide +kernel)) hok.2.2.2.2.2.2.2.1 dX8_word_7 ?_
  refine m_ci (va_runV (As := []) (rest := []) ⟨hx, hb, hml, hown, hts⟩ (c_X3_isEmpty l hok.2.2.2.2.2.2.2.2.2.2.2.2.2.2.2.2.1) (cwV 0 hts gX8_word_X3_isEmpty rfl rfl rfl (by decide +kernel) ⟨Nat.le_of_ble_eq_true rfl, Nat.le_of_ble_eq_true rfl⟩) ⟨m_blind m_B_calling, m_recv hw (m_ent_4 hok.2.2.2.2.2.2.2.2.2.2.2.2.2.2.2.2.1) rfl, fun U hU hW => ⟨rfl, m_wo_call hw hU hW⟩⟩ rfl rfl hl.1 rfl (lv_room (Nat.le_of_ble_eq_true rfl)) dX8_word_10 ⟨Nat.le_of_ble_eq_true rfl, Nat.le_of_ble_eq_true rfl⟩) hw (fun r_10 u_10 H locs hp_10 hw => ?_)
  obtain rfl : r_10 = b2i (decide (I 42 (cd 6) = 0)) := hp_10
  by_cases hn0 : n = 0
  · skip
    rw [show b2i (decide (I 42 (cd 6) = 0)) = 1 from by rw [hp42]; rw [hn0]; rfl]
    have hz29 : Z 29 = 0 := by rw [ht1, hn0]; rfl
    refine lv_istore_n (lv' := [(3, .int 1), (0, .ref o), (1, .int v), (2, .int g)]) hx hb dX8_word_13 rfl hl (by decide) rfl (fun ls hl => ?_)
    refine lv_iload_n hx hb dX8_word_14 rfl (lv_at hl 0 rfl) ?_
    refine lv_if_ne (tgt := 24) hx hb dX8_word_15 (by decide) (fun c_15 => ?_) (fun c_15 => absurd c_15 (by decide))
    refine lv_aload_n hx hb dX8_word_24 rfl (lv_at hl 1 rfl) ?_
    refine g_9_6 (r := some (cd 6)) hx hb hts (by decide +kernel) hown hw hok.1 (hts (.fieldLink RX8 46 "Pirateindex" "typed" "LPirateindex$Phrase;") (by decide +kernel)) hok.2.2.2.2.2.2.2.1 dX8_word_25 ?_
    refine g_4_2 hx hb hts (by decide +kernel) hown hw hok.2.2.2.2.2.2.2.2.2.2.2.2.2.2.2.2.1 (hts (.fieldLink RX8 227 "Pirateindex$Phrase" "length" "I") (by decide +kernel)) dX8_word_28 ?_
    rw [hp42]
    refine lv_iconst (v := 4) hx hb dX8_word_31 (by decide) ?_
    refine lv_icmp_lt (tgt := 45) hx hb dX8_word_32 (by decide) (fun c_32 => ?_) (fun c_32 => ?_)
    · skip
      have hlt : n < 4 := nI_ltN (n := 4) (by omega) (by decide) c_32
      have htz : t_word Z v g = 0 := q_word0 (q_rngs.mpr hv) (Or.inl hz29) (by rw [ht1]; exact fun z => absurd ((nI_leI (a := 4) (b := n) (by decide) (by omega)).mp z) (by omega))
      refine lv_aload_n hx hb dX8_word_45 rfl (lv_at hl 1 rfl) ?_
      refine g_9_6 (r := some (cd 6)) hx hb hts (by decide +kernel) hown hw hok.1 (hts (.fieldLink RX8 46 "Pirateindex" "typed" "LPirateindex$Phrase;") (by decide +kernel)) hok.2.2.2.2.2.2.2.1 dX8_word_46 ?_
      refine lv_iload_n hx hb dX8_word_49 rfl (lv_at hl 2 rfl) ?_
      refine lv_iload_n hx hb dX8_word_50 rfl (lv_at hl 0 rfl) ?_
      refine lv_if_eq (tgt := 58) hx hb dX8_word_51 (by decide) (fun c_51 => absurd c_51 (by decide)) (fun c_51 => ?_)
      refine lv_iconst (v := 0) hx hb dX8_word_54 (by decide) ?_
      refine lv_goto (tgt := 59) hx hb dX8_word_55 (by decide) ?_
      refine m_cv (va_runV (As := [.int v, .int 0]) (rest := []) ⟨hx, hb, hml, hown, hts⟩ (c_X3_append l hok.2.2.2.2.2.2.2.2.2.2.2.2.2.2.2.2.1 hok.2.2.2.2.2.2.2.2.2.2.2.2.2.2.2.2.2.2.2.2.2.2.2.2.2.2.2.2.2.1 hok.2.2.2.2.2.2.2.2.2.2.2.2.2.2.2.2.2.2.2.2.2.2.2.1 hok.2.2.2.2.2.2.2.2.2.2.2.2.2.2.2.2.2.2.2.2.2.2.2.2.2.2.2.2.2.2.2.2.2.1 hok.2.2.2.2.2.2.2.2.2.2.2.2.2.2.2.2.2.2.2.2.2.2.2.2.2.2.2.2.2.2.1 hok.2.2.2.2.2.2.2.2.2.2.2.2.2.2.2.2.2.2.2.2.2.2.2.2.1 hok.2.2.2.2.2.2.2.2.2.2.2.2.2.2.2.2.2.2.2.2.2.2.2.2.2.2.2.2.2.2.2.2.2.2.1 hp42 hlt) (cwV 2 hts gX8_word_X3_append rfl rfl rfl (by decide +kernel) ⟨Nat.le_of_ble_eq_true rfl, Nat.le_of_ble_eq_true rfl⟩) ⟨m_blind m_B_calling, m_recv hw (m_ent_4 hok.2.2.2.2.2.2.2.2.2.2.2.2.2.2.2.2.1) rfl, fun U hU hW => ⟨rfl, m_wo_call hw hU hW⟩⟩ rfl rfl hl.1 rfl (lv_room (Nat.le_of_ble_eq_true rfl)) dX8_word_59 ⟨Nat.le_of_ble_eq_true rfl, Nat.le_of_ble_eq_true rfl⟩) hw (fun u_59 H locs hp_59 hw => ?_)
      obtain ⟨I_1, A_2⟩ := u_59
      have hw : m_wo G K I_1 R F A_2 N L T J D s H locs := hw
      dsimp only at hp_59
      obtain ⟨eI1, eA1⟩ := hp_59
      have h42 : I_1 42 (cd 6) = Z 29 + 1 := by rw [eI1, m_up2_self, ht1]; exact (nI_1 _).symm
      have hss := q_word (g := g) hs ht1 hlt eI1 eA1 (Or.inl hn0) (fun z => absurd hn0 z)
      refine lv_aload_n hx hb dX8_word_62 rfl (lv_at hl 1 rfl) ?_
      refine g_9_6 (r := some (cd 6)) hx hb hts (by decide +kernel) hown hw hok.1 (hts (.fieldLink RX8 46 "Pirateindex" "typed" "LPirateindex$Phrase;") (by decide +kernel)) hok.2.2.2.2.2.2.2.1 dX8_word_63 ?_
      refine g_4_2 hx hb hts (by decide +kernel) hown hw hok.2.2.2.2.2.2.2.2.2.2.2.2.2.2.2.2.1 (hts (.fieldLink RX8 227 "Pirateindex$Phrase" "length" "I") (by decide +kernel)) dX8_word_66 ?_
      rw [h42]
      have hfr9 : c_fr K I R N A K I_1 R N A_2 := c_fr_tr (c_fr_I (fun f b h => by rw [eI1]; exact m_up2_ni _ _ (by omega))) (c_fr_A (fun b h1 h2 _ _ _ => by rw [eA1, m_up_ne _ _ (fun z => h2 (by rw [z]; exact hok.2.2.2.2.2.2.2.2.2.2.2.2.2.2.2.2.2.2.2.2.2.2.2.2.1)), m_up_ne _ _ (fun z => h1 (by rw [z]; exact hok.2.2.2.2.2.2.2.2.2.2.2.2.2.2.2.2.2.2.2.2.2.2.2.1))]))
      refine vx_ret ?_
      refine W.widen (k := 3) (n := 18) (by omega) (by omega) ?_
      exact W.iret (v := (Z 29 + 1)) hx hb hr (fun t ht hW => ⟨⟨(Z 29 + 1), (I_1, A_2), rfl, ⟨htz, rfl, hss, hfr9⟩, m_wo_out hw ht hW.alike⟩, m_wo_F hw ht⟩) (m_wo_L hw) dX8_word_69
    · skip
      have htz : t_word Z v g = 2 := q_word2 (q_rngs.mpr hv) (Or.inl hz29) (by rw [ht1]; exact Int32.not_lt.mp c_32)
      obtain ⟨sa, hsa⟩ := hcs.1 (230, "the map has 4 words") (by decide)
      refine vx_throwS (names := ["java/lang/RuntimeException", "java/lang/Exception"]) hx hb hnt hown (by decide) (by decide) (hts (.classLink RX8 68 "java/lang/IllegalStateException") (by decide +kernel)) (hts (.initialized "java/lang/IllegalStateException") (by decide +kernel)) hsa (vx_hat (B := .castable "java/lang/IllegalStateException" "java/lang/IllegalStateException" :: [.declares (Bundle.initS "java/lang/RuntimeException"), .declares (Bundle.initS "java/lang/Exception"), .declares (Bundle.initS Bundle.tN)]) (fun w h => hts w ((by decide +kernel : ∀ w ∈ (vx_atS RX8 72 "java/lang/IllegalStateException" ["java/lang/RuntimeException", "java/lang/Exception"]).filter goodWord, w ∈ wsX8_word) w h)) (by decide +kernel) (vx_c (m_wo_cas hw (by decide)) (c_str_dc hcs))) (by decide +kernel) hw.2.1.1 hw.2.1.2.1 hw.2.2.2.1 (hl.1.trans hml.symm) dX8_word_35 dX8_word_38 dX8_word_39 dX8_word_41 dX8_word_44 (fun x hx9 => absurd (hxt x hx9) id) (Nat.le_of_ble_eq_true rfl) (Nat.le_of_ble_eq_true rfl) (Nat.le_of_ble_eq_true rfl) (Nat.le_of_ble_eq_true rfl) hlocks (fun t hA9 hs9 hq9 => ⟨(), (by rw [htz]; decide), ⟨(by rw [htz]; rfl), m_wo_up hw hA9 hs9 hq9⟩, m_wo_uF hw hs9 hq9⟩) (m_wo_L hw) (Nat.le_of_ble_eq_true rfl) (Nat.le_of_ble_eq_true rfl)
  · skip
    rw [show b2i (decide (I 42 (cd 6) = 0)) = 0 from by rw [hp42]; rw [decide_eq_false (show ¬ nI n = 0 from fun z => hn0 ((nI_eq (a := n) (b := 0) (by omega) (by decide)).mp z))]; rfl]
    have hz29 : ¬ Z 29 = 0 := by rw [ht1]; exact fun z => hn0 ((nI_eq (a := n) (b := 0) (by omega) (by decide)).mp z)
    refine lv_istore_n (lv' := [(3, .int 0), (0, .ref o), (1, .int v), (2, .int g)]) hx hb dX8_word_13 rfl hl (by decide) rfl (fun ls hl => ?_)
    refine lv_iload_n hx hb dX8_word_14 rfl (lv_at hl 0 rfl) ?_
    refine lv_if_ne (tgt := 24) hx hb dX8_word_15 (by decide) (fun c_15 => absurd (by decide) c_15) (fun c_15 => ?_)
    refine lv_iload_n hx hb dX8_word_18 rfl (lv_at hl 3 rfl) ?_
    refine lv_bipush (v := 9) hx hb dX8_word_19 (by decide) ?_
    refine m_xv (vx_runS (As := [.int g, .int 9]) (rest := []) ⟨hx, hb, hml, hown, hts⟩ (c_X8_requireRange l hnt ) (va_cwS 2 hts gX8_word_X8_requireRange rfl rfl rfl (by decide +kernel) ⟨Nat.le_of_ble_eq_true rfl, Nat.le_of_ble_eq_true rfl⟩) ⟨m_blind (fun U g mk a h => ⟨m_B_calling U g mk a h.1, c_str_calling U g mk a h.2⟩), fun U hU hW => ⟨rfl, m_wo_call hw hU hW, c_str_warm hW hcs⟩⟩ rfl rfl hl.1 rfl (lv_room (Nat.le_of_ble_eq_true rfl)) dX8_word_21 ⟨Nat.le_of_ble_eq_true rfl, Nat.le_of_ble_eq_true rfl⟩) hw (fun E_ ce_ q9_ u_21x H locs hpx hw hce hcv hcl => ?_) (fun u_21 H locs hp_21 hw => ?_)
    · skip
      obtain ⟨hpx, rfl⟩ := hpx
      exact vx_out (fun x hx9 => absurd (hxt x hx9) id) hlocks hce hcv hcl (fun t ht9 hA9 => ⟨(), (by rw [(q_word1 (fun z => z.2.elim (fun z => hz29 z) (fun z => hpx (q_rngs.mp z))))]; decide), ⟨(by rw [(q_word1 (fun z => z.2.elim (fun z => hz29 z) (fun z => hpx (q_rngs.mp z))))]; rfl), m_wo_out hw ht9 hA9⟩, m_wo_F hw ht9⟩) (m_wo_L hw) (Nat.le_of_ble_eq_true rfl) (Nat.le_of_ble_eq_true rfl)
    have hg := hp_21
    refine lv_aload_n hx hb dX8_word_24 rfl (lv_at hl 1 rfl) ?_
    refine g_9_6 (r := some (cd 6)) hx hb hts (by decide +kernel) hown hw hok.1 (hts (.fieldLink RX8 46 "Pirateindex" "typed" "LPirateindex$Phrase;") (by decide +kernel)) hok.2.2.2.2.2.2.2.1 dX8_word_25 ?_
    refine g_4_2 hx hb hts (by decide +kernel) hown hw hok.2.2.2.2.2.2.2.2.2.2.2.2.2.2.2.2.1 (hts (.fieldLink RX8 227 "Pirateindex$Phrase" "length" "I") (by decide +kernel)) dX8_word_28 ?_
    rw [hp42]
    refine lv_iconst (v := 4) hx hb dX8_word_31 (by decide) ?_
    refine lv_icmp_lt (tgt := 45) hx hb dX8_word_32 (by decide) (fun c_32 => ?_) (fun c_32 => ?_)
    · skip
      have hlt : n < 4 := nI_ltN (n := 4) (by omega) (by decide) c_32
      have htz : t_word Z v g = 0 := q_word0 (q_rngs.mpr hv) (Or.inr (q_rngs.mpr hg)) (by rw [ht1]; exact fun z => absurd ((nI_leI (a := 4) (b := n) (by decide) (by omega)).mp z) (by omega))
      refine lv_aload_n hx hb dX8_word_45 rfl (lv_at hl 1 rfl) ?_
      refine g_9_6 (r := some (cd 6)) hx hb hts (by decide +kernel) hown hw hok.1 (hts (.fieldLink RX8 46 "Pirateindex" "typed" "LPirateindex$Phrase;") (by decide +kernel)) hok.2.2.2.2.2.2.2.1 dX8_word_46 ?_
      refine lv_iload_n hx hb dX8_word_49 rfl (lv_at hl 2 rfl) ?_
      refine lv_iload_n hx hb dX8_word_50 rfl (lv_at hl 0 rfl) ?_
      refine lv_if_eq (tgt := 58) hx hb dX8_word_51 (by decide) (fun c_51 => ?_) (fun c_51 => absurd (by decide) c_51)
      refine lv_iload_n hx hb dX8_word_58 rfl (lv_at hl 3 rfl) ?_
      refine m_cv (va_runV (As := [.int v, .int g]) (rest := []) ⟨hx, hb, hml, hown, hts⟩ (c_X3_append l hok.2.2.2.2.2.2.2.2.2.2.2.2.2.2.2.2.1 hok.2.2.2.2.2.2.2.2.2.2.2.2.2.2.2.2.2.2.2.2.2.2.2.2.2.2.2.2.2.1 hok.2.2.2.2.2.2.2.2.2.2.2.2.2.2.2.2.2.2.2.2.2.2.2.1 hok.2.2.2.2.2.2.2.2.2.2.2.2.2.2.2.2.2.2.2.2.2.2.2.2.2.2.2.2.2.2.2.2.2.1 hok.2.2.2.2.2.2.2.2.2.2.2.2.2.2.2.2.2.2.2.2.2.2.2.2.2.2.2.2.2.2.1 hok.2.2.2.2.2.2.2.2.2.2.2.2.2.2.2.2.2.2.2.2.2.2.2.2.1 hok.2.2.2.2.2.2.2.2.2.2.2.2.2.2.2.2.2.2.2.2.2.2.2.2.2.2.2.2.2.2.2.2.2.2.1 hp42 hlt) (cwV 2 hts gX8_word_X3_append rfl rfl rfl (by decide +kernel) ⟨Nat.le_of_ble_eq_true rfl, Nat.le_of_ble_eq_true rfl⟩) ⟨m_blind m_B_calling, m_recv hw (m_ent_4 hok.2.2.2.2.2.2.2.2.2.2.2.2.2.2.2.2.1) rfl, fun U hU hW => ⟨rfl, m_wo_call hw hU hW⟩⟩ rfl rfl hl.1 rfl (lv_room (Nat.le_of_ble_eq_true rfl)) dX8_word_59 ⟨Nat.le_of_ble_eq_true rfl, Nat.le_of_ble_eq_true rfl⟩) hw (fun u_59 H locs hp_59 hw => ?_)
      obtain ⟨I_3, A_4⟩ := u_59
      have hw : m_wo G K I_3 R F A_4 N L T J D s H locs := hw
      dsimp only at hp_59
      obtain ⟨eI1, eA1⟩ := hp_59
      have h42 : I_3 42 (cd 6) = Z 29 + 1 := by rw [eI1, m_up2_self, ht1]; exact (nI_1 _).symm
      have hss := q_word (g := g) hs ht1 hlt eI1 eA1 (Or.inr rfl) (fun _ => q_g9 hg)
      refine lv_aload_n hx hb dX8_word_62 rfl (lv_at hl 1 rfl) ?_
      refine g_9_6 (r := some (cd 6)) hx hb hts (by decide +kernel) hown hw hok.1 (hts (.fieldLink RX8 46 "Pirateindex" "typed" "LPirateindex$Phrase;") (by decide +kernel)) hok.2.2.2.2.2.2.2.1 dX8_word_63 ?_
      refine g_4_2 hx hb hts (by decide +kernel) hown hw hok.2.2.2.2.2.2.2.2.2.2.2.2.2.2.2.2.1 (hts (.fieldLink RX8 227 "Pirateindex$Phrase" "length" "I") (by decide +kernel)) dX8_word_66 ?_
      rw [h42]
      have hfr9 : c_fr K I R N A K I_3 R N A_4 := c_fr_tr (c_fr_I (fun f b h => by rw [eI1]; exact m_up2_ni _ _ (by omega))) (c_fr_A (fun b h1 h2 _ _ _ => by rw [eA1, m_up_ne _ _ (fun z => h2 (by rw [z]; exact hok.2.2.2.2.2.2.2.2.2.2.2.2.2.2.2.2.2.2.2.2.2.2.2.2.1)), m_up_ne _ _ (fun z => h1 (by rw [z]; exact hok.2.2.2.2.2.2.2.2.2.2.2.2.2.2.2.2.2.2.2.2.2.2.2.1))]))
      refine vx_ret ?_
      refine W.widen (k := 3) (n := 18) (by omega) (by omega) ?_
      exact W.iret (v := (Z 29 + 1)) hx hb hr (fun t ht hW => ⟨⟨(Z 29 + 1), (I_3, A_4), rfl, ⟨htz, rfl, hss, hfr9⟩, m_wo_out hw ht hW.alike⟩, m_wo_F hw ht⟩) (m_wo_L hw) dX8_word_69
    · skip
      have htz : t_word Z v g = 2 := q_word2 (q_rngs.mpr hv) (Or.inr (q_rngs.mpr hg)) (by rw [ht1]; exact Int32.not_lt.mp c_32)
      obtain ⟨sa, hsa⟩ := hcs.1 (230, "the map has 4 words") (by decide)
      refine vx_throwS (names := ["java/lang/RuntimeException", "java/lang/Exception"]) hx hb hnt hown (by decide) (by decide) (hts (.classLink RX8 68 "java/lang/IllegalStateException") (by decide +kernel)) (hts (.initialized "java/lang/IllegalStateException") (by decide +kernel)) hsa (vx_hat (B := .castable "java/lang/IllegalStateException" "java/lang/IllegalStateException" :: [.declares (Bundle.initS "java/lang/RuntimeException"), .declares (Bundle.initS "java/lang/Exception"), .declares (Bundle.initS Bundle.tN)]) (fun w h => hts w ((by decide +kernel : ∀ w ∈ (vx_atS RX8 72 "java/lang/IllegalStateException" ["java/lang/RuntimeException", "java/lang/Exception"]).filter goodWord, w ∈ wsX8_word) w h)) (by decide +kernel) (vx_c (m_wo_cas hw (by decide)) (c_str_dc hcs))) (by decide +kernel) hw.2.1.1 hw.2.1.2.1 hw.2.2.2.1 (hl.1.trans hml.symm) dX8_word_35 dX8_word_38 dX8_word_39 dX8_word_41 dX8_word_44 (fun x hx9 => absurd (hxt x hx9) id) (Nat.le_of_ble_eq_true rfl) (Nat.le_of_ble_eq_true rfl) (Nat.le_of_ble_eq_true rfl) (Nat.le_of_ble_eq_true rfl) hlocks (fun t hA9 hs9 hq9 => ⟨(), (by rw [htz]; decide), ⟨(by rw [htz]; rfl), m_wo_up hw hA9 hs9 hq9⟩, m_wo_uF hw hs9 hq9⟩) (m_wo_L hw) (Nat.le_of_ble_eq_true rfl) (Nat.le_of_ble_eq_true rfl)
