theorem o_ways_congr {a a' : Nat → Nat → Nat} {g g' : Nat → Nat} : ∀ {K : Nat}, (∀ k, k ≤ K → ∀ p, a k p = a' k p) → (∀ k, 1 ≤ k → k ≤ K → g k = g' k) → ∀ p, o_ways a g K p = o_ways a' g' K p
  | 0, ha, _, p => ha 0 (Nat.le_refl _) p
  | K + 1, ha, hg, p => by
    have ih := o_ways_congr (K := K) (fun k hk => ha k (by omega)) (fun k h1 hk => hg k h1 (by omega))
    simp only [o_ways]
    rw [ha (K + 1) (Nat.le_refl _) p, hg (K + 1) (by omega) (Nat.le_refl _)]
    have e : o_win (o_ways a g K) p (g' (K + 1)) = o_win (o_ways a' g' K) p (g' (K + 1)) := sumN_congr (fun k _ => ih _)
    rw [e]
theorem o_askK_27 (S : mS) {n k sh : Nat} (h : S.2 22 sh = nI n) (hn : n ≤ 4) (hk : k < n) : (o_askK S sh).2 27 k = S.2 23 (4 * sh + k) := by
  unfold o_askK
  dsimp only
  rw [mset_n _ _ (by decide), mset_s, h, nI_clamp (by omega)]
  exact if_pos hk
theorem o_at_of {M M' : mM} (h11 : M' 11 = M 11) (h12 : M' 12 = M 12) (h13 : M' 13 = M 13) (h14 : M' 14 = M 14) (h16 : M' 16 = M 16) (nf : Nat) (wd isl pl : Int32) : o_at M' nf wd isl pl = o_at M nf wd isl pl := by
  unfold o_at o_pst
  rw [h11, h12, h13, h14, h16]
theorem o_askK_n (S : mS) (sh : Nat) {j : Nat} (h : j ≠ 27) (h8 : j ≠ 28) : (o_askK S sh).2 j = S.2 j := (mset_n _ _ h8).trans (mset_n _ _ h)
/-- the hits of a ship's map rest on the finds, its kept map and its place alone -/
theorem o_still_eq {Z Z' : mZ} {M M' : mM} {sh n : Nat} (hz : Z' 1 = Z 1) (hj : ∀ j, 11 ≤ j → j ≤ 24 → j ≠ 15 → j ≠ 17 → j ≠ 18 → j ≠ 19 → j ≠ 20 → j ≠ 21 → j ≠ 22 → M' j = M j) (h18 : M' 18 sh = M 18 sh) (h22 : M' 22 sh = M 22 sh) (hn : M 22 sh = nI n) (h1 : 1 ≤ n) (h4 : n ≤ 4) : o_still Z' M' sh = o_still Z M sh := by
  have hn' : M' 22 sh = nI n := h22.trans hn
  have ez : zn (o_askK (Z, M) sh).1 30 = n := zn_of (o_askK_30 (Z, M) hn) (by omega)
  have ez' : zn (o_askK (Z', M') sh).1 30 = n := zn_of (o_askK_30 (Z', M') hn') (by omega)
  have e1 : zn (o_askK (Z', M') sh).1 1 = zn (o_askK (Z, M) sh).1 1 := by
    unfold zn
    rw [show (o_askK (Z', M') sh).1 1 = Z' 1 from z1_n Z' (i := 1) (j := 30) (M' 22 sh) (by decide), show (o_askK (Z, M) sh).1 1 = Z 1 from z1_n Z (i := 1) (j := 30) (M 22 sh) (by decide), hz]
  have hA : ∀ j, 11 ≤ j → j ≤ 16 → j ≠ 15 → (o_askK (Z', M') sh).2 j = (o_askK (Z, M) sh).2 j := fun j a b c => by
    rw [o_askK_n _ _ (by omega) (by omega), o_askK_n _ _ (by omega) (by omega)]
    exact hj j a (by omega) c (by omega) (by omega) (by omega) (by omega) (by omega) (by omega)
  unfold o_still o_hitsOn
  rw [ez, ez', e1, h18]
  unfold o_hits
  refine sumN_congr (fun p _ => o_ways_congr (fun k hk p => ?_) (fun k h1 hk => ?_) p)
  · rw [o_askK_27 (Z', M') hn' h4 (by omega), o_askK_27 (Z, M) hn h4 (by omega), show (Z', M').2 23 = (Z, M).2 23 from hj 23 (by omega) (by omega) (by omega) (by omega) (by omega) (by omega) (by omega) (by omega) (by omega)]
    exact o_at_of (hA 11 (by omega) (by omega) (by omega)) (hA 12 (by omega) (by omega) (by omega)) (hA 13 (by omega) (by omega) (by omega)) (hA 14 (by omega) (by omega) (by omega)) (hA 16 (by omega) (by omega) (by omega)) _ _ _ _
  · rw [o_askK_28 (Z', M') hn' h4 (by omega), o_askK_28 (Z, M) hn h4 (by omega), show (Z', M').2 24 = (Z, M).2 24 from hj 24 (by omega) (by omega) (by omega) (by omega) (by omega) (by omega) (by omega) (by omega) (by omega)]
def o_back (M : mM) (s : Nat) : mM := m1 (m1 (m1 (if M 21 s = -1 then M else m1 (m1 M 19 s (M 19 s - o_pay M s (M 21 s))) 10 (M 18 s).toNatClampNeg 0) 21 s (-1)) 18 s (M 20 s)) 22 s 0
def o_goes (Z : mZ) (M : mM) (s : Nat) : Bool := !decide (M 22 s = 0) && decide (o_still Z M s = 0)
def o_bk (Z : mZ) (M : mM) : Nat → Nat × mM
  | 0 => (0, M)
  | s + 1 => if o_goes Z (o_bk Z M s).2 s = true then ((o_bk Z M s).1 + 1, o_back (o_bk Z M s).2 s) else o_bk Z M s
def t_strike (Z : mZ) (M : mM) (v : Int32) : Int32 := if o_rng v 0 (Z 1 - 1) = true then (if M 16 v.toNatClampNeg = 0 then 0 else 2) else 1
def o_fine (M : mM) (f : Nat) : mM := if M 15 f = -1 then M else m1 M 19 (M 15 f).toNatClampNeg (M 19 (M 15 f).toNatClampNeg - o_pay M (M 15 f).toNatClampNeg 10)
def p_strike (Z : mZ) (M : mM) (f : Nat) : Nat × mM := o_bk Z (o_fine (m1 M 16 f 1) f) (zn Z 2)
theorem o_back_n (M : mM) (s : Nat) {j : Nat} (h0 : j ≠ 10) (h8 : j ≠ 18) (h9 : j ≠ 19) (h1 : j ≠ 21) (h2 : j ≠ 22) : o_back M s j = M j := by
  unfold o_back
  rw [m1_n _ _ h2, m1_n _ _ h8, m1_n _ _ h1]
  split
  · rfl
  · rw [m1_n _ _ h0, m1_n _ _ h9]
theorem m1_k (M : mM) (j k : Nat) (v : Int32) {i k' : Nat} (h : k' ≠ k) : m1 M j k v i k' = M i k' := by
  unfold m1
  split
  · rename_i e; subst e; exact if_neg h
  · rfl
theorem o_back_k (M : mM) (s : Nat) {j k : Nat} (hj : j ≠ 10) (hk : k ≠ s) : o_back M s j k = M j k := by
  unfold o_back
  rw [m1_k _ _ _ _ hk, m1_k _ _ _ _ hk, m1_k _ _ _ _ hk]
  split
  · rfl
  · rw [m1_n _ _ hj, m1_k _ _ _ _ hk]
theorem o_bk_n (Z : mZ) (M : mM) {j : Nat} (h0 : j ≠ 10) (h8 : j ≠ 18) (h9 : j ≠ 19) (h1 : j ≠ 21) (h2 : j ≠ 22) : ∀ s, (o_bk Z M s).2 j = M j
  | 0 => rfl
  | s + 1 => by
    simp only [o_bk]
    split
    · exact (o_back_n _ _ h0 h8 h9 h1 h2).trans (o_bk_n Z M h0 h8 h9 h1 h2 s)
    · exact o_bk_n Z M h0 h8 h9 h1 h2 s
theorem o_bk_k (Z : mZ) (M : mM) {j k : Nat} (h0 : j ≠ 10) : ∀ s, s ≤ k → (o_bk Z M s).2 j k = M j k
  | 0, _ => rfl
  | s + 1, h => by
    simp only [o_bk]
    split
    · exact (o_back_k _ _ h0 (by omega)).trans (o_bk_k Z M h0 s (by omega))
    · exact o_bk_k Z M h0 s (by omega)
theorem o_bk_le (Z : mZ) (M : mM) : ∀ s, (o_bk Z M s).1 ≤ s
  | 0 => Nat.le_refl _
  | s + 1 => by
    have := o_bk_le Z M s
    simp only [o_bk]
    split
    · exact Nat.succ_le_succ this
    · omega
theorem o_fine_n (M : mM) (f : Nat) {j : Nat} (h : j ≠ 19) : o_fine M f j = M j := by
  unfold o_fine
  split
  · rfl
  · exact m1_n _ _ h
set_option maxHeartbeats 1600000 in
set_option maxRecDepth 100000 in
theorem c_X9_strike (l : Launch) {G : mG} {K : Nat → Nat} {I : Nat → Nat → Int32} {R : Nat → Nat → Option Nat} {F : Nat → UInt32} {A : Nat → Nat → Int32} {N : Nat → Nat} {L : Nat → List Nat} {T : Nat → List Int32} {J : Nat → Nat → Int64} {D : Nat → Nat → UInt64} {o : Nat} {ad : Nat → Nat} {Z : Nat → Int32} {M : Nat → Nat → Int32} {th : Int32} {nf ns : Nat} (v : Int32) (hro : r_ok K R N o ad) (hz : r_st K o ad I A I A Z M th) (hnf : Z 1 = nI nf) (hn : nf ≤ 120) (hns : Z 2 = nI ns) (hn5 : ns ≤ 5) (hw9 : ∀ s, s < ns → o_shW M s) (h15 : ∀ f, f < nf → M 15 f = -1 ∨ ∃ s, s < ns ∧ M 15 f = nI s) (hlt : ∀ s, o_still Z (m1 M 16 v.toNatClampNeg 1) s < 2 ^ 31) : Met l yX9_strike wsX9_strike ({ frames := 5, cells := 0, slots := 0, locals := 160 } : Room) (va_Pc [.ref o, .int v] (m_B G K I R F A N L T J D)) (va_Qi (fun (r : Int32) (u : (Nat → Nat → Int32) × (Nat → Nat → Int32)) => (∃ (Z' : Nat → Int32) (M' : Nat → Nat → Int32), r_st K o ad I A u.1 u.2 Z' M' (t_strike Z M v) ∧ o_sc (if t_strike Z M v = 0 then (Z, (p_strike Z M v.toNatClampNeg).2) else (Z, M)) (Z', M')) ∧ (t_strike Z M v = 0 → r = nI (p_strike Z M v.toNatClampNeg).1)) (fun u : (Nat → Nat → Int32) × (Nat → Nat → Int32) => m_B G K (u.1) R F (u.2) N L T J D) (m_A G)) 0 0 (m_A G) := by
  refine Met.ofW (cc := cX9_strike) (maxL := 5) (ret := (some .int)) (by decide) rfl ?_
  intro p e s m args below meth c s₁ B hml hv
  obtain ⟨rfl, hB⟩ := hv
  have hx := B.exec
  have hb := B.bytes
  have hr := B.returns
  have hts := atoms_spec (ws := wsX9_strike) B.pre
  have hown : s.vm.findClass RX9 = some m.cls := findClass_of_methodNamed B.named
  have hlocks := B.notSynchronized
  have hw := m_wo_in hB
  have hl := lv_entry ([.ref o, .int v]) (n := 5) (Nat.le_of_ble_eq_true rfl)
  rw [lg_entry_eq]
  generalize (lg_sl ([.ref o, .int v]) ++ List.replicate (5 - (lg_sl ([.ref o, .int v])).length) Slot.unset).toArray = ls at hl ⊢
  have hl : lv_has ls 5 [(0, .ref o), (1, .int v)] := hl
  have his := hz
  refine lv_aload_n hx hb dX9_strike_0 rfl (lv_at hl 0 rfl) ?_
  refine lv_iload_n hx hb dX9_strike_1 rfl (lv_at hl 1 rfl) ?_
  refine lv_iconst (v := 0) hx hb dX9_strike_2 (by decide) ?_
  refine lv_aload_n hx hb dX9_strike_3 rfl (lv_at hl 0 rfl) ?_
  refine g_10_1 hx hb hts (by decide +kernel) hown hw hro.1 (hts (.fieldLink RX9 118 "PirateindexModel" "finds" "I") (by decide +kernel)) dX9_strike_4 ?_
  rw [show I 1001 o = Z 1 from his.1 1 (by decide)]
  refine lv_iconst (v := 1) hx hb dX9_strike_7 (by decide) ?_
  refine lv_isub hx hb dX9_strike_8 ?_
  refine m_ci (va_runS (As := [.int v, .int 0, .int ((Z 1) - 1)]) (rest := [.ref o]) ⟨hx, hb, hml, hown, hts⟩ (c_X9_isIn l v 0 ((Z 1) - 1)) (va_cwS 3 hts gX9_strike_X9_isIn rfl rfl rfl (by decide +kernel) ⟨Nat.le_of_ble_eq_true rfl, Nat.le_of_ble_eq_true rfl⟩) ⟨m_blind m_B_calling, fun U hU hW => ⟨rfl, m_wo_call hw hU hW⟩⟩ rfl rfl hl.1 rfl (lv_room (Nat.le_of_ble_eq_true rfl)) dX9_strike_9 ⟨Nat.le_of_ble_eq_true rfl, Nat.le_of_ble_eq_true rfl⟩) hw (fun r_9 u_9 H locs hp_9 hw => ?_)
  obtain rfl : r_9 = (b2i (o_rng v 0 ((Z 1) - 1))) := hp_9
  refine lv_iconst (v := 1) hx hb dX9_strike_12 (by decide) ?_
  refine m_ci (va_runV (As := [.int (b2i (o_rng v 0 ((Z 1) - 1))), .int 1]) (rest := []) ⟨hx, hb, hml, hown, hts⟩ (c_X9_no l (Z := Z) (M := M) (th := th) (o_rng v 0 ((Z 1) - 1)) 1 hro (r_st_self his) ) (cwV 2 hts gX9_strike_X9_no rfl rfl rfl (by decide +kernel) ⟨Nat.le_of_ble_eq_true rfl, Nat.le_of_ble_eq_true rfl⟩) ⟨m_blind m_B_calling, m_recv hw (m_ent_10 hro.1) rfl, fun U hU hW => ⟨rfl, m_wo_call hw hU hW⟩⟩ rfl rfl hl.1 rfl (lv_room (Nat.le_of_ble_eq_true rfl)) dX9_strike_13 ⟨Nat.le_of_ble_eq_true rfl, Nat.le_of_ble_eq_true rfl⟩) hw (fun r_13 u_13 H locs hp_13 hw => ?_)
  obtain ⟨I_1, A_2⟩ := u_13
  have hw : m_wo G K I_1 R F A_2 N L T J D s H locs := hw
  dsimp only at hp_13
  have his := r_st_tr his hp_13.1
  obtain rfl : r_13 = (b2i (!(o_rng v 0 ((Z 1) - 1)))) := hp_13.2
  refine lv_if_ne (tgt := 41) hx hb dX9_strike_16 (by decide) (fun c_16 => ?_) (fun c_16 => ?_)
  · skip
    have q_16 : (o_rng v 0 ((Z 1) - 1)) = false := by first | (have := (b2i_ne _).mp c_16; simpa using this) | (have := (b2i_eq _).mp c_16; simpa using this)
    refine lv_iconst (v := 0) hx hb dX9_strike_41 (by decide) ?_
    exact W.iret (v := 0) hx hb hr (fun t ht hW => ⟨⟨0, (I_1, A_2), rfl, (by have ht : t_strike Z M v = 1 := (by simp [t_strike, q_16]); have hth : ((if (o_rng v 0 ((Z 1) - 1)) then 0 else 1) : Int32) = 1 := (by first | rfl | simp [q_16]); rw [hth] at his; rw [ht]; exact ⟨⟨Z, M, his, o_sc_rf _⟩, fun h => absurd h (by decide)⟩), m_wo_out hw ht hW.alike⟩, m_wo_F hw ht⟩) (m_wo_L hw) dX9_strike_42
  · skip
    have q_16 : (o_rng v 0 ((Z 1) - 1)) = true := by first | (have := (b2i_ne _).mp c_16; simpa using this) | (have := (b2i_eq _).mp c_16; simpa using this)
    have hisK := his
    obtain ⟨f9, hf, rfl⟩ := o_fnd_nat q_16 hnf (by omega)
    have his := hisK
    have hcf : (nI f9).toNatClampNeg = f9 := nI_clamp (by omega)
    rw [hcf] at hlt
    refine lv_aload_n hx hb dX9_strike_19 rfl (lv_at hl 0 rfl) ?_
    refine lv_aload_n hx hb dX9_strike_20 rfl (lv_at hl 0 rfl) ?_
    refine g_10_16 (r := some (ad 16)) hx hb hts (by decide +kernel) hown hw hro.1 (hts (.fieldLink RX9 38 "PirateindexModel" "struck" "[Z") (by decide +kernel)) (hro.2.1 16 rfl).1 dX9_strike_21 ?_
    refine lv_iload_n hx hb dX9_strike_24 rfl (lv_at hl 1 rfl) ?_
    refine m_baload_30 hx hb hw (hro.2.1 16 rfl).2.1 (r_in hro 16 rfl (n := 120) rfl (by omega)) dX9_strike_25 ?_
    rw [show A_2 (ad 16) = M 16 from his.2.1 16 rfl]
    rw [nI_clamp (show f9 < 2 ^ 31 by omega)]
    refine lv_if_ne (tgt := 33) hx hb dX9_strike_26 (by decide) (fun c_26 => ?_) (fun c_26 => ?_)
    · skip
      have ht3 : t_strike Z M (nI f9) = 2 := by unfold t_strike; rw [if_pos q_16, hcf, if_neg c_26]
      refine lv_iconst (v := 0) hx hb dX9_strike_33 (by decide) ?_
      refine lv_iconst (v := 2) hx hb dX9_strike_34 (by decide) ?_
      refine m_ci (va_runV (As := [.int 0, .int 2]) (rest := []) ⟨hx, hb, hml, hown, hts⟩ (c_X9_no l (Z := Z) (M := M) (th := (if (o_rng (nI f9) 0 ((Z 1) - 1)) then 0 else 1)) false 2 hro (r_st_self his) ) (cwV 2 hts gX9_strike_X9_no rfl rfl rfl (by decide +kernel) ⟨Nat.le_of_ble_eq_true rfl, Nat.le_of_ble_eq_true rfl⟩) ⟨m_blind m_B_calling, m_recv hw (m_ent_10 hro.1) rfl, fun U hU hW => ⟨rfl, m_wo_call hw hU hW⟩⟩ rfl rfl hl.1 rfl (lv_room (Nat.le_of_ble_eq_true rfl)) dX9_strike_35 ⟨Nat.le_of_ble_eq_true rfl, Nat.le_of_ble_eq_true rfl⟩) hw (fun r_35 u_35 H locs hp_35 hw => ?_)
      obtain ⟨I_3, A_4⟩ := u_35
      have hw : m_wo G K I_3 R F A_4 N L T J D s H locs := hw
      dsimp only at hp_35
      have his := r_st_tr his hp_35.1
      obtain rfl : r_35 = (b2i (!false)) := hp_35.2
      refine lv_if_eq (tgt := 43) hx hb dX9_strike_38 (by decide) (fun c_38 => absurd c_38 (by decide)) (fun c_38 => ?_)
      refine lv_iconst (v := 0) hx hb dX9_strike_41 (by decide) ?_
      exact W.iret (v := 0) hx hb hr (fun t ht hW => ⟨⟨0, (I_3, A_4), rfl, (by rw [ht3]; exact ⟨⟨Z, M, his, o_sc_rf _⟩, fun h => absurd h (by decide)⟩), m_wo_out hw ht hW.alike⟩, m_wo_F hw ht⟩) (m_wo_L hw) dX9_strike_42
    · skip
      have ht3 : t_strike Z M (nI f9) = 0 := by unfold t_strike; rw [if_pos q_16, hcf, if_pos c_26]
      refine lv_iconst (v := 1) hx hb dX9_strike_29 (by decide) ?_
      refine lv_goto (tgt := 34) hx hb dX9_strike_30 (by decide) ?_
      refine lv_iconst (v := 2) hx hb dX9_strike_34 (by decide) ?_
      refine m_ci (va_runV (As := [.int 1, .int 2]) (rest := []) ⟨hx, hb, hml, hown, hts⟩ (c_X9_no l (Z := Z) (M := M) (th := (if (o_rng (nI f9) 0 ((Z 1) - 1)) then 0 else 1)) true 2 hro (r_st_self his) ) (cwV 2 hts gX9_strike_X9_no rfl rfl rfl (by decide +kernel) ⟨Nat.le_of_ble_eq_true rfl, Nat.le_of_ble_eq_true rfl⟩) ⟨m_blind m_B_calling, m_recv hw (m_ent_10 hro.1) rfl, fun U hU hW => ⟨rfl, m_wo_call hw hU hW⟩⟩ rfl rfl hl.1 rfl (lv_room (Nat.le_of_ble_eq_true rfl)) dX9_strike_35 ⟨Nat.le_of_ble_eq_true rfl, Nat.le_of_ble_eq_true rfl⟩) hw (fun r_35 u_35 H locs hp_35 hw => ?_)
      obtain ⟨I_5, A_6⟩ := u_35
      have hw : m_wo G K I_5 R F A_6 N L T J D s H locs := hw
      dsimp only at hp_35
      have his := r_st_tr his hp_35.1
      obtain rfl : r_35 = (b2i (!true)) := hp_35.2
      refine lv_if_eq (tgt := 43) hx hb dX9_strike_38 (by decide) (fun c_38 => ?_) (fun c_38 => absurd (by decide) c_38)
      refine lv_aload_n hx hb dX9_strike_43 rfl (lv_at hl 0 rfl) ?_
      refine g_10_16 (r := some (ad 16)) hx hb hts (by decide +kernel) hown hw hro.1 (hts (.fieldLink RX9 38 "PirateindexModel" "struck" "[Z") (by decide +kernel)) (hro.2.1 16 rfl).1 dX9_strike_44 ?_
      refine lv_iload_n hx hb dX9_strike_47 rfl (lv_at hl 1 rfl) ?_
      refine lv_iconst (v := 1) hx hb dX9_strike_48 (by decide) ?_
      refine m_bastore_30 hx hb hw (hro.2.1 16 rfl).2.1 (r_in hro 16 rfl (n := 120) rfl (by omega)) (Or.inr rfl) dX9_strike_49 (fun H locs hw => ?_)
      obtain ⟨A_7, eA_7⟩ : ∃ z, z = m_up A_6 (ad 16) (upd (A_6 (ad 16)) (nI f9).toNatClampNeg 1) := ⟨_, rfl⟩
      rw [← eA_7] at hw
      obtain ⟨M_8, eM_8⟩ : ∃ z, z = m1 M 16 f9 1 := ⟨_, rfl⟩
      have his : r_st K o ad I A I_5 A_7 Z M_8 0 := by rw [eA_7, eM_8, nI_clamp (show f9 < 2 ^ 31 by omega)]; exact r_st_m his hro 16 rfl f9 1
      refine lv_aload_n hx hb dX9_strike_50 rfl (lv_at hl 0 rfl) ?_
      refine g_10_15 (r := some (ad 15)) hx hb hts (by decide +kernel) hown hw hro.1 (hts (.fieldLink RX9 35 "PirateindexModel" "rival" "[I") (by decide +kernel)) (hro.2.1 15 rfl).1 dX9_strike_51 ?_
      refine lv_iload_n hx hb dX9_strike_54 rfl (lv_at hl 1 rfl) ?_
      refine m_iaload_20 hx hb hw (hro.2.1 15 rfl).2.1 (r_in hro 15 rfl (n := 120) rfl (by omega)) dX9_strike_55 ?_
      rw [show A_7 (ad 15) = M_8 15 from his.2.1 15 rfl]
      rw [nI_clamp (show f9 < 2 ^ 31 by omega)]
      rw [show M_8 15 f9 = M 15 f9 from by rw [eM_8, m1_n _ _ (by decide)]]
      refine lv_iconst (v := (-1)) hx hb dX9_strike_56 (by decide) ?_
      refine lv_icmp_ne (tgt := 64) hx hb dX9_strike_57 (by decide) (fun c_57 => ?_) (fun c_57 => ?_)
      · skip
        obtain ⟨s9, hs9, hr9⟩ := (h15 f9 hf).resolve_left c_57
        refine lv_aload_n hx hb dX9_strike_64 rfl (lv_at hl 0 rfl) ?_
        refine lv_aload_n hx hb dX9_strike_65 rfl (lv_at hl 0 rfl) ?_
        refine g_10_15 (r := some (ad 15)) hx hb hts (by decide +kernel) hown hw hro.1 (hts (.fieldLink RX9 35 "PirateindexModel" "rival" "[I") (by decide +kernel)) (hro.2.1 15 rfl).1 dX9_strike_66 ?_
        refine lv_iload_n hx hb dX9_strike_69 rfl (lv_at hl 1 rfl) ?_
        refine m_iaload_20 hx hb hw (hro.2.1 15 rfl).2.1 (r_in hro 15 rfl (n := 120) rfl (by omega)) dX9_strike_70 ?_
        rw [show A_7 (ad 15) = M_8 15 from his.2.1 15 rfl]
        rw [nI_clamp (show f9 < 2 ^ 31 by omega)]
        rw [show M_8 15 f9 = nI s9 from by rw [eM_8, m1_n _ _ (by decide)]; exact hr9]
        refine lv_bipush (v := 10) hx hb dX9_strike_71 (by decide) ?_
        refine m_ci (va_runV (As := [.int (nI s9), .int 10]) (rest := []) ⟨hx, hb, hml, hown, hts⟩ (c_X9_pays l (Z := Z) (M := M_8) (th := 0) s9 10 hro (r_st_self his) (by omega)) (cwV 2 hts gX9_strike_X9_pays rfl rfl rfl (by decide +kernel) ⟨Nat.le_of_ble_eq_true rfl, Nat.le_of_ble_eq_true rfl⟩) ⟨m_blind m_B_calling, m_recv hw (m_ent_10 hro.1) rfl, fun U hU hW => ⟨rfl, m_wo_call hw hU hW⟩⟩ rfl rfl hl.1 rfl (lv_room (Nat.le_of_ble_eq_true rfl)) dX9_strike_73 ⟨Nat.le_of_ble_eq_true rfl, Nat.le_of_ble_eq_true rfl⟩) hw (fun r_73 u_73 H locs hp_73 hw => ?_)
        obtain ⟨I_9, A_10⟩ := u_73
        have hw : m_wo G K I_9 R F A_10 N L T J D s H locs := hw
        dsimp only at hp_73
        have his := r_st_tr his hp_73.1
        obtain ⟨M_11, eM_11⟩ : ∃ z : Nat → Nat → Int32, z = (m1 M_8 19 s9 (M_8 19 s9 - o_pay M_8 s9 10)) := ⟨_, rfl⟩
        rw [← eM_11] at his
        obtain rfl : r_73 = (o_pay M_8 s9 10) := hp_73.2
        refine lv_istore_n (lv' := [(2, .int (o_pay M_8 s9 10)), (0, .ref o), (1, .int (nI f9))]) hx hb dX9_strike_76 rfl hl (by decide) rfl (fun ls hl => ?_)
        refine lv_iconst (v := 0) hx hb dX9_strike_77 (by decide) ?_
        refine lv_istore_n (lv' := [(3, .int 0), (2, .int (o_pay M_8 s9 10)), (0, .ref o), (1, .int (nI f9))]) hx hb dX9_strike_78 rfl hl (by decide) rfl (fun ls hl => ?_)
        obtain ⟨Mf, eMf⟩ : ∃ z, z = M_11 := ⟨_, rfl⟩
        rw [← eMf] at his
        have eF : Mf = o_fine (m1 M 16 f9 1) f9 := by unfold o_fine; rw [show m1 M 16 f9 1 15 f9 = nI s9 from (congrFun (m1_n _ _ (by decide)) f9).trans hr9, if_neg (nI_nm1 (by omega)), nI_clamp (by omega), eMf]; simp only [eM_8, eM_11]
        have eF1 : ∀ j, j ≠ 16 → j ≠ 19 → Mf j = M j := fun j a b => by rw [eF, o_fine_n _ _ b]; exact m1_n _ _ a
        have eF2 : ∀ j, j ≠ 19 → Mf j = m1 M 16 f9 1 j := fun j b => by rw [eF]; exact o_fine_n _ _ b
        refine lv_iconst (v := 0) hx hb dX9_strike_79 (by decide) ?_
        refine lv_istore (lv' := [(4, .int 0), (3, .int 0), (2, .int (o_pay M_8 s9 10)), (0, .ref o), (1, .int (nI f9))]) hx hb dX9_strike_80 hl (by decide) rfl (fun ls hl => ?_)
        refine m_loop (σ := Nat × Int32 × (Nat → Nat → Int32) × (Nat → Nat → Int32) × (Nat → Int32) × (Nat → Nat → Int32)) (fun a => ns - (a.1)) (fun a H locs ls => ((a.1) ≤ ns ∧ r_st K o ad I A (a.2.2.1) (a.2.2.2.1) (a.2.2.2.2.1) (a.2.2.2.2.2) 0 ∧ o_sc (Z, (o_bk Z Mf (a.1)).2) ((a.2.2.2.2.1), (a.2.2.2.2.2))) ∧ m_wo G K (a.2.2.1) R F (a.2.2.2.1) N L T J D s H locs ∧ lv_has ls 5 [(0, .ref o), (1, .int (nI f9)), (2, .int (a.2.1)), (3, .int (nI (o_bk Z Mf (a.1)).1)), (4, .int (nI (a.1)))]) ?_ (0, (o_pay M_8 s9 10), I_9, A_10, Z, Mf) ⟨⟨Nat.zero_le _, his, o_sc_rf _⟩, hw, lv_sub hl [3, 4, 2, 1, 0] rfl⟩
        rintro ⟨sv, x, Ii, Aa, Zi, Mi⟩ H locs ls ⟨hinv, hw, hl⟩ ih
        dsimp only at hinv hw hl
        obtain ⟨hs0, his, hsc⟩ := hinv
        obtain ⟨Mc, eMc⟩ : ∃ z, z = (o_bk Z Mf sv).2 := ⟨_, rfl⟩
        obtain ⟨cb, ecb⟩ : ∃ z, z = (o_bk Z Mf sv).1 := ⟨_, rfl⟩
        rw [← ecb] at hl
        rw [← eMc] at hsc
        refine lv_iload hx hb dX9_strike_82 (lv_at hl 4 rfl) ?_
        refine lv_aload_n hx hb dX9_strike_84 rfl (lv_at hl 0 rfl) ?_
        refine g_10_2 hx hb hts (by decide +kernel) hown hw hro.1 (hts (.fieldLink RX9 105 "PirateindexModel" "ships" "I") (by decide +kernel)) dX9_strike_85 ?_
        rw [show Ii 1002 o = Zi 2 from his.1 2 (by decide)]
        rw [show Zi 2 = nI ns from (hsc.1 2 (by decide)).trans hns]
        refine lv_icmp_ge (tgt := 192) hx hb dX9_strike_88 (by decide) (fun c_88 => ?_) (fun c_88 => ?_)
        · skip
          rw [nI_leI (by omega) (by omega)] at c_88
          have hs1 : sv = ns := by omega
          rw [hs1] at ecb eMc
          refine lv_iload_n hx hb dX9_strike_192 rfl (lv_at hl 3 rfl) ?_
          exact W.iret (v := nI cb) hx hb hr (fun t ht hW => ⟨⟨nI cb, (Ii, Aa), rfl, (by rw [ht3, if_pos rfl]; (try rw [hcf]); unfold p_strike; rw [← eF, zn_of hns (by omega), ← eMc, ← ecb]; exact ⟨⟨Zi, Mi, his, hsc⟩, fun _ => rfl⟩), m_wo_out hw ht hW.alike⟩, m_wo_F hw ht⟩) (m_wo_L hw) dX9_strike_193
        · skip
          rw [nI_leI (by omega) (by omega)] at c_88
          have hs1 : sv < ns := by omega
          obtain ⟨⟨q, hq12, hat⟩, n9, h4, hk9, hg9⟩ := hw9 sv hs1
          have hc18 : Mc 18 sv = M 18 sv := by rw [eMc, o_bk_k Z Mf (by decide) sv (Nat.le_refl _), eF1 18 (by decide) (by decide)]
          have hc22 : Mc 22 sv = M 22 sv := by rw [eMc, o_bk_k Z Mf (by decide) sv (Nat.le_refl _), eF1 22 (by decide) (by decide)]
          have hcj : ∀ j, 11 ≤ j → j ≤ 24 → j ≠ 15 → j ≠ 17 → j ≠ 18 → j ≠ 19 → j ≠ 20 → j ≠ 21 → j ≠ 22 → Mc j = m1 M 16 f9 1 j := fun j a b c d e9 f g h k => by rw [eMc, o_bk_n Z Mf (by omega) e9 f h k sv, eF2 j f]
          refine lv_aload_n hx hb dX9_strike_91 rfl (lv_at hl 0 rfl) ?_
          refine g_10_22 (r := some (ad 22)) hx hb hts (by decide +kernel) hown hw hro.1 (hts (.fieldLink RX9 56 "PirateindexModel" "kept" "[I") (by decide +kernel)) (hro.2.1 22 rfl).1 dX9_strike_92 ?_
          refine lv_iload hx hb dX9_strike_95 (lv_at hl 4 rfl) ?_
          refine m_iaload_20 hx hb hw (hro.2.1 22 rfl).2.1 (r_in hro 22 rfl (n := 5) rfl (by omega)) dX9_strike_97 ?_
          rw [show Aa (ad 22) = Mi 22 from his.2.1 22 rfl]
          rw [nI_clamp (show sv < 2 ^ 31 by omega)]
          rw [show Mi 22 sv = nI n9 from by rw [(show Mi 22 = Mc 22 from hsc.2 22 (by decide) (by decide) (by decide) (by decide)), hc22]; exact hk9]
          refine lv_if_eq (tgt := 186) hx hb dX9_strike_98 (by decide) (fun c_98 => ?_) (fun c_98 => ?_)
          · skip
            rw [show (0 : Int32) = nI 0 from rfl, nI_eq (by omega) (by decide)] at c_98
            have hgo : o_goes Z Mc sv = false := by unfold o_goes; rw [hc22, hk9, c_98]; rfl
            have hbk : o_bk Z Mf (sv + 1) = o_bk Z Mf sv := by simp only [o_bk]; rw [← eMc, hgo]; rfl
            have hb2 : (o_bk Z Mf (sv + 1)).1 = cb := by rw [hbk]; exact ecb.symm
            rw [← hb2] at hl
            refine lv_iinc (v := nI (sv + 1)) (lv' := [(4, .int (nI (sv + 1))), (0, .ref o), (1, .int (nI f9)), (2, .int x), (3, .int (nI (o_bk Z Mf (sv + 1)).1))]) hx hb dX9_strike_186 hl (k := 4) rfl (nI_1 _) (by decide) rfl (fun ls hl => ?_)
            refine lv_goto (tgt := 82) hx hb dX9_strike_189 (by decide) ?_
            exact ih (sv + 1, x, Ii, Aa, Zi, Mi) _ _ _ (by dsimp only; omega) ⟨⟨by omega, his, by rw [hbk, ← eMc]; exact hsc⟩, hw, lv_sub hl [1, 2, 3, 4, 0] rfl⟩
          · skip
            rw [show (0 : Int32) = nI 0 from rfl, nI_eq (by omega) (by decide)] at c_98
            have h22n : ¬ Mc 22 sv = 0 := by rw [hc22, hk9, show (0 : Int32) = nI 0 from rfl, nI_eq (by omega) (by decide)]; exact c_98
            have hst : o_still Zi Mi sv = o_still Z Mc sv := o_still_eq (hsc.1 1 (by decide)) (fun j a b _ _ _ _ _ _ _ => hsc.2 j (by omega) (by omega) (by omega) (by omega)) (congrFun (hsc.2 18 (by decide) (by decide) (by decide) (by decide)) sv) (congrFun (hsc.2 22 (by decide) (by decide) (by decide) (by decide)) sv) (hc22.trans hk9) (by omega) h4
            have hst2 : o_still Z Mc sv = o_still Z (m1 M 16 f9 1) sv := o_still_eq rfl hcj (hc18.trans (congrFun (m1_n _ _ (by decide)) sv).symm) (hc22.trans (congrFun (m1_n _ _ (by decide)) sv).symm) ((congrFun (m1_n _ _ (by decide)) sv).trans hk9) (by omega) h4
            have hlt9 := hlt sv
            refine lv_aload_n hx hb dX9_strike_101 rfl (lv_at hl 0 rfl) ?_
            refine lv_iload hx hb dX9_strike_102 (lv_at hl 4 rfl) ?_
            refine m_ci (va_runV (As := [.int (nI sv)]) (rest := []) ⟨hx, hb, hml, hown, hts⟩ (c_X9_isStill l (Z := Zi) (M := Mi) (th := 0) sv hro (r_st_self his) ((hsc.1 1 (by decide)).trans hnf) hn (by rw [(show Mi 22 = Mc 22 from hsc.2 22 (by decide) (by decide) (by decide) (by decide)), hc22]; exact hk9) (by omega) h4 (by omega) (fun k h1 h2 => by rw [(show Mi 24 = Mc 24 from hsc.2 24 (by decide) (by decide) (by decide) (by decide)), hcj 24 (by decide) (by decide) (by decide) (by decide) (by decide) (by decide) (by decide) (by decide) (by decide)]; exact hg9 k h1 h2) (by rw [hst, hst2]; exact hlt9)) (cwV 1 hts gX9_strike_X9_isStill rfl rfl rfl (by decide +kernel) ⟨Nat.le_of_ble_eq_true rfl, Nat.le_of_ble_eq_true rfl⟩) ⟨m_blind m_B_calling, m_recv hw (m_ent_10 hro.1) rfl, fun U hU hW => ⟨rfl, m_wo_call hw hU hW⟩⟩ rfl rfl hl.1 rfl (lv_room (Nat.le_of_ble_eq_true rfl)) dX9_strike_104 ⟨Nat.le_of_ble_eq_true rfl, Nat.le_of_ble_eq_true rfl⟩) hw (fun r_104 u_104 H locs hp_104 hw => ?_)
            obtain ⟨I_12, A_13⟩ := u_104
            have hw : m_wo G K I_12 R F A_13 N L T J D s H locs := hw
            dsimp only at hp_104
            obtain ⟨⟨Z_14, M_15, hiM_15, hsM_15⟩, hrM_15⟩ := hp_104
            have his := r_st_tr his hiM_15
            obtain rfl : r_104 = (b2i (decide (0 < o_still Zi Mi sv))) := hrM_15
            refine lv_if_eq (tgt := 113) hx hb dX9_strike_107 (by decide) (fun c_107 => ?_) (fun c_107 => ?_)
            · skip
              have h107 := (b2i_eq _).mp c_107
              rw [hst, decide_eq_false_iff_not] at h107
              have hgo : o_goes Z Mc sv = true := by unfold o_goes; rw [decide_eq_false h22n, decide_eq_true (by omega)]; rfl
              have hsd := o_sc_tr hsc hsM_15
              refine lv_iinc (v := nI (cb + 1)) (lv' := [(3, .int (nI (cb + 1))), (0, .ref o), (1, .int (nI f9)), (2, .int x), (4, .int (nI sv))]) hx hb dX9_strike_113 hl (k := 3) rfl (nI_1 _) (by decide) rfl (fun ls hl => ?_)
              refine lv_aload_n hx hb dX9_strike_116 rfl (lv_at hl 1 rfl) ?_
              refine g_10_21 (r := some (ad 21)) hx hb hts (by decide +kernel) hown hw hro.1 (hts (.fieldLink RX9 53 "PirateindexModel" "took" "[I") (by decide +kernel)) (hro.2.1 21 rfl).1 dX9_strike_117 ?_
              refine lv_iload hx hb dX9_strike_120 (lv_at hl 4 rfl) ?_
              refine m_iaload_20 hx hb hw (hro.2.1 21 rfl).2.1 (r_in hro 21 rfl (n := 5) rfl (by omega)) dX9_strike_122 ?_
              rw [show A_13 (ad 21) = M_15 21 from his.2.1 21 rfl]
              rw [nI_clamp (show sv < 2 ^ 31 by omega)]
              rw [show M_15 21 sv = (Mc 21 sv) from by have h9 : M_15 21 = Mc 21 := (hsd.2 21 (by decide) (by decide) (by decide) (by decide)); simp [m1, h9]]
              refine lv_iconst (v := (-1)) hx hb dX9_strike_123 (by decide) ?_
              refine lv_icmp_eq (tgt := 156) hx hb dX9_strike_124 (by decide) (fun c_124 => ?_) (fun c_124 => ?_)
              · skip
                refine lv_aload_n hx hb dX9_strike_156 rfl (lv_at hl 1 rfl) ?_
                refine g_10_21 (r := some (ad 21)) hx hb hts (by decide +kernel) hown hw hro.1 (hts (.fieldLink RX9 53 "PirateindexModel" "took" "[I") (by decide +kernel)) (hro.2.1 21 rfl).1 dX9_strike_157 ?_
                refine lv_iload hx hb dX9_strike_160 (lv_at hl 4 rfl) ?_
                refine lv_iconst (v := (-1)) hx hb dX9_strike_162 (by decide) ?_
                refine m_iastore_20 hx hb hw (hro.2.1 21 rfl).2.1 (r_in hro 21 rfl (n := 5) rfl (by omega))  dX9_strike_163 (fun H locs hw => ?_)
                obtain ⟨A_16, eA_16⟩ : ∃ z, z = m_up A_13 (ad 21) (upd (A_13 (ad 21)) (nI sv).toNatClampNeg (-1)) := ⟨_, rfl⟩
                rw [← eA_16] at hw
                obtain ⟨M_17, eM_17⟩ : ∃ z, z = m1 M_15 21 sv (-1) := ⟨_, rfl⟩
                have his : r_st K o ad I A I_12 A_16 Z_14 M_17 0 := by rw [eA_16, eM_17, nI_clamp (show sv < 2 ^ 31 by omega)]; exact r_st_m his hro 21 rfl sv (-1)
                refine lv_aload_n hx hb dX9_strike_164 rfl (lv_at hl 1 rfl) ?_
                refine g_10_18 (r := some (ad 18)) hx hb hts (by decide +kernel) hown hw hro.1 (hts (.fieldLink RX9 44 "PirateindexModel" "stands" "[I") (by decide +kernel)) (hro.2.1 18 rfl).1 dX9_strike_165 ?_
                refine lv_iload hx hb dX9_strike_168 (lv_at hl 4 rfl) ?_
                refine lv_aload_n hx hb dX9_strike_170 rfl (lv_at hl 1 rfl) ?_
                refine g_10_20 (r := some (ad 20)) hx hb hts (by decide +kernel) hown hw hro.1 (hts (.fieldLink RX9 50 "PirateindexModel" "cameFrom" "[I") (by decide +kernel)) (hro.2.1 20 rfl).1 dX9_strike_171 ?_
                refine lv_iload hx hb dX9_strike_174 (lv_at hl 4 rfl) ?_
                refine m_iaload_20 hx hb hw (hro.2.1 20 rfl).2.1 (r_in hro 20 rfl (n := 5) rfl (by omega)) dX9_strike_176 ?_
                rw [show A_16 (ad 20) = M_17 20 from his.2.1 20 rfl]
                rw [nI_clamp (show sv < 2 ^ 31 by omega)]
                rw [show M_17 20 sv = (Mc 20 sv) from by have h9 : M_15 20 = Mc 20 := (hsd.2 20 (by decide) (by decide) (by decide) (by decide)); simp [eM_17, m1, h9]]
                refine m_iastore_20 hx hb hw (hro.2.1 18 rfl).2.1 (r_in hro 18 rfl (n := 5) rfl (by omega))  dX9_strike_177 (fun H locs hw => ?_)
                obtain ⟨A_18, eA_18⟩ : ∃ z, z = m_up A_16 (ad 18) (upd (A_16 (ad 18)) (nI sv).toNatClampNeg (Mc 20 sv)) := ⟨_, rfl⟩
                rw [← eA_18] at hw
                obtain ⟨M_19, eM_19⟩ : ∃ z, z = m1 M_17 18 sv (Mc 20 sv) := ⟨_, rfl⟩
                have his : r_st K o ad I A I_12 A_18 Z_14 M_19 0 := by rw [eA_18, eM_19, nI_clamp (show sv < 2 ^ 31 by omega)]; exact r_st_m his hro 18 rfl sv (Mc 20 sv)
                refine lv_aload_n hx hb dX9_strike_178 rfl (lv_at hl 1 rfl) ?_
                refine g_10_22 (r := some (ad 22)) hx hb hts (by decide +kernel) hown hw hro.1 (hts (.fieldLink RX9 56 "PirateindexModel" "kept" "[I") (by decide +kernel)) (hro.2.1 22 rfl).1 dX9_strike_179 ?_
                refine lv_iload hx hb dX9_strike_182 (lv_at hl 4 rfl) ?_
                refine lv_iconst (v := 0) hx hb dX9_strike_184 (by decide) ?_
                refine m_iastore_20 hx hb hw (hro.2.1 22 rfl).2.1 (r_in hro 22 rfl (n := 5) rfl (by omega))  dX9_strike_185 (fun H locs hw => ?_)
                obtain ⟨A_20, eA_20⟩ : ∃ z, z = m_up A_18 (ad 22) (upd (A_18 (ad 22)) (nI sv).toNatClampNeg 0) := ⟨_, rfl⟩
                rw [← eA_20] at hw
                obtain ⟨M_21, eM_21⟩ : ∃ z, z = m1 M_19 22 sv 0 := ⟨_, rfl⟩
                have his : r_st K o ad I A I_12 A_20 Z_14 M_21 0 := by rw [eA_20, eM_21, nI_clamp (show sv < 2 ^ 31 by omega)]; exact r_st_m his hro 22 rfl sv 0
                have hbk : o_bk Z Mf (sv + 1) = (cb + 1, o_back Mc sv) := by simp only [o_bk]; rw [← eMc, hgo, ← ecb]; rfl
                have hb2 : (o_bk Z Mf (sv + 1)).1 = cb + 1 := by rw [hbk]
                rw [← hb2] at hl
                refine lv_iinc (v := nI (sv + 1)) (lv' := [(4, .int (nI (sv + 1))), (3, .int (nI (o_bk Z Mf (sv + 1)).1)), (0, .ref o), (1, .int (nI f9)), (2, .int x)]) hx hb dX9_strike_186 hl (k := 4) rfl (nI_1 _) (by decide) rfl (fun ls hl => ?_)
                refine lv_goto (tgt := 82) hx hb dX9_strike_189 (by decide) ?_
                exact ih (sv + 1, x, I_12, A_20, Z_14, M_21) _ _ _ (by dsimp only; omega) ⟨⟨by omega, his, by rw [hbk]; unfold o_back; rw [if_pos c_124]; have h9 := o_sc_m1 (o_sc_m1 (o_sc_m1 hsd 21 sv (-1)) 18 sv (Mc 20 sv)) 22 sv 0; simpa only [eM_17, eM_19, eM_21] using h9⟩, hw, lv_sub hl [2, 3, 4, 1, 0] rfl⟩
              · skip
                refine lv_iload_n hx hb dX9_strike_127 rfl (lv_at hl 3 rfl) ?_
                refine lv_aload_n hx hb dX9_strike_128 rfl (lv_at hl 1 rfl) ?_
                refine lv_iload hx hb dX9_strike_129 (lv_at hl 4 rfl) ?_
                refine lv_aload_n hx hb dX9_strike_131 rfl (lv_at hl 1 rfl) ?_
                refine g_10_21 (r := some (ad 21)) hx hb hts (by decide +kernel) hown hw hro.1 (hts (.fieldLink RX9 53 "PirateindexModel" "took" "[I") (by decide +kernel)) (hro.2.1 21 rfl).1 dX9_strike_132 ?_
                refine lv_iload hx hb dX9_strike_135 (lv_at hl 4 rfl) ?_
                refine m_iaload_20 hx hb hw (hro.2.1 21 rfl).2.1 (r_in hro 21 rfl (n := 5) rfl (by omega)) dX9_strike_137 ?_
                rw [show A_13 (ad 21) = M_15 21 from his.2.1 21 rfl]
                rw [nI_clamp (show sv < 2 ^ 31 by omega)]
                rw [show M_15 21 sv = (Mc 21 sv) from by have h9 : M_15 21 = Mc 21 := (hsd.2 21 (by decide) (by decide) (by decide) (by decide)); simp [m1, h9]]
                refine m_ci (va_runV (As := [.int (nI sv), .int (Mc 21 sv)]) (rest := [.int x]) ⟨hx, hb, hml, hown, hts⟩ (c_X9_pays l (Z := Z_14) (M := M_15) (th := 0) sv (Mc 21 sv) hro (r_st_self his) (by omega)) (cwV 2 hts gX9_strike_X9_pays rfl rfl rfl (by decide +kernel) ⟨Nat.le_of_ble_eq_true rfl, Nat.le_of_ble_eq_true rfl⟩) ⟨m_blind m_B_calling, m_recv hw (m_ent_10 hro.1) rfl, fun U hU hW => ⟨rfl, m_wo_call hw hU hW⟩⟩ rfl rfl hl.1 rfl (lv_room (Nat.le_of_ble_eq_true rfl)) dX9_strike_138 ⟨Nat.le_of_ble_eq_true rfl, Nat.le_of_ble_eq_true rfl⟩) hw (fun r_138 u_138 H locs hp_138 hw => ?_)
                obtain ⟨I_22, A_23⟩ := u_138
                have hw : m_wo G K I_22 R F A_23 N L T J D s H locs := hw
                dsimp only at hp_138
                have his := r_st_tr his hp_138.1
                obtain ⟨M_24, eM_24⟩ : ∃ z : Nat → Nat → Int32, z = (m1 M_15 19 sv (M_15 19 sv - o_pay M_15 sv (Mc 21 sv))) := ⟨_, rfl⟩
                rw [← eM_24] at his
                obtain rfl : r_138 = (o_pay M_15 sv (Mc 21 sv)) := hp_138.2
                refine lv_iadd hx hb dX9_strike_141 ?_
                refine lv_istore_n (lv' := [(2, .int (x + (o_pay M_15 sv (Mc 21 sv)))), (3, .int (nI (cb + 1))), (0, .ref o), (1, .int (nI f9)), (4, .int (nI sv))]) hx hb dX9_strike_142 rfl hl (by decide) rfl (fun ls hl => ?_)
                refine lv_aload_n hx hb dX9_strike_143 rfl (lv_at hl 2 rfl) ?_
                refine g_10_10 (r := some (ad 10)) hx hb hts (by decide +kernel) hown hw hro.1 (hts (.fieldLink RX9 19 "PirateindexModel" "taken" "[Z") (by decide +kernel)) (hro.2.1 10 rfl).1 dX9_strike_144 ?_
                refine lv_aload_n hx hb dX9_strike_147 rfl (lv_at hl 2 rfl) ?_
                refine g_10_18 (r := some (ad 18)) hx hb hts (by decide +kernel) hown hw hro.1 (hts (.fieldLink RX9 44 "PirateindexModel" "stands" "[I") (by decide +kernel)) (hro.2.1 18 rfl).1 dX9_strike_148 ?_
                refine lv_iload hx hb dX9_strike_151 (lv_at hl 4 rfl) ?_
                refine m_iaload_20 hx hb hw (hro.2.1 18 rfl).2.1 (r_in hro 18 rfl (n := 5) rfl (by omega)) dX9_strike_153 ?_
                rw [show A_23 (ad 18) = M_24 18 from his.2.1 18 rfl]
                rw [nI_clamp (show sv < 2 ^ 31 by omega)]
                rw [show M_24 18 sv = (nI q) from by have h9 : M_15 18 = Mc 18 := (hsd.2 18 (by decide) (by decide) (by decide) (by decide)); simp [eM_24, m1, h9, hc18, hat]]
                refine lv_iconst (v := 0) hx hb dX9_strike_154 (by decide) ?_
                refine m_bastore_30 hx hb hw (hro.2.1 10 rfl).2.1 (r_in hro 10 rfl (n := 12) rfl (by omega)) (Or.inl rfl) dX9_strike_155 (fun H locs hw => ?_)
                obtain ⟨A_25, eA_25⟩ : ∃ z, z = m_up A_23 (ad 10) (upd (A_23 (ad 10)) (nI q).toNatClampNeg 0) := ⟨_, rfl⟩
                rw [← eA_25] at hw
                obtain ⟨M_26, eM_26⟩ : ∃ z, z = m1 M_24 10 q 0 := ⟨_, rfl⟩
                have his : r_st K o ad I A I_22 A_25 Z_14 M_26 0 := by rw [eA_25, eM_26, nI_clamp (show q < 2 ^ 31 by omega)]; exact r_st_m his hro 10 rfl q 0
                refine lv_aload_n hx hb dX9_strike_156 rfl (lv_at hl 2 rfl) ?_
                refine g_10_21 (r := some (ad 21)) hx hb hts (by decide +kernel) hown hw hro.1 (hts (.fieldLink RX9 53 "PirateindexModel" "took" "[I") (by decide +kernel)) (hro.2.1 21 rfl).1 dX9_strike_157 ?_
                refine lv_iload hx hb dX9_strike_160 (lv_at hl 4 rfl) ?_
                refine lv_iconst (v := (-1)) hx hb dX9_strike_162 (by decide) ?_
                refine m_iastore_20 hx hb hw (hro.2.1 21 rfl).2.1 (r_in hro 21 rfl (n := 5) rfl (by omega))  dX9_strike_163 (fun H locs hw => ?_)
                obtain ⟨A_27, eA_27⟩ : ∃ z, z = m_up A_25 (ad 21) (upd (A_25 (ad 21)) (nI sv).toNatClampNeg (-1)) := ⟨_, rfl⟩
                rw [← eA_27] at hw
                obtain ⟨M_28, eM_28⟩ : ∃ z, z = m1 M_26 21 sv (-1) := ⟨_, rfl⟩
                have his : r_st K o ad I A I_22 A_27 Z_14 M_28 0 := by rw [eA_27, eM_28, nI_clamp (show sv < 2 ^ 31 by omega)]; exact r_st_m his hro 21 rfl sv (-1)
                refine lv_aload_n hx hb dX9_strike_164 rfl (lv_at hl 2 rfl) ?_
                refine g_10_18 (r := some (ad 18)) hx hb hts (by decide +kernel) hown hw hro.1 (hts (.fieldLink RX9 44 "PirateindexModel" "stands" "[I") (by decide +kernel)) (hro.2.1 18 rfl).1 dX9_strike_165 ?_
                refine lv_iload hx hb dX9_strike_168 (lv_at hl 4 rfl) ?_
                refine lv_aload_n hx hb dX9_strike_170 rfl (lv_at hl 2 rfl) ?_
                refine g_10_20 (r := some (ad 20)) hx hb hts (by decide +kernel) hown hw hro.1 (hts (.fieldLink RX9 50 "PirateindexModel" "cameFrom" "[I") (by decide +kernel)) (hro.2.1 20 rfl).1 dX9_strike_171 ?_
                refine lv_iload hx hb dX9_strike_174 (lv_at hl 4 rfl) ?_
                refine m_iaload_20 hx hb hw (hro.2.1 20 rfl).2.1 (r_in hro 20 rfl (n := 5) rfl (by omega)) dX9_strike_176 ?_
                rw [show A_27 (ad 20) = M_28 20 from his.2.1 20 rfl]
                rw [nI_clamp (show sv < 2 ^ 31 by omega)]
                rw [show M_28 20 sv = (Mc 20 sv) from by have h9 : M_15 20 = Mc 20 := (hsd.2 20 (by decide) (by decide) (by decide) (by decide)); simp [eM_24, eM_26, eM_28, m1, h9]]
                refine m_iastore_20 hx hb hw (hro.2.1 18 rfl).2.1 (r_in hro 18 rfl (n := 5) rfl (by omega))  dX9_strike_177 (fun H locs hw => ?_)
                obtain ⟨A_29, eA_29⟩ : ∃ z, z = m_up A_27 (ad 18) (upd (A_27 (ad 18)) (nI sv).toNatClampNeg (Mc 20 sv)) := ⟨_, rfl⟩
                rw [← eA_29] at hw
                obtain ⟨M_30, eM_30⟩ : ∃ z, z = m1 M_28 18 sv (Mc 20 sv) := ⟨_, rfl⟩
                have his : r_st K o ad I A I_22 A_29 Z_14 M_30 0 := by rw [eA_29, eM_30, nI_clamp (show sv < 2 ^ 31 by omega)]; exact r_st_m his hro 18 rfl sv (Mc 20 sv)
                refine lv_aload_n hx hb dX9_strike_178 rfl (lv_at hl 2 rfl) ?_
                refine g_10_22 (r := some (ad 22)) hx hb hts (by decide +kernel) hown hw hro.1 (hts (.fieldLink RX9 56 "PirateindexModel" "kept" "[I") (by decide +kernel)) (hro.2.1 22 rfl).1 dX9_strike_179 ?_
                refine lv_iload hx hb dX9_strike_182 (lv_at hl 4 rfl) ?_
                refine lv_iconst (v := 0) hx hb dX9_strike_184 (by decide) ?_
                refine m_iastore_20 hx hb hw (hro.2.1 22 rfl).2.1 (r_in hro 22 rfl (n := 5) rfl (by omega))  dX9_strike_185 (fun H locs hw => ?_)
                obtain ⟨A_31, eA_31⟩ : ∃ z, z = m_up A_29 (ad 22) (upd (A_29 (ad 22)) (nI sv).toNatClampNeg 0) := ⟨_, rfl⟩
                rw [← eA_31] at hw
                obtain ⟨M_32, eM_32⟩ : ∃ z, z = m1 M_30 22 sv 0 := ⟨_, rfl⟩
                have his : r_st K o ad I A I_22 A_31 Z_14 M_32 0 := by rw [eA_31, eM_32, nI_clamp (show sv < 2 ^ 31 by omega)]; exact r_st_m his hro 22 rfl sv 0
                have hbk : o_bk Z Mf (sv + 1) = (cb + 1, o_back Mc sv) := by simp only [o_bk]; rw [← eMc, hgo, ← ecb]; rfl
                have hb2 : (o_bk Z Mf (sv + 1)).1 = cb + 1 := by rw [hbk]
                rw [← hb2] at hl
                have h19 : M_15 19 = Mc 19 := hsd.2 19 (by decide) (by decide) (by decide) (by decide)
                have hpy : ∀ cc, o_pay M_15 sv cc = o_pay Mc sv cc := fun cc => by unfold o_pay; rw [h19]
                refine lv_iinc (v := nI (sv + 1)) (lv' := [(4, .int (nI (sv + 1))), (2, .int (x + (o_pay M_15 sv (Mc 21 sv)))), (3, .int (nI (o_bk Z Mf (sv + 1)).1)), (0, .ref o), (1, .int (nI f9))]) hx hb dX9_strike_186 hl (k := 4) rfl (nI_1 _) (by decide) rfl (fun ls hl => ?_)
                refine lv_goto (tgt := 82) hx hb dX9_strike_189 (by decide) ?_
                exact ih (sv + 1, (x + (o_pay M_15 sv (Mc 21 sv))), I_22, A_31, Z_14, M_32) _ _ _ (by dsimp only; omega) ⟨⟨by omega, his, by rw [hbk]; unfold o_back; rw [if_neg c_124, hc18, hat, nI_clamp (by omega)]; have h9 := o_sc_m1 (o_sc_m1 (o_sc_m1 (o_sc_m1 (o_sc_m1 hsd 19 sv (Mc 19 sv - o_pay Mc sv (Mc 21 sv))) 10 q 0) 21 sv (-1)) 18 sv (Mc 20 sv)) 22 sv 0; simpa only [eM_24, eM_26, eM_28, eM_30, eM_32, h19, hpy] using h9⟩, hw, lv_sub hl [3, 4, 1, 2, 0] rfl⟩
            · skip
              have h107 := (b2i_ne _).mp c_107
              rw [hst, decide_eq_true_iff] at h107
              have hgo : o_goes Z Mc sv = false := by unfold o_goes; rw [decide_eq_false (show ¬ o_still Z Mc sv = 0 by omega), Bool.and_false]
              have hsd := o_sc_tr hsc hsM_15
              refine lv_goto (tgt := 186) hx hb dX9_strike_110 (by decide) ?_
              have hbk : o_bk Z Mf (sv + 1) = o_bk Z Mf sv := by simp only [o_bk]; rw [← eMc, hgo]; rfl
              have hb2 : (o_bk Z Mf (sv + 1)).1 = cb := by rw [hbk]; exact ecb.symm
              rw [← hb2] at hl
              refine lv_iinc (v := nI (sv + 1)) (lv' := [(4, .int (nI (sv + 1))), (0, .ref o), (1, .int (nI f9)), (2, .int x), (3, .int (nI (o_bk Z Mf (sv + 1)).1))]) hx hb dX9_strike_186 hl (k := 4) rfl (nI_1 _) (by decide) rfl (fun ls hl => ?_)
              refine lv_goto (tgt := 82) hx hb dX9_strike_189 (by decide) ?_
              exact ih (sv + 1, x, I_12, A_13, Z_14, M_15) _ _ _ (by dsimp only; omega) ⟨⟨by omega, his, by rw [hbk, ← eMc]; exact hsd⟩, hw, lv_sub hl [1, 2, 3, 4, 0] rfl⟩
      · skip
        refine lv_iconst (v := 0) hx hb dX9_strike_60 (by decide) ?_
        refine lv_goto (tgt := 76) hx hb dX9_strike_61 (by decide) ?_
        refine lv_istore_n (lv' := [(2, .int 0), (0, .ref o), (1, .int (nI f9))]) hx hb dX9_strike_76 rfl hl (by decide) rfl (fun ls hl => ?_)
        refine lv_iconst (v := 0) hx hb dX9_strike_77 (by decide) ?_
        refine lv_istore_n (lv' := [(3, .int 0), (2, .int 0), (0, .ref o), (1, .int (nI f9))]) hx hb dX9_strike_78 rfl hl (by decide) rfl (fun ls hl => ?_)
        obtain ⟨Mf, eMf⟩ : ∃ z, z = M_8 := ⟨_, rfl⟩
        rw [← eMf] at his
        have eF : Mf = o_fine (m1 M 16 f9 1) f9 := by unfold o_fine; rw [show m1 M 16 f9 1 15 f9 = -1 from (congrFun (m1_n _ _ (by decide)) f9).trans c_57, if_pos rfl, eMf]; simp only [eM_8]
        have eF1 : ∀ j, j ≠ 16 → j ≠ 19 → Mf j = M j := fun j a b => by rw [eF, o_fine_n _ _ b]; exact m1_n _ _ a
        have eF2 : ∀ j, j ≠ 19 → Mf j = m1 M 16 f9 1 j := fun j b => by rw [eF]; exact o_fine_n _ _ b
        refine lv_iconst (v := 0) hx hb dX9_strike_79 (by decide) ?_
        refine lv_istore (lv' := [(4, .int 0), (3, .int 0), (2, .int 0), (0, .ref o), (1, .int (nI f9))]) hx hb dX9_strike_80 hl (by decide) rfl (fun ls hl => ?_)
        refine m_loop (σ := Nat × Int32 × (Nat → Nat → Int32) × (Nat → Nat → Int32) × (Nat → Int32) × (Nat → Nat → Int32)) (fun a => ns - (a.1)) (fun a H locs ls => ((a.1) ≤ ns ∧ r_st K o ad I A (a.2.2.1) (a.2.2.2.1) (a.2.2.2.2.1) (a.2.2.2.2.2) 0 ∧ o_sc (Z, (o_bk Z Mf (a.1)).2) ((a.2.2.2.2.1), (a.2.2.2.2.2))) ∧ m_wo G K (a.2.2.1) R F (a.2.2.2.1) N L T J D s H locs ∧ lv_has ls 5 [(0, .ref o), (1, .int (nI f9)), (2, .int (a.2.1)), (3, .int (nI (o_bk Z Mf (a.1)).1)), (4, .int (nI (a.1)))]) ?_ (0, 0, I_5, A_7, Z, Mf) ⟨⟨Nat.zero_le _, his, o_sc_rf _⟩, hw, lv_sub hl [3, 4, 2, 1, 0] rfl⟩
        rintro ⟨sv, x, Ii, Aa, Zi, Mi⟩ H locs ls ⟨hinv, hw, hl⟩ ih
        dsimp only at hinv hw hl
        obtain ⟨hs0, his, hsc⟩ := hinv
        obtain ⟨Mc, eMc⟩ : ∃ z, z = (o_bk Z Mf sv).2 := ⟨_, rfl⟩
        obtain ⟨cb, ecb⟩ : ∃ z, z = (o_bk Z Mf sv).1 := ⟨_, rfl⟩
        rw [← ecb] at hl
        rw [← eMc] at hsc
        refine lv_iload hx hb dX9_strike_82 (lv_at hl 4 rfl) ?_
        refine lv_aload_n hx hb dX9_strike_84 rfl (lv_at hl 0 rfl) ?_
        refine g_10_2 hx hb hts (by decide +kernel) hown hw hro.1 (hts (.fieldLink RX9 105 "PirateindexModel" "ships" "I") (by decide +kernel)) dX9_strike_85 ?_
        rw [show Ii 1002 o = Zi 2 from his.1 2 (by decide)]
        rw [show Zi 2 = nI ns from (hsc.1 2 (by decide)).trans hns]
        refine lv_icmp_ge (tgt := 192) hx hb dX9_strike_88 (by decide) (fun c_88 => ?_) (fun c_88 => ?_)
        · skip
          rw [nI_leI (by omega) (by omega)] at c_88
          have hs1 : sv = ns := by omega
          rw [hs1] at ecb eMc
          refine lv_iload_n hx hb dX9_strike_192 rfl (lv_at hl 3 rfl) ?_
          exact W.iret (v := nI cb) hx hb hr (fun t ht hW => ⟨⟨nI cb, (Ii, Aa), rfl, (by rw [ht3, if_pos rfl]; (try rw [hcf]); unfold p_strike; rw [← eF, zn_of hns (by omega), ← eMc, ← ecb]; exact ⟨⟨Zi, Mi, his, hsc⟩, fun _ => rfl⟩), m_wo_out hw ht hW.alike⟩, m_wo_F hw ht⟩) (m_wo_L hw) dX9_strike_193
        · skip
          rw [nI_leI (by omega) (by omega)] at c_88
          have hs1 : sv < ns := by omega
          obtain ⟨⟨q, hq12, hat⟩, n9, h4, hk9, hg9⟩ := hw9 sv hs1
          have hc18 : Mc 18 sv = M 18 sv := by rw [eMc, o_bk_k Z Mf (by decide) sv (Nat.le_refl _), eF1 18 (by decide) (by decide)]
          have hc22 : Mc 22 sv = M 22 sv := by rw [eMc, o_bk_k Z Mf (by decide) sv (Nat.le_refl _), eF1 22 (by decide) (by decide)]
          have hcj : ∀ j, 11 ≤ j → j ≤ 24 → j ≠ 15 → j ≠ 17 → j ≠ 18 → j ≠ 19 → j ≠ 20 → j ≠ 21 → j ≠ 22 → Mc j = m1 M 16 f9 1 j := fun j a b c d e9 f g h k => by rw [eMc, o_bk_n Z Mf (by omega) e9 f h k sv, eF2 j f]
          refine lv_aload_n hx hb dX9_strike_91 rfl (lv_at hl 0 rfl) ?_
          refine g_10_22 (r := some (ad 22)) hx hb hts (by decide +kernel) hown hw hro.1 (hts (.fieldLink RX9 56 "PirateindexModel" "kept" "[I") (by decide +kernel)) (hro.2.1 22 rfl).1 dX9_strike_92 ?_
          refine lv_iload hx hb dX9_strike_95 (lv_at hl 4 rfl) ?_
          refine m_iaload_20 hx hb hw (hro.2.1 22 rfl).2.1 (r_in hro 22 rfl (n := 5) rfl (by omega)) dX9_strike_97 ?_
          rw [show Aa (ad 22) = Mi 22 from his.2.1 22 rfl]
          rw [nI_clamp (show sv < 2 ^ 31 by omega)]
          rw [show Mi 22 sv = nI n9 from by rw [(show Mi 22 = Mc 22 from hsc.2 22 (by decide) (by decide) (by decide) (by decide)), hc22]; exact hk9]
          refine lv_if_eq (tgt := 186) hx hb dX9_strike_98 (by decide) (fun c_98 => ?_) (fun c_98 => ?_)
          · skip
            rw [show (0 : Int32) = nI 0 from rfl, nI_eq (by omega) (by decide)] at c_98
            have hgo : o_goes Z Mc sv = false := by unfold o_goes; rw [hc22, hk9, c_98]; rfl
            have hbk : o_bk Z Mf (sv + 1) = o_bk Z Mf sv := by simp only [o_bk]; rw [← eMc, hgo]; rfl
            have hb2 : (o_bk Z Mf (sv + 1)).1 = cb := by rw [hbk]; exact ecb.symm
            rw [← hb2] at hl
            refine lv_iinc (v := nI (sv + 1)) (lv' := [(4, .int (nI (sv + 1))), (0, .ref o), (1, .int (nI f9)), (2, .int x), (3, .int (nI (o_bk Z Mf (sv + 1)).1))]) hx hb dX9_strike_186 hl (k := 4) rfl (nI_1 _) (by decide) rfl (fun ls hl => ?_)
            refine lv_goto (tgt := 82) hx hb dX9_strike_189 (by decide) ?_
            exact ih (sv + 1, x, Ii, Aa, Zi, Mi) _ _ _ (by dsimp only; omega) ⟨⟨by omega, his, by rw [hbk, ← eMc]; exact hsc⟩, hw, lv_sub hl [1, 2, 3, 4, 0] rfl⟩
          · skip
            rw [show (0 : Int32) = nI 0 from rfl, nI_eq (by omega) (by decide)] at c_98
            have h22n : ¬ Mc 22 sv = 0 := by rw [hc22, hk9, show (0 : Int32) = nI 0 from rfl, nI_eq (by omega) (by decide)]; exact c_98
            have hst : o_still Zi Mi sv = o_still Z Mc sv := o_still_eq (hsc.1 1 (by decide)) (fun j a b _ _ _ _ _ _ _ => hsc.2 j (by omega) (by omega) (by omega) (by omega)) (congrFun (hsc.2 18 (by decide) (by decide) (by decide) (by decide)) sv) (congrFun (hsc.2 22 (by decide) (by decide) (by decide) (by decide)) sv) (hc22.trans hk9) (by omega) h4
            have hst2 : o_still Z Mc sv = o_still Z (m1 M 16 f9 1) sv := o_still_eq rfl hcj (hc18.trans (congrFun (m1_n _ _ (by decide)) sv).symm) (hc22.trans (congrFun (m1_n _ _ (by decide)) sv).symm) ((congrFun (m1_n _ _ (by decide)) sv).trans hk9) (by omega) h4
            have hlt9 := hlt sv
            refine lv_aload_n hx hb dX9_strike_101 rfl (lv_at hl 0 rfl) ?_
            refine lv_iload hx hb dX9_strike_102 (lv_at hl 4 rfl) ?_
            refine m_ci (va_runV (As := [.int (nI sv)]) (rest := []) ⟨hx, hb, hml, hown, hts⟩ (c_X9_isStill l (Z := Zi) (M := Mi) (th := 0) sv hro (r_st_self his) ((hsc.1 1 (by decide)).trans hnf) hn (by rw [(show Mi 22 = Mc 22 from hsc.2 22 (by decide) (by decide) (by decide) (by decide)), hc22]; exact hk9) (by omega) h4 (by omega) (fun k h1 h2 => by rw [(show Mi 24 = Mc 24 from hsc.2 24 (by decide) (by decide) (by decide) (by decide)), hcj 24 (by decide) (by decide) (by decide) (by decide) (by decide) (by decide) (by decide) (by decide) (by decide)]; exact hg9 k h1 h2) (by rw [hst, hst2]; exact hlt9)) (cwV 1 hts gX9_strike_X9_isStill rfl rfl rfl (by decide +kernel) ⟨Nat.le_of_ble_eq_true rfl, Nat.le_of_ble_eq_true rfl⟩) ⟨m_blind m_B_calling, m_recv hw (m_ent_10 hro.1) rfl, fun U hU hW => ⟨rfl, m_wo_call hw hU hW⟩⟩ rfl rfl hl.1 rfl (lv_room (Nat.le_of_ble_eq_true rfl)) dX9_strike_104 ⟨Nat.le_of_ble_eq_true rfl, Nat.le_of_ble_eq_true rfl⟩) hw (fun r_104 u_104 H locs hp_104 hw => ?_)
            obtain ⟨I_33, A_34⟩ := u_104
            have hw : m_wo G K I_33 R F A_34 N L T J D s H locs := hw
            dsimp only at hp_104
            obtain ⟨⟨Z_35, M_36, hiM_36, hsM_36⟩, hrM_36⟩ := hp_104
            have his := r_st_tr his hiM_36
            obtain rfl : r_104 = (b2i (decide (0 < o_still Zi Mi sv))) := hrM_36
            refine lv_if_eq (tgt := 113) hx hb dX9_strike_107 (by decide) (fun c_107 => ?_) (fun c_107 => ?_)
            · skip
              have h107 := (b2i_eq _).mp c_107
              rw [hst, decide_eq_false_iff_not] at h107
              have hgo : o_goes Z Mc sv = true := by unfold o_goes; rw [decide_eq_false h22n, decide_eq_true (by omega)]; rfl
              have hsd := o_sc_tr hsc hsM_36
              refine lv_iinc (v := nI (cb + 1)) (lv' := [(3, .int (nI (cb + 1))), (0, .ref o), (1, .int (nI f9)), (2, .int x), (4, .int (nI sv))]) hx hb dX9_strike_113 hl (k := 3) rfl (nI_1 _) (by decide) rfl (fun ls hl => ?_)
              refine lv_aload_n hx hb dX9_strike_116 rfl (lv_at hl 1 rfl) ?_
              refine g_10_21 (r := some (ad 21)) hx hb hts (by decide +kernel) hown hw hro.1 (hts (.fieldLink RX9 53 "PirateindexModel" "took" "[I") (by decide +kernel)) (hro.2.1 21 rfl).1 dX9_strike_117 ?_
              refine lv_iload hx hb dX9_strike_120 (lv_at hl 4 rfl) ?_
              refine m_iaload_20 hx hb hw (hro.2.1 21 rfl).2.1 (r_in hro 21 rfl (n := 5) rfl (by omega)) dX9_strike_122 ?_
              rw [show A_34 (ad 21) = M_36 21 from his.2.1 21 rfl]
              rw [nI_clamp (show sv < 2 ^ 31 by omega)]
              rw [show M_36 21 sv = (Mc 21 sv) from by have h9 : M_36 21 = Mc 21 := (hsd.2 21 (by decide) (by decide) (by decide) (by decide)); simp [m1, h9]]
              refine lv_iconst (v := (-1)) hx hb dX9_strike_123 (by decide) ?_
              refine lv_icmp_eq (tgt := 156) hx hb dX9_strike_124 (by decide) (fun c_124 => ?_) (fun c_124 => ?_)
              · skip
                refine lv_aload_n hx hb dX9_strike_156 rfl (lv_at hl 1 rfl) ?_
                refine g_10_21 (r := some (ad 21)) hx hb hts (by decide +kernel) hown hw hro.1 (hts (.fieldLink RX9 53 "PirateindexModel" "took" "[I") (by decide +kernel)) (hro.2.1 21 rfl).1 dX9_strike_157 ?_
                refine lv_iload hx hb dX9_strike_160 (lv_at hl 4 rfl) ?_
                refine lv_iconst (v := (-1)) hx hb dX9_strike_162 (by decide) ?_
                refine m_iastore_20 hx hb hw (hro.2.1 21 rfl).2.1 (r_in hro 21 rfl (n := 5) rfl (by omega))  dX9_strike_163 (fun H locs hw => ?_)
                obtain ⟨A_37, eA_37⟩ : ∃ z, z = m_up A_34 (ad 21) (upd (A_34 (ad 21)) (nI sv).toNatClampNeg (-1)) := ⟨_, rfl⟩
                rw [← eA_37] at hw
                obtain ⟨M_38, eM_38⟩ : ∃ z, z = m1 M_36 21 sv (-1) := ⟨_, rfl⟩
                have his : r_st K o ad I A I_33 A_37 Z_35 M_38 0 := by rw [eA_37, eM_38, nI_clamp (show sv < 2 ^ 31 by omega)]; exact r_st_m his hro 21 rfl sv (-1)
                refine lv_aload_n hx hb dX9_strike_164 rfl (lv_at hl 1 rfl) ?_
                refine g_10_18 (r := some (ad 18)) hx hb hts (by decide +kernel) hown hw hro.1 (hts (.fieldLink RX9 44 "PirateindexModel" "stands" "[I") (by decide +kernel)) (hro.2.1 18 rfl).1 dX9_strike_165 ?_
                refine lv_iload hx hb dX9_strike_168 (lv_at hl 4 rfl) ?_
                refine lv_aload_n hx hb dX9_strike_170 rfl (lv_at hl 1 rfl) ?_
                refine g_10_20 (r := some (ad 20)) hx hb hts (by decide +kernel) hown hw hro.1 (hts (.fieldLink RX9 50 "PirateindexModel" "cameFrom" "[I") (by decide +kernel)) (hro.2.1 20 rfl).1 dX9_strike_171 ?_
                refine lv_iload hx hb dX9_strike_174 (lv_at hl 4 rfl) ?_
                refine m_iaload_20 hx hb hw (hro.2.1 20 rfl).2.1 (r_in hro 20 rfl (n := 5) rfl (by omega)) dX9_strike_176 ?_
                rw [show A_37 (ad 20) = M_38 20 from his.2.1 20 rfl]
                rw [nI_clamp (show sv < 2 ^ 31 by omega)]
                rw [show M_38 20 sv = (Mc 20 sv) from by have h9 : M_36 20 = Mc 20 := (hsd.2 20 (by decide) (by decide) (by decide) (by decide)); simp [eM_38, m1, h9]]
                refine m_iastore_20 hx hb hw (hro.2.1 18 rfl).2.1 (r_in hro 18 rfl (n := 5) rfl (by omega))  dX9_strike_177 (fun H locs hw => ?_)
                obtain ⟨A_39, eA_39⟩ : ∃ z, z = m_up A_37 (ad 18) (upd (A_37 (ad 18)) (nI sv).toNatClampNeg (Mc 20 sv)) := ⟨_, rfl⟩
                rw [← eA_39] at hw
                obtain ⟨M_40, eM_40⟩ : ∃ z, z = m1 M_38 18 sv (Mc 20 sv) := ⟨_, rfl⟩
                have his : r_st K o ad I A I_33 A_39 Z_35 M_40 0 := by rw [eA_39, eM_40, nI_clamp (show sv < 2 ^ 31 by omega)]; exact r_st_m his hro 18 rfl sv (Mc 20 sv)
                refine lv_aload_n hx hb dX9_strike_178 rfl (lv_at hl 1 rfl) ?_
                refine g_10_22 (r := some (ad 22)) hx hb hts (by decide +kernel) hown hw hro.1 (hts (.fieldLink RX9 56 "PirateindexModel" "kept" "[I") (by decide +kernel)) (hro.2.1 22 rfl).1 dX9_strike_179 ?_
                refine lv_iload hx hb dX9_strike_182 (lv_at hl 4 rfl) ?_
                refine lv_iconst (v := 0) hx hb dX9_strike_184 (by decide) ?_
                refine m_iastore_20 hx hb hw (hro.2.1 22 rfl).2.1 (r_in hro 22 rfl (n := 5) rfl (by omega))  dX9_strike_185 (fun H locs hw => ?_)
                obtain ⟨A_41, eA_41⟩ : ∃ z, z = m_up A_39 (ad 22) (upd (A_39 (ad 22)) (nI sv).toNatClampNeg 0) := ⟨_, rfl⟩
                rw [← eA_41] at hw
                obtain ⟨M_42, eM_42⟩ : ∃ z, z = m1 M_40 22 sv 0 := ⟨_, rfl⟩
                have his : r_st K o ad I A I_33 A_41 Z_35 M_42 0 := by rw [eA_41, eM_42, nI_clamp (show sv < 2 ^ 31 by omega)]; exact r_st_m his hro 22 rfl sv 0
                have hbk : o_bk Z Mf (sv + 1) = (cb + 1, o_back Mc sv) := by simp only [o_bk]; rw [← eMc, hgo, ← ecb]; rfl
                have hb2 : (o_bk Z Mf (sv + 1)).1 = cb + 1 := by rw [hbk]
                rw [← hb2] at hl
                refine lv_iinc (v := nI (sv + 1)) (lv' := [(4, .int (nI (sv + 1))), (3, .int (nI (o_bk Z Mf (sv + 1)).1)), (0, .ref o), (1, .int (nI f9)), (2, .int x)]) hx hb dX9_strike_186 hl (k := 4) rfl (nI_1 _) (by decide) rfl (fun ls hl => ?_)
                refine lv_goto (tgt := 82) hx hb dX9_strike_189 (by decide) ?_
                exact ih (sv + 1, x, I_33, A_41, Z_35, M_42) _ _ _ (by dsimp only; omega) ⟨⟨by omega, his, by rw [hbk]; unfold o_back; rw [if_pos c_124]; have h9 := o_sc_m1 (o_sc_m1 (o_sc_m1 hsd 21 sv (-1)) 18 sv (Mc 20 sv)) 22 sv 0; simpa only [eM_38, eM_40, eM_42] using h9⟩, hw, lv_sub hl [2, 3, 4, 1, 0] rfl⟩
              · skip
                refine lv_iload_n hx hb dX9_strike_127 rfl (lv_at hl 3 rfl) ?_
                refine lv_aload_n hx hb dX9_strike_128 rfl (lv_at hl 1 rfl) ?_
                refine lv_iload hx hb dX9_strike_129 (lv_at hl 4 rfl) ?_
                refine lv_aload_n hx hb dX9_strike_131 rfl (lv_at hl 1 rfl) ?_
                refine g_10_21 (r := some (ad 21)) hx hb hts (by decide +kernel) hown hw hro.1 (hts (.fieldLink RX9 53 "PirateindexModel" "took" "[I") (by decide +kernel)) (hro.2.1 21 rfl).1 dX9_strike_132 ?_
                refine lv_iload hx hb dX9_strike_135 (lv_at hl 4 rfl) ?_
                refine m_iaload_20 hx hb hw (hro.2.1 21 rfl).2.1 (r_in hro 21 rfl (n := 5) rfl (by omega)) dX9_strike_137 ?_
                rw [show A_34 (ad 21) = M_36 21 from his.2.1 21 rfl]
                rw [nI_clamp (show sv < 2 ^ 31 by omega)]
                rw [show M_36 21 sv = (Mc 21 sv) from by have h9 : M_36 21 = Mc 21 := (hsd.2 21 (by decide) (by decide) (by decide) (by decide)); simp [m1, h9]]
                refine m_ci (va_runV (As := [.int (nI sv), .int (Mc 21 sv)]) (rest := [.int x]) ⟨hx, hb, hml, hown, hts⟩ (c_X9_pays l (Z := Z_35) (M := M_36) (th := 0) sv (Mc 21 sv) hro (r_st_self his) (by omega)) (cwV 2 hts gX9_strike_X9_pays rfl rfl rfl (by decide +kernel) ⟨Nat.le_of_ble_eq_true rfl, Nat.le_of_ble_eq_true rfl⟩) ⟨m_blind m_B_calling, m_recv hw (m_ent_10 hro.1) rfl, fun U hU hW => ⟨rfl, m_wo_call hw hU hW⟩⟩ rfl rfl hl.1 rfl (lv_room (Nat.le_of_ble_eq_true rfl)) dX9_strike_138 ⟨Nat.le_of_ble_eq_true rfl, Nat.le_of_ble_eq_true rfl⟩) hw (fun r_138 u_138 H locs hp_138 hw => ?_)
                obtain ⟨I_43, A_44⟩ := u_138
                have hw : m_wo G K I_43 R F A_44 N L T J D s H locs := hw
                dsimp only at hp_138
                have his := r_st_tr his hp_138.1
                obtain ⟨M_45, eM_45⟩ : ∃ z : Nat → Nat → Int32, z = (m1 M_36 19 sv (M_36 19 sv - o_pay M_36 sv (Mc 21 sv))) := ⟨_, rfl⟩
                rw [← eM_45] at his
                obtain rfl : r_138 = (o_pay M_36 sv (Mc 21 sv)) := hp_138.2
                refine lv_iadd hx hb dX9_strike_141 ?_
                refine lv_istore_n (lv' := [(2, .int (x + (o_pay M_36 sv (Mc 21 sv)))), (3, .int (nI (cb + 1))), (0, .ref o), (1, .int (nI f9)), (4, .int (nI sv))]) hx hb dX9_strike_142 rfl hl (by decide) rfl (fun ls hl => ?_)
                refine lv_aload_n hx hb dX9_strike_143 rfl (lv_at hl 2 rfl) ?_
                refine g_10_10 (r := some (ad 10)) hx hb hts (by decide +kernel) hown hw hro.1 (hts (.fieldLink RX9 19 "PirateindexModel" "taken" "[Z") (by decide +kernel)) (hro.2.1 10 rfl).1 dX9_strike_144 ?_
                refine lv_aload_n hx hb dX9_strike_147 rfl (lv_at hl 2 rfl) ?_
                refine g_10_18 (r := some (ad 18)) hx hb hts (by decide +kernel) hown hw hro.1 (hts (.fieldLink RX9 44 "PirateindexModel" "stands" "[I") (by decide +kernel)) (hro.2.1 18 rfl).1 dX9_strike_148 ?_
                refine lv_iload hx hb dX9_strike_151 (lv_at hl 4 rfl) ?_
                refine m_iaload_20 hx hb hw (hro.2.1 18 rfl).2.1 (r_in hro 18 rfl (n := 5) rfl (by omega)) dX9_strike_153 ?_
                rw [show A_44 (ad 18) = M_45 18 from his.2.1 18 rfl]
                rw [nI_clamp (show sv < 2 ^ 31 by omega)]
                rw [show M_45 18 sv = (nI q) from by have h9 : M_36 18 = Mc 18 := (hsd.2 18 (by decide) (by decide) (by decide) (by decide)); simp [eM_45, m1, h9, hc18, hat]]
                refine lv_iconst (v := 0) hx hb dX9_strike_154 (by decide) ?_
                refine m_bastore_30 hx hb hw (hro.2.1 10 rfl).2.1 (r_in hro 10 rfl (n := 12) rfl (by omega)) (Or.inl rfl) dX9_strike_155 (fun H locs hw => ?_)
                obtain ⟨A_46, eA_46⟩ : ∃ z, z = m_up A_44 (ad 10) (upd (A_44 (ad 10)) (nI q).toNatClampNeg 0) := ⟨_, rfl⟩
                rw [← eA_46] at hw
                obtain ⟨M_47, eM_47⟩ : ∃ z, z = m1 M_45 10 q 0 := ⟨_, rfl⟩
                have his : r_st K o ad I A I_43 A_46 Z_35 M_47 0 := by rw [eA_46, eM_47, nI_clamp (show q < 2 ^ 31 by omega)]; exact r_st_m his hro 10 rfl q 0
                refine lv_aload_n hx hb dX9_strike_156 rfl (lv_at hl 2 rfl) ?_
                refine g_10_21 (r := some (ad 21)) hx hb hts (by decide +kernel) hown hw hro.1 (hts (.fieldLink RX9 53 "PirateindexModel" "took" "[I") (by decide +kernel)) (hro.2.1 21 rfl).1 dX9_strike_157 ?_
                refine lv_iload hx hb dX9_strike_160 (lv_at hl 4 rfl) ?_
                refine lv_iconst (v := (-1)) hx hb dX9_strike_162 (by decide) ?_
                refine m_iastore_20 hx hb hw (hro.2.1 21 rfl).2.1 (r_in hro 21 rfl (n := 5) rfl (by omega))  dX9_strike_163 (fun H locs hw => ?_)
                obtain ⟨A_48, eA_48⟩ : ∃ z, z = m_up A_46 (ad 21) (upd (A_46 (ad 21)) (nI sv).toNatClampNeg (-1)) := ⟨_, rfl⟩
                rw [← eA_48] at hw
                obtain ⟨M_49, eM_49⟩ : ∃ z, z = m1 M_47 21 sv (-1) := ⟨_, rfl⟩
                have his : r_st K o ad I A I_43 A_48 Z_35 M_49 0 := by rw [eA_48, eM_49, nI_clamp (show sv < 2 ^ 31 by omega)]; exact r_st_m his hro 21 rfl sv (-1)
                refine lv_aload_n hx hb dX9_strike_164 rfl (lv_at hl 2 rfl) ?_
                refine g_10_18 (r := some (ad 18)) hx hb hts (by decide +kernel) hown hw hro.1 (hts (.fieldLink RX9 44 "PirateindexModel" "stands" "[I") (by decide +kernel)) (hro.2.1 18 rfl).1 dX9_strike_165 ?_
                refine lv_iload hx hb dX9_strike_168 (lv_at hl 4 rfl) ?_
                refine lv_aload_n hx hb dX9_strike_170 rfl (lv_at hl 2 rfl) ?_
                refine g_10_20 (r := some (ad 20)) hx hb hts (by decide +kernel) hown hw hro.1 (hts (.fieldLink RX9 50 "PirateindexModel" "cameFrom" "[I") (by decide +kernel)) (hro.2.1 20 rfl).1 dX9_strike_171 ?_
                refine lv_iload hx hb dX9_strike_174 (lv_at hl 4 rfl) ?_
                refine m_iaload_20 hx hb hw (hro.2.1 20 rfl).2.1 (r_in hro 20 rfl (n := 5) rfl (by omega)) dX9_strike_176 ?_
                rw [show A_48 (ad 20) = M_49 20 from his.2.1 20 rfl]
                rw [nI_clamp (show sv < 2 ^ 31 by omega)]
                rw [show M_49 20 sv = (Mc 20 sv) from by have h9 : M_36 20 = Mc 20 := (hsd.2 20 (by decide) (by decide) (by decide) (by decide)); simp [eM_45, eM_47, eM_49, m1, h9]]
                refine m_iastore_20 hx hb hw (hro.2.1 18 rfl).2.1 (r_in hro 18 rfl (n := 5) rfl (by omega))  dX9_strike_177 (fun H locs hw => ?_)
                obtain ⟨A_50, eA_50⟩ : ∃ z, z = m_up A_48 (ad 18) (upd (A_48 (ad 18)) (nI sv).toNatClampNeg (Mc 20 sv)) := ⟨_, rfl⟩
                rw [← eA_50] at hw
                obtain ⟨M_51, eM_51⟩ : ∃ z, z = m1 M_49 18 sv (Mc 20 sv) := ⟨_, rfl⟩
                have his : r_st K o ad I A I_43 A_50 Z_35 M_51 0 := by rw [eA_50, eM_51, nI_clamp (show sv < 2 ^ 31 by omega)]; exact r_st_m his hro 18 rfl sv (Mc 20 sv)
                refine lv_aload_n hx hb dX9_strike_178 rfl (lv_at hl 2 rfl) ?_
                refine g_10_22 (r := some (ad 22)) hx hb hts (by decide +kernel) hown hw hro.1 (hts (.fieldLink RX9 56 "PirateindexModel" "kept" "[I") (by decide +kernel)) (hro.2.1 22 rfl).1 dX9_strike_179 ?_
                refine lv_iload hx hb dX9_strike_182 (lv_at hl 4 rfl) ?_
                refine lv_iconst (v := 0) hx hb dX9_strike_184 (by decide) ?_
                refine m_iastore_20 hx hb hw (hro.2.1 22 rfl).2.1 (r_in hro 22 rfl (n := 5) rfl (by omega))  dX9_strike_185 (fun H locs hw => ?_)
                obtain ⟨A_52, eA_52⟩ : ∃ z, z = m_up A_50 (ad 22) (upd (A_50 (ad 22)) (nI sv).toNatClampNeg 0) := ⟨_, rfl⟩
                rw [← eA_52] at hw
                obtain ⟨M_53, eM_53⟩ : ∃ z, z = m1 M_51 22 sv 0 := ⟨_, rfl⟩
                have his : r_st K o ad I A I_43 A_52 Z_35 M_53 0 := by rw [eA_52, eM_53, nI_clamp (show sv < 2 ^ 31 by omega)]; exact r_st_m his hro 22 rfl sv 0
                have hbk : o_bk Z Mf (sv + 1) = (cb + 1, o_back Mc sv) := by simp only [o_bk]; rw [← eMc, hgo, ← ecb]; rfl
                have hb2 : (o_bk Z Mf (sv + 1)).1 = cb + 1 := by rw [hbk]
                rw [← hb2] at hl
                have h19 : M_36 19 = Mc 19 := hsd.2 19 (by decide) (by decide) (by decide) (by decide)
                have hpy : ∀ cc, o_pay M_36 sv cc = o_pay Mc sv cc := fun cc => by unfold o_pay; rw [h19]
                refine lv_iinc (v := nI (sv + 1)) (lv' := [(4, .int (nI (sv + 1))), (2, .int (x + (o_pay M_36 sv (Mc 21 sv)))), (3, .int (nI (o_bk Z Mf (sv + 1)).1)), (0, .ref o), (1, .int (nI f9))]) hx hb dX9_strike_186 hl (k := 4) rfl (nI_1 _) (by decide) rfl (fun ls hl => ?_)
                refine lv_goto (tgt := 82) hx hb dX9_strike_189 (by decide) ?_
                exact ih (sv + 1, (x + (o_pay M_36 sv (Mc 21 sv))), I_43, A_52, Z_35, M_53) _ _ _ (by dsimp only; omega) ⟨⟨by omega, his, by rw [hbk]; unfold o_back; rw [if_neg c_124, hc18, hat, nI_clamp (by omega)]; have h9 := o_sc_m1 (o_sc_m1 (o_sc_m1 (o_sc_m1 (o_sc_m1 hsd 19 sv (Mc 19 sv - o_pay Mc sv (Mc 21 sv))) 10 q 0) 21 sv (-1)) 18 sv (Mc 20 sv)) 22 sv 0; simpa only [eM_45, eM_47, eM_49, eM_51, eM_53, h19, hpy] using h9⟩, hw, lv_sub hl [3, 4, 1, 2, 0] rfl⟩
            · skip
              have h107 := (b2i_ne _).mp c_107
              rw [hst, decide_eq_true_iff] at h107
              have hgo : o_goes Z Mc sv = false := by unfold o_goes; rw [decide_eq_false (show ¬ o_still Z Mc sv = 0 by omega), Bool.and_false]
              have hsd := o_sc_tr hsc hsM_36
              refine lv_goto (tgt := 186) hx hb dX9_strike_110 (by decide) ?_
              have hbk : o_bk Z Mf (sv + 1) = o_bk Z Mf sv := by simp only [o_bk]; rw [← eMc, hgo]; rfl
              have hb2 : (o_bk Z Mf (sv + 1)).1 = cb := by rw [hbk]; exact ecb.symm
              rw [← hb2] at hl
              refine lv_iinc (v := nI (sv + 1)) (lv' := [(4, .int (nI (sv + 1))), (0, .ref o), (1, .int (nI f9)), (2, .int x), (3, .int (nI (o_bk Z Mf (sv + 1)).1))]) hx hb dX9_strike_186 hl (k := 4) rfl (nI_1 _) (by decide) rfl (fun ls hl => ?_)
              refine lv_goto (tgt := 82) hx hb dX9_strike_189 (by decide) ?_
              exact ih (sv + 1, x, I_33, A_34, Z_35, M_36) _ _ _ (by dsimp only; omega) ⟨⟨by omega, his, by rw [hbk, ← eMc]; exact hsd⟩, hw, lv_sub hl [1, 2, 3, 4, 0] rfl⟩

