theorem o_bet_eq {Z : mZ} {M M' : mM} (h : m_eq M M') (nf ni na sh a b : Nat) : o_bet Z M' nf ni na sh a b = o_bet Z M nf ni na sh a b := by
  have e : ∀ k, o_far M' sh k = o_far M sh k := fun k => by
    unfold o_far
    rw [h 7 (by decide) (by decide), h 8 (by decide) (by decide), h 18 (by decide) (by decide)]
  unfold o_bet
  rw [o_score_eq h, o_score_eq h, e, e]
def o_betT (Z : mZ) (M : mM) (nf ni nt sh a b : Nat) : Bool := o_bet (o_askT (Z, M)).1 (o_askT (Z, M)).2 nf ni nt sh a b
def o_beats (Z : mZ) (M : mM) (nf ni nt sh a b : Nat) : Bool := !decide (a = b) && (decide (0 < o_hitT Z M (nI a)) && o_betT Z M nf ni nt sh a b)
def o_place (Z : mZ) (M : mM) (nf ni nt sh b : Nat) : Nat := cntB (fun a => o_beats Z M nf ni nt sh a b) ni
def o_rank (Z : mZ) (M : mM) (nf ni nt sh : Nat) (pl : Int32) : Nat → Int32
  | 0 => -1
  | n + 1 => if o_hitT Z M (nI n) = 0 then o_rank Z M nf ni nt sh pl n else if nI (o_place Z M nf ni nt sh n) = pl then nI n else o_rank Z M nf ni nt sh pl n
set_option maxHeartbeats 400000 in
set_option maxRecDepth 100000 in
theorem c_X9_ranked (l : Launch) {G : mG} {K : Nat → Nat} {I : Nat → Nat → Int32} {R : Nat → Nat → Option Nat} {F : Nat → UInt32} {A : Nat → Nat → Int32} {N : Nat → Nat} {L : Nat → List Nat} {T : Nat → List Int32} {J : Nat → Nat → Int64} {D : Nat → Nat → UInt64} {o : Nat} {ad : Nat → Nat} {Z : Nat → Int32} {M : Nat → Nat → Int32} {th : Int32} {nf ni nt at0 : Nat} (sh : Nat) (pl : Int32) (hro : r_ok K R N o ad) (hz : r_st K o ad I A I A Z M th) (hnf : Z 1 = nI nf) (hn : nf ≤ 120) (hni : Z 0 = nI ni) (hn12 : ni ≤ 12) (hnt : Z 29 = nI nt) (h4t : nt ≤ 4) (hgt : ∀ k, 1 ≤ k → k < nt → ∃ g, g ≤ 9 ∧ M 26 k = nI g) (hlt : ∀ i : Int32, o_hitT Z M i < 2 ^ 31) (hne : o_nan (o_askT (Z, M)).1 (o_askT (Z, M)).2 nf ni nt) (hsh : sh < 5) (hat : M 18 sh = nI at0) (hat0 : at0 < 12) (htp : 0 < Z 29) : Met l yX9_ranked wsX9_ranked ({ frames := 5, cells := 0, slots := 0, locals := 150 } : Room) (va_Pc [.ref o, .int (nI sh), .int pl] (m_B G K I R F A N L T J D)) (va_Qi (fun (r : Int32) (u : (Nat → Nat → Int32) × (Nat → Nat → Int32)) => (∃ (Z' : Nat → Int32) (M' : Nat → Nat → Int32), r_st K o ad I A u.1 u.2 Z' M' th ∧ o_sc (Z, M) (Z', M')) ∧ r = o_rank Z M nf ni nt sh pl ni) (fun u : (Nat → Nat → Int32) × (Nat → Nat → Int32) => m_B G K (u.1) R F (u.2) N L T J D) (m_A G)) 0 0 (m_A G) := by
  refine Met.ofW (cc := cX9_ranked) (maxL := 7) (ret := (some .int)) (by decide) rfl ?_
  intro p e s m args below meth c s₁ B hml hv
  obtain ⟨rfl, hB⟩ := hv
  have hx := B.exec
  have hb := B.bytes
  have hr := B.returns
  have hts := atoms_spec (ws := wsX9_ranked) B.pre
  have hown : s.vm.findClass RX9 = some m.cls := findClass_of_methodNamed B.named
  have hlocks := B.notSynchronized
  have hw := m_wo_in hB
  have hl := lv_entry ([.ref o, .int (nI sh), .int pl]) (n := 7) (Nat.le_of_ble_eq_true rfl)
  rw [lg_entry_eq]
  generalize (lg_sl ([.ref o, .int (nI sh), .int pl]) ++ List.replicate (7 - (lg_sl ([.ref o, .int (nI sh), .int pl])).length) Slot.unset).toArray = ls at hl ⊢
  have hl : lv_has ls 7 [(0, .ref o), (1, .int (nI sh)), (2, .int pl)] := hl
  have his := hz
  refine lv_aload_n hx hb dX9_ranked_0 rfl (lv_at hl 0 rfl) ?_
  refine m_cv (va_runV (As := []) (rest := []) ⟨hx, hb, hml, hown, hts⟩ (c_X9_asksTyped l (Z := Z) (M := M) (th := th)  hro (r_st_self his) hnt h4t) (cwV 0 hts gX9_ranked_X9_asksTyped rfl rfl rfl (by decide +kernel) ⟨Nat.le_of_ble_eq_true rfl, Nat.le_of_ble_eq_true rfl⟩) ⟨m_blind m_B_calling, m_recv hw (m_ent_10 hro.1) rfl, fun U hU hW => ⟨rfl, m_wo_call hw hU hW⟩⟩ rfl rfl hl.1 rfl (lv_room (Nat.le_of_ble_eq_true rfl)) dX9_ranked_1 ⟨Nat.le_of_ble_eq_true rfl, Nat.le_of_ble_eq_true rfl⟩) hw (fun u_1 H locs hp_1 hw => ?_)
  obtain ⟨I_1, A_2⟩ := u_1
  have hw : m_wo G K I_1 R F A_2 N L T J D s H locs := hw
  dsimp only at hp_1
  have his := r_st_tr his hp_1.1
  obtain ⟨Z_3, eZ_3⟩ : ∃ z : Nat → Int32, z = (o_askT (Z, M)).1 := ⟨_, rfl⟩
  rw [← eZ_3] at his
  obtain ⟨M_4, eM_4⟩ : ∃ z : Nat → Nat → Int32, z = (o_askT (Z, M)).2 := ⟨_, rfl⟩
  rw [← eM_4] at his
  have hnt1 : 1 ≤ nt := by have h9 := htp; rw [hnt, show (0 : Int32) = nI 0 from rfl, nI_ltI (by decide) (by omega)] at h9; omega
  obtain ⟨Zt, eZt⟩ : ∃ z, z = Z_3 := ⟨_, rfl⟩
  obtain ⟨Mt, eMt⟩ : ∃ z, z = M_4 := ⟨_, rfl⟩
  rw [← eZt, ← eMt] at his
  have eS : (Zt, Mt) = o_askT (Z, M) := by rw [eZt, eMt, eZ_3, eM_4]
  have eZt1 : Zt = (o_askT (Z, M)).1 := congrArg Prod.fst eS
  have eMt1 : Mt = (o_askT (Z, M)).2 := congrArg Prod.snd eS
  have hsc0 : o_sc (Z, M) (Zt, Mt) := by rw [eS]; exact o_sc_askT _
  have hnf9 : Zt 1 = nI nf := (hsc0.1 1 (by decide)).trans hnf
  have hni9 : Zt 0 = nI ni := (hsc0.1 0 (by decide)).trans hni
  have hna9 : Zt 30 = nI nt := by rw [eZt1]; exact o_askT_30 _ hnt
  have hga9 : ∀ k, 1 ≤ k → k < nt → ∃ g, g ≤ 9 ∧ Mt 28 k = nI g := fun k h1 h2 => by rw [eMt1, o_askT_28 _ hnt h4t h2]; exact hgt k h1 h2
  have hht : ∀ i, o_hitsOn Zt Mt i = o_hitT Z M i := fun i => by rw [eZt1, eMt1]; rfl
  have hsc : m_eq Mt Mt := m_eq_rf _
  have hne9 : o_nan Zt Mt nf ni nt := by rw [eZt1, eMt1]; exact hne
  have hbt : ∀ a b, o_bet Zt Mt nf ni nt sh a b = o_betT Z M nf ni nt sh a b := fun a b => by rw [eZt1, eMt1]; rfl
  refine lv_iconst (v := (-1)) hx hb dX9_ranked_4 (by decide) ?_
  refine lv_istore_n (lv' := [(3, .int (-1)), (0, .ref o), (1, .int (nI sh)), (2, .int pl)]) hx hb dX9_ranked_5 rfl hl (by decide) rfl (fun ls hl => ?_)
  refine lv_iconst (v := 0) hx hb dX9_ranked_6 (by decide) ?_
  refine lv_istore (lv' := [(4, .int 0), (3, .int (-1)), (0, .ref o), (1, .int (nI sh)), (2, .int pl)]) hx hb dX9_ranked_7 hl (by decide) rfl (fun ls hl => ?_)
  refine m_loop (σ := Nat × Int32 × (Nat → Nat → Int32) × (Nat → Nat → Int32) × (Nat → Nat → Int32)) (fun a => ni - (a.1)) (fun a H locs ls => ((a.1) ≤ ni ∧ (a.2.1) = o_rank Z M nf ni nt sh pl (a.1) ∧ r_st K o ad I A (a.2.2.1) (a.2.2.2.1) Zt (a.2.2.2.2) th ∧ m_eq Mt (a.2.2.2.2)) ∧ m_wo G K (a.2.2.1) R F (a.2.2.2.1) N L T J D s H locs ∧ lv_has ls 7 [(0, .ref o), (1, .int (nI sh)), (2, .int pl), (3, .int (a.2.1)), (4, .int (nI (a.1)))]) ?_ (0, (-1), I_1, A_2, Mt) ⟨⟨Nat.zero_le _, rfl, his, hsc⟩, hw, lv_sub hl [2, 3, 4, 1, 0] rfl⟩
  rintro ⟨i, x, Ii, Aa, Mi⟩ H locs ls ⟨hinv, hw, hl⟩ ih
  dsimp only at hinv hw hl
  obtain ⟨hi0, hx0, his, hsc⟩ := hinv
  have ih1 := ih
  refine lv_iload hx hb dX9_ranked_9 (lv_at hl 4 rfl) ?_
  refine lv_aload_n hx hb dX9_ranked_11 rfl (lv_at hl 0 rfl) ?_
  refine g_10_0 hx hb hts (by decide +kernel) hown hw hro.1 (hts (.fieldLink RX9 98 "PirateindexModel" "islands" "I") (by decide +kernel)) dX9_ranked_12 ?_
  rw [show Ii 1000 o = Zt 0 from his.1 0 (by decide)]
  rw [hni9]
  refine lv_icmp_ge (tgt := 108) hx hb dX9_ranked_15 (by decide) (fun c_15 => ?_) (fun c_15 => ?_)
  · skip
    rw [nI_leI (by omega) (by omega)] at c_15
    have hi : i = ni := by omega
    subst hi
    refine lv_iload_n hx hb dX9_ranked_108 rfl (lv_at hl 3 rfl) ?_
    exact W.iret (v := x) hx hb hr (fun t ht hW => ⟨⟨x, (Ii, Aa), rfl, ⟨⟨Zt, Mi, his, o_sc_m hsc0 hsc⟩, hx0⟩, m_wo_out hw ht hW.alike⟩, m_wo_F hw ht⟩) (m_wo_L hw) dX9_ranked_109
  · skip
    rw [nI_leI (by omega) (by omega)] at c_15
    have hi : i < ni := by omega
    refine lv_aload_n hx hb dX9_ranked_18 rfl (lv_at hl 0 rfl) ?_
    refine lv_iload hx hb dX9_ranked_19 (lv_at hl 4 rfl) ?_
    refine m_ci (va_runV (As := [.int (nI i)]) (rest := []) ⟨hx, hb, hml, hown, hts⟩ (c_X9_hitsOn l (Z := Zt) (M := Mi) (th := th) (nI i) hro (r_st_self his) hnf9 hn hna9 hnt1 h4t (fun k h1 h2 => by rw [hsc 28 (by decide) (by decide)]; exact hga9 k h1 h2)) (cwV 1 hts gX9_ranked_X9_hitsOn rfl rfl rfl (by decide +kernel) ⟨Nat.le_of_ble_eq_true rfl, Nat.le_of_ble_eq_true rfl⟩) ⟨m_blind m_B_calling, m_recv hw (m_ent_10 hro.1) rfl, fun U hU hW => ⟨rfl, m_wo_call hw hU hW⟩⟩ rfl rfl hl.1 rfl (lv_room (Nat.le_of_ble_eq_true rfl)) dX9_ranked_21 ⟨Nat.le_of_ble_eq_true rfl, Nat.le_of_ble_eq_true rfl⟩) hw (fun r_21 u_21 H locs hp_21 hw => ?_)
    obtain ⟨I_5, A_6⟩ := u_21
    have hw : m_wo G K I_5 R F A_6 N L T J D s H locs := hw
    dsimp only at hp_21
    obtain ⟨⟨M_7, hiM_7, hmM_7⟩, hrM_7⟩ := hp_21
    have his := r_st_tr his hiM_7
    obtain rfl : r_21 = (nI (o_hitsOn Zt Mi (nI i))) := hrM_7
    rw [o_hitsOn_eq hsc]
    have hsc := m_eq_tr hsc hmM_7
    refine lv_if_ne (tgt := 30) hx hb dX9_ranked_24 (by decide) (fun c_24 => ?_) (fun c_24 => ?_)
    · skip
      have h44 := hlt (nI i)
      rw [hht, show (0 : Int32) = nI 0 from rfl, nI_eq h44 (by decide)] at c_24
      refine lv_iconst (v := 0) hx hb dX9_ranked_30 (by decide) ?_
      refine lv_istore (lv' := [(5, .int 0), (0, .ref o), (1, .int (nI sh)), (2, .int pl), (3, .int x), (4, .int (nI i))]) hx hb dX9_ranked_31 hl (by decide) rfl (fun ls hl => ?_)
      refine lv_iconst (v := 0) hx hb dX9_ranked_33 (by decide) ?_
      refine lv_istore (lv' := [(6, .int 0), (5, .int 0), (0, .ref o), (1, .int (nI sh)), (2, .int pl), (3, .int x), (4, .int (nI i))]) hx hb dX9_ranked_34 hl (by decide) rfl (fun ls hl => ?_)
      refine m_loop (σ := Nat × Int32 × (Nat → Nat → Int32) × (Nat → Nat → Int32) × (Nat → Nat → Int32)) (fun a => ni - (a.1)) (fun a H locs ls => ((a.1) ≤ ni ∧ (a.2.1) = nI (cntB (fun a => o_beats Z M nf ni nt sh a i) (a.1)) ∧ r_st K o ad I A (a.2.2.1) (a.2.2.2.1) Zt (a.2.2.2.2) th ∧ m_eq Mt (a.2.2.2.2)) ∧ m_wo G K (a.2.2.1) R F (a.2.2.2.1) N L T J D s H locs ∧ lv_has ls 7 [(0, .ref o), (1, .int (nI sh)), (2, .int pl), (3, .int x), (4, .int (nI i)), (5, .int (a.2.1)), (6, .int (nI (a.1)))]) ?_ (0, 0, I_5, A_6, M_7) ⟨⟨Nat.zero_le _, rfl, his, hsc⟩, hw, lv_sub hl [2, 3, 4, 5, 6, 1, 0] rfl⟩
      rintro ⟨j, y, Ij, Aj, Mj⟩ H locs ls ⟨hinv, hw, hl⟩ ih
      dsimp only at hinv hw hl
      obtain ⟨hj0, hy0, his, hsc⟩ := hinv
      refine lv_iload hx hb dX9_ranked_36 (lv_at hl 6 rfl) ?_
      refine lv_aload_n hx hb dX9_ranked_38 rfl (lv_at hl 0 rfl) ?_
      refine g_10_0 hx hb hts (by decide +kernel) hown hw hro.1 (hts (.fieldLink RX9 98 "PirateindexModel" "islands" "I") (by decide +kernel)) dX9_ranked_39 ?_
      rw [show Ij 1000 o = Zt 0 from his.1 0 (by decide)]
      rw [hni9]
      refine lv_icmp_ge (tgt := 89) hx hb dX9_ranked_42 (by decide) (fun c_42 => ?_) (fun c_42 => ?_)
      · skip
        rw [nI_leI (by omega) (by omega)] at c_42
        have hj : j = ni := by omega
        rw [hj] at hy0
        refine lv_iload hx hb dX9_ranked_89 (lv_at hl 5 rfl) ?_
        refine lv_iload_n hx hb dX9_ranked_91 rfl (lv_at hl 2 rfl) ?_
        refine lv_icmp_ne (tgt := 100) hx hb dX9_ranked_92 (by decide) (fun c_92 => ?_) (fun c_92 => ?_)
        · skip
          have e9 : nI (o_place Z M nf ni nt sh i) = y := hy0.symm
          have hfin : x = o_rank Z M nf ni nt sh pl (i + 1) := by simp only [o_rank]; rw [if_neg c_24, e9, if_neg c_92]; exact hx0
          refine lv_iload_n hx hb dX9_ranked_100 rfl (lv_at hl 3 rfl) ?_
          refine lv_istore_n (lv' := [(3, .int x), (0, .ref o), (1, .int (nI sh)), (2, .int pl), (4, .int (nI i)), (5, .int y), (6, .int (nI j))]) hx hb dX9_ranked_101 rfl hl (by decide) rfl (fun ls hl => ?_)
          refine lv_iinc (v := nI (i + 1)) (lv' := [(4, .int (nI (i + 1))), (3, .int x), (0, .ref o), (1, .int (nI sh)), (2, .int pl), (5, .int y), (6, .int (nI j))]) hx hb dX9_ranked_102 hl (k := 4) rfl (nI_1 _) (by decide) rfl (fun ls hl => ?_)
          refine lv_goto (tgt := 9) hx hb dX9_ranked_105 (by decide) ?_
          exact ih1 (i + 1, x, Ij, Aj, Mj) _ _ _ (by dsimp only; omega) ⟨⟨by omega, hfin, his, hsc⟩, hw, lv_sub hl [2, 3, 4, 1, 0] rfl⟩
        · skip
          have e9 : nI (o_place Z M nf ni nt sh i) = y := hy0.symm
          have hfin : nI i = o_rank Z M nf ni nt sh pl (i + 1) := by simp only [o_rank]; rw [if_neg c_24, e9, if_pos c_92]
          refine lv_iload hx hb dX9_ranked_95 (lv_at hl 4 rfl) ?_
          refine lv_goto (tgt := 101) hx hb dX9_ranked_97 (by decide) ?_
          refine lv_istore_n (lv' := [(3, .int (nI i)), (0, .ref o), (1, .int (nI sh)), (2, .int pl), (4, .int (nI i)), (5, .int y), (6, .int (nI j))]) hx hb dX9_ranked_101 rfl hl (by decide) rfl (fun ls hl => ?_)
          refine lv_iinc (v := nI (i + 1)) (lv' := [(4, .int (nI (i + 1))), (3, .int (nI i)), (0, .ref o), (1, .int (nI sh)), (2, .int pl), (5, .int y), (6, .int (nI j))]) hx hb dX9_ranked_102 hl (k := 4) rfl (nI_1 _) (by decide) rfl (fun ls hl => ?_)
          refine lv_goto (tgt := 9) hx hb dX9_ranked_105 (by decide) ?_
          exact ih1 (i + 1, nI i, Ij, Aj, Mj) _ _ _ (by dsimp only; omega) ⟨⟨by omega, hfin, his, hsc⟩, hw, lv_sub hl [2, 3, 4, 1, 0] rfl⟩
      · skip
        rw [nI_leI (by omega) (by omega)] at c_42
        have hj : j < ni := by omega
        refine lv_iload hx hb dX9_ranked_45 (lv_at hl 5 rfl) ?_
        refine lv_iload hx hb dX9_ranked_47 (lv_at hl 6 rfl) ?_
        refine lv_iload hx hb dX9_ranked_49 (lv_at hl 4 rfl) ?_
        refine lv_icmp_eq (tgt := 79) hx hb dX9_ranked_51 (by decide) (fun c_51 => ?_) (fun c_51 => ?_)
        · skip
          rw [nI_eq (by omega) (by omega)] at c_51
          have hpi : (fun a => o_beats Z M nf ni nt sh a i) j = false := by simp [o_beats, c_51]
          refine lv_iconst (v := 0) hx hb dX9_ranked_79 (by decide) ?_
          refine lv_iadd hx hb dX9_ranked_80 ?_
          refine lv_istore (lv' := [(5, .int (y + 0)), (0, .ref o), (1, .int (nI sh)), (2, .int pl), (3, .int x), (4, .int (nI i)), (6, .int (nI j))]) hx hb dX9_ranked_81 hl (by decide) rfl (fun ls hl => ?_)
          refine lv_iinc (v := nI (j + 1)) (lv' := [(6, .int (nI (j + 1))), (5, .int (y + 0)), (0, .ref o), (1, .int (nI sh)), (2, .int pl), (3, .int x), (4, .int (nI i))]) hx hb dX9_ranked_83 hl (k := 6) rfl (nI_1 _) (by decide) rfl (fun ls hl => ?_)
          refine lv_goto (tgt := 36) hx hb dX9_ranked_86 (by decide) ?_
          exact ih (j + 1, (y + 0), Ij, Aj, Mj) _ _ _ (by dsimp only; omega) ⟨⟨by omega, cntB_step hy0 hpi, his, hsc⟩, hw, lv_sub hl [2, 3, 4, 5, 6, 1, 0] rfl⟩
        · skip
          rw [nI_eq (by omega) (by omega)] at c_51
          refine lv_aload_n hx hb dX9_ranked_54 rfl (lv_at hl 0 rfl) ?_
          refine lv_iload hx hb dX9_ranked_55 (lv_at hl 6 rfl) ?_
          refine m_ci (va_runV (As := [.int (nI j)]) (rest := [.int y]) ⟨hx, hb, hml, hown, hts⟩ (c_X9_hitsOn l (Z := Zt) (M := Mj) (th := th) (nI j) hro (r_st_self his) hnf9 hn hna9 hnt1 h4t (fun k h1 h2 => by rw [hsc 28 (by decide) (by decide)]; exact hga9 k h1 h2)) (cwV 1 hts gX9_ranked_X9_hitsOn rfl rfl rfl (by decide +kernel) ⟨Nat.le_of_ble_eq_true rfl, Nat.le_of_ble_eq_true rfl⟩) ⟨m_blind m_B_calling, m_recv hw (m_ent_10 hro.1) rfl, fun U hU hW => ⟨rfl, m_wo_call hw hU hW⟩⟩ rfl rfl hl.1 rfl (lv_room (Nat.le_of_ble_eq_true rfl)) dX9_ranked_57 ⟨Nat.le_of_ble_eq_true rfl, Nat.le_of_ble_eq_true rfl⟩) hw (fun r_57 u_57 H locs hp_57 hw => ?_)
          obtain ⟨I_8, A_9⟩ := u_57
          have hw : m_wo G K I_8 R F A_9 N L T J D s H locs := hw
          dsimp only at hp_57
          obtain ⟨⟨M_10, hiM_10, hmM_10⟩, hrM_10⟩ := hp_57
          have his := r_st_tr his hiM_10
          obtain rfl : r_57 = (nI (o_hitsOn Zt Mj (nI j))) := hrM_10
          rw [o_hitsOn_eq hsc]
          have hsc := m_eq_tr hsc hmM_10
          refine lv_if_le (tgt := 79) hx hb dX9_ranked_60 (by decide) (fun c_60 => ?_) (fun c_60 => ?_)
          · skip
            have h45 := hlt (nI j)
            rw [hht, show (0 : Int32) = nI 0 from rfl, nI_leI h45 (by decide)] at c_60
            have h46 : ¬ 0 < o_hitT Z M (nI j) := by omega
            have hpi : (fun a => o_beats Z M nf ni nt sh a i) j = false := by simp [o_beats, h46]
            refine lv_iconst (v := 0) hx hb dX9_ranked_79 (by decide) ?_
            refine lv_iadd hx hb dX9_ranked_80 ?_
            refine lv_istore (lv' := [(5, .int (y + 0)), (0, .ref o), (1, .int (nI sh)), (2, .int pl), (3, .int x), (4, .int (nI i)), (6, .int (nI j))]) hx hb dX9_ranked_81 hl (by decide) rfl (fun ls hl => ?_)
            refine lv_iinc (v := nI (j + 1)) (lv' := [(6, .int (nI (j + 1))), (5, .int (y + 0)), (0, .ref o), (1, .int (nI sh)), (2, .int pl), (3, .int x), (4, .int (nI i))]) hx hb dX9_ranked_83 hl (k := 6) rfl (nI_1 _) (by decide) rfl (fun ls hl => ?_)
            refine lv_goto (tgt := 36) hx hb dX9_ranked_86 (by decide) ?_
            exact ih (j + 1, (y + 0), I_8, A_9, M_10) _ _ _ (by dsimp only; omega) ⟨⟨by omega, cntB_step hy0 hpi, his, hsc⟩, hw, lv_sub hl [2, 3, 4, 5, 6, 1, 0] rfl⟩
          · skip
            have h45 := hlt (nI j)
            rw [hht, show (0 : Int32) = nI 0 from rfl, nI_leI h45 (by decide)] at c_60
            have h46 : 0 < o_hitT Z M (nI j) := by omega
            refine lv_aload_n hx hb dX9_ranked_63 rfl (lv_at hl 0 rfl) ?_
            refine lv_iload_n hx hb dX9_ranked_64 rfl (lv_at hl 1 rfl) ?_
            refine lv_iload hx hb dX9_ranked_65 (lv_at hl 6 rfl) ?_
            refine lv_iload hx hb dX9_ranked_67 (lv_at hl 4 rfl) ?_
            refine m_ci (va_runV (As := [.int (nI sh), .int (nI j), .int (nI i)]) (rest := [.int y]) ⟨hx, hb, hml, hown, hts⟩ (c_X9_better l (Z := Zt) (M := M_10) (th := th) sh j i hro (r_st_self his) hnf9 hn hna9 hnt1 h4t (fun k h1 h2 => by rw [hsc 28 (by decide) (by decide)]; exact hga9 k h1 h2) hni9 hn12 (o_nan_eq hsc hne9) hsh (by omega) (by omega) (by rw [hsc 18 (by decide) (by decide), show Mt 18 = M 18 from hsc0.2 18 (by decide) (by decide) (by decide) (by decide)]; exact hat) hat0) (cwV 3 hts gX9_ranked_X9_better rfl rfl rfl (by decide +kernel) ⟨Nat.le_of_ble_eq_true rfl, Nat.le_of_ble_eq_true rfl⟩) ⟨m_blind m_B_calling, m_recv hw (m_ent_10 hro.1) rfl, fun U hU hW => ⟨rfl, m_wo_call hw hU hW⟩⟩ rfl rfl hl.1 rfl (lv_room (Nat.le_of_ble_eq_true rfl)) dX9_ranked_69 ⟨Nat.le_of_ble_eq_true rfl, Nat.le_of_ble_eq_true rfl⟩) hw (fun r_69 u_69 H locs hp_69 hw => ?_)
            obtain ⟨I_11, A_12⟩ := u_69
            have hw : m_wo G K I_11 R F A_12 N L T J D s H locs := hw
            dsimp only at hp_69
            obtain ⟨⟨M_13, hiM_13, hmM_13⟩, hrM_13⟩ := hp_69
            have his := r_st_tr his hiM_13
            obtain rfl : r_69 = (b2i (o_bet Zt M_10 nf ni nt sh j i)) := hrM_13
            rw [o_bet_eq hsc]
            have hsc := m_eq_tr hsc hmM_13
            refine lv_if_eq (tgt := 79) hx hb dX9_ranked_72 (by decide) (fun c_72 => ?_) (fun c_72 => ?_)
            · skip
              have q_72 := (b2i_eq _).mp c_72
              rw [hbt] at q_72
              have hpi : (fun a => o_beats Z M nf ni nt sh a i) j = false := by simp [o_beats, q_72]
              refine lv_iconst (v := 0) hx hb dX9_ranked_79 (by decide) ?_
              refine lv_iadd hx hb dX9_ranked_80 ?_
              refine lv_istore (lv' := [(5, .int (y + 0)), (0, .ref o), (1, .int (nI sh)), (2, .int pl), (3, .int x), (4, .int (nI i)), (6, .int (nI j))]) hx hb dX9_ranked_81 hl (by decide) rfl (fun ls hl => ?_)
              refine lv_iinc (v := nI (j + 1)) (lv' := [(6, .int (nI (j + 1))), (5, .int (y + 0)), (0, .ref o), (1, .int (nI sh)), (2, .int pl), (3, .int x), (4, .int (nI i))]) hx hb dX9_ranked_83 hl (k := 6) rfl (nI_1 _) (by decide) rfl (fun ls hl => ?_)
              refine lv_goto (tgt := 36) hx hb dX9_ranked_86 (by decide) ?_
              exact ih (j + 1, (y + 0), I_11, A_12, M_13) _ _ _ (by dsimp only; omega) ⟨⟨by omega, cntB_step hy0 hpi, his, hsc⟩, hw, lv_sub hl [2, 3, 4, 5, 6, 1, 0] rfl⟩
            · skip
              have q_72 := (b2i_ne _).mp c_72
              rw [hbt] at q_72
              have hpi : (fun a => o_beats Z M nf ni nt sh a i) j = true := by simp [o_beats, c_51, h46, q_72]
              refine lv_iconst (v := 1) hx hb dX9_ranked_75 (by decide) ?_
              refine lv_goto (tgt := 80) hx hb dX9_ranked_76 (by decide) ?_
              refine lv_iadd hx hb dX9_ranked_80 ?_
              refine lv_istore (lv' := [(5, .int (y + 1)), (0, .ref o), (1, .int (nI sh)), (2, .int pl), (3, .int x), (4, .int (nI i)), (6, .int (nI j))]) hx hb dX9_ranked_81 hl (by decide) rfl (fun ls hl => ?_)
              refine lv_iinc (v := nI (j + 1)) (lv' := [(6, .int (nI (j + 1))), (5, .int (y + 1)), (0, .ref o), (1, .int (nI sh)), (2, .int pl), (3, .int x), (4, .int (nI i))]) hx hb dX9_ranked_83 hl (k := 6) rfl (nI_1 _) (by decide) rfl (fun ls hl => ?_)
              refine lv_goto (tgt := 36) hx hb dX9_ranked_86 (by decide) ?_
              exact ih (j + 1, (y + 1), I_11, A_12, M_13) _ _ _ (by dsimp only; omega) ⟨⟨by omega, cntB_step hy0 hpi, his, hsc⟩, hw, lv_sub hl [2, 3, 4, 5, 6, 1, 0] rfl⟩
    · skip
      have h44 := hlt (nI i)
      rw [hht, show (0 : Int32) = nI 0 from rfl, nI_eq h44 (by decide)] at c_24
      have hfin : x = o_rank Z M nf ni nt sh pl (i + 1) := by rw [hx0]; simp only [o_rank]; rw [if_pos c_24]
      refine lv_goto (tgt := 102) hx hb dX9_ranked_27 (by decide) ?_
      refine lv_iinc (v := nI (i + 1)) (lv' := [(4, .int (nI (i + 1))), (0, .ref o), (1, .int (nI sh)), (2, .int pl), (3, .int x)]) hx hb dX9_ranked_102 hl (k := 4) rfl (nI_1 _) (by decide) rfl (fun ls hl => ?_)
      refine lv_goto (tgt := 9) hx hb dX9_ranked_105 (by decide) ?_
      exact ih1 (i + 1, x, I_5, A_6, M_7) _ _ _ (by dsimp only; omega) ⟨⟨by omega, hfin, his, hsc⟩, hw, lv_sub hl [1, 2, 3, 4, 0] rfl⟩

