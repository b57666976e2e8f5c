/-- equal but for what the reference uses for its counting alone -/
def o_sc (S S' : mS) : Prop := (∀ j, j ≠ 30 → S'.1 j = S.1 j) ∧ ∀ j, j ≠ 27 → j ≠ 28 → j ≠ 33 → j ≠ 34 → S'.2 j = S.2 j
theorem o_sc_rf (S : mS) : o_sc S S := ⟨fun _ _ => rfl, fun _ _ _ _ _ => rfl⟩
theorem o_sc_tr {S S' S'' : mS} (h : o_sc S S') (h' : o_sc S' S'') : o_sc S S'' :=
  ⟨fun j a => (h'.1 j a).trans (h.1 j a), fun j a b c d => (h'.2 j a b c d).trans (h.2 j a b c d)⟩
theorem o_sc_askT (S : mS) : o_sc S (o_askT S) :=
  ⟨fun _ a => z1_n _ _ a, fun _ a b _ _ => (mset_n _ _ b).trans (mset_n _ _ a)⟩
theorem o_sc_askK (S : mS) (s : Nat) : o_sc S (o_askK S s) :=
  ⟨fun _ a => z1_n _ _ a, fun _ a b _ _ => (mset_n _ _ b).trans (mset_n _ _ a)⟩
theorem o_sc_m {S : mS} {Z : mZ} {M M' : mM} (h : o_sc S (Z, M)) (h' : m_eq M M') : o_sc S (Z, M') :=
  ⟨h.1, fun j a b c d => (h' j c d).trans (h.2 j a b c d)⟩
theorem o_askT_28 (S : mS) {n k : Nat} (h : S.1 29 = nI n) (hn : n ≤ 4) (hk : k < n) : (o_askT S).2 28 k = S.2 26 k := by
  unfold o_askT
  dsimp only
  rw [mset_s, zn_of h (by omega)]
  exact if_pos hk
theorem o_askT_27 (S : mS) {n k : Nat} (h : S.1 29 = nI n) (hn : n ≤ 4) (hk : k < n) : (o_askT S).2 27 k = S.2 25 k := by
  unfold o_askT
  dsimp only
  rw [mset_n _ _ (by decide), mset_s, zn_of h (by omega)]
  exact if_pos hk
theorem o_askT_30 (S : mS) {n : Nat} (h : S.1 29 = nI n) : (o_askT S).1 30 = nI n := (z1_s S.1 30 _).trans h
/-- the hits on an island by the typed map -/
def o_hitT (Z : mZ) (M : mM) (i : Int32) : Nat := o_hitsOn (o_askT (Z, M)).1 (o_askT (Z, M)).2 i
set_option maxHeartbeats 400000 in
set_option maxRecDepth 100000 in
theorem c_X9_hits (l : Launch) {G : mG} {K : Nat → Nat} {I : Nat → Nat → Int32} {R : Nat → Nat → Option Nat} {F : Nat → UInt32} {A : Nat → Nat → Int32} {N : Nat → Nat} {L : Nat → List Nat} {T : Nat → List Int32} {J : Nat → Nat → Int64} {D : Nat → Nat → UInt64} {o : Nat} {ad : Nat → Nat} {Z : Nat → Int32} {M : Nat → Nat → Int32} {th : Int32} {nf ni nt : Nat} (hro : r_ok K R N o ad) (hz : r_st K o ad I A I A Z M th) (hnf : Z 1 = nI nf) (hn : nf ≤ 120) (hni : Z 0 = nI ni) (hn12 : ni ≤ 12) (hnt : Z 29 = nI nt) (h4t : nt ≤ 4) (hgt : ∀ k, 1 ≤ k → k < nt → ∃ g, g ≤ 9 ∧ M 26 k = nI g) (hlt : ∀ i : Int32, o_hitT Z M i < 2 ^ 31) : Met l yX9_hits wsX9_hits ({ frames := 3, cells := 0, slots := 0, locals := 90 } : Room) (va_Pc [.ref o] (m_B G K I R F A N L T J D)) (va_Qi (fun (r : Int32) (u : (Nat → Nat → Int32) × (Nat → Nat → Int32)) => (∃ (Z' : Nat → Int32) (M' : Nat → Nat → Int32), r_st K o ad I A u.1 u.2 Z' M' (t_b (decide (0 < Z 29))) ∧ o_sc (Z, M) (Z', M')) ∧ (t_b (decide (0 < Z 29)) = 0 → r = nI (cntB (fun f => decide (0 < o_hitT Z M (nI f))) ni))) (fun u : (Nat → Nat → Int32) × (Nat → Nat → Int32) => m_B G K (u.1) R F (u.2) N L T J D) (m_A G)) 0 0 (m_A G) := by
  refine Met.ofW (cc := cX9_hits) (maxL := 3) (ret := (some .int)) (by decide) rfl ?_
  intro p e s m args below meth c s₁ B hml hv
  obtain ⟨rfl, hB⟩ := hv
  have hx := B.exec
  have hb := B.bytes
  have hr := B.returns
  have hts := atoms_spec (ws := wsX9_hits) B.pre
  have hown : s.vm.findClass RX9 = some m.cls := findClass_of_methodNamed B.named
  have hlocks := B.notSynchronized
  have hw := m_wo_in hB
  have hl := lv_entry ([.ref o]) (n := 3) (Nat.le_of_ble_eq_true rfl)
  rw [lg_entry_eq]
  generalize (lg_sl ([.ref o]) ++ List.replicate (3 - (lg_sl ([.ref o])).length) Slot.unset).toArray = ls at hl ⊢
  have hl : lv_has ls 3 [(0, .ref o)] := hl
  have his := hz
  refine lv_aload_n hx hb dX9_hits_0 rfl (lv_at hl 0 rfl) ?_
  refine lv_aload_n hx hb dX9_hits_1 rfl (lv_at hl 0 rfl) ?_
  refine g_10_29 hx hb hts (by decide +kernel) hown hw hro.1 (hts (.fieldLink RX9 170 "PirateindexModel" "typed" "I") (by decide +kernel)) dX9_hits_2 ?_
  rw [show I 1029 o = Z 29 from his.1 29 (by decide)]
  refine lv_if_le (tgt := 12) hx hb dX9_hits_5 (by decide) (fun c_5 => ?_) (fun c_5 => ?_)
  · skip
    have htp : ¬ 0 < Z 29 := Int32.not_lt.mpr c_5
    refine lv_iconst (v := 0) hx hb dX9_hits_12 (by decide) ?_
    refine lv_iconst (v := 1) hx hb dX9_hits_13 (by decide) ?_
    refine m_ci (va_runV (As := [.int 0, .int 1]) (rest := []) ⟨hx, hb, hml, hown, hts⟩ (c_X9_no l (Z := Z) (M := M) (th := th) false 1 hro (r_st_self his) ) (cwV 2 hts gX9_hits_X9_no rfl rfl rfl (by decide +kernel) ⟨Nat.le_of_ble_eq_true rfl, Nat.le_of_ble_eq_true rfl⟩) ⟨m_blind m_B_calling, m_recv hw (m_ent_10 hro.1) rfl, fun U hU hW => ⟨rfl, m_wo_call hw hU hW⟩⟩ rfl rfl hl.1 rfl (lv_room (Nat.le_of_ble_eq_true rfl)) dX9_hits_14 ⟨Nat.le_of_ble_eq_true rfl, Nat.le_of_ble_eq_true rfl⟩) hw (fun r_14 u_14 H locs hp_14 hw => ?_)
    obtain ⟨I_1, A_2⟩ := u_14
    have hw : m_wo G K I_1 R F A_2 N L T J D s H locs := hw
    dsimp only at hp_14
    have his := r_st_tr his hp_14.1
    obtain rfl : r_14 = (b2i (!false)) := hp_14.2
    refine lv_if_eq (tgt := 22) hx hb dX9_hits_17 (by decide) (fun c_17 => absurd c_17 (by decide)) (fun c_17 => ?_)
    refine lv_iconst (v := 0) hx hb dX9_hits_20 (by decide) ?_
    exact W.iret (v := 0) hx hb hr (fun t ht hW => ⟨⟨0, (I_1, A_2), rfl, (by have ht : t_b (decide (0 < Z 29)) = 1 := (by simp [t_b, htp]); have hth : (1 : Int32) = 1 := (by first | rfl | simp [htp]); rw [hth] at his; rw [ht]; exact ⟨⟨Z, M, his, o_sc_rf _⟩, fun h => absurd h (by decide)⟩), m_wo_out hw ht hW.alike⟩, m_wo_F hw ht⟩) (m_wo_L hw) dX9_hits_21
  · skip
    have htp : 0 < Z 29 := Int32.not_le.mp c_5
    refine lv_iconst (v := 1) hx hb dX9_hits_8 (by decide) ?_
    refine lv_goto (tgt := 13) hx hb dX9_hits_9 (by decide) ?_
    refine lv_iconst (v := 1) hx hb dX9_hits_13 (by decide) ?_
    refine m_ci (va_runV (As := [.int 1, .int 1]) (rest := []) ⟨hx, hb, hml, hown, hts⟩ (c_X9_no l (Z := Z) (M := M) (th := th) true 1 hro (r_st_self his) ) (cwV 2 hts gX9_hits_X9_no rfl rfl rfl (by decide +kernel) ⟨Nat.le_of_ble_eq_true rfl, Nat.le_of_ble_eq_true rfl⟩) ⟨m_blind m_B_calling, m_recv hw (m_ent_10 hro.1) rfl, fun U hU hW => ⟨rfl, m_wo_call hw hU hW⟩⟩ rfl rfl hl.1 rfl (lv_room (Nat.le_of_ble_eq_true rfl)) dX9_hits_14 ⟨Nat.le_of_ble_eq_true rfl, Nat.le_of_ble_eq_true rfl⟩) hw (fun r_14 u_14 H locs hp_14 hw => ?_)
    obtain ⟨I_3, A_4⟩ := u_14
    have hw : m_wo G K I_3 R F A_4 N L T J D s H locs := hw
    dsimp only at hp_14
    have his := r_st_tr his hp_14.1
    obtain rfl : r_14 = (b2i (!true)) := hp_14.2
    refine lv_if_eq (tgt := 22) hx hb dX9_hits_17 (by decide) (fun c_17 => ?_) (fun c_17 => absurd (by decide) c_17)
    refine lv_aload_n hx hb dX9_hits_22 rfl (lv_at hl 0 rfl) ?_
    refine m_cv (va_runV (As := []) (rest := []) ⟨hx, hb, hml, hown, hts⟩ (c_X9_asksTyped l (Z := Z) (M := M) (th := 0)  hro (r_st_self his) hnt h4t) (cwV 0 hts gX9_hits_X9_asksTyped rfl rfl rfl (by decide +kernel) ⟨Nat.le_of_ble_eq_true rfl, Nat.le_of_ble_eq_true rfl⟩) ⟨m_blind m_B_calling, m_recv hw (m_ent_10 hro.1) rfl, fun U hU hW => ⟨rfl, m_wo_call hw hU hW⟩⟩ rfl rfl hl.1 rfl (lv_room (Nat.le_of_ble_eq_true rfl)) dX9_hits_23 ⟨Nat.le_of_ble_eq_true rfl, Nat.le_of_ble_eq_true rfl⟩) hw (fun u_23 H locs hp_23 hw => ?_)
    obtain ⟨I_5, A_6⟩ := u_23
    have hw : m_wo G K I_5 R F A_6 N L T J D s H locs := hw
    dsimp only at hp_23
    have his := r_st_tr his hp_23.1
    obtain ⟨Z_7, eZ_7⟩ : ∃ z : Nat → Int32, z = (o_askT (Z, M)).1 := ⟨_, rfl⟩
    rw [← eZ_7] at his
    obtain ⟨M_8, eM_8⟩ : ∃ z : Nat → Nat → Int32, z = (o_askT (Z, M)).2 := ⟨_, rfl⟩
    rw [← eM_8] at his
    have hnt1 : 1 ≤ nt := by have h9 := htp; rw [hnt, show (0 : Int32) = nI 0 from rfl, nI_ltI (by decide) (by omega)] at h9; omega
    obtain ⟨Zt, eZt⟩ : ∃ z, z = Z_7 := ⟨_, rfl⟩
    obtain ⟨Mt, eMt⟩ : ∃ z, z = M_8 := ⟨_, rfl⟩
    rw [← eZt, ← eMt] at his
    have eS : (Zt, Mt) = o_askT (Z, M) := by rw [eZt, eMt, eZ_7, eM_8]
    have eZt1 : Zt = (o_askT (Z, M)).1 := congrArg Prod.fst eS
    have eMt1 : Mt = (o_askT (Z, M)).2 := congrArg Prod.snd eS
    have hsc0 : o_sc (Z, M) (Zt, Mt) := by rw [eS]; exact o_sc_askT _
    have hnf9 : Zt 1 = nI nf := (hsc0.1 1 (by decide)).trans hnf
    have hni9 : Zt 0 = nI ni := (hsc0.1 0 (by decide)).trans hni
    have hna9 : Zt 30 = nI nt := by rw [eZt1]; exact o_askT_30 _ hnt
    have hga9 : ∀ k, 1 ≤ k → k < nt → ∃ g, g ≤ 9 ∧ Mt 28 k = nI g := fun k h1 h2 => by rw [eMt1, o_askT_28 _ hnt h4t h2]; exact hgt k h1 h2
    have hht : ∀ i, o_hitsOn Zt Mt i = o_hitT Z M i := fun i => by rw [eZt1, eMt1]; rfl
    have hsc : m_eq Mt Mt := m_eq_rf _
    refine lv_iconst (v := 0) hx hb dX9_hits_26 (by decide) ?_
    refine lv_istore_n (lv' := [(1, .int 0), (0, .ref o)]) hx hb dX9_hits_27 rfl hl (by decide) rfl (fun ls hl => ?_)
    refine lv_iconst (v := 0) hx hb dX9_hits_28 (by decide) ?_
    refine lv_istore_n (lv' := [(2, .int 0), (1, .int 0), (0, .ref o)]) hx hb dX9_hits_29 rfl hl (by decide) rfl (fun ls hl => ?_)
    refine m_loop (σ := Nat × Int32 × (Nat → Nat → Int32) × (Nat → Nat → Int32) × (Nat → Nat → Int32)) (fun a => ni - (a.1)) (fun a H locs ls => ((a.1) ≤ ni ∧ (a.2.1) = nI (cntB (fun f => decide (0 < o_hitT Z M (nI f))) (a.1)) ∧ r_st K o ad I A (a.2.2.1) (a.2.2.2.1) Zt (a.2.2.2.2) 0 ∧ m_eq Mt (a.2.2.2.2)) ∧ m_wo G K (a.2.2.1) R F (a.2.2.2.1) N L T J D s H locs ∧ lv_has ls 3 [(0, .ref o), (1, .int (a.2.1)), (2, .int (nI (a.1)))]) ?_ (0, 0, I_5, A_6, Mt) ⟨⟨Nat.zero_le _, rfl, his, hsc⟩, hw, lv_sub hl [2, 1, 0] rfl⟩
    rintro ⟨i, x, Ii, Aa, Mi⟩ H locs ls ⟨hinv, hw, hl⟩ ih
    dsimp only at hinv hw hl
    obtain ⟨hi0, hx0, his, hsc⟩ := hinv
    refine lv_iload_n hx hb dX9_hits_30 rfl (lv_at hl 2 rfl) ?_
    refine lv_aload_n hx hb dX9_hits_31 rfl (lv_at hl 0 rfl) ?_
    refine g_10_0 hx hb hts (by decide +kernel) hown hw hro.1 (hts (.fieldLink RX9 98 "PirateindexModel" "islands" "I") (by decide +kernel)) dX9_hits_32 ?_
    rw [show Ii 1000 o = Zt 0 from his.1 0 (by decide)]
    rw [hni9]
    refine lv_icmp_ge (tgt := 60) hx hb dX9_hits_35 (by decide) (fun c_35 => ?_) (fun c_35 => ?_)
    · skip
      rw [nI_leI (by omega) (by omega)] at c_35
      have hi : i = ni := by omega
      subst hi
      refine lv_iload_n hx hb dX9_hits_60 rfl (lv_at hl 1 rfl) ?_
      exact W.iret (v := x) hx hb hr (fun t ht hW => ⟨⟨x, (Ii, Aa), rfl, (by have ht : t_b (decide (0 < Z 29)) = 0 := (by simp [t_b, htp, htp]); have hth : (0 : Int32) = 0 := (by first | rfl | simp [htp]); rw [hth] at his; rw [ht]; exact ⟨⟨Zt, Mi, his, o_sc_m hsc0 hsc⟩, fun _ => hx0⟩), m_wo_out hw ht hW.alike⟩, m_wo_F hw ht⟩) (m_wo_L hw) dX9_hits_61
    · skip
      rw [nI_leI (by omega) (by omega)] at c_35
      have hi : i < ni := by omega
      refine lv_iload_n hx hb dX9_hits_38 rfl (lv_at hl 1 rfl) ?_
      refine lv_aload_n hx hb dX9_hits_39 rfl (lv_at hl 0 rfl) ?_
      refine lv_iload_n hx hb dX9_hits_40 rfl (lv_at hl 2 rfl) ?_
      refine m_ci (va_runV (As := [.int (nI i)]) (rest := [.int x]) ⟨hx, hb, hml, hown, hts⟩ (c_X9_hitsOn l (Z := Zt) (M := Mi) (th := 0) (nI i) hro (r_st_self his) hnf9 hn hna9 hnt1 h4t (fun k h1 h2 => by rw [hsc 28 (by decide) (by decide)]; exact hga9 k h1 h2)) (cwV 1 hts gX9_hits_X9_hitsOn rfl rfl rfl (by decide +kernel) ⟨Nat.le_of_ble_eq_true rfl, Nat.le_of_ble_eq_true rfl⟩) ⟨m_blind m_B_calling, m_recv hw (m_ent_10 hro.1) rfl, fun U hU hW => ⟨rfl, m_wo_call hw hU hW⟩⟩ rfl rfl hl.1 rfl (lv_room (Nat.le_of_ble_eq_true rfl)) dX9_hits_41 ⟨Nat.le_of_ble_eq_true rfl, Nat.le_of_ble_eq_true rfl⟩) hw (fun r_41 u_41 H locs hp_41 hw => ?_)
      obtain ⟨I_9, A_10⟩ := u_41
      have hw : m_wo G K I_9 R F A_10 N L T J D s H locs := hw
      dsimp only at hp_41
      obtain ⟨⟨M_11, hiM_11, hmM_11⟩, hrM_11⟩ := hp_41
      have his := r_st_tr his hiM_11
      obtain rfl : r_41 = (nI (o_hitsOn Zt Mi (nI i))) := hrM_11
      rw [o_hitsOn_eq hsc]
      have hsc := m_eq_tr hsc hmM_11
      refine lv_if_le (tgt := 51) hx hb dX9_hits_44 (by decide) (fun c_44 => ?_) (fun c_44 => ?_)
      · skip
        have h44 := hlt (nI i)
        rw [hht, show (0 : Int32) = nI 0 from rfl, nI_leI h44 (by decide)] at c_44
        have hpi : (fun f => decide (0 < o_hitT Z M (nI f))) i = false := decide_eq_false (by omega)
        refine lv_iconst (v := 0) hx hb dX9_hits_51 (by decide) ?_
        refine lv_iadd hx hb dX9_hits_52 ?_
        refine lv_istore_n (lv' := [(1, .int (x + 0)), (0, .ref o), (2, .int (nI i))]) hx hb dX9_hits_53 rfl hl (by decide) rfl (fun ls hl => ?_)
        refine lv_iinc (v := nI (i + 1)) (lv' := [(2, .int (nI (i + 1))), (1, .int (x + 0)), (0, .ref o)]) hx hb dX9_hits_54 hl (k := 2) rfl (nI_1 _) (by decide) rfl (fun ls hl => ?_)
        refine lv_goto (tgt := 30) hx hb dX9_hits_57 (by decide) ?_
        exact ih (i + 1, (x + 0), I_9, A_10, M_11) _ _ _ (by dsimp only; omega) ⟨⟨by omega, cntB_step hx0 hpi, his, hsc⟩, hw, lv_sub hl [2, 1, 0] rfl⟩
      · skip
        have h44 := hlt (nI i)
        rw [hht, show (0 : Int32) = nI 0 from rfl, nI_leI h44 (by decide)] at c_44
        have hpi : (fun f => decide (0 < o_hitT Z M (nI f))) i = true := decide_eq_true (by omega)
        refine lv_iconst (v := 1) hx hb dX9_hits_47 (by decide) ?_
        refine lv_goto (tgt := 52) hx hb dX9_hits_48 (by decide) ?_
        refine lv_iadd hx hb dX9_hits_52 ?_
        refine lv_istore_n (lv' := [(1, .int (x + 1)), (0, .ref o), (2, .int (nI i))]) hx hb dX9_hits_53 rfl hl (by decide) rfl (fun ls hl => ?_)
        refine lv_iinc (v := nI (i + 1)) (lv' := [(2, .int (nI (i + 1))), (1, .int (x + 1)), (0, .ref o)]) hx hb dX9_hits_54 hl (k := 2) rfl (nI_1 _) (by decide) rfl (fun ls hl => ?_)
        refine lv_goto (tgt := 30) hx hb dX9_hits_57 (by decide) ?_
        exact ih (i + 1, (x + 1), I_9, A_10, M_11) _ _ _ (by dsimp only; omega) ⟨⟨by omega, cntB_step hx0 hpi, his, hsc⟩, hw, lv_sub hl [2, 1, 0] rfl⟩

