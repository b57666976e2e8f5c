set_option maxHeartbeats 400000 in
set_option maxRecDepth 100000 in
theorem c_X9_asksTyped (l : Launch) {G : mG} {K : Nat → Nat} {I : Nat → Nat → Int32} {R : Nat → Nat → Option Nat} {F : Nat → UInt32} {A : Nat → Nat → Int32} {N : Nat → Nat} {L : Nat → List Nat} {T : Nat → List Int32} {J : Nat → Nat → Int64} {D : Nat → Nat → UInt64} {o : Nat} {ad : Nat → Nat} {Z : Nat → Int32} {M : Nat → Nat → Int32} {th : Int32} {nt : Nat} (hro : r_ok K R N o ad) (hz : r_st K o ad I A I A Z M th) (hnt : Z 29 = nI nt) (hn : nt ≤ 4) : Met l yX9_asksTyped wsX9_asksTyped ({ frames := 0, cells := 0, slots := 0, locals := 0 } : Room) (va_Pc [.ref o] (m_B G K I R F A N L T J D)) (va_Qv (fun (u : (Nat → Nat → Int32) × (Nat → Nat → Int32)) => (r_st K o ad I A u.1 u.2 (o_askT (Z, M)).1 (o_askT (Z, M)).2 th) ∧ True) (fun u : (Nat → Nat → Int32) × (Nat → Nat → Int32) => m_B G K (u.1) R F (u.2) N L T J D) (m_A G)) 0 0 (m_A G) := by
  refine Met.ofW (cc := cX9_asksTyped) (maxL := 2) (ret := none) (by decide) rfl ?_
  intro p e s m args below meth c s₁ B hml hv
  obtain ⟨rfl, hB⟩ := hv
  have hx := B.exec
  have hb := B.bytes
  have hr := B.returns
  have hts := atoms_spec (ws := wsX9_asksTyped) B.pre
  have hown : s.vm.findClass RX9 = some m.cls := findClass_of_methodNamed B.named
  have hlocks := B.notSynchronized
  have hw := m_wo_in hB
  have hl := lv_entry ([.ref o]) (n := 2) (Nat.le_of_ble_eq_true rfl)
  rw [lg_entry_eq]
  generalize (lg_sl ([.ref o]) ++ List.replicate (2 - (lg_sl ([.ref o])).length) Slot.unset).toArray = ls at hl ⊢
  have hl : lv_has ls 2 [(0, .ref o)] := hl
  have his := hz
  refine lv_aload_n hx hb dX9_asksTyped_0 rfl (lv_at hl 0 rfl) ?_
  refine lv_aload_n hx hb dX9_asksTyped_1 rfl (lv_at hl 0 rfl) ?_
  refine g_10_29 hx hb hts (by decide +kernel) hown hw hro.1 (hts (.fieldLink RX9 170 "PirateindexModel" "typed" "I") (by decide +kernel)) dX9_asksTyped_2 ?_
  rw [show I 1029 o = Z 29 from his.1 29 (by decide)]
  refine p_10_30 hx hb hts (by decide +kernel) hown hw hro.1 (hts (.fieldLink RX9 173 "PirateindexModel" "asking" "I") (by decide +kernel)) dX9_asksTyped_5 (fun H locs hw => ?_)
  obtain ⟨I_1, eI_1⟩ : ∃ z, z = m_up2 I 1030 o (Z 29) := ⟨_, rfl⟩
  rw [← eI_1] at hw
  obtain ⟨Z_2, eZ_2⟩ : ∃ z, z = z1 Z 30 (Z 29) := ⟨_, rfl⟩
  have his : r_st K o ad I A I_1 A Z_2 M th := by rw [eI_1, eZ_2]; exact r_st_z his 30 (Z 29) hro.1 (by decide)
  have hz30 : Z_2 30 = nI nt := by rw [eZ_2, z1_s]; first | done | exact hnt
  have hz29 : Z_2 29 = nI nt := by rw [eZ_2]; exact hnt
  refine lv_iconst (v := 0) hx hb dX9_asksTyped_8 (by decide) ?_
  refine lv_istore_n (lv' := [(1, .int 0), (0, .ref o)]) hx hb dX9_asksTyped_9 rfl hl (by decide) rfl (fun ls hl => ?_)
  refine m_loop (σ := Nat × (Nat → Nat → Int32)) (fun a => nt - (a.1)) (fun a H locs ls => ((a.1) ≤ nt ∧ r_st K o ad I A I_1 (a.2) Z_2 (mset (mset M 27 (fmp (M 27) (fun (k : Nat) (_ : Int32) => M 25 k) (a.1))) 28 (fmp (M 28) (fun (k : Nat) (_ : Int32) => M 26 k) (a.1))) th) ∧ m_wo G K I_1 R F (a.2) N L T J D s H locs ∧ lv_has ls 2 [(0, .ref o), (1, .int (nI (a.1)))]) ?_ (0, A) ⟨⟨Nat.zero_le _, by rw [fmp_0, fmp_0, mset_self, mset_self]; exact his⟩, hw, lv_sub hl [1, 0] rfl⟩
  rintro ⟨i, Aa⟩ H locs ls ⟨hinv, hw, hl⟩ ih
  dsimp only at hinv hw hl
  obtain ⟨hi0, his⟩ := hinv
  obtain ⟨Mi, eMi⟩ : ∃ z, z = mset (mset M 27 (fmp (M 27) (fun (k : Nat) (_ : Int32) => M 25 k) i)) 28 (fmp (M 28) (fun (k : Nat) (_ : Int32) => M 26 k) i) := ⟨_, rfl⟩
  rw [← eMi] at his
  refine lv_iload_n hx hb dX9_asksTyped_10 rfl (lv_at hl 1 rfl) ?_
  refine lv_aload_n hx hb dX9_asksTyped_11 rfl (lv_at hl 0 rfl) ?_
  refine g_10_29 hx hb hts (by decide +kernel) hown hw hro.1 (hts (.fieldLink RX9 170 "PirateindexModel" "typed" "I") (by decide +kernel)) dX9_asksTyped_12 ?_
  rw [show I_1 1029 o = Z_2 29 from his.1 29 (by decide)]
  rw [hz29]
  refine lv_icmp_ge (tgt := 48) hx hb dX9_asksTyped_15 (by decide) (fun c_15 => ?_) (fun c_15 => ?_)
  · skip
    rw [nI_leI (by omega) (by omega)] at c_15
    have hi : i = nt := by omega
    subst hi
    exact W.vret hx hb hr (fun t ht hW => ⟨⟨(I_1, Aa), rfl, (by have e9 : (Z_2, Mi) = o_askT (Z, M) := (by unfold o_askT; rw [eMi, eZ_2]; simp only [hnt, zn_of hnt (show i < 2 ^ 31 by omega)]); rw [← e9]; exact ⟨his, trivial⟩), m_wo_out hw ht hW.alike⟩, m_wo_F hw ht⟩) (m_wo_L hw) dX9_asksTyped_48
  · skip
    rw [nI_leI (by omega) (by omega)] at c_15
    have hi : i < nt := by omega
    refine lv_aload_n hx hb dX9_asksTyped_18 rfl (lv_at hl 0 rfl) ?_
    refine g_10_27 (r := some (ad 27)) hx hb hts (by decide +kernel) hown hw hro.1 (hts (.fieldLink RX9 71 "PirateindexModel" "askWord" "[I") (by decide +kernel)) (hro.2.1 27 rfl).1 dX9_asksTyped_19 ?_
    refine lv_iload_n hx hb dX9_asksTyped_22 rfl (lv_at hl 1 rfl) ?_
    refine lv_aload_n hx hb dX9_asksTyped_23 rfl (lv_at hl 0 rfl) ?_
    refine g_10_25 (r := some (ad 25)) hx hb hts (by decide +kernel) hown hw hro.1 (hts (.fieldLink RX9 65 "PirateindexModel" "mapWord" "[I") (by decide +kernel)) (hro.2.1 25 rfl).1 dX9_asksTyped_24 ?_
    refine lv_iload_n hx hb dX9_asksTyped_27 rfl (lv_at hl 1 rfl) ?_
    refine m_iaload_20 hx hb hw (hro.2.1 25 rfl).2.1 (r_in hro 25 rfl (n := 4) rfl (by omega)) dX9_asksTyped_28 ?_
    rw [show Aa (ad 25) = Mi 25 from his.2.1 25 rfl]
    rw [nI_clamp (show i < 2 ^ 31 by omega)]
    rw [show Mi 25 i = M 25 i from by rw [eMi, mset_n _ _ (show (25 : Nat) ≠ 28 by decide), mset_n _ _ (show (25 : Nat) ≠ 27 by decide)]]
    refine m_iastore_20 hx hb hw (hro.2.1 27 rfl).2.1 (r_in hro 27 rfl (n := 4) rfl (by omega))  dX9_asksTyped_29 (fun H locs hw => ?_)
    obtain ⟨A_3, eA_3⟩ : ∃ z, z = m_up Aa (ad 27) (upd (Aa (ad 27)) (nI i).toNatClampNeg (M 25 i)) := ⟨_, rfl⟩
    rw [← eA_3] at hw
    obtain ⟨M_4, eM_4⟩ : ∃ z, z = m1 Mi 27 i (M 25 i) := ⟨_, rfl⟩
    have his : r_st K o ad I A I_1 A_3 Z_2 M_4 th := by rw [eA_3, eM_4, nI_clamp (show i < 2 ^ 31 by omega)]; exact r_st_m his hro 27 rfl i (M 25 i)
    refine lv_aload_n hx hb dX9_asksTyped_30 rfl (lv_at hl 0 rfl) ?_
    refine g_10_28 (r := some (ad 28)) hx hb hts (by decide +kernel) hown hw hro.1 (hts (.fieldLink RX9 74 "PirateindexModel" "askGap" "[I") (by decide +kernel)) (hro.2.1 28 rfl).1 dX9_asksTyped_31 ?_
    refine lv_iload_n hx hb dX9_asksTyped_34 rfl (lv_at hl 1 rfl) ?_
    refine lv_aload_n hx hb dX9_asksTyped_35 rfl (lv_at hl 0 rfl) ?_
    refine g_10_26 (r := some (ad 26)) hx hb hts (by decide +kernel) hown hw hro.1 (hts (.fieldLink RX9 68 "PirateindexModel" "mapGap" "[I") (by decide +kernel)) (hro.2.1 26 rfl).1 dX9_asksTyped_36 ?_
    refine lv_iload_n hx hb dX9_asksTyped_39 rfl (lv_at hl 1 rfl) ?_
    refine m_iaload_20 hx hb hw (hro.2.1 26 rfl).2.1 (r_in hro 26 rfl (n := 4) rfl (by omega)) dX9_asksTyped_40 ?_
    rw [show A_3 (ad 26) = M_4 26 from his.2.1 26 rfl]
    rw [nI_clamp (show i < 2 ^ 31 by omega)]
    rw [show M_4 26 i = M 26 i from by rw [eM_4, m1_n _ _ (show (26 : Nat) ≠ 27 by decide), eMi, mset_n _ _ (show (26 : Nat) ≠ 28 by decide), mset_n _ _ (show (26 : Nat) ≠ 27 by decide)]]
    refine m_iastore_20 hx hb hw (hro.2.1 28 rfl).2.1 (r_in hro 28 rfl (n := 4) rfl (by omega))  dX9_asksTyped_41 (fun H locs hw => ?_)
    obtain ⟨A_5, eA_5⟩ : ∃ z, z = m_up A_3 (ad 28) (upd (A_3 (ad 28)) (nI i).toNatClampNeg (M 26 i)) := ⟨_, rfl⟩
    rw [← eA_5] at hw
    obtain ⟨M_6, eM_6⟩ : ∃ z, z = m1 M_4 28 i (M 26 i) := ⟨_, rfl⟩
    have his : r_st K o ad I A I_1 A_5 Z_2 M_6 th := by rw [eA_5, eM_6, nI_clamp (show i < 2 ^ 31 by omega)]; exact r_st_m his hro 28 rfl i (M 26 i)
    refine lv_iinc (v := nI (i + 1)) (lv' := [(1, .int (nI (i + 1))), (0, .ref o)]) hx hb dX9_asksTyped_42 hl (k := 1) rfl (nI_1 _) (by decide) rfl (fun ls hl => ?_)
    refine lv_goto (tgt := 10) hx hb dX9_asksTyped_45 (by decide) ?_
    exact ih (i + 1, A_5) _ _ _ (by dsimp only; omega) ⟨⟨by omega, by rw [← fmp_step, ← fmp_step, ← m1_mset2, ← eMi]; rw [eM_6, eM_4] at his; exact his⟩, hw, lv_sub hl [1, 0] rfl⟩

set_option maxHeartbeats 400000 in
set_option maxRecDepth 100000 in
theorem c_X9_asksKept (l : Launch) {G : mG} {K : Nat → Nat} {I : Nat → Nat → Int32} {R : Nat → Nat → Option Nat} {F : Nat → UInt32} {A : Nat → Nat → Int32} {N : Nat → Nat} {L : Nat → List Nat} {T : Nat → List Int32} {J : Nat → Nat → Int64} {D : Nat → Nat → UInt64} {o : Nat} {ad : Nat → Nat} {Z : Nat → Int32} {M : Nat → Nat → Int32} {th : Int32} {nt : Nat} (sh : Nat) (hro : r_ok K R N o ad) (hz : r_st K o ad I A I A Z M th) (hnt : M 22 sh = nI nt) (hn : nt ≤ 4) (hsh : sh < 5) : Met l yX9_asksKept wsX9_asksKept ({ frames := 0, cells := 0, slots := 0, locals := 0 } : Room) (va_Pc [.ref o, .int (nI sh)] (m_B G K I R F A N L T J D)) (va_Qv (fun (u : (Nat → Nat → Int32) × (Nat → Nat → Int32)) => (r_st K o ad I A u.1 u.2 (o_askK (Z, M) sh).1 (o_askK (Z, M) sh).2 th) ∧ True) (fun u : (Nat → Nat → Int32) × (Nat → Nat → Int32) => m_B G K (u.1) R F (u.2) N L T J D) (m_A G)) 0 0 (m_A G) := by
  refine Met.ofW (cc := cX9_asksKept) (maxL := 3) (ret := none) (by decide) rfl ?_
  intro p e s m args below meth c s₁ B hml hv
  obtain ⟨rfl, hB⟩ := hv
  have hx := B.exec
  have hb := B.bytes
  have hr := B.returns
  have hts := atoms_spec (ws := wsX9_asksKept) B.pre
  have hown : s.vm.findClass RX9 = some m.cls := findClass_of_methodNamed B.named
  have hlocks := B.notSynchronized
  have hw := m_wo_in hB
  have hl := lv_entry ([.ref o, .int (nI sh)]) (n := 3) (Nat.le_of_ble_eq_true rfl)
  rw [lg_entry_eq]
  generalize (lg_sl ([.ref o, .int (nI sh)]) ++ List.replicate (3 - (lg_sl ([.ref o, .int (nI sh)])).length) Slot.unset).toArray = ls at hl ⊢
  have hl : lv_has ls 3 [(0, .ref o), (1, .int (nI sh))] := hl
  have his := hz
  refine lv_aload_n hx hb dX9_asksKept_0 rfl (lv_at hl 0 rfl) ?_
  refine lv_aload_n hx hb dX9_asksKept_1 rfl (lv_at hl 0 rfl) ?_
  refine g_10_22 (r := some (ad 22)) hx hb hts (by decide +kernel) hown hw hro.1 (hts (.fieldLink RX9 56 "PirateindexModel" "kept" "[I") (by decide +kernel)) (hro.2.1 22 rfl).1 dX9_asksKept_2 ?_
  refine lv_iload_n hx hb dX9_asksKept_5 rfl (lv_at hl 1 rfl) ?_
  refine m_iaload_20 hx hb hw (hro.2.1 22 rfl).2.1 (r_in hro 22 rfl (n := 5) rfl (by omega)) dX9_asksKept_6 ?_
  rw [show A (ad 22) = M 22 from his.2.1 22 rfl]
  rw [nI_clamp (show sh < 2 ^ 31 by omega)]
  rw [hnt]
  refine p_10_30 hx hb hts (by decide +kernel) hown hw hro.1 (hts (.fieldLink RX9 173 "PirateindexModel" "asking" "I") (by decide +kernel)) dX9_asksKept_7 (fun H locs hw => ?_)
  obtain ⟨I_1, eI_1⟩ : ∃ z, z = m_up2 I 1030 o (nI nt) := ⟨_, rfl⟩
  rw [← eI_1] at hw
  obtain ⟨Z_2, eZ_2⟩ : ∃ z, z = z1 Z 30 (nI nt) := ⟨_, rfl⟩
  have his : r_st K o ad I A I_1 A Z_2 M th := by rw [eI_1, eZ_2]; exact r_st_z his 30 (nI nt) hro.1 (by decide)
  have hz30 : Z_2 30 = nI nt := by rw [eZ_2, z1_s]; first | done | exact hnt
  refine lv_iconst (v := 0) hx hb dX9_asksKept_10 (by decide) ?_
  refine lv_istore_n (lv' := [(2, .int 0), (0, .ref o), (1, .int (nI sh))]) hx hb dX9_asksKept_11 rfl hl (by decide) rfl (fun ls hl => ?_)
  refine m_loop (σ := Nat × (Nat → Nat → Int32)) (fun a => nt - (a.1)) (fun a H locs ls => ((a.1) ≤ nt ∧ r_st K o ad I A I_1 (a.2) Z_2 (mset (mset M 27 (fmp (M 27) (fun (k : Nat) (_ : Int32) => M 23 (4 * sh + k)) (a.1))) 28 (fmp (M 28) (fun (k : Nat) (_ : Int32) => M 24 (4 * sh + k)) (a.1))) th) ∧ m_wo G K I_1 R F (a.2) N L T J D s H locs ∧ lv_has ls 3 [(0, .ref o), (1, .int (nI sh)), (2, .int (nI (a.1)))]) ?_ (0, A) ⟨⟨Nat.zero_le _, by rw [fmp_0, fmp_0, mset_self, mset_self]; exact his⟩, hw, lv_sub hl [1, 2, 0] rfl⟩
  rintro ⟨i, Aa⟩ H locs ls ⟨hinv, hw, hl⟩ ih
  dsimp only at hinv hw hl
  obtain ⟨hi0, his⟩ := hinv
  obtain ⟨Mi, eMi⟩ : ∃ z, z = mset (mset M 27 (fmp (M 27) (fun (k : Nat) (_ : Int32) => M 23 (4 * sh + k)) i)) 28 (fmp (M 28) (fun (k : Nat) (_ : Int32) => M 24 (4 * sh + k)) i) := ⟨_, rfl⟩
  rw [← eMi] at his
  refine lv_iload_n hx hb dX9_asksKept_12 rfl (lv_at hl 2 rfl) ?_
  refine lv_aload_n hx hb dX9_asksKept_13 rfl (lv_at hl 0 rfl) ?_
  refine g_10_30 hx hb hts (by decide +kernel) hown hw hro.1 (hts (.fieldLink RX9 173 "PirateindexModel" "asking" "I") (by decide +kernel)) dX9_asksKept_14 ?_
  rw [show I_1 1030 o = Z_2 30 from his.1 30 (by decide)]
  rw [hz30]
  refine lv_icmp_ge (tgt := 58) hx hb dX9_asksKept_17 (by decide) (fun c_17 => ?_) (fun c_17 => ?_)
  · skip
    rw [nI_leI (by omega) (by omega)] at c_17
    have hi : i = nt := by omega
    subst hi
    exact W.vret hx hb hr (fun t ht hW => ⟨⟨(I_1, Aa), rfl, (by have e9 : (Z_2, Mi) = o_askK (Z, M) sh := (by unfold o_askK; rw [eMi, eZ_2]; simp only [hnt, nI_clamp (show i < 2 ^ 31 by omega)]); rw [← e9]; exact ⟨his, trivial⟩), m_wo_out hw ht hW.alike⟩, m_wo_F hw ht⟩) (m_wo_L hw) dX9_asksKept_58
  · skip
    rw [nI_leI (by omega) (by omega)] at c_17
    have hi : i < nt := by omega
    refine lv_aload_n hx hb dX9_asksKept_20 rfl (lv_at hl 0 rfl) ?_
    refine g_10_27 (r := some (ad 27)) hx hb hts (by decide +kernel) hown hw hro.1 (hts (.fieldLink RX9 71 "PirateindexModel" "askWord" "[I") (by decide +kernel)) (hro.2.1 27 rfl).1 dX9_asksKept_21 ?_
    refine lv_iload_n hx hb dX9_asksKept_24 rfl (lv_at hl 2 rfl) ?_
    refine lv_aload_n hx hb dX9_asksKept_25 rfl (lv_at hl 0 rfl) ?_
    refine g_10_23 (r := some (ad 23)) hx hb hts (by decide +kernel) hown hw hro.1 (hts (.fieldLink RX9 59 "PirateindexModel" "keptWord" "[I") (by decide +kernel)) (hro.2.1 23 rfl).1 dX9_asksKept_26 ?_
    refine lv_iconst (v := 4) hx hb dX9_asksKept_29 (by decide) ?_
    refine lv_iload_n hx hb dX9_asksKept_30 rfl (lv_at hl 1 rfl) ?_
    refine lv_imul hx hb dX9_asksKept_31 ?_
    refine lv_iload_n hx hb dX9_asksKept_32 rfl (lv_at hl 2 rfl) ?_
    refine lv_iadd hx hb dX9_asksKept_33 ?_
    refine m_iaload_20 hx hb hw (hro.2.1 23 rfl).2.1 (by rw [show (4 : Int32) * nI sh + nI i = nI (4 * sh + i) from by rw [show (4 : Int32) = nI 4 from rfl, pk_mul, nI_add]]; exact r_in hro 23 rfl (n := 20) rfl (by omega)) dX9_asksKept_34 ?_
    rw [show Aa (ad 23) = Mi 23 from his.2.1 23 rfl]
    rw [show ((4 : Int32) * nI sh + nI i).toNatClampNeg = 4 * sh + i from by rw [show (4 : Int32) = nI 4 from rfl, pk_mul, nI_add]; exact nI_clamp (by omega)]
    rw [show Mi 23 (4 * sh + i) = M 23 (4 * sh + i) from by rw [eMi, mset_n _ _ (show (23 : Nat) ≠ 28 by decide), mset_n _ _ (show (23 : Nat) ≠ 27 by decide)]]
    refine m_iastore_20 hx hb hw (hro.2.1 27 rfl).2.1 (r_in hro 27 rfl (n := 4) rfl (by omega))  dX9_asksKept_35 (fun H locs hw => ?_)
    obtain ⟨A_3, eA_3⟩ : ∃ z, z = m_up Aa (ad 27) (upd (Aa (ad 27)) (nI i).toNatClampNeg (M 23 (4 * sh + i))) := ⟨_, rfl⟩
    rw [← eA_3] at hw
    obtain ⟨M_4, eM_4⟩ : ∃ z, z = m1 Mi 27 i (M 23 (4 * sh + i)) := ⟨_, rfl⟩
    have his : r_st K o ad I A I_1 A_3 Z_2 M_4 th := by rw [eA_3, eM_4, nI_clamp (show i < 2 ^ 31 by omega)]; exact r_st_m his hro 27 rfl i (M 23 (4 * sh + i))
    refine lv_aload_n hx hb dX9_asksKept_36 rfl (lv_at hl 0 rfl) ?_
    refine g_10_28 (r := some (ad 28)) hx hb hts (by decide +kernel) hown hw hro.1 (hts (.fieldLink RX9 74 "PirateindexModel" "askGap" "[I") (by decide +kernel)) (hro.2.1 28 rfl).1 dX9_asksKept_37 ?_
    refine lv_iload_n hx hb dX9_asksKept_40 rfl (lv_at hl 2 rfl) ?_
    refine lv_aload_n hx hb dX9_asksKept_41 rfl (lv_at hl 0 rfl) ?_
    refine g_10_24 (r := some (ad 24)) hx hb hts (by decide +kernel) hown hw hro.1 (hts (.fieldLink RX9 62 "PirateindexModel" "keptGap" "[I") (by decide +kernel)) (hro.2.1 24 rfl).1 dX9_asksKept_42 ?_
    refine lv_iconst (v := 4) hx hb dX9_asksKept_45 (by decide) ?_
    refine lv_iload_n hx hb dX9_asksKept_46 rfl (lv_at hl 1 rfl) ?_
    refine lv_imul hx hb dX9_asksKept_47 ?_
    refine lv_iload_n hx hb dX9_asksKept_48 rfl (lv_at hl 2 rfl) ?_
    refine lv_iadd hx hb dX9_asksKept_49 ?_
    refine m_iaload_20 hx hb hw (hro.2.1 24 rfl).2.1 (by rw [show (4 : Int32) * nI sh + nI i = nI (4 * sh + i) from by rw [show (4 : Int32) = nI 4 from rfl, pk_mul, nI_add]]; exact r_in hro 24 rfl (n := 20) rfl (by omega)) dX9_asksKept_50 ?_
    rw [show A_3 (ad 24) = M_4 24 from his.2.1 24 rfl]
    rw [show ((4 : Int32) * nI sh + nI i).toNatClampNeg = 4 * sh + i from by rw [show (4 : Int32) = nI 4 from rfl, pk_mul, nI_add]; exact nI_clamp (by omega)]
    rw [show M_4 24 (4 * sh + i) = M 24 (4 * sh + i) from by rw [eM_4, m1_n _ _ (show (24 : Nat) ≠ 27 by decide), eMi, mset_n _ _ (show (24 : Nat) ≠ 28 by decide), mset_n _ _ (show (24 : Nat) ≠ 27 by decide)]]
    refine m_iastore_20 hx hb hw (hro.2.1 28 rfl).2.1 (r_in hro 28 rfl (n := 4) rfl (by omega))  dX9_asksKept_51 (fun H locs hw => ?_)
    obtain ⟨A_5, eA_5⟩ : ∃ z, z = m_up A_3 (ad 28) (upd (A_3 (ad 28)) (nI i).toNatClampNeg (M 24 (4 * sh + i))) := ⟨_, rfl⟩
    rw [← eA_5] at hw
    obtain ⟨M_6, eM_6⟩ : ∃ z, z = m1 M_4 28 i (M 24 (4 * sh + i)) := ⟨_, rfl⟩
    have his : r_st K o ad I A I_1 A_5 Z_2 M_6 th := by rw [eA_5, eM_6, nI_clamp (show i < 2 ^ 31 by omega)]; exact r_st_m his hro 28 rfl i (M 24 (4 * sh + i))
    refine lv_iinc (v := nI (i + 1)) (lv' := [(2, .int (nI (i + 1))), (0, .ref o), (1, .int (nI sh))]) hx hb dX9_asksKept_52 hl (k := 2) rfl (nI_1 _) (by decide) rfl (fun ls hl => ?_)
    refine lv_goto (tgt := 12) hx hb dX9_asksKept_55 (by decide) ?_
    exact ih (i + 1, A_5) _ _ _ (by dsimp only; omega) ⟨⟨by omega, by rw [← fmp_step, ← fmp_step, ← m1_mset2, ← eMi]; rw [eM_6, eM_4] at his; exact his⟩, hw, lv_sub hl [1, 2, 0] rfl⟩

set_option maxHeartbeats 400000 in
set_option maxRecDepth 100000 in
theorem c_X9_postingsAt (l : Launch) {G : mG} {K : Nat → Nat} {I : Nat → Nat → Int32} {R : Nat → Nat → Option Nat} {F : Nat → UInt32} {A : Nat → Nat → Int32} {N : Nat → Nat} {L : Nat → List Nat} {T : Nat → List Int32} {J : Nat → Nat → Int64} {D : Nat → Nat → UInt64} {o : Nat} {ad : Nat → Nat} {Z : Nat → Int32} {M : Nat → Nat → Int32} {th : Int32} {nf : Nat} (wd isl pl : Int32) (hro : r_ok K R N o ad) (hz : r_st K o ad I A I A Z M th) (hnf : Z 1 = nI nf) (hn : nf ≤ 120) : Met l yX9_postingsAt wsX9_postingsAt ({ frames := 1, cells := 0, slots := 0, locals := 22 } : Room) (va_Pc [.ref o, .int wd, .int isl, .int pl] (m_B G K I R F A N L T J D)) (va_Qi (fun (r : Int32) (_ : Unit) => r = nI (o_at M nf wd isl pl)) (fun u : Unit => m_B G K I R F A N L T J D) (m_A G)) 0 0 (m_A G) := by
  refine Met.ofW (cc := cX9_postingsAt) (maxL := 6) (ret := (some .int)) (by decide) rfl ?_
  intro p e s m args below meth c s₁ B hml hv
  obtain ⟨rfl, hB⟩ := hv
  have hx := B.exec
  have hb := B.bytes
  have hr := B.returns
  have hts := atoms_spec (ws := wsX9_postingsAt) B.pre
  have hown : s.vm.findClass RX9 = some m.cls := findClass_of_methodNamed B.named
  have hlocks := B.notSynchronized
  have hw := m_wo_in hB
  have hl := lv_entry ([.ref o, .int wd, .int isl, .int pl]) (n := 6) (Nat.le_of_ble_eq_true rfl)
  rw [lg_entry_eq]
  generalize (lg_sl ([.ref o, .int wd, .int isl, .int pl]) ++ List.replicate (6 - (lg_sl ([.ref o, .int wd, .int isl, .int pl])).length) Slot.unset).toArray = ls at hl ⊢
  have hl : lv_has ls 6 [(0, .ref o), (1, .int wd), (2, .int isl), (3, .int pl)] := hl
  have his := hz
  refine lv_iconst (v := 0) hx hb dX9_postingsAt_0 (by decide) ?_
  refine lv_istore (lv' := [(4, .int 0), (0, .ref o), (1, .int wd), (2, .int isl), (3, .int pl)]) hx hb dX9_postingsAt_1 hl (by decide) rfl (fun ls hl => ?_)
  refine lv_iconst (v := 0) hx hb dX9_postingsAt_3 (by decide) ?_
  refine lv_istore (lv' := [(5, .int 0), (4, .int 0), (0, .ref o), (1, .int wd), (2, .int isl), (3, .int pl)]) hx hb dX9_postingsAt_4 hl (by decide) rfl (fun ls hl => ?_)
  refine m_loop (σ := Nat × Int32) (fun a => nf - (a.1)) (fun a H locs ls => ((a.1) ≤ nf ∧ (a.2) = nI (cntB (fun f => o_pst M f wd && (decide (M 12 f = isl) && decide (M 13 f = pl))) (a.1))) ∧ m_wo G K I R F A N L T J D s H locs ∧ lv_has ls 6 [(0, .ref o), (1, .int wd), (2, .int isl), (3, .int pl), (4, .int (a.2)), (5, .int (nI (a.1)))]) ?_ (0, 0) ⟨⟨Nat.zero_le _, rfl⟩, hw, lv_sub hl [2, 3, 4, 5, 1, 0] rfl⟩
  rintro ⟨i, x⟩ H locs ls ⟨hinv, hw, hl⟩ ih
  dsimp only at hinv hw hl
  refine lv_iload hx hb dX9_postingsAt_6 (lv_at hl 5 rfl) ?_
  refine lv_aload_n hx hb dX9_postingsAt_8 rfl (lv_at hl 0 rfl) ?_
  refine g_10_1 hx hb hts (by decide +kernel) hown hw hro.1 (hts (.fieldLink RX9 118 "PirateindexModel" "finds" "I") (by decide +kernel)) dX9_postingsAt_9 ?_
  rw [show I 1001 o = Z 1 from his.1 1 (by decide)]
  rw [hnf]
  refine lv_icmp_ge (tgt := 63) hx hb dX9_postingsAt_12 (by decide) (fun c_12 => ?_) (fun c_12 => ?_)
  · skip
    rw [nI_leI (by omega) (by omega)] at c_12
    have hi : i = nf := by omega
    subst hi
    refine lv_iload hx hb dX9_postingsAt_63 (lv_at hl 4 rfl) ?_
    exact W.iret (v := x) hx hb hr (fun t ht hW => ⟨⟨x, (), rfl, hinv.2, m_wo_out hw ht hW.alike⟩, m_wo_F hw ht⟩) (m_wo_L hw) dX9_postingsAt_65
  · skip
    rw [nI_leI (by omega) (by omega)] at c_12
    have hi : i < nf := by omega
    refine lv_iload hx hb dX9_postingsAt_15 (lv_at hl 4 rfl) ?_
    refine lv_aload_n hx hb dX9_postingsAt_17 rfl (lv_at hl 0 rfl) ?_
    refine lv_iload hx hb dX9_postingsAt_18 (lv_at hl 5 rfl) ?_
    refine lv_iload_n hx hb dX9_postingsAt_20 rfl (lv_at hl 1 rfl) ?_
    refine m_ci (va_runV (As := [.int (nI i), .int wd]) (rest := [.int x]) ⟨hx, hb, hml, hown, hts⟩ (c_X9_isPosting l (Z := Z) (M := M) (th := th) i wd hro (r_st_self his) (by omega)) (cwV 2 hts gX9_postingsAt_X9_isPosting rfl rfl rfl (by decide +kernel) ⟨Nat.le_of_ble_eq_true rfl, Nat.le_of_ble_eq_true rfl⟩) ⟨m_blind m_B_calling, m_recv hw (m_ent_10 hro.1) rfl, fun U hU hW => ⟨rfl, m_wo_call hw hU hW⟩⟩ rfl rfl hl.1 rfl (lv_room (Nat.le_of_ble_eq_true rfl)) dX9_postingsAt_21 ⟨Nat.le_of_ble_eq_true rfl, Nat.le_of_ble_eq_true rfl⟩) hw (fun r_21 u_21 H locs hp_21 hw => ?_)
    obtain rfl : r_21 = (b2i (o_pst M i wd)) := hp_21
    refine lv_if_eq (tgt := 53) hx hb dX9_postingsAt_24 (by decide) (fun c_24 => ?_) (fun c_24 => ?_)
    · skip
      have q_24 : o_pst M i wd = false := (b2i_eq _).mp c_24
      have hpi : (fun f => o_pst M f wd && (decide (M 12 f = isl) && decide (M 13 f = pl))) i = false := by simp [q_24]
      refine lv_iconst (v := 0) hx hb dX9_postingsAt_53 (by decide) ?_
      refine lv_iadd hx hb dX9_postingsAt_54 ?_
      refine lv_istore (lv' := [(4, .int (x + 0)), (0, .ref o), (1, .int wd), (2, .int isl), (3, .int pl), (5, .int (nI i))]) hx hb dX9_postingsAt_55 hl (by decide) rfl (fun ls hl => ?_)
      refine lv_iinc (v := nI (i + 1)) (lv' := [(5, .int (nI (i + 1))), (4, .int (x + 0)), (0, .ref o), (1, .int wd), (2, .int isl), (3, .int pl)]) hx hb dX9_postingsAt_57 hl (k := 5) rfl (nI_1 _) (by decide) rfl (fun ls hl => ?_)
      refine lv_goto (tgt := 6) hx hb dX9_postingsAt_60 (by decide) ?_
      exact ih (i + 1, (x + 0)) _ _ _ (by dsimp only; omega) ⟨⟨by omega, cntB_step hinv.2 hpi⟩, hw, lv_sub hl [2, 3, 4, 5, 1, 0] rfl⟩
    · skip
      have q_24 : o_pst M i wd = true := (b2i_ne _).mp c_24
      refine lv_aload_n hx hb dX9_postingsAt_27 rfl (lv_at hl 0 rfl) ?_
      refine g_10_12 (r := some (ad 12)) hx hb hts (by decide +kernel) hown hw hro.1 (hts (.fieldLink RX9 26 "PirateindexModel" "on" "[I") (by decide +kernel)) (hro.2.1 12 rfl).1 dX9_postingsAt_28 ?_
      refine lv_iload hx hb dX9_postingsAt_31 (lv_at hl 5 rfl) ?_
      refine m_iaload_20 hx hb hw (hro.2.1 12 rfl).2.1 (r_in hro 12 rfl (n := 120) rfl (by omega)) dX9_postingsAt_33 ?_
      rw [show A (ad 12) = M 12 from his.2.1 12 rfl]
      rw [nI_clamp (show i < 2 ^ 31 by omega)]
      refine lv_iload_n hx hb dX9_postingsAt_34 rfl (lv_at hl 2 rfl) ?_
      refine lv_icmp_ne (tgt := 53) hx hb dX9_postingsAt_35 (by decide) (fun c_35 => ?_) (fun c_35 => ?_)
      · skip
        have hpi : (fun f => o_pst M f wd && (decide (M 12 f = isl) && decide (M 13 f = pl))) i = false := by simp [c_35]
        refine lv_iconst (v := 0) hx hb dX9_postingsAt_53 (by decide) ?_
        refine lv_iadd hx hb dX9_postingsAt_54 ?_
        refine lv_istore (lv' := [(4, .int (x + 0)), (0, .ref o), (1, .int wd), (2, .int isl), (3, .int pl), (5, .int (nI i))]) hx hb dX9_postingsAt_55 hl (by decide) rfl (fun ls hl => ?_)
        refine lv_iinc (v := nI (i + 1)) (lv' := [(5, .int (nI (i + 1))), (4, .int (x + 0)), (0, .ref o), (1, .int wd), (2, .int isl), (3, .int pl)]) hx hb dX9_postingsAt_57 hl (k := 5) rfl (nI_1 _) (by decide) rfl (fun ls hl => ?_)
        refine lv_goto (tgt := 6) hx hb dX9_postingsAt_60 (by decide) ?_
        exact ih (i + 1, (x + 0)) _ _ _ (by dsimp only; omega) ⟨⟨by omega, cntB_step hinv.2 hpi⟩, hw, lv_sub hl [2, 3, 4, 5, 1, 0] rfl⟩
      · skip
        refine lv_aload_n hx hb dX9_postingsAt_38 rfl (lv_at hl 0 rfl) ?_
        refine g_10_13 (r := some (ad 13)) hx hb hts (by decide +kernel) hown hw hro.1 (hts (.fieldLink RX9 29 "PirateindexModel" "places" "[I") (by decide +kernel)) (hro.2.1 13 rfl).1 dX9_postingsAt_39 ?_
        refine lv_iload hx hb dX9_postingsAt_42 (lv_at hl 5 rfl) ?_
        refine m_iaload_20 hx hb hw (hro.2.1 13 rfl).2.1 (r_in hro 13 rfl (n := 120) rfl (by omega)) dX9_postingsAt_44 ?_
        rw [show A (ad 13) = M 13 from his.2.1 13 rfl]
        rw [nI_clamp (show i < 2 ^ 31 by omega)]
        refine lv_iload_n hx hb dX9_postingsAt_45 rfl (lv_at hl 3 rfl) ?_
        refine lv_icmp_ne (tgt := 53) hx hb dX9_postingsAt_46 (by decide) (fun c_46 => ?_) (fun c_46 => ?_)
        · skip
          have hpi : (fun f => o_pst M f wd && (decide (M 12 f = isl) && decide (M 13 f = pl))) i = false := by simp [c_46]
          refine lv_iconst (v := 0) hx hb dX9_postingsAt_53 (by decide) ?_
          refine lv_iadd hx hb dX9_postingsAt_54 ?_
          refine lv_istore (lv' := [(4, .int (x + 0)), (0, .ref o), (1, .int wd), (2, .int isl), (3, .int pl), (5, .int (nI i))]) hx hb dX9_postingsAt_55 hl (by decide) rfl (fun ls hl => ?_)
          refine lv_iinc (v := nI (i + 1)) (lv' := [(5, .int (nI (i + 1))), (4, .int (x + 0)), (0, .ref o), (1, .int wd), (2, .int isl), (3, .int pl)]) hx hb dX9_postingsAt_57 hl (k := 5) rfl (nI_1 _) (by decide) rfl (fun ls hl => ?_)
          refine lv_goto (tgt := 6) hx hb dX9_postingsAt_60 (by decide) ?_
          exact ih (i + 1, (x + 0)) _ _ _ (by dsimp only; omega) ⟨⟨by omega, cntB_step hinv.2 hpi⟩, hw, lv_sub hl [2, 3, 4, 5, 1, 0] rfl⟩
        · skip
          have hpi : (fun f => o_pst M f wd && (decide (M 12 f = isl) && decide (M 13 f = pl))) i = true := by simp [q_24, c_35, c_46]
          refine lv_iconst (v := 1) hx hb dX9_postingsAt_49 (by decide) ?_
          refine lv_goto (tgt := 54) hx hb dX9_postingsAt_50 (by decide) ?_
          refine lv_iadd hx hb dX9_postingsAt_54 ?_
          refine lv_istore (lv' := [(4, .int (x + 1)), (0, .ref o), (1, .int wd), (2, .int isl), (3, .int pl), (5, .int (nI i))]) hx hb dX9_postingsAt_55 hl (by decide) rfl (fun ls hl => ?_)
          refine lv_iinc (v := nI (i + 1)) (lv' := [(5, .int (nI (i + 1))), (4, .int (x + 1)), (0, .ref o), (1, .int wd), (2, .int isl), (3, .int pl)]) hx hb dX9_postingsAt_57 hl (k := 5) rfl (nI_1 _) (by decide) rfl (fun ls hl => ?_)
          refine lv_goto (tgt := 6) hx hb dX9_postingsAt_60 (by decide) ?_
          exact ih (i + 1, (x + 1)) _ _ _ (by dsimp only; omega) ⟨⟨by omega, cntB_step hinv.2 hpi⟩, hw, lv_sub hl [2, 3, 4, 5, 1, 0] rfl⟩

