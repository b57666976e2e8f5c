set_option maxHeartbeats 400000 in
set_option maxRecDepth 100000 in
theorem c_X9_blames (l : Launch) {G : mG} {K : Nat → Nat} {I : Nat → Nat → Int32} {R : Nat → Nat → Option Nat} {F : Nat → UInt32} {A : Nat → Nat → Int32} {N : Nat → Nat} {L : Nat → List Nat} {T : Nat → List Int32} {J : Nat → Nat → Int64} {D : Nat → Nat → UInt64} {o : Nat} {ad : Nat → Nat} {Z : Nat → Int32} {M : Nat → Nat → Int32} {th : Int32} (bb : Bool) (ch : Int32) (hro : r_ok K R N o ad) (hz : r_st K o ad I A I A Z M th) (hch : narrow .char (.int ch) = .int ch) (hc : bb = true → ∃ k, k < 2 ∧ Z 31 = nI k) : Met l yX9_blames wsX9_blames ({ frames := 0, cells := 0, slots := 0, locals := 0 } : Room) (va_Pc [.ref o, .int (b2i bb), .int ch] (m_B G K I R F A N L T J D)) (va_Qv (fun (u : (Nat → Nat → Int32) × (Nat → Nat → Int32)) => (r_st K o ad I A u.1 u.2 (o_blames (Z, M) bb ch).1 (o_blames (Z, M) bb ch).2 th) ∧ True) (fun u : (Nat → Nat → Int32) × (Nat → Nat → Int32) => m_B G K (u.1) R F (u.2) N L T J D) (m_A G)) 0 0 (m_A G) := by
  refine Met.ofW (cc := cX9_blames) (maxL := 3) (ret := none) (by decide) rfl ?_
  intro p e s m args below meth c s₁ B hml hv
  obtain ⟨rfl, hB⟩ := hv
  have hx := B.exec
  have hb := B.bytes
  have hr := B.returns
  have hts := atoms_spec (ws := wsX9_blames) B.pre
  have hown : s.vm.findClass RX9 = some m.cls := findClass_of_methodNamed B.named
  have hlocks := B.notSynchronized
  have hw := m_wo_in hB
  have hl := lv_entry ([.ref o, .int (b2i bb), .int ch]) (n := 3) (Nat.le_of_ble_eq_true rfl)
  rw [lg_entry_eq]
  generalize (lg_sl ([.ref o, .int (b2i bb), .int ch]) ++ List.replicate (3 - (lg_sl ([.ref o, .int (b2i bb), .int ch])).length) Slot.unset).toArray = ls at hl ⊢
  have hl : lv_has ls 3 [(0, .ref o), (1, .int (b2i bb)), (2, .int ch)] := hl
  have his := hz
  refine lv_iload_n hx hb dX9_blames_0 rfl (lv_at hl 1 rfl) ?_
  refine lv_if_ne (tgt := 5) hx hb dX9_blames_1 (by decide) (fun c_1 => ?_) (fun c_1 => ?_)
  · skip
    have q_1 : bb = true := by first | (have := (b2i_ne _).mp c_1; simpa using this) | (have := (b2i_eq _).mp c_1; simpa using this)
    obtain ⟨k, hk, hz31⟩ := hc q_1
    refine lv_aload_n hx hb dX9_blames_5 rfl (lv_at hl 0 rfl) ?_
    refine g_10_32 (r := some (ad 32)) hx hb hts (by decide +kernel) hown hw hro.1 (hts (.fieldLink RX9 77 "PirateindexModel" "cause" "[C") (by decide +kernel)) (hro.2.1 32 rfl).1 dX9_blames_6 ?_
    refine lv_aload_n hx hb dX9_blames_9 rfl (lv_at hl 0 rfl) ?_
    refine g_10_31 hx hb hts (by decide +kernel) hown hw hro.1 (hts (.fieldLink RX9 151 "PirateindexModel" "causes" "I") (by decide +kernel)) dX9_blames_10 ?_
    rw [show I 1031 o = Z 31 from his.1 31 (by decide)]
    refine lv_iload_n hx hb dX9_blames_13 rfl (lv_at hl 2 rfl) ?_
    refine m_castore_34 hx hb hw (hro.2.1 32 rfl).2.1 (by rw [hz31]; exact r_in hro 32 rfl (n := 2) rfl hk) hch dX9_blames_14 (fun H locs hw => ?_)
    obtain ⟨A_1, eA_1⟩ : ∃ z, z = m_up A (ad 32) (upd (A (ad 32)) (Z 31).toNatClampNeg ch) := ⟨_, rfl⟩
    rw [← eA_1] at hw
    obtain ⟨M_2, eM_2⟩ : ∃ z, z = m1 M 32 k ch := ⟨_, rfl⟩
    have his : r_st K o ad I A I A_1 Z M_2 th := by rw [eA_1, eM_2, show (Z 31).toNatClampNeg = k from by rw [hz31]; exact nI_clamp (by omega)]; exact r_st_m his hro 32 rfl k ch
    refine lv_aload_n hx hb dX9_blames_15 rfl (lv_at hl 0 rfl) ?_
    refine lv_dup hx hb dX9_blames_16 rfl ?_
    refine g_10_31 hx hb hts (by decide +kernel) hown hw hro.1 (hts (.fieldLink RX9 151 "PirateindexModel" "causes" "I") (by decide +kernel)) dX9_blames_17 ?_
    rw [show I 1031 o = Z 31 from his.1 31 (by decide)]
    refine lv_iconst (v := 1) hx hb dX9_blames_20 (by decide) ?_
    refine lv_iadd hx hb dX9_blames_21 ?_
    refine p_10_31 hx hb hts (by decide +kernel) hown hw hro.1 (hts (.fieldLink RX9 151 "PirateindexModel" "causes" "I") (by decide +kernel)) dX9_blames_22 (fun H locs hw => ?_)
    obtain ⟨I_3, eI_3⟩ : ∃ z, z = m_up2 I 1031 o ((Z 31) + 1) := ⟨_, rfl⟩
    rw [← eI_3] at hw
    obtain ⟨Z_4, eZ_4⟩ : ∃ z, z = z1 Z 31 ((Z 31) + 1) := ⟨_, rfl⟩
    have his : r_st K o ad I A I_3 A_1 Z_4 M_2 th := by rw [eI_3, eZ_4]; exact r_st_z his 31 ((Z 31) + 1) hro.1 (by decide)
    exact W.vret hx hb hr (fun t ht hW => ⟨⟨(I_3, A_1), rfl, (by have e9 : (Z_4, M_2) = o_blames (Z, M) bb ch := (by unfold o_blames; rw [if_pos q_1]; simp only [eM_2, eZ_4, show zn Z 31 = k from by unfold zn; rw [hz31]; exact nI_clamp (by omega)]); rw [← e9]; exact ⟨his, trivial⟩), m_wo_out hw ht hW.alike⟩, m_wo_F hw ht⟩) (m_wo_L hw) dX9_blames_25
  · skip
    have q_1 : bb = false := by first | (have := (b2i_ne _).mp c_1; simpa using this) | (have := (b2i_eq _).mp c_1; simpa using this)
    exact W.vret hx hb hr (fun t ht hW => ⟨⟨(I, A), rfl, ⟨by simpa [o_blames, q_1] using his, trivial⟩, m_wo_out hw ht hW.alike⟩, m_wo_F hw ht⟩) (m_wo_L hw) dX9_blames_4

set_option maxHeartbeats 400000 in
set_option maxRecDepth 100000 in
theorem c_X9_drops (l : Launch) {G : mG} {K : Nat → Nat} {I : Nat → Nat → Int32} {R : Nat → Nat → Option Nat} {F : Nat → UInt32} {A : Nat → Nat → Int32} {N : Nat → Nat} {L : Nat → List Nat} {T : Nat → List Int32} {J : Nat → Nat → Int64} {D : Nat → Nat → UInt64} {o : Nat} {ad : Nat → Nat} {Z : Nat → Int32} {M : Nat → Nat → Int32} {th : Int32} {sg : Nat} (v : Int32) (hro : r_ok K R N o ad) (hz : r_st K o ad I A I A Z M th) (hsg : Z 3 = nI sg) (hn : sg ≤ 24) : Met l yX9_drops wsX9_drops ({ frames := 0, cells := 0, slots := 0, locals := 0 } : Room) (va_Pc [.ref o, .int v] (m_B G K I R F A N L T J D)) (va_Qv (fun (u : (Nat → Nat → Int32) × (Nat → Nat → Int32)) => (r_st K o ad I A u.1 u.2 (o_drops (Z, M) v).1 (o_drops (Z, M) v).2 th) ∧ True) (fun u : (Nat → Nat → Int32) × (Nat → Nat → Int32) => m_B G K (u.1) R F (u.2) N L T J D) (m_A G)) 0 0 (m_A G) := by
  refine Met.ofW (cc := cX9_drops) (maxL := 4) (ret := none) (by decide) rfl ?_
  intro p e s m args below meth c s₁ B hml hv
  obtain ⟨rfl, hB⟩ := hv
  have hx := B.exec
  have hb := B.bytes
  have hr := B.returns
  have hts := atoms_spec (ws := wsX9_drops) B.pre
  have hown : s.vm.findClass RX9 = some m.cls := findClass_of_methodNamed B.named
  have hlocks := B.notSynchronized
  have hw := m_wo_in hB
  have hl := lv_entry ([.ref o, .int v]) (n := 4) (Nat.le_of_ble_eq_true rfl)
  rw [lg_entry_eq]
  generalize (lg_sl ([.ref o, .int v]) ++ List.replicate (4 - (lg_sl ([.ref o, .int v])).length) Slot.unset).toArray = ls at hl ⊢
  have hl : lv_has ls 4 [(0, .ref o), (1, .int v)] := hl
  have his := hz
  refine lv_iconst (v := 0) hx hb dX9_drops_0 (by decide) ?_
  refine lv_istore_n (lv' := [(2, .int 0), (0, .ref o), (1, .int v)]) hx hb dX9_drops_1 rfl hl (by decide) rfl (fun ls hl => ?_)
  refine lv_iconst (v := 0) hx hb dX9_drops_2 (by decide) ?_
  refine lv_istore_n (lv' := [(3, .int 0), (2, .int 0), (0, .ref o), (1, .int v)]) hx hb dX9_drops_3 rfl hl (by decide) rfl (fun ls hl => ?_)
  refine m_loop (σ := Nat × (Nat → Nat → Int32)) (fun a => sg - (a.1)) (fun a H locs ls => ((a.1) ≤ sg ∧ r_st K o ad I A I (a.2) Z (mset M 17 (o_dr (M 17) v (a.1)).2) th) ∧ m_wo G K I R F (a.2) N L T J D s H locs ∧ lv_has ls 4 [(0, .ref o), (1, .int v), (2, .int (nI (o_dr (M 17) v (a.1)).1)), (3, .int (nI (a.1)))]) ?_ (0, A) ⟨⟨Nat.zero_le _, by rw [show (o_dr (M 17) v 0).2 = M 17 from rfl, mset_self]; exact his⟩, hw, lv_sub hl [2, 3, 1, 0] rfl⟩
  rintro ⟨i, Aa⟩ H locs ls ⟨hinv, hw, hl⟩ ih
  dsimp only at hinv hw hl
  obtain ⟨hi0, his⟩ := hinv
  obtain ⟨Mi, eMi⟩ : ∃ z, z = mset M 17 (o_dr (M 17) v i).2 := ⟨_, rfl⟩
  rw [← eMi] at his
  obtain ⟨j, ej⟩ : ∃ z, z = (o_dr (M 17) v i).1 := ⟨_, rfl⟩
  have hj : j ≤ i := by rw [ej]; exact o_dr_le _ _ _
  rw [← ej] at hl
  refine lv_iload_n hx hb dX9_drops_4 rfl (lv_at hl 3 rfl) ?_
  refine lv_aload_n hx hb dX9_drops_5 rfl (lv_at hl 0 rfl) ?_
  refine g_10_3 hx hb hts (by decide +kernel) hown hw hro.1 (hts (.fieldLink RX9 112 "PirateindexModel" "segments" "I") (by decide +kernel)) dX9_drops_6 ?_
  rw [show I 1003 o = Z 3 from his.1 3 (by decide)]
  rw [hsg]
  refine lv_icmp_ge (tgt := 48) hx hb dX9_drops_9 (by decide) (fun c_9 => ?_) (fun c_9 => ?_)
  · skip
    rw [nI_leI (by omega) (by omega)] at c_9
    have hi : i = sg := by omega
    subst hi
    refine lv_aload_n hx hb dX9_drops_48 rfl (lv_at hl 0 rfl) ?_
    refine lv_iload_n hx hb dX9_drops_49 rfl (lv_at hl 2 rfl) ?_
    refine p_10_3 hx hb hts (by decide +kernel) hown hw hro.1 (hts (.fieldLink RX9 112 "PirateindexModel" "segments" "I") (by decide +kernel)) dX9_drops_50 (fun H locs hw => ?_)
    obtain ⟨I_1, eI_1⟩ : ∃ z, z = m_up2 I 1003 o (nI j) := ⟨_, rfl⟩
    rw [← eI_1] at hw
    obtain ⟨Z_2, eZ_2⟩ : ∃ z, z = z1 Z 3 (nI j) := ⟨_, rfl⟩
    have his : r_st K o ad I A I_1 Aa Z_2 Mi th := by rw [eI_1, eZ_2]; exact r_st_z his 3 (nI j) hro.1 (by decide)
    exact W.vret hx hb hr (fun t ht hW => ⟨⟨(I_1, Aa), rfl, (by have e9 : (Z_2, Mi) = o_drops (Z, M) v := (by unfold o_drops; simp only [eZ_2, eMi, ej, zn_of hsg (show i < 2 ^ 31 by omega)]); rw [← e9]; exact ⟨his, trivial⟩), m_wo_out hw ht hW.alike⟩, m_wo_F hw ht⟩) (m_wo_L hw) dX9_drops_53
  · skip
    rw [nI_leI (by omega) (by omega)] at c_9
    have hi : i < sg := by omega
    refine lv_aload_n hx hb dX9_drops_12 rfl (lv_at hl 0 rfl) ?_
    refine g_10_17 (r := some (ad 17)) hx hb hts (by decide +kernel) hown hw hro.1 (hts (.fieldLink RX9 41 "PirateindexModel" "numbers" "[I") (by decide +kernel)) (hro.2.1 17 rfl).1 dX9_drops_13 ?_
    refine lv_iload_n hx hb dX9_drops_16 rfl (lv_at hl 2 rfl) ?_
    refine lv_aload_n hx hb dX9_drops_17 rfl (lv_at hl 0 rfl) ?_
    refine g_10_17 (r := some (ad 17)) hx hb hts (by decide +kernel) hown hw hro.1 (hts (.fieldLink RX9 41 "PirateindexModel" "numbers" "[I") (by decide +kernel)) (hro.2.1 17 rfl).1 dX9_drops_18 ?_
    refine lv_iload_n hx hb dX9_drops_21 rfl (lv_at hl 3 rfl) ?_
    refine m_iaload_20 hx hb hw (hro.2.1 17 rfl).2.1 (r_in hro 17 rfl (n := 24) rfl (by omega)) dX9_drops_22 ?_
    rw [show Aa (ad 17) = Mi 17 from his.2.1 17 rfl]
    rw [nI_clamp (show i < 2 ^ 31 by omega)]
    refine m_iastore_20 hx hb hw (hro.2.1 17 rfl).2.1 (r_in hro 17 rfl (n := 24) rfl (by omega))  dX9_drops_23 (fun H locs hw => ?_)
    obtain ⟨A_3, eA_3⟩ : ∃ z, z = m_up Aa (ad 17) (upd (Aa (ad 17)) (nI j).toNatClampNeg (Mi 17 i)) := ⟨_, rfl⟩
    rw [← eA_3] at hw
    obtain ⟨M_4, eM_4⟩ : ∃ z, z = m1 Mi 17 j (Mi 17 i) := ⟨_, rfl⟩
    have his : r_st K o ad I A I A_3 Z M_4 th := by rw [eA_3, eM_4, nI_clamp (show j < 2 ^ 31 by omega)]; exact r_st_m his hro 17 rfl j (Mi 17 i)
    refine lv_iload_n hx hb dX9_drops_24 rfl (lv_at hl 2 rfl) ?_
    refine lv_aload_n hx hb dX9_drops_25 rfl (lv_at hl 0 rfl) ?_
    refine g_10_17 (r := some (ad 17)) hx hb hts (by decide +kernel) hown hw hro.1 (hts (.fieldLink RX9 41 "PirateindexModel" "numbers" "[I") (by decide +kernel)) (hro.2.1 17 rfl).1 dX9_drops_26 ?_
    refine lv_iload_n hx hb dX9_drops_29 rfl (lv_at hl 3 rfl) ?_
    refine m_iaload_20 hx hb hw (hro.2.1 17 rfl).2.1 (r_in hro 17 rfl (n := 24) rfl (by omega)) dX9_drops_30 ?_
    rw [show A_3 (ad 17) = M_4 17 from his.2.1 17 rfl]
    rw [nI_clamp (show i < 2 ^ 31 by omega)]
    refine lv_iload_n hx hb dX9_drops_31 rfl (lv_at hl 1 rfl) ?_
    refine lv_icmp_ne (tgt := 39) hx hb dX9_drops_32 (by decide) (fun c_32 => ?_) (fun c_32 => ?_)
    · skip
      have h17 : Mi 17 = (o_dr (M 17) v i).2 := by rw [eMi]; exact mset_s _ _ _
      have hst : M_4 = mset M 17 (upd (o_dr (M 17) v i).2 j ((o_dr (M 17) v i).2 i)) := by rw [eM_4, h17, eMi, mset_m1]
      have hM2 : M_4 = mset M 17 (o_dr (M 17) v (i + 1)).2 := by rw [hst, ej]; rfl
      have h17b : M_4 17 i = upd (o_dr (M 17) v i).2 j ((o_dr (M 17) v i).2 i) i := by rw [hst, mset_s]
      have hl2 : (o_dr (M 17) v (i + 1)).1 = j + 1 := by rw [h17b, ej] at c_32; show (if _ then _ else _) = _; rw [if_neg c_32, ej]
      refine lv_iconst (v := 1) hx hb dX9_drops_39 (by decide) ?_
      refine lv_iadd hx hb dX9_drops_40 ?_
      refine lv_istore_n (lv' := [(2, .int ((nI j) + 1)), (0, .ref o), (1, .int v), (3, .int (nI i))]) hx hb dX9_drops_41 rfl hl (by decide) rfl (fun ls hl => ?_)
      rw [nI_1 j] at hl
      rw [← hl2] at hl
      refine lv_iinc (v := nI (i + 1)) (lv' := [(3, .int (nI (i + 1))), (2, .int (nI (o_dr (M 17) v (i + 1)).1)), (0, .ref o), (1, .int v)]) hx hb dX9_drops_42 hl (k := 3) rfl (nI_1 _) (by decide) rfl (fun ls hl => ?_)
      refine lv_goto (tgt := 4) hx hb dX9_drops_45 (by decide) ?_
      exact ih (i + 1, A_3) _ _ _ (by dsimp only; omega) ⟨⟨by omega, by rw [← hM2]; exact his⟩, hw, lv_sub hl [2, 3, 1, 0] rfl⟩
    · skip
      have h17 : Mi 17 = (o_dr (M 17) v i).2 := by rw [eMi]; exact mset_s _ _ _
      have hst : M_4 = mset M 17 (upd (o_dr (M 17) v i).2 j ((o_dr (M 17) v i).2 i)) := by rw [eM_4, h17, eMi, mset_m1]
      have hM2 : M_4 = mset M 17 (o_dr (M 17) v (i + 1)).2 := by rw [hst, ej]; rfl
      have h17b : M_4 17 i = upd (o_dr (M 17) v i).2 j ((o_dr (M 17) v i).2 i) i := by rw [hst, mset_s]
      have hl2 : (o_dr (M 17) v (i + 1)).1 = j := by rw [h17b, ej] at c_32; show (if _ then _ else _) = _; rw [if_pos c_32, ej]
      refine lv_iconst (v := 0) hx hb dX9_drops_35 (by decide) ?_
      refine lv_goto (tgt := 40) hx hb dX9_drops_36 (by decide) ?_
      refine lv_iadd hx hb dX9_drops_40 ?_
      refine lv_istore_n (lv' := [(2, .int ((nI j) + 0)), (0, .ref o), (1, .int v), (3, .int (nI i))]) hx hb dX9_drops_41 rfl hl (by decide) rfl (fun ls hl => ?_)
      rw [show nI j + 0 = nI j from Int32.add_zero _] at hl
      rw [← hl2] at hl
      refine lv_iinc (v := nI (i + 1)) (lv' := [(3, .int (nI (i + 1))), (2, .int (nI (o_dr (M 17) v (i + 1)).1)), (0, .ref o), (1, .int v)]) hx hb dX9_drops_42 hl (k := 3) rfl (nI_1 _) (by decide) rfl (fun ls hl => ?_)
      refine lv_goto (tgt := 4) hx hb dX9_drops_45 (by decide) ?_
      exact ih (i + 1, A_3) _ _ _ (by dsimp only; omega) ⟨⟨by omega, by rw [← hM2]; exact his⟩, hw, lv_sub hl [2, 3, 1, 0] rfl⟩

