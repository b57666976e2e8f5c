theorem c_dw {K : Nat → Nat} {R : Nat → Nat → Option Nat} {N : Nat → Nat} {x : Nat} {cd : Nat → Nat} (hok : c_ok K R N x cd) : cd 13 ≠ cd 11 ∧ cd 13 ≠ cd 12 ∧ cd 14 ≠ cd 11 ∧ cd 14 ≠ cd 12 := by
  have h1 := hok.2.2.2.2.2.2.2.2.2.2.2.2.2.2.2.2.2.2.2.2.2.1
  have h2 := hok.2.2.2.2.2.2.2.2.2.2.2.2.2.2.2.2.2.2.2.2.2.2.1
  have h3 := hok.2.2.2.2.2.2.2.2.2.2.2.2.2.2.2.2.2.2.2.2.2.2.2.1
  have h4 := hok.2.2.2.2.2.2.2.2.2.2.2.2.2.2.2.2.2.2.2.2.2.2.2.2.1
  refine ⟨fun z => ?_, fun z => ?_, fun z => ?_, fun z => ?_⟩
  · rw [z, h1] at h3; exact absurd h3 (by decide)
  · rw [z, h2] at h3; exact absurd h3 (by decide)
  · rw [z, h1] at h4; exact absurd h4 (by decide)
  · rw [z, h2] at h4; exact absurd h4 (by decide)
theorem c_ph_A {K : Nat → Nat} {R : Nat → Nat → Option Nat} {N : Nat → Nat} {I A A' : Nat → Nat → Int32} {ph w9 d9 n : Nat} (h : c_ph K R N I A ph w9 d9 n) (hd : A' d9 = A d9) : c_ph K R N I A' ph w9 d9 n := by
  unfold c_ph at h ⊢
  rw [hd]
  exact h
theorem c_hit_A {I : Nat → Nat → Int32} {R : Nat → Nat → Option Nat} {A A' : Nat → Nat → Int32} {l9 : List Nat} {w9 d9 n : Nat} {isl : Int32} (hw : A' w9 = A w9) (hd : A' d9 = A d9) : c_hit I R A' l9 w9 d9 n isl = c_hit I R A l9 w9 d9 n isl := by
  unfold c_hit c_cnt
  rw [hw, hd]
/-- the score of an island by a phrase -/
def c_sco (I : Nat → Nat → Int32) (R : Nat → Nat → Option Nat) (A : Nat → Nat → Int32) (l9 : List Nat) (ni w9 d9 n : Nat) (isl : Int32) : UInt32 := FP.fmul (o_sumW (fun j9 => o_wt ni (c_il I (c_pw I R (A w9 j9)) (fun j => l9.getD j 0) l9.length).1) n) (FP.i2f (nI (c_hit I R A l9 w9 d9 n isl)))
set_option maxHeartbeats 400000 in
set_option maxRecDepth 100000 in
theorem c_X8_scoreIsles (l : Launch) {G : mG} {K : Nat → Nat} {I : Nat → Nat → Int32} {R : Nat → Nat → Option Nat} {F : Nat → UInt32} {A : Nat → Nat → Int32} {N : Nat → Nat} {L : Nat → List Nat} {T : Nat → List Int32} {J : Nat → Nat → Int64} {D : Nat → Nat → UInt64} {o : Nat} {cd : Nat → Nat} {n : Nat} (hok : c_ok K R N o cd) (hel0 : ∀ a, a ∈ L (cd 0) → K a = 3) (hph : c_ph K R N I A (cd 6) (cd 13) (cd 14) n) (hrw : c_rwd K I R (L (cd 9))) (hne : ∀ k, k < n → vf_n32 (FP.fdiv (FP.i2f (nI (L (cd 0)).length)) (FP.i2f (1 + nI (c_il I (c_pw I R (A (cd 13) k)) (fun j => (L (cd 9)).getD j 0) (L (cd 9)).length).1))) ∧ vf_n32 ((fun j9 => o_wt (L (cd 0)).length (c_il I (c_pw I R (A (cd 13) j9)) (fun j => (L (cd 9)).getD j 0) (L (cd 9)).length).1) k) ∧ vf_n32 (FP.fadd (o_sumW (fun j9 => o_wt (L (cd 0)).length (c_il I (c_pw I R (A (cd 13) j9)) (fun j => (L (cd 9)).getD j 0) (L (cd 9)).length).1) k) ((fun j9 => o_wt (L (cd 0)).length (c_il I (c_pw I R (A (cd 13) j9)) (fun j => (L (cd 9)).getD j 0) (L (cd 9)).length).1) k))) (hne2 : ∀ a, a ∈ L (cd 0) → vf_n32 (c_sco I R A (L (cd 9)) (L (cd 0)).length (cd 13) (cd 14) n (I 30 a))) : Met l yX8_scoreIsles wsX8_scoreIsles ({ frames := 7, cells := 0, slots := 0, locals := 260 } : Room) (va_Pc [.ref o] (m_B G K I R F A N L T J D)) (va_Qv (fun (u : (Nat → UInt32) × (Nat → Nat → Int32)) => (∀ b, b ≠ cd 11 → b ≠ cd 12 → u.2 b = A b) ∧ (∀ a, a ∈ L (cd 0) → u.1 a = c_sco I R A (L (cd 9)) (L (cd 0)).length (cd 13) (cd 14) n (I 30 a))) (fun u : (Nat → UInt32) × (Nat → Nat → Int32) => m_B G K I R (u.1) (u.2) N L T J D) (m_A G)) 0 0 (m_A G) := by
  refine Met.ofW (cc := cX8_scoreIsles) (maxL := 4) (ret := none) (by decide) rfl ?_
  intro p e s m args below meth c s₁ B hml hv
  obtain ⟨rfl, hB⟩ := hv
  have hx := B.exec
  have hb := B.bytes
  have hr := B.returns
  have hts := atoms_spec (ws := wsX8_scoreIsles) B.pre
  have hown : s.vm.findClass RX8 = some m.cls := findClass_of_methodNamed B.named
  have hlocks := B.notSynchronized
  have hw := m_wo_in hB
  have hl := lv_entry ([.ref o]) (n := 4) (Nat.le_of_ble_eq_true rfl)
  rw [lg_entry_eq]
  generalize (lg_sl ([.ref o]) ++ List.replicate (4 - (lg_sl ([.ref o])).length) Slot.unset).toArray = ls at hl ⊢
  have hl : lv_has ls 4 [(0, .ref o)] := hl
  have hlen := m_len hw hok.2.2.2.2.2.2.2.2.2.2.1
  have hnw : cd 13 ≠ cd 11 ∧ cd 13 ≠ cd 12 ∧ cd 14 ≠ cd 11 ∧ cd 14 ≠ cd 12 := c_dw hok
  refine lv_aload_n hx hb dX8_scoreIsles_0 rfl (lv_at hl 0 rfl) ?_
  refine lv_aload_n hx hb dX8_scoreIsles_1 rfl (lv_at hl 0 rfl) ?_
  refine g_9_6 (r := some (cd 6)) hx hb hts (by decide +kernel) hown hw hok.1 (hts (.fieldLink RX8 46 "Pirateindex" "typed" "LPirateindex$Phrase;") (by decide +kernel)) hok.2.2.2.2.2.2.2.1 dX8_scoreIsles_2 ?_
  refine m_cf (va_runV (As := [.ref (cd 6)]) (rest := []) ⟨hx, hb, hml, hown, hts⟩ (c_X8_weightOfMap l hok hrw.1 hrw.2.2 hph hne) (cwV 1 hts gX8_scoreIsles_X8_weightOfMap rfl rfl rfl (by decide +kernel) ⟨Nat.le_of_ble_eq_true rfl, Nat.le_of_ble_eq_true rfl⟩) ⟨m_blind m_B_calling, m_recv hw (m_ent_9 hok.1) rfl, fun U hU hW => ⟨rfl, m_wo_call hw hU hW⟩⟩ rfl rfl hl.1 rfl (lv_room (Nat.le_of_ble_eq_true rfl)) dX8_scoreIsles_5 ⟨Nat.le_of_ble_eq_true rfl, Nat.le_of_ble_eq_true rfl⟩) hw (fun r_5 u_5 H locs hp_5 hw => ?_)
  obtain rfl : r_5 = o_sumW (fun j9 => o_wt (L (cd 0)).length (c_il I (c_pw I R (A (cd 13) j9)) (fun j => (L (cd 9)).getD j 0) (L (cd 9)).length).1) n := hp_5
  refine lv_fstore_n (lv' := [(1, .float (o_sumW (fun j9 => o_wt (L (cd 0)).length (c_il I (c_pw I R (A (cd 13) j9)) (fun j => (L (cd 9)).getD j 0) (L (cd 9)).length).1) n)), (0, .ref o)]) hx hb dX8_scoreIsles_8 rfl hl (by decide) rfl (fun ls hl => ?_)
  refine lv_iconst (v := 0) hx hb dX8_scoreIsles_9 (by decide) ?_
  refine lv_istore_n (lv' := [(2, .int 0), (1, .float (o_sumW (fun j9 => o_wt (L (cd 0)).length (c_il I (c_pw I R (A (cd 13) j9)) (fun j => (L (cd 9)).getD j 0) (L (cd 9)).length).1) n)), (0, .ref o)]) hx hb dX8_scoreIsles_10 rfl hl (by decide) rfl (fun ls hl => ?_)
  refine m_loop (σ := Nat × (Nat → UInt32) × (Nat → Nat → Int32)) (fun a => (L (cd 0)).length - (a.1)) (fun a H locs ls => ((a.1) ≤ (L (cd 0)).length ∧ (∀ b9, b9 ≠ cd 11 → b9 ≠ cd 12 → (a.2.2) b9 = A b9) ∧ ∀ j9 a9, j9 < (a.1) → (L (cd 0))[j9]? = some a9 → (a.2.1) a9 = c_sco I R A (L (cd 9)) (L (cd 0)).length (cd 13) (cd 14) n (I 30 a9)) ∧ m_wo G K I R (a.2.1) (a.2.2) N L T J D s H locs ∧ lv_has ls 4 [(0, .ref o), (1, .float (o_sumW (fun j9 => o_wt (L (cd 0)).length (c_il I (c_pw I R (A (cd 13) j9)) (fun j => (L (cd 9)).getD j 0) (L (cd 9)).length).1) n)), (2, .int (nI (a.1)))]) ?_ (0, F, A) ⟨⟨Nat.zero_le _, fun _ _ _ => rfl, fun _ _ h => absurd h (Nat.not_lt_zero _)⟩, hw, lv_sub hl [2, 1, 0] rfl⟩
  rintro ⟨i, Fa, Aa⟩ H locs ls ⟨hinv, hw, hl⟩ ih
  dsimp only at hinv hw hl
  obtain ⟨hi0, hA0, hF0⟩ := hinv
  have hph1 : c_ph K R N I Aa (cd 6) (cd 13) (cd 14) n := c_ph_A hph (hA0 _ hnw.2.2.1 hnw.2.2.2)
  refine lv_iload_n hx hb dX8_scoreIsles_11 rfl (lv_at hl 2 rfl) ?_
  refine lv_aload_n hx hb dX8_scoreIsles_12 rfl (lv_at hl 0 rfl) ?_
  refine g_9_0 (r := some (cd 0)) hx hb hts (by decide +kernel) hown hw hok.1 (hts (.fieldLink RX8 10 "Pirateindex" "isles" "Ljava/util/ArrayList;") (by decide +kernel)) hok.2.1 dX8_scoreIsles_13 ?_
  refine m_ci (va_runV (As := []) (rest := [.int (nI i)]) ⟨hx, hb, hml, hown, hts⟩ (c_Jx4a65c_size_8abf5 l hok.2.2.2.2.2.2.2.2.2.2.1) (cwV 0 hts gX8_scoreIsles_Jx4a65c_size_8abf5 rfl rfl rfl (by decide +kernel) ⟨Nat.le_of_ble_eq_true rfl, Nat.le_of_ble_eq_true rfl⟩) ⟨m_blind m_B_calling, m_recv hw (m_ent_11 hok.2.2.2.2.2.2.2.2.2.2.1) rfl, fun U hU hW => ⟨rfl, m_wo_call hw hU hW⟩⟩ rfl rfl hl.1 rfl (lv_room (Nat.le_of_ble_eq_true rfl)) dX8_scoreIsles_16 ⟨Nat.le_of_ble_eq_true rfl, Nat.le_of_ble_eq_true rfl⟩) hw (fun r_16 u_16 H locs hp_16 hw => ?_)
  obtain rfl : r_16 = (nI (L (cd 0)).length) := hp_16
  refine lv_icmp_ge (tgt := 56) hx hb dX8_scoreIsles_19 (by decide) (fun c_19 => ?_) (fun c_19 => ?_)
  · skip
    rw [nI_leI (by omega) (by omega)] at c_19
    have hi : i = (L (cd 0)).length := by omega
    exact W.vret hx hb hr (fun t ht hW => ⟨⟨(Fa, Aa), rfl, ⟨hA0, fun a ha9 => by
    obtain ⟨j, hj, hj2⟩ := List.getElem_of_mem ha9
    exact hF0 j a (by omega) (List.getElem?_eq_some_iff.mpr ⟨hj, hj2⟩)⟩, m_wo_out hw ht hW.alike⟩, m_wo_F hw ht⟩) (m_wo_L hw) dX8_scoreIsles_56
  · skip
    rw [nI_leI (by omega) (by omega)] at c_19
    have hi : i < (L (cd 0)).length := by omega
    refine lv_aload_n hx hb dX8_scoreIsles_22 rfl (lv_at hl 0 rfl) ?_
    refine g_9_0 (r := some (cd 0)) hx hb hts (by decide +kernel) hown hw hok.1 (hts (.fieldLink RX8 10 "Pirateindex" "isles" "Ljava/util/ArrayList;") (by decide +kernel)) hok.2.1 dX8_scoreIsles_23 ?_
    refine lv_iload_n hx hb dX8_scoreIsles_26 rfl (lv_at hl 2 rfl) ?_
    obtain ⟨ai, ha⟩ : ∃ z, (L (cd 0))[i]? = some z := ⟨_, lg_some hi⟩
    have hka : K ai = 3 := hel0 ai (List.mem_of_getElem? ha)
    refine m_cq (va_runV (As := [.int (nI i)]) (rest := []) ⟨hx, hb, hml, hown, hts⟩ (c_Jx4a65c_get_915e3 l hok.2.2.2.2.2.2.2.2.2.2.1 hi) (cwV 1 hts gX8_scoreIsles_Jx4a65c_get_915e3 rfl rfl rfl (by decide +kernel) ⟨Nat.le_of_ble_eq_true rfl, Nat.le_of_ble_eq_true rfl⟩) ⟨m_blind m_B_calling, m_recv hw (m_ent_11 hok.2.2.2.2.2.2.2.2.2.2.1) rfl, fun U hU hW => ⟨rfl, m_wo_call hw hU hW⟩⟩ rfl rfl hl.1 rfl (lv_room (Nat.le_of_ble_eq_true rfl)) dX8_scoreIsles_27 ⟨Nat.le_of_ble_eq_true rfl, Nat.le_of_ble_eq_true rfl⟩) hw (fun r_27 u_27 H locs hp_27 hw => ?_)
    obtain rfl : r_27 = some ai := hp_27.trans ha
    refine va_castS hx hb hown (hts (.classLink RX8 75 "Pirateindex$Isle") (by decide +kernel)) (hw.1.1 7 _ rfl).2 (m_recv hw (m_ent_3 hka) rfl) dX8_scoreIsles_30 ?_
    refine lv_astore_n (lv' := [(3, .ref ai), (0, .ref o), (1, .float (o_sumW (fun j9 => o_wt (L (cd 0)).length (c_il I (c_pw I R (A (cd 13) j9)) (fun j => (L (cd 9)).getD j 0) (L (cd 9)).length).1) n)), (2, .int (nI i))]) hx hb dX8_scoreIsles_33 rfl hl (by decide) rfl (fun ls hl => ?_)
    refine lv_aload_n hx hb dX8_scoreIsles_34 rfl (lv_at hl 0 rfl) ?_
    refine lv_fload_n hx hb dX8_scoreIsles_35 rfl (lv_at hl 2 rfl) ?_
    refine lv_aload_n hx hb dX8_scoreIsles_36 rfl (lv_at hl 1 rfl) ?_
    refine lv_aload_n hx hb dX8_scoreIsles_37 rfl (lv_at hl 0 rfl) ?_
    refine lv_aload_n hx hb dX8_scoreIsles_38 rfl (lv_at hl 1 rfl) ?_
    refine g_9_6 (r := some (cd 6)) hx hb hts (by decide +kernel) hown hw hok.1 (hts (.fieldLink RX8 46 "Pirateindex" "typed" "LPirateindex$Phrase;") (by decide +kernel)) hok.2.2.2.2.2.2.2.1 dX8_scoreIsles_39 ?_
    refine m_ci (va_runV (As := [.ref ai, .ref (cd 6)]) (rest := [.float (o_sumW (fun j9 => o_wt (L (cd 0)).length (c_il I (c_pw I R (A (cd 13) j9)) (fun j => (L (cd 9)).getD j 0) (L (cd 9)).length).1) n), .ref ai]) ⟨hx, hb, hml, hown, hts⟩ (c_X8_choicesOn l hok hka hph1 hrw) (cwV 2 hts gX8_scoreIsles_X8_choicesOn rfl rfl rfl (by decide +kernel) ⟨Nat.le_of_ble_eq_true rfl, Nat.le_of_ble_eq_true rfl⟩) ⟨m_blind m_B_calling, m_recv hw (m_ent_9 hok.1) rfl, fun U hU hW => ⟨rfl, m_wo_call hw hU hW⟩⟩ rfl rfl hl.1 rfl (lv_room (Nat.le_of_ble_eq_true rfl)) dX8_scoreIsles_42 ⟨Nat.le_of_ble_eq_true rfl, Nat.le_of_ble_eq_true rfl⟩) hw (fun r_42 u_42 H locs hp_42 hw => ?_)
    have hw : m_wo G K I R Fa u_42 N L T J D s H locs := hw
    obtain ⟨hA1, hr1⟩ := hp_42
    have hB0 : ∀ b9, b9 ≠ cd 11 → b9 ≠ cd 12 → u_42 b9 = A b9 := fun b9 h1 h2 => (hA1 b9 h1 h2).trans (hA0 b9 h1 h2)
    obtain rfl : r_42 = (nI (c_hit I R A (L (cd 9)) (cd 13) (cd 14) n (I 30 ai))) := hr1.trans (congrArg nI (c_hit_A (hA0 _ hnw.1 hnw.2.1) (hA0 _ hnw.2.2.1 hnw.2.2.2)))
    have hns : vf_n32 (FP.fmul (o_sumW (fun j9 => o_wt (L (cd 0)).length (c_il I (c_pw I R (A (cd 13) j9)) (fun j => (L (cd 9)).getD j 0) (L (cd 9)).length).1) n) (FP.i2f (nI (c_hit I R A (L (cd 9)) (cd 13) (cd 14) n (I 30 ai))))) := hne2 ai (List.mem_of_getElem? ha)
    have hB1 : ∀ j9 a9, j9 < i + 1 → (L (cd 0))[j9]? = some a9 → m_up Fa ai (FP.fmul (o_sumW (fun j9 => o_wt (L (cd 0)).length (c_il I (c_pw I R (A (cd 13) j9)) (fun j => (L (cd 9)).getD j 0) (L (cd 9)).length).1) n) (FP.i2f (nI (c_hit I R A (L (cd 9)) (cd 13) (cd 14) n (I 30 ai))))) a9 = c_sco I R A (L (cd 9)) (L (cd 0)).length (cd 13) (cd 14) n (I 30 a9) := fun j9 a9 hj hj2 => by
      by_cases h : a9 = ai
      · rw [h, m_up_self]; rfl
      · rw [m_up_ne _ _ h]
        refine hF0 j9 a9 ?_ hj2
        rcases Nat.lt_or_ge j9 i with h2 | h2
        · exact h2
        · rw [show j9 = i by omega] at hj2
          exact absurd (Option.some.inj (hj2.symm.trans ha)) h
    refine lv_i2f hx hb dX8_scoreIsles_45 ?_
    refine lv_fmul hx hb dX8_scoreIsles_46 hns ?_
    refine p_3_5 hx hb hts (by decide +kernel) hown hw hka (hts (.fieldLink RX8 399 "Pirateindex$Isle" "score" "F") (by decide +kernel)) dX8_scoreIsles_47 (fun H locs hw => ?_)
    refine lv_iinc (v := nI (i + 1)) (lv' := [(2, .int (nI (i + 1))), (3, .ref ai), (0, .ref o), (1, .float (o_sumW (fun j9 => o_wt (L (cd 0)).length (c_il I (c_pw I R (A (cd 13) j9)) (fun j => (L (cd 9)).getD j 0) (L (cd 9)).length).1) n))]) hx hb dX8_scoreIsles_50 hl (k := 3) rfl (nI_1 _) (by decide) rfl (fun ls hl => ?_)
    refine lv_goto (tgt := 11) hx hb dX8_scoreIsles_53 (by decide) ?_
    exact ih (i + 1, m_up Fa ai (FP.fmul (o_sumW (fun j9 => o_wt (L (cd 0)).length (c_il I (c_pw I R (A (cd 13) j9)) (fun j => (L (cd 9)).getD j 0) (L (cd 9)).length).1) n) (FP.i2f (nI (c_hit I R A (L (cd 9)) (cd 13) (cd 14) n (I 30 ai))))), u_42) _ _ _ (by dsimp only; omega) ⟨⟨by omega, hB0, hB1⟩, hw, lv_sub hl [2, 3, 0] rfl⟩
set_option maxHeartbeats 400000 in
set_option maxRecDepth 100000 in
theorem c_X8_hitRanked (l : Launch) {G : mG} {K : Nat → Nat} {I : Nat → Nat → Int32} {R : Nat → Nat → Option Nat} {F : Nat → UInt32} {A : Nat → Nat → Int32} {N : Nat → Nat} {L : Nat → List Nat} {T : Nat → List Int32} {J : Nat → Nat → Int64} {D : Nat → Nat → UInt64} {o : Nat} {cd : Nat → Nat} {n fr : Nat} {rk : Int32} (hok : c_ok K R N o cd) (hel0 : ∀ a, a ∈ L (cd 0) → K a = 3) (hph : c_ph K R N I A (cd 6) (cd 13) (cd 14) n) (hrw : c_rwd K I R (L (cd 9))) (hne : ∀ k, k < n → vf_n32 (FP.fdiv (FP.i2f (nI (L (cd 0)).length)) (FP.i2f (1 + nI (c_il I (c_pw I R (A (cd 13) k)) (fun j => (L (cd 9)).getD j 0) (L (cd 9)).length).1))) ∧ vf_n32 ((fun j9 => o_wt (L (cd 0)).length (c_il I (c_pw I R (A (cd 13) j9)) (fun j => (L (cd 9)).getD j 0) (L (cd 9)).length).1) k) ∧ vf_n32 (FP.fadd (o_sumW (fun j9 => o_wt (L (cd 0)).length (c_il I (c_pw I R (A (cd 13) j9)) (fun j => (L (cd 9)).getD j 0) (L (cd 9)).length).1) k) ((fun j9 => o_wt (L (cd 0)).length (c_il I (c_pw I R (A (cd 13) j9)) (fun j => (L (cd 9)).getD j 0) (L (cd 9)).length).1) k))) (hne2 : ∀ a, a ∈ L (cd 0) → vf_n32 (c_sco I R A (L (cd 9)) (L (cd 0)).length (cd 13) (cd 14) n (I 30 a))) (hkf : K fr = 3) : Met l yX8_hitRanked wsX8_hitRanked ({ frames := 8, cells := 0, slots := 0, locals := 320 } : Room) (va_Pc [.ref o, .int rk, .ref fr] (m_B G K I R F A N L T J D)) (va_Qq (fun (r : Option Nat) (u : (Nat → UInt32) × (Nat → Nat → Int32)) => (∀ b, b ≠ cd 11 → b ≠ cd 12 → u.2 b = A b) ∧ (∀ a, a ∈ L (cd 0) → u.1 a = c_sco I R A (L (cd 9)) (L (cd 0)).length (cd 13) (cd 14) n (I 30 a)) ∧ r = (L (cd 0)).find? (fun y9 => decide (0 < o_cmp (u.1 y9) FP.fconst0) && decide (nI ((L (cd 0)).countP (fun z9 => c_ahead I u.1 z9 y9 fr)) = rk))) (fun u : (Nat → UInt32) × (Nat → Nat → Int32) => m_B G K I R (u.1) (u.2) N L T J D) (m_A G)) 0 0 (m_A G) := by
  refine Met.ofW (cc := cX8_hitRanked) (maxL := 5) (ret := (some (.object "Pirateindex$Isle"))) (by decide) rfl ?_
  intro p e s m args below meth c s₁ B hml hv
  obtain ⟨rfl, hB⟩ := hv
  have hx := B.exec
  have hb := B.bytes
  have hr := B.returns
  have hts := atoms_spec (ws := wsX8_hitRanked) B.pre
  have hown : s.vm.findClass RX8 = some m.cls := findClass_of_methodNamed B.named
  have hlocks := B.notSynchronized
  have hw := m_wo_in hB
  have hl := lv_entry ([.ref o, .int rk, .ref fr]) (n := 5) (Nat.le_of_ble_eq_true rfl)
  rw [lg_entry_eq]
  generalize (lg_sl ([.ref o, .int rk, .ref fr]) ++ List.replicate (5 - (lg_sl ([.ref o, .int rk, .ref fr])).length) Slot.unset).toArray = ls at hl ⊢
  have hl : lv_has ls 5 [(0, .ref o), (1, .int rk), (2, .ref fr)] := hl
  have hlen := m_len hw hok.2.2.2.2.2.2.2.2.2.2.1
  refine lv_aload_n hx hb dX8_hitRanked_0 rfl (lv_at hl 0 rfl) ?_
  refine m_cv (va_runV (As := []) (rest := []) ⟨hx, hb, hml, hown, hts⟩ (c_X8_scoreIsles l hok hel0 hph hrw hne hne2) (cwV 0 hts gX8_hitRanked_X8_scoreIsles rfl rfl rfl (by decide +kernel) ⟨Nat.le_of_ble_eq_true rfl, Nat.le_of_ble_eq_true rfl⟩) ⟨m_blind m_B_calling, m_recv hw (m_ent_9 hok.1) rfl, fun U hU hW => ⟨rfl, m_wo_call hw hU hW⟩⟩ rfl rfl hl.1 rfl (lv_room (Nat.le_of_ble_eq_true rfl)) dX8_hitRanked_1 ⟨Nat.le_of_ble_eq_true rfl, Nat.le_of_ble_eq_true rfl⟩) hw (fun u_1 H locs hp_1 hw => ?_)
  obtain ⟨F_1, A_2⟩ := u_1
  have hw : m_wo G K I R F_1 A_2 N L T J D s H locs := hw
  dsimp only at hp_1
  obtain ⟨hA0, hF0⟩ := hp_1
  refine lv_iconst (v := 0) hx hb dX8_hitRanked_4 (by decide) ?_
  refine lv_istore_n (lv' := [(3, .int 0), (0, .ref o), (1, .int rk), (2, .ref fr)]) hx hb dX8_hitRanked_5 rfl hl (by decide) rfl (fun ls hl => ?_)
  refine m_loop (σ := Nat) (fun a => (L (cd 0)).length - (a)) (fun a H locs ls => ((a) ≤ (L (cd 0)).length ∧ ∀ j9, j9 < (a) → (fun y9 => decide (0 < o_cmp (F_1 y9) FP.fconst0) && decide (nI ((L (cd 0)).countP (fun z9 => c_ahead I F_1 z9 y9 fr)) = rk)) ((L (cd 0)).getD j9 0) = false) ∧ m_wo G K I R F_1 A_2 N L T J D s H locs ∧ lv_has ls 5 [(0, .ref o), (1, .int rk), (2, .ref fr), (3, .int (nI (a)))]) ?_ (0) ⟨⟨Nat.zero_le _, fun _ h => absurd h (Nat.not_lt_zero _)⟩, hw, lv_sub hl [1, 2, 3, 0] rfl⟩
  rintro i H locs ls ⟨hinv, hw, hl⟩ ih
  try dsimp only at hinv hw hl
  obtain ⟨hi0, hx0⟩ := hinv
  refine lv_iload_n hx hb dX8_hitRanked_6 rfl (lv_at hl 3 rfl) ?_
  refine lv_aload_n hx hb dX8_hitRanked_7 rfl (lv_at hl 0 rfl) ?_
  refine g_9_0 (r := some (cd 0)) hx hb hts (by decide +kernel) hown hw hok.1 (hts (.fieldLink RX8 10 "Pirateindex" "isles" "Ljava/util/ArrayList;") (by decide +kernel)) hok.2.1 dX8_hitRanked_8 ?_
  refine m_ci (va_runV (As := []) (rest := [.int (nI i)]) ⟨hx, hb, hml, hown, hts⟩ (c_Jx4a65c_size_8abf5 l hok.2.2.2.2.2.2.2.2.2.2.1) (cwV 0 hts gX8_hitRanked_Jx4a65c_size_8abf5 rfl rfl rfl (by decide +kernel) ⟨Nat.le_of_ble_eq_true rfl, Nat.le_of_ble_eq_true rfl⟩) ⟨m_blind m_B_calling, m_recv hw (m_ent_11 hok.2.2.2.2.2.2.2.2.2.2.1) rfl, fun U hU hW => ⟨rfl, m_wo_call hw hU hW⟩⟩ rfl rfl hl.1 rfl (lv_room (Nat.le_of_ble_eq_true rfl)) dX8_hitRanked_11 ⟨Nat.le_of_ble_eq_true rfl, Nat.le_of_ble_eq_true rfl⟩) hw (fun r_11 u_11 H locs hp_11 hw => ?_)
  obtain rfl : r_11 = (nI (L (cd 0)).length) := hp_11
  refine lv_icmp_ge (tgt := 60) hx hb dX8_hitRanked_14 (by decide) (fun c_14 => ?_) (fun c_14 => ?_)
  · skip
    rw [nI_leI (by omega) (by omega)] at c_14
    have hi : i = (L (cd 0)).length := by omega
    refine lv_null hx hb dX8_hitRanked_60 ?_
    exact W.aret (v := .null) hx hb hr (Or.inl ⟨_, rfl⟩) (Or.inl rfl) (fun t ht hW => ⟨⟨none, (F_1, A_2), rfl, ⟨hA0, hF0, (find_no _ (fun j hj => hx0 j (by omega))).symm⟩, m_wo_out hw ht hW.alike⟩, m_wo_F hw ht⟩) (m_wo_L hw) dX8_hitRanked_61
  · skip
    rw [nI_leI (by omega) (by omega)] at c_14
    have hi : i < (L (cd 0)).length := by omega
    refine lv_aload_n hx hb dX8_hitRanked_17 rfl (lv_at hl 0 rfl) ?_
    refine g_9_0 (r := some (cd 0)) hx hb hts (by decide +kernel) hown hw hok.1 (hts (.fieldLink RX8 10 "Pirateindex" "isles" "Ljava/util/ArrayList;") (by decide +kernel)) hok.2.1 dX8_hitRanked_18 ?_
    refine lv_iload_n hx hb dX8_hitRanked_21 rfl (lv_at hl 3 rfl) ?_
    obtain ⟨ai, ha⟩ : ∃ z, (L (cd 0))[i]? = some z := ⟨_, lg_some hi⟩
    have hka : K ai = 3 := hel0 ai (List.mem_of_getElem? ha)
    refine m_cq (va_runV (As := [.int (nI i)]) (rest := []) ⟨hx, hb, hml, hown, hts⟩ (c_Jx4a65c_get_915e3 l hok.2.2.2.2.2.2.2.2.2.2.1 hi) (cwV 1 hts gX8_hitRanked_Jx4a65c_get_915e3 rfl rfl rfl (by decide +kernel) ⟨Nat.le_of_ble_eq_true rfl, Nat.le_of_ble_eq_true rfl⟩) ⟨m_blind m_B_calling, m_recv hw (m_ent_11 hok.2.2.2.2.2.2.2.2.2.2.1) rfl, fun U hU hW => ⟨rfl, m_wo_call hw hU hW⟩⟩ rfl rfl hl.1 rfl (lv_room (Nat.le_of_ble_eq_true rfl)) dX8_hitRanked_22 ⟨Nat.le_of_ble_eq_true rfl, Nat.le_of_ble_eq_true rfl⟩) hw (fun r_22 u_22 H locs hp_22 hw => ?_)
    obtain rfl : r_22 = some ai := hp_22.trans ha
    refine va_castS hx hb hown (hts (.classLink RX8 75 "Pirateindex$Isle") (by decide +kernel)) (hw.1.1 7 _ rfl).2 (m_recv hw (m_ent_3 hka) rfl) dX8_hitRanked_25 ?_
    refine lv_astore (lv' := [(4, .ref ai), (0, .ref o), (1, .int rk), (2, .ref fr), (3, .int (nI i))]) hx hb dX8_hitRanked_28 hl (by decide) rfl (fun ls hl => ?_)
    refine lv_aload hx hb dX8_hitRanked_30 (lv_at hl 0 rfl) ?_
    refine g_3_5 hx hb hts (by decide +kernel) hown hw hka (hts (.fieldLink RX8 399 "Pirateindex$Isle" "score" "F") (by decide +kernel)) dX8_hitRanked_32 ?_
    refine lv_fconst0 hx hb dX8_hitRanked_35 ?_
    refine lv_fcmp hx hb dX8_hitRanked_36 ?_
    refine lv_if_le (tgt := 54) hx hb dX8_hitRanked_37 (by decide) (fun c_37 => ?_) (fun c_37 => ?_)
    · skip
      have hs7 : ¬ 0 < o_cmp (F_1 ai) FP.fconst0 := Int32.not_lt.mpr c_37
      have hx1 : ∀ j9, j9 < i + 1 → (fun y9 => decide (0 < o_cmp (F_1 y9) FP.fconst0) && decide (nI ((L (cd 0)).countP (fun z9 => c_ahead I F_1 z9 y9 fr)) = rk)) ((L (cd 0)).getD j9 0) = false := fun j9 hj => by
        by_cases h : j9 = i
        · rw [h, lg_get ha]; show (decide (0 < o_cmp (F_1 ai) FP.fconst0) && _) = false; rw [decide_eq_false hs7]; rfl
        · exact hx0 j9 (by omega)
      refine lv_iinc (v := nI (i + 1)) (lv' := [(3, .int (nI (i + 1))), (4, .ref ai), (0, .ref o), (1, .int rk), (2, .ref fr)]) hx hb dX8_hitRanked_54 hl (k := 4) rfl (nI_1 _) (by decide) rfl (fun ls hl => ?_)
      refine lv_goto (tgt := 6) hx hb dX8_hitRanked_57 (by decide) ?_
      exact ih (i + 1) _ _ _ (by omega) ⟨⟨by omega, hx1⟩, hw, lv_sub hl [2, 3, 4, 0] rfl⟩
    · skip
      have hs9 : 0 < o_cmp (F_1 ai) FP.fconst0 := Int32.not_le.mp c_37
      refine lv_aload_n hx hb dX8_hitRanked_40 rfl (lv_at hl 1 rfl) ?_
      refine lv_aload hx hb dX8_hitRanked_41 (lv_at hl 0 rfl) ?_
      refine lv_aload_n hx hb dX8_hitRanked_43 rfl (lv_at hl 3 rfl) ?_
      refine m_ci (va_runV (As := [.ref ai, .ref fr]) (rest := []) ⟨hx, hb, hml, hown, hts⟩ (c_X8_hitsAheadOf l hok hel0 hka hkf) (cwV 2 hts gX8_hitRanked_X8_hitsAheadOf rfl rfl rfl (by decide +kernel) ⟨Nat.le_of_ble_eq_true rfl, Nat.le_of_ble_eq_true rfl⟩) ⟨m_blind m_B_calling, m_recv hw (m_ent_9 hok.1) rfl, fun U hU hW => ⟨rfl, m_wo_call hw hU hW⟩⟩ rfl rfl hl.1 rfl (lv_room (Nat.le_of_ble_eq_true rfl)) dX8_hitRanked_44 ⟨Nat.le_of_ble_eq_true rfl, Nat.le_of_ble_eq_true rfl⟩) hw (fun r_44 u_44 H locs hp_44 hw => ?_)
      obtain rfl : r_44 = nI ((L (cd 0)).countP (fun z9 => c_ahead I F_1 z9 ai fr)) := hp_44
      refine lv_iload_n hx hb dX8_hitRanked_47 rfl (lv_at hl 2 rfl) ?_
      refine lv_icmp_ne (tgt := 54) hx hb dX8_hitRanked_48 (by decide) (fun c_48 => ?_) (fun c_48 => ?_)
      · skip
        have hx1 : ∀ j9, j9 < i + 1 → (fun y9 => decide (0 < o_cmp (F_1 y9) FP.fconst0) && decide (nI ((L (cd 0)).countP (fun z9 => c_ahead I F_1 z9 y9 fr)) = rk)) ((L (cd 0)).getD j9 0) = false := fun j9 hj => by
          by_cases h : j9 = i
          · rw [h, lg_get ha]; show (_ && decide (nI ((L (cd 0)).countP (fun z9 => c_ahead I F_1 z9 ai fr)) = rk)) = false; rw [decide_eq_false c_48, Bool.and_false]
          · exact hx0 j9 (by omega)
        refine lv_iinc (v := nI (i + 1)) (lv' := [(3, .int (nI (i + 1))), (4, .ref ai), (0, .ref o), (1, .int rk), (2, .ref fr)]) hx hb dX8_hitRanked_54 hl (k := 4) rfl (nI_1 _) (by decide) rfl (fun ls hl => ?_)
        refine lv_goto (tgt := 6) hx hb dX8_hitRanked_57 (by decide) ?_
        exact ih (i + 1) _ _ _ (by omega) ⟨⟨by omega, hx1⟩, hw, lv_sub hl [2, 3, 4, 0] rfl⟩
      · skip
        have hs8 : (fun y9 => decide (0 < o_cmp (F_1 y9) FP.fconst0) && decide (nI ((L (cd 0)).countP (fun z9 => c_ahead I F_1 z9 y9 fr)) = rk)) ai = true := by show (decide (0 < o_cmp (F_1 ai) FP.fconst0) && decide (nI ((L (cd 0)).countP (fun z9 => c_ahead I F_1 z9 ai fr)) = rk)) = true; rw [decide_eq_true hs9, decide_eq_true c_48]; rfl
        refine lv_aload hx hb dX8_hitRanked_51 (lv_at hl 0 rfl) ?_
        exact W.aret (v := .ref ai) hx hb hr (Or.inl ⟨_, rfl⟩) (Or.inr ⟨_, rfl⟩) (fun t ht hW => ⟨⟨(some ai), (F_1, A_2), rfl, ⟨hA0, hF0, (find_at _ ha hs8 hx0).symm⟩, m_wo_out hw ht hW.alike⟩, m_wo_F hw ht⟩) (m_wo_L hw) dX8_hitRanked_53
