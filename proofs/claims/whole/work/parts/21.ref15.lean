/-- the sum of the weights of the words that are asked -/
def o_sumW (wt : Nat → UInt32) : Nat → UInt32
  | 0 => FP.fconst0
  | n + 1 => FP.fadd (o_sumW wt n) (wt n)
def o_askW (M : mM) (nf ni : Nat) : Nat → UInt32 := fun k => o_wt ni (o_has M nf ni (M 27 k))
def o_score (Z : mZ) (M : mM) (nf ni na : Nat) (isl : Int32) : UInt32 := FP.fmul (o_sumW (o_askW M nf ni) na) (FP.i2f (nI (o_hitsOn Z M isl)))
/-- no operation of the score of any island is not a number -/
def o_nan (Z : mZ) (M : mM) (nf ni na : Nat) : Prop := (∀ h, h ≤ ni → vf_n32 (FP.fdiv (FP.i2f (nI ni)) (FP.i2f (1 + nI h))) ∧ vf_n32 (o_wt ni h)) ∧ (∀ k, k < na → vf_n32 (FP.fadd (o_sumW (o_askW M nf ni) k) (o_askW M nf ni k))) ∧ ∀ isl, vf_n32 (o_score Z M nf ni na isl)
set_option maxHeartbeats 400000 in
set_option maxRecDepth 100000 in
theorem c_X9_scoreOf (l : Launch) {G : mG} {K : Nat → Nat} {I : Nat → Nat → Int32} {R : Nat → Nat → Option Nat} {F : Nat → UInt32} {A : Nat → Nat → Int32} {N : Nat → Nat} {L : Nat → List Nat} {T : Nat → List Int32} {J : Nat → Nat → Int64} {D : Nat → Nat → UInt64} {o : Nat} {ad : Nat → Nat} {Z : Nat → Int32} {M : Nat → Nat → Int32} {th : Int32} {nf ni na : Nat} (isl : Int32) (hro : r_ok K R N o ad) (hz : r_st K o ad I A I A Z M th) (hnf : Z 1 = nI nf) (hn : nf ≤ 120) (hna : Z 30 = nI na) (h1a : 1 ≤ na) (h4a : na ≤ 4) (hga : ∀ k, 1 ≤ k → k < na → ∃ g, g ≤ 9 ∧ M 28 k = nI g) (hni : Z 0 = nI ni) (hn12 : ni ≤ 12) (hne : o_nan Z M nf ni na) : Met l yX9_scoreOf wsX9_scoreOf ({ frames := 3, cells := 0, slots := 0, locals := 80 } : Room) (va_Pc [.ref o, .int isl] (m_B G K I R F A N L T J D)) (va_Qf (fun (r : UInt32) (u : (Nat → Nat → Int32) × (Nat → Nat → Int32)) => (∃ M' : Nat → Nat → Int32, r_st K o ad I A u.1 u.2 Z M' th ∧ m_eq M M') ∧ r = o_score Z M nf ni na isl) (fun u : (Nat → Nat → Int32) × (Nat → Nat → Int32) => m_B G K (u.1) R F (u.2) N L T J D) (m_A G)) 0 0 (m_A G) := by
  refine Met.ofW (cc := cX9_scoreOf) (maxL := 4) (ret := (some .float)) (by decide) rfl ?_
  intro p e s m args below meth c s₁ B hml hv
  obtain ⟨rfl, hB⟩ := hv
  have hx := B.exec
  have hb := B.bytes
  have hr := B.returns
  have hts := atoms_spec (ws := wsX9_scoreOf) B.pre
  have hown : s.vm.findClass RX9 = some m.cls := findClass_of_methodNamed B.named
  have hlocks := B.notSynchronized
  have hw := m_wo_in hB
  have hl := lv_entry ([.ref o, .int isl]) (n := 4) (Nat.le_of_ble_eq_true rfl)
  rw [lg_entry_eq]
  generalize (lg_sl ([.ref o, .int isl]) ++ List.replicate (4 - (lg_sl ([.ref o, .int isl])).length) Slot.unset).toArray = ls at hl ⊢
  have hl : lv_has ls 4 [(0, .ref o), (1, .int isl)] := hl
  have his := hz
  have hsc : m_eq M M := m_eq_rf _
  refine lv_fconst0 hx hb dX9_scoreOf_0 ?_
  refine lv_fstore_n (lv' := [(2, .float (FP.fconst0)), (0, .ref o), (1, .int isl)]) hx hb dX9_scoreOf_1 rfl hl (by decide) rfl (fun ls hl => ?_)
  refine lv_iconst (v := 0) hx hb dX9_scoreOf_2 (by decide) ?_
  refine lv_istore_n (lv' := [(3, .int 0), (2, .float (FP.fconst0)), (0, .ref o), (1, .int isl)]) hx hb dX9_scoreOf_3 rfl hl (by decide) rfl (fun ls hl => ?_)
  refine m_loop (σ := Nat × UInt32) (fun a => na - (a.1)) (fun a H locs ls => ((a.1) ≤ na ∧ (a.2) = o_sumW (o_askW M nf ni) (a.1)) ∧ m_wo G K I R F A N L T J D s H locs ∧ lv_has ls 4 [(0, .ref o), (1, .int isl), (2, .float (a.2)), (3, .int (nI (a.1)))]) ?_ (0, FP.fconst0) ⟨⟨Nat.zero_le _, rfl⟩, hw, lv_sub hl [2, 3, 1, 0] rfl⟩
  rintro ⟨k, x⟩ H locs ls ⟨hinv, hw, hl⟩ ih
  dsimp only at hinv hw hl
  have hx0 := hinv.2
  refine lv_iload_n hx hb dX9_scoreOf_4 rfl (lv_at hl 3 rfl) ?_
  refine lv_aload_n hx hb dX9_scoreOf_5 rfl (lv_at hl 0 rfl) ?_
  refine g_10_30 hx hb hts (by decide +kernel) hown hw hro.1 (hts (.fieldLink RX9 173 "PirateindexModel" "asking" "I") (by decide +kernel)) dX9_scoreOf_6 ?_
  rw [show I 1030 o = Z 30 from his.1 30 (by decide)]
  rw [hna]
  refine lv_icmp_ge (tgt := 31) hx hb dX9_scoreOf_9 (by decide) (fun c_9 => ?_) (fun c_9 => ?_)
  · skip
    rw [nI_leI (by omega) (by omega)] at c_9
    have hk : k = na := by omega
    rw [hk] at hx0
    have hn9 := hne.2.2 isl
    unfold o_score at hn9
    refine lv_fload_n hx hb dX9_scoreOf_31 rfl (lv_at hl 2 rfl) ?_
    refine lv_aload_n hx hb dX9_scoreOf_32 rfl (lv_at hl 0 rfl) ?_
    refine lv_iload_n hx hb dX9_scoreOf_33 rfl (lv_at hl 1 rfl) ?_
    refine m_ci (va_runV (As := [.int isl]) (rest := [.float x]) ⟨hx, hb, hml, hown, hts⟩ (c_X9_hitsOn l (Z := Z) (M := M) (th := th) isl hro (r_st_self his) hnf hn hna h1a h4a hga) (cwV 1 hts gX9_scoreOf_X9_hitsOn rfl rfl rfl (by decide +kernel) ⟨Nat.le_of_ble_eq_true rfl, Nat.le_of_ble_eq_true rfl⟩) ⟨m_blind m_B_calling, m_recv hw (m_ent_10 hro.1) rfl, fun U hU hW => ⟨rfl, m_wo_call hw hU hW⟩⟩ rfl rfl hl.1 rfl (lv_room (Nat.le_of_ble_eq_true rfl)) dX9_scoreOf_34 ⟨Nat.le_of_ble_eq_true rfl, Nat.le_of_ble_eq_true rfl⟩) hw (fun r_34 u_34 H locs hp_34 hw => ?_)
    obtain ⟨I_1, A_2⟩ := u_34
    have hw : m_wo G K I_1 R F A_2 N L T J D s H locs := hw
    dsimp only at hp_34
    obtain ⟨⟨M_3, hiM_3, hmM_3⟩, hrM_3⟩ := hp_34
    have his := r_st_tr his hiM_3
    obtain rfl : r_34 = (nI (o_hitsOn Z M isl)) := hrM_3
    rw [o_hitsOn_eq hsc]
    have hsc := m_eq_tr hsc hmM_3
    refine lv_i2f hx hb dX9_scoreOf_37 ?_
    refine lv_fmul hx hb dX9_scoreOf_38 (by rw [hx0]; exact hn9) ?_
    exact W.fret (v := (FP.fmul x (FP.i2f (nI (o_hitsOn Z M isl))))) hx hb hr (fun t ht hW => ⟨⟨(FP.fmul x (FP.i2f (nI (o_hitsOn Z M isl)))), (I_1, A_2), rfl, ⟨⟨M_3, his, hsc⟩, by unfold o_score; rw [hx0]⟩, m_wo_out hw ht hW.alike⟩, m_wo_F hw ht⟩) (m_wo_L hw) dX9_scoreOf_39
  · skip
    rw [nI_leI (by omega) (by omega)] at c_9
    have hk : k < na := by omega
    have hn8 := hne.2.1 k hk
    unfold o_askW at hn8
    refine lv_fload_n hx hb dX9_scoreOf_12 rfl (lv_at hl 2 rfl) ?_
    refine lv_aload_n hx hb dX9_scoreOf_13 rfl (lv_at hl 0 rfl) ?_
    refine lv_aload_n hx hb dX9_scoreOf_14 rfl (lv_at hl 0 rfl) ?_
    refine g_10_27 (r := some (ad 27)) hx hb hts (by decide +kernel) hown hw hro.1 (hts (.fieldLink RX9 71 "PirateindexModel" "askWord" "[I") (by decide +kernel)) (hro.2.1 27 rfl).1 dX9_scoreOf_15 ?_
    refine lv_iload_n hx hb dX9_scoreOf_18 rfl (lv_at hl 3 rfl) ?_
    refine m_iaload_20 hx hb hw (hro.2.1 27 rfl).2.1 (r_in hro 27 rfl (n := 4) rfl (by omega)) dX9_scoreOf_19 ?_
    rw [show A (ad 27) = M 27 from his.2.1 27 rfl]
    rw [nI_clamp (show k < 2 ^ 31 by omega)]
    refine m_cf (va_runV (As := [.int (M 27 k)]) (rest := [.float x]) ⟨hx, hb, hml, hown, hts⟩ (c_X9_weightOf l (Z := Z) (M := M) (th := th) (M 27 k) hro (r_st_self his) hnf hn hni hn12 hne.1) (cwV 1 hts gX9_scoreOf_X9_weightOf rfl rfl rfl (by decide +kernel) ⟨Nat.le_of_ble_eq_true rfl, Nat.le_of_ble_eq_true rfl⟩) ⟨m_blind m_B_calling, m_recv hw (m_ent_10 hro.1) rfl, fun U hU hW => ⟨rfl, m_wo_call hw hU hW⟩⟩ rfl rfl hl.1 rfl (lv_room (Nat.le_of_ble_eq_true rfl)) dX9_scoreOf_20 ⟨Nat.le_of_ble_eq_true rfl, Nat.le_of_ble_eq_true rfl⟩) hw (fun r_20 u_20 H locs hp_20 hw => ?_)
    obtain rfl : r_20 = (o_wt ni (o_has M nf ni (M 27 k))) := hp_20
    refine lv_fadd hx hb dX9_scoreOf_23 (by rw [hx0]; exact hn8) ?_
    refine lv_fstore_n (lv' := [(2, .float (FP.fadd x (o_wt ni (o_has M nf ni (M 27 k))))), (0, .ref o), (1, .int isl), (3, .int (nI k))]) hx hb dX9_scoreOf_24 rfl hl (by decide) rfl (fun ls hl => ?_)
    refine lv_iinc (v := nI (k + 1)) (lv' := [(3, .int (nI (k + 1))), (2, .float (FP.fadd x (o_wt ni (o_has M nf ni (M 27 k))))), (0, .ref o), (1, .int isl)]) hx hb dX9_scoreOf_25 hl (k := 3) rfl (nI_1 _) (by decide) rfl (fun ls hl => ?_)
    refine lv_goto (tgt := 4) hx hb dX9_scoreOf_28 (by decide) ?_
    exact ih (k + 1, (FP.fadd x (o_wt ni (o_has M nf ni (M 27 k))))) _ _ _ (by dsimp only; omega) ⟨⟨by omega, by rw [hx0]; rfl⟩, hw, lv_sub hl [2, 3, 1, 0] rfl⟩

