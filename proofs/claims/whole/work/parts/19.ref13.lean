/-- the word stands posted on the island -/
def o_hasW (M : mM) (nf : Nat) (wd isl : Int32) : Bool := anyB (fun f => o_pst M f wd && decide (M 12 f = isl)) nf
def o_has (M : mM) (nf ni : Nat) (wd : Int32) : Nat := cntB (fun i => o_hasW M nf wd (nI i)) ni
def o_wt (ni h : Nat) : UInt32 := FP.fadd FP.fconst1 (FP.fdiv (FP.i2f (nI ni)) (FP.i2f (1 + nI h)))
def o_in (M : mM) (nf : Nat) : Nat := cntB (fun f => !decide (M 14 f = -1)) nf
def o_mean (M : mM) (nf : Nat) (sg : Int32) : UInt64 := if sg = 0 then FP.dconst0 else FP.ddiv (FP.i2d (nI (o_in M nf))) (FP.i2d sg)
set_option maxHeartbeats 400000 in
set_option maxRecDepth 100000 in
theorem c_X9_weightOf (l : Launch) {G : mG} {K : Nat → Nat} {I : Nat → Nat → Int32} {R : Nat → Nat → Option Nat} {F : Nat → UInt32} {A : Nat → Nat → Int32} {N : Nat → Nat} {L : Nat → List Nat} {T : Nat → List Int32} {J : Nat → Nat → Int64} {D : Nat → Nat → UInt64} {o : Nat} {ad : Nat → Nat} {Z : Nat → Int32} {M : Nat → Nat → Int32} {th : Int32} {nf ni : Nat} (wd : Int32) (hro : r_ok K R N o ad) (hz : r_st K o ad I A I A Z M th) (hnf : Z 1 = nI nf) (hn : nf ≤ 120) (hni : Z 0 = nI ni) (hn12 : ni ≤ 12) (hne : ∀ h, h ≤ ni → vf_n32 (FP.fdiv (FP.i2f (nI ni)) (FP.i2f (1 + nI h))) ∧ vf_n32 (o_wt ni h)) : Met l yX9_weightOf wsX9_weightOf ({ frames := 1, cells := 0, slots := 0, locals := 22 } : Room) (va_Pc [.ref o, .int wd] (m_B G K I R F A N L T J D)) (va_Qf (fun (r : UInt32) (_ : Unit) => r = o_wt ni (o_has M nf ni wd)) (fun u : Unit => m_B G K I R F A N L T J D) (m_A G)) 0 0 (m_A G) := by
  refine Met.ofW (cc := cX9_weightOf) (maxL := 6) (ret := (some .float)) (by decide) rfl ?_
  intro p e s m args below meth c s₁ B hml hv
  obtain ⟨rfl, hB⟩ := hv
  have hx := B.exec
  have hb := B.bytes
  have hr := B.returns
  have hts := atoms_spec (ws := wsX9_weightOf) B.pre
  have hown : s.vm.findClass RX9 = some m.cls := findClass_of_methodNamed B.named
  have hlocks := B.notSynchronized
  have hw := m_wo_in hB
  have hl := lv_entry ([.ref o, .int wd]) (n := 6) (Nat.le_of_ble_eq_true rfl)
  rw [lg_entry_eq]
  generalize (lg_sl ([.ref o, .int wd]) ++ List.replicate (6 - (lg_sl ([.ref o, .int wd])).length) Slot.unset).toArray = ls at hl ⊢
  have hl : lv_has ls 6 [(0, .ref o), (1, .int wd)] := hl
  have his := hz
  refine lv_iconst (v := 0) hx hb dX9_weightOf_0 (by decide) ?_
  refine lv_istore_n (lv' := [(2, .int 0), (0, .ref o), (1, .int wd)]) hx hb dX9_weightOf_1 rfl hl (by decide) rfl (fun ls hl => ?_)
  refine lv_iconst (v := 0) hx hb dX9_weightOf_2 (by decide) ?_
  refine lv_istore_n (lv' := [(3, .int 0), (2, .int 0), (0, .ref o), (1, .int wd)]) hx hb dX9_weightOf_3 rfl hl (by decide) rfl (fun ls hl => ?_)
  refine m_loop (σ := Nat × Int32) (fun a => ni - (a.1)) (fun a H locs ls => ((a.1) ≤ ni ∧ (a.2) = nI (o_has M nf (a.1) wd)) ∧ m_wo G K I R F A N L T J D s H locs ∧ lv_has ls 6 [(0, .ref o), (1, .int wd), (2, .int (a.2)), (3, .int (nI (a.1)))]) ?_ (0, 0) ⟨⟨Nat.zero_le _, rfl⟩, hw, lv_sub hl [2, 3, 1, 0] rfl⟩
  rintro ⟨i, x⟩ H locs ls ⟨hinv, hw, hl⟩ ih
  dsimp only at hinv hw hl
  have hx0 := hinv.2
  have ih1 := ih
  refine lv_iload_n hx hb dX9_weightOf_4 rfl (lv_at hl 3 rfl) ?_
  refine lv_aload_n hx hb dX9_weightOf_5 rfl (lv_at hl 0 rfl) ?_
  refine g_10_0 hx hb hts (by decide +kernel) hown hw hro.1 (hts (.fieldLink RX9 98 "PirateindexModel" "islands" "I") (by decide +kernel)) dX9_weightOf_6 ?_
  rw [show I 1000 o = Z 0 from his.1 0 (by decide)]
  rw [hni]
  refine lv_icmp_ge (tgt := 85) hx hb dX9_weightOf_9 (by decide) (fun c_9 => ?_) (fun c_9 => ?_)
  · skip
    rw [nI_leI (by omega) (by omega)] at c_9
    have hi : i = ni := by omega
    rw [hi] at hx0
    have hn9 := hne (o_has M nf ni wd) (cntB_le _ _)
    have hn8 := hn9.2
    unfold o_wt at hn8
    refine lv_fconst1 hx hb dX9_weightOf_85 ?_
    refine lv_aload_n hx hb dX9_weightOf_86 rfl (lv_at hl 0 rfl) ?_
    refine g_10_0 hx hb hts (by decide +kernel) hown hw hro.1 (hts (.fieldLink RX9 98 "PirateindexModel" "islands" "I") (by decide +kernel)) dX9_weightOf_87 ?_
    rw [show I 1000 o = Z 0 from his.1 0 (by decide)]
    rw [hni]
    refine lv_i2f hx hb dX9_weightOf_90 ?_
    refine lv_iconst (v := 1) hx hb dX9_weightOf_91 (by decide) ?_
    refine lv_iload_n hx hb dX9_weightOf_92 rfl (lv_at hl 2 rfl) ?_
    refine lv_iadd hx hb dX9_weightOf_93 ?_
    refine lv_i2f hx hb dX9_weightOf_94 ?_
    refine lv_fdiv hx hb dX9_weightOf_95 (by rw [hx0]; exact hn9.1) ?_
    refine lv_fadd hx hb dX9_weightOf_96 (by rw [hx0]; exact hn8) ?_
    exact W.fret (v := (FP.fadd (FP.fconst1) (FP.fdiv (FP.i2f (nI ni)) (FP.i2f (1 + x))))) hx hb hr (fun t ht hW => ⟨⟨(FP.fadd (FP.fconst1) (FP.fdiv (FP.i2f (nI ni)) (FP.i2f (1 + x)))), (), rfl, (by unfold o_wt; rw [hx0]), m_wo_out hw ht hW.alike⟩, m_wo_F hw ht⟩) (m_wo_L hw) dX9_weightOf_97
  · skip
    rw [nI_leI (by omega) (by omega)] at c_9
    have hi : i < ni := by omega
    refine lv_iconst (v := 0) hx hb dX9_weightOf_12 (by decide) ?_
    refine lv_istore (lv' := [(4, .int 0), (0, .ref o), (1, .int wd), (2, .int x), (3, .int (nI i))]) hx hb dX9_weightOf_13 hl (by decide) rfl (fun ls hl => ?_)
    refine lv_iconst (v := 0) hx hb dX9_weightOf_15 (by decide) ?_
    refine lv_istore (lv' := [(5, .int 0), (4, .int 0), (0, .ref o), (1, .int wd), (2, .int x), (3, .int (nI i))]) hx hb dX9_weightOf_16 hl (by decide) rfl (fun ls hl => ?_)
    refine m_loop (σ := Nat × Int32) (fun a => nf - (a.1)) (fun a H locs ls => ((a.1) ≤ nf ∧ (a.2) = b2i (anyB (fun f9 => o_pst M f9 wd && decide (M 12 f9 = nI i)) (a.1))) ∧ m_wo G K I R F A N L T J D s H locs ∧ lv_has ls 6 [(0, .ref o), (1, .int wd), (2, .int x), (3, .int (nI i)), (4, .int (a.2)), (5, .int (nI (a.1)))]) ?_ (0, 0) ⟨⟨Nat.zero_le _, rfl⟩, hw, lv_sub hl [2, 3, 4, 5, 1, 0] rfl⟩
    rintro ⟨f, y⟩ H locs ls ⟨hinv, hw, hl⟩ ih
    dsimp only at hinv hw hl
    have hy0 := hinv.2
    refine lv_iload hx hb dX9_weightOf_18 (lv_at hl 5 rfl) ?_
    refine lv_aload_n hx hb dX9_weightOf_20 rfl (lv_at hl 0 rfl) ?_
    refine g_10_1 hx hb hts (by decide +kernel) hown hw hro.1 (hts (.fieldLink RX9 118 "PirateindexModel" "finds" "I") (by decide +kernel)) dX9_weightOf_21 ?_
    rw [show I 1001 o = Z 1 from his.1 1 (by decide)]
    rw [hnf]
    refine lv_icmp_ge (tgt := 66) hx hb dX9_weightOf_24 (by decide) (fun c_24 => ?_) (fun c_24 => ?_)
    · skip
      rw [nI_leI (by omega) (by omega)] at c_24
      have hf : f = nf := by omega
      subst hf
      refine lv_iload_n hx hb dX9_weightOf_66 rfl (lv_at hl 2 rfl) ?_
      refine lv_iload hx hb dX9_weightOf_67 (lv_at hl 4 rfl) ?_
      refine lv_if_eq (tgt := 76) hx hb dX9_weightOf_69 (by decide) (fun c_69 => ?_) (fun c_69 => ?_)
      · skip
        have hpi : o_hasW M f wd (nI i) = false := (b2i_eq _).mp (hy0 ▸ c_69)
        refine lv_iconst (v := 0) hx hb dX9_weightOf_76 (by decide) ?_
        refine lv_iadd hx hb dX9_weightOf_77 ?_
        refine lv_istore_n (lv' := [(2, .int (x + 0)), (0, .ref o), (1, .int wd), (3, .int (nI i)), (4, .int y), (5, .int (nI f))]) hx hb dX9_weightOf_78 rfl hl (by decide) rfl (fun ls hl => ?_)
        refine lv_iinc (v := nI (i + 1)) (lv' := [(3, .int (nI (i + 1))), (2, .int (x + 0)), (0, .ref o), (1, .int wd), (4, .int y), (5, .int (nI f))]) hx hb dX9_weightOf_79 hl (k := 3) rfl (nI_1 _) (by decide) rfl (fun ls hl => ?_)
        refine lv_goto (tgt := 4) hx hb dX9_weightOf_82 (by decide) ?_
        exact ih1 (i + 1, (x + 0)) _ _ _ (by dsimp only; omega) ⟨⟨by omega, cntB_step hx0 hpi⟩, hw, lv_sub hl [2, 3, 1, 0] rfl⟩
      · skip
        have hpi : o_hasW M f wd (nI i) = true := (b2i_ne _).mp (hy0 ▸ c_69)
        refine lv_iconst (v := 1) hx hb dX9_weightOf_72 (by decide) ?_
        refine lv_goto (tgt := 77) hx hb dX9_weightOf_73 (by decide) ?_
        refine lv_iadd hx hb dX9_weightOf_77 ?_
        refine lv_istore_n (lv' := [(2, .int (x + 1)), (0, .ref o), (1, .int wd), (3, .int (nI i)), (4, .int y), (5, .int (nI f))]) hx hb dX9_weightOf_78 rfl hl (by decide) rfl (fun ls hl => ?_)
        refine lv_iinc (v := nI (i + 1)) (lv' := [(3, .int (nI (i + 1))), (2, .int (x + 1)), (0, .ref o), (1, .int wd), (4, .int y), (5, .int (nI f))]) hx hb dX9_weightOf_79 hl (k := 3) rfl (nI_1 _) (by decide) rfl (fun ls hl => ?_)
        refine lv_goto (tgt := 4) hx hb dX9_weightOf_82 (by decide) ?_
        exact ih1 (i + 1, (x + 1)) _ _ _ (by dsimp only; omega) ⟨⟨by omega, cntB_step hx0 hpi⟩, hw, lv_sub hl [2, 3, 1, 0] rfl⟩
    · skip
      rw [nI_leI (by omega) (by omega)] at c_24
      have hf : f < nf := by omega
      refine lv_iload hx hb dX9_weightOf_27 (lv_at hl 4 rfl) ?_
      refine lv_if_ne (tgt := 53) hx hb dX9_weightOf_29 (by decide) (fun c_29 => ?_) (fun c_29 => ?_)
      · skip
        have h8 : anyB (fun f9 => o_pst M f9 wd && decide (M 12 f9 = nI i)) f = true := (b2i_ne _).mp (hy0 ▸ c_29)
        have hor : (anyB (fun f9 => o_pst M f9 wd && decide (M 12 f9 = nI i)) f || (fun f9 => o_pst M f9 wd && decide (M 12 f9 = nI i)) f) = true := by rw [h8]; rfl
        refine lv_iconst (v := 1) hx hb dX9_weightOf_53 (by decide) ?_
        refine lv_goto (tgt := 58) hx hb dX9_weightOf_54 (by decide) ?_
        refine lv_istore (lv' := [(4, .int 1), (0, .ref o), (1, .int wd), (2, .int x), (3, .int (nI i)), (5, .int (nI f))]) hx hb dX9_weightOf_58 hl (by decide) rfl (fun ls hl => ?_)
        refine lv_iinc (v := nI (f + 1)) (lv' := [(5, .int (nI (f + 1))), (4, .int 1), (0, .ref o), (1, .int wd), (2, .int x), (3, .int (nI i))]) hx hb dX9_weightOf_60 hl (k := 5) rfl (nI_1 _) (by decide) rfl (fun ls hl => ?_)
        refine lv_goto (tgt := 18) hx hb dX9_weightOf_63 (by decide) ?_
        exact ih (f + 1, 1) _ _ _ (by dsimp only; omega) ⟨⟨by omega, by show _ = b2i (anyB (fun f9 => o_pst M f9 wd && decide (M 12 f9 = nI i)) f || _); rw [hor]; rfl⟩, hw, lv_sub hl [2, 3, 4, 5, 1, 0] rfl⟩
      · skip
        have h8 : anyB (fun f9 => o_pst M f9 wd && decide (M 12 f9 = nI i)) f = false := (b2i_eq _).mp (by rw [← hy0]; exact c_29)
        refine lv_aload_n hx hb dX9_weightOf_32 rfl (lv_at hl 0 rfl) ?_
        refine lv_iload hx hb dX9_weightOf_33 (lv_at hl 5 rfl) ?_
        refine lv_iload_n hx hb dX9_weightOf_35 rfl (lv_at hl 1 rfl) ?_
        refine m_ci (va_runV (As := [.int (nI f), .int wd]) (rest := []) ⟨hx, hb, hml, hown, hts⟩ (c_X9_isPosting l (Z := Z) (M := M) (th := th) f wd hro (r_st_self his) (by omega)) (cwV 2 hts gX9_weightOf_X9_isPosting rfl rfl rfl (by decide +kernel) ⟨Nat.le_of_ble_eq_true rfl, Nat.le_of_ble_eq_true rfl⟩) ⟨m_blind m_B_calling, m_recv hw (m_ent_10 hro.1) rfl, fun U hU hW => ⟨rfl, m_wo_call hw hU hW⟩⟩ rfl rfl hl.1 rfl (lv_room (Nat.le_of_ble_eq_true rfl)) dX9_weightOf_36 ⟨Nat.le_of_ble_eq_true rfl, Nat.le_of_ble_eq_true rfl⟩) hw (fun r_36 u_36 H locs hp_36 hw => ?_)
        obtain rfl : r_36 = (b2i (o_pst M f wd)) := hp_36
        refine lv_if_eq (tgt := 57) hx hb dX9_weightOf_39 (by decide) (fun c_39 => ?_) (fun c_39 => ?_)
        · skip
          have q_39 : o_pst M f wd = false := (b2i_eq _).mp c_39
          have hor : (anyB (fun f9 => o_pst M f9 wd && decide (M 12 f9 = nI i)) f || (fun f9 => o_pst M f9 wd && decide (M 12 f9 = nI i)) f) = false := by rw [h8]; simp [q_39]
          refine lv_iconst (v := 0) hx hb dX9_weightOf_57 (by decide) ?_
          refine lv_istore (lv' := [(4, .int 0), (0, .ref o), (1, .int wd), (2, .int x), (3, .int (nI i)), (5, .int (nI f))]) hx hb dX9_weightOf_58 hl (by decide) rfl (fun ls hl => ?_)
          refine lv_iinc (v := nI (f + 1)) (lv' := [(5, .int (nI (f + 1))), (4, .int 0), (0, .ref o), (1, .int wd), (2, .int x), (3, .int (nI i))]) hx hb dX9_weightOf_60 hl (k := 5) rfl (nI_1 _) (by decide) rfl (fun ls hl => ?_)
          refine lv_goto (tgt := 18) hx hb dX9_weightOf_63 (by decide) ?_
          exact ih (f + 1, 0) _ _ _ (by dsimp only; omega) ⟨⟨by omega, by show _ = b2i (anyB (fun f9 => o_pst M f9 wd && decide (M 12 f9 = nI i)) f || _); rw [hor]; rfl⟩, hw, lv_sub hl [2, 3, 4, 5, 1, 0] rfl⟩
        · skip
          have q_39 : o_pst M f wd = true := (b2i_ne _).mp c_39
          refine lv_aload_n hx hb dX9_weightOf_42 rfl (lv_at hl 0 rfl) ?_
          refine g_10_12 (r := some (ad 12)) hx hb hts (by decide +kernel) hown hw hro.1 (hts (.fieldLink RX9 26 "PirateindexModel" "on" "[I") (by decide +kernel)) (hro.2.1 12 rfl).1 dX9_weightOf_43 ?_
          refine lv_iload hx hb dX9_weightOf_46 (lv_at hl 5 rfl) ?_
          refine m_iaload_20 hx hb hw (hro.2.1 12 rfl).2.1 (r_in hro 12 rfl (n := 120) rfl (by omega)) dX9_weightOf_48 ?_
          rw [show A (ad 12) = M 12 from his.2.1 12 rfl]
          rw [nI_clamp (show f < 2 ^ 31 by omega)]
          refine lv_iload_n hx hb dX9_weightOf_49 rfl (lv_at hl 3 rfl) ?_
          refine lv_icmp_ne (tgt := 57) hx hb dX9_weightOf_50 (by decide) (fun c_50 => ?_) (fun c_50 => ?_)
          · skip
            have hor : (anyB (fun f9 => o_pst M f9 wd && decide (M 12 f9 = nI i)) f || (fun f9 => o_pst M f9 wd && decide (M 12 f9 = nI i)) f) = false := by rw [h8]; simp [q_39, c_50]
            refine lv_iconst (v := 0) hx hb dX9_weightOf_57 (by decide) ?_
            refine lv_istore (lv' := [(4, .int 0), (0, .ref o), (1, .int wd), (2, .int x), (3, .int (nI i)), (5, .int (nI f))]) hx hb dX9_weightOf_58 hl (by decide) rfl (fun ls hl => ?_)
            refine lv_iinc (v := nI (f + 1)) (lv' := [(5, .int (nI (f + 1))), (4, .int 0), (0, .ref o), (1, .int wd), (2, .int x), (3, .int (nI i))]) hx hb dX9_weightOf_60 hl (k := 5) rfl (nI_1 _) (by decide) rfl (fun ls hl => ?_)
            refine lv_goto (tgt := 18) hx hb dX9_weightOf_63 (by decide) ?_
            exact ih (f + 1, 0) _ _ _ (by dsimp only; omega) ⟨⟨by omega, by show _ = b2i (anyB (fun f9 => o_pst M f9 wd && decide (M 12 f9 = nI i)) f || _); rw [hor]; rfl⟩, hw, lv_sub hl [2, 3, 4, 5, 1, 0] rfl⟩
          · skip
            have hor : (anyB (fun f9 => o_pst M f9 wd && decide (M 12 f9 = nI i)) f || (fun f9 => o_pst M f9 wd && decide (M 12 f9 = nI i)) f) = true := by rw [h8]; have h7 := c_50; simp [q_39, h7]
            refine lv_iconst (v := 1) hx hb dX9_weightOf_53 (by decide) ?_
            refine lv_goto (tgt := 58) hx hb dX9_weightOf_54 (by decide) ?_
            refine lv_istore (lv' := [(4, .int 1), (0, .ref o), (1, .int wd), (2, .int x), (3, .int (nI i)), (5, .int (nI f))]) hx hb dX9_weightOf_58 hl (by decide) rfl (fun ls hl => ?_)
            refine lv_iinc (v := nI (f + 1)) (lv' := [(5, .int (nI (f + 1))), (4, .int 1), (0, .ref o), (1, .int wd), (2, .int x), (3, .int (nI i))]) hx hb dX9_weightOf_60 hl (k := 5) rfl (nI_1 _) (by decide) rfl (fun ls hl => ?_)
            refine lv_goto (tgt := 18) hx hb dX9_weightOf_63 (by decide) ?_
            exact ih (f + 1, 1) _ _ _ (by dsimp only; omega) ⟨⟨by omega, by show _ = b2i (anyB (fun f9 => o_pst M f9 wd && decide (M 12 f9 = nI i)) f || _); rw [hor]; rfl⟩, hw, lv_sub hl [2, 3, 4, 5, 1, 0] rfl⟩

set_option maxHeartbeats 400000 in
set_option maxRecDepth 100000 in
theorem c_X9_meanSize (l : Launch) {G : mG} {K : Nat → Nat} {I : Nat → Nat → Int32} {R : Nat → Nat → Option Nat} {F : Nat → UInt32} {A : Nat → Nat → Int32} {N : Nat → Nat} {L : Nat → List Nat} {T : Nat → List Int32} {J : Nat → Nat → Int64} {D : Nat → Nat → UInt64} {o : Nat} {ad : Nat → Nat} {Z : Nat → Int32} {M : Nat → Nat → Int32} {th : Int32} {nf : Nat} (hro : r_ok K R N o ad) (hz : r_st K o ad I A I A Z M th) (hnf : Z 1 = nI nf) (hn : nf ≤ 120) (hne : ¬ Z 3 = 0 → vf_n64 (FP.ddiv (FP.i2d (nI (o_in M nf))) (FP.i2d (Z 3)))) : Met l yX9_meanSize wsX9_meanSize ({ frames := 0, cells := 0, slots := 0, locals := 0 } : Room) (va_Pc [.ref o] (m_B G K I R F A N L T J D)) (va_Qd (fun (r : UInt64) (_ : Unit) => r = o_mean M nf (Z 3)) (fun u : Unit => m_B G K I R F A N L T J D) (m_A G)) 0 0 (m_A G) := by
  refine Met.ofW (cc := cX9_meanSize) (maxL := 3) (ret := (some .double)) (by decide) rfl ?_
  intro p e s m args below meth c s₁ B hml hv
  obtain ⟨rfl, hB⟩ := hv
  have hx := B.exec
  have hb := B.bytes
  have hr := B.returns
  have hts := atoms_spec (ws := wsX9_meanSize) B.pre
  have hown : s.vm.findClass RX9 = some m.cls := findClass_of_methodNamed B.named
  have hlocks := B.notSynchronized
  have hw := m_wo_in hB
  have hl := lv_entry ([.ref o]) (n := 3) (Nat.le_of_ble_eq_true rfl)
  rw [lg_entry_eq]
  generalize (lg_sl ([.ref o]) ++ List.replicate (3 - (lg_sl ([.ref o])).length) Slot.unset).toArray = ls at hl ⊢
  have hl : lv_has ls 3 [(0, .ref o)] := hl
  have his := hz
  refine lv_iconst (v := 0) hx hb dX9_meanSize_0 (by decide) ?_
  refine lv_istore_n (lv' := [(1, .int 0), (0, .ref o)]) hx hb dX9_meanSize_1 rfl hl (by decide) rfl (fun ls hl => ?_)
  refine lv_iconst (v := 0) hx hb dX9_meanSize_2 (by decide) ?_
  refine lv_istore_n (lv' := [(2, .int 0), (1, .int 0), (0, .ref o)]) hx hb dX9_meanSize_3 rfl hl (by decide) rfl (fun ls hl => ?_)
  refine m_loop (σ := Nat × Int32) (fun a => nf - (a.1)) (fun a H locs ls => ((a.1) ≤ nf ∧ (a.2) = nI (o_in M (a.1))) ∧ m_wo G K I R F A N L T J D s H locs ∧ lv_has ls 3 [(0, .ref o), (1, .int (a.2)), (2, .int (nI (a.1)))]) ?_ (0, 0) ⟨⟨Nat.zero_le _, rfl⟩, hw, lv_sub hl [2, 1, 0] rfl⟩
  rintro ⟨i, x⟩ H locs ls ⟨hinv, hw, hl⟩ ih
  dsimp only at hinv hw hl
  refine lv_iload_n hx hb dX9_meanSize_4 rfl (lv_at hl 2 rfl) ?_
  refine lv_aload_n hx hb dX9_meanSize_5 rfl (lv_at hl 0 rfl) ?_
  refine g_10_1 hx hb hts (by decide +kernel) hown hw hro.1 (hts (.fieldLink RX9 118 "PirateindexModel" "finds" "I") (by decide +kernel)) dX9_meanSize_6 ?_
  rw [show I 1001 o = Z 1 from his.1 1 (by decide)]
  rw [hnf]
  refine lv_icmp_ge (tgt := 36) hx hb dX9_meanSize_9 (by decide) (fun c_9 => ?_) (fun c_9 => ?_)
  · skip
    rw [nI_leI (by omega) (by omega)] at c_9
    have hi : i = nf := by omega
    subst hi
    refine lv_aload_n hx hb dX9_meanSize_36 rfl (lv_at hl 0 rfl) ?_
    refine g_10_3 hx hb hts (by decide +kernel) hown hw hro.1 (hts (.fieldLink RX9 112 "PirateindexModel" "segments" "I") (by decide +kernel)) dX9_meanSize_37 ?_
    rw [show I 1003 o = Z 3 from his.1 3 (by decide)]
    refine lv_if_ne (tgt := 47) hx hb dX9_meanSize_40 (by decide) (fun c_40 => ?_) (fun c_40 => ?_)
    · skip
      refine lv_iload_n hx hb dX9_meanSize_47 rfl (lv_at hl 1 rfl) ?_
      refine lv_i2d hx hb dX9_meanSize_48 ?_
      refine lv_aload_n hx hb dX9_meanSize_49 rfl (lv_at hl 0 rfl) ?_
      refine g_10_3 hx hb hts (by decide +kernel) hown hw hro.1 (hts (.fieldLink RX9 112 "PirateindexModel" "segments" "I") (by decide +kernel)) dX9_meanSize_50 ?_
      rw [show I 1003 o = Z 3 from his.1 3 (by decide)]
      refine lv_i2d hx hb dX9_meanSize_53 ?_
      refine lv_ddiv hx hb dX9_meanSize_54 (by rw [hinv.2]; exact hne c_40) ?_
      exact W.dret (v := (FP.ddiv (FP.i2d x) (FP.i2d (Z 3)))) hx hb hr (fun t ht hW => ⟨⟨(FP.ddiv (FP.i2d x) (FP.i2d (Z 3))), (), rfl, (by unfold o_mean; first | (rw [if_pos c_40]) | (rw [if_pos (Decidable.not_not.mp c_40)]) | (rw [if_neg c_40, hinv.2])), m_wo_out hw ht hW.alike⟩, m_wo_F hw ht⟩) (m_wo_L hw) dX9_meanSize_55
    · skip
      refine lv_dconst0 hx hb dX9_meanSize_43 ?_
      refine lv_goto (tgt := 55) hx hb dX9_meanSize_44 (by decide) ?_
      exact W.dret (v := FP.dconst0) hx hb hr (fun t ht hW => ⟨⟨FP.dconst0, (), rfl, (by unfold o_mean; first | (rw [if_pos c_40]) | (rw [if_pos (Decidable.not_not.mp c_40)]) | (rw [if_neg c_40, hinv.2])), m_wo_out hw ht hW.alike⟩, m_wo_F hw ht⟩) (m_wo_L hw) dX9_meanSize_55
  · skip
    rw [nI_leI (by omega) (by omega)] at c_9
    have hi : i < nf := by omega
    refine lv_iload_n hx hb dX9_meanSize_12 rfl (lv_at hl 1 rfl) ?_
    refine lv_aload_n hx hb dX9_meanSize_13 rfl (lv_at hl 0 rfl) ?_
    refine g_10_14 (r := some (ad 14)) hx hb hts (by decide +kernel) hown hw hro.1 (hts (.fieldLink RX9 32 "PirateindexModel" "within" "[I") (by decide +kernel)) (hro.2.1 14 rfl).1 dX9_meanSize_14 ?_
    refine lv_iload_n hx hb dX9_meanSize_17 rfl (lv_at hl 2 rfl) ?_
    refine m_iaload_20 hx hb hw (hro.2.1 14 rfl).2.1 (r_in hro 14 rfl (n := 120) rfl (by omega)) dX9_meanSize_18 ?_
    rw [show A (ad 14) = M 14 from his.2.1 14 rfl]
    rw [nI_clamp (show i < 2 ^ 31 by omega)]
    refine lv_iconst (v := (-1)) hx hb dX9_meanSize_19 (by decide) ?_
    refine lv_icmp_ne (tgt := 27) hx hb dX9_meanSize_20 (by decide) (fun c_20 => ?_) (fun c_20 => ?_)
    · skip
      have hpi : (!decide (M 14 i = -1)) = true := by simp [c_20]
      refine lv_iconst (v := 1) hx hb dX9_meanSize_27 (by decide) ?_
      refine lv_iadd hx hb dX9_meanSize_28 ?_
      refine lv_istore_n (lv' := [(1, .int (x + 1)), (0, .ref o), (2, .int (nI i))]) hx hb dX9_meanSize_29 rfl hl (by decide) rfl (fun ls hl => ?_)
      refine lv_iinc (v := nI (i + 1)) (lv' := [(2, .int (nI (i + 1))), (1, .int (x + 1)), (0, .ref o)]) hx hb dX9_meanSize_30 hl (k := 2) rfl (nI_1 _) (by decide) rfl (fun ls hl => ?_)
      refine lv_goto (tgt := 4) hx hb dX9_meanSize_33 (by decide) ?_
      exact ih (i + 1, (x + 1)) _ _ _ (by dsimp only; omega) ⟨⟨by omega, cntB_step hinv.2 hpi⟩, hw, lv_sub hl [2, 1, 0] rfl⟩
    · skip
      have hpi : (!decide (M 14 i = -1)) = false := by simp [c_20]
      refine lv_iconst (v := 0) hx hb dX9_meanSize_23 (by decide) ?_
      refine lv_goto (tgt := 28) hx hb dX9_meanSize_24 (by decide) ?_
      refine lv_iadd hx hb dX9_meanSize_28 ?_
      refine lv_istore_n (lv' := [(1, .int (x + 0)), (0, .ref o), (2, .int (nI i))]) hx hb dX9_meanSize_29 rfl hl (by decide) rfl (fun ls hl => ?_)
      refine lv_iinc (v := nI (i + 1)) (lv' := [(2, .int (nI (i + 1))), (1, .int (x + 0)), (0, .ref o)]) hx hb dX9_meanSize_30 hl (k := 2) rfl (nI_1 _) (by decide) rfl (fun ls hl => ?_)
      refine lv_goto (tgt := 4) hx hb dX9_meanSize_33 (by decide) ?_
      exact ih (i + 1, (x + 0)) _ _ _ (by dsimp only; omega) ⟨⟨by omega, cntB_step hinv.2 hpi⟩, hw, lv_sub hl [2, 1, 0] rfl⟩

