set_option maxHeartbeats 400000 in
set_option maxRecDepth 100000 in
theorem c_X9_rebuild (l : Launch) {G : mG} {K : Nat → Nat} {I : Nat → Nat → Int32} {R : Nat → Nat → Option Nat} {F : Nat → UInt32} {A : Nat → Nat → Int32} {N : Nat → Nat} {L : Nat → List Nat} {T : Nat → List Int32} {J : Nat → Nat → Int64} {D : Nat → Nat → UInt64} {o : Nat} {ad : Nat → Nat} {Z : Nat → Int32} {M : Nat → Nat → Int32} {th : Int32} {nf : Nat} (hro : r_ok K R N o ad) (hz : r_st K o ad I A I A Z M th) (hnf : Z 1 = nI nf) (hn : nf ≤ 120) (hsegs : t_rebuild Z M = 0 → ∀ i, i ≤ nf → ∃ k, k ≤ 20 ∧ (o_reb (Z, M) i).1 3 = nI k) : Met l yX9_rebuild wsX9_rebuild ({ frames := 3, cells := 0, slots := 0, locals := 90 } : Room) (va_Pc [.ref o] (m_B G K I R F A N L T J D)) (va_Qi (fun (r : Int32) (u : (Nat → Nat → Int32) × (Nat → Nat → Int32)) => (r_st K o ad I A u.1 u.2 (p_rebuild (Z, M)).1 (p_rebuild (Z, M)).2 (t_rebuild Z M)) ∧ r = (if t_rebuild Z M = 0 then nI (o_lost Z M) else 0)) (fun u : (Nat → Nat → Int32) × (Nat → Nat → Int32) => m_B G K (u.1) R F (u.2) N L T J D) (m_A G)) 0 0 (m_A G) := by
  refine Met.ofW (cc := cX9_rebuild) (maxL := 5) (ret := (some .int)) (by decide) rfl ?_
  intro p e s m args below meth c s₁ B hml hv
  obtain ⟨rfl, hB⟩ := hv
  have hx := B.exec
  have hb := B.bytes
  have hr := B.returns
  have hts := atoms_spec (ws := wsX9_rebuild) B.pre
  have hown : s.vm.findClass RX9 = some m.cls := findClass_of_methodNamed B.named
  have hlocks := B.notSynchronized
  have hw := m_wo_in hB
  have hl := lv_entry ([.ref o]) (n := 5) (Nat.le_of_ble_eq_true rfl)
  rw [lg_entry_eq]
  generalize (lg_sl ([.ref o]) ++ List.replicate (5 - (lg_sl ([.ref o])).length) Slot.unset).toArray = ls at hl ⊢
  have hl : lv_has ls 5 [(0, .ref o)] := hl
  have his := hz
  refine lv_aload_n hx hb dX9_rebuild_0 rfl (lv_at hl 0 rfl) ?_
  refine m_ci (va_runV (As := []) (rest := []) ⟨hx, hb, hml, hown, hts⟩ (c_X9_lost l (Z := Z) (M := M) (th := th)  hro (r_st_self his) hnf hn) (cwV 0 hts gX9_rebuild_X9_lost rfl rfl rfl (by decide +kernel) ⟨Nat.le_of_ble_eq_true rfl, Nat.le_of_ble_eq_true rfl⟩) ⟨m_blind m_B_calling, m_recv hw (m_ent_10 hro.1) rfl, fun U hU hW => ⟨rfl, m_wo_call hw hU hW⟩⟩ rfl rfl hl.1 rfl (lv_room (Nat.le_of_ble_eq_true rfl)) dX9_rebuild_1 ⟨Nat.le_of_ble_eq_true rfl, Nat.le_of_ble_eq_true rfl⟩) hw (fun r_1 u_1 H locs hp_1 hw => ?_)
  obtain rfl : r_1 = (nI (o_lost Z M)) := hp_1
  refine lv_istore_n (lv' := [(1, .int (nI (o_lost Z M))), (0, .ref o)]) hx hb dX9_rebuild_4 rfl hl (by decide) rfl (fun ls hl => ?_)
  refine m_joinH (σ := Int32) 28 (fun b H locs => b = (o_free Z M) ∧ m_wo G K I R F A N L T J D s H locs) (fun b => .int b :: []) ?_ (fun J_1 => ?_)
  · rintro _ H locs ⟨rfl, hw⟩
    refine lv_istore_n (lv' := [(2, .int (o_free Z M)), (1, .int (nI (o_lost Z M))), (0, .ref o)]) hx hb dX9_rebuild_28 rfl hl (by decide) rfl (fun ls hl => ?_)
    refine m_joinH (σ := Int32) 49 (fun b H locs => b = (o_more Z M) ∧ m_wo G K I R F A N L T J D s H locs) (fun b => .int b :: []) ?_ (fun J_2 => ?_)
    · rintro _ H locs ⟨rfl, hw⟩
      refine lv_istore_n (lv' := [(3, .int (o_more Z M)), (2, .int (o_free Z M)), (1, .int (nI (o_lost Z M))), (0, .ref o)]) hx hb dX9_rebuild_49 rfl hl (by decide) rfl (fun ls hl => ?_)
      refine lv_aload_n hx hb dX9_rebuild_50 rfl (lv_at hl 3 rfl) ?_
      refine g_10_3 hx hb hts (by decide +kernel) hown hw hro.1 (hts (.fieldLink RX9 112 "PirateindexModel" "segments" "I") (by decide +kernel)) dX9_rebuild_51 ?_
      rw [show I 1003 o = Z 3 from his.1 3 (by decide)]
      refine lv_iload_n hx hb dX9_rebuild_54 rfl (lv_at hl 0 rfl) ?_
      refine lv_iadd hx hb dX9_rebuild_55 ?_
      refine lv_bipush (v := 20) hx hb dX9_rebuild_56 (by decide) ?_
      refine lv_icmp_le (tgt := 73) hx hb dX9_rebuild_58 (by decide) (fun c_58 => ?_) (fun c_58 => ?_)
      · skip
        have h58 : ¬ 20 < Z 3 + o_more Z M := Int32.not_lt.mpr c_58
        refine lv_aload_n hx hb dX9_rebuild_73 rfl (lv_at hl 3 rfl) ?_
        refine lv_aload_n hx hb dX9_rebuild_74 rfl (lv_at hl 3 rfl) ?_
        refine g_10_3 hx hb hts (by decide +kernel) hown hw hro.1 (hts (.fieldLink RX9 112 "PirateindexModel" "segments" "I") (by decide +kernel)) dX9_rebuild_75 ?_
        rw [show I 1003 o = Z 3 from his.1 3 (by decide)]
        refine lv_iload_n hx hb dX9_rebuild_78 rfl (lv_at hl 0 rfl) ?_
        refine lv_iadd hx hb dX9_rebuild_79 ?_
        refine lv_bipush (v := 20) hx hb dX9_rebuild_80 (by decide) ?_
        refine lv_icmp_gt (tgt := 89) hx hb dX9_rebuild_82 (by decide) (fun c_82 => ?_) (fun c_82 => ?_)
        · skip
          exact absurd c_82 (by first | exact h58 | exact fun h => h h58)
        · skip
          refine lv_iconst (v := 1) hx hb dX9_rebuild_85 (by decide) ?_
          refine lv_goto (tgt := 90) hx hb dX9_rebuild_86 (by decide) ?_
          refine lv_iconst (v := 1) hx hb dX9_rebuild_90 (by decide) ?_
          refine m_ci (va_runV (As := [.int 1, .int 1]) (rest := []) ⟨hx, hb, hml, hown, hts⟩ (c_X9_no l (Z := Z) (M := M) (th := th) true 1 hro (r_st_self his) ) (cwV 2 hts gX9_rebuild_X9_no rfl rfl rfl (by decide +kernel) ⟨Nat.le_of_ble_eq_true rfl, Nat.le_of_ble_eq_true rfl⟩) ⟨m_blind m_B_calling, m_recv hw (m_ent_10 hro.1) rfl, fun U hU hW => ⟨rfl, m_wo_call hw hU hW⟩⟩ rfl rfl hl.1 rfl (lv_room (Nat.le_of_ble_eq_true rfl)) dX9_rebuild_91 ⟨Nat.le_of_ble_eq_true rfl, Nat.le_of_ble_eq_true rfl⟩) hw (fun r_91 u_91 H locs hp_91 hw => ?_)
          obtain ⟨I_3, A_4⟩ := u_91
          have hw : m_wo G K I_3 R F A_4 N L T J D s H locs := hw
          dsimp only at hp_91
          have his := r_st_tr his hp_91.1
          obtain rfl : r_91 = (b2i (!true)) := hp_91.2
          refine lv_if_eq (tgt := 99) hx hb dX9_rebuild_94 (by decide) (fun c_94 => ?_) (fun c_94 => absurd (by decide) c_94)
          have ht0 : t_rebuild Z M = 0 := by unfold t_rebuild; rw [if_neg h58]
          refine lv_iconst (v := 0) hx hb dX9_rebuild_99 (by decide) ?_
          refine lv_istore (lv' := [(4, .int 0), (3, .int (o_more Z M)), (2, .int (o_free Z M)), (1, .int (nI (o_lost Z M))), (0, .ref o)]) hx hb dX9_rebuild_100 hl (by decide) rfl (fun ls hl => ?_)
          refine m_loop (σ := Nat × (Nat → Nat → Int32) × (Nat → Nat → Int32)) (fun a => nf - (a.1)) (fun a H locs ls => ((a.1) ≤ nf ∧ r_st K o ad I A (a.2.1) (a.2.2) (o_reb (Z, M) (a.1)).1 (o_reb (Z, M) (a.1)).2 0) ∧ m_wo G K (a.2.1) R F (a.2.2) N L T J D s H locs ∧ lv_has ls 5 [(0, .ref o), (1, .int (nI (o_lost Z M))), (4, .int (nI (a.1)))]) ?_ (0, I_3, A_4) ⟨⟨Nat.zero_le _, his⟩, hw, lv_sub hl [4, 3, 0] rfl⟩
          rintro ⟨i, Ii, Aa⟩ H locs ls ⟨hinv, hw, hl⟩ ih
          dsimp only at hinv hw hl
          obtain ⟨hi0, his⟩ := hinv
          obtain ⟨Si, eSi⟩ : ∃ z, z = o_reb (Z, M) i := ⟨_, rfl⟩
          rw [← eSi] at his
          have hz1 : Si.1 1 = nI nf := by rw [eSi, o_reb_1]; exact hnf
          obtain ⟨k, hk, hz3⟩ := hsegs ht0 i hi0
          rw [← eSi] at hz3
          refine lv_iload hx hb dX9_rebuild_102 (lv_at hl 2 rfl) ?_
          refine lv_aload_n hx hb dX9_rebuild_104 rfl (lv_at hl 0 rfl) ?_
          refine g_10_1 hx hb hts (by decide +kernel) hown hw hro.1 (hts (.fieldLink RX9 118 "PirateindexModel" "finds" "I") (by decide +kernel)) dX9_rebuild_105 ?_
          rw [show Ii 1001 o = Si.1 1 from his.1 1 (by decide)]
          rw [hz1]
          refine lv_icmp_ge (tgt := 144) hx hb dX9_rebuild_108 (by decide) (fun c_108 => ?_) (fun c_108 => ?_)
          · skip
            rw [nI_leI (by omega) (by omega)] at c_108
            have hi : i = nf := by omega
            subst hi
            refine lv_iload_n hx hb dX9_rebuild_144 rfl (lv_at hl 1 rfl) ?_
            exact W.iret (v := nI (o_lost Z M)) hx hb hr (fun t ht hW => ⟨⟨nI (o_lost Z M), (Ii, Aa), rfl, (by rw [ht0, if_pos rfl]; exact ⟨by have e9 : p_rebuild (Z, M) = Si := (by unfold p_rebuild; rw [if_neg h58, zn_of hnf (by omega), ← eSi]); rw [e9]; exact his, rfl⟩), m_wo_out hw ht hW.alike⟩, m_wo_F hw ht⟩) (m_wo_L hw) dX9_rebuild_145
          · skip
            rw [nI_leI (by omega) (by omega)] at c_108
            have hi : i < nf := by omega
            refine lv_aload_n hx hb dX9_rebuild_111 rfl (lv_at hl 0 rfl) ?_
            refine g_10_14 (r := some (ad 14)) hx hb hts (by decide +kernel) hown hw hro.1 (hts (.fieldLink RX9 32 "PirateindexModel" "within" "[I") (by decide +kernel)) (hro.2.1 14 rfl).1 dX9_rebuild_112 ?_
            refine lv_iload hx hb dX9_rebuild_115 (lv_at hl 2 rfl) ?_
            refine m_iaload_20 hx hb hw (hro.2.1 14 rfl).2.1 (r_in hro 14 rfl (n := 120) rfl (by omega)) dX9_rebuild_117 ?_
            rw [show Aa (ad 14) = Si.2 14 from his.2.1 14 rfl]
            rw [nI_clamp (show i < 2 ^ 31 by omega)]
            refine lv_iconst (v := (-1)) hx hb dX9_rebuild_118 (by decide) ?_
            refine lv_icmp_ne (tgt := 138) hx hb dX9_rebuild_119 (by decide) (fun c_119 => ?_) (fun c_119 => ?_)
            · skip
              have hstep : o_reb (Z, M) (i + 1) = Si := by simp only [o_reb]; rw [← eSi, if_neg c_119]
              refine lv_iinc (v := nI (i + 1)) (lv' := [(4, .int (nI (i + 1))), (0, .ref o), (1, .int (nI (o_lost Z M)))]) hx hb dX9_rebuild_138 hl (k := 2) rfl (nI_1 _) (by decide) rfl (fun ls hl => ?_)
              refine lv_goto (tgt := 102) hx hb dX9_rebuild_141 (by decide) ?_
              exact ih (i + 1, Ii, Aa) _ _ _ (by dsimp only; omega) ⟨⟨by omega, by rw [hstep]; exact his⟩, hw, lv_sub hl [1, 2, 0] rfl⟩
            · skip
              refine lv_aload_n hx hb dX9_rebuild_122 rfl (lv_at hl 0 rfl) ?_
              refine g_10_16 (r := some (ad 16)) hx hb hts (by decide +kernel) hown hw hro.1 (hts (.fieldLink RX9 38 "PirateindexModel" "struck" "[Z") (by decide +kernel)) (hro.2.1 16 rfl).1 dX9_rebuild_123 ?_
              refine lv_iload hx hb dX9_rebuild_126 (lv_at hl 2 rfl) ?_
              refine m_baload_30 hx hb hw (hro.2.1 16 rfl).2.1 (r_in hro 16 rfl (n := 120) rfl (by omega)) dX9_rebuild_128 ?_
              rw [show Aa (ad 16) = Si.2 16 from his.2.1 16 rfl]
              rw [nI_clamp (show i < 2 ^ 31 by omega)]
              refine lv_if_ne (tgt := 138) hx hb dX9_rebuild_129 (by decide) (fun c_129 => ?_) (fun c_129 => ?_)
              · skip
                have hstep : o_reb (Z, M) (i + 1) = Si := by simp only [o_reb]; rw [← eSi, if_pos c_119, if_neg c_129]
                refine lv_iinc (v := nI (i + 1)) (lv' := [(4, .int (nI (i + 1))), (0, .ref o), (1, .int (nI (o_lost Z M)))]) hx hb dX9_rebuild_138 hl (k := 2) rfl (nI_1 _) (by decide) rfl (fun ls hl => ?_)
                refine lv_goto (tgt := 102) hx hb dX9_rebuild_141 (by decide) ?_
                exact ih (i + 1, Ii, Aa) _ _ _ (by dsimp only; omega) ⟨⟨by omega, by rw [hstep]; exact his⟩, hw, lv_sub hl [1, 2, 0] rfl⟩
              · skip
                have hstep0 : o_reb (Z, M) (i + 1) = o_puts Si i := by simp only [o_reb]; rw [← eSi, if_pos c_119, if_pos c_129]
                refine lv_aload_n hx hb dX9_rebuild_132 rfl (lv_at hl 0 rfl) ?_
                refine lv_iload hx hb dX9_rebuild_133 (lv_at hl 2 rfl) ?_
                refine m_cv (va_runV (As := [.int (nI i)]) (rest := []) ⟨hx, hb, hml, hown, hts⟩ (c_X9_puts l (Z := Si.1) (M := Si.2) (th := 0) i hro (r_st_self his) (by omega) hz1 hn hz3 (by omega)) (cwV 1 hts gX9_rebuild_X9_puts rfl rfl rfl (by decide +kernel) ⟨Nat.le_of_ble_eq_true rfl, Nat.le_of_ble_eq_true rfl⟩) ⟨m_blind m_B_calling, m_recv hw (m_ent_10 hro.1) rfl, fun U hU hW => ⟨rfl, m_wo_call hw hU hW⟩⟩ rfl rfl hl.1 rfl (lv_room (Nat.le_of_ble_eq_true rfl)) dX9_rebuild_135 ⟨Nat.le_of_ble_eq_true rfl, Nat.le_of_ble_eq_true rfl⟩) hw (fun u_135 H locs hp_135 hw => ?_)
                obtain ⟨I_5, A_6⟩ := u_135
                have hw : m_wo G K I_5 R F A_6 N L T J D s H locs := hw
                dsimp only at hp_135
                have his := r_st_tr his hp_135.1
                obtain ⟨Z_7, eZ_7⟩ : ∃ z : Nat → Int32, z = (o_puts (Si.1, Si.2) i).1 := ⟨_, rfl⟩
                rw [← eZ_7] at his
                obtain ⟨M_8, eM_8⟩ : ∃ z : Nat → Nat → Int32, z = (o_puts (Si.1, Si.2) i).2 := ⟨_, rfl⟩
                rw [← eM_8] at his
                have hstep : o_reb (Z, M) (i + 1) = (Z_7, M_8) := by rw [hstep0, eZ_7, eM_8]
                refine lv_iinc (v := nI (i + 1)) (lv' := [(4, .int (nI (i + 1))), (0, .ref o), (1, .int (nI (o_lost Z M)))]) hx hb dX9_rebuild_138 hl (k := 2) rfl (nI_1 _) (by decide) rfl (fun ls hl => ?_)
                refine lv_goto (tgt := 102) hx hb dX9_rebuild_141 (by decide) ?_
                exact ih (i + 1, I_5, A_6) _ _ _ (by dsimp only; omega) ⟨⟨by omega, by rw [hstep]; exact his⟩, hw, lv_sub hl [1, 2, 0] rfl⟩
      · skip
        have h58 : 20 < Z 3 + o_more Z M := Int32.not_le.mp c_58
        refine lv_aload_n hx hb dX9_rebuild_61 rfl (lv_at hl 3 rfl) ?_
        refine lv_iconst (v := 0) hx hb dX9_rebuild_62 (by decide) ?_
        refine p_10_31 hx hb hts (by decide +kernel) hown hw hro.1 (hts (.fieldLink RX9 151 "PirateindexModel" "causes" "I") (by decide +kernel)) dX9_rebuild_63 (fun H locs hw => ?_)
        obtain ⟨I_9, eI_9⟩ : ∃ z, z = m_up2 I 1031 o 0 := ⟨_, rfl⟩
        rw [← eI_9] at hw
        obtain ⟨Z_10, eZ_10⟩ : ∃ z, z = z1 Z 31 0 := ⟨_, rfl⟩
        have his : r_st K o ad I A I_9 A Z_10 M th := by rw [eI_9, eZ_10]; exact r_st_z his 31 0 hro.1 (by decide)
        refine lv_aload_n hx hb dX9_rebuild_66 rfl (lv_at hl 3 rfl) ?_
        refine lv_iconst (v := 1) hx hb dX9_rebuild_67 (by decide) ?_
        refine lv_bipush (v := 102) hx hb dX9_rebuild_68 (by decide) ?_
        refine m_cv (va_runV (As := [.int 1, .int 102]) (rest := []) ⟨hx, hb, hml, hown, hts⟩ (c_X9_blames l (Z := Z_10) (M := M) (th := th) true 102 hro (r_st_self his) (by decide) (fun _ => ⟨0, by decide, by rw [eZ_10]; exact z1_s _ _ _⟩)) (cwV 2 hts gX9_rebuild_X9_blames rfl rfl rfl (by decide +kernel) ⟨Nat.le_of_ble_eq_true rfl, Nat.le_of_ble_eq_true rfl⟩) ⟨m_blind m_B_calling, m_recv hw (m_ent_10 hro.1) rfl, fun U hU hW => ⟨rfl, m_wo_call hw hU hW⟩⟩ rfl rfl hl.1 rfl (lv_room (Nat.le_of_ble_eq_true rfl)) dX9_rebuild_70 ⟨Nat.le_of_ble_eq_true rfl, Nat.le_of_ble_eq_true rfl⟩) hw (fun u_70 H locs hp_70 hw => ?_)
        obtain ⟨I_11, A_12⟩ := u_70
        have hw : m_wo G K I_11 R F A_12 N L T J D s H locs := hw
        dsimp only at hp_70
        have his := r_st_tr his hp_70.1
        obtain ⟨Z_13, eZ_13⟩ : ∃ z : Nat → Int32, z = (o_blames (Z_10, M) true 102).1 := ⟨_, rfl⟩
        rw [← eZ_13] at his
        obtain ⟨M_14, eM_14⟩ : ∃ z : Nat → Nat → Int32, z = (o_blames (Z_10, M) true 102).2 := ⟨_, rfl⟩
        rw [← eM_14] at his
        refine lv_aload_n hx hb dX9_rebuild_73 rfl (lv_at hl 3 rfl) ?_
        refine lv_aload_n hx hb dX9_rebuild_74 rfl (lv_at hl 3 rfl) ?_
        refine g_10_3 hx hb hts (by decide +kernel) hown hw hro.1 (hts (.fieldLink RX9 112 "PirateindexModel" "segments" "I") (by decide +kernel)) dX9_rebuild_75 ?_
        rw [show I_11 1003 o = Z_13 3 from his.1 3 (by decide)]
        refine lv_iload_n hx hb dX9_rebuild_78 rfl (lv_at hl 0 rfl) ?_
        refine lv_iadd hx hb dX9_rebuild_79 ?_
        refine lv_bipush (v := 20) hx hb dX9_rebuild_80 (by decide) ?_
        refine lv_icmp_gt (tgt := 89) hx hb dX9_rebuild_82 (by decide) (fun c_82 => ?_) (fun c_82 => ?_)
        · skip
          have hz3 : Z_13 3 = Z 3 := by simp [eZ_10, eZ_13, o_blames, z1]
          rw [hz3] at c_82
          refine lv_iconst (v := 0) hx hb dX9_rebuild_89 (by decide) ?_
          refine lv_iconst (v := 1) hx hb dX9_rebuild_90 (by decide) ?_
          refine m_ci (va_runV (As := [.int 0, .int 1]) (rest := []) ⟨hx, hb, hml, hown, hts⟩ (c_X9_no l (Z := Z_13) (M := M_14) (th := th) false 1 hro (r_st_self his) ) (cwV 2 hts gX9_rebuild_X9_no rfl rfl rfl (by decide +kernel) ⟨Nat.le_of_ble_eq_true rfl, Nat.le_of_ble_eq_true rfl⟩) ⟨m_blind m_B_calling, m_recv hw (m_ent_10 hro.1) rfl, fun U hU hW => ⟨rfl, m_wo_call hw hU hW⟩⟩ rfl rfl hl.1 rfl (lv_room (Nat.le_of_ble_eq_true rfl)) dX9_rebuild_91 ⟨Nat.le_of_ble_eq_true rfl, Nat.le_of_ble_eq_true rfl⟩) hw (fun r_91 u_91 H locs hp_91 hw => ?_)
          obtain ⟨I_15, A_16⟩ := u_91
          have hw : m_wo G K I_15 R F A_16 N L T J D s H locs := hw
          dsimp only at hp_91
          have his := r_st_tr his hp_91.1
          obtain rfl : r_91 = (b2i (!false)) := hp_91.2
          refine lv_if_eq (tgt := 99) hx hb dX9_rebuild_94 (by decide) (fun c_94 => absurd c_94 (by decide)) (fun c_94 => ?_)
          refine lv_iconst (v := 0) hx hb dX9_rebuild_97 (by decide) ?_
          exact W.iret (v := 0) hx hb hr (fun t ht hW => ⟨⟨0, (I_15, A_16), rfl, (by have ht1 : t_rebuild Z M = 1 := (by unfold t_rebuild; rw [if_pos h58]); rw [ht1, if_neg (by decide)]; exact ⟨by have e9 : p_rebuild (Z, M) = (Z_13, M_14) := (by unfold p_rebuild; rw [if_pos h58]; simp only [eZ_10, eZ_13, eM_14]); rw [e9]; exact his, rfl⟩), m_wo_out hw ht hW.alike⟩, m_wo_F hw ht⟩) (m_wo_L hw) dX9_rebuild_98
        · skip
          have hz3 : Z_13 3 = Z 3 := by simp [eZ_10, eZ_13, o_blames, z1]
          rw [hz3] at c_82
          exact absurd h58 c_82
    · skip
      refine lv_iload_n hx hb dX9_rebuild_29 rfl (lv_at hl 1 rfl) ?_
      refine lv_iload_n hx hb dX9_rebuild_30 rfl (lv_at hl 0 rfl) ?_
      refine lv_icmp_le (tgt := 48) hx hb dX9_rebuild_31 (by decide) (fun c_31 => ?_) (fun c_31 => ?_)
      · skip
        refine lv_iconst (v := 0) hx hb dX9_rebuild_48 (by decide) ?_
        exact J_2 0 _ _ ⟨(by simp [o_more, c_31]), hw⟩
      · skip
        refine lv_iload_n hx hb dX9_rebuild_34 rfl (lv_at hl 1 rfl) ?_
        refine lv_iload_n hx hb dX9_rebuild_35 rfl (lv_at hl 0 rfl) ?_
        refine lv_isub hx hb dX9_rebuild_36 ?_
        refine lv_bipush (v := 10) hx hb dX9_rebuild_37 (by decide) ?_
        refine lv_iadd hx hb dX9_rebuild_39 ?_
        refine lv_iconst (v := 1) hx hb dX9_rebuild_40 (by decide) ?_
        refine lv_isub hx hb dX9_rebuild_41 ?_
        refine lv_bipush (v := 10) hx hb dX9_rebuild_42 (by decide) ?_
        refine lv_idiv hx hb dX9_rebuild_44 (by decide) ?_
        refine lv_goto (tgt := 49) hx hb dX9_rebuild_45 (by decide) ?_
        exact J_2 (((((nI (o_lost Z M)) - (o_free Z M)) + 10) - 1) / 10) _ _ ⟨(by simp [o_more, c_31]), hw⟩
  · skip
    refine lv_aload_n hx hb dX9_rebuild_5 rfl (lv_at hl 1 rfl) ?_
    refine g_10_5 hx hb hts (by decide +kernel) hown hw hro.1 (hts (.fieldLink RX9 91 "PirateindexModel" "open" "I") (by decide +kernel)) dX9_rebuild_6 ?_
    rw [show I 1005 o = Z 5 from his.1 5 (by decide)]
    refine lv_iconst (v := (-1)) hx hb dX9_rebuild_9 (by decide) ?_
    refine lv_icmp_ne (tgt := 17) hx hb dX9_rebuild_10 (by decide) (fun c_10 => ?_) (fun c_10 => ?_)
    · skip
      refine lv_bipush (v := 10) hx hb dX9_rebuild_17 (by decide) ?_
      refine lv_aload_n hx hb dX9_rebuild_19 rfl (lv_at hl 1 rfl) ?_
      refine lv_aload_n hx hb dX9_rebuild_20 rfl (lv_at hl 1 rfl) ?_
      refine g_10_5 hx hb hts (by decide +kernel) hown hw hro.1 (hts (.fieldLink RX9 91 "PirateindexModel" "open" "I") (by decide +kernel)) dX9_rebuild_21 ?_
      rw [show I 1005 o = Z 5 from his.1 5 (by decide)]
      refine m_ci (va_runV (As := [.int (Z 5)]) (rest := [.int 10]) ⟨hx, hb, hml, hown, hts⟩ (c_X9_sizeOf l (Z := Z) (M := M) (th := th) (Z 5) hro (r_st_self his) hnf hn) (cwV 1 hts gX9_rebuild_X9_sizeOf rfl rfl rfl (by decide +kernel) ⟨Nat.le_of_ble_eq_true rfl, Nat.le_of_ble_eq_true rfl⟩) ⟨m_blind m_B_calling, m_recv hw (m_ent_10 hro.1) rfl, fun U hU hW => ⟨rfl, m_wo_call hw hU hW⟩⟩ rfl rfl hl.1 rfl (lv_room (Nat.le_of_ble_eq_true rfl)) dX9_rebuild_24 ⟨Nat.le_of_ble_eq_true rfl, Nat.le_of_ble_eq_true rfl⟩) hw (fun r_24 u_24 H locs hp_24 hw => ?_)
      obtain rfl : r_24 = (nI (o_size Z M (Z 5))) := hp_24
      refine lv_isub hx hb dX9_rebuild_27 ?_
      exact J_1 (10 - (nI (o_size Z M (Z 5)))) _ _ ⟨(by simp [o_free, c_10]), hw⟩
    · skip
      refine lv_iconst (v := 0) hx hb dX9_rebuild_13 (by decide) ?_
      refine lv_goto (tgt := 28) hx hb dX9_rebuild_14 (by decide) ?_
      exact J_1 0 _ _ ⟨(by simp [o_free, c_10]), hw⟩

