set_option maxHeartbeats 400000 in
set_option maxRecDepth 100000 in
theorem c_X9_posting (l : Launch) {G : mG} {K : Nat → Nat} {I : Nat → Nat → Int32} {R : Nat → Nat → Option Nat} {F : Nat → UInt32} {A : Nat → Nat → Int32} {N : Nat → Nat} {L : Nat → List Nat} {T : Nat → List Int32} {J : Nat → Nat → Int64} {D : Nat → Nat → UInt64} {o : Nat} {ad : Nat → Nat} {Z : Nat → Int32} {M : Nat → Nat → Int32} {th : Int32} {nf : Nat} (v ix : Int32) (hro : r_ok K R N o ad) (hz : r_st K o ad I A I A Z M th) (hnf : Z 1 = nI nf) (hn : nf ≤ 120) : Met l yX9_posting wsX9_posting ({ frames := 1, cells := 0, slots := 0, locals := 30 } : Room) (va_Pc [.ref o, .int v, .int ix] (m_B G K I R F A N L T J D)) (va_Qi (fun (r : Int32) (u : (Nat → Nat → Int32) × (Nat → Nat → Int32)) => (r_st K o ad I A u.1 u.2 Z M (t_posting Z M v ix)) ∧ (t_posting Z M v ix = 0 → r = o_found M nf v ix nf)) (fun u : (Nat → Nat → Int32) × (Nat → Nat → Int32) => m_B G K (u.1) R F (u.2) N L T J D) (m_A G)) 0 0 (m_A G) := by
  refine Met.ofW (cc := cX9_posting) (maxL := 7) (ret := (some .int)) (by decide) rfl ?_
  intro p e s m args below meth c s₁ B hml hv
  obtain ⟨rfl, hB⟩ := hv
  have hx := B.exec
  have hb := B.bytes
  have hr := B.returns
  have hts := atoms_spec (ws := wsX9_posting) B.pre
  have hown : s.vm.findClass RX9 = some m.cls := findClass_of_methodNamed B.named
  have hlocks := B.notSynchronized
  have hw := m_wo_in hB
  have hl := lv_entry ([.ref o, .int v, .int ix]) (n := 7) (Nat.le_of_ble_eq_true rfl)
  rw [lg_entry_eq]
  generalize (lg_sl ([.ref o, .int v, .int ix]) ++ List.replicate (7 - (lg_sl ([.ref o, .int v, .int ix])).length) Slot.unset).toArray = ls at hl ⊢
  have hl : lv_has ls 7 [(0, .ref o), (1, .int v), (2, .int ix)] := hl
  have his := hz
  refine lv_aload_n hx hb dX9_posting_0 rfl (lv_at hl 0 rfl) ?_
  refine lv_iload_n hx hb dX9_posting_1 rfl (lv_at hl 1 rfl) ?_
  refine lv_iconst (v := 0) hx hb dX9_posting_2 (by decide) ?_
  refine lv_bipush (v := 30) hx hb dX9_posting_3 (by decide) ?_
  refine m_ci (va_runS (As := [.int v, .int 0, .int 30]) (rest := [.ref o]) ⟨hx, hb, hml, hown, hts⟩ (c_X9_isIn l v 0 30) (va_cwS 3 hts gX9_posting_X9_isIn rfl rfl rfl (by decide +kernel) ⟨Nat.le_of_ble_eq_true rfl, Nat.le_of_ble_eq_true rfl⟩) ⟨m_blind m_B_calling, fun U hU hW => ⟨rfl, m_wo_call hw hU hW⟩⟩ rfl rfl hl.1 rfl (lv_room (Nat.le_of_ble_eq_true rfl)) dX9_posting_5 ⟨Nat.le_of_ble_eq_true rfl, Nat.le_of_ble_eq_true rfl⟩) hw (fun r_5 u_5 H locs hp_5 hw => ?_)
  obtain rfl : r_5 = (b2i (o_rng v 0 30)) := hp_5
  refine lv_iconst (v := 1) hx hb dX9_posting_8 (by decide) ?_
  refine m_ci (va_runV (As := [.int (b2i (o_rng v 0 30)), .int 1]) (rest := []) ⟨hx, hb, hml, hown, hts⟩ (c_X9_no l (Z := Z) (M := M) (th := th) (o_rng v 0 30) 1 hro (r_st_self his) ) (cwV 2 hts gX9_posting_X9_no rfl rfl rfl (by decide +kernel) ⟨Nat.le_of_ble_eq_true rfl, Nat.le_of_ble_eq_true rfl⟩) ⟨m_blind m_B_calling, m_recv hw (m_ent_10 hro.1) rfl, fun U hU hW => ⟨rfl, m_wo_call hw hU hW⟩⟩ rfl rfl hl.1 rfl (lv_room (Nat.le_of_ble_eq_true rfl)) dX9_posting_9 ⟨Nat.le_of_ble_eq_true rfl, Nat.le_of_ble_eq_true rfl⟩) hw (fun r_9 u_9 H locs hp_9 hw => ?_)
  obtain ⟨I_1, A_2⟩ := u_9
  have hw : m_wo G K I_1 R F A_2 N L T J D s H locs := hw
  dsimp only at hp_9
  have his := r_st_tr his hp_9.1
  obtain rfl : r_9 = (b2i (!(o_rng v 0 30))) := hp_9.2
  refine lv_if_eq (tgt := 17) hx hb dX9_posting_12 (by decide) (fun c_12 => ?_) (fun c_12 => ?_)
  · skip
    have q_12 : (o_rng v 0 30) = true := by first | (have := (b2i_ne _).mp c_12; simpa using this) | (have := (b2i_eq _).mp c_12; simpa using this)
    refine lv_iconst (v := (-1)) hx hb dX9_posting_17 (by decide) ?_
    refine lv_istore_n (lv' := [(3, .int (-1)), (0, .ref o), (1, .int v), (2, .int ix)]) hx hb dX9_posting_18 rfl hl (by decide) rfl (fun ls hl => ?_)
    refine lv_iconst (v := 0) hx hb dX9_posting_19 (by decide) ?_
    refine lv_istore (lv' := [(4, .int 0), (3, .int (-1)), (0, .ref o), (1, .int v), (2, .int ix)]) hx hb dX9_posting_20 hl (by decide) rfl (fun ls hl => ?_)
    refine m_loop (σ := Nat × Int32) (fun a => nf - (a.1)) (fun a H locs ls => ((a.1) ≤ nf ∧ (a.2) = o_found M nf v ix (a.1)) ∧ m_wo G K I_1 R F A_2 N L T J D s H locs ∧ lv_has ls 7 [(0, .ref o), (1, .int v), (2, .int ix), (3, .int (a.2)), (4, .int (nI (a.1)))]) ?_ (0, (-1)) ⟨⟨Nat.zero_le _, rfl⟩, hw, lv_sub hl [2, 3, 4, 1, 0] rfl⟩
    rintro ⟨i, x⟩ H locs ls ⟨hinv, hw, hl⟩ ih
    dsimp only at hinv hw hl
    have hinv1 := hinv
    have ih1 := ih
    refine lv_iload hx hb dX9_posting_22 (lv_at hl 4 rfl) ?_
    refine lv_aload_n hx hb dX9_posting_24 rfl (lv_at hl 0 rfl) ?_
    refine g_10_1 hx hb hts (by decide +kernel) hown hw hro.1 (hts (.fieldLink RX9 118 "PirateindexModel" "finds" "I") (by decide +kernel)) dX9_posting_25 ?_
    rw [show I_1 1001 o = Z 1 from his.1 1 (by decide)]
    rw [hnf]
    refine lv_icmp_ge (tgt := 115) hx hb dX9_posting_28 (by decide) (fun c_28 => ?_) (fun c_28 => ?_)
    · skip
      rw [nI_leI (by omega) (by omega)] at c_28
      have hi : i = nf := by omega
      subst hi
      refine lv_aload_n hx hb dX9_posting_115 rfl (lv_at hl 0 rfl) ?_
      refine lv_iload_n hx hb dX9_posting_116 rfl (lv_at hl 3 rfl) ?_
      refine lv_iconst (v := (-1)) hx hb dX9_posting_117 (by decide) ?_
      refine lv_icmp_eq (tgt := 125) hx hb dX9_posting_118 (by decide) (fun c_118 => ?_) (fun c_118 => ?_)
      · skip
        have h118 : o_found M i v ix i = -1 := by rw [← hinv1.2]; exact c_118
        refine lv_iconst (v := 0) hx hb dX9_posting_125 (by decide) ?_
        refine lv_iconst (v := 2) hx hb dX9_posting_126 (by decide) ?_
        refine m_ci (va_runV (As := [.int 0, .int 2]) (rest := []) ⟨hx, hb, hml, hown, hts⟩ (c_X9_no l (Z := Z) (M := M) (th := (if (o_rng v 0 30) then 0 else 1)) false 2 hro (r_st_self his) ) (cwV 2 hts gX9_posting_X9_no rfl rfl rfl (by decide +kernel) ⟨Nat.le_of_ble_eq_true rfl, Nat.le_of_ble_eq_true rfl⟩) ⟨m_blind m_B_calling, m_recv hw (m_ent_10 hro.1) rfl, fun U hU hW => ⟨rfl, m_wo_call hw hU hW⟩⟩ rfl rfl hl.1 rfl (lv_room (Nat.le_of_ble_eq_true rfl)) dX9_posting_127 ⟨Nat.le_of_ble_eq_true rfl, Nat.le_of_ble_eq_true rfl⟩) hw (fun r_127 u_127 H locs hp_127 hw => ?_)
        obtain ⟨I_3, A_4⟩ := u_127
        have hw : m_wo G K I_3 R F A_4 N L T J D s H locs := hw
        dsimp only at hp_127
        have his := r_st_tr his hp_127.1
        obtain rfl : r_127 = (b2i (!false)) := hp_127.2
        refine lv_if_eq (tgt := 137) hx hb dX9_posting_130 (by decide) (fun c_130 => absurd c_130 (by decide)) (fun c_130 => ?_)
        refine lv_iconst (v := 0) hx hb dX9_posting_133 (by decide) ?_
        refine lv_goto (tgt := 138) hx hb dX9_posting_134 (by decide) ?_
        exact W.iret (v := 0) hx hb hr (fun t ht hW => ⟨⟨0, (I_3, A_4), rfl, (by have ht : t_posting Z M v ix = 2 := (by simp [t_posting, q_12, h118, show zn Z 1 = i from by unfold zn; rw [hnf]; exact nI_clamp (by omega)]); rw [ht]; exact ⟨by first | exact his | simpa [q_12, h118] using his, fun h => absurd h (by decide)⟩), m_wo_out hw ht hW.alike⟩, m_wo_F hw ht⟩) (m_wo_L hw) dX9_posting_138
      · skip
        have h118 : ¬ o_found M i v ix i = -1 := by rw [← hinv1.2]; exact c_118
        refine lv_iconst (v := 1) hx hb dX9_posting_121 (by decide) ?_
        refine lv_goto (tgt := 126) hx hb dX9_posting_122 (by decide) ?_
        refine lv_iconst (v := 2) hx hb dX9_posting_126 (by decide) ?_
        refine m_ci (va_runV (As := [.int 1, .int 2]) (rest := []) ⟨hx, hb, hml, hown, hts⟩ (c_X9_no l (Z := Z) (M := M) (th := (if (o_rng v 0 30) then 0 else 1)) true 2 hro (r_st_self his) ) (cwV 2 hts gX9_posting_X9_no rfl rfl rfl (by decide +kernel) ⟨Nat.le_of_ble_eq_true rfl, Nat.le_of_ble_eq_true rfl⟩) ⟨m_blind m_B_calling, m_recv hw (m_ent_10 hro.1) rfl, fun U hU hW => ⟨rfl, m_wo_call hw hU hW⟩⟩ rfl rfl hl.1 rfl (lv_room (Nat.le_of_ble_eq_true rfl)) dX9_posting_127 ⟨Nat.le_of_ble_eq_true rfl, Nat.le_of_ble_eq_true rfl⟩) hw (fun r_127 u_127 H locs hp_127 hw => ?_)
        obtain ⟨I_5, A_6⟩ := u_127
        have hw : m_wo G K I_5 R F A_6 N L T J D s H locs := hw
        dsimp only at hp_127
        have his := r_st_tr his hp_127.1
        obtain rfl : r_127 = (b2i (!true)) := hp_127.2
        refine lv_if_eq (tgt := 137) hx hb dX9_posting_130 (by decide) (fun c_130 => ?_) (fun c_130 => absurd (by decide) c_130)
        refine lv_iload_n hx hb dX9_posting_137 rfl (lv_at hl 3 rfl) ?_
        exact W.iret (v := x) hx hb hr (fun t ht hW => ⟨⟨x, (I_5, A_6), rfl, (by have ht : t_posting Z M v ix = 0 := (by simp [t_posting, q_12, h118, show zn Z 1 = i from by unfold zn; rw [hnf]; exact nI_clamp (by omega)]); rw [ht]; exact ⟨by first | exact his | simpa [q_12, h118] using his, fun _ => hinv1.2⟩), m_wo_out hw ht hW.alike⟩, m_wo_F hw ht⟩) (m_wo_L hw) dX9_posting_138
    · skip
      rw [nI_leI (by omega) (by omega)] at c_28
      have hi : i < nf := by omega
      refine lv_aload_n hx hb dX9_posting_31 rfl (lv_at hl 0 rfl) ?_
      refine lv_iload hx hb dX9_posting_32 (lv_at hl 4 rfl) ?_
      refine lv_iload_n hx hb dX9_posting_34 rfl (lv_at hl 1 rfl) ?_
      refine m_ci (va_runV (As := [.int (nI i), .int v]) (rest := []) ⟨hx, hb, hml, hown, hts⟩ (c_X9_isPosting l (Z := Z) (M := M) (th := (if (o_rng v 0 30) then 0 else 1)) i v hro (r_st_self his) (by omega)) (cwV 2 hts gX9_posting_X9_isPosting rfl rfl rfl (by decide +kernel) ⟨Nat.le_of_ble_eq_true rfl, Nat.le_of_ble_eq_true rfl⟩) ⟨m_blind m_B_calling, m_recv hw (m_ent_10 hro.1) rfl, fun U hU hW => ⟨rfl, m_wo_call hw hU hW⟩⟩ rfl rfl hl.1 rfl (lv_room (Nat.le_of_ble_eq_true rfl)) dX9_posting_35 ⟨Nat.le_of_ble_eq_true rfl, Nat.le_of_ble_eq_true rfl⟩) hw (fun r_35 u_35 H locs hp_35 hw => ?_)
      obtain rfl : r_35 = (b2i (o_pst M i v)) := hp_35
      refine lv_if_ne (tgt := 44) hx hb dX9_posting_38 (by decide) (fun c_38 => ?_) (fun c_38 => ?_)
      · skip
        have q_38 : o_pst M i v = true := (b2i_ne _).mp c_38
        refine lv_iconst (v := 0) hx hb dX9_posting_44 (by decide) ?_
        refine lv_istore (lv' := [(5, .int 0), (0, .ref o), (1, .int v), (2, .int ix), (3, .int x), (4, .int (nI i))]) hx hb dX9_posting_45 hl (by decide) rfl (fun ls hl => ?_)
        refine lv_iconst (v := 0) hx hb dX9_posting_47 (by decide) ?_
        refine lv_istore (lv' := [(6, .int 0), (5, .int 0), (0, .ref o), (1, .int v), (2, .int ix), (3, .int x), (4, .int (nI i))]) hx hb dX9_posting_48 hl (by decide) rfl (fun ls hl => ?_)
        refine m_loop (σ := Nat × Int32) (fun a => nf - (a.1)) (fun a H locs ls => ((a.1) ≤ nf ∧ (a.2) = nI (cntB (fun k => o_pst M k v && o_ahead M k i) (a.1))) ∧ m_wo G K I_1 R F A_2 N L T J D s H locs ∧ lv_has ls 7 [(0, .ref o), (1, .int v), (2, .int ix), (3, .int x), (4, .int (nI i)), (5, .int (a.2)), (6, .int (nI (a.1)))]) ?_ (0, 0) ⟨⟨Nat.zero_le _, rfl⟩, hw, lv_sub hl [2, 3, 4, 5, 6, 1, 0] rfl⟩
        rintro ⟨k2, y⟩ H locs ls ⟨hinv, hw, hl⟩ ih
        dsimp only at hinv hw hl
        have hinv2 := hinv
        refine lv_iload hx hb dX9_posting_50 (lv_at hl 6 rfl) ?_
        refine lv_aload_n hx hb dX9_posting_52 rfl (lv_at hl 0 rfl) ?_
        refine g_10_1 hx hb hts (by decide +kernel) hown hw hro.1 (hts (.fieldLink RX9 118 "PirateindexModel" "finds" "I") (by decide +kernel)) dX9_posting_53 ?_
        rw [show I_1 1001 o = Z 1 from his.1 1 (by decide)]
        rw [hnf]
        refine lv_icmp_ge (tgt := 96) hx hb dX9_posting_56 (by decide) (fun c_56 => ?_) (fun c_56 => ?_)
        · skip
          rw [nI_leI (by omega) (by omega)] at c_56
          have hk : k2 = nf := by omega
          subst hk
          refine lv_iload hx hb dX9_posting_96 (lv_at hl 5 rfl) ?_
          refine lv_iload_n hx hb dX9_posting_98 rfl (lv_at hl 2 rfl) ?_
          refine lv_icmp_ne (tgt := 107) hx hb dX9_posting_99 (by decide) (fun c_99 => ?_) (fun c_99 => ?_)
          · skip
            have hfin : x = o_found M k2 v ix (i + 1) := by rw [hinv2.2] at c_99; rw [hinv1.2]; simp [o_found, q_38, o_before, c_99]
            refine lv_iload_n hx hb dX9_posting_107 rfl (lv_at hl 3 rfl) ?_
            refine lv_istore_n (lv' := [(3, .int x), (0, .ref o), (1, .int v), (2, .int ix), (4, .int (nI i)), (5, .int y), (6, .int (nI k2))]) hx hb dX9_posting_108 rfl hl (by decide) rfl (fun ls hl => ?_)
            refine lv_iinc (v := nI (i + 1)) (lv' := [(4, .int (nI (i + 1))), (3, .int x), (0, .ref o), (1, .int v), (2, .int ix), (5, .int y), (6, .int (nI k2))]) hx hb dX9_posting_109 hl (k := 4) rfl (nI_1 _) (by decide) rfl (fun ls hl => ?_)
            refine lv_goto (tgt := 22) hx hb dX9_posting_112 (by decide) ?_
            exact ih1 (i + 1, x) _ _ _ (by dsimp only; omega) ⟨⟨by omega, hfin⟩, hw, lv_sub hl [2, 3, 4, 1, 0] rfl⟩
          · skip
            have hfin : nI i = o_found M k2 v ix (i + 1) := by rw [hinv2.2] at c_99; simp [o_found, q_38, o_before, c_99]
            refine lv_iload hx hb dX9_posting_102 (lv_at hl 4 rfl) ?_
            refine lv_goto (tgt := 108) hx hb dX9_posting_104 (by decide) ?_
            refine lv_istore_n (lv' := [(3, .int (nI i)), (0, .ref o), (1, .int v), (2, .int ix), (4, .int (nI i)), (5, .int y), (6, .int (nI k2))]) hx hb dX9_posting_108 rfl hl (by decide) rfl (fun ls hl => ?_)
            refine lv_iinc (v := nI (i + 1)) (lv' := [(4, .int (nI (i + 1))), (3, .int (nI i)), (0, .ref o), (1, .int v), (2, .int ix), (5, .int y), (6, .int (nI k2))]) hx hb dX9_posting_109 hl (k := 4) rfl (nI_1 _) (by decide) rfl (fun ls hl => ?_)
            refine lv_goto (tgt := 22) hx hb dX9_posting_112 (by decide) ?_
            exact ih1 (i + 1, nI i) _ _ _ (by dsimp only; omega) ⟨⟨by omega, hfin⟩, hw, lv_sub hl [2, 3, 4, 1, 0] rfl⟩
        · skip
          rw [nI_leI (by omega) (by omega)] at c_56
          have hk : k2 < nf := by omega
          refine lv_iload hx hb dX9_posting_59 (lv_at hl 5 rfl) ?_
          refine lv_aload_n hx hb dX9_posting_61 rfl (lv_at hl 0 rfl) ?_
          refine lv_iload hx hb dX9_posting_62 (lv_at hl 6 rfl) ?_
          refine lv_iload_n hx hb dX9_posting_64 rfl (lv_at hl 1 rfl) ?_
          refine m_ci (va_runV (As := [.int (nI k2), .int v]) (rest := [.int y]) ⟨hx, hb, hml, hown, hts⟩ (c_X9_isPosting l (Z := Z) (M := M) (th := (if (o_rng v 0 30) then 0 else 1)) k2 v hro (r_st_self his) (by omega)) (cwV 2 hts gX9_posting_X9_isPosting rfl rfl rfl (by decide +kernel) ⟨Nat.le_of_ble_eq_true rfl, Nat.le_of_ble_eq_true rfl⟩) ⟨m_blind m_B_calling, m_recv hw (m_ent_10 hro.1) rfl, fun U hU hW => ⟨rfl, m_wo_call hw hU hW⟩⟩ rfl rfl hl.1 rfl (lv_room (Nat.le_of_ble_eq_true rfl)) dX9_posting_65 ⟨Nat.le_of_ble_eq_true rfl, Nat.le_of_ble_eq_true rfl⟩) hw (fun r_65 u_65 H locs hp_65 hw => ?_)
          obtain rfl : r_65 = (b2i (o_pst M k2 v)) := hp_65
          refine lv_if_eq (tgt := 86) hx hb dX9_posting_68 (by decide) (fun c_68 => ?_) (fun c_68 => ?_)
          · skip
            have q_68 : o_pst M k2 v = false := (b2i_eq _).mp c_68
            have hpk : (fun k => o_pst M k v && o_ahead M k i) k2 = false := by simp [q_68]
            refine lv_iconst (v := 0) hx hb dX9_posting_86 (by decide) ?_
            refine lv_iadd hx hb dX9_posting_87 ?_
            refine lv_istore (lv' := [(5, .int (y + 0)), (0, .ref o), (1, .int v), (2, .int ix), (3, .int x), (4, .int (nI i)), (6, .int (nI k2))]) hx hb dX9_posting_88 hl (by decide) rfl (fun ls hl => ?_)
            refine lv_iinc (v := nI (k2 + 1)) (lv' := [(6, .int (nI (k2 + 1))), (5, .int (y + 0)), (0, .ref o), (1, .int v), (2, .int ix), (3, .int x), (4, .int (nI i))]) hx hb dX9_posting_90 hl (k := 6) rfl (nI_1 _) (by decide) rfl (fun ls hl => ?_)
            refine lv_goto (tgt := 50) hx hb dX9_posting_93 (by decide) ?_
            exact ih (k2 + 1, (y + 0)) _ _ _ (by dsimp only; omega) ⟨⟨by omega, cntB_step hinv2.2 hpk⟩, hw, lv_sub hl [2, 3, 4, 5, 6, 1, 0] rfl⟩
          · skip
            have q_68 : o_pst M k2 v = true := (b2i_ne _).mp c_68
            refine lv_aload_n hx hb dX9_posting_71 rfl (lv_at hl 0 rfl) ?_
            refine lv_iload hx hb dX9_posting_72 (lv_at hl 6 rfl) ?_
            refine lv_iload hx hb dX9_posting_74 (lv_at hl 4 rfl) ?_
            refine m_ci (va_runV (As := [.int (nI k2), .int (nI i)]) (rest := [.int y]) ⟨hx, hb, hml, hown, hts⟩ (c_X9_ahead l (Z := Z) (M := M) (th := (if (o_rng v 0 30) then 0 else 1)) k2 i hro (r_st_self his) (by omega) (by omega)) (cwV 2 hts gX9_posting_X9_ahead rfl rfl rfl (by decide +kernel) ⟨Nat.le_of_ble_eq_true rfl, Nat.le_of_ble_eq_true rfl⟩) ⟨m_blind m_B_calling, m_recv hw (m_ent_10 hro.1) rfl, fun U hU hW => ⟨rfl, m_wo_call hw hU hW⟩⟩ rfl rfl hl.1 rfl (lv_room (Nat.le_of_ble_eq_true rfl)) dX9_posting_76 ⟨Nat.le_of_ble_eq_true rfl, Nat.le_of_ble_eq_true rfl⟩) hw (fun r_76 u_76 H locs hp_76 hw => ?_)
            obtain rfl : r_76 = (b2i (o_ahead M k2 i)) := hp_76
            refine lv_if_eq (tgt := 86) hx hb dX9_posting_79 (by decide) (fun c_79 => ?_) (fun c_79 => ?_)
            · skip
              have q_79 : o_ahead M k2 i = false := (b2i_eq _).mp c_79
              have hpk : (fun k => o_pst M k v && o_ahead M k i) k2 = false := by simp [q_68, q_79]
              refine lv_iconst (v := 0) hx hb dX9_posting_86 (by decide) ?_
              refine lv_iadd hx hb dX9_posting_87 ?_
              refine lv_istore (lv' := [(5, .int (y + 0)), (0, .ref o), (1, .int v), (2, .int ix), (3, .int x), (4, .int (nI i)), (6, .int (nI k2))]) hx hb dX9_posting_88 hl (by decide) rfl (fun ls hl => ?_)
              refine lv_iinc (v := nI (k2 + 1)) (lv' := [(6, .int (nI (k2 + 1))), (5, .int (y + 0)), (0, .ref o), (1, .int v), (2, .int ix), (3, .int x), (4, .int (nI i))]) hx hb dX9_posting_90 hl (k := 6) rfl (nI_1 _) (by decide) rfl (fun ls hl => ?_)
              refine lv_goto (tgt := 50) hx hb dX9_posting_93 (by decide) ?_
              exact ih (k2 + 1, (y + 0)) _ _ _ (by dsimp only; omega) ⟨⟨by omega, cntB_step hinv2.2 hpk⟩, hw, lv_sub hl [2, 3, 4, 5, 6, 1, 0] rfl⟩
            · skip
              have q_79 : o_ahead M k2 i = true := (b2i_ne _).mp c_79
              have hpk : (fun k => o_pst M k v && o_ahead M k i) k2 = true := by simp [q_68, q_79]
              refine lv_iconst (v := 1) hx hb dX9_posting_82 (by decide) ?_
              refine lv_goto (tgt := 87) hx hb dX9_posting_83 (by decide) ?_
              refine lv_iadd hx hb dX9_posting_87 ?_
              refine lv_istore (lv' := [(5, .int (y + 1)), (0, .ref o), (1, .int v), (2, .int ix), (3, .int x), (4, .int (nI i)), (6, .int (nI k2))]) hx hb dX9_posting_88 hl (by decide) rfl (fun ls hl => ?_)
              refine lv_iinc (v := nI (k2 + 1)) (lv' := [(6, .int (nI (k2 + 1))), (5, .int (y + 1)), (0, .ref o), (1, .int v), (2, .int ix), (3, .int x), (4, .int (nI i))]) hx hb dX9_posting_90 hl (k := 6) rfl (nI_1 _) (by decide) rfl (fun ls hl => ?_)
              refine lv_goto (tgt := 50) hx hb dX9_posting_93 (by decide) ?_
              exact ih (k2 + 1, (y + 1)) _ _ _ (by dsimp only; omega) ⟨⟨by omega, cntB_step hinv2.2 hpk⟩, hw, lv_sub hl [2, 3, 4, 5, 6, 1, 0] rfl⟩
      · skip
        have q_38 : o_pst M i v = false := (b2i_eq _).mp c_38
        have hfin : x = o_found M nf v ix (i + 1) := by rw [hinv.2]; simp [o_found, q_38]
        refine lv_goto (tgt := 109) hx hb dX9_posting_41 (by decide) ?_
        refine lv_iinc (v := nI (i + 1)) (lv' := [(4, .int (nI (i + 1))), (0, .ref o), (1, .int v), (2, .int ix), (3, .int x)]) hx hb dX9_posting_109 hl (k := 4) rfl (nI_1 _) (by decide) rfl (fun ls hl => ?_)
        refine lv_goto (tgt := 22) hx hb dX9_posting_112 (by decide) ?_
        exact ih1 (i + 1, x) _ _ _ (by dsimp only; omega) ⟨⟨by omega, hfin⟩, hw, lv_sub hl [1, 2, 3, 4, 0] rfl⟩
  · skip
    have q_12 : (o_rng v 0 30) = false := by first | (have := (b2i_ne _).mp c_12; simpa using this) | (have := (b2i_eq _).mp c_12; simpa using this)
    refine lv_iconst (v := 0) hx hb dX9_posting_15 (by decide) ?_
    exact W.iret (v := 0) hx hb hr (fun t ht hW => ⟨⟨0, (I_1, A_2), rfl, (by have ht : t_posting Z M v ix = 1 := (by simp [t_posting, q_12]); rw [ht]; exact ⟨by first | exact his | simpa [q_12] using his, fun h => absurd h (by decide)⟩), m_wo_out hw ht hW.alike⟩, m_wo_F hw ht⟩) (m_wo_L hw) dX9_posting_16

