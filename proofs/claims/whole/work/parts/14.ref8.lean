theorem o_bln (S : mS) (b : Bool) (ch : Int32) {j : Nat} (h : j ≠ 31) : (o_blames S b ch).1 j = S.1 j := by
  unfold o_blames
  split
  · exact z1_n _ _ h
  · rfl
theorem o_bl31 (S : mS) (b : Bool) (ch : Int32) {k : Nat} (h : S.1 31 = nI k) : (o_blames S b ch).1 31 = nI (k + b.toNat) := by
  unfold o_blames
  cases b
  · exact h
  · show z1 S.1 31 (S.1 31 + 1) 31 = nI (k + 1)
    rw [z1_s, h]
    exact nI_1 k
theorem o_drops_3 (S : mS) (v : Int32) {n : Nat} (h : S.1 3 = nI n) (hn : n < 2 ^ 31) : ∃ k, k ≤ n ∧ (o_drops S v).1 3 = nI k := by
  refine ⟨(o_dr (S.2 17) v n).1, o_dr_le _ _ _, ?_⟩
  unfold o_drops
  rw [zn_of h hn]
  exact z1_s S.1 3 _
theorem o_drops_n (S : mS) (v : Int32) {j : Nat} (h : j ≠ 3) : (o_drops S v).1 j = S.1 j := z1_n _ _ h
theorem o_drops_m (S : mS) (v : Int32) {j : Nat} (h : j ≠ 17) : (o_drops S v).2 j = S.2 j := mset_n _ _ h
theorem o_opens_n (S : mS) {j : Nat} (h : j ≠ 3) (h4 : j ≠ 4) : (o_opens S).1 j = S.1 j := (z1_n _ _ h4).trans (z1_n _ _ h)
theorem o_opens_m (S : mS) {j : Nat} (h : j ≠ 17) : (o_opens S).2 j = S.2 j := m1_n _ _ h
set_option maxHeartbeats 400000 in
set_option maxRecDepth 100000 in
theorem c_X9_merge (l : Launch) {G : mG} {K : Nat → Nat} {I : Nat → Nat → Int32} {R : Nat → Nat → Option Nat} {F : Nat → UInt32} {A : Nat → Nat → Int32} {N : Nat → Nat} {L : Nat → List Nat} {T : Nat → List Int32} {J : Nat → Nat → Int64} {D : Nat → Nat → UInt64} {o : Nat} {ad : Nat → Nat} {Z : Nat → Int32} {M : Nat → Nat → Int32} {th : Int32} {nf sg : Nat} (va vb : Int32) (hro : r_ok K R N o ad) (hz : r_st K o ad I A I A Z M th) (hnf : Z 1 = nI nf) (hn : nf ≤ 120) (hsg : Z 3 = nI sg) (hk : sg ≤ 20) : Met l yX9_merge wsX9_merge ({ frames := 2, cells := 0, slots := 0, locals := 60 } : Room) (va_Pc [.ref o, .int va, .int vb] (m_B G K I R F A N L T J D)) (va_Qi (fun (r : Int32) (u : (Nat → Nat → Int32) × (Nat → Nat → Int32)) => (r_st K o ad I A u.1 u.2 (p_merge (Z, M) va vb).1 (p_merge (Z, M) va vb).2 (t_merge Z M va vb)) ∧ (t_merge Z M va vb = 0 → r = Z 4)) (fun u : (Nat → Nat → Int32) × (Nat → Nat → Int32) => m_B G K (u.1) R F (u.2) N L T J D) (m_A G)) 0 0 (m_A G) := by
  refine Met.ofW (cc := cX9_merge) (maxL := 8) (ret := (some .int)) (by decide) rfl ?_
  intro p e s m args below meth c s₁ B hml hv
  obtain ⟨rfl, hB⟩ := hv
  have hx := B.exec
  have hb := B.bytes
  have hr := B.returns
  have hts := atoms_spec (ws := wsX9_merge) B.pre
  have hown : s.vm.findClass RX9 = some m.cls := findClass_of_methodNamed B.named
  have hlocks := B.notSynchronized
  have hw := m_wo_in hB
  have hl := lv_entry ([.ref o, .int va, .int vb]) (n := 8) (Nat.le_of_ble_eq_true rfl)
  rw [lg_entry_eq]
  generalize (lg_sl ([.ref o, .int va, .int vb]) ++ List.replicate (8 - (lg_sl ([.ref o, .int va, .int vb])).length) Slot.unset).toArray = ls at hl ⊢
  have hl : lv_has ls 8 [(0, .ref o), (1, .int va), (2, .int vb)] := hl
  have his := hz
  refine lv_aload_n hx hb dX9_merge_0 rfl (lv_at hl 0 rfl) ?_
  refine lv_iload_n hx hb dX9_merge_1 rfl (lv_at hl 1 rfl) ?_
  refine lv_iload_n hx hb dX9_merge_2 rfl (lv_at hl 2 rfl) ?_
  refine lv_icmp_eq (tgt := 10) hx hb dX9_merge_3 (by decide) (fun c_3 => ?_) (fun c_3 => ?_)
  · skip
    have hab : va = vb := c_3
    refine lv_iconst (v := 0) hx hb dX9_merge_10 (by decide) ?_
    refine lv_iconst (v := 1) hx hb dX9_merge_11 (by decide) ?_
    refine m_ci (va_runV (As := [.int 0, .int 1]) (rest := []) ⟨hx, hb, hml, hown, hts⟩ (c_X9_no l (Z := Z) (M := M) (th := th) false 1 hro (r_st_self his) ) (cwV 2 hts gX9_merge_X9_no rfl rfl rfl (by decide +kernel) ⟨Nat.le_of_ble_eq_true rfl, Nat.le_of_ble_eq_true rfl⟩) ⟨m_blind m_B_calling, m_recv hw (m_ent_10 hro.1) rfl, fun U hU hW => ⟨rfl, m_wo_call hw hU hW⟩⟩ rfl rfl hl.1 rfl (lv_room (Nat.le_of_ble_eq_true rfl)) dX9_merge_12 ⟨Nat.le_of_ble_eq_true rfl, Nat.le_of_ble_eq_true rfl⟩) hw (fun r_12 u_12 H locs hp_12 hw => ?_)
    obtain ⟨I_1, A_2⟩ := u_12
    have hw : m_wo G K I_1 R F A_2 N L T J D s H locs := hw
    dsimp only at hp_12
    have his := r_st_tr his hp_12.1
    obtain rfl : r_12 = (b2i (!false)) := hp_12.2
    refine lv_if_eq (tgt := 20) hx hb dX9_merge_15 (by decide) (fun c_15 => absurd c_15 (by decide)) (fun c_15 => ?_)
    refine lv_iconst (v := 0) hx hb dX9_merge_18 (by decide) ?_
    exact W.iret (v := 0) hx hb hr (fun t ht hW => ⟨⟨0, (I_1, A_2), rfl, (by have ht : t_merge Z M va vb = 1 := (by unfold t_merge; rw [if_pos hab]); have e9 : p_merge (Z, M) va vb = (Z, M) := (by unfold p_merge; rw [if_pos hab]); rw [ht, e9]; exact ⟨his, fun h => absurd h (by decide)⟩), m_wo_out hw ht hW.alike⟩, m_wo_F hw ht⟩) (m_wo_L hw) dX9_merge_19
  · skip
    have hab : ¬ va = vb := c_3
    refine lv_iconst (v := 1) hx hb dX9_merge_6 (by decide) ?_
    refine lv_goto (tgt := 11) hx hb dX9_merge_7 (by decide) ?_
    refine lv_iconst (v := 1) hx hb dX9_merge_11 (by decide) ?_
    refine m_ci (va_runV (As := [.int 1, .int 1]) (rest := []) ⟨hx, hb, hml, hown, hts⟩ (c_X9_no l (Z := Z) (M := M) (th := th) true 1 hro (r_st_self his) ) (cwV 2 hts gX9_merge_X9_no rfl rfl rfl (by decide +kernel) ⟨Nat.le_of_ble_eq_true rfl, Nat.le_of_ble_eq_true rfl⟩) ⟨m_blind m_B_calling, m_recv hw (m_ent_10 hro.1) rfl, fun U hU hW => ⟨rfl, m_wo_call hw hU hW⟩⟩ rfl rfl hl.1 rfl (lv_room (Nat.le_of_ble_eq_true rfl)) dX9_merge_12 ⟨Nat.le_of_ble_eq_true rfl, Nat.le_of_ble_eq_true rfl⟩) hw (fun r_12 u_12 H locs hp_12 hw => ?_)
    obtain ⟨I_3, A_4⟩ := u_12
    have hw : m_wo G K I_3 R F A_4 N L T J D s H locs := hw
    dsimp only at hp_12
    have his := r_st_tr his hp_12.1
    obtain rfl : r_12 = (b2i (!true)) := hp_12.2
    refine lv_if_eq (tgt := 20) hx hb dX9_merge_15 (by decide) (fun c_15 => ?_) (fun c_15 => absurd (by decide) c_15)
    refine lv_aload_n hx hb dX9_merge_20 rfl (lv_at hl 0 rfl) ?_
    refine lv_iload_n hx hb dX9_merge_21 rfl (lv_at hl 1 rfl) ?_
    refine m_ci (va_runV (As := [.int va]) (rest := []) ⟨hx, hb, hml, hown, hts⟩ (c_X9_isSegment l (Z := Z) (M := M) (th := 0) va hro (r_st_self his) hsg hk) (cwV 1 hts gX9_merge_X9_isSegment rfl rfl rfl (by decide +kernel) ⟨Nat.le_of_ble_eq_true rfl, Nat.le_of_ble_eq_true rfl⟩) ⟨m_blind m_B_calling, m_recv hw (m_ent_10 hro.1) rfl, fun U hU hW => ⟨rfl, m_wo_call hw hU hW⟩⟩ rfl rfl hl.1 rfl (lv_room (Nat.le_of_ble_eq_true rfl)) dX9_merge_22 ⟨Nat.le_of_ble_eq_true rfl, Nat.le_of_ble_eq_true rfl⟩) hw (fun r_22 u_22 H locs hp_22 hw => ?_)
    obtain rfl : r_22 = (b2i (anyB (fun k => decide (M 17 k = va)) sg)) := hp_22
    rw [show b2i (anyB (fun k => decide (M 17 k = va)) sg) = b2i (o_seg Z M va) from by unfold o_seg; rw [zn_of hsg (by omega)]]
    refine lv_istore_n (lv' := [(3, .int (b2i (o_seg Z M va))), (0, .ref o), (1, .int va), (2, .int vb)]) hx hb dX9_merge_25 rfl hl (by decide) rfl (fun ls hl => ?_)
    refine lv_aload_n hx hb dX9_merge_26 rfl (lv_at hl 1 rfl) ?_
    refine lv_iload_n hx hb dX9_merge_27 rfl (lv_at hl 3 rfl) ?_
    refine m_ci (va_runV (As := [.int vb]) (rest := []) ⟨hx, hb, hml, hown, hts⟩ (c_X9_isSegment l (Z := Z) (M := M) (th := 0) vb hro (r_st_self his) hsg hk) (cwV 1 hts gX9_merge_X9_isSegment rfl rfl rfl (by decide +kernel) ⟨Nat.le_of_ble_eq_true rfl, Nat.le_of_ble_eq_true rfl⟩) ⟨m_blind m_B_calling, m_recv hw (m_ent_10 hro.1) rfl, fun U hU hW => ⟨rfl, m_wo_call hw hU hW⟩⟩ rfl rfl hl.1 rfl (lv_room (Nat.le_of_ble_eq_true rfl)) dX9_merge_28 ⟨Nat.le_of_ble_eq_true rfl, Nat.le_of_ble_eq_true rfl⟩) hw (fun r_28 u_28 H locs hp_28 hw => ?_)
    obtain rfl : r_28 = (b2i (anyB (fun k => decide (M 17 k = vb)) sg)) := hp_28
    rw [show b2i (anyB (fun k => decide (M 17 k = vb)) sg) = b2i (o_seg Z M vb) from by unfold o_seg; rw [zn_of hsg (by omega)]]
    refine lv_istore (lv' := [(4, .int (b2i (o_seg Z M vb))), (3, .int (b2i (o_seg Z M va))), (0, .ref o), (1, .int va), (2, .int vb)]) hx hb dX9_merge_31 hl (by decide) rfl (fun ls hl => ?_)
    refine m_joinH (σ := Bool) 63 (fun b H locs => b = (o_wrong Z M va vb) ∧ m_wo G K I_3 R F A_4 N L T J D s H locs) (fun b => .int (b2i b) :: []) ?_ (fun J_5 => ?_)
    · rintro _ H locs ⟨rfl, hw⟩
      refine lv_istore (lv' := [(5, .int (b2i (o_wrong Z M va vb))), (4, .int (b2i (o_seg Z M vb))), (3, .int (b2i (o_seg Z M va))), (0, .ref o), (1, .int va), (2, .int vb)]) hx hb dX9_merge_63 hl (by decide) rfl (fun ls hl => ?_)
      refine lv_iload hx hb dX9_merge_65 (lv_at hl 0 rfl) ?_
      refine lv_if_eq (tgt := 153) hx hb dX9_merge_67 (by decide) (fun c_67 => ?_) (fun c_67 => ?_)
      · skip
        have q_67 : o_wrong Z M va vb = false := (b2i_eq _).mp c_67
        refine lv_aload_n hx hb dX9_merge_153 rfl (lv_at hl 3 rfl) ?_
        refine m_joinH (σ := Bool) 168 (fun b H locs => b = (o_seg Z M va && o_seg Z M vb) ∧ m_wo G K I_3 R F A_4 N L T J D s H locs) (fun b => .int (b2i b) :: [.ref o]) ?_ (fun J_6 => ?_)
        · rintro _ H locs ⟨rfl, hw⟩
          refine lv_iconst (v := 2) hx hb dX9_merge_168 (by decide) ?_
          refine m_ci (va_runV (As := [.int (b2i (o_seg Z M va && o_seg Z M vb)), .int 2]) (rest := []) ⟨hx, hb, hml, hown, hts⟩ (c_X9_no l (Z := Z) (M := M) (th := 0) (o_seg Z M va && o_seg Z M vb) 2 hro (r_st_self his) ) (cwV 2 hts gX9_merge_X9_no rfl rfl rfl (by decide +kernel) ⟨Nat.le_of_ble_eq_true rfl, Nat.le_of_ble_eq_true rfl⟩) ⟨m_blind m_B_calling, m_recv hw (m_ent_10 hro.1) rfl, fun U hU hW => ⟨rfl, m_wo_call hw hU hW⟩⟩ rfl rfl hl.1 rfl (lv_room (Nat.le_of_ble_eq_true rfl)) dX9_merge_169 ⟨Nat.le_of_ble_eq_true rfl, Nat.le_of_ble_eq_true rfl⟩) hw (fun r_169 u_169 H locs hp_169 hw => ?_)
          obtain ⟨I_7, A_8⟩ := u_169
          have hw : m_wo G K I_7 R F A_8 N L T J D s H locs := hw
          dsimp only at hp_169
          have his := r_st_tr his hp_169.1
          obtain rfl : r_169 = (b2i (!(o_seg Z M va && o_seg Z M vb))) := hp_169.2
          refine lv_if_ne (tgt := 193) hx hb dX9_merge_172 (by decide) (fun c_172 => ?_) (fun c_172 => ?_)
          · skip
            have q_172 : (o_seg Z M va && o_seg Z M vb) = false := (Bool.not_eq_true' _).mp ((b2i_ne _).mp c_172)
            exact absurd q_67 (by unfold o_wrong; revert q_172; cases o_seg Z M va <;> cases o_seg Z M vb <;> simp)
          · skip
            have q_172 : (o_seg Z M va && o_seg Z M vb) = true := (Bool.not_eq_false' _).mp ((b2i_eq _).mp c_172)
            refine lv_aload_n hx hb dX9_merge_175 rfl (lv_at hl 3 rfl) ?_
            refine m_joinH (σ := Bool) 186 (fun b H locs => b = (!o_wrong Z M va vb) ∧ m_wo G K I_7 R F A_8 N L T J D s H locs) (fun b => .int (b2i b) :: [.ref o]) ?_ (fun J_9 => ?_)
            · rintro _ H locs ⟨rfl, hw⟩
              refine lv_iconst (v := 3) hx hb dX9_merge_186 (by decide) ?_
              refine m_ci (va_runV (As := [.int (b2i (!o_wrong Z M va vb)), .int 3]) (rest := []) ⟨hx, hb, hml, hown, hts⟩ (c_X9_no l (Z := Z) (M := M) (th := (if (o_seg Z M va && o_seg Z M vb) then 0 else 2)) (!o_wrong Z M va vb) 3 hro (r_st_self his) ) (cwV 2 hts gX9_merge_X9_no rfl rfl rfl (by decide +kernel) ⟨Nat.le_of_ble_eq_true rfl, Nat.le_of_ble_eq_true rfl⟩) ⟨m_blind m_B_calling, m_recv hw (m_ent_10 hro.1) rfl, fun U hU hW => ⟨rfl, m_wo_call hw hU hW⟩⟩ rfl rfl hl.1 rfl (lv_room (Nat.le_of_ble_eq_true rfl)) dX9_merge_187 ⟨Nat.le_of_ble_eq_true rfl, Nat.le_of_ble_eq_true rfl⟩) hw (fun r_187 u_187 H locs hp_187 hw => ?_)
              obtain ⟨I_10, A_11⟩ := u_187
              have hw : m_wo G K I_10 R F A_11 N L T J D s H locs := hw
              dsimp only at hp_187
              have his := r_st_tr his hp_187.1
              obtain rfl : r_187 = (b2i (!(!o_wrong Z M va vb))) := hp_187.2
              refine lv_if_eq (tgt := 195) hx hb dX9_merge_190 (by decide) (fun c_190 => ?_) (fun c_190 => ?_)
              · skip
                have q_190 : o_wrong Z M va vb = false := by have h9 := (b2i_eq _).mp c_190; simpa using h9
                refine lv_aload_n hx hb dX9_merge_195 rfl (lv_at hl 3 rfl) ?_
                refine lv_iload_n hx hb dX9_merge_196 rfl (lv_at hl 4 rfl) ?_
                refine m_cv (va_runV (As := [.int va]) (rest := []) ⟨hx, hb, hml, hown, hts⟩ (c_X9_drops l (Z := Z) (M := M) (th := (if (!o_wrong Z M va vb) then 0 else 3)) va hro (r_st_self his) hsg (by omega)) (cwV 1 hts gX9_merge_X9_drops rfl rfl rfl (by decide +kernel) ⟨Nat.le_of_ble_eq_true rfl, Nat.le_of_ble_eq_true rfl⟩) ⟨m_blind m_B_calling, m_recv hw (m_ent_10 hro.1) rfl, fun U hU hW => ⟨rfl, m_wo_call hw hU hW⟩⟩ rfl rfl hl.1 rfl (lv_room (Nat.le_of_ble_eq_true rfl)) dX9_merge_197 ⟨Nat.le_of_ble_eq_true rfl, Nat.le_of_ble_eq_true rfl⟩) hw (fun u_197 H locs hp_197 hw => ?_)
                obtain ⟨I_12, A_13⟩ := u_197
                have hw : m_wo G K I_12 R F A_13 N L T J D s H locs := hw
                dsimp only at hp_197
                have his := r_st_tr his hp_197.1
                obtain ⟨Z_14, eZ_14⟩ : ∃ z : Nat → Int32, z = (o_drops (Z, M) va).1 := ⟨_, rfl⟩
                rw [← eZ_14] at his
                obtain ⟨M_15, eM_15⟩ : ∃ z : Nat → Nat → Int32, z = (o_drops (Z, M) va).2 := ⟨_, rfl⟩
                rw [← eM_15] at his
                obtain ⟨sg1, hsg1, hz3_1⟩ := o_drops_3 (Z, M) va hsg (by omega)
                rw [← eZ_14] at hz3_1
                refine lv_aload_n hx hb dX9_merge_200 rfl (lv_at hl 3 rfl) ?_
                refine lv_iload_n hx hb dX9_merge_201 rfl (lv_at hl 5 rfl) ?_
                refine m_cv (va_runV (As := [.int vb]) (rest := []) ⟨hx, hb, hml, hown, hts⟩ (c_X9_drops l (Z := Z_14) (M := M_15) (th := (if (!o_wrong Z M va vb) then 0 else 3)) vb hro (r_st_self his) hz3_1 (by omega)) (cwV 1 hts gX9_merge_X9_drops rfl rfl rfl (by decide +kernel) ⟨Nat.le_of_ble_eq_true rfl, Nat.le_of_ble_eq_true rfl⟩) ⟨m_blind m_B_calling, m_recv hw (m_ent_10 hro.1) rfl, fun U hU hW => ⟨rfl, m_wo_call hw hU hW⟩⟩ rfl rfl hl.1 rfl (lv_room (Nat.le_of_ble_eq_true rfl)) dX9_merge_202 ⟨Nat.le_of_ble_eq_true rfl, Nat.le_of_ble_eq_true rfl⟩) hw (fun u_202 H locs hp_202 hw => ?_)
                obtain ⟨I_16, A_17⟩ := u_202
                have hw : m_wo G K I_16 R F A_17 N L T J D s H locs := hw
                dsimp only at hp_202
                have his := r_st_tr his hp_202.1
                obtain ⟨Z_18, eZ_18⟩ : ∃ z : Nat → Int32, z = (o_drops (Z_14, M_15) vb).1 := ⟨_, rfl⟩
                rw [← eZ_18] at his
                obtain ⟨M_19, eM_19⟩ : ∃ z : Nat → Nat → Int32, z = (o_drops (Z_14, M_15) vb).2 := ⟨_, rfl⟩
                rw [← eM_19] at his
                obtain ⟨sg2, hsg2, hz3_2⟩ := o_drops_3 (Z_14, M_15) vb hz3_1 (by omega)
                rw [← eZ_18] at hz3_2
                refine lv_aload_n hx hb dX9_merge_205 rfl (lv_at hl 3 rfl) ?_
                refine m_ci (va_runV (As := []) (rest := []) ⟨hx, hb, hml, hown, hts⟩ (c_X9_opens l (Z := Z_18) (M := M_19) (th := (if (!o_wrong Z M va vb) then 0 else 3))  hro (r_st_self his) hz3_2 (by omega)) (cwV 0 hts gX9_merge_X9_opens rfl rfl rfl (by decide +kernel) ⟨Nat.le_of_ble_eq_true rfl, Nat.le_of_ble_eq_true rfl⟩) ⟨m_blind m_B_calling, m_recv hw (m_ent_10 hro.1) rfl, fun U hU hW => ⟨rfl, m_wo_call hw hU hW⟩⟩ rfl rfl hl.1 rfl (lv_room (Nat.le_of_ble_eq_true rfl)) dX9_merge_206 ⟨Nat.le_of_ble_eq_true rfl, Nat.le_of_ble_eq_true rfl⟩) hw (fun r_206 u_206 H locs hp_206 hw => ?_)
                obtain ⟨I_20, A_21⟩ := u_206
                have hw : m_wo G K I_20 R F A_21 N L T J D s H locs := hw
                dsimp only at hp_206
                have his := r_st_tr his hp_206.1
                obtain ⟨Z_22, eZ_22⟩ : ∃ z : Nat → Int32, z = (o_opens (Z_18, M_19)).1 := ⟨_, rfl⟩
                rw [← eZ_22] at his
                obtain ⟨M_23, eM_23⟩ : ∃ z : Nat → Nat → Int32, z = (o_opens (Z_18, M_19)).2 := ⟨_, rfl⟩
                rw [← eM_23] at his
                obtain rfl : r_206 = (Z_18 4) := hp_206.2
                refine lv_istore (lv' := [(6, .int (Z_18 4)), (5, .int (b2i (o_wrong Z M va vb))), (4, .int (b2i (o_seg Z M vb))), (3, .int (b2i (o_seg Z M va))), (0, .ref o), (1, .int va), (2, .int vb)]) hx hb dX9_merge_209 hl (by decide) rfl (fun ls hl => ?_)
                have hth : ((if (!o_wrong Z M va vb) then 0 else 3) : Int32) = 0 := by simp [q_67]
                rw [hth] at his
                have hop : (Z_22, M_23) = o_opens (o_drops (o_drops (Z, M) va) vb) := by simp only [eM_23, eZ_22, eM_19, eZ_18, eM_15, eZ_14]
                have hv4 : (Z_18 4) = (o_drops (o_drops (Z, M) va) vb).1 4 := by simp only [eM_23, eZ_22, eM_19, eZ_18, eM_15, eZ_14]
                obtain ⟨v4, ev4⟩ : ∃ z, z = (Z_18 4) := ⟨_, rfl⟩
                rw [← ev4] at hl hv4
                obtain ⟨Z0, eZ0⟩ : ∃ z, z = Z_22 := ⟨_, rfl⟩
                obtain ⟨M0, eM0⟩ : ∃ z, z = M_23 := ⟨_, rfl⟩
                obtain ⟨I0, eI0⟩ : ∃ z, z = I_20 := ⟨_, rfl⟩
                rw [← eI0] at hw his
                rw [← eZ0, ← eM0] at his hop
                have hz1 : Z0 1 = nI nf := by rw [show Z0 = (o_opens (o_drops (o_drops (Z, M) va) vb)).1 from congrArg Prod.fst hop, o_opens_n _ (by decide) (by decide), o_drops_n _ _ (by decide), o_drops_n _ _ (by decide)]; exact hnf
                have h14 : M0 14 = M 14 := by rw [show M0 = (o_opens (o_drops (o_drops (Z, M) va) vb)).2 from congrArg Prod.snd hop, o_opens_m _ (by decide), o_drops_m _ _ (by decide), o_drops_m _ _ (by decide)]
                have h44 : v4 = Z 4 := by rw [hv4, o_drops_n _ _ (by decide), o_drops_n _ _ (by decide)]
                refine lv_iconst (v := 0) hx hb dX9_merge_211 (by decide) ?_
                refine lv_istore (lv' := [(7, .int 0), (6, .int v4), (5, .int (b2i (o_wrong Z M va vb))), (4, .int (b2i (o_seg Z M vb))), (3, .int (b2i (o_seg Z M va))), (0, .ref o), (1, .int va), (2, .int vb)]) hx hb dX9_merge_212 hl (by decide) rfl (fun ls hl => ?_)
                refine m_loop (σ := Nat × (Nat → Nat → Int32)) (fun a => nf - (a.1)) (fun a H locs ls => ((a.1) ≤ nf ∧ r_st K o ad I A I0 (a.2) Z0 (mset M0 14 (fmp (M0 14) (fun (_ : Nat) (x : Int32) => if x = va then v4 else if x = vb then v4 else x) (a.1))) 0) ∧ m_wo G K I0 R F (a.2) N L T J D s H locs ∧ lv_has ls 8 [(0, .ref o), (1, .int va), (2, .int vb), (6, .int v4), (7, .int (nI (a.1)))]) ?_ (0, A_21) ⟨⟨Nat.zero_le _, by rw [fmp_0, mset_self]; exact his⟩, hw, lv_sub hl [5, 6, 7, 1, 0] rfl⟩
                rintro ⟨i, Aa⟩ H locs ls ⟨hinv, hw, hl⟩ ih
                dsimp only at hinv hw hl
                obtain ⟨hi0, his⟩ := hinv
                obtain ⟨Mi, eMi⟩ : ∃ z, z = mset M0 14 (fmp (M0 14) (fun (_ : Nat) (x : Int32) => if x = va then v4 else if x = vb then v4 else x) i) := ⟨_, rfl⟩
                rw [← eMi] at his
                have hat9 : Mi 14 i = M0 14 i := by rw [eMi, mset_s, fmp_at]
                refine lv_iload hx hb dX9_merge_214 (lv_at hl 4 rfl) ?_
                refine lv_aload_n hx hb dX9_merge_216 rfl (lv_at hl 0 rfl) ?_
                refine g_10_1 hx hb hts (by decide +kernel) hown hw hro.1 (hts (.fieldLink RX9 118 "PirateindexModel" "finds" "I") (by decide +kernel)) dX9_merge_217 ?_
                rw [show I0 1001 o = Z0 1 from his.1 1 (by decide)]
                rw [hz1]
                refine lv_icmp_ge (tgt := 270) hx hb dX9_merge_220 (by decide) (fun c_220 => ?_) (fun c_220 => ?_)
                · skip
                  rw [nI_leI (by omega) (by omega)] at c_220
                  have hi : i = nf := by omega
                  subst hi
                  refine lv_iload hx hb dX9_merge_270 (lv_at hl 3 rfl) ?_
                  exact W.iret (v := v4) hx hb hr (fun t ht hW => ⟨⟨v4, (I0, Aa), rfl, (by have ht : t_merge Z M va vb = 0 := (by unfold t_merge; rw [if_neg hab, if_pos q_172, if_neg (by rw [q_67]; decide)]); have e9 : (Z0, Mi) = p_merge (Z, M) va vb := (by unfold p_merge; rw [if_neg hab, if_neg (by show ¬ o_wrong Z M va vb = true; rw [q_67]; decide), ← hop, ← hv4, eMi, h14, zn_of hnf (by omega)]); rw [ht, ← e9]; exact ⟨his, fun _ => h44⟩), m_wo_out hw ht hW.alike⟩, m_wo_F hw ht⟩) (m_wo_L hw) dX9_merge_272
                · skip
                  rw [nI_leI (by omega) (by omega)] at c_220
                  have hi : i < nf := by omega
                  refine lv_aload_n hx hb dX9_merge_223 rfl (lv_at hl 0 rfl) ?_
                  refine g_10_14 (r := some (ad 14)) hx hb hts (by decide +kernel) hown hw hro.1 (hts (.fieldLink RX9 32 "PirateindexModel" "within" "[I") (by decide +kernel)) (hro.2.1 14 rfl).1 dX9_merge_224 ?_
                  refine lv_iload hx hb dX9_merge_227 (lv_at hl 4 rfl) ?_
                  refine lv_aload_n hx hb dX9_merge_229 rfl (lv_at hl 0 rfl) ?_
                  refine g_10_14 (r := some (ad 14)) hx hb hts (by decide +kernel) hown hw hro.1 (hts (.fieldLink RX9 32 "PirateindexModel" "within" "[I") (by decide +kernel)) (hro.2.1 14 rfl).1 dX9_merge_230 ?_
                  refine lv_iload hx hb dX9_merge_233 (lv_at hl 4 rfl) ?_
                  refine m_iaload_20 hx hb hw (hro.2.1 14 rfl).2.1 (r_in hro 14 rfl (n := 120) rfl (by omega)) dX9_merge_235 ?_
                  rw [show Aa (ad 14) = Mi 14 from his.2.1 14 rfl]
                  rw [nI_clamp (show i < 2 ^ 31 by omega)]
                  refine lv_iload_n hx hb dX9_merge_236 rfl (lv_at hl 1 rfl) ?_
                  refine lv_icmp_eq (tgt := 251) hx hb dX9_merge_237 (by decide) (fun c_237 => ?_) (fun c_237 => ?_)
                  · skip
                    have h_c : M0 14 i = va := by rw [← hat9]; exact c_237
                    refine lv_iload hx hb dX9_merge_251 (lv_at hl 3 rfl) ?_
                    refine lv_goto (tgt := 263) hx hb dX9_merge_253 (by decide) ?_
                    refine m_iastore_20 hx hb hw (hro.2.1 14 rfl).2.1 (r_in hro 14 rfl (n := 120) rfl (by omega))  dX9_merge_263 (fun H locs hw => ?_)
                    obtain ⟨A_24, eA_24⟩ : ∃ z, z = m_up Aa (ad 14) (upd (Aa (ad 14)) (nI i).toNatClampNeg v4) := ⟨_, rfl⟩
                    rw [← eA_24] at hw
                    obtain ⟨M_25, eM_25⟩ : ∃ z, z = m1 Mi 14 i v4 := ⟨_, rfl⟩
                    have his : r_st K o ad I A I0 A_24 Z0 M_25 0 := by rw [eA_24, eM_25, nI_clamp (show i < 2 ^ 31 by omega)]; exact r_st_m his hro 14 rfl i v4
                    refine lv_iinc (v := nI (i + 1)) (lv' := [(7, .int (nI (i + 1))), (0, .ref o), (1, .int va), (2, .int vb), (6, .int v4)]) hx hb dX9_merge_264 hl (k := 4) rfl (nI_1 _) (by decide) rfl (fun ls hl => ?_)
                    refine lv_goto (tgt := 214) hx hb dX9_merge_267 (by decide) ?_
                    exact ih (i + 1, A_24) _ _ _ (by dsimp only; omega) ⟨⟨by omega, by rw [← fmp_step, ← mset_m1, ← eMi]; rw [eM_25] at his; simpa [h_c] using his⟩, hw, lv_sub hl [1, 2, 3, 4, 0] rfl⟩
                  · skip
                    have h_c : ¬ M0 14 i = va := by rw [← hat9]; exact c_237
                    refine lv_aload_n hx hb dX9_merge_240 rfl (lv_at hl 0 rfl) ?_
                    refine g_10_14 (r := some (ad 14)) hx hb hts (by decide +kernel) hown hw hro.1 (hts (.fieldLink RX9 32 "PirateindexModel" "within" "[I") (by decide +kernel)) (hro.2.1 14 rfl).1 dX9_merge_241 ?_
                    refine lv_iload hx hb dX9_merge_244 (lv_at hl 4 rfl) ?_
                    refine m_iaload_20 hx hb hw (hro.2.1 14 rfl).2.1 (r_in hro 14 rfl (n := 120) rfl (by omega)) dX9_merge_246 ?_
                    rw [show Aa (ad 14) = Mi 14 from his.2.1 14 rfl]
                    rw [nI_clamp (show i < 2 ^ 31 by omega)]
                    refine lv_iload_n hx hb dX9_merge_247 rfl (lv_at hl 2 rfl) ?_
                    refine lv_icmp_ne (tgt := 256) hx hb dX9_merge_248 (by decide) (fun c_248 => ?_) (fun c_248 => ?_)
                    · skip
                      have h_d : ¬ M0 14 i = vb := by rw [← hat9]; exact c_248
                      refine lv_aload_n hx hb dX9_merge_256 rfl (lv_at hl 0 rfl) ?_
                      refine g_10_14 (r := some (ad 14)) hx hb hts (by decide +kernel) hown hw hro.1 (hts (.fieldLink RX9 32 "PirateindexModel" "within" "[I") (by decide +kernel)) (hro.2.1 14 rfl).1 dX9_merge_257 ?_
                      refine lv_iload hx hb dX9_merge_260 (lv_at hl 4 rfl) ?_
                      refine m_iaload_20 hx hb hw (hro.2.1 14 rfl).2.1 (r_in hro 14 rfl (n := 120) rfl (by omega)) dX9_merge_262 ?_
                      rw [show Aa (ad 14) = Mi 14 from his.2.1 14 rfl]
                      rw [nI_clamp (show i < 2 ^ 31 by omega)]
                      rw [hat9]
                      refine m_iastore_20 hx hb hw (hro.2.1 14 rfl).2.1 (r_in hro 14 rfl (n := 120) rfl (by omega))  dX9_merge_263 (fun H locs hw => ?_)
                      obtain ⟨A_26, eA_26⟩ : ∃ z, z = m_up Aa (ad 14) (upd (Aa (ad 14)) (nI i).toNatClampNeg (M0 14 i)) := ⟨_, rfl⟩
                      rw [← eA_26] at hw
                      obtain ⟨M_27, eM_27⟩ : ∃ z, z = m1 Mi 14 i (M0 14 i) := ⟨_, rfl⟩
                      have his : r_st K o ad I A I0 A_26 Z0 M_27 0 := by rw [eA_26, eM_27, nI_clamp (show i < 2 ^ 31 by omega)]; exact r_st_m his hro 14 rfl i (M0 14 i)
                      refine lv_iinc (v := nI (i + 1)) (lv' := [(7, .int (nI (i + 1))), (0, .ref o), (1, .int va), (2, .int vb), (6, .int v4)]) hx hb dX9_merge_264 hl (k := 4) rfl (nI_1 _) (by decide) rfl (fun ls hl => ?_)
                      refine lv_goto (tgt := 214) hx hb dX9_merge_267 (by decide) ?_
                      exact ih (i + 1, A_26) _ _ _ (by dsimp only; omega) ⟨⟨by omega, by rw [← fmp_step, ← mset_m1, ← eMi]; rw [eM_27] at his; simpa [h_c, h_d] using his⟩, hw, lv_sub hl [1, 2, 3, 4, 0] rfl⟩
                    · skip
                      have h_d : M0 14 i = vb := by rw [← hat9]; exact c_248
                      refine lv_iload hx hb dX9_merge_251 (lv_at hl 3 rfl) ?_
                      refine lv_goto (tgt := 263) hx hb dX9_merge_253 (by decide) ?_
                      refine m_iastore_20 hx hb hw (hro.2.1 14 rfl).2.1 (r_in hro 14 rfl (n := 120) rfl (by omega))  dX9_merge_263 (fun H locs hw => ?_)
                      obtain ⟨A_28, eA_28⟩ : ∃ z, z = m_up Aa (ad 14) (upd (Aa (ad 14)) (nI i).toNatClampNeg v4) := ⟨_, rfl⟩
                      rw [← eA_28] at hw
                      obtain ⟨M_29, eM_29⟩ : ∃ z, z = m1 Mi 14 i v4 := ⟨_, rfl⟩
                      have his : r_st K o ad I A I0 A_28 Z0 M_29 0 := by rw [eA_28, eM_29, nI_clamp (show i < 2 ^ 31 by omega)]; exact r_st_m his hro 14 rfl i v4
                      refine lv_iinc (v := nI (i + 1)) (lv' := [(7, .int (nI (i + 1))), (0, .ref o), (1, .int va), (2, .int vb), (6, .int v4)]) hx hb dX9_merge_264 hl (k := 4) rfl (nI_1 _) (by decide) rfl (fun ls hl => ?_)
                      refine lv_goto (tgt := 214) hx hb dX9_merge_267 (by decide) ?_
                      exact ih (i + 1, A_28) _ _ _ (by dsimp only; omega) ⟨⟨by omega, by rw [← fmp_step, ← mset_m1, ← eMi]; rw [eM_29] at his; simpa [h_c, h_d] using his⟩, hw, lv_sub hl [1, 2, 3, 4, 0] rfl⟩
              · skip
                have q_190 : o_wrong Z M va vb = true := by have h9 := (b2i_ne _).mp c_190; simpa using h9
                exact absurd (q_67.symm.trans q_190) (by decide)
            · skip
              refine lv_iload hx hb dX9_merge_176 (lv_at hl 0 rfl) ?_
              refine lv_if_ne (tgt := 185) hx hb dX9_merge_178 (by decide) (fun c_178 => ?_) (fun c_178 => ?_)
              · skip
                have q_178 : (o_wrong Z M va vb) = true := by first | (have := (b2i_ne _).mp c_178; simpa using this) | (have := (b2i_eq _).mp c_178; simpa using this)
                refine lv_iconst (v := 0) hx hb dX9_merge_185 (by decide) ?_
                exact J_9 false _ _ ⟨(by simp [q_178]), hw⟩
              · skip
                have q_178 : (o_wrong Z M va vb) = false := by first | (have := (b2i_ne _).mp c_178; simpa using this) | (have := (b2i_eq _).mp c_178; simpa using this)
                refine lv_iconst (v := 1) hx hb dX9_merge_181 (by decide) ?_
                refine lv_goto (tgt := 186) hx hb dX9_merge_182 (by decide) ?_
                exact J_9 true _ _ ⟨(by simp [q_178]), hw⟩
        · skip
          refine lv_iload_n hx hb dX9_merge_154 rfl (lv_at hl 2 rfl) ?_
          refine lv_if_eq (tgt := 167) hx hb dX9_merge_155 (by decide) (fun c_155 => ?_) (fun c_155 => ?_)
          · skip
            have q_155 : (o_seg Z M va) = false := by first | (have := (b2i_ne _).mp c_155; simpa using this) | (have := (b2i_eq _).mp c_155; simpa using this)
            refine lv_iconst (v := 0) hx hb dX9_merge_167 (by decide) ?_
            exact J_6 false _ _ ⟨(by simp [q_155]), hw⟩
          · skip
            have q_155 : (o_seg Z M va) = true := by first | (have := (b2i_ne _).mp c_155; simpa using this) | (have := (b2i_eq _).mp c_155; simpa using this)
            refine lv_iload hx hb dX9_merge_158 (lv_at hl 1 rfl) ?_
            refine lv_if_eq (tgt := 167) hx hb dX9_merge_160 (by decide) (fun c_160 => ?_) (fun c_160 => ?_)
            · skip
              have q_160 : (o_seg Z M vb) = false := by first | (have := (b2i_ne _).mp c_160; simpa using this) | (have := (b2i_eq _).mp c_160; simpa using this)
              refine lv_iconst (v := 0) hx hb dX9_merge_167 (by decide) ?_
              exact J_6 false _ _ ⟨(by simp [q_155, q_160]), hw⟩
            · skip
              have q_160 : (o_seg Z M vb) = true := by first | (have := (b2i_ne _).mp c_160; simpa using this) | (have := (b2i_eq _).mp c_160; simpa using this)
              refine lv_iconst (v := 1) hx hb dX9_merge_163 (by decide) ?_
              refine lv_goto (tgt := 168) hx hb dX9_merge_164 (by decide) ?_
              exact J_6 true _ _ ⟨(by simp [q_155, q_160]), hw⟩
      · skip
        have q_67 : o_wrong Z M va vb = true := (b2i_ne _).mp c_67
        refine lv_aload_n hx hb dX9_merge_70 rfl (lv_at hl 3 rfl) ?_
        refine lv_iconst (v := 0) hx hb dX9_merge_71 (by decide) ?_
        refine p_10_31 hx hb hts (by decide +kernel) hown hw hro.1 (hts (.fieldLink RX9 151 "PirateindexModel" "causes" "I") (by decide +kernel)) dX9_merge_72 (fun H locs hw => ?_)
        obtain ⟨I_30, eI_30⟩ : ∃ z, z = m_up2 I_3 1031 o 0 := ⟨_, rfl⟩
        rw [← eI_30] at hw
        obtain ⟨Z_31, eZ_31⟩ : ∃ z, z = z1 Z 31 0 := ⟨_, rfl⟩
        have his : r_st K o ad I A I_30 A_4 Z_31 M 0 := by rw [eI_30, eZ_31]; exact r_st_z his 31 0 hro.1 (by decide)
        have h5_0 : Z_31 5 = Z 5 := by rw [eZ_31]; exact z1_n _ _ (by decide)
        have h31_0 : Z_31 31 = nI 0 := by rw [eZ_31]; exact z1_s _ _ _
        refine lv_aload_n hx hb dX9_merge_75 rfl (lv_at hl 3 rfl) ?_
        refine m_joinH (σ := Bool) 85 (fun b H locs => b = (!o_seg Z M va) ∧ m_wo G K I_30 R F A_4 N L T J D s H locs) (fun b => .int (b2i b) :: [.ref o]) ?_ (fun J_32 => ?_)
        · rintro _ H locs ⟨rfl, hw⟩
          refine lv_bipush (v := 115) hx hb dX9_merge_85 (by decide) ?_
          refine m_cv (va_runV (As := [.int (b2i (!o_seg Z M va)), .int 115]) (rest := []) ⟨hx, hb, hml, hown, hts⟩ (c_X9_blames l (Z := Z_31) (M := M) (th := 0) (!o_seg Z M va) 115 hro (r_st_self his) (by decide) (fun _ => ⟨0, by decide, h31_0⟩)) (cwV 2 hts gX9_merge_X9_blames rfl rfl rfl (by decide +kernel) ⟨Nat.le_of_ble_eq_true rfl, Nat.le_of_ble_eq_true rfl⟩) ⟨m_blind m_B_calling, m_recv hw (m_ent_10 hro.1) rfl, fun U hU hW => ⟨rfl, m_wo_call hw hU hW⟩⟩ rfl rfl hl.1 rfl (lv_room (Nat.le_of_ble_eq_true rfl)) dX9_merge_87 ⟨Nat.le_of_ble_eq_true rfl, Nat.le_of_ble_eq_true rfl⟩) hw (fun u_87 H locs hp_87 hw => ?_)
          obtain ⟨I_33, A_34⟩ := u_87
          have hw : m_wo G K I_33 R F A_34 N L T J D s H locs := hw
          dsimp only at hp_87
          have his := r_st_tr his hp_87.1
          obtain ⟨Z_35, eZ_35⟩ : ∃ z : Nat → Int32, z = (o_blames (Z_31, M) (!o_seg Z M va) 115).1 := ⟨_, rfl⟩
          rw [← eZ_35] at his
          obtain ⟨M_36, eM_36⟩ : ∃ z : Nat → Nat → Int32, z = (o_blames (Z_31, M) (!o_seg Z M va) 115).2 := ⟨_, rfl⟩
          rw [← eM_36] at his
          have h5_1 : Z_35 5 = Z 5 := by rw [eZ_35]; exact (o_bln (Z_31, M) _ _ (by decide)).trans h5_0
          have h31_1 : Z_35 31 = nI (0 + (Bool.toNat (!o_seg Z M va))) := by rw [eZ_35]; exact o_bl31 (Z_31, M) _ _ h31_0
          refine lv_aload_n hx hb dX9_merge_90 rfl (lv_at hl 3 rfl) ?_
          refine m_joinH (σ := Bool) 101 (fun b H locs => b = (!o_seg Z M vb) ∧ m_wo G K I_33 R F A_34 N L T J D s H locs) (fun b => .int (b2i b) :: [.ref o]) ?_ (fun J_37 => ?_)
          · rintro _ H locs ⟨rfl, hw⟩
            refine lv_bipush (v := 115) hx hb dX9_merge_101 (by decide) ?_
            refine m_cv (va_runV (As := [.int (b2i (!o_seg Z M vb)), .int 115]) (rest := []) ⟨hx, hb, hml, hown, hts⟩ (c_X9_blames l (Z := Z_35) (M := M_36) (th := 0) (!o_seg Z M vb) 115 hro (r_st_self his) (by decide) (fun h9 => ⟨(0 + (Bool.toNat (!o_seg Z M va))), by revert h9; cases o_seg Z M va <;> cases o_seg Z M vb <;> simp <;> first | done | exact fun _ => Bool.toNat_lt _ | exact Bool.toNat_lt _ | skip, h31_1⟩)) (cwV 2 hts gX9_merge_X9_blames rfl rfl rfl (by decide +kernel) ⟨Nat.le_of_ble_eq_true rfl, Nat.le_of_ble_eq_true rfl⟩) ⟨m_blind m_B_calling, m_recv hw (m_ent_10 hro.1) rfl, fun U hU hW => ⟨rfl, m_wo_call hw hU hW⟩⟩ rfl rfl hl.1 rfl (lv_room (Nat.le_of_ble_eq_true rfl)) dX9_merge_103 ⟨Nat.le_of_ble_eq_true rfl, Nat.le_of_ble_eq_true rfl⟩) hw (fun u_103 H locs hp_103 hw => ?_)
            obtain ⟨I_38, A_39⟩ := u_103
            have hw : m_wo G K I_38 R F A_39 N L T J D s H locs := hw
            dsimp only at hp_103
            have his := r_st_tr his hp_103.1
            obtain ⟨Z_40, eZ_40⟩ : ∃ z : Nat → Int32, z = (o_blames (Z_35, M_36) (!o_seg Z M vb) 115).1 := ⟨_, rfl⟩
            rw [← eZ_40] at his
            obtain ⟨M_41, eM_41⟩ : ∃ z : Nat → Nat → Int32, z = (o_blames (Z_35, M_36) (!o_seg Z M vb) 115).2 := ⟨_, rfl⟩
            rw [← eM_41] at his
            have h5_2 : Z_40 5 = Z 5 := by rw [eZ_40]; exact (o_bln (Z_35, M_36) _ _ (by decide)).trans h5_1
            have h31_2 : Z_40 31 = nI ((0 + (Bool.toNat (!o_seg Z M va))) + (Bool.toNat (!o_seg Z M vb))) := by rw [eZ_40]; exact o_bl31 (Z_35, M_36) _ _ h31_1
            refine lv_aload_n hx hb dX9_merge_106 rfl (lv_at hl 3 rfl) ?_
            refine m_joinH (σ := Bool) 124 (fun b H locs => b = (o_seg Z M va && decide (va = Z 5)) ∧ m_wo G K I_38 R F A_39 N L T J D s H locs) (fun b => .int (b2i b) :: [.ref o]) ?_ (fun J_42 => ?_)
            · rintro _ H locs ⟨rfl, hw⟩
              refine lv_bipush (v := 111) hx hb dX9_merge_124 (by decide) ?_
              refine m_cv (va_runV (As := [.int (b2i (o_seg Z M va && decide (va = Z 5))), .int 111]) (rest := []) ⟨hx, hb, hml, hown, hts⟩ (c_X9_blames l (Z := Z_40) (M := M_41) (th := 0) (o_seg Z M va && decide (va = Z 5)) 111 hro (r_st_self his) (by decide) (fun h9 => ⟨((0 + (Bool.toNat (!o_seg Z M va))) + (Bool.toNat (!o_seg Z M vb))), by revert h9; cases o_seg Z M va <;> cases o_seg Z M vb <;> simp <;> first | done | exact fun _ => Bool.toNat_lt _ | exact Bool.toNat_lt _ | skip, h31_2⟩)) (cwV 2 hts gX9_merge_X9_blames rfl rfl rfl (by decide +kernel) ⟨Nat.le_of_ble_eq_true rfl, Nat.le_of_ble_eq_true rfl⟩) ⟨m_blind m_B_calling, m_recv hw (m_ent_10 hro.1) rfl, fun U hU hW => ⟨rfl, m_wo_call hw hU hW⟩⟩ rfl rfl hl.1 rfl (lv_room (Nat.le_of_ble_eq_true rfl)) dX9_merge_126 ⟨Nat.le_of_ble_eq_true rfl, Nat.le_of_ble_eq_true rfl⟩) hw (fun u_126 H locs hp_126 hw => ?_)
              obtain ⟨I_43, A_44⟩ := u_126
              have hw : m_wo G K I_43 R F A_44 N L T J D s H locs := hw
              dsimp only at hp_126
              have his := r_st_tr his hp_126.1
              obtain ⟨Z_45, eZ_45⟩ : ∃ z : Nat → Int32, z = (o_blames (Z_40, M_41) (o_seg Z M va && decide (va = Z 5)) 111).1 := ⟨_, rfl⟩
              rw [← eZ_45] at his
              obtain ⟨M_46, eM_46⟩ : ∃ z : Nat → Nat → Int32, z = (o_blames (Z_40, M_41) (o_seg Z M va && decide (va = Z 5)) 111).2 := ⟨_, rfl⟩
              rw [← eM_46] at his
              have h5_3 : Z_45 5 = Z 5 := by rw [eZ_45]; exact (o_bln (Z_40, M_41) _ _ (by decide)).trans h5_2
              have h31_3 : Z_45 31 = nI (((0 + (Bool.toNat (!o_seg Z M va))) + (Bool.toNat (!o_seg Z M vb))) + (Bool.toNat (o_seg Z M va && decide (va = Z 5)))) := by rw [eZ_45]; exact o_bl31 (Z_40, M_41) _ _ h31_2
              refine lv_aload_n hx hb dX9_merge_129 rfl (lv_at hl 3 rfl) ?_
              refine m_joinH (σ := Bool) 148 (fun b H locs => b = (o_seg Z M vb && decide (vb = Z 5)) ∧ m_wo G K I_43 R F A_44 N L T J D s H locs) (fun b => .int (b2i b) :: [.ref o]) ?_ (fun J_47 => ?_)
              · rintro _ H locs ⟨rfl, hw⟩
                refine lv_bipush (v := 111) hx hb dX9_merge_148 (by decide) ?_
                refine m_cv (va_runV (As := [.int (b2i (o_seg Z M vb && decide (vb = Z 5))), .int 111]) (rest := []) ⟨hx, hb, hml, hown, hts⟩ (c_X9_blames l (Z := Z_45) (M := M_46) (th := 0) (o_seg Z M vb && decide (vb = Z 5)) 111 hro (r_st_self his) (by decide) (fun h9 => ⟨(((0 + (Bool.toNat (!o_seg Z M va))) + (Bool.toNat (!o_seg Z M vb))) + (Bool.toNat (o_seg Z M va && decide (va = Z 5)))), by revert h9; cases o_seg Z M va <;> cases o_seg Z M vb <;> simp <;> first | done | exact fun _ => Bool.toNat_lt _ | exact Bool.toNat_lt _ | skip, h31_3⟩)) (cwV 2 hts gX9_merge_X9_blames rfl rfl rfl (by decide +kernel) ⟨Nat.le_of_ble_eq_true rfl, Nat.le_of_ble_eq_true rfl⟩) ⟨m_blind m_B_calling, m_recv hw (m_ent_10 hro.1) rfl, fun U hU hW => ⟨rfl, m_wo_call hw hU hW⟩⟩ rfl rfl hl.1 rfl (lv_room (Nat.le_of_ble_eq_true rfl)) dX9_merge_150 ⟨Nat.le_of_ble_eq_true rfl, Nat.le_of_ble_eq_true rfl⟩) hw (fun u_150 H locs hp_150 hw => ?_)
                obtain ⟨I_48, A_49⟩ := u_150
                have hw : m_wo G K I_48 R F A_49 N L T J D s H locs := hw
                dsimp only at hp_150
                have his := r_st_tr his hp_150.1
                obtain ⟨Z_50, eZ_50⟩ : ∃ z : Nat → Int32, z = (o_blames (Z_45, M_46) (o_seg Z M vb && decide (vb = Z 5)) 111).1 := ⟨_, rfl⟩
                rw [← eZ_50] at his
                obtain ⟨M_51, eM_51⟩ : ∃ z : Nat → Nat → Int32, z = (o_blames (Z_45, M_46) (o_seg Z M vb && decide (vb = Z 5)) 111).2 := ⟨_, rfl⟩
                rw [← eM_51] at his
                have h5_4 : Z_50 5 = Z 5 := by rw [eZ_50]; exact (o_bln (Z_45, M_46) _ _ (by decide)).trans h5_3
                have h31_4 : Z_50 31 = nI ((((0 + (Bool.toNat (!o_seg Z M va))) + (Bool.toNat (!o_seg Z M vb))) + (Bool.toNat (o_seg Z M va && decide (va = Z 5)))) + (Bool.toNat (o_seg Z M vb && decide (vb = Z 5)))) := by rw [eZ_50]; exact o_bl31 (Z_45, M_46) _ _ h31_3
                refine lv_aload_n hx hb dX9_merge_153 rfl (lv_at hl 3 rfl) ?_
                refine m_joinH (σ := Bool) 168 (fun b H locs => b = (o_seg Z M va && o_seg Z M vb) ∧ m_wo G K I_48 R F A_49 N L T J D s H locs) (fun b => .int (b2i b) :: [.ref o]) ?_ (fun J_52 => ?_)
                · rintro _ H locs ⟨rfl, hw⟩
                  refine lv_iconst (v := 2) hx hb dX9_merge_168 (by decide) ?_
                  refine m_ci (va_runV (As := [.int (b2i (o_seg Z M va && o_seg Z M vb)), .int 2]) (rest := []) ⟨hx, hb, hml, hown, hts⟩ (c_X9_no l (Z := Z_50) (M := M_51) (th := 0) (o_seg Z M va && o_seg Z M vb) 2 hro (r_st_self his) ) (cwV 2 hts gX9_merge_X9_no rfl rfl rfl (by decide +kernel) ⟨Nat.le_of_ble_eq_true rfl, Nat.le_of_ble_eq_true rfl⟩) ⟨m_blind m_B_calling, m_recv hw (m_ent_10 hro.1) rfl, fun U hU hW => ⟨rfl, m_wo_call hw hU hW⟩⟩ rfl rfl hl.1 rfl (lv_room (Nat.le_of_ble_eq_true rfl)) dX9_merge_169 ⟨Nat.le_of_ble_eq_true rfl, Nat.le_of_ble_eq_true rfl⟩) hw (fun r_169 u_169 H locs hp_169 hw => ?_)
                  obtain ⟨I_53, A_54⟩ := u_169
                  have hw : m_wo G K I_53 R F A_54 N L T J D s H locs := hw
                  dsimp only at hp_169
                  have his := r_st_tr his hp_169.1
                  obtain rfl : r_169 = (b2i (!(o_seg Z M va && o_seg Z M vb))) := hp_169.2
                  refine lv_if_ne (tgt := 193) hx hb dX9_merge_172 (by decide) (fun c_172 => ?_) (fun c_172 => ?_)
                  · skip
                    have q_172 : (o_seg Z M va && o_seg Z M vb) = false := (Bool.not_eq_true' _).mp ((b2i_ne _).mp c_172)
                    refine lv_iconst (v := 0) hx hb dX9_merge_193 (by decide) ?_
                    exact W.iret (v := 0) hx hb hr (fun t ht hW => ⟨⟨0, (I_53, A_54), rfl, (by have ht : t_merge Z M va vb = 2 := (by unfold t_merge; rw [if_neg hab, if_neg (by rw [q_172]; decide)]); have hth : ((if (o_seg Z M va && o_seg Z M vb) then 0 else 2) : Int32) = 2 := (by simp [q_67, q_172]); rw [hth] at his; have e9 : (Z_50, M_51) = p_merge (Z, M) va vb := (by unfold p_merge; rw [if_neg hab, if_pos (show o_wrong Z M va vb = true from q_67)]; unfold o_mcause; simp only [eZ_31, eZ_35, eM_36, eZ_40, eM_41, eZ_45, eM_46, eZ_50, eM_51]); rw [ht, ← e9]; exact ⟨his, fun h => absurd h (by decide)⟩), m_wo_out hw ht hW.alike⟩, m_wo_F hw ht⟩) (m_wo_L hw) dX9_merge_194
                  · skip
                    have q_172 : (o_seg Z M va && o_seg Z M vb) = true := (Bool.not_eq_false' _).mp ((b2i_eq _).mp c_172)
                    refine lv_aload_n hx hb dX9_merge_175 rfl (lv_at hl 3 rfl) ?_
                    refine m_joinH (σ := Bool) 186 (fun b H locs => b = (!o_wrong Z M va vb) ∧ m_wo G K I_53 R F A_54 N L T J D s H locs) (fun b => .int (b2i b) :: [.ref o]) ?_ (fun J_55 => ?_)
                    · rintro _ H locs ⟨rfl, hw⟩
                      refine lv_iconst (v := 3) hx hb dX9_merge_186 (by decide) ?_
                      refine m_ci (va_runV (As := [.int (b2i (!o_wrong Z M va vb)), .int 3]) (rest := []) ⟨hx, hb, hml, hown, hts⟩ (c_X9_no l (Z := Z_50) (M := M_51) (th := (if (o_seg Z M va && o_seg Z M vb) then 0 else 2)) (!o_wrong Z M va vb) 3 hro (r_st_self his) ) (cwV 2 hts gX9_merge_X9_no rfl rfl rfl (by decide +kernel) ⟨Nat.le_of_ble_eq_true rfl, Nat.le_of_ble_eq_true rfl⟩) ⟨m_blind m_B_calling, m_recv hw (m_ent_10 hro.1) rfl, fun U hU hW => ⟨rfl, m_wo_call hw hU hW⟩⟩ rfl rfl hl.1 rfl (lv_room (Nat.le_of_ble_eq_true rfl)) dX9_merge_187 ⟨Nat.le_of_ble_eq_true rfl, Nat.le_of_ble_eq_true rfl⟩) hw (fun r_187 u_187 H locs hp_187 hw => ?_)
                      obtain ⟨I_56, A_57⟩ := u_187
                      have hw : m_wo G K I_56 R F A_57 N L T J D s H locs := hw
                      dsimp only at hp_187
                      have his := r_st_tr his hp_187.1
                      obtain rfl : r_187 = (b2i (!(!o_wrong Z M va vb))) := hp_187.2
                      refine lv_if_eq (tgt := 195) hx hb dX9_merge_190 (by decide) (fun c_190 => ?_) (fun c_190 => ?_)
                      · skip
                        have q_190 : o_wrong Z M va vb = false := by have h9 := (b2i_eq _).mp c_190; simpa using h9
                        exact absurd (q_67.symm.trans q_190) (by decide)
                      · skip
                        have q_190 : o_wrong Z M va vb = true := by have h9 := (b2i_ne _).mp c_190; simpa using h9
                        refine lv_iconst (v := 0) hx hb dX9_merge_193 (by decide) ?_
                        exact W.iret (v := 0) hx hb hr (fun t ht hW => ⟨⟨0, (I_56, A_57), rfl, (by have ht : t_merge Z M va vb = 3 := (by unfold t_merge; rw [if_neg hab, if_pos q_172, if_pos q_67]); have hth : ((if (!o_wrong Z M va vb) then 0 else 3) : Int32) = 3 := (by simp [q_67, q_172]); rw [hth] at his; have e9 : (Z_50, M_51) = p_merge (Z, M) va vb := (by unfold p_merge; rw [if_neg hab, if_pos (show o_wrong Z M va vb = true from q_67)]; unfold o_mcause; simp only [eZ_31, eZ_35, eM_36, eZ_40, eM_41, eZ_45, eM_46, eZ_50, eM_51]); rw [ht, ← e9]; exact ⟨his, fun h => absurd h (by decide)⟩), m_wo_out hw ht hW.alike⟩, m_wo_F hw ht⟩) (m_wo_L hw) dX9_merge_194
                    · skip
                      refine lv_iload hx hb dX9_merge_176 (lv_at hl 0 rfl) ?_
                      refine lv_if_ne (tgt := 185) hx hb dX9_merge_178 (by decide) (fun c_178 => ?_) (fun c_178 => ?_)
                      · skip
                        have q_178 : (o_wrong Z M va vb) = true := by first | (have := (b2i_ne _).mp c_178; simpa using this) | (have := (b2i_eq _).mp c_178; simpa using this)
                        refine lv_iconst (v := 0) hx hb dX9_merge_185 (by decide) ?_
                        exact J_55 false _ _ ⟨(by simp [q_178]), hw⟩
                      · skip
                        have q_178 : (o_wrong Z M va vb) = false := by first | (have := (b2i_ne _).mp c_178; simpa using this) | (have := (b2i_eq _).mp c_178; simpa using this)
                        refine lv_iconst (v := 1) hx hb dX9_merge_181 (by decide) ?_
                        refine lv_goto (tgt := 186) hx hb dX9_merge_182 (by decide) ?_
                        exact J_55 true _ _ ⟨(by simp [q_178]), hw⟩
                · skip
                  refine lv_iload_n hx hb dX9_merge_154 rfl (lv_at hl 2 rfl) ?_
                  refine lv_if_eq (tgt := 167) hx hb dX9_merge_155 (by decide) (fun c_155 => ?_) (fun c_155 => ?_)
                  · skip
                    have q_155 : (o_seg Z M va) = false := by first | (have := (b2i_ne _).mp c_155; simpa using this) | (have := (b2i_eq _).mp c_155; simpa using this)
                    refine lv_iconst (v := 0) hx hb dX9_merge_167 (by decide) ?_
                    exact J_52 false _ _ ⟨(by simp [q_155]), hw⟩
                  · skip
                    have q_155 : (o_seg Z M va) = true := by first | (have := (b2i_ne _).mp c_155; simpa using this) | (have := (b2i_eq _).mp c_155; simpa using this)
                    refine lv_iload hx hb dX9_merge_158 (lv_at hl 1 rfl) ?_
                    refine lv_if_eq (tgt := 167) hx hb dX9_merge_160 (by decide) (fun c_160 => ?_) (fun c_160 => ?_)
                    · skip
                      have q_160 : (o_seg Z M vb) = false := by first | (have := (b2i_ne _).mp c_160; simpa using this) | (have := (b2i_eq _).mp c_160; simpa using this)
                      refine lv_iconst (v := 0) hx hb dX9_merge_167 (by decide) ?_
                      exact J_52 false _ _ ⟨(by simp [q_155, q_160]), hw⟩
                    · skip
                      have q_160 : (o_seg Z M vb) = true := by first | (have := (b2i_ne _).mp c_160; simpa using this) | (have := (b2i_eq _).mp c_160; simpa using this)
                      refine lv_iconst (v := 1) hx hb dX9_merge_163 (by decide) ?_
                      refine lv_goto (tgt := 168) hx hb dX9_merge_164 (by decide) ?_
                      exact J_52 true _ _ ⟨(by simp [q_155, q_160]), hw⟩
              · skip
                refine lv_iload hx hb dX9_merge_130 (lv_at hl 1 rfl) ?_
                refine lv_if_eq (tgt := 147) hx hb dX9_merge_132 (by decide) (fun c_132 => ?_) (fun c_132 => ?_)
                · skip
                  have q_132 : (o_seg Z M vb) = false := by first | (have := (b2i_ne _).mp c_132; simpa using this) | (have := (b2i_eq _).mp c_132; simpa using this)
                  refine lv_iconst (v := 0) hx hb dX9_merge_147 (by decide) ?_
                  exact J_47 false _ _ ⟨(by first | (simp [q_132]; done) | (rw [q_132, decide_eq_true c_140]; rfl)), hw⟩
                · skip
                  have q_132 : (o_seg Z M vb) = true := by first | (have := (b2i_ne _).mp c_132; simpa using this) | (have := (b2i_eq _).mp c_132; simpa using this)
                  refine lv_iload_n hx hb dX9_merge_135 rfl (lv_at hl 5 rfl) ?_
                  refine lv_aload_n hx hb dX9_merge_136 rfl (lv_at hl 3 rfl) ?_
                  refine g_10_5 hx hb hts (by decide +kernel) hown hw hro.1 (hts (.fieldLink RX9 91 "PirateindexModel" "open" "I") (by decide +kernel)) dX9_merge_137 ?_
                  rw [show I_43 1005 o = Z_45 5 from his.1 5 (by decide)]
                  rw [h5_3]
                  refine lv_icmp_ne (tgt := 147) hx hb dX9_merge_140 (by decide) (fun c_140 => ?_) (fun c_140 => ?_)
                  · skip
                    refine lv_iconst (v := 0) hx hb dX9_merge_147 (by decide) ?_
                    exact J_47 false _ _ ⟨(by first | (simp [q_132, c_140]; done) | (rw [q_132, decide_eq_true c_140]; rfl)), hw⟩
                  · skip
                    refine lv_iconst (v := 1) hx hb dX9_merge_143 (by decide) ?_
                    refine lv_goto (tgt := 148) hx hb dX9_merge_144 (by decide) ?_
                    exact J_47 true _ _ ⟨(by first | (simp [q_132, c_140]; done) | (rw [q_132, decide_eq_true c_140]; rfl)), hw⟩
            · skip
              refine lv_iload_n hx hb dX9_merge_107 rfl (lv_at hl 2 rfl) ?_
              refine lv_if_eq (tgt := 123) hx hb dX9_merge_108 (by decide) (fun c_108 => ?_) (fun c_108 => ?_)
              · skip
                have q_108 : (o_seg Z M va) = false := by first | (have := (b2i_ne _).mp c_108; simpa using this) | (have := (b2i_eq _).mp c_108; simpa using this)
                refine lv_iconst (v := 0) hx hb dX9_merge_123 (by decide) ?_
                exact J_42 false _ _ ⟨(by first | (simp [q_108]; done) | (rw [q_108, decide_eq_true c_116]; rfl)), hw⟩
              · skip
                have q_108 : (o_seg Z M va) = true := by first | (have := (b2i_ne _).mp c_108; simpa using this) | (have := (b2i_eq _).mp c_108; simpa using this)
                refine lv_iload_n hx hb dX9_merge_111 rfl (lv_at hl 4 rfl) ?_
                refine lv_aload_n hx hb dX9_merge_112 rfl (lv_at hl 3 rfl) ?_
                refine g_10_5 hx hb hts (by decide +kernel) hown hw hro.1 (hts (.fieldLink RX9 91 "PirateindexModel" "open" "I") (by decide +kernel)) dX9_merge_113 ?_
                rw [show I_38 1005 o = Z_40 5 from his.1 5 (by decide)]
                rw [h5_2]
                refine lv_icmp_ne (tgt := 123) hx hb dX9_merge_116 (by decide) (fun c_116 => ?_) (fun c_116 => ?_)
                · skip
                  refine lv_iconst (v := 0) hx hb dX9_merge_123 (by decide) ?_
                  exact J_42 false _ _ ⟨(by first | (simp [q_108, c_116]; done) | (rw [q_108, decide_eq_true c_116]; rfl)), hw⟩
                · skip
                  refine lv_iconst (v := 1) hx hb dX9_merge_119 (by decide) ?_
                  refine lv_goto (tgt := 124) hx hb dX9_merge_120 (by decide) ?_
                  exact J_42 true _ _ ⟨(by first | (simp [q_108, c_116]; done) | (rw [q_108, decide_eq_true c_116]; rfl)), hw⟩
          · skip
            refine lv_iload hx hb dX9_merge_91 (lv_at hl 1 rfl) ?_
            refine lv_if_ne (tgt := 100) hx hb dX9_merge_93 (by decide) (fun c_93 => ?_) (fun c_93 => ?_)
            · skip
              have q_93 : (o_seg Z M vb) = true := by first | (have := (b2i_ne _).mp c_93; simpa using this) | (have := (b2i_eq _).mp c_93; simpa using this)
              refine lv_iconst (v := 0) hx hb dX9_merge_100 (by decide) ?_
              exact J_37 false _ _ ⟨(by simp [q_93]), hw⟩
            · skip
              have q_93 : (o_seg Z M vb) = false := by first | (have := (b2i_ne _).mp c_93; simpa using this) | (have := (b2i_eq _).mp c_93; simpa using this)
              refine lv_iconst (v := 1) hx hb dX9_merge_96 (by decide) ?_
              refine lv_goto (tgt := 101) hx hb dX9_merge_97 (by decide) ?_
              exact J_37 true _ _ ⟨(by simp [q_93]), hw⟩
        · skip
          refine lv_iload_n hx hb dX9_merge_76 rfl (lv_at hl 2 rfl) ?_
          refine lv_if_ne (tgt := 84) hx hb dX9_merge_77 (by decide) (fun c_77 => ?_) (fun c_77 => ?_)
          · skip
            have q_77 : (o_seg Z M va) = true := by first | (have := (b2i_ne _).mp c_77; simpa using this) | (have := (b2i_eq _).mp c_77; simpa using this)
            refine lv_iconst (v := 0) hx hb dX9_merge_84 (by decide) ?_
            exact J_32 false _ _ ⟨(by simp [q_77]), hw⟩
          · skip
            have q_77 : (o_seg Z M va) = false := by first | (have := (b2i_ne _).mp c_77; simpa using this) | (have := (b2i_eq _).mp c_77; simpa using this)
            refine lv_iconst (v := 1) hx hb dX9_merge_80 (by decide) ?_
            refine lv_goto (tgt := 85) hx hb dX9_merge_81 (by decide) ?_
            exact J_32 true _ _ ⟨(by simp [q_77]), hw⟩
    · skip
      refine lv_iload_n hx hb dX9_merge_33 rfl (lv_at hl 1 rfl) ?_
      refine lv_if_eq (tgt := 58) hx hb dX9_merge_34 (by decide) (fun c_34 => ?_) (fun c_34 => ?_)
      · skip
        have q_34 : (o_seg Z M va) = false := by first | (have := (b2i_ne _).mp c_34; simpa using this) | (have := (b2i_eq _).mp c_34; simpa using this)
        refine lv_iconst (v := 1) hx hb dX9_merge_58 (by decide) ?_
        refine lv_goto (tgt := 63) hx hb dX9_merge_59 (by decide) ?_
        exact J_5 true _ _ ⟨(by simp [o_wrong, q_34]), hw⟩
      · skip
        have q_34 : (o_seg Z M va) = true := by first | (have := (b2i_ne _).mp c_34; simpa using this) | (have := (b2i_eq _).mp c_34; simpa using this)
        refine lv_iload hx hb dX9_merge_37 (lv_at hl 0 rfl) ?_
        refine lv_if_eq (tgt := 58) hx hb dX9_merge_39 (by decide) (fun c_39 => ?_) (fun c_39 => ?_)
        · skip
          have q_39 : (o_seg Z M vb) = false := by first | (have := (b2i_ne _).mp c_39; simpa using this) | (have := (b2i_eq _).mp c_39; simpa using this)
          refine lv_iconst (v := 1) hx hb dX9_merge_58 (by decide) ?_
          refine lv_goto (tgt := 63) hx hb dX9_merge_59 (by decide) ?_
          exact J_5 true _ _ ⟨(by simp [o_wrong, q_34, q_39]), hw⟩
        · skip
          have q_39 : (o_seg Z M vb) = true := by first | (have := (b2i_ne _).mp c_39; simpa using this) | (have := (b2i_eq _).mp c_39; simpa using this)
          refine lv_iload_n hx hb dX9_merge_42 rfl (lv_at hl 3 rfl) ?_
          refine lv_aload_n hx hb dX9_merge_43 rfl (lv_at hl 2 rfl) ?_
          refine g_10_5 hx hb hts (by decide +kernel) hown hw hro.1 (hts (.fieldLink RX9 91 "PirateindexModel" "open" "I") (by decide +kernel)) dX9_merge_44 ?_
          rw [show I_3 1005 o = Z 5 from his.1 5 (by decide)]
          refine lv_icmp_eq (tgt := 58) hx hb dX9_merge_47 (by decide) (fun c_47 => ?_) (fun c_47 => ?_)
          · skip
            refine lv_iconst (v := 1) hx hb dX9_merge_58 (by decide) ?_
            refine lv_goto (tgt := 63) hx hb dX9_merge_59 (by decide) ?_
            exact J_5 true _ _ ⟨(by simp [o_wrong, q_34, q_39, c_47]), hw⟩
          · skip
            refine lv_iload_n hx hb dX9_merge_50 rfl (lv_at hl 4 rfl) ?_
            refine lv_aload_n hx hb dX9_merge_51 rfl (lv_at hl 2 rfl) ?_
            refine g_10_5 hx hb hts (by decide +kernel) hown hw hro.1 (hts (.fieldLink RX9 91 "PirateindexModel" "open" "I") (by decide +kernel)) dX9_merge_52 ?_
            rw [show I_3 1005 o = Z 5 from his.1 5 (by decide)]
            refine lv_icmp_ne (tgt := 62) hx hb dX9_merge_55 (by decide) (fun c_55 => ?_) (fun c_55 => ?_)
            · skip
              refine lv_iconst (v := 0) hx hb dX9_merge_62 (by decide) ?_
              exact J_5 false _ _ ⟨(by simp [o_wrong, q_34, q_39, c_47, c_55]), hw⟩
            · skip
              refine lv_iconst (v := 1) hx hb dX9_merge_58 (by decide) ?_
              refine lv_goto (tgt := 63) hx hb dX9_merge_59 (by decide) ?_
              exact J_5 true _ _ ⟨(by simp [o_wrong, q_34, q_39, c_47, c_55]), hw⟩

