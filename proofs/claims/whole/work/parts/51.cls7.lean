/-- is there room on the shelf: room in the open segment, segments, finds -/
def c_room (rm ns nn : Int32) : Bool := decide (ns + (if nn - rm ≤ 0 then 0 else (nn - rm + 10 - 1) / 10) ≤ 20)
set_option maxHeartbeats 400000 in
set_option maxRecDepth 100000 in
theorem c_X5_hasRoomFor_o (l : Launch) {G : mG} {K : Nat → Nat} {I : Nat → Nat → Int32} {R : Nat → Nat → Option Nat} {F : Nat → UInt32} {A : Nat → Nat → Int32} {N : Nat → Nat} {L : Nat → List Nat} {T : Nat → List Int32} {J : Nat → Nat → Int64} {D : Nat → Nat → UInt64} {o lr : Nat} {sg fl : Nat} {nn : Int32} (hko : K o = 6) (hrow : R 60 o = some lr) (hlr : K lr = 11) (hel : ∀ a, a ∈ L lr → K a = 5) (hop : R 61 o = some sg) (hksg : K sg = 5) (hfl : R 51 sg = some fl) (hkf : K fl = 11) : Met l yX5_hasRoomFor wsX5_hasRoomFor ({ frames := 3, cells := 0, slots := 0, locals := 120 } : Room) (va_Pc [.ref o, .int nn] (m_B G K I R F A N L T J D)) (va_Qi (fun (r : Int32) (_ : Unit) => r = b2i (c_room (10 - nI (L fl).length) (nI (L lr).length) nn)) (fun u : Unit => m_B G K I R F A N L T J D) (m_A G)) 0 0 (m_A G) := by
  refine Met.ofW (cc := cX5_hasRoomFor) (maxL := 5) (ret := (some .boolean)) (by decide) rfl ?_
  intro p e s m args below meth c s₁ B hml hv
  obtain ⟨rfl, hB⟩ := hv
  have hx := B.exec
  have hb := B.bytes
  have hr := B.returns
  have hts := atoms_spec (ws := wsX5_hasRoomFor) B.pre
  have hown : s.vm.findClass RX5 = some m.cls := findClass_of_methodNamed B.named
  have hlocks := B.notSynchronized
  have hw := m_wo_in hB
  have hl := lv_entry ([.ref o, .int nn]) (n := 5) (Nat.le_of_ble_eq_true rfl)
  rw [lg_entry_eq]
  generalize (lg_sl ([.ref o, .int nn]) ++ List.replicate (5 - (lg_sl ([.ref o, .int nn])).length) Slot.unset).toArray = ls at hl ⊢
  have hl : lv_has ls 5 [(0, .ref o), (1, .int nn)] := hl
  have hlen := m_len hw hlr
  refine lv_aload_n hx hb dX5_hasRoomFor_0 rfl (lv_at hl 0 rfl) ?_
  refine g_6_1 (r := (R 61 o)) hx hb hts (by decide +kernel) hown hw hko (hts (.fieldLink RX5 23 "Pirateindex$Shelf" "open" "LPirateindex$Segment;") (by decide +kernel)) rfl dX5_hasRoomFor_1 ?_
  refine m_ifnonnullQ (tgt := 11) hx hb dX5_hasRoomFor_4 (by decide) (fun c_4 => absurd c_4 (by rw [hop]; simp)) (fun z_4 c_4 => ?_)
  refine lv_bipush (v := 10) hx hb dX5_hasRoomFor_11 (by decide) ?_
  refine lv_aload_n hx hb dX5_hasRoomFor_13 rfl (lv_at hl 0 rfl) ?_
  refine g_6_1 (r := some sg) hx hb hts (by decide +kernel) hown hw hko (hts (.fieldLink RX5 23 "Pirateindex$Shelf" "open" "LPirateindex$Segment;") (by decide +kernel)) hop dX5_hasRoomFor_14 ?_
  refine g_5_1 (r := some fl) hx hb hts (by decide +kernel) hown hw hksg (hts (.fieldLink RX5 46 "Pirateindex$Segment" "finds" "Ljava/util/ArrayList;") (by decide +kernel)) hfl dX5_hasRoomFor_17 ?_
  refine m_ci (va_runV (As := []) (rest := [.int 10]) ⟨hx, hb, hml, hown, hts⟩ (c_Jx4a65c_size_8abf5 l hkf) (cwV 0 hts gX5_hasRoomFor_Jx4a65c_size_8abf5 rfl rfl rfl (by decide +kernel) ⟨Nat.le_of_ble_eq_true rfl, Nat.le_of_ble_eq_true rfl⟩) ⟨m_blind m_B_calling, m_recv hw (m_ent_11 hkf) rfl, fun U hU hW => ⟨rfl, m_wo_call hw hU hW⟩⟩ rfl rfl hl.1 rfl (lv_room (Nat.le_of_ble_eq_true rfl)) dX5_hasRoomFor_20 ⟨Nat.le_of_ble_eq_true rfl, Nat.le_of_ble_eq_true rfl⟩) hw (fun r_20 u_20 H locs hp_20 hw => ?_)
  obtain rfl : r_20 = (nI (L fl).length) := hp_20
  refine lv_isub hx hb dX5_hasRoomFor_23 ?_
  refine lv_istore_n (lv' := [(2, .int (10 - (nI (L fl).length))), (0, .ref o), (1, .int nn)]) hx hb dX5_hasRoomFor_24 rfl hl (by decide) rfl (fun ls hl => ?_)
  refine lv_iload_n hx hb dX5_hasRoomFor_25 rfl (lv_at hl 2 rfl) ?_
  refine lv_iload_n hx hb dX5_hasRoomFor_26 rfl (lv_at hl 0 rfl) ?_
  refine lv_isub hx hb dX5_hasRoomFor_27 ?_
  refine lv_istore_n (lv' := [(3, .int (nn - (10 - (nI (L fl).length)))), (2, .int (10 - (nI (L fl).length))), (0, .ref o), (1, .int nn)]) hx hb dX5_hasRoomFor_28 rfl hl (by decide) rfl (fun ls hl => ?_)
  refine lv_iload_n hx hb dX5_hasRoomFor_29 rfl (lv_at hl 0 rfl) ?_
  refine lv_if_gt (tgt := 37) hx hb dX5_hasRoomFor_30 (by decide) (fun c_30 => ?_) (fun c_30 => ?_)
  · skip
    have h30 := Int32.not_le.mpr c_30
    refine lv_iload_n hx hb dX5_hasRoomFor_37 rfl (lv_at hl 0 rfl) ?_
    refine lv_bipush (v := 10) hx hb dX5_hasRoomFor_38 (by decide) ?_
    refine lv_iadd hx hb dX5_hasRoomFor_40 ?_
    refine lv_iconst (v := 1) hx hb dX5_hasRoomFor_41 (by decide) ?_
    refine lv_isub hx hb dX5_hasRoomFor_42 ?_
    refine lv_bipush (v := 10) hx hb dX5_hasRoomFor_43 (by decide) ?_
    refine lv_idiv hx hb dX5_hasRoomFor_45 (by decide) ?_
    refine lv_istore (lv' := [(4, .int ((((nn - (10 - (nI (L fl).length))) + 10) - 1) / 10)), (3, .int (nn - (10 - (nI (L fl).length)))), (2, .int (10 - (nI (L fl).length))), (0, .ref o), (1, .int nn)]) hx hb dX5_hasRoomFor_46 hl (by decide) rfl (fun ls hl => ?_)
    refine lv_aload_n hx hb dX5_hasRoomFor_48 rfl (lv_at hl 3 rfl) ?_
    refine g_6_0 (r := some lr) hx hb hts (by decide +kernel) hown hw hko (hts (.fieldLink RX5 12 "Pirateindex$Shelf" "row" "Ljava/util/ArrayList;") (by decide +kernel)) hrow dX5_hasRoomFor_49 ?_
    refine m_ci (va_runV (As := []) (rest := []) ⟨hx, hb, hml, hown, hts⟩ (c_Jx4a65c_size_8abf5 l hlr) (cwV 0 hts gX5_hasRoomFor_Jx4a65c_size_8abf5 rfl rfl rfl (by decide +kernel) ⟨Nat.le_of_ble_eq_true rfl, Nat.le_of_ble_eq_true rfl⟩) ⟨m_blind m_B_calling, m_recv hw (m_ent_11 hlr) rfl, fun U hU hW => ⟨rfl, m_wo_call hw hU hW⟩⟩ rfl rfl hl.1 rfl (lv_room (Nat.le_of_ble_eq_true rfl)) dX5_hasRoomFor_52 ⟨Nat.le_of_ble_eq_true rfl, Nat.le_of_ble_eq_true rfl⟩) hw (fun r_52 u_52 H locs hp_52 hw => ?_)
    obtain rfl : r_52 = (nI (L lr).length) := hp_52
    refine lv_iload hx hb dX5_hasRoomFor_55 (lv_at hl 0 rfl) ?_
    refine lv_iadd hx hb dX5_hasRoomFor_57 ?_
    refine lv_bipush (v := 20) hx hb dX5_hasRoomFor_58 (by decide) ?_
    refine lv_icmp_gt (tgt := 67) hx hb dX5_hasRoomFor_60 (by decide) (fun c_60 => ?_) (fun c_60 => ?_)
    · skip
      have h60 := Int32.not_le.mpr c_60
      refine lv_iconst (v := 0) hx hb dX5_hasRoomFor_67 (by decide) ?_
      exact W.zret (v := 0) hx hb hr (by rfl) (fun t ht hW => ⟨⟨0, (), rfl, (by unfold c_room; rw [if_neg h30, decide_eq_false h60]; rfl), m_wo_out hw ht hW.alike⟩, m_wo_F hw ht⟩) (m_wo_L hw) dX5_hasRoomFor_68
    · skip
      have h60 := Int32.not_lt.mp c_60
      refine lv_iconst (v := 1) hx hb dX5_hasRoomFor_63 (by decide) ?_
      refine lv_goto (tgt := 68) hx hb dX5_hasRoomFor_64 (by decide) ?_
      exact W.zret (v := 1) hx hb hr (by rfl) (fun t ht hW => ⟨⟨1, (), rfl, (by unfold c_room; rw [if_neg h30, decide_eq_true h60]; rfl), m_wo_out hw ht hW.alike⟩, m_wo_F hw ht⟩) (m_wo_L hw) dX5_hasRoomFor_68
  · skip
    have h30 := Int32.not_lt.mp c_30
    refine lv_iconst (v := 0) hx hb dX5_hasRoomFor_33 (by decide) ?_
    refine lv_goto (tgt := 46) hx hb dX5_hasRoomFor_34 (by decide) ?_
    refine lv_istore (lv' := [(4, .int 0), (3, .int (nn - (10 - (nI (L fl).length)))), (2, .int (10 - (nI (L fl).length))), (0, .ref o), (1, .int nn)]) hx hb dX5_hasRoomFor_46 hl (by decide) rfl (fun ls hl => ?_)
    refine lv_aload_n hx hb dX5_hasRoomFor_48 rfl (lv_at hl 3 rfl) ?_
    refine g_6_0 (r := some lr) hx hb hts (by decide +kernel) hown hw hko (hts (.fieldLink RX5 12 "Pirateindex$Shelf" "row" "Ljava/util/ArrayList;") (by decide +kernel)) hrow dX5_hasRoomFor_49 ?_
    refine m_ci (va_runV (As := []) (rest := []) ⟨hx, hb, hml, hown, hts⟩ (c_Jx4a65c_size_8abf5 l hlr) (cwV 0 hts gX5_hasRoomFor_Jx4a65c_size_8abf5 rfl rfl rfl (by decide +kernel) ⟨Nat.le_of_ble_eq_true rfl, Nat.le_of_ble_eq_true rfl⟩) ⟨m_blind m_B_calling, m_recv hw (m_ent_11 hlr) rfl, fun U hU hW => ⟨rfl, m_wo_call hw hU hW⟩⟩ rfl rfl hl.1 rfl (lv_room (Nat.le_of_ble_eq_true rfl)) dX5_hasRoomFor_52 ⟨Nat.le_of_ble_eq_true rfl, Nat.le_of_ble_eq_true rfl⟩) hw (fun r_52 u_52 H locs hp_52 hw => ?_)
    obtain rfl : r_52 = (nI (L lr).length) := hp_52
    refine lv_iload hx hb dX5_hasRoomFor_55 (lv_at hl 0 rfl) ?_
    refine lv_iadd hx hb dX5_hasRoomFor_57 ?_
    refine lv_bipush (v := 20) hx hb dX5_hasRoomFor_58 (by decide) ?_
    refine lv_icmp_gt (tgt := 67) hx hb dX5_hasRoomFor_60 (by decide) (fun c_60 => ?_) (fun c_60 => ?_)
    · skip
      have h60 := Int32.not_le.mpr c_60
      refine lv_iconst (v := 0) hx hb dX5_hasRoomFor_67 (by decide) ?_
      exact W.zret (v := 0) hx hb hr (by rfl) (fun t ht hW => ⟨⟨0, (), rfl, (by unfold c_room; rw [if_pos h30, decide_eq_false h60]; rfl), m_wo_out hw ht hW.alike⟩, m_wo_F hw ht⟩) (m_wo_L hw) dX5_hasRoomFor_68
    · skip
      have h60 := Int32.not_lt.mp c_60
      refine lv_iconst (v := 1) hx hb dX5_hasRoomFor_63 (by decide) ?_
      refine lv_goto (tgt := 68) hx hb dX5_hasRoomFor_64 (by decide) ?_
      exact W.zret (v := 1) hx hb hr (by rfl) (fun t ht hW => ⟨⟨1, (), rfl, (by unfold c_room; rw [if_pos h30, decide_eq_true h60]; rfl), m_wo_out hw ht hW.alike⟩, m_wo_F hw ht⟩) (m_wo_L hw) dX5_hasRoomFor_68
set_option maxHeartbeats 400000 in
set_option maxRecDepth 100000 in
theorem c_X5_hasRoomFor_n (l : Launch) {G : mG} {K : Nat → Nat} {I : Nat → Nat → Int32} {R : Nat → Nat → Option Nat} {F : Nat → UInt32} {A : Nat → Nat → Int32} {N : Nat → Nat} {L : Nat → List Nat} {T : Nat → List Int32} {J : Nat → Nat → Int64} {D : Nat → Nat → UInt64} {o lr : Nat} {nn : Int32} (hko : K o = 6) (hrow : R 60 o = some lr) (hlr : K lr = 11) (hel : ∀ a, a ∈ L lr → K a = 5) (hop : R 61 o = none) : Met l yX5_hasRoomFor wsX5_hasRoomFor ({ frames := 3, cells := 0, slots := 0, locals := 120 } : Room) (va_Pc [.ref o, .int nn] (m_B G K I R F A N L T J D)) (va_Qi (fun (r : Int32) (_ : Unit) => r = b2i (c_room 0 (nI (L lr).length) nn)) (fun u : Unit => m_B G K I R F A N L T J D) (m_A G)) 0 0 (m_A G) := by
  refine Met.ofW (cc := cX5_hasRoomFor) (maxL := 5) (ret := (some .boolean)) (by decide) rfl ?_
  intro p e s m args below meth c s₁ B hml hv
  obtain ⟨rfl, hB⟩ := hv
  have hx := B.exec
  have hb := B.bytes
  have hr := B.returns
  have hts := atoms_spec (ws := wsX5_hasRoomFor) B.pre
  have hown : s.vm.findClass RX5 = some m.cls := findClass_of_methodNamed B.named
  have hlocks := B.notSynchronized
  have hw := m_wo_in hB
  have hl := lv_entry ([.ref o, .int nn]) (n := 5) (Nat.le_of_ble_eq_true rfl)
  rw [lg_entry_eq]
  generalize (lg_sl ([.ref o, .int nn]) ++ List.replicate (5 - (lg_sl ([.ref o, .int nn])).length) Slot.unset).toArray = ls at hl ⊢
  have hl : lv_has ls 5 [(0, .ref o), (1, .int nn)] := hl
  have hlen := m_len hw hlr
  refine lv_aload_n hx hb dX5_hasRoomFor_0 rfl (lv_at hl 0 rfl) ?_
  refine g_6_1 (r := (R 61 o)) hx hb hts (by decide +kernel) hown hw hko (hts (.fieldLink RX5 23 "Pirateindex$Shelf" "open" "LPirateindex$Segment;") (by decide +kernel)) rfl dX5_hasRoomFor_1 ?_
  refine m_ifnonnullQ (tgt := 11) hx hb dX5_hasRoomFor_4 (by decide) (fun c_4 => ?_) (fun z_4 c_4 => absurd (c_4.symm.trans hop) (by simp))
  refine lv_iconst (v := 0) hx hb dX5_hasRoomFor_7 (by decide) ?_
  refine lv_goto (tgt := 24) hx hb dX5_hasRoomFor_8 (by decide) ?_
  refine lv_istore_n (lv' := [(2, .int 0), (0, .ref o), (1, .int nn)]) hx hb dX5_hasRoomFor_24 rfl hl (by decide) rfl (fun ls hl => ?_)
  refine lv_iload_n hx hb dX5_hasRoomFor_25 rfl (lv_at hl 2 rfl) ?_
  refine lv_iload_n hx hb dX5_hasRoomFor_26 rfl (lv_at hl 0 rfl) ?_
  refine lv_isub hx hb dX5_hasRoomFor_27 ?_
  refine lv_istore_n (lv' := [(3, .int (nn - 0)), (2, .int 0), (0, .ref o), (1, .int nn)]) hx hb dX5_hasRoomFor_28 rfl hl (by decide) rfl (fun ls hl => ?_)
  refine lv_iload_n hx hb dX5_hasRoomFor_29 rfl (lv_at hl 0 rfl) ?_
  refine lv_if_gt (tgt := 37) hx hb dX5_hasRoomFor_30 (by decide) (fun c_30 => ?_) (fun c_30 => ?_)
  · skip
    have h30 := Int32.not_le.mpr c_30
    refine lv_iload_n hx hb dX5_hasRoomFor_37 rfl (lv_at hl 0 rfl) ?_
    refine lv_bipush (v := 10) hx hb dX5_hasRoomFor_38 (by decide) ?_
    refine lv_iadd hx hb dX5_hasRoomFor_40 ?_
    refine lv_iconst (v := 1) hx hb dX5_hasRoomFor_41 (by decide) ?_
    refine lv_isub hx hb dX5_hasRoomFor_42 ?_
    refine lv_bipush (v := 10) hx hb dX5_hasRoomFor_43 (by decide) ?_
    refine lv_idiv hx hb dX5_hasRoomFor_45 (by decide) ?_
    refine lv_istore (lv' := [(4, .int ((((nn - 0) + 10) - 1) / 10)), (3, .int (nn - 0)), (2, .int 0), (0, .ref o), (1, .int nn)]) hx hb dX5_hasRoomFor_46 hl (by decide) rfl (fun ls hl => ?_)
    refine lv_aload_n hx hb dX5_hasRoomFor_48 rfl (lv_at hl 3 rfl) ?_
    refine g_6_0 (r := some lr) hx hb hts (by decide +kernel) hown hw hko (hts (.fieldLink RX5 12 "Pirateindex$Shelf" "row" "Ljava/util/ArrayList;") (by decide +kernel)) hrow dX5_hasRoomFor_49 ?_
    refine m_ci (va_runV (As := []) (rest := []) ⟨hx, hb, hml, hown, hts⟩ (c_Jx4a65c_size_8abf5 l hlr) (cwV 0 hts gX5_hasRoomFor_Jx4a65c_size_8abf5 rfl rfl rfl (by decide +kernel) ⟨Nat.le_of_ble_eq_true rfl, Nat.le_of_ble_eq_true rfl⟩) ⟨m_blind m_B_calling, m_recv hw (m_ent_11 hlr) rfl, fun U hU hW => ⟨rfl, m_wo_call hw hU hW⟩⟩ rfl rfl hl.1 rfl (lv_room (Nat.le_of_ble_eq_true rfl)) dX5_hasRoomFor_52 ⟨Nat.le_of_ble_eq_true rfl, Nat.le_of_ble_eq_true rfl⟩) hw (fun r_52 u_52 H locs hp_52 hw => ?_)
    obtain rfl : r_52 = (nI (L lr).length) := hp_52
    refine lv_iload hx hb dX5_hasRoomFor_55 (lv_at hl 0 rfl) ?_
    refine lv_iadd hx hb dX5_hasRoomFor_57 ?_
    refine lv_bipush (v := 20) hx hb dX5_hasRoomFor_58 (by decide) ?_
    refine lv_icmp_gt (tgt := 67) hx hb dX5_hasRoomFor_60 (by decide) (fun c_60 => ?_) (fun c_60 => ?_)
    · skip
      have h60 := Int32.not_le.mpr c_60
      refine lv_iconst (v := 0) hx hb dX5_hasRoomFor_67 (by decide) ?_
      exact W.zret (v := 0) hx hb hr (by rfl) (fun t ht hW => ⟨⟨0, (), rfl, (by unfold c_room; rw [if_neg h30, decide_eq_false h60]; rfl), m_wo_out hw ht hW.alike⟩, m_wo_F hw ht⟩) (m_wo_L hw) dX5_hasRoomFor_68
    · skip
      have h60 := Int32.not_lt.mp c_60
      refine lv_iconst (v := 1) hx hb dX5_hasRoomFor_63 (by decide) ?_
      refine lv_goto (tgt := 68) hx hb dX5_hasRoomFor_64 (by decide) ?_
      exact W.zret (v := 1) hx hb hr (by rfl) (fun t ht hW => ⟨⟨1, (), rfl, (by unfold c_room; rw [if_neg h30, decide_eq_true h60]; rfl), m_wo_out hw ht hW.alike⟩, m_wo_F hw ht⟩) (m_wo_L hw) dX5_hasRoomFor_68
  · skip
    have h30 := Int32.not_lt.mp c_30
    refine lv_iconst (v := 0) hx hb dX5_hasRoomFor_33 (by decide) ?_
    refine lv_goto (tgt := 46) hx hb dX5_hasRoomFor_34 (by decide) ?_
    refine lv_istore (lv' := [(4, .int 0), (3, .int (nn - 0)), (2, .int 0), (0, .ref o), (1, .int nn)]) hx hb dX5_hasRoomFor_46 hl (by decide) rfl (fun ls hl => ?_)
    refine lv_aload_n hx hb dX5_hasRoomFor_48 rfl (lv_at hl 3 rfl) ?_
    refine g_6_0 (r := some lr) hx hb hts (by decide +kernel) hown hw hko (hts (.fieldLink RX5 12 "Pirateindex$Shelf" "row" "Ljava/util/ArrayList;") (by decide +kernel)) hrow dX5_hasRoomFor_49 ?_
    refine m_ci (va_runV (As := []) (rest := []) ⟨hx, hb, hml, hown, hts⟩ (c_Jx4a65c_size_8abf5 l hlr) (cwV 0 hts gX5_hasRoomFor_Jx4a65c_size_8abf5 rfl rfl rfl (by decide +kernel) ⟨Nat.le_of_ble_eq_true rfl, Nat.le_of_ble_eq_true rfl⟩) ⟨m_blind m_B_calling, m_recv hw (m_ent_11 hlr) rfl, fun U hU hW => ⟨rfl, m_wo_call hw hU hW⟩⟩ rfl rfl hl.1 rfl (lv_room (Nat.le_of_ble_eq_true rfl)) dX5_hasRoomFor_52 ⟨Nat.le_of_ble_eq_true rfl, Nat.le_of_ble_eq_true rfl⟩) hw (fun r_52 u_52 H locs hp_52 hw => ?_)
    obtain rfl : r_52 = (nI (L lr).length) := hp_52
    refine lv_iload hx hb dX5_hasRoomFor_55 (lv_at hl 0 rfl) ?_
    refine lv_iadd hx hb dX5_hasRoomFor_57 ?_
    refine lv_bipush (v := 20) hx hb dX5_hasRoomFor_58 (by decide) ?_
    refine lv_icmp_gt (tgt := 67) hx hb dX5_hasRoomFor_60 (by decide) (fun c_60 => ?_) (fun c_60 => ?_)
    · skip
      have h60 := Int32.not_le.mpr c_60
      refine lv_iconst (v := 0) hx hb dX5_hasRoomFor_67 (by decide) ?_
      exact W.zret (v := 0) hx hb hr (by rfl) (fun t ht hW => ⟨⟨0, (), rfl, (by unfold c_room; rw [if_pos h30, decide_eq_false h60]; rfl), m_wo_out hw ht hW.alike⟩, m_wo_F hw ht⟩) (m_wo_L hw) dX5_hasRoomFor_68
    · skip
      have h60 := Int32.not_lt.mp c_60
      refine lv_iconst (v := 1) hx hb dX5_hasRoomFor_63 (by decide) ?_
      refine lv_goto (tgt := 68) hx hb dX5_hasRoomFor_64 (by decide) ?_
      exact W.zret (v := 1) hx hb hr (by rfl) (fun t ht hW => ⟨⟨1, (), rfl, (by unfold c_room; rw [if_pos h30, decide_eq_true h60]; rfl), m_wo_out hw ht hW.alike⟩, m_wo_F hw ht⟩) (m_wo_L hw) dX5_hasRoomFor_68
set_option maxHeartbeats 400000 in
set_option maxRecDepth 100000 in
theorem c_X5_lose (l : Launch) {G : mG} {K : Nat → Nat} {I : Nat → Nat → Int32} {R : Nat → Nat → Option Nat} {F : Nat → UInt32} {A : Nat → Nat → Int32} {N : Nat → Nat} {L : Nat → List Nat} {T : Nat → List Int32} {J : Nat → Nat → Int64} {D : Nat → Nat → UInt64} {o lr : Nat} {sg fl : Nat} (hko : K o = 6) (hrow : R 60 o = some lr) (hlr : K lr = 11) (hel : ∀ a, a ∈ L lr → K a = 5) (hsg : sg ∈ L lr) (hfl : R 51 sg = some fl) (hkf : K fl = 11) (hel1 : ∀ a, a ∈ L fl → K a = 1) (hnl : fl ≠ lr) : Met l yX5_lose wsX5_lose ({ frames := 4, cells := 0, slots := 0, locals := 180 } : Room) (va_Pc [.ref o, .ref sg] (m_B G K I R F A N L T J D)) (va_Qv (fun (u : (Nat → Nat → Int32) × (Nat → Nat → Option Nat) × (Nat → List Nat)) => (∀ f b, f ≠ 110 → u.1 f b = I f b) ∧ u.2.2 = m_up L lr ((L lr).erase sg) ∧ (∀ f b, f ≠ 15 → u.2.1 f b = R f b) ∧ (∀ b, b ∈ L fl → u.2.1 15 b = none) ∧ ∀ b, b ∉ L fl → u.2.1 15 b = R 15 b) (fun u : (Nat → Nat → Int32) × (Nat → Nat → Option Nat) × (Nat → List Nat) => m_B G K (u.1) (u.2.1) F A N (u.2.2) T J D) (m_A G)) 0 0 (m_A G) := by
  refine Met.ofW (cc := cX5_lose) (maxL := 3) (ret := none) (by decide) rfl ?_
  intro p e s m args below meth c s₁ B hml hv
  obtain ⟨rfl, hB⟩ := hv
  have hx := B.exec
  have hb := B.bytes
  have hr := B.returns
  have hts := atoms_spec (ws := wsX5_lose) B.pre
  have hown : s.vm.findClass RX5 = some m.cls := findClass_of_methodNamed B.named
  have hlocks := B.notSynchronized
  have hw := m_wo_in hB
  have hl := lv_entry ([.ref o, .ref sg]) (n := 3) (Nat.le_of_ble_eq_true rfl)
  rw [lg_entry_eq]
  generalize (lg_sl ([.ref o, .ref sg]) ++ List.replicate (3 - (lg_sl ([.ref o, .ref sg])).length) Slot.unset).toArray = ls at hl ⊢
  have hl : lv_has ls 3 [(0, .ref o), (1, .ref sg)] := hl
  have hlen := m_len hw hlr
  refine lv_aload_n hx hb dX5_lose_0 rfl (lv_at hl 0 rfl) ?_
  refine lv_aload_n hx hb dX5_lose_1 rfl (lv_at hl 1 rfl) ?_
  refine m_cv (va_runV (As := [.ref sg]) (rest := []) ⟨hx, hb, hml, hown, hts⟩ (c_X5_takeOff l hko hrow hlr hel hsg) (cwV 1 hts gX5_lose_X5_takeOff rfl rfl rfl (by decide +kernel) ⟨Nat.le_of_ble_eq_true rfl, Nat.le_of_ble_eq_true rfl⟩) ⟨m_blind m_B_calling, m_recv hw (m_ent_6 hko) rfl, fun U hU hW => ⟨rfl, m_wo_call hw hU hW⟩⟩ rfl rfl hl.1 rfl (lv_room (Nat.le_of_ble_eq_true rfl)) dX5_lose_2 ⟨Nat.le_of_ble_eq_true rfl, Nat.le_of_ble_eq_true rfl⟩) hw (fun u_2 H locs hp_2 hw => ?_)
  obtain ⟨I_1, L_2⟩ := u_2
  have hw : m_wo G K I_1 R F A N L_2 T J D s H locs := hw
  dsimp only at hp_2
  obtain ⟨hI9, hL9⟩ := hp_2
  have hLf : L_2 fl = L fl := by rw [hL9]; exact m_up_ne _ _ hnl
  have hlenf := m_len hw hkf
  rw [hLf] at hlenf
  refine lv_iconst (v := 0) hx hb dX5_lose_5 (by decide) ?_
  refine lv_istore_n (lv' := [(2, .int 0), (0, .ref o), (1, .ref sg)]) hx hb dX5_lose_6 rfl hl (by decide) rfl (fun ls hl => ?_)
  refine m_loop (σ := Nat × (Nat → Nat → Option Nat)) (fun a => (L fl).length - (a.1)) (fun a H locs ls => ((a.1) ≤ (L fl).length ∧ (∀ f b, f ≠ 15 → (a.2) f b = R f b) ∧ (∀ j, j < (a.1) → (a.2) 15 ((L fl).getD j 0) = none) ∧ ∀ b, b ∉ L fl → (a.2) 15 b = R 15 b) ∧ m_wo G K I_1 (a.2) F A N L_2 T J D s H locs ∧ lv_has ls 3 [(0, .ref o), (1, .ref sg), (2, .int (nI (a.1)))]) ?_ (0, R) ⟨⟨Nat.zero_le _, fun _ _ _ => rfl, fun _ h => absurd h (Nat.not_lt_zero _), fun _ _ => rfl⟩, hw, lv_sub hl [1, 2, 0] rfl⟩
  rintro ⟨i, Ri⟩ H locs ls ⟨hinv, hw, hl⟩ ih
  dsimp only at hinv hw hl
  obtain ⟨hi0, hR0, hR1, hR2⟩ := hinv
  refine lv_iload_n hx hb dX5_lose_7 rfl (lv_at hl 2 rfl) ?_
  refine lv_aload_n hx hb dX5_lose_8 rfl (lv_at hl 1 rfl) ?_
  refine g_5_1 (r := some fl) hx hb hts (by decide +kernel) hown hw (hel sg hsg) (hts (.fieldLink RX5 46 "Pirateindex$Segment" "finds" "Ljava/util/ArrayList;") (by decide +kernel)) ((hR0 51 sg (by decide)).trans hfl) dX5_lose_9 ?_
  refine m_ci (va_runV (As := []) (rest := [.int (nI i)]) ⟨hx, hb, hml, hown, hts⟩ (c_Jx4a65c_size_8abf5 l hkf) (cwV 0 hts gX5_lose_Jx4a65c_size_8abf5 rfl rfl rfl (by decide +kernel) ⟨Nat.le_of_ble_eq_true rfl, Nat.le_of_ble_eq_true rfl⟩) ⟨m_blind m_B_calling, m_recv hw (m_ent_11 hkf) rfl, fun U hU hW => ⟨rfl, m_wo_call hw hU hW⟩⟩ rfl rfl hl.1 rfl (lv_room (Nat.le_of_ble_eq_true rfl)) dX5_lose_12 ⟨Nat.le_of_ble_eq_true rfl, Nat.le_of_ble_eq_true rfl⟩) hw (fun r_12 u_12 H locs hp_12 hw => ?_)
  obtain rfl : r_12 = nI (L fl).length := hp_12.trans (congrArg (fun z => nI (List.length z)) hLf)
  refine lv_icmp_ge (tgt := 39) hx hb dX5_lose_15 (by decide) (fun c_15 => ?_) (fun c_15 => ?_)
  · skip
    rw [nI_leI (by omega) (by omega)] at c_15
    have hi : i = (L fl).length := by omega
    exact W.vret hx hb hr (fun t ht hW => ⟨⟨(I_1, Ri, L_2), rfl, ⟨hI9, hL9, hR0, fun b hb => by
    obtain ⟨j, hj, hj2⟩ := List.getElem_of_mem hb
    rw [← lg_get (List.getElem?_eq_some_iff.mpr ⟨hj, hj2⟩)]
    exact hR1 j (by omega), hR2⟩, m_wo_out hw ht hW.alike⟩, m_wo_F hw ht⟩) (m_wo_L hw) dX5_lose_39
  · skip
    rw [nI_leI (by omega) (by omega)] at c_15
    have hi : i < (L fl).length := by omega
    refine lv_aload_n hx hb dX5_lose_18 rfl (lv_at hl 1 rfl) ?_
    refine g_5_1 (r := some fl) hx hb hts (by decide +kernel) hown hw (hel sg hsg) (hts (.fieldLink RX5 46 "Pirateindex$Segment" "finds" "Ljava/util/ArrayList;") (by decide +kernel)) ((hR0 51 sg (by decide)).trans hfl) dX5_lose_19 ?_
    refine lv_iload_n hx hb dX5_lose_22 rfl (lv_at hl 2 rfl) ?_
    obtain ⟨ai, ha⟩ : ∃ z, (L fl)[i]? = some z := ⟨_, lg_some hi⟩
    have hka : K ai = 1 := hel1 ai (List.mem_of_getElem? ha)
    refine m_cq (va_runV (As := [.int (nI i)]) (rest := []) ⟨hx, hb, hml, hown, hts⟩ (c_Jx4a65c_get_915e3 l (i := i) hkf (by rw [hLf]; exact hi)) (cwV 1 hts gX5_lose_Jx4a65c_get_915e3 rfl rfl rfl (by decide +kernel) ⟨Nat.le_of_ble_eq_true rfl, Nat.le_of_ble_eq_true rfl⟩) ⟨m_blind m_B_calling, m_recv hw (m_ent_11 hkf) rfl, fun U hU hW => ⟨rfl, m_wo_call hw hU hW⟩⟩ rfl rfl hl.1 rfl (lv_room (Nat.le_of_ble_eq_true rfl)) dX5_lose_23 ⟨Nat.le_of_ble_eq_true rfl, Nat.le_of_ble_eq_true rfl⟩) hw (fun r_23 u_23 H locs hp_23 hw => ?_)
    obtain rfl : r_23 = some ai := hp_23.trans (by rw [hLf]; exact ha)
    refine va_castS hx hb hown (hts (.classLink RX5 61 "Pirateindex$Find") (by decide +kernel)) (hw.1.1 5 _ rfl).2 (m_recv hw (m_ent_1 hka) rfl) dX5_lose_26 ?_
    refine lv_null hx hb dX5_lose_29 ?_
    refine p_1_5 hx hb hts (by decide +kernel) hown hw hka (hts (.fieldLink RX5 63 "Pirateindex$Find" "segment" "LPirateindex$Segment;") (by decide +kernel)) none dX5_lose_30 (fun H locs hw => ?_)
    refine lv_iinc (v := nI (i + 1)) (lv' := [(2, .int (nI (i + 1))), (0, .ref o), (1, .ref sg)]) hx hb dX5_lose_33 hl (k := 2) rfl (nI_1 _) (by decide) rfl (fun ls hl => ?_)
    refine lv_goto (tgt := 7) hx hb dX5_lose_36 (by decide) ?_
    exact ih (i + 1, m_up2 Ri 15 ai none) _ _ _ (by dsimp only; omega) ⟨⟨by omega, fun f b hf => (m_up2_ni _ _ hf).trans (hR0 f b hf), fun j hj => by
    have hj9 : j < i + 1 := hj
    show m_up2 Ri 15 ai none 15 ((L fl).getD j 0) = none
    unfold m_up2
    by_cases h : (L fl).getD j 0 = ai
    · rw [if_pos ⟨rfl, h⟩]
    · rw [if_neg (fun z => h z.2)]
      exact hR1 j (by
        rcases Nat.lt_or_ge j i with h2 | h2
        · exact h2
        · exact absurd (by rw [show j = i by omega, lg_get ha]) h), fun b hb => (m_up2_ne _ _ (fun z => hb (by rw [z]; exact List.mem_of_getElem? ha))).trans (hR2 b hb)⟩, hw, lv_sub hl [1, 2, 0] rfl⟩
