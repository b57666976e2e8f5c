def o_ck (M : mM) : Nat → Int64
  | 0 => 7
  | n + 1 => 31 * (31 * (31 * o_ck M n + (M 11 n).toInt64) + (M 12 n).toInt64) + (M 13 n).toInt64 + (if M 16 n = 0 then (0 : Int32) else 100).toInt64
set_option maxHeartbeats 400000 in
set_option maxRecDepth 100000 in
theorem c_X9_checksum (l : Launch) {G : mG} {K : Nat → Nat} {I : Nat → Nat → Int32} {R : Nat → Nat → Option Nat} {F : Nat → UInt32} {A : Nat → Nat → Int32} {N : Nat → Nat} {L : Nat → List Nat} {T : Nat → List Int32} {J : Nat → Nat → Int64} {D : Nat → Nat → UInt64} {o : Nat} {ad : Nat → Nat} {Z : Nat → Int32} {M : Nat → Nat → Int32} {th : Int32} {nf : Nat} (hro : r_ok K R N o ad) (hz : r_st K o ad I A I A Z M th) (hnf : Z 1 = nI nf) (hn : nf ≤ 120) : Met l yX9_checksum wsX9_checksum ({ frames := 0, cells := 0, slots := 0, locals := 0 } : Room) (va_Pc [.ref o] (m_B G K I R F A N L T J D)) (va_Ql (fun (r : Int64) (_ : Unit) => r = o_ck M nf) (fun u : Unit => m_B G K I R F A N L T J D) (m_A G)) 0 0 (m_A G) := by
  refine Met.ofW (cc := cX9_checksum) (maxL := 4) (ret := (some .long)) (by decide) rfl ?_
  intro p e s m args below meth c s₁ B hml hv
  obtain ⟨rfl, hB⟩ := hv
  have hx := B.exec
  have hb := B.bytes
  have hr := B.returns
  have hts := atoms_spec (ws := wsX9_checksum) B.pre
  have hown : s.vm.findClass RX9 = some m.cls := findClass_of_methodNamed B.named
  have hlocks := B.notSynchronized
  have hw := m_wo_in hB
  have hl := lv_entry ([.ref o]) (n := 4) (Nat.le_of_ble_eq_true rfl)
  rw [lg_entry_eq]
  generalize (lg_sl ([.ref o]) ++ List.replicate (4 - (lg_sl ([.ref o])).length) Slot.unset).toArray = ls at hl ⊢
  have hl : lv_has ls 4 [(0, .ref o)] := hl
  have his := hz
  refine lv_ldc2 (v := 7) hx hb hown (hts (.constantLong RX9 221 7) (by decide +kernel)) dX9_checksum_0 ?_
  refine lv_lstore_n (lv' := [(1, .long 7), (0, .ref o)]) hx hb dX9_checksum_3 rfl hl (by decide) rfl (fun ls hl => ?_)
  refine lv_iconst (v := 0) hx hb dX9_checksum_4 (by decide) ?_
  refine lv_istore_n (lv' := [(3, .int 0), (1, .long 7), (0, .ref o)]) hx hb dX9_checksum_5 rfl hl (by decide) rfl (fun ls hl => ?_)
  refine m_loop (σ := Nat × Int64) (fun a => nf - (a.1)) (fun a H locs ls => ((a.1) ≤ nf ∧ (a.2) = o_ck M (a.1)) ∧ m_wo G K I R F A N L T J D s H locs ∧ lv_has ls 4 [(0, .ref o), (1, .long (a.2)), (3, .int (nI (a.1)))]) ?_ (0, 7) ⟨⟨Nat.zero_le _, rfl⟩, hw, lv_sub hl [2, 1, 0] rfl⟩
  rintro ⟨i, x⟩ H locs ls ⟨hinv, hw, hl⟩ ih
  dsimp only at hinv hw hl
  refine lv_iload_n hx hb dX9_checksum_6 rfl (lv_at hl 2 rfl) ?_
  refine lv_aload_n hx hb dX9_checksum_7 rfl (lv_at hl 0 rfl) ?_
  refine g_10_1 hx hb hts (by decide +kernel) hown hw hro.1 (hts (.fieldLink RX9 118 "PirateindexModel" "finds" "I") (by decide +kernel)) dX9_checksum_8 ?_
  rw [show I 1001 o = Z 1 from his.1 1 (by decide)]
  rw [hnf]
  refine lv_icmp_ge (tgt := 79) hx hb dX9_checksum_11 (by decide) (fun c_11 => ?_) (fun c_11 => ?_)
  · skip
    rw [nI_leI (by omega) (by omega)] at c_11
    have hi : i = nf := by omega
    subst hi
    refine lv_lload_n hx hb dX9_checksum_79 rfl (lv_at hl 1 rfl) ?_
    exact W.lret (v := x) hx hb hr (fun t ht hW => ⟨⟨x, (), rfl, hinv.2, m_wo_out hw ht hW.alike⟩, m_wo_F hw ht⟩) (m_wo_L hw) dX9_checksum_80
  · skip
    rw [nI_leI (by omega) (by omega)] at c_11
    have hi : i < nf := by omega
    refine lv_ldc2 (v := 31) hx hb hown (hts (.constantLong RX9 223 31) (by decide +kernel)) dX9_checksum_14 ?_
    refine lv_lload_n hx hb dX9_checksum_17 rfl (lv_at hl 1 rfl) ?_
    refine lv_lmul hx hb dX9_checksum_18 ?_
    refine lv_aload_n hx hb dX9_checksum_19 rfl (lv_at hl 0 rfl) ?_
    refine g_10_11 (r := some (ad 11)) hx hb hts (by decide +kernel) hown hw hro.1 (hts (.fieldLink RX9 23 "PirateindexModel" "words" "[I") (by decide +kernel)) (hro.2.1 11 rfl).1 dX9_checksum_20 ?_
    refine lv_iload_n hx hb dX9_checksum_23 rfl (lv_at hl 2 rfl) ?_
    refine m_iaload_20 hx hb hw (hro.2.1 11 rfl).2.1 (r_in hro 11 rfl (n := 120) rfl (by omega)) dX9_checksum_24 ?_
    rw [show A (ad 11) = M 11 from his.2.1 11 rfl]
    rw [nI_clamp (show i < 2 ^ 31 by omega)]
    refine lv_i2l (v := ((M 11 i)).toInt64) hx hb dX9_checksum_25 rfl ?_
    refine lv_ladd hx hb dX9_checksum_26 ?_
    refine lv_lstore_n (lv' := [(1, .long ((31 * x) + (((M 11 i)).toInt64))), (0, .ref o), (3, .int (nI i))]) hx hb dX9_checksum_27 rfl hl (by decide) rfl (fun ls hl => ?_)
    refine lv_ldc2 (v := 31) hx hb hown (hts (.constantLong RX9 223 31) (by decide +kernel)) dX9_checksum_28 ?_
    refine lv_lload_n hx hb dX9_checksum_31 rfl (lv_at hl 0 rfl) ?_
    refine lv_lmul hx hb dX9_checksum_32 ?_
    refine lv_aload_n hx hb dX9_checksum_33 rfl (lv_at hl 1 rfl) ?_
    refine g_10_12 (r := some (ad 12)) hx hb hts (by decide +kernel) hown hw hro.1 (hts (.fieldLink RX9 26 "PirateindexModel" "on" "[I") (by decide +kernel)) (hro.2.1 12 rfl).1 dX9_checksum_34 ?_
    refine lv_iload_n hx hb dX9_checksum_37 rfl (lv_at hl 2 rfl) ?_
    refine m_iaload_20 hx hb hw (hro.2.1 12 rfl).2.1 (r_in hro 12 rfl (n := 120) rfl (by omega)) dX9_checksum_38 ?_
    rw [show A (ad 12) = M 12 from his.2.1 12 rfl]
    rw [nI_clamp (show i < 2 ^ 31 by omega)]
    refine lv_i2l (v := ((M 12 i)).toInt64) hx hb dX9_checksum_39 rfl ?_
    refine lv_ladd hx hb dX9_checksum_40 ?_
    refine lv_lstore_n (lv' := [(1, .long ((31 * ((31 * x) + (((M 11 i)).toInt64))) + (((M 12 i)).toInt64))), (0, .ref o), (3, .int (nI i))]) hx hb dX9_checksum_41 rfl hl (by decide) rfl (fun ls hl => ?_)
    refine lv_ldc2 (v := 31) hx hb hown (hts (.constantLong RX9 223 31) (by decide +kernel)) dX9_checksum_42 ?_
    refine lv_lload_n hx hb dX9_checksum_45 rfl (lv_at hl 0 rfl) ?_
    refine lv_lmul hx hb dX9_checksum_46 ?_
    refine lv_aload_n hx hb dX9_checksum_47 rfl (lv_at hl 1 rfl) ?_
    refine g_10_13 (r := some (ad 13)) hx hb hts (by decide +kernel) hown hw hro.1 (hts (.fieldLink RX9 29 "PirateindexModel" "places" "[I") (by decide +kernel)) (hro.2.1 13 rfl).1 dX9_checksum_48 ?_
    refine lv_iload_n hx hb dX9_checksum_51 rfl (lv_at hl 2 rfl) ?_
    refine m_iaload_20 hx hb hw (hro.2.1 13 rfl).2.1 (r_in hro 13 rfl (n := 120) rfl (by omega)) dX9_checksum_52 ?_
    rw [show A (ad 13) = M 13 from his.2.1 13 rfl]
    rw [nI_clamp (show i < 2 ^ 31 by omega)]
    refine lv_i2l (v := ((M 13 i)).toInt64) hx hb dX9_checksum_53 rfl ?_
    refine lv_ladd hx hb dX9_checksum_54 ?_
    refine lv_aload_n hx hb dX9_checksum_55 rfl (lv_at hl 1 rfl) ?_
    refine g_10_16 (r := some (ad 16)) hx hb hts (by decide +kernel) hown hw hro.1 (hts (.fieldLink RX9 38 "PirateindexModel" "struck" "[Z") (by decide +kernel)) (hro.2.1 16 rfl).1 dX9_checksum_56 ?_
    refine lv_iload_n hx hb dX9_checksum_59 rfl (lv_at hl 2 rfl) ?_
    refine m_baload_30 hx hb hw (hro.2.1 16 rfl).2.1 (r_in hro 16 rfl (n := 120) rfl (by omega)) dX9_checksum_60 ?_
    rw [show A (ad 16) = M 16 from his.2.1 16 rfl]
    rw [nI_clamp (show i < 2 ^ 31 by omega)]
    refine lv_if_eq (tgt := 69) hx hb dX9_checksum_61 (by decide) (fun c_61 => ?_) (fun c_61 => ?_)
    · skip
      refine lv_iconst (v := 0) hx hb dX9_checksum_69 (by decide) ?_
      refine lv_i2l (v := ((0 : Int32)).toInt64) hx hb dX9_checksum_70 rfl ?_
      refine lv_ladd hx hb dX9_checksum_71 ?_
      refine lv_lstore_n (lv' := [(1, .long (((31 * ((31 * ((31 * x) + (((M 11 i)).toInt64))) + (((M 12 i)).toInt64))) + (((M 13 i)).toInt64)) + (((0 : Int32)).toInt64))), (0, .ref o), (3, .int (nI i))]) hx hb dX9_checksum_72 rfl hl (by decide) rfl (fun ls hl => ?_)
      refine lv_iinc (v := nI (i + 1)) (lv' := [(3, .int (nI (i + 1))), (1, .long (((31 * ((31 * ((31 * x) + (((M 11 i)).toInt64))) + (((M 12 i)).toInt64))) + (((M 13 i)).toInt64)) + (((0 : Int32)).toInt64))), (0, .ref o)]) hx hb dX9_checksum_73 hl (k := 2) rfl (nI_1 _) (by decide) rfl (fun ls hl => ?_)
      refine lv_goto (tgt := 6) hx hb dX9_checksum_76 (by decide) ?_
      exact ih (i + 1, (((31 * ((31 * ((31 * x) + (((M 11 i)).toInt64))) + (((M 12 i)).toInt64))) + (((M 13 i)).toInt64)) + (((0 : Int32)).toInt64))) _ _ _ (by dsimp only; omega) ⟨⟨by omega, by rw [hinv.2]; simp only [o_ck]; first | rw [if_pos c_61] | rw [if_neg c_61]⟩, hw, lv_sub hl [2, 1, 0] rfl⟩
    · skip
      refine lv_bipush (v := 100) hx hb dX9_checksum_64 (by decide) ?_
      refine lv_goto (tgt := 70) hx hb dX9_checksum_66 (by decide) ?_
      refine lv_i2l (v := ((100 : Int32)).toInt64) hx hb dX9_checksum_70 rfl ?_
      refine lv_ladd hx hb dX9_checksum_71 ?_
      refine lv_lstore_n (lv' := [(1, .long (((31 * ((31 * ((31 * x) + (((M 11 i)).toInt64))) + (((M 12 i)).toInt64))) + (((M 13 i)).toInt64)) + (((100 : Int32)).toInt64))), (0, .ref o), (3, .int (nI i))]) hx hb dX9_checksum_72 rfl hl (by decide) rfl (fun ls hl => ?_)
      refine lv_iinc (v := nI (i + 1)) (lv' := [(3, .int (nI (i + 1))), (1, .long (((31 * ((31 * ((31 * x) + (((M 11 i)).toInt64))) + (((M 12 i)).toInt64))) + (((M 13 i)).toInt64)) + (((100 : Int32)).toInt64))), (0, .ref o)]) hx hb dX9_checksum_73 hl (k := 2) rfl (nI_1 _) (by decide) rfl (fun ls hl => ?_)
      refine lv_goto (tgt := 6) hx hb dX9_checksum_76 (by decide) ?_
      exact ih (i + 1, (((31 * ((31 * ((31 * x) + (((M 11 i)).toInt64))) + (((M 12 i)).toInt64))) + (((M 13 i)).toInt64)) + (((100 : Int32)).toInt64))) _ _ _ (by dsimp only; omega) ⟨⟨by omega, by rw [hinv.2]; simp only [o_ck]; first | rw [if_pos c_61] | rw [if_neg c_61]⟩, hw, lv_sub hl [2, 1, 0] rfl⟩

