section
variable {p : Program} {l : Launch} {e : Env} {R0 : Room} {s : State} {m : MethodId} {args : Array Value} {below : List Frame} {meth : Method} {c : Code} {H : Heap} {locs : List Loc} {cells slots : Nat} {Q : State → Prop} {cc : ByteArray} {pc : Nat} {ls : Array Slot} {rest : List Value}
theorem va_ldcwF {T : State} (X : Stand p l e R0 s m args below meth c T locs cells slots) (hexec : p.tables.exec = Jvm.exec) {own : String} {index : Nat} {v : UInt32} (hown : s.vm.findClass own = some m.cls) (hconst : (Cond.constantFloat own index v).before args s = true) {g : JFrame} (hg : g.method = m) (hdg : decode c.code g.pc = .ok (.ldc_w index, 3)) :
    ∀ target, Steps p.tables e below (T.setTop { g with pc := g.pc + 3, stack := .float v :: g.stack }) target → Steps p.tables e below (T.setTop g) target := by
  obtain ⟨k, cf, hk, hcf, hcp⟩ := Cond.constantFloat_spec hown hconst
  obtain ⟨k', hk', he⟩ := X.warmed.alike.2.2 _ _ hk
  intro target hrest
  subst hg
  jvm_step X.here [hexec, hdg, ldc_w.wp_float (s := T) (f := g) X.here.top hk' (by rw [he]; exact hcf) hcp]
  exact hrest
theorem lv_ldcfw (hexec : p.tables.exec = Jvm.exec) (hb : c.code = cc) {own : String} {index : Nat} {v : UInt32} (hown : s.vm.findClass own = some m.cls) (hconst : (Jvm.Cond.constantFloat own index v).before args s = true) (hdg : decode cc pc = .ok (.ldc_w index, 3)) (k : W p l e R0 s m args below meth c H locs cells slots Q (F0 m (pc + 3) ls (.float v :: rest))) : W p l e R0 s m args below meth c H locs cells slots Q (F0 m pc ls rest) := by
  intro T hT X
  obtain ⟨t, a, b⟩ := k T hT X
  exact ⟨t, va_ldcwF X hexec hown hconst (g := F0 m pc ls rest) rfl (by rw [hb]; exact hdg) t a, b⟩
end
/-- halving x down to the span from 1 to 2 tells its bits, v -/
def o_bok (x : UInt32) (v : Int32) : Prop := ∃ (xs : Nat → UInt32) (m9 : Nat), xs 0 = x ∧ (∀ k, k < m9 → ¬ o_cmp (xs k) FP.fconst2 < 0 ∧ vf_n32 (FP.fdiv (xs k) FP.fconst2) ∧ FP.fdiv (xs k) FP.fconst2 = xs (k + 1)) ∧ o_cmp (xs m9) FP.fconst2 < 0 ∧ m9 ≤ 127 ∧ vf_n32 (FP.fsub (xs m9) FP.fconst1) ∧ vf_n32 (FP.fmul (FP.fsub (xs m9) FP.fconst1) 1258291200) ∧ v = ((nI (127 + m9) <<< (23 &&& 31)) + FP.f2i (FP.fmul (FP.fsub (xs m9) FP.fconst1) 1258291200))
theorem q_ht1 {Z : mZ} {M : mM} {nf ni nt : Nat} {v pl : Int32} (h : ¬ o_shp Z v = true) : t_hit Z M nf ni nt v pl = 1 := if_neg h
theorem q_ht2 {Z : mZ} {M : mM} {nf ni nt : Nat} {v pl : Int32} (h : o_shp Z v = true) (h2 : ¬ 0 < Z 29) : t_hit Z M nf ni nt v pl = 2 := (if_pos h).trans (if_neg h2)
theorem q_ht3 {Z : mZ} {M : mM} {nf ni nt : Nat} {v pl : Int32} (h : o_shp Z v = true) (h2 : 0 < Z 29) (h3 : o_rank Z M nf ni nt v.toNatClampNeg pl ni = -1) : t_hit Z M nf ni nt v pl = 3 := (if_pos h).trans ((if_pos h2).trans (if_pos h3))
theorem q_ht0 {Z : mZ} {M : mM} {nf ni nt : Nat} {v pl : Int32} (h : o_shp Z v = true) (h2 : 0 < Z 29) (h3 : ¬ o_rank Z M nf ni nt v.toNatClampNeg pl ni = -1) : t_hit Z M nf ni nt v pl = 0 := (if_pos h).trans ((if_pos h2).trans (if_neg h3))
set_option maxHeartbeats 800000 in
set_option maxRecDepth 100000 in
theorem c_X8_bitsOf (l : Launch) {G : mG} {K : Nat → Nat} {I : Nat → Nat → Int32} {R : Nat → Nat → Option Nat} {F : Nat → UInt32} {A : Nat → Nat → Int32} {N : Nat → Nat} {L : Nat → List Nat} {T : Nat → List Int32} {J : Nat → Nat → Int64} {D : Nat → Nat → UInt64} {x9 : UInt32} {xs : Nat → UInt32} {m9 : Nat} (hx0 : xs 0 = x9) (hb1 : ∀ k, k < m9 → ¬ o_cmp (xs k) FP.fconst2 < 0 ∧ vf_n32 (FP.fdiv (xs k) FP.fconst2) ∧ FP.fdiv (xs k) FP.fconst2 = xs (k + 1)) (hb2 : o_cmp (xs m9) FP.fconst2 < 0) (hb3 : m9 ≤ 127) (hb4 : vf_n32 (FP.fsub (xs m9) FP.fconst1)) (hb5 : vf_n32 (FP.fmul (FP.fsub (xs m9) FP.fconst1) 1258291200)) : Met l yX8_bitsOf wsX8_bitsOf ({ frames := 0, cells := 0, slots := 0, locals := 0 } : Room) (va_Pc [.float x9] (m_B G K I R F A N L T J D)) (va_Qi (fun (r : Int32) (_ : Unit) => r = ((nI (127 + m9) <<< (23 &&& 31)) + FP.f2i (FP.fmul (FP.fsub (xs m9) FP.fconst1) 1258291200))) (fun u : Unit => m_B G K I R F A N L T J D) (m_A G)) 0 0 (m_A G) := by
  refine Met.ofW (cc := cX8_bitsOf) (maxL := 4) (ret := (some .int)) (by decide) rfl ?_
  intro p e s m args below meth c s₁ B hml hv
  obtain ⟨rfl, hB⟩ := hv
  have hx := B.exec
  have hb := B.bytes
  have hr := B.returns
  have hts := atoms_spec (ws := wsX8_bitsOf) B.pre
  have hown : s.vm.findClass RX8 = some m.cls := findClass_of_methodNamed B.named
  have hlocks := B.notSynchronized
  have hw := m_wo_in hB
  have hl := lv_entry ([.float x9]) (n := 4) (Nat.le_of_ble_eq_true rfl)
  rw [lg_entry_eq]
  generalize (lg_sl ([.float x9]) ++ List.replicate (4 - (lg_sl ([.float x9])).length) Slot.unset).toArray = ls at hl ⊢
  have hl : lv_has ls 4 [(0, .float x9)] := hl
  subst hx0
  refine lv_bipush (v := 127) hx hb dX8_bitsOf_0 (by decide) ?_
  refine lv_istore_n (lv' := [(1, .int 127), (0, .float (xs 0))]) hx hb dX8_bitsOf_2 rfl hl (by decide) rfl (fun ls hl => ?_)
  refine lv_fload_n hx hb dX8_bitsOf_3 rfl (lv_at hl 1 rfl) ?_
  refine lv_fstore_n (lv' := [(2, .float (xs 0)), (1, .int 127), (0, .float (xs 0))]) hx hb dX8_bitsOf_4 rfl hl (by decide) rfl (fun ls hl => ?_)
  refine m_loop (σ := Nat) (fun a => m9 - (a)) (fun a H locs ls => ((a) ≤ m9) ∧ m_wo G K I R F A N L T J D s H locs ∧ lv_has ls 4 [(1, .int (nI (127 + (a)))), (2, .float (xs (a)))]) ?_ (0) ⟨Nat.zero_le _, hw, lv_sub hl [1, 0] rfl⟩
  rintro k H locs ls ⟨hinv, hw, hl⟩ ih
  try dsimp only at hinv hw hl
  refine lv_fload_n hx hb dX8_bitsOf_5 rfl (lv_at hl 1 rfl) ?_
  refine lv_fconst2 hx hb dX8_bitsOf_6 ?_
  refine lv_fcmp hx hb dX8_bitsOf_7 ?_
  refine lv_if_lt (tgt := 28) hx hb dX8_bitsOf_8 (by decide) (fun c_8 => ?_) (fun c_8 => ?_)
  · skip
    have hk : k = m9 := Nat.le_antisymm hinv (Nat.le_of_not_lt (fun z => (hb1 k z).1 c_8))
    subst hk
    refine lv_fload_n hx hb dX8_bitsOf_28 rfl (lv_at hl 1 rfl) ?_
    refine lv_fconst1 hx hb dX8_bitsOf_29 ?_
    refine lv_fsub hx hb dX8_bitsOf_30 hb4 ?_
    refine lv_ldcfw (v := 1258291200) hx hb hown (hts (.constantFloat RX8 414 1258291200) (by decide +kernel)) dX8_bitsOf_31 ?_
    refine lv_fmul hx hb dX8_bitsOf_34 hb5 ?_
    refine lv_f2i hx hb dX8_bitsOf_35 ?_
    refine lv_istore_n (lv' := [(3, .int (FP.f2i (FP.fmul (FP.fsub (xs k) (FP.fconst1)) 1258291200))), (1, .int (nI (127 + k))), (2, .float (xs k))]) hx hb dX8_bitsOf_36 rfl hl (by decide) rfl (fun ls hl => ?_)
    refine lv_iload_n hx hb dX8_bitsOf_37 rfl (lv_at hl 1 rfl) ?_
    refine lv_bipush (v := 23) hx hb dX8_bitsOf_38 (by decide) ?_
    refine lv_ishl hx hb dX8_bitsOf_40 ?_
    refine lv_iload_n hx hb dX8_bitsOf_41 rfl (lv_at hl 0 rfl) ?_
    refine lv_iadd hx hb dX8_bitsOf_42 ?_
    exact W.iret (v := (((nI (127 + k)) <<< (23 &&& 31)) + (FP.f2i (FP.fmul (FP.fsub (xs k) (FP.fconst1)) 1258291200)))) hx hb hr (fun t ht hW => ⟨⟨(((nI (127 + k)) <<< (23 &&& 31)) + (FP.f2i (FP.fmul (FP.fsub (xs k) (FP.fconst1)) 1258291200))), (), rfl, rfl, m_wo_out hw ht hW.alike⟩, m_wo_F hw ht⟩) (m_wo_L hw) dX8_bitsOf_43
  · skip
    have hk : k < m9 := Nat.lt_of_le_of_ne hinv (fun z => c_8 (by rw [z]; exact hb2))
    refine lv_iload_n hx hb dX8_bitsOf_11 rfl (lv_at hl 0 rfl) ?_
    refine lv_sipush (v := 254) hx hb dX8_bitsOf_12 (by decide) ?_
    refine lv_icmp_ge (tgt := 28) hx hb dX8_bitsOf_15 (by decide) (fun c_15 => absurd c_15 (fun z => by have h9 := (nI_leI (a := 254) (b := 127 + k) (by decide) (by omega)).mp z; omega)) (fun c_15 => ?_)
    refine lv_fload_n hx hb dX8_bitsOf_18 rfl (lv_at hl 1 rfl) ?_
    refine lv_fconst2 hx hb dX8_bitsOf_19 ?_
    refine lv_fdiv hx hb dX8_bitsOf_20 (hb1 k hk).2.1 ?_
    rw [(hb1 k hk).2.2]
    refine lv_fstore_n (lv' := [(2, .float (xs (k + 1))), (1, .int (nI (127 + k)))]) hx hb dX8_bitsOf_21 rfl hl (by decide) rfl (fun ls hl => ?_)
    refine lv_iinc (v := nI ((127 + k) + 1)) (lv' := [(1, .int (nI ((127 + k) + 1))), (2, .float (xs (k + 1)))]) hx hb dX8_bitsOf_22 hl (k := 1) rfl (nI_1 _) (by decide) rfl (fun ls hl => ?_)
    refine lv_goto (tgt := 5) hx hb dX8_bitsOf_25 (by decide) ?_
    exact ih (k + 1) _ _ _ (by omega) ⟨(by omega), hw, lv_sub hl [0, 1] rfl⟩
set_option maxHeartbeats 800000 in
set_option maxRecDepth 100000 in
theorem c_X8_scoreBits (l : Launch) (hnt : l.stackTraces = false) {G : mG} {K : Nat → Nat} {I : Nat → Nat → Int32} {R : Nat → Nat → Option Nat} {F : Nat → UInt32} {A : Nat → Nat → Int32} {N : Nat → Nat} {L : Nat → List Nat} {T : Nat → List Int32} {J : Nat → Nat → Int64} {D : Nat → Nat → UInt64} {o : Nat} {cd : Nat → Nat} {Z : Nat → Int32} {M : Nat → Nat → Int32} {nn : Int32} {nt : Nat} (hs : c_sim K I R N A L T o cd Z M) (hz9 : Z 29 = nI nt) (h4t : nt ≤ 4) (h12 : ∀ f, f < (L (cd 1)).length → ∃ i, i < (L (cd 0)).length ∧ M 12 f = nI i) (hnn : 0 < Z 29 → o_nan (o_askT (Z, M)).1 (o_askT (Z, M)).2 (L (cd 1)).length (L (cd 0)).length nt) (hlt : ∀ i, o_hitT Z M i < 2 ^ 31) (hbk : 0 < Z 29 → 0 < o_hitT Z M nn → o_bok (o_score (o_askT (Z, M)).1 (o_askT (Z, M)).2 (L (cd 1)).length (L (cd 0)).length nt nn) (o_score (o_askT (Z, M)).1 (o_askT (Z, M)).2 (L (cd 1)).length (L (cd 0)).length nt nn).toInt32) : vx_Met l yX8_scoreBits wsX8_scoreBits ({ frames := 9, cells := 2, slots := 12, locals := 300 } : Room) (va_Pc [.ref o, .int nn] (fun U => m_B G K I R F A N L T J D U ∧ c_str U)) (va_Qi (fun (r : Int32) (u : Nat → Nat → Int32) => t_typed (o_isl Z nn) Z = 0 ∧ r = o_bits Z M (L (cd 1)).length (L (cd 0)).length nt nn ∧ c_sim K I R N u L T o cd Z M ∧ c_fr K I R N A K I R N u) (fun u : Nat → Nat → Int32 => m_B G K I R F u N L T J D) (m_A G)) (vx_X (fun (u : Unit) => ¬ t_typed (o_isl Z nn) Z = 0) (fun E (u : Unit) t => E = (if t_typed (o_isl Z nn) Z = 1 then "java/lang/IndexOutOfBoundsException" else "java/lang/UnsupportedOperationException") ∧ m_B G K I R F A N L T J D t) (m_A G)) 2 12 (m_A G) := by
  refine vx_ofW (cc := cX8_scoreBits) (maxL := 4) (ret := (some .int)) (by decide) rfl ?_
  intro p e s m args below meth c s₁ B hml hxt hv
  obtain ⟨rfl, hB, hcs⟩ := hv
  have hx := B.exec
  have hb := B.bytes
  have hr := B.returns
  have hts := atoms_spec (ws := wsX8_scoreBits) B.pre
  have hown : s.vm.findClass RX8 = some m.cls := findClass_of_methodNamed B.named
  have hlocks := B.notSynchronized
  have hw := m_wo_in hB
  have hl := lv_entry ([.ref o, .int nn]) (n := 4) (Nat.le_of_ble_eq_true rfl)
  rw [lg_entry_eq]
  generalize (lg_sl ([.ref o, .int nn]) ++ List.replicate (4 - (lg_sl ([.ref o, .int nn])).length) Slot.unset).toArray = ls at hl ⊢
  have hl : lv_has ls 4 [(0, .ref o), (1, .int nn)] := hl
  have hok := hs.1
  have hel0 := q_el0 hs
  have hel1 := q_el1 hs
  have hel5 := q_el5 hs
  have hel7 := q_el7 hs
  have hel9 := q_el9 hs
  obtain ⟨nt9, ht1, ht2, ht3, ht4⟩ := hs.2.2.2.2.2.2.1
  have hp42 : I 42 (cd 6) = nI nt9 := ht2.2.2.2.2.2.2.2.1
  have hn4 : nt9 ≤ 4 := ht2.2.2.2.2.2.2.2.2.1
  have e9 : nt9 = nt := (nI_eq (by omega) (by omega)).mp (ht1.symm.trans hz9)
  rw [e9] at ht2 ht3 ht4 hp42 hn4
  clear ht1 e9
  have ht1 := hz9
  have hrw := q_rw hs
  refine lv_aload_n hx hb dX8_scoreBits_0 rfl (lv_at hl 0 rfl) ?_
  refine lv_iload_n hx hb dX8_scoreBits_1 rfl (lv_at hl 1 rfl) ?_
  refine m_xq (vx_runV (As := [.int nn]) (rest := []) ⟨hx, hb, hml, hown, hts⟩ (c_X8_isleOf l hnt hok hel0) (cwV 1 hts gX8_scoreBits_X8_isleOf rfl rfl rfl (by decide +kernel) ⟨Nat.le_of_ble_eq_true rfl, Nat.le_of_ble_eq_true rfl⟩) ⟨m_blind (fun U g mk a h => ⟨m_B_calling U g mk a h.1, c_str_calling U g mk a h.2⟩), m_recv hw (m_ent_9 hok.1) rfl, fun U hU hW => ⟨rfl, m_wo_call hw hU hW, c_str_warm hW hcs⟩⟩ rfl rfl hl.1 rfl (lv_room (Nat.le_of_ble_eq_true rfl)) dX8_scoreBits_2 ⟨Nat.le_of_ble_eq_true rfl, Nat.le_of_ble_eq_true rfl⟩) hw (fun E_ ce_ q9_ u_2x H locs hpx hw hce hcv hcl => ?_) (fun r_2 u_2 H locs hp_2 hw => ?_)
  · skip
    obtain ⟨hpx, rfl⟩ := hpx
    exact vx_out (fun x hx9 => absurd (hxt x hx9) id) hlocks hce hcv hcl (fun t ht9 hA9 => ⟨(), (by rw [(q_ty1 (fun z => hpx ((q_isl_nm hs nn).mp z)))]; decide), ⟨(by rw [(q_ty1 (fun z => hpx ((q_isl_nm hs nn).mp z)))]; rfl), m_wo_out hw ht9 hA9⟩, m_wo_F hw ht9⟩) (m_wo_L hw) (Nat.le_of_ble_eq_true rfl) (Nat.le_of_ble_eq_true rfl)
  obtain ⟨i, ai, rfl, hi31, ha, rfl⟩ := hp_2
  have hi : i < (L (cd 0)).length := (List.getElem?_eq_some_iff.mp ha).1
  have hka := hel0 ai (List.mem_of_getElem? ha)
  have hv := (q_isl_nm hs (nI i)).mpr ⟨i, hi, rfl⟩
  refine lv_astore_n (lv' := [(2, .ref ai), (0, .ref o), (1, .int (nI i))]) hx hb dX8_scoreBits_5 rfl hl (by decide) rfl (fun ls hl => ?_)
  refine lv_aload_n hx hb dX8_scoreBits_6 rfl (lv_at hl 1 rfl) ?_
  refine m_xv (vx_runV (As := []) (rest := []) ⟨hx, hb, hml, hown, hts⟩ (c_X8_requireMap l hnt hok) (cwV 0 hts gX8_scoreBits_X8_requireMap rfl rfl rfl (by decide +kernel) ⟨Nat.le_of_ble_eq_true rfl, Nat.le_of_ble_eq_true rfl⟩) ⟨m_blind (fun U g mk a h => ⟨m_B_calling U g mk a h.1, c_str_calling U g mk a h.2⟩), m_recv hw (m_ent_9 hok.1) rfl, fun U hU hW => ⟨rfl, m_wo_call hw hU hW, c_str_warm hW hcs⟩⟩ rfl rfl hl.1 rfl (lv_room (Nat.le_of_ble_eq_true rfl)) dX8_scoreBits_7 ⟨Nat.le_of_ble_eq_true rfl, Nat.le_of_ble_eq_true rfl⟩) hw (fun E_ ce_ q9_ u_7x H locs hpx hw hce hcv hcl => ?_) (fun u_7 H locs hp_7 hw => ?_)
  · skip
    obtain ⟨hpx, rfl⟩ := hpx
    exact vx_out (fun x hx9 => absurd (hxt x hx9) id) hlocks hce hcv hcl (fun t ht9 hA9 => ⟨(), (by rw [(q_ty2 hv (fun z => absurd z (by rw [ht1, ← hp42, hpx]; decide)))]; decide), ⟨(by rw [(q_ty2 hv (fun z => absurd z (by rw [ht1, ← hp42, hpx]; decide)))]; rfl), m_wo_out hw ht9 hA9⟩, m_wo_F hw ht9⟩) (m_wo_L hw) (Nat.le_of_ble_eq_true rfl) (Nat.le_of_ble_eq_true rfl)
  have hn0 : nt ≠ 0 := fun z => hp_7 (by rw [hp42, z]; rfl)
  have hz29 : 0 < Z 29 := by rw [ht1]; exact q_pos (by omega) (fun z => hp_7 (hp42.trans z))
  refine lv_aload_n hx hb dX8_scoreBits_10 rfl (lv_at hl 1 rfl) ?_
  refine lv_aload_n hx hb dX8_scoreBits_11 rfl (lv_at hl 0 rfl) ?_
  refine lv_aload_n hx hb dX8_scoreBits_12 rfl (lv_at hl 1 rfl) ?_
  refine g_9_6 (r := some (cd 6)) hx hb hts (by decide +kernel) hown hw hok.1 (hts (.fieldLink RX8 46 "Pirateindex" "typed" "LPirateindex$Phrase;") (by decide +kernel)) hok.2.2.2.2.2.2.2.1 dX8_scoreBits_13 ?_
  refine m_ci (va_runV (As := [.ref ai, .ref (cd 6)]) (rest := []) ⟨hx, hb, hml, hown, hts⟩ (c_X8_choicesOn l hok hka ht2 hrw) (cwV 2 hts gX8_scoreBits_X8_choicesOn rfl rfl rfl (by decide +kernel) ⟨Nat.le_of_ble_eq_true rfl, Nat.le_of_ble_eq_true rfl⟩) ⟨m_blind m_B_calling, m_recv hw (m_ent_9 hok.1) rfl, fun U hU hW => ⟨rfl, m_wo_call hw hU hW⟩⟩ rfl rfl hl.1 rfl (lv_room (Nat.le_of_ble_eq_true rfl)) dX8_scoreBits_16 ⟨Nat.le_of_ble_eq_true rfl, Nat.le_of_ble_eq_true rfl⟩) hw (fun r_16 u_16 H locs hp_16 hw => ?_)
  have hw : m_wo G K I R F u_16 N L T J D s H locs := hw
  obtain ⟨hA1, hr1⟩ := hp_16
  rw [(hs.2.1.2.2 i ai ha).2.1, q_hitT hs ht1 hn0 hn4 ht3 ht4] at hr1
  obtain rfl : r_16 = nI (o_hitT Z M (nI i)) := hr1
  have hss : c_sim K I R N u_16 L T o cd Z M := c_sim_scr hs c_chg_rf (fun _ _ => rfl) (fun b h1 h2 _ => hA1 b h1 h2) hs.2.2.2.2.2.2.2.2
  have hdw := c_dw hok
  have h3' : ∀ k, k < nt → u_16 (cd 13) k = M 25 k := fun k hk => by rw [hA1 _ hdw.1 hdw.2.1]; exact ht3 k hk
  have hph1 : c_ph K R N I u_16 (cd 6) (cd 13) (cd 14) nt := c_ph_A ht2 (hA1 _ hdw.2.2.1 hdw.2.2.2)
  refine lv_istore_n (lv' := [(3, .int (nI (o_hitT Z M (nI i)))), (2, .ref ai), (0, .ref o), (1, .int (nI i))]) hx hb dX8_scoreBits_19 rfl hl (by decide) rfl (fun ls hl => ?_)
  refine lv_iload_n hx hb dX8_scoreBits_20 rfl (lv_at hl 0 rfl) ?_
  refine lv_if_ne (tgt := 28) hx hb dX8_scoreBits_21 (by decide) (fun c_21 => ?_) (fun c_21 => ?_)
  · skip
    have hh0 : 0 < o_hitT Z M (nI i) := Nat.pos_of_ne_zero (fun z => c_21 (by rw [z]; rfl))
    have hob : o_bits Z M (L (cd 1)).length (L (cd 0)).length nt (nI i) = (o_score (o_askT (Z, M)).1 (o_askT (Z, M)).2 (L (cd 1)).length (L (cd 0)).length nt (nI i)).toInt32 := if_neg (by omega)
    refine lv_aload_n hx hb dX8_scoreBits_28 rfl (lv_at hl 2 rfl) ?_
    refine lv_aload_n hx hb dX8_scoreBits_29 rfl (lv_at hl 2 rfl) ?_
    refine g_9_6 (r := some (cd 6)) hx hb hts (by decide +kernel) hown hw hok.1 (hts (.fieldLink RX8 46 "Pirateindex" "typed" "LPirateindex$Phrase;") (by decide +kernel)) hok.2.2.2.2.2.2.2.1 dX8_scoreBits_30 ?_
    refine m_cf (va_runV (As := [.ref (cd 6)]) (rest := []) ⟨hx, hb, hml, hown, hts⟩ (c_X8_weightOfMap l hok hel9 (q_ps9 hs) hph1 (q_nan hss ht1 hn4 h12 h3' (hnn hz29))) (cwV 1 hts gX8_scoreBits_X8_weightOfMap rfl rfl rfl (by decide +kernel) ⟨Nat.le_of_ble_eq_true rfl, Nat.le_of_ble_eq_true rfl⟩) ⟨m_blind m_B_calling, m_recv hw (m_ent_9 hok.1) rfl, fun U hU hW => ⟨rfl, m_wo_call hw hU hW⟩⟩ rfl rfl hl.1 rfl (lv_room (Nat.le_of_ble_eq_true rfl)) dX8_scoreBits_33 ⟨Nat.le_of_ble_eq_true rfl, Nat.le_of_ble_eq_true rfl⟩) hw (fun r_33 u_33 H locs hp_33 hw => ?_)
    obtain rfl : r_33 = o_sumW (o_askW (o_askT (Z, M)).2 (L (cd 1)).length (L (cd 0)).length) nt := hp_33.trans (q_sum hss ht1 hn4 h12 h3')
    refine lv_iload_n hx hb dX8_scoreBits_36 rfl (lv_at hl 0 rfl) ?_
    refine lv_i2f hx hb dX8_scoreBits_37 ?_
    refine lv_fmul hx hb dX8_scoreBits_38 ((hnn hz29).2.2 (nI i)) ?_
    obtain ⟨xs, m9, hx0, hb1, hb2, hb3, hb4, hb5, hb6⟩ := hbk hz29 hh0
    refine m_ci (va_runS (As := [.float (FP.fmul (o_sumW (o_askW (o_askT (Z, M)).2 (L (cd 1)).length (L (cd 0)).length) nt) (FP.i2f (nI (o_hitT Z M (nI i)))))]) (rest := []) ⟨hx, hb, hml, hown, hts⟩ (c_X8_bitsOf l (xs := xs) (m9 := m9) hx0 hb1 hb2 hb3 hb4 hb5) (va_cwS 1 hts gX8_scoreBits_X8_bitsOf rfl rfl rfl (by decide +kernel) ⟨Nat.le_of_ble_eq_true rfl, Nat.le_of_ble_eq_true rfl⟩) ⟨m_blind m_B_calling, fun U hU hW => ⟨rfl, m_wo_call hw hU hW⟩⟩ rfl rfl hl.1 rfl (lv_room (Nat.le_of_ble_eq_true rfl)) dX8_scoreBits_39 ⟨Nat.le_of_ble_eq_true rfl, Nat.le_of_ble_eq_true rfl⟩) hw (fun r_39 u_39 H locs hp_39 hw => ?_)
    have hr9 := hp_39.trans hb6.symm
    refine vx_ret ?_
    exact W.iret (v := r_39) hx hb hr (fun t ht hW => ⟨⟨r_39, u_16, rfl, ⟨q_ty0 hv hz29, hr9.trans hob.symm, hss, c_fr_A2 hok hA1⟩, m_wo_out hw ht hW.alike⟩, m_wo_F hw ht⟩) (m_wo_L hw) dX8_scoreBits_42
  · skip
    have hh0 : o_hitT Z M (nI i) = 0 := (nI_eq (hlt _) (by decide)).mp c_21
    have hob : o_bits Z M (L (cd 1)).length (L (cd 0)).length nt (nI i) = 0 := if_pos hh0
    refine lv_iconst (v := 0) hx hb dX8_scoreBits_24 (by decide) ?_
    refine lv_goto (tgt := 42) hx hb dX8_scoreBits_25 (by decide) ?_
    refine vx_ret ?_
    exact W.iret (v := 0) hx hb hr (fun t ht hW => ⟨⟨0, u_16, rfl, ⟨q_ty0 hv hz29, hob.symm, hss, c_fr_A2 hok hA1⟩, m_wo_out hw ht hW.alike⟩, m_wo_F hw ht⟩) (m_wo_L hw) dX8_scoreBits_42
set_option maxHeartbeats 800000 in
set_option maxRecDepth 100000 in
theorem c_X8_hit (l : Launch) (hnt : l.stackTraces = false) {G : mG} {K : Nat → Nat} {I : Nat → Nat → Int32} {R : Nat → Nat → Option Nat} {F : Nat → UInt32} {A : Nat → Nat → Int32} {N : Nat → Nat} {L : Nat → List Nat} {T : Nat → List Int32} {J : Nat → Nat → Int64} {D : Nat → Nat → UInt64} {o : Nat} {cd : Nat → Nat} {Z : Nat → Int32} {M : Nat → Nat → Int32} {nn pl : Int32} {nt : Nat} (hs : c_sim K I R N A L T o cd Z M) (hz9 : Z 29 = nI nt) (h4t : nt ≤ 4) (h12 : ∀ f, f < (L (cd 1)).length → ∃ i, i < (L (cd 0)).length ∧ M 12 f = nI i) (hnn : 0 < Z 29 → o_nan (o_askT (Z, M)).1 (o_askT (Z, M)).2 (L (cd 1)).length (L (cd 0)).length nt) (hky : 0 < Z 29 → o_keys Z M (L (cd 1)).length (L (cd 0)).length nt) (hxy : ∀ s t, s < (L (cd 5)).length → t < (L (cd 0)).length → ∃ n, n < 30000 ∧ o_far M s t = nI n) : vx_Met l yX8_hit wsX8_hit ({ frames := 10, cells := 3, slots := 18, locals := 400 } : Room) (va_Pc [.ref o, .int nn, .int pl] (fun U => m_B G K I R F A N L T J D U ∧ c_str U)) (va_Qi (fun (r : Int32) (u : (Nat → UInt32) × (Nat → Nat → Int32)) => t_hit Z M (L (cd 1)).length (L (cd 0)).length nt nn pl = 0 ∧ r = o_rank Z M (L (cd 1)).length (L (cd 0)).length nt nn.toNatClampNeg pl (L (cd 0)).length ∧ c_sim K I R N u.2 L T o cd Z M ∧ c_fr K I R N A K I R N u.2) (fun u : (Nat → UInt32) × (Nat → Nat → Int32) => m_B G K I R (u.1) (u.2) N L T J D) (m_A G)) (vx_X (fun (u : (Nat → UInt32) × (Nat → Nat → Int32)) => ¬ t_hit Z M (L (cd 1)).length (L (cd 0)).length nt nn pl = 0 ∧ c_sim K I R N u.2 L T o cd Z M ∧ c_fr K I R N A K I R N u.2) (fun E (u : (Nat → UInt32) × (Nat → Nat → Int32)) t => E = (if t_hit Z M (L (cd 1)).length (L (cd 0)).length nt nn pl = 1 then "java/lang/IndexOutOfBoundsException" else if t_hit Z M (L (cd 1)).length (L (cd 0)).length nt nn pl = 2 then "java/lang/UnsupportedOperationException" else "java/util/NoSuchElementException") ∧ m_B G K I R u.1 u.2 N L T J D t) (m_A G)) 3 18 (m_A G) := by
  refine vx_ofW (cc := cX8_hit) (maxL := 5) (ret := (some .int)) (by decide) rfl ?_
  intro p e s m args below meth c s₁ B hml hxt hv
  obtain ⟨rfl, hB, hcs⟩ := hv
  have hx := B.exec
  have hb := B.bytes
  have hr := B.returns
  have hts := atoms_spec (ws := wsX8_hit) B.pre
  have hown : s.vm.findClass RX8 = some m.cls := findClass_of_methodNamed B.named
  have hlocks := B.notSynchronized
  have hw := m_wo_in hB
  have hl := lv_entry ([.ref o, .int nn, .int pl]) (n := 5) (Nat.le_of_ble_eq_true rfl)
  rw [lg_entry_eq]
  generalize (lg_sl ([.ref o, .int nn, .int pl]) ++ List.replicate (5 - (lg_sl ([.ref o, .int nn, .int pl])).length) Slot.unset).toArray = ls at hl ⊢
  have hl : lv_has ls 5 [(0, .ref o), (1, .int nn), (2, .int pl)] := hl
  have hok := hs.1
  have hel0 := q_el0 hs
  have hel1 := q_el1 hs
  have hel5 := q_el5 hs
  have hel7 := q_el7 hs
  have hel9 := q_el9 hs
  obtain ⟨nt9, ht1, ht2, ht3, ht4⟩ := hs.2.2.2.2.2.2.1
  have hp42 : I 42 (cd 6) = nI nt9 := ht2.2.2.2.2.2.2.2.1
  have hn4 : nt9 ≤ 4 := ht2.2.2.2.2.2.2.2.2.1
  have e9 : nt9 = nt := (nI_eq (by omega) (by omega)).mp (ht1.symm.trans hz9)
  rw [e9] at ht2 ht3 ht4 hp42 hn4
  clear ht1 e9
  have ht1 := hz9
  have hrw := q_rw hs
  refine lv_aload_n hx hb dX8_hit_0 rfl (lv_at hl 0 rfl) ?_
  refine lv_iload_n hx hb dX8_hit_1 rfl (lv_at hl 1 rfl) ?_
  refine m_xq (vx_runV (As := [.int nn]) (rest := []) ⟨hx, hb, hml, hown, hts⟩ (c_X8_shipOf l hnt hok hel7) (cwV 1 hts gX8_hit_X8_shipOf rfl rfl rfl (by decide +kernel) ⟨Nat.le_of_ble_eq_true rfl, Nat.le_of_ble_eq_true rfl⟩) ⟨m_blind (fun U g mk a h => ⟨m_B_calling U g mk a h.1, c_str_calling U g mk a h.2⟩), m_recv hw (m_ent_9 hok.1) rfl, fun U hU hW => ⟨rfl, m_wo_call hw hU hW, c_str_warm hW hcs⟩⟩ rfl rfl hl.1 rfl (lv_room (Nat.le_of_ble_eq_true rfl)) dX8_hit_2 ⟨Nat.le_of_ble_eq_true rfl, Nat.le_of_ble_eq_true rfl⟩) hw (fun E_ ce_ q9_ u_2x H locs hpx hw hce hcv hcl => ?_) (fun r_2 u_2 H locs hp_2 hw => ?_)
  · skip
    obtain ⟨hpx, rfl⟩ := hpx
    exact vx_out (fun x hx9 => absurd (hxt x hx9) id) hlocks hce hcv hcl (fun t ht9 hA9 => ⟨(F, A), ⟨by rw [(q_ht1 (fun z => hpx ((q_shp_nm hs nn).mp z)))]; decide, hs, c_fr_rf⟩, ⟨(by rw [(q_ht1 (fun z => hpx ((q_shp_nm hs nn).mp z)))]; rfl), m_wo_out hw ht9 hA9⟩, m_wo_F hw ht9⟩) (m_wo_L hw) (Nat.le_of_ble_eq_true rfl) (Nat.le_of_ble_eq_true rfl)
  obtain ⟨i, ai, rfl, hi31, ha, rfl⟩ := hp_2
  have hi : i < (L (cd 5)).length := (List.getElem?_eq_some_iff.mp ha).1
  have hka := hel7 ai (List.mem_of_getElem? ha)
  have hv := (q_shp_nm hs (nI i)).mpr ⟨i, hi, rfl⟩
  obtain ⟨ph, w9, d9, n, is9, came, h70, hph, h71, hst, hst9, h73, hcm, hk7, h74, h72, hn, hwd, hgp, np, nw, nd, hkp⟩ := hs.2.2.2.2.2.1.2.2.2.1 i ai ha
  have hkis : K is9 = 3 := hel0 is9 (List.mem_of_getElem? hst)
  have hkph := hph.1
  have hcl : (nI i).toNatClampNeg = i := nI_clamp hi31
  refine lv_astore_n (lv' := [(3, .ref ai), (0, .ref o), (1, .int (nI i)), (2, .int pl)]) hx hb dX8_hit_5 rfl hl (by decide) rfl (fun ls hl => ?_)
  refine lv_aload_n hx hb dX8_hit_6 rfl (lv_at hl 1 rfl) ?_
  refine m_xv (vx_runV (As := []) (rest := []) ⟨hx, hb, hml, hown, hts⟩ (c_X8_requireMap l hnt hok) (cwV 0 hts gX8_hit_X8_requireMap rfl rfl rfl (by decide +kernel) ⟨Nat.le_of_ble_eq_true rfl, Nat.le_of_ble_eq_true rfl⟩) ⟨m_blind (fun U g mk a h => ⟨m_B_calling U g mk a h.1, c_str_calling U g mk a h.2⟩), m_recv hw (m_ent_9 hok.1) rfl, fun U hU hW => ⟨rfl, m_wo_call hw hU hW, c_str_warm hW hcs⟩⟩ rfl rfl hl.1 rfl (lv_room (Nat.le_of_ble_eq_true rfl)) dX8_hit_7 ⟨Nat.le_of_ble_eq_true rfl, Nat.le_of_ble_eq_true rfl⟩) hw (fun E_ ce_ q9_ u_7x H locs hpx hw hce hcv hcl => ?_) (fun u_7 H locs hp_7 hw => ?_)
  · skip
    obtain ⟨hpx, rfl⟩ := hpx
    exact vx_out (fun x hx9 => absurd (hxt x hx9) id) hlocks hce hcv hcl (fun t ht9 hA9 => ⟨(F, A), ⟨by rw [(q_ht2 hv (fun z => absurd z (by rw [ht1, ← hp42, hpx]; decide)))]; decide, hs, c_fr_rf⟩, ⟨(by rw [(q_ht2 hv (fun z => absurd z (by rw [ht1, ← hp42, hpx]; decide)))]; rfl), m_wo_out hw ht9 hA9⟩, m_wo_F hw ht9⟩) (m_wo_L hw) (Nat.le_of_ble_eq_true rfl) (Nat.le_of_ble_eq_true rfl)
  have hn0 : nt ≠ 0 := fun z => hp_7 (by rw [hp42, z]; rfl)
  have hz29 : 0 < Z 29 := by rw [ht1]; exact q_pos (by omega) (fun z => hp_7 (hp42.trans z))
  refine lv_aload_n hx hb dX8_hit_10 rfl (lv_at hl 1 rfl) ?_
  refine lv_iload_n hx hb dX8_hit_11 rfl (lv_at hl 3 rfl) ?_
  refine lv_aload_n hx hb dX8_hit_12 rfl (lv_at hl 0 rfl) ?_
  refine g_7_1 (r := some is9) hx hb hts (by decide +kernel) hown hw hka (hts (.fieldLink RX8 245 "Pirateindex$Ship" "where" "LPirateindex$Isle;") (by decide +kernel)) h71 dX8_hit_13 ?_
  refine m_cq (va_runV (As := [.int pl, .ref is9]) (rest := []) ⟨hx, hb, hml, hown, hts⟩ (c_X8_hitRanked l hok hel0 ht2 hrw (q_nan hs ht1 hn4 h12 ht3 (hnn hz29)) (fun a _ => by rw [q_sco hs ht1 hn0 hn4 h12 ht3 ht4]; exact (hnn hz29).2.2 _) hkis) (cwV 2 hts gX8_hit_X8_hitRanked rfl rfl rfl (by decide +kernel) ⟨Nat.le_of_ble_eq_true rfl, Nat.le_of_ble_eq_true rfl⟩) ⟨m_blind m_B_calling, m_recv hw (m_ent_9 hok.1) rfl, fun U hU hW => ⟨rfl, m_wo_call hw hU hW⟩⟩ rfl rfl hl.1 rfl (lv_room (Nat.le_of_ble_eq_true rfl)) dX8_hit_16 ⟨Nat.le_of_ble_eq_true rfl, Nat.le_of_ble_eq_true rfl⟩) hw (fun r_16 u_16 H locs hp_16 hw => ?_)
  obtain ⟨F_1, A_2⟩ := u_16
  have hw : m_wo G K I R F_1 A_2 N L T J D s H locs := hw
  dsimp only at hp_16
  obtain ⟨hA1, hF1, hr1⟩ := hp_16
  have hs1 : c_sim K I R N A_2 L T o cd Z M := c_sim_scr hs c_chg_rf (fun _ _ => rfl) (fun b h1 h2 _ => hA1 b h1 h2) hs.2.2.2.2.2.2.2.2
  have hF9 : ∀ j a, (L (cd 0))[j]? = some a → F_1 a = o_sT Z M (L (cd 1)).length (L (cd 0)).length nt j := fun j a hja => by
    rw [hF1 a (List.mem_of_getElem? hja), q_sco hs ht1 hn0 hn4 h12 ht3 ht4, (hs.2.1.2.2 j a hja).2.1]
    rfl
  obtain ⟨t0, ht0, h18⟩ := hst9
  have hst0 : (L (cd 0))[t0]? = some is9 := by rw [h18, nI_clamp (by omega)] at hst; exact hst
  have hrk := q_rank (sh := i) (rk := pl) hs hF9 (hky hz29) hst0 h18 (fun t ht => hxy i t hi ht)
  rw [← hr1] at hrk
  refine m_astoreQ (lv' := [(4, va_rf r_16), (3, .ref ai), (0, .ref o), (1, .int (nI i)), (2, .int pl)]) hx hb dX8_hit_19 hl (by decide) rfl (fun ls hl => ?_)
  refine m_aloadQ hx hb dX8_hit_21 (lv_at hl 0 rfl) ?_
  refine m_ifnonnullQ (tgt := 36) hx hb dX8_hit_23 (by decide) (fun c_23 => ?_) (fun z_23 c_23 => ?_)
  · skip
    rw [c_23] at hl
    have hl : lv_has ls 5 [(4, .null), (3, .ref ai), (0, .ref o), (1, .int (nI i)), (2, .int pl)] := hl
    have hrn : o_rank Z M (L (cd 1)).length (L (cd 0)).length nt i pl (L (cd 0)).length = -1 := by
      rcases hrk with ⟨-, z⟩ | ⟨t, a, -, -, z, -⟩
      · exact z
      · rw [c_23] at z; exact absurd z (by simp)
    have htz : t_hit Z M (L (cd 1)).length (L (cd 0)).length nt (nI i) pl = 3 := q_ht3 hv hz29 (by rw [hcl]; exact hrn)
    obtain ⟨sa, hsa⟩ := hcs.1 (253, "no such hit") (by decide)
    refine vx_throw13 (names := ["java/lang/RuntimeException", "java/lang/Exception"]) hx hb hnt hown (by decide) (by decide) (hts (.classLink RX8 140 "java/util/NoSuchElementException") (by decide +kernel)) (hts (.initialized "java/util/NoSuchElementException") (by decide +kernel)) hsa (vx_hat (B := .castable "java/util/NoSuchElementException" "java/util/NoSuchElementException" :: [.declares (Bundle.initS "java/lang/RuntimeException"), .declares (Bundle.initS "java/lang/Exception"), .declares (Bundle.initS Bundle.tN)]) (fun w h => hts w ((by decide +kernel : ∀ w ∈ (vx_at13 RX8 144 "java/util/NoSuchElementException" ["java/lang/RuntimeException", "java/lang/Exception"]).filter goodWord, w ∈ wsX8_hit) w h)) (by decide +kernel) (vx_c (m_wo_cas hw (by decide)) (c_str_dc hcs))) (by decide +kernel) hw.2.1.1 hw.2.1.2.1 hw.2.2.2.1 (hl.1.trans hml.symm) dX8_hit_26 dX8_hit_29 dX8_hit_30 dX8_hit_32 dX8_hit_35 (fun x hx9 => absurd (hxt x hx9) id) (Nat.le_of_ble_eq_true rfl) (Nat.le_of_ble_eq_true rfl) (Nat.le_of_ble_eq_true rfl) (Nat.le_of_ble_eq_true rfl) hlocks (fun t hA9 hs9 hq9 => ⟨(F_1, A_2), ⟨by rw [htz]; decide, hs1, c_fr_A2 hok hA1⟩, ⟨(by rw [htz]; rfl), m_wo_up hw hA9 hs9 hq9⟩, m_wo_uF hw hs9 hq9⟩) (m_wo_L hw) (Nat.le_of_ble_eq_true rfl) (Nat.le_of_ble_eq_true rfl)
  · skip
    rw [c_23] at hl
    have hl : lv_has ls 5 [(4, .ref z_23), (3, .ref ai), (0, .ref o), (1, .int (nI i)), (2, .int pl)] := hl
    obtain ⟨t9, htl, ha9, hrn⟩ : ∃ t, t < (L (cd 0)).length ∧ (L (cd 0))[t]? = some z_23 ∧ o_rank Z M (L (cd 1)).length (L (cd 0)).length nt i pl (L (cd 0)).length = nI t := by
      rcases hrk with ⟨z, -⟩ | ⟨t, a, g1, g2, z, g3⟩
      · rw [c_23] at z; exact absurd z (by simp)
      · rw [c_23] at z; rw [Option.some.inj z]; exact ⟨t, g1, g2, g3⟩
    have hkz := hel0 z_23 (List.mem_of_getElem? ha9)
    have h30z := (hs.2.1.2.2 t9 z_23 ha9).2.1
    have htz : t_hit Z M (L (cd 1)).length (L (cd 0)).length nt (nI i) pl = 0 := q_ht0 hv hz29 (by rw [hcl, hrn]; exact nI_nm1 (by have := hs.2.1.2.1; omega))
    refine lv_aload hx hb dX8_hit_36 (lv_at hl 0 rfl) ?_
    refine g_3_0 hx hb hts (by decide +kernel) hown hw hkz (hts (.fieldLink RX8 84 "Pirateindex$Isle" "number" "I") (by decide +kernel)) dX8_hit_38 ?_
    rw [h30z]
    refine vx_ret ?_
    refine W.widen (k := 3) (n := 18) (by omega) (by omega) ?_
    exact W.iret (v := (nI t9)) hx hb hr (fun t ht hW => ⟨⟨(nI t9), (F_1, A_2), rfl, ⟨htz, by rw [hcl]; exact hrn.symm, hs1, c_fr_A2 hok hA1⟩, m_wo_out hw ht hW.alike⟩, m_wo_F hw ht⟩) (m_wo_L hw) dX8_hit_41
