/-- a method of a class that the machine looks through for rows of its own, but has none for this one -/
theorem m_ofWF {l : Launch} {y : MethodName} {ws ws' : List Cond} {rm : Room} {Pc : Array Value → State → Prop} {Qc : Array Value → State → Outcome → State → Prop} {mc ms : Nat} {free : Addr → Prop} {cc : ByteArray} {maxL : Nat} {ret : Option FieldType}
    (hy : plainFor y = true) (hw : ws = Cond.code y cc maxL ret :: ws')
    (body : ∀ p e s m args below meth c s₁, BodyLoose p l y (headSpec ws rm) cc maxL ret e s m args below meth c s₁ → c.maxLocals = maxL → Pc args s →
      W p l e (headSpec ws rm).room s m args below meth c s.heap [] 0 0 (MQ below Qc args s mc ms free) (entryFrame m args maxL)) : Met l y ws rm Pc Qc mc ms free := by
  refine MetFree.of_bodySF (code := cc) (maxLocals := maxL) (ret := ret) hy (fun args s m h hn => ?_) (fun p e s m args below meth c s₁ B hml hP _ => ?_)
  · obtain ⟨meth, c, h1, h2, h3, h4, h5, h6, -, -⟩ := Cond.code_spec hn (atoms_spec (ws := ws) h _ (by rw [hw]; exact List.mem_cons_self))
    exact ⟨meth, c, h1, h2, h3, h4, h5, h6⟩
  · obtain ⟨t, a1, o, b1, b2, b3⟩ := body p e s m args below meth c s₁ B hml hP s₁ (by rw [B.state]; rfl) (Stand.of_body B)
    exact ⟨t, o, a1, b1, b2, ⟨b3.1, b3.2⟩⟩
def o_bits (Z : mZ) (M : mM) (nf ni nt : Nat) (v : Int32) : Int32 := if o_hitT Z M v = 0 then 0 else (o_score (o_askT (Z, M)).1 (o_askT (Z, M)).2 nf ni nt v).toInt32
def o_self (x : UInt32) : Prop := Op.cmpValue (FP.fcmp x x) .l = 0
set_option maxHeartbeats 400000 in
set_option maxRecDepth 100000 in
theorem c_Jxf58ca_isNaN_12338 (l : Launch) {G : mG} {K : Nat → Nat} {I : Nat → Nat → Int32} {R : Nat → Nat → Option Nat} {F : Nat → UInt32} {A : Nat → Nat → Int32} {N : Nat → Nat} {L : Nat → List Nat} {T : Nat → List Int32} {J : Nat → Nat → Int64} {D : Nat → Nat → UInt64} (x : UInt32) (hx9 : o_self x) : Met l yJxf58ca_isNaN_12338 wsJxf58ca_isNaN_12338 ({ frames := 0, cells := 0, slots := 0, locals := 0 } : Room) (va_Pc [.float x] (m_B G K I R F A N L T J D)) (va_Qi (fun (r : Int32) (_ : Unit) => r = 0) (fun u : Unit => m_B G K I R F A N L T J D) (m_A G)) 0 0 (m_A G) := by
  refine m_ofWF (cc := cJxf58ca_isNaN_12338) (maxL := 1) (ret := (some .boolean)) (by decide +kernel) rfl ?_
  intro p e s m args below meth c s₁ B hml hv
  obtain ⟨rfl, hB⟩ := hv
  have hx := B.exec
  have hb := B.bytes
  have hr := B.returns
  have hts := atoms_spec (ws := wsJxf58ca_isNaN_12338) B.pre
  have hown : s.vm.findClass RJxf58ca = some m.cls := findClass_of_methodNamed B.named
  have hlocks := B.notSynchronized
  have hw := m_wo_in hB
  have hl := lv_entry ([.float x]) (n := 1) (Nat.le_of_ble_eq_true rfl)
  rw [lg_entry_eq]
  generalize (lg_sl ([.float x]) ++ List.replicate (1 - (lg_sl ([.float x])).length) Slot.unset).toArray = ls at hl ⊢
  have hl : lv_has ls 1 [(0, .float x)] := hl
  refine lv_fload_n hx hb dJxf58ca_isNaN_12338_0 rfl (lv_at hl 0 rfl) ?_
  refine lv_fload_n hx hb dJxf58ca_isNaN_12338_1 rfl (lv_at hl 0 rfl) ?_
  refine lv_fcmp hx hb dJxf58ca_isNaN_12338_2 ?_
  refine lv_if_eq (tgt := 10) hx hb dJxf58ca_isNaN_12338_3 (by decide) (fun c_3 => ?_) (fun c_3 => absurd hx9 c_3)
  refine lv_iconst (v := 0) hx hb dJxf58ca_isNaN_12338_10 (by decide) ?_
  exact W.zret (v := 0) hx hb hr (by rfl) (fun t ht hW => ⟨⟨0, (), rfl, rfl, m_wo_out hw ht hW.alike⟩, m_wo_F hw ht⟩) (m_wo_L hw) dJxf58ca_isNaN_12338_11

set_option maxHeartbeats 400000 in
set_option maxRecDepth 100000 in
theorem c_Jxf58ca_floatToIntBits_5c35a (l : Launch) {G : mG} {K : Nat → Nat} {I : Nat → Nat → Int32} {R : Nat → Nat → Option Nat} {F : Nat → UInt32} {A : Nat → Nat → Int32} {N : Nat → Nat} {L : Nat → List Nat} {T : Nat → List Int32} {J : Nat → Nat → Int64} {D : Nat → Nat → UInt64} (x : UInt32) (hx9 : o_self x) : Met l yJxf58ca_floatToIntBits_5c35a wsJxf58ca_floatToIntBits_5c35a ({ frames := 1, cells := 0, slots := 0, locals := 30 } : Room) (va_Pc [.float x] (m_B G K I R F A N L T J D)) (va_Qi (fun (r : Int32) (_ : Unit) => r = x.toInt32) (fun u : Unit => m_B G K I R F A N L T J D) (m_A G)) 0 0 (m_A G) := by
  refine m_ofWF (cc := cJxf58ca_floatToIntBits_5c35a) (maxL := 1) (ret := (some .int)) (by decide +kernel) rfl ?_
  intro p e s m args below meth c s₁ B hml hv
  obtain ⟨rfl, hB⟩ := hv
  have hx := B.exec
  have hb := B.bytes
  have hr := B.returns
  have hts := atoms_spec (ws := wsJxf58ca_floatToIntBits_5c35a) B.pre
  have hown : s.vm.findClass RJxf58ca = some m.cls := findClass_of_methodNamed B.named
  have hlocks := B.notSynchronized
  have hw := m_wo_in hB
  have hl := lv_entry ([.float x]) (n := 1) (Nat.le_of_ble_eq_true rfl)
  rw [lg_entry_eq]
  generalize (lg_sl ([.float x]) ++ List.replicate (1 - (lg_sl ([.float x])).length) Slot.unset).toArray = ls at hl ⊢
  have hl : lv_has ls 1 [(0, .float x)] := hl
  refine lv_fload_n hx hb dJxf58ca_floatToIntBits_5c35a_0 rfl (lv_at hl 0 rfl) ?_
  refine m_ci (va_runS (As := [.float x]) (rest := []) ⟨hx, hb, hml, hown, hts⟩ (c_Jxf58ca_isNaN_12338 l x hx9) (va_cwS 1 hts gJxf58ca_floatToIntBits_5c35a_Jxf58ca_isNaN_12338 rfl rfl rfl (by decide +kernel) ⟨Nat.le_of_ble_eq_true rfl, Nat.le_of_ble_eq_true rfl⟩) ⟨m_blind m_B_calling, fun U hU hW => ⟨rfl, m_wo_call hw hU hW⟩⟩ rfl rfl hl.1 rfl (lv_room (Nat.le_of_ble_eq_true rfl)) dJxf58ca_floatToIntBits_5c35a_1 ⟨Nat.le_of_ble_eq_true rfl, Nat.le_of_ble_eq_true rfl⟩) hw (fun r_1 u_1 H locs hp_1 hw => ?_)
  obtain rfl : r_1 = 0 := hp_1
  refine lv_if_ne (tgt := 12) hx hb dJxf58ca_floatToIntBits_5c35a_4 (by decide) (fun c_4 => absurd rfl c_4) (fun c_4 => ?_)
  refine lv_fload_n hx hb dJxf58ca_floatToIntBits_5c35a_7 rfl (lv_at hl 0 rfl) ?_
  refine vn_f2i hx hb (by rw [hml]; exact hl.1.symm) hown (hts (.methodLink RJxf58ca 74 ⟨"java/lang/Float", "floatToRawIntBits", "(F)I"⟩) (by decide +kernel)) (hts (.native ⟨"java/lang/Float", "floatToRawIntBits", "(F)I"⟩) (by decide +kernel)) (hts (.static ⟨"java/lang/Float", "floatToRawIntBits", "(F)I"⟩) (by decide +kernel)) (hts (.initialized "java/lang/Float") (by decide +kernel)) (Nat.le_of_ble_eq_true rfl) (Nat.le_of_ble_eq_true rfl) dJxf58ca_floatToIntBits_5c35a_8 ?_
  exact W.iret (v := x.toInt32) hx hb hr (fun t ht hW => ⟨⟨x.toInt32, (), rfl, rfl, m_wo_out hw ht hW.alike⟩, m_wo_F hw ht⟩) (m_wo_L hw) dJxf58ca_floatToIntBits_5c35a_11

set_option maxHeartbeats 400000 in
set_option maxRecDepth 100000 in
theorem c_X9_scoreBits (l : Launch) {G : mG} {K : Nat → Nat} {I : Nat → Nat → Int32} {R : Nat → Nat → Option Nat} {F : Nat → UInt32} {A : Nat → Nat → Int32} {N : Nat → Nat} {L : Nat → List Nat} {T : Nat → List Int32} {J : Nat → Nat → Int64} {D : Nat → Nat → UInt64} {o : Nat} {ad : Nat → Nat} {Z : Nat → Int32} {M : Nat → Nat → Int32} {th : Int32} {nf ni nt : Nat} (v : Int32) (hro : r_ok K R N o ad) (hz : r_st K o ad I A I A Z M th) (hnf : Z 1 = nI nf) (hn : nf ≤ 120) (hni : Z 0 = nI ni) (hn12 : ni ≤ 12) (hnt : Z 29 = nI nt) (h4t : nt ≤ 4) (hgt : ∀ k, 1 ≤ k → k < nt → ∃ g, g ≤ 9 ∧ M 26 k = nI g) (hlt : ∀ i : Int32, o_hitT Z M i < 2 ^ 31) (hne : 0 < Z 29 → o_nan (o_askT (Z, M)).1 (o_askT (Z, M)).2 nf ni nt) (hsf : 0 < Z 29 → o_self (o_score (o_askT (Z, M)).1 (o_askT (Z, M)).2 nf ni nt v)) : Met l yX9_scoreBits wsX9_scoreBits ({ frames := 4, cells := 0, slots := 0, locals := 130 } : Room) (va_Pc [.ref o, .int v] (m_B G K I R F A N L T J D)) (va_Qi (fun (r : Int32) (u : (Nat → Nat → Int32) × (Nat → Nat → Int32)) => (∃ (Z' : Nat → Int32) (M' : Nat → Nat → Int32), r_st K o ad I A u.1 u.2 Z' M' (t_typed (o_isl Z v) Z) ∧ o_sc (Z, M) (Z', M')) ∧ (t_typed (o_isl Z v) Z = 0 → r = o_bits Z M nf ni nt v)) (fun u : (Nat → Nat → Int32) × (Nat → Nat → Int32) => m_B G K (u.1) R F (u.2) N L T J D) (m_A G)) 0 0 (m_A G) := by
  refine Met.ofW (cc := cX9_scoreBits) (maxL := 2) (ret := (some .int)) (by decide) rfl ?_
  intro p e s m args below meth c s₁ B hml hv
  obtain ⟨rfl, hB⟩ := hv
  have hx := B.exec
  have hb := B.bytes
  have hr := B.returns
  have hts := atoms_spec (ws := wsX9_scoreBits) B.pre
  have hown : s.vm.findClass RX9 = some m.cls := findClass_of_methodNamed B.named
  have hlocks := B.notSynchronized
  have hw := m_wo_in hB
  have hl := lv_entry ([.ref o, .int v]) (n := 2) (Nat.le_of_ble_eq_true rfl)
  rw [lg_entry_eq]
  generalize (lg_sl ([.ref o, .int v]) ++ List.replicate (2 - (lg_sl ([.ref o, .int v])).length) Slot.unset).toArray = ls at hl ⊢
  have hl : lv_has ls 2 [(0, .ref o), (1, .int v)] := hl
  have his := hz
  refine lv_aload_n hx hb dX9_scoreBits_0 rfl (lv_at hl 0 rfl) ?_
  refine lv_aload_n hx hb dX9_scoreBits_1 rfl (lv_at hl 0 rfl) ?_
  refine lv_iload_n hx hb dX9_scoreBits_2 rfl (lv_at hl 1 rfl) ?_
  refine m_ci (va_runV (As := [.int v]) (rest := [.ref o]) ⟨hx, hb, hml, hown, hts⟩ (c_X9_isIsland l (Z := Z) (M := M) (th := th) v hro (r_st_self his) ) (cwV 1 hts gX9_scoreBits_X9_isIsland rfl rfl rfl (by decide +kernel) ⟨Nat.le_of_ble_eq_true rfl, Nat.le_of_ble_eq_true rfl⟩) ⟨m_blind m_B_calling, m_recv hw (m_ent_10 hro.1) rfl, fun U hU hW => ⟨rfl, m_wo_call hw hU hW⟩⟩ rfl rfl hl.1 rfl (lv_room (Nat.le_of_ble_eq_true rfl)) dX9_scoreBits_3 ⟨Nat.le_of_ble_eq_true rfl, Nat.le_of_ble_eq_true rfl⟩) hw (fun r_3 u_3 H locs hp_3 hw => ?_)
  obtain rfl : r_3 = (b2i (o_isl Z v)) := hp_3
  refine lv_iconst (v := 1) hx hb dX9_scoreBits_6 (by decide) ?_
  refine m_ci (va_runV (As := [.int (b2i (o_isl Z v)), .int 1]) (rest := []) ⟨hx, hb, hml, hown, hts⟩ (c_X9_no l (Z := Z) (M := M) (th := th) (o_isl Z v) 1 hro (r_st_self his) ) (cwV 2 hts gX9_scoreBits_X9_no rfl rfl rfl (by decide +kernel) ⟨Nat.le_of_ble_eq_true rfl, Nat.le_of_ble_eq_true rfl⟩) ⟨m_blind m_B_calling, m_recv hw (m_ent_10 hro.1) rfl, fun U hU hW => ⟨rfl, m_wo_call hw hU hW⟩⟩ rfl rfl hl.1 rfl (lv_room (Nat.le_of_ble_eq_true rfl)) dX9_scoreBits_7 ⟨Nat.le_of_ble_eq_true rfl, Nat.le_of_ble_eq_true rfl⟩) hw (fun r_7 u_7 H locs hp_7 hw => ?_)
  obtain ⟨I_1, A_2⟩ := u_7
  have hw : m_wo G K I_1 R F A_2 N L T J D s H locs := hw
  dsimp only at hp_7
  have his := r_st_tr his hp_7.1
  obtain rfl : r_7 = (b2i (!(o_isl Z v))) := hp_7.2
  refine lv_if_ne (tgt := 33) hx hb dX9_scoreBits_10 (by decide) (fun c_10 => ?_) (fun c_10 => ?_)
  · skip
    have q_10 : (o_isl Z v) = false := by first | (have := (b2i_ne _).mp c_10; simpa using this) | (have := (b2i_eq _).mp c_10; simpa using this)
    refine lv_iconst (v := 0) hx hb dX9_scoreBits_33 (by decide) ?_
    exact W.iret (v := 0) hx hb hr (fun t ht hW => ⟨⟨0, (I_1, A_2), rfl, (by have ht : t_typed (o_isl Z v) Z = 1 := (by simp [t_typed, q_10]); have hth : ((if (o_isl Z v) then 0 else 1) : Int32) = 1 := (by first | rfl | simp [q_10]); rw [hth] at his; rw [ht]; exact ⟨⟨Z, M, his, o_sc_rf _⟩, fun h => absurd h (by decide)⟩), m_wo_out hw ht hW.alike⟩, m_wo_F hw ht⟩) (m_wo_L hw) dX9_scoreBits_34
  · skip
    have q_10 : (o_isl Z v) = true := by first | (have := (b2i_ne _).mp c_10; simpa using this) | (have := (b2i_eq _).mp c_10; simpa using this)
    refine lv_aload_n hx hb dX9_scoreBits_13 rfl (lv_at hl 0 rfl) ?_
    refine lv_aload_n hx hb dX9_scoreBits_14 rfl (lv_at hl 0 rfl) ?_
    refine g_10_29 hx hb hts (by decide +kernel) hown hw hro.1 (hts (.fieldLink RX9 170 "PirateindexModel" "typed" "I") (by decide +kernel)) dX9_scoreBits_15 ?_
    rw [show I_1 1029 o = Z 29 from his.1 29 (by decide)]
    refine lv_if_le (tgt := 25) hx hb dX9_scoreBits_18 (by decide) (fun c_18 => ?_) (fun c_18 => ?_)
    · skip
      have htp : ¬ 0 < Z 29 := Int32.not_lt.mpr c_18
      refine lv_iconst (v := 0) hx hb dX9_scoreBits_25 (by decide) ?_
      refine lv_iconst (v := 2) hx hb dX9_scoreBits_26 (by decide) ?_
      refine m_ci (va_runV (As := [.int 0, .int 2]) (rest := []) ⟨hx, hb, hml, hown, hts⟩ (c_X9_no l (Z := Z) (M := M) (th := (if (o_isl Z v) then 0 else 1)) false 2 hro (r_st_self his) ) (cwV 2 hts gX9_scoreBits_X9_no rfl rfl rfl (by decide +kernel) ⟨Nat.le_of_ble_eq_true rfl, Nat.le_of_ble_eq_true rfl⟩) ⟨m_blind m_B_calling, m_recv hw (m_ent_10 hro.1) rfl, fun U hU hW => ⟨rfl, m_wo_call hw hU hW⟩⟩ rfl rfl hl.1 rfl (lv_room (Nat.le_of_ble_eq_true rfl)) dX9_scoreBits_27 ⟨Nat.le_of_ble_eq_true rfl, Nat.le_of_ble_eq_true rfl⟩) hw (fun r_27 u_27 H locs hp_27 hw => ?_)
      obtain ⟨I_3, A_4⟩ := u_27
      have hw : m_wo G K I_3 R F A_4 N L T J D s H locs := hw
      dsimp only at hp_27
      have his := r_st_tr his hp_27.1
      obtain rfl : r_27 = (b2i (!false)) := hp_27.2
      refine lv_if_eq (tgt := 35) hx hb dX9_scoreBits_30 (by decide) (fun c_30 => absurd c_30 (by decide)) (fun c_30 => ?_)
      refine lv_iconst (v := 0) hx hb dX9_scoreBits_33 (by decide) ?_
      exact W.iret (v := 0) hx hb hr (fun t ht hW => ⟨⟨0, (I_3, A_4), rfl, (by have ht : t_typed (o_isl Z v) Z = 2 := (by simp [t_typed, q_10, htp]); have hth : (2 : Int32) = 2 := (by first | rfl | simp [q_10, htp]); rw [hth] at his; rw [ht]; exact ⟨⟨Z, M, his, o_sc_rf _⟩, fun h => absurd h (by decide)⟩), m_wo_out hw ht hW.alike⟩, m_wo_F hw ht⟩) (m_wo_L hw) dX9_scoreBits_34
    · skip
      have htp : 0 < Z 29 := Int32.not_le.mp c_18
      refine lv_iconst (v := 1) hx hb dX9_scoreBits_21 (by decide) ?_
      refine lv_goto (tgt := 26) hx hb dX9_scoreBits_22 (by decide) ?_
      refine lv_iconst (v := 2) hx hb dX9_scoreBits_26 (by decide) ?_
      refine m_ci (va_runV (As := [.int 1, .int 2]) (rest := []) ⟨hx, hb, hml, hown, hts⟩ (c_X9_no l (Z := Z) (M := M) (th := (if (o_isl Z v) then 0 else 1)) true 2 hro (r_st_self his) ) (cwV 2 hts gX9_scoreBits_X9_no rfl rfl rfl (by decide +kernel) ⟨Nat.le_of_ble_eq_true rfl, Nat.le_of_ble_eq_true rfl⟩) ⟨m_blind m_B_calling, m_recv hw (m_ent_10 hro.1) rfl, fun U hU hW => ⟨rfl, m_wo_call hw hU hW⟩⟩ rfl rfl hl.1 rfl (lv_room (Nat.le_of_ble_eq_true rfl)) dX9_scoreBits_27 ⟨Nat.le_of_ble_eq_true rfl, Nat.le_of_ble_eq_true rfl⟩) hw (fun r_27 u_27 H locs hp_27 hw => ?_)
      obtain ⟨I_5, A_6⟩ := u_27
      have hw : m_wo G K I_5 R F A_6 N L T J D s H locs := hw
      dsimp only at hp_27
      have his := r_st_tr his hp_27.1
      obtain rfl : r_27 = (b2i (!true)) := hp_27.2
      refine lv_if_eq (tgt := 35) hx hb dX9_scoreBits_30 (by decide) (fun c_30 => ?_) (fun c_30 => absurd (by decide) c_30)
      refine lv_aload_n hx hb dX9_scoreBits_35 rfl (lv_at hl 0 rfl) ?_
      refine m_cv (va_runV (As := []) (rest := []) ⟨hx, hb, hml, hown, hts⟩ (c_X9_asksTyped l (Z := Z) (M := M) (th := 0)  hro (r_st_self his) hnt h4t) (cwV 0 hts gX9_scoreBits_X9_asksTyped rfl rfl rfl (by decide +kernel) ⟨Nat.le_of_ble_eq_true rfl, Nat.le_of_ble_eq_true rfl⟩) ⟨m_blind m_B_calling, m_recv hw (m_ent_10 hro.1) rfl, fun U hU hW => ⟨rfl, m_wo_call hw hU hW⟩⟩ rfl rfl hl.1 rfl (lv_room (Nat.le_of_ble_eq_true rfl)) dX9_scoreBits_36 ⟨Nat.le_of_ble_eq_true rfl, Nat.le_of_ble_eq_true rfl⟩) hw (fun u_36 H locs hp_36 hw => ?_)
      obtain ⟨I_7, A_8⟩ := u_36
      have hw : m_wo G K I_7 R F A_8 N L T J D s H locs := hw
      dsimp only at hp_36
      have his := r_st_tr his hp_36.1
      obtain ⟨Z_9, eZ_9⟩ : ∃ z : Nat → Int32, z = (o_askT (Z, M)).1 := ⟨_, rfl⟩
      rw [← eZ_9] at his
      obtain ⟨M_10, eM_10⟩ : ∃ z : Nat → Nat → Int32, z = (o_askT (Z, M)).2 := ⟨_, rfl⟩
      rw [← eM_10] at his
      have hnt1 : 1 ≤ nt := by have h9 := htp; rw [hnt, show (0 : Int32) = nI 0 from rfl, nI_ltI (by decide) (by omega)] at h9; omega
      obtain ⟨Zt, eZt⟩ : ∃ z, z = Z_9 := ⟨_, rfl⟩
      obtain ⟨Mt, eMt⟩ : ∃ z, z = M_10 := ⟨_, rfl⟩
      rw [← eZt, ← eMt] at his
      have eS : (Zt, Mt) = o_askT (Z, M) := by rw [eZt, eMt, eZ_9, eM_10]
      have eZt1 : Zt = (o_askT (Z, M)).1 := congrArg Prod.fst eS
      have eMt1 : Mt = (o_askT (Z, M)).2 := congrArg Prod.snd eS
      have hsc0 : o_sc (Z, M) (Zt, Mt) := by rw [eS]; exact o_sc_askT _
      have hnf9 : Zt 1 = nI nf := (hsc0.1 1 (by decide)).trans hnf
      have hni9 : Zt 0 = nI ni := (hsc0.1 0 (by decide)).trans hni
      have hna9 : Zt 30 = nI nt := by rw [eZt1]; exact o_askT_30 _ hnt
      have hga9 : ∀ k, 1 ≤ k → k < nt → ∃ g, g ≤ 9 ∧ Mt 28 k = nI g := fun k h1 h2 => by rw [eMt1, o_askT_28 _ hnt h4t h2]; exact hgt k h1 h2
      have hht : ∀ i, o_hitsOn Zt Mt i = o_hitT Z M i := fun i => by rw [eZt1, eMt1]; rfl
      have hsc : m_eq Mt Mt := m_eq_rf _
      have hne9 : o_nan Zt Mt nf ni nt := by rw [eZt1, eMt1]; exact hne htp
      have hsf9 : o_self (o_score Zt Mt nf ni nt v) := by rw [eZt1, eMt1]; exact hsf htp
      refine lv_aload_n hx hb dX9_scoreBits_39 rfl (lv_at hl 0 rfl) ?_
      refine lv_iload_n hx hb dX9_scoreBits_40 rfl (lv_at hl 1 rfl) ?_
      refine m_ci (va_runV (As := [.int v]) (rest := []) ⟨hx, hb, hml, hown, hts⟩ (c_X9_hitsOn l (Z := Zt) (M := Mt) (th := 0) v hro (r_st_self his) hnf9 hn hna9 hnt1 h4t (fun k h1 h2 => by rw [hsc 28 (by decide) (by decide)]; exact hga9 k h1 h2)) (cwV 1 hts gX9_scoreBits_X9_hitsOn rfl rfl rfl (by decide +kernel) ⟨Nat.le_of_ble_eq_true rfl, Nat.le_of_ble_eq_true rfl⟩) ⟨m_blind m_B_calling, m_recv hw (m_ent_10 hro.1) rfl, fun U hU hW => ⟨rfl, m_wo_call hw hU hW⟩⟩ rfl rfl hl.1 rfl (lv_room (Nat.le_of_ble_eq_true rfl)) dX9_scoreBits_41 ⟨Nat.le_of_ble_eq_true rfl, Nat.le_of_ble_eq_true rfl⟩) hw (fun r_41 u_41 H locs hp_41 hw => ?_)
      obtain ⟨I_11, A_12⟩ := u_41
      have hw : m_wo G K I_11 R F A_12 N L T J D s H locs := hw
      dsimp only at hp_41
      obtain ⟨⟨M_13, hiM_13, hmM_13⟩, hrM_13⟩ := hp_41
      have his := r_st_tr his hiM_13
      obtain rfl : r_41 = (nI (o_hitsOn Zt Mt v)) := hrM_13
      rw [o_hitsOn_eq hsc]
      have hsc := m_eq_tr hsc hmM_13
      refine lv_if_ne (tgt := 51) hx hb dX9_scoreBits_44 (by decide) (fun c_44 => ?_) (fun c_44 => ?_)
      · skip
        have h44 := hlt v
        rw [hht, show (0 : Int32) = nI 0 from rfl, nI_eq h44 (by decide)] at c_44
        have hres : (o_score Zt Mt nf ni nt v).toInt32 = o_bits Z M nf ni nt v := by unfold o_bits; rw [if_neg c_44, eZt1, eMt1]
        refine lv_aload_n hx hb dX9_scoreBits_51 rfl (lv_at hl 0 rfl) ?_
        refine lv_iload_n hx hb dX9_scoreBits_52 rfl (lv_at hl 1 rfl) ?_
        refine m_cf (va_runV (As := [.int v]) (rest := []) ⟨hx, hb, hml, hown, hts⟩ (c_X9_scoreOf l (Z := Zt) (M := M_13) (th := 0) v hro (r_st_self his) hnf9 hn hna9 hnt1 h4t (fun k h1 h2 => by rw [hsc 28 (by decide) (by decide)]; exact hga9 k h1 h2) hni9 hn12 (o_nan_eq hsc hne9)) (cwV 1 hts gX9_scoreBits_X9_scoreOf rfl rfl rfl (by decide +kernel) ⟨Nat.le_of_ble_eq_true rfl, Nat.le_of_ble_eq_true rfl⟩) ⟨m_blind m_B_calling, m_recv hw (m_ent_10 hro.1) rfl, fun U hU hW => ⟨rfl, m_wo_call hw hU hW⟩⟩ rfl rfl hl.1 rfl (lv_room (Nat.le_of_ble_eq_true rfl)) dX9_scoreBits_53 ⟨Nat.le_of_ble_eq_true rfl, Nat.le_of_ble_eq_true rfl⟩) hw (fun r_53 u_53 H locs hp_53 hw => ?_)
        obtain ⟨I_14, A_15⟩ := u_53
        have hw : m_wo G K I_14 R F A_15 N L T J D s H locs := hw
        dsimp only at hp_53
        obtain ⟨⟨M_16, hiM_16, hmM_16⟩, hrM_16⟩ := hp_53
        have his := r_st_tr his hiM_16
        obtain rfl : r_53 = (o_score Zt M_13 nf ni nt v) := hrM_16
        rw [o_score_eq hsc]
        have hsc := m_eq_tr hsc hmM_16
        refine m_ci (va_runS (As := [.float (o_score Zt Mt nf ni nt v)]) (rest := []) ⟨hx, hb, hml, hown, hts⟩ (c_Jxf58ca_floatToIntBits_5c35a l (o_score Zt Mt nf ni nt v) hsf9) (va_cwS 1 hts gX9_scoreBits_Jxf58ca_floatToIntBits_5c35a rfl rfl rfl (by decide +kernel) ⟨Nat.le_of_ble_eq_true rfl, Nat.le_of_ble_eq_true rfl⟩) ⟨m_blind m_B_calling, fun U hU hW => ⟨rfl, m_wo_call hw hU hW⟩⟩ rfl rfl hl.1 rfl (lv_room (Nat.le_of_ble_eq_true rfl)) dX9_scoreBits_56 ⟨Nat.le_of_ble_eq_true rfl, Nat.le_of_ble_eq_true rfl⟩) hw (fun r_56 u_56 H locs hp_56 hw => ?_)
        obtain rfl : r_56 = (o_score Zt Mt nf ni nt v).toInt32 := hp_56
        exact W.iret (v := ((o_score Zt Mt nf ni nt v).toInt32)) hx hb hr (fun t ht hW => ⟨⟨((o_score Zt Mt nf ni nt v).toInt32), (I_14, A_15), rfl, (by have ht : t_typed (o_isl Z v) Z = 0 := (by simp [t_typed, htp, q_10, htp]); have hth : (0 : Int32) = 0 := (by first | rfl | simp [q_10, htp]); rw [hth] at his; rw [ht]; exact ⟨⟨Zt, M_16, his, o_sc_m hsc0 hsc⟩, fun _ => hres⟩), m_wo_out hw ht hW.alike⟩, m_wo_F hw ht⟩) (m_wo_L hw) dX9_scoreBits_59
      · skip
        have h44 := hlt v
        rw [hht, show (0 : Int32) = nI 0 from rfl, nI_eq h44 (by decide)] at c_44
        have hres : (0 : Int32) = o_bits Z M nf ni nt v := by unfold o_bits; rw [if_pos c_44]
        refine lv_iconst (v := 0) hx hb dX9_scoreBits_47 (by decide) ?_
        refine lv_goto (tgt := 59) hx hb dX9_scoreBits_48 (by decide) ?_
        exact W.iret (v := 0) hx hb hr (fun t ht hW => ⟨⟨0, (I_11, A_12), rfl, (by have ht : t_typed (o_isl Z v) Z = 0 := (by simp [t_typed, htp, q_10, htp]); have hth : (0 : Int32) = 0 := (by first | rfl | simp [q_10, htp]); rw [hth] at his; rw [ht]; exact ⟨⟨Zt, M_13, his, o_sc_m hsc0 hsc⟩, fun _ => hres⟩), m_wo_out hw ht hW.alike⟩, m_wo_F hw ht⟩) (m_wo_L hw) dX9_scoreBits_59

set_option maxHeartbeats 400000 in
set_option maxRecDepth 100000 in
theorem c_X9_isTrue (l : Launch) {G : mG} {K : Nat → Nat} {I : Nat → Nat → Int32} {R : Nat → Nat → Option Nat} {F : Nat → UInt32} {A : Nat → Nat → Int32} {N : Nat → Nat} {L : Nat → List Nat} {T : Nat → List Int32} {J : Nat → Nat → Int64} {D : Nat → Nat → UInt64} {o : Nat} {ad : Nat → Nat} {Z : Nat → Int32} {M : Nat → Nat → Int32} {th : Int32}  (hro : r_ok K R N o ad) (hz : r_st K o ad I A I A Z M th)  : Met l yX9_isTrue wsX9_isTrue ({ frames := 0, cells := 0, slots := 0, locals := 0 } : Room) (va_Pc [.ref o] (m_B G K I R F A N L T J D)) (va_Qi (fun (r : Int32) (_ : Unit) => r = 1) (fun u : Unit => m_B G K I R F A N L T J D) (m_A G)) 0 0 (m_A G) := by
  refine Met.ofW (cc := cX9_isTrue) (maxL := 1) (ret := (some .boolean)) (by decide) rfl ?_
  intro p e s m args below meth c s₁ B hml hv
  obtain ⟨rfl, hB⟩ := hv
  have hx := B.exec
  have hb := B.bytes
  have hr := B.returns
  have hts := atoms_spec (ws := wsX9_isTrue) B.pre
  have hown : s.vm.findClass RX9 = some m.cls := findClass_of_methodNamed B.named
  have hlocks := B.notSynchronized
  have hw := m_wo_in hB
  have hl := lv_entry ([.ref o]) (n := 1) (Nat.le_of_ble_eq_true rfl)
  rw [lg_entry_eq]
  generalize (lg_sl ([.ref o]) ++ List.replicate (1 - (lg_sl ([.ref o])).length) Slot.unset).toArray = ls at hl ⊢
  have hl : lv_has ls 1 [(0, .ref o)] := hl
  have his := hz
  refine lv_iconst (v := 1) hx hb dX9_isTrue_0 (by decide) ?_
  exact W.zret (v := 1) hx hb hr (by rfl) (fun t ht hW => ⟨⟨1, (), rfl, rfl, m_wo_out hw ht hW.alike⟩, m_wo_F hw ht⟩) (m_wo_L hw) dX9_isTrue_1

