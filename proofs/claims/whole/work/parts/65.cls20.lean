/-- a ship as it must be -/
def c_shp (K : Nat → Nat) (R : Nat → Nat → Option Nat) (N : Nat → Nat) (I A : Nat → Nat → Int32) (a : Nat) : Prop := ∃ ph w9 d9 n is9 came, R 70 a = some ph ∧ c_ph K R N I A ph w9 d9 n ∧ R 71 a = some is9 ∧ K is9 = 3 ∧ R 73 a = some came ∧ K came = 3 ∧ K a = 7 ∧ (I 74 a = 0 ∨ I 74 a = 1)
/-- a ship goes back -/
def c_goI (I : Nat → Nat → Int32) (R : Nat → Nat → Option Nat) (a : Nat) : Nat → Nat → Int32 := if I 74 a = 1 then m_up2 (m_up2 (m_up2 I 72 a (I 72 a - (if I 72 a < I 33 ((R 71 a).getD 0) then I 72 a else I 33 ((R 71 a).getD 0)))) 34 ((R 71 a).getD 0) 1) 42 ((R 70 a).getD 0) 0 else m_up2 I 42 ((R 70 a).getD 0) 0
def c_goR (R : Nat → Nat → Option Nat) (a : Nat) : Nat → Nat → Option Nat := m_up2 R 71 a (R 73 a)
def c_out (I : Nat → Nat → Int32) (R : Nat → Nat → Option Nat) (A : Nat → Nat → Int32) (l9 : List Nat) (a : Nat) : Bool := !decide (I 42 ((R 70 a).getD 0) = 0) && !decide (0 < nI (c_hit I R A l9 ((R 40 ((R 70 a).getD 0)).getD 0) ((R 41 ((R 70 a).getD 0)).getD 0) (I 42 ((R 70 a).getD 0)).toNatClampNeg (I 30 ((R 71 a).getD 0))))
def c_bk (A : Nat → Nat → Int32) (l9 : List Nat) (S : (Nat → Nat → Int32) × (Nat → Nat → Option Nat) × Nat) (a : Nat) : (Nat → Nat → Int32) × (Nat → Nat → Option Nat) × Nat := if c_out S.1 S.2.1 A l9 a = true then (c_goI S.1 S.2.1 a, c_goR S.2.1 a, S.2.2 + 1) else S
section
variable {K : Nat → Nat} {I : Nat → Nat → Int32} {R : Nat → Nat → Option Nat} {N : Nat → Nat} {A : Nat → Nat → Int32} {l9 : List Nat} {a ph w9 d9 n is9 : Nat}
theorem c_kn {b c j k : Nat} (hb : K b = j) (hc : K c = k) (h : j ≠ k) : b ≠ c := fun z => h (by rw [← hb, ← hc, z])
theorem c_goI_f {f b : Nat} (h1 : f ≠ 72) (h2 : f ≠ 34) (h3 : f ≠ 42) : c_goI I R a f b = I f b := by
  unfold c_goI
  split
  · rw [m_up2_ni _ _ h3, m_up2_ni _ _ h2, m_up2_ni _ _ h1]
  · rw [m_up2_ni _ _ h3]
theorem c_goI_42 {b : Nat} : c_goI I R a 42 b = if b = (R 70 a).getD 0 then 0 else I 42 b := by
  unfold c_goI
  split
  · unfold m_up2; simp
  · unfold m_up2; simp
theorem c_out_e (h70 : R 70 a = some ph) (h : I 42 ph = 0) : c_out I R A l9 a = false := by
  unfold c_out
  rw [h70]
  show (!decide (I 42 ph = 0) && _) = false
  rw [decide_eq_true h]
  rfl
theorem c_out_q (h70 : R 70 a = some ph) (h71 : R 71 a = some is9) (hph : c_ph K R N I A ph w9 d9 n) : c_out I R A l9 a = (!decide (I 42 ph = 0) && !decide (0 < nI (c_hit I R A l9 w9 d9 n (I 30 is9)))) := by
  unfold c_out
  rw [h70, h71]
  show (!decide (I 42 ph = 0) && !decide (0 < nI (c_hit I R A l9 ((R 40 ph).getD 0) ((R 41 ph).getD 0) (I 42 ph).toNatClampNeg (I 30 is9)))) = _
  have h9 := hph.2.2.2.2.2.2.2.2.1
  rw [hph.2.1, hph.2.2.2.2.1, hph.2.2.2.2.2.2.2.1, nI_clamp (by omega)]
  rfl
theorem c_out_h (h70 : R 70 a = some ph) (h71 : R 71 a = some is9) (hph : c_ph K R N I A ph w9 d9 n) (h : 0 < nI (c_hit I R A l9 w9 d9 n (I 30 is9))) : c_out I R A l9 a = false := by
  rw [c_out_q h70 h71 hph, decide_eq_true h, Bool.not_true, Bool.and_false]
theorem c_out_t (h70 : R 70 a = some ph) (h71 : R 71 a = some is9) (hph : c_ph K R N I A ph w9 d9 n) (h0 : ¬ I 42 ph = 0) (h : ¬ 0 < nI (c_hit I R A l9 w9 d9 n (I 30 is9))) : c_out I R A l9 a = true := by
  rw [c_out_q h70 h71 hph, decide_eq_false h, decide_eq_false h0]
  rfl
theorem c_shp_go {b : Nat} (h : c_shp K R N I A a) (hb : c_shp K R N I A b) : c_shp K (c_goR R b) N (c_goI I R b) A a := by
  obtain ⟨ph, w9, d9, n, is9, came, h70, ⟨p1, p2, p3, p4, p5, p6, p7, p8, p9, p10⟩, h71, hki, h73, hkc, hka, h74⟩ := h
  obtain ⟨phb, -, -, -, isb, cameb, b70, -, b71, -, b73, bkc, -, -⟩ := hb
  have hR : ∀ f x, f ≠ 71 → c_goR R b f x = R f x := fun f x h => m_up2_ni _ _ h
  have h74' : c_goI I R b 74 a = 0 ∨ c_goI I R b 74 a = 1 := by rw [c_goI_f (by decide) (by decide) (by decide)]; exact h74
  have hphn : ∃ n', c_ph K (c_goR R b) N (c_goI I R b) A ph w9 d9 n' := by
    by_cases hp : ph = phb
    · refine ⟨0, p1, (hR _ _ (by decide)).trans p2, p3, p4, (hR _ _ (by decide)).trans p5, p6, p7, ?_, Nat.zero_le _, fun k h1 h2 => absurd h2 (Nat.not_lt_zero _)⟩
      rw [c_goI_42, b70, if_pos (by rw [hp]; rfl)]; rfl
    · refine ⟨n, p1, (hR _ _ (by decide)).trans p2, p3, p4, (hR _ _ (by decide)).trans p5, p6, p7, ?_, p9, p10⟩
      rw [c_goI_42, b70]; exact (if_neg hp).trans p8
  obtain ⟨n', hph'⟩ := hphn
  by_cases hab : a = b
  · refine ⟨ph, w9, d9, n', cameb, came, (hR _ _ (by decide)).trans h70, hph', ?_, bkc, (hR _ _ (by decide)).trans h73, hkc, hka, h74'⟩
    unfold c_goR; rw [hab, m_up2_self]; exact b73
  · refine ⟨ph, w9, d9, n', is9, came, (hR _ _ (by decide)).trans h70, hph', ?_, hki, (hR _ _ (by decide)).trans h73, hkc, hka, h74'⟩
    unfold c_goR; rw [m_up2_ne _ _ hab]; exact h71
theorem c_fst {l : List Nat} {i cn : Nat} {S : (Nat → Nat → Int32) × (Nat → Nat → Option Nat) × Nat} {Ii : Nat → Nat → Int32} {Ri : Nat → Nat → Option Nat} (h : (l.take i).foldl (c_bk A l9) S = (Ii, Ri, cn)) (hi : i = l.length) : Ii = (l.foldl (c_bk A l9) S).1 ∧ Ri = (l.foldl (c_bk A l9) S).2.1 ∧ nI cn = nI (l.foldl (c_bk A l9) S).2.2 := by
  rw [hi, List.take_length] at h
  rw [h]
  exact ⟨rfl, rfl, rfl⟩
end
set_option maxHeartbeats 1600000 in
set_option maxRecDepth 100000 in
theorem c_X8_sendShipsBack (l : Launch) {G : mG} {K : Nat → Nat} {I : Nat → Nat → Int32} {R : Nat → Nat → Option Nat} {F : Nat → UInt32} {A : Nat → Nat → Int32} {N : Nat → Nat} {L : Nat → List Nat} {T : Nat → List Int32} {J : Nat → Nat → Int64} {D : Nat → Nat → UInt64} {o : Nat} {cd : Nat → Nat}  (hok : c_ok K R N o cd) (hrw : c_rwd K I R (L (cd 9))) (hsh : ∀ a, a ∈ L (cd 5) → c_shp K R N I A a) : Met l yX8_sendShipsBack wsX8_sendShipsBack ({ frames := 9, cells := 0, slots := 0, locals := 300 } : Room) (va_Pc [.ref o] (m_B G K I R F A N L T J D)) (va_Qi (fun (r : Int32) (u : (Nat → Nat → Int32) × (Nat → Nat → Option Nat) × (Nat → Nat → Int32)) => (∀ b, b ≠ cd 11 → b ≠ cd 12 → u.2.2 b = A b) ∧ u.1 = ((L (cd 5)).foldl (c_bk A (L (cd 9))) (I, R, 0)).1 ∧ u.2.1 = ((L (cd 5)).foldl (c_bk A (L (cd 9))) (I, R, 0)).2.1 ∧ r = nI ((L (cd 5)).foldl (c_bk A (L (cd 9))) (I, R, 0)).2.2) (fun u : (Nat → Nat → Int32) × (Nat → Nat → Option Nat) × (Nat → Nat → Int32) => m_B G K (u.1) (u.2.1) F (u.2.2) N L T J D) (m_A G)) 0 0 (m_A G) := by
  refine Met.ofW (cc := cX8_sendShipsBack) (maxL := 4) (ret := (some .int)) (by decide) rfl ?_
  intro p e s m args below meth c s₁ B hml hv
  obtain ⟨rfl, hB⟩ := hv
  have hx := B.exec
  have hb := B.bytes
  have hr := B.returns
  have hts := atoms_spec (ws := wsX8_sendShipsBack) B.pre
  have hown : s.vm.findClass RX8 = some m.cls := findClass_of_methodNamed B.named
  have hlocks := B.notSynchronized
  have hw := m_wo_in hB
  have hl := lv_entry ([.ref o]) (n := 4) (Nat.le_of_ble_eq_true rfl)
  rw [lg_entry_eq]
  generalize (lg_sl ([.ref o]) ++ List.replicate (4 - (lg_sl ([.ref o])).length) Slot.unset).toArray = ls at hl ⊢
  have hl : lv_has ls 4 [(0, .ref o)] := hl
  have hlen := m_len hw hok.2.2.2.2.2.2.2.2.2.2.2.2.2.2.2.1
  have hok0 := hok
  refine lv_iconst (v := 0) hx hb dX8_sendShipsBack_0 (by decide) ?_
  refine lv_istore_n (lv' := [(1, .int 0), (0, .ref o)]) hx hb dX8_sendShipsBack_1 rfl hl (by decide) rfl (fun ls hl => ?_)
  refine lv_iconst (v := 0) hx hb dX8_sendShipsBack_2 (by decide) ?_
  refine lv_istore_n (lv' := [(2, .int 0), (1, .int 0), (0, .ref o)]) hx hb dX8_sendShipsBack_3 rfl hl (by decide) rfl (fun ls hl => ?_)
  refine m_loop (σ := Nat × Nat × (Nat → Nat → Int32) × (Nat → Nat → Option Nat) × (Nat → Nat → Int32)) (fun a => (L (cd 5)).length - (a.1)) (fun a H locs ls => ((a.1) ≤ (L (cd 5)).length ∧ ((L (cd 5)).take (a.1)).foldl (c_bk A (L (cd 9))) (I, R, 0) = ((a.2.2.1), (a.2.2.2.1), (a.2.1)) ∧ (∀ a9, a9 ∈ L (cd 5) → c_shp K (a.2.2.2.1) N (a.2.2.1) A a9) ∧ (∀ b9, b9 ≠ cd 11 → b9 ≠ cd 12 → (a.2.2.2.2) b9 = A b9) ∧ (∀ f9 b9, f9 ≠ 71 → (a.2.2.2.1) f9 b9 = R f9 b9) ∧ (∀ f9 b9, f9 ≠ 72 → f9 ≠ 34 → f9 ≠ 42 → (a.2.2.1) f9 b9 = I f9 b9)) ∧ m_wo G K (a.2.2.1) (a.2.2.2.1) F (a.2.2.2.2) N L T J D s H locs ∧ lv_has ls 4 [(0, .ref o), (1, .int (nI (a.2.1))), (2, .int (nI (a.1)))]) ?_ (0, 0, I, R, A) ⟨⟨Nat.zero_le _, rfl, hsh, fun _ _ _ => rfl, fun _ _ _ => rfl, fun _ _ _ _ _ => rfl⟩, hw, lv_sub hl [2, 1, 0] rfl⟩
  rintro ⟨i, cn, Ii, Ri, Aa⟩ H locs ls ⟨hinv, hw, hl⟩ ih
  dsimp only at hinv hw hl
  obtain ⟨hi0, hfo, hsh1, hA0, hR0, hI0⟩ := hinv
  have hok : c_ok K Ri N o cd := c_ok_chg hok0 (EI := fun f _ => f = 72 ∨ f = 34 ∨ f = 42) (ER := fun f _ => f = 71) (K' := K) (I := I) (I' := Ii) (N' := N) (fun b9 _ _ => ⟨rfl, rfl, fun f _ h => hI0 f b9 (fun z => h (Or.inl z)) (fun z => h (Or.inr (Or.inl z))) (fun z => h (Or.inr (Or.inr z))), fun f _ _ h => hR0 f b9 h, fun h => by rw [hR0 111 b9 (by decide)]; exact h⟩) (fun f _ h => by rw [show f = 71 from h]; decide)
  have hrw1 : c_rwd K Ii Ri (L (cd 9)) := ⟨hrw.1, fun a9 ha9 => by rw [hI0 13 a9 (by decide) (by decide) (by decide)]; exact hrw.2.1 a9 ha9, fun a9 ha9 => ⟨by rw [hR0 15 a9 (by decide)]; exact (hrw.2.2 a9 ha9).1, by rw [hI0 16 a9 (by decide) (by decide) (by decide)]; exact (hrw.2.2 a9 ha9).2⟩⟩
  refine lv_iload_n hx hb dX8_sendShipsBack_4 rfl (lv_at hl 2 rfl) ?_
  refine lv_aload_n hx hb dX8_sendShipsBack_5 rfl (lv_at hl 0 rfl) ?_
  refine g_9_5 (r := some (cd 5)) hx hb hts (by decide +kernel) hown hw hok.1 (hts (.fieldLink RX8 40 "Pirateindex" "fleet" "Ljava/util/ArrayList;") (by decide +kernel)) hok.2.2.2.2.2.2.1 dX8_sendShipsBack_6 ?_
  refine m_ci (va_runV (As := []) (rest := [.int (nI i)]) ⟨hx, hb, hml, hown, hts⟩ (c_Jx4a65c_size_8abf5 l hok.2.2.2.2.2.2.2.2.2.2.2.2.2.2.2.1) (cwV 0 hts gX8_sendShipsBack_Jx4a65c_size_8abf5 rfl rfl rfl (by decide +kernel) ⟨Nat.le_of_ble_eq_true rfl, Nat.le_of_ble_eq_true rfl⟩) ⟨m_blind m_B_calling, m_recv hw (m_ent_11 hok.2.2.2.2.2.2.2.2.2.2.2.2.2.2.2.1) rfl, fun U hU hW => ⟨rfl, m_wo_call hw hU hW⟩⟩ rfl rfl hl.1 rfl (lv_room (Nat.le_of_ble_eq_true rfl)) dX8_sendShipsBack_9 ⟨Nat.le_of_ble_eq_true rfl, Nat.le_of_ble_eq_true rfl⟩) hw (fun r_9 u_9 H locs hp_9 hw => ?_)
  obtain rfl : r_9 = (nI (L (cd 5)).length) := hp_9
  refine lv_icmp_ge (tgt := 65) hx hb dX8_sendShipsBack_12 (by decide) (fun c_12 => ?_) (fun c_12 => ?_)
  · skip
    rw [nI_leI (by omega) (by omega)] at c_12
    have hi : i = (L (cd 5)).length := by omega
    refine lv_iload_n hx hb dX8_sendShipsBack_65 rfl (lv_at hl 1 rfl) ?_
    exact W.iret (v := nI cn) hx hb hr (fun t ht hW => ⟨⟨nI cn, (Ii, Ri, Aa), rfl, ⟨hA0, c_fst hfo hi⟩, m_wo_out hw ht hW.alike⟩, m_wo_F hw ht⟩) (m_wo_L hw) dX8_sendShipsBack_66
  · skip
    rw [nI_leI (by omega) (by omega)] at c_12
    have hi : i < (L (cd 5)).length := by omega
    refine lv_aload_n hx hb dX8_sendShipsBack_15 rfl (lv_at hl 0 rfl) ?_
    refine g_9_5 (r := some (cd 5)) hx hb hts (by decide +kernel) hown hw hok.1 (hts (.fieldLink RX8 40 "Pirateindex" "fleet" "Ljava/util/ArrayList;") (by decide +kernel)) hok.2.2.2.2.2.2.1 dX8_sendShipsBack_16 ?_
    refine lv_iload_n hx hb dX8_sendShipsBack_19 rfl (lv_at hl 2 rfl) ?_
    obtain ⟨ai, ha⟩ : ∃ z, (L (cd 5))[i]? = some z := ⟨_, lg_some hi⟩
    obtain ⟨ph, w9, d9, n, is9, came, h70, hph, h71, hki, h73, hkc, hka, h74⟩ := hsh1 ai (List.mem_of_getElem? ha)
    have hkp := hph.1
    have hph1 : c_ph K Ri N Ii Aa ph w9 d9 n := c_ph_A hph (hA0 _ (c_kn hph.2.2.2.2.2.1 hok0.2.2.2.2.2.2.2.2.2.2.2.2.2.2.2.2.2.2.2.2.2.1 (by decide)) (c_kn hph.2.2.2.2.2.1 hok0.2.2.2.2.2.2.2.2.2.2.2.2.2.2.2.2.2.2.2.2.2.2.1 (by decide)))
    have ht1 := lg_take ha
    have hshN : ∀ a9, a9 ∈ L (cd 5) → c_shp K (c_goR Ri ai) N (c_goI Ii Ri ai) A a9 := fun a9 ha9 => c_shp_go (hsh1 a9 ha9) (hsh1 ai (List.mem_of_getElem? ha))
    refine m_cq (va_runV (As := [.int (nI i)]) (rest := []) ⟨hx, hb, hml, hown, hts⟩ (c_Jx4a65c_get_915e3 l (i := i) hok.2.2.2.2.2.2.2.2.2.2.2.2.2.2.2.1 hi) (cwV 1 hts gX8_sendShipsBack_Jx4a65c_get_915e3 rfl rfl rfl (by decide +kernel) ⟨Nat.le_of_ble_eq_true rfl, Nat.le_of_ble_eq_true rfl⟩) ⟨m_blind m_B_calling, m_recv hw (m_ent_11 hok.2.2.2.2.2.2.2.2.2.2.2.2.2.2.2.1) rfl, fun U hU hW => ⟨rfl, m_wo_call hw hU hW⟩⟩ rfl rfl hl.1 rfl (lv_room (Nat.le_of_ble_eq_true rfl)) dX8_sendShipsBack_20 ⟨Nat.le_of_ble_eq_true rfl, Nat.le_of_ble_eq_true rfl⟩) hw (fun r_20 u_20 H locs hp_20 hw => ?_)
    obtain rfl : r_20 = some ai := hp_20.trans ha
    refine va_castS hx hb hown (hts (.classLink RX8 112 "Pirateindex$Ship") (by decide +kernel)) (hw.1.1 11 _ rfl).2 (m_recv hw (m_ent_7 hka) rfl) dX8_sendShipsBack_23 ?_
    refine lv_astore_n (lv' := [(3, .ref ai), (0, .ref o), (1, .int (nI cn)), (2, .int (nI i))]) hx hb dX8_sendShipsBack_26 rfl hl (by decide) rfl (fun ls hl => ?_)
    refine lv_aload_n hx hb dX8_sendShipsBack_27 rfl (lv_at hl 0 rfl) ?_
    refine g_7_0 (r := some ph) hx hb hts (by decide +kernel) hown hw hka (hts (.fieldLink RX8 280 "Pirateindex$Ship" "map" "LPirateindex$Phrase;") (by decide +kernel)) h70 dX8_sendShipsBack_28 ?_
    refine m_ci (va_runV (As := []) (rest := []) ⟨hx, hb, hml, hown, hts⟩ (c_X3_isEmpty l hkp) (cwV 0 hts gX8_sendShipsBack_X3_isEmpty rfl rfl rfl (by decide +kernel) ⟨Nat.le_of_ble_eq_true rfl, Nat.le_of_ble_eq_true rfl⟩) ⟨m_blind m_B_calling, m_recv hw (m_ent_4 hkp) rfl, fun U hU hW => ⟨rfl, m_wo_call hw hU hW⟩⟩ rfl rfl hl.1 rfl (lv_room (Nat.le_of_ble_eq_true rfl)) dX8_sendShipsBack_31 ⟨Nat.le_of_ble_eq_true rfl, Nat.le_of_ble_eq_true rfl⟩) hw (fun r_31 u_31 H locs hp_31 hw => ?_)
    obtain rfl : r_31 = b2i (decide (Ii 42 ph = 0)) := hp_31
    refine lv_if_ne (tgt := 59) hx hb dX8_sendShipsBack_34 (by decide) (fun c_34 => ?_) (fun c_34 => ?_)
    · skip
      have hq := of_decide_eq_true ((b2i_ne _).mp c_34)
      have hout : c_out Ii Ri A (L (cd 9)) ai = false := c_out_e h70 hq
      have hE1 : ((L (cd 5)).take (i + 1)).foldl (c_bk A (L (cd 9))) (I, R, 0) = (Ii, Ri, cn) := by rw [ht1, List.foldl_append, hfo]; exact if_neg (by rw [hout]; decide)
      have hE2 := hsh1
      have hE4 := hR0
      have hE5 := hI0
      have hE3 := hA0
      refine lv_iinc (v := nI (i + 1)) (lv' := [(2, .int (nI (i + 1))), (3, .ref ai), (0, .ref o), (1, .int (nI cn))]) hx hb dX8_sendShipsBack_59 hl (k := 3) rfl (nI_1 _) (by decide) rfl (fun ls hl => ?_)
      refine lv_goto (tgt := 4) hx hb dX8_sendShipsBack_62 (by decide) ?_
      exact ih (i + 1, cn, Ii, Ri, Aa) _ _ _ (by dsimp only; omega) ⟨⟨by omega, hE1, hE2, hE3, hE4, hE5⟩, hw, lv_sub hl [2, 3, 0] rfl⟩
    · skip
      have hq := of_decide_eq_false ((b2i_eq _).mp c_34)
      refine lv_aload_n hx hb dX8_sendShipsBack_37 rfl (lv_at hl 1 rfl) ?_
      refine lv_aload_n hx hb dX8_sendShipsBack_38 rfl (lv_at hl 0 rfl) ?_
      refine g_7_0 (r := some ph) hx hb hts (by decide +kernel) hown hw hka (hts (.fieldLink RX8 280 "Pirateindex$Ship" "map" "LPirateindex$Phrase;") (by decide +kernel)) h70 dX8_sendShipsBack_39 ?_
      refine lv_aload_n hx hb dX8_sendShipsBack_42 rfl (lv_at hl 0 rfl) ?_
      refine g_7_1 (r := some is9) hx hb hts (by decide +kernel) hown hw hka (hts (.fieldLink RX8 245 "Pirateindex$Ship" "where" "LPirateindex$Isle;") (by decide +kernel)) h71 dX8_sendShipsBack_43 ?_
      refine m_ci (va_runV (As := [.ref ph, .ref is9]) (rest := []) ⟨hx, hb, hml, hown, hts⟩ (c_X8_isHit l hok hki hph1 hrw1) (cwV 2 hts gX8_sendShipsBack_X8_isHit rfl rfl rfl (by decide +kernel) ⟨Nat.le_of_ble_eq_true rfl, Nat.le_of_ble_eq_true rfl⟩) ⟨m_blind m_B_calling, m_recv hw (m_ent_9 hok.1) rfl, fun U hU hW => ⟨rfl, m_wo_call hw hU hW⟩⟩ rfl rfl hl.1 rfl (lv_room (Nat.le_of_ble_eq_true rfl)) dX8_sendShipsBack_46 ⟨Nat.le_of_ble_eq_true rfl, Nat.le_of_ble_eq_true rfl⟩) hw (fun r_46 u_46 H locs hp_46 hw => ?_)
      have hw : m_wo G K Ii Ri F u_46 N L T J D s H locs := hw
      obtain ⟨hA1, hr1⟩ := hp_46
      rw [c_hit_A (A := A) (hA0 _ (c_kn hph.2.2.1 hok0.2.2.2.2.2.2.2.2.2.2.2.2.2.2.2.2.2.2.2.2.2.1 (by decide)) (c_kn hph.2.2.1 hok0.2.2.2.2.2.2.2.2.2.2.2.2.2.2.2.2.2.2.2.2.2.2.1 (by decide))) (hA0 _ (c_kn hph.2.2.2.2.2.1 hok0.2.2.2.2.2.2.2.2.2.2.2.2.2.2.2.2.2.2.2.2.2.1 (by decide)) (c_kn hph.2.2.2.2.2.1 hok0.2.2.2.2.2.2.2.2.2.2.2.2.2.2.2.2.2.2.2.2.2.2.1 (by decide)))] at hr1
      obtain rfl : r_46 = b2i (decide (0 < (nI (c_hit Ii Ri A (L (cd 9)) w9 d9 n (Ii 30 is9))))) := hr1
      have hE3 : ∀ b9, b9 ≠ cd 11 → b9 ≠ cd 12 → u_46 b9 = A b9 := fun b9 h1 h2 => (hA1 b9 h1 h2).trans (hA0 b9 h1 h2)
      refine lv_if_ne (tgt := 59) hx hb dX8_sendShipsBack_49 (by decide) (fun c_49 => ?_) (fun c_49 => ?_)
      · skip
        have hq2 := of_decide_eq_true ((b2i_ne _).mp c_49)
        have hout : c_out Ii Ri A (L (cd 9)) ai = false := c_out_h h70 h71 hph hq2
        have hE1 : ((L (cd 5)).take (i + 1)).foldl (c_bk A (L (cd 9))) (I, R, 0) = (Ii, Ri, cn) := by rw [ht1, List.foldl_append, hfo]; exact if_neg (by rw [hout]; decide)
        have hE2 := hsh1
        have hE4 := hR0
        have hE5 := hI0
        refine lv_iinc (v := nI (i + 1)) (lv' := [(2, .int (nI (i + 1))), (3, .ref ai), (0, .ref o), (1, .int (nI cn))]) hx hb dX8_sendShipsBack_59 hl (k := 3) rfl (nI_1 _) (by decide) rfl (fun ls hl => ?_)
        refine lv_goto (tgt := 4) hx hb dX8_sendShipsBack_62 (by decide) ?_
        exact ih (i + 1, cn, Ii, Ri, u_46) _ _ _ (by dsimp only; omega) ⟨⟨by omega, hE1, hE2, hE3, hE4, hE5⟩, hw, lv_sub hl [2, 3, 0] rfl⟩
      · skip
        have hq2 := of_decide_eq_false ((b2i_eq _).mp c_49)
        have hout : c_out Ii Ri A (L (cd 9)) ai = true := c_out_t h70 h71 hph hq hq2
        rcases h74 with h74 | h74
        · skip
          refine lv_aload_n hx hb dX8_sendShipsBack_52 rfl (lv_at hl 0 rfl) ?_
          refine m_cv (va_runV (As := []) (rest := []) ⟨hx, hb, hml, hown, hts⟩ (c_X6_goBack_n l hka h71 hki h73 h70 hkp h74) (cwV 0 hts gX8_sendShipsBack_X6_goBack rfl rfl rfl (by decide +kernel) ⟨Nat.le_of_ble_eq_true rfl, Nat.le_of_ble_eq_true rfl⟩) ⟨m_blind m_B_calling, m_recv hw (m_ent_7 hka) rfl, fun U hU hW => ⟨rfl, m_wo_call hw hU hW⟩⟩ rfl rfl hl.1 rfl (lv_room (Nat.le_of_ble_eq_true rfl)) dX8_sendShipsBack_53 ⟨Nat.le_of_ble_eq_true rfl, Nat.le_of_ble_eq_true rfl⟩) hw (fun u_53 H locs hp_53 hw => ?_)
          obtain ⟨I_2, R_3⟩ := u_53
          have hw : m_wo G K I_2 R_3 F u_46 N L T J D s H locs := hw
          dsimp only at hp_53
          obtain ⟨eI1, eR1⟩ := hp_53
          have hgI : I_2 = c_goI Ii Ri ai := by rw [eI1]; unfold c_goI; rw [h71, h70, if_neg (by rw [h74]; decide)]; rfl
          have hgR : R_3 = c_goR Ri ai := by rw [eR1]; unfold c_goR; rw [h73]
          have hE1 : ((L (cd 5)).take (i + 1)).foldl (c_bk A (L (cd 9))) (I, R, 0) = (I_2, R_3, cn + 1) := by rw [ht1, List.foldl_append, hfo, hgI, hgR]; exact if_pos hout
          have hE2 : ∀ a9, a9 ∈ L (cd 5) → c_shp K R_3 N I_2 A a9 := by rw [hgI, hgR]; exact hshN
          have hE4 : ∀ f9 b9, f9 ≠ 71 → R_3 f9 b9 = R f9 b9 := fun f9 b9 h => by rw [eR1, m_up2_ni _ _ h]; exact hR0 f9 b9 h
          have hE5 : ∀ f9 b9, f9 ≠ 72 → f9 ≠ 34 → f9 ≠ 42 → I_2 f9 b9 = I f9 b9 := fun f9 b9 h1 h2 h3 => by rw [hgI, c_goI_f h1 h2 h3]; exact hI0 f9 b9 h1 h2 h3
          refine lv_iinc (v := nI (cn + 1)) (lv' := [(1, .int (nI (cn + 1))), (3, .ref ai), (0, .ref o), (2, .int (nI i))]) hx hb dX8_sendShipsBack_56 hl (k := 2) rfl (nI_1 _) (by decide) rfl (fun ls hl => ?_)
          refine lv_iinc (v := nI (i + 1)) (lv' := [(2, .int (nI (i + 1))), (1, .int (nI (cn + 1))), (3, .ref ai), (0, .ref o)]) hx hb dX8_sendShipsBack_59 hl (k := 3) rfl (nI_1 _) (by decide) rfl (fun ls hl => ?_)
          refine lv_goto (tgt := 4) hx hb dX8_sendShipsBack_62 (by decide) ?_
          exact ih (i + 1, cn + 1, I_2, R_3, u_46) _ _ _ (by dsimp only; omega) ⟨⟨by omega, hE1, hE2, hE3, hE4, hE5⟩, hw, lv_sub hl [3, 1, 0] rfl⟩
        · skip
          refine lv_aload_n hx hb dX8_sendShipsBack_52 rfl (lv_at hl 0 rfl) ?_
          refine m_cv (va_runV (As := []) (rest := []) ⟨hx, hb, hml, hown, hts⟩ (c_X6_goBack_d l hka h71 hki h73 h70 hkp h74) (cwV 0 hts gX8_sendShipsBack_X6_goBack rfl rfl rfl (by decide +kernel) ⟨Nat.le_of_ble_eq_true rfl, Nat.le_of_ble_eq_true rfl⟩) ⟨m_blind m_B_calling, m_recv hw (m_ent_7 hka) rfl, fun U hU hW => ⟨rfl, m_wo_call hw hU hW⟩⟩ rfl rfl hl.1 rfl (lv_room (Nat.le_of_ble_eq_true rfl)) dX8_sendShipsBack_53 ⟨Nat.le_of_ble_eq_true rfl, Nat.le_of_ble_eq_true rfl⟩) hw (fun u_53 H locs hp_53 hw => ?_)
          obtain ⟨I_4, R_5⟩ := u_53
          have hw : m_wo G K I_4 R_5 F u_46 N L T J D s H locs := hw
          dsimp only at hp_53
          obtain ⟨eI1, eR1⟩ := hp_53
          have hgI : I_4 = c_goI Ii Ri ai := by rw [eI1]; unfold c_goI; rw [h71, h70, if_pos h74]; rfl
          have hgR : R_5 = c_goR Ri ai := by rw [eR1]; unfold c_goR; rw [h73]
          have hE1 : ((L (cd 5)).take (i + 1)).foldl (c_bk A (L (cd 9))) (I, R, 0) = (I_4, R_5, cn + 1) := by rw [ht1, List.foldl_append, hfo, hgI, hgR]; exact if_pos hout
          have hE2 : ∀ a9, a9 ∈ L (cd 5) → c_shp K R_5 N I_4 A a9 := by rw [hgI, hgR]; exact hshN
          have hE4 : ∀ f9 b9, f9 ≠ 71 → R_5 f9 b9 = R f9 b9 := fun f9 b9 h => by rw [eR1, m_up2_ni _ _ h]; exact hR0 f9 b9 h
          have hE5 : ∀ f9 b9, f9 ≠ 72 → f9 ≠ 34 → f9 ≠ 42 → I_4 f9 b9 = I f9 b9 := fun f9 b9 h1 h2 h3 => by rw [hgI, c_goI_f h1 h2 h3]; exact hI0 f9 b9 h1 h2 h3
          refine lv_iinc (v := nI (cn + 1)) (lv' := [(1, .int (nI (cn + 1))), (3, .ref ai), (0, .ref o), (2, .int (nI i))]) hx hb dX8_sendShipsBack_56 hl (k := 2) rfl (nI_1 _) (by decide) rfl (fun ls hl => ?_)
          refine lv_iinc (v := nI (i + 1)) (lv' := [(2, .int (nI (i + 1))), (1, .int (nI (cn + 1))), (3, .ref ai), (0, .ref o)]) hx hb dX8_sendShipsBack_59 hl (k := 3) rfl (nI_1 _) (by decide) rfl (fun ls hl => ?_)
          refine lv_goto (tgt := 4) hx hb dX8_sendShipsBack_62 (by decide) ?_
          exact ih (i + 1, cn + 1, I_4, R_5, u_46) _ _ _ (by dsimp only; omega) ⟨⟨by omega, hE1, hE2, hE3, hE4, hE5⟩, hw, lv_sub hl [3, 1, 0] rfl⟩
