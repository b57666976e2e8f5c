set_option maxHeartbeats 400000 in
set_option maxRecDepth 100000 in
theorem c_X9_hitsOn (l : Launch) {G : mG} {K : Nat → Nat} {I : Nat → Nat → Int32} {R : Nat → Nat → Option Nat} {F : Nat → UInt32} {A : Nat → Nat → Int32} {N : Nat → Nat} {L : Nat → List Nat} {T : Nat → List Int32} {J : Nat → Nat → Int64} {D : Nat → Nat → UInt64} {o : Nat} {ad : Nat → Nat} {Z : Nat → Int32} {M : Nat → Nat → Int32} {th : Int32} {nf na : Nat} (isl : Int32) (hro : r_ok K R N o ad) (hz : r_st K o ad I A I A Z M th) (hnf : Z 1 = nI nf) (hn : nf ≤ 120) (hna : Z 30 = nI na) (h1a : 1 ≤ na) (h4a : na ≤ 4) (hga : ∀ k, 1 ≤ k → k < na → ∃ g, g ≤ 9 ∧ M 28 k = nI g) : Met l yX9_hitsOn wsX9_hitsOn ({ frames := 2, cells := 0, slots := 0, locals := 48 } : Room) (va_Pc [.ref o, .int isl] (m_B G K I R F A N L T J D)) (va_Qi (fun (r : Int32) (u : (Nat → Nat → Int32) × (Nat → Nat → Int32)) => (∃ M' : Nat → Nat → Int32, r_st K o ad I A u.1 u.2 Z M' th ∧ m_eq M M') ∧ r = nI (o_hitsOn Z M isl)) (fun u : (Nat → Nat → Int32) × (Nat → Nat → Int32) => m_B G K (u.1) R F (u.2) N L T J D) (m_A G)) 0 0 (m_A G) := by
  refine Met.ofW (cc := cX9_hitsOn) (maxL := 6) (ret := (some .int)) (by decide) rfl ?_
  intro p e s m args below meth c s₁ B hml hv
  obtain ⟨rfl, hB⟩ := hv
  have hx := B.exec
  have hb := B.bytes
  have hr := B.returns
  have hts := atoms_spec (ws := wsX9_hitsOn) B.pre
  have hown : s.vm.findClass RX9 = some m.cls := findClass_of_methodNamed B.named
  have hlocks := B.notSynchronized
  have hw := m_wo_in hB
  have hl := lv_entry ([.ref o, .int isl]) (n := 6) (Nat.le_of_ble_eq_true rfl)
  rw [lg_entry_eq]
  generalize (lg_sl ([.ref o, .int isl]) ++ List.replicate (6 - (lg_sl ([.ref o, .int isl])).length) Slot.unset).toArray = ls at hl ⊢
  have hl : lv_has ls 6 [(0, .ref o), (1, .int isl)] := hl
  have his := hz
  obtain ⟨aa, eaa⟩ : ∃ z : Nat → Nat → Nat, z = fun k p => o_at M nf (M 27 k) isl (nI p) := ⟨_, rfl⟩
  obtain ⟨gg, egg⟩ : ∃ z : Nat → Nat, z = fun k => (M 28 k).toNatClampNeg := ⟨_, rfl⟩
  have hgg : ∀ k, 1 ≤ k → k < na → M 28 k = nI (gg k) ∧ gg k ≤ 9 := by
    intro k h1 h2
    obtain ⟨g, hg9, hgk⟩ := hga k h1 h2
    have e : gg k = g := by rw [egg]; show (M 28 k).toNatClampNeg = g; rw [hgk]; exact nI_clamp (by omega)
    rw [e]
    exact ⟨hgk, hg9⟩
  have hres : o_hitsOn Z M isl = sumN (o_ways aa gg (na - 1)) 41 := by unfold o_hitsOn o_hits; rw [zn_of hnf (by omega), zn_of hna (by omega), ← eaa, ← egg]
  refine lv_iconst (v := 0) hx hb dX9_hitsOn_0 (by decide) ?_
  refine lv_istore_n (lv' := [(2, .int 0), (0, .ref o), (1, .int isl)]) hx hb dX9_hitsOn_1 rfl hl (by decide) rfl (fun ls hl => ?_)
  refine m_loop (σ := Nat × (Nat → Nat → Int32) × (Nat → Nat → Int32)) (fun a => na - (a.1)) (fun a H locs ls => ((a.1) ≤ na ∧ r_st K o ad I A I (a.2.1) Z (a.2.2) th ∧ m_eq M (a.2.2) ∧ ∀ k9, (a.1) = k9 + 1 → ∀ p9, p9 ≤ 40 → (a.2.2) 33 p9 = nI (o_ways aa gg k9 p9)) ∧ m_wo G K I R F (a.2.1) N L T J D s H locs ∧ lv_has ls 6 [(0, .ref o), (1, .int isl), (2, .int (nI (a.1)))]) ?_ (0, A, M) ⟨⟨Nat.zero_le _, his, m_eq_rf _, fun k9 h9 => absurd h9 (by omega)⟩, hw, lv_sub hl [1, 2, 0] rfl⟩
  rintro ⟨k, Aa, Mk⟩ H locs ls ⟨hinv, hw, hl⟩ ih
  dsimp only at hinv hw hl
  obtain ⟨hk0, his, hmk, hwk⟩ := hinv
  have ihk := ih
  refine lv_iload_n hx hb dX9_hitsOn_2 rfl (lv_at hl 2 rfl) ?_
  refine lv_aload_n hx hb dX9_hitsOn_3 rfl (lv_at hl 0 rfl) ?_
  refine g_10_30 hx hb hts (by decide +kernel) hown hw hro.1 (hts (.fieldLink RX9 173 "PirateindexModel" "asking" "I") (by decide +kernel)) dX9_hitsOn_4 ?_
  rw [show I 1030 o = Z 30 from his.1 30 (by decide)]
  rw [hna]
  refine lv_icmp_ge (tgt := 134) hx hb dX9_hitsOn_7 (by decide) (fun c_7 => ?_) (fun c_7 => ?_)
  · skip
    rw [nI_leI (by omega) (by omega)] at c_7
    have hkn : k = na := by omega
    subst hkn
    refine lv_iconst (v := 0) hx hb dX9_hitsOn_134 (by decide) ?_
    refine lv_istore_n (lv' := [(2, .int 0), (0, .ref o), (1, .int isl)]) hx hb dX9_hitsOn_135 rfl hl (by decide) rfl (fun ls hl => ?_)
    refine lv_iconst (v := 0) hx hb dX9_hitsOn_136 (by decide) ?_
    refine lv_istore_n (lv' := [(3, .int 0), (2, .int 0), (0, .ref o), (1, .int isl)]) hx hb dX9_hitsOn_137 rfl hl (by decide) rfl (fun ls hl => ?_)
    refine m_loop (σ := Nat × Int32) (fun a => 41 - (a.1)) (fun a H locs ls => ((a.1) ≤ 41 ∧ (a.2) = nI (sumN (o_ways aa gg (k - 1)) (a.1))) ∧ m_wo G K I R F Aa N L T J D s H locs ∧ lv_has ls 6 [(0, .ref o), (1, .int isl), (2, .int (a.2)), (3, .int (nI (a.1)))]) ?_ (0, 0) ⟨⟨Nat.zero_le _, rfl⟩, hw, lv_sub hl [2, 3, 1, 0] rfl⟩
    rintro ⟨q, y⟩ H locs ls ⟨hinv, hw, hl⟩ ih
    dsimp only at hinv hw hl
    obtain ⟨hq0, hy⟩ := hinv
    refine lv_iload_n hx hb dX9_hitsOn_138 rfl (lv_at hl 3 rfl) ?_
    refine lv_bipush (v := 40) hx hb dX9_hitsOn_139 (by decide) ?_
    refine lv_icmp_gt (tgt := 159) hx hb dX9_hitsOn_141 (by decide) (fun c_141 => ?_) (fun c_141 => ?_)
    · skip
      have hqn : q = 41 := by rw [show (40 : Int32) = nI 40 from rfl, nI_ltI (by decide) (by omega)] at c_141; omega
      rw [hqn] at hy
      refine lv_iload_n hx hb dX9_hitsOn_159 rfl (lv_at hl 2 rfl) ?_
      exact W.iret (v := y) hx hb hr (fun t ht hW => ⟨⟨y, (I, Aa), rfl, ⟨⟨Mk, his, hmk⟩, by rw [hres]; exact hy⟩, m_wo_out hw ht hW.alike⟩, m_wo_F hw ht⟩) (m_wo_L hw) dX9_hitsOn_160
    · skip
      have hqn : q ≤ 40 := by rw [show (40 : Int32) = nI 40 from rfl, nI_ltI (by decide) (by omega)] at c_141; omega
      refine lv_iload_n hx hb dX9_hitsOn_144 rfl (lv_at hl 2 rfl) ?_
      refine lv_aload_n hx hb dX9_hitsOn_145 rfl (lv_at hl 0 rfl) ?_
      refine g_10_33 (r := some (ad 33)) hx hb hts (by decide +kernel) hown hw hro.1 (hts (.fieldLink RX9 81 "PirateindexModel" "ways" "[I") (by decide +kernel)) (hro.2.1 33 rfl).1 dX9_hitsOn_146 ?_
      refine lv_iload_n hx hb dX9_hitsOn_149 rfl (lv_at hl 3 rfl) ?_
      refine m_iaload_20 hx hb hw (hro.2.1 33 rfl).2.1 (r_in hro 33 rfl (n := 41) rfl (by omega)) dX9_hitsOn_150 ?_
      rw [show Aa (ad 33) = Mk 33 from his.2.1 33 rfl]
      rw [nI_clamp (show q < 2 ^ 31 by omega)]
      rw [show Mk 33 q = nI (o_ways aa gg (k - 1) q) from hwk (k - 1) (by omega) q (by omega)]
      refine lv_iadd hx hb dX9_hitsOn_151 ?_
      refine lv_istore_n (lv' := [(2, .int (y + (nI (o_ways aa gg (k - 1) q)))), (0, .ref o), (1, .int isl), (3, .int (nI q))]) hx hb dX9_hitsOn_152 rfl hl (by decide) rfl (fun ls hl => ?_)
      refine lv_iinc (v := nI (q + 1)) (lv' := [(3, .int (nI (q + 1))), (2, .int (y + (nI (o_ways aa gg (k - 1) q)))), (0, .ref o), (1, .int isl)]) hx hb dX9_hitsOn_153 hl (k := 3) rfl (nI_1 _) (by decide) rfl (fun ls hl => ?_)
      refine lv_goto (tgt := 138) hx hb dX9_hitsOn_156 (by decide) ?_
      exact ih (q + 1, (y + (nI (o_ways aa gg (k - 1) q)))) _ _ _ (by dsimp only; omega) ⟨⟨by omega, by rw [hy, nI_add]; rfl⟩, hw, lv_sub hl [2, 3, 1, 0] rfl⟩
  · skip
    rw [nI_leI (by omega) (by omega)] at c_7
    have hkn : k < na := by omega
    refine lv_iconst (v := 0) hx hb dX9_hitsOn_10 (by decide) ?_
    refine lv_istore_n (lv' := [(3, .int 0), (0, .ref o), (1, .int isl), (2, .int (nI k))]) hx hb dX9_hitsOn_11 rfl hl (by decide) rfl (fun ls hl => ?_)
    refine m_loop (σ := Nat × (Nat → Nat → Int32) × (Nat → Nat → Int32)) (fun a => 41 - (a.1)) (fun a H locs ls => ((a.1) ≤ 41 ∧ r_st K o ad I A I (a.2.1) Z (a.2.2) th ∧ m_eq M (a.2.2) ∧ (∀ q9, (a.2.2) 33 q9 = Mk 33 q9) ∧ ∀ q9, q9 < (a.1) → (a.2.2) 34 q9 = nI (o_ways aa gg k q9)) ∧ m_wo G K I R F (a.2.1) N L T J D s H locs ∧ lv_has ls 6 [(0, .ref o), (1, .int isl), (2, .int (nI k)), (3, .int (nI (a.1)))]) ?_ (0, Aa, Mk) ⟨⟨Nat.zero_le _, his, hmk, fun _ => rfl, fun q9 h9 => absurd h9 (Nat.not_lt_zero _)⟩, hw, lv_sub hl [1, 2, 3, 0] rfl⟩
    rintro ⟨p, Ab, Mp⟩ H locs ls ⟨hinv, hw, hl⟩ ih
    dsimp only at hinv hw hl
    obtain ⟨hp0, his, hmp, h33, hwp⟩ := hinv
    have ihp := ih
    refine lv_iload_n hx hb dX9_hitsOn_12 rfl (lv_at hl 3 rfl) ?_
    refine lv_bipush (v := 40) hx hb dX9_hitsOn_13 (by decide) ?_
    refine lv_icmp_gt (tgt := 102) hx hb dX9_hitsOn_15 (by decide) (fun c_15 => ?_) (fun c_15 => ?_)
    · skip
      have hpn : p = 41 := by rw [show (40 : Int32) = nI 40 from rfl, nI_ltI (by decide) (by omega)] at c_15; omega
      refine lv_iconst (v := 0) hx hb dX9_hitsOn_102 (by decide) ?_
      refine lv_istore_n (lv' := [(3, .int 0), (0, .ref o), (1, .int isl), (2, .int (nI k))]) hx hb dX9_hitsOn_103 rfl hl (by decide) rfl (fun ls hl => ?_)
      refine m_loop (σ := Nat × (Nat → Nat → Int32) × (Nat → Nat → Int32)) (fun a => 41 - (a.1)) (fun a H locs ls => ((a.1) ≤ 41 ∧ r_st K o ad I A I (a.2.1) Z (a.2.2) th ∧ m_eq M (a.2.2) ∧ (∀ c9, (a.2.2) 34 c9 = Mp 34 c9) ∧ ∀ c9, c9 < (a.1) → (a.2.2) 33 c9 = Mp 34 c9) ∧ m_wo G K I R F (a.2.1) N L T J D s H locs ∧ lv_has ls 6 [(0, .ref o), (1, .int isl), (2, .int (nI k)), (3, .int (nI (a.1)))]) ?_ (0, Ab, Mp) ⟨⟨Nat.zero_le _, his, hmp, fun _ => rfl, fun c9 h9 => absurd h9 (Nat.not_lt_zero _)⟩, hw, lv_sub hl [1, 2, 3, 0] rfl⟩
      rintro ⟨q, Ac, Mq⟩ H locs ls ⟨hinv, hw, hl⟩ ih
      dsimp only at hinv hw hl
      obtain ⟨hq0, his, hmq, h34, hcq⟩ := hinv
      have ihq := ih
      refine lv_iload_n hx hb dX9_hitsOn_104 rfl (lv_at hl 3 rfl) ?_
      refine lv_bipush (v := 40) hx hb dX9_hitsOn_105 (by decide) ?_
      refine lv_icmp_gt (tgt := 128) hx hb dX9_hitsOn_107 (by decide) (fun c_107 => ?_) (fun c_107 => ?_)
      · skip
        have hqn : q = 41 := by rw [show (40 : Int32) = nI 40 from rfl, nI_ltI (by decide) (by omega)] at c_107; omega
        refine lv_iinc (v := nI (k + 1)) (lv' := [(2, .int (nI (k + 1))), (0, .ref o), (1, .int isl), (3, .int (nI q))]) hx hb dX9_hitsOn_128 hl (k := 2) rfl (nI_1 _) (by decide) rfl (fun ls hl => ?_)
        refine lv_goto (tgt := 2) hx hb dX9_hitsOn_131 (by decide) ?_
        exact ihk (k + 1, Ac, Mq) _ _ _ (by dsimp only; omega) ⟨⟨by omega, his, hmq, fun k9 h9 p9 hp9 => by obtain rfl : k = k9 := (by have h8 : k + 1 = k9 + 1 := h9; omega); show Mq 33 p9 = _; rw [hcq p9 (by omega)]; exact hwp p9 (by omega)⟩, hw, lv_sub hl [1, 2, 0] rfl⟩
      · skip
        have hqn : q ≤ 40 := by rw [show (40 : Int32) = nI 40 from rfl, nI_ltI (by decide) (by omega)] at c_107; omega
        refine lv_aload_n hx hb dX9_hitsOn_110 rfl (lv_at hl 0 rfl) ?_
        refine g_10_33 (r := some (ad 33)) hx hb hts (by decide +kernel) hown hw hro.1 (hts (.fieldLink RX9 81 "PirateindexModel" "ways" "[I") (by decide +kernel)) (hro.2.1 33 rfl).1 dX9_hitsOn_111 ?_
        refine lv_iload_n hx hb dX9_hitsOn_114 rfl (lv_at hl 3 rfl) ?_
        refine lv_aload_n hx hb dX9_hitsOn_115 rfl (lv_at hl 0 rfl) ?_
        refine g_10_34 (r := some (ad 34)) hx hb hts (by decide +kernel) hown hw hro.1 (hts (.fieldLink RX9 84 "PirateindexModel" "then" "[I") (by decide +kernel)) (hro.2.1 34 rfl).1 dX9_hitsOn_116 ?_
        refine lv_iload_n hx hb dX9_hitsOn_119 rfl (lv_at hl 3 rfl) ?_
        refine m_iaload_20 hx hb hw (hro.2.1 34 rfl).2.1 (r_in hro 34 rfl (n := 41) rfl (by omega)) dX9_hitsOn_120 ?_
        rw [show Ac (ad 34) = Mq 34 from his.2.1 34 rfl]
        rw [nI_clamp (show q < 2 ^ 31 by omega)]
        rw [h34 q]
        refine m_iastore_20 hx hb hw (hro.2.1 33 rfl).2.1 (r_in hro 33 rfl (n := 41) rfl (by omega))  dX9_hitsOn_121 (fun H locs hw => ?_)
        obtain ⟨A_1, eA_1⟩ : ∃ z, z = m_up Ac (ad 33) (upd (Ac (ad 33)) (nI q).toNatClampNeg (Mp 34 q)) := ⟨_, rfl⟩
        rw [← eA_1] at hw
        obtain ⟨M_2, eM_2⟩ : ∃ z, z = m1 Mq 33 q (Mp 34 q) := ⟨_, rfl⟩
        have his : r_st K o ad I A I A_1 Z M_2 th := by rw [eA_1, eM_2, nI_clamp (show q < 2 ^ 31 by omega)]; exact r_st_m his hro 33 rfl q (Mp 34 q)
        refine lv_iinc (v := nI (q + 1)) (lv' := [(3, .int (nI (q + 1))), (0, .ref o), (1, .int isl), (2, .int (nI k))]) hx hb dX9_hitsOn_122 hl (k := 3) rfl (nI_1 _) (by decide) rfl (fun ls hl => ?_)
        refine lv_goto (tgt := 104) hx hb dX9_hitsOn_125 (by decide) ?_
        exact ihq (q + 1, A_1, M_2) _ _ _ (by dsimp only; omega) ⟨⟨by omega, his, by rw [eM_2]; exact m_eq_33 hmq _ _, fun c9 => by show M_2 34 c9 = _; rw [eM_2, m1_n _ _ (show (34 : Nat) ≠ 33 by decide)]; exact h34 c9, fun c9 h9 => by have h7 : c9 < q + 1 := h9; show M_2 33 c9 = _; rw [eM_2, m1_s]; unfold upd; exact if h8 : c9 = q then (by rw [if_pos h8, h8]) else (by rw [if_neg h8]; exact hcq c9 (by omega))⟩, hw, lv_sub hl [1, 2, 3, 0] rfl⟩
    · skip
      have hpn : p ≤ 40 := by rw [show (40 : Int32) = nI 40 from rfl, nI_ltI (by decide) (by omega)] at c_15; omega
      refine m_joinH (σ := Bool) 27 (fun b H locs => b = (decide (k = 0)) ∧ m_wo G K I R F Ab N L T J D s H locs) (fun b => .int (b2i b) :: []) ?_ (fun J_3 => ?_)
      · rintro _ H locs ⟨rfl, hw⟩
        refine lv_istore (lv' := [(4, .int (b2i (decide (k = 0)))), (0, .ref o), (1, .int isl), (2, .int (nI k)), (3, .int (nI p))]) hx hb dX9_hitsOn_27 hl (by decide) rfl (fun ls hl => ?_)
        refine lv_iconst (v := 1) hx hb dX9_hitsOn_29 (by decide) ?_
        refine lv_istore (lv' := [(5, .int 1), (4, .int (b2i (decide (k = 0)))), (0, .ref o), (1, .int isl), (2, .int (nI k)), (3, .int (nI p))]) hx hb dX9_hitsOn_30 hl (by decide) rfl (fun ls hl => ?_)
        refine m_loop (σ := Nat × Int32) (fun a => p - (a.1)) (fun a H locs ls => ((a.1) ≤ p ∧ (k = 0 → (a.1) = 0) ∧ (k ≠ 0 → (a.1) ≤ gg k + 1) ∧ (a.2) = nI ((if k = 0 then 1 else 0) + sumN (fun c9 => o_ways aa gg (k - 1) (p - (c9 + 1))) (a.1))) ∧ m_wo G K I R F Ab N L T J D s H locs ∧ lv_has ls 6 [(0, .ref o), (1, .int isl), (2, .int (nI k)), (3, .int (nI p)), (4, .int (a.2)), (5, .int (nI ((a.1) + 1)))]) ?_ (0, (b2i (decide (k = 0)))) ⟨⟨Nat.zero_le _, fun _ => rfl, fun _ => Nat.zero_le _, by by_cases h9 : k = 0 <;> simp [h9, b2i, sumN] <;> rfl⟩, hw, lv_sub hl [2, 3, 4, 5, 1, 0] rfl⟩
        rintro ⟨b, y⟩ H locs ls ⟨hinv, hw, hl⟩ ih
        dsimp only at hinv hw hl
        obtain ⟨hb0, hbk, hbg, hy⟩ := hinv
        have ihb := ih
        refine lv_iload_n hx hb dX9_hitsOn_32 rfl (lv_at hl 2 rfl) ?_
        refine lv_if_le (tgt := 75) hx hb dX9_hitsOn_33 (by decide) (fun c_33 => ?_) (fun c_33 => ?_)
        · skip
          have hkp : k = 0 := by rw [show (0 : Int32) = nI 0 from rfl, nI_leI (by omega) (by decide)] at c_33; omega
          have hW : y = nI (if k = 0 then 1 else o_win (o_ways aa gg (k - 1)) p (gg k)) := by rw [hy, hbk hkp, if_pos hkp, if_pos hkp]; rfl
          refine lv_aload_n hx hb dX9_hitsOn_75 rfl (lv_at hl 0 rfl) ?_
          refine g_10_34 (r := some (ad 34)) hx hb hts (by decide +kernel) hown hw hro.1 (hts (.fieldLink RX9 84 "PirateindexModel" "then" "[I") (by decide +kernel)) (hro.2.1 34 rfl).1 dX9_hitsOn_76 ?_
          refine lv_iload_n hx hb dX9_hitsOn_79 rfl (lv_at hl 3 rfl) ?_
          refine lv_iload hx hb dX9_hitsOn_80 (lv_at hl 4 rfl) ?_
          refine lv_aload_n hx hb dX9_hitsOn_82 rfl (lv_at hl 0 rfl) ?_
          refine lv_aload_n hx hb dX9_hitsOn_83 rfl (lv_at hl 0 rfl) ?_
          refine g_10_27 (r := some (ad 27)) hx hb hts (by decide +kernel) hown hw hro.1 (hts (.fieldLink RX9 71 "PirateindexModel" "askWord" "[I") (by decide +kernel)) (hro.2.1 27 rfl).1 dX9_hitsOn_84 ?_
          refine lv_iload_n hx hb dX9_hitsOn_87 rfl (lv_at hl 2 rfl) ?_
          refine m_iaload_20 hx hb hw (hro.2.1 27 rfl).2.1 (r_in hro 27 rfl (n := 4) rfl (by omega)) dX9_hitsOn_88 ?_
          rw [show Ab (ad 27) = Mp 27 from his.2.1 27 rfl]
          rw [nI_clamp (show k < 2 ^ 31 by omega)]
          rw [show Mp 27 k = M 27 k from congrFun (hmp 27 (by decide) (by decide)) k]
          refine lv_iload_n hx hb dX9_hitsOn_89 rfl (lv_at hl 1 rfl) ?_
          refine lv_iload_n hx hb dX9_hitsOn_90 rfl (lv_at hl 3 rfl) ?_
          refine m_ci (va_runV (As := [.int (M 27 k), .int isl, .int (nI p)]) (rest := [.int y, .int (nI p), .ref (ad 34)]) ⟨hx, hb, hml, hown, hts⟩ (c_X9_postingsAt l (Z := Z) (M := Mp) (th := th) (M 27 k) isl (nI p) hro (r_st_self his) hnf hn) (cwV 3 hts gX9_hitsOn_X9_postingsAt rfl rfl rfl (by decide +kernel) ⟨Nat.le_of_ble_eq_true rfl, Nat.le_of_ble_eq_true rfl⟩) ⟨m_blind m_B_calling, m_recv hw (m_ent_10 hro.1) rfl, fun U hU hW => ⟨rfl, m_wo_call hw hU hW⟩⟩ rfl rfl hl.1 rfl (lv_room (Nat.le_of_ble_eq_true rfl)) dX9_hitsOn_91 ⟨Nat.le_of_ble_eq_true rfl, Nat.le_of_ble_eq_true rfl⟩) hw (fun r_91 u_91 H locs hp_91 hw => ?_)
          obtain rfl : r_91 = (nI (o_at Mp nf (M 27 k) isl (nI p))) := hp_91
          rw [show o_at Mp nf (M 27 k) isl (nI p) = aa k p from by rw [o_at_eq hmp, eaa]]
          have hval : y * nI (aa k p) = nI (o_ways aa gg k p) := by
            rw [hW, pk_mul]
            cases k with
            | zero => simp [o_ways]
            | succ k => simp [o_ways]
          refine lv_imul hx hb dX9_hitsOn_94 ?_
          refine m_iastore_20 hx hb hw (hro.2.1 34 rfl).2.1 (r_in hro 34 rfl (n := 41) rfl (by omega))  dX9_hitsOn_95 (fun H locs hw => ?_)
          obtain ⟨A_4, eA_4⟩ : ∃ z, z = m_up Ab (ad 34) (upd (Ab (ad 34)) (nI p).toNatClampNeg (y * (nI (aa k p)))) := ⟨_, rfl⟩
          rw [← eA_4] at hw
          obtain ⟨M_5, eM_5⟩ : ∃ z, z = m1 Mp 34 p (y * (nI (aa k p))) := ⟨_, rfl⟩
          have his : r_st K o ad I A I A_4 Z M_5 th := by rw [eA_4, eM_5, nI_clamp (show p < 2 ^ 31 by omega)]; exact r_st_m his hro 34 rfl p (y * (nI (aa k p)))
          refine lv_iinc (v := nI (p + 1)) (lv' := [(3, .int (nI (p + 1))), (0, .ref o), (1, .int isl), (2, .int (nI k)), (4, .int y), (5, .int (nI (b + 1)))]) hx hb dX9_hitsOn_96 hl (k := 3) rfl (nI_1 _) (by decide) rfl (fun ls hl => ?_)
          refine lv_goto (tgt := 12) hx hb dX9_hitsOn_99 (by decide) ?_
          exact ihp (p + 1, A_4, M_5) _ _ _ (by dsimp only; omega) ⟨⟨by omega, his, by rw [eM_5]; exact m_eq_34 hmp _ _, fun q9 => by show M_5 33 q9 = _; rw [eM_5, m1_n _ _ (show (33 : Nat) ≠ 34 by decide)]; exact h33 q9, fun q9 h9 => by have h7 : q9 < p + 1 := h9; show M_5 34 q9 = _; rw [eM_5, m1_s]; unfold upd; exact if h8 : q9 = p then (by rw [if_pos h8, h8]; exact hval) else (by rw [if_neg h8]; exact hwp q9 (by omega))⟩, hw, lv_sub hl [1, 2, 3, 0] rfl⟩
        · skip
          have hkp : ¬ k = 0 := by rw [show (0 : Int32) = nI 0 from rfl, nI_leI (by omega) (by decide)] at c_33; omega
          refine lv_iload hx hb dX9_hitsOn_36 (lv_at hl 5 rfl) ?_
          refine lv_aload_n hx hb dX9_hitsOn_38 rfl (lv_at hl 0 rfl) ?_
          refine g_10_28 (r := some (ad 28)) hx hb hts (by decide +kernel) hown hw hro.1 (hts (.fieldLink RX9 74 "PirateindexModel" "askGap" "[I") (by decide +kernel)) (hro.2.1 28 rfl).1 dX9_hitsOn_39 ?_
          refine lv_iload_n hx hb dX9_hitsOn_42 rfl (lv_at hl 2 rfl) ?_
          refine m_iaload_20 hx hb hw (hro.2.1 28 rfl).2.1 (r_in hro 28 rfl (n := 4) rfl (by omega)) dX9_hitsOn_43 ?_
          rw [show Ab (ad 28) = Mp 28 from his.2.1 28 rfl]
          rw [nI_clamp (show k < 2 ^ 31 by omega)]
          rw [show Mp 28 k = nI (gg k) from by rw [hmp 28 (by decide) (by decide)]; exact (hgg k (by omega) hkn).1]
          refine lv_iconst (v := 1) hx hb dX9_hitsOn_44 (by decide) ?_
          refine lv_iadd hx hb dX9_hitsOn_45 ?_
          refine lv_icmp_gt (tgt := 75) hx hb dX9_hitsOn_46 (by decide) (fun c_46 => ?_) (fun c_46 => ?_)
          · skip
            have h9g := (hgg k (by omega) hkn).2
            have hbe : gg k + 1 < b + 1 := by rw [nI_1, nI_ltI (by omega) (by omega)] at c_46; omega
            have hb1 := hbg hkp
            have hW : y = nI (if k = 0 then 1 else o_win (o_ways aa gg (k - 1)) p (gg k)) := by rw [hy, if_neg hkp, if_neg hkp, Nat.zero_add]; unfold o_win; rw [show min (gg k + 1) p = b from by omega]
            refine lv_aload_n hx hb dX9_hitsOn_75 rfl (lv_at hl 0 rfl) ?_
            refine g_10_34 (r := some (ad 34)) hx hb hts (by decide +kernel) hown hw hro.1 (hts (.fieldLink RX9 84 "PirateindexModel" "then" "[I") (by decide +kernel)) (hro.2.1 34 rfl).1 dX9_hitsOn_76 ?_
            refine lv_iload_n hx hb dX9_hitsOn_79 rfl (lv_at hl 3 rfl) ?_
            refine lv_iload hx hb dX9_hitsOn_80 (lv_at hl 4 rfl) ?_
            refine lv_aload_n hx hb dX9_hitsOn_82 rfl (lv_at hl 0 rfl) ?_
            refine lv_aload_n hx hb dX9_hitsOn_83 rfl (lv_at hl 0 rfl) ?_
            refine g_10_27 (r := some (ad 27)) hx hb hts (by decide +kernel) hown hw hro.1 (hts (.fieldLink RX9 71 "PirateindexModel" "askWord" "[I") (by decide +kernel)) (hro.2.1 27 rfl).1 dX9_hitsOn_84 ?_
            refine lv_iload_n hx hb dX9_hitsOn_87 rfl (lv_at hl 2 rfl) ?_
            refine m_iaload_20 hx hb hw (hro.2.1 27 rfl).2.1 (r_in hro 27 rfl (n := 4) rfl (by omega)) dX9_hitsOn_88 ?_
            rw [show Ab (ad 27) = Mp 27 from his.2.1 27 rfl]
            rw [nI_clamp (show k < 2 ^ 31 by omega)]
            rw [show Mp 27 k = M 27 k from congrFun (hmp 27 (by decide) (by decide)) k]
            refine lv_iload_n hx hb dX9_hitsOn_89 rfl (lv_at hl 1 rfl) ?_
            refine lv_iload_n hx hb dX9_hitsOn_90 rfl (lv_at hl 3 rfl) ?_
            refine m_ci (va_runV (As := [.int (M 27 k), .int isl, .int (nI p)]) (rest := [.int y, .int (nI p), .ref (ad 34)]) ⟨hx, hb, hml, hown, hts⟩ (c_X9_postingsAt l (Z := Z) (M := Mp) (th := th) (M 27 k) isl (nI p) hro (r_st_self his) hnf hn) (cwV 3 hts gX9_hitsOn_X9_postingsAt rfl rfl rfl (by decide +kernel) ⟨Nat.le_of_ble_eq_true rfl, Nat.le_of_ble_eq_true rfl⟩) ⟨m_blind m_B_calling, m_recv hw (m_ent_10 hro.1) rfl, fun U hU hW => ⟨rfl, m_wo_call hw hU hW⟩⟩ rfl rfl hl.1 rfl (lv_room (Nat.le_of_ble_eq_true rfl)) dX9_hitsOn_91 ⟨Nat.le_of_ble_eq_true rfl, Nat.le_of_ble_eq_true rfl⟩) hw (fun r_91 u_91 H locs hp_91 hw => ?_)
            obtain rfl : r_91 = (nI (o_at Mp nf (M 27 k) isl (nI p))) := hp_91
            rw [show o_at Mp nf (M 27 k) isl (nI p) = aa k p from by rw [o_at_eq hmp, eaa]]
            have hval : y * nI (aa k p) = nI (o_ways aa gg k p) := by
              rw [hW, pk_mul]
              cases k with
              | zero => simp [o_ways]
              | succ k => simp [o_ways]
            refine lv_imul hx hb dX9_hitsOn_94 ?_
            refine m_iastore_20 hx hb hw (hro.2.1 34 rfl).2.1 (r_in hro 34 rfl (n := 41) rfl (by omega))  dX9_hitsOn_95 (fun H locs hw => ?_)
            obtain ⟨A_6, eA_6⟩ : ∃ z, z = m_up Ab (ad 34) (upd (Ab (ad 34)) (nI p).toNatClampNeg (y * (nI (aa k p)))) := ⟨_, rfl⟩
            rw [← eA_6] at hw
            obtain ⟨M_7, eM_7⟩ : ∃ z, z = m1 Mp 34 p (y * (nI (aa k p))) := ⟨_, rfl⟩
            have his : r_st K o ad I A I A_6 Z M_7 th := by rw [eA_6, eM_7, nI_clamp (show p < 2 ^ 31 by omega)]; exact r_st_m his hro 34 rfl p (y * (nI (aa k p)))
            refine lv_iinc (v := nI (p + 1)) (lv' := [(3, .int (nI (p + 1))), (0, .ref o), (1, .int isl), (2, .int (nI k)), (4, .int y), (5, .int (nI (b + 1)))]) hx hb dX9_hitsOn_96 hl (k := 3) rfl (nI_1 _) (by decide) rfl (fun ls hl => ?_)
            refine lv_goto (tgt := 12) hx hb dX9_hitsOn_99 (by decide) ?_
            exact ihp (p + 1, A_6, M_7) _ _ _ (by dsimp only; omega) ⟨⟨by omega, his, by rw [eM_7]; exact m_eq_34 hmp _ _, fun q9 => by show M_7 33 q9 = _; rw [eM_7, m1_n _ _ (show (33 : Nat) ≠ 34 by decide)]; exact h33 q9, fun q9 h9 => by have h7 : q9 < p + 1 := h9; show M_7 34 q9 = _; rw [eM_7, m1_s]; unfold upd; exact if h8 : q9 = p then (by rw [if_pos h8, h8]; exact hval) else (by rw [if_neg h8]; exact hwp q9 (by omega))⟩, hw, lv_sub hl [1, 2, 3, 0] rfl⟩
          · skip
            have h9g := (hgg k (by omega) hkn).2
            have hbe : b + 1 ≤ gg k + 1 := by rw [nI_1, nI_ltI (by omega) (by omega)] at c_46; omega
            refine lv_iload hx hb dX9_hitsOn_49 (lv_at hl 5 rfl) ?_
            refine lv_iload_n hx hb dX9_hitsOn_51 rfl (lv_at hl 3 rfl) ?_
            refine lv_icmp_gt (tgt := 75) hx hb dX9_hitsOn_52 (by decide) (fun c_52 => ?_) (fun c_52 => ?_)
            · skip
              have hbp : p < b + 1 := by rw [nI_ltI (by omega) (by omega)] at c_52; omega
              have hW : y = nI (if k = 0 then 1 else o_win (o_ways aa gg (k - 1)) p (gg k)) := by rw [hy, if_neg hkp, if_neg hkp, Nat.zero_add]; unfold o_win; rw [show min (gg k + 1) p = b from by omega]
              refine lv_aload_n hx hb dX9_hitsOn_75 rfl (lv_at hl 0 rfl) ?_
              refine g_10_34 (r := some (ad 34)) hx hb hts (by decide +kernel) hown hw hro.1 (hts (.fieldLink RX9 84 "PirateindexModel" "then" "[I") (by decide +kernel)) (hro.2.1 34 rfl).1 dX9_hitsOn_76 ?_
              refine lv_iload_n hx hb dX9_hitsOn_79 rfl (lv_at hl 3 rfl) ?_
              refine lv_iload hx hb dX9_hitsOn_80 (lv_at hl 4 rfl) ?_
              refine lv_aload_n hx hb dX9_hitsOn_82 rfl (lv_at hl 0 rfl) ?_
              refine lv_aload_n hx hb dX9_hitsOn_83 rfl (lv_at hl 0 rfl) ?_
              refine g_10_27 (r := some (ad 27)) hx hb hts (by decide +kernel) hown hw hro.1 (hts (.fieldLink RX9 71 "PirateindexModel" "askWord" "[I") (by decide +kernel)) (hro.2.1 27 rfl).1 dX9_hitsOn_84 ?_
              refine lv_iload_n hx hb dX9_hitsOn_87 rfl (lv_at hl 2 rfl) ?_
              refine m_iaload_20 hx hb hw (hro.2.1 27 rfl).2.1 (r_in hro 27 rfl (n := 4) rfl (by omega)) dX9_hitsOn_88 ?_
              rw [show Ab (ad 27) = Mp 27 from his.2.1 27 rfl]
              rw [nI_clamp (show k < 2 ^ 31 by omega)]
              rw [show Mp 27 k = M 27 k from congrFun (hmp 27 (by decide) (by decide)) k]
              refine lv_iload_n hx hb dX9_hitsOn_89 rfl (lv_at hl 1 rfl) ?_
              refine lv_iload_n hx hb dX9_hitsOn_90 rfl (lv_at hl 3 rfl) ?_
              refine m_ci (va_runV (As := [.int (M 27 k), .int isl, .int (nI p)]) (rest := [.int y, .int (nI p), .ref (ad 34)]) ⟨hx, hb, hml, hown, hts⟩ (c_X9_postingsAt l (Z := Z) (M := Mp) (th := th) (M 27 k) isl (nI p) hro (r_st_self his) hnf hn) (cwV 3 hts gX9_hitsOn_X9_postingsAt rfl rfl rfl (by decide +kernel) ⟨Nat.le_of_ble_eq_true rfl, Nat.le_of_ble_eq_true rfl⟩) ⟨m_blind m_B_calling, m_recv hw (m_ent_10 hro.1) rfl, fun U hU hW => ⟨rfl, m_wo_call hw hU hW⟩⟩ rfl rfl hl.1 rfl (lv_room (Nat.le_of_ble_eq_true rfl)) dX9_hitsOn_91 ⟨Nat.le_of_ble_eq_true rfl, Nat.le_of_ble_eq_true rfl⟩) hw (fun r_91 u_91 H locs hp_91 hw => ?_)
              obtain rfl : r_91 = (nI (o_at Mp nf (M 27 k) isl (nI p))) := hp_91
              rw [show o_at Mp nf (M 27 k) isl (nI p) = aa k p from by rw [o_at_eq hmp, eaa]]
              have hval : y * nI (aa k p) = nI (o_ways aa gg k p) := by
                rw [hW, pk_mul]
                cases k with
                | zero => simp [o_ways]
                | succ k => simp [o_ways]
              refine lv_imul hx hb dX9_hitsOn_94 ?_
              refine m_iastore_20 hx hb hw (hro.2.1 34 rfl).2.1 (r_in hro 34 rfl (n := 41) rfl (by omega))  dX9_hitsOn_95 (fun H locs hw => ?_)
              obtain ⟨A_8, eA_8⟩ : ∃ z, z = m_up Ab (ad 34) (upd (Ab (ad 34)) (nI p).toNatClampNeg (y * (nI (aa k p)))) := ⟨_, rfl⟩
              rw [← eA_8] at hw
              obtain ⟨M_9, eM_9⟩ : ∃ z, z = m1 Mp 34 p (y * (nI (aa k p))) := ⟨_, rfl⟩
              have his : r_st K o ad I A I A_8 Z M_9 th := by rw [eA_8, eM_9, nI_clamp (show p < 2 ^ 31 by omega)]; exact r_st_m his hro 34 rfl p (y * (nI (aa k p)))
              refine lv_iinc (v := nI (p + 1)) (lv' := [(3, .int (nI (p + 1))), (0, .ref o), (1, .int isl), (2, .int (nI k)), (4, .int y), (5, .int (nI (b + 1)))]) hx hb dX9_hitsOn_96 hl (k := 3) rfl (nI_1 _) (by decide) rfl (fun ls hl => ?_)
              refine lv_goto (tgt := 12) hx hb dX9_hitsOn_99 (by decide) ?_
              exact ihp (p + 1, A_8, M_9) _ _ _ (by dsimp only; omega) ⟨⟨by omega, his, by rw [eM_9]; exact m_eq_34 hmp _ _, fun q9 => by show M_9 33 q9 = _; rw [eM_9, m1_n _ _ (show (33 : Nat) ≠ 34 by decide)]; exact h33 q9, fun q9 h9 => by have h7 : q9 < p + 1 := h9; show M_9 34 q9 = _; rw [eM_9, m1_s]; unfold upd; exact if h8 : q9 = p then (by rw [if_pos h8, h8]; exact hval) else (by rw [if_neg h8]; exact hwp q9 (by omega))⟩, hw, lv_sub hl [1, 2, 3, 0] rfl⟩
            · skip
              have hbp : b + 1 ≤ p := by rw [nI_ltI (by omega) (by omega)] at c_52; omega
              refine lv_iload hx hb dX9_hitsOn_55 (lv_at hl 4 rfl) ?_
              refine lv_aload_n hx hb dX9_hitsOn_57 rfl (lv_at hl 0 rfl) ?_
              refine g_10_33 (r := some (ad 33)) hx hb hts (by decide +kernel) hown hw hro.1 (hts (.fieldLink RX9 81 "PirateindexModel" "ways" "[I") (by decide +kernel)) (hro.2.1 33 rfl).1 dX9_hitsOn_58 ?_
              refine lv_iload_n hx hb dX9_hitsOn_61 rfl (lv_at hl 3 rfl) ?_
              refine lv_iload hx hb dX9_hitsOn_62 (lv_at hl 5 rfl) ?_
              refine lv_isub hx hb dX9_hitsOn_64 ?_
              refine m_iaload_20 hx hb hw (hro.2.1 33 rfl).2.1 (by rw [pk_sub (show b + 1 ≤ p from hbp)]; exact r_in hro 33 rfl (n := 41) rfl (by omega)) dX9_hitsOn_65 ?_
              rw [show Ab (ad 33) = Mp 33 from his.2.1 33 rfl]
              rw [show (nI p - nI (b + 1)).toNatClampNeg = p - (b + 1) from by rw [pk_sub (show b + 1 ≤ p from hbp)]; exact nI_clamp (by omega)]
              rw [show Mp 33 (p - (b + 1)) = nI (o_ways aa gg (k - 1) (p - (b + 1))) from by rw [h33]; exact hwk (k - 1) (by omega) _ (by omega)]
              refine lv_iadd hx hb dX9_hitsOn_66 ?_
              refine lv_istore (lv' := [(4, .int (y + (nI (o_ways aa gg (k - 1) (p - (b + 1)))))), (0, .ref o), (1, .int isl), (2, .int (nI k)), (3, .int (nI p)), (5, .int (nI (b + 1)))]) hx hb dX9_hitsOn_67 hl (by decide) rfl (fun ls hl => ?_)
              refine lv_iinc (v := nI ((b + 1) + 1)) (lv' := [(5, .int (nI ((b + 1) + 1))), (4, .int (y + (nI (o_ways aa gg (k - 1) (p - (b + 1)))))), (0, .ref o), (1, .int isl), (2, .int (nI k)), (3, .int (nI p))]) hx hb dX9_hitsOn_69 hl (k := 5) rfl (nI_1 _) (by decide) rfl (fun ls hl => ?_)
              refine lv_goto (tgt := 32) hx hb dX9_hitsOn_72 (by decide) ?_
              exact ihb (b + 1, (y + (nI (o_ways aa gg (k - 1) (p - (b + 1)))))) _ _ _ (by dsimp only; omega) ⟨⟨by omega, fun h9 => absurd h9 hkp, fun _ => by omega, by rw [hy, nI_add]; congr 1; rw [Nat.add_assoc]; rfl⟩, hw, lv_sub hl [2, 3, 4, 5, 1, 0] rfl⟩
      · skip
        refine lv_iload_n hx hb dX9_hitsOn_18 rfl (lv_at hl 2 rfl) ?_
        refine lv_if_ne (tgt := 26) hx hb dX9_hitsOn_19 (by decide) (fun c_19 => ?_) (fun c_19 => ?_)
        · skip
          refine lv_iconst (v := 0) hx hb dX9_hitsOn_26 (by decide) ?_
          exact J_3 false _ _ ⟨(by rw [show (0 : Int32) = nI 0 from rfl, nI_eq (by omega) (by decide)] at c_19; simp [c_19]), hw⟩
        · skip
          refine lv_iconst (v := 1) hx hb dX9_hitsOn_22 (by decide) ?_
          refine lv_goto (tgt := 27) hx hb dX9_hitsOn_23 (by decide) ?_
          exact J_3 true _ _ ⟨(by rw [show (0 : Int32) = nI 0 from rfl, nI_eq (by omega) (by decide)] at c_19; simp [c_19]), hw⟩

