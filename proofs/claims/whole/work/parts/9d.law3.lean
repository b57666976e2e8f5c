theorem and63 (v : Int32) : ∃ k, k < 64 ∧ v &&& 63 = nI k := by
  refine ⟨(v.toBitVec &&& 63#32).toNat, ?_, ?_⟩
  · rw [BitVec.toNat_and]; exact Nat.lt_of_le_of_lt Nat.and_le_right (by decide)
  · apply Int32.toBitVec_inj.mp
    unfold nI
    rw [Int32.toBitVec_and, Int32.toBitVec_ofNat']
    simp
theorem lo_gt {n t : Nat} (hn : n ≤ 2560) (ht : t ≤ 2600) : Int32.ofNat n - 5 < nI t ↔ n < t + 5 := by
  unfold nI
  rw [Int32.lt_iff_toInt_lt]
  have h1 : (Int32.ofNat n - 5).toInt = (n : Int) - 5 := by
    rw [Int32.toInt_sub, Int32.toInt_ofNat_of_lt (by omega)]
    show ((n : Int) - 5).bmod (2^32) = _
    rw [Int.bmod_eq_of_le] <;> omega
  rw [h1, Int32.toInt_ofNat_of_lt (by omega)]
  omega
set_option maxHeartbeats 3200000 in
set_option maxRecDepth 100000 in
theorem lo_head {p : Program} {l : Launch} {e : Env} {s : State} {m : MethodId} {below : List Frame} {meth : Method} {c : Code} {Q : State → Prop} {G : mG} {b n : Nat} {xs : Nat → Int32} {x o ao dd c0 s0 : Nat} (C : lw_cx p l s m c b n xs G) (hfp : f_all) (hc0 : c0 + 600 * 512 ≤ 603072) (hs0 : s0 + 8300 * 512 ≤ 7211114) (hend : ∀ (H : Heap) (locs : List Loc) (ls : Array Slot), (∀ q ∈ locs, G.2.2.1 ≤ q.base) → ls.size = 10 → W p l e room_1 s m #[Value.ref b] below meth c H locs 603072 7211114 Q (F0 m 2026 ls [])) : ∀ (f t : Nat), t + f = 512 → ∀ (H : Heap) (locs : List Loc) (ls : Array Slot), lw_I G s b x o ao dd t H locs ls → W p l e room_1 s m #[Value.ref b] below meth c H locs (c0 + 600 * t) (s0 + 8300 * t) Q (F0 m 28 ls []) := by
  intro f
  induction f with
  | zero =>
    intro t htf H locs ls hI
    obtain ⟨⟨K, I, R, F, A, N, L, T, J, D⟩, cd, ad, Z, M, th, hw, hs, hro, hz, hka, hkd, hf, hl⟩ := hI
    dsimp only at hw hs hro hz hka hkd
    obtain ⟨hx, hb, hml, hown, hts, hX, hbl, hbA, hnt, hcs, hn9⟩ := id C
    refine lv_iload hx hb dL_law_28 (lv_at hl 5 rfl) ?_
    refine lv_aload_n hx hb dL_law_30 rfl (lv_at hl 0 rfl) ?_
    refine va_slen hx hb hX hbl hbA hw.2.2.2.1 dL_law_31 ?_
    refine lv_iconst (v := 5) hx hb dL_law_32 (by decide) ?_
    refine lv_isub hx hb dL_law_33 ?_
    refine lv_icmp_gt (tgt := 2026) hx hb dL_law_34 (by decide) (fun _ => W.widen (k := 603072) (n := 7211114) (by omega) (by omega) (hend H locs ls hw.2.2.2.1.2.2 hl.1)) (fun cg => ?_)
    have hin : 5 * t + 5 ≤ n := Nat.le_of_not_lt (fun z => cg ((lo_gt hn9 (by omega)).mpr z))
    have hn0 := hn9
    omega
  | succ f ihf =>
    intro t htf H locs ls hI
    obtain ⟨⟨K, I, R, F, A, N, L, T, J, D⟩, cd, ad, Z, M, th, hw, hs, hro, hz, hka, hkd, hf, hl⟩ := hI
    dsimp only at hw hs hro hz hka hkd
    obtain ⟨hx, hb, hml, hown, hts, hX, hbl, hbA, hnt, hcs, hn9⟩ := id C
    refine lv_iload hx hb dL_law_28 (lv_at hl 5 rfl) ?_
    refine lv_aload_n hx hb dL_law_30 rfl (lv_at hl 0 rfl) ?_
    refine va_slen hx hb hX hbl hbA hw.2.2.2.1 dL_law_31 ?_
    refine lv_iconst (v := 5) hx hb dL_law_32 (by decide) ?_
    refine lv_isub hx hb dL_law_33 ?_
    refine lv_icmp_gt (tgt := 2026) hx hb dL_law_34 (by decide) (fun _ => W.widen (k := 603072) (n := 7211114) (by omega) (by omega) (hend H locs ls hw.2.2.2.1.2.2 hl.1)) (fun cg => ?_)
    have hin : 5 * t + 5 ≤ n := Nat.le_of_not_lt (fun z => cg ((lo_gt hn9 (by omega)).mpr z))
    have ih9 : ∀ (H : Heap) (locs : List Loc) (ls : Array Slot), lw_I G s b x o ao dd (t + 1) H locs ls → W p l e room_1 s m #[Value.ref b] below meth c H locs (c0 + 600 * t + 600) (s0 + 8300 * t + 8300) Q (F0 m 28 ls []) := fun H locs ls h => by
      have q := ihf (t + 1) (by omega) H locs ls h
      rw [show c0 + 600 * (t + 1) = c0 + 600 * t + 600 by omega, show s0 + 8300 * (t + 1) = s0 + 8300 * t + 8300 by omega] at q
      exact q
    refine lv_aload_n hx hb dL_law_37 rfl (lv_at hl 0 rfl) ?_
    refine lv_iload hx hb dL_law_38 (lv_at hl 5 rfl) ?_
    refine va_sld hx hb hX hbl hbA hw.2.2.2.1 (vp_in_nI (by omega) (by omega)) dL_law_40 ?_
    refine lv_bipush (v := 63) hx hb dL_law_41 (by decide) ?_
    refine lv_iand hx hb dL_law_43 ?_
    obtain ⟨k, hk, ek⟩ := and63 (xs (nI (5 * t)).toNatClampNeg)
    rw [ek]
    by_cases h33 : 33 < k
    · refine lv_tableOut (tgt := 2020) hx hb dL_law_44 (Or.inr (by rw [nI_toInt (by omega)]; omega)) (by decide) ?_
      refine lv_iinc (v := (nI (5 * t)) + 5) (lv' := [(5, .int ((nI (5 * t)) + 5)), (0, .ref b), (1, .ref x), (2, .ref o), (3, .ref ao), (4, .ref dd)]) hx hb dL_law_2020 hl (k := 5) rfl rfl (by decide) rfl (fun ls hl => ?_)
      refine lv_goto (tgt := 28) hx hb dL_law_2023 (by decide) ?_
      rw [show nI (5 * t) + 5 = nI (5 * (t + 1)) from nI_add (5 * t) 5] at hl
      refine W.widen (k := c0 + 600 * t + 600) (n := s0 + 8300 * t + 8300) (by omega) (by omega) ?_
      exact ih9 _ _ _ ⟨(K, I, R, F, A, N, L, T, J, D), cd, ad, _, _, _, hw, hs, hro, hz, hka, hkd, w_same hf, lv_sub hl [1, 2, 3, 4, 5, 0] rfl⟩
    · rcases (show k = 0 ∨ k = 1 ∨ k = 2 ∨ k = 3 ∨ k = 4 ∨ k = 5 ∨ k = 6 ∨ k = 7 ∨ k = 8 ∨ k = 9 ∨ k = 10 ∨ k = 11 ∨ k = 12 ∨ k = 13 ∨ k = 14 ∨ k = 15 ∨ k = 16 ∨ k = 17 ∨ k = 18 ∨ k = 19 ∨ k = 20 ∨ k = 21 ∨ k = 22 ∨ k = 23 ∨ k = 24 ∨ k = 25 ∨ k = 26 ∨ k = 27 ∨ k = 28 ∨ k = 29 ∨ k = 30 ∨ k = 31 ∨ k = 32 ∨ k = 33 by omega) with rfl | rfl | rfl | rfl | rfl | rfl | rfl | rfl | rfl | rfl | rfl | rfl | rfl | rfl | rfl | rfl | rfl | rfl | rfl | rfl | rfl | rfl | rfl | rfl | rfl | rfl | rfl | rfl | rfl | rfl | rfl | rfl | rfl | rfl
      · exact lv_tableIn (off := 152) (tgt := 196) hx hb dL_law_44 (by decide) (by decide) (by decide +kernel) (by decide) (lo_island C hfp hw hs hro hz hka hkd hf (by omega) hin hl (by omega) (by omega) ih9)
      · exact lv_tableIn (off := 232) (tgt := 276) hx hb dL_law_44 (by decide) (by decide) (by decide +kernel) (by decide) (lo_find C hfp hw hs hro hz hka hkd hf (by omega) hin hl (by omega) (by omega) ih9)
      · exact lv_tableIn (off := 312) (tgt := 356) hx hb dL_law_44 (by decide) (by decide) (by decide +kernel) (by decide) (lo_ship C hfp hw hs hro hz hka hkd hf (by omega) hin hl (by omega) (by omega) ih9)
      · exact lv_tableIn (off := 356) (tgt := 400) hx hb dL_law_44 (by decide) (by decide) (by decide +kernel) (by decide) (lo_plant C hfp hw hs hro hz hka hkd hf (by omega) hin hl (by omega) (by omega) ih9)
      · exact lv_tableIn (off := 448) (tgt := 492) hx hb dL_law_44 (by decide) (by decide) (by decide +kernel) (by decide) (lo_segments C hfp hw hs hro hz hka hkd hf (by omega) hin hl (by omega) (by omega) ih9)
      · exact lv_tableIn (off := 461) (tgt := 505) hx hb dL_law_44 (by decide) (by decide) (by decide +kernel) (by decide) (lo_segment C hfp hw hs hro hz hka hkd hf (by omega) hin hl (by omega) (by omega) ih9)
      · exact lv_tableIn (off := 517) (tgt := 561) hx hb dL_law_44 (by decide) (by decide) (by decide +kernel) (by decide) (lo_size C hfp hw hs hro hz hka hkd hf (by omega) hin hl (by omega) (by omega) ih9)
      · exact lv_tableIn (off := 573) (tgt := 617) hx hb dL_law_44 (by decide) (by decide) (by decide +kernel) (by decide) (lo_merge C hfp hw hs hro hz hka hkd hf (by omega) hin hl (by omega) (by omega) ih9)
      · exact lv_tableIn (off := 641) (tgt := 685) hx hb dL_law_44 (by decide) (by decide) (by decide +kernel) (by decide) (lo_storm C hfp hw hs hro hz hka hkd hf (by omega) hin hl (by omega) (by omega) ih9)
      · exact lv_tableIn (off := 697) (tgt := 741) hx hb dL_law_44 (by decide) (by decide) (by decide +kernel) (by decide) (lo_rebuild C hfp hw hs hro hz hka hkd hf (by omega) hin hl (by omega) (by omega) ih9)
      · exact lv_tableIn (off := 741) (tgt := 785) hx hb dL_law_44 (by decide) (by decide) (by decide +kernel) (by decide) (lo_segmentOf C hfp hw hs hro hz hka hkd hf (by omega) hin hl (by omega) (by omega) ih9)
      · exact lv_tableIn (off := 797) (tgt := 841) hx hb dL_law_44 (by decide) (by decide) (by decide +kernel) (by decide) (lo_postings C hfp hw hs hro hz hka hkd hf (by omega) hin hl (by omega) (by omega) ih9)
      · exact lv_tableIn (off := 853) (tgt := 897) hx hb dL_law_44 (by decide) (by decide) (by decide +kernel) (by decide) (lo_posting C hfp hw hs hro hz hka hkd hf (by omega) hin hl (by omega) (by omega) ih9)
      · exact lv_tableIn (off := 921) (tgt := 965) hx hb dL_law_44 (by decide) (by decide) (by decide +kernel) (by decide) (lo_word C hfp hw hs hro hz hka hkd hf (by omega) hin hl (by omega) (by omega) ih9)
      · exact lv_tableIn (off := 989) (tgt := 1033) hx hb dL_law_44 (by decide) (by decide) (by decide +kernel) (by decide) (lo_wipe C hfp hw hs hro hz hka hkd hf (by omega) hin hl (by omega) (by omega) ih9)
      · exact lv_tableIn (off := 1002) (tgt := 1046) hx hb dL_law_44 (by decide) (by decide) (by decide +kernel) (by decide) (lo_hits C hfp hw hs hro hz hka hkd hf (by omega) hin hl (by omega) (by omega) ih9)
      · exact lv_tableIn (off := 1046) (tgt := 1090) hx hb dL_law_44 (by decide) (by decide) (by decide +kernel) (by decide) (lo_hit C hfp hw hs hro hz hka hkd hf (by omega) hin hl (by omega) (by omega) ih9)
      · exact lv_tableIn (off := 1114) (tgt := 1158) hx hb dL_law_44 (by decide) (by decide) (by decide +kernel) (by decide) (lo_count C hfp hw hs hro hz hka hkd hf (by omega) hin hl (by omega) (by omega) ih9)
      · exact lv_tableIn (off := 1170) (tgt := 1214) hx hb dL_law_44 (by decide) (by decide) (by decide +kernel) (by decide) (lo_scoreBits C hfp hw hs hro hz hka hkd hf (by omega) hin hl (by omega) (by omega) ih9)
      · exact lv_tableIn (off := 1226) (tgt := 1270) hx hb dL_law_44 (by decide) (by decide) (by decide +kernel) (by decide) (lo_weight C hfp hw hs hro hz hka hkd hf (by omega) hin hl (by omega) (by omega) ih9)
      · exact lv_tableIn (off := 1304) (tgt := 1348) hx hb dL_law_44 (by decide) (by decide) (by decide +kernel) (by decide) (lo_sail C hfp hw hs hro hz hka hkd hf (by omega) hin hl (by omega) (by omega) ih9)
      · exact lv_tableIn (off := 1360) (tgt := 1404) hx hb dL_law_44 (by decide) (by decide) (by decide +kernel) (by decide) (lo_dig C hfp hw hs hro hz hka hkd hf (by omega) hin hl (by omega) (by omega) ih9)
      · exact lv_tableIn (off := 1416) (tgt := 1460) hx hb dL_law_44 (by decide) (by decide) (by decide +kernel) (by decide) (lo_strike C hfp hw hs hro hz hka hkd hf (by omega) hin hl (by omega) (by omega) ih9)
      · exact lv_tableIn (off := 1472) (tgt := 1516) hx hb dL_law_44 (by decide) (by decide) (by decide +kernel) (by decide) (lo_at C hfp hw hs hro hz hka hkd hf (by omega) hin hl (by omega) (by omega) ih9)
      · exact lv_tableIn (off := 1528) (tgt := 1572) hx hb dL_law_44 (by decide) (by decide) (by decide +kernel) (by decide) (lo_coins C hfp hw hs hro hz hka hkd hf (by omega) hin hl (by omega) (by omega) ih9)
      · exact lv_tableIn (off := 1584) (tgt := 1628) hx hb dL_law_44 (by decide) (by decide) (by decide +kernel) (by decide) (lo_hasMap C hfp hw hs hro hz hka hkd hf (by omega) hin hl (by omega) (by omega) ih9)
      · exact lv_tableIn (off := 1647) (tgt := 1691) hx hb dL_law_44 (by decide) (by decide) (by decide +kernel) (by decide) (lo_isThere C hfp hw hs hro hz hka hkd hf (by omega) hin hl (by omega) (by omega) ih9)
      · exact lv_tableIn (off := 1710) (tgt := 1754) hx hb dL_law_44 (by decide) (by decide) (by decide +kernel) (by decide) (lo_isStruck C hfp hw hs hro hz hka hkd hf (by omega) hin hl (by omega) (by omega) ih9)
      · exact lv_tableIn (off := 1773) (tgt := 1817) hx hb dL_law_44 (by decide) (by decide) (by decide +kernel) (by decide) (lo_causes C hfp hw hs hro hz hka hkd hf (by omega) hin hl (by omega) (by omega) ih9)
      · exact lv_tableIn (off := 1786) (tgt := 1830) hx hb dL_law_44 (by decide) (by decide) (by decide +kernel) (by decide) (lo_cause C hfp hw hs hro hz hka hkd hf (by omega) hin hl (by omega) (by omega) ih9)
      · exact lv_tableIn (off := 1842) (tgt := 1886) hx hb dL_law_44 (by decide) (by decide) (by decide +kernel) (by decide) (lo_struckShare C hfp hw hs hro hz hka hkd hf (by omega) hin hl (by omega) (by omega) ih9)
      · exact lv_tableIn (off := 1908) (tgt := 1952) hx hb dL_law_44 (by decide) (by decide) (by decide +kernel) (by decide) (lo_meanSize C hfp hw hs hro hz hka hkd hf (by omega) hin hl (by omega) (by omega) ih9)
      · exact lv_tableIn (off := 1949) (tgt := 1993) hx hb dL_law_44 (by decide) (by decide) (by decide +kernel) (by decide) (lo_checksum C hfp hw hs hro hz hka hkd hf (by omega) hin hl (by omega) (by omega) ih9)
      · exact lv_tableIn (off := 1963) (tgt := 2007) hx hb dL_law_44 (by decide) (by decide) (by decide +kernel) (by decide) (lo_isTrue C hfp hw hs hro hz hka hkd hf (by omega) hin hl (by omega) (by omega) ih9)
