set_option maxHeartbeats 1600000 in
set_option maxRecDepth 100000 in
theorem lo_island {p : Program} {l : Launch} {e : Env} {s : State} {m : MethodId} {below : List Frame} {meth : Method} {c : Code} {H : Heap} {locs : List Loc} {ls : Array Slot} {cells slots : Nat} {Q : State → Prop} {G : mG} {K : Nat → Nat} {I : Nat → Nat → Int32} {R : Nat → Nat → Option Nat} {F : Nat → UInt32} {A : Nat → Nat → Int32} {N : Nat → Nat} {L : Nat → List Nat} {T : Nat → List Int32} {J : Nat → Nat → Int64} {D : Nat → Nat → UInt64} {b n : Nat} {xs : Nat → Int32} {x o ao dd t : Nat} {cd ad : Nat → Nat} {Z : mZ} {M : mM} {th : Int32} (C : lw_cx p l s m c b n xs G) (hfp : f_all) (hw : m_wo G K I R F A N L T J D s H locs) (hs : c_sim K I R N A L T x cd Z M) (hro : r_ok K R N o ad) (hz : r_st K o ad I A I A Z M th) (hka : K ao = 35 ∧ N ao = 1) (hkd : K dd = 36 ∧ N dd = 1) (hf : w_f Z M t) (ht : t < 512) (hin : 5 * t + 5 ≤ n) (hl : lv_has ls 10 [(0, .ref b), (1, .ref x), (2, .ref o), (3, .ref ao), (4, .ref dd), (5, .int (nI (5 * t)))]) (hc9 : cells + 600 ≤ 603072) (hs9 : slots + 8300 ≤ 7211114) (ih : ∀ (H : Heap) (locs : List Loc) (ls : Array Slot), lw_I G s b x o ao dd (t + 1) H locs ls → W p l e room_1 s m #[Value.ref b] below meth c H locs (cells + 600) (slots + 8300) Q (F0 m 28 ls [])) : W p l e room_1 s m #[Value.ref b] below meth c H locs cells slots Q (F0 m 196 ls []) := by
  obtain ⟨hx, hb, hml, hown, hts, hX, hbl, hbA, hnt, hcs, hn9⟩ := C
  have hni := hs.2.1.1
  have hn12 := hs.2.1.2.1
  have hnf := hs.2.2.1.1
  have hn120 := hs.2.2.1.2.1
  have hnsg := hs.2.2.2.2.1.1
  have hn20 := hs.2.2.2.2.1.2.1
  have hns := hs.2.2.2.2.2.1.1
  have hn5 := hs.2.2.2.2.2.1.2.1
  obtain ⟨nt, hnt9, h4t, hgt⟩ := u_gap hs
  have hw9 := u_shW hs
  have ht9 : t ≤ 512 := by omega
  obtain ⟨fpT, fpW, fpS, fpM, fp0⟩ := hfp
  obtain ⟨a1, ea1⟩ : ∃ z, z = xs (nI (5 * t) + 1).toNatClampNeg := ⟨_, rfl⟩
  obtain ⟨a2, ea2⟩ : ∃ z, z = xs (nI (5 * t) + 2).toNatClampNeg := ⟨_, rfl⟩
  obtain ⟨a3, ea3⟩ : ∃ z, z = xs (nI (5 * t) + 3).toNatClampNeg := ⟨_, rfl⟩
  refine lv_aload_n hx hb dL_law_196 rfl (lv_at hl 1 rfl) ?_
  refine lv_aload_n hx hb dL_law_197 rfl (lv_at hl 0 rfl) ?_
  refine lv_iload hx hb dL_law_198 (lv_at hl 5 rfl) ?_
  refine lv_iconst (v := 1) hx hb dL_law_200 (by decide) ?_
  refine lv_iadd hx hb dL_law_201 ?_
  refine va_sld hx hb hX hbl hbA hw.2.2.2.1 (show vp_in (nI (5 * t) + 1) n from lo_in (k := 1) hin hn9 (by decide)) dL_law_202 ?_
  rw [← ea1]
  refine lv_aload_n hx hb dL_law_203 rfl (lv_at hl 0 rfl) ?_
  refine lv_iload hx hb dL_law_204 (lv_at hl 5 rfl) ?_
  refine lv_iconst (v := 2) hx hb dL_law_206 (by decide) ?_
  refine lv_iadd hx hb dL_law_207 ?_
  refine va_sld hx hb hX hbl hbA hw.2.2.2.1 (show vp_in (nI (5 * t) + 2) n from lo_in (k := 2) hin hn9 (by decide)) dL_law_208 ?_
  rw [← ea2]
  refine lv_aload_n hx hb dL_law_209 rfl (lv_at hl 0 rfl) ?_
  refine lv_iload hx hb dL_law_210 (lv_at hl 5 rfl) ?_
  refine lv_iconst (v := 3) hx hb dL_law_212 (by decide) ?_
  refine lv_iadd hx hb dL_law_213 ?_
  refine va_sld hx hb hX hbl hbA hw.2.2.2.1 (show vp_in (nI (5 * t) + 3) n from lo_in (k := 3) hin hn9 (by decide)) dL_law_214 ?_
  rw [← ea3]
  refine lv_aload_n hx hb dL_law_215 rfl (lv_at hl 3 rfl) ?_
  refine m_ci (vx_runSW (As := [.ref x, .int a1, .int a2, .int a3, .ref ao]) (rest := []) ⟨hx, hb, hml, hown, hts⟩ (c_L_island l hnt hs (u_10 hs hf) hka.1 hka.2) (vx_cwSW 5 hts gL_law_L_island rfl rfl rfl (by decide +kernel) ⟨Nat.le_of_ble_eq_true rfl, Nat.le_of_ble_eq_true rfl⟩) ⟨m_blind (fun U g mk a h => ⟨m_B_calling U g mk a h.1, c_str_calling U g mk a h.2⟩), fun U hU hW => ⟨rfl, m_wo_call hw hU hW, c_str_warm hW hcs⟩⟩ rfl rfl hl.1 rfl (lv_room (Nat.le_of_ble_eq_true rfl)) dL_law_216 ⟨lo_c (by omega), lo_s (by omega)⟩) hw (fun r1 u1 H locs hp1 hw => ?_)
  obtain ⟨K1, I1, R1, F1, A1, N1, L1, T1, J1, D1⟩ := u1
  try dsimp only at hp1
  obtain ⟨rfl, hq1, hs1, hfr1⟩ := hp1
  have hw : m_wo G K1 I1 R1 F1 A1 N1 L1 T1 J1 D1 s H locs := hw
  have hs1 : c_sim K1 I1 R1 N1 A1 L1 T1 x cd (if t_island Z a1 a2 a3 = 0 then p_island (Z, M) a1 a2 a3 else (Z, M)).1 (if t_island Z a1 a2 a3 = 0 then p_island (Z, M) a1 a2 a3 else (Z, M)).2 := hs1
  have hfr1 : c_fr K I R N A K1 I1 R1 N1 A1 := hfr1
  have hro1 := r_ok_fr hro hfr1
  have hz1 := r_st_fr hro hz hfr1
  have hka1 : K1 ao = 35 ∧ N1 ao = 1 := ⟨(hfr1 ao (by rw [hka.1]; simp [c_oth])).1.trans hka.1, (hfr1 ao (by rw [hka.1]; simp [c_oth])).2.1.trans hka.2⟩
  have hkd1 : K1 dd = 36 ∧ N1 dd = 1 := ⟨(hfr1 dd (by rw [hkd.1]; simp [c_oth])).1.trans hkd.1, (hfr1 dd (by rw [hkd.1]; simp [c_oth])).2.1.trans hkd.2⟩
  refine lv_istore (lv' := [(6, .int (t_island Z a1 a2 a3)), (0, .ref b), (1, .ref x), (2, .ref o), (3, .ref ao), (4, .ref dd), (5, .int (nI (5 * t)))]) hx hb dL_law_219 hl (by decide) rfl (fun ls hl => ?_)
  refine lv_aload_n hx hb dL_law_221 rfl (lv_at hl 3 rfl) ?_
  refine lv_aload_n hx hb dL_law_222 rfl (lv_at hl 1 rfl) ?_
  refine lv_iload hx hb dL_law_223 (lv_at hl 6 rfl) ?_
  refine lv_iconst (v := 1) hx hb dL_law_225 (by decide) ?_
  refine lv_iadd hx hb dL_law_226 ?_
  refine va_sld hx hb hX hbl hbA hw.2.2.2.1 (show vp_in (nI (5 * t) + 1) n from lo_in (k := 1) hin hn9 (by decide)) dL_law_227 ?_
  rw [← ea1]
  refine lv_aload_n hx hb dL_law_228 rfl (lv_at hl 1 rfl) ?_
  refine lv_iload hx hb dL_law_229 (lv_at hl 6 rfl) ?_
  refine lv_iconst (v := 2) hx hb dL_law_231 (by decide) ?_
  refine lv_iadd hx hb dL_law_232 ?_
  refine va_sld hx hb hX hbl hbA hw.2.2.2.1 (show vp_in (nI (5 * t) + 2) n from lo_in (k := 2) hin hn9 (by decide)) dL_law_233 ?_
  rw [← ea2]
  refine lv_aload_n hx hb dL_law_234 rfl (lv_at hl 1 rfl) ?_
  refine lv_iload hx hb dL_law_235 (lv_at hl 6 rfl) ?_
  refine lv_iconst (v := 3) hx hb dL_law_237 (by decide) ?_
  refine lv_iadd hx hb dL_law_238 ?_
  refine va_sld hx hb hX hbl hbA hw.2.2.2.1 (show vp_in (nI (5 * t) + 3) n from lo_in (k := 3) hin hn9 (by decide)) dL_law_239 ?_
  rw [← ea3]
  refine m_ci (va_runV (As := [.int a1, .int a2, .int a3]) (rest := []) ⟨hx, hb, hml, hown, hts⟩ (c_X9_island l a1 a2 a3 hro1 hz1 hni hn12) (cwV 3 hts gL_law_X9_island rfl rfl rfl (by decide +kernel) ⟨Nat.le_of_ble_eq_true rfl, Nat.le_of_ble_eq_true rfl⟩) ⟨m_blind m_B_calling, m_recv hw (m_ent_10 hro1.1) rfl, fun U hU hW => ⟨rfl, m_wo_call hw hU hW⟩⟩ rfl rfl hl.1 rfl (lv_room (Nat.le_of_ble_eq_true rfl)) dL_law_240 ⟨lo_c (by omega), lo_s (by omega)⟩) hw (fun r_240 u_240 H locs hp_240 hw => ?_)
  obtain ⟨I_1, A_2⟩ := u_240
  have hw : m_wo G K1 I_1 R1 F1 A_2 N1 L1 T1 J1 D1 s H locs := hw
  dsimp only at hp_240
  obtain ⟨hz2, hv2⟩ := hp_240
  refine lv_istore (lv' := [(7, .int r_240), (6, .int (t_island Z a1 a2 a3)), (0, .ref b), (1, .ref x), (2, .ref o), (3, .ref ao), (4, .ref dd), (5, .int (nI (5 * t)))]) hx hb dL_law_243 hl (by decide) rfl (fun ls hl => ?_)
  refine lv_aload_n hx hb dL_law_245 rfl (lv_at hl 4 rfl) ?_
  refine m_ci (va_runV (As := []) (rest := []) ⟨hx, hb, hml, hown, hts⟩ (c_X9_thrown l hro1 (r_st_self hz2)) (cwV 0 hts gL_law_X9_thrown rfl rfl rfl (by decide +kernel) ⟨Nat.le_of_ble_eq_true rfl, Nat.le_of_ble_eq_true rfl⟩) ⟨m_blind m_B_calling, m_recv hw (m_ent_10 hro1.1) rfl, fun U hU hW => ⟨rfl, m_wo_call hw hU hW⟩⟩ rfl rfl hl.1 rfl (lv_room (Nat.le_of_ble_eq_true rfl)) dL_law_246 ⟨lo_c (by omega), lo_s (by omega)⟩) hw (fun r_246 u_246 H locs hp_246 hw => ?_)
  obtain rfl : r_246 = (t_island Z a1 a2 a3) := hp_246
  refine lv_iload hx hb dL_law_249 (lv_at hl 1 rfl) ?_
  refine lv_icmp_eq (tgt := 256) hx hb dL_law_251 (by decide) (fun _ => ?_) (fun cz => absurd rfl cz)
  have hK9 : W p l e room_1 s m #[Value.ref b] below meth c H locs (cells + 5 + 0 + 0) (slots + 54 + 0 + 0) Q (F0 m 273 ls []) := by
    refine lv_goto (tgt := 2020) hx hb dL_law_273 (by decide) ?_
    refine lv_iinc (v := (nI (5 * t)) + 5) (lv' := [(5, .int ((nI (5 * t)) + 5)), (7, .int r_240), (6, .int (t_island Z a1 a2 a3)), (0, .ref b), (1, .ref x), (2, .ref o), (3, .ref ao), (4, .ref dd)]) hx hb dL_law_2020 hl (k := 7) rfl rfl (by decide) rfl (fun ls hl => ?_)
    refine lv_goto (tgt := 28) hx hb dL_law_2023 (by decide) ?_
    have hs2 := c_sim_ref hs1 hz2.2.2.1 hz2.2.2.2.1
    have hs3 := hs2
    have hf3 := (show w_f (if t_island Z a1 a2 a3 = 0 then p_island (Z, M) a1 a2 a3 else (Z, M)).1 (if t_island Z a1 a2 a3 = 0 then p_island (Z, M) a1 a2 a3 else (Z, M)).2 (t + 1) from w_ite hf (fun z => w_island hf hni hn12 z))
    rw [show nI (5 * t) + 5 = nI (5 * (t + 1)) from nI_add (5 * t) 5] at hl
    refine W.widen (k := cells + 600) (n := slots + 8300) (by omega) (by omega) ?_
    exact ih _ _ _ ⟨(K1, I_1, R1, F1, A_2, N1, L1, T1, J1, D1), cd, ad, _, _, _, hw, hs3, hro1, r_st_self hz2, hka1, hkd1, hf3, lv_sub hl [3, 4, 5, 6, 7, 0] rfl⟩
  refine lv_iload hx hb dL_law_256 (lv_at hl 1 rfl) ?_
  refine lv_if_ne (tgt := 273) hx hb dL_law_258 (by decide) (fun _ => hK9) (fun c9 => ?_)
  obtain rfl : r_240 = Z 0 := hv2 c9
  refine lv_aload_n hx hb dL_law_261 rfl (lv_at hl 5 rfl) ?_
  refine lv_iconst (v := 0) hx hb dL_law_262 (by decide) ?_
  refine m_laload_35 hx hb hw hka1.1 (h_in hka1.2) dL_law_263 ?_
  rw [show J1 ao (0 : Int32).toNatClampNeg = (Z 0).toInt64 from hq1 c9]
  refine lv_iload hx hb dL_law_264 (lv_at hl 0 rfl) ?_
  refine lv_i2l (v := ((Z 0)).toInt64) hx hb dL_law_266 rfl ?_
  refine lv_lcmp0 hx hb dL_law_267 ?_
  refine lv_if_eq (tgt := 273) hx hb dL_law_268 (by decide) (fun _ => ?_) (fun cz => absurd rfl cz)
  exact hK9
set_option maxHeartbeats 1600000 in
set_option maxRecDepth 100000 in
theorem lo_find {p : Program} {l : Launch} {e : Env} {s : State} {m : MethodId} {below : List Frame} {meth : Method} {c : Code} {H : Heap} {locs : List Loc} {ls : Array Slot} {cells slots : Nat} {Q : State → Prop} {G : mG} {K : Nat → Nat} {I : Nat → Nat → Int32} {R : Nat → Nat → Option Nat} {F : Nat → UInt32} {A : Nat → Nat → Int32} {N : Nat → Nat} {L : Nat → List Nat} {T : Nat → List Int32} {J : Nat → Nat → Int64} {D : Nat → Nat → UInt64} {b n : Nat} {xs : Nat → Int32} {x o ao dd t : Nat} {cd ad : Nat → Nat} {Z : mZ} {M : mM} {th : Int32} (C : lw_cx p l s m c b n xs G) (hfp : f_all) (hw : m_wo G K I R F A N L T J D s H locs) (hs : c_sim K I R N A L T x cd Z M) (hro : r_ok K R N o ad) (hz : r_st K o ad I A I A Z M th) (hka : K ao = 35 ∧ N ao = 1) (hkd : K dd = 36 ∧ N dd = 1) (hf : w_f Z M t) (ht : t < 512) (hin : 5 * t + 5 ≤ n) (hl : lv_has ls 10 [(0, .ref b), (1, .ref x), (2, .ref o), (3, .ref ao), (4, .ref dd), (5, .int (nI (5 * t)))]) (hc9 : cells + 600 ≤ 603072) (hs9 : slots + 8300 ≤ 7211114) (ih : ∀ (H : Heap) (locs : List Loc) (ls : Array Slot), lw_I G s b x o ao dd (t + 1) H locs ls → W p l e room_1 s m #[Value.ref b] below meth c H locs (cells + 600) (slots + 8300) Q (F0 m 28 ls [])) : W p l e room_1 s m #[Value.ref b] below meth c H locs cells slots Q (F0 m 276 ls []) := by
  obtain ⟨hx, hb, hml, hown, hts, hX, hbl, hbA, hnt, hcs, hn9⟩ := C
  have hni := hs.2.1.1
  have hn12 := hs.2.1.2.1
  have hnf := hs.2.2.1.1
  have hn120 := hs.2.2.1.2.1
  have hnsg := hs.2.2.2.2.1.1
  have hn20 := hs.2.2.2.2.1.2.1
  have hns := hs.2.2.2.2.2.1.1
  have hn5 := hs.2.2.2.2.2.1.2.1
  obtain ⟨nt, hnt9, h4t, hgt⟩ := u_gap hs
  have hw9 := u_shW hs
  have ht9 : t ≤ 512 := by omega
  obtain ⟨fpT, fpW, fpS, fpM, fp0⟩ := hfp
  obtain ⟨a1, ea1⟩ : ∃ z, z = xs (nI (5 * t) + 1).toNatClampNeg := ⟨_, rfl⟩
  obtain ⟨a2, ea2⟩ : ∃ z, z = xs (nI (5 * t) + 2).toNatClampNeg := ⟨_, rfl⟩
  obtain ⟨a3, ea3⟩ : ∃ z, z = xs (nI (5 * t) + 3).toNatClampNeg := ⟨_, rfl⟩
  refine lv_aload_n hx hb dL_law_276 rfl (lv_at hl 1 rfl) ?_
  refine lv_aload_n hx hb dL_law_277 rfl (lv_at hl 0 rfl) ?_
  refine lv_iload hx hb dL_law_278 (lv_at hl 5 rfl) ?_
  refine lv_iconst (v := 1) hx hb dL_law_280 (by decide) ?_
  refine lv_iadd hx hb dL_law_281 ?_
  refine va_sld hx hb hX hbl hbA hw.2.2.2.1 (show vp_in (nI (5 * t) + 1) n from lo_in (k := 1) hin hn9 (by decide)) dL_law_282 ?_
  rw [← ea1]
  refine lv_aload_n hx hb dL_law_283 rfl (lv_at hl 0 rfl) ?_
  refine lv_iload hx hb dL_law_284 (lv_at hl 5 rfl) ?_
  refine lv_iconst (v := 2) hx hb dL_law_286 (by decide) ?_
  refine lv_iadd hx hb dL_law_287 ?_
  refine va_sld hx hb hX hbl hbA hw.2.2.2.1 (show vp_in (nI (5 * t) + 2) n from lo_in (k := 2) hin hn9 (by decide)) dL_law_288 ?_
  rw [← ea2]
  refine lv_aload_n hx hb dL_law_289 rfl (lv_at hl 0 rfl) ?_
  refine lv_iload hx hb dL_law_290 (lv_at hl 5 rfl) ?_
  refine lv_iconst (v := 3) hx hb dL_law_292 (by decide) ?_
  refine lv_iadd hx hb dL_law_293 ?_
  refine va_sld hx hb hX hbl hbA hw.2.2.2.1 (show vp_in (nI (5 * t) + 3) n from lo_in (k := 3) hin hn9 (by decide)) dL_law_294 ?_
  rw [← ea3]
  refine lv_aload_n hx hb dL_law_295 rfl (lv_at hl 3 rfl) ?_
  refine m_ci (vx_runSW (As := [.ref x, .int a1, .int a2, .int a3, .ref ao]) (rest := []) ⟨hx, hb, hml, hown, hts⟩ (c_L_find l hnt hs (u_h9 hf) (u_h4 hf ht9) hka.1 hka.2) (vx_cwSW 5 hts gL_law_L_find rfl rfl rfl (by decide +kernel) ⟨Nat.le_of_ble_eq_true rfl, Nat.le_of_ble_eq_true rfl⟩) ⟨m_blind (fun U g mk a h => ⟨m_B_calling U g mk a h.1, c_str_calling U g mk a h.2⟩), fun U hU hW => ⟨rfl, m_wo_call hw hU hW, c_str_warm hW hcs⟩⟩ rfl rfl hl.1 rfl (lv_room (Nat.le_of_ble_eq_true rfl)) dL_law_296 ⟨lo_c (by omega), lo_s (by omega)⟩) hw (fun r1 u1 H locs hp1 hw => ?_)
  obtain ⟨K1, I1, R1, F1, A1, N1, L1, T1, J1, D1⟩ := u1
  try dsimp only at hp1
  obtain ⟨rfl, hq1, hs1, hfr1⟩ := hp1
  have hw : m_wo G K1 I1 R1 F1 A1 N1 L1 T1 J1 D1 s H locs := hw
  have hs1 : c_sim K1 I1 R1 N1 A1 L1 T1 x cd (if t_find Z a1 a2 a3 = 0 then o_comes (Z, M) a1 a2 a3 (-1) else (Z, M)).1 (if t_find Z a1 a2 a3 = 0 then o_comes (Z, M) a1 a2 a3 (-1) else (Z, M)).2 := hs1
  have hfr1 : c_fr K I R N A K1 I1 R1 N1 A1 := hfr1
  have hro1 := r_ok_fr hro hfr1
  have hz1 := r_st_fr hro hz hfr1
  have hka1 : K1 ao = 35 ∧ N1 ao = 1 := ⟨(hfr1 ao (by rw [hka.1]; simp [c_oth])).1.trans hka.1, (hfr1 ao (by rw [hka.1]; simp [c_oth])).2.1.trans hka.2⟩
  have hkd1 : K1 dd = 36 ∧ N1 dd = 1 := ⟨(hfr1 dd (by rw [hkd.1]; simp [c_oth])).1.trans hkd.1, (hfr1 dd (by rw [hkd.1]; simp [c_oth])).2.1.trans hkd.2⟩
  refine lv_istore (lv' := [(6, .int (t_find Z a1 a2 a3)), (0, .ref b), (1, .ref x), (2, .ref o), (3, .ref ao), (4, .ref dd), (5, .int (nI (5 * t)))]) hx hb dL_law_299 hl (by decide) rfl (fun ls hl => ?_)
  refine lv_aload_n hx hb dL_law_301 rfl (lv_at hl 3 rfl) ?_
  refine lv_aload_n hx hb dL_law_302 rfl (lv_at hl 1 rfl) ?_
  refine lv_iload hx hb dL_law_303 (lv_at hl 6 rfl) ?_
  refine lv_iconst (v := 1) hx hb dL_law_305 (by decide) ?_
  refine lv_iadd hx hb dL_law_306 ?_
  refine va_sld hx hb hX hbl hbA hw.2.2.2.1 (show vp_in (nI (5 * t) + 1) n from lo_in (k := 1) hin hn9 (by decide)) dL_law_307 ?_
  rw [← ea1]
  refine lv_aload_n hx hb dL_law_308 rfl (lv_at hl 1 rfl) ?_
  refine lv_iload hx hb dL_law_309 (lv_at hl 6 rfl) ?_
  refine lv_iconst (v := 2) hx hb dL_law_311 (by decide) ?_
  refine lv_iadd hx hb dL_law_312 ?_
  refine va_sld hx hb hX hbl hbA hw.2.2.2.1 (show vp_in (nI (5 * t) + 2) n from lo_in (k := 2) hin hn9 (by decide)) dL_law_313 ?_
  rw [← ea2]
  refine lv_aload_n hx hb dL_law_314 rfl (lv_at hl 1 rfl) ?_
  refine lv_iload hx hb dL_law_315 (lv_at hl 6 rfl) ?_
  refine lv_iconst (v := 3) hx hb dL_law_317 (by decide) ?_
  refine lv_iadd hx hb dL_law_318 ?_
  refine va_sld hx hb hX hbl hbA hw.2.2.2.1 (show vp_in (nI (5 * t) + 3) n from lo_in (k := 3) hin hn9 (by decide)) dL_law_319 ?_
  rw [← ea3]
  refine m_ci (va_runV (As := [.int a1, .int a2, .int a3]) (rest := []) ⟨hx, hb, hml, hown, hts⟩ (c_X9_find l a1 a2 a3 hro1 hz1 hnf hn120 hnsg hn20) (cwV 3 hts gL_law_X9_find rfl rfl rfl (by decide +kernel) ⟨Nat.le_of_ble_eq_true rfl, Nat.le_of_ble_eq_true rfl⟩) ⟨m_blind m_B_calling, m_recv hw (m_ent_10 hro1.1) rfl, fun U hU hW => ⟨rfl, m_wo_call hw hU hW⟩⟩ rfl rfl hl.1 rfl (lv_room (Nat.le_of_ble_eq_true rfl)) dL_law_320 ⟨lo_c (by omega), lo_s (by omega)⟩) hw (fun r_320 u_320 H locs hp_320 hw => ?_)
  obtain ⟨I_1, A_2⟩ := u_320
  have hw : m_wo G K1 I_1 R1 F1 A_2 N1 L1 T1 J1 D1 s H locs := hw
  dsimp only at hp_320
  obtain ⟨hz2, hv2⟩ := hp_320
  refine lv_istore (lv' := [(7, .int r_320), (6, .int (t_find Z a1 a2 a3)), (0, .ref b), (1, .ref x), (2, .ref o), (3, .ref ao), (4, .ref dd), (5, .int (nI (5 * t)))]) hx hb dL_law_323 hl (by decide) rfl (fun ls hl => ?_)
  refine lv_aload_n hx hb dL_law_325 rfl (lv_at hl 4 rfl) ?_
  refine m_ci (va_runV (As := []) (rest := []) ⟨hx, hb, hml, hown, hts⟩ (c_X9_thrown l hro1 (r_st_self hz2)) (cwV 0 hts gL_law_X9_thrown rfl rfl rfl (by decide +kernel) ⟨Nat.le_of_ble_eq_true rfl, Nat.le_of_ble_eq_true rfl⟩) ⟨m_blind m_B_calling, m_recv hw (m_ent_10 hro1.1) rfl, fun U hU hW => ⟨rfl, m_wo_call hw hU hW⟩⟩ rfl rfl hl.1 rfl (lv_room (Nat.le_of_ble_eq_true rfl)) dL_law_326 ⟨lo_c (by omega), lo_s (by omega)⟩) hw (fun r_326 u_326 H locs hp_326 hw => ?_)
  obtain rfl : r_326 = (t_find Z a1 a2 a3) := hp_326
  refine lv_iload hx hb dL_law_329 (lv_at hl 1 rfl) ?_
  refine lv_icmp_eq (tgt := 336) hx hb dL_law_331 (by decide) (fun _ => ?_) (fun cz => absurd rfl cz)
  have hK9 : W p l e room_1 s m #[Value.ref b] below meth c H locs (cells + 11 + 0 + 0) (slots + 595 + 0 + 0) Q (F0 m 353 ls []) := by
    refine lv_goto (tgt := 2020) hx hb dL_law_353 (by decide) ?_
    refine lv_iinc (v := (nI (5 * t)) + 5) (lv' := [(5, .int ((nI (5 * t)) + 5)), (7, .int r_320), (6, .int (t_find Z a1 a2 a3)), (0, .ref b), (1, .ref x), (2, .ref o), (3, .ref ao), (4, .ref dd)]) hx hb dL_law_2020 hl (k := 7) rfl rfl (by decide) rfl (fun ls hl => ?_)
    refine lv_goto (tgt := 28) hx hb dL_law_2023 (by decide) ?_
    have hs2 := c_sim_ref hs1 hz2.2.2.1 hz2.2.2.2.1
    have hs3 := hs2
    have hf3 := (show w_f (if t_find Z a1 a2 a3 = 0 then o_comes (Z, M) a1 a2 a3 (-1) else (Z, M)).1 (if t_find Z a1 a2 a3 = 0 then o_comes (Z, M) a1 a2 a3 (-1) else (Z, M)).2 (t + 1) from w_ite hf (fun z => w_Find hs hf ht9 z))
    rw [show nI (5 * t) + 5 = nI (5 * (t + 1)) from nI_add (5 * t) 5] at hl
    refine W.widen (k := cells + 600) (n := slots + 8300) (by omega) (by omega) ?_
    exact ih _ _ _ ⟨(K1, I_1, R1, F1, A_2, N1, L1, T1, J1, D1), cd, ad, _, _, _, hw, hs3, hro1, r_st_self hz2, hka1, hkd1, hf3, lv_sub hl [3, 4, 5, 6, 7, 0] rfl⟩
  refine lv_iload hx hb dL_law_336 (lv_at hl 1 rfl) ?_
  refine lv_if_ne (tgt := 353) hx hb dL_law_338 (by decide) (fun _ => hK9) (fun c9 => ?_)
  obtain rfl : r_320 = Z 1 := hv2 c9
  refine lv_aload_n hx hb dL_law_341 rfl (lv_at hl 5 rfl) ?_
  refine lv_iconst (v := 0) hx hb dL_law_342 (by decide) ?_
  refine m_laload_35 hx hb hw hka1.1 (h_in hka1.2) dL_law_343 ?_
  rw [show J1 ao (0 : Int32).toNatClampNeg = (Z 1).toInt64 from hq1 c9]
  refine lv_iload hx hb dL_law_344 (lv_at hl 0 rfl) ?_
  refine lv_i2l (v := ((Z 1)).toInt64) hx hb dL_law_346 rfl ?_
  refine lv_lcmp0 hx hb dL_law_347 ?_
  refine lv_if_eq (tgt := 353) hx hb dL_law_348 (by decide) (fun _ => ?_) (fun cz => absurd rfl cz)
  exact hK9
set_option maxHeartbeats 1600000 in
set_option maxRecDepth 100000 in
theorem lo_ship {p : Program} {l : Launch} {e : Env} {s : State} {m : MethodId} {below : List Frame} {meth : Method} {c : Code} {H : Heap} {locs : List Loc} {ls : Array Slot} {cells slots : Nat} {Q : State → Prop} {G : mG} {K : Nat → Nat} {I : Nat → Nat → Int32} {R : Nat → Nat → Option Nat} {F : Nat → UInt32} {A : Nat → Nat → Int32} {N : Nat → Nat} {L : Nat → List Nat} {T : Nat → List Int32} {J : Nat → Nat → Int64} {D : Nat → Nat → UInt64} {b n : Nat} {xs : Nat → Int32} {x o ao dd t : Nat} {cd ad : Nat → Nat} {Z : mZ} {M : mM} {th : Int32} (C : lw_cx p l s m c b n xs G) (hfp : f_all) (hw : m_wo G K I R F A N L T J D s H locs) (hs : c_sim K I R N A L T x cd Z M) (hro : r_ok K R N o ad) (hz : r_st K o ad I A I A Z M th) (hka : K ao = 35 ∧ N ao = 1) (hkd : K dd = 36 ∧ N dd = 1) (hf : w_f Z M t) (ht : t < 512) (hin : 5 * t + 5 ≤ n) (hl : lv_has ls 10 [(0, .ref b), (1, .ref x), (2, .ref o), (3, .ref ao), (4, .ref dd), (5, .int (nI (5 * t)))]) (hc9 : cells + 600 ≤ 603072) (hs9 : slots + 8300 ≤ 7211114) (ih : ∀ (H : Heap) (locs : List Loc) (ls : Array Slot), lw_I G s b x o ao dd (t + 1) H locs ls → W p l e room_1 s m #[Value.ref b] below meth c H locs (cells + 600) (slots + 8300) Q (F0 m 28 ls [])) : W p l e room_1 s m #[Value.ref b] below meth c H locs cells slots Q (F0 m 356 ls []) := by
  obtain ⟨hx, hb, hml, hown, hts, hX, hbl, hbA, hnt, hcs, hn9⟩ := C
  have hni := hs.2.1.1
  have hn12 := hs.2.1.2.1
  have hnf := hs.2.2.1.1
  have hn120 := hs.2.2.1.2.1
  have hnsg := hs.2.2.2.2.1.1
  have hn20 := hs.2.2.2.2.1.2.1
  have hns := hs.2.2.2.2.2.1.1
  have hn5 := hs.2.2.2.2.2.1.2.1
  obtain ⟨nt, hnt9, h4t, hgt⟩ := u_gap hs
  have hw9 := u_shW hs
  have ht9 : t ≤ 512 := by omega
  obtain ⟨fpT, fpW, fpS, fpM, fp0⟩ := hfp
  refine lv_aload_n hx hb dL_law_356 rfl (lv_at hl 1 rfl) ?_
  refine lv_aload_n hx hb dL_law_357 rfl (lv_at hl 3 rfl) ?_
  refine m_ci (vx_runSW (As := [.ref x, .ref ao]) (rest := []) ⟨hx, hb, hml, hown, hts⟩ (c_L_ship l hnt hs hka.1 hka.2) (vx_cwSW 2 hts gL_law_L_ship rfl rfl rfl (by decide +kernel) ⟨Nat.le_of_ble_eq_true rfl, Nat.le_of_ble_eq_true rfl⟩) ⟨m_blind (fun U g mk a h => ⟨m_B_calling U g mk a h.1, c_str_calling U g mk a h.2⟩), fun U hU hW => ⟨rfl, m_wo_call hw hU hW, c_str_warm hW hcs⟩⟩ rfl rfl hl.1 rfl (lv_room (Nat.le_of_ble_eq_true rfl)) dL_law_358 ⟨lo_c (by omega), lo_s (by omega)⟩) hw (fun r1 u1 H locs hp1 hw => ?_)
  obtain ⟨K1, I1, R1, F1, A1, N1, L1, T1, J1, D1⟩ := u1
  try dsimp only at hp1
  obtain ⟨rfl, hq1, hs1, hfr1⟩ := hp1
  have hw : m_wo G K1 I1 R1 F1 A1 N1 L1 T1 J1 D1 s H locs := hw
  have hs1 : c_sim K1 I1 R1 N1 A1 L1 T1 x cd (if t_ship Z = 0 then p_ship (Z, M) else (Z, M)).1 (if t_ship Z = 0 then p_ship (Z, M) else (Z, M)).2 := hs1
  have hfr1 : c_fr K I R N A K1 I1 R1 N1 A1 := hfr1
  have hro1 := r_ok_fr hro hfr1
  have hz1 := r_st_fr hro hz hfr1
  have hka1 : K1 ao = 35 ∧ N1 ao = 1 := ⟨(hfr1 ao (by rw [hka.1]; simp [c_oth])).1.trans hka.1, (hfr1 ao (by rw [hka.1]; simp [c_oth])).2.1.trans hka.2⟩
  have hkd1 : K1 dd = 36 ∧ N1 dd = 1 := ⟨(hfr1 dd (by rw [hkd.1]; simp [c_oth])).1.trans hkd.1, (hfr1 dd (by rw [hkd.1]; simp [c_oth])).2.1.trans hkd.2⟩
  refine lv_istore (lv' := [(6, .int (t_ship Z)), (0, .ref b), (1, .ref x), (2, .ref o), (3, .ref ao), (4, .ref dd), (5, .int (nI (5 * t)))]) hx hb dL_law_361 hl (by decide) rfl (fun ls hl => ?_)
  refine lv_aload_n hx hb dL_law_363 rfl (lv_at hl 3 rfl) ?_
  refine m_ci (va_runV (As := []) (rest := []) ⟨hx, hb, hml, hown, hts⟩ (c_X9_ship l hro1 hz1 hns hn5) (cwV 0 hts gL_law_X9_ship rfl rfl rfl (by decide +kernel) ⟨Nat.le_of_ble_eq_true rfl, Nat.le_of_ble_eq_true rfl⟩) ⟨m_blind m_B_calling, m_recv hw (m_ent_10 hro1.1) rfl, fun U hU hW => ⟨rfl, m_wo_call hw hU hW⟩⟩ rfl rfl hl.1 rfl (lv_room (Nat.le_of_ble_eq_true rfl)) dL_law_364 ⟨lo_c (by omega), lo_s (by omega)⟩) hw (fun r_364 u_364 H locs hp_364 hw => ?_)
  obtain ⟨I_1, A_2⟩ := u_364
  have hw : m_wo G K1 I_1 R1 F1 A_2 N1 L1 T1 J1 D1 s H locs := hw
  dsimp only at hp_364
  obtain ⟨hz2, hv2⟩ := hp_364
  refine lv_istore (lv' := [(7, .int r_364), (6, .int (t_ship Z)), (0, .ref b), (1, .ref x), (2, .ref o), (3, .ref ao), (4, .ref dd), (5, .int (nI (5 * t)))]) hx hb dL_law_367 hl (by decide) rfl (fun ls hl => ?_)
  refine lv_aload_n hx hb dL_law_369 rfl (lv_at hl 4 rfl) ?_
  refine m_ci (va_runV (As := []) (rest := []) ⟨hx, hb, hml, hown, hts⟩ (c_X9_thrown l hro1 (r_st_self hz2)) (cwV 0 hts gL_law_X9_thrown rfl rfl rfl (by decide +kernel) ⟨Nat.le_of_ble_eq_true rfl, Nat.le_of_ble_eq_true rfl⟩) ⟨m_blind m_B_calling, m_recv hw (m_ent_10 hro1.1) rfl, fun U hU hW => ⟨rfl, m_wo_call hw hU hW⟩⟩ rfl rfl hl.1 rfl (lv_room (Nat.le_of_ble_eq_true rfl)) dL_law_370 ⟨lo_c (by omega), lo_s (by omega)⟩) hw (fun r_370 u_370 H locs hp_370 hw => ?_)
  obtain rfl : r_370 = (t_ship Z) := hp_370
  refine lv_iload hx hb dL_law_373 (lv_at hl 1 rfl) ?_
  refine lv_icmp_eq (tgt := 380) hx hb dL_law_375 (by decide) (fun _ => ?_) (fun cz => absurd rfl cz)
  have hK9 : W p l e room_1 s m #[Value.ref b] below meth c H locs (cells + 5 + 0 + 0) (slots + 48 + 0 + 0) Q (F0 m 397 ls []) := by
    refine lv_goto (tgt := 2020) hx hb dL_law_397 (by decide) ?_
    refine lv_iinc (v := (nI (5 * t)) + 5) (lv' := [(5, .int ((nI (5 * t)) + 5)), (7, .int r_364), (6, .int (t_ship Z)), (0, .ref b), (1, .ref x), (2, .ref o), (3, .ref ao), (4, .ref dd)]) hx hb dL_law_2020 hl (k := 7) rfl rfl (by decide) rfl (fun ls hl => ?_)
    refine lv_goto (tgt := 28) hx hb dL_law_2023 (by decide) ?_
    have hs2 := c_sim_ref hs1 hz2.2.2.1 hz2.2.2.2.1
    have hs3 := hs2
    have hf3 := (show w_f (if t_ship Z = 0 then p_ship (Z, M) else (Z, M)).1 (if t_ship Z = 0 then p_ship (Z, M) else (Z, M)).2 (t + 1) from w_ite hf (fun _ => w_ship hf hns hn5))
    rw [show nI (5 * t) + 5 = nI (5 * (t + 1)) from nI_add (5 * t) 5] at hl
    refine W.widen (k := cells + 600) (n := slots + 8300) (by omega) (by omega) ?_
    exact ih _ _ _ ⟨(K1, I_1, R1, F1, A_2, N1, L1, T1, J1, D1), cd, ad, _, _, _, hw, hs3, hro1, r_st_self hz2, hka1, hkd1, hf3, lv_sub hl [3, 4, 5, 6, 7, 0] rfl⟩
  refine lv_iload hx hb dL_law_380 (lv_at hl 1 rfl) ?_
  refine lv_if_ne (tgt := 397) hx hb dL_law_382 (by decide) (fun _ => hK9) (fun c9 => ?_)
  obtain rfl : r_364 = Z 2 := hv2 c9
  refine lv_aload_n hx hb dL_law_385 rfl (lv_at hl 5 rfl) ?_
  refine lv_iconst (v := 0) hx hb dL_law_386 (by decide) ?_
  refine m_laload_35 hx hb hw hka1.1 (h_in hka1.2) dL_law_387 ?_
  rw [show J1 ao (0 : Int32).toNatClampNeg = (Z 2).toInt64 from hq1 c9]
  refine lv_iload hx hb dL_law_388 (lv_at hl 0 rfl) ?_
  refine lv_i2l (v := ((Z 2)).toInt64) hx hb dL_law_390 rfl ?_
  refine lv_lcmp0 hx hb dL_law_391 ?_
  refine lv_if_eq (tgt := 397) hx hb dL_law_392 (by decide) (fun _ => ?_) (fun cz => absurd rfl cz)
  exact hK9
set_option maxHeartbeats 1600000 in
set_option maxRecDepth 100000 in
theorem lo_plant {p : Program} {l : Launch} {e : Env} {s : State} {m : MethodId} {below : List Frame} {meth : Method} {c : Code} {H : Heap} {locs : List Loc} {ls : Array Slot} {cells slots : Nat} {Q : State → Prop} {G : mG} {K : Nat → Nat} {I : Nat → Nat → Int32} {R : Nat → Nat → Option Nat} {F : Nat → UInt32} {A : Nat → Nat → Int32} {N : Nat → Nat} {L : Nat → List Nat} {T : Nat → List Int32} {J : Nat → Nat → Int64} {D : Nat → Nat → UInt64} {b n : Nat} {xs : Nat → Int32} {x o ao dd t : Nat} {cd ad : Nat → Nat} {Z : mZ} {M : mM} {th : Int32} (C : lw_cx p l s m c b n xs G) (hfp : f_all) (hw : m_wo G K I R F A N L T J D s H locs) (hs : c_sim K I R N A L T x cd Z M) (hro : r_ok K R N o ad) (hz : r_st K o ad I A I A Z M th) (hka : K ao = 35 ∧ N ao = 1) (hkd : K dd = 36 ∧ N dd = 1) (hf : w_f Z M t) (ht : t < 512) (hin : 5 * t + 5 ≤ n) (hl : lv_has ls 10 [(0, .ref b), (1, .ref x), (2, .ref o), (3, .ref ao), (4, .ref dd), (5, .int (nI (5 * t)))]) (hc9 : cells + 600 ≤ 603072) (hs9 : slots + 8300 ≤ 7211114) (ih : ∀ (H : Heap) (locs : List Loc) (ls : Array Slot), lw_I G s b x o ao dd (t + 1) H locs ls → W p l e room_1 s m #[Value.ref b] below meth c H locs (cells + 600) (slots + 8300) Q (F0 m 28 ls [])) : W p l e room_1 s m #[Value.ref b] below meth c H locs cells slots Q (F0 m 400 ls []) := by
  obtain ⟨hx, hb, hml, hown, hts, hX, hbl, hbA, hnt, hcs, hn9⟩ := C
  have hni := hs.2.1.1
  have hn12 := hs.2.1.2.1
  have hnf := hs.2.2.1.1
  have hn120 := hs.2.2.1.2.1
  have hnsg := hs.2.2.2.2.1.1
  have hn20 := hs.2.2.2.2.1.2.1
  have hns := hs.2.2.2.2.2.1.1
  have hn5 := hs.2.2.2.2.2.1.2.1
  obtain ⟨nt, hnt9, h4t, hgt⟩ := u_gap hs
  have hw9 := u_shW hs
  have ht9 : t ≤ 512 := by omega
  obtain ⟨fpT, fpW, fpS, fpM, fp0⟩ := hfp
  obtain ⟨a1, ea1⟩ : ∃ z, z = xs (nI (5 * t) + 1).toNatClampNeg := ⟨_, rfl⟩
  obtain ⟨a2, ea2⟩ : ∃ z, z = xs (nI (5 * t) + 2).toNatClampNeg := ⟨_, rfl⟩
  obtain ⟨a3, ea3⟩ : ∃ z, z = xs (nI (5 * t) + 3).toNatClampNeg := ⟨_, rfl⟩
  obtain ⟨a4, ea4⟩ : ∃ z, z = xs (nI (5 * t) + 4).toNatClampNeg := ⟨_, rfl⟩
  refine lv_aload_n hx hb dL_law_400 rfl (lv_at hl 1 rfl) ?_
  refine lv_aload_n hx hb dL_law_401 rfl (lv_at hl 0 rfl) ?_
  refine lv_iload hx hb dL_law_402 (lv_at hl 5 rfl) ?_
  refine lv_iconst (v := 1) hx hb dL_law_404 (by decide) ?_
  refine lv_iadd hx hb dL_law_405 ?_
  refine va_sld hx hb hX hbl hbA hw.2.2.2.1 (show vp_in (nI (5 * t) + 1) n from lo_in (k := 1) hin hn9 (by decide)) dL_law_406 ?_
  rw [← ea1]
  refine lv_aload_n hx hb dL_law_407 rfl (lv_at hl 0 rfl) ?_
  refine lv_iload hx hb dL_law_408 (lv_at hl 5 rfl) ?_
  refine lv_iconst (v := 2) hx hb dL_law_410 (by decide) ?_
  refine lv_iadd hx hb dL_law_411 ?_
  refine va_sld hx hb hX hbl hbA hw.2.2.2.1 (show vp_in (nI (5 * t) + 2) n from lo_in (k := 2) hin hn9 (by decide)) dL_law_412 ?_
  rw [← ea2]
  refine lv_aload_n hx hb dL_law_413 rfl (lv_at hl 0 rfl) ?_
  refine lv_iload hx hb dL_law_414 (lv_at hl 5 rfl) ?_
  refine lv_iconst (v := 3) hx hb dL_law_416 (by decide) ?_
  refine lv_iadd hx hb dL_law_417 ?_
  refine va_sld hx hb hX hbl hbA hw.2.2.2.1 (show vp_in (nI (5 * t) + 3) n from lo_in (k := 3) hin hn9 (by decide)) dL_law_418 ?_
  rw [← ea3]
  refine lv_aload_n hx hb dL_law_419 rfl (lv_at hl 0 rfl) ?_
  refine lv_iload hx hb dL_law_420 (lv_at hl 5 rfl) ?_
  refine lv_iconst (v := 4) hx hb dL_law_422 (by decide) ?_
  refine lv_iadd hx hb dL_law_423 ?_
  refine va_sld hx hb hX hbl hbA hw.2.2.2.1 (show vp_in (nI (5 * t) + 4) n from lo_in (k := 4) hin hn9 (by decide)) dL_law_424 ?_
  rw [← ea4]
  refine lv_aload_n hx hb dL_law_425 rfl (lv_at hl 3 rfl) ?_
  refine m_ci (vx_runSW (As := [.ref x, .int a1, .int a2, .int a3, .int a4, .ref ao]) (rest := []) ⟨hx, hb, hml, hown, hts⟩ (c_L_plant l hnt hs (u_h9 hf) (u_h4 hf ht9) hka.1 hka.2) (vx_cwSW 6 hts gL_law_L_plant rfl rfl rfl (by decide +kernel) ⟨Nat.le_of_ble_eq_true rfl, Nat.le_of_ble_eq_true rfl⟩) ⟨m_blind (fun U g mk a h => ⟨m_B_calling U g mk a h.1, c_str_calling U g mk a h.2⟩), fun U hU hW => ⟨rfl, m_wo_call hw hU hW, c_str_warm hW hcs⟩⟩ rfl rfl hl.1 rfl (lv_room (Nat.le_of_ble_eq_true rfl)) dL_law_426 ⟨lo_c (by omega), lo_s (by omega)⟩) hw (fun r1 u1 H locs hp1 hw => ?_)
  obtain ⟨K1, I1, R1, F1, A1, N1, L1, T1, J1, D1⟩ := u1
  try dsimp only at hp1
  obtain ⟨rfl, hq1, hs1, hfr1⟩ := hp1
  have hw : m_wo G K1 I1 R1 F1 A1 N1 L1 T1 J1 D1 s H locs := hw
  have hs1 : c_sim K1 I1 R1 N1 A1 L1 T1 x cd (if t_plant Z M a1 a2 a3 a4 = 0 then p_plant (Z, M) a1 a2 a3 a4 else (Z, M)).1 (if t_plant Z M a1 a2 a3 a4 = 0 then p_plant (Z, M) a1 a2 a3 a4 else (Z, M)).2 := hs1
  have hfr1 : c_fr K I R N A K1 I1 R1 N1 A1 := hfr1
  have hro1 := r_ok_fr hro hfr1
  have hz1 := r_st_fr hro hz hfr1
  have hka1 : K1 ao = 35 ∧ N1 ao = 1 := ⟨(hfr1 ao (by rw [hka.1]; simp [c_oth])).1.trans hka.1, (hfr1 ao (by rw [hka.1]; simp [c_oth])).2.1.trans hka.2⟩
  have hkd1 : K1 dd = 36 ∧ N1 dd = 1 := ⟨(hfr1 dd (by rw [hkd.1]; simp [c_oth])).1.trans hkd.1, (hfr1 dd (by rw [hkd.1]; simp [c_oth])).2.1.trans hkd.2⟩
  refine lv_istore (lv' := [(6, .int (t_plant Z M a1 a2 a3 a4)), (0, .ref b), (1, .ref x), (2, .ref o), (3, .ref ao), (4, .ref dd), (5, .int (nI (5 * t)))]) hx hb dL_law_429 hl (by decide) rfl (fun ls hl => ?_)
  refine lv_aload_n hx hb dL_law_431 rfl (lv_at hl 3 rfl) ?_
  refine lv_aload_n hx hb dL_law_432 rfl (lv_at hl 1 rfl) ?_
  refine lv_iload hx hb dL_law_433 (lv_at hl 6 rfl) ?_
  refine lv_iconst (v := 1) hx hb dL_law_435 (by decide) ?_
  refine lv_iadd hx hb dL_law_436 ?_
  refine va_sld hx hb hX hbl hbA hw.2.2.2.1 (show vp_in (nI (5 * t) + 1) n from lo_in (k := 1) hin hn9 (by decide)) dL_law_437 ?_
  rw [← ea1]
  refine lv_aload_n hx hb dL_law_438 rfl (lv_at hl 1 rfl) ?_
  refine lv_iload hx hb dL_law_439 (lv_at hl 6 rfl) ?_
  refine lv_iconst (v := 2) hx hb dL_law_441 (by decide) ?_
  refine lv_iadd hx hb dL_law_442 ?_
  refine va_sld hx hb hX hbl hbA hw.2.2.2.1 (show vp_in (nI (5 * t) + 2) n from lo_in (k := 2) hin hn9 (by decide)) dL_law_443 ?_
  rw [← ea2]
  refine lv_aload_n hx hb dL_law_444 rfl (lv_at hl 1 rfl) ?_
  refine lv_iload hx hb dL_law_445 (lv_at hl 6 rfl) ?_
  refine lv_iconst (v := 3) hx hb dL_law_447 (by decide) ?_
  refine lv_iadd hx hb dL_law_448 ?_
  refine va_sld hx hb hX hbl hbA hw.2.2.2.1 (show vp_in (nI (5 * t) + 3) n from lo_in (k := 3) hin hn9 (by decide)) dL_law_449 ?_
  rw [← ea3]
  refine lv_aload_n hx hb dL_law_450 rfl (lv_at hl 1 rfl) ?_
  refine lv_iload hx hb dL_law_451 (lv_at hl 6 rfl) ?_
  refine lv_iconst (v := 4) hx hb dL_law_453 (by decide) ?_
  refine lv_iadd hx hb dL_law_454 ?_
  refine va_sld hx hb hX hbl hbA hw.2.2.2.1 (show vp_in (nI (5 * t) + 4) n from lo_in (k := 4) hin hn9 (by decide)) dL_law_455 ?_
  rw [← ea4]
  refine m_ci (va_runV (As := [.int a1, .int a2, .int a3, .int a4]) (rest := []) ⟨hx, hb, hml, hown, hts⟩ (c_X9_plant l a1 a2 a3 a4 hro1 hz1 hnf hn120 hnsg hn20 hns hn5) (cwV 4 hts gL_law_X9_plant rfl rfl rfl (by decide +kernel) ⟨Nat.le_of_ble_eq_true rfl, Nat.le_of_ble_eq_true rfl⟩) ⟨m_blind m_B_calling, m_recv hw (m_ent_10 hro1.1) rfl, fun U hU hW => ⟨rfl, m_wo_call hw hU hW⟩⟩ rfl rfl hl.1 rfl (lv_room (Nat.le_of_ble_eq_true rfl)) dL_law_456 ⟨lo_c (by omega), lo_s (by omega)⟩) hw (fun r_456 u_456 H locs hp_456 hw => ?_)
  obtain ⟨I_1, A_2⟩ := u_456
  have hw : m_wo G K1 I_1 R1 F1 A_2 N1 L1 T1 J1 D1 s H locs := hw
  dsimp only at hp_456
  obtain ⟨hz2, hv2⟩ := hp_456
  refine lv_istore (lv' := [(7, .int r_456), (6, .int (t_plant Z M a1 a2 a3 a4)), (0, .ref b), (1, .ref x), (2, .ref o), (3, .ref ao), (4, .ref dd), (5, .int (nI (5 * t)))]) hx hb dL_law_459 hl (by decide) rfl (fun ls hl => ?_)
  refine lv_aload_n hx hb dL_law_461 rfl (lv_at hl 4 rfl) ?_
  refine m_ci (va_runV (As := []) (rest := []) ⟨hx, hb, hml, hown, hts⟩ (c_X9_thrown l hro1 (r_st_self hz2)) (cwV 0 hts gL_law_X9_thrown rfl rfl rfl (by decide +kernel) ⟨Nat.le_of_ble_eq_true rfl, Nat.le_of_ble_eq_true rfl⟩) ⟨m_blind m_B_calling, m_recv hw (m_ent_10 hro1.1) rfl, fun U hU hW => ⟨rfl, m_wo_call hw hU hW⟩⟩ rfl rfl hl.1 rfl (lv_room (Nat.le_of_ble_eq_true rfl)) dL_law_462 ⟨lo_c (by omega), lo_s (by omega)⟩) hw (fun r_462 u_462 H locs hp_462 hw => ?_)
  obtain rfl : r_462 = (t_plant Z M a1 a2 a3 a4) := hp_462
  refine lv_iload hx hb dL_law_465 (lv_at hl 1 rfl) ?_
  refine lv_icmp_eq (tgt := 472) hx hb dL_law_467 (by decide) (fun _ => ?_) (fun cz => absurd rfl cz)
  have hK9 : W p l e room_1 s m #[Value.ref b] below meth c H locs (cells + 12 + 0 + 0) (slots + 601 + 0 + 0) Q (F0 m 489 ls []) := by
    refine lv_goto (tgt := 2020) hx hb dL_law_489 (by decide) ?_
    refine lv_iinc (v := (nI (5 * t)) + 5) (lv' := [(5, .int ((nI (5 * t)) + 5)), (7, .int r_456), (6, .int (t_plant Z M a1 a2 a3 a4)), (0, .ref b), (1, .ref x), (2, .ref o), (3, .ref ao), (4, .ref dd)]) hx hb dL_law_2020 hl (k := 7) rfl rfl (by decide) rfl (fun ls hl => ?_)
    refine lv_goto (tgt := 28) hx hb dL_law_2023 (by decide) ?_
    have hs2 := c_sim_ref hs1 hz2.2.2.1 hz2.2.2.2.1
    have hs3 := hs2
    have hf3 := (show w_f (if t_plant Z M a1 a2 a3 a4 = 0 then p_plant (Z, M) a1 a2 a3 a4 else (Z, M)).1 (if t_plant Z M a1 a2 a3 a4 = 0 then p_plant (Z, M) a1 a2 a3 a4 else (Z, M)).2 (t + 1) from w_ite hf (fun z => w_Plant hs hf ht9 z))
    rw [show nI (5 * t) + 5 = nI (5 * (t + 1)) from nI_add (5 * t) 5] at hl
    refine W.widen (k := cells + 600) (n := slots + 8300) (by omega) (by omega) ?_
    exact ih _ _ _ ⟨(K1, I_1, R1, F1, A_2, N1, L1, T1, J1, D1), cd, ad, _, _, _, hw, hs3, hro1, r_st_self hz2, hka1, hkd1, hf3, lv_sub hl [3, 4, 5, 6, 7, 0] rfl⟩
  refine lv_iload hx hb dL_law_472 (lv_at hl 1 rfl) ?_
  refine lv_if_ne (tgt := 489) hx hb dL_law_474 (by decide) (fun _ => hK9) (fun c9 => ?_)
  obtain rfl : r_456 = Z 1 := hv2 c9
  refine lv_aload_n hx hb dL_law_477 rfl (lv_at hl 5 rfl) ?_
  refine lv_iconst (v := 0) hx hb dL_law_478 (by decide) ?_
  refine m_laload_35 hx hb hw hka1.1 (h_in hka1.2) dL_law_479 ?_
  rw [show J1 ao (0 : Int32).toNatClampNeg = (Z 1).toInt64 from hq1 c9]
  refine lv_iload hx hb dL_law_480 (lv_at hl 0 rfl) ?_
  refine lv_i2l (v := ((Z 1)).toInt64) hx hb dL_law_482 rfl ?_
  refine lv_lcmp0 hx hb dL_law_483 ?_
  refine lv_if_eq (tgt := 489) hx hb dL_law_484 (by decide) (fun _ => ?_) (fun cz => absurd rfl cz)
  exact hK9
set_option maxHeartbeats 1600000 in
set_option maxRecDepth 100000 in
theorem lo_segments {p : Program} {l : Launch} {e : Env} {s : State} {m : MethodId} {below : List Frame} {meth : Method} {c : Code} {H : Heap} {locs : List Loc} {ls : Array Slot} {cells slots : Nat} {Q : State → Prop} {G : mG} {K : Nat → Nat} {I : Nat → Nat → Int32} {R : Nat → Nat → Option Nat} {F : Nat → UInt32} {A : Nat → Nat → Int32} {N : Nat → Nat} {L : Nat → List Nat} {T : Nat → List Int32} {J : Nat → Nat → Int64} {D : Nat → Nat → UInt64} {b n : Nat} {xs : Nat → Int32} {x o ao dd t : Nat} {cd ad : Nat → Nat} {Z : mZ} {M : mM} {th : Int32} (C : lw_cx p l s m c b n xs G) (hfp : f_all) (hw : m_wo G K I R F A N L T J D s H locs) (hs : c_sim K I R N A L T x cd Z M) (hro : r_ok K R N o ad) (hz : r_st K o ad I A I A Z M th) (hka : K ao = 35 ∧ N ao = 1) (hkd : K dd = 36 ∧ N dd = 1) (hf : w_f Z M t) (ht : t < 512) (hin : 5 * t + 5 ≤ n) (hl : lv_has ls 10 [(0, .ref b), (1, .ref x), (2, .ref o), (3, .ref ao), (4, .ref dd), (5, .int (nI (5 * t)))]) (hc9 : cells + 600 ≤ 603072) (hs9 : slots + 8300 ≤ 7211114) (ih : ∀ (H : Heap) (locs : List Loc) (ls : Array Slot), lw_I G s b x o ao dd (t + 1) H locs ls → W p l e room_1 s m #[Value.ref b] below meth c H locs (cells + 600) (slots + 8300) Q (F0 m 28 ls [])) : W p l e room_1 s m #[Value.ref b] below meth c H locs cells slots Q (F0 m 492 ls []) := by
  obtain ⟨hx, hb, hml, hown, hts, hX, hbl, hbA, hnt, hcs, hn9⟩ := C
  have hni := hs.2.1.1
  have hn12 := hs.2.1.2.1
  have hnf := hs.2.2.1.1
  have hn120 := hs.2.2.1.2.1
  have hnsg := hs.2.2.2.2.1.1
  have hn20 := hs.2.2.2.2.1.2.1
  have hns := hs.2.2.2.2.2.1.1
  have hn5 := hs.2.2.2.2.2.1.2.1
  obtain ⟨nt, hnt9, h4t, hgt⟩ := u_gap hs
  have hw9 := u_shW hs
  have ht9 : t ≤ 512 := by omega
  obtain ⟨fpT, fpW, fpS, fpM, fp0⟩ := hfp
  have hs1 := hs
  have hro1 := hro
  have hz1 := hz
  have hfr1 : c_fr K I R N A K I R N A := c_fr_rf
  refine lv_aload_n hx hb dL_law_492 rfl (lv_at hl 1 rfl) ?_
  refine m_ci (va_runV (As := []) (rest := []) ⟨hx, hb, hml, hown, hts⟩ (c_X8_segments l hs) (cwV 0 hts gL_law_X8_segments rfl rfl rfl (by decide +kernel) ⟨Nat.le_of_ble_eq_true rfl, Nat.le_of_ble_eq_true rfl⟩) ⟨m_blind m_B_calling, m_recv hw (m_ent_9 hs.1.1) rfl, fun U hU hW => ⟨rfl, m_wo_call hw hU hW⟩⟩ rfl rfl hl.1 rfl (lv_room (Nat.le_of_ble_eq_true rfl)) dL_law_493 ⟨lo_c (by omega), lo_s (by omega)⟩) hw (fun r_493 u_493 H locs hp_493 hw => ?_)
  obtain rfl : r_493 = Z 3 := hp_493
  have hka1 : K ao = 35 ∧ N ao = 1 := ⟨(hfr1 ao (by rw [hka.1]; simp [c_oth])).1.trans hka.1, (hfr1 ao (by rw [hka.1]; simp [c_oth])).2.1.trans hka.2⟩
  have hkd1 : K dd = 36 ∧ N dd = 1 := ⟨(hfr1 dd (by rw [hkd.1]; simp [c_oth])).1.trans hkd.1, (hfr1 dd (by rw [hkd.1]; simp [c_oth])).2.1.trans hkd.2⟩
  refine lv_aload_n hx hb dL_law_496 rfl (lv_at hl 2 rfl) ?_
  refine m_ci (va_runV (As := []) (rest := [.int (Z 3)]) ⟨hx, hb, hml, hown, hts⟩ (c_X9_segments l hro1 hz1) (cwV 0 hts gL_law_X9_segments rfl rfl rfl (by decide +kernel) ⟨Nat.le_of_ble_eq_true rfl, Nat.le_of_ble_eq_true rfl⟩) ⟨m_blind m_B_calling, m_recv hw (m_ent_10 hro1.1) rfl, fun U hU hW => ⟨rfl, m_wo_call hw hU hW⟩⟩ rfl rfl hl.1 rfl (lv_room (Nat.le_of_ble_eq_true rfl)) dL_law_497 ⟨lo_c (by omega), lo_s (by omega)⟩) hw (fun r_497 u_497 H locs hp_497 hw => ?_)
  obtain rfl : r_497 = Z 3 := hp_497
  refine lv_icmp_eq (tgt := 2020) hx hb dL_law_500 (by decide) (fun _ => ?_) (fun cz => absurd rfl cz)
  refine lv_iinc (v := (nI (5 * t)) + 5) (lv' := [(5, .int ((nI (5 * t)) + 5)), (0, .ref b), (1, .ref x), (2, .ref o), (3, .ref ao), (4, .ref dd)]) hx hb dL_law_2020 hl (k := 5) rfl rfl (by decide) rfl (fun ls hl => ?_)
  refine lv_goto (tgt := 28) hx hb dL_law_2023 (by decide) ?_
  have hs2 := hs1
  have hs3 := hs2
  have hf3 := (show w_f (Z, M).1 (Z, M).2 (t + 1) from w_same hf)
  rw [show nI (5 * t) + 5 = nI (5 * (t + 1)) from nI_add (5 * t) 5] at hl
  refine W.widen (k := cells + 600) (n := slots + 8300) (by omega) (by omega) ?_
  exact ih _ _ _ ⟨(K, I, R, F, A, N, L, T, J, D), cd, ad, _, _, _, hw, hs3, hro1, r_st_self hz1, hka1, hkd1, hf3, lv_sub hl [1, 2, 3, 4, 5, 0] rfl⟩
set_option maxHeartbeats 1600000 in
set_option maxRecDepth 100000 in
theorem lo_segment {p : Program} {l : Launch} {e : Env} {s : State} {m : MethodId} {below : List Frame} {meth : Method} {c : Code} {H : Heap} {locs : List Loc} {ls : Array Slot} {cells slots : Nat} {Q : State → Prop} {G : mG} {K : Nat → Nat} {I : Nat → Nat → Int32} {R : Nat → Nat → Option Nat} {F : Nat → UInt32} {A : Nat → Nat → Int32} {N : Nat → Nat} {L : Nat → List Nat} {T : Nat → List Int32} {J : Nat → Nat → Int64} {D : Nat → Nat → UInt64} {b n : Nat} {xs : Nat → Int32} {x o ao dd t : Nat} {cd ad : Nat → Nat} {Z : mZ} {M : mM} {th : Int32} (C : lw_cx p l s m c b n xs G) (hfp : f_all) (hw : m_wo G K I R F A N L T J D s H locs) (hs : c_sim K I R N A L T x cd Z M) (hro : r_ok K R N o ad) (hz : r_st K o ad I A I A Z M th) (hka : K ao = 35 ∧ N ao = 1) (hkd : K dd = 36 ∧ N dd = 1) (hf : w_f Z M t) (ht : t < 512) (hin : 5 * t + 5 ≤ n) (hl : lv_has ls 10 [(0, .ref b), (1, .ref x), (2, .ref o), (3, .ref ao), (4, .ref dd), (5, .int (nI (5 * t)))]) (hc9 : cells + 600 ≤ 603072) (hs9 : slots + 8300 ≤ 7211114) (ih : ∀ (H : Heap) (locs : List Loc) (ls : Array Slot), lw_I G s b x o ao dd (t + 1) H locs ls → W p l e room_1 s m #[Value.ref b] below meth c H locs (cells + 600) (slots + 8300) Q (F0 m 28 ls [])) : W p l e room_1 s m #[Value.ref b] below meth c H locs cells slots Q (F0 m 505 ls []) := by
  obtain ⟨hx, hb, hml, hown, hts, hX, hbl, hbA, hnt, hcs, hn9⟩ := C
  have hni := hs.2.1.1
  have hn12 := hs.2.1.2.1
  have hnf := hs.2.2.1.1
  have hn120 := hs.2.2.1.2.1
  have hnsg := hs.2.2.2.2.1.1
  have hn20 := hs.2.2.2.2.1.2.1
  have hns := hs.2.2.2.2.2.1.1
  have hn5 := hs.2.2.2.2.2.1.2.1
  obtain ⟨nt, hnt9, h4t, hgt⟩ := u_gap hs
  have hw9 := u_shW hs
  have ht9 : t ≤ 512 := by omega
  obtain ⟨fpT, fpW, fpS, fpM, fp0⟩ := hfp
  obtain ⟨a1, ea1⟩ : ∃ z, z = xs (nI (5 * t) + 1).toNatClampNeg := ⟨_, rfl⟩
  refine lv_aload_n hx hb dL_law_505 rfl (lv_at hl 1 rfl) ?_
  refine lv_aload_n hx hb dL_law_506 rfl (lv_at hl 0 rfl) ?_
  refine lv_iload hx hb dL_law_507 (lv_at hl 5 rfl) ?_
  refine lv_iconst (v := 1) hx hb dL_law_509 (by decide) ?_
  refine lv_iadd hx hb dL_law_510 ?_
  refine va_sld hx hb hX hbl hbA hw.2.2.2.1 (show vp_in (nI (5 * t) + 1) n from lo_in (k := 1) hin hn9 (by decide)) dL_law_511 ?_
  rw [← ea1]
  refine lv_aload_n hx hb dL_law_512 rfl (lv_at hl 3 rfl) ?_
  refine m_ci (vx_runSW (As := [.ref x, .int a1, .ref ao]) (rest := []) ⟨hx, hb, hml, hown, hts⟩ (c_L_segment l hnt hs hka.1 hka.2) (vx_cwSW 3 hts gL_law_L_segment rfl rfl rfl (by decide +kernel) ⟨Nat.le_of_ble_eq_true rfl, Nat.le_of_ble_eq_true rfl⟩) ⟨m_blind (fun U g mk a h => ⟨m_B_calling U g mk a h.1, c_str_calling U g mk a h.2⟩), fun U hU hW => ⟨rfl, m_wo_call hw hU hW, c_str_warm hW hcs⟩⟩ rfl rfl hl.1 rfl (lv_room (Nat.le_of_ble_eq_true rfl)) dL_law_513 ⟨lo_c (by omega), lo_s (by omega)⟩) hw (fun r1 u1 H locs hp1 hw => ?_)
  obtain ⟨K1, I1, R1, F1, A1, N1, L1, T1, J1, D1⟩ := u1
  try dsimp only at hp1
  obtain ⟨rfl, hq1, hs1, hfr1⟩ := hp1
  have hw : m_wo G K1 I1 R1 F1 A1 N1 L1 T1 J1 D1 s H locs := hw
  have hs1 : c_sim K1 I1 R1 N1 A1 L1 T1 x cd (Z, M).1 (Z, M).2 := hs1
  have hfr1 : c_fr K I R N A K1 I1 R1 N1 A1 := hfr1
  have hro1 := r_ok_fr hro hfr1
  have hz1 := r_st_fr hro hz hfr1
  have hka1 : K1 ao = 35 ∧ N1 ao = 1 := ⟨(hfr1 ao (by rw [hka.1]; simp [c_oth])).1.trans hka.1, (hfr1 ao (by rw [hka.1]; simp [c_oth])).2.1.trans hka.2⟩
  have hkd1 : K1 dd = 36 ∧ N1 dd = 1 := ⟨(hfr1 dd (by rw [hkd.1]; simp [c_oth])).1.trans hkd.1, (hfr1 dd (by rw [hkd.1]; simp [c_oth])).2.1.trans hkd.2⟩
  refine lv_istore (lv' := [(6, .int (t_segment Z a1)), (0, .ref b), (1, .ref x), (2, .ref o), (3, .ref ao), (4, .ref dd), (5, .int (nI (5 * t)))]) hx hb dL_law_516 hl (by decide) rfl (fun ls hl => ?_)
  refine lv_aload_n hx hb dL_law_518 rfl (lv_at hl 3 rfl) ?_
  refine lv_aload_n hx hb dL_law_519 rfl (lv_at hl 1 rfl) ?_
  refine lv_iload hx hb dL_law_520 (lv_at hl 6 rfl) ?_
  refine lv_iconst (v := 1) hx hb dL_law_522 (by decide) ?_
  refine lv_iadd hx hb dL_law_523 ?_
  refine va_sld hx hb hX hbl hbA hw.2.2.2.1 (show vp_in (nI (5 * t) + 1) n from lo_in (k := 1) hin hn9 (by decide)) dL_law_524 ?_
  rw [← ea1]
  refine m_ci (va_runV (As := [.int a1]) (rest := []) ⟨hx, hb, hml, hown, hts⟩ (c_X9_segment l a1 hro1 hz1 hnsg hn20) (cwV 1 hts gL_law_X9_segment rfl rfl rfl (by decide +kernel) ⟨Nat.le_of_ble_eq_true rfl, Nat.le_of_ble_eq_true rfl⟩) ⟨m_blind m_B_calling, m_recv hw (m_ent_10 hro1.1) rfl, fun U hU hW => ⟨rfl, m_wo_call hw hU hW⟩⟩ rfl rfl hl.1 rfl (lv_room (Nat.le_of_ble_eq_true rfl)) dL_law_525 ⟨lo_c (by omega), lo_s (by omega)⟩) hw (fun r_525 u_525 H locs hp_525 hw => ?_)
  obtain ⟨I_1, A_2⟩ := u_525
  have hw : m_wo G K1 I_1 R1 F1 A_2 N1 L1 T1 J1 D1 s H locs := hw
  dsimp only at hp_525
  obtain ⟨hz2, hv2⟩ := hp_525
  refine lv_istore (lv' := [(7, .int r_525), (6, .int (t_segment Z a1)), (0, .ref b), (1, .ref x), (2, .ref o), (3, .ref ao), (4, .ref dd), (5, .int (nI (5 * t)))]) hx hb dL_law_528 hl (by decide) rfl (fun ls hl => ?_)
  refine lv_aload_n hx hb dL_law_530 rfl (lv_at hl 4 rfl) ?_
  refine m_ci (va_runV (As := []) (rest := []) ⟨hx, hb, hml, hown, hts⟩ (c_X9_thrown l hro1 (r_st_self hz2)) (cwV 0 hts gL_law_X9_thrown rfl rfl rfl (by decide +kernel) ⟨Nat.le_of_ble_eq_true rfl, Nat.le_of_ble_eq_true rfl⟩) ⟨m_blind m_B_calling, m_recv hw (m_ent_10 hro1.1) rfl, fun U hU hW => ⟨rfl, m_wo_call hw hU hW⟩⟩ rfl rfl hl.1 rfl (lv_room (Nat.le_of_ble_eq_true rfl)) dL_law_531 ⟨lo_c (by omega), lo_s (by omega)⟩) hw (fun r_531 u_531 H locs hp_531 hw => ?_)
  obtain rfl : r_531 = (t_segment Z a1) := hp_531
  refine lv_iload hx hb dL_law_534 (lv_at hl 1 rfl) ?_
  refine lv_icmp_eq (tgt := 541) hx hb dL_law_536 (by decide) (fun _ => ?_) (fun cz => absurd rfl cz)
  have hK9 : W p l e room_1 s m #[Value.ref b] below meth c H locs (cells + 1 + 0 + 0) (slots + 6 + 0 + 0) Q (F0 m 558 ls []) := by
    refine lv_goto (tgt := 2020) hx hb dL_law_558 (by decide) ?_
    refine lv_iinc (v := (nI (5 * t)) + 5) (lv' := [(5, .int ((nI (5 * t)) + 5)), (7, .int r_525), (6, .int (t_segment Z a1)), (0, .ref b), (1, .ref x), (2, .ref o), (3, .ref ao), (4, .ref dd)]) hx hb dL_law_2020 hl (k := 7) rfl rfl (by decide) rfl (fun ls hl => ?_)
    refine lv_goto (tgt := 28) hx hb dL_law_2023 (by decide) ?_
    have hs2 := c_sim_ref hs1 hz2.2.2.1 hz2.2.2.2.1
    have hs3 := hs2
    have hf3 := (show w_f (Z, M).1 (Z, M).2 (t + 1) from w_same hf)
    rw [show nI (5 * t) + 5 = nI (5 * (t + 1)) from nI_add (5 * t) 5] at hl
    refine W.widen (k := cells + 600) (n := slots + 8300) (by omega) (by omega) ?_
    exact ih _ _ _ ⟨(K1, I_1, R1, F1, A_2, N1, L1, T1, J1, D1), cd, ad, _, _, _, hw, hs3, hro1, r_st_self hz2, hka1, hkd1, hf3, lv_sub hl [3, 4, 5, 6, 7, 0] rfl⟩
  refine lv_iload hx hb dL_law_541 (lv_at hl 1 rfl) ?_
  refine lv_if_ne (tgt := 558) hx hb dL_law_543 (by decide) (fun _ => hK9) (fun c9 => ?_)
  obtain rfl : r_525 = M 17 a1.toNatClampNeg := hv2 c9
  refine lv_aload_n hx hb dL_law_546 rfl (lv_at hl 5 rfl) ?_
  refine lv_iconst (v := 0) hx hb dL_law_547 (by decide) ?_
  refine m_laload_35 hx hb hw hka1.1 (h_in hka1.2) dL_law_548 ?_
  rw [show J1 ao (0 : Int32).toNatClampNeg = (M 17 a1.toNatClampNeg).toInt64 from hq1 c9]
  refine lv_iload hx hb dL_law_549 (lv_at hl 0 rfl) ?_
  refine lv_i2l (v := ((M 17 a1.toNatClampNeg)).toInt64) hx hb dL_law_551 rfl ?_
  refine lv_lcmp0 hx hb dL_law_552 ?_
  refine lv_if_eq (tgt := 558) hx hb dL_law_553 (by decide) (fun _ => ?_) (fun cz => absurd rfl cz)
  exact hK9
set_option maxHeartbeats 1600000 in
set_option maxRecDepth 100000 in
theorem lo_size {p : Program} {l : Launch} {e : Env} {s : State} {m : MethodId} {below : List Frame} {meth : Method} {c : Code} {H : Heap} {locs : List Loc} {ls : Array Slot} {cells slots : Nat} {Q : State → Prop} {G : mG} {K : Nat → Nat} {I : Nat → Nat → Int32} {R : Nat → Nat → Option Nat} {F : Nat → UInt32} {A : Nat → Nat → Int32} {N : Nat → Nat} {L : Nat → List Nat} {T : Nat → List Int32} {J : Nat → Nat → Int64} {D : Nat → Nat → UInt64} {b n : Nat} {xs : Nat → Int32} {x o ao dd t : Nat} {cd ad : Nat → Nat} {Z : mZ} {M : mM} {th : Int32} (C : lw_cx p l s m c b n xs G) (hfp : f_all) (hw : m_wo G K I R F A N L T J D s H locs) (hs : c_sim K I R N A L T x cd Z M) (hro : r_ok K R N o ad) (hz : r_st K o ad I A I A Z M th) (hka : K ao = 35 ∧ N ao = 1) (hkd : K dd = 36 ∧ N dd = 1) (hf : w_f Z M t) (ht : t < 512) (hin : 5 * t + 5 ≤ n) (hl : lv_has ls 10 [(0, .ref b), (1, .ref x), (2, .ref o), (3, .ref ao), (4, .ref dd), (5, .int (nI (5 * t)))]) (hc9 : cells + 600 ≤ 603072) (hs9 : slots + 8300 ≤ 7211114) (ih : ∀ (H : Heap) (locs : List Loc) (ls : Array Slot), lw_I G s b x o ao dd (t + 1) H locs ls → W p l e room_1 s m #[Value.ref b] below meth c H locs (cells + 600) (slots + 8300) Q (F0 m 28 ls [])) : W p l e room_1 s m #[Value.ref b] below meth c H locs cells slots Q (F0 m 561 ls []) := by
  obtain ⟨hx, hb, hml, hown, hts, hX, hbl, hbA, hnt, hcs, hn9⟩ := C
  have hni := hs.2.1.1
  have hn12 := hs.2.1.2.1
  have hnf := hs.2.2.1.1
  have hn120 := hs.2.2.1.2.1
  have hnsg := hs.2.2.2.2.1.1
  have hn20 := hs.2.2.2.2.1.2.1
  have hns := hs.2.2.2.2.2.1.1
  have hn5 := hs.2.2.2.2.2.1.2.1
  obtain ⟨nt, hnt9, h4t, hgt⟩ := u_gap hs
  have hw9 := u_shW hs
  have ht9 : t ≤ 512 := by omega
  obtain ⟨fpT, fpW, fpS, fpM, fp0⟩ := hfp
  obtain ⟨a1, ea1⟩ : ∃ z, z = xs (nI (5 * t) + 1).toNatClampNeg := ⟨_, rfl⟩
  refine lv_aload_n hx hb dL_law_561 rfl (lv_at hl 1 rfl) ?_
  refine lv_aload_n hx hb dL_law_562 rfl (lv_at hl 0 rfl) ?_
  refine lv_iload hx hb dL_law_563 (lv_at hl 5 rfl) ?_
  refine lv_iconst (v := 1) hx hb dL_law_565 (by decide) ?_
  refine lv_iadd hx hb dL_law_566 ?_
  refine va_sld hx hb hX hbl hbA hw.2.2.2.1 (show vp_in (nI (5 * t) + 1) n from lo_in (k := 1) hin hn9 (by decide)) dL_law_567 ?_
  rw [← ea1]
  refine lv_aload_n hx hb dL_law_568 rfl (lv_at hl 3 rfl) ?_
  refine m_ci (vx_runSW (As := [.ref x, .int a1, .ref ao]) (rest := []) ⟨hx, hb, hml, hown, hts⟩ (c_L_size l hnt hs hka.1 hka.2) (vx_cwSW 3 hts gL_law_L_size rfl rfl rfl (by decide +kernel) ⟨Nat.le_of_ble_eq_true rfl, Nat.le_of_ble_eq_true rfl⟩) ⟨m_blind (fun U g mk a h => ⟨m_B_calling U g mk a h.1, c_str_calling U g mk a h.2⟩), fun U hU hW => ⟨rfl, m_wo_call hw hU hW, c_str_warm hW hcs⟩⟩ rfl rfl hl.1 rfl (lv_room (Nat.le_of_ble_eq_true rfl)) dL_law_569 ⟨lo_c (by omega), lo_s (by omega)⟩) hw (fun r1 u1 H locs hp1 hw => ?_)
  obtain ⟨K1, I1, R1, F1, A1, N1, L1, T1, J1, D1⟩ := u1
  try dsimp only at hp1
  obtain ⟨rfl, hq1, hs1, hfr1⟩ := hp1
  have hw : m_wo G K1 I1 R1 F1 A1 N1 L1 T1 J1 D1 s H locs := hw
  have hs1 : c_sim K1 I1 R1 N1 A1 L1 T1 x cd (Z, M).1 (Z, M).2 := hs1
  have hfr1 : c_fr K I R N A K1 I1 R1 N1 A1 := hfr1
  have hro1 := r_ok_fr hro hfr1
  have hz1 := r_st_fr hro hz hfr1
  have hka1 : K1 ao = 35 ∧ N1 ao = 1 := ⟨(hfr1 ao (by rw [hka.1]; simp [c_oth])).1.trans hka.1, (hfr1 ao (by rw [hka.1]; simp [c_oth])).2.1.trans hka.2⟩
  have hkd1 : K1 dd = 36 ∧ N1 dd = 1 := ⟨(hfr1 dd (by rw [hkd.1]; simp [c_oth])).1.trans hkd.1, (hfr1 dd (by rw [hkd.1]; simp [c_oth])).2.1.trans hkd.2⟩
  refine lv_istore (lv' := [(6, .int (t_size Z M a1)), (0, .ref b), (1, .ref x), (2, .ref o), (3, .ref ao), (4, .ref dd), (5, .int (nI (5 * t)))]) hx hb dL_law_572 hl (by decide) rfl (fun ls hl => ?_)
  refine lv_aload_n hx hb dL_law_574 rfl (lv_at hl 3 rfl) ?_
  refine lv_aload_n hx hb dL_law_575 rfl (lv_at hl 1 rfl) ?_
  refine lv_iload hx hb dL_law_576 (lv_at hl 6 rfl) ?_
  refine lv_iconst (v := 1) hx hb dL_law_578 (by decide) ?_
  refine lv_iadd hx hb dL_law_579 ?_
  refine va_sld hx hb hX hbl hbA hw.2.2.2.1 (show vp_in (nI (5 * t) + 1) n from lo_in (k := 1) hin hn9 (by decide)) dL_law_580 ?_
  rw [← ea1]
  refine m_ci (va_runV (As := [.int a1]) (rest := []) ⟨hx, hb, hml, hown, hts⟩ (c_X9_size l a1 hro1 hz1 hnf hn120 hnsg hn20) (cwV 1 hts gL_law_X9_size rfl rfl rfl (by decide +kernel) ⟨Nat.le_of_ble_eq_true rfl, Nat.le_of_ble_eq_true rfl⟩) ⟨m_blind m_B_calling, m_recv hw (m_ent_10 hro1.1) rfl, fun U hU hW => ⟨rfl, m_wo_call hw hU hW⟩⟩ rfl rfl hl.1 rfl (lv_room (Nat.le_of_ble_eq_true rfl)) dL_law_581 ⟨lo_c (by omega), lo_s (by omega)⟩) hw (fun r_581 u_581 H locs hp_581 hw => ?_)
  obtain ⟨I_1, A_2⟩ := u_581
  have hw : m_wo G K1 I_1 R1 F1 A_2 N1 L1 T1 J1 D1 s H locs := hw
  dsimp only at hp_581
  obtain ⟨hz2, hv2⟩ := hp_581
  refine lv_istore (lv' := [(7, .int r_581), (6, .int (t_size Z M a1)), (0, .ref b), (1, .ref x), (2, .ref o), (3, .ref ao), (4, .ref dd), (5, .int (nI (5 * t)))]) hx hb dL_law_584 hl (by decide) rfl (fun ls hl => ?_)
  refine lv_aload_n hx hb dL_law_586 rfl (lv_at hl 4 rfl) ?_
  refine m_ci (va_runV (As := []) (rest := []) ⟨hx, hb, hml, hown, hts⟩ (c_X9_thrown l hro1 (r_st_self hz2)) (cwV 0 hts gL_law_X9_thrown rfl rfl rfl (by decide +kernel) ⟨Nat.le_of_ble_eq_true rfl, Nat.le_of_ble_eq_true rfl⟩) ⟨m_blind m_B_calling, m_recv hw (m_ent_10 hro1.1) rfl, fun U hU hW => ⟨rfl, m_wo_call hw hU hW⟩⟩ rfl rfl hl.1 rfl (lv_room (Nat.le_of_ble_eq_true rfl)) dL_law_587 ⟨lo_c (by omega), lo_s (by omega)⟩) hw (fun r_587 u_587 H locs hp_587 hw => ?_)
  obtain rfl : r_587 = (t_size Z M a1) := hp_587
  refine lv_iload hx hb dL_law_590 (lv_at hl 1 rfl) ?_
  refine lv_icmp_eq (tgt := 597) hx hb dL_law_592 (by decide) (fun _ => ?_) (fun cz => absurd rfl cz)
  have hK9 : W p l e room_1 s m #[Value.ref b] below meth c H locs (cells + 1 + 0 + 0) (slots + 6 + 0 + 0) Q (F0 m 614 ls []) := by
    refine lv_goto (tgt := 2020) hx hb dL_law_614 (by decide) ?_
    refine lv_iinc (v := (nI (5 * t)) + 5) (lv' := [(5, .int ((nI (5 * t)) + 5)), (7, .int r_581), (6, .int (t_size Z M a1)), (0, .ref b), (1, .ref x), (2, .ref o), (3, .ref ao), (4, .ref dd)]) hx hb dL_law_2020 hl (k := 7) rfl rfl (by decide) rfl (fun ls hl => ?_)
    refine lv_goto (tgt := 28) hx hb dL_law_2023 (by decide) ?_
    have hs2 := c_sim_ref hs1 hz2.2.2.1 hz2.2.2.2.1
    have hs3 := hs2
    have hf3 := (show w_f (Z, M).1 (Z, M).2 (t + 1) from w_same hf)
    rw [show nI (5 * t) + 5 = nI (5 * (t + 1)) from nI_add (5 * t) 5] at hl
    refine W.widen (k := cells + 600) (n := slots + 8300) (by omega) (by omega) ?_
    exact ih _ _ _ ⟨(K1, I_1, R1, F1, A_2, N1, L1, T1, J1, D1), cd, ad, _, _, _, hw, hs3, hro1, r_st_self hz2, hka1, hkd1, hf3, lv_sub hl [3, 4, 5, 6, 7, 0] rfl⟩
  refine lv_iload hx hb dL_law_597 (lv_at hl 1 rfl) ?_
  refine lv_if_ne (tgt := 614) hx hb dL_law_599 (by decide) (fun _ => hK9) (fun c9 => ?_)
  obtain rfl : r_581 = nI (o_size Z M a1) := hv2 c9
  refine lv_aload_n hx hb dL_law_602 rfl (lv_at hl 5 rfl) ?_
  refine lv_iconst (v := 0) hx hb dL_law_603 (by decide) ?_
  refine m_laload_35 hx hb hw hka1.1 (h_in hka1.2) dL_law_604 ?_
  rw [show J1 ao (0 : Int32).toNatClampNeg = (nI (o_size Z M a1)).toInt64 from hq1 c9]
  refine lv_iload hx hb dL_law_605 (lv_at hl 0 rfl) ?_
  refine lv_i2l (v := ((nI (o_size Z M a1))).toInt64) hx hb dL_law_607 rfl ?_
  refine lv_lcmp0 hx hb dL_law_608 ?_
  refine lv_if_eq (tgt := 614) hx hb dL_law_609 (by decide) (fun _ => ?_) (fun cz => absurd rfl cz)
  exact hK9
set_option maxHeartbeats 1600000 in
set_option maxRecDepth 100000 in
theorem lo_merge {p : Program} {l : Launch} {e : Env} {s : State} {m : MethodId} {below : List Frame} {meth : Method} {c : Code} {H : Heap} {locs : List Loc} {ls : Array Slot} {cells slots : Nat} {Q : State → Prop} {G : mG} {K : Nat → Nat} {I : Nat → Nat → Int32} {R : Nat → Nat → Option Nat} {F : Nat → UInt32} {A : Nat → Nat → Int32} {N : Nat → Nat} {L : Nat → List Nat} {T : Nat → List Int32} {J : Nat → Nat → Int64} {D : Nat → Nat → UInt64} {b n : Nat} {xs : Nat → Int32} {x o ao dd t : Nat} {cd ad : Nat → Nat} {Z : mZ} {M : mM} {th : Int32} (C : lw_cx p l s m c b n xs G) (hfp : f_all) (hw : m_wo G K I R F A N L T J D s H locs) (hs : c_sim K I R N A L T x cd Z M) (hro : r_ok K R N o ad) (hz : r_st K o ad I A I A Z M th) (hka : K ao = 35 ∧ N ao = 1) (hkd : K dd = 36 ∧ N dd = 1) (hf : w_f Z M t) (ht : t < 512) (hin : 5 * t + 5 ≤ n) (hl : lv_has ls 10 [(0, .ref b), (1, .ref x), (2, .ref o), (3, .ref ao), (4, .ref dd), (5, .int (nI (5 * t)))]) (hc9 : cells + 600 ≤ 603072) (hs9 : slots + 8300 ≤ 7211114) (ih : ∀ (H : Heap) (locs : List Loc) (ls : Array Slot), lw_I G s b x o ao dd (t + 1) H locs ls → W p l e room_1 s m #[Value.ref b] below meth c H locs (cells + 600) (slots + 8300) Q (F0 m 28 ls [])) : W p l e room_1 s m #[Value.ref b] below meth c H locs cells slots Q (F0 m 617 ls []) := by
  obtain ⟨hx, hb, hml, hown, hts, hX, hbl, hbA, hnt, hcs, hn9⟩ := C
  have hni := hs.2.1.1
  have hn12 := hs.2.1.2.1
  have hnf := hs.2.2.1.1
  have hn120 := hs.2.2.1.2.1
  have hnsg := hs.2.2.2.2.1.1
  have hn20 := hs.2.2.2.2.1.2.1
  have hns := hs.2.2.2.2.2.1.1
  have hn5 := hs.2.2.2.2.2.1.2.1
  obtain ⟨nt, hnt9, h4t, hgt⟩ := u_gap hs
  have hw9 := u_shW hs
  have ht9 : t ≤ 512 := by omega
  obtain ⟨fpT, fpW, fpS, fpM, fp0⟩ := hfp
  obtain ⟨a1, ea1⟩ : ∃ z, z = xs (nI (5 * t) + 1).toNatClampNeg := ⟨_, rfl⟩
  obtain ⟨a2, ea2⟩ : ∃ z, z = xs (nI (5 * t) + 2).toNatClampNeg := ⟨_, rfl⟩
  refine lv_aload_n hx hb dL_law_617 rfl (lv_at hl 1 rfl) ?_
  refine lv_aload_n hx hb dL_law_618 rfl (lv_at hl 0 rfl) ?_
  refine lv_iload hx hb dL_law_619 (lv_at hl 5 rfl) ?_
  refine lv_iconst (v := 1) hx hb dL_law_621 (by decide) ?_
  refine lv_iadd hx hb dL_law_622 ?_
  refine va_sld hx hb hX hbl hbA hw.2.2.2.1 (show vp_in (nI (5 * t) + 1) n from lo_in (k := 1) hin hn9 (by decide)) dL_law_623 ?_
  rw [← ea1]
  refine lv_aload_n hx hb dL_law_624 rfl (lv_at hl 0 rfl) ?_
  refine lv_iload hx hb dL_law_625 (lv_at hl 5 rfl) ?_
  refine lv_iconst (v := 2) hx hb dL_law_627 (by decide) ?_
  refine lv_iadd hx hb dL_law_628 ?_
  refine va_sld hx hb hX hbl hbA hw.2.2.2.1 (show vp_in (nI (5 * t) + 2) n from lo_in (k := 2) hin hn9 (by decide)) dL_law_629 ?_
  rw [← ea2]
  refine lv_aload_n hx hb dL_law_630 rfl (lv_at hl 3 rfl) ?_
  refine m_ci (vx_runSW (As := [.ref x, .int a1, .int a2, .ref ao]) (rest := []) ⟨hx, hb, hml, hown, hts⟩ (c_L_merge l hnt hs (u_h4 hf ht9) hka.1 hka.2) (vx_cwSW 4 hts gL_law_L_merge rfl rfl rfl (by decide +kernel) ⟨Nat.le_of_ble_eq_true rfl, Nat.le_of_ble_eq_true rfl⟩) ⟨m_blind (fun U g mk a h => ⟨m_B_calling U g mk a h.1, c_str_calling U g mk a h.2⟩), fun U hU hW => ⟨rfl, m_wo_call hw hU hW, c_str_warm hW hcs⟩⟩ rfl rfl hl.1 rfl (lv_room (Nat.le_of_ble_eq_true rfl)) dL_law_631 ⟨lo_c (by omega), lo_s (by omega)⟩) hw (fun r1 u1 H locs hp1 hw => ?_)
  obtain ⟨K1, I1, R1, F1, A1, N1, L1, T1, J1, D1⟩ := u1
  try dsimp only at hp1
  obtain ⟨rfl, hq1, hs1, hfr1⟩ := hp1
  have hw : m_wo G K1 I1 R1 F1 A1 N1 L1 T1 J1 D1 s H locs := hw
  have hs1 : c_sim K1 I1 R1 N1 A1 L1 T1 x cd (p_merge (Z, M) a1 a2).1 (p_merge (Z, M) a1 a2).2 := hs1
  have hfr1 : c_fr K I R N A K1 I1 R1 N1 A1 := hfr1
  have hro1 := r_ok_fr hro hfr1
  have hz1 := r_st_fr hro hz hfr1
  have hka1 : K1 ao = 35 ∧ N1 ao = 1 := ⟨(hfr1 ao (by rw [hka.1]; simp [c_oth])).1.trans hka.1, (hfr1 ao (by rw [hka.1]; simp [c_oth])).2.1.trans hka.2⟩
  have hkd1 : K1 dd = 36 ∧ N1 dd = 1 := ⟨(hfr1 dd (by rw [hkd.1]; simp [c_oth])).1.trans hkd.1, (hfr1 dd (by rw [hkd.1]; simp [c_oth])).2.1.trans hkd.2⟩
  refine lv_istore (lv' := [(6, .int (t_merge Z M a1 a2)), (0, .ref b), (1, .ref x), (2, .ref o), (3, .ref ao), (4, .ref dd), (5, .int (nI (5 * t)))]) hx hb dL_law_634 hl (by decide) rfl (fun ls hl => ?_)
  refine lv_aload_n hx hb dL_law_636 rfl (lv_at hl 3 rfl) ?_
  refine lv_aload_n hx hb dL_law_637 rfl (lv_at hl 1 rfl) ?_
  refine lv_iload hx hb dL_law_638 (lv_at hl 6 rfl) ?_
  refine lv_iconst (v := 1) hx hb dL_law_640 (by decide) ?_
  refine lv_iadd hx hb dL_law_641 ?_
  refine va_sld hx hb hX hbl hbA hw.2.2.2.1 (show vp_in (nI (5 * t) + 1) n from lo_in (k := 1) hin hn9 (by decide)) dL_law_642 ?_
  rw [← ea1]
  refine lv_aload_n hx hb dL_law_643 rfl (lv_at hl 1 rfl) ?_
  refine lv_iload hx hb dL_law_644 (lv_at hl 6 rfl) ?_
  refine lv_iconst (v := 2) hx hb dL_law_646 (by decide) ?_
  refine lv_iadd hx hb dL_law_647 ?_
  refine va_sld hx hb hX hbl hbA hw.2.2.2.1 (show vp_in (nI (5 * t) + 2) n from lo_in (k := 2) hin hn9 (by decide)) dL_law_648 ?_
  rw [← ea2]
  refine m_ci (va_runV (As := [.int a1, .int a2]) (rest := []) ⟨hx, hb, hml, hown, hts⟩ (c_X9_merge l a1 a2 hro1 hz1 hnf hn120 hnsg hn20) (cwV 2 hts gL_law_X9_merge rfl rfl rfl (by decide +kernel) ⟨Nat.le_of_ble_eq_true rfl, Nat.le_of_ble_eq_true rfl⟩) ⟨m_blind m_B_calling, m_recv hw (m_ent_10 hro1.1) rfl, fun U hU hW => ⟨rfl, m_wo_call hw hU hW⟩⟩ rfl rfl hl.1 rfl (lv_room (Nat.le_of_ble_eq_true rfl)) dL_law_649 ⟨lo_c (by omega), lo_s (by omega)⟩) hw (fun r_649 u_649 H locs hp_649 hw => ?_)
  obtain ⟨I_1, A_2⟩ := u_649
  have hw : m_wo G K1 I_1 R1 F1 A_2 N1 L1 T1 J1 D1 s H locs := hw
  dsimp only at hp_649
  obtain ⟨hz2, hv2⟩ := hp_649
  refine lv_istore (lv' := [(7, .int r_649), (6, .int (t_merge Z M a1 a2)), (0, .ref b), (1, .ref x), (2, .ref o), (3, .ref ao), (4, .ref dd), (5, .int (nI (5 * t)))]) hx hb dL_law_652 hl (by decide) rfl (fun ls hl => ?_)
  refine lv_aload_n hx hb dL_law_654 rfl (lv_at hl 4 rfl) ?_
  refine m_ci (va_runV (As := []) (rest := []) ⟨hx, hb, hml, hown, hts⟩ (c_X9_thrown l hro1 (r_st_self hz2)) (cwV 0 hts gL_law_X9_thrown rfl rfl rfl (by decide +kernel) ⟨Nat.le_of_ble_eq_true rfl, Nat.le_of_ble_eq_true rfl⟩) ⟨m_blind m_B_calling, m_recv hw (m_ent_10 hro1.1) rfl, fun U hU hW => ⟨rfl, m_wo_call hw hU hW⟩⟩ rfl rfl hl.1 rfl (lv_room (Nat.le_of_ble_eq_true rfl)) dL_law_655 ⟨lo_c (by omega), lo_s (by omega)⟩) hw (fun r_655 u_655 H locs hp_655 hw => ?_)
  obtain rfl : r_655 = (t_merge Z M a1 a2) := hp_655
  refine lv_iload hx hb dL_law_658 (lv_at hl 1 rfl) ?_
  refine lv_icmp_eq (tgt := 665) hx hb dL_law_660 (by decide) (fun _ => ?_) (fun cz => absurd rfl cz)
  have hK9 : W p l e room_1 s m #[Value.ref b] below meth c H locs (cells + 134 + 0 + 0) (slots + 1124 + 0 + 0) Q (F0 m 682 ls []) := by
    refine lv_goto (tgt := 2020) hx hb dL_law_682 (by decide) ?_
    refine lv_iinc (v := (nI (5 * t)) + 5) (lv' := [(5, .int ((nI (5 * t)) + 5)), (7, .int r_649), (6, .int (t_merge Z M a1 a2)), (0, .ref b), (1, .ref x), (2, .ref o), (3, .ref ao), (4, .ref dd)]) hx hb dL_law_2020 hl (k := 7) rfl rfl (by decide) rfl (fun ls hl => ?_)
    refine lv_goto (tgt := 28) hx hb dL_law_2023 (by decide) ?_
    have hs2 := c_sim_ref hs1 hz2.2.2.1 hz2.2.2.2.1
    have hs3 := hs2
    have hf3 := (show w_f (p_merge (Z, M) a1 a2).1 (p_merge (Z, M) a1 a2).2 (t + 1) from w_merge hf ht9)
    rw [show nI (5 * t) + 5 = nI (5 * (t + 1)) from nI_add (5 * t) 5] at hl
    refine W.widen (k := cells + 600) (n := slots + 8300) (by omega) (by omega) ?_
    exact ih _ _ _ ⟨(K1, I_1, R1, F1, A_2, N1, L1, T1, J1, D1), cd, ad, _, _, _, hw, hs3, hro1, r_st_self hz2, hka1, hkd1, hf3, lv_sub hl [3, 4, 5, 6, 7, 0] rfl⟩
  refine lv_iload hx hb dL_law_665 (lv_at hl 1 rfl) ?_
  refine lv_if_ne (tgt := 682) hx hb dL_law_667 (by decide) (fun _ => hK9) (fun c9 => ?_)
  obtain rfl : r_649 = Z 4 := hv2 c9
  refine lv_aload_n hx hb dL_law_670 rfl (lv_at hl 5 rfl) ?_
  refine lv_iconst (v := 0) hx hb dL_law_671 (by decide) ?_
  refine m_laload_35 hx hb hw hka1.1 (h_in hka1.2) dL_law_672 ?_
  rw [show J1 ao (0 : Int32).toNatClampNeg = (Z 4).toInt64 from hq1 c9]
  refine lv_iload hx hb dL_law_673 (lv_at hl 0 rfl) ?_
  refine lv_i2l (v := ((Z 4)).toInt64) hx hb dL_law_675 rfl ?_
  refine lv_lcmp0 hx hb dL_law_676 ?_
  refine lv_if_eq (tgt := 682) hx hb dL_law_677 (by decide) (fun _ => ?_) (fun cz => absurd rfl cz)
  exact hK9
set_option maxHeartbeats 1600000 in
set_option maxRecDepth 100000 in
theorem lo_storm {p : Program} {l : Launch} {e : Env} {s : State} {m : MethodId} {below : List Frame} {meth : Method} {c : Code} {H : Heap} {locs : List Loc} {ls : Array Slot} {cells slots : Nat} {Q : State → Prop} {G : mG} {K : Nat → Nat} {I : Nat → Nat → Int32} {R : Nat → Nat → Option Nat} {F : Nat → UInt32} {A : Nat → Nat → Int32} {N : Nat → Nat} {L : Nat → List Nat} {T : Nat → List Int32} {J : Nat → Nat → Int64} {D : Nat → Nat → UInt64} {b n : Nat} {xs : Nat → Int32} {x o ao dd t : Nat} {cd ad : Nat → Nat} {Z : mZ} {M : mM} {th : Int32} (C : lw_cx p l s m c b n xs G) (hfp : f_all) (hw : m_wo G K I R F A N L T J D s H locs) (hs : c_sim K I R N A L T x cd Z M) (hro : r_ok K R N o ad) (hz : r_st K o ad I A I A Z M th) (hka : K ao = 35 ∧ N ao = 1) (hkd : K dd = 36 ∧ N dd = 1) (hf : w_f Z M t) (ht : t < 512) (hin : 5 * t + 5 ≤ n) (hl : lv_has ls 10 [(0, .ref b), (1, .ref x), (2, .ref o), (3, .ref ao), (4, .ref dd), (5, .int (nI (5 * t)))]) (hc9 : cells + 600 ≤ 603072) (hs9 : slots + 8300 ≤ 7211114) (ih : ∀ (H : Heap) (locs : List Loc) (ls : Array Slot), lw_I G s b x o ao dd (t + 1) H locs ls → W p l e room_1 s m #[Value.ref b] below meth c H locs (cells + 600) (slots + 8300) Q (F0 m 28 ls [])) : W p l e room_1 s m #[Value.ref b] below meth c H locs cells slots Q (F0 m 685 ls []) := by
  obtain ⟨hx, hb, hml, hown, hts, hX, hbl, hbA, hnt, hcs, hn9⟩ := C
  have hni := hs.2.1.1
  have hn12 := hs.2.1.2.1
  have hnf := hs.2.2.1.1
  have hn120 := hs.2.2.1.2.1
  have hnsg := hs.2.2.2.2.1.1
  have hn20 := hs.2.2.2.2.1.2.1
  have hns := hs.2.2.2.2.2.1.1
  have hn5 := hs.2.2.2.2.2.1.2.1
  obtain ⟨nt, hnt9, h4t, hgt⟩ := u_gap hs
  have hw9 := u_shW hs
  have ht9 : t ≤ 512 := by omega
  obtain ⟨fpT, fpW, fpS, fpM, fp0⟩ := hfp
  obtain ⟨a1, ea1⟩ : ∃ z, z = xs (nI (5 * t) + 1).toNatClampNeg := ⟨_, rfl⟩
  refine lv_aload_n hx hb dL_law_685 rfl (lv_at hl 1 rfl) ?_
  refine lv_aload_n hx hb dL_law_686 rfl (lv_at hl 0 rfl) ?_
  refine lv_iload hx hb dL_law_687 (lv_at hl 5 rfl) ?_
  refine lv_iconst (v := 1) hx hb dL_law_689 (by decide) ?_
  refine lv_iadd hx hb dL_law_690 ?_
  refine va_sld hx hb hX hbl hbA hw.2.2.2.1 (show vp_in (nI (5 * t) + 1) n from lo_in (k := 1) hin hn9 (by decide)) dL_law_691 ?_
  rw [← ea1]
  refine lv_aload_n hx hb dL_law_692 rfl (lv_at hl 3 rfl) ?_
  refine m_ci (vx_runSW (As := [.ref x, .int a1, .ref ao]) (rest := []) ⟨hx, hb, hml, hown, hts⟩ (c_L_storm l hnt hs hka.1 hka.2) (vx_cwSW 3 hts gL_law_L_storm rfl rfl rfl (by decide +kernel) ⟨Nat.le_of_ble_eq_true rfl, Nat.le_of_ble_eq_true rfl⟩) ⟨m_blind (fun U g mk a h => ⟨m_B_calling U g mk a h.1, c_str_calling U g mk a h.2⟩), fun U hU hW => ⟨rfl, m_wo_call hw hU hW, c_str_warm hW hcs⟩⟩ rfl rfl hl.1 rfl (lv_room (Nat.le_of_ble_eq_true rfl)) dL_law_693 ⟨lo_c (by omega), lo_s (by omega)⟩) hw (fun r1 u1 H locs hp1 hw => ?_)
  obtain ⟨K1, I1, R1, F1, A1, N1, L1, T1, J1, D1⟩ := u1
  try dsimp only at hp1
  obtain ⟨rfl, hq1, hs1, hfr1⟩ := hp1
  have hw : m_wo G K1 I1 R1 F1 A1 N1 L1 T1 J1 D1 s H locs := hw
  have hs1 : c_sim K1 I1 R1 N1 A1 L1 T1 x cd (if t_storm Z M a1 = 0 then p_storm (Z, M) a1 else (Z, M)).1 (if t_storm Z M a1 = 0 then p_storm (Z, M) a1 else (Z, M)).2 := hs1
  have hfr1 : c_fr K I R N A K1 I1 R1 N1 A1 := hfr1
  have hro1 := r_ok_fr hro hfr1
  have hz1 := r_st_fr hro hz hfr1
  have hka1 : K1 ao = 35 ∧ N1 ao = 1 := ⟨(hfr1 ao (by rw [hka.1]; simp [c_oth])).1.trans hka.1, (hfr1 ao (by rw [hka.1]; simp [c_oth])).2.1.trans hka.2⟩
  have hkd1 : K1 dd = 36 ∧ N1 dd = 1 := ⟨(hfr1 dd (by rw [hkd.1]; simp [c_oth])).1.trans hkd.1, (hfr1 dd (by rw [hkd.1]; simp [c_oth])).2.1.trans hkd.2⟩
  refine lv_istore (lv' := [(6, .int (t_storm Z M a1)), (0, .ref b), (1, .ref x), (2, .ref o), (3, .ref ao), (4, .ref dd), (5, .int (nI (5 * t)))]) hx hb dL_law_696 hl (by decide) rfl (fun ls hl => ?_)
  refine lv_aload_n hx hb dL_law_698 rfl (lv_at hl 3 rfl) ?_
  refine lv_aload_n hx hb dL_law_699 rfl (lv_at hl 1 rfl) ?_
  refine lv_iload hx hb dL_law_700 (lv_at hl 6 rfl) ?_
  refine lv_iconst (v := 1) hx hb dL_law_702 (by decide) ?_
  refine lv_iadd hx hb dL_law_703 ?_
  refine va_sld hx hb hX hbl hbA hw.2.2.2.1 (show vp_in (nI (5 * t) + 1) n from lo_in (k := 1) hin hn9 (by decide)) dL_law_704 ?_
  rw [← ea1]
  refine m_ci (va_runV (As := [.int a1]) (rest := []) ⟨hx, hb, hml, hown, hts⟩ (c_X9_storm l a1 hro1 hz1 hnf hn120 hnsg hn20) (cwV 1 hts gL_law_X9_storm rfl rfl rfl (by decide +kernel) ⟨Nat.le_of_ble_eq_true rfl, Nat.le_of_ble_eq_true rfl⟩) ⟨m_blind m_B_calling, m_recv hw (m_ent_10 hro1.1) rfl, fun U hU hW => ⟨rfl, m_wo_call hw hU hW⟩⟩ rfl rfl hl.1 rfl (lv_room (Nat.le_of_ble_eq_true rfl)) dL_law_705 ⟨lo_c (by omega), lo_s (by omega)⟩) hw (fun r_705 u_705 H locs hp_705 hw => ?_)
  obtain ⟨I_1, A_2⟩ := u_705
  have hw : m_wo G K1 I_1 R1 F1 A_2 N1 L1 T1 J1 D1 s H locs := hw
  dsimp only at hp_705
  obtain ⟨hz2, hv2⟩ := hp_705
  refine lv_istore (lv' := [(7, .int r_705), (6, .int (t_storm Z M a1)), (0, .ref b), (1, .ref x), (2, .ref o), (3, .ref ao), (4, .ref dd), (5, .int (nI (5 * t)))]) hx hb dL_law_708 hl (by decide) rfl (fun ls hl => ?_)
  refine lv_aload_n hx hb dL_law_710 rfl (lv_at hl 4 rfl) ?_
  refine m_ci (va_runV (As := []) (rest := []) ⟨hx, hb, hml, hown, hts⟩ (c_X9_thrown l hro1 (r_st_self hz2)) (cwV 0 hts gL_law_X9_thrown rfl rfl rfl (by decide +kernel) ⟨Nat.le_of_ble_eq_true rfl, Nat.le_of_ble_eq_true rfl⟩) ⟨m_blind m_B_calling, m_recv hw (m_ent_10 hro1.1) rfl, fun U hU hW => ⟨rfl, m_wo_call hw hU hW⟩⟩ rfl rfl hl.1 rfl (lv_room (Nat.le_of_ble_eq_true rfl)) dL_law_711 ⟨lo_c (by omega), lo_s (by omega)⟩) hw (fun r_711 u_711 H locs hp_711 hw => ?_)
  obtain rfl : r_711 = (t_storm Z M a1) := hp_711
  refine lv_iload hx hb dL_law_714 (lv_at hl 1 rfl) ?_
  refine lv_icmp_eq (tgt := 721) hx hb dL_law_716 (by decide) (fun _ => ?_) (fun cz => absurd rfl cz)
  have hK9 : W p l e room_1 s m #[Value.ref b] below meth c H locs (cells + 2 + 0 + 0) (slots + 12 + 0 + 0) Q (F0 m 738 ls []) := by
    refine lv_goto (tgt := 2020) hx hb dL_law_738 (by decide) ?_
    refine lv_iinc (v := (nI (5 * t)) + 5) (lv' := [(5, .int ((nI (5 * t)) + 5)), (7, .int r_705), (6, .int (t_storm Z M a1)), (0, .ref b), (1, .ref x), (2, .ref o), (3, .ref ao), (4, .ref dd)]) hx hb dL_law_2020 hl (k := 7) rfl rfl (by decide) rfl (fun ls hl => ?_)
    refine lv_goto (tgt := 28) hx hb dL_law_2023 (by decide) ?_
    have hs2 := c_sim_ref hs1 hz2.2.2.1 hz2.2.2.2.1
    have hs3 := hs2
    have hf3 := (show w_f (if t_storm Z M a1 = 0 then p_storm (Z, M) a1 else (Z, M)).1 (if t_storm Z M a1 = 0 then p_storm (Z, M) a1 else (Z, M)).2 (t + 1) from w_ite hf (fun z => w_Storm hf z))
    rw [show nI (5 * t) + 5 = nI (5 * (t + 1)) from nI_add (5 * t) 5] at hl
    refine W.widen (k := cells + 600) (n := slots + 8300) (by omega) (by omega) ?_
    exact ih _ _ _ ⟨(K1, I_1, R1, F1, A_2, N1, L1, T1, J1, D1), cd, ad, _, _, _, hw, hs3, hro1, r_st_self hz2, hka1, hkd1, hf3, lv_sub hl [3, 4, 5, 6, 7, 0] rfl⟩
  refine lv_iload hx hb dL_law_721 (lv_at hl 1 rfl) ?_
  refine lv_if_ne (tgt := 738) hx hb dL_law_723 (by decide) (fun _ => hK9) (fun c9 => ?_)
  obtain rfl : r_705 = nI (o_lost (p_storm (Z, M) a1).1 (p_storm (Z, M) a1).2) := hv2 c9
  refine lv_aload_n hx hb dL_law_726 rfl (lv_at hl 5 rfl) ?_
  refine lv_iconst (v := 0) hx hb dL_law_727 (by decide) ?_
  refine m_laload_35 hx hb hw hka1.1 (h_in hka1.2) dL_law_728 ?_
  rw [show J1 ao (0 : Int32).toNatClampNeg = (nI (o_lost (p_storm (Z, M) a1).1 (p_storm (Z, M) a1).2)).toInt64 from hq1 c9]
  refine lv_iload hx hb dL_law_729 (lv_at hl 0 rfl) ?_
  refine lv_i2l (v := ((nI (o_lost (p_storm (Z, M) a1).1 (p_storm (Z, M) a1).2))).toInt64) hx hb dL_law_731 rfl ?_
  refine lv_lcmp0 hx hb dL_law_732 ?_
  refine lv_if_eq (tgt := 738) hx hb dL_law_733 (by decide) (fun _ => ?_) (fun cz => absurd rfl cz)
  exact hK9
set_option maxHeartbeats 1600000 in
set_option maxRecDepth 100000 in
theorem lo_rebuild {p : Program} {l : Launch} {e : Env} {s : State} {m : MethodId} {below : List Frame} {meth : Method} {c : Code} {H : Heap} {locs : List Loc} {ls : Array Slot} {cells slots : Nat} {Q : State → Prop} {G : mG} {K : Nat → Nat} {I : Nat → Nat → Int32} {R : Nat → Nat → Option Nat} {F : Nat → UInt32} {A : Nat → Nat → Int32} {N : Nat → Nat} {L : Nat → List Nat} {T : Nat → List Int32} {J : Nat → Nat → Int64} {D : Nat → Nat → UInt64} {b n : Nat} {xs : Nat → Int32} {x o ao dd t : Nat} {cd ad : Nat → Nat} {Z : mZ} {M : mM} {th : Int32} (C : lw_cx p l s m c b n xs G) (hfp : f_all) (hw : m_wo G K I R F A N L T J D s H locs) (hs : c_sim K I R N A L T x cd Z M) (hro : r_ok K R N o ad) (hz : r_st K o ad I A I A Z M th) (hka : K ao = 35 ∧ N ao = 1) (hkd : K dd = 36 ∧ N dd = 1) (hf : w_f Z M t) (ht : t < 512) (hin : 5 * t + 5 ≤ n) (hl : lv_has ls 10 [(0, .ref b), (1, .ref x), (2, .ref o), (3, .ref ao), (4, .ref dd), (5, .int (nI (5 * t)))]) (hc9 : cells + 600 ≤ 603072) (hs9 : slots + 8300 ≤ 7211114) (ih : ∀ (H : Heap) (locs : List Loc) (ls : Array Slot), lw_I G s b x o ao dd (t + 1) H locs ls → W p l e room_1 s m #[Value.ref b] below meth c H locs (cells + 600) (slots + 8300) Q (F0 m 28 ls [])) : W p l e room_1 s m #[Value.ref b] below meth c H locs cells slots Q (F0 m 741 ls []) := by
  obtain ⟨hx, hb, hml, hown, hts, hX, hbl, hbA, hnt, hcs, hn9⟩ := C
  have hni := hs.2.1.1
  have hn12 := hs.2.1.2.1
  have hnf := hs.2.2.1.1
  have hn120 := hs.2.2.1.2.1
  have hnsg := hs.2.2.2.2.1.1
  have hn20 := hs.2.2.2.2.1.2.1
  have hns := hs.2.2.2.2.2.1.1
  have hn5 := hs.2.2.2.2.2.1.2.1
  obtain ⟨nt, hnt9, h4t, hgt⟩ := u_gap hs
  have hw9 := u_shW hs
  have ht9 : t ≤ 512 := by omega
  obtain ⟨fpT, fpW, fpS, fpM, fp0⟩ := hfp
  obtain ⟨wm, hz4, hm4, hseg⟩ := hf.2.2.2.2.2.2.2.1
  have hm9 : wm + 121 < 2 ^ 30 := by omega
  refine lv_aload_n hx hb dL_law_741 rfl (lv_at hl 1 rfl) ?_
  refine lv_aload_n hx hb dL_law_742 rfl (lv_at hl 3 rfl) ?_
  refine m_ci (vx_runSW (As := [.ref x, .ref ao]) (rest := []) ⟨hx, hb, hml, hown, hts⟩ (c_L_rebuild l hnt hs (u_rb9 hz4 hm9 hseg hnf hn120) (u_more hz4 hm9 hseg hnf hn120 hnsg hn20) (u_rb4 hz4 hm9 hseg hnf hn120) hka.1 hka.2) (vx_cwSW 2 hts gL_law_L_rebuild rfl rfl rfl (by decide +kernel) ⟨Nat.le_of_ble_eq_true rfl, Nat.le_of_ble_eq_true rfl⟩) ⟨m_blind (fun U g mk a h => ⟨m_B_calling U g mk a h.1, c_str_calling U g mk a h.2⟩), fun U hU hW => ⟨rfl, m_wo_call hw hU hW, c_str_warm hW hcs⟩⟩ rfl rfl hl.1 rfl (lv_room (Nat.le_of_ble_eq_true rfl)) dL_law_743 ⟨lo_c (by omega), lo_s (by omega)⟩) hw (fun r1 u1 H locs hp1 hw => ?_)
  obtain ⟨K1, I1, R1, F1, A1, N1, L1, T1, J1, D1⟩ := u1
  try dsimp only at hp1
  obtain ⟨rfl, hq1, hs1, hfr1⟩ := hp1
  have hw : m_wo G K1 I1 R1 F1 A1 N1 L1 T1 J1 D1 s H locs := hw
  have hs1 : c_sim K1 I1 R1 N1 A1 L1 T1 x cd (p_rebuild (Z, M)).1 (p_rebuild (Z, M)).2 := hs1
  have hfr1 : c_fr K I R N A K1 I1 R1 N1 A1 := hfr1
  have hro1 := r_ok_fr hro hfr1
  have hz1 := r_st_fr hro hz hfr1
  have hka1 : K1 ao = 35 ∧ N1 ao = 1 := ⟨(hfr1 ao (by rw [hka.1]; simp [c_oth])).1.trans hka.1, (hfr1 ao (by rw [hka.1]; simp [c_oth])).2.1.trans hka.2⟩
  have hkd1 : K1 dd = 36 ∧ N1 dd = 1 := ⟨(hfr1 dd (by rw [hkd.1]; simp [c_oth])).1.trans hkd.1, (hfr1 dd (by rw [hkd.1]; simp [c_oth])).2.1.trans hkd.2⟩
  refine lv_istore (lv' := [(6, .int (t_rebuild Z M)), (0, .ref b), (1, .ref x), (2, .ref o), (3, .ref ao), (4, .ref dd), (5, .int (nI (5 * t)))]) hx hb dL_law_746 hl (by decide) rfl (fun ls hl => ?_)
  refine lv_aload_n hx hb dL_law_748 rfl (lv_at hl 3 rfl) ?_
  refine m_ci (va_runV (As := []) (rest := []) ⟨hx, hb, hml, hown, hts⟩ (c_X9_rebuild l hro1 hz1 hnf hn120 (u_more hz4 hm9 hseg hnf hn120 hnsg hn20)) (cwV 0 hts gL_law_X9_rebuild rfl rfl rfl (by decide +kernel) ⟨Nat.le_of_ble_eq_true rfl, Nat.le_of_ble_eq_true rfl⟩) ⟨m_blind m_B_calling, m_recv hw (m_ent_10 hro1.1) rfl, fun U hU hW => ⟨rfl, m_wo_call hw hU hW⟩⟩ rfl rfl hl.1 rfl (lv_room (Nat.le_of_ble_eq_true rfl)) dL_law_749 ⟨lo_c (by omega), lo_s (by omega)⟩) hw (fun r_749 u_749 H locs hp_749 hw => ?_)
  obtain ⟨I_1, A_2⟩ := u_749
  have hw : m_wo G K1 I_1 R1 F1 A_2 N1 L1 T1 J1 D1 s H locs := hw
  dsimp only at hp_749
  obtain ⟨hz2, hv8⟩ := hp_749
  have hv2 : (t_rebuild Z M) = 0 → r_749 = nI (o_lost Z M) := fun z => hv8.trans (if_pos z)
  refine lv_istore (lv' := [(7, .int r_749), (6, .int (t_rebuild Z M)), (0, .ref b), (1, .ref x), (2, .ref o), (3, .ref ao), (4, .ref dd), (5, .int (nI (5 * t)))]) hx hb dL_law_752 hl (by decide) rfl (fun ls hl => ?_)
  refine lv_aload_n hx hb dL_law_754 rfl (lv_at hl 4 rfl) ?_
  refine m_ci (va_runV (As := []) (rest := []) ⟨hx, hb, hml, hown, hts⟩ (c_X9_thrown l hro1 (r_st_self hz2)) (cwV 0 hts gL_law_X9_thrown rfl rfl rfl (by decide +kernel) ⟨Nat.le_of_ble_eq_true rfl, Nat.le_of_ble_eq_true rfl⟩) ⟨m_blind m_B_calling, m_recv hw (m_ent_10 hro1.1) rfl, fun U hU hW => ⟨rfl, m_wo_call hw hU hW⟩⟩ rfl rfl hl.1 rfl (lv_room (Nat.le_of_ble_eq_true rfl)) dL_law_755 ⟨lo_c (by omega), lo_s (by omega)⟩) hw (fun r_755 u_755 H locs hp_755 hw => ?_)
  obtain rfl : r_755 = (t_rebuild Z M) := hp_755
  refine lv_iload hx hb dL_law_758 (lv_at hl 1 rfl) ?_
  refine lv_icmp_eq (tgt := 765) hx hb dL_law_760 (by decide) (fun _ => ?_) (fun cz => absurd rfl cz)
  have hK9 : W p l e room_1 s m #[Value.ref b] below meth c H locs (cells + 600 + 0 + 0) (slots + 8300 + 0 + 0) Q (F0 m 782 ls []) := by
    refine lv_goto (tgt := 2020) hx hb dL_law_782 (by decide) ?_
    refine lv_iinc (v := (nI (5 * t)) + 5) (lv' := [(5, .int ((nI (5 * t)) + 5)), (7, .int r_749), (6, .int (t_rebuild Z M)), (0, .ref b), (1, .ref x), (2, .ref o), (3, .ref ao), (4, .ref dd)]) hx hb dL_law_2020 hl (k := 7) rfl rfl (by decide) rfl (fun ls hl => ?_)
    refine lv_goto (tgt := 28) hx hb dL_law_2023 (by decide) ?_
    have hs2 := c_sim_ref hs1 hz2.2.2.1 hz2.2.2.2.1
    have hs3 := hs2
    have hf3 := (show w_f (p_rebuild (Z, M)).1 (p_rebuild (Z, M)).2 (t + 1) from w_rebuild hf ht9 hnf hn120)
    rw [show nI (5 * t) + 5 = nI (5 * (t + 1)) from nI_add (5 * t) 5] at hl
    refine W.widen (k := cells + 600) (n := slots + 8300) (by omega) (by omega) ?_
    exact ih _ _ _ ⟨(K1, I_1, R1, F1, A_2, N1, L1, T1, J1, D1), cd, ad, _, _, _, hw, hs3, hro1, r_st_self hz2, hka1, hkd1, hf3, lv_sub hl [3, 4, 5, 6, 7, 0] rfl⟩
  refine lv_iload hx hb dL_law_765 (lv_at hl 1 rfl) ?_
  refine lv_if_ne (tgt := 782) hx hb dL_law_767 (by decide) (fun _ => hK9) (fun c9 => ?_)
  obtain rfl : r_749 = nI (o_lost Z M) := hv2 c9
  refine lv_aload_n hx hb dL_law_770 rfl (lv_at hl 5 rfl) ?_
  refine lv_iconst (v := 0) hx hb dL_law_771 (by decide) ?_
  refine m_laload_35 hx hb hw hka1.1 (h_in hka1.2) dL_law_772 ?_
  rw [show J1 ao (0 : Int32).toNatClampNeg = (nI (o_lost Z M)).toInt64 from hq1 c9]
  refine lv_iload hx hb dL_law_773 (lv_at hl 0 rfl) ?_
  refine lv_i2l (v := ((nI (o_lost Z M))).toInt64) hx hb dL_law_775 rfl ?_
  refine lv_lcmp0 hx hb dL_law_776 ?_
  refine lv_if_eq (tgt := 782) hx hb dL_law_777 (by decide) (fun _ => ?_) (fun cz => absurd rfl cz)
  exact hK9
set_option maxHeartbeats 1600000 in
set_option maxRecDepth 100000 in
theorem lo_segmentOf {p : Program} {l : Launch} {e : Env} {s : State} {m : MethodId} {below : List Frame} {meth : Method} {c : Code} {H : Heap} {locs : List Loc} {ls : Array Slot} {cells slots : Nat} {Q : State → Prop} {G : mG} {K : Nat → Nat} {I : Nat → Nat → Int32} {R : Nat → Nat → Option Nat} {F : Nat → UInt32} {A : Nat → Nat → Int32} {N : Nat → Nat} {L : Nat → List Nat} {T : Nat → List Int32} {J : Nat → Nat → Int64} {D : Nat → Nat → UInt64} {b n : Nat} {xs : Nat → Int32} {x o ao dd t : Nat} {cd ad : Nat → Nat} {Z : mZ} {M : mM} {th : Int32} (C : lw_cx p l s m c b n xs G) (hfp : f_all) (hw : m_wo G K I R F A N L T J D s H locs) (hs : c_sim K I R N A L T x cd Z M) (hro : r_ok K R N o ad) (hz : r_st K o ad I A I A Z M th) (hka : K ao = 35 ∧ N ao = 1) (hkd : K dd = 36 ∧ N dd = 1) (hf : w_f Z M t) (ht : t < 512) (hin : 5 * t + 5 ≤ n) (hl : lv_has ls 10 [(0, .ref b), (1, .ref x), (2, .ref o), (3, .ref ao), (4, .ref dd), (5, .int (nI (5 * t)))]) (hc9 : cells + 600 ≤ 603072) (hs9 : slots + 8300 ≤ 7211114) (ih : ∀ (H : Heap) (locs : List Loc) (ls : Array Slot), lw_I G s b x o ao dd (t + 1) H locs ls → W p l e room_1 s m #[Value.ref b] below meth c H locs (cells + 600) (slots + 8300) Q (F0 m 28 ls [])) : W p l e room_1 s m #[Value.ref b] below meth c H locs cells slots Q (F0 m 785 ls []) := by
  obtain ⟨hx, hb, hml, hown, hts, hX, hbl, hbA, hnt, hcs, hn9⟩ := C
  have hni := hs.2.1.1
  have hn12 := hs.2.1.2.1
  have hnf := hs.2.2.1.1
  have hn120 := hs.2.2.1.2.1
  have hnsg := hs.2.2.2.2.1.1
  have hn20 := hs.2.2.2.2.1.2.1
  have hns := hs.2.2.2.2.2.1.1
  have hn5 := hs.2.2.2.2.2.1.2.1
  obtain ⟨nt, hnt9, h4t, hgt⟩ := u_gap hs
  have hw9 := u_shW hs
  have ht9 : t ≤ 512 := by omega
  obtain ⟨fpT, fpW, fpS, fpM, fp0⟩ := hfp
  obtain ⟨a1, ea1⟩ : ∃ z, z = xs (nI (5 * t) + 1).toNatClampNeg := ⟨_, rfl⟩
  refine lv_aload_n hx hb dL_law_785 rfl (lv_at hl 1 rfl) ?_
  refine lv_aload_n hx hb dL_law_786 rfl (lv_at hl 0 rfl) ?_
  refine lv_iload hx hb dL_law_787 (lv_at hl 5 rfl) ?_
  refine lv_iconst (v := 1) hx hb dL_law_789 (by decide) ?_
  refine lv_iadd hx hb dL_law_790 ?_
  refine va_sld hx hb hX hbl hbA hw.2.2.2.1 (show vp_in (nI (5 * t) + 1) n from lo_in (k := 1) hin hn9 (by decide)) dL_law_791 ?_
  rw [← ea1]
  refine lv_aload_n hx hb dL_law_792 rfl (lv_at hl 3 rfl) ?_
  refine m_ci (vx_runSW (As := [.ref x, .int a1, .ref ao]) (rest := []) ⟨hx, hb, hml, hown, hts⟩ (c_L_segmentOf l hnt hs hka.1 hka.2) (vx_cwSW 3 hts gL_law_L_segmentOf rfl rfl rfl (by decide +kernel) ⟨Nat.le_of_ble_eq_true rfl, Nat.le_of_ble_eq_true rfl⟩) ⟨m_blind (fun U g mk a h => ⟨m_B_calling U g mk a h.1, c_str_calling U g mk a h.2⟩), fun U hU hW => ⟨rfl, m_wo_call hw hU hW, c_str_warm hW hcs⟩⟩ rfl rfl hl.1 rfl (lv_room (Nat.le_of_ble_eq_true rfl)) dL_law_793 ⟨lo_c (by omega), lo_s (by omega)⟩) hw (fun r1 u1 H locs hp1 hw => ?_)
  obtain ⟨K1, I1, R1, F1, A1, N1, L1, T1, J1, D1⟩ := u1
  try dsimp only at hp1
  obtain ⟨rfl, hq1, hs1, hfr1⟩ := hp1
  have hw : m_wo G K1 I1 R1 F1 A1 N1 L1 T1 J1 D1 s H locs := hw
  have hs1 : c_sim K1 I1 R1 N1 A1 L1 T1 x cd (Z, M).1 (Z, M).2 := hs1
  have hfr1 : c_fr K I R N A K1 I1 R1 N1 A1 := hfr1
  have hro1 := r_ok_fr hro hfr1
  have hz1 := r_st_fr hro hz hfr1
  have hka1 : K1 ao = 35 ∧ N1 ao = 1 := ⟨(hfr1 ao (by rw [hka.1]; simp [c_oth])).1.trans hka.1, (hfr1 ao (by rw [hka.1]; simp [c_oth])).2.1.trans hka.2⟩
  have hkd1 : K1 dd = 36 ∧ N1 dd = 1 := ⟨(hfr1 dd (by rw [hkd.1]; simp [c_oth])).1.trans hkd.1, (hfr1 dd (by rw [hkd.1]; simp [c_oth])).2.1.trans hkd.2⟩
  refine lv_istore (lv' := [(6, .int (t_segmentOf Z M a1)), (0, .ref b), (1, .ref x), (2, .ref o), (3, .ref ao), (4, .ref dd), (5, .int (nI (5 * t)))]) hx hb dL_law_796 hl (by decide) rfl (fun ls hl => ?_)
  refine lv_aload_n hx hb dL_law_798 rfl (lv_at hl 3 rfl) ?_
  refine lv_aload_n hx hb dL_law_799 rfl (lv_at hl 1 rfl) ?_
  refine lv_iload hx hb dL_law_800 (lv_at hl 6 rfl) ?_
  refine lv_iconst (v := 1) hx hb dL_law_802 (by decide) ?_
  refine lv_iadd hx hb dL_law_803 ?_
  refine va_sld hx hb hX hbl hbA hw.2.2.2.1 (show vp_in (nI (5 * t) + 1) n from lo_in (k := 1) hin hn9 (by decide)) dL_law_804 ?_
  rw [← ea1]
  refine m_ci (va_runV (As := [.int a1]) (rest := []) ⟨hx, hb, hml, hown, hts⟩ (c_X9_segmentOf l a1 hro1 hz1 hnf hn120) (cwV 1 hts gL_law_X9_segmentOf rfl rfl rfl (by decide +kernel) ⟨Nat.le_of_ble_eq_true rfl, Nat.le_of_ble_eq_true rfl⟩) ⟨m_blind m_B_calling, m_recv hw (m_ent_10 hro1.1) rfl, fun U hU hW => ⟨rfl, m_wo_call hw hU hW⟩⟩ rfl rfl hl.1 rfl (lv_room (Nat.le_of_ble_eq_true rfl)) dL_law_805 ⟨lo_c (by omega), lo_s (by omega)⟩) hw (fun r_805 u_805 H locs hp_805 hw => ?_)
  obtain ⟨I_1, A_2⟩ := u_805
  have hw : m_wo G K1 I_1 R1 F1 A_2 N1 L1 T1 J1 D1 s H locs := hw
  dsimp only at hp_805
  obtain ⟨hz2, hv2⟩ := hp_805
  refine lv_istore (lv' := [(7, .int r_805), (6, .int (t_segmentOf Z M a1)), (0, .ref b), (1, .ref x), (2, .ref o), (3, .ref ao), (4, .ref dd), (5, .int (nI (5 * t)))]) hx hb dL_law_808 hl (by decide) rfl (fun ls hl => ?_)
  refine lv_aload_n hx hb dL_law_810 rfl (lv_at hl 4 rfl) ?_
  refine m_ci (va_runV (As := []) (rest := []) ⟨hx, hb, hml, hown, hts⟩ (c_X9_thrown l hro1 (r_st_self hz2)) (cwV 0 hts gL_law_X9_thrown rfl rfl rfl (by decide +kernel) ⟨Nat.le_of_ble_eq_true rfl, Nat.le_of_ble_eq_true rfl⟩) ⟨m_blind m_B_calling, m_recv hw (m_ent_10 hro1.1) rfl, fun U hU hW => ⟨rfl, m_wo_call hw hU hW⟩⟩ rfl rfl hl.1 rfl (lv_room (Nat.le_of_ble_eq_true rfl)) dL_law_811 ⟨lo_c (by omega), lo_s (by omega)⟩) hw (fun r_811 u_811 H locs hp_811 hw => ?_)
  obtain rfl : r_811 = (t_segmentOf Z M a1) := hp_811
  refine lv_iload hx hb dL_law_814 (lv_at hl 1 rfl) ?_
  refine lv_icmp_eq (tgt := 821) hx hb dL_law_816 (by decide) (fun _ => ?_) (fun cz => absurd rfl cz)
  have hK9 : W p l e room_1 s m #[Value.ref b] below meth c H locs (cells + 2 + 0 + 0) (slots + 12 + 0 + 0) Q (F0 m 838 ls []) := by
    refine lv_goto (tgt := 2020) hx hb dL_law_838 (by decide) ?_
    refine lv_iinc (v := (nI (5 * t)) + 5) (lv' := [(5, .int ((nI (5 * t)) + 5)), (7, .int r_805), (6, .int (t_segmentOf Z M a1)), (0, .ref b), (1, .ref x), (2, .ref o), (3, .ref ao), (4, .ref dd)]) hx hb dL_law_2020 hl (k := 7) rfl rfl (by decide) rfl (fun ls hl => ?_)
    refine lv_goto (tgt := 28) hx hb dL_law_2023 (by decide) ?_
    have hs2 := c_sim_ref hs1 hz2.2.2.1 hz2.2.2.2.1
    have hs3 := hs2
    have hf3 := (show w_f (Z, M).1 (Z, M).2 (t + 1) from w_same hf)
    rw [show nI (5 * t) + 5 = nI (5 * (t + 1)) from nI_add (5 * t) 5] at hl
    refine W.widen (k := cells + 600) (n := slots + 8300) (by omega) (by omega) ?_
    exact ih _ _ _ ⟨(K1, I_1, R1, F1, A_2, N1, L1, T1, J1, D1), cd, ad, _, _, _, hw, hs3, hro1, r_st_self hz2, hka1, hkd1, hf3, lv_sub hl [3, 4, 5, 6, 7, 0] rfl⟩
  refine lv_iload hx hb dL_law_821 (lv_at hl 1 rfl) ?_
  refine lv_if_ne (tgt := 838) hx hb dL_law_823 (by decide) (fun _ => hK9) (fun c9 => ?_)
  obtain rfl : r_805 = M 14 a1.toNatClampNeg := hv2 c9
  refine lv_aload_n hx hb dL_law_826 rfl (lv_at hl 5 rfl) ?_
  refine lv_iconst (v := 0) hx hb dL_law_827 (by decide) ?_
  refine m_laload_35 hx hb hw hka1.1 (h_in hka1.2) dL_law_828 ?_
  rw [show J1 ao (0 : Int32).toNatClampNeg = (M 14 a1.toNatClampNeg).toInt64 from hq1 c9]
  refine lv_iload hx hb dL_law_829 (lv_at hl 0 rfl) ?_
  refine lv_i2l (v := ((M 14 a1.toNatClampNeg)).toInt64) hx hb dL_law_831 rfl ?_
  refine lv_lcmp0 hx hb dL_law_832 ?_
  refine lv_if_eq (tgt := 838) hx hb dL_law_833 (by decide) (fun _ => ?_) (fun cz => absurd rfl cz)
  exact hK9
set_option maxHeartbeats 1600000 in
set_option maxRecDepth 100000 in
theorem lo_postings {p : Program} {l : Launch} {e : Env} {s : State} {m : MethodId} {below : List Frame} {meth : Method} {c : Code} {H : Heap} {locs : List Loc} {ls : Array Slot} {cells slots : Nat} {Q : State → Prop} {G : mG} {K : Nat → Nat} {I : Nat → Nat → Int32} {R : Nat → Nat → Option Nat} {F : Nat → UInt32} {A : Nat → Nat → Int32} {N : Nat → Nat} {L : Nat → List Nat} {T : Nat → List Int32} {J : Nat → Nat → Int64} {D : Nat → Nat → UInt64} {b n : Nat} {xs : Nat → Int32} {x o ao dd t : Nat} {cd ad : Nat → Nat} {Z : mZ} {M : mM} {th : Int32} (C : lw_cx p l s m c b n xs G) (hfp : f_all) (hw : m_wo G K I R F A N L T J D s H locs) (hs : c_sim K I R N A L T x cd Z M) (hro : r_ok K R N o ad) (hz : r_st K o ad I A I A Z M th) (hka : K ao = 35 ∧ N ao = 1) (hkd : K dd = 36 ∧ N dd = 1) (hf : w_f Z M t) (ht : t < 512) (hin : 5 * t + 5 ≤ n) (hl : lv_has ls 10 [(0, .ref b), (1, .ref x), (2, .ref o), (3, .ref ao), (4, .ref dd), (5, .int (nI (5 * t)))]) (hc9 : cells + 600 ≤ 603072) (hs9 : slots + 8300 ≤ 7211114) (ih : ∀ (H : Heap) (locs : List Loc) (ls : Array Slot), lw_I G s b x o ao dd (t + 1) H locs ls → W p l e room_1 s m #[Value.ref b] below meth c H locs (cells + 600) (slots + 8300) Q (F0 m 28 ls [])) : W p l e room_1 s m #[Value.ref b] below meth c H locs cells slots Q (F0 m 841 ls []) := by
  obtain ⟨hx, hb, hml, hown, hts, hX, hbl, hbA, hnt, hcs, hn9⟩ := C
  have hni := hs.2.1.1
  have hn12 := hs.2.1.2.1
  have hnf := hs.2.2.1.1
  have hn120 := hs.2.2.1.2.1
  have hnsg := hs.2.2.2.2.1.1
  have hn20 := hs.2.2.2.2.1.2.1
  have hns := hs.2.2.2.2.2.1.1
  have hn5 := hs.2.2.2.2.2.1.2.1
  obtain ⟨nt, hnt9, h4t, hgt⟩ := u_gap hs
  have hw9 := u_shW hs
  have ht9 : t ≤ 512 := by omega
  obtain ⟨fpT, fpW, fpS, fpM, fp0⟩ := hfp
  obtain ⟨a1, ea1⟩ : ∃ z, z = xs (nI (5 * t) + 1).toNatClampNeg := ⟨_, rfl⟩
  refine lv_aload_n hx hb dL_law_841 rfl (lv_at hl 1 rfl) ?_
  refine lv_aload_n hx hb dL_law_842 rfl (lv_at hl 0 rfl) ?_
  refine lv_iload hx hb dL_law_843 (lv_at hl 5 rfl) ?_
  refine lv_iconst (v := 1) hx hb dL_law_845 (by decide) ?_
  refine lv_iadd hx hb dL_law_846 ?_
  refine va_sld hx hb hX hbl hbA hw.2.2.2.1 (show vp_in (nI (5 * t) + 1) n from lo_in (k := 1) hin hn9 (by decide)) dL_law_847 ?_
  rw [← ea1]
  refine lv_aload_n hx hb dL_law_848 rfl (lv_at hl 3 rfl) ?_
  refine m_ci (vx_runSW (As := [.ref x, .int a1, .ref ao]) (rest := []) ⟨hx, hb, hml, hown, hts⟩ (c_L_postings l hnt hs hka.1 hka.2) (vx_cwSW 3 hts gL_law_L_postings rfl rfl rfl (by decide +kernel) ⟨Nat.le_of_ble_eq_true rfl, Nat.le_of_ble_eq_true rfl⟩) ⟨m_blind (fun U g mk a h => ⟨m_B_calling U g mk a h.1, c_str_calling U g mk a h.2⟩), fun U hU hW => ⟨rfl, m_wo_call hw hU hW, c_str_warm hW hcs⟩⟩ rfl rfl hl.1 rfl (lv_room (Nat.le_of_ble_eq_true rfl)) dL_law_849 ⟨lo_c (by omega), lo_s (by omega)⟩) hw (fun r1 u1 H locs hp1 hw => ?_)
  obtain ⟨K1, I1, R1, F1, A1, N1, L1, T1, J1, D1⟩ := u1
  try dsimp only at hp1
  obtain ⟨rfl, hq1, hs1, hfr1⟩ := hp1
  have hw : m_wo G K1 I1 R1 F1 A1 N1 L1 T1 J1 D1 s H locs := hw
  have hs1 : c_sim K1 I1 R1 N1 A1 L1 T1 x cd (Z, M).1 (Z, M).2 := hs1
  have hfr1 : c_fr K I R N A K1 I1 R1 N1 A1 := hfr1
  have hro1 := r_ok_fr hro hfr1
  have hz1 := r_st_fr hro hz hfr1
  have hka1 : K1 ao = 35 ∧ N1 ao = 1 := ⟨(hfr1 ao (by rw [hka.1]; simp [c_oth])).1.trans hka.1, (hfr1 ao (by rw [hka.1]; simp [c_oth])).2.1.trans hka.2⟩
  have hkd1 : K1 dd = 36 ∧ N1 dd = 1 := ⟨(hfr1 dd (by rw [hkd.1]; simp [c_oth])).1.trans hkd.1, (hfr1 dd (by rw [hkd.1]; simp [c_oth])).2.1.trans hkd.2⟩
  refine lv_istore (lv' := [(6, .int (t_postings a1)), (0, .ref b), (1, .ref x), (2, .ref o), (3, .ref ao), (4, .ref dd), (5, .int (nI (5 * t)))]) hx hb dL_law_852 hl (by decide) rfl (fun ls hl => ?_)
  refine lv_aload_n hx hb dL_law_854 rfl (lv_at hl 3 rfl) ?_
  refine lv_aload_n hx hb dL_law_855 rfl (lv_at hl 1 rfl) ?_
  refine lv_iload hx hb dL_law_856 (lv_at hl 6 rfl) ?_
  refine lv_iconst (v := 1) hx hb dL_law_858 (by decide) ?_
  refine lv_iadd hx hb dL_law_859 ?_
  refine va_sld hx hb hX hbl hbA hw.2.2.2.1 (show vp_in (nI (5 * t) + 1) n from lo_in (k := 1) hin hn9 (by decide)) dL_law_860 ?_
  rw [← ea1]
  refine m_ci (va_runV (As := [.int a1]) (rest := []) ⟨hx, hb, hml, hown, hts⟩ (c_X9_postings l a1 hro1 hz1 hnf hn120) (cwV 1 hts gL_law_X9_postings rfl rfl rfl (by decide +kernel) ⟨Nat.le_of_ble_eq_true rfl, Nat.le_of_ble_eq_true rfl⟩) ⟨m_blind m_B_calling, m_recv hw (m_ent_10 hro1.1) rfl, fun U hU hW => ⟨rfl, m_wo_call hw hU hW⟩⟩ rfl rfl hl.1 rfl (lv_room (Nat.le_of_ble_eq_true rfl)) dL_law_861 ⟨lo_c (by omega), lo_s (by omega)⟩) hw (fun r_861 u_861 H locs hp_861 hw => ?_)
  obtain ⟨I_1, A_2⟩ := u_861
  have hw : m_wo G K1 I_1 R1 F1 A_2 N1 L1 T1 J1 D1 s H locs := hw
  dsimp only at hp_861
  obtain ⟨hz2, hv2⟩ := hp_861
  refine lv_istore (lv' := [(7, .int r_861), (6, .int (t_postings a1)), (0, .ref b), (1, .ref x), (2, .ref o), (3, .ref ao), (4, .ref dd), (5, .int (nI (5 * t)))]) hx hb dL_law_864 hl (by decide) rfl (fun ls hl => ?_)
  refine lv_aload_n hx hb dL_law_866 rfl (lv_at hl 4 rfl) ?_
  refine m_ci (va_runV (As := []) (rest := []) ⟨hx, hb, hml, hown, hts⟩ (c_X9_thrown l hro1 (r_st_self hz2)) (cwV 0 hts gL_law_X9_thrown rfl rfl rfl (by decide +kernel) ⟨Nat.le_of_ble_eq_true rfl, Nat.le_of_ble_eq_true rfl⟩) ⟨m_blind m_B_calling, m_recv hw (m_ent_10 hro1.1) rfl, fun U hU hW => ⟨rfl, m_wo_call hw hU hW⟩⟩ rfl rfl hl.1 rfl (lv_room (Nat.le_of_ble_eq_true rfl)) dL_law_867 ⟨lo_c (by omega), lo_s (by omega)⟩) hw (fun r_867 u_867 H locs hp_867 hw => ?_)
  obtain rfl : r_867 = (t_postings a1) := hp_867
  refine lv_iload hx hb dL_law_870 (lv_at hl 1 rfl) ?_
  refine lv_icmp_eq (tgt := 877) hx hb dL_law_872 (by decide) (fun _ => ?_) (fun cz => absurd rfl cz)
  have hK9 : W p l e room_1 s m #[Value.ref b] below meth c H locs (cells + 1 + 0 + 0) (slots + 6 + 0 + 0) Q (F0 m 894 ls []) := by
    refine lv_goto (tgt := 2020) hx hb dL_law_894 (by decide) ?_
    refine lv_iinc (v := (nI (5 * t)) + 5) (lv' := [(5, .int ((nI (5 * t)) + 5)), (7, .int r_861), (6, .int (t_postings a1)), (0, .ref b), (1, .ref x), (2, .ref o), (3, .ref ao), (4, .ref dd)]) hx hb dL_law_2020 hl (k := 7) rfl rfl (by decide) rfl (fun ls hl => ?_)
    refine lv_goto (tgt := 28) hx hb dL_law_2023 (by decide) ?_
    have hs2 := c_sim_ref hs1 hz2.2.2.1 hz2.2.2.2.1
    have hs3 := hs2
    have hf3 := (show w_f (Z, M).1 (Z, M).2 (t + 1) from w_same hf)
    rw [show nI (5 * t) + 5 = nI (5 * (t + 1)) from nI_add (5 * t) 5] at hl
    refine W.widen (k := cells + 600) (n := slots + 8300) (by omega) (by omega) ?_
    exact ih _ _ _ ⟨(K1, I_1, R1, F1, A_2, N1, L1, T1, J1, D1), cd, ad, _, _, _, hw, hs3, hro1, r_st_self hz2, hka1, hkd1, hf3, lv_sub hl [3, 4, 5, 6, 7, 0] rfl⟩
  refine lv_iload hx hb dL_law_877 (lv_at hl 1 rfl) ?_
  refine lv_if_ne (tgt := 894) hx hb dL_law_879 (by decide) (fun _ => hK9) (fun c9 => ?_)
  obtain rfl : r_861 = nI (cntB (fun f => o_pst M f a1) (L (cd 1)).length) := hv2 c9
  refine lv_aload_n hx hb dL_law_882 rfl (lv_at hl 5 rfl) ?_
  refine lv_iconst (v := 0) hx hb dL_law_883 (by decide) ?_
  refine m_laload_35 hx hb hw hka1.1 (h_in hka1.2) dL_law_884 ?_
  rw [show J1 ao (0 : Int32).toNatClampNeg = (nI (cntB (fun f => o_pst M f a1) (L (cd 1)).length)).toInt64 from hq1 c9]
  refine lv_iload hx hb dL_law_885 (lv_at hl 0 rfl) ?_
  refine lv_i2l (v := ((nI (cntB (fun f => o_pst M f a1) (L (cd 1)).length))).toInt64) hx hb dL_law_887 rfl ?_
  refine lv_lcmp0 hx hb dL_law_888 ?_
  refine lv_if_eq (tgt := 894) hx hb dL_law_889 (by decide) (fun _ => ?_) (fun cz => absurd rfl cz)
  exact hK9
set_option maxHeartbeats 1600000 in
set_option maxRecDepth 100000 in
theorem lo_posting {p : Program} {l : Launch} {e : Env} {s : State} {m : MethodId} {below : List Frame} {meth : Method} {c : Code} {H : Heap} {locs : List Loc} {ls : Array Slot} {cells slots : Nat} {Q : State → Prop} {G : mG} {K : Nat → Nat} {I : Nat → Nat → Int32} {R : Nat → Nat → Option Nat} {F : Nat → UInt32} {A : Nat → Nat → Int32} {N : Nat → Nat} {L : Nat → List Nat} {T : Nat → List Int32} {J : Nat → Nat → Int64} {D : Nat → Nat → UInt64} {b n : Nat} {xs : Nat → Int32} {x o ao dd t : Nat} {cd ad : Nat → Nat} {Z : mZ} {M : mM} {th : Int32} (C : lw_cx p l s m c b n xs G) (hfp : f_all) (hw : m_wo G K I R F A N L T J D s H locs) (hs : c_sim K I R N A L T x cd Z M) (hro : r_ok K R N o ad) (hz : r_st K o ad I A I A Z M th) (hka : K ao = 35 ∧ N ao = 1) (hkd : K dd = 36 ∧ N dd = 1) (hf : w_f Z M t) (ht : t < 512) (hin : 5 * t + 5 ≤ n) (hl : lv_has ls 10 [(0, .ref b), (1, .ref x), (2, .ref o), (3, .ref ao), (4, .ref dd), (5, .int (nI (5 * t)))]) (hc9 : cells + 600 ≤ 603072) (hs9 : slots + 8300 ≤ 7211114) (ih : ∀ (H : Heap) (locs : List Loc) (ls : Array Slot), lw_I G s b x o ao dd (t + 1) H locs ls → W p l e room_1 s m #[Value.ref b] below meth c H locs (cells + 600) (slots + 8300) Q (F0 m 28 ls [])) : W p l e room_1 s m #[Value.ref b] below meth c H locs cells slots Q (F0 m 897 ls []) := by
  obtain ⟨hx, hb, hml, hown, hts, hX, hbl, hbA, hnt, hcs, hn9⟩ := C
  have hni := hs.2.1.1
  have hn12 := hs.2.1.2.1
  have hnf := hs.2.2.1.1
  have hn120 := hs.2.2.1.2.1
  have hnsg := hs.2.2.2.2.1.1
  have hn20 := hs.2.2.2.2.1.2.1
  have hns := hs.2.2.2.2.2.1.1
  have hn5 := hs.2.2.2.2.2.1.2.1
  obtain ⟨nt, hnt9, h4t, hgt⟩ := u_gap hs
  have hw9 := u_shW hs
  have ht9 : t ≤ 512 := by omega
  obtain ⟨fpT, fpW, fpS, fpM, fp0⟩ := hfp
  obtain ⟨a1, ea1⟩ : ∃ z, z = xs (nI (5 * t) + 1).toNatClampNeg := ⟨_, rfl⟩
  obtain ⟨a2, ea2⟩ : ∃ z, z = xs (nI (5 * t) + 2).toNatClampNeg := ⟨_, rfl⟩
  refine lv_aload_n hx hb dL_law_897 rfl (lv_at hl 1 rfl) ?_
  refine lv_aload_n hx hb dL_law_898 rfl (lv_at hl 0 rfl) ?_
  refine lv_iload hx hb dL_law_899 (lv_at hl 5 rfl) ?_
  refine lv_iconst (v := 1) hx hb dL_law_901 (by decide) ?_
  refine lv_iadd hx hb dL_law_902 ?_
  refine va_sld hx hb hX hbl hbA hw.2.2.2.1 (show vp_in (nI (5 * t) + 1) n from lo_in (k := 1) hin hn9 (by decide)) dL_law_903 ?_
  rw [← ea1]
  refine lv_aload_n hx hb dL_law_904 rfl (lv_at hl 0 rfl) ?_
  refine lv_iload hx hb dL_law_905 (lv_at hl 5 rfl) ?_
  refine lv_iconst (v := 2) hx hb dL_law_907 (by decide) ?_
  refine lv_iadd hx hb dL_law_908 ?_
  refine va_sld hx hb hX hbl hbA hw.2.2.2.1 (show vp_in (nI (5 * t) + 2) n from lo_in (k := 2) hin hn9 (by decide)) dL_law_909 ?_
  rw [← ea2]
  refine lv_aload_n hx hb dL_law_910 rfl (lv_at hl 3 rfl) ?_
  refine m_ci (vx_runSW (As := [.ref x, .int a1, .int a2, .ref ao]) (rest := []) ⟨hx, hb, hml, hown, hts⟩ (c_L_posting l hnt hs hka.1 hka.2) (vx_cwSW 4 hts gL_law_L_posting rfl rfl rfl (by decide +kernel) ⟨Nat.le_of_ble_eq_true rfl, Nat.le_of_ble_eq_true rfl⟩) ⟨m_blind (fun U g mk a h => ⟨m_B_calling U g mk a h.1, c_str_calling U g mk a h.2⟩), fun U hU hW => ⟨rfl, m_wo_call hw hU hW, c_str_warm hW hcs⟩⟩ rfl rfl hl.1 rfl (lv_room (Nat.le_of_ble_eq_true rfl)) dL_law_911 ⟨lo_c (by omega), lo_s (by omega)⟩) hw (fun r1 u1 H locs hp1 hw => ?_)
  obtain ⟨K1, I1, R1, F1, A1, N1, L1, T1, J1, D1⟩ := u1
  try dsimp only at hp1
  obtain ⟨rfl, hq1, hs1, hfr1⟩ := hp1
  have hw : m_wo G K1 I1 R1 F1 A1 N1 L1 T1 J1 D1 s H locs := hw
  have hs1 : c_sim K1 I1 R1 N1 A1 L1 T1 x cd (Z, M).1 (Z, M).2 := hs1
  have hfr1 : c_fr K I R N A K1 I1 R1 N1 A1 := hfr1
  have hro1 := r_ok_fr hro hfr1
  have hz1 := r_st_fr hro hz hfr1
  have hka1 : K1 ao = 35 ∧ N1 ao = 1 := ⟨(hfr1 ao (by rw [hka.1]; simp [c_oth])).1.trans hka.1, (hfr1 ao (by rw [hka.1]; simp [c_oth])).2.1.trans hka.2⟩
  have hkd1 : K1 dd = 36 ∧ N1 dd = 1 := ⟨(hfr1 dd (by rw [hkd.1]; simp [c_oth])).1.trans hkd.1, (hfr1 dd (by rw [hkd.1]; simp [c_oth])).2.1.trans hkd.2⟩
  refine lv_istore (lv' := [(6, .int (t_posting Z M a1 a2)), (0, .ref b), (1, .ref x), (2, .ref o), (3, .ref ao), (4, .ref dd), (5, .int (nI (5 * t)))]) hx hb dL_law_914 hl (by decide) rfl (fun ls hl => ?_)
  refine lv_aload_n hx hb dL_law_916 rfl (lv_at hl 3 rfl) ?_
  refine lv_aload_n hx hb dL_law_917 rfl (lv_at hl 1 rfl) ?_
  refine lv_iload hx hb dL_law_918 (lv_at hl 6 rfl) ?_
  refine lv_iconst (v := 1) hx hb dL_law_920 (by decide) ?_
  refine lv_iadd hx hb dL_law_921 ?_
  refine va_sld hx hb hX hbl hbA hw.2.2.2.1 (show vp_in (nI (5 * t) + 1) n from lo_in (k := 1) hin hn9 (by decide)) dL_law_922 ?_
  rw [← ea1]
  refine lv_aload_n hx hb dL_law_923 rfl (lv_at hl 1 rfl) ?_
  refine lv_iload hx hb dL_law_924 (lv_at hl 6 rfl) ?_
  refine lv_iconst (v := 2) hx hb dL_law_926 (by decide) ?_
  refine lv_iadd hx hb dL_law_927 ?_
  refine va_sld hx hb hX hbl hbA hw.2.2.2.1 (show vp_in (nI (5 * t) + 2) n from lo_in (k := 2) hin hn9 (by decide)) dL_law_928 ?_
  rw [← ea2]
  refine m_ci (va_runV (As := [.int a1, .int a2]) (rest := []) ⟨hx, hb, hml, hown, hts⟩ (c_X9_posting l a1 a2 hro1 hz1 hnf hn120) (cwV 2 hts gL_law_X9_posting rfl rfl rfl (by decide +kernel) ⟨Nat.le_of_ble_eq_true rfl, Nat.le_of_ble_eq_true rfl⟩) ⟨m_blind m_B_calling, m_recv hw (m_ent_10 hro1.1) rfl, fun U hU hW => ⟨rfl, m_wo_call hw hU hW⟩⟩ rfl rfl hl.1 rfl (lv_room (Nat.le_of_ble_eq_true rfl)) dL_law_929 ⟨lo_c (by omega), lo_s (by omega)⟩) hw (fun r_929 u_929 H locs hp_929 hw => ?_)
  obtain ⟨I_1, A_2⟩ := u_929
  have hw : m_wo G K1 I_1 R1 F1 A_2 N1 L1 T1 J1 D1 s H locs := hw
  dsimp only at hp_929
  obtain ⟨hz2, hv2⟩ := hp_929
  refine lv_istore (lv' := [(7, .int r_929), (6, .int (t_posting Z M a1 a2)), (0, .ref b), (1, .ref x), (2, .ref o), (3, .ref ao), (4, .ref dd), (5, .int (nI (5 * t)))]) hx hb dL_law_932 hl (by decide) rfl (fun ls hl => ?_)
  refine lv_aload_n hx hb dL_law_934 rfl (lv_at hl 4 rfl) ?_
  refine m_ci (va_runV (As := []) (rest := []) ⟨hx, hb, hml, hown, hts⟩ (c_X9_thrown l hro1 (r_st_self hz2)) (cwV 0 hts gL_law_X9_thrown rfl rfl rfl (by decide +kernel) ⟨Nat.le_of_ble_eq_true rfl, Nat.le_of_ble_eq_true rfl⟩) ⟨m_blind m_B_calling, m_recv hw (m_ent_10 hro1.1) rfl, fun U hU hW => ⟨rfl, m_wo_call hw hU hW⟩⟩ rfl rfl hl.1 rfl (lv_room (Nat.le_of_ble_eq_true rfl)) dL_law_935 ⟨lo_c (by omega), lo_s (by omega)⟩) hw (fun r_935 u_935 H locs hp_935 hw => ?_)
  obtain rfl : r_935 = (t_posting Z M a1 a2) := hp_935
  refine lv_iload hx hb dL_law_938 (lv_at hl 1 rfl) ?_
  refine lv_icmp_eq (tgt := 945) hx hb dL_law_940 (by decide) (fun _ => ?_) (fun cz => absurd rfl cz)
  have hK9 : W p l e room_1 s m #[Value.ref b] below meth c H locs (cells + 2 + 0 + 0) (slots + 12 + 0 + 0) Q (F0 m 962 ls []) := by
    refine lv_goto (tgt := 2020) hx hb dL_law_962 (by decide) ?_
    refine lv_iinc (v := (nI (5 * t)) + 5) (lv' := [(5, .int ((nI (5 * t)) + 5)), (7, .int r_929), (6, .int (t_posting Z M a1 a2)), (0, .ref b), (1, .ref x), (2, .ref o), (3, .ref ao), (4, .ref dd)]) hx hb dL_law_2020 hl (k := 7) rfl rfl (by decide) rfl (fun ls hl => ?_)
    refine lv_goto (tgt := 28) hx hb dL_law_2023 (by decide) ?_
    have hs2 := c_sim_ref hs1 hz2.2.2.1 hz2.2.2.2.1
    have hs3 := hs2
    have hf3 := (show w_f (Z, M).1 (Z, M).2 (t + 1) from w_same hf)
    rw [show nI (5 * t) + 5 = nI (5 * (t + 1)) from nI_add (5 * t) 5] at hl
    refine W.widen (k := cells + 600) (n := slots + 8300) (by omega) (by omega) ?_
    exact ih _ _ _ ⟨(K1, I_1, R1, F1, A_2, N1, L1, T1, J1, D1), cd, ad, _, _, _, hw, hs3, hro1, r_st_self hz2, hka1, hkd1, hf3, lv_sub hl [3, 4, 5, 6, 7, 0] rfl⟩
  refine lv_iload hx hb dL_law_945 (lv_at hl 1 rfl) ?_
  refine lv_if_ne (tgt := 962) hx hb dL_law_947 (by decide) (fun _ => hK9) (fun c9 => ?_)
  obtain rfl : r_929 = o_found M (L (cd 1)).length a1 a2 (L (cd 1)).length := hv2 c9
  refine lv_aload_n hx hb dL_law_950 rfl (lv_at hl 5 rfl) ?_
  refine lv_iconst (v := 0) hx hb dL_law_951 (by decide) ?_
  refine m_laload_35 hx hb hw hka1.1 (h_in hka1.2) dL_law_952 ?_
  rw [show J1 ao (0 : Int32).toNatClampNeg = (o_found M (L (cd 1)).length a1 a2 (L (cd 1)).length).toInt64 from hq1 c9]
  refine lv_iload hx hb dL_law_953 (lv_at hl 0 rfl) ?_
  refine lv_i2l (v := ((o_found M (L (cd 1)).length a1 a2 (L (cd 1)).length)).toInt64) hx hb dL_law_955 rfl ?_
  refine lv_lcmp0 hx hb dL_law_956 ?_
  refine lv_if_eq (tgt := 962) hx hb dL_law_957 (by decide) (fun _ => ?_) (fun cz => absurd rfl cz)
  exact hK9
set_option maxHeartbeats 1600000 in
set_option maxRecDepth 100000 in
theorem lo_word {p : Program} {l : Launch} {e : Env} {s : State} {m : MethodId} {below : List Frame} {meth : Method} {c : Code} {H : Heap} {locs : List Loc} {ls : Array Slot} {cells slots : Nat} {Q : State → Prop} {G : mG} {K : Nat → Nat} {I : Nat → Nat → Int32} {R : Nat → Nat → Option Nat} {F : Nat → UInt32} {A : Nat → Nat → Int32} {N : Nat → Nat} {L : Nat → List Nat} {T : Nat → List Int32} {J : Nat → Nat → Int64} {D : Nat → Nat → UInt64} {b n : Nat} {xs : Nat → Int32} {x o ao dd t : Nat} {cd ad : Nat → Nat} {Z : mZ} {M : mM} {th : Int32} (C : lw_cx p l s m c b n xs G) (hfp : f_all) (hw : m_wo G K I R F A N L T J D s H locs) (hs : c_sim K I R N A L T x cd Z M) (hro : r_ok K R N o ad) (hz : r_st K o ad I A I A Z M th) (hka : K ao = 35 ∧ N ao = 1) (hkd : K dd = 36 ∧ N dd = 1) (hf : w_f Z M t) (ht : t < 512) (hin : 5 * t + 5 ≤ n) (hl : lv_has ls 10 [(0, .ref b), (1, .ref x), (2, .ref o), (3, .ref ao), (4, .ref dd), (5, .int (nI (5 * t)))]) (hc9 : cells + 600 ≤ 603072) (hs9 : slots + 8300 ≤ 7211114) (ih : ∀ (H : Heap) (locs : List Loc) (ls : Array Slot), lw_I G s b x o ao dd (t + 1) H locs ls → W p l e room_1 s m #[Value.ref b] below meth c H locs (cells + 600) (slots + 8300) Q (F0 m 28 ls [])) : W p l e room_1 s m #[Value.ref b] below meth c H locs cells slots Q (F0 m 965 ls []) := by
  obtain ⟨hx, hb, hml, hown, hts, hX, hbl, hbA, hnt, hcs, hn9⟩ := C
  have hni := hs.2.1.1
  have hn12 := hs.2.1.2.1
  have hnf := hs.2.2.1.1
  have hn120 := hs.2.2.1.2.1
  have hnsg := hs.2.2.2.2.1.1
  have hn20 := hs.2.2.2.2.1.2.1
  have hns := hs.2.2.2.2.2.1.1
  have hn5 := hs.2.2.2.2.2.1.2.1
  obtain ⟨nt, hnt9, h4t, hgt⟩ := u_gap hs
  have hw9 := u_shW hs
  have ht9 : t ≤ 512 := by omega
  obtain ⟨fpT, fpW, fpS, fpM, fp0⟩ := hfp
  obtain ⟨a1, ea1⟩ : ∃ z, z = xs (nI (5 * t) + 1).toNatClampNeg := ⟨_, rfl⟩
  obtain ⟨a2, ea2⟩ : ∃ z, z = xs (nI (5 * t) + 2).toNatClampNeg := ⟨_, rfl⟩
  refine lv_aload_n hx hb dL_law_965 rfl (lv_at hl 1 rfl) ?_
  refine lv_aload_n hx hb dL_law_966 rfl (lv_at hl 0 rfl) ?_
  refine lv_iload hx hb dL_law_967 (lv_at hl 5 rfl) ?_
  refine lv_iconst (v := 1) hx hb dL_law_969 (by decide) ?_
  refine lv_iadd hx hb dL_law_970 ?_
  refine va_sld hx hb hX hbl hbA hw.2.2.2.1 (show vp_in (nI (5 * t) + 1) n from lo_in (k := 1) hin hn9 (by decide)) dL_law_971 ?_
  rw [← ea1]
  refine lv_aload_n hx hb dL_law_972 rfl (lv_at hl 0 rfl) ?_
  refine lv_iload hx hb dL_law_973 (lv_at hl 5 rfl) ?_
  refine lv_iconst (v := 2) hx hb dL_law_975 (by decide) ?_
  refine lv_iadd hx hb dL_law_976 ?_
  refine va_sld hx hb hX hbl hbA hw.2.2.2.1 (show vp_in (nI (5 * t) + 2) n from lo_in (k := 2) hin hn9 (by decide)) dL_law_977 ?_
  rw [← ea2]
  refine lv_aload_n hx hb dL_law_978 rfl (lv_at hl 3 rfl) ?_
  refine m_ci (vx_runSW (As := [.ref x, .int a1, .int a2, .ref ao]) (rest := []) ⟨hx, hb, hml, hown, hts⟩ (c_L_word l hnt hs hka.1 hka.2) (vx_cwSW 4 hts gL_law_L_word rfl rfl rfl (by decide +kernel) ⟨Nat.le_of_ble_eq_true rfl, Nat.le_of_ble_eq_true rfl⟩) ⟨m_blind (fun U g mk a h => ⟨m_B_calling U g mk a h.1, c_str_calling U g mk a h.2⟩), fun U hU hW => ⟨rfl, m_wo_call hw hU hW, c_str_warm hW hcs⟩⟩ rfl rfl hl.1 rfl (lv_room (Nat.le_of_ble_eq_true rfl)) dL_law_979 ⟨lo_c (by omega), lo_s (by omega)⟩) hw (fun r1 u1 H locs hp1 hw => ?_)
  obtain ⟨K1, I1, R1, F1, A1, N1, L1, T1, J1, D1⟩ := u1
  try dsimp only at hp1
  obtain ⟨rfl, hq1, hs1, hfr1⟩ := hp1
  have hw : m_wo G K1 I1 R1 F1 A1 N1 L1 T1 J1 D1 s H locs := hw
  have hs1 : c_sim K1 I1 R1 N1 A1 L1 T1 x cd (if t_word Z a1 a2 = 0 then p_word (Z, M) a1 a2 else (Z, M)).1 (if t_word Z a1 a2 = 0 then p_word (Z, M) a1 a2 else (Z, M)).2 := hs1
  have hfr1 : c_fr K I R N A K1 I1 R1 N1 A1 := hfr1
  have hro1 := r_ok_fr hro hfr1
  have hz1 := r_st_fr hro hz hfr1
  have hka1 : K1 ao = 35 ∧ N1 ao = 1 := ⟨(hfr1 ao (by rw [hka.1]; simp [c_oth])).1.trans hka.1, (hfr1 ao (by rw [hka.1]; simp [c_oth])).2.1.trans hka.2⟩
  have hkd1 : K1 dd = 36 ∧ N1 dd = 1 := ⟨(hfr1 dd (by rw [hkd.1]; simp [c_oth])).1.trans hkd.1, (hfr1 dd (by rw [hkd.1]; simp [c_oth])).2.1.trans hkd.2⟩
  refine lv_istore (lv' := [(6, .int (t_word Z a1 a2)), (0, .ref b), (1, .ref x), (2, .ref o), (3, .ref ao), (4, .ref dd), (5, .int (nI (5 * t)))]) hx hb dL_law_982 hl (by decide) rfl (fun ls hl => ?_)
  refine lv_aload_n hx hb dL_law_984 rfl (lv_at hl 3 rfl) ?_
  refine lv_aload_n hx hb dL_law_985 rfl (lv_at hl 1 rfl) ?_
  refine lv_iload hx hb dL_law_986 (lv_at hl 6 rfl) ?_
  refine lv_iconst (v := 1) hx hb dL_law_988 (by decide) ?_
  refine lv_iadd hx hb dL_law_989 ?_
  refine va_sld hx hb hX hbl hbA hw.2.2.2.1 (show vp_in (nI (5 * t) + 1) n from lo_in (k := 1) hin hn9 (by decide)) dL_law_990 ?_
  rw [← ea1]
  refine lv_aload_n hx hb dL_law_991 rfl (lv_at hl 1 rfl) ?_
  refine lv_iload hx hb dL_law_992 (lv_at hl 6 rfl) ?_
  refine lv_iconst (v := 2) hx hb dL_law_994 (by decide) ?_
  refine lv_iadd hx hb dL_law_995 ?_
  refine va_sld hx hb hX hbl hbA hw.2.2.2.1 (show vp_in (nI (5 * t) + 2) n from lo_in (k := 2) hin hn9 (by decide)) dL_law_996 ?_
  rw [← ea2]
  refine m_ci (va_runV (As := [.int a1, .int a2]) (rest := []) ⟨hx, hb, hml, hown, hts⟩ (c_X9_word l a1 a2 hro1 hz1 hnt9 h4t) (cwV 2 hts gL_law_X9_word rfl rfl rfl (by decide +kernel) ⟨Nat.le_of_ble_eq_true rfl, Nat.le_of_ble_eq_true rfl⟩) ⟨m_blind m_B_calling, m_recv hw (m_ent_10 hro1.1) rfl, fun U hU hW => ⟨rfl, m_wo_call hw hU hW⟩⟩ rfl rfl hl.1 rfl (lv_room (Nat.le_of_ble_eq_true rfl)) dL_law_997 ⟨lo_c (by omega), lo_s (by omega)⟩) hw (fun r_997 u_997 H locs hp_997 hw => ?_)
  obtain ⟨I_1, A_2⟩ := u_997
  have hw : m_wo G K1 I_1 R1 F1 A_2 N1 L1 T1 J1 D1 s H locs := hw
  dsimp only at hp_997
  obtain ⟨hz2, hv2⟩ := hp_997
  refine lv_istore (lv' := [(7, .int r_997), (6, .int (t_word Z a1 a2)), (0, .ref b), (1, .ref x), (2, .ref o), (3, .ref ao), (4, .ref dd), (5, .int (nI (5 * t)))]) hx hb dL_law_1000 hl (by decide) rfl (fun ls hl => ?_)
  refine lv_aload_n hx hb dL_law_1002 rfl (lv_at hl 4 rfl) ?_
  refine m_ci (va_runV (As := []) (rest := []) ⟨hx, hb, hml, hown, hts⟩ (c_X9_thrown l hro1 (r_st_self hz2)) (cwV 0 hts gL_law_X9_thrown rfl rfl rfl (by decide +kernel) ⟨Nat.le_of_ble_eq_true rfl, Nat.le_of_ble_eq_true rfl⟩) ⟨m_blind m_B_calling, m_recv hw (m_ent_10 hro1.1) rfl, fun U hU hW => ⟨rfl, m_wo_call hw hU hW⟩⟩ rfl rfl hl.1 rfl (lv_room (Nat.le_of_ble_eq_true rfl)) dL_law_1003 ⟨lo_c (by omega), lo_s (by omega)⟩) hw (fun r_1003 u_1003 H locs hp_1003 hw => ?_)
  obtain rfl : r_1003 = (t_word Z a1 a2) := hp_1003
  refine lv_iload hx hb dL_law_1006 (lv_at hl 1 rfl) ?_
  refine lv_icmp_eq (tgt := 1013) hx hb dL_law_1008 (by decide) (fun _ => ?_) (fun cz => absurd rfl cz)
  have hK9 : W p l e room_1 s m #[Value.ref b] below meth c H locs (cells + 3 + 0 + 0) (slots + 18 + 0 + 0) Q (F0 m 1030 ls []) := by
    refine lv_goto (tgt := 2020) hx hb dL_law_1030 (by decide) ?_
    refine lv_iinc (v := (nI (5 * t)) + 5) (lv' := [(5, .int ((nI (5 * t)) + 5)), (7, .int r_997), (6, .int (t_word Z a1 a2)), (0, .ref b), (1, .ref x), (2, .ref o), (3, .ref ao), (4, .ref dd)]) hx hb dL_law_2020 hl (k := 7) rfl rfl (by decide) rfl (fun ls hl => ?_)
    refine lv_goto (tgt := 28) hx hb dL_law_2023 (by decide) ?_
    have hs2 := c_sim_ref hs1 hz2.2.2.1 hz2.2.2.2.1
    have hs3 := hs2
    have hf3 := (show w_f (if t_word Z a1 a2 = 0 then p_word (Z, M) a1 a2 else (Z, M)).1 (if t_word Z a1 a2 = 0 then p_word (Z, M) a1 a2 else (Z, M)).2 (t + 1) from w_ite hf (fun _ => w_word hf))
    rw [show nI (5 * t) + 5 = nI (5 * (t + 1)) from nI_add (5 * t) 5] at hl
    refine W.widen (k := cells + 600) (n := slots + 8300) (by omega) (by omega) ?_
    exact ih _ _ _ ⟨(K1, I_1, R1, F1, A_2, N1, L1, T1, J1, D1), cd, ad, _, _, _, hw, hs3, hro1, r_st_self hz2, hka1, hkd1, hf3, lv_sub hl [3, 4, 5, 6, 7, 0] rfl⟩
  refine lv_iload hx hb dL_law_1013 (lv_at hl 1 rfl) ?_
  refine lv_if_ne (tgt := 1030) hx hb dL_law_1015 (by decide) (fun _ => hK9) (fun c9 => ?_)
  obtain rfl : r_997 = Z 29 + 1 := hv2 c9
  refine lv_aload_n hx hb dL_law_1018 rfl (lv_at hl 5 rfl) ?_
  refine lv_iconst (v := 0) hx hb dL_law_1019 (by decide) ?_
  refine m_laload_35 hx hb hw hka1.1 (h_in hka1.2) dL_law_1020 ?_
  rw [show J1 ao (0 : Int32).toNatClampNeg = (Z 29 + 1).toInt64 from hq1 c9]
  refine lv_iload hx hb dL_law_1021 (lv_at hl 0 rfl) ?_
  refine lv_i2l (v := ((Z 29 + 1)).toInt64) hx hb dL_law_1023 rfl ?_
  refine lv_lcmp0 hx hb dL_law_1024 ?_
  refine lv_if_eq (tgt := 1030) hx hb dL_law_1025 (by decide) (fun _ => ?_) (fun cz => absurd rfl cz)
  exact hK9
set_option maxHeartbeats 1600000 in
set_option maxRecDepth 100000 in
theorem lo_wipe {p : Program} {l : Launch} {e : Env} {s : State} {m : MethodId} {below : List Frame} {meth : Method} {c : Code} {H : Heap} {locs : List Loc} {ls : Array Slot} {cells slots : Nat} {Q : State → Prop} {G : mG} {K : Nat → Nat} {I : Nat → Nat → Int32} {R : Nat → Nat → Option Nat} {F : Nat → UInt32} {A : Nat → Nat → Int32} {N : Nat → Nat} {L : Nat → List Nat} {T : Nat → List Int32} {J : Nat → Nat → Int64} {D : Nat → Nat → UInt64} {b n : Nat} {xs : Nat → Int32} {x o ao dd t : Nat} {cd ad : Nat → Nat} {Z : mZ} {M : mM} {th : Int32} (C : lw_cx p l s m c b n xs G) (hfp : f_all) (hw : m_wo G K I R F A N L T J D s H locs) (hs : c_sim K I R N A L T x cd Z M) (hro : r_ok K R N o ad) (hz : r_st K o ad I A I A Z M th) (hka : K ao = 35 ∧ N ao = 1) (hkd : K dd = 36 ∧ N dd = 1) (hf : w_f Z M t) (ht : t < 512) (hin : 5 * t + 5 ≤ n) (hl : lv_has ls 10 [(0, .ref b), (1, .ref x), (2, .ref o), (3, .ref ao), (4, .ref dd), (5, .int (nI (5 * t)))]) (hc9 : cells + 600 ≤ 603072) (hs9 : slots + 8300 ≤ 7211114) (ih : ∀ (H : Heap) (locs : List Loc) (ls : Array Slot), lw_I G s b x o ao dd (t + 1) H locs ls → W p l e room_1 s m #[Value.ref b] below meth c H locs (cells + 600) (slots + 8300) Q (F0 m 28 ls [])) : W p l e room_1 s m #[Value.ref b] below meth c H locs cells slots Q (F0 m 1033 ls []) := by
  obtain ⟨hx, hb, hml, hown, hts, hX, hbl, hbA, hnt, hcs, hn9⟩ := C
  have hni := hs.2.1.1
  have hn12 := hs.2.1.2.1
  have hnf := hs.2.2.1.1
  have hn120 := hs.2.2.1.2.1
  have hnsg := hs.2.2.2.2.1.1
  have hn20 := hs.2.2.2.2.1.2.1
  have hns := hs.2.2.2.2.2.1.1
  have hn5 := hs.2.2.2.2.2.1.2.1
  obtain ⟨nt, hnt9, h4t, hgt⟩ := u_gap hs
  have hw9 := u_shW hs
  have ht9 : t ≤ 512 := by omega
  obtain ⟨fpT, fpW, fpS, fpM, fp0⟩ := hfp
  refine lv_aload_n hx hb dL_law_1033 rfl (lv_at hl 1 rfl) ?_
  refine m_ci (va_runV (As := []) (rest := []) ⟨hx, hb, hml, hown, hts⟩ (c_X8_wipe l hs) (cwV 0 hts gL_law_X8_wipe rfl rfl rfl (by decide +kernel) ⟨Nat.le_of_ble_eq_true rfl, Nat.le_of_ble_eq_true rfl⟩) ⟨m_blind m_B_calling, m_recv hw (m_ent_9 hs.1.1) rfl, fun U hU hW => ⟨rfl, m_wo_call hw hU hW⟩⟩ rfl rfl hl.1 rfl (lv_room (Nat.le_of_ble_eq_true rfl)) dL_law_1034 ⟨lo_c (by omega), lo_s (by omega)⟩) hw (fun r_1034 u_1034 H locs hp_1034 hw => ?_)
  have hw : m_wo G K u_1034 R F A N L T J D s H locs := hw
  obtain ⟨rfl, hs1, hfr1⟩ := hp_1034
  have hro1 := r_ok_fr hro hfr1
  have hz1 := r_st_fr hro hz hfr1
  have hka1 : K ao = 35 ∧ N ao = 1 := ⟨(hfr1 ao (by rw [hka.1]; simp [c_oth])).1.trans hka.1, (hfr1 ao (by rw [hka.1]; simp [c_oth])).2.1.trans hka.2⟩
  have hkd1 : K dd = 36 ∧ N dd = 1 := ⟨(hfr1 dd (by rw [hkd.1]; simp [c_oth])).1.trans hkd.1, (hfr1 dd (by rw [hkd.1]; simp [c_oth])).2.1.trans hkd.2⟩
  refine lv_aload_n hx hb dL_law_1037 rfl (lv_at hl 2 rfl) ?_
  refine m_ci (va_runV (As := []) (rest := [.int (Z 29)]) ⟨hx, hb, hml, hown, hts⟩ (c_X9_wipe l hro1 hz1) (cwV 0 hts gL_law_X9_wipe rfl rfl rfl (by decide +kernel) ⟨Nat.le_of_ble_eq_true rfl, Nat.le_of_ble_eq_true rfl⟩) ⟨m_blind m_B_calling, m_recv hw (m_ent_10 hro1.1) rfl, fun U hU hW => ⟨rfl, m_wo_call hw hU hW⟩⟩ rfl rfl hl.1 rfl (lv_room (Nat.le_of_ble_eq_true rfl)) dL_law_1038 ⟨lo_c (by omega), lo_s (by omega)⟩) hw (fun r_1038 u_1038 H locs hp_1038 hw => ?_)
  obtain ⟨I_2, A_3⟩ := u_1038
  have hw : m_wo G K I_2 R F A_3 N L T J D s H locs := hw
  dsimp only at hp_1038
  obtain ⟨hz2, rfl⟩ := hp_1038
  refine lv_icmp_eq (tgt := 2020) hx hb dL_law_1041 (by decide) (fun _ => ?_) (fun cz => absurd rfl cz)
  refine lv_iinc (v := (nI (5 * t)) + 5) (lv' := [(5, .int ((nI (5 * t)) + 5)), (0, .ref b), (1, .ref x), (2, .ref o), (3, .ref ao), (4, .ref dd)]) hx hb dL_law_2020 hl (k := 5) rfl rfl (by decide) rfl (fun ls hl => ?_)
  refine lv_goto (tgt := 28) hx hb dL_law_2023 (by decide) ?_
  have hs2 := c_sim_ref hs1 hz2.2.2.1 hz2.2.2.2.1
  have hs3 := hs2
  have hf3 := (show w_f (z1 Z 29 0, M).1 (z1 Z 29 0, M).2 (t + 1) from w_wipe hf)
  rw [show nI (5 * t) + 5 = nI (5 * (t + 1)) from nI_add (5 * t) 5] at hl
  refine W.widen (k := cells + 600) (n := slots + 8300) (by omega) (by omega) ?_
  exact ih _ _ _ ⟨(K, I_2, R, F, A_3, N, L, T, J, D), cd, ad, _, _, _, hw, hs3, hro1, r_st_self hz2, hka1, hkd1, hf3, lv_sub hl [1, 2, 3, 4, 5, 0] rfl⟩
set_option maxHeartbeats 1600000 in
set_option maxRecDepth 100000 in
theorem lo_hits {p : Program} {l : Launch} {e : Env} {s : State} {m : MethodId} {below : List Frame} {meth : Method} {c : Code} {H : Heap} {locs : List Loc} {ls : Array Slot} {cells slots : Nat} {Q : State → Prop} {G : mG} {K : Nat → Nat} {I : Nat → Nat → Int32} {R : Nat → Nat → Option Nat} {F : Nat → UInt32} {A : Nat → Nat → Int32} {N : Nat → Nat} {L : Nat → List Nat} {T : Nat → List Int32} {J : Nat → Nat → Int64} {D : Nat → Nat → UInt64} {b n : Nat} {xs : Nat → Int32} {x o ao dd t : Nat} {cd ad : Nat → Nat} {Z : mZ} {M : mM} {th : Int32} (C : lw_cx p l s m c b n xs G) (hfp : f_all) (hw : m_wo G K I R F A N L T J D s H locs) (hs : c_sim K I R N A L T x cd Z M) (hro : r_ok K R N o ad) (hz : r_st K o ad I A I A Z M th) (hka : K ao = 35 ∧ N ao = 1) (hkd : K dd = 36 ∧ N dd = 1) (hf : w_f Z M t) (ht : t < 512) (hin : 5 * t + 5 ≤ n) (hl : lv_has ls 10 [(0, .ref b), (1, .ref x), (2, .ref o), (3, .ref ao), (4, .ref dd), (5, .int (nI (5 * t)))]) (hc9 : cells + 600 ≤ 603072) (hs9 : slots + 8300 ≤ 7211114) (ih : ∀ (H : Heap) (locs : List Loc) (ls : Array Slot), lw_I G s b x o ao dd (t + 1) H locs ls → W p l e room_1 s m #[Value.ref b] below meth c H locs (cells + 600) (slots + 8300) Q (F0 m 28 ls [])) : W p l e room_1 s m #[Value.ref b] below meth c H locs cells slots Q (F0 m 1046 ls []) := by
  obtain ⟨hx, hb, hml, hown, hts, hX, hbl, hbA, hnt, hcs, hn9⟩ := C
  have hni := hs.2.1.1
  have hn12 := hs.2.1.2.1
  have hnf := hs.2.2.1.1
  have hn120 := hs.2.2.1.2.1
  have hnsg := hs.2.2.2.2.1.1
  have hn20 := hs.2.2.2.2.1.2.1
  have hns := hs.2.2.2.2.2.1.1
  have hn5 := hs.2.2.2.2.2.1.2.1
  obtain ⟨nt, hnt9, h4t, hgt⟩ := u_gap hs
  have hw9 := u_shW hs
  have ht9 : t ≤ 512 := by omega
  obtain ⟨fpT, fpW, fpS, fpM, fp0⟩ := hfp
  refine lv_aload_n hx hb dL_law_1046 rfl (lv_at hl 1 rfl) ?_
  refine lv_aload_n hx hb dL_law_1047 rfl (lv_at hl 3 rfl) ?_
  refine m_ci (vx_runSW (As := [.ref x, .ref ao]) (rest := []) ⟨hx, hb, hml, hown, hts⟩ (c_L_hits l hnt hs (fun i => o_hitT_lt hnf hn120 hnt9 h4t i) hka.1 hka.2) (vx_cwSW 2 hts gL_law_L_hits rfl rfl rfl (by decide +kernel) ⟨Nat.le_of_ble_eq_true rfl, Nat.le_of_ble_eq_true rfl⟩) ⟨m_blind (fun U g mk a h => ⟨m_B_calling U g mk a h.1, c_str_calling U g mk a h.2⟩), fun U hU hW => ⟨rfl, m_wo_call hw hU hW, c_str_warm hW hcs⟩⟩ rfl rfl hl.1 rfl (lv_room (Nat.le_of_ble_eq_true rfl)) dL_law_1048 ⟨lo_c (by omega), lo_s (by omega)⟩) hw (fun r1 u1 H locs hp1 hw => ?_)
  obtain ⟨K1, I1, R1, F1, A1, N1, L1, T1, J1, D1⟩ := u1
  try dsimp only at hp1
  obtain ⟨rfl, hq1, hs1, hfr1⟩ := hp1
  have hw : m_wo G K1 I1 R1 F1 A1 N1 L1 T1 J1 D1 s H locs := hw
  have hs1 : c_sim K1 I1 R1 N1 A1 L1 T1 x cd (Z, M).1 (Z, M).2 := hs1
  have hfr1 : c_fr K I R N A K1 I1 R1 N1 A1 := hfr1
  have hro1 := r_ok_fr hro hfr1
  have hz1 := r_st_fr hro hz hfr1
  have hka1 : K1 ao = 35 ∧ N1 ao = 1 := ⟨(hfr1 ao (by rw [hka.1]; simp [c_oth])).1.trans hka.1, (hfr1 ao (by rw [hka.1]; simp [c_oth])).2.1.trans hka.2⟩
  have hkd1 : K1 dd = 36 ∧ N1 dd = 1 := ⟨(hfr1 dd (by rw [hkd.1]; simp [c_oth])).1.trans hkd.1, (hfr1 dd (by rw [hkd.1]; simp [c_oth])).2.1.trans hkd.2⟩
  refine lv_istore (lv' := [(6, .int (t_b (decide (0 < Z 29)))), (0, .ref b), (1, .ref x), (2, .ref o), (3, .ref ao), (4, .ref dd), (5, .int (nI (5 * t)))]) hx hb dL_law_1051 hl (by decide) rfl (fun ls hl => ?_)
  refine lv_aload_n hx hb dL_law_1053 rfl (lv_at hl 3 rfl) ?_
  refine m_ci (va_runV (As := []) (rest := []) ⟨hx, hb, hml, hown, hts⟩ (c_X9_hits l hro1 hz1 hnf hn120 hni hn12 hnt9 h4t hgt (fun i => o_hitT_lt hnf hn120 hnt9 h4t i)) (cwV 0 hts gL_law_X9_hits rfl rfl rfl (by decide +kernel) ⟨Nat.le_of_ble_eq_true rfl, Nat.le_of_ble_eq_true rfl⟩) ⟨m_blind m_B_calling, m_recv hw (m_ent_10 hro1.1) rfl, fun U hU hW => ⟨rfl, m_wo_call hw hU hW⟩⟩ rfl rfl hl.1 rfl (lv_room (Nat.le_of_ble_eq_true rfl)) dL_law_1054 ⟨lo_c (by omega), lo_s (by omega)⟩) hw (fun r_1054 u_1054 H locs hp_1054 hw => ?_)
  obtain ⟨I_1, A_2⟩ := u_1054
  have hw : m_wo G K1 I_1 R1 F1 A_2 N1 L1 T1 J1 D1 s H locs := hw
  dsimp only at hp_1054
  obtain ⟨⟨Z2, M2, hz2, hsc2⟩, hv2⟩ := hp_1054
  refine lv_istore (lv' := [(7, .int r_1054), (6, .int (t_b (decide (0 < Z 29)))), (0, .ref b), (1, .ref x), (2, .ref o), (3, .ref ao), (4, .ref dd), (5, .int (nI (5 * t)))]) hx hb dL_law_1057 hl (by decide) rfl (fun ls hl => ?_)
  refine lv_aload_n hx hb dL_law_1059 rfl (lv_at hl 4 rfl) ?_
  refine m_ci (va_runV (As := []) (rest := []) ⟨hx, hb, hml, hown, hts⟩ (c_X9_thrown l hro1 (r_st_self hz2)) (cwV 0 hts gL_law_X9_thrown rfl rfl rfl (by decide +kernel) ⟨Nat.le_of_ble_eq_true rfl, Nat.le_of_ble_eq_true rfl⟩) ⟨m_blind m_B_calling, m_recv hw (m_ent_10 hro1.1) rfl, fun U hU hW => ⟨rfl, m_wo_call hw hU hW⟩⟩ rfl rfl hl.1 rfl (lv_room (Nat.le_of_ble_eq_true rfl)) dL_law_1060 ⟨lo_c (by omega), lo_s (by omega)⟩) hw (fun r_1060 u_1060 H locs hp_1060 hw => ?_)
  obtain rfl : r_1060 = (t_b (decide (0 < Z 29))) := hp_1060
  refine lv_iload hx hb dL_law_1063 (lv_at hl 1 rfl) ?_
  refine lv_icmp_eq (tgt := 1070) hx hb dL_law_1065 (by decide) (fun _ => ?_) (fun cz => absurd rfl cz)
  have hK9 : W p l e room_1 s m #[Value.ref b] below meth c H locs (cells + 1 + 0 + 0) (slots + 6 + 0 + 0) Q (F0 m 1087 ls []) := by
    refine lv_goto (tgt := 2020) hx hb dL_law_1087 (by decide) ?_
    refine lv_iinc (v := (nI (5 * t)) + 5) (lv' := [(5, .int ((nI (5 * t)) + 5)), (7, .int r_1054), (6, .int (t_b (decide (0 < Z 29)))), (0, .ref b), (1, .ref x), (2, .ref o), (3, .ref ao), (4, .ref dd)]) hx hb dL_law_2020 hl (k := 7) rfl rfl (by decide) rfl (fun ls hl => ?_)
    refine lv_goto (tgt := 28) hx hb dL_law_2023 (by decide) ?_
    have hs2 := c_sim_ref hs1 hz2.2.2.1 hz2.2.2.2.1
    have hs3 := c_sim_sc hs2 hsc2
    have hf3 := w_f_sc ((show w_f (Z, M).1 (Z, M).2 (t + 1) from w_same hf)) hsc2
    rw [show nI (5 * t) + 5 = nI (5 * (t + 1)) from nI_add (5 * t) 5] at hl
    refine W.widen (k := cells + 600) (n := slots + 8300) (by omega) (by omega) ?_
    exact ih _ _ _ ⟨(K1, I_1, R1, F1, A_2, N1, L1, T1, J1, D1), cd, ad, _, _, _, hw, hs3, hro1, r_st_self hz2, hka1, hkd1, hf3, lv_sub hl [3, 4, 5, 6, 7, 0] rfl⟩
  refine lv_iload hx hb dL_law_1070 (lv_at hl 1 rfl) ?_
  refine lv_if_ne (tgt := 1087) hx hb dL_law_1072 (by decide) (fun _ => hK9) (fun c9 => ?_)
  obtain rfl : r_1054 = nI (cntB (fun f => decide (0 < o_hitT Z M (nI f))) (L (cd 0)).length) := hv2 c9
  refine lv_aload_n hx hb dL_law_1075 rfl (lv_at hl 5 rfl) ?_
  refine lv_iconst (v := 0) hx hb dL_law_1076 (by decide) ?_
  refine m_laload_35 hx hb hw hka1.1 (h_in hka1.2) dL_law_1077 ?_
  rw [show J1 ao (0 : Int32).toNatClampNeg = (nI (cntB (fun f => decide (0 < o_hitT Z M (nI f))) (L (cd 0)).length)).toInt64 from hq1 c9]
  refine lv_iload hx hb dL_law_1078 (lv_at hl 0 rfl) ?_
  refine lv_i2l (v := ((nI (cntB (fun f => decide (0 < o_hitT Z M (nI f))) (L (cd 0)).length))).toInt64) hx hb dL_law_1080 rfl ?_
  refine lv_lcmp0 hx hb dL_law_1081 ?_
  refine lv_if_eq (tgt := 1087) hx hb dL_law_1082 (by decide) (fun _ => ?_) (fun cz => absurd rfl cz)
  exact hK9
set_option maxHeartbeats 1600000 in
set_option maxRecDepth 100000 in
theorem lo_hit {p : Program} {l : Launch} {e : Env} {s : State} {m : MethodId} {below : List Frame} {meth : Method} {c : Code} {H : Heap} {locs : List Loc} {ls : Array Slot} {cells slots : Nat} {Q : State → Prop} {G : mG} {K : Nat → Nat} {I : Nat → Nat → Int32} {R : Nat → Nat → Option Nat} {F : Nat → UInt32} {A : Nat → Nat → Int32} {N : Nat → Nat} {L : Nat → List Nat} {T : Nat → List Int32} {J : Nat → Nat → Int64} {D : Nat → Nat → UInt64} {b n : Nat} {xs : Nat → Int32} {x o ao dd t : Nat} {cd ad : Nat → Nat} {Z : mZ} {M : mM} {th : Int32} (C : lw_cx p l s m c b n xs G) (hfp : f_all) (hw : m_wo G K I R F A N L T J D s H locs) (hs : c_sim K I R N A L T x cd Z M) (hro : r_ok K R N o ad) (hz : r_st K o ad I A I A Z M th) (hka : K ao = 35 ∧ N ao = 1) (hkd : K dd = 36 ∧ N dd = 1) (hf : w_f Z M t) (ht : t < 512) (hin : 5 * t + 5 ≤ n) (hl : lv_has ls 10 [(0, .ref b), (1, .ref x), (2, .ref o), (3, .ref ao), (4, .ref dd), (5, .int (nI (5 * t)))]) (hc9 : cells + 600 ≤ 603072) (hs9 : slots + 8300 ≤ 7211114) (ih : ∀ (H : Heap) (locs : List Loc) (ls : Array Slot), lw_I G s b x o ao dd (t + 1) H locs ls → W p l e room_1 s m #[Value.ref b] below meth c H locs (cells + 600) (slots + 8300) Q (F0 m 28 ls [])) : W p l e room_1 s m #[Value.ref b] below meth c H locs cells slots Q (F0 m 1090 ls []) := by
  obtain ⟨hx, hb, hml, hown, hts, hX, hbl, hbA, hnt, hcs, hn9⟩ := C
  have hni := hs.2.1.1
  have hn12 := hs.2.1.2.1
  have hnf := hs.2.2.1.1
  have hn120 := hs.2.2.1.2.1
  have hnsg := hs.2.2.2.2.1.1
  have hn20 := hs.2.2.2.2.1.2.1
  have hns := hs.2.2.2.2.2.1.1
  have hn5 := hs.2.2.2.2.2.1.2.1
  obtain ⟨nt, hnt9, h4t, hgt⟩ := u_gap hs
  have hw9 := u_shW hs
  have ht9 : t ≤ 512 := by omega
  obtain ⟨fpT, fpW, fpS, fpM, fp0⟩ := hfp
  obtain ⟨a1, ea1⟩ : ∃ z, z = xs (nI (5 * t) + 1).toNatClampNeg := ⟨_, rfl⟩
  obtain ⟨a2, ea2⟩ : ∃ z, z = xs (nI (5 * t) + 2).toNatClampNeg := ⟨_, rfl⟩
  have hfpT := fun z : 0 < Z 29 => fpT Z M (L (cd 1)).length (L (cd 0)).length nt hnf hn120 hni hn12 hnt9 h4t (u_pos hnt9 h4t z) (u_12 hs hf)
  refine lv_aload_n hx hb dL_law_1090 rfl (lv_at hl 1 rfl) ?_
  refine lv_aload_n hx hb dL_law_1091 rfl (lv_at hl 0 rfl) ?_
  refine lv_iload hx hb dL_law_1092 (lv_at hl 5 rfl) ?_
  refine lv_iconst (v := 1) hx hb dL_law_1094 (by decide) ?_
  refine lv_iadd hx hb dL_law_1095 ?_
  refine va_sld hx hb hX hbl hbA hw.2.2.2.1 (show vp_in (nI (5 * t) + 1) n from lo_in (k := 1) hin hn9 (by decide)) dL_law_1096 ?_
  rw [← ea1]
  refine lv_aload_n hx hb dL_law_1097 rfl (lv_at hl 0 rfl) ?_
  refine lv_iload hx hb dL_law_1098 (lv_at hl 5 rfl) ?_
  refine lv_iconst (v := 2) hx hb dL_law_1100 (by decide) ?_
  refine lv_iadd hx hb dL_law_1101 ?_
  refine va_sld hx hb hX hbl hbA hw.2.2.2.1 (show vp_in (nI (5 * t) + 2) n from lo_in (k := 2) hin hn9 (by decide)) dL_law_1102 ?_
  rw [← ea2]
  refine lv_aload_n hx hb dL_law_1103 rfl (lv_at hl 3 rfl) ?_
  refine m_ci (vx_runSW (As := [.ref x, .int a1, .int a2, .ref ao]) (rest := []) ⟨hx, hb, hml, hown, hts⟩ (c_L_hit l hnt hs hnt9 h4t (u_12 hs hf) (fun z => (hfpT z).1) (fun z => (hfpT z).2.1) (fun s9 t9 _ _ => u_far hf s9 t9) hka.1 hka.2) (vx_cwSW 4 hts gL_law_L_hit rfl rfl rfl (by decide +kernel) ⟨Nat.le_of_ble_eq_true rfl, Nat.le_of_ble_eq_true rfl⟩) ⟨m_blind (fun U g mk a h => ⟨m_B_calling U g mk a h.1, c_str_calling U g mk a h.2⟩), fun U hU hW => ⟨rfl, m_wo_call hw hU hW, c_str_warm hW hcs⟩⟩ rfl rfl hl.1 rfl (lv_room (Nat.le_of_ble_eq_true rfl)) dL_law_1104 ⟨lo_c (by omega), lo_s (by omega)⟩) hw (fun r1 u1 H locs hp1 hw => ?_)
  obtain ⟨K1, I1, R1, F1, A1, N1, L1, T1, J1, D1⟩ := u1
  try dsimp only at hp1
  obtain ⟨rfl, hq1, hs1, hfr1⟩ := hp1
  have hw : m_wo G K1 I1 R1 F1 A1 N1 L1 T1 J1 D1 s H locs := hw
  have hs1 : c_sim K1 I1 R1 N1 A1 L1 T1 x cd (Z, M).1 (Z, M).2 := hs1
  have hfr1 : c_fr K I R N A K1 I1 R1 N1 A1 := hfr1
  have hro1 := r_ok_fr hro hfr1
  have hz1 := r_st_fr hro hz hfr1
  have hka1 : K1 ao = 35 ∧ N1 ao = 1 := ⟨(hfr1 ao (by rw [hka.1]; simp [c_oth])).1.trans hka.1, (hfr1 ao (by rw [hka.1]; simp [c_oth])).2.1.trans hka.2⟩
  have hkd1 : K1 dd = 36 ∧ N1 dd = 1 := ⟨(hfr1 dd (by rw [hkd.1]; simp [c_oth])).1.trans hkd.1, (hfr1 dd (by rw [hkd.1]; simp [c_oth])).2.1.trans hkd.2⟩
  refine lv_istore (lv' := [(6, .int (t_hit Z M (L (cd 1)).length (L (cd 0)).length nt a1 a2)), (0, .ref b), (1, .ref x), (2, .ref o), (3, .ref ao), (4, .ref dd), (5, .int (nI (5 * t)))]) hx hb dL_law_1107 hl (by decide) rfl (fun ls hl => ?_)
  refine lv_aload_n hx hb dL_law_1109 rfl (lv_at hl 3 rfl) ?_
  refine lv_aload_n hx hb dL_law_1110 rfl (lv_at hl 1 rfl) ?_
  refine lv_iload hx hb dL_law_1111 (lv_at hl 6 rfl) ?_
  refine lv_iconst (v := 1) hx hb dL_law_1113 (by decide) ?_
  refine lv_iadd hx hb dL_law_1114 ?_
  refine va_sld hx hb hX hbl hbA hw.2.2.2.1 (show vp_in (nI (5 * t) + 1) n from lo_in (k := 1) hin hn9 (by decide)) dL_law_1115 ?_
  rw [← ea1]
  refine lv_aload_n hx hb dL_law_1116 rfl (lv_at hl 1 rfl) ?_
  refine lv_iload hx hb dL_law_1117 (lv_at hl 6 rfl) ?_
  refine lv_iconst (v := 2) hx hb dL_law_1119 (by decide) ?_
  refine lv_iadd hx hb dL_law_1120 ?_
  refine va_sld hx hb hX hbl hbA hw.2.2.2.1 (show vp_in (nI (5 * t) + 2) n from lo_in (k := 2) hin hn9 (by decide)) dL_law_1121 ?_
  rw [← ea2]
  refine m_ci (va_runV (As := [.int a1, .int a2]) (rest := []) ⟨hx, hb, hml, hown, hts⟩ (c_X9_hit l a1 a2 hro1 hz1 hnf hn120 hni hn12 hnt9 h4t hgt (fun i => o_hitT_lt hnf hn120 hnt9 h4t i) hns hn5 (fun z => (hfpT z).1) hw9) (cwV 2 hts gL_law_X9_hit rfl rfl rfl (by decide +kernel) ⟨Nat.le_of_ble_eq_true rfl, Nat.le_of_ble_eq_true rfl⟩) ⟨m_blind m_B_calling, m_recv hw (m_ent_10 hro1.1) rfl, fun U hU hW => ⟨rfl, m_wo_call hw hU hW⟩⟩ rfl rfl hl.1 rfl (lv_room (Nat.le_of_ble_eq_true rfl)) dL_law_1122 ⟨lo_c (by omega), lo_s (by omega)⟩) hw (fun r_1122 u_1122 H locs hp_1122 hw => ?_)
  obtain ⟨I_1, A_2⟩ := u_1122
  have hw : m_wo G K1 I_1 R1 F1 A_2 N1 L1 T1 J1 D1 s H locs := hw
  dsimp only at hp_1122
  obtain ⟨⟨Z2, M2, hz2, hsc2⟩, hv2⟩ := hp_1122
  refine lv_istore (lv' := [(7, .int r_1122), (6, .int (t_hit Z M (L (cd 1)).length (L (cd 0)).length nt a1 a2)), (0, .ref b), (1, .ref x), (2, .ref o), (3, .ref ao), (4, .ref dd), (5, .int (nI (5 * t)))]) hx hb dL_law_1125 hl (by decide) rfl (fun ls hl => ?_)
  refine lv_aload_n hx hb dL_law_1127 rfl (lv_at hl 4 rfl) ?_
  refine m_ci (va_runV (As := []) (rest := []) ⟨hx, hb, hml, hown, hts⟩ (c_X9_thrown l hro1 (r_st_self hz2)) (cwV 0 hts gL_law_X9_thrown rfl rfl rfl (by decide +kernel) ⟨Nat.le_of_ble_eq_true rfl, Nat.le_of_ble_eq_true rfl⟩) ⟨m_blind m_B_calling, m_recv hw (m_ent_10 hro1.1) rfl, fun U hU hW => ⟨rfl, m_wo_call hw hU hW⟩⟩ rfl rfl hl.1 rfl (lv_room (Nat.le_of_ble_eq_true rfl)) dL_law_1128 ⟨lo_c (by omega), lo_s (by omega)⟩) hw (fun r_1128 u_1128 H locs hp_1128 hw => ?_)
  obtain rfl : r_1128 = (t_hit Z M (L (cd 1)).length (L (cd 0)).length nt a1 a2) := hp_1128
  refine lv_iload hx hb dL_law_1131 (lv_at hl 1 rfl) ?_
  refine lv_icmp_eq (tgt := 1138) hx hb dL_law_1133 (by decide) (fun _ => ?_) (fun cz => absurd rfl cz)
  have hK9 : W p l e room_1 s m #[Value.ref b] below meth c H locs (cells + 3 + 0 + 0) (slots + 18 + 0 + 0) Q (F0 m 1155 ls []) := by
    refine lv_goto (tgt := 2020) hx hb dL_law_1155 (by decide) ?_
    refine lv_iinc (v := (nI (5 * t)) + 5) (lv' := [(5, .int ((nI (5 * t)) + 5)), (7, .int r_1122), (6, .int (t_hit Z M (L (cd 1)).length (L (cd 0)).length nt a1 a2)), (0, .ref b), (1, .ref x), (2, .ref o), (3, .ref ao), (4, .ref dd)]) hx hb dL_law_2020 hl (k := 7) rfl rfl (by decide) rfl (fun ls hl => ?_)
    refine lv_goto (tgt := 28) hx hb dL_law_2023 (by decide) ?_
    have hs2 := c_sim_ref hs1 hz2.2.2.1 hz2.2.2.2.1
    have hs3 := c_sim_sc hs2 hsc2
    have hf3 := w_f_sc ((show w_f (Z, M).1 (Z, M).2 (t + 1) from w_same hf)) hsc2
    rw [show nI (5 * t) + 5 = nI (5 * (t + 1)) from nI_add (5 * t) 5] at hl
    refine W.widen (k := cells + 600) (n := slots + 8300) (by omega) (by omega) ?_
    exact ih _ _ _ ⟨(K1, I_1, R1, F1, A_2, N1, L1, T1, J1, D1), cd, ad, _, _, _, hw, hs3, hro1, r_st_self hz2, hka1, hkd1, hf3, lv_sub hl [3, 4, 5, 6, 7, 0] rfl⟩
  refine lv_iload hx hb dL_law_1138 (lv_at hl 1 rfl) ?_
  refine lv_if_ne (tgt := 1155) hx hb dL_law_1140 (by decide) (fun _ => hK9) (fun c9 => ?_)
  obtain rfl : r_1122 = o_rank Z M (L (cd 1)).length (L (cd 0)).length nt a1.toNatClampNeg a2 (L (cd 0)).length := hv2 c9
  refine lv_aload_n hx hb dL_law_1143 rfl (lv_at hl 5 rfl) ?_
  refine lv_iconst (v := 0) hx hb dL_law_1144 (by decide) ?_
  refine m_laload_35 hx hb hw hka1.1 (h_in hka1.2) dL_law_1145 ?_
  rw [show J1 ao (0 : Int32).toNatClampNeg = (o_rank Z M (L (cd 1)).length (L (cd 0)).length nt a1.toNatClampNeg a2 (L (cd 0)).length).toInt64 from hq1 c9]
  refine lv_iload hx hb dL_law_1146 (lv_at hl 0 rfl) ?_
  refine lv_i2l (v := ((o_rank Z M (L (cd 1)).length (L (cd 0)).length nt a1.toNatClampNeg a2 (L (cd 0)).length)).toInt64) hx hb dL_law_1148 rfl ?_
  refine lv_lcmp0 hx hb dL_law_1149 ?_
  refine lv_if_eq (tgt := 1155) hx hb dL_law_1150 (by decide) (fun _ => ?_) (fun cz => absurd rfl cz)
  exact hK9
set_option maxHeartbeats 1600000 in
set_option maxRecDepth 100000 in
theorem lo_count {p : Program} {l : Launch} {e : Env} {s : State} {m : MethodId} {below : List Frame} {meth : Method} {c : Code} {H : Heap} {locs : List Loc} {ls : Array Slot} {cells slots : Nat} {Q : State → Prop} {G : mG} {K : Nat → Nat} {I : Nat → Nat → Int32} {R : Nat → Nat → Option Nat} {F : Nat → UInt32} {A : Nat → Nat → Int32} {N : Nat → Nat} {L : Nat → List Nat} {T : Nat → List Int32} {J : Nat → Nat → Int64} {D : Nat → Nat → UInt64} {b n : Nat} {xs : Nat → Int32} {x o ao dd t : Nat} {cd ad : Nat → Nat} {Z : mZ} {M : mM} {th : Int32} (C : lw_cx p l s m c b n xs G) (hfp : f_all) (hw : m_wo G K I R F A N L T J D s H locs) (hs : c_sim K I R N A L T x cd Z M) (hro : r_ok K R N o ad) (hz : r_st K o ad I A I A Z M th) (hka : K ao = 35 ∧ N ao = 1) (hkd : K dd = 36 ∧ N dd = 1) (hf : w_f Z M t) (ht : t < 512) (hin : 5 * t + 5 ≤ n) (hl : lv_has ls 10 [(0, .ref b), (1, .ref x), (2, .ref o), (3, .ref ao), (4, .ref dd), (5, .int (nI (5 * t)))]) (hc9 : cells + 600 ≤ 603072) (hs9 : slots + 8300 ≤ 7211114) (ih : ∀ (H : Heap) (locs : List Loc) (ls : Array Slot), lw_I G s b x o ao dd (t + 1) H locs ls → W p l e room_1 s m #[Value.ref b] below meth c H locs (cells + 600) (slots + 8300) Q (F0 m 28 ls [])) : W p l e room_1 s m #[Value.ref b] below meth c H locs cells slots Q (F0 m 1158 ls []) := by
  obtain ⟨hx, hb, hml, hown, hts, hX, hbl, hbA, hnt, hcs, hn9⟩ := C
  have hni := hs.2.1.1
  have hn12 := hs.2.1.2.1
  have hnf := hs.2.2.1.1
  have hn120 := hs.2.2.1.2.1
  have hnsg := hs.2.2.2.2.1.1
  have hn20 := hs.2.2.2.2.1.2.1
  have hns := hs.2.2.2.2.2.1.1
  have hn5 := hs.2.2.2.2.2.1.2.1
  obtain ⟨nt, hnt9, h4t, hgt⟩ := u_gap hs
  have hw9 := u_shW hs
  have ht9 : t ≤ 512 := by omega
  obtain ⟨fpT, fpW, fpS, fpM, fp0⟩ := hfp
  obtain ⟨a1, ea1⟩ : ∃ z, z = xs (nI (5 * t) + 1).toNatClampNeg := ⟨_, rfl⟩
  refine lv_aload_n hx hb dL_law_1158 rfl (lv_at hl 1 rfl) ?_
  refine lv_aload_n hx hb dL_law_1159 rfl (lv_at hl 0 rfl) ?_
  refine lv_iload hx hb dL_law_1160 (lv_at hl 5 rfl) ?_
  refine lv_iconst (v := 1) hx hb dL_law_1162 (by decide) ?_
  refine lv_iadd hx hb dL_law_1163 ?_
  refine va_sld hx hb hX hbl hbA hw.2.2.2.1 (show vp_in (nI (5 * t) + 1) n from lo_in (k := 1) hin hn9 (by decide)) dL_law_1164 ?_
  rw [← ea1]
  refine lv_aload_n hx hb dL_law_1165 rfl (lv_at hl 3 rfl) ?_
  refine m_ci (vx_runSW (As := [.ref x, .int a1, .ref ao]) (rest := []) ⟨hx, hb, hml, hown, hts⟩ (c_L_count l hnt hs hka.1 hka.2) (vx_cwSW 3 hts gL_law_L_count rfl rfl rfl (by decide +kernel) ⟨Nat.le_of_ble_eq_true rfl, Nat.le_of_ble_eq_true rfl⟩) ⟨m_blind (fun U g mk a h => ⟨m_B_calling U g mk a h.1, c_str_calling U g mk a h.2⟩), fun U hU hW => ⟨rfl, m_wo_call hw hU hW, c_str_warm hW hcs⟩⟩ rfl rfl hl.1 rfl (lv_room (Nat.le_of_ble_eq_true rfl)) dL_law_1166 ⟨lo_c (by omega), lo_s (by omega)⟩) hw (fun r1 u1 H locs hp1 hw => ?_)
  obtain ⟨K1, I1, R1, F1, A1, N1, L1, T1, J1, D1⟩ := u1
  try dsimp only at hp1
  obtain ⟨rfl, hq1, hs1, hfr1⟩ := hp1
  have hw : m_wo G K1 I1 R1 F1 A1 N1 L1 T1 J1 D1 s H locs := hw
  have hs1 : c_sim K1 I1 R1 N1 A1 L1 T1 x cd (Z, M).1 (Z, M).2 := hs1
  have hfr1 : c_fr K I R N A K1 I1 R1 N1 A1 := hfr1
  have hro1 := r_ok_fr hro hfr1
  have hz1 := r_st_fr hro hz hfr1
  have hka1 : K1 ao = 35 ∧ N1 ao = 1 := ⟨(hfr1 ao (by rw [hka.1]; simp [c_oth])).1.trans hka.1, (hfr1 ao (by rw [hka.1]; simp [c_oth])).2.1.trans hka.2⟩
  have hkd1 : K1 dd = 36 ∧ N1 dd = 1 := ⟨(hfr1 dd (by rw [hkd.1]; simp [c_oth])).1.trans hkd.1, (hfr1 dd (by rw [hkd.1]; simp [c_oth])).2.1.trans hkd.2⟩
  refine lv_istore (lv' := [(6, .int (t_typed (o_isl Z a1) Z)), (0, .ref b), (1, .ref x), (2, .ref o), (3, .ref ao), (4, .ref dd), (5, .int (nI (5 * t)))]) hx hb dL_law_1169 hl (by decide) rfl (fun ls hl => ?_)
  refine lv_aload_n hx hb dL_law_1171 rfl (lv_at hl 3 rfl) ?_
  refine lv_aload_n hx hb dL_law_1172 rfl (lv_at hl 1 rfl) ?_
  refine lv_iload hx hb dL_law_1173 (lv_at hl 6 rfl) ?_
  refine lv_iconst (v := 1) hx hb dL_law_1175 (by decide) ?_
  refine lv_iadd hx hb dL_law_1176 ?_
  refine va_sld hx hb hX hbl hbA hw.2.2.2.1 (show vp_in (nI (5 * t) + 1) n from lo_in (k := 1) hin hn9 (by decide)) dL_law_1177 ?_
  rw [← ea1]
  refine m_ci (va_runV (As := [.int a1]) (rest := []) ⟨hx, hb, hml, hown, hts⟩ (c_X9_count l a1 hro1 hz1 hnf hn120 hni hn12 hnt9 h4t hgt (fun i => o_hitT_lt hnf hn120 hnt9 h4t i)) (cwV 1 hts gL_law_X9_count rfl rfl rfl (by decide +kernel) ⟨Nat.le_of_ble_eq_true rfl, Nat.le_of_ble_eq_true rfl⟩) ⟨m_blind m_B_calling, m_recv hw (m_ent_10 hro1.1) rfl, fun U hU hW => ⟨rfl, m_wo_call hw hU hW⟩⟩ rfl rfl hl.1 rfl (lv_room (Nat.le_of_ble_eq_true rfl)) dL_law_1178 ⟨lo_c (by omega), lo_s (by omega)⟩) hw (fun r_1178 u_1178 H locs hp_1178 hw => ?_)
  obtain ⟨I_1, A_2⟩ := u_1178
  have hw : m_wo G K1 I_1 R1 F1 A_2 N1 L1 T1 J1 D1 s H locs := hw
  dsimp only at hp_1178
  obtain ⟨⟨Z2, M2, hz2, hsc2⟩, hv2⟩ := hp_1178
  refine lv_istore (lv' := [(7, .int r_1178), (6, .int (t_typed (o_isl Z a1) Z)), (0, .ref b), (1, .ref x), (2, .ref o), (3, .ref ao), (4, .ref dd), (5, .int (nI (5 * t)))]) hx hb dL_law_1181 hl (by decide) rfl (fun ls hl => ?_)
  refine lv_aload_n hx hb dL_law_1183 rfl (lv_at hl 4 rfl) ?_
  refine m_ci (va_runV (As := []) (rest := []) ⟨hx, hb, hml, hown, hts⟩ (c_X9_thrown l hro1 (r_st_self hz2)) (cwV 0 hts gL_law_X9_thrown rfl rfl rfl (by decide +kernel) ⟨Nat.le_of_ble_eq_true rfl, Nat.le_of_ble_eq_true rfl⟩) ⟨m_blind m_B_calling, m_recv hw (m_ent_10 hro1.1) rfl, fun U hU hW => ⟨rfl, m_wo_call hw hU hW⟩⟩ rfl rfl hl.1 rfl (lv_room (Nat.le_of_ble_eq_true rfl)) dL_law_1184 ⟨lo_c (by omega), lo_s (by omega)⟩) hw (fun r_1184 u_1184 H locs hp_1184 hw => ?_)
  obtain rfl : r_1184 = (t_typed (o_isl Z a1) Z) := hp_1184
  refine lv_iload hx hb dL_law_1187 (lv_at hl 1 rfl) ?_
  refine lv_icmp_eq (tgt := 1194) hx hb dL_law_1189 (by decide) (fun _ => ?_) (fun cz => absurd rfl cz)
  have hK9 : W p l e room_1 s m #[Value.ref b] below meth c H locs (cells + 2 + 0 + 0) (slots + 12 + 0 + 0) Q (F0 m 1211 ls []) := by
    refine lv_goto (tgt := 2020) hx hb dL_law_1211 (by decide) ?_
    refine lv_iinc (v := (nI (5 * t)) + 5) (lv' := [(5, .int ((nI (5 * t)) + 5)), (7, .int r_1178), (6, .int (t_typed (o_isl Z a1) Z)), (0, .ref b), (1, .ref x), (2, .ref o), (3, .ref ao), (4, .ref dd)]) hx hb dL_law_2020 hl (k := 7) rfl rfl (by decide) rfl (fun ls hl => ?_)
    refine lv_goto (tgt := 28) hx hb dL_law_2023 (by decide) ?_
    have hs2 := c_sim_ref hs1 hz2.2.2.1 hz2.2.2.2.1
    have hs3 := c_sim_sc hs2 hsc2
    have hf3 := w_f_sc ((show w_f (Z, M).1 (Z, M).2 (t + 1) from w_same hf)) hsc2
    rw [show nI (5 * t) + 5 = nI (5 * (t + 1)) from nI_add (5 * t) 5] at hl
    refine W.widen (k := cells + 600) (n := slots + 8300) (by omega) (by omega) ?_
    exact ih _ _ _ ⟨(K1, I_1, R1, F1, A_2, N1, L1, T1, J1, D1), cd, ad, _, _, _, hw, hs3, hro1, r_st_self hz2, hka1, hkd1, hf3, lv_sub hl [3, 4, 5, 6, 7, 0] rfl⟩
  refine lv_iload hx hb dL_law_1194 (lv_at hl 1 rfl) ?_
  refine lv_if_ne (tgt := 1211) hx hb dL_law_1196 (by decide) (fun _ => hK9) (fun c9 => ?_)
  obtain rfl : r_1178 = nI (o_hitT Z M a1) := hv2 c9
  refine lv_aload_n hx hb dL_law_1199 rfl (lv_at hl 5 rfl) ?_
  refine lv_iconst (v := 0) hx hb dL_law_1200 (by decide) ?_
  refine m_laload_35 hx hb hw hka1.1 (h_in hka1.2) dL_law_1201 ?_
  rw [show J1 ao (0 : Int32).toNatClampNeg = (nI (o_hitT Z M a1)).toInt64 from hq1 c9]
  refine lv_iload hx hb dL_law_1202 (lv_at hl 0 rfl) ?_
  refine lv_i2l (v := ((nI (o_hitT Z M a1))).toInt64) hx hb dL_law_1204 rfl ?_
  refine lv_lcmp0 hx hb dL_law_1205 ?_
  refine lv_if_eq (tgt := 1211) hx hb dL_law_1206 (by decide) (fun _ => ?_) (fun cz => absurd rfl cz)
  exact hK9
set_option maxHeartbeats 1600000 in
set_option maxRecDepth 100000 in
theorem lo_scoreBits {p : Program} {l : Launch} {e : Env} {s : State} {m : MethodId} {below : List Frame} {meth : Method} {c : Code} {H : Heap} {locs : List Loc} {ls : Array Slot} {cells slots : Nat} {Q : State → Prop} {G : mG} {K : Nat → Nat} {I : Nat → Nat → Int32} {R : Nat → Nat → Option Nat} {F : Nat → UInt32} {A : Nat → Nat → Int32} {N : Nat → Nat} {L : Nat → List Nat} {T : Nat → List Int32} {J : Nat → Nat → Int64} {D : Nat → Nat → UInt64} {b n : Nat} {xs : Nat → Int32} {x o ao dd t : Nat} {cd ad : Nat → Nat} {Z : mZ} {M : mM} {th : Int32} (C : lw_cx p l s m c b n xs G) (hfp : f_all) (hw : m_wo G K I R F A N L T J D s H locs) (hs : c_sim K I R N A L T x cd Z M) (hro : r_ok K R N o ad) (hz : r_st K o ad I A I A Z M th) (hka : K ao = 35 ∧ N ao = 1) (hkd : K dd = 36 ∧ N dd = 1) (hf : w_f Z M t) (ht : t < 512) (hin : 5 * t + 5 ≤ n) (hl : lv_has ls 10 [(0, .ref b), (1, .ref x), (2, .ref o), (3, .ref ao), (4, .ref dd), (5, .int (nI (5 * t)))]) (hc9 : cells + 600 ≤ 603072) (hs9 : slots + 8300 ≤ 7211114) (ih : ∀ (H : Heap) (locs : List Loc) (ls : Array Slot), lw_I G s b x o ao dd (t + 1) H locs ls → W p l e room_1 s m #[Value.ref b] below meth c H locs (cells + 600) (slots + 8300) Q (F0 m 28 ls [])) : W p l e room_1 s m #[Value.ref b] below meth c H locs cells slots Q (F0 m 1214 ls []) := by
  obtain ⟨hx, hb, hml, hown, hts, hX, hbl, hbA, hnt, hcs, hn9⟩ := C
  have hni := hs.2.1.1
  have hn12 := hs.2.1.2.1
  have hnf := hs.2.2.1.1
  have hn120 := hs.2.2.1.2.1
  have hnsg := hs.2.2.2.2.1.1
  have hn20 := hs.2.2.2.2.1.2.1
  have hns := hs.2.2.2.2.2.1.1
  have hn5 := hs.2.2.2.2.2.1.2.1
  obtain ⟨nt, hnt9, h4t, hgt⟩ := u_gap hs
  have hw9 := u_shW hs
  have ht9 : t ≤ 512 := by omega
  obtain ⟨fpT, fpW, fpS, fpM, fp0⟩ := hfp
  obtain ⟨a1, ea1⟩ : ∃ z, z = xs (nI (5 * t) + 1).toNatClampNeg := ⟨_, rfl⟩
  have hfpT := fun z : 0 < Z 29 => fpT Z M (L (cd 1)).length (L (cd 0)).length nt hnf hn120 hni hn12 hnt9 h4t (u_pos hnt9 h4t z) (u_12 hs hf)
  refine lv_aload_n hx hb dL_law_1214 rfl (lv_at hl 1 rfl) ?_
  refine lv_aload_n hx hb dL_law_1215 rfl (lv_at hl 0 rfl) ?_
  refine lv_iload hx hb dL_law_1216 (lv_at hl 5 rfl) ?_
  refine lv_iconst (v := 1) hx hb dL_law_1218 (by decide) ?_
  refine lv_iadd hx hb dL_law_1219 ?_
  refine va_sld hx hb hX hbl hbA hw.2.2.2.1 (show vp_in (nI (5 * t) + 1) n from lo_in (k := 1) hin hn9 (by decide)) dL_law_1220 ?_
  rw [← ea1]
  refine lv_aload_n hx hb dL_law_1221 rfl (lv_at hl 3 rfl) ?_
  refine m_ci (vx_runSW (As := [.ref x, .int a1, .ref ao]) (rest := []) ⟨hx, hb, hml, hown, hts⟩ (c_L_scoreBits l hnt hs hnt9 h4t (u_12 hs hf) (fun z => (hfpT z).1) (fun i => o_hitT_lt hnf hn120 hnt9 h4t i) (fun z z2 => ((hfpT z).2.2 a1).2 z2) hka.1 hka.2) (vx_cwSW 3 hts gL_law_L_scoreBits rfl rfl rfl (by decide +kernel) ⟨Nat.le_of_ble_eq_true rfl, Nat.le_of_ble_eq_true rfl⟩) ⟨m_blind (fun U g mk a h => ⟨m_B_calling U g mk a h.1, c_str_calling U g mk a h.2⟩), fun U hU hW => ⟨rfl, m_wo_call hw hU hW, c_str_warm hW hcs⟩⟩ rfl rfl hl.1 rfl (lv_room (Nat.le_of_ble_eq_true rfl)) dL_law_1222 ⟨lo_c (by omega), lo_s (by omega)⟩) hw (fun r1 u1 H locs hp1 hw => ?_)
  obtain ⟨K1, I1, R1, F1, A1, N1, L1, T1, J1, D1⟩ := u1
  try dsimp only at hp1
  obtain ⟨rfl, hq1, hs1, hfr1⟩ := hp1
  have hw : m_wo G K1 I1 R1 F1 A1 N1 L1 T1 J1 D1 s H locs := hw
  have hs1 : c_sim K1 I1 R1 N1 A1 L1 T1 x cd (Z, M).1 (Z, M).2 := hs1
  have hfr1 : c_fr K I R N A K1 I1 R1 N1 A1 := hfr1
  have hro1 := r_ok_fr hro hfr1
  have hz1 := r_st_fr hro hz hfr1
  have hka1 : K1 ao = 35 ∧ N1 ao = 1 := ⟨(hfr1 ao (by rw [hka.1]; simp [c_oth])).1.trans hka.1, (hfr1 ao (by rw [hka.1]; simp [c_oth])).2.1.trans hka.2⟩
  have hkd1 : K1 dd = 36 ∧ N1 dd = 1 := ⟨(hfr1 dd (by rw [hkd.1]; simp [c_oth])).1.trans hkd.1, (hfr1 dd (by rw [hkd.1]; simp [c_oth])).2.1.trans hkd.2⟩
  refine lv_istore (lv' := [(6, .int (t_typed (o_isl Z a1) Z)), (0, .ref b), (1, .ref x), (2, .ref o), (3, .ref ao), (4, .ref dd), (5, .int (nI (5 * t)))]) hx hb dL_law_1225 hl (by decide) rfl (fun ls hl => ?_)
  refine lv_aload_n hx hb dL_law_1227 rfl (lv_at hl 3 rfl) ?_
  refine lv_aload_n hx hb dL_law_1228 rfl (lv_at hl 1 rfl) ?_
  refine lv_iload hx hb dL_law_1229 (lv_at hl 6 rfl) ?_
  refine lv_iconst (v := 1) hx hb dL_law_1231 (by decide) ?_
  refine lv_iadd hx hb dL_law_1232 ?_
  refine va_sld hx hb hX hbl hbA hw.2.2.2.1 (show vp_in (nI (5 * t) + 1) n from lo_in (k := 1) hin hn9 (by decide)) dL_law_1233 ?_
  rw [← ea1]
  refine m_ci (va_runV (As := [.int a1]) (rest := []) ⟨hx, hb, hml, hown, hts⟩ (c_X9_scoreBits l a1 hro1 hz1 hnf hn120 hni hn12 hnt9 h4t hgt (fun i => o_hitT_lt hnf hn120 hnt9 h4t i) (fun z => (hfpT z).1) (fun z => ((hfpT z).2.2 a1).1)) (cwV 1 hts gL_law_X9_scoreBits rfl rfl rfl (by decide +kernel) ⟨Nat.le_of_ble_eq_true rfl, Nat.le_of_ble_eq_true rfl⟩) ⟨m_blind m_B_calling, m_recv hw (m_ent_10 hro1.1) rfl, fun U hU hW => ⟨rfl, m_wo_call hw hU hW⟩⟩ rfl rfl hl.1 rfl (lv_room (Nat.le_of_ble_eq_true rfl)) dL_law_1234 ⟨lo_c (by omega), lo_s (by omega)⟩) hw (fun r_1234 u_1234 H locs hp_1234 hw => ?_)
  obtain ⟨I_1, A_2⟩ := u_1234
  have hw : m_wo G K1 I_1 R1 F1 A_2 N1 L1 T1 J1 D1 s H locs := hw
  dsimp only at hp_1234
  obtain ⟨⟨Z2, M2, hz2, hsc2⟩, hv2⟩ := hp_1234
  refine lv_istore (lv' := [(7, .int r_1234), (6, .int (t_typed (o_isl Z a1) Z)), (0, .ref b), (1, .ref x), (2, .ref o), (3, .ref ao), (4, .ref dd), (5, .int (nI (5 * t)))]) hx hb dL_law_1237 hl (by decide) rfl (fun ls hl => ?_)
  refine lv_aload_n hx hb dL_law_1239 rfl (lv_at hl 4 rfl) ?_
  refine m_ci (va_runV (As := []) (rest := []) ⟨hx, hb, hml, hown, hts⟩ (c_X9_thrown l hro1 (r_st_self hz2)) (cwV 0 hts gL_law_X9_thrown rfl rfl rfl (by decide +kernel) ⟨Nat.le_of_ble_eq_true rfl, Nat.le_of_ble_eq_true rfl⟩) ⟨m_blind m_B_calling, m_recv hw (m_ent_10 hro1.1) rfl, fun U hU hW => ⟨rfl, m_wo_call hw hU hW⟩⟩ rfl rfl hl.1 rfl (lv_room (Nat.le_of_ble_eq_true rfl)) dL_law_1240 ⟨lo_c (by omega), lo_s (by omega)⟩) hw (fun r_1240 u_1240 H locs hp_1240 hw => ?_)
  obtain rfl : r_1240 = (t_typed (o_isl Z a1) Z) := hp_1240
  refine lv_iload hx hb dL_law_1243 (lv_at hl 1 rfl) ?_
  refine lv_icmp_eq (tgt := 1250) hx hb dL_law_1245 (by decide) (fun _ => ?_) (fun cz => absurd rfl cz)
  have hK9 : W p l e room_1 s m #[Value.ref b] below meth c H locs (cells + 2 + 0 + 0) (slots + 12 + 0 + 0) Q (F0 m 1267 ls []) := by
    refine lv_goto (tgt := 2020) hx hb dL_law_1267 (by decide) ?_
    refine lv_iinc (v := (nI (5 * t)) + 5) (lv' := [(5, .int ((nI (5 * t)) + 5)), (7, .int r_1234), (6, .int (t_typed (o_isl Z a1) Z)), (0, .ref b), (1, .ref x), (2, .ref o), (3, .ref ao), (4, .ref dd)]) hx hb dL_law_2020 hl (k := 7) rfl rfl (by decide) rfl (fun ls hl => ?_)
    refine lv_goto (tgt := 28) hx hb dL_law_2023 (by decide) ?_
    have hs2 := c_sim_ref hs1 hz2.2.2.1 hz2.2.2.2.1
    have hs3 := c_sim_sc hs2 hsc2
    have hf3 := w_f_sc ((show w_f (Z, M).1 (Z, M).2 (t + 1) from w_same hf)) hsc2
    rw [show nI (5 * t) + 5 = nI (5 * (t + 1)) from nI_add (5 * t) 5] at hl
    refine W.widen (k := cells + 600) (n := slots + 8300) (by omega) (by omega) ?_
    exact ih _ _ _ ⟨(K1, I_1, R1, F1, A_2, N1, L1, T1, J1, D1), cd, ad, _, _, _, hw, hs3, hro1, r_st_self hz2, hka1, hkd1, hf3, lv_sub hl [3, 4, 5, 6, 7, 0] rfl⟩
  refine lv_iload hx hb dL_law_1250 (lv_at hl 1 rfl) ?_
  refine lv_if_ne (tgt := 1267) hx hb dL_law_1252 (by decide) (fun _ => hK9) (fun c9 => ?_)
  obtain rfl : r_1234 = o_bits Z M (L (cd 1)).length (L (cd 0)).length nt a1 := hv2 c9
  refine lv_aload_n hx hb dL_law_1255 rfl (lv_at hl 5 rfl) ?_
  refine lv_iconst (v := 0) hx hb dL_law_1256 (by decide) ?_
  refine m_laload_35 hx hb hw hka1.1 (h_in hka1.2) dL_law_1257 ?_
  rw [show J1 ao (0 : Int32).toNatClampNeg = (o_bits Z M (L (cd 1)).length (L (cd 0)).length nt a1).toInt64 from hq1 c9]
  refine lv_iload hx hb dL_law_1258 (lv_at hl 0 rfl) ?_
  refine lv_i2l (v := ((o_bits Z M (L (cd 1)).length (L (cd 0)).length nt a1)).toInt64) hx hb dL_law_1260 rfl ?_
  refine lv_lcmp0 hx hb dL_law_1261 ?_
  refine lv_if_eq (tgt := 1267) hx hb dL_law_1262 (by decide) (fun _ => ?_) (fun cz => absurd rfl cz)
  exact hK9
set_option maxHeartbeats 1600000 in
set_option maxRecDepth 100000 in
theorem lo_weight {p : Program} {l : Launch} {e : Env} {s : State} {m : MethodId} {below : List Frame} {meth : Method} {c : Code} {H : Heap} {locs : List Loc} {ls : Array Slot} {cells slots : Nat} {Q : State → Prop} {G : mG} {K : Nat → Nat} {I : Nat → Nat → Int32} {R : Nat → Nat → Option Nat} {F : Nat → UInt32} {A : Nat → Nat → Int32} {N : Nat → Nat} {L : Nat → List Nat} {T : Nat → List Int32} {J : Nat → Nat → Int64} {D : Nat → Nat → UInt64} {b n : Nat} {xs : Nat → Int32} {x o ao dd t : Nat} {cd ad : Nat → Nat} {Z : mZ} {M : mM} {th : Int32} (C : lw_cx p l s m c b n xs G) (hfp : f_all) (hw : m_wo G K I R F A N L T J D s H locs) (hs : c_sim K I R N A L T x cd Z M) (hro : r_ok K R N o ad) (hz : r_st K o ad I A I A Z M th) (hka : K ao = 35 ∧ N ao = 1) (hkd : K dd = 36 ∧ N dd = 1) (hf : w_f Z M t) (ht : t < 512) (hin : 5 * t + 5 ≤ n) (hl : lv_has ls 10 [(0, .ref b), (1, .ref x), (2, .ref o), (3, .ref ao), (4, .ref dd), (5, .int (nI (5 * t)))]) (hc9 : cells + 600 ≤ 603072) (hs9 : slots + 8300 ≤ 7211114) (ih : ∀ (H : Heap) (locs : List Loc) (ls : Array Slot), lw_I G s b x o ao dd (t + 1) H locs ls → W p l e room_1 s m #[Value.ref b] below meth c H locs (cells + 600) (slots + 8300) Q (F0 m 28 ls [])) : W p l e room_1 s m #[Value.ref b] below meth c H locs cells slots Q (F0 m 1270 ls []) := by
  obtain ⟨hx, hb, hml, hown, hts, hX, hbl, hbA, hnt, hcs, hn9⟩ := C
  have hni := hs.2.1.1
  have hn12 := hs.2.1.2.1
  have hnf := hs.2.2.1.1
  have hn120 := hs.2.2.1.2.1
  have hnsg := hs.2.2.2.2.1.1
  have hn20 := hs.2.2.2.2.1.2.1
  have hns := hs.2.2.2.2.2.1.1
  have hn5 := hs.2.2.2.2.2.1.2.1
  obtain ⟨nt, hnt9, h4t, hgt⟩ := u_gap hs
  have hw9 := u_shW hs
  have ht9 : t ≤ 512 := by omega
  obtain ⟨fpT, fpW, fpS, fpM, fp0⟩ := hfp
  obtain ⟨a1, ea1⟩ : ∃ z, z = xs (nI (5 * t) + 1).toNatClampNeg := ⟨_, rfl⟩
  refine lv_aload_n hx hb dL_law_1270 rfl (lv_at hl 1 rfl) ?_
  refine lv_aload_n hx hb dL_law_1271 rfl (lv_at hl 0 rfl) ?_
  refine lv_iload hx hb dL_law_1272 (lv_at hl 5 rfl) ?_
  refine lv_iconst (v := 1) hx hb dL_law_1274 (by decide) ?_
  refine lv_iadd hx hb dL_law_1275 ?_
  refine va_sld hx hb hX hbl hbA hw.2.2.2.1 (show vp_in (nI (5 * t) + 1) n from lo_in (k := 1) hin hn9 (by decide)) dL_law_1276 ?_
  rw [← ea1]
  refine lv_aload hx hb dL_law_1277 (lv_at hl 4 rfl) ?_
  refine m_ci (vx_runSW (As := [.ref x, .int a1, .ref dd]) (rest := []) ⟨hx, hb, hml, hown, hts⟩ (c_L_weight l hnt hs (u_12 hs hf) (fun h9 z9 => (fpW _ hn12 h9 z9).1) (fpW _ hn12 _ o_has_le).2.1 hkd.1 hkd.2) (vx_cwSW 3 hts gL_law_L_weight rfl rfl rfl (by decide +kernel) ⟨Nat.le_of_ble_eq_true rfl, Nat.le_of_ble_eq_true rfl⟩) ⟨m_blind (fun U g mk a h => ⟨m_B_calling U g mk a h.1, c_str_calling U g mk a h.2⟩), fun U hU hW => ⟨rfl, m_wo_call hw hU hW, c_str_warm hW hcs⟩⟩ rfl rfl hl.1 rfl (lv_room (Nat.le_of_ble_eq_true rfl)) dL_law_1279 ⟨lo_c (by omega), lo_s (by omega)⟩) hw (fun r1 u1 H locs hp1 hw => ?_)
  obtain ⟨K1, I1, R1, F1, A1, N1, L1, T1, J1, D1⟩ := u1
  try dsimp only at hp1
  obtain ⟨rfl, hq1, hs1, hfr1⟩ := hp1
  have hw : m_wo G K1 I1 R1 F1 A1 N1 L1 T1 J1 D1 s H locs := hw
  have hs1 : c_sim K1 I1 R1 N1 A1 L1 T1 x cd (Z, M).1 (Z, M).2 := hs1
  have hfr1 : c_fr K I R N A K1 I1 R1 N1 A1 := hfr1
  have hro1 := r_ok_fr hro hfr1
  have hz1 := r_st_fr hro hz hfr1
  have hka1 : K1 ao = 35 ∧ N1 ao = 1 := ⟨(hfr1 ao (by rw [hka.1]; simp [c_oth])).1.trans hka.1, (hfr1 ao (by rw [hka.1]; simp [c_oth])).2.1.trans hka.2⟩
  have hkd1 : K1 dd = 36 ∧ N1 dd = 1 := ⟨(hfr1 dd (by rw [hkd.1]; simp [c_oth])).1.trans hkd.1, (hfr1 dd (by rw [hkd.1]; simp [c_oth])).2.1.trans hkd.2⟩
  refine lv_istore (lv' := [(6, .int (t_b (o_rng a1 0 30))), (0, .ref b), (1, .ref x), (2, .ref o), (3, .ref ao), (4, .ref dd), (5, .int (nI (5 * t)))]) hx hb dL_law_1282 hl (by decide) rfl (fun ls hl => ?_)
  refine lv_aload_n hx hb dL_law_1284 rfl (lv_at hl 3 rfl) ?_
  refine lv_aload_n hx hb dL_law_1285 rfl (lv_at hl 1 rfl) ?_
  refine lv_iload hx hb dL_law_1286 (lv_at hl 6 rfl) ?_
  refine lv_iconst (v := 1) hx hb dL_law_1288 (by decide) ?_
  refine lv_iadd hx hb dL_law_1289 ?_
  refine va_sld hx hb hX hbl hbA hw.2.2.2.1 (show vp_in (nI (5 * t) + 1) n from lo_in (k := 1) hin hn9 (by decide)) dL_law_1290 ?_
  rw [← ea1]
  refine m_cf (va_runV (As := [.int a1]) (rest := []) ⟨hx, hb, hml, hown, hts⟩ (c_X9_weight l a1 hro1 hz1 hnf hn120 hni hn12 (fun h9 z9 => (fpW _ hn12 h9 z9).1)) (cwV 1 hts gL_law_X9_weight rfl rfl rfl (by decide +kernel) ⟨Nat.le_of_ble_eq_true rfl, Nat.le_of_ble_eq_true rfl⟩) ⟨m_blind m_B_calling, m_recv hw (m_ent_10 hro1.1) rfl, fun U hU hW => ⟨rfl, m_wo_call hw hU hW⟩⟩ rfl rfl hl.1 rfl (lv_room (Nat.le_of_ble_eq_true rfl)) dL_law_1291 ⟨lo_c (by omega), lo_s (by omega)⟩) hw (fun r_1291 u_1291 H locs hp_1291 hw => ?_)
  obtain ⟨I_1, A_2⟩ := u_1291
  have hw : m_wo G K1 I_1 R1 F1 A_2 N1 L1 T1 J1 D1 s H locs := hw
  dsimp only at hp_1291
  obtain ⟨hz2, hv2⟩ := hp_1291
  refine lv_fstore (lv' := [(7, .float r_1291), (6, .int (t_b (o_rng a1 0 30))), (0, .ref b), (1, .ref x), (2, .ref o), (3, .ref ao), (4, .ref dd), (5, .int (nI (5 * t)))]) hx hb dL_law_1294 hl (by decide) rfl (fun ls hl => ?_)
  refine lv_aload_n hx hb dL_law_1296 rfl (lv_at hl 4 rfl) ?_
  refine m_ci (va_runV (As := []) (rest := []) ⟨hx, hb, hml, hown, hts⟩ (c_X9_thrown l hro1 (r_st_self hz2)) (cwV 0 hts gL_law_X9_thrown rfl rfl rfl (by decide +kernel) ⟨Nat.le_of_ble_eq_true rfl, Nat.le_of_ble_eq_true rfl⟩) ⟨m_blind m_B_calling, m_recv hw (m_ent_10 hro1.1) rfl, fun U hU hW => ⟨rfl, m_wo_call hw hU hW⟩⟩ rfl rfl hl.1 rfl (lv_room (Nat.le_of_ble_eq_true rfl)) dL_law_1297 ⟨lo_c (by omega), lo_s (by omega)⟩) hw (fun r_1297 u_1297 H locs hp_1297 hw => ?_)
  obtain rfl : r_1297 = (t_b (o_rng a1 0 30)) := hp_1297
  refine lv_iload hx hb dL_law_1300 (lv_at hl 1 rfl) ?_
  refine lv_icmp_eq (tgt := 1307) hx hb dL_law_1302 (by decide) (fun _ => ?_) (fun cz => absurd rfl cz)
  have hK9 : W p l e room_1 s m #[Value.ref b] below meth c H locs (cells + 1 + 0 + 0) (slots + 6 + 0 + 0) Q (F0 m 1345 ls []) := by
    refine lv_goto (tgt := 2020) hx hb dL_law_1345 (by decide) ?_
    refine lv_iinc (v := (nI (5 * t)) + 5) (lv' := [(5, .int ((nI (5 * t)) + 5)), (7, .float r_1291), (6, .int (t_b (o_rng a1 0 30))), (0, .ref b), (1, .ref x), (2, .ref o), (3, .ref ao), (4, .ref dd)]) hx hb dL_law_2020 hl (k := 7) rfl rfl (by decide) rfl (fun ls hl => ?_)
    refine lv_goto (tgt := 28) hx hb dL_law_2023 (by decide) ?_
    have hs2 := c_sim_ref hs1 hz2.2.2.1 hz2.2.2.2.1
    have hs3 := hs2
    have hf3 := (show w_f (Z, M).1 (Z, M).2 (t + 1) from w_same hf)
    rw [show nI (5 * t) + 5 = nI (5 * (t + 1)) from nI_add (5 * t) 5] at hl
    refine W.widen (k := cells + 600) (n := slots + 8300) (by omega) (by omega) ?_
    exact ih _ _ _ ⟨(K1, I_1, R1, F1, A_2, N1, L1, T1, J1, D1), cd, ad, _, _, _, hw, hs3, hro1, r_st_self hz2, hka1, hkd1, hf3, lv_sub hl [3, 4, 5, 6, 7, 0] rfl⟩
  refine lv_iload hx hb dL_law_1307 (lv_at hl 1 rfl) ?_
  refine lv_if_ne (tgt := 1345) hx hb dL_law_1309 (by decide) (fun _ => hK9) (fun c9 => ?_)
  obtain rfl : r_1291 = o_wt (L (cd 0)).length (o_has M (L (cd 1)).length (L (cd 0)).length a1) := hv2 c9
  refine lv_aload hx hb dL_law_1312 (lv_at hl 6 rfl) ?_
  refine lv_iconst (v := 0) hx hb dL_law_1314 (by decide) ?_
  refine m_daload_36 hx hb hw hkd1.1 (h_in hkd1.2) dL_law_1315 ?_
  rw [show D1 dd (0 : Int32).toNatClampNeg = FP.f2d (o_wt (L (cd 0)).length (o_has M (L (cd 1)).length (L (cd 0)).length a1)) from hq1 c9]
  refine lv_fload hx hb dL_law_1316 (lv_at hl 0 rfl) ?_
  refine lv_f2d hx hb dL_law_1318 (fpW _ hn12 _ o_has_le).2.1 ?_
  refine lv_dcmp hx hb dL_law_1319 ?_
  rw [show Op.cmpValue (FP.dcmp (FP.f2d (o_wt (L (cd 0)).length (o_has M (L (cd 1)).length (L (cd 0)).length a1))) (FP.f2d (o_wt (L (cd 0)).length (o_has M (L (cd 1)).length (L (cd 0)).length a1)))) .l = 0 from (fpW _ hn12 _ o_has_le).2.2]
  refine lv_if_eq (tgt := 1345) hx hb dL_law_1320 (by decide) (fun _ => ?_) (fun cz => absurd rfl cz)
  exact hK9
set_option maxHeartbeats 1600000 in
set_option maxRecDepth 100000 in
theorem lo_sail {p : Program} {l : Launch} {e : Env} {s : State} {m : MethodId} {below : List Frame} {meth : Method} {c : Code} {H : Heap} {locs : List Loc} {ls : Array Slot} {cells slots : Nat} {Q : State → Prop} {G : mG} {K : Nat → Nat} {I : Nat → Nat → Int32} {R : Nat → Nat → Option Nat} {F : Nat → UInt32} {A : Nat → Nat → Int32} {N : Nat → Nat} {L : Nat → List Nat} {T : Nat → List Int32} {J : Nat → Nat → Int64} {D : Nat → Nat → UInt64} {b n : Nat} {xs : Nat → Int32} {x o ao dd t : Nat} {cd ad : Nat → Nat} {Z : mZ} {M : mM} {th : Int32} (C : lw_cx p l s m c b n xs G) (hfp : f_all) (hw : m_wo G K I R F A N L T J D s H locs) (hs : c_sim K I R N A L T x cd Z M) (hro : r_ok K R N o ad) (hz : r_st K o ad I A I A Z M th) (hka : K ao = 35 ∧ N ao = 1) (hkd : K dd = 36 ∧ N dd = 1) (hf : w_f Z M t) (ht : t < 512) (hin : 5 * t + 5 ≤ n) (hl : lv_has ls 10 [(0, .ref b), (1, .ref x), (2, .ref o), (3, .ref ao), (4, .ref dd), (5, .int (nI (5 * t)))]) (hc9 : cells + 600 ≤ 603072) (hs9 : slots + 8300 ≤ 7211114) (ih : ∀ (H : Heap) (locs : List Loc) (ls : Array Slot), lw_I G s b x o ao dd (t + 1) H locs ls → W p l e room_1 s m #[Value.ref b] below meth c H locs (cells + 600) (slots + 8300) Q (F0 m 28 ls [])) : W p l e room_1 s m #[Value.ref b] below meth c H locs cells slots Q (F0 m 1348 ls []) := by
  obtain ⟨hx, hb, hml, hown, hts, hX, hbl, hbA, hnt, hcs, hn9⟩ := C
  have hni := hs.2.1.1
  have hn12 := hs.2.1.2.1
  have hnf := hs.2.2.1.1
  have hn120 := hs.2.2.1.2.1
  have hnsg := hs.2.2.2.2.1.1
  have hn20 := hs.2.2.2.2.1.2.1
  have hns := hs.2.2.2.2.2.1.1
  have hn5 := hs.2.2.2.2.2.1.2.1
  obtain ⟨nt, hnt9, h4t, hgt⟩ := u_gap hs
  have hw9 := u_shW hs
  have ht9 : t ≤ 512 := by omega
  obtain ⟨fpT, fpW, fpS, fpM, fp0⟩ := hfp
  obtain ⟨a1, ea1⟩ : ∃ z, z = xs (nI (5 * t) + 1).toNatClampNeg := ⟨_, rfl⟩
  have hfpT := fun z : 0 < Z 29 => fpT Z M (L (cd 1)).length (L (cd 0)).length nt hnf hn120 hni hn12 hnt9 h4t (u_pos hnt9 h4t z) (u_12 hs hf)
  refine lv_aload_n hx hb dL_law_1348 rfl (lv_at hl 1 rfl) ?_
  refine lv_aload_n hx hb dL_law_1349 rfl (lv_at hl 0 rfl) ?_
  refine lv_iload hx hb dL_law_1350 (lv_at hl 5 rfl) ?_
  refine lv_iconst (v := 1) hx hb dL_law_1352 (by decide) ?_
  refine lv_iadd hx hb dL_law_1353 ?_
  refine va_sld hx hb hX hbl hbA hw.2.2.2.1 (show vp_in (nI (5 * t) + 1) n from lo_in (k := 1) hin hn9 (by decide)) dL_law_1354 ?_
  rw [← ea1]
  refine lv_aload_n hx hb dL_law_1355 rfl (lv_at hl 3 rfl) ?_
  refine m_ci (vx_runSW (As := [.ref x, .int a1, .ref ao]) (rest := []) ⟨hx, hb, hml, hown, hts⟩ (c_L_sail l hnt hs hnt9 h4t (u_12 hs hf) (fun z => (hfpT z).1) (fun z => (hfpT z).2.1) (fun s9 t9 _ _ => u_far hf s9 t9) hka.1 hka.2) (vx_cwSW 3 hts gL_law_L_sail rfl rfl rfl (by decide +kernel) ⟨Nat.le_of_ble_eq_true rfl, Nat.le_of_ble_eq_true rfl⟩) ⟨m_blind (fun U g mk a h => ⟨m_B_calling U g mk a h.1, c_str_calling U g mk a h.2⟩), fun U hU hW => ⟨rfl, m_wo_call hw hU hW, c_str_warm hW hcs⟩⟩ rfl rfl hl.1 rfl (lv_room (Nat.le_of_ble_eq_true rfl)) dL_law_1356 ⟨lo_c (by omega), lo_s (by omega)⟩) hw (fun r1 u1 H locs hp1 hw => ?_)
  obtain ⟨K1, I1, R1, F1, A1, N1, L1, T1, J1, D1⟩ := u1
  try dsimp only at hp1
  obtain ⟨rfl, hq1, hs1, hfr1⟩ := hp1
  have hw : m_wo G K1 I1 R1 F1 A1 N1 L1 T1 J1 D1 s H locs := hw
  have hs1 : c_sim K1 I1 R1 N1 A1 L1 T1 x cd (p_sail Z M (L (cd 1)).length (L (cd 0)).length nt a1).1 (p_sail Z M (L (cd 1)).length (L (cd 0)).length nt a1).2 := hs1
  have hfr1 : c_fr K I R N A K1 I1 R1 N1 A1 := hfr1
  have hro1 := r_ok_fr hro hfr1
  have hz1 := r_st_fr hro hz hfr1
  have hka1 : K1 ao = 35 ∧ N1 ao = 1 := ⟨(hfr1 ao (by rw [hka.1]; simp [c_oth])).1.trans hka.1, (hfr1 ao (by rw [hka.1]; simp [c_oth])).2.1.trans hka.2⟩
  have hkd1 : K1 dd = 36 ∧ N1 dd = 1 := ⟨(hfr1 dd (by rw [hkd.1]; simp [c_oth])).1.trans hkd.1, (hfr1 dd (by rw [hkd.1]; simp [c_oth])).2.1.trans hkd.2⟩
  refine lv_istore (lv' := [(6, .int (t_sail Z M (L (cd 1)).length (L (cd 0)).length nt a1)), (0, .ref b), (1, .ref x), (2, .ref o), (3, .ref ao), (4, .ref dd), (5, .int (nI (5 * t)))]) hx hb dL_law_1359 hl (by decide) rfl (fun ls hl => ?_)
  refine lv_aload_n hx hb dL_law_1361 rfl (lv_at hl 3 rfl) ?_
  refine lv_aload_n hx hb dL_law_1362 rfl (lv_at hl 1 rfl) ?_
  refine lv_iload hx hb dL_law_1363 (lv_at hl 6 rfl) ?_
  refine lv_iconst (v := 1) hx hb dL_law_1365 (by decide) ?_
  refine lv_iadd hx hb dL_law_1366 ?_
  refine va_sld hx hb hX hbl hbA hw.2.2.2.1 (show vp_in (nI (5 * t) + 1) n from lo_in (k := 1) hin hn9 (by decide)) dL_law_1367 ?_
  rw [← ea1]
  refine m_ci (va_runV (As := [.int a1]) (rest := []) ⟨hx, hb, hml, hown, hts⟩ (c_X9_sail l a1 hro1 hz1 hnf hn120 hni hn12 hnt9 h4t hgt (fun i => o_hitT_lt hnf hn120 hnt9 h4t i) hns hn5 (fun z => (hfpT z).1) hw9 (fun s9 t9 _ _ => u_far hf s9 t9)) (cwV 1 hts gL_law_X9_sail rfl rfl rfl (by decide +kernel) ⟨Nat.le_of_ble_eq_true rfl, Nat.le_of_ble_eq_true rfl⟩) ⟨m_blind m_B_calling, m_recv hw (m_ent_10 hro1.1) rfl, fun U hU hW => ⟨rfl, m_wo_call hw hU hW⟩⟩ rfl rfl hl.1 rfl (lv_room (Nat.le_of_ble_eq_true rfl)) dL_law_1368 ⟨lo_c (by omega), lo_s (by omega)⟩) hw (fun r_1368 u_1368 H locs hp_1368 hw => ?_)
  obtain ⟨I_1, A_2⟩ := u_1368
  have hw : m_wo G K1 I_1 R1 F1 A_2 N1 L1 T1 J1 D1 s H locs := hw
  dsimp only at hp_1368
  obtain ⟨⟨Z2, M2, hz2, hsc2⟩, hv2⟩ := hp_1368
  refine lv_istore (lv' := [(7, .int r_1368), (6, .int (t_sail Z M (L (cd 1)).length (L (cd 0)).length nt a1)), (0, .ref b), (1, .ref x), (2, .ref o), (3, .ref ao), (4, .ref dd), (5, .int (nI (5 * t)))]) hx hb dL_law_1371 hl (by decide) rfl (fun ls hl => ?_)
  refine lv_aload_n hx hb dL_law_1373 rfl (lv_at hl 4 rfl) ?_
  refine m_ci (va_runV (As := []) (rest := []) ⟨hx, hb, hml, hown, hts⟩ (c_X9_thrown l hro1 (r_st_self hz2)) (cwV 0 hts gL_law_X9_thrown rfl rfl rfl (by decide +kernel) ⟨Nat.le_of_ble_eq_true rfl, Nat.le_of_ble_eq_true rfl⟩) ⟨m_blind m_B_calling, m_recv hw (m_ent_10 hro1.1) rfl, fun U hU hW => ⟨rfl, m_wo_call hw hU hW⟩⟩ rfl rfl hl.1 rfl (lv_room (Nat.le_of_ble_eq_true rfl)) dL_law_1374 ⟨lo_c (by omega), lo_s (by omega)⟩) hw (fun r_1374 u_1374 H locs hp_1374 hw => ?_)
  obtain rfl : r_1374 = (t_sail Z M (L (cd 1)).length (L (cd 0)).length nt a1) := hp_1374
  refine lv_iload hx hb dL_law_1377 (lv_at hl 1 rfl) ?_
  refine lv_icmp_eq (tgt := 1384) hx hb dL_law_1379 (by decide) (fun _ => ?_) (fun cz => absurd rfl cz)
  have hK9 : W p l e room_1 s m #[Value.ref b] below meth c H locs (cells + 3 + 0 + 0) (slots + 18 + 0 + 0) Q (F0 m 1401 ls []) := by
    refine lv_goto (tgt := 2020) hx hb dL_law_1401 (by decide) ?_
    refine lv_iinc (v := (nI (5 * t)) + 5) (lv' := [(5, .int ((nI (5 * t)) + 5)), (7, .int r_1368), (6, .int (t_sail Z M (L (cd 1)).length (L (cd 0)).length nt a1)), (0, .ref b), (1, .ref x), (2, .ref o), (3, .ref ao), (4, .ref dd)]) hx hb dL_law_2020 hl (k := 7) rfl rfl (by decide) rfl (fun ls hl => ?_)
    refine lv_goto (tgt := 28) hx hb dL_law_2023 (by decide) ?_
    have hs2 := c_sim_ref hs1 hz2.2.2.1 hz2.2.2.2.1
    have hs3 := c_sim_sc hs2 hsc2
    have hf3 := w_f_sc ((show w_f (p_sail Z M (L (cd 1)).length (L (cd 0)).length nt a1).1 (p_sail Z M (L (cd 1)).length (L (cd 0)).length nt a1).2 (t + 1) from w_Sail hs hf ht9 hnt9 h4t)) hsc2
    rw [show nI (5 * t) + 5 = nI (5 * (t + 1)) from nI_add (5 * t) 5] at hl
    refine W.widen (k := cells + 600) (n := slots + 8300) (by omega) (by omega) ?_
    exact ih _ _ _ ⟨(K1, I_1, R1, F1, A_2, N1, L1, T1, J1, D1), cd, ad, _, _, _, hw, hs3, hro1, r_st_self hz2, hka1, hkd1, hf3, lv_sub hl [3, 4, 5, 6, 7, 0] rfl⟩
  refine lv_iload hx hb dL_law_1384 (lv_at hl 1 rfl) ?_
  refine lv_if_ne (tgt := 1401) hx hb dL_law_1386 (by decide) (fun _ => hK9) (fun c9 => ?_)
  obtain rfl : r_1368 = o_goal Z M (L (cd 1)).length (L (cd 0)).length nt a1.toNatClampNeg := hv2 c9
  refine lv_aload_n hx hb dL_law_1389 rfl (lv_at hl 5 rfl) ?_
  refine lv_iconst (v := 0) hx hb dL_law_1390 (by decide) ?_
  refine m_laload_35 hx hb hw hka1.1 (h_in hka1.2) dL_law_1391 ?_
  rw [show J1 ao (0 : Int32).toNatClampNeg = (o_goal Z M (L (cd 1)).length (L (cd 0)).length nt a1.toNatClampNeg).toInt64 from hq1 c9]
  refine lv_iload hx hb dL_law_1392 (lv_at hl 0 rfl) ?_
  refine lv_i2l (v := ((o_goal Z M (L (cd 1)).length (L (cd 0)).length nt a1.toNatClampNeg)).toInt64) hx hb dL_law_1394 rfl ?_
  refine lv_lcmp0 hx hb dL_law_1395 ?_
  refine lv_if_eq (tgt := 1401) hx hb dL_law_1396 (by decide) (fun _ => ?_) (fun cz => absurd rfl cz)
  exact hK9
set_option maxHeartbeats 1600000 in
set_option maxRecDepth 100000 in
theorem lo_dig {p : Program} {l : Launch} {e : Env} {s : State} {m : MethodId} {below : List Frame} {meth : Method} {c : Code} {H : Heap} {locs : List Loc} {ls : Array Slot} {cells slots : Nat} {Q : State → Prop} {G : mG} {K : Nat → Nat} {I : Nat → Nat → Int32} {R : Nat → Nat → Option Nat} {F : Nat → UInt32} {A : Nat → Nat → Int32} {N : Nat → Nat} {L : Nat → List Nat} {T : Nat → List Int32} {J : Nat → Nat → Int64} {D : Nat → Nat → UInt64} {b n : Nat} {xs : Nat → Int32} {x o ao dd t : Nat} {cd ad : Nat → Nat} {Z : mZ} {M : mM} {th : Int32} (C : lw_cx p l s m c b n xs G) (hfp : f_all) (hw : m_wo G K I R F A N L T J D s H locs) (hs : c_sim K I R N A L T x cd Z M) (hro : r_ok K R N o ad) (hz : r_st K o ad I A I A Z M th) (hka : K ao = 35 ∧ N ao = 1) (hkd : K dd = 36 ∧ N dd = 1) (hf : w_f Z M t) (ht : t < 512) (hin : 5 * t + 5 ≤ n) (hl : lv_has ls 10 [(0, .ref b), (1, .ref x), (2, .ref o), (3, .ref ao), (4, .ref dd), (5, .int (nI (5 * t)))]) (hc9 : cells + 600 ≤ 603072) (hs9 : slots + 8300 ≤ 7211114) (ih : ∀ (H : Heap) (locs : List Loc) (ls : Array Slot), lw_I G s b x o ao dd (t + 1) H locs ls → W p l e room_1 s m #[Value.ref b] below meth c H locs (cells + 600) (slots + 8300) Q (F0 m 28 ls [])) : W p l e room_1 s m #[Value.ref b] below meth c H locs cells slots Q (F0 m 1404 ls []) := by
  obtain ⟨hx, hb, hml, hown, hts, hX, hbl, hbA, hnt, hcs, hn9⟩ := C
  have hni := hs.2.1.1
  have hn12 := hs.2.1.2.1
  have hnf := hs.2.2.1.1
  have hn120 := hs.2.2.1.2.1
  have hnsg := hs.2.2.2.2.1.1
  have hn20 := hs.2.2.2.2.1.2.1
  have hns := hs.2.2.2.2.2.1.1
  have hn5 := hs.2.2.2.2.2.1.2.1
  obtain ⟨nt, hnt9, h4t, hgt⟩ := u_gap hs
  have hw9 := u_shW hs
  have ht9 : t ≤ 512 := by omega
  obtain ⟨fpT, fpW, fpS, fpM, fp0⟩ := hfp
  obtain ⟨a1, ea1⟩ : ∃ z, z = xs (nI (5 * t) + 1).toNatClampNeg := ⟨_, rfl⟩
  refine lv_aload_n hx hb dL_law_1404 rfl (lv_at hl 1 rfl) ?_
  refine lv_aload_n hx hb dL_law_1405 rfl (lv_at hl 0 rfl) ?_
  refine lv_iload hx hb dL_law_1406 (lv_at hl 5 rfl) ?_
  refine lv_iconst (v := 1) hx hb dL_law_1408 (by decide) ?_
  refine lv_iadd hx hb dL_law_1409 ?_
  refine va_sld hx hb hX hbl hbA hw.2.2.2.1 (show vp_in (nI (5 * t) + 1) n from lo_in (k := 1) hin hn9 (by decide)) dL_law_1410 ?_
  rw [← ea1]
  refine lv_aload_n hx hb dL_law_1411 rfl (lv_at hl 3 rfl) ?_
  refine m_ci (vx_runSW (As := [.ref x, .int a1, .ref ao]) (rest := []) ⟨hx, hb, hml, hown, hts⟩ (c_L_dig l hnt hs (u_stl hs hf) (u_9 hf) hka.1 hka.2) (vx_cwSW 3 hts gL_law_L_dig rfl rfl rfl (by decide +kernel) ⟨Nat.le_of_ble_eq_true rfl, Nat.le_of_ble_eq_true rfl⟩) ⟨m_blind (fun U g mk a h => ⟨m_B_calling U g mk a h.1, c_str_calling U g mk a h.2⟩), fun U hU hW => ⟨rfl, m_wo_call hw hU hW, c_str_warm hW hcs⟩⟩ rfl rfl hl.1 rfl (lv_room (Nat.le_of_ble_eq_true rfl)) dL_law_1412 ⟨lo_c (by omega), lo_s (by omega)⟩) hw (fun r1 u1 H locs hp1 hw => ?_)
  obtain ⟨K1, I1, R1, F1, A1, N1, L1, T1, J1, D1⟩ := u1
  try dsimp only at hp1
  obtain ⟨rfl, hq1, hs1, hfr1⟩ := hp1
  have hw : m_wo G K1 I1 R1 F1 A1 N1 L1 T1 J1 D1 s H locs := hw
  have hs1 : c_sim K1 I1 R1 N1 A1 L1 T1 x cd (if t_dig Z M a1 = 0 then (Z, p_dig M a1.toNatClampNeg) else (Z, M)).1 (if t_dig Z M a1 = 0 then (Z, p_dig M a1.toNatClampNeg) else (Z, M)).2 := hs1
  have hfr1 : c_fr K I R N A K1 I1 R1 N1 A1 := hfr1
  have hro1 := r_ok_fr hro hfr1
  have hz1 := r_st_fr hro hz hfr1
  have hka1 : K1 ao = 35 ∧ N1 ao = 1 := ⟨(hfr1 ao (by rw [hka.1]; simp [c_oth])).1.trans hka.1, (hfr1 ao (by rw [hka.1]; simp [c_oth])).2.1.trans hka.2⟩
  have hkd1 : K1 dd = 36 ∧ N1 dd = 1 := ⟨(hfr1 dd (by rw [hkd.1]; simp [c_oth])).1.trans hkd.1, (hfr1 dd (by rw [hkd.1]; simp [c_oth])).2.1.trans hkd.2⟩
  refine lv_istore (lv' := [(6, .int (t_dig Z M a1)), (0, .ref b), (1, .ref x), (2, .ref o), (3, .ref ao), (4, .ref dd), (5, .int (nI (5 * t)))]) hx hb dL_law_1415 hl (by decide) rfl (fun ls hl => ?_)
  refine lv_aload_n hx hb dL_law_1417 rfl (lv_at hl 3 rfl) ?_
  refine lv_aload_n hx hb dL_law_1418 rfl (lv_at hl 1 rfl) ?_
  refine lv_iload hx hb dL_law_1419 (lv_at hl 6 rfl) ?_
  refine lv_iconst (v := 1) hx hb dL_law_1421 (by decide) ?_
  refine lv_iadd hx hb dL_law_1422 ?_
  refine va_sld hx hb hX hbl hbA hw.2.2.2.1 (show vp_in (nI (5 * t) + 1) n from lo_in (k := 1) hin hn9 (by decide)) dL_law_1423 ?_
  rw [← ea1]
  refine m_ci (va_runV (As := [.int a1]) (rest := []) ⟨hx, hb, hml, hown, hts⟩ (c_X9_dig l a1 hro1 hz1 hnf hn120 hns hn5 hw9 (u_stl hs hf)) (cwV 1 hts gL_law_X9_dig rfl rfl rfl (by decide +kernel) ⟨Nat.le_of_ble_eq_true rfl, Nat.le_of_ble_eq_true rfl⟩) ⟨m_blind m_B_calling, m_recv hw (m_ent_10 hro1.1) rfl, fun U hU hW => ⟨rfl, m_wo_call hw hU hW⟩⟩ rfl rfl hl.1 rfl (lv_room (Nat.le_of_ble_eq_true rfl)) dL_law_1424 ⟨lo_c (by omega), lo_s (by omega)⟩) hw (fun r_1424 u_1424 H locs hp_1424 hw => ?_)
  obtain ⟨I_1, A_2⟩ := u_1424
  have hw : m_wo G K1 I_1 R1 F1 A_2 N1 L1 T1 J1 D1 s H locs := hw
  dsimp only at hp_1424
  obtain ⟨⟨Z2, M2, hz2, hsc2⟩, hv2⟩ := hp_1424
  refine lv_istore (lv' := [(7, .int r_1424), (6, .int (t_dig Z M a1)), (0, .ref b), (1, .ref x), (2, .ref o), (3, .ref ao), (4, .ref dd), (5, .int (nI (5 * t)))]) hx hb dL_law_1427 hl (by decide) rfl (fun ls hl => ?_)
  refine lv_aload_n hx hb dL_law_1429 rfl (lv_at hl 4 rfl) ?_
  refine m_ci (va_runV (As := []) (rest := []) ⟨hx, hb, hml, hown, hts⟩ (c_X9_thrown l hro1 (r_st_self hz2)) (cwV 0 hts gL_law_X9_thrown rfl rfl rfl (by decide +kernel) ⟨Nat.le_of_ble_eq_true rfl, Nat.le_of_ble_eq_true rfl⟩) ⟨m_blind m_B_calling, m_recv hw (m_ent_10 hro1.1) rfl, fun U hU hW => ⟨rfl, m_wo_call hw hU hW⟩⟩ rfl rfl hl.1 rfl (lv_room (Nat.le_of_ble_eq_true rfl)) dL_law_1430 ⟨lo_c (by omega), lo_s (by omega)⟩) hw (fun r_1430 u_1430 H locs hp_1430 hw => ?_)
  obtain rfl : r_1430 = (t_dig Z M a1) := hp_1430
  refine lv_iload hx hb dL_law_1433 (lv_at hl 1 rfl) ?_
  refine lv_icmp_eq (tgt := 1440) hx hb dL_law_1435 (by decide) (fun _ => ?_) (fun cz => absurd rfl cz)
  have hK9 : W p l e room_1 s m #[Value.ref b] below meth c H locs (cells + 2 + 0 + 0) (slots + 12 + 0 + 0) Q (F0 m 1457 ls []) := by
    refine lv_goto (tgt := 2020) hx hb dL_law_1457 (by decide) ?_
    refine lv_iinc (v := (nI (5 * t)) + 5) (lv' := [(5, .int ((nI (5 * t)) + 5)), (7, .int r_1424), (6, .int (t_dig Z M a1)), (0, .ref b), (1, .ref x), (2, .ref o), (3, .ref ao), (4, .ref dd)]) hx hb dL_law_2020 hl (k := 7) rfl rfl (by decide) rfl (fun ls hl => ?_)
    refine lv_goto (tgt := 28) hx hb dL_law_2023 (by decide) ?_
    have hs2 := c_sim_ref hs1 hz2.2.2.1 hz2.2.2.2.1
    have hs3 := c_sim_sc hs2 hsc2
    have hf3 := w_f_sc ((show w_f (if t_dig Z M a1 = 0 then (Z, p_dig M a1.toNatClampNeg) else (Z, M)).1 (if t_dig Z M a1 = 0 then (Z, p_dig M a1.toNatClampNeg) else (Z, M)).2 (t + 1) from w_ite hf (fun z => w_Dig hs hf ht9 z))) hsc2
    rw [show nI (5 * t) + 5 = nI (5 * (t + 1)) from nI_add (5 * t) 5] at hl
    refine W.widen (k := cells + 600) (n := slots + 8300) (by omega) (by omega) ?_
    exact ih _ _ _ ⟨(K1, I_1, R1, F1, A_2, N1, L1, T1, J1, D1), cd, ad, _, _, _, hw, hs3, hro1, r_st_self hz2, hka1, hkd1, hf3, lv_sub hl [3, 4, 5, 6, 7, 0] rfl⟩
  refine lv_iload hx hb dL_law_1440 (lv_at hl 1 rfl) ?_
  refine lv_if_ne (tgt := 1457) hx hb dL_law_1442 (by decide) (fun _ => hK9) (fun c9 => ?_)
  obtain rfl : r_1424 = M 9 (M 18 a1.toNatClampNeg).toNatClampNeg := hv2 c9
  refine lv_aload_n hx hb dL_law_1445 rfl (lv_at hl 5 rfl) ?_
  refine lv_iconst (v := 0) hx hb dL_law_1446 (by decide) ?_
  refine m_laload_35 hx hb hw hka1.1 (h_in hka1.2) dL_law_1447 ?_
  rw [show J1 ao (0 : Int32).toNatClampNeg = (M 9 (M 18 a1.toNatClampNeg).toNatClampNeg).toInt64 from hq1 c9]
  refine lv_iload hx hb dL_law_1448 (lv_at hl 0 rfl) ?_
  refine lv_i2l (v := ((M 9 (M 18 a1.toNatClampNeg).toNatClampNeg)).toInt64) hx hb dL_law_1450 rfl ?_
  refine lv_lcmp0 hx hb dL_law_1451 ?_
  refine lv_if_eq (tgt := 1457) hx hb dL_law_1452 (by decide) (fun _ => ?_) (fun cz => absurd rfl cz)
  exact hK9
set_option maxHeartbeats 1600000 in
set_option maxRecDepth 100000 in
theorem lo_strike {p : Program} {l : Launch} {e : Env} {s : State} {m : MethodId} {below : List Frame} {meth : Method} {c : Code} {H : Heap} {locs : List Loc} {ls : Array Slot} {cells slots : Nat} {Q : State → Prop} {G : mG} {K : Nat → Nat} {I : Nat → Nat → Int32} {R : Nat → Nat → Option Nat} {F : Nat → UInt32} {A : Nat → Nat → Int32} {N : Nat → Nat} {L : Nat → List Nat} {T : Nat → List Int32} {J : Nat → Nat → Int64} {D : Nat → Nat → UInt64} {b n : Nat} {xs : Nat → Int32} {x o ao dd t : Nat} {cd ad : Nat → Nat} {Z : mZ} {M : mM} {th : Int32} (C : lw_cx p l s m c b n xs G) (hfp : f_all) (hw : m_wo G K I R F A N L T J D s H locs) (hs : c_sim K I R N A L T x cd Z M) (hro : r_ok K R N o ad) (hz : r_st K o ad I A I A Z M th) (hka : K ao = 35 ∧ N ao = 1) (hkd : K dd = 36 ∧ N dd = 1) (hf : w_f Z M t) (ht : t < 512) (hin : 5 * t + 5 ≤ n) (hl : lv_has ls 10 [(0, .ref b), (1, .ref x), (2, .ref o), (3, .ref ao), (4, .ref dd), (5, .int (nI (5 * t)))]) (hc9 : cells + 600 ≤ 603072) (hs9 : slots + 8300 ≤ 7211114) (ih : ∀ (H : Heap) (locs : List Loc) (ls : Array Slot), lw_I G s b x o ao dd (t + 1) H locs ls → W p l e room_1 s m #[Value.ref b] below meth c H locs (cells + 600) (slots + 8300) Q (F0 m 28 ls [])) : W p l e room_1 s m #[Value.ref b] below meth c H locs cells slots Q (F0 m 1460 ls []) := by
  obtain ⟨hx, hb, hml, hown, hts, hX, hbl, hbA, hnt, hcs, hn9⟩ := C
  have hni := hs.2.1.1
  have hn12 := hs.2.1.2.1
  have hnf := hs.2.2.1.1
  have hn120 := hs.2.2.1.2.1
  have hnsg := hs.2.2.2.2.1.1
  have hn20 := hs.2.2.2.2.1.2.1
  have hns := hs.2.2.2.2.2.1.1
  have hn5 := hs.2.2.2.2.2.1.2.1
  obtain ⟨nt, hnt9, h4t, hgt⟩ := u_gap hs
  have hw9 := u_shW hs
  have ht9 : t ≤ 512 := by omega
  obtain ⟨fpT, fpW, fpS, fpM, fp0⟩ := hfp
  obtain ⟨a1, ea1⟩ : ∃ z, z = xs (nI (5 * t) + 1).toNatClampNeg := ⟨_, rfl⟩
  refine lv_aload_n hx hb dL_law_1460 rfl (lv_at hl 1 rfl) ?_
  refine lv_aload_n hx hb dL_law_1461 rfl (lv_at hl 0 rfl) ?_
  refine lv_iload hx hb dL_law_1462 (lv_at hl 5 rfl) ?_
  refine lv_iconst (v := 1) hx hb dL_law_1464 (by decide) ?_
  refine lv_iadd hx hb dL_law_1465 ?_
  refine va_sld hx hb hX hbl hbA hw.2.2.2.1 (show vp_in (nI (5 * t) + 1) n from lo_in (k := 1) hin hn9 (by decide)) dL_law_1466 ?_
  rw [← ea1]
  refine lv_aload_n hx hb dL_law_1467 rfl (lv_at hl 3 rfl) ?_
  refine m_ci (vx_runSW (As := [.ref x, .int a1, .ref ao]) (rest := []) ⟨hx, hb, hml, hown, hts⟩ (c_L_strike l hnt hs hka.1 hka.2) (vx_cwSW 3 hts gL_law_L_strike rfl rfl rfl (by decide +kernel) ⟨Nat.le_of_ble_eq_true rfl, Nat.le_of_ble_eq_true rfl⟩) ⟨m_blind (fun U g mk a h => ⟨m_B_calling U g mk a h.1, c_str_calling U g mk a h.2⟩), fun U hU hW => ⟨rfl, m_wo_call hw hU hW, c_str_warm hW hcs⟩⟩ rfl rfl hl.1 rfl (lv_room (Nat.le_of_ble_eq_true rfl)) dL_law_1468 ⟨lo_c (by omega), lo_s (by omega)⟩) hw (fun r1 u1 H locs hp1 hw => ?_)
  obtain ⟨K1, I1, R1, F1, A1, N1, L1, T1, J1, D1⟩ := u1
  try dsimp only at hp1
  obtain ⟨rfl, hq1, hs1, hfr1⟩ := hp1
  have hw : m_wo G K1 I1 R1 F1 A1 N1 L1 T1 J1 D1 s H locs := hw
  have hs1 : c_sim K1 I1 R1 N1 A1 L1 T1 x cd (if t_strike Z M a1 = 0 then (Z, (p_strike Z M a1.toNatClampNeg).2) else (Z, M)).1 (if t_strike Z M a1 = 0 then (Z, (p_strike Z M a1.toNatClampNeg).2) else (Z, M)).2 := hs1
  have hfr1 : c_fr K I R N A K1 I1 R1 N1 A1 := hfr1
  have hro1 := r_ok_fr hro hfr1
  have hz1 := r_st_fr hro hz hfr1
  have hka1 : K1 ao = 35 ∧ N1 ao = 1 := ⟨(hfr1 ao (by rw [hka.1]; simp [c_oth])).1.trans hka.1, (hfr1 ao (by rw [hka.1]; simp [c_oth])).2.1.trans hka.2⟩
  have hkd1 : K1 dd = 36 ∧ N1 dd = 1 := ⟨(hfr1 dd (by rw [hkd.1]; simp [c_oth])).1.trans hkd.1, (hfr1 dd (by rw [hkd.1]; simp [c_oth])).2.1.trans hkd.2⟩
  refine lv_istore (lv' := [(6, .int (t_strike Z M a1)), (0, .ref b), (1, .ref x), (2, .ref o), (3, .ref ao), (4, .ref dd), (5, .int (nI (5 * t)))]) hx hb dL_law_1471 hl (by decide) rfl (fun ls hl => ?_)
  refine lv_aload_n hx hb dL_law_1473 rfl (lv_at hl 3 rfl) ?_
  refine lv_aload_n hx hb dL_law_1474 rfl (lv_at hl 1 rfl) ?_
  refine lv_iload hx hb dL_law_1475 (lv_at hl 6 rfl) ?_
  refine lv_iconst (v := 1) hx hb dL_law_1477 (by decide) ?_
  refine lv_iadd hx hb dL_law_1478 ?_
  refine va_sld hx hb hX hbl hbA hw.2.2.2.1 (show vp_in (nI (5 * t) + 1) n from lo_in (k := 1) hin hn9 (by decide)) dL_law_1479 ?_
  rw [← ea1]
  refine m_ci (va_runV (As := [.int a1]) (rest := []) ⟨hx, hb, hml, hown, hts⟩ (c_X9_strike l a1 hro1 hz1 hnf hn120 hns hn5 hw9 (u_15 hs hf) (u_stl2 hs hf _)) (cwV 1 hts gL_law_X9_strike rfl rfl rfl (by decide +kernel) ⟨Nat.le_of_ble_eq_true rfl, Nat.le_of_ble_eq_true rfl⟩) ⟨m_blind m_B_calling, m_recv hw (m_ent_10 hro1.1) rfl, fun U hU hW => ⟨rfl, m_wo_call hw hU hW⟩⟩ rfl rfl hl.1 rfl (lv_room (Nat.le_of_ble_eq_true rfl)) dL_law_1480 ⟨lo_c (by omega), lo_s (by omega)⟩) hw (fun r_1480 u_1480 H locs hp_1480 hw => ?_)
  obtain ⟨I_1, A_2⟩ := u_1480
  have hw : m_wo G K1 I_1 R1 F1 A_2 N1 L1 T1 J1 D1 s H locs := hw
  dsimp only at hp_1480
  obtain ⟨⟨Z2, M2, hz2, hsc2⟩, hv2⟩ := hp_1480
  refine lv_istore (lv' := [(7, .int r_1480), (6, .int (t_strike Z M a1)), (0, .ref b), (1, .ref x), (2, .ref o), (3, .ref ao), (4, .ref dd), (5, .int (nI (5 * t)))]) hx hb dL_law_1483 hl (by decide) rfl (fun ls hl => ?_)
  refine lv_aload_n hx hb dL_law_1485 rfl (lv_at hl 4 rfl) ?_
  refine m_ci (va_runV (As := []) (rest := []) ⟨hx, hb, hml, hown, hts⟩ (c_X9_thrown l hro1 (r_st_self hz2)) (cwV 0 hts gL_law_X9_thrown rfl rfl rfl (by decide +kernel) ⟨Nat.le_of_ble_eq_true rfl, Nat.le_of_ble_eq_true rfl⟩) ⟨m_blind m_B_calling, m_recv hw (m_ent_10 hro1.1) rfl, fun U hU hW => ⟨rfl, m_wo_call hw hU hW⟩⟩ rfl rfl hl.1 rfl (lv_room (Nat.le_of_ble_eq_true rfl)) dL_law_1486 ⟨lo_c (by omega), lo_s (by omega)⟩) hw (fun r_1486 u_1486 H locs hp_1486 hw => ?_)
  obtain rfl : r_1486 = (t_strike Z M a1) := hp_1486
  refine lv_iload hx hb dL_law_1489 (lv_at hl 1 rfl) ?_
  refine lv_icmp_eq (tgt := 1496) hx hb dL_law_1491 (by decide) (fun _ => ?_) (fun cz => absurd rfl cz)
  have hK9 : W p l e room_1 s m #[Value.ref b] below meth c H locs (cells + 2 + 0 + 0) (slots + 12 + 0 + 0) Q (F0 m 1513 ls []) := by
    refine lv_goto (tgt := 2020) hx hb dL_law_1513 (by decide) ?_
    refine lv_iinc (v := (nI (5 * t)) + 5) (lv' := [(5, .int ((nI (5 * t)) + 5)), (7, .int r_1480), (6, .int (t_strike Z M a1)), (0, .ref b), (1, .ref x), (2, .ref o), (3, .ref ao), (4, .ref dd)]) hx hb dL_law_2020 hl (k := 7) rfl rfl (by decide) rfl (fun ls hl => ?_)
    refine lv_goto (tgt := 28) hx hb dL_law_2023 (by decide) ?_
    have hs2 := c_sim_ref hs1 hz2.2.2.1 hz2.2.2.2.1
    have hs3 := c_sim_sc hs2 hsc2
    have hf3 := w_f_sc ((show w_f (if t_strike Z M a1 = 0 then (Z, (p_strike Z M a1.toNatClampNeg).2) else (Z, M)).1 (if t_strike Z M a1 = 0 then (Z, (p_strike Z M a1.toNatClampNeg).2) else (Z, M)).2 (t + 1) from w_ite hf (fun z => w_Strike hs hf ht9 z))) hsc2
    rw [show nI (5 * t) + 5 = nI (5 * (t + 1)) from nI_add (5 * t) 5] at hl
    refine W.widen (k := cells + 600) (n := slots + 8300) (by omega) (by omega) ?_
    exact ih _ _ _ ⟨(K1, I_1, R1, F1, A_2, N1, L1, T1, J1, D1), cd, ad, _, _, _, hw, hs3, hro1, r_st_self hz2, hka1, hkd1, hf3, lv_sub hl [3, 4, 5, 6, 7, 0] rfl⟩
  refine lv_iload hx hb dL_law_1496 (lv_at hl 1 rfl) ?_
  refine lv_if_ne (tgt := 1513) hx hb dL_law_1498 (by decide) (fun _ => hK9) (fun c9 => ?_)
  obtain rfl : r_1480 = nI (p_strike Z M a1.toNatClampNeg).1 := hv2 c9
  refine lv_aload_n hx hb dL_law_1501 rfl (lv_at hl 5 rfl) ?_
  refine lv_iconst (v := 0) hx hb dL_law_1502 (by decide) ?_
  refine m_laload_35 hx hb hw hka1.1 (h_in hka1.2) dL_law_1503 ?_
  rw [show J1 ao (0 : Int32).toNatClampNeg = (nI (p_strike Z M a1.toNatClampNeg).1).toInt64 from hq1 c9]
  refine lv_iload hx hb dL_law_1504 (lv_at hl 0 rfl) ?_
  refine lv_i2l (v := ((nI (p_strike Z M a1.toNatClampNeg).1)).toInt64) hx hb dL_law_1506 rfl ?_
  refine lv_lcmp0 hx hb dL_law_1507 ?_
  refine lv_if_eq (tgt := 1513) hx hb dL_law_1508 (by decide) (fun _ => ?_) (fun cz => absurd rfl cz)
  exact hK9
set_option maxHeartbeats 1600000 in
set_option maxRecDepth 100000 in
theorem lo_at {p : Program} {l : Launch} {e : Env} {s : State} {m : MethodId} {below : List Frame} {meth : Method} {c : Code} {H : Heap} {locs : List Loc} {ls : Array Slot} {cells slots : Nat} {Q : State → Prop} {G : mG} {K : Nat → Nat} {I : Nat → Nat → Int32} {R : Nat → Nat → Option Nat} {F : Nat → UInt32} {A : Nat → Nat → Int32} {N : Nat → Nat} {L : Nat → List Nat} {T : Nat → List Int32} {J : Nat → Nat → Int64} {D : Nat → Nat → UInt64} {b n : Nat} {xs : Nat → Int32} {x o ao dd t : Nat} {cd ad : Nat → Nat} {Z : mZ} {M : mM} {th : Int32} (C : lw_cx p l s m c b n xs G) (hfp : f_all) (hw : m_wo G K I R F A N L T J D s H locs) (hs : c_sim K I R N A L T x cd Z M) (hro : r_ok K R N o ad) (hz : r_st K o ad I A I A Z M th) (hka : K ao = 35 ∧ N ao = 1) (hkd : K dd = 36 ∧ N dd = 1) (hf : w_f Z M t) (ht : t < 512) (hin : 5 * t + 5 ≤ n) (hl : lv_has ls 10 [(0, .ref b), (1, .ref x), (2, .ref o), (3, .ref ao), (4, .ref dd), (5, .int (nI (5 * t)))]) (hc9 : cells + 600 ≤ 603072) (hs9 : slots + 8300 ≤ 7211114) (ih : ∀ (H : Heap) (locs : List Loc) (ls : Array Slot), lw_I G s b x o ao dd (t + 1) H locs ls → W p l e room_1 s m #[Value.ref b] below meth c H locs (cells + 600) (slots + 8300) Q (F0 m 28 ls [])) : W p l e room_1 s m #[Value.ref b] below meth c H locs cells slots Q (F0 m 1516 ls []) := by
  obtain ⟨hx, hb, hml, hown, hts, hX, hbl, hbA, hnt, hcs, hn9⟩ := C
  have hni := hs.2.1.1
  have hn12 := hs.2.1.2.1
  have hnf := hs.2.2.1.1
  have hn120 := hs.2.2.1.2.1
  have hnsg := hs.2.2.2.2.1.1
  have hn20 := hs.2.2.2.2.1.2.1
  have hns := hs.2.2.2.2.2.1.1
  have hn5 := hs.2.2.2.2.2.1.2.1
  obtain ⟨nt, hnt9, h4t, hgt⟩ := u_gap hs
  have hw9 := u_shW hs
  have ht9 : t ≤ 512 := by omega
  obtain ⟨fpT, fpW, fpS, fpM, fp0⟩ := hfp
  obtain ⟨a1, ea1⟩ : ∃ z, z = xs (nI (5 * t) + 1).toNatClampNeg := ⟨_, rfl⟩
  refine lv_aload_n hx hb dL_law_1516 rfl (lv_at hl 1 rfl) ?_
  refine lv_aload_n hx hb dL_law_1517 rfl (lv_at hl 0 rfl) ?_
  refine lv_iload hx hb dL_law_1518 (lv_at hl 5 rfl) ?_
  refine lv_iconst (v := 1) hx hb dL_law_1520 (by decide) ?_
  refine lv_iadd hx hb dL_law_1521 ?_
  refine va_sld hx hb hX hbl hbA hw.2.2.2.1 (show vp_in (nI (5 * t) + 1) n from lo_in (k := 1) hin hn9 (by decide)) dL_law_1522 ?_
  rw [← ea1]
  refine lv_aload_n hx hb dL_law_1523 rfl (lv_at hl 3 rfl) ?_
  refine m_ci (vx_runSW (As := [.ref x, .int a1, .ref ao]) (rest := []) ⟨hx, hb, hml, hown, hts⟩ (c_L_at l hnt hs hka.1 hka.2) (vx_cwSW 3 hts gL_law_L_at rfl rfl rfl (by decide +kernel) ⟨Nat.le_of_ble_eq_true rfl, Nat.le_of_ble_eq_true rfl⟩) ⟨m_blind (fun U g mk a h => ⟨m_B_calling U g mk a h.1, c_str_calling U g mk a h.2⟩), fun U hU hW => ⟨rfl, m_wo_call hw hU hW, c_str_warm hW hcs⟩⟩ rfl rfl hl.1 rfl (lv_room (Nat.le_of_ble_eq_true rfl)) dL_law_1524 ⟨lo_c (by omega), lo_s (by omega)⟩) hw (fun r1 u1 H locs hp1 hw => ?_)
  obtain ⟨K1, I1, R1, F1, A1, N1, L1, T1, J1, D1⟩ := u1
  try dsimp only at hp1
  obtain ⟨rfl, hq1, hs1, hfr1⟩ := hp1
  have hw : m_wo G K1 I1 R1 F1 A1 N1 L1 T1 J1 D1 s H locs := hw
  have hs1 : c_sim K1 I1 R1 N1 A1 L1 T1 x cd (Z, M).1 (Z, M).2 := hs1
  have hfr1 : c_fr K I R N A K1 I1 R1 N1 A1 := hfr1
  have hro1 := r_ok_fr hro hfr1
  have hz1 := r_st_fr hro hz hfr1
  have hka1 : K1 ao = 35 ∧ N1 ao = 1 := ⟨(hfr1 ao (by rw [hka.1]; simp [c_oth])).1.trans hka.1, (hfr1 ao (by rw [hka.1]; simp [c_oth])).2.1.trans hka.2⟩
  have hkd1 : K1 dd = 36 ∧ N1 dd = 1 := ⟨(hfr1 dd (by rw [hkd.1]; simp [c_oth])).1.trans hkd.1, (hfr1 dd (by rw [hkd.1]; simp [c_oth])).2.1.trans hkd.2⟩
  refine lv_istore (lv' := [(6, .int (t_b (o_shp Z a1))), (0, .ref b), (1, .ref x), (2, .ref o), (3, .ref ao), (4, .ref dd), (5, .int (nI (5 * t)))]) hx hb dL_law_1527 hl (by decide) rfl (fun ls hl => ?_)
  refine lv_aload_n hx hb dL_law_1529 rfl (lv_at hl 3 rfl) ?_
  refine lv_aload_n hx hb dL_law_1530 rfl (lv_at hl 1 rfl) ?_
  refine lv_iload hx hb dL_law_1531 (lv_at hl 6 rfl) ?_
  refine lv_iconst (v := 1) hx hb dL_law_1533 (by decide) ?_
  refine lv_iadd hx hb dL_law_1534 ?_
  refine va_sld hx hb hX hbl hbA hw.2.2.2.1 (show vp_in (nI (5 * t) + 1) n from lo_in (k := 1) hin hn9 (by decide)) dL_law_1535 ?_
  rw [← ea1]
  refine m_ci (va_runV (As := [.int a1]) (rest := []) ⟨hx, hb, hml, hown, hts⟩ (c_X9_at l a1 hro1 hz1 hns hn5) (cwV 1 hts gL_law_X9_at rfl rfl rfl (by decide +kernel) ⟨Nat.le_of_ble_eq_true rfl, Nat.le_of_ble_eq_true rfl⟩) ⟨m_blind m_B_calling, m_recv hw (m_ent_10 hro1.1) rfl, fun U hU hW => ⟨rfl, m_wo_call hw hU hW⟩⟩ rfl rfl hl.1 rfl (lv_room (Nat.le_of_ble_eq_true rfl)) dL_law_1536 ⟨lo_c (by omega), lo_s (by omega)⟩) hw (fun r_1536 u_1536 H locs hp_1536 hw => ?_)
  obtain ⟨I_1, A_2⟩ := u_1536
  have hw : m_wo G K1 I_1 R1 F1 A_2 N1 L1 T1 J1 D1 s H locs := hw
  dsimp only at hp_1536
  obtain ⟨hz2, hv2⟩ := hp_1536
  refine lv_istore (lv' := [(7, .int r_1536), (6, .int (t_b (o_shp Z a1))), (0, .ref b), (1, .ref x), (2, .ref o), (3, .ref ao), (4, .ref dd), (5, .int (nI (5 * t)))]) hx hb dL_law_1539 hl (by decide) rfl (fun ls hl => ?_)
  refine lv_aload_n hx hb dL_law_1541 rfl (lv_at hl 4 rfl) ?_
  refine m_ci (va_runV (As := []) (rest := []) ⟨hx, hb, hml, hown, hts⟩ (c_X9_thrown l hro1 (r_st_self hz2)) (cwV 0 hts gL_law_X9_thrown rfl rfl rfl (by decide +kernel) ⟨Nat.le_of_ble_eq_true rfl, Nat.le_of_ble_eq_true rfl⟩) ⟨m_blind m_B_calling, m_recv hw (m_ent_10 hro1.1) rfl, fun U hU hW => ⟨rfl, m_wo_call hw hU hW⟩⟩ rfl rfl hl.1 rfl (lv_room (Nat.le_of_ble_eq_true rfl)) dL_law_1542 ⟨lo_c (by omega), lo_s (by omega)⟩) hw (fun r_1542 u_1542 H locs hp_1542 hw => ?_)
  obtain rfl : r_1542 = (t_b (o_shp Z a1)) := hp_1542
  refine lv_iload hx hb dL_law_1545 (lv_at hl 1 rfl) ?_
  refine lv_icmp_eq (tgt := 1552) hx hb dL_law_1547 (by decide) (fun _ => ?_) (fun cz => absurd rfl cz)
  have hK9 : W p l e room_1 s m #[Value.ref b] below meth c H locs (cells + 1 + 0 + 0) (slots + 6 + 0 + 0) Q (F0 m 1569 ls []) := by
    refine lv_goto (tgt := 2020) hx hb dL_law_1569 (by decide) ?_
    refine lv_iinc (v := (nI (5 * t)) + 5) (lv' := [(5, .int ((nI (5 * t)) + 5)), (7, .int r_1536), (6, .int (t_b (o_shp Z a1))), (0, .ref b), (1, .ref x), (2, .ref o), (3, .ref ao), (4, .ref dd)]) hx hb dL_law_2020 hl (k := 7) rfl rfl (by decide) rfl (fun ls hl => ?_)
    refine lv_goto (tgt := 28) hx hb dL_law_2023 (by decide) ?_
    have hs2 := c_sim_ref hs1 hz2.2.2.1 hz2.2.2.2.1
    have hs3 := hs2
    have hf3 := (show w_f (Z, M).1 (Z, M).2 (t + 1) from w_same hf)
    rw [show nI (5 * t) + 5 = nI (5 * (t + 1)) from nI_add (5 * t) 5] at hl
    refine W.widen (k := cells + 600) (n := slots + 8300) (by omega) (by omega) ?_
    exact ih _ _ _ ⟨(K1, I_1, R1, F1, A_2, N1, L1, T1, J1, D1), cd, ad, _, _, _, hw, hs3, hro1, r_st_self hz2, hka1, hkd1, hf3, lv_sub hl [3, 4, 5, 6, 7, 0] rfl⟩
  refine lv_iload hx hb dL_law_1552 (lv_at hl 1 rfl) ?_
  refine lv_if_ne (tgt := 1569) hx hb dL_law_1554 (by decide) (fun _ => hK9) (fun c9 => ?_)
  obtain rfl : r_1536 = M 18 a1.toNatClampNeg := hv2 c9
  refine lv_aload_n hx hb dL_law_1557 rfl (lv_at hl 5 rfl) ?_
  refine lv_iconst (v := 0) hx hb dL_law_1558 (by decide) ?_
  refine m_laload_35 hx hb hw hka1.1 (h_in hka1.2) dL_law_1559 ?_
  rw [show J1 ao (0 : Int32).toNatClampNeg = (M 18 a1.toNatClampNeg).toInt64 from hq1 c9]
  refine lv_iload hx hb dL_law_1560 (lv_at hl 0 rfl) ?_
  refine lv_i2l (v := ((M 18 a1.toNatClampNeg)).toInt64) hx hb dL_law_1562 rfl ?_
  refine lv_lcmp0 hx hb dL_law_1563 ?_
  refine lv_if_eq (tgt := 1569) hx hb dL_law_1564 (by decide) (fun _ => ?_) (fun cz => absurd rfl cz)
  exact hK9
set_option maxHeartbeats 1600000 in
set_option maxRecDepth 100000 in
theorem lo_coins {p : Program} {l : Launch} {e : Env} {s : State} {m : MethodId} {below : List Frame} {meth : Method} {c : Code} {H : Heap} {locs : List Loc} {ls : Array Slot} {cells slots : Nat} {Q : State → Prop} {G : mG} {K : Nat → Nat} {I : Nat → Nat → Int32} {R : Nat → Nat → Option Nat} {F : Nat → UInt32} {A : Nat → Nat → Int32} {N : Nat → Nat} {L : Nat → List Nat} {T : Nat → List Int32} {J : Nat → Nat → Int64} {D : Nat → Nat → UInt64} {b n : Nat} {xs : Nat → Int32} {x o ao dd t : Nat} {cd ad : Nat → Nat} {Z : mZ} {M : mM} {th : Int32} (C : lw_cx p l s m c b n xs G) (hfp : f_all) (hw : m_wo G K I R F A N L T J D s H locs) (hs : c_sim K I R N A L T x cd Z M) (hro : r_ok K R N o ad) (hz : r_st K o ad I A I A Z M th) (hka : K ao = 35 ∧ N ao = 1) (hkd : K dd = 36 ∧ N dd = 1) (hf : w_f Z M t) (ht : t < 512) (hin : 5 * t + 5 ≤ n) (hl : lv_has ls 10 [(0, .ref b), (1, .ref x), (2, .ref o), (3, .ref ao), (4, .ref dd), (5, .int (nI (5 * t)))]) (hc9 : cells + 600 ≤ 603072) (hs9 : slots + 8300 ≤ 7211114) (ih : ∀ (H : Heap) (locs : List Loc) (ls : Array Slot), lw_I G s b x o ao dd (t + 1) H locs ls → W p l e room_1 s m #[Value.ref b] below meth c H locs (cells + 600) (slots + 8300) Q (F0 m 28 ls [])) : W p l e room_1 s m #[Value.ref b] below meth c H locs cells slots Q (F0 m 1572 ls []) := by
  obtain ⟨hx, hb, hml, hown, hts, hX, hbl, hbA, hnt, hcs, hn9⟩ := C
  have hni := hs.2.1.1
  have hn12 := hs.2.1.2.1
  have hnf := hs.2.2.1.1
  have hn120 := hs.2.2.1.2.1
  have hnsg := hs.2.2.2.2.1.1
  have hn20 := hs.2.2.2.2.1.2.1
  have hns := hs.2.2.2.2.2.1.1
  have hn5 := hs.2.2.2.2.2.1.2.1
  obtain ⟨nt, hnt9, h4t, hgt⟩ := u_gap hs
  have hw9 := u_shW hs
  have ht9 : t ≤ 512 := by omega
  obtain ⟨fpT, fpW, fpS, fpM, fp0⟩ := hfp
  obtain ⟨a1, ea1⟩ : ∃ z, z = xs (nI (5 * t) + 1).toNatClampNeg := ⟨_, rfl⟩
  refine lv_aload_n hx hb dL_law_1572 rfl (lv_at hl 1 rfl) ?_
  refine lv_aload_n hx hb dL_law_1573 rfl (lv_at hl 0 rfl) ?_
  refine lv_iload hx hb dL_law_1574 (lv_at hl 5 rfl) ?_
  refine lv_iconst (v := 1) hx hb dL_law_1576 (by decide) ?_
  refine lv_iadd hx hb dL_law_1577 ?_
  refine va_sld hx hb hX hbl hbA hw.2.2.2.1 (show vp_in (nI (5 * t) + 1) n from lo_in (k := 1) hin hn9 (by decide)) dL_law_1578 ?_
  rw [← ea1]
  refine lv_aload_n hx hb dL_law_1579 rfl (lv_at hl 3 rfl) ?_
  refine m_ci (vx_runSW (As := [.ref x, .int a1, .ref ao]) (rest := []) ⟨hx, hb, hml, hown, hts⟩ (c_L_coins l hnt hs hka.1 hka.2) (vx_cwSW 3 hts gL_law_L_coins rfl rfl rfl (by decide +kernel) ⟨Nat.le_of_ble_eq_true rfl, Nat.le_of_ble_eq_true rfl⟩) ⟨m_blind (fun U g mk a h => ⟨m_B_calling U g mk a h.1, c_str_calling U g mk a h.2⟩), fun U hU hW => ⟨rfl, m_wo_call hw hU hW, c_str_warm hW hcs⟩⟩ rfl rfl hl.1 rfl (lv_room (Nat.le_of_ble_eq_true rfl)) dL_law_1580 ⟨lo_c (by omega), lo_s (by omega)⟩) hw (fun r1 u1 H locs hp1 hw => ?_)
  obtain ⟨K1, I1, R1, F1, A1, N1, L1, T1, J1, D1⟩ := u1
  try dsimp only at hp1
  obtain ⟨rfl, hq1, hs1, hfr1⟩ := hp1
  have hw : m_wo G K1 I1 R1 F1 A1 N1 L1 T1 J1 D1 s H locs := hw
  have hs1 : c_sim K1 I1 R1 N1 A1 L1 T1 x cd (Z, M).1 (Z, M).2 := hs1
  have hfr1 : c_fr K I R N A K1 I1 R1 N1 A1 := hfr1
  have hro1 := r_ok_fr hro hfr1
  have hz1 := r_st_fr hro hz hfr1
  have hka1 : K1 ao = 35 ∧ N1 ao = 1 := ⟨(hfr1 ao (by rw [hka.1]; simp [c_oth])).1.trans hka.1, (hfr1 ao (by rw [hka.1]; simp [c_oth])).2.1.trans hka.2⟩
  have hkd1 : K1 dd = 36 ∧ N1 dd = 1 := ⟨(hfr1 dd (by rw [hkd.1]; simp [c_oth])).1.trans hkd.1, (hfr1 dd (by rw [hkd.1]; simp [c_oth])).2.1.trans hkd.2⟩
  refine lv_istore (lv' := [(6, .int (t_b (o_shp Z a1))), (0, .ref b), (1, .ref x), (2, .ref o), (3, .ref ao), (4, .ref dd), (5, .int (nI (5 * t)))]) hx hb dL_law_1583 hl (by decide) rfl (fun ls hl => ?_)
  refine lv_aload_n hx hb dL_law_1585 rfl (lv_at hl 3 rfl) ?_
  refine lv_aload_n hx hb dL_law_1586 rfl (lv_at hl 1 rfl) ?_
  refine lv_iload hx hb dL_law_1587 (lv_at hl 6 rfl) ?_
  refine lv_iconst (v := 1) hx hb dL_law_1589 (by decide) ?_
  refine lv_iadd hx hb dL_law_1590 ?_
  refine va_sld hx hb hX hbl hbA hw.2.2.2.1 (show vp_in (nI (5 * t) + 1) n from lo_in (k := 1) hin hn9 (by decide)) dL_law_1591 ?_
  rw [← ea1]
  refine m_ci (va_runV (As := [.int a1]) (rest := []) ⟨hx, hb, hml, hown, hts⟩ (c_X9_coins l a1 hro1 hz1 hns hn5) (cwV 1 hts gL_law_X9_coins rfl rfl rfl (by decide +kernel) ⟨Nat.le_of_ble_eq_true rfl, Nat.le_of_ble_eq_true rfl⟩) ⟨m_blind m_B_calling, m_recv hw (m_ent_10 hro1.1) rfl, fun U hU hW => ⟨rfl, m_wo_call hw hU hW⟩⟩ rfl rfl hl.1 rfl (lv_room (Nat.le_of_ble_eq_true rfl)) dL_law_1592 ⟨lo_c (by omega), lo_s (by omega)⟩) hw (fun r_1592 u_1592 H locs hp_1592 hw => ?_)
  obtain ⟨I_1, A_2⟩ := u_1592
  have hw : m_wo G K1 I_1 R1 F1 A_2 N1 L1 T1 J1 D1 s H locs := hw
  dsimp only at hp_1592
  obtain ⟨hz2, hv2⟩ := hp_1592
  refine lv_istore (lv' := [(7, .int r_1592), (6, .int (t_b (o_shp Z a1))), (0, .ref b), (1, .ref x), (2, .ref o), (3, .ref ao), (4, .ref dd), (5, .int (nI (5 * t)))]) hx hb dL_law_1595 hl (by decide) rfl (fun ls hl => ?_)
  refine lv_aload_n hx hb dL_law_1597 rfl (lv_at hl 4 rfl) ?_
  refine m_ci (va_runV (As := []) (rest := []) ⟨hx, hb, hml, hown, hts⟩ (c_X9_thrown l hro1 (r_st_self hz2)) (cwV 0 hts gL_law_X9_thrown rfl rfl rfl (by decide +kernel) ⟨Nat.le_of_ble_eq_true rfl, Nat.le_of_ble_eq_true rfl⟩) ⟨m_blind m_B_calling, m_recv hw (m_ent_10 hro1.1) rfl, fun U hU hW => ⟨rfl, m_wo_call hw hU hW⟩⟩ rfl rfl hl.1 rfl (lv_room (Nat.le_of_ble_eq_true rfl)) dL_law_1598 ⟨lo_c (by omega), lo_s (by omega)⟩) hw (fun r_1598 u_1598 H locs hp_1598 hw => ?_)
  obtain rfl : r_1598 = (t_b (o_shp Z a1)) := hp_1598
  refine lv_iload hx hb dL_law_1601 (lv_at hl 1 rfl) ?_
  refine lv_icmp_eq (tgt := 1608) hx hb dL_law_1603 (by decide) (fun _ => ?_) (fun cz => absurd rfl cz)
  have hK9 : W p l e room_1 s m #[Value.ref b] below meth c H locs (cells + 1 + 0 + 0) (slots + 6 + 0 + 0) Q (F0 m 1625 ls []) := by
    refine lv_goto (tgt := 2020) hx hb dL_law_1625 (by decide) ?_
    refine lv_iinc (v := (nI (5 * t)) + 5) (lv' := [(5, .int ((nI (5 * t)) + 5)), (7, .int r_1592), (6, .int (t_b (o_shp Z a1))), (0, .ref b), (1, .ref x), (2, .ref o), (3, .ref ao), (4, .ref dd)]) hx hb dL_law_2020 hl (k := 7) rfl rfl (by decide) rfl (fun ls hl => ?_)
    refine lv_goto (tgt := 28) hx hb dL_law_2023 (by decide) ?_
    have hs2 := c_sim_ref hs1 hz2.2.2.1 hz2.2.2.2.1
    have hs3 := hs2
    have hf3 := (show w_f (Z, M).1 (Z, M).2 (t + 1) from w_same hf)
    rw [show nI (5 * t) + 5 = nI (5 * (t + 1)) from nI_add (5 * t) 5] at hl
    refine W.widen (k := cells + 600) (n := slots + 8300) (by omega) (by omega) ?_
    exact ih _ _ _ ⟨(K1, I_1, R1, F1, A_2, N1, L1, T1, J1, D1), cd, ad, _, _, _, hw, hs3, hro1, r_st_self hz2, hka1, hkd1, hf3, lv_sub hl [3, 4, 5, 6, 7, 0] rfl⟩
  refine lv_iload hx hb dL_law_1608 (lv_at hl 1 rfl) ?_
  refine lv_if_ne (tgt := 1625) hx hb dL_law_1610 (by decide) (fun _ => hK9) (fun c9 => ?_)
  obtain rfl : r_1592 = M 19 a1.toNatClampNeg := hv2 c9
  refine lv_aload_n hx hb dL_law_1613 rfl (lv_at hl 5 rfl) ?_
  refine lv_iconst (v := 0) hx hb dL_law_1614 (by decide) ?_
  refine m_laload_35 hx hb hw hka1.1 (h_in hka1.2) dL_law_1615 ?_
  rw [show J1 ao (0 : Int32).toNatClampNeg = (M 19 a1.toNatClampNeg).toInt64 from hq1 c9]
  refine lv_iload hx hb dL_law_1616 (lv_at hl 0 rfl) ?_
  refine lv_i2l (v := ((M 19 a1.toNatClampNeg)).toInt64) hx hb dL_law_1618 rfl ?_
  refine lv_lcmp0 hx hb dL_law_1619 ?_
  refine lv_if_eq (tgt := 1625) hx hb dL_law_1620 (by decide) (fun _ => ?_) (fun cz => absurd rfl cz)
  exact hK9
set_option maxHeartbeats 1600000 in
set_option maxRecDepth 100000 in
theorem lo_hasMap {p : Program} {l : Launch} {e : Env} {s : State} {m : MethodId} {below : List Frame} {meth : Method} {c : Code} {H : Heap} {locs : List Loc} {ls : Array Slot} {cells slots : Nat} {Q : State → Prop} {G : mG} {K : Nat → Nat} {I : Nat → Nat → Int32} {R : Nat → Nat → Option Nat} {F : Nat → UInt32} {A : Nat → Nat → Int32} {N : Nat → Nat} {L : Nat → List Nat} {T : Nat → List Int32} {J : Nat → Nat → Int64} {D : Nat → Nat → UInt64} {b n : Nat} {xs : Nat → Int32} {x o ao dd t : Nat} {cd ad : Nat → Nat} {Z : mZ} {M : mM} {th : Int32} (C : lw_cx p l s m c b n xs G) (hfp : f_all) (hw : m_wo G K I R F A N L T J D s H locs) (hs : c_sim K I R N A L T x cd Z M) (hro : r_ok K R N o ad) (hz : r_st K o ad I A I A Z M th) (hka : K ao = 35 ∧ N ao = 1) (hkd : K dd = 36 ∧ N dd = 1) (hf : w_f Z M t) (ht : t < 512) (hin : 5 * t + 5 ≤ n) (hl : lv_has ls 10 [(0, .ref b), (1, .ref x), (2, .ref o), (3, .ref ao), (4, .ref dd), (5, .int (nI (5 * t)))]) (hc9 : cells + 600 ≤ 603072) (hs9 : slots + 8300 ≤ 7211114) (ih : ∀ (H : Heap) (locs : List Loc) (ls : Array Slot), lw_I G s b x o ao dd (t + 1) H locs ls → W p l e room_1 s m #[Value.ref b] below meth c H locs (cells + 600) (slots + 8300) Q (F0 m 28 ls [])) : W p l e room_1 s m #[Value.ref b] below meth c H locs cells slots Q (F0 m 1628 ls []) := by
  obtain ⟨hx, hb, hml, hown, hts, hX, hbl, hbA, hnt, hcs, hn9⟩ := C
  have hni := hs.2.1.1
  have hn12 := hs.2.1.2.1
  have hnf := hs.2.2.1.1
  have hn120 := hs.2.2.1.2.1
  have hnsg := hs.2.2.2.2.1.1
  have hn20 := hs.2.2.2.2.1.2.1
  have hns := hs.2.2.2.2.2.1.1
  have hn5 := hs.2.2.2.2.2.1.2.1
  obtain ⟨nt, hnt9, h4t, hgt⟩ := u_gap hs
  have hw9 := u_shW hs
  have ht9 : t ≤ 512 := by omega
  obtain ⟨fpT, fpW, fpS, fpM, fp0⟩ := hfp
  obtain ⟨a1, ea1⟩ : ∃ z, z = xs (nI (5 * t) + 1).toNatClampNeg := ⟨_, rfl⟩
  refine lv_aload_n hx hb dL_law_1628 rfl (lv_at hl 1 rfl) ?_
  refine lv_aload_n hx hb dL_law_1629 rfl (lv_at hl 0 rfl) ?_
  refine lv_iload hx hb dL_law_1630 (lv_at hl 5 rfl) ?_
  refine lv_iconst (v := 1) hx hb dL_law_1632 (by decide) ?_
  refine lv_iadd hx hb dL_law_1633 ?_
  refine va_sld hx hb hX hbl hbA hw.2.2.2.1 (show vp_in (nI (5 * t) + 1) n from lo_in (k := 1) hin hn9 (by decide)) dL_law_1634 ?_
  rw [← ea1]
  refine lv_aload_n hx hb dL_law_1635 rfl (lv_at hl 3 rfl) ?_
  refine m_ci (vx_runSW (As := [.ref x, .int a1, .ref ao]) (rest := []) ⟨hx, hb, hml, hown, hts⟩ (c_L_hasMap l hnt hs hka.1 hka.2) (vx_cwSW 3 hts gL_law_L_hasMap rfl rfl rfl (by decide +kernel) ⟨Nat.le_of_ble_eq_true rfl, Nat.le_of_ble_eq_true rfl⟩) ⟨m_blind (fun U g mk a h => ⟨m_B_calling U g mk a h.1, c_str_calling U g mk a h.2⟩), fun U hU hW => ⟨rfl, m_wo_call hw hU hW, c_str_warm hW hcs⟩⟩ rfl rfl hl.1 rfl (lv_room (Nat.le_of_ble_eq_true rfl)) dL_law_1636 ⟨lo_c (by omega), lo_s (by omega)⟩) hw (fun r1 u1 H locs hp1 hw => ?_)
  obtain ⟨K1, I1, R1, F1, A1, N1, L1, T1, J1, D1⟩ := u1
  try dsimp only at hp1
  obtain ⟨rfl, hq1, hs1, hfr1⟩ := hp1
  have hw : m_wo G K1 I1 R1 F1 A1 N1 L1 T1 J1 D1 s H locs := hw
  have hs1 : c_sim K1 I1 R1 N1 A1 L1 T1 x cd (Z, M).1 (Z, M).2 := hs1
  have hfr1 : c_fr K I R N A K1 I1 R1 N1 A1 := hfr1
  have hro1 := r_ok_fr hro hfr1
  have hz1 := r_st_fr hro hz hfr1
  have hka1 : K1 ao = 35 ∧ N1 ao = 1 := ⟨(hfr1 ao (by rw [hka.1]; simp [c_oth])).1.trans hka.1, (hfr1 ao (by rw [hka.1]; simp [c_oth])).2.1.trans hka.2⟩
  have hkd1 : K1 dd = 36 ∧ N1 dd = 1 := ⟨(hfr1 dd (by rw [hkd.1]; simp [c_oth])).1.trans hkd.1, (hfr1 dd (by rw [hkd.1]; simp [c_oth])).2.1.trans hkd.2⟩
  refine lv_istore (lv' := [(6, .int (t_b (o_shp Z a1))), (0, .ref b), (1, .ref x), (2, .ref o), (3, .ref ao), (4, .ref dd), (5, .int (nI (5 * t)))]) hx hb dL_law_1639 hl (by decide) rfl (fun ls hl => ?_)
  refine lv_aload_n hx hb dL_law_1641 rfl (lv_at hl 3 rfl) ?_
  refine lv_aload_n hx hb dL_law_1642 rfl (lv_at hl 1 rfl) ?_
  refine lv_iload hx hb dL_law_1643 (lv_at hl 6 rfl) ?_
  refine lv_iconst (v := 1) hx hb dL_law_1645 (by decide) ?_
  refine lv_iadd hx hb dL_law_1646 ?_
  refine va_sld hx hb hX hbl hbA hw.2.2.2.1 (show vp_in (nI (5 * t) + 1) n from lo_in (k := 1) hin hn9 (by decide)) dL_law_1647 ?_
  rw [← ea1]
  refine m_ci (va_runV (As := [.int a1]) (rest := []) ⟨hx, hb, hml, hown, hts⟩ (c_X9_hasMap l a1 hro1 hz1 hns hn5) (cwV 1 hts gL_law_X9_hasMap rfl rfl rfl (by decide +kernel) ⟨Nat.le_of_ble_eq_true rfl, Nat.le_of_ble_eq_true rfl⟩) ⟨m_blind m_B_calling, m_recv hw (m_ent_10 hro1.1) rfl, fun U hU hW => ⟨rfl, m_wo_call hw hU hW⟩⟩ rfl rfl hl.1 rfl (lv_room (Nat.le_of_ble_eq_true rfl)) dL_law_1648 ⟨lo_c (by omega), lo_s (by omega)⟩) hw (fun r_1648 u_1648 H locs hp_1648 hw => ?_)
  obtain ⟨I_1, A_2⟩ := u_1648
  have hw : m_wo G K1 I_1 R1 F1 A_2 N1 L1 T1 J1 D1 s H locs := hw
  dsimp only at hp_1648
  obtain ⟨hz2, hv2⟩ := hp_1648
  refine lv_istore (lv' := [(7, .int r_1648), (6, .int (t_b (o_shp Z a1))), (0, .ref b), (1, .ref x), (2, .ref o), (3, .ref ao), (4, .ref dd), (5, .int (nI (5 * t)))]) hx hb dL_law_1651 hl (by decide) rfl (fun ls hl => ?_)
  refine lv_aload_n hx hb dL_law_1653 rfl (lv_at hl 4 rfl) ?_
  refine m_ci (va_runV (As := []) (rest := []) ⟨hx, hb, hml, hown, hts⟩ (c_X9_thrown l hro1 (r_st_self hz2)) (cwV 0 hts gL_law_X9_thrown rfl rfl rfl (by decide +kernel) ⟨Nat.le_of_ble_eq_true rfl, Nat.le_of_ble_eq_true rfl⟩) ⟨m_blind m_B_calling, m_recv hw (m_ent_10 hro1.1) rfl, fun U hU hW => ⟨rfl, m_wo_call hw hU hW⟩⟩ rfl rfl hl.1 rfl (lv_room (Nat.le_of_ble_eq_true rfl)) dL_law_1654 ⟨lo_c (by omega), lo_s (by omega)⟩) hw (fun r_1654 u_1654 H locs hp_1654 hw => ?_)
  obtain rfl : r_1654 = (t_b (o_shp Z a1)) := hp_1654
  refine lv_iload hx hb dL_law_1657 (lv_at hl 1 rfl) ?_
  refine lv_icmp_eq (tgt := 1664) hx hb dL_law_1659 (by decide) (fun _ => ?_) (fun cz => absurd rfl cz)
  have hK9 : W p l e room_1 s m #[Value.ref b] below meth c H locs (cells + 1 + 0 + 0) (slots + 6 + 0 + 0) Q (F0 m 1688 ls []) := by
    refine lv_goto (tgt := 2020) hx hb dL_law_1688 (by decide) ?_
    refine lv_iinc (v := (nI (5 * t)) + 5) (lv' := [(5, .int ((nI (5 * t)) + 5)), (7, .int r_1648), (6, .int (t_b (o_shp Z a1))), (0, .ref b), (1, .ref x), (2, .ref o), (3, .ref ao), (4, .ref dd)]) hx hb dL_law_2020 hl (k := 7) rfl rfl (by decide) rfl (fun ls hl => ?_)
    refine lv_goto (tgt := 28) hx hb dL_law_2023 (by decide) ?_
    have hs2 := c_sim_ref hs1 hz2.2.2.1 hz2.2.2.2.1
    have hs3 := hs2
    have hf3 := (show w_f (Z, M).1 (Z, M).2 (t + 1) from w_same hf)
    rw [show nI (5 * t) + 5 = nI (5 * (t + 1)) from nI_add (5 * t) 5] at hl
    refine W.widen (k := cells + 600) (n := slots + 8300) (by omega) (by omega) ?_
    exact ih _ _ _ ⟨(K1, I_1, R1, F1, A_2, N1, L1, T1, J1, D1), cd, ad, _, _, _, hw, hs3, hro1, r_st_self hz2, hka1, hkd1, hf3, lv_sub hl [3, 4, 5, 6, 7, 0] rfl⟩
  refine lv_iload hx hb dL_law_1664 (lv_at hl 1 rfl) ?_
  refine lv_if_ne (tgt := 1688) hx hb dL_law_1666 (by decide) (fun _ => hK9) (fun c9 => ?_)
  obtain rfl : r_1648 = b2i (decide (0 < M 22 a1.toNatClampNeg)) := hv2 c9
  refine lv_aload_n hx hb dL_law_1669 rfl (lv_at hl 5 rfl) ?_
  refine lv_iconst (v := 0) hx hb dL_law_1670 (by decide) ?_
  refine m_laload_35 hx hb hw hka1.1 (h_in hka1.2) dL_law_1671 ?_
  rw [show J1 ao (0 : Int32).toNatClampNeg = (b2i (decide (0 < M 22 a1.toNatClampNeg))).toInt64 from hq1 c9]
  refine lv_iload hx hb dL_law_1672 (lv_at hl 0 rfl) ?_
  refine lv_if_eq (tgt := 1681) hx hb dL_law_1674 (by decide) (fun cb => ?_) (fun cb => ?_)
  · skip
    rw [show (b2i (decide (0 < M 22 a1.toNatClampNeg))).toInt64 = (0 : Int64) from (by rw [(b2i_eq _).mp cb]; rfl)]
    refine lv_lconst (v := 0) hx hb dL_law_1681 (by decide) ?_
    refine lv_lcmp0 hx hb dL_law_1682 ?_
    refine lv_if_eq (tgt := 1688) hx hb dL_law_1683 (by decide) (fun _ => ?_) (fun cz => absurd rfl cz)
    exact hK9
  · skip
    rw [show (b2i (decide (0 < M 22 a1.toNatClampNeg))).toInt64 = (1 : Int64) from (by rw [(b2i_ne _).mp cb]; rfl)]
    refine lv_lconst (v := 1) hx hb dL_law_1677 (by decide) ?_
    refine lv_goto (tgt := 1682) hx hb dL_law_1678 (by decide) ?_
    refine lv_lcmp0 hx hb dL_law_1682 ?_
    refine lv_if_eq (tgt := 1688) hx hb dL_law_1683 (by decide) (fun _ => ?_) (fun cz => absurd rfl cz)
    exact hK9
set_option maxHeartbeats 1600000 in
set_option maxRecDepth 100000 in
theorem lo_isThere {p : Program} {l : Launch} {e : Env} {s : State} {m : MethodId} {below : List Frame} {meth : Method} {c : Code} {H : Heap} {locs : List Loc} {ls : Array Slot} {cells slots : Nat} {Q : State → Prop} {G : mG} {K : Nat → Nat} {I : Nat → Nat → Int32} {R : Nat → Nat → Option Nat} {F : Nat → UInt32} {A : Nat → Nat → Int32} {N : Nat → Nat} {L : Nat → List Nat} {T : Nat → List Int32} {J : Nat → Nat → Int64} {D : Nat → Nat → UInt64} {b n : Nat} {xs : Nat → Int32} {x o ao dd t : Nat} {cd ad : Nat → Nat} {Z : mZ} {M : mM} {th : Int32} (C : lw_cx p l s m c b n xs G) (hfp : f_all) (hw : m_wo G K I R F A N L T J D s H locs) (hs : c_sim K I R N A L T x cd Z M) (hro : r_ok K R N o ad) (hz : r_st K o ad I A I A Z M th) (hka : K ao = 35 ∧ N ao = 1) (hkd : K dd = 36 ∧ N dd = 1) (hf : w_f Z M t) (ht : t < 512) (hin : 5 * t + 5 ≤ n) (hl : lv_has ls 10 [(0, .ref b), (1, .ref x), (2, .ref o), (3, .ref ao), (4, .ref dd), (5, .int (nI (5 * t)))]) (hc9 : cells + 600 ≤ 603072) (hs9 : slots + 8300 ≤ 7211114) (ih : ∀ (H : Heap) (locs : List Loc) (ls : Array Slot), lw_I G s b x o ao dd (t + 1) H locs ls → W p l e room_1 s m #[Value.ref b] below meth c H locs (cells + 600) (slots + 8300) Q (F0 m 28 ls [])) : W p l e room_1 s m #[Value.ref b] below meth c H locs cells slots Q (F0 m 1691 ls []) := by
  obtain ⟨hx, hb, hml, hown, hts, hX, hbl, hbA, hnt, hcs, hn9⟩ := C
  have hni := hs.2.1.1
  have hn12 := hs.2.1.2.1
  have hnf := hs.2.2.1.1
  have hn120 := hs.2.2.1.2.1
  have hnsg := hs.2.2.2.2.1.1
  have hn20 := hs.2.2.2.2.1.2.1
  have hns := hs.2.2.2.2.2.1.1
  have hn5 := hs.2.2.2.2.2.1.2.1
  obtain ⟨nt, hnt9, h4t, hgt⟩ := u_gap hs
  have hw9 := u_shW hs
  have ht9 : t ≤ 512 := by omega
  obtain ⟨fpT, fpW, fpS, fpM, fp0⟩ := hfp
  obtain ⟨a1, ea1⟩ : ∃ z, z = xs (nI (5 * t) + 1).toNatClampNeg := ⟨_, rfl⟩
  refine lv_aload_n hx hb dL_law_1691 rfl (lv_at hl 1 rfl) ?_
  refine lv_aload_n hx hb dL_law_1692 rfl (lv_at hl 0 rfl) ?_
  refine lv_iload hx hb dL_law_1693 (lv_at hl 5 rfl) ?_
  refine lv_iconst (v := 1) hx hb dL_law_1695 (by decide) ?_
  refine lv_iadd hx hb dL_law_1696 ?_
  refine va_sld hx hb hX hbl hbA hw.2.2.2.1 (show vp_in (nI (5 * t) + 1) n from lo_in (k := 1) hin hn9 (by decide)) dL_law_1697 ?_
  rw [← ea1]
  refine lv_aload_n hx hb dL_law_1698 rfl (lv_at hl 3 rfl) ?_
  refine m_ci (vx_runSW (As := [.ref x, .int a1, .ref ao]) (rest := []) ⟨hx, hb, hml, hown, hts⟩ (c_L_isThere l hnt hs hka.1 hka.2) (vx_cwSW 3 hts gL_law_L_isThere rfl rfl rfl (by decide +kernel) ⟨Nat.le_of_ble_eq_true rfl, Nat.le_of_ble_eq_true rfl⟩) ⟨m_blind (fun U g mk a h => ⟨m_B_calling U g mk a h.1, c_str_calling U g mk a h.2⟩), fun U hU hW => ⟨rfl, m_wo_call hw hU hW, c_str_warm hW hcs⟩⟩ rfl rfl hl.1 rfl (lv_room (Nat.le_of_ble_eq_true rfl)) dL_law_1699 ⟨lo_c (by omega), lo_s (by omega)⟩) hw (fun r1 u1 H locs hp1 hw => ?_)
  obtain ⟨K1, I1, R1, F1, A1, N1, L1, T1, J1, D1⟩ := u1
  try dsimp only at hp1
  obtain ⟨rfl, hq1, hs1, hfr1⟩ := hp1
  have hw : m_wo G K1 I1 R1 F1 A1 N1 L1 T1 J1 D1 s H locs := hw
  have hs1 : c_sim K1 I1 R1 N1 A1 L1 T1 x cd (Z, M).1 (Z, M).2 := hs1
  have hfr1 : c_fr K I R N A K1 I1 R1 N1 A1 := hfr1
  have hro1 := r_ok_fr hro hfr1
  have hz1 := r_st_fr hro hz hfr1
  have hka1 : K1 ao = 35 ∧ N1 ao = 1 := ⟨(hfr1 ao (by rw [hka.1]; simp [c_oth])).1.trans hka.1, (hfr1 ao (by rw [hka.1]; simp [c_oth])).2.1.trans hka.2⟩
  have hkd1 : K1 dd = 36 ∧ N1 dd = 1 := ⟨(hfr1 dd (by rw [hkd.1]; simp [c_oth])).1.trans hkd.1, (hfr1 dd (by rw [hkd.1]; simp [c_oth])).2.1.trans hkd.2⟩
  refine lv_istore (lv' := [(6, .int (t_b (o_isl Z a1))), (0, .ref b), (1, .ref x), (2, .ref o), (3, .ref ao), (4, .ref dd), (5, .int (nI (5 * t)))]) hx hb dL_law_1702 hl (by decide) rfl (fun ls hl => ?_)
  refine lv_aload_n hx hb dL_law_1704 rfl (lv_at hl 3 rfl) ?_
  refine lv_aload_n hx hb dL_law_1705 rfl (lv_at hl 1 rfl) ?_
  refine lv_iload hx hb dL_law_1706 (lv_at hl 6 rfl) ?_
  refine lv_iconst (v := 1) hx hb dL_law_1708 (by decide) ?_
  refine lv_iadd hx hb dL_law_1709 ?_
  refine va_sld hx hb hX hbl hbA hw.2.2.2.1 (show vp_in (nI (5 * t) + 1) n from lo_in (k := 1) hin hn9 (by decide)) dL_law_1710 ?_
  rw [← ea1]
  refine m_ci (va_runV (As := [.int a1]) (rest := []) ⟨hx, hb, hml, hown, hts⟩ (c_X9_isThere l a1 hro1 hz1 hni hn12) (cwV 1 hts gL_law_X9_isThere rfl rfl rfl (by decide +kernel) ⟨Nat.le_of_ble_eq_true rfl, Nat.le_of_ble_eq_true rfl⟩) ⟨m_blind m_B_calling, m_recv hw (m_ent_10 hro1.1) rfl, fun U hU hW => ⟨rfl, m_wo_call hw hU hW⟩⟩ rfl rfl hl.1 rfl (lv_room (Nat.le_of_ble_eq_true rfl)) dL_law_1711 ⟨lo_c (by omega), lo_s (by omega)⟩) hw (fun r_1711 u_1711 H locs hp_1711 hw => ?_)
  obtain ⟨I_1, A_2⟩ := u_1711
  have hw : m_wo G K1 I_1 R1 F1 A_2 N1 L1 T1 J1 D1 s H locs := hw
  dsimp only at hp_1711
  obtain ⟨hz2, hv2⟩ := hp_1711
  refine lv_istore (lv' := [(7, .int r_1711), (6, .int (t_b (o_isl Z a1))), (0, .ref b), (1, .ref x), (2, .ref o), (3, .ref ao), (4, .ref dd), (5, .int (nI (5 * t)))]) hx hb dL_law_1714 hl (by decide) rfl (fun ls hl => ?_)
  refine lv_aload_n hx hb dL_law_1716 rfl (lv_at hl 4 rfl) ?_
  refine m_ci (va_runV (As := []) (rest := []) ⟨hx, hb, hml, hown, hts⟩ (c_X9_thrown l hro1 (r_st_self hz2)) (cwV 0 hts gL_law_X9_thrown rfl rfl rfl (by decide +kernel) ⟨Nat.le_of_ble_eq_true rfl, Nat.le_of_ble_eq_true rfl⟩) ⟨m_blind m_B_calling, m_recv hw (m_ent_10 hro1.1) rfl, fun U hU hW => ⟨rfl, m_wo_call hw hU hW⟩⟩ rfl rfl hl.1 rfl (lv_room (Nat.le_of_ble_eq_true rfl)) dL_law_1717 ⟨lo_c (by omega), lo_s (by omega)⟩) hw (fun r_1717 u_1717 H locs hp_1717 hw => ?_)
  obtain rfl : r_1717 = (t_b (o_isl Z a1)) := hp_1717
  refine lv_iload hx hb dL_law_1720 (lv_at hl 1 rfl) ?_
  refine lv_icmp_eq (tgt := 1727) hx hb dL_law_1722 (by decide) (fun _ => ?_) (fun cz => absurd rfl cz)
  have hK9 : W p l e room_1 s m #[Value.ref b] below meth c H locs (cells + 1 + 0 + 0) (slots + 6 + 0 + 0) Q (F0 m 1751 ls []) := by
    refine lv_goto (tgt := 2020) hx hb dL_law_1751 (by decide) ?_
    refine lv_iinc (v := (nI (5 * t)) + 5) (lv' := [(5, .int ((nI (5 * t)) + 5)), (7, .int r_1711), (6, .int (t_b (o_isl Z a1))), (0, .ref b), (1, .ref x), (2, .ref o), (3, .ref ao), (4, .ref dd)]) hx hb dL_law_2020 hl (k := 7) rfl rfl (by decide) rfl (fun ls hl => ?_)
    refine lv_goto (tgt := 28) hx hb dL_law_2023 (by decide) ?_
    have hs2 := c_sim_ref hs1 hz2.2.2.1 hz2.2.2.2.1
    have hs3 := hs2
    have hf3 := (show w_f (Z, M).1 (Z, M).2 (t + 1) from w_same hf)
    rw [show nI (5 * t) + 5 = nI (5 * (t + 1)) from nI_add (5 * t) 5] at hl
    refine W.widen (k := cells + 600) (n := slots + 8300) (by omega) (by omega) ?_
    exact ih _ _ _ ⟨(K1, I_1, R1, F1, A_2, N1, L1, T1, J1, D1), cd, ad, _, _, _, hw, hs3, hro1, r_st_self hz2, hka1, hkd1, hf3, lv_sub hl [3, 4, 5, 6, 7, 0] rfl⟩
  refine lv_iload hx hb dL_law_1727 (lv_at hl 1 rfl) ?_
  refine lv_if_ne (tgt := 1751) hx hb dL_law_1729 (by decide) (fun _ => hK9) (fun c9 => ?_)
  obtain rfl : r_1711 = b2i (decide (M 10 a1.toNatClampNeg = 0)) := hv2 c9
  refine lv_aload_n hx hb dL_law_1732 rfl (lv_at hl 5 rfl) ?_
  refine lv_iconst (v := 0) hx hb dL_law_1733 (by decide) ?_
  refine m_laload_35 hx hb hw hka1.1 (h_in hka1.2) dL_law_1734 ?_
  rw [show J1 ao (0 : Int32).toNatClampNeg = (b2i (decide (M 10 a1.toNatClampNeg = 0))).toInt64 from hq1 c9]
  refine lv_iload hx hb dL_law_1735 (lv_at hl 0 rfl) ?_
  refine lv_if_eq (tgt := 1744) hx hb dL_law_1737 (by decide) (fun cb => ?_) (fun cb => ?_)
  · skip
    rw [show (b2i (decide (M 10 a1.toNatClampNeg = 0))).toInt64 = (0 : Int64) from (by rw [(b2i_eq _).mp cb]; rfl)]
    refine lv_lconst (v := 0) hx hb dL_law_1744 (by decide) ?_
    refine lv_lcmp0 hx hb dL_law_1745 ?_
    refine lv_if_eq (tgt := 1751) hx hb dL_law_1746 (by decide) (fun _ => ?_) (fun cz => absurd rfl cz)
    exact hK9
  · skip
    rw [show (b2i (decide (M 10 a1.toNatClampNeg = 0))).toInt64 = (1 : Int64) from (by rw [(b2i_ne _).mp cb]; rfl)]
    refine lv_lconst (v := 1) hx hb dL_law_1740 (by decide) ?_
    refine lv_goto (tgt := 1745) hx hb dL_law_1741 (by decide) ?_
    refine lv_lcmp0 hx hb dL_law_1745 ?_
    refine lv_if_eq (tgt := 1751) hx hb dL_law_1746 (by decide) (fun _ => ?_) (fun cz => absurd rfl cz)
    exact hK9
set_option maxHeartbeats 1600000 in
set_option maxRecDepth 100000 in
theorem lo_isStruck {p : Program} {l : Launch} {e : Env} {s : State} {m : MethodId} {below : List Frame} {meth : Method} {c : Code} {H : Heap} {locs : List Loc} {ls : Array Slot} {cells slots : Nat} {Q : State → Prop} {G : mG} {K : Nat → Nat} {I : Nat → Nat → Int32} {R : Nat → Nat → Option Nat} {F : Nat → UInt32} {A : Nat → Nat → Int32} {N : Nat → Nat} {L : Nat → List Nat} {T : Nat → List Int32} {J : Nat → Nat → Int64} {D : Nat → Nat → UInt64} {b n : Nat} {xs : Nat → Int32} {x o ao dd t : Nat} {cd ad : Nat → Nat} {Z : mZ} {M : mM} {th : Int32} (C : lw_cx p l s m c b n xs G) (hfp : f_all) (hw : m_wo G K I R F A N L T J D s H locs) (hs : c_sim K I R N A L T x cd Z M) (hro : r_ok K R N o ad) (hz : r_st K o ad I A I A Z M th) (hka : K ao = 35 ∧ N ao = 1) (hkd : K dd = 36 ∧ N dd = 1) (hf : w_f Z M t) (ht : t < 512) (hin : 5 * t + 5 ≤ n) (hl : lv_has ls 10 [(0, .ref b), (1, .ref x), (2, .ref o), (3, .ref ao), (4, .ref dd), (5, .int (nI (5 * t)))]) (hc9 : cells + 600 ≤ 603072) (hs9 : slots + 8300 ≤ 7211114) (ih : ∀ (H : Heap) (locs : List Loc) (ls : Array Slot), lw_I G s b x o ao dd (t + 1) H locs ls → W p l e room_1 s m #[Value.ref b] below meth c H locs (cells + 600) (slots + 8300) Q (F0 m 28 ls [])) : W p l e room_1 s m #[Value.ref b] below meth c H locs cells slots Q (F0 m 1754 ls []) := by
  obtain ⟨hx, hb, hml, hown, hts, hX, hbl, hbA, hnt, hcs, hn9⟩ := C
  have hni := hs.2.1.1
  have hn12 := hs.2.1.2.1
  have hnf := hs.2.2.1.1
  have hn120 := hs.2.2.1.2.1
  have hnsg := hs.2.2.2.2.1.1
  have hn20 := hs.2.2.2.2.1.2.1
  have hns := hs.2.2.2.2.2.1.1
  have hn5 := hs.2.2.2.2.2.1.2.1
  obtain ⟨nt, hnt9, h4t, hgt⟩ := u_gap hs
  have hw9 := u_shW hs
  have ht9 : t ≤ 512 := by omega
  obtain ⟨fpT, fpW, fpS, fpM, fp0⟩ := hfp
  obtain ⟨a1, ea1⟩ : ∃ z, z = xs (nI (5 * t) + 1).toNatClampNeg := ⟨_, rfl⟩
  refine lv_aload_n hx hb dL_law_1754 rfl (lv_at hl 1 rfl) ?_
  refine lv_aload_n hx hb dL_law_1755 rfl (lv_at hl 0 rfl) ?_
  refine lv_iload hx hb dL_law_1756 (lv_at hl 5 rfl) ?_
  refine lv_iconst (v := 1) hx hb dL_law_1758 (by decide) ?_
  refine lv_iadd hx hb dL_law_1759 ?_
  refine va_sld hx hb hX hbl hbA hw.2.2.2.1 (show vp_in (nI (5 * t) + 1) n from lo_in (k := 1) hin hn9 (by decide)) dL_law_1760 ?_
  rw [← ea1]
  refine lv_aload_n hx hb dL_law_1761 rfl (lv_at hl 3 rfl) ?_
  refine m_ci (vx_runSW (As := [.ref x, .int a1, .ref ao]) (rest := []) ⟨hx, hb, hml, hown, hts⟩ (c_L_isStruck l hnt hs (hf.2.2.2.2.1) hka.1 hka.2) (vx_cwSW 3 hts gL_law_L_isStruck rfl rfl rfl (by decide +kernel) ⟨Nat.le_of_ble_eq_true rfl, Nat.le_of_ble_eq_true rfl⟩) ⟨m_blind (fun U g mk a h => ⟨m_B_calling U g mk a h.1, c_str_calling U g mk a h.2⟩), fun U hU hW => ⟨rfl, m_wo_call hw hU hW, c_str_warm hW hcs⟩⟩ rfl rfl hl.1 rfl (lv_room (Nat.le_of_ble_eq_true rfl)) dL_law_1762 ⟨lo_c (by omega), lo_s (by omega)⟩) hw (fun r1 u1 H locs hp1 hw => ?_)
  obtain ⟨K1, I1, R1, F1, A1, N1, L1, T1, J1, D1⟩ := u1
  try dsimp only at hp1
  obtain ⟨rfl, hq1, hs1, hfr1⟩ := hp1
  have hw : m_wo G K1 I1 R1 F1 A1 N1 L1 T1 J1 D1 s H locs := hw
  have hs1 : c_sim K1 I1 R1 N1 A1 L1 T1 x cd (Z, M).1 (Z, M).2 := hs1
  have hfr1 : c_fr K I R N A K1 I1 R1 N1 A1 := hfr1
  have hro1 := r_ok_fr hro hfr1
  have hz1 := r_st_fr hro hz hfr1
  have hka1 : K1 ao = 35 ∧ N1 ao = 1 := ⟨(hfr1 ao (by rw [hka.1]; simp [c_oth])).1.trans hka.1, (hfr1 ao (by rw [hka.1]; simp [c_oth])).2.1.trans hka.2⟩
  have hkd1 : K1 dd = 36 ∧ N1 dd = 1 := ⟨(hfr1 dd (by rw [hkd.1]; simp [c_oth])).1.trans hkd.1, (hfr1 dd (by rw [hkd.1]; simp [c_oth])).2.1.trans hkd.2⟩
  refine lv_istore (lv' := [(6, .int (t_b (o_rng a1 0 (Z 1 - 1)))), (0, .ref b), (1, .ref x), (2, .ref o), (3, .ref ao), (4, .ref dd), (5, .int (nI (5 * t)))]) hx hb dL_law_1765 hl (by decide) rfl (fun ls hl => ?_)
  refine lv_aload_n hx hb dL_law_1767 rfl (lv_at hl 3 rfl) ?_
  refine lv_aload_n hx hb dL_law_1768 rfl (lv_at hl 1 rfl) ?_
  refine lv_iload hx hb dL_law_1769 (lv_at hl 6 rfl) ?_
  refine lv_iconst (v := 1) hx hb dL_law_1771 (by decide) ?_
  refine lv_iadd hx hb dL_law_1772 ?_
  refine va_sld hx hb hX hbl hbA hw.2.2.2.1 (show vp_in (nI (5 * t) + 1) n from lo_in (k := 1) hin hn9 (by decide)) dL_law_1773 ?_
  rw [← ea1]
  refine m_ci (va_runV (As := [.int a1]) (rest := []) ⟨hx, hb, hml, hown, hts⟩ (c_X9_isStruck l a1 hro1 hz1 hnf hn120) (cwV 1 hts gL_law_X9_isStruck rfl rfl rfl (by decide +kernel) ⟨Nat.le_of_ble_eq_true rfl, Nat.le_of_ble_eq_true rfl⟩) ⟨m_blind m_B_calling, m_recv hw (m_ent_10 hro1.1) rfl, fun U hU hW => ⟨rfl, m_wo_call hw hU hW⟩⟩ rfl rfl hl.1 rfl (lv_room (Nat.le_of_ble_eq_true rfl)) dL_law_1774 ⟨lo_c (by omega), lo_s (by omega)⟩) hw (fun r_1774 u_1774 H locs hp_1774 hw => ?_)
  obtain ⟨I_1, A_2⟩ := u_1774
  have hw : m_wo G K1 I_1 R1 F1 A_2 N1 L1 T1 J1 D1 s H locs := hw
  dsimp only at hp_1774
  obtain ⟨hz2, hv2⟩ := hp_1774
  refine lv_istore (lv' := [(7, .int r_1774), (6, .int (t_b (o_rng a1 0 (Z 1 - 1)))), (0, .ref b), (1, .ref x), (2, .ref o), (3, .ref ao), (4, .ref dd), (5, .int (nI (5 * t)))]) hx hb dL_law_1777 hl (by decide) rfl (fun ls hl => ?_)
  refine lv_aload_n hx hb dL_law_1779 rfl (lv_at hl 4 rfl) ?_
  refine m_ci (va_runV (As := []) (rest := []) ⟨hx, hb, hml, hown, hts⟩ (c_X9_thrown l hro1 (r_st_self hz2)) (cwV 0 hts gL_law_X9_thrown rfl rfl rfl (by decide +kernel) ⟨Nat.le_of_ble_eq_true rfl, Nat.le_of_ble_eq_true rfl⟩) ⟨m_blind m_B_calling, m_recv hw (m_ent_10 hro1.1) rfl, fun U hU hW => ⟨rfl, m_wo_call hw hU hW⟩⟩ rfl rfl hl.1 rfl (lv_room (Nat.le_of_ble_eq_true rfl)) dL_law_1780 ⟨lo_c (by omega), lo_s (by omega)⟩) hw (fun r_1780 u_1780 H locs hp_1780 hw => ?_)
  obtain rfl : r_1780 = (t_b (o_rng a1 0 (Z 1 - 1))) := hp_1780
  refine lv_iload hx hb dL_law_1783 (lv_at hl 1 rfl) ?_
  refine lv_icmp_eq (tgt := 1790) hx hb dL_law_1785 (by decide) (fun _ => ?_) (fun cz => absurd rfl cz)
  have hK9 : W p l e room_1 s m #[Value.ref b] below meth c H locs (cells + 1 + 0 + 0) (slots + 6 + 0 + 0) Q (F0 m 1814 ls []) := by
    refine lv_goto (tgt := 2020) hx hb dL_law_1814 (by decide) ?_
    refine lv_iinc (v := (nI (5 * t)) + 5) (lv' := [(5, .int ((nI (5 * t)) + 5)), (7, .int r_1774), (6, .int (t_b (o_rng a1 0 (Z 1 - 1)))), (0, .ref b), (1, .ref x), (2, .ref o), (3, .ref ao), (4, .ref dd)]) hx hb dL_law_2020 hl (k := 7) rfl rfl (by decide) rfl (fun ls hl => ?_)
    refine lv_goto (tgt := 28) hx hb dL_law_2023 (by decide) ?_
    have hs2 := c_sim_ref hs1 hz2.2.2.1 hz2.2.2.2.1
    have hs3 := hs2
    have hf3 := (show w_f (Z, M).1 (Z, M).2 (t + 1) from w_same hf)
    rw [show nI (5 * t) + 5 = nI (5 * (t + 1)) from nI_add (5 * t) 5] at hl
    refine W.widen (k := cells + 600) (n := slots + 8300) (by omega) (by omega) ?_
    exact ih _ _ _ ⟨(K1, I_1, R1, F1, A_2, N1, L1, T1, J1, D1), cd, ad, _, _, _, hw, hs3, hro1, r_st_self hz2, hka1, hkd1, hf3, lv_sub hl [3, 4, 5, 6, 7, 0] rfl⟩
  refine lv_iload hx hb dL_law_1790 (lv_at hl 1 rfl) ?_
  refine lv_if_ne (tgt := 1814) hx hb dL_law_1792 (by decide) (fun _ => hK9) (fun c9 => ?_)
  obtain rfl : r_1774 = b2i (!decide (M 16 a1.toNatClampNeg = 0)) := hv2 c9
  refine lv_aload_n hx hb dL_law_1795 rfl (lv_at hl 5 rfl) ?_
  refine lv_iconst (v := 0) hx hb dL_law_1796 (by decide) ?_
  refine m_laload_35 hx hb hw hka1.1 (h_in hka1.2) dL_law_1797 ?_
  rw [show J1 ao (0 : Int32).toNatClampNeg = (b2i (!decide (M 16 a1.toNatClampNeg = 0))).toInt64 from hq1 c9]
  refine lv_iload hx hb dL_law_1798 (lv_at hl 0 rfl) ?_
  refine lv_if_eq (tgt := 1807) hx hb dL_law_1800 (by decide) (fun cb => ?_) (fun cb => ?_)
  · skip
    rw [show (b2i (!decide (M 16 a1.toNatClampNeg = 0))).toInt64 = (0 : Int64) from (by rw [(b2i_eq _).mp cb]; rfl)]
    refine lv_lconst (v := 0) hx hb dL_law_1807 (by decide) ?_
    refine lv_lcmp0 hx hb dL_law_1808 ?_
    refine lv_if_eq (tgt := 1814) hx hb dL_law_1809 (by decide) (fun _ => ?_) (fun cz => absurd rfl cz)
    exact hK9
  · skip
    rw [show (b2i (!decide (M 16 a1.toNatClampNeg = 0))).toInt64 = (1 : Int64) from (by rw [(b2i_ne _).mp cb]; rfl)]
    refine lv_lconst (v := 1) hx hb dL_law_1803 (by decide) ?_
    refine lv_goto (tgt := 1808) hx hb dL_law_1804 (by decide) ?_
    refine lv_lcmp0 hx hb dL_law_1808 ?_
    refine lv_if_eq (tgt := 1814) hx hb dL_law_1809 (by decide) (fun _ => ?_) (fun cz => absurd rfl cz)
    exact hK9
set_option maxHeartbeats 1600000 in
set_option maxRecDepth 100000 in
theorem lo_causes {p : Program} {l : Launch} {e : Env} {s : State} {m : MethodId} {below : List Frame} {meth : Method} {c : Code} {H : Heap} {locs : List Loc} {ls : Array Slot} {cells slots : Nat} {Q : State → Prop} {G : mG} {K : Nat → Nat} {I : Nat → Nat → Int32} {R : Nat → Nat → Option Nat} {F : Nat → UInt32} {A : Nat → Nat → Int32} {N : Nat → Nat} {L : Nat → List Nat} {T : Nat → List Int32} {J : Nat → Nat → Int64} {D : Nat → Nat → UInt64} {b n : Nat} {xs : Nat → Int32} {x o ao dd t : Nat} {cd ad : Nat → Nat} {Z : mZ} {M : mM} {th : Int32} (C : lw_cx p l s m c b n xs G) (hfp : f_all) (hw : m_wo G K I R F A N L T J D s H locs) (hs : c_sim K I R N A L T x cd Z M) (hro : r_ok K R N o ad) (hz : r_st K o ad I A I A Z M th) (hka : K ao = 35 ∧ N ao = 1) (hkd : K dd = 36 ∧ N dd = 1) (hf : w_f Z M t) (ht : t < 512) (hin : 5 * t + 5 ≤ n) (hl : lv_has ls 10 [(0, .ref b), (1, .ref x), (2, .ref o), (3, .ref ao), (4, .ref dd), (5, .int (nI (5 * t)))]) (hc9 : cells + 600 ≤ 603072) (hs9 : slots + 8300 ≤ 7211114) (ih : ∀ (H : Heap) (locs : List Loc) (ls : Array Slot), lw_I G s b x o ao dd (t + 1) H locs ls → W p l e room_1 s m #[Value.ref b] below meth c H locs (cells + 600) (slots + 8300) Q (F0 m 28 ls [])) : W p l e room_1 s m #[Value.ref b] below meth c H locs cells slots Q (F0 m 1817 ls []) := by
  obtain ⟨hx, hb, hml, hown, hts, hX, hbl, hbA, hnt, hcs, hn9⟩ := C
  have hni := hs.2.1.1
  have hn12 := hs.2.1.2.1
  have hnf := hs.2.2.1.1
  have hn120 := hs.2.2.1.2.1
  have hnsg := hs.2.2.2.2.1.1
  have hn20 := hs.2.2.2.2.1.2.1
  have hns := hs.2.2.2.2.2.1.1
  have hn5 := hs.2.2.2.2.2.1.2.1
  obtain ⟨nt, hnt9, h4t, hgt⟩ := u_gap hs
  have hw9 := u_shW hs
  have ht9 : t ≤ 512 := by omega
  obtain ⟨fpT, fpW, fpS, fpM, fp0⟩ := hfp
  have hs1 := hs
  have hro1 := hro
  have hz1 := hz
  have hfr1 : c_fr K I R N A K I R N A := c_fr_rf
  refine lv_aload_n hx hb dL_law_1817 rfl (lv_at hl 1 rfl) ?_
  refine m_ci (va_runV (As := []) (rest := []) ⟨hx, hb, hml, hown, hts⟩ (c_X8_causes l hs) (cwV 0 hts gL_law_X8_causes rfl rfl rfl (by decide +kernel) ⟨Nat.le_of_ble_eq_true rfl, Nat.le_of_ble_eq_true rfl⟩) ⟨m_blind m_B_calling, m_recv hw (m_ent_9 hs.1.1) rfl, fun U hU hW => ⟨rfl, m_wo_call hw hU hW⟩⟩ rfl rfl hl.1 rfl (lv_room (Nat.le_of_ble_eq_true rfl)) dL_law_1818 ⟨lo_c (by omega), lo_s (by omega)⟩) hw (fun r_1818 u_1818 H locs hp_1818 hw => ?_)
  obtain rfl : r_1818 = Z 31 := hp_1818
  have hka1 : K ao = 35 ∧ N ao = 1 := ⟨(hfr1 ao (by rw [hka.1]; simp [c_oth])).1.trans hka.1, (hfr1 ao (by rw [hka.1]; simp [c_oth])).2.1.trans hka.2⟩
  have hkd1 : K dd = 36 ∧ N dd = 1 := ⟨(hfr1 dd (by rw [hkd.1]; simp [c_oth])).1.trans hkd.1, (hfr1 dd (by rw [hkd.1]; simp [c_oth])).2.1.trans hkd.2⟩
  refine lv_aload_n hx hb dL_law_1821 rfl (lv_at hl 2 rfl) ?_
  refine m_ci (va_runV (As := []) (rest := [.int (Z 31)]) ⟨hx, hb, hml, hown, hts⟩ (c_X9_causes l hro1 hz1) (cwV 0 hts gL_law_X9_causes rfl rfl rfl (by decide +kernel) ⟨Nat.le_of_ble_eq_true rfl, Nat.le_of_ble_eq_true rfl⟩) ⟨m_blind m_B_calling, m_recv hw (m_ent_10 hro1.1) rfl, fun U hU hW => ⟨rfl, m_wo_call hw hU hW⟩⟩ rfl rfl hl.1 rfl (lv_room (Nat.le_of_ble_eq_true rfl)) dL_law_1822 ⟨lo_c (by omega), lo_s (by omega)⟩) hw (fun r_1822 u_1822 H locs hp_1822 hw => ?_)
  obtain rfl : r_1822 = Z 31 := hp_1822
  refine lv_icmp_eq (tgt := 2020) hx hb dL_law_1825 (by decide) (fun _ => ?_) (fun cz => absurd rfl cz)
  refine lv_iinc (v := (nI (5 * t)) + 5) (lv' := [(5, .int ((nI (5 * t)) + 5)), (0, .ref b), (1, .ref x), (2, .ref o), (3, .ref ao), (4, .ref dd)]) hx hb dL_law_2020 hl (k := 5) rfl rfl (by decide) rfl (fun ls hl => ?_)
  refine lv_goto (tgt := 28) hx hb dL_law_2023 (by decide) ?_
  have hs2 := hs1
  have hs3 := hs2
  have hf3 := (show w_f (Z, M).1 (Z, M).2 (t + 1) from w_same hf)
  rw [show nI (5 * t) + 5 = nI (5 * (t + 1)) from nI_add (5 * t) 5] at hl
  refine W.widen (k := cells + 600) (n := slots + 8300) (by omega) (by omega) ?_
  exact ih _ _ _ ⟨(K, I, R, F, A, N, L, T, J, D), cd, ad, _, _, _, hw, hs3, hro1, r_st_self hz1, hka1, hkd1, hf3, lv_sub hl [1, 2, 3, 4, 5, 0] rfl⟩
set_option maxHeartbeats 1600000 in
set_option maxRecDepth 100000 in
theorem lo_cause {p : Program} {l : Launch} {e : Env} {s : State} {m : MethodId} {below : List Frame} {meth : Method} {c : Code} {H : Heap} {locs : List Loc} {ls : Array Slot} {cells slots : Nat} {Q : State → Prop} {G : mG} {K : Nat → Nat} {I : Nat → Nat → Int32} {R : Nat → Nat → Option Nat} {F : Nat → UInt32} {A : Nat → Nat → Int32} {N : Nat → Nat} {L : Nat → List Nat} {T : Nat → List Int32} {J : Nat → Nat → Int64} {D : Nat → Nat → UInt64} {b n : Nat} {xs : Nat → Int32} {x o ao dd t : Nat} {cd ad : Nat → Nat} {Z : mZ} {M : mM} {th : Int32} (C : lw_cx p l s m c b n xs G) (hfp : f_all) (hw : m_wo G K I R F A N L T J D s H locs) (hs : c_sim K I R N A L T x cd Z M) (hro : r_ok K R N o ad) (hz : r_st K o ad I A I A Z M th) (hka : K ao = 35 ∧ N ao = 1) (hkd : K dd = 36 ∧ N dd = 1) (hf : w_f Z M t) (ht : t < 512) (hin : 5 * t + 5 ≤ n) (hl : lv_has ls 10 [(0, .ref b), (1, .ref x), (2, .ref o), (3, .ref ao), (4, .ref dd), (5, .int (nI (5 * t)))]) (hc9 : cells + 600 ≤ 603072) (hs9 : slots + 8300 ≤ 7211114) (ih : ∀ (H : Heap) (locs : List Loc) (ls : Array Slot), lw_I G s b x o ao dd (t + 1) H locs ls → W p l e room_1 s m #[Value.ref b] below meth c H locs (cells + 600) (slots + 8300) Q (F0 m 28 ls [])) : W p l e room_1 s m #[Value.ref b] below meth c H locs cells slots Q (F0 m 1830 ls []) := by
  obtain ⟨hx, hb, hml, hown, hts, hX, hbl, hbA, hnt, hcs, hn9⟩ := C
  have hni := hs.2.1.1
  have hn12 := hs.2.1.2.1
  have hnf := hs.2.2.1.1
  have hn120 := hs.2.2.1.2.1
  have hnsg := hs.2.2.2.2.1.1
  have hn20 := hs.2.2.2.2.1.2.1
  have hns := hs.2.2.2.2.2.1.1
  have hn5 := hs.2.2.2.2.2.1.2.1
  obtain ⟨nt, hnt9, h4t, hgt⟩ := u_gap hs
  have hw9 := u_shW hs
  have ht9 : t ≤ 512 := by omega
  obtain ⟨fpT, fpW, fpS, fpM, fp0⟩ := hfp
  obtain ⟨a1, ea1⟩ : ∃ z, z = xs (nI (5 * t) + 1).toNatClampNeg := ⟨_, rfl⟩
  refine lv_aload_n hx hb dL_law_1830 rfl (lv_at hl 1 rfl) ?_
  refine lv_aload_n hx hb dL_law_1831 rfl (lv_at hl 0 rfl) ?_
  refine lv_iload hx hb dL_law_1832 (lv_at hl 5 rfl) ?_
  refine lv_iconst (v := 1) hx hb dL_law_1834 (by decide) ?_
  refine lv_iadd hx hb dL_law_1835 ?_
  refine va_sld hx hb hX hbl hbA hw.2.2.2.1 (show vp_in (nI (5 * t) + 1) n from lo_in (k := 1) hin hn9 (by decide)) dL_law_1836 ?_
  rw [← ea1]
  refine lv_aload_n hx hb dL_law_1837 rfl (lv_at hl 3 rfl) ?_
  refine m_ci (vx_runSW (As := [.ref x, .int a1, .ref ao]) (rest := []) ⟨hx, hb, hml, hown, hts⟩ (c_L_cause l hnt hs (fun k _ => u_ch hf k) hka.1 hka.2) (vx_cwSW 3 hts gL_law_L_cause rfl rfl rfl (by decide +kernel) ⟨Nat.le_of_ble_eq_true rfl, Nat.le_of_ble_eq_true rfl⟩) ⟨m_blind (fun U g mk a h => ⟨m_B_calling U g mk a h.1, c_str_calling U g mk a h.2⟩), fun U hU hW => ⟨rfl, m_wo_call hw hU hW, c_str_warm hW hcs⟩⟩ rfl rfl hl.1 rfl (lv_room (Nat.le_of_ble_eq_true rfl)) dL_law_1838 ⟨lo_c (by omega), lo_s (by omega)⟩) hw (fun r1 u1 H locs hp1 hw => ?_)
  obtain ⟨K1, I1, R1, F1, A1, N1, L1, T1, J1, D1⟩ := u1
  try dsimp only at hp1
  obtain ⟨rfl, hq1, hs1, hfr1⟩ := hp1
  have hw : m_wo G K1 I1 R1 F1 A1 N1 L1 T1 J1 D1 s H locs := hw
  have hs1 : c_sim K1 I1 R1 N1 A1 L1 T1 x cd (Z, M).1 (Z, M).2 := hs1
  have hfr1 : c_fr K I R N A K1 I1 R1 N1 A1 := hfr1
  have hro1 := r_ok_fr hro hfr1
  have hz1 := r_st_fr hro hz hfr1
  have hka1 : K1 ao = 35 ∧ N1 ao = 1 := ⟨(hfr1 ao (by rw [hka.1]; simp [c_oth])).1.trans hka.1, (hfr1 ao (by rw [hka.1]; simp [c_oth])).2.1.trans hka.2⟩
  have hkd1 : K1 dd = 36 ∧ N1 dd = 1 := ⟨(hfr1 dd (by rw [hkd.1]; simp [c_oth])).1.trans hkd.1, (hfr1 dd (by rw [hkd.1]; simp [c_oth])).2.1.trans hkd.2⟩
  refine lv_istore (lv' := [(6, .int (t_b (o_rng a1 0 (Z 31 - 1)))), (0, .ref b), (1, .ref x), (2, .ref o), (3, .ref ao), (4, .ref dd), (5, .int (nI (5 * t)))]) hx hb dL_law_1841 hl (by decide) rfl (fun ls hl => ?_)
  refine lv_aload_n hx hb dL_law_1843 rfl (lv_at hl 3 rfl) ?_
  refine lv_aload_n hx hb dL_law_1844 rfl (lv_at hl 1 rfl) ?_
  refine lv_iload hx hb dL_law_1845 (lv_at hl 6 rfl) ?_
  refine lv_iconst (v := 1) hx hb dL_law_1847 (by decide) ?_
  refine lv_iadd hx hb dL_law_1848 ?_
  refine va_sld hx hb hX hbl hbA hw.2.2.2.1 (show vp_in (nI (5 * t) + 1) n from lo_in (k := 1) hin hn9 (by decide)) dL_law_1849 ?_
  rw [← ea1]
  refine m_ci (va_runV (As := [.int a1]) (rest := []) ⟨hx, hb, hml, hown, hts⟩ (c_X9_cause l a1 hro1 hz1 hs.2.2.2.2.2.2.2.1.1 hs.2.2.2.2.2.2.2.1.2.1 (u_ch hf)) (cwV 1 hts gL_law_X9_cause rfl rfl rfl (by decide +kernel) ⟨Nat.le_of_ble_eq_true rfl, Nat.le_of_ble_eq_true rfl⟩) ⟨m_blind m_B_calling, m_recv hw (m_ent_10 hro1.1) rfl, fun U hU hW => ⟨rfl, m_wo_call hw hU hW⟩⟩ rfl rfl hl.1 rfl (lv_room (Nat.le_of_ble_eq_true rfl)) dL_law_1850 ⟨lo_c (by omega), lo_s (by omega)⟩) hw (fun r_1850 u_1850 H locs hp_1850 hw => ?_)
  obtain ⟨I_1, A_2⟩ := u_1850
  have hw : m_wo G K1 I_1 R1 F1 A_2 N1 L1 T1 J1 D1 s H locs := hw
  dsimp only at hp_1850
  obtain ⟨hz2, hv2⟩ := hp_1850
  refine lv_istore (lv' := [(7, .int r_1850), (6, .int (t_b (o_rng a1 0 (Z 31 - 1)))), (0, .ref b), (1, .ref x), (2, .ref o), (3, .ref ao), (4, .ref dd), (5, .int (nI (5 * t)))]) hx hb dL_law_1853 hl (by decide) rfl (fun ls hl => ?_)
  refine lv_aload_n hx hb dL_law_1855 rfl (lv_at hl 4 rfl) ?_
  refine m_ci (va_runV (As := []) (rest := []) ⟨hx, hb, hml, hown, hts⟩ (c_X9_thrown l hro1 (r_st_self hz2)) (cwV 0 hts gL_law_X9_thrown rfl rfl rfl (by decide +kernel) ⟨Nat.le_of_ble_eq_true rfl, Nat.le_of_ble_eq_true rfl⟩) ⟨m_blind m_B_calling, m_recv hw (m_ent_10 hro1.1) rfl, fun U hU hW => ⟨rfl, m_wo_call hw hU hW⟩⟩ rfl rfl hl.1 rfl (lv_room (Nat.le_of_ble_eq_true rfl)) dL_law_1856 ⟨lo_c (by omega), lo_s (by omega)⟩) hw (fun r_1856 u_1856 H locs hp_1856 hw => ?_)
  obtain rfl : r_1856 = (t_b (o_rng a1 0 (Z 31 - 1))) := hp_1856
  refine lv_iload hx hb dL_law_1859 (lv_at hl 1 rfl) ?_
  refine lv_icmp_eq (tgt := 1866) hx hb dL_law_1861 (by decide) (fun _ => ?_) (fun cz => absurd rfl cz)
  have hK9 : W p l e room_1 s m #[Value.ref b] below meth c H locs (cells + 1 + 0 + 0) (slots + 6 + 0 + 0) Q (F0 m 1883 ls []) := by
    refine lv_goto (tgt := 2020) hx hb dL_law_1883 (by decide) ?_
    refine lv_iinc (v := (nI (5 * t)) + 5) (lv' := [(5, .int ((nI (5 * t)) + 5)), (7, .int r_1850), (6, .int (t_b (o_rng a1 0 (Z 31 - 1)))), (0, .ref b), (1, .ref x), (2, .ref o), (3, .ref ao), (4, .ref dd)]) hx hb dL_law_2020 hl (k := 7) rfl rfl (by decide) rfl (fun ls hl => ?_)
    refine lv_goto (tgt := 28) hx hb dL_law_2023 (by decide) ?_
    have hs2 := c_sim_ref hs1 hz2.2.2.1 hz2.2.2.2.1
    have hs3 := hs2
    have hf3 := (show w_f (Z, M).1 (Z, M).2 (t + 1) from w_same hf)
    rw [show nI (5 * t) + 5 = nI (5 * (t + 1)) from nI_add (5 * t) 5] at hl
    refine W.widen (k := cells + 600) (n := slots + 8300) (by omega) (by omega) ?_
    exact ih _ _ _ ⟨(K1, I_1, R1, F1, A_2, N1, L1, T1, J1, D1), cd, ad, _, _, _, hw, hs3, hro1, r_st_self hz2, hka1, hkd1, hf3, lv_sub hl [3, 4, 5, 6, 7, 0] rfl⟩
  refine lv_iload hx hb dL_law_1866 (lv_at hl 1 rfl) ?_
  refine lv_if_ne (tgt := 1883) hx hb dL_law_1868 (by decide) (fun _ => hK9) (fun c9 => ?_)
  obtain rfl : r_1850 = M 32 a1.toNatClampNeg := hv2 c9
  refine lv_aload_n hx hb dL_law_1871 rfl (lv_at hl 5 rfl) ?_
  refine lv_iconst (v := 0) hx hb dL_law_1872 (by decide) ?_
  refine m_laload_35 hx hb hw hka1.1 (h_in hka1.2) dL_law_1873 ?_
  rw [show J1 ao (0 : Int32).toNatClampNeg = (M 32 a1.toNatClampNeg).toInt64 from hq1 c9]
  refine lv_iload hx hb dL_law_1874 (lv_at hl 0 rfl) ?_
  refine lv_i2l (v := ((M 32 a1.toNatClampNeg)).toInt64) hx hb dL_law_1876 rfl ?_
  refine lv_lcmp0 hx hb dL_law_1877 ?_
  refine lv_if_eq (tgt := 1883) hx hb dL_law_1878 (by decide) (fun _ => ?_) (fun cz => absurd rfl cz)
  exact hK9
set_option maxHeartbeats 1600000 in
set_option maxRecDepth 100000 in
theorem lo_struckShare {p : Program} {l : Launch} {e : Env} {s : State} {m : MethodId} {below : List Frame} {meth : Method} {c : Code} {H : Heap} {locs : List Loc} {ls : Array Slot} {cells slots : Nat} {Q : State → Prop} {G : mG} {K : Nat → Nat} {I : Nat → Nat → Int32} {R : Nat → Nat → Option Nat} {F : Nat → UInt32} {A : Nat → Nat → Int32} {N : Nat → Nat} {L : Nat → List Nat} {T : Nat → List Int32} {J : Nat → Nat → Int64} {D : Nat → Nat → UInt64} {b n : Nat} {xs : Nat → Int32} {x o ao dd t : Nat} {cd ad : Nat → Nat} {Z : mZ} {M : mM} {th : Int32} (C : lw_cx p l s m c b n xs G) (hfp : f_all) (hw : m_wo G K I R F A N L T J D s H locs) (hs : c_sim K I R N A L T x cd Z M) (hro : r_ok K R N o ad) (hz : r_st K o ad I A I A Z M th) (hka : K ao = 35 ∧ N ao = 1) (hkd : K dd = 36 ∧ N dd = 1) (hf : w_f Z M t) (ht : t < 512) (hin : 5 * t + 5 ≤ n) (hl : lv_has ls 10 [(0, .ref b), (1, .ref x), (2, .ref o), (3, .ref ao), (4, .ref dd), (5, .int (nI (5 * t)))]) (hc9 : cells + 600 ≤ 603072) (hs9 : slots + 8300 ≤ 7211114) (ih : ∀ (H : Heap) (locs : List Loc) (ls : Array Slot), lw_I G s b x o ao dd (t + 1) H locs ls → W p l e room_1 s m #[Value.ref b] below meth c H locs (cells + 600) (slots + 8300) Q (F0 m 28 ls [])) : W p l e room_1 s m #[Value.ref b] below meth c H locs cells slots Q (F0 m 1886 ls []) := by
  obtain ⟨hx, hb, hml, hown, hts, hX, hbl, hbA, hnt, hcs, hn9⟩ := C
  have hni := hs.2.1.1
  have hn12 := hs.2.1.2.1
  have hnf := hs.2.2.1.1
  have hn120 := hs.2.2.1.2.1
  have hnsg := hs.2.2.2.2.1.1
  have hn20 := hs.2.2.2.2.1.2.1
  have hns := hs.2.2.2.2.2.1.1
  have hn5 := hs.2.2.2.2.2.1.2.1
  obtain ⟨nt, hnt9, h4t, hgt⟩ := u_gap hs
  have hw9 := u_shW hs
  have ht9 : t ≤ 512 := by omega
  obtain ⟨fpT, fpW, fpS, fpM, fp0⟩ := hfp
  have hpS := fun z : 0 < (L (cd 1)).length => fpS M _ z hn120
  refine lv_aload_n hx hb dL_law_1886 rfl (lv_at hl 1 rfl) ?_
  refine lv_aload hx hb dL_law_1887 (lv_at hl 4 rfl) ?_
  refine m_ci (vx_runSW (As := [.ref x, .ref dd]) (rest := []) ⟨hx, hb, hml, hown, hts⟩ (c_L_struckShare l hnt hs (fun z => (hpS z).1) (fun z => (hpS z).2.1) hkd.1 hkd.2) (vx_cwSW 2 hts gL_law_L_struckShare rfl rfl rfl (by decide +kernel) ⟨Nat.le_of_ble_eq_true rfl, Nat.le_of_ble_eq_true rfl⟩) ⟨m_blind (fun U g mk a h => ⟨m_B_calling U g mk a h.1, c_str_calling U g mk a h.2⟩), fun U hU hW => ⟨rfl, m_wo_call hw hU hW, c_str_warm hW hcs⟩⟩ rfl rfl hl.1 rfl (lv_room (Nat.le_of_ble_eq_true rfl)) dL_law_1889 ⟨lo_c (by omega), lo_s (by omega)⟩) hw (fun r1 u1 H locs hp1 hw => ?_)
  obtain ⟨K1, I1, R1, F1, A1, N1, L1, T1, J1, D1⟩ := u1
  try dsimp only at hp1
  obtain ⟨rfl, hq1, hs1, hfr1⟩ := hp1
  have hw : m_wo G K1 I1 R1 F1 A1 N1 L1 T1 J1 D1 s H locs := hw
  have hs1 : c_sim K1 I1 R1 N1 A1 L1 T1 x cd (Z, M).1 (Z, M).2 := hs1
  have hfr1 : c_fr K I R N A K1 I1 R1 N1 A1 := hfr1
  have hro1 := r_ok_fr hro hfr1
  have hz1 := r_st_fr hro hz hfr1
  have hka1 : K1 ao = 35 ∧ N1 ao = 1 := ⟨(hfr1 ao (by rw [hka.1]; simp [c_oth])).1.trans hka.1, (hfr1 ao (by rw [hka.1]; simp [c_oth])).2.1.trans hka.2⟩
  have hkd1 : K1 dd = 36 ∧ N1 dd = 1 := ⟨(hfr1 dd (by rw [hkd.1]; simp [c_oth])).1.trans hkd.1, (hfr1 dd (by rw [hkd.1]; simp [c_oth])).2.1.trans hkd.2⟩
  refine lv_istore (lv' := [(6, .int (t_b (decide (0 < (L (cd 1)).length)))), (0, .ref b), (1, .ref x), (2, .ref o), (3, .ref ao), (4, .ref dd), (5, .int (nI (5 * t)))]) hx hb dL_law_1892 hl (by decide) rfl (fun ls hl => ?_)
  refine lv_aload_n hx hb dL_law_1894 rfl (lv_at hl 3 rfl) ?_
  refine m_cf (va_runV (As := []) (rest := []) ⟨hx, hb, hml, hown, hts⟩ (c_X9_struckShare l hro1 hz1 hnf hn120 (fun z => (hpS z).1)) (cwV 0 hts gL_law_X9_struckShare rfl rfl rfl (by decide +kernel) ⟨Nat.le_of_ble_eq_true rfl, Nat.le_of_ble_eq_true rfl⟩) ⟨m_blind m_B_calling, m_recv hw (m_ent_10 hro1.1) rfl, fun U hU hW => ⟨rfl, m_wo_call hw hU hW⟩⟩ rfl rfl hl.1 rfl (lv_room (Nat.le_of_ble_eq_true rfl)) dL_law_1895 ⟨lo_c (by omega), lo_s (by omega)⟩) hw (fun r_1895 u_1895 H locs hp_1895 hw => ?_)
  obtain ⟨I_1, A_2⟩ := u_1895
  have hw : m_wo G K1 I_1 R1 F1 A_2 N1 L1 T1 J1 D1 s H locs := hw
  dsimp only at hp_1895
  obtain ⟨hz2, hv2⟩ := hp_1895
  refine lv_fstore (lv' := [(7, .float r_1895), (6, .int (t_b (decide (0 < (L (cd 1)).length)))), (0, .ref b), (1, .ref x), (2, .ref o), (3, .ref ao), (4, .ref dd), (5, .int (nI (5 * t)))]) hx hb dL_law_1898 hl (by decide) rfl (fun ls hl => ?_)
  refine lv_aload_n hx hb dL_law_1900 rfl (lv_at hl 4 rfl) ?_
  refine m_ci (va_runV (As := []) (rest := []) ⟨hx, hb, hml, hown, hts⟩ (c_X9_thrown l hro1 (r_st_self hz2)) (cwV 0 hts gL_law_X9_thrown rfl rfl rfl (by decide +kernel) ⟨Nat.le_of_ble_eq_true rfl, Nat.le_of_ble_eq_true rfl⟩) ⟨m_blind m_B_calling, m_recv hw (m_ent_10 hro1.1) rfl, fun U hU hW => ⟨rfl, m_wo_call hw hU hW⟩⟩ rfl rfl hl.1 rfl (lv_room (Nat.le_of_ble_eq_true rfl)) dL_law_1901 ⟨lo_c (by omega), lo_s (by omega)⟩) hw (fun r_1901 u_1901 H locs hp_1901 hw => ?_)
  obtain rfl : r_1901 = (t_b (decide (0 < (L (cd 1)).length))) := hp_1901
  refine lv_iload hx hb dL_law_1904 (lv_at hl 1 rfl) ?_
  refine lv_icmp_eq (tgt := 1911) hx hb dL_law_1906 (by decide) (fun _ => ?_) (fun cz => absurd rfl cz)
  have hK9 : W p l e room_1 s m #[Value.ref b] below meth c H locs (cells + 1 + 0 + 0) (slots + 6 + 0 + 0) Q (F0 m 1949 ls []) := by
    refine lv_goto (tgt := 2020) hx hb dL_law_1949 (by decide) ?_
    refine lv_iinc (v := (nI (5 * t)) + 5) (lv' := [(5, .int ((nI (5 * t)) + 5)), (7, .float r_1895), (6, .int (t_b (decide (0 < (L (cd 1)).length)))), (0, .ref b), (1, .ref x), (2, .ref o), (3, .ref ao), (4, .ref dd)]) hx hb dL_law_2020 hl (k := 7) rfl rfl (by decide) rfl (fun ls hl => ?_)
    refine lv_goto (tgt := 28) hx hb dL_law_2023 (by decide) ?_
    have hs2 := c_sim_ref hs1 hz2.2.2.1 hz2.2.2.2.1
    have hs3 := hs2
    have hf3 := (show w_f (Z, M).1 (Z, M).2 (t + 1) from w_same hf)
    rw [show nI (5 * t) + 5 = nI (5 * (t + 1)) from nI_add (5 * t) 5] at hl
    refine W.widen (k := cells + 600) (n := slots + 8300) (by omega) (by omega) ?_
    exact ih _ _ _ ⟨(K1, I_1, R1, F1, A_2, N1, L1, T1, J1, D1), cd, ad, _, _, _, hw, hs3, hro1, r_st_self hz2, hka1, hkd1, hf3, lv_sub hl [3, 4, 5, 6, 7, 0] rfl⟩
  refine lv_iload hx hb dL_law_1911 (lv_at hl 1 rfl) ?_
  refine lv_if_ne (tgt := 1949) hx hb dL_law_1913 (by decide) (fun _ => hK9) (fun c9 => ?_)
  obtain rfl : r_1895 = o_share M (L (cd 1)).length := hv2 c9
  refine lv_aload hx hb dL_law_1916 (lv_at hl 6 rfl) ?_
  refine lv_iconst (v := 0) hx hb dL_law_1918 (by decide) ?_
  refine m_daload_36 hx hb hw hkd1.1 (h_in hkd1.2) dL_law_1919 ?_
  rw [show D1 dd (0 : Int32).toNatClampNeg = FP.f2d (o_share M (L (cd 1)).length) from hq1 c9]
  refine lv_fload hx hb dL_law_1920 (lv_at hl 0 rfl) ?_
  refine lv_f2d hx hb dL_law_1922 (hpS (of_decide_eq_true (q_tb0.mp c9))).2.1 ?_
  refine lv_dcmp hx hb dL_law_1923 ?_
  rw [show Op.cmpValue (FP.dcmp (FP.f2d (o_share M (L (cd 1)).length)) (FP.f2d (o_share M (L (cd 1)).length))) .l = 0 from (hpS (of_decide_eq_true (q_tb0.mp c9))).2.2]
  refine lv_if_eq (tgt := 1949) hx hb dL_law_1924 (by decide) (fun _ => ?_) (fun cz => absurd rfl cz)
  exact hK9
set_option maxHeartbeats 1600000 in
set_option maxRecDepth 100000 in
theorem lo_meanSize {p : Program} {l : Launch} {e : Env} {s : State} {m : MethodId} {below : List Frame} {meth : Method} {c : Code} {H : Heap} {locs : List Loc} {ls : Array Slot} {cells slots : Nat} {Q : State → Prop} {G : mG} {K : Nat → Nat} {I : Nat → Nat → Int32} {R : Nat → Nat → Option Nat} {F : Nat → UInt32} {A : Nat → Nat → Int32} {N : Nat → Nat} {L : Nat → List Nat} {T : Nat → List Int32} {J : Nat → Nat → Int64} {D : Nat → Nat → UInt64} {b n : Nat} {xs : Nat → Int32} {x o ao dd t : Nat} {cd ad : Nat → Nat} {Z : mZ} {M : mM} {th : Int32} (C : lw_cx p l s m c b n xs G) (hfp : f_all) (hw : m_wo G K I R F A N L T J D s H locs) (hs : c_sim K I R N A L T x cd Z M) (hro : r_ok K R N o ad) (hz : r_st K o ad I A I A Z M th) (hka : K ao = 35 ∧ N ao = 1) (hkd : K dd = 36 ∧ N dd = 1) (hf : w_f Z M t) (ht : t < 512) (hin : 5 * t + 5 ≤ n) (hl : lv_has ls 10 [(0, .ref b), (1, .ref x), (2, .ref o), (3, .ref ao), (4, .ref dd), (5, .int (nI (5 * t)))]) (hc9 : cells + 600 ≤ 603072) (hs9 : slots + 8300 ≤ 7211114) (ih : ∀ (H : Heap) (locs : List Loc) (ls : Array Slot), lw_I G s b x o ao dd (t + 1) H locs ls → W p l e room_1 s m #[Value.ref b] below meth c H locs (cells + 600) (slots + 8300) Q (F0 m 28 ls [])) : W p l e room_1 s m #[Value.ref b] below meth c H locs cells slots Q (F0 m 1952 ls []) := by
  obtain ⟨hx, hb, hml, hown, hts, hX, hbl, hbA, hnt, hcs, hn9⟩ := C
  have hni := hs.2.1.1
  have hn12 := hs.2.1.2.1
  have hnf := hs.2.2.1.1
  have hn120 := hs.2.2.1.2.1
  have hnsg := hs.2.2.2.2.1.1
  have hn20 := hs.2.2.2.2.1.2.1
  have hns := hs.2.2.2.2.2.1.1
  have hn5 := hs.2.2.2.2.2.1.2.1
  obtain ⟨nt, hnt9, h4t, hgt⟩ := u_gap hs
  have hw9 := u_shW hs
  have ht9 : t ≤ 512 := by omega
  obtain ⟨fpT, fpW, fpS, fpM, fp0⟩ := hfp
  have hk3 : ¬ Z 3 = 0 → 0 < (L (cd 10)).length := fun z => Nat.pos_of_ne_zero (fun q => z (by rw [hnsg, q]; rfl))
  have hin9 : o_in M (L (cd 1)).length ≤ 120 := Nat.le_trans (cntB_le _ _) hn120
  have hmn : ¬ Z 3 = 0 → vf_n64 (FP.ddiv (FP.i2d (nI (o_in M (L (cd 1)).length))) (FP.i2d (Z 3))) := fun z => by rw [hnsg]; exact (fpM _ _ hin9 (hk3 z) hn20).1
  have hmd : o_sD (o_mean M (L (cd 1)).length (Z 3)) := by
    unfold o_mean
    by_cases z : Z 3 = 0
    · rw [if_pos z]; exact fp0
    · rw [if_neg z, hnsg]; exact (fpM _ _ hin9 (hk3 z) hn20).2
  have hs1 := hs
  have hro1 := hro
  have hz1 := hz
  have hfr1 : c_fr K I R N A K I R N A := c_fr_rf
  refine lv_aload_n hx hb dL_law_1952 rfl (lv_at hl 1 rfl) ?_
  refine m_cd (va_runV (As := []) (rest := []) ⟨hx, hb, hml, hown, hts⟩ (c_X8_meanSize l hs hmn) (cwV 0 hts gL_law_X8_meanSize rfl rfl rfl (by decide +kernel) ⟨Nat.le_of_ble_eq_true rfl, Nat.le_of_ble_eq_true rfl⟩) ⟨m_blind m_B_calling, m_recv hw (m_ent_9 hs.1.1) rfl, fun U hU hW => ⟨rfl, m_wo_call hw hU hW⟩⟩ rfl rfl hl.1 rfl (lv_room (Nat.le_of_ble_eq_true rfl)) dL_law_1953 ⟨lo_c (by omega), lo_s (by omega)⟩) hw (fun r_1953 u_1953 H locs hp_1953 hw => ?_)
  obtain rfl : r_1953 = o_mean M (L (cd 1)).length (Z 3) := hp_1953
  have hka1 : K ao = 35 ∧ N ao = 1 := ⟨(hfr1 ao (by rw [hka.1]; simp [c_oth])).1.trans hka.1, (hfr1 ao (by rw [hka.1]; simp [c_oth])).2.1.trans hka.2⟩
  have hkd1 : K dd = 36 ∧ N dd = 1 := ⟨(hfr1 dd (by rw [hkd.1]; simp [c_oth])).1.trans hkd.1, (hfr1 dd (by rw [hkd.1]; simp [c_oth])).2.1.trans hkd.2⟩
  refine lv_dstore (lv' := [(6, .double (o_mean M (L (cd 1)).length (Z 3))), (0, .ref b), (1, .ref x), (2, .ref o), (3, .ref ao), (4, .ref dd), (5, .int (nI (5 * t)))]) hx hb dL_law_1956 hl (by decide) rfl (fun ls hl => ?_)
  refine lv_aload_n hx hb dL_law_1958 rfl (lv_at hl 3 rfl) ?_
  refine m_cd (va_runV (As := []) (rest := []) ⟨hx, hb, hml, hown, hts⟩ (c_X9_meanSize l hro1 hz1 hnf hn120 hmn) (cwV 0 hts gL_law_X9_meanSize rfl rfl rfl (by decide +kernel) ⟨Nat.le_of_ble_eq_true rfl, Nat.le_of_ble_eq_true rfl⟩) ⟨m_blind m_B_calling, m_recv hw (m_ent_10 hro1.1) rfl, fun U hU hW => ⟨rfl, m_wo_call hw hU hW⟩⟩ rfl rfl hl.1 rfl (lv_room (Nat.le_of_ble_eq_true rfl)) dL_law_1959 ⟨lo_c (by omega), lo_s (by omega)⟩) hw (fun r_1959 u_1959 H locs hp_1959 hw => ?_)
  obtain rfl : r_1959 = o_mean M (L (cd 1)).length (Z 3) := hp_1959
  refine lv_dstore (lv' := [(8, .double (o_mean M (L (cd 1)).length (Z 3))), (6, .double (o_mean M (L (cd 1)).length (Z 3))), (0, .ref b), (1, .ref x), (2, .ref o), (3, .ref ao), (4, .ref dd), (5, .int (nI (5 * t)))]) hx hb dL_law_1962 hl (by decide) rfl (fun ls hl => ?_)
  refine lv_dload hx hb dL_law_1964 (lv_at hl 1 rfl) ?_
  refine lv_dload hx hb dL_law_1966 (lv_at hl 0 rfl) ?_
  refine lv_dcmp hx hb dL_law_1968 ?_
  rw [show Op.cmpValue (FP.dcmp (o_mean M (L (cd 1)).length (Z 3)) (o_mean M (L (cd 1)).length (Z 3))) .l = 0 from hmd]
  refine lv_if_eq (tgt := 1990) hx hb dL_law_1969 (by decide) (fun _ => ?_) (fun cz => absurd rfl cz)
  refine lv_goto (tgt := 2020) hx hb dL_law_1990 (by decide) ?_
  refine lv_iinc (v := (nI (5 * t)) + 5) (lv' := [(5, .int ((nI (5 * t)) + 5)), (8, .double (o_mean M (L (cd 1)).length (Z 3))), (6, .double (o_mean M (L (cd 1)).length (Z 3))), (0, .ref b), (1, .ref x), (2, .ref o), (3, .ref ao), (4, .ref dd)]) hx hb dL_law_2020 hl (k := 7) rfl rfl (by decide) rfl (fun ls hl => ?_)
  refine lv_goto (tgt := 28) hx hb dL_law_2023 (by decide) ?_
  have hs2 := hs1
  have hs3 := hs2
  have hf3 := (show w_f (Z, M).1 (Z, M).2 (t + 1) from w_same hf)
  rw [show nI (5 * t) + 5 = nI (5 * (t + 1)) from nI_add (5 * t) 5] at hl
  refine W.widen (k := cells + 600) (n := slots + 8300) (by omega) (by omega) ?_
  exact ih _ _ _ ⟨(K, I, R, F, A, N, L, T, J, D), cd, ad, _, _, _, hw, hs3, hro1, r_st_self hz1, hka1, hkd1, hf3, lv_sub hl [3, 4, 5, 6, 7, 0] rfl⟩
set_option maxHeartbeats 1600000 in
set_option maxRecDepth 100000 in
theorem lo_checksum {p : Program} {l : Launch} {e : Env} {s : State} {m : MethodId} {below : List Frame} {meth : Method} {c : Code} {H : Heap} {locs : List Loc} {ls : Array Slot} {cells slots : Nat} {Q : State → Prop} {G : mG} {K : Nat → Nat} {I : Nat → Nat → Int32} {R : Nat → Nat → Option Nat} {F : Nat → UInt32} {A : Nat → Nat → Int32} {N : Nat → Nat} {L : Nat → List Nat} {T : Nat → List Int32} {J : Nat → Nat → Int64} {D : Nat → Nat → UInt64} {b n : Nat} {xs : Nat → Int32} {x o ao dd t : Nat} {cd ad : Nat → Nat} {Z : mZ} {M : mM} {th : Int32} (C : lw_cx p l s m c b n xs G) (hfp : f_all) (hw : m_wo G K I R F A N L T J D s H locs) (hs : c_sim K I R N A L T x cd Z M) (hro : r_ok K R N o ad) (hz : r_st K o ad I A I A Z M th) (hka : K ao = 35 ∧ N ao = 1) (hkd : K dd = 36 ∧ N dd = 1) (hf : w_f Z M t) (ht : t < 512) (hin : 5 * t + 5 ≤ n) (hl : lv_has ls 10 [(0, .ref b), (1, .ref x), (2, .ref o), (3, .ref ao), (4, .ref dd), (5, .int (nI (5 * t)))]) (hc9 : cells + 600 ≤ 603072) (hs9 : slots + 8300 ≤ 7211114) (ih : ∀ (H : Heap) (locs : List Loc) (ls : Array Slot), lw_I G s b x o ao dd (t + 1) H locs ls → W p l e room_1 s m #[Value.ref b] below meth c H locs (cells + 600) (slots + 8300) Q (F0 m 28 ls [])) : W p l e room_1 s m #[Value.ref b] below meth c H locs cells slots Q (F0 m 1993 ls []) := by
  obtain ⟨hx, hb, hml, hown, hts, hX, hbl, hbA, hnt, hcs, hn9⟩ := C
  have hni := hs.2.1.1
  have hn12 := hs.2.1.2.1
  have hnf := hs.2.2.1.1
  have hn120 := hs.2.2.1.2.1
  have hnsg := hs.2.2.2.2.1.1
  have hn20 := hs.2.2.2.2.1.2.1
  have hns := hs.2.2.2.2.2.1.1
  have hn5 := hs.2.2.2.2.2.1.2.1
  obtain ⟨nt, hnt9, h4t, hgt⟩ := u_gap hs
  have hw9 := u_shW hs
  have ht9 : t ≤ 512 := by omega
  obtain ⟨fpT, fpW, fpS, fpM, fp0⟩ := hfp
  have hs1 := hs
  have hro1 := hro
  have hz1 := hz
  have hfr1 : c_fr K I R N A K I R N A := c_fr_rf
  refine lv_aload_n hx hb dL_law_1993 rfl (lv_at hl 1 rfl) ?_
  refine m_cl (va_runV (As := []) (rest := []) ⟨hx, hb, hml, hown, hts⟩ (c_X8_checksum l hs) (cwV 0 hts gL_law_X8_checksum rfl rfl rfl (by decide +kernel) ⟨Nat.le_of_ble_eq_true rfl, Nat.le_of_ble_eq_true rfl⟩) ⟨m_blind m_B_calling, m_recv hw (m_ent_9 hs.1.1) rfl, fun U hU hW => ⟨rfl, m_wo_call hw hU hW⟩⟩ rfl rfl hl.1 rfl (lv_room (Nat.le_of_ble_eq_true rfl)) dL_law_1994 ⟨lo_c (by omega), lo_s (by omega)⟩) hw (fun r_1994 u_1994 H locs hp_1994 hw => ?_)
  obtain rfl : r_1994 = o_ck M (L (cd 1)).length := hp_1994
  have hka1 : K ao = 35 ∧ N ao = 1 := ⟨(hfr1 ao (by rw [hka.1]; simp [c_oth])).1.trans hka.1, (hfr1 ao (by rw [hka.1]; simp [c_oth])).2.1.trans hka.2⟩
  have hkd1 : K dd = 36 ∧ N dd = 1 := ⟨(hfr1 dd (by rw [hkd.1]; simp [c_oth])).1.trans hkd.1, (hfr1 dd (by rw [hkd.1]; simp [c_oth])).2.1.trans hkd.2⟩
  refine lv_aload_n hx hb dL_law_1997 rfl (lv_at hl 2 rfl) ?_
  refine m_cl (va_runV (As := []) (rest := [.long (o_ck M (L (cd 1)).length)]) ⟨hx, hb, hml, hown, hts⟩ (c_X9_checksum l hro1 hz1 hnf hn120) (cwV 0 hts gL_law_X9_checksum rfl rfl rfl (by decide +kernel) ⟨Nat.le_of_ble_eq_true rfl, Nat.le_of_ble_eq_true rfl⟩) ⟨m_blind m_B_calling, m_recv hw (m_ent_10 hro1.1) rfl, fun U hU hW => ⟨rfl, m_wo_call hw hU hW⟩⟩ rfl rfl hl.1 rfl (lv_room (Nat.le_of_ble_eq_true rfl)) dL_law_1998 ⟨lo_c (by omega), lo_s (by omega)⟩) hw (fun r_1998 u_1998 H locs hp_1998 hw => ?_)
  obtain rfl : r_1998 = o_ck M (L (cd 1)).length := hp_1998
  refine lv_lcmp0 hx hb dL_law_2001 ?_
  refine lv_if_eq (tgt := 2020) hx hb dL_law_2002 (by decide) (fun _ => ?_) (fun cz => absurd rfl cz)
  refine lv_iinc (v := (nI (5 * t)) + 5) (lv' := [(5, .int ((nI (5 * t)) + 5)), (0, .ref b), (1, .ref x), (2, .ref o), (3, .ref ao), (4, .ref dd)]) hx hb dL_law_2020 hl (k := 5) rfl rfl (by decide) rfl (fun ls hl => ?_)
  refine lv_goto (tgt := 28) hx hb dL_law_2023 (by decide) ?_
  have hs2 := hs1
  have hs3 := hs2
  have hf3 := (show w_f (Z, M).1 (Z, M).2 (t + 1) from w_same hf)
  rw [show nI (5 * t) + 5 = nI (5 * (t + 1)) from nI_add (5 * t) 5] at hl
  refine W.widen (k := cells + 600) (n := slots + 8300) (by omega) (by omega) ?_
  exact ih _ _ _ ⟨(K, I, R, F, A, N, L, T, J, D), cd, ad, _, _, _, hw, hs3, hro1, r_st_self hz1, hka1, hkd1, hf3, lv_sub hl [1, 2, 3, 4, 5, 0] rfl⟩
set_option maxHeartbeats 1600000 in
set_option maxRecDepth 100000 in
theorem lo_isTrue {p : Program} {l : Launch} {e : Env} {s : State} {m : MethodId} {below : List Frame} {meth : Method} {c : Code} {H : Heap} {locs : List Loc} {ls : Array Slot} {cells slots : Nat} {Q : State → Prop} {G : mG} {K : Nat → Nat} {I : Nat → Nat → Int32} {R : Nat → Nat → Option Nat} {F : Nat → UInt32} {A : Nat → Nat → Int32} {N : Nat → Nat} {L : Nat → List Nat} {T : Nat → List Int32} {J : Nat → Nat → Int64} {D : Nat → Nat → UInt64} {b n : Nat} {xs : Nat → Int32} {x o ao dd t : Nat} {cd ad : Nat → Nat} {Z : mZ} {M : mM} {th : Int32} (C : lw_cx p l s m c b n xs G) (hfp : f_all) (hw : m_wo G K I R F A N L T J D s H locs) (hs : c_sim K I R N A L T x cd Z M) (hro : r_ok K R N o ad) (hz : r_st K o ad I A I A Z M th) (hka : K ao = 35 ∧ N ao = 1) (hkd : K dd = 36 ∧ N dd = 1) (hf : w_f Z M t) (ht : t < 512) (hin : 5 * t + 5 ≤ n) (hl : lv_has ls 10 [(0, .ref b), (1, .ref x), (2, .ref o), (3, .ref ao), (4, .ref dd), (5, .int (nI (5 * t)))]) (hc9 : cells + 600 ≤ 603072) (hs9 : slots + 8300 ≤ 7211114) (ih : ∀ (H : Heap) (locs : List Loc) (ls : Array Slot), lw_I G s b x o ao dd (t + 1) H locs ls → W p l e room_1 s m #[Value.ref b] below meth c H locs (cells + 600) (slots + 8300) Q (F0 m 28 ls [])) : W p l e room_1 s m #[Value.ref b] below meth c H locs cells slots Q (F0 m 2007 ls []) := by
  obtain ⟨hx, hb, hml, hown, hts, hX, hbl, hbA, hnt, hcs, hn9⟩ := C
  have hni := hs.2.1.1
  have hn12 := hs.2.1.2.1
  have hnf := hs.2.2.1.1
  have hn120 := hs.2.2.1.2.1
  have hnsg := hs.2.2.2.2.1.1
  have hn20 := hs.2.2.2.2.1.2.1
  have hns := hs.2.2.2.2.2.1.1
  have hn5 := hs.2.2.2.2.2.1.2.1
  obtain ⟨nt, hnt9, h4t, hgt⟩ := u_gap hs
  have hw9 := u_shW hs
  have ht9 : t ≤ 512 := by omega
  obtain ⟨fpT, fpW, fpS, fpM, fp0⟩ := hfp
  refine lv_aload_n hx hb dL_law_2007 rfl (lv_at hl 1 rfl) ?_
  refine m_ci (va_runV (As := []) (rest := []) ⟨hx, hb, hml, hown, hts⟩ (c_X8_isTrue_s l hs (u_pu hs hf ht9)) (cwV 0 hts gL_law_X8_isTrue rfl rfl rfl (by decide +kernel) ⟨Nat.le_of_ble_eq_true rfl, Nat.le_of_ble_eq_true rfl⟩) ⟨m_blind m_B_calling, m_recv hw (m_ent_9 hs.1.1) rfl, fun U hU hW => ⟨rfl, m_wo_call hw hU hW⟩⟩ rfl rfl hl.1 rfl (lv_room (Nat.le_of_ble_eq_true rfl)) dL_law_2008 ⟨lo_c (by omega), lo_s (by omega)⟩) hw (fun r_2008 u_2008 H locs hp_2008 hw => ?_)
  obtain ⟨K_1, I_2, R_3, N_4, L_5, A_6⟩ := u_2008
  have hw : m_wo G K_1 I_2 R_3 F A_6 N_4 L_5 T J D s H locs := hw
  dsimp only at hp_2008
  obtain ⟨rfl, hs1, hfr1⟩ := hp_2008
  have hro1 := r_ok_fr hro hfr1
  have hz1 := r_st_fr hro hz hfr1
  have hka1 : K_1 ao = 35 ∧ N_4 ao = 1 := ⟨(hfr1 ao (by rw [hka.1]; simp [c_oth])).1.trans hka.1, (hfr1 ao (by rw [hka.1]; simp [c_oth])).2.1.trans hka.2⟩
  have hkd1 : K_1 dd = 36 ∧ N_4 dd = 1 := ⟨(hfr1 dd (by rw [hkd.1]; simp [c_oth])).1.trans hkd.1, (hfr1 dd (by rw [hkd.1]; simp [c_oth])).2.1.trans hkd.2⟩
  refine lv_aload_n hx hb dL_law_2011 rfl (lv_at hl 2 rfl) ?_
  refine m_ci (va_runV (As := []) (rest := [.int 1]) ⟨hx, hb, hml, hown, hts⟩ (c_X9_isTrue l hro1 hz1) (cwV 0 hts gL_law_X9_isTrue rfl rfl rfl (by decide +kernel) ⟨Nat.le_of_ble_eq_true rfl, Nat.le_of_ble_eq_true rfl⟩) ⟨m_blind m_B_calling, m_recv hw (m_ent_10 hro1.1) rfl, fun U hU hW => ⟨rfl, m_wo_call hw hU hW⟩⟩ rfl rfl hl.1 rfl (lv_room (Nat.le_of_ble_eq_true rfl)) dL_law_2012 ⟨lo_c (by omega), lo_s (by omega)⟩) hw (fun r_2012 u_2012 H locs hp_2012 hw => ?_)
  obtain rfl : r_2012 = 1 := hp_2012
  refine lv_icmp_eq (tgt := 2020) hx hb dL_law_2015 (by decide) (fun _ => ?_) (fun cz => absurd rfl cz)
  refine lv_iinc (v := (nI (5 * t)) + 5) (lv' := [(5, .int ((nI (5 * t)) + 5)), (0, .ref b), (1, .ref x), (2, .ref o), (3, .ref ao), (4, .ref dd)]) hx hb dL_law_2020 hl (k := 5) rfl rfl (by decide) rfl (fun ls hl => ?_)
  refine lv_goto (tgt := 28) hx hb dL_law_2023 (by decide) ?_
  have hs2 := hs1
  have hs3 := hs2
  have hf3 := (show w_f (Z, M).1 (Z, M).2 (t + 1) from w_same hf)
  rw [show nI (5 * t) + 5 = nI (5 * (t + 1)) from nI_add (5 * t) 5] at hl
  refine W.widen (k := cells + 600) (n := slots + 8300) (by omega) (by omega) ?_
  exact ih _ _ _ ⟨(K_1, I_2, R_3, F, A_6, N_4, L_5, T, J, D), cd, ad, _, _, _, hw, hs3, hro1, r_st_self hz1, hka1, hkd1, hf3, lv_sub hl [1, 2, 3, 4, 5, 0] rfl⟩
