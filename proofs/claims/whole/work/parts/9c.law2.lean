set_option maxHeartbeats 1600000 in
set_option maxRecDepth 100000 in
theorem lo_island {p : Program} {l : Launch} {e : Env} {s : State} {m : MethodId} {below : List Frame} {meth : Method} {c : Code} {H : Heap} {locs : List Loc} {ls : Array Slot} {cells slots : Nat} {Q : State → Prop} {G : mG} {K : Nat → Nat} {I : Nat → Nat → Int32} {R : Nat → Nat → Option Nat} {F : Nat → UInt32} {A : Nat → Nat → Int32} {N : Nat → Nat} {L : Nat → List Nat} {T : Nat → List Int32} {J : Nat → Nat → Int64} {D : Nat → Nat → UInt64} {b n : Nat} {xs : Nat → Int32} {x o ao dd t : Nat} {cd ad : Nat → Nat} {Z : mZ} {M : mM} {th : Int32} (C : lw_cx p l s m c b n xs G) (hfp : f_all) (hw : m_wo G K I R F A N L T J D s H locs) (hs : c_sim K I R N A L T x cd Z M) (hro : r_ok K R N o ad) (hz : r_st K o ad I A I A Z M th) (hka : K ao = 35 ∧ N ao = 1) (hkd : K dd = 36 ∧ N dd = 1) (hf : w_f Z M t) (ht : t < 512) (hin : 5 * t + 5 ≤ n) (hl : lv_has ls 10 [(0, .ref b), (1, .ref x), (2, .ref o), (3, .ref ao), (4, .ref dd), (5, .int (nI (5 * t)))]) (hc9 : cells + 480 ≤ 603072) (hs9 : slots + 7200 ≤ 7211114) (ih : ∀ (H : Heap) (locs : List Loc) (ls : Array Slot), lw_I G s b x o ao dd (t + 1) H locs ls → W p l e room_1 s m #[Value.ref b] below meth c H locs (cells + 480) (slots + 7200) Q (F0 m 28 ls [])) : W p l e room_1 s m #[Value.ref b] below meth c H locs cells slots Q (F0 m 196 ls []) := by
  obtain ⟨hx, hb, hml, hown, hts, hX, hbl, hbA, hnt, hcs, hn9⟩ := C
  have hni := hs.2.1.1
  have hn12 := hs.2.1.2.1
  have hnf := hs.2.2.1.1
  have hn120 := hs.2.2.1.2.1
  have hnsg := hs.2.2.2.2.1.1
  have hn20 := hs.2.2.2.2.1.2.1
  have hns := hs.2.2.2.2.2.1.1
  have hn5 := hs.2.2.2.2.2.1.2.1
  obtain ⟨nt, hnt9, h4t, hgt⟩ := u_gap hs
  have hw9 := u_shW hs
  have ht9 : t ≤ 512 := by omega
  obtain ⟨fpT, fpW, fpS, fpM, fp0⟩ := hfp
  obtain ⟨a1, ea1⟩ : ∃ z, z = xs (nI (5 * t) + 1).toNatClampNeg := ⟨_, rfl⟩
  obtain ⟨a2, ea2⟩ : ∃ z, z = xs (nI (5 * t) + 2).toNatClampNeg := ⟨_, rfl⟩
  obtain ⟨a3, ea3⟩ : ∃ z, z = xs (nI (5 * t) + 3).toNatClampNeg := ⟨_, rfl⟩
  refine lv_aload_n hx hb dL_law_196 rfl (lv_at hl 1 rfl) ?_
  refine lv_aload_n hx hb dL_law_197 rfl (lv_at hl 0 rfl) ?_
  refine lv_iload hx hb dL_law_198 (lv_at hl 5 rfl) ?_
  refine lv_iconst (v := 1) hx hb dL_law_200 (by decide) ?_
  refine lv_iadd hx hb dL_law_201 ?_
  refine va_sld hx hb hX hbl hbA hw.2.2.2.1 (show vp_in (nI (5 * t) + 1) n from lo_in (k := 1) hin hn9 (by decide)) dL_law_202 ?_
  rw [← ea1]
  refine lv_aload_n hx hb dL_law_203 rfl (lv_at hl 0 rfl) ?_
  refine lv_iload hx hb dL_law_204 (lv_at hl 5 rfl) ?_
  refine lv_iconst (v := 2) hx hb dL_law_206 (by decide) ?_
  refine lv_iadd hx hb dL_law_207 ?_
  refine va_sld hx hb hX hbl hbA hw.2.2.2.1 (show vp_in (nI (5 * t) + 2) n from lo_in (k := 2) hin hn9 (by decide)) dL_law_208 ?_
  rw [← ea2]
  refine lv_aload_n hx hb dL_law_209 rfl (lv_at hl 0 rfl) ?_
  refine lv_iload hx hb dL_law_210 (lv_at hl 5 rfl) ?_
  refine lv_iconst (v := 3) hx hb dL_law_212 (by decide) ?_
  refine lv_iadd hx hb dL_law_213 ?_
  refine va_sld hx hb hX hbl hbA hw.2.2.2.1 (show vp_in (nI (5 * t) + 3) n from lo_in (k := 3) hin hn9 (by decide)) dL_law_214 ?_
  rw [← ea3]
  refine lv_aload_n hx hb dL_law_215 rfl (lv_at hl 3 rfl) ?_
  refine m_ci (vx_runSW (As := [.ref x, .int a1, .int a2, .int a3, .ref ao]) (rest := []) ⟨hx, hb, hml, hown, hts⟩ (c_L_island l hnt hs (u_10 hs hf) hka.1 hka.2) (vx_cwSW 5 hts gL_law_L_island rfl rfl rfl (by decide +kernel) ⟨Nat.le_of_ble_eq_true rfl, Nat.le_of_ble_eq_true rfl⟩) ⟨m_blind (fun U g mk a h => ⟨m_B_calling U g mk a h.1, c_str_calling U g mk a h.2⟩), fun U hU hW => ⟨rfl, m_wo_call hw hU hW, c_str_warm hW hcs⟩⟩ rfl rfl hl.1 rfl (lv_room (Nat.le_of_ble_eq_true rfl)) dL_law_216 ⟨lo_c (by omega), lo_s (by omega)⟩) hw (fun r1 u1 H locs hp1 hw => ?_)
  obtain ⟨K1, I1, R1, F1, A1, N1, L1, T1, J1, D1⟩ := u1
  try dsimp only at hp1
  obtain ⟨rfl, hq1, hs1, hfr1⟩ := hp1
  have hw : m_wo G K1 I1 R1 F1 A1 N1 L1 T1 J1 D1 s H locs := hw
  have hs1 : c_sim K1 I1 R1 N1 A1 L1 T1 x cd (if t_island Z a1 a2 a3 = 0 then p_island (Z, M) a1 a2 a3 else (Z, M)).1 (if t_island Z a1 a2 a3 = 0 then p_island (Z, M) a1 a2 a3 else (Z, M)).2 := hs1
  have hfr1 : c_fr K I R N A K1 I1 R1 N1 A1 := hfr1
  have hro1 := r_ok_fr hro hfr1
  have hz1 := r_st_fr hro hz hfr1
  have hka1 : K1 ao = 35 ∧ N1 ao = 1 := ⟨(hfr1 ao (by rw [hka.1]; simp [c_oth])).1.trans hka.1, (hfr1 ao (by rw [hka.1]; simp [c_oth])).2.1.trans hka.2⟩
  have hkd1 : K1 dd = 36 ∧ N1 dd = 1 := ⟨(hfr1 dd (by rw [hkd.1]; simp [c_oth])).1.trans hkd.1, (hfr1 dd (by rw [hkd.1]; simp [c_oth])).2.1.trans hkd.2⟩
  refine lv_istore (lv' := [(6, .int (t_island Z a1 a2 a3)), (0, .ref b), (1, .ref x), (2, .ref o), (3, .ref ao), (4, .ref dd), (5, .int (nI (5 * t)))]) hx hb dL_law_219 hl (by decide) rfl (fun ls hl => ?_)
  refine lv_aload_n hx hb dL_law_221 rfl (lv_at hl 3 rfl) ?_
  refine lv_aload_n hx hb dL_law_222 rfl (lv_at hl 1 rfl) ?_
  refine lv_iload hx hb dL_law_223 (lv_at hl 6 rfl) ?_
  refine lv_iconst (v := 1) hx hb dL_law_225 (by decide) ?_
  refine lv_iadd hx hb dL_law_226 ?_
  refine va_sld hx hb hX hbl hbA hw.2.2.2.1 (show vp_in (nI (5 * t) + 1) n from lo_in (k := 1) hin hn9 (by decide)) dL_law_227 ?_
  rw [← ea1]
  refine lv_aload_n hx hb dL_law_228 rfl (lv_at hl 1 rfl) ?_
  refine lv_iload hx hb dL_law_229 (lv_at hl 6 rfl) ?_
  refine lv_iconst (v := 2) hx hb dL_law_231 (by decide) ?_
  refine lv_iadd hx hb dL_law_232 ?_
  refine va_sld hx hb hX hbl hbA hw.2.2.2.1 (show vp_in (nI (5 * t) + 2) n from lo_in (k := 2) hin hn9 (by decide)) dL_law_233 ?_
  rw [← ea2]
  refine lv_aload_n hx hb dL_law_234 rfl (lv_at hl 1 rfl) ?_
  refine lv_iload hx hb dL_law_235 (lv_at hl 6 rfl) ?_
  refine lv_iconst (v := 3) hx hb dL_law_237 (by decide) ?_
  refine lv_iadd hx hb dL_law_238 ?_
  refine va_sld hx hb hX hbl hbA hw.2.2.2.1 (show vp_in (nI (5 * t) + 3) n from lo_in (k := 3) hin hn9 (by decide)) dL_law_239 ?_
  rw [← ea3]
  refine m_ci (va_runV (As := [.int a1, .int a2, .int a3]) (rest := []) ⟨hx, hb, hml, hown, hts⟩ (c_X9_island l a1 a2 a3 hro1 hz1 hni hn12) (cwV 3 hts gL_law_X9_island rfl rfl rfl (by decide +kernel) ⟨Nat.le_of_ble_eq_true rfl, Nat.le_of_ble_eq_true rfl⟩) ⟨m_blind m_B_calling, m_recv hw (m_ent_10 hro1.1) rfl, fun U hU hW => ⟨rfl, m_wo_call hw hU hW⟩⟩ rfl rfl hl.1 rfl (lv_room (Nat.le_of_ble_eq_true rfl)) dL_law_240 ⟨lo_c (by omega), lo_s (by omega)⟩) hw (fun r_240 u_240 H locs hp_240 hw => ?_)
  obtain ⟨I_1, A_2⟩ := u_240
  have hw : m_wo G K1 I_1 R1 F1 A_2 N1 L1 T1 J1 D1 s H locs := hw
  dsimp only at hp_240
  obtain ⟨hz2, hv2⟩ := hp_240
  refine lv_istore (lv' := [(7, .int r_240), (6, .int (t_island Z a1 a2 a3)), (0, .ref b), (1, .ref x), (2, .ref o), (3, .ref ao), (4, .ref dd), (5, .int (nI (5 * t)))]) hx hb dL_law_243 hl (by decide) rfl (fun ls hl => ?_)
  refine lv_aload_n hx hb dL_law_245 rfl (lv_at hl 4 rfl) ?_
  refine m_ci (va_runV (As := []) (rest := []) ⟨hx, hb, hml, hown, hts⟩ (c_X9_thrown l hro1 (r_st_self hz2)) (cwV 0 hts gL_law_X9_thrown rfl rfl rfl (by decide +kernel) ⟨Nat.le_of_ble_eq_true rfl, Nat.le_of_ble_eq_true rfl⟩) ⟨m_blind m_B_calling, m_recv hw (m_ent_10 hro1.1) rfl, fun U hU hW => ⟨rfl, m_wo_call hw hU hW⟩⟩ rfl rfl hl.1 rfl (lv_room (Nat.le_of_ble_eq_true rfl)) dL_law_246 ⟨lo_c (by omega), lo_s (by omega)⟩) hw (fun r_246 u_246 H locs hp_246 hw => ?_)
  obtain rfl : r_246 = (t_island Z a1 a2 a3) := hp_246
  refine lv_iload hx hb dL_law_249 (lv_at hl 1 rfl) ?_
  refine lv_icmp_eq (tgt := 256) hx hb dL_law_251 (by decide) (fun _ => ?_) (fun cz => absurd rfl cz)
  have hK9 : W p l e room_1 s m #[Value.ref b] below meth c H locs (cells + 5 + 0 + 0) (slots + 54 + 0 + 0) Q (F0 m 273 ls []) := by
    refine lv_goto (tgt := 2020) hx hb dL_law_273 (by decide) ?_
    refine lv_iinc (v := (nI (5 * t)) + 5) (lv' := [(5, .int ((nI (5 * t)) + 5)), (7, .int r_240), (6, .int (t_island Z a1 a2 a3)), (0, .ref b), (1, .ref x), (2, .ref o), (3, .ref ao), (4, .ref dd)]) hx hb dL_law_2020 hl (k := 7) rfl rfl (by decide) rfl (fun ls hl => ?_)
    refine lv_goto (tgt := 28) hx hb dL_law_2023 (by decide) ?_
    have hs2 := c_sim_ref hs1 hz2.2.2.1 hz2.2.2.2.1
    have hs3 := hs2
    have hf3 := (show w_f (if t_island Z a1 a2 a3 = 0 then p_island (Z, M) a1 a2 a3 else (Z, M)).1 (if t_island Z a1 a2 a3 = 0 then p_island (Z, M) a1 a2 a3 else (Z, M)).2 (t + 1) from w_ite hf (fun z => w_island hf hni hn12 z))
    rw [show nI (5 * t) + 5 = nI (5 * (t + 1)) from nI_add (5 * t) 5] at hl
    refine W.widen (k := cells + 480) (n := slots + 7200) (by omega) (by omega) ?_
    exact ih _ _ _ ⟨(K1, I_1, R1, F1, A_2, N1, L1, T1, J1, D1), cd, ad, _, _, _, hw, hs3, hro1, r_st_self hz2, hka1, hkd1, hf3, lv_sub hl [3, 4, 5, 6, 7, 0] rfl⟩
  refine lv_iload hx hb dL_law_256 (lv_at hl 1 rfl) ?_
  refine lv_if_ne (tgt := 273) hx hb dL_law_258 (by decide) (fun _ => hK9) (fun c9 => ?_)
  obtain rfl : r_240 = Z 0 := hv2 c9
  refine lv_aload_n hx hb dL_law_261 rfl (lv_at hl 5 rfl) ?_
  refine lv_iconst (v := 0) hx hb dL_law_262 (by decide) ?_
  refine m_laload_35 hx hb hw hka1.1 (h_in hka1.2) dL_law_263 ?_
  rw [show J1 ao (0 : Int32).toNatClampNeg = (Z 0).toInt64 from hq1 c9]
  refine lv_iload hx hb dL_law_264 (lv_at hl 0 rfl) ?_
  refine lv_i2l (v := ((Z 0)).toInt64) hx hb dL_law_266 rfl ?_
  refine lv_lcmp0 hx hb dL_law_267 ?_
  refine lv_if_eq (tgt := 273) hx hb dL_law_268 (by decide) (fun _ => ?_) (fun cz => absurd rfl cz)
  exact hK9
