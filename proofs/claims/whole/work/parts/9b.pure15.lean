section
variable {K : Nat → Nat} {I : Nat → Nat → Int32} {R : Nat → Nat → Option Nat} {N : Nat → Nat} {A : Nat → Nat → Int32} {L : Nat → List Nat} {T : Nat → List Int32} {x : Nat} {cd : Nat → Nat} {Z : mZ} {M : mM} {t : Nat}
theorem u_z0 (h : c_sim K I R N A L T x cd Z M) : zn Z 0 = (L (cd 0)).length := zn_of h.2.1.1 (by have := h.2.1.2.1; omega)
theorem u_z1 (h : c_sim K I R N A L T x cd Z M) : zn Z 1 = (L (cd 1)).length := zn_of h.2.2.1.1 (by have := h.2.2.1.2.1; omega)
theorem u_z2 (h : c_sim K I R N A L T x cd Z M) : zn Z 2 = (L (cd 5)).length := zn_of h.2.2.2.2.2.1.1 (by have := h.2.2.2.2.2.1.2.1; omega)
theorem u_10 (h : c_sim K I R N A L T x cd Z M) (hf : w_f Z M t) : M 10 (L (cd 0)).length = 0 := hf.2.2.2.1 _ (Nat.le_of_eq (u_z0 h))
theorem u_12 (h : c_sim K I R N A L T x cd Z M) (hf : w_f Z M t) : ∀ f, f < (L (cd 1)).length → ∃ i, i < (L (cd 0)).length ∧ M 12 f = nI i := by
  have q := hf.2.2.2.2.2.1
  rw [u_z0 h, u_z1 h] at q
  exact q
theorem u_15 (h : c_sim K I R N A L T x cd Z M) (hf : w_f Z M t) : ∀ f, f < (L (cd 1)).length → M 15 f = -1 ∨ ∃ s, s < (L (cd 5)).length ∧ M 15 f = nI s := by
  have q := hf.2.2.2.2.2.2.2.2.2.2
  rw [u_z1 h, u_z2 h] at q
  exact q
theorem u_9 (hf : w_f Z M t) : ∀ j, ¬ M 9 j = -1 := fun j => by
  obtain ⟨c, c1, c2⟩ := hf.2.2.1 j
  rw [c2]
  exact nI_nm1 (by omega)
theorem u_h4 (hf : w_f Z M t) (ht : t ≤ 512) : ∃ m, Z 4 = nI m ∧ m + 1 < 2 ^ 30 := by
  obtain ⟨m, m1', m2, -⟩ := hf.2.2.2.2.2.2.2.1
  exact ⟨m, m1', by omega⟩
theorem u_h9 (hf : w_f Z M t) : ¬ Z 5 = -1 → o_size Z M (Z 5) ≤ 9 := by
  obtain ⟨m, -, -, m3⟩ := hf.2.2.2.2.2.2.2.1
  exact m3.2.2
theorem u_stl (h : c_sim K I R N A L T x cd Z M) (hf : w_f Z M t) : ∀ s, o_still Z M s < 2 ^ 31 := fun s => by
  obtain ⟨n, n1, n2⟩ := hf.2.2.2.2.2.2.2.2.1 s
  exact o_still_lt h.2.2.1.1 h.2.2.1.2.1 n2 n1
theorem u_stl2 (h : c_sim K I R N A L T x cd Z M) (hf : w_f Z M t) (f : Nat) : ∀ s, o_still Z (m1 M 16 f 1) s < 2 ^ 31 := fun s => by
  obtain ⟨n, n1, n2⟩ := hf.2.2.2.2.2.2.2.2.1 s
  exact o_still_lt h.2.2.1.1 h.2.2.1.2.1 (M := m1 M 16 f 1) (by rw [m1_n _ _ (by decide)]; exact n2) n1
theorem u_18 (h : c_sim K I R N A L T x cd Z M) {v : Int32} (hv : o_shp Z v = true) : (M 18 v.toNatClampNeg).toNatClampNeg < zn Z 0 := by
  obtain ⟨s, hs, rfl⟩ := (q_shp_nm h v).mp hv
  have h5 := h.2.2.2.2.2.1.2.1
  rw [nI_clamp (show s < 2 ^ 31 by omega), u_z0 h]
  obtain ⟨a, ha⟩ := u_at hs
  obtain ⟨ph, w9, d9, n, is9, came, b1, b2, b3, b4, -⟩ := h.2.2.2.2.2.1.2.2.2.1 s a ha
  exact (List.getElem?_eq_some_iff.mp b4).1
theorem u_pos {z : Int32} {n : Nat} (hz : z = nI n) (hn : n ≤ 4) (h : 0 < z) : 0 < n := by
  rw [hz] at h
  exact (nI_ltI (a := 0) (by decide) (by omega)).mp h
theorem o_rt_le (n : Nat) : ∀ k, o_rt n k ≤ k
  | 0 => by unfold o_rt; exact Nat.le_refl _
  | k + 1 => by
    have := o_rt_le n k
    unfold o_rt
    split <;> omega
theorem u_cost (hf : w_f Z M t) (s u : Nat) : o_cost M s u < 2 ^ 30 := by
  obtain ⟨n, n1, n2⟩ := u_far hf s u
  have h := o_rt_le (o_far M s u).toNatClampNeg (o_far M s u).toNatClampNeg
  unfold o_cost o_root
  rw [n2, nI_clamp (show n < 2 ^ 31 by omega)] at h ⊢
  omega
/-! what holds after a call -/
theorem w_same (hf : w_f Z M t) : w_f Z M (t + 1) := w_f_c hf (Nat.le_succ _) (fun _ _ => rfl) (fun _ _ => rfl)
theorem w_ite {v : Int32} {P : mS} (hf : w_f Z M t) (h0 : v = 0 → w_f P.1 P.2 (t + 1)) : w_f (if v = 0 then P else (Z, M)).1 (if v = 0 then P else (Z, M)).2 (t + 1) := by
  by_cases c : v = 0
  · rw [if_pos c]; exact h0 c
  · rw [if_neg c]; exact w_same hf
theorem w_Find (h : c_sim K I R N A L T x cd Z M) (hf : w_f Z M t) (ht : t ≤ 512) {wd isl pl : Int32} (h0 : t_find Z wd isl pl = 0) : w_f (o_comes (Z, M) wd isl pl (-1)).1 (o_comes (Z, M) wd isl pl (-1)).2 (t + 1) := by
  have q : o_isl Z isl = true ∧ o_room Z = true := by
    unfold t_find at h0
    by_cases c : o_isl Z isl = true
    · rw [if_pos c] at h0
      by_cases c2 : o_wrd wd pl = true
      · rw [if_pos c2] at h0
        by_cases c3 : o_room Z = true
        · exact ⟨c, c3⟩
        · rw [if_neg c3] at h0; exact absurd h0 (by decide)
      · rw [if_neg c2] at h0; exact absurd h0 (by decide)
    · rw [if_neg c] at h0; exact absurd h0 (by decide)
  obtain ⟨i, hi, ei⟩ := (q_isl_nm h isl).mp q.1
  exact w_comes (n0 := 0) (n2 := 0) hf ht h.2.2.1.1 (o_room_lt q.2 h.2.2.1.1 (by have := h.2.2.1.2.1; omega)) ⟨i, by rw [u_z0 h]; exact hi, ei⟩ (Or.inl rfl)
theorem w_Plant (h : c_sim K I R N A L T x cd Z M) (hf : w_f Z M t) (ht : t ≤ 512) {sh wd isl pl : Int32} (h0 : t_plant Z M sh wd isl pl = 0) : w_f (p_plant (Z, M) sh wd isl pl).1 (p_plant (Z, M) sh wd isl pl).2 (t + 1) := by
  have q : (o_shp Z sh = true ∧ o_isl Z isl = true) ∧ ¬ M 19 sh.toNatClampNeg < 5 ∧ o_room Z = true := by
    unfold t_plant at h0
    by_cases c : (o_shp Z sh && o_isl Z isl) = true
    · rw [if_pos c] at h0
      by_cases c2 : o_wrd wd pl = true
      · rw [if_pos c2] at h0
        by_cases c4 : M 19 sh.toNatClampNeg < 5
        · rw [if_pos c4] at h0; exact absurd h0 (by decide)
        · rw [if_neg c4] at h0
          by_cases c3 : o_room Z = true
          · exact ⟨(Bool.and_eq_true _ _).mp c, c4, c3⟩
          · rw [if_neg c3] at h0; exact absurd h0 (by decide)
      · rw [if_neg c2] at h0; exact absurd h0 (by decide)
    · rw [if_neg c] at h0; exact absurd h0 (by decide)
  obtain ⟨i, hi, ei⟩ := (q_isl_nm h isl).mp q.1.2
  obtain ⟨s, hs, es⟩ := (q_shp_nm h sh).mp q.1.1
  exact w_plant hf ht h.2.2.1.1 (o_room_lt q.2.2 h.2.2.1.1 (by have := h.2.2.1.2.1; omega)) ⟨i, by rw [u_z0 h]; exact hi, ei⟩ ⟨s, by rw [u_z2 h]; exact hs, es⟩ q.2.1
theorem w_Storm (hf : w_f Z M t) {v : Int32} (h0 : t_storm Z M v = 0) : w_f (p_storm (Z, M) v).1 (p_storm (Z, M) v).2 (t + 1) := by
  refine w_storm hf (fun z => ?_)
  unfold t_storm at h0
  by_cases c : o_seg Z M v = true
  · rw [if_pos c, if_pos z] at h0; exact absurd h0 (by decide)
  · rw [if_neg c] at h0; exact absurd h0 (by decide)
theorem w_Dig (h : c_sim K I R N A L T x cd Z M) (hf : w_f Z M t) (ht : t ≤ 512) {v : Int32} (h0 : t_dig Z M v = 0) : w_f Z (p_dig M v.toNatClampNeg) (t + 1) := by
  refine w_dig hf ht (u_18 h ?_)
  unfold t_dig at h0
  by_cases c : o_shp Z v = true
  · exact c
  · rw [if_neg c] at h0; exact absurd h0 (by decide)
theorem w_Strike (h : c_sim K I R N A L T x cd Z M) (hf : w_f Z M t) (ht : t ≤ 512) {v : Int32} (h0 : t_strike Z M v = 0) : w_f Z (p_strike Z M v.toNatClampNeg).2 (t + 1) := by
  have q : o_rng v 0 (Z 1 - 1) = true := by
    unfold t_strike at h0
    by_cases c : o_rng v 0 (Z 1 - 1) = true
    · exact c
    · rw [if_neg c] at h0; exact absurd h0 (by decide)
  obtain ⟨f, hf9, rfl⟩ := (q_fnd_nm h v).mp q
  have h5 := h.2.2.1.2.1
  rw [nI_clamp (show f < 2 ^ 31 by omega)]
  exact w_strike hf ht ((u_15 h hf f hf9).imp id (fun ⟨s, _, e⟩ => ⟨s, e⟩)) (u_21 h hf)
theorem w_Sail (h : c_sim K I R N A L T x cd Z M) (hf : w_f Z M t) (ht : t ≤ 512) {nf ni nt : Nat} {v : Int32} (hnt : Z 29 = nI nt) (h4 : nt ≤ 4) : w_f (p_sail Z M nf ni nt v).1 (p_sail Z M nf ni nt v).2 (t + 1) :=
  w_sail hf ht hnt h4 (u_cost hf)
end
/-! the floats, all that is asked of them (proved apart) -/
def o_sD (x : UInt64) : Prop := Op.cmpValue (FP.dcmp x x) .l = 0
def f_all : Prop :=
  (∀ (Z : mZ) (M : mM) (nf ni nt : Nat), Z 1 = nI nf → nf ≤ 120 → Z 0 = nI ni → ni ≤ 12 → Z 29 = nI nt → nt ≤ 4 → 0 < nt → (∀ f, f < nf → ∃ i, i < ni ∧ M 12 f = nI i) →
    o_nan (o_askT (Z, M)).1 (o_askT (Z, M)).2 nf ni nt ∧ o_keys Z M nf ni nt ∧ ∀ v, o_self (o_score (o_askT (Z, M)).1 (o_askT (Z, M)).2 nf ni nt v) ∧ (0 < o_hitT Z M v → o_bok (o_score (o_askT (Z, M)).1 (o_askT (Z, M)).2 nf ni nt v) (o_score (o_askT (Z, M)).1 (o_askT (Z, M)).2 nf ni nt v).toInt32)) ∧
  (∀ ni, ni ≤ 12 → ∀ h, h ≤ ni → (vf_n32 (FP.fdiv (FP.i2f (nI ni)) (FP.i2f (1 + nI h))) ∧ vf_n32 (o_wt ni h)) ∧ vf_n64 (FP.f2d (o_wt ni h)) ∧ o_sD (FP.f2d (o_wt ni h))) ∧
  (∀ (M : mM) (nf : Nat), 0 < nf → nf ≤ 120 → vf_n32 (o_share M nf) ∧ vf_n64 (FP.f2d (o_share M nf)) ∧ o_sD (FP.f2d (o_share M nf))) ∧
  (∀ a k, a ≤ 120 → 0 < k → k ≤ 20 → vf_n64 (FP.ddiv (FP.i2d (nI a)) (FP.i2d (nI k))) ∧ o_sD (FP.ddiv (FP.i2d (nI a)) (FP.i2d (nI k)))) ∧ o_sD FP.dconst0
theorem o_has_le {M : mM} {nf ni : Nat} {v : Int32} : o_has M nf ni v ≤ ni := cntB_le _ _
/-! the law's walk -/
def lw_cx (p : Program) (l : Launch) (s : State) (m : MethodId) (c : Code) (b n : Nat) (xs : Nat → Int32) (G : mG) : Prop :=
  p.tables.exec = Jvm.exec ∧ c.code = cL_law ∧ c.maxLocals = 10 ∧ s.vm.findClass RL = some m.cls ∧ (∀ w ∈ wsL_law, w.before #[Value.ref b] s = true) ∧ va_X b n xs s s.heap ∧ b < s.heap.size ∧ ¬ G.2.2.1 ≤ b ∧ l.stackTraces = false ∧ c_str s ∧ n ≤ 2560
def lw_I (G : mG) (s : State) (b x o ao dd t : Nat) (H : Heap) (locs : List Loc) (ls : Array Slot) : Prop :=
  ∃ (u : mE) (cd ad : Nat → Nat) (Z : mZ) (M : mM) (th : Int32), m_wo G u.1 u.2.1 u.2.2.1 u.2.2.2.1 u.2.2.2.2.1 u.2.2.2.2.2.1 u.2.2.2.2.2.2.1 u.2.2.2.2.2.2.2.1 u.2.2.2.2.2.2.2.2.1 u.2.2.2.2.2.2.2.2.2 s H locs ∧ c_sim u.1 u.2.1 u.2.2.1 u.2.2.2.2.2.1 u.2.2.2.2.1 u.2.2.2.2.2.2.1 u.2.2.2.2.2.2.2.1 x cd Z M ∧ r_ok u.1 u.2.2.1 u.2.2.2.2.2.1 o ad ∧ r_st u.1 o ad u.2.1 u.2.2.2.2.1 u.2.1 u.2.2.2.2.1 Z M th ∧ (u.1 ao = 35 ∧ u.2.2.2.2.2.1 ao = 1) ∧ (u.1 dd = 36 ∧ u.2.2.2.2.2.1 dd = 1) ∧ w_f Z M t ∧ lv_has ls 10 [(0, .ref b), (1, .ref x), (2, .ref o), (3, .ref ao), (4, .ref dd), (5, .int (nI (5 * t)))]
theorem lo_in {t n k : Nat} (h : 5 * t + 5 ≤ n) (hn : n ≤ 2560) (hk : k < 5) : vp_in (nI (5 * t) + nI k) n := by
  rw [nI_add]
  exact vp_in_nI (by omega) (by omega)
theorem lo_c {a : Nat} (h : a ≤ 603072) : a ≤ room_1.cells := h
theorem lo_s {a : Nat} (h : a ≤ 7211114) : a ≤ room_1.slots := h
section
variable {p : Program} {l : Launch} {e : Env} {R0 : Room} {s : State} {m : MethodId} {args : Array Value} {below : List Frame} {meth : Method} {c : Code} {H : Heap} {locs : List Loc} {cells slots : Nat} {Q : State → Prop} {cc : ByteArray} {pc : Nat} {ls : Array Slot} {rest : List Value}
theorem lv_lcmp0 (hexec : p.tables.exec = Jvm.exec) (hb : c.code = cc) {x : Int64} (hdg : decode cc pc = .ok (.lcmp, 1))
    (k : W p l e R0 s m args below meth c H locs cells slots Q (F0 m (pc + 1) ls (.int 0 :: rest))) : W p l e R0 s m args below meth c H locs cells slots Q (F0 m pc ls (.long x :: .long x :: rest)) := by
  intro T hT X
  obtain ⟨t, a, b⟩ := k T hT X
  refine ⟨t, ?_, b⟩
  jvm_step X.here [X.here.top, hexec, hb, hdg]
  exact a
end
