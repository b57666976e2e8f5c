/-- the reference's row without v, along a list -/
theorem o_dr_l (g h : Nat → Int32) (v : Int32) (l : List Nat) (hl : ∀ k a, l[k]? = some a → h a = g k) : ∀ n, n ≤ l.length → (o_dr g v n).1 = ((l.take n).filter (fun b => !decide (h b = v))).length ∧ (∀ k a, ((l.take n).filter (fun b => !decide (h b = v)))[k]? = some a → h a = (o_dr g v n).2 k) ∧ ∀ k, n ≤ k → (o_dr g v n).2 k = g k
  | 0, _ => ⟨rfl, fun k a h => by simp at h, fun k _ => rfl⟩
  | n + 1, hn => by
    obtain ⟨h1, h2, h3⟩ := o_dr_l g h v l hl n (by omega)
    have hle := o_dr_le g v n
    obtain ⟨b, hb⟩ : ∃ b, l[n]? = some b := ⟨_, List.getElem?_eq_getElem (by omega)⟩
    have ht : l.take (n + 1) = l.take n ++ [b] := lg_take hb
    have hg : h b = g n := hl n b hb
    have hu : upd (o_dr g v n).2 (o_dr g v n).1 ((o_dr g v n).2 n) n = g n := by
      unfold upd
      split
      · exact h3 n (Nat.le_refl _)
      · exact h3 n (Nat.le_refl _)
    have e2 : (o_dr g v (n + 1)).2 = upd (o_dr g v n).2 (o_dr g v n).1 ((o_dr g v n).2 n) := rfl
    have e1 : (o_dr g v (n + 1)).1 = if g n = v then (o_dr g v n).1 else (o_dr g v n).1 + 1 := by
      show (if upd (o_dr g v n).2 (o_dr g v n).1 ((o_dr g v n).2 n) n = v then _ else _) = _
      rw [hu]
    have hlt : ∀ k a, ((l.take n).filter (fun b => !decide (h b = v)))[k]? = some a → k < (o_dr g v n).1 := fun k a hk => by rw [h1]; exact (List.getElem?_eq_some_iff.mp hk).1
    have h3' : ∀ k, n + 1 ≤ k → (o_dr g v (n + 1)).2 k = g k := fun k hk => by
      rw [e2]
      unfold upd
      rw [if_neg (by omega)]
      exact h3 k (by omega)
    rw [ht, List.filter_append, e1]
    by_cases c : g n = v
    · have ef : [b].filter (fun b => !decide (h b = v)) = [] := by simp [hg, c]
      rw [ef, List.append_nil, if_pos c]
      refine ⟨h1, fun k a hk => ?_, h3'⟩
      rw [e2]
      unfold upd
      rw [if_neg (by have := hlt k a hk; omega)]
      exact h2 k a hk
    · have ef : [b].filter (fun b => !decide (h b = v)) = [b] := by simp [hg, c]
      rw [ef, if_neg c, List.length_append, List.length_singleton, ← h1]
      refine ⟨rfl, fun k a hk => ?_, h3'⟩
      rw [e2]
      rcases lg_app hk with ⟨g1, g2⟩ | ⟨g1, g2⟩
      · unfold upd
        rw [if_neg (by have := hlt k a g2; omega)]
        exact h2 k a g2
      · unfold upd
        rw [if_pos (by omega), h3 n (Nat.le_refl _), g2]
        exact hg
theorem lg_er {l : List Nat} {h : Nat → Int32} {sg : Nat} {v : Int32} (hnd : l.Nodup) (inj : ∀ a b, a ∈ l → b ∈ l → h a = h b → a = b) (hm : sg ∈ l) (hv : h sg = v) : l.erase sg = l.filter (fun b => !decide (h b = v)) := by
  rw [hnd.erase_eq_filter]
  refine List.filter_congr (fun b hb => ?_)
  by_cases e : b = sg
  · rw [e]; simp [hv]
  · have : ¬ h b = v := fun z => e (inj b sg hb hm (z.trans hv.symm))
    simp [e, this]
theorem o_drops_l {Z : mZ} {M : mM} {l : List Nat} {h : Nat → Int32} {sg : Nat} {v : Int32} (h3 : Z 3 = nI l.length) (h20 : l.length ≤ 20) (h17 : ∀ k a, l[k]? = some a → h a = M 17 k) (hnd : l.Nodup) (inj : ∀ a b, a ∈ l → b ∈ l → h a = h b → a = b) (hm : sg ∈ l) (hv : h sg = v) : (o_drops (Z, M) v).1 3 = nI (l.erase sg).length ∧ ∀ k a, (l.erase sg)[k]? = some a → h a = (o_drops (Z, M) v).2 17 k := by
  have hz : zn Z 3 = l.length := zn_of h3 (by omega)
  obtain ⟨a1, a2, -⟩ := o_dr_l (M 17) h v l h17 l.length (Nat.le_refl _)
  rw [List.take_length, ← lg_er hnd inj hm hv] at a1 a2
  constructor
  · unfold o_drops
    dsimp only
    rw [z1_s, hz, a1]
  · intro k a hk
    rw [a2 k a hk]
    unfold o_drops
    dsimp only
    rw [mset_s, hz]
theorem q_sgo_er {I : Nat → Nat → Int32} {l : List Nat} {sg : Nat} {v w : Int32} (inj : ∀ a b, a ∈ l → b ∈ l → I 50 a = I 50 b → a = b) (hv : I 50 sg = v) (hw : ¬ w = v) : q_sgo I (l.erase sg) w = q_sgo I l w := by
  unfold q_sgo
  split
  · rfl
  · cases hf : l.find? (fun b => decide (I 50 b = w)) with
    | some a =>
      have e : I 50 a = w := of_decide_eq_true (List.find?_some (p := fun b => decide (I 50 b = w)) hf)
      have hne : a ≠ sg := fun z => hw (by rw [← e, z]; exact hv)
      exact lg_fd (g := I 50) (fun b c hb hc => inj b c (List.mem_of_mem_erase hb) (List.mem_of_mem_erase hc)) ((List.mem_erase_of_ne hne).mpr (List.mem_of_find?_eq_some hf)) e
    | none => exact List.find?_eq_none.mpr (fun b hb => List.find?_eq_none.mp hf b (List.mem_of_mem_erase hb))
section
variable {K K2 : Nat → Nat} {I I2 : Nat → Nat → Int32} {R R2 : Nat → Nat → Option Nat} {N N2 : Nat → Nat} {A : Nat → Nat → Int32} {L L2 : Nat → List Nat} {T : Nat → List Int32} {x : Nat} {cd : Nat → Nat} {Z Z2 : mZ} {M M2 : mM}
theorem q_isop (h : c_sim K I R N A L T x cd Z M) {sg : Nat} {v : Int32} (hfd : (L (cd 10)).find? (fun a => decide (I 50 a = v)) = some sg) : some sg = R 61 (cd 4) ↔ v = Z 5 := by
  have e50 : I 50 sg = v := of_decide_eq_true (List.find?_some (p := fun a => decide (I 50 a = v)) hfd)
  have hm := List.mem_of_find?_eq_some hfd
  constructor
  · intro e
    have h2 := (q_opn h e.symm).2
    rw [← e50]
    exact of_decide_eq_true (List.find?_some (p := fun a => decide (I 50 a = Z 5)) h2)
  · intro e
    rw [h.2.2.2.2.1.2.2.2.2.2.2.2.1]
    unfold q_sgo
    rw [if_neg (by rw [← e, ← e50]; exact q_num h hm), ← e]
    exact hfd.symm
theorem q_lost (h : c_sim K I R N A L T x cd Z M) : (L (cd 1)).countP (c_lost I R) = o_lost Z M := by
  have hz : zn Z 1 = (L (cd 1)).length := zn_of h.2.2.1.1 (by have := h.2.2.1.2.1; omega)
  rw [← cnt_list]
  unfold o_lost
  rw [hz]
  refine cntB_congr (fun j hj => ?_)
  have hb : (L (cd 1))[j]? = some ((L (cd 1)).getD j 0) := by
    rw [List.getD_eq_getElem?_getD, List.getElem?_eq_getElem hj]
    rfl
  unfold c_lost
  rw [(h.2.2.1.2.2 j _ hb).2.2.2.2.2.1]
  have h1 := q_som h hb
  congr 1
  cases hr : R 15 ((L (cd 1)).getD j 0) with
  | none => rw [hr] at h1; simp only [Option.isSome_none] at h1; rw [Option.isNone_none]; cases hd : decide (M 14 j = -1) with
    | true => rfl
    | false => rw [hd] at h1; exact absurd h1 (by decide)
  | some b => rw [hr] at h1; simp only [Option.isSome_some] at h1; rw [Option.isNone_some]; cases hd : decide (M 14 j = -1) with
    | false => rfl
    | true => rw [hd] at h1; exact absurd h1 (by decide)
theorem er_fold : ∀ (m l : List Nat), l.Nodup → (m.foldl List.erase l).Sublist l ∧ ∀ b, b ∈ m.foldl List.erase l ↔ (b ∈ l ∧ b ∉ m)
  | [], l, _ => ⟨List.Sublist.refl _, fun b => ⟨fun h => ⟨h, List.not_mem_nil⟩, fun h => h.1⟩⟩
  | a :: m, l, hn => by
    obtain ⟨h1, h2⟩ := er_fold m (l.erase a) (hn.erase a)
    refine ⟨h1.trans List.erase_sublist, fun b => ?_⟩
    show b ∈ m.foldl List.erase (l.erase a) ↔ _
    rw [h2, hn.mem_erase_iff, List.mem_cons]
    constructor
    · rintro ⟨⟨g1, g2⟩, g3⟩
      exact ⟨g2, fun z => z.elim g1 g3⟩
    · rintro ⟨g1, g2⟩
      exact ⟨⟨fun z => g2 (Or.inl z), g1⟩, fun z => g2 (Or.inr z)⟩
theorem q_storm {sg fl : Nat} {v : Int32} (hs : c_sim K I R N A L T x cd Z M) (hfd : (L (cd 10)).find? (fun a => decide (I 50 a = v)) = some sg) (hno : ¬ v = Z 5) (hfl : R 51 sg = some fl) (eI : ∀ f b, f ≠ 110 → I2 f b = I f b) (eL : L2 = m_up (m_up L (cd 10) ((L (cd 10)).erase sg)) (cd 9) ((L fl).foldl List.erase (L (cd 9)))) (eR : ∀ f b, f ≠ 15 → R2 f b = R f b) (e15 : ∀ b, b ∈ L fl → R2 15 b = none) (e15n : ∀ b, b ∉ L fl → R2 15 b = R 15 b) (hcap : m_cap R2 N (cd 8) ≤ 1000) : c_sim K I2 R2 N A L2 T x cd (p_storm (Z, M) v).1 (p_storm (Z, M) v).2 := by
  have hnd := q_log_nd hs
  have hok := hs.1
  have hf := hs.2.2.1
  have e50 : I 50 sg = v := of_decide_eq_true (List.find?_some (p := fun a => decide (I 50 a = v)) hfd)
  have hm := List.mem_of_find?_eq_some hfd
  have hz1 : zn Z 1 = (L (cd 1)).length := zn_of hf.1 (by have := hf.2.1; omega)
  have hin : ∀ f b, (L (cd 1))[f]? = some b → (R 15 b = some sg ↔ M 14 f = v) := fun f b hb => q_in hs hb hfd
  obtain ⟨a1, a2, a3, a4, a5, a6, a7, a8, a9, a10⟩ := hs.2.2.2.2.1
  obtain ⟨k9, -, -, fl9, hfl9, hkf, hrf, hncd, hpm⟩ := q_el a3 sg hm
  obtain rfl : fl = fl9 := Option.some.inj (hfl.symm.trans hfl9)
  obtain ⟨d1, d2⟩ := o_drops_l (h := I 50) a1 a2 (fun k a hk => (a3 k a hk).2.1) a6 a5 hm e50
  have hL10 : L2 (cd 10) = (L (cd 10)).erase sg := by rw [eL, m_up_ne _ _ (Ne.symm hok.2.2.2.2.2.2.2.2.2.2.2.2.2.2.2.2.2.2.2.2.2.2.2.2.2.2.2.2.2.2.2.2.2.2.2.2.2.2.2.2.2.2.2.2.2.2.2.2.2.2.2.2.2.2.2.2), m_up_self]
  have hL9 : L2 (cd 9) = (L fl).foldl List.erase (L (cd 9)) := by rw [eL, m_up_self]
  have hLn : ∀ b, b ≠ cd 10 → b ≠ cd 9 → L2 b = L b := fun b hb h9 => by rw [eL, m_up_ne _ _ h9, m_up_ne _ _ hb]
  have hnd9 : (L (cd 9)).Nodup := hs.2.2.2.1.1.nodup_iff.mpr (hnd.sublist List.filter_sublist)
  obtain ⟨hsu, hme⟩ := er_fold (L fl) (L (cd 9)) hnd9
  have hrow : q_row I2 R2 L2 cd := q_row_out hs.2.2.2.1 hnd (fun a _ f hf => eI f a (fun z => absurd hf (by rw [z]; decide))) (hLn _ hok.2.2.2.2.2.2.2.2.2.2.2.2.2.2.2.2.2.2.2.2.2.2.2.2.2.2.2.2.2.2.2.2.2.2.2.2.2.2.2.2.2.2.2.2.2.2.2.2.2.2.1 hok.2.2.2.2.2.2.2.2.2.2.2.2.2.2.2.2.2.2.2.2.2.2.2.2.2.2.2.2.2.2.2.2.2.2.2.2.2.2.2.2.2.2.2.2.2.2.2.2.2.1) (by rw [hL9]; exact hsu) (fun a ha => by
    rw [hL9, hme]
    have h9 := q_ps9 hs a ha
    rw [eI 16 a (by decide)]
    by_cases e : a ∈ L fl
    · rw [e15 a e]; exact ⟨fun z => absurd e z.2, fun z => absurd rfl z.1⟩
    · rw [e15n a e]; exact ⟨fun _ => h9, fun _ => ⟨ha, e⟩⟩) (fun a _ h1 h2 => by
    rw [eI 16 a (by decide)] at h2
    by_cases e : a ∈ L fl
    · rw [e15 a e] at h1; exact absurd rfl h1
    · rw [e15n a e] at h1; exact ⟨h1, h2⟩)
  have hc : c_chg K I R N K I2 R2 N (fun f b => f = 62 ∧ b = cd 4) (fun f b => f = 15 ∨ (f = 61 ∧ b = cd 4)) := fun b _ _ => ⟨rfl, rfl, fun f h1 _ => eI f b h1, fun f h1 h9 h => eR f b (fun z => h (Or.inl z)), fun h => by rw [eR 111 b (by decide)]; exact h⟩
  have hmem : ∀ b, b ∈ L2 (cd 10) → b ∈ L (cd 10) ∧ b ≠ sg := fun b hb => by
    rw [hL10] at hb
    exact ⟨List.mem_of_mem_erase hb, (a6.mem_erase_iff.mp hb).1⟩
  have hinf : ∀ b, b ∈ L (cd 1) → (b ∈ L fl ↔ R 15 b = some sg) := fun b hb => by
    rw [hpm.mem_iff, List.mem_filter, decide_eq_true_eq]
    exact ⟨fun z => z.2, fun z => ⟨hb, z⟩⟩
  have p1 : (p_storm (Z, M) v).1 = (o_drops (Z, M) v).1 := rfl
  have p14 : ∀ f, f < (L (cd 1)).length → (p_storm (Z, M) v).2 14 f = if M 14 f = v then -1 else M 14 f := fun f h => by
    unfold p_storm
    dsimp only
    rw [mset_s, hz1]
    exact if_pos h
  have p17 : (p_storm (Z, M) v).2 17 = (o_drops (Z, M) v).2 17 := by
    show mset (o_drops (Z, M) v).2 14 (fmp (M 14) (fun _ x => if x = v then -1 else x) (zn Z 1)) 17 = _
    exact mset_n _ _ (by decide)
  have hin50 : I2 50 = I 50 := funext (fun b => eI 50 b (by decide))
  have hsgo : ∀ l w, q_sgo I2 l w = q_sgo I l w := fun l w => by unfold q_sgo; rw [hin50]
  refine q_segs hs hc (hLn _ hok.2.2.2.2.2.2.2.2.2.2.2.2.2.2.2.2.2.2.2.2.2.2.2.2.2.2.2.2.2.2.2.2.2.2.2.2.2.2.2.2.2.2.2.2.2.2.1 hok.2.2.2.2.2.2.2.2.2.2.2.2.2.2.2.2.2.2.2.2.2.2.2.2.2.2.2.2.2.2.2.2.2.2.2.2.2.2.2.2.2.2.2.2.2.1) (hLn _ hok.2.2.2.2.2.2.2.2.2.2.2.2.2.2.2.2.2.2.2.2.2.2.2.2.2.2.2.2.2.2.2.2.2.2.2.2.2.2.2.2.2.2.2.2.2.2.2.2.2.2.1 hok.2.2.2.2.2.2.2.2.2.2.2.2.2.2.2.2.2.2.2.2.2.2.2.2.2.2.2.2.2.2.2.2.2.2.2.2.2.2.2.2.2.2.2.2.2.2.2.2.2.1) (hLn _ hok.2.2.2.2.2.2.2.2.2.2.2.2.2.2.2.2.2.2.2.2.2.2.2.2.2.2.2.2.2.2.2.2.2.2.2.2.2.2.2.2.2.2.2.2.2.2.2.2.2.2.2.2.2.1 hok.2.2.2.2.2.2.2.2.2.2.2.2.2.2.2.2.2.2.2.2.2.2.2.2.2.2.2.2.2.2.2.2.2.2.2.2.2.2.2.2.2.2.2.2.2.2.2.2.2.2.2.2.1) hrow ⟨?_, ?_, fun k b hb => ?_, fun b c hb hc9 h => ?_, fun b c hb hc9 h => ?_, ?_, ?_, ?_, ?_, ?_⟩ (fun f a ha => ?_) (fun j h _ _ => o_drops_n _ _ h) (fun j h h7 => by show mset (o_drops (Z, M) v).2 14 (fmp (M 14) (fun _ x => if x = v then -1 else x) (zn Z 1)) j = _; rw [mset_n _ _ h, o_drops_m _ _ h7]) hcap
  · rw [hL10, p1]; exact d1
  · rw [hL10]; exact Nat.le_trans List.length_erase_le a2
  · have hb2 := hmem b (List.mem_of_getElem? hb)
    rw [hL10] at hb
    obtain ⟨k8, b1, b2, f2, b3, b4, b5, b6, b7⟩ := q_el a3 b hb2.1
    refine ⟨b1, by rw [hin50, p17]; exact d2 k b hb, f2, (eR 51 b (by decide)).trans b3, b4, by rw [eR 111 f2 (by decide)]; exact b5, b6, ?_⟩
    rw [hLn f2 (b6 10 (by decide)) (b6 9 (by decide)), hLn _ hok.2.2.2.2.2.2.2.2.2.2.2.2.2.2.2.2.2.2.2.2.2.2.2.2.2.2.2.2.2.2.2.2.2.2.2.2.2.2.2.2.2.2.2.2.2.2.2.2.2.2.1 hok.2.2.2.2.2.2.2.2.2.2.2.2.2.2.2.2.2.2.2.2.2.2.2.2.2.2.2.2.2.2.2.2.2.2.2.2.2.2.2.2.2.2.2.2.2.2.2.2.2.1]
    refine b7.trans (List.Perm.of_eq (List.filter_congr (fun c hcm => ?_)))
    by_cases e : c ∈ L fl
    · rw [e15 c e, (hinf c hcm).mp e]
      exact decide_eq_decide.mpr ⟨fun z => absurd (Option.some.inj z).symm hb2.2, fun z => absurd z (by simp)⟩
    · rw [e15n c e]
  · rw [eR 51 b (by decide), eR 51 c (by decide)] at h
    exact a4 b c (hmem b hb).1 (hmem c hc9).1 h
  · rw [hin50] at h
    exact a5 b c (hmem b hb).1 (hmem c hc9).1 h
  · rw [hL10]; exact a6.erase _
  · rw [eI 62 _ (by decide), p1, o_drops_n _ _ (by decide)]; exact a7
  · rw [eR 61 _ (by decide), hL10, hsgo, p1, o_drops_n _ _ (by decide), q_sgo_er a5 e50 (Ne.symm hno)]; exact a8
  · rw [eR 61 _ (by decide), p1, o_drops_n _ _ (by decide)]; exact a9
  · rw [p1, o_drops_n _ _ (by decide)]
    obtain ⟨m, c1, c2, c3⟩ := a10
    exact ⟨m, c1, c2, fun b hb => by rw [hin50]; exact c3 b (hmem b hb).1⟩
  · have hfn := (List.getElem?_eq_some_iff.mp ha).1
    rw [p14 f hfn, hL10, hsgo]
    have hma := List.mem_of_getElem? ha
    by_cases e : M 14 f = v
    · rw [if_pos e, e15 a ((hinf a hma).mpr ((hin f a ha).mpr e))]
      exact ⟨rfl, Or.inl rfl⟩
    · rw [if_neg e, e15n a (fun z => e ((hin f a ha).mp ((hinf a hma).mp z))), q_sgo_er a5 e50 e]
      exact ⟨(hf.2.2 f a ha).2.2.2.2.2.2.2.2.1, (hf.2.2 f a ha).2.2.2.2.2.2.2.2.2.1⟩
theorem q_merge {one other sg fl : Nat} {v w : Int32} (hs : c_sim K I R N A L T x cd Z M) (hvw : ¬ v = w) (hfv : (L (cd 10)).find? (fun a => decide (I 50 a = v)) = some one) (hfw : (L (cd 10)).find? (fun a => decide (I 50 a = w)) = some other) (hnv : ¬ v = Z 5) (hnw : ¬ w = Z 5) (h4 : ∃ m, Z 4 = nI m ∧ m + 1 < 2 ^ 30)
    (hzs : K sg = 0) (hzf : K fl = 0) (hc : c_chg K I R N K2 I2 R2 N2 (fun f b => f = 62 ∧ b = cd 4) (fun f _ => f = 15)) (ks : K2 sg = 5) (kf : K2 fl = 11) (e51 : R2 51 sg = some fl) (e111 : R2 111 fl ≠ none) (e50 : I2 50 sg = I 62 (cd 4)) (e62 : I2 62 (cd 4) = I 62 (cd 4) + 1) (e15 : ∀ a, a ∈ L (cd 1) → R2 15 a = if (fun a => decide (R 15 a = some one) || decide (R 15 a = some other)) a = true then some sg else R 15 a)
    (eL : L2 = m_up (m_up L (cd 10) (((L (cd 10)).erase one).erase other ++ [sg])) fl ((L (cd 1)).filter (fun a => decide (R 15 a = some one) || decide (R 15 a = some other)))) (hcap : m_cap R2 N2 (cd 8) ≤ 1000) : c_sim K2 I2 R2 N2 A L2 T x cd (p_merge (Z, M) v w).1 (p_merge (Z, M) v w).2 := by
  have hnd := q_log_nd hs
  have hok := hs.1
  have hel1 := q_el1 hs
  have hel5 := q_el5 hs
  have hf := hs.2.2.1
  have i50 : I 50 one = v := of_decide_eq_true (List.find?_some (p := fun a => decide (I 50 a = v)) hfv)
  have j50 : I 50 other = w := of_decide_eq_true (List.find?_some (p := fun a => decide (I 50 a = w)) hfw)
  have hm1 := List.mem_of_find?_eq_some hfv
  have hm2 := List.mem_of_find?_eq_some hfw
  have hne : other ≠ one := fun z => hvw (by rw [← i50, ← j50, z])
  have hz1 : zn Z 1 = (L (cd 1)).length := zn_of hf.1 (by have := hf.2.1; omega)
  have hinv : ∀ f b, (L (cd 1))[f]? = some b → (R 15 b = some one ↔ M 14 f = v) := fun f b hb => q_in hs hb hfv
  have hinw : ∀ f b, (L (cd 1))[f]? = some b → (R 15 b = some other ↔ M 14 f = w) := fun f b hb => q_in hs hb hfw
  have hop1 : ∀ y, v = y ∨ w = y → (o_seg Z M y = true) := fun y hy => (q_seg hs y).mpr (hy.elim (fun z => ⟨one, by rw [← z]; exact hfv⟩) (fun z => ⟨other, by rw [← z]; exact hfw⟩))
  have hseg := hs.2.2.2.2.1
  obtain ⟨a1, a2, a3, a4, a5, a6, a7, a8, a9, a10⟩ := hseg
  obtain ⟨d1, d2⟩ := o_drops_l (h := I 50) a1 a2 (fun k a hk => (a3 k a hk).2.1) a6 a5 hm1 i50
  have a6' := a6.erase one
  have a5' : ∀ a b, a ∈ (L (cd 10)).erase one → b ∈ (L (cd 10)).erase one → I 50 a = I 50 b → a = b := fun a b ha hb => a5 a b (List.mem_of_mem_erase ha) (List.mem_of_mem_erase hb)
  have hm2' : other ∈ (L (cd 10)).erase one := (List.mem_erase_of_ne hne).mpr hm2
  have l1 : ((L (cd 10)).erase one).length ≤ 20 := Nat.le_trans List.length_erase_le a2
  obtain ⟨D, eD⟩ : ∃ z, z = o_drops (Z, M) v := ⟨_, rfl⟩
  rw [← eD] at d1 d2
  obtain ⟨g1, g2⟩ := o_drops_l (Z := D.1) (M := D.2) (h := I 50) d1 l1 d2 a6' a5' hm2' j50
  obtain ⟨D2, eD2⟩ : ∃ z, z = o_drops (D.1, D.2) w := ⟨_, rfl⟩
  rw [← eD2] at g1 g2
  generalize hE : ((L (cd 10)).erase one).erase other = E at *
  have l2 : E.length ≤ 18 := by
    rw [← hE, List.length_erase_of_mem hm2', List.length_erase_of_mem hm1]
    have := a2
    omega
  have nE : E.Nodup := by rw [← hE]; exact a6'.erase _
  have mE : ∀ b, b ∈ E → b ∈ L (cd 10) ∧ b ≠ one ∧ b ≠ other := fun b hb => by
    rw [← hE] at hb
    have q1 := a6'.mem_erase_iff.mp hb
    have q2 := a6.mem_erase_iff.mp q1.2
    exact ⟨q2.2, q2.1, q1.1⟩
  have hz3 : zn D2.1 3 = E.length := zn_of g1 (by omega)
  have dz : ∀ j, j ≠ 3 → D2.1 j = Z j := fun j h => by rw [eD2, o_drops_n _ _ h, eD, o_drops_n _ _ h]
  have dm : ∀ j, j ≠ 17 → D2.2 j = M j := fun j h => by rw [eD2, o_drops_m _ _ h, eD, o_drops_m _ _ h]
  have ep : p_merge (Z, M) v w = ((o_opens D2).1, mset (o_opens D2).2 14 (fmp (M 14) (fun _ x => if x = v then D2.1 4 else if x = w then D2.1 4 else x) (zn Z 1))) := by
    have hw9 : o_wrong Z M v w = false := by
      unfold o_wrong
      rw [hop1 v (Or.inl rfl), hop1 w (Or.inr rfl), decide_eq_false hnv, decide_eq_false hnw]
      rfl
    unfold p_merge
    rw [if_neg hvw]
    dsimp only
    rw [hw9, ← eD]
    have : o_drops D w = D2 := eD2.symm
    rw [this]
    rfl
  rw [ep]
  dsimp only
  have hd4 : D2.1 4 = Z 4 := dz 4 (by decide)
  rw [hd4, hz1]
  obtain ⟨m, m1', m2, m3⟩ := a10
  obtain ⟨m9, m4, m5⟩ := h4
  obtain rfl : m = m9 := (nI_eq (by omega) (by omega)).mp (m1'.symm.trans m4)
  have n50 : ∀ b, b ∈ L (cd 10) → ¬ I 50 b = Z 4 := fun b hb => by
    obtain ⟨v, v1, v2⟩ := m3 b hb
    rw [v2, m4]
    exact fun z => absurd ((nI_eq (by omega) (by omega)).mp z) (by omega)
  have hz4 : ¬ Z 4 = -1 := by rw [m4]; exact nI_nm1 (by omega)
  have h14n : ∀ g b, (L (cd 1))[g]? = some b → ¬ M 14 g = Z 4 := fun g b hb z => by
    have q := hf.2.2 g _ hb
    have q1 := q.2.2.2.2.2.2.2.2.1
    have q2 := q.2.2.2.2.2.2.2.2.2.1
    rw [z] at q1 q2
    rcases q2 with q2 | q2
    · exact hz4 q2
    · rw [q1] at q2
      unfold q_sgo at q2
      rw [if_neg hz4] at q2
      obtain ⟨b, hb⟩ := Option.ne_none_iff_exists'.mp q2
      exact n50 b (List.mem_of_find?_eq_some hb) (of_decide_eq_true (List.find?_some (p := fun b => decide (I 50 b = Z 4)) hb))
  have hsgn : sg ∉ L (cd 10) := fun z => by have := hel5 sg z; rw [hzs] at this; exact absurd this (by decide)
  have hfcd : ∀ i, i < 11 → fl ≠ cd i := fun i hi z => by
    have hall : ∀ j, j < 11 → K (cd j) = [11, 11, 2, 8, 6, 11, 4, 12, 11, 11, 11].getD j 0 := fun j hj => by
      match j, hj with
      | 0, _ => exact hok.2.2.2.2.2.2.2.2.2.2.1
      | 1, _ => exact hok.2.2.2.2.2.2.2.2.2.2.2.1
      | 2, _ => exact hok.2.2.2.2.2.2.2.2.2.2.2.2.1
      | 3, _ => exact hok.2.2.2.2.2.2.2.2.2.2.2.2.2.1
      | 4, _ => exact hok.2.2.2.2.2.2.2.2.2.2.2.2.2.2.1
      | 5, _ => exact hok.2.2.2.2.2.2.2.2.2.2.2.2.2.2.2.1
      | 6, _ => exact hok.2.2.2.2.2.2.2.2.2.2.2.2.2.2.2.2.1
      | 7, _ => exact hok.2.2.2.2.2.2.2.2.2.2.2.2.2.2.2.2.2.1
      | 8, _ => exact hok.2.2.2.2.2.2.2.2.2.2.2.2.2.2.2.2.2.2.1
      | 9, _ => exact hok.2.2.2.2.2.2.2.2.2.2.2.2.2.2.2.2.2.2.2.1
      | 10, _ => exact hok.2.2.2.2.2.2.2.2.2.2.2.2.2.2.2.2.2.2.2.2.1
      | n + 11, h => exact absurd h (by omega)
    have h := hall i hi
    rw [← z, hzf] at h
    revert h
    clear z
    revert i
    decide
  have hL10 : L2 (cd 10) = E ++ [sg] := by rw [eL, m_up_ne _ _ (Ne.symm (hfcd 10 (by decide))), m_up_self]
  have hLn : ∀ b, b ≠ fl → b ≠ cd 10 → L2 b = L b := fun b h1 h2 => by rw [eL, m_up_ne _ _ h1, m_up_ne _ _ h2]
  have hLf : L2 fl = (L (cd 1)).filter (fun a => decide (R 15 a = some one) || decide (R 15 a = some other)) := by rw [eL, m_up_self]
  have q50 : ∀ b, b ∈ L (cd 10) → I2 50 b = I 50 b := fun b hb => (hc b (by rw [hel5 b hb]; decide) (by rw [hel5 b hb]; decide)).2.2.1 50 (by decide) (fun z => absurd z.1 (by decide))
  have q51 : ∀ b, b ∈ L (cd 10) → R2 51 b = R 51 b := fun b hb => (hc b (by rw [hel5 b hb]; decide) (by rw [hel5 b hb]; decide)).2.2.2.1 51 (by decide) (by decide) (fun z => absurd (show (51 : Nat) = 15 from z) (by decide))
  have k4 := hok.2.2.2.2.2.2.2.2.2.2.2.2.2.2.1
  have q61 : R2 61 (cd 4) = R 61 (cd 4) := (hc _ (by rw [k4]; decide) (by rw [k4]; decide)).2.2.2.1 61 (by decide) (by decide) (fun z => absurd (show (61 : Nat) = 15 from z) (by decide))
  have h50s : I2 50 sg = Z 4 := e50.trans a7
  have in10 : ∀ b, b ∈ L2 (cd 10) → b ∈ E ∨ b = sg := fun b hb => by rw [hL10] at hb; exact (List.mem_append.mp hb).imp id List.mem_singleton.mp
  have hl1 : L2 (cd 1) = L (cd 1) := hLn _ (Ne.symm (hfcd 1 (by decide))) hok.2.2.2.2.2.2.2.2.2.2.2.2.2.2.2.2.2.2.2.2.2.2.2.2.2.2.2.2.2.2.2.2.2.2.2.2.2.2.2.2.2.2.2.2.2.2.2.2.2.2.1
  have inj2 : ∀ b c, b ∈ L2 (cd 10) → c ∈ L2 (cd 10) → I2 50 b = I2 50 c → b = c := fun b c hb hcm h => by
    rcases in10 b hb with hb | hb <;> rcases in10 c hcm with hcm | hcm
    · exact a5 b c (mE b hb).1 (mE c hcm).1 (by rw [← q50 b (mE b hb).1, ← q50 c (mE c hcm).1]; exact h)
    · rw [q50 b (mE b hb).1, hcm, h50s] at h; exact absurd h (n50 b (mE b hb).1)
    · rw [q50 c (mE c hcm).1, hb, h50s] at h; exact absurd h.symm (n50 c (mE c hcm).1)
    · rw [hb, hcm]
  have hms : sg ∈ L2 (cd 10) := by rw [hL10]; exact List.mem_append.mpr (Or.inr (List.mem_singleton.mpr rfl))
  have fds : q_sgo I2 (L2 (cd 10)) (Z 4) = some sg := by
    unfold q_sgo
    rw [if_neg hz4]
    exact lg_fd inj2 hms h50s
  have fdo : ∀ y, ¬ y = Z 4 → ¬ y = v → ¬ y = w → q_sgo I2 (L2 (cd 10)) y = q_sgo I (L (cd 10)) y := fun y hy hyv hyw => by
    rw [← q_sgo_er a5 i50 hyv, ← q_sgo_er a5' j50 hyw, hE, hL10, ← q_sgo_t (l9 := E) (fun b hb => q50 b (mE b hb).1) y]
    unfold q_sgo
    split
    · rfl
    · rw [List.find?_append]
      have hz : [sg].find? (fun b => decide (I2 50 b = y)) = none := List.find?_eq_none.mpr (fun b hb => by rw [List.mem_singleton.mp hb, h50s, decide_eq_true_eq]; exact Ne.symm hy)
      rw [hz, Option.or_none]
  have r15 : ∀ a, a ∈ L (cd 1) → (R 15 a = some one ∨ R 15 a = some other → R2 15 a = some sg) ∧ (¬ (R 15 a = some one ∨ R 15 a = some other) → R2 15 a = R 15 a) := fun a ha => by
    rw [e15 a ha]
    have hp : (fun a => decide (R 15 a = some one) || decide (R 15 a = some other)) a = true ↔ (R 15 a = some one ∨ R 15 a = some other) := by simp
    exact ⟨fun h => if_pos (hp.mpr h), fun h => if_neg (fun z => h (hp.mp z))⟩
  refine q_segs hs (c_chg_mono hc (fun _ _ z => z) (fun g b z => Or.inl z)) (hLn _ (Ne.symm (hfcd 0 (by decide))) hok.2.2.2.2.2.2.2.2.2.2.2.2.2.2.2.2.2.2.2.2.2.2.2.2.2.2.2.2.2.2.2.2.2.2.2.2.2.2.2.2.2.2.2.2.2.2.1) hl1 (hLn _ (Ne.symm (hfcd 5 (by decide))) hok.2.2.2.2.2.2.2.2.2.2.2.2.2.2.2.2.2.2.2.2.2.2.2.2.2.2.2.2.2.2.2.2.2.2.2.2.2.2.2.2.2.2.2.2.2.2.2.2.2.2.2.2.2.1) (q_row_s hs.2.2.2.1 (fun a ha => q_fI hc (hel1 a ha) (by decide) (by decide) (fs := [10, 12, 13, 16]) (fun f z => by rw [z.1]; decide) (by decide)) (fun a ha => by
    by_cases e2 : R 15 a = some one ∨ R 15 a = some other
    · rw [(r15 a ha).1 e2]; rcases e2 with e2 | e2 <;> rw [e2] <;> rfl
    · rw [(r15 a ha).2 e2]) hl1 (hLn _ (Ne.symm (hfcd 9 (by decide))) hok.2.2.2.2.2.2.2.2.2.2.2.2.2.2.2.2.2.2.2.2.2.2.2.2.2.2.2.2.2.2.2.2.2.2.2.2.2.2.2.2.2.2.2.2.2.2.2.2.2.2.2.2.2.2.2.2)) ⟨?_, ?_, fun k b hb => ?_, fun b c hb hcm h => ?_, inj2, ?_, ?_, ?_, ?_, ?_⟩ (fun g b hb => ?_) (fun j h3 h4 h5 => by rw [o_opens_n _ h3 h4]; exact dz j h3) (fun j h h7 => by rw [mset_n _ _ h, o_opens_m _ h7]; exact dm j h7) hcap
  · rw [hL10, List.length_append, List.length_singleton]
    show z1 (z1 D2.1 3 (D2.1 3 + 1)) 4 (D2.1 4 + 1) 3 = _
    rw [z1_n _ _ (by decide), z1_s, g1, nI_1]
  · rw [hL10, List.length_append, List.length_singleton]; omega
  · have h17 : ∀ k, (mset (o_opens D2).2 14 (fmp (M 14) (fun _ x => if x = v then Z 4 else if x = w then Z 4 else x) (L (cd 1)).length)) 17 k = if k = E.length then Z 4 else D2.2 17 k := fun k => by
      rw [mset_n _ _ (by decide)]
      show m1 D2.2 17 (zn D2.1 3) (D2.1 4) 17 k = _
      rw [m1_at, hz3, hd4]
    rw [hL10] at hb
    rcases lg_app hb with ⟨h1, h2⟩ | ⟨h1, h2⟩
    · have hmb := mE b (List.mem_of_getElem? h2)
      obtain ⟨k8, b1, b2, f2, b3, b4, b5, b6, b7⟩ := q_el a3 b hmb.1
      have hne : f2 ≠ fl := fun z => by rw [z, hzf] at b4; exact absurd b4 (by decide)
      refine ⟨c_kk hc b1 (by decide) (by decide), by rw [q50 b hmb.1, h17, if_neg (by omega)]; exact g2 k b h2, f2, (q51 b hmb.1).trans b3, c_kk hc b4 (by decide) (by decide), (hc f2 (by rw [b4]; decide) (by rw [b4]; decide)).2.2.2.2 b5, b6, ?_⟩
      rw [hl1, hLn f2 hne (b6 10 (by decide))]
      refine b7.trans (List.Perm.of_eq (List.filter_congr (fun c hcm => ?_)))
      by_cases e2 : R 15 c = some one ∨ R 15 c = some other
      · rw [(r15 c hcm).1 e2]
        refine decide_eq_decide.mpr ⟨fun z => ?_, fun z => absurd hmb.1 (by rw [← Option.some.inj z]; exact hsgn)⟩
        rw [z] at e2
        exact e2.elim (fun y => absurd (Option.some.inj y) hmb.2.1) (fun y => absurd (Option.some.inj y) hmb.2.2)
      · rw [(r15 c hcm).2 e2]
    · rw [h1, h2]
      refine ⟨ks, by rw [h50s, h17, if_pos rfl], fl, e51, kf, e111, hfcd, ?_⟩
      rw [hLf, hl1]
      refine List.Perm.of_eq (List.filter_congr (fun c hcm => ?_))
      by_cases e2 : R 15 c = some one ∨ R 15 c = some other
      · rw [(r15 c hcm).1 e2]
        rcases e2 with e2 | e2 <;> simp [e2]
      · rw [(r15 c hcm).2 e2]
        have n1 : ¬ R 15 c = some one := fun z => e2 (Or.inl z)
        have n2 : ¬ R 15 c = some other := fun z => e2 (Or.inr z)
        have n3 : ¬ R 15 c = some sg := fun z => hsgn (q_seg_in hs hcm z)
        simp [n1, n2, n3]
  · have old : ∀ b, b ∈ E → R2 51 b ≠ some fl := fun b hb z => by
      obtain ⟨k9, -, -, f2, b3, b4, -⟩ := q_el a3 b (mE b hb).1
      rw [q51 b (mE b hb).1, b3] at z
      rw [Option.some.inj z, hzf] at b4
      exact absurd b4 (by decide)
    rcases in10 b hb with hb | hb <;> rcases in10 c hcm with hcm | hcm
    · exact a4 b c (mE b hb).1 (mE c hcm).1 (by rw [← q51 b (mE b hb).1, ← q51 c (mE c hcm).1]; exact h)
    · rw [hcm, e51] at h; exact absurd h (old b hb)
    · rw [hb, e51] at h; exact absurd h.symm (old c hcm)
    · rw [hb, hcm]
  · rw [hL10]; exact lg_nda nE (fun z => hsgn (mE sg z).1)
  · show _ = z1 (z1 D2.1 3 (D2.1 3 + 1)) 4 (D2.1 4 + 1) 4
    rw [z1_s, hd4, e62, a7]
  · rw [q61, o_opens_n _ (by decide) (by decide), dz 5 (by decide)]
    by_cases e : Z 5 = -1
    · rw [a8, e]; rfl
    · rw [fdo _ (fun z => ?_) (Ne.symm hnv) (Ne.symm hnw)]
      · exact a8
      · have q2 := a9.resolve_left e
        rw [a8, z] at q2
        unfold q_sgo at q2
        rw [if_neg hz4] at q2
        obtain ⟨b, hb⟩ := Option.ne_none_iff_exists'.mp q2
        exact n50 b (List.mem_of_find?_eq_some hb) (of_decide_eq_true (List.find?_some (p := fun b => decide (I 50 b = Z 4)) hb))
  · rw [q61, o_opens_n _ (by decide) (by decide), dz 5 (by decide)]; exact a9
  · refine ⟨m + 1, ?_, m5, fun b hb => ?_⟩
    · show z1 (z1 D2.1 3 (D2.1 3 + 1)) 4 (D2.1 4 + 1) 4 = _
      rw [z1_s, hd4, m4, nI_1]
    · rcases in10 b hb with hb | hb
      · obtain ⟨v, v1, v2⟩ := m3 b (mE b hb).1
        exact ⟨v, by omega, by rw [q50 b (mE b hb).1]; exact v2⟩
      · exact ⟨m, by omega, by rw [hb, h50s]; exact m4⟩
  · have hfn := (List.getElem?_eq_some_iff.mp hb).1
    have hma := List.mem_of_getElem? hb
    rw [mset_s]
    have e14 : fmp (M 14) (fun _ x => if x = v then Z 4 else if x = w then Z 4 else x) (L (cd 1)).length g = if M 14 g = v then Z 4 else if M 14 g = w then Z 4 else M 14 g := if_pos hfn
    rw [e14]
    by_cases e2 : R 15 b = some one ∨ R 15 b = some other
    · have e3 : (if M 14 g = v then Z 4 else if M 14 g = w then Z 4 else M 14 g) = Z 4 := by
        rcases e2 with e2 | e2
        · rw [if_pos ((hinv g b hb).mp e2)]
        · rw [(hinw g b hb).mp e2, if_neg (Ne.symm hvw), if_pos rfl]
      rw [e3, (r15 b hma).1 e2, fds]
      exact ⟨rfl, Or.inr (by simp)⟩
    · have n1 : ¬ M 14 g = v := fun z => e2 (Or.inl ((hinv g b hb).mpr z))
      have n2 : ¬ M 14 g = w := fun z => e2 (Or.inr ((hinw g b hb).mpr z))
      rw [if_neg n1, if_neg n2, (r15 b hma).2 e2, fdo _ (h14n g b hb) n1 n2]
      exact ⟨(hf.2.2 g b hb).2.2.2.2.2.2.2.2.1, (hf.2.2 g b hb).2.2.2.2.2.2.2.2.2.1⟩
end
