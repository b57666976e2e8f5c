/-! the reference: its arrays by their places among the fields; Z: its scalars, M: its arrays -/
def r_sl (j : Nat) : Bool := (decide (7 ≤ j) && decide (j ≤ 28)) || (decide (32 ≤ j) && decide (j ≤ 34))
def r_kd : Nat → Nat
  | 10 => 30
  | 16 => 30
  | 32 => 34
  | _ => 20
def r_ln (j : Nat) : Nat := if j ≤ 10 then 12 else if j ≤ 16 then 120 else if j = 17 then 24 else if j ≤ 22 then 5 else if j ≤ 24 then 20 else if j ≤ 28 then 4 else if j = 32 then 2 else 41
theorem r_kd_3 (j : Nat) : r_kd j = 20 ∨ r_kd j = 30 ∨ r_kd j = 34 := by
  unfold r_kd
  split <;> simp
theorem r_ln_le (j : Nat) : r_ln j ≤ 120 := by
  unfold r_ln
  repeat' split
  all_goals omega
def r_ok (K : Nat → Nat) (R : Nat → Nat → Option Nat) (N : Nat → Nat) (o : Nat) (ad : Nat → Nat) : Prop :=
  K o = 10 ∧ (∀ j, r_sl j = true → R (1000 + j) o = some (ad j) ∧ K (ad j) = r_kd j ∧ N (ad j) = r_ln j) ∧ (∀ i j, r_sl i = true → r_sl j = true → ad i = ad j → i = j)
theorem r_in {K : Nat → Nat} {R : Nat → Nat → Option Nat} {N : Nat → Nat} {o : Nat} {ad : Nat → Nat} (h : r_ok K R N o ad) (j : Nat) (hj : r_sl j = true) {i n : Nat} (hn : r_ln j = n) (hi : i < n) : vp_in (nI i) (N (ad j)) := by
  rw [(h.2.1 j hj).2.2, hn]
  have := r_ln_le j
  exact vp_in_nI hi (by omega)
abbrev mZ : Type := Nat → Int32
abbrev mM : Type := Nat → Nat → Int32
def z1 (Z : mZ) (j : Nat) (v : Int32) : mZ := fun i => if i = j then v else Z i
def m1 (M : mM) (j k : Nat) (v : Int32) : mM := fun i => if i = j then upd (M i) k v else M i
theorem z1_s (Z : mZ) (j : Nat) (v : Int32) : z1 Z j v j = v := if_pos rfl
theorem z1_n (Z : mZ) {i j : Nat} (v : Int32) (h : i ≠ j) : z1 Z j v i = Z i := if_neg h
theorem m1_s (M : mM) (j k : Nat) (v : Int32) : m1 M j k v j = upd (M j) k v := if_pos rfl
theorem m1_n (M : mM) {i j k : Nat} (v : Int32) (h : i ≠ j) : m1 M j k v i = M i := if_neg h
/-- the reference's scalars are Z (but 'thrown', which is th), its arrays M; nothing else has changed since I0, A0 -/
def r_st (K : Nat → Nat) (o : Nat) (ad : Nat → Nat) (I0 : Nat → Nat → Int32) (A0 : Nat → Nat → Int32) (I : Nat → Nat → Int32) (A : Nat → Nat → Int32) (Z : mZ) (M : mM) (th : Int32) : Prop :=
  (∀ j, j ≠ 6 → I (1000 + j) o = Z j) ∧ (∀ j, r_sl j = true → A (ad j) = M j) ∧ (∀ f b, K b ≠ 10 → I f b = I0 f b) ∧ (∀ b, K b ≠ 20 → K b ≠ 30 → K b ≠ 34 → A b = A0 b) ∧ I 1006 o = th
section
variable {K : Nat → Nat} {R : Nat → Nat → Option Nat} {N : Nat → Nat} {o : Nat} {ad : Nat → Nat} {I0 A0 I A I' A' : Nat → Nat → Int32} {Z Z' : mZ} {M M' : mM} {th th' : Int32}
theorem r_st_z (h : r_st K o ad I0 A0 I A Z M th) (j : Nat) (v : Int32) (ho : K o = 10) (hj : 1006 ≠ 1000 + j) : r_st K o ad I0 A0 (m_up2 I (1000 + j) o v) A (z1 Z j v) M th := by
  refine ⟨fun i h6 => ?_, h.2.1, fun f b hb => ?_, h.2.2.2.1, (m_up2_ni _ _ hj).trans h.2.2.2.2⟩
  · by_cases hi : i = j
    · subst hi; rw [m_up2_self, z1_s]
    · rw [m_up2_ni _ _ (by omega), z1_n _ _ hi]; exact h.1 i h6
  · rw [m_up2_ne _ _ (fun z => hb (by rw [z]; exact ho))]; exact h.2.2.1 f b hb
theorem r_st_t (h : r_st K o ad I0 A0 I A Z M th) (v : Int32) (ho : K o = 10) : r_st K o ad I0 A0 (m_up2 I 1006 o v) A Z M v := by
  refine ⟨fun i h6 => ?_, h.2.1, fun f b hb => ?_, h.2.2.2.1, m_up2_self _ _ _ _⟩
  · rw [m_up2_ni _ _ (by omega)]; exact h.1 i h6
  · rw [m_up2_ne _ _ (fun z => hb (by rw [z]; exact ho))]; exact h.2.2.1 f b hb
theorem r_st_m (h : r_st K o ad I0 A0 I A Z M th) (hro : r_ok K R N o ad) (j : Nat) (hj : r_sl j = true) (k : Nat) (v : Int32) : r_st K o ad I0 A0 I (m_up A (ad j) (upd (A (ad j)) k v)) Z (m1 M j k v) th := by
  refine ⟨h.1, fun i hi => ?_, h.2.2.1, fun b h1 h2 h3 => ?_, h.2.2.2.2⟩
  · by_cases hij : i = j
    · subst hij; rw [m_up_self, m1_s, h.2.1 i hi]
    · rw [m_up_ne _ _ (fun z => hij (hro.2.2 i j hi hj z)), m1_n _ _ hij]; exact h.2.1 i hi
  · rw [m_up_ne _ _ (fun z => ?_)]
    · exact h.2.2.2.1 b h1 h2 h3
    · have hk := (hro.2.1 j hj).2.1
      rw [← z] at hk
      rcases r_kd_3 j with q | q | q <;> rw [q] at hk
      · exact h1 hk
      · exact h2 hk
      · exact h3 hk
theorem r_st_self (h : r_st K o ad I0 A0 I A Z M th) : r_st K o ad I A I A Z M th := ⟨h.1, h.2.1, fun _ _ _ => rfl, fun _ _ _ _ => rfl, h.2.2.2.2⟩
theorem r_st_tr (h : r_st K o ad I0 A0 I A Z M th) (h' : r_st K o ad I A I' A' Z' M' th') : r_st K o ad I0 A0 I' A' Z' M' th' :=
  ⟨h'.1, h'.2.1, fun f b hb => (h'.2.2.1 f b hb).trans (h.2.2.1 f b hb), fun b h1 h2 h3 => (h'.2.2.2.1 b h1 h2 h3).trans (h.2.2.2.1 b h1 h2 h3), h'.2.2.2.2⟩
end
def b2i (b : Bool) : Int32 := if b then 1 else 0
theorem b2i_eq (b : Bool) : b2i b = 0 ↔ b = false := by cases b <;> decide
theorem b2i_ne (b : Bool) : ¬ b2i b = 0 ↔ b = true := by cases b <;> decide
theorem b2i_01 (b : Bool) : b2i b = 0 ∨ b2i b = 1 := by cases b <;> decide
theorem b2i_nar (b : Bool) : narrow .boolean (.int (b2i b)) = .int (b2i b) := by cases b <;> rfl
def cntB (p : Nat → Bool) : Nat → Nat
  | 0 => 0
  | n + 1 => cntB p n + (if p n then 1 else 0)
theorem cntB_le (p : Nat → Bool) : ∀ n, cntB p n ≤ n
  | 0 => Nat.le_refl _
  | n + 1 => by
    have := cntB_le p n
    show cntB p n + (if p n then 1 else 0) ≤ n + 1
    split <;> omega
theorem cntB_step {p : Nat → Bool} {i : Nat} {x : Int32} (hx : x = nI (cntB p i)) {b : Bool} (hb : p i = b) : x + b2i b = nI (cntB p (i + 1)) := by
  rw [hx]
  show _ = nI (cntB p i + if p i then 1 else 0)
  rw [hb]
  cases b
  · show nI (cntB p i) + 0 = nI (cntB p i + 0)
    simp
  · exact nI_1 _
theorem cntB_congr {p q : Nat → Bool} : ∀ {n : Nat}, (∀ k, k < n → p k = q k) → cntB p n = cntB q n
  | 0, _ => rfl
  | n + 1, h => by
    show cntB p n + _ = cntB q n + _
    rw [cntB_congr (fun k hk => h k (by omega)), h n (by omega)]
def zn (Z : mZ) (j : Nat) : Nat := (Z j).toNatClampNeg
def o_rng (v lo hi : Int32) : Bool := decide (lo ≤ v) && decide (v ≤ hi)
def o_isl (Z : mZ) (v : Int32) : Bool := o_rng v 0 (Z 0 - 1)
def o_shp (Z : mZ) (v : Int32) : Bool := o_rng v 0 (Z 2 - 1)
def o_fnd (Z : mZ) (v : Int32) : Bool := o_rng v 0 (Z 1 - 1)
def o_wrd (wd pl : Int32) : Bool := o_rng wd 0 30 && o_rng pl 0 40
def o_room (Z : mZ) : Bool := !decide (120 ≤ Z 1) && (!decide (Z 5 = -1) || !decide (20 ≤ Z 3))
def o_pst (M : mM) (f : Nat) (wd : Int32) : Bool := decide (M 11 f = wd) && (!decide (M 14 f = -1) && decide (M 16 f = 0))
def o_size (Z : mZ) (M : mM) (sg : Int32) : Nat := cntB (fun f => decide (M 14 f = sg)) (zn Z 1)
abbrev mS : Type := (Nat → Int32) × (Nat → Nat → Int32)
def o_opens (S : mS) : mS := (z1 (z1 S.1 3 (S.1 3 + 1)) 4 (S.1 4 + 1), m1 S.2 17 (zn S.1 3) (S.1 4))
def o_puts0 (S : mS) : mS := if S.1 5 = -1 then (z1 (o_opens S).1 5 (S.1 4), (o_opens S).2) else S
def o_puts1 (S : mS) (f : Nat) : mS := ((o_puts0 S).1, m1 (o_puts0 S).2 14 f ((o_puts0 S).1 5))
def o_puts (S : mS) (f : Nat) : mS := if o_size (o_puts1 S f).1 (o_puts1 S f).2 ((o_puts1 S f).1 5) = 10 then (z1 (o_puts1 S f).1 5 (-1), (o_puts1 S f).2) else o_puts1 S f
def o_told (S : mS) (wd isl pl shp : Int32) : mS := (z1 S.1 1 (S.1 1 + 1), m1 (m1 (m1 (m1 (m1 (m1 S.2 11 (zn S.1 1) wd) 12 (zn S.1 1) isl) 13 (zn S.1 1) pl) 15 (zn S.1 1) shp) 16 (zn S.1 1) 0) 14 (zn S.1 1) (-1))
def o_comes (S : mS) (wd isl pl shp : Int32) : mS := o_puts (o_told S wd isl pl shp) (zn S.1 1)
def anyB (p : Nat → Bool) : Nat → Bool
  | 0 => false
  | n + 1 => anyB p n || p n
def o_seg (Z : mZ) (M : mM) (sg : Int32) : Bool := anyB (fun k => decide (M 17 k = sg)) (zn Z 3)
def t_island (Z : mZ) (x y c : Int32) : Int32 := if (o_rng x 0 99 && (o_rng y 0 99 && o_rng c 0 999)) = true then (if 12 ≤ Z 0 then 2 else 0) else 1
def p_island (S : mS) (x y c : Int32) : mS := (z1 S.1 0 (S.1 0 + 1), m1 (m1 (m1 S.2 7 (zn S.1 0) x) 8 (zn S.1 0) y) 9 (zn S.1 0) c)
def t_find (Z : mZ) (wd isl pl : Int32) : Int32 := if o_isl Z isl = true then (if o_wrd wd pl = true then (if o_room Z = true then 0 else 3) else 2) else 1
def t_ship (Z : mZ) : Int32 := if 5 ≤ Z 2 then 1 else if Z 0 ≤ 0 then 1 else 0
def p_ship (S : mS) : mS := (z1 S.1 2 (S.1 2 + 1), m1 (m1 (m1 (m1 S.2 18 (zn S.1 2) 0) 19 (zn S.1 2) 100) 22 (zn S.1 2) 0) 21 (zn S.1 2) (-1))
def t_plant (Z : mZ) (M : mM) (sh wd isl pl : Int32) : Int32 := if (o_shp Z sh && o_isl Z isl) = true then (if o_wrd wd pl = true then (if M 19 sh.toNatClampNeg < 5 then 3 else if o_room Z = true then 0 else 4) else 2) else 1
def p_plant (S : mS) (sh wd isl pl : Int32) : mS := o_comes (S.1, m1 S.2 19 sh.toNatClampNeg (S.2 19 sh.toNatClampNeg - 5)) wd isl pl sh
def t_segment (Z : mZ) (k : Int32) : Int32 := if o_rng k 0 (Z 3 - 1) = true then 0 else 1
def t_size (Z : mZ) (M : mM) (sg : Int32) : Int32 := if o_seg Z M sg = true then 0 else 1
theorem o_isl_nat {Z : mZ} {v : Int32} {n : Nat} (h : o_isl Z v = true) (hn : Z 0 = nI n) (hb : n < 2 ^ 31) : ∃ i : Nat, i < n ∧ v = nI i := by
  unfold o_isl o_rng at h
  simp only [Bool.and_eq_true, decide_eq_true_eq] at h
  rw [hn] at h
  obtain ⟨j, hj, rfl⟩ := nI_of (x := v) (by intro q; exact Int32.lt_irrefl (Int32.lt_of_lt_of_le q h.1))
  refine ⟨j, ?_, rfl⟩
  cases n with
  | zero =>
    have h2 : (nI j).toInt ≤ (nI 0 - 1 : Int32).toInt := Int32.le_iff_toInt_le.mp h.2
    rw [nI_toInt hj, show (nI 0 - 1 : Int32).toInt = -1 from by decide] at h2
    omega
  | succ n =>
    rw [nI_pred, nI_leI hj (by omega)] at h
    omega
theorem o_rng_nat {v hi : Int32} {n : Nat} (h : o_rng v 0 hi = true) (hn : hi = nI n) (hb : n < 2 ^ 31) : ∃ i : Nat, i ≤ n ∧ v = nI i := by
  unfold o_rng at h
  simp only [Bool.and_eq_true, decide_eq_true_eq] at h
  rw [hn] at h
  obtain ⟨j, hj, rfl⟩ := nI_of (x := v) (by intro q; exact Int32.lt_irrefl (Int32.lt_of_lt_of_le q h.1))
  exact ⟨j, (nI_leI hj hb).mp h.2, rfl⟩
theorem o_shp_nat {Z : mZ} {v : Int32} {n : Nat} (h : o_shp Z v = true) (hn : Z 2 = nI n) (hb : n < 2 ^ 31) : ∃ i : Nat, i < n ∧ v = nI i :=
  o_isl_nat (Z := fun _ => Z 2) (v := v) (n := n) h hn hb
theorem o_fnd_nat {Z : mZ} {v : Int32} {n : Nat} (h : o_fnd Z v = true) (hn : Z 1 = nI n) (hb : n < 2 ^ 31) : ∃ i : Nat, i < n ∧ v = nI i :=
  o_isl_nat (Z := fun _ => Z 1) (v := v) (n := n) h hn hb
theorem o_room_lt {Z : mZ} {n : Nat} (h : o_room Z = true) (hn : Z 1 = nI n) (hb : n < 2 ^ 31) : n < 120 := by
  unfold o_room at h
  simp only [Bool.and_eq_true, Bool.not_eq_true', decide_eq_false_iff_not] at h
  have h1 := h.1
  rw [hn, show (120 : Int32) = nI 120 from rfl, nI_leI (by decide) hb] at h1
  omega
def mset (M : mM) (j : Nat) (g : Nat → Int32) : mM := fun i => if i = j then g else M i
theorem mset_s (M : mM) (j : Nat) (g : Nat → Int32) : mset M j g j = g := if_pos rfl
theorem mset_n (M : mM) {i j : Nat} (g : Nat → Int32) (h : i ≠ j) : mset M j g i = M i := if_neg h
theorem mset_self (M : mM) (j : Nat) : mset M j (M j) = M := by
  funext i
  unfold mset
  split
  · rename_i h; rw [h]
  · rfl
theorem mset_m1 (M : mM) (j k : Nat) (g : Nat → Int32) (v : Int32) : m1 (mset M j g) j k v = mset M j (upd g k v) := by
  funext i
  unfold m1 mset
  split
  · simp
  · rfl
def fmp (h : Nat → Int32) (g : Nat → Int32 → Int32) (n : Nat) : Nat → Int32 := fun f => if f < n then g f (h f) else h f
theorem fmp_0 (h : Nat → Int32) (g : Nat → Int32 → Int32) : fmp h g 0 = h := by
  funext f
  exact if_neg (Nat.not_lt_zero f)
theorem fmp_at (h : Nat → Int32) (g : Nat → Int32 → Int32) (n : Nat) : fmp h g n n = h n := if_neg (Nat.lt_irrefl n)
theorem fmp_step (h : Nat → Int32) (g : Nat → Int32 → Int32) (n : Nat) : upd (fmp h g n) n (g n (h n)) = fmp h g (n + 1) := by
  funext f
  unfold upd fmp
  by_cases hf : f = n
  · subst hf; simp
  · simp only [hf, if_false]
    by_cases h2 : f < n
    · rw [if_pos h2, if_pos (by omega)]
    · rw [if_neg h2, if_neg (by omega)]
/-- the loop that drops v from the numbers -/
def o_dr (g : Nat → Int32) (v : Int32) : Nat → Nat × (Nat → Int32)
  | 0 => (0, g)
  | k + 1 => (if upd (o_dr g v k).2 (o_dr g v k).1 ((o_dr g v k).2 k) k = v then (o_dr g v k).1 else (o_dr g v k).1 + 1, upd (o_dr g v k).2 (o_dr g v k).1 ((o_dr g v k).2 k))
theorem o_dr_le (g : Nat → Int32) (v : Int32) : ∀ k, (o_dr g v k).1 ≤ k
  | 0 => Nat.le_refl _
  | k + 1 => by
    have := o_dr_le g v k
    simp only [o_dr]
    split <;> omega
def o_drops (S : mS) (v : Int32) : mS := (z1 S.1 3 (nI (o_dr (S.2 17) v (zn S.1 3)).1), mset S.2 17 (o_dr (S.2 17) v (zn S.1 3)).2)
def o_blames (S : mS) (b : Bool) (ch : Int32) : mS := if b = true then (z1 S.1 31 (S.1 31 + 1), m1 S.2 32 (zn S.1 31) ch) else S
def o_lost (Z : mZ) (M : mM) : Nat := cntB (fun f => decide (M 14 f = -1) && decide (M 16 f = 0)) (zn Z 1)
def t_storm (Z : mZ) (M : mM) (v : Int32) : Int32 := if o_seg Z M v = true then (if v = Z 5 then 2 else 0) else 1
def p_storm (S : mS) (v : Int32) : mS := ((o_drops S v).1, mset (o_drops S v).2 14 (fmp (S.2 14) (fun _ x => if x = v then -1 else x) (zn S.1 1)))
def o_free (Z : mZ) (M : mM) : Int32 := if Z 5 = -1 then 0 else 10 - nI (o_size Z M (Z 5))
def o_more (Z : mZ) (M : mM) : Int32 := if nI (o_lost Z M) ≤ o_free Z M then 0 else (nI (o_lost Z M) - o_free Z M + 10 - 1) / 10
def t_rebuild (Z : mZ) (M : mM) : Int32 := if 20 < Z 3 + o_more Z M then 1 else 0
def o_reb (S : mS) : Nat → mS
  | 0 => S
  | n + 1 => if (o_reb S n).2 14 n = -1 then (if (o_reb S n).2 16 n = 0 then o_puts (o_reb S n) n else o_reb S n) else o_reb S n
def p_rebuild (S : mS) : mS := if 20 < S.1 3 + o_more S.1 S.2 then o_blames (z1 S.1 31 0, S.2) true 102 else o_reb S (zn S.1 1)
def t_segmentOf (Z : mZ) (M : mM) (v : Int32) : Int32 := if o_rng v 0 (Z 1 - 1) = true then (if M 14 v.toNatClampNeg = -1 then 2 else 0) else 1
def t_postings (v : Int32) : Int32 := if o_rng v 0 30 = true then 0 else 1
def o_ahead (M : mM) (f k : Nat) : Bool := if M 12 f = M 12 k then (if M 13 f = M 13 k then decide (f < k) else decide (M 13 f < M 13 k)) else decide (M 12 f < M 12 k)
def o_before (M : mM) (nf f : Nat) (v : Int32) : Nat := cntB (fun k => o_pst M k v && o_ahead M k f) nf
def o_found (M : mM) (nf : Nat) (v ix : Int32) : Nat → Int32
  | 0 => -1
  | n + 1 => if o_pst M n v = true then (if nI (o_before M nf n v) = ix then nI n else o_found M nf v ix n) else o_found M nf v ix n
def t_posting (Z : mZ) (M : mM) (v ix : Int32) : Int32 := if o_rng v 0 30 = true then (if o_found M (zn Z 1) v ix (zn Z 1) = -1 then 2 else 0) else 1
def t_word (Z : mZ) (v g : Int32) : Int32 := if (o_rng v 0 30 && (decide (Z 29 = 0) || o_rng g 0 9)) = true then (if 4 ≤ Z 29 then 2 else 0) else 1
def p_word (S : mS) (v g : Int32) : mS := (z1 S.1 29 (S.1 29 + 1), m1 (m1 S.2 25 (zn S.1 29) v) 26 (zn S.1 29) g)
theorem zn_of {Z : mZ} {j n : Nat} (h : Z j = nI n) (hn : n < 2 ^ 31) : zn Z j = n := by
  unfold zn
  rw [h]
  exact nI_clamp hn
theorem o_size_le {Z : mZ} {M : mM} {v : Int32} {nf : Nat} (hnf : Z 1 = nI nf) (hn : nf ≤ 120) : o_size Z M v ≤ 120 := by
  unfold o_size
  rw [zn_of hnf (by omega)]
  exact Nat.le_trans (cntB_le _ _) hn
theorem o_lost_le {Z : mZ} {M : mM} {nf : Nat} (hnf : Z 1 = nI nf) (hn : nf ≤ 120) : o_lost Z M ≤ 120 := by
  unfold o_lost
  rw [zn_of hnf (by omega)]
  exact Nat.le_trans (cntB_le _ _) hn
theorem o_puts_1 (S : mS) (f : Nat) : (o_puts S f).1 1 = S.1 1 := by
  unfold o_puts o_puts1 o_puts0 o_opens
  repeat' split
  all_goals simp [z1]
theorem o_reb_1 (S : mS) : ∀ n, (o_reb S n).1 1 = S.1 1
  | 0 => rfl
  | n + 1 => by
    simp only [o_reb]
    split
    · split
      · rw [o_puts_1]; exact o_reb_1 S n
      · exact o_reb_1 S n
    · exact o_reb_1 S n
def o_wrong (Z : mZ) (M : mM) (a b : Int32) : Bool := !o_seg Z M a || (!o_seg Z M b || (decide (a = Z 5) || decide (b = Z 5)))
def t_merge (Z : mZ) (M : mM) (a b : Int32) : Int32 := if a = b then 1 else if (o_seg Z M a && o_seg Z M b) = true then (if o_wrong Z M a b = true then 3 else 0) else 2
def o_mcause (Z : mZ) (M : mM) (a b : Int32) : mS :=
  o_blames (o_blames (o_blames (o_blames (z1 Z 31 0, M) (!o_seg Z M a) 115) (!o_seg Z M b) 115) (o_seg Z M a && decide (a = Z 5)) 111) (o_seg Z M b && decide (b = Z 5)) 111
def p_merge (S : mS) (a b : Int32) : mS :=
  if a = b then S else if o_wrong S.1 S.2 a b = true then o_mcause S.1 S.2 a b
  else ((o_opens (o_drops (o_drops S a) b)).1, mset (o_opens (o_drops (o_drops S a) b)).2 14 (fmp (S.2 14) (fun _ x => if x = a then (o_drops (o_drops S a) b).1 4 else if x = b then (o_drops (o_drops S a) b).1 4 else x) (zn S.1 1)))
def o_askT (S : mS) : mS := (z1 S.1 30 (S.1 29), mset (mset S.2 27 (fmp (S.2 27) (fun k _ => S.2 25 k) (zn S.1 29))) 28 (fmp (S.2 28) (fun k _ => S.2 26 k) (zn S.1 29)))
def o_askK (S : mS) (s : Nat) : mS := (z1 S.1 30 (S.2 22 s), mset (mset S.2 27 (fmp (S.2 27) (fun k _ => S.2 23 (4 * s + k)) (S.2 22 s).toNatClampNeg)) 28 (fmp (S.2 28) (fun k _ => S.2 24 (4 * s + k)) (S.2 22 s).toNatClampNeg))
theorem m1_mset2 (M : mM) (a b : Nat → Int32) (i : Nat) (v w : Int32) : m1 (m1 (mset (mset M 27 a) 28 b) 27 i v) 28 i w = mset (mset M 27 (upd a i v)) 28 (upd b i w) := by
  funext j
  unfold m1 mset
  by_cases h1 : j = 27
  · subst h1; simp
  · by_cases h2 : j = 28
    · subst h2; simp
    · simp [h1, h2]
def o_at (M : mM) (nf : Nat) (wd isl pl : Int32) : Nat := cntB (fun f => o_pst M f wd && (decide (M 12 f = isl) && decide (M 13 f = pl))) nf
def sumN (f : Nat → Nat) : Nat → Nat
  | 0 => 0
  | n + 1 => sumN f n + f n
def o_win (f : Nat → Nat) (p g : Nat) : Nat := sumN (fun b => f (p - (b + 1))) (min (g + 1) p)
def o_ways (a : Nat → Nat → Nat) (g : Nat → Nat) : Nat → Nat → Nat
  | 0, p => a 0 p
  | k + 1, p => o_win (o_ways a g k) p (g (k + 1)) * a (k + 1) p
def o_hits (a : Nat → Nat → Nat) (g : Nat → Nat) (n : Nat) : Nat := sumN (o_ways a g (n - 1)) 41
/-- the hits on an island by the map that is asked -/
def o_hitsOn (Z : mZ) (M : mM) (isl : Int32) : Nat := o_hits (fun k p => o_at M (zn Z 1) (M 27 k) isl (nI p)) (fun k => (M 28 k).toNatClampNeg) (zn Z 30)
theorem sumN_congr {f g : Nat → Nat} : ∀ {n : Nat}, (∀ k, k < n → f k = g k) → sumN f n = sumN g n
  | 0, _ => rfl
  | n + 1, h => by
    show sumN f n + _ = sumN g n + _
    rw [sumN_congr (fun k hk => h k (by omega)), h n (by omega)]
/-- the arrays that the reference uses for its counting alone -/
def m_eq (M M' : mM) : Prop := ∀ j, j ≠ 33 → j ≠ 34 → M' j = M j
theorem o_at_eq {M M' : mM} (h : m_eq M M') (nf : Nat) (wd isl pl : Int32) : o_at M' nf wd isl pl = o_at M nf wd isl pl := by
  unfold o_at o_pst
  rw [h 11 (by decide) (by decide), h 12 (by decide) (by decide), h 13 (by decide) (by decide), h 14 (by decide) (by decide), h 16 (by decide) (by decide)]
theorem m_eq_rf (M : mM) : m_eq M M := fun _ _ _ => rfl
theorem m_eq_tr {M M' M'' : mM} (h : m_eq M M') (h' : m_eq M' M'') : m_eq M M'' := fun j a b => (h' j a b).trans (h j a b)
theorem m_eq_33 {M M' : mM} (h : m_eq M M') (k : Nat) (v : Int32) : m_eq M (m1 M' 33 k v) := fun j a b => (congrFun rfl j : m1 M' 33 k v j = m1 M' 33 k v j).trans ((m1_n _ _ a).trans (h j a b))
theorem m_eq_34 {M M' : mM} (h : m_eq M M') (k : Nat) (v : Int32) : m_eq M (m1 M' 34 k v) := fun j a b => (m1_n _ _ b).trans (h j a b)
theorem o_hitsOn_eq {Z : mZ} {M M' : mM} (h : m_eq M M') (isl : Int32) : o_hitsOn Z M' isl = o_hitsOn Z M isl := by
  unfold o_hitsOn
  rw [h 27 (by decide) (by decide), h 28 (by decide) (by decide)]
  simp only [o_at_eq h]

