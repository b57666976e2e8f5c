def t_typed (b : Bool) (Z : mZ) : Int32 := if b = true then (if 0 < Z 29 then 0 else 2) else 1
theorem o_askK_28 (S : mS) {n k sh : Nat} (h : S.2 22 sh = nI n) (hn : n ≤ 4) (hk : k < n) : (o_askK S sh).2 28 k = S.2 24 (4 * sh + k) := by
  unfold o_askK
  dsimp only
  rw [mset_s, h, nI_clamp (by omega)]
  exact if_pos hk
theorem o_askK_30 (S : mS) {n sh : Nat} (h : S.2 22 sh = nI n) : (o_askK S sh).1 30 = nI n := (z1_s S.1 30 _).trans h
/-- the hits by a ship's kept map where it stands -/
def o_still (Z : mZ) (M : mM) (sh : Nat) : Nat := o_hitsOn (o_askK (Z, M) sh).1 (o_askK (Z, M) sh).2 (M 18 sh)
