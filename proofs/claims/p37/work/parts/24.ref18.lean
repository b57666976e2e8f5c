theorem o_bet_eq {Z : mZ} {M M' : mM} (h : m_eq M M') (nf ni na sh a b : Nat) : o_bet Z M' nf ni na sh a b = o_bet Z M nf ni na sh a b := by
  have e : ∀ k, o_far M' sh k = o_far M sh k := fun k => by
    unfold o_far
    rw [h 7 (by decide) (by decide), h 8 (by decide) (by decide), h 18 (by decide) (by decide)]
  unfold o_bet
  rw [o_score_eq h, o_score_eq h, e, e]
def o_betT (Z : mZ) (M : mM) (nf ni nt sh a b : Nat) : Bool := o_bet (o_askT (Z, M)).1 (o_askT (Z, M)).2 nf ni nt sh a b
def o_beats (Z : mZ) (M : mM) (nf ni nt sh a b : Nat) : Bool := !decide (a = b) && (decide (0 < o_hitT Z M (nI a)) && o_betT Z M nf ni nt sh a b)
def o_place (Z : mZ) (M : mM) (nf ni nt sh b : Nat) : Nat := cntB (fun a => o_beats Z M nf ni nt sh a b) ni
def o_rank (Z : mZ) (M : mM) (nf ni nt sh : Nat) (pl : Int32) : Nat → Int32
  | 0 => -1
  | n + 1 => if o_hitT Z M (nI n) = 0 then o_rank Z M nf ni nt sh pl n else if nI (o_place Z M nf ni nt sh n) = pl then nI n else o_rank Z M nf ni nt sh pl n
