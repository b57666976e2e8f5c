theorem o_score_eq {Z : mZ} {M M' : mM} (h : m_eq M M') (nf ni na : Nat) (isl : Int32) : o_score Z M' nf ni na isl = o_score Z M nf ni na isl := by
  have e : o_askW M' nf ni = o_askW M nf ni := by
    funext k
    unfold o_askW o_has o_hasW o_pst
    rw [h 27 (by decide) (by decide), h 11 (by decide) (by decide), h 12 (by decide) (by decide), h 14 (by decide) (by decide), h 16 (by decide) (by decide)]
  unfold o_score
  rw [e, o_hitsOn_eq h]
theorem o_nan_eq {Z : mZ} {M M' : mM} (h : m_eq M M') {nf ni na : Nat} (h9 : o_nan Z M nf ni na) : o_nan Z M' nf ni na := by
  have e : o_askW M' nf ni = o_askW M nf ni := by
    funext k
    unfold o_askW o_has o_hasW o_pst
    rw [h 27 (by decide) (by decide), h 11 (by decide) (by decide), h 12 (by decide) (by decide), h 14 (by decide) (by decide), h 16 (by decide) (by decide)]
  refine ⟨h9.1, ?_, fun isl => ?_⟩
  · rw [e]; exact h9.2.1
  · rw [o_score_eq h]; exact h9.2.2 isl
def o_cmp (x y : UInt32) : Int32 := Op.cmpValue (FP.fcmp x y) .l
def o_bet (Z : mZ) (M : mM) (nf ni na sh a b : Nat) : Bool :=
  if o_cmp (o_score Z M nf ni na (nI a)) (o_score Z M nf ni na (nI b)) = 0 then
    (if o_far M sh a - o_far M sh b = 0 then decide (a < b) else decide (o_far M sh a - o_far M sh b < 0))
  else decide (0 < o_cmp (o_score Z M nf ni na (nI a)) (o_score Z M nf ni na (nI b)))

