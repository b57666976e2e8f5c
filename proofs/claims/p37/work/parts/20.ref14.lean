def o_str (M : mM) (nf : Nat) : Nat := cntB (fun f => !decide (M 16 f = 0)) nf
def o_share (M : mM) (nf : Nat) : UInt32 := FP.fdiv (FP.i2f (nI (o_str M nf))) (FP.i2f (nI nf))
