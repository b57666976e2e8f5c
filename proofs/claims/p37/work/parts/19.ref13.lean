/-- the word stands posted on the island -/
def o_hasW (M : mM) (nf : Nat) (wd isl : Int32) : Bool := anyB (fun f => o_pst M f wd && decide (M 12 f = isl)) nf
def o_has (M : mM) (nf ni : Nat) (wd : Int32) : Nat := cntB (fun i => o_hasW M nf wd (nI i)) ni
def o_wt (ni h : Nat) : UInt32 := FP.fadd FP.fconst1 (FP.fdiv (FP.i2f (nI ni)) (FP.i2f (1 + nI h)))
def o_in (M : mM) (nf : Nat) : Nat := cntB (fun f => !decide (M 14 f = -1)) nf
def o_mean (M : mM) (nf : Nat) (sg : Int32) : UInt64 := if sg = 0 then FP.dconst0 else FP.ddiv (FP.i2d (nI (o_in M nf))) (FP.i2d sg)
