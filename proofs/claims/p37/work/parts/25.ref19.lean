def t_hit (Z : mZ) (M : mM) (nf ni nt : Nat) (v pl : Int32) : Int32 := if o_shp Z v = true then (if 0 < Z 29 then (if o_rank Z M nf ni nt v.toNatClampNeg pl ni = -1 then 3 else 0) else 2) else 1
