/-! the answers of row and text, exactly -/
def eK (g : Nat) (a b c e lo hi : Int) (W : List aR) : aK := ([(2, g, (0, 0)), (0, 0, (a, b)), (0, 0, (c, e))], (1, (lo, hi)), W, 9)
def eMin : Int := -2147483648
def eMax : Int := 2147483647
def eC (m : Nat) (c : aK) : Bool := achk aGI (aCt cL13) aAf aIl 4000 m c
theorem eC_ok {m : Nat} {c : aK} (h : eC m c = true) : aKP aGI m c := achk_ok (aCt_ok cP13) (n := 4000) (ann := aAf) (il := aIl) h
def eRows (m g : Nat) (R N : Int) (W : List aR) : Bool := eC m (eK g eMin (-1) eMin eMax (-1) (-1) W) && eC m (eK g (R + 1) eMax eMin eMax (-1) (-1) W) && eC m (eK g 0 R (N + 1) eMax (-1) (-1) W) && eC m (eK g 0 R eMin (-1) (-3) (-3) W) && (List.range (N.toNat + 1)).all (fun n => eC m (eK g 0 R n n n n W))
set_option maxRecDepth 100000 in
theorem eRow : eRows 68 0 5 40 cK86.2.2.1 = true := by decide +kernel
set_option maxRecDepth 100000 in
theorem eRowM : eRows 130 31 5 40 cK126.2.2.1 = true := by decide +kernel
set_option maxRecDepth 100000 in
theorem eText : eRows 74 0 3 60 cK91.2.2.1 = true := by decide +kernel
set_option maxRecDepth 100000 in
theorem eTextM : eRows 139 31 3 60 cK131.2.2.1 = true := by decide +kernel
