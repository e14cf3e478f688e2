/-- X7_rate -/
noncomputable def cK193 : aK := ([(2, 0, (0, 0)), (0, 0, ((-2147483648), 2147483647))], (1, ((-4), 1)), [(0, (0, 0), (15, 16))], 4)
set_option maxRecDepth 100000 in
theorem cT193 : aKP aGI 90 cK193 := achk_ok (aCt_ok cP12) (n := 4000) (ann := aAf) (il := aIl) (by decide +kernel)
/-- X7_odds -/
noncomputable def cK194 : aK := ([(2, 0, (0, 0)), (0, 0, ((-2147483648), 2147483647)), (0, 0, ((-2147483648), 2147483647))], (1, ((-4), 1)), [(0, (0, 0), (15, 16)), (11, (0, 0), (0, 54))], 5)
set_option maxRecDepth 100000 in
theorem cT194 : aKP aGI 103 cK194 := achk_ok (aCt_ok cP12) (n := 4000) (ann := aAf) (il := aIl) (by decide +kernel)
/-- X7_mid -/
noncomputable def cK195 : aK := ([(2, 0, (0, 0)), (0, 0, ((-2147483648), 2147483647))], (1, ((-4), 1)), [(0, (0, 0), (15, 16))], 4)
set_option maxRecDepth 100000 in
theorem cT195 : aKP aGI 104 cK195 := achk_ok (aCt_ok cP12) (n := 4000) (ann := aAf) (il := aIl) (by decide +kernel)
noncomputable def cL13 : List (Nat × aK) := (90, cK193) :: (103, cK194) :: (104, cK195) :: cL12
set_option maxRecDepth 100000 in
theorem cP13 : ∀ q ∈ cL13, aKP aGI q.1 q.2 := aFm cT193 (aFm cT194 (aFm cT195 (cP12)))
