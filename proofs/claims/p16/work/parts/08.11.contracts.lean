/-- X7_weeks -/
noncomputable def cK108 : aK := ([(2, 0, (0, 0)), (0, 0, ((-2147483648), 2147483647)), (0, 0, ((-2147483648), 2147483647))], (1, ((-2147483648), 999999)), [(9, (0, 0), (3, 5)), (14, (0, 0), (0, 5)), (23, (7, 10), (0, 9)), (27, (0, 0), (0, 2)), (28, (0, 0), (0, 2)), (29, (0, 5), (0, 39))], 11)
set_option maxRecDepth 100000 in
theorem cT108 : aKP aGI 94 cK108 := achk_ok (aCt_ok cP10) (n := 4000) (ann := aAf) (il := aIl) (by decide +kernel)
/-- X7_waste -/
noncomputable def cK109 : aK := ([(2, 0, (0, 0)), (0, 0, ((-2147483648), 2147483647))], (1, ((-2147483648), 999999)), [(9, (0, 0), (3, 5)), (23, (7, 10), (0, 9)), (27, (0, 0), (0, 2)), (28, (0, 0), (0, 2))], 11)
set_option maxRecDepth 100000 in
theorem cT109 : aKP aGI 95 cK109 := achk_ok (aCt_ok cP10) (n := 4000) (ann := aAf) (il := aIl) (by decide +kernel)
noncomputable def cL11 : List (Nat × aK) := (94, cK108) :: (95, cK109) :: cL10
set_option maxRecDepth 100000 in
theorem cP11 : ∀ q ∈ cL11, aKP aGI q.1 q.2 := aFm cT108 (aFm cT109 (cP10))
