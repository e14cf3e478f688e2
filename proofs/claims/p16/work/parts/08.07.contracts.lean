/-- X4_goOn -/
noncomputable def cK64 : aK := ([(2, 9, (0, 0)), (2, 4, (1, 1)), (0, 0, (1, 1)), (0, 0, ((-2147483648), 2147483647)), (0, 0, ((-2147483648), 2147483647))], (0, (0, 0)), [(9, (0, 0), (4, 5)), (23, (7, 10), (0, 9)), (27, (0, 0), (1, 2)), (28, (0, 0), (0, 2))], 7)
set_option maxRecDepth 100000 in
theorem cT64 : aKP aGI 55 cK64 := achk_ok (aCt_ok cP6) (n := 4000) (ann := aAf) (il := aIl) (by decide +kernel)
/-- X7_least -/
noncomputable def cK107 : aK := ([(2, 0, (0, 0)), (0, 0, ((-2147483648), 2147483647)), (0, 0, ((-2147483648), 2147483647))], (1, ((-2147483648), 999999)), [(14, (0, 0), (0, 5)), (25, (0, 6), (0, 30)), (29, (0, 5), (0, 39))], 7)
set_option maxRecDepth 100000 in
theorem cT107 : aKP aGI 93 cK107 := achk_ok (aCt_ok cP6) (n := 4000) (ann := aAf) (il := aIl) (by decide +kernel)
/-- X8_shop -/
noncomputable def cK181 : aK := ([(2, 31, (0, 0)), (0, 0, ((-2147483648), 2147483647))], (1, ((-4), 1)), [(31, (0, 0), (10, 10)), (41, (0, 0), (0, 17))], 7)
set_option maxRecDepth 100000 in
theorem cT181 : aKP aGI 203 cK181 := achk_ok (aCt_ok cP6) (n := 4000) (ann := aAf) (il := aIl) (by decide +kernel)
noncomputable def cL7 : List (Nat × aK) := (55, cK64) :: (93, cK107) :: (203, cK181) :: cL6
set_option maxRecDepth 100000 in
theorem cP7 : ∀ q ∈ cL7, aKP aGI q.1 q.2 := aFm cT64 (aFm cT107 (aFm cT181 (cP6)))
