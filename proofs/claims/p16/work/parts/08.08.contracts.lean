/-- X4_liveWeek -/
noncomputable def cK65 : aK := ([(2, 9, (0, 0)), (2, 4, (1, 1)), (0, 0, (0, 0)), (0, 0, ((-9), (-9))), (0, 0, ((-2147483648), 2147483647)), (0, 0, ((-2147483648), 2147483647))], (0, (0, 0)), [(9, (0, 0), (4, 5)), (23, (7, 10), (0, 9)), (27, (0, 0), (0, 2)), (28, (0, 0), (0, 2))], 8)
set_option maxRecDepth 100000 in
theorem cT65 : aKP aGI 56 cK65 := achk_ok (aCt_ok cP7) (n := 4000) (ann := aAf) (il := aIl) (by decide +kernel)
/-- X4_liveWeek -/
noncomputable def cK66 : aK := ([(2, 9, (0, 0)), (2, 4, (1, 1)), (0, 0, (0, 0)), (0, 0, (0, 5)), (0, 0, ((-2147483648), 2147483647)), (0, 0, ((-2147483648), 2147483647))], (0, (0, 0)), [(9, (0, 0), (4, 5)), (23, (7, 10), (0, 9)), (27, (0, 0), (0, 2)), (28, (0, 0), (0, 2))], 8)
set_option maxRecDepth 100000 in
theorem cT66 : aKP aGI 56 cK66 := achk_ok (aCt_ok cP7) (n := 4000) (ann := aAf) (il := aIl) (by decide +kernel)
noncomputable def cL8 : List (Nat × aK) := (56, cK65) :: (56, cK66) :: cL7
set_option maxRecDepth 100000 in
theorem cP8 : ∀ q ∈ cL8, aKP aGI q.1 q.2 := aFm cT65 (aFm cT66 (cP7))
