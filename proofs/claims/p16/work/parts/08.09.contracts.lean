/-- X4_goOn -/
noncomputable def cK67 : aK := ([(2, 9, (0, 0)), (2, 4, (1, 1)), (0, 0, (0, 0)), (0, 0, ((-2147483648), 2147483647)), (0, 0, ((-2147483648), 2147483647))], (0, (0, 0)), [(9, (0, 0), (4, 5)), (23, (7, 10), (0, 9)), (27, (0, 0), (0, 2)), (28, (0, 0), (0, 2))], 9)
set_option maxRecDepth 100000 in
theorem cT67 : aKP aGI 55 cK67 := achk_ok (aCt_ok cP8) (n := 4000) (ann := aAf) (il := aIl) (by decide +kernel)
noncomputable def cL9 : List (Nat × aK) := (55, cK67) :: cL8
set_option maxRecDepth 100000 in
theorem cP9 : ∀ q ∈ cL9, aKP aGI q.1 q.2 := aFm cT67 (cP8)
