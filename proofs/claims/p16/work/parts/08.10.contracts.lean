/-- X4_search -/
noncomputable def cK68 : aK := ([(2, 9, (0, 0)), (2, 4, (1, 1)), (0, 0, (0, 3))], (0, (0, 0)), [(9, (0, 0), (3, 5)), (23, (7, 10), (0, 9)), (27, (0, 0), (0, 2)), (28, (0, 0), (0, 2))], 10)
set_option maxRecDepth 100000 in
theorem cT68 : aKP aGI 54 cK68 := achk_ok (aCt_ok cP9) (n := 4000) (ann := aAf) (il := aIl) (by decide +kernel)
noncomputable def cL10 : List (Nat × aK) := (54, cK68) :: cL9
set_option maxRecDepth 100000 in
theorem cP10 : ∀ q ∈ cL10, aKP aGI q.1 q.2 := aFm cT68 (cP9)
