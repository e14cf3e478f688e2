/-! contracts that rest on those proved by hand -/
noncomputable def cLg : List (Nat × aK) := (117, ([(1, 0, ((-9223372036854775808), 9223372036854775807)), (1, 0, ((-9223372036854775808), 9223372036854775807))], (2, ((-9223372036854775808), 9223372036854775807)), [], 1)) :: (122, ([(2, 0, (0, 0)), (0, 0, (0, 12))], (2, ((-9223372036854775808), 9223372036854775807)), [(11, (0, 0), (0, 54))], 4)) :: cL11
theorem cPg : ∀ q ∈ cLg, aKP aGI q.1 q.2 := aFm hK_commonDivisor (aFm hK_weighWays (cP11))
/-- X7_tellRatio -/
noncomputable def cK192 : aK := ([(2, 0, (0, 0)), (1, 0, ((-9223372036854775808), 9223372036854775807)), (1, 0, ((-9223372036854775808), 9223372036854775807))], (0, (0, 0)), [(0, (0, 0), (15, 16))], 2)
set_option maxRecDepth 100000 in
theorem cT192 : aKP aGI 116 cK192 := achk_ok (aCt_ok cPg) (n := 4000) (ann := aAf) (il := aIl) (by decide +kernel)
noncomputable def cL12 : List (Nat × aK) := (116, cK192) :: cLg
set_option maxRecDepth 100000 in
theorem cP12 : ∀ q ∈ cL12, aKP aGI q.1 q.2 := aFm cT192 (cPg)
