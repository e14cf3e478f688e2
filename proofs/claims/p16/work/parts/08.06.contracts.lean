/-- X0_fill -/
noncomputable def cK55 : aK := ([(2, 8, (0, 0)), (2, 4, (1, 1)), (0, 0, (0, 30))], (1, ((-2147483648), 2147483647)), [(25, (0, 5), (0, 30)), (25, (0, 6), (0, 30))], 6)
set_option maxRecDepth 100000 in
theorem cT55 : aKP aGI 49 cK55 := achk_ok (aCt_ok cP5) (n := 4000) (ann := aAf) (il := aIl) (by decide +kernel)
/-- X4_liveWeek -/
noncomputable def cK62 : aK := ([(2, 9, (0, 0)), (2, 4, (1, 1)), (0, 0, (1, 1)), (0, 0, ((-9), (-9))), (0, 0, ((-2147483648), 2147483647)), (0, 0, ((-2147483648), 2147483647))], (0, (0, 0)), [(9, (0, 0), (4, 5)), (23, (7, 10), (0, 9)), (27, (0, 0), (1, 2)), (28, (0, 0), (0, 2))], 6)
set_option maxRecDepth 100000 in
theorem cT62 : aKP aGI 56 cK62 := achk_ok (aCt_ok cP5) (n := 4000) (ann := aAf) (il := aIl) (by decide +kernel)
/-- X4_liveWeek -/
noncomputable def cK63 : aK := ([(2, 9, (0, 0)), (2, 4, (1, 1)), (0, 0, (1, 1)), (0, 0, (0, 5)), (0, 0, ((-2147483648), 2147483647)), (0, 0, ((-2147483648), 2147483647))], (0, (0, 0)), [(9, (0, 0), (4, 5)), (23, (7, 10), (0, 9)), (27, (0, 0), (1, 2)), (28, (0, 0), (0, 2))], 6)
set_option maxRecDepth 100000 in
theorem cT63 : aKP aGI 56 cK63 := achk_ok (aCt_ok cP5) (n := 4000) (ann := aAf) (il := aIl) (by decide +kernel)
/-- X7_fault -/
noncomputable def cK93 : aK := ([(2, 0, (0, 0)), (0, 0, ((-2147483648), 2147483647))], (1, ((-2147483648), 2147483647)), [(0, (0, 0), (13, 13)), (3, (0, 0), (2, 4)), (4, (5, 5), (6, 8)), (12, (0, 0), (1, 1)), (17, (0, 0), (0, 59)), (18, (5, 5), (0, 5)), (19, (5, 5), (0, 5)), (20, (5, 5), (0, 5)), (21, (5, 5), (0, 5))], 6)
set_option maxRecDepth 100000 in
theorem cT93 : aKP aGI 76 cK93 := achk_ok (aCt_ok cP5) (n := 4000) (ann := aAf) (il := aIl) (by decide +kernel)
/-- X7_house -/
noncomputable def cK94 : aK := ([(2, 0, (0, 0)), (0, 0, ((-2147483648), 2147483647))], (1, ((-4), 6)), [(0, (0, 0), (13, 13)), (3, (0, 0), (2, 4)), (4, (0, 0), (6, 15)), (4, (1, 1), (6, 15)), (4, (5, 5), (6, 8)), (6, (0, 0), (0, 2)), (12, (0, 0), (1, 1)), (17, (0, 0), (0, 59)), (18, (0, 0), (0, 5)), (18, (1, 1), (0, 5)), (18, (5, 5), (0, 5)), (19, (0, 0), (0, 5)), (19, (1, 1), (0, 5)), (19, (5, 5), (0, 5)), (20, (0, 0), (0, 5)), (20, (1, 1), (0, 5)), (20, (5, 5), (0, 5)), (21, (0, 0), (0, 5)), (21, (1, 1), (0, 5)), (21, (5, 5), (0, 5)), (22, (0, 0), (0, 39)), (22, (1, 1), (0, 39)), (23, (0, 0), (0, 9)), (23, (1, 1), (0, 9))], 6)
set_option maxRecDepth 100000 in
theorem cT94 : aKP aGI 77 cK94 := achk_ok (aCt_ok cP5) (n := 4000) (ann := aAf) (il := aIl) (by decide +kernel)
/-- X7_larger -/
noncomputable def cK106 : aK := ([(2, 0, (0, 0))], (1, ((-2147483648), 2147483647)), [(0, (0, 0), (14, 14))], 6)
set_option maxRecDepth 100000 in
theorem cT106 : aKP aGI 92 cK106 := achk_ok (aCt_ok cP5) (n := 4000) (ann := aAf) (il := aIl) (by decide +kernel)
/-- X7_shop -/
noncomputable def cK116 : aK := ([(2, 0, (0, 0)), (0, 0, ((-2147483648), 2147483647))], (1, ((-4), 1)), [(0, (0, 0), (14, 14)), (10, (0, 0), (0, 5))], 6)
set_option maxRecDepth 100000 in
theorem cT116 : aKP aGI 102 cK116 := achk_ok (aCt_ok cP5) (n := 4000) (ann := aAf) (il := aIl) (by decide +kernel)
/-- X7_lots -/
noncomputable def cK117 : aK := ([(2, 0, (0, 0)), (0, 0, ((-2147483648), 2147483647)), (0, 0, ((-2147483648), 2147483647))], (1, ((-2147483648), 2147483647)), [(4, (1, 1), (9, 13)), (4, (1, 1), (15, 15)), (19, (1, 1), (0, 5)), (22, (1, 1), (0, 39)), (23, (1, 1), (0, 9))], 7)
set_option maxRecDepth 100000 in
theorem cT117 : aKP aGI 105 cK117 := achk_ok (aCt_ok cP5) (n := 4000) (ann := aAf) (il := aIl) (by decide +kernel)
/-- X7_count -/
noncomputable def cK121 : aK := ([(2, 0, (0, 0)), (0, 0, ((-2147483648), 2147483647))], (1, ((-2147483648), 2147483647)), [], 6)
set_option maxRecDepth 100000 in
theorem cT121 : aKP aGI 109 cK121 := achk_ok (aCt_ok cP5) (n := 4000) (ann := aAf) (il := aIl) (by decide +kernel)
/-- X7_digest -/
noncomputable def cK124 : aK := ([(2, 0, (0, 0))], (2, ((-9223372036854775808), 9223372036854775807)), [], 6)
set_option maxRecDepth 100000 in
theorem cT124 : aKP aGI 112 cK124 := achk_ok (aCt_ok cP5) (n := 4000) (ann := aAf) (il := aIl) (by decide +kernel)
/-- X8_firstShop -/
noncomputable def cK180 : aK := ([(2, 31, (0, 0))], (1, ((-99999), 2147483647)), [(41, (0, 0), (6, 17))], 6)
set_option maxRecDepth 100000 in
theorem cT180 : aKP aGI 202 cK180 := achk_ok (aCt_ok cP5) (n := 4000) (ann := aAf) (il := aIl) (by decide +kernel)
noncomputable def cL6 : List (Nat × aK) := (49, cK55) :: (56, cK62) :: (56, cK63) :: (76, cK93) :: (77, cK94) :: (92, cK106) :: (102, cK116) :: (105, cK117) :: (109, cK121) :: (112, cK124) :: (202, cK180) :: cL5
set_option maxRecDepth 100000 in
theorem cP6 : ∀ q ∈ cL6, aKP aGI q.1 q.2 := aFm cT55 (aFm cT62 (aFm cT63 (aFm cT93 (aFm cT94 (aFm cT106 (aFm cT116 (aFm cT117 (aFm cT121 (aFm cT124 (aFm cT180 (cP5)))))))))))
