/-- X1_isLargerOneDearer -/
noncomputable def cK35 : aK := ([(2, 4, (1, 1)), (0, 0, (0, 5)), (0, 0, (0, 5))], (1, (0, 1)), [], 5)
set_option maxRecDepth 100000 in
theorem cT35 : aKP aGI 39 cK35 := achk_ok (aCt_ok cP4) (n := 4000) (ann := aAf) (il := aIl) (by decide +kernel)
/-- X1_performLot -/
noncomputable def cK50 : aK := ([(2, 4, (1, 1)), (1, 0, (0, 2147483646))], (0, (0, 0)), [(4, (1, 1), (9, 13)), (4, (1, 1), (15, 15)), (19, (1, 1), (0, 5)), (22, (1, 1), (0, 39)), (23, (1, 1), (0, 9))], 6)
set_option maxRecDepth 100000 in
theorem cT50 : aKP aGI 47 cK50 := achk_ok (aCt_ok cP4) (n := 4000) (ann := aAf) (il := aIl) (by decide +kernel)
/-- X0_leastFrom -/
noncomputable def cK54 : aK := ([(2, 8, (0, 0)), (2, 4, (1, 1)), (0, 0, (0, 5)), (0, 0, (0, 30))], (1, ((-2147483648), 1000000)), [], 5)
set_option maxRecDepth 100000 in
theorem cT54 : aKP aGI 50 cK54 := achk_ok (aCt_ok cP4) (n := 4000) (ann := aAf) (il := aIl) (by decide +kernel)
/-- X0_firstNumber -/
noncomputable def cK56 : aK := ([(2, 8, (0, 0)), (2, 4, (1, 1)), (0, 0, (0, 5)), (0, 0, (0, 30))], (1, (0, 3)), [], 5)
set_option maxRecDepth 100000 in
theorem cT56 : aKP aGI 53 cK56 := achk_ok (aCt_ok cP4) (n := 4000) (ann := aAf) (il := aIl) (by decide +kernel)
/-- X4_goOn -/
noncomputable def cK61 : aK := ([(2, 9, (0, 0)), (2, 4, (1, 1)), (0, 0, (2, 2)), (0, 0, ((-2147483648), 2147483647)), (0, 0, ((-2147483648), 2147483647))], (0, (0, 0)), [(9, (0, 0), (4, 5)), (23, (7, 10), (0, 9)), (27, (0, 0), (2, 2)), (28, (0, 0), (0, 2))], 5)
set_option maxRecDepth 100000 in
theorem cT61 : aKP aGI 55 cK61 := achk_ok (aCt_ok cP4) (n := 4000) (ann := aAf) (il := aIl) (by decide +kernel)
/-- X5_read -/
noncomputable def cK77 : aK := ([(2, 3, (0, 0)), (2, 2, (0, 0)), (0, 0, (0, 3))], (1, ((-2147483648), 2147483647)), [(3, (0, 0), (2, 4)), (4, (5, 5), (6, 8)), (17, (0, 0), (0, 59)), (18, (5, 5), (0, 5)), (19, (5, 5), (0, 5)), (20, (5, 5), (0, 5)), (21, (5, 5), (0, 5))], 5)
set_option maxRecDepth 100000 in
theorem cT77 : aKP aGI 58 cK77 := achk_ok (aCt_ok cP4) (n := 4000) (ann := aAf) (il := aIl) (by decide +kernel)
/-- X7_shopTakes -/
noncomputable def cK83 : aK := ([(2, 4, (1, 1)), (2, 10, (0, 0)), (0, 0, (0, 2))], (1, ((-2147483648), 2147483647)), [(10, (0, 0), (0, 5))], 5)
set_option maxRecDepth 100000 in
theorem cT83 : aKP aGI 120 cK83 := achk_ok (aCt_ok cP4) (n := 4000) (ann := aAf) (il := aIl) (by decide +kernel)
/-- X7_counted -/
noncomputable def cK85 : aK := ([(2, 0, (0, 0)), (0, 0, ((-2147483648), 2147483647))], (1, ((-2147483648), 2147483647)), [], 5)
set_option maxRecDepth 100000 in
theorem cT85 : aKP aGI 114 cK85 := achk_ok (aCt_ok cP4) (n := 4000) (ann := aAf) (il := aIl) (by decide +kernel)
/-- X7_packet -/
noncomputable def cK95 : aK := ([(2, 0, (0, 0)), (0, 0, ((-2147483648), 2147483647)), (0, 0, ((-2147483648), 2147483647))], (1, ((-1), 1)), [(0, (0, 0), (14, 14))], 5)
set_option maxRecDepth 100000 in
theorem cT95 : aKP aGI 78 cK95 := achk_ok (aCt_ok cP4) (n := 4000) (ann := aAf) (il := aIl) (by decide +kernel)
/-- X7_mark -/
noncomputable def cK96 : aK := ([(2, 0, (0, 0)), (0, 0, ((-2147483648), 2147483647)), (0, 0, ((-2147483648), 2147483647))], (1, ((-2147483648), 2147483647)), [(0, (0, 0), (13, 13)), (12, (0, 0), (3, 3))], 5)
set_option maxRecDepth 100000 in
theorem cT96 : aKP aGI 79 cK96 := achk_ok (aCt_ok cP4) (n := 4000) (ann := aAf) (il := aIl) (by decide +kernel)
/-- X7_buy -/
noncomputable def cK98 : aK := ([(2, 0, (0, 0)), (0, 0, ((-2147483648), 2147483647)), (0, 0, ((-2147483648), 2147483647))], (1, ((-2147483648), 2147483647)), [(4, (1, 1), (10, 10)), (4, (1, 1), (15, 15)), (22, (1, 1), (0, 39)), (23, (1, 1), (0, 9))], 6)
set_option maxRecDepth 100000 in
theorem cT98 : aKP aGI 81 cK98 := achk_ok (aCt_ok cP4) (n := 4000) (ann := aAf) (il := aIl) (by decide +kernel)
/-- X8_waste -/
noncomputable def cK169 : aK := ([(2, 31, (0, 0)), (0, 0, ((-2147483648), 2147483647))], (1, ((-2147483648), 2147483647)), [(32, (0, 0), (4596, 4624))], 6)
set_option maxRecDepth 100000 in
theorem cT169 : aKP aGI 189 cK169 := achk_ok (aCt_ok cP4) (n := 4000) (ann := aAf) (il := aIl) (by decide +kernel)
/-- X8_lastShop -/
noncomputable def cK179 : aK := ([(2, 31, (0, 0)), (0, 0, (0, 1))], (1, ((-99999), 2147483647)), [(41, (0, 0), (6, 17))], 5)
set_option maxRecDepth 100000 in
theorem cT179 : aKP aGI 201 cK179 := achk_ok (aCt_ok cP4) (n := 4000) (ann := aAf) (il := aIl) (by decide +kernel)
noncomputable def cL5 : List (Nat × aK) := (39, cK35) :: (47, cK50) :: (50, cK54) :: (53, cK56) :: (55, cK61) :: (58, cK77) :: (120, cK83) :: (114, cK85) :: (78, cK95) :: (79, cK96) :: (81, cK98) :: (189, cK169) :: (201, cK179) :: cL4
set_option maxRecDepth 100000 in
theorem cP5 : ∀ q ∈ cL5, aKP aGI q.1 q.2 := aFm cT35 (aFm cT50 (aFm cT54 (aFm cT56 (aFm cT61 (aFm cT77 (aFm cT83 (aFm cT85 (aFm cT95 (aFm cT96 (aFm cT98 (aFm cT169 (aFm cT179 (cP4)))))))))))))
