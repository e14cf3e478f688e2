section
/-- X1_compareRates -/
noncomputable def cK34 : aK := ([(2, 4, (1, 1)), (0, 0, (0, 5)), (0, 0, (0, 5))], (1, ((-1), 1)), [], 4)
set_option maxRecDepth 100000 in
theorem cT34 : aKP aGI 38 cK34 := achk_ok (aCt_ok cP3) (n := 4000) (ann := aAf) (il := aIl) (by decide +kernel)
/-- X1_tell -/
noncomputable def cK36 : aK := ([(2, 4, (1, 1)), (0, 0, (0, 5)), (0, 0, ((-2147483648), 2147483647))], (1, ((-2147483648), 2147483647)), [], 4)
set_option maxRecDepth 100000 in
theorem cT36 : aKP aGI 40 cK36 := achk_ok (aCt_ok cP3) (n := 4000) (ann := aAf) (il := aIl) (by decide +kernel)
/-- X1_markOf -/
noncomputable def cK37 : aK := ([(2, 4, (1, 1)), (0, 0, (0, 5)), (0, 0, ((-2147483648), 2147483647))], (1, ((-2147483648), 2147483647)), [], 4)
set_option maxRecDepth 100000 in
theorem cT37 : aKP aGI 41 cK37 := achk_ok (aCt_ok cP3) (n := 4000) (ann := aAf) (il := aIl) (by decide +kernel)
/-- X1_counted -/
noncomputable def cK39 : aK := ([(2, 4, (1, 1)), (0, 0, ((-2147483648), 2147483647))], (1, ((-2147483648), 2147483647)), [], 4)
set_option maxRecDepth 100000 in
theorem cT39 : aKP aGI 42 cK39 := achk_ok (aCt_ok cP3) (n := 4000) (ann := aAf) (il := aIl) (by decide +kernel)
/-- X1_bringHome -/
noncomputable def cK40 : aK := ([(2, 4, (1, 1)), (0, 0, (0, 5)), (0, 0, ((-2147483648), 2147483647))], (1, ((-2147483648), 2147483647)), [(4, (1, 1), (10, 10)), (23, (1, 1), (0, 9))], 4)
set_option maxRecDepth 100000 in
theorem cT40 : aKP aGI 45 cK40 := achk_ok (aCt_ok cP3) (n := 4000) (ann := aAf) (il := aIl) (by decide +kernel)
/-- X0_penniesWith -/
noncomputable def cK53 : aK := ([(2, 8, (0, 0)), (2, 4, (1, 1)), (0, 0, (0, 5)), (0, 0, (0, 3)), (0, 0, (0, 30))], (1, ((-2147483648), 2147483647)), [], 4)
set_option maxRecDepth 100000 in
theorem cT53 : aKP aGI 51 cK53 := achk_ok (aCt_ok cP3) (n := 4000) (ann := aAf) (il := aIl) (by decide +kernel)
/-- X4_liveWeek -/
noncomputable def cK60 : aK := ([(2, 9, (0, 0)), (2, 4, (1, 1)), (0, 0, (2, 2)), (0, 0, (0, 5)), (0, 0, ((-2147483648), 2147483647)), (0, 0, ((-2147483648), 2147483647))], (0, (0, 0)), [(9, (0, 0), (4, 5)), (23, (7, 10), (0, 9)), (27, (0, 0), (2, 2)), (28, (0, 0), (0, 2))], 4)
set_option maxRecDepth 100000 in
theorem cT60 : aKP aGI 56 cK60 := achk_ok (aCt_ok cP3) (n := 4000) (ann := aAf) (il := aIl) (by decide +kernel)
/-- X5_readNeeds -/
noncomputable def cK74 : aK := ([(2, 3, (0, 0))], (0, (0, 0)), [(3, (0, 0), (3, 4)), (4, (5, 5), (7, 8))], 4)
set_option maxRecDepth 100000 in
theorem cT74 : aKP aGI 62 cK74 := achk_ok (aCt_ok cP3) (n := 4000) (ann := aAf) (il := aIl) (by decide +kernel)
/-- X5_readPacket -/
noncomputable def cK75 : aK := ([(2, 3, (0, 0))], (0, (0, 0)), [(3, (0, 0), (3, 4)), (4, (5, 5), (6, 6)), (18, (5, 5), (0, 5)), (19, (5, 5), (0, 5)), (20, (5, 5), (0, 5)), (21, (5, 5), (0, 5))], 4)
set_option maxRecDepth 100000 in
theorem cT75 : aKP aGI 63 cK75 := achk_ok (aCt_ok cP3) (n := 4000) (ann := aAf) (il := aIl) (by decide +kernel)
/-- X7_shopTakes -/
noncomputable def cK82 : aK := ([(2, 4, (1, 1)), (2, 10, (0, 0)), (0, 0, (0, 1))], (1, ((-2147483648), 2147483647)), [(10, (0, 0), (0, 5))], 4)
set_option maxRecDepth 100000 in
theorem cT82 : aKP aGI 120 cK82 := achk_ok (aCt_ok cP3) (n := 4000) (ann := aAf) (il := aIl) (by decide +kernel)
/-- X7_keep -/
noncomputable def cK103 : aK := ([(2, 0, (0, 0)), (0, 0, ((-2147483648), 2147483647))], (1, ((-4), 40)), [(4, (2, 4), (6, 15)), (6, (0, 0), (0, 2)), (18, (2, 4), (0, 5)), (19, (2, 4), (0, 5)), (20, (2, 4), (0, 5)), (21, (2, 4), (0, 5)), (22, (2, 4), (0, 39)), (23, (2, 4), (0, 9))], 4)
set_option maxRecDepth 100000 in
theorem cT103 : aKP aGI 87 cK103 := achk_ok (aCt_ok cP3) (n := 4000) (ann := aAf) (il := aIl) (by decide +kernel)
/-- X7_on -/
noncomputable def cK104 : aK := ([(2, 0, (0, 0)), (0, 0, ((-2147483648), 2147483647))], (1, ((-3), 40)), [(0, (0, 0), (13, 13)), (4, (1, 1), (6, 15)), (12, (0, 0), (1, 1)), (18, (1, 1), (0, 5)), (19, (1, 1), (0, 5)), (20, (1, 1), (0, 5)), (21, (1, 1), (0, 5)), (22, (1, 1), (0, 39)), (23, (1, 1), (0, 9))], 4)
set_option maxRecDepth 100000 in
theorem cT104 : aKP aGI 88 cK104 := achk_ok (aCt_ok cP3) (n := 4000) (ann := aAf) (il := aIl) (by decide +kernel)
/-- X7_costs -/
noncomputable def cK105 : aK := ([(2, 0, (0, 0)), (0, 0, ((-2147483648), 2147483647)), (0, 0, ((-2147483648), 2147483647))], (1, ((-2147483648), 2147483647)), [], 4)
set_option maxRecDepth 100000 in
theorem cT105 : aKP aGI 89 cK105 := achk_ok (aCt_ok cP3) (n := 4000) (ann := aAf) (il := aIl) (by decide +kernel)
/-- X7_looks -/
noncomputable def cK112 : aK := ([(2, 0, (0, 0)), (0, 0, ((-2147483648), 2147483647)), (0, 0, ((-2147483648), 2147483647))], (1, ((-9), 6)), [(0, (0, 0), (14, 14))], 4)
set_option maxRecDepth 100000 in
theorem cT112 : aKP aGI 98 cK112 := achk_ok (aCt_ok cP3) (n := 4000) (ann := aAf) (il := aIl) (by decide +kernel)
/-- X7_kinds -/
noncomputable def cK113 : aK := ([(2, 0, (0, 0)), (0, 0, ((-2147483648), 2147483647)), (0, 0, ((-2147483648), 2147483647))], (1, ((-2147483648), 2147483647)), [(0, (0, 0), (13, 13)), (12, (0, 0), (1, 5))], 4)
set_option maxRecDepth 100000 in
theorem cT113 : aKP aGI 99 cK113 := achk_ok (aCt_ok cP3) (n := 4000) (ann := aAf) (il := aIl) (by decide +kernel)
/-- X7_prices -/
noncomputable def cK114 : aK := ([(2, 0, (0, 0)), (0, 0, ((-2147483648), 2147483647)), (0, 0, ((-2147483648), 2147483647))], (1, ((-2147483648), 2147483647)), [(0, (0, 0), (13, 14)), (12, (0, 0), (1, 5))], 4)
set_option maxRecDepth 100000 in
theorem cT114 : aKP aGI 100 cK114 := achk_ok (aCt_ok cP3) (n := 4000) (ann := aAf) (il := aIl) (by decide +kernel)
/-- X8_packet -/
noncomputable def cK142 : aK := ([(2, 31, (0, 0)), (0, 0, ((-2147483648), 2147483647)), (0, 0, ((-2147483648), 2147483647))], (1, ((-1), 1)), [(31, (0, 0), (10, 10))], 5)
set_option maxRecDepth 100000 in
theorem cT142 : aKP aGI 158 cK142 := achk_ok (aCt_ok cP3) (n := 4000) (ann := aAf) (il := aIl) (by decide +kernel)
/-- X8_buy -/
noncomputable def cK154 : aK := ([(2, 31, (0, 0)), (0, 0, ((-2147483648), 2147483647)), (0, 0, ((-2147483648), 2147483647))], (1, ((-2147483648), 2147483647)), [(32, (0, 0), (0, 0)), (32, (0, 0), (2, 2)), (32, (0, 0), (7, 16)), (32, (0, 0), (29, 1148))], 5)
set_option maxRecDepth 100000 in
theorem cT154 : aKP aGI 166 cK154 := achk_ok (aCt_ok cP3) (n := 4000) (ann := aAf) (il := aIl) (by decide +kernel)
/-- X8_larger -/
noncomputable def cK162 : aK := ([(2, 31, (0, 0))], (1, ((-2147483648), 2147483647)), [(31, (0, 0), (10, 10))], 5)
set_option maxRecDepth 100000 in
theorem cT162 : aKP aGI 182 cK162 := achk_ok (aCt_ok cP3) (n := 4000) (ann := aAf) (il := aIl) (by decide +kernel)
/-- X8_isWell -/
noncomputable def cK168 : aK := ([(2, 31, (0, 0)), (0, 0, (0, 342)), (0, 0, (0, 3))], (1, (0, 1)), [(32, (0, 0), (4596, 4624))], 5)
set_option maxRecDepth 100000 in
theorem cT168 : aKP aGI 187 cK168 := achk_ok (aCt_ok cP3) (n := 4000) (ann := aAf) (il := aIl) (by decide +kernel)
/-- X8_leastWorth -/
noncomputable def cK178 : aK := ([(2, 31, (0, 0)), (0, 0, (0, 2))], (1, ((-2147483648), 2147483647)), [], 4)
set_option maxRecDepth 100000 in
theorem cT178 : aKP aGI 200 cK178 := achk_ok (aCt_ok cP3) (n := 4000) (ann := aAf) (il := aIl) (by decide +kernel)
/-- X8_count -/
noncomputable def cK188 : aK := ([(2, 31, (0, 0)), (0, 0, ((-2147483648), 2147483647))], (1, ((-2147483648), 2147483647)), [], 4)
set_option maxRecDepth 100000 in
theorem cT188 : aKP aGI 214 cK188 := achk_ok (aCt_ok cP3) (n := 4000) (ann := aAf) (il := aIl) (by decide +kernel)
/-- X8_digest -/
noncomputable def cK191 : aK := ([(2, 31, (0, 0))], (2, ((-9223372036854775808), 9223372036854775807)), [], 5)
set_option maxRecDepth 100000 in
theorem cT191 : aKP aGI 217 cK191 := achk_ok (aCt_ok cP3) (n := 4000) (ann := aAf) (il := aIl) (by decide +kernel)
noncomputable def cL4 : List (Nat × aK) := (38, cK34) :: (40, cK36) :: (41, cK37) :: (42, cK39) :: (45, cK40) :: (51, cK53) :: (56, cK60) :: (62, cK74) :: (63, cK75) :: (120, cK82) :: (87, cK103) :: (88, cK104) :: (89, cK105) :: (98, cK112) :: (99, cK113) :: (100, cK114) :: (158, cK142) :: (166, cK154) :: (182, cK162) :: (187, cK168) :: (200, cK178) :: (214, cK188) :: (217, cK191) :: cL3
set_option maxRecDepth 100000 in
theorem cP4 : ∀ q ∈ cL4, aKP aGI q.1 q.2 := aFm cT34 (aFm cT36 (aFm cT37 (aFm cT39 (aFm cT40 (aFm cT53 (aFm cT60 (aFm cT74 (aFm cT75 (aFm cT82 (aFm cT103 (aFm cT104 (aFm cT105 (aFm cT112 (aFm cT113 (aFm cT114 (aFm cT142 (aFm cT154 (aFm cT162 (aFm cT168 (aFm cT178 (aFm cT188 (aFm cT191 (cP3)))))))))))))))))))))))
end
section
/-- X1_isLargerOneDearer -/
noncomputable def cK35 : aK := ([(2, 4, (1, 1)), (0, 0, (0, 5)), (0, 0, (0, 5))], (1, (0, 1)), [], 5)
set_option maxRecDepth 100000 in
theorem cT35 : aKP aGI 39 cK35 := achk_ok (aCt_ok cP4) (n := 4000) (ann := aAf) (il := aIl) (by decide +kernel)
/-- X1_performLot -/
noncomputable def cK50 : aK := ([(2, 4, (1, 1)), (1, 0, (0, 2147483646))], (0, (0, 0)), [(4, (1, 1), (9, 13)), (4, (1, 1), (15, 15)), (19, (1, 1), (0, 5)), (22, (1, 1), (0, 39)), (23, (1, 1), (0, 9))], 6)
set_option maxRecDepth 100000 in
theorem cT50 : aKP aGI 47 cK50 := achk_ok (aCt_ok cP4) (n := 4000) (ann := aAf) (il := aIl) (by decide +kernel)
/-- X0_leastFrom -/
noncomputable def cK54 : aK := ([(2, 8, (0, 0)), (2, 4, (1, 1)), (0, 0, (0, 5)), (0, 0, (0, 30))], (1, ((-2147483648), 1000000)), [], 5)
set_option maxRecDepth 100000 in
theorem cT54 : aKP aGI 50 cK54 := achk_ok (aCt_ok cP4) (n := 4000) (ann := aAf) (il := aIl) (by decide +kernel)
/-- X0_firstNumber -/
noncomputable def cK56 : aK := ([(2, 8, (0, 0)), (2, 4, (1, 1)), (0, 0, (0, 5)), (0, 0, (0, 30))], (1, (0, 3)), [], 5)
set_option maxRecDepth 100000 in
theorem cT56 : aKP aGI 53 cK56 := achk_ok (aCt_ok cP4) (n := 4000) (ann := aAf) (il := aIl) (by decide +kernel)
/-- X4_goOn -/
noncomputable def cK61 : aK := ([(2, 9, (0, 0)), (2, 4, (1, 1)), (0, 0, (2, 2)), (0, 0, ((-2147483648), 2147483647)), (0, 0, ((-2147483648), 2147483647))], (0, (0, 0)), [(9, (0, 0), (4, 5)), (23, (7, 10), (0, 9)), (27, (0, 0), (2, 2)), (28, (0, 0), (0, 2))], 5)
set_option maxRecDepth 100000 in
theorem cT61 : aKP aGI 55 cK61 := achk_ok (aCt_ok cP4) (n := 4000) (ann := aAf) (il := aIl) (by decide +kernel)
/-- X5_read -/
noncomputable def cK77 : aK := ([(2, 3, (0, 0)), (2, 2, (0, 0)), (0, 0, (0, 3))], (1, ((-2147483648), 2147483647)), [(3, (0, 0), (2, 4)), (4, (5, 5), (6, 8)), (17, (0, 0), (0, 59)), (18, (5, 5), (0, 5)), (19, (5, 5), (0, 5)), (20, (5, 5), (0, 5)), (21, (5, 5), (0, 5))], 5)
set_option maxRecDepth 100000 in
theorem cT77 : aKP aGI 58 cK77 := achk_ok (aCt_ok cP4) (n := 4000) (ann := aAf) (il := aIl) (by decide +kernel)
/-- X7_shopTakes -/
noncomputable def cK83 : aK := ([(2, 4, (1, 1)), (2, 10, (0, 0)), (0, 0, (0, 2))], (1, ((-2147483648), 2147483647)), [(10, (0, 0), (0, 5))], 5)
set_option maxRecDepth 100000 in
theorem cT83 : aKP aGI 120 cK83 := achk_ok (aCt_ok cP4) (n := 4000) (ann := aAf) (il := aIl) (by decide +kernel)
/-- X7_counted -/
noncomputable def cK85 : aK := ([(2, 0, (0, 0)), (0, 0, ((-2147483648), 2147483647))], (1, ((-2147483648), 2147483647)), [], 5)
set_option maxRecDepth 100000 in
theorem cT85 : aKP aGI 114 cK85 := achk_ok (aCt_ok cP4) (n := 4000) (ann := aAf) (il := aIl) (by decide +kernel)
/-- X7_packet -/
noncomputable def cK95 : aK := ([(2, 0, (0, 0)), (0, 0, ((-2147483648), 2147483647)), (0, 0, ((-2147483648), 2147483647))], (1, ((-1), 1)), [(0, (0, 0), (14, 14))], 5)
set_option maxRecDepth 100000 in
theorem cT95 : aKP aGI 78 cK95 := achk_ok (aCt_ok cP4) (n := 4000) (ann := aAf) (il := aIl) (by decide +kernel)
/-- X7_mark -/
noncomputable def cK96 : aK := ([(2, 0, (0, 0)), (0, 0, ((-2147483648), 2147483647)), (0, 0, ((-2147483648), 2147483647))], (1, ((-2147483648), 2147483647)), [(0, (0, 0), (13, 13)), (12, (0, 0), (3, 3))], 5)
set_option maxRecDepth 100000 in
theorem cT96 : aKP aGI 79 cK96 := achk_ok (aCt_ok cP4) (n := 4000) (ann := aAf) (il := aIl) (by decide +kernel)
/-- X7_buy -/
noncomputable def cK98 : aK := ([(2, 0, (0, 0)), (0, 0, ((-2147483648), 2147483647)), (0, 0, ((-2147483648), 2147483647))], (1, ((-2147483648), 2147483647)), [(4, (1, 1), (10, 10)), (4, (1, 1), (15, 15)), (22, (1, 1), (0, 39)), (23, (1, 1), (0, 9))], 6)
set_option maxRecDepth 100000 in
theorem cT98 : aKP aGI 81 cK98 := achk_ok (aCt_ok cP4) (n := 4000) (ann := aAf) (il := aIl) (by decide +kernel)
/-- X8_waste -/
noncomputable def cK169 : aK := ([(2, 31, (0, 0)), (0, 0, ((-2147483648), 2147483647))], (1, ((-2147483648), 2147483647)), [(32, (0, 0), (4596, 4624))], 6)
set_option maxRecDepth 100000 in
theorem cT169 : aKP aGI 189 cK169 := achk_ok (aCt_ok cP4) (n := 4000) (ann := aAf) (il := aIl) (by decide +kernel)
/-- X8_lastShop -/
noncomputable def cK179 : aK := ([(2, 31, (0, 0)), (0, 0, (0, 1))], (1, ((-99999), 2147483647)), [(41, (0, 0), (6, 17))], 5)
set_option maxRecDepth 100000 in
theorem cT179 : aKP aGI 201 cK179 := achk_ok (aCt_ok cP4) (n := 4000) (ann := aAf) (il := aIl) (by decide +kernel)
noncomputable def cL5 : List (Nat × aK) := (39, cK35) :: (47, cK50) :: (50, cK54) :: (53, cK56) :: (55, cK61) :: (58, cK77) :: (120, cK83) :: (114, cK85) :: (78, cK95) :: (79, cK96) :: (81, cK98) :: (189, cK169) :: (201, cK179) :: cL4
set_option maxRecDepth 100000 in
theorem cP5 : ∀ q ∈ cL5, aKP aGI q.1 q.2 := aFm cT35 (aFm cT50 (aFm cT54 (aFm cT56 (aFm cT61 (aFm cT77 (aFm cT83 (aFm cT85 (aFm cT95 (aFm cT96 (aFm cT98 (aFm cT169 (aFm cT179 (cP4)))))))))))))
end
section
/-- X0_fill -/
noncomputable def cK55 : aK := ([(2, 8, (0, 0)), (2, 4, (1, 1)), (0, 0, (0, 30))], (1, ((-2147483648), 2147483647)), [(25, (0, 5), (0, 30)), (25, (0, 6), (0, 30))], 6)
set_option maxRecDepth 100000 in
theorem cT55 : aKP aGI 49 cK55 := achk_ok (aCt_ok cP5) (n := 4000) (ann := aAf) (il := aIl) (by decide +kernel)
/-- X4_liveWeek -/
noncomputable def cK62 : aK := ([(2, 9, (0, 0)), (2, 4, (1, 1)), (0, 0, (1, 1)), (0, 0, ((-9), (-9))), (0, 0, ((-2147483648), 2147483647)), (0, 0, ((-2147483648), 2147483647))], (0, (0, 0)), [(9, (0, 0), (4, 5)), (23, (7, 10), (0, 9)), (27, (0, 0), (1, 2)), (28, (0, 0), (0, 2))], 6)
set_option maxRecDepth 100000 in
theorem cT62 : aKP aGI 56 cK62 := achk_ok (aCt_ok cP5) (n := 4000) (ann := aAf) (il := aIl) (by decide +kernel)
/-- X4_liveWeek -/
noncomputable def cK63 : aK := ([(2, 9, (0, 0)), (2, 4, (1, 1)), (0, 0, (1, 1)), (0, 0, (0, 5)), (0, 0, ((-2147483648), 2147483647)), (0, 0, ((-2147483648), 2147483647))], (0, (0, 0)), [(9, (0, 0), (4, 5)), (23, (7, 10), (0, 9)), (27, (0, 0), (1, 2)), (28, (0, 0), (0, 2))], 6)
set_option maxRecDepth 100000 in
theorem cT63 : aKP aGI 56 cK63 := achk_ok (aCt_ok cP5) (n := 4000) (ann := aAf) (il := aIl) (by decide +kernel)
/-- X7_fault -/
noncomputable def cK93 : aK := ([(2, 0, (0, 0)), (0, 0, ((-2147483648), 2147483647))], (1, ((-2147483648), 2147483647)), [(0, (0, 0), (13, 13)), (3, (0, 0), (2, 4)), (4, (5, 5), (6, 8)), (12, (0, 0), (1, 1)), (17, (0, 0), (0, 59)), (18, (5, 5), (0, 5)), (19, (5, 5), (0, 5)), (20, (5, 5), (0, 5)), (21, (5, 5), (0, 5))], 6)
set_option maxRecDepth 100000 in
theorem cT93 : aKP aGI 76 cK93 := achk_ok (aCt_ok cP5) (n := 4000) (ann := aAf) (il := aIl) (by decide +kernel)
/-- X7_house -/
noncomputable def cK94 : aK := ([(2, 0, (0, 0)), (0, 0, ((-2147483648), 2147483647))], (1, ((-4), 6)), [(0, (0, 0), (13, 13)), (3, (0, 0), (2, 4)), (4, (0, 0), (6, 15)), (4, (1, 1), (6, 15)), (4, (5, 5), (6, 8)), (6, (0, 0), (0, 2)), (12, (0, 0), (1, 1)), (17, (0, 0), (0, 59)), (18, (0, 0), (0, 5)), (18, (1, 1), (0, 5)), (18, (5, 5), (0, 5)), (19, (0, 0), (0, 5)), (19, (1, 1), (0, 5)), (19, (5, 5), (0, 5)), (20, (0, 0), (0, 5)), (20, (1, 1), (0, 5)), (20, (5, 5), (0, 5)), (21, (0, 0), (0, 5)), (21, (1, 1), (0, 5)), (21, (5, 5), (0, 5)), (22, (0, 0), (0, 39)), (22, (1, 1), (0, 39)), (23, (0, 0), (0, 9)), (23, (1, 1), (0, 9))], 6)
set_option maxRecDepth 100000 in
theorem cT94 : aKP aGI 77 cK94 := achk_ok (aCt_ok cP5) (n := 4000) (ann := aAf) (il := aIl) (by decide +kernel)
/-- X7_larger -/
noncomputable def cK106 : aK := ([(2, 0, (0, 0))], (1, ((-2147483648), 2147483647)), [(0, (0, 0), (14, 14))], 6)
set_option maxRecDepth 100000 in
theorem cT106 : aKP aGI 92 cK106 := achk_ok (aCt_ok cP5) (n := 4000) (ann := aAf) (il := aIl) (by decide +kernel)
/-- X7_shop -/
noncomputable def cK116 : aK := ([(2, 0, (0, 0)), (0, 0, ((-2147483648), 2147483647))], (1, ((-4), 1)), [(0, (0, 0), (14, 14)), (10, (0, 0), (0, 5))], 6)
set_option maxRecDepth 100000 in
theorem cT116 : aKP aGI 102 cK116 := achk_ok (aCt_ok cP5) (n := 4000) (ann := aAf) (il := aIl) (by decide +kernel)
/-- X7_lots -/
noncomputable def cK117 : aK := ([(2, 0, (0, 0)), (0, 0, ((-2147483648), 2147483647)), (0, 0, ((-2147483648), 2147483647))], (1, ((-2147483648), 2147483647)), [(4, (1, 1), (9, 13)), (4, (1, 1), (15, 15)), (19, (1, 1), (0, 5)), (22, (1, 1), (0, 39)), (23, (1, 1), (0, 9))], 7)
set_option maxRecDepth 100000 in
theorem cT117 : aKP aGI 105 cK117 := achk_ok (aCt_ok cP5) (n := 4000) (ann := aAf) (il := aIl) (by decide +kernel)
/-- X7_count -/
noncomputable def cK121 : aK := ([(2, 0, (0, 0)), (0, 0, ((-2147483648), 2147483647))], (1, ((-2147483648), 2147483647)), [], 6)
set_option maxRecDepth 100000 in
theorem cT121 : aKP aGI 109 cK121 := achk_ok (aCt_ok cP5) (n := 4000) (ann := aAf) (il := aIl) (by decide +kernel)
/-- X7_digest -/
noncomputable def cK124 : aK := ([(2, 0, (0, 0))], (2, ((-9223372036854775808), 9223372036854775807)), [], 6)
set_option maxRecDepth 100000 in
theorem cT124 : aKP aGI 112 cK124 := achk_ok (aCt_ok cP5) (n := 4000) (ann := aAf) (il := aIl) (by decide +kernel)
/-- X8_firstShop -/
noncomputable def cK180 : aK := ([(2, 31, (0, 0))], (1, ((-99999), 2147483647)), [(41, (0, 0), (6, 17))], 6)
set_option maxRecDepth 100000 in
theorem cT180 : aKP aGI 202 cK180 := achk_ok (aCt_ok cP5) (n := 4000) (ann := aAf) (il := aIl) (by decide +kernel)
noncomputable def cL6 : List (Nat × aK) := (49, cK55) :: (56, cK62) :: (56, cK63) :: (76, cK93) :: (77, cK94) :: (92, cK106) :: (102, cK116) :: (105, cK117) :: (109, cK121) :: (112, cK124) :: (202, cK180) :: cL5
set_option maxRecDepth 100000 in
theorem cP6 : ∀ q ∈ cL6, aKP aGI q.1 q.2 := aFm cT55 (aFm cT62 (aFm cT63 (aFm cT93 (aFm cT94 (aFm cT106 (aFm cT116 (aFm cT117 (aFm cT121 (aFm cT124 (aFm cT180 (cP5)))))))))))
end
section
/-- X4_goOn -/
noncomputable def cK64 : aK := ([(2, 9, (0, 0)), (2, 4, (1, 1)), (0, 0, (1, 1)), (0, 0, ((-2147483648), 2147483647)), (0, 0, ((-2147483648), 2147483647))], (0, (0, 0)), [(9, (0, 0), (4, 5)), (23, (7, 10), (0, 9)), (27, (0, 0), (1, 2)), (28, (0, 0), (0, 2))], 7)
set_option maxRecDepth 100000 in
theorem cT64 : aKP aGI 55 cK64 := achk_ok (aCt_ok cP6) (n := 4000) (ann := aAf) (il := aIl) (by decide +kernel)
/-- X7_least -/
noncomputable def cK107 : aK := ([(2, 0, (0, 0)), (0, 0, ((-2147483648), 2147483647)), (0, 0, ((-2147483648), 2147483647))], (1, ((-2147483648), 999999)), [(14, (0, 0), (0, 5)), (25, (0, 6), (0, 30)), (29, (0, 5), (0, 39))], 7)
set_option maxRecDepth 100000 in
theorem cT107 : aKP aGI 93 cK107 := achk_ok (aCt_ok cP6) (n := 4000) (ann := aAf) (il := aIl) (by decide +kernel)
/-- X8_shop -/
noncomputable def cK181 : aK := ([(2, 31, (0, 0)), (0, 0, ((-2147483648), 2147483647))], (1, ((-4), 1)), [(31, (0, 0), (10, 10)), (41, (0, 0), (0, 17))], 7)
set_option maxRecDepth 100000 in
theorem cT181 : aKP aGI 203 cK181 := achk_ok (aCt_ok cP6) (n := 4000) (ann := aAf) (il := aIl) (by decide +kernel)
noncomputable def cL7 : List (Nat × aK) := (55, cK64) :: (93, cK107) :: (203, cK181) :: cL6
set_option maxRecDepth 100000 in
theorem cP7 : ∀ q ∈ cL7, aKP aGI q.1 q.2 := aFm cT64 (aFm cT107 (aFm cT181 (cP6)))
end
section
/-- X4_liveWeek -/
noncomputable def cK65 : aK := ([(2, 9, (0, 0)), (2, 4, (1, 1)), (0, 0, (0, 0)), (0, 0, ((-9), (-9))), (0, 0, ((-2147483648), 2147483647)), (0, 0, ((-2147483648), 2147483647))], (0, (0, 0)), [(9, (0, 0), (4, 5)), (23, (7, 10), (0, 9)), (27, (0, 0), (0, 2)), (28, (0, 0), (0, 2))], 8)
set_option maxRecDepth 100000 in
theorem cT65 : aKP aGI 56 cK65 := achk_ok (aCt_ok cP7) (n := 4000) (ann := aAf) (il := aIl) (by decide +kernel)
/-- X4_liveWeek -/
noncomputable def cK66 : aK := ([(2, 9, (0, 0)), (2, 4, (1, 1)), (0, 0, (0, 0)), (0, 0, (0, 5)), (0, 0, ((-2147483648), 2147483647)), (0, 0, ((-2147483648), 2147483647))], (0, (0, 0)), [(9, (0, 0), (4, 5)), (23, (7, 10), (0, 9)), (27, (0, 0), (0, 2)), (28, (0, 0), (0, 2))], 8)
set_option maxRecDepth 100000 in
theorem cT66 : aKP aGI 56 cK66 := achk_ok (aCt_ok cP7) (n := 4000) (ann := aAf) (il := aIl) (by decide +kernel)
noncomputable def cL8 : List (Nat × aK) := (56, cK65) :: (56, cK66) :: cL7
set_option maxRecDepth 100000 in
theorem cP8 : ∀ q ∈ cL8, aKP aGI q.1 q.2 := aFm cT65 (aFm cT66 (cP7))
end
section
/-- X4_goOn -/
noncomputable def cK67 : aK := ([(2, 9, (0, 0)), (2, 4, (1, 1)), (0, 0, (0, 0)), (0, 0, ((-2147483648), 2147483647)), (0, 0, ((-2147483648), 2147483647))], (0, (0, 0)), [(9, (0, 0), (4, 5)), (23, (7, 10), (0, 9)), (27, (0, 0), (0, 2)), (28, (0, 0), (0, 2))], 9)
set_option maxRecDepth 100000 in
theorem cT67 : aKP aGI 55 cK67 := achk_ok (aCt_ok cP8) (n := 4000) (ann := aAf) (il := aIl) (by decide +kernel)
noncomputable def cL9 : List (Nat × aK) := (55, cK67) :: cL8
set_option maxRecDepth 100000 in
theorem cP9 : ∀ q ∈ cL9, aKP aGI q.1 q.2 := aFm cT67 (cP8)
end
section
/-- X4_search -/
noncomputable def cK68 : aK := ([(2, 9, (0, 0)), (2, 4, (1, 1)), (0, 0, (0, 3))], (0, (0, 0)), [(9, (0, 0), (3, 5)), (23, (7, 10), (0, 9)), (27, (0, 0), (0, 2)), (28, (0, 0), (0, 2))], 10)
set_option maxRecDepth 100000 in
theorem cT68 : aKP aGI 54 cK68 := achk_ok (aCt_ok cP9) (n := 4000) (ann := aAf) (il := aIl) (by decide +kernel)
noncomputable def cL10 : List (Nat × aK) := (54, cK68) :: cL9
set_option maxRecDepth 100000 in
theorem cP10 : ∀ q ∈ cL10, aKP aGI q.1 q.2 := aFm cT68 (cP9)
end
section
/-- X7_weeks -/
noncomputable def cK108 : aK := ([(2, 0, (0, 0)), (0, 0, ((-2147483648), 2147483647)), (0, 0, ((-2147483648), 2147483647))], (1, ((-2147483648), 999999)), [(9, (0, 0), (3, 5)), (14, (0, 0), (0, 5)), (23, (7, 10), (0, 9)), (27, (0, 0), (0, 2)), (28, (0, 0), (0, 2)), (29, (0, 5), (0, 39))], 11)
set_option maxRecDepth 100000 in
theorem cT108 : aKP aGI 94 cK108 := achk_ok (aCt_ok cP10) (n := 4000) (ann := aAf) (il := aIl) (by decide +kernel)
/-- X7_waste -/
noncomputable def cK109 : aK := ([(2, 0, (0, 0)), (0, 0, ((-2147483648), 2147483647))], (1, ((-2147483648), 999999)), [(9, (0, 0), (3, 5)), (23, (7, 10), (0, 9)), (27, (0, 0), (0, 2)), (28, (0, 0), (0, 2))], 11)
set_option maxRecDepth 100000 in
theorem cT109 : aKP aGI 95 cK109 := achk_ok (aCt_ok cP10) (n := 4000) (ann := aAf) (il := aIl) (by decide +kernel)
noncomputable def cL11 : List (Nat × aK) := (94, cK108) :: (95, cK109) :: cL10
set_option maxRecDepth 100000 in
theorem cP11 : ∀ q ∈ cL11, aKP aGI q.1 q.2 := aFm cT108 (aFm cT109 (cP10))
end
