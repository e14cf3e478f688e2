/-- X1_compareRates -/
noncomputable def cK34 : aK := ([(2, 4, (1, 1)), (0, 0, (0, 5)), (0, 0, (0, 5))], (1, ((-1), 1)), [], 4)
set_option maxRecDepth 100000 in
theorem cT34 : aKP aGI 38 cK34 := achk_ok (aCt_ok cP3) (n := 4000) (ann := aAf) (il := aIl) (by decide +kernel)
/-- X1_tell -/
noncomputable def cK36 : aK := ([(2, 4, (1, 1)), (0, 0, (0, 5)), (0, 0, ((-2147483648), 2147483647))], (1, ((-2147483648), 2147483647)), [], 4)
set_option maxRecDepth 100000 in
theorem cT36 : aKP aGI 40 cK36 := achk_ok (aCt_ok cP3) (n := 4000) (ann := aAf) (il := aIl) (by decide +kernel)
/-- X1_markOf -/
noncomputable def cK37 : aK := ([(2, 4, (1, 1)), (0, 0, (0, 5)), (0, 0, ((-2147483648), 2147483647))], (1, ((-2147483648), 2147483647)), [], 4)
set_option maxRecDepth 100000 in
theorem cT37 : aKP aGI 41 cK37 := achk_ok (aCt_ok cP3) (n := 4000) (ann := aAf) (il := aIl) (by decide +kernel)
/-- X1_counted -/
noncomputable def cK39 : aK := ([(2, 4, (1, 1)), (0, 0, ((-2147483648), 2147483647))], (1, ((-2147483648), 2147483647)), [], 4)
set_option maxRecDepth 100000 in
theorem cT39 : aKP aGI 42 cK39 := achk_ok (aCt_ok cP3) (n := 4000) (ann := aAf) (il := aIl) (by decide +kernel)
/-- X1_bringHome -/
noncomputable def cK40 : aK := ([(2, 4, (1, 1)), (0, 0, (0, 5)), (0, 0, ((-2147483648), 2147483647))], (1, ((-2147483648), 2147483647)), [(4, (1, 1), (10, 10)), (23, (1, 1), (0, 9))], 4)
set_option maxRecDepth 100000 in
theorem cT40 : aKP aGI 45 cK40 := achk_ok (aCt_ok cP3) (n := 4000) (ann := aAf) (il := aIl) (by decide +kernel)
/-- X0_penniesWith -/
noncomputable def cK53 : aK := ([(2, 8, (0, 0)), (2, 4, (1, 1)), (0, 0, (0, 5)), (0, 0, (0, 3)), (0, 0, (0, 30))], (1, ((-2147483648), 2147483647)), [], 4)
set_option maxRecDepth 100000 in
theorem cT53 : aKP aGI 51 cK53 := achk_ok (aCt_ok cP3) (n := 4000) (ann := aAf) (il := aIl) (by decide +kernel)
/-- X4_liveWeek -/
noncomputable def cK60 : aK := ([(2, 9, (0, 0)), (2, 4, (1, 1)), (0, 0, (2, 2)), (0, 0, (0, 5)), (0, 0, ((-2147483648), 2147483647)), (0, 0, ((-2147483648), 2147483647))], (0, (0, 0)), [(9, (0, 0), (4, 5)), (23, (7, 10), (0, 9)), (27, (0, 0), (2, 2)), (28, (0, 0), (0, 2))], 4)
set_option maxRecDepth 100000 in
theorem cT60 : aKP aGI 56 cK60 := achk_ok (aCt_ok cP3) (n := 4000) (ann := aAf) (il := aIl) (by decide +kernel)
/-- X5_readNeeds -/
noncomputable def cK74 : aK := ([(2, 3, (0, 0))], (0, (0, 0)), [(3, (0, 0), (3, 4)), (4, (5, 5), (7, 8))], 4)
set_option maxRecDepth 100000 in
theorem cT74 : aKP aGI 62 cK74 := achk_ok (aCt_ok cP3) (n := 4000) (ann := aAf) (il := aIl) (by decide +kernel)
/-- X5_readPacket -/
noncomputable def cK75 : aK := ([(2, 3, (0, 0))], (0, (0, 0)), [(3, (0, 0), (3, 4)), (4, (5, 5), (6, 6)), (18, (5, 5), (0, 5)), (19, (5, 5), (0, 5)), (20, (5, 5), (0, 5)), (21, (5, 5), (0, 5))], 4)
set_option maxRecDepth 100000 in
theorem cT75 : aKP aGI 63 cK75 := achk_ok (aCt_ok cP3) (n := 4000) (ann := aAf) (il := aIl) (by decide +kernel)
/-- X7_shopTakes -/
noncomputable def cK82 : aK := ([(2, 4, (1, 1)), (2, 10, (0, 0)), (0, 0, (0, 1))], (1, ((-2147483648), 2147483647)), [(10, (0, 0), (0, 5))], 4)
set_option maxRecDepth 100000 in
theorem cT82 : aKP aGI 120 cK82 := achk_ok (aCt_ok cP3) (n := 4000) (ann := aAf) (il := aIl) (by decide +kernel)
/-- X7_keep -/
noncomputable def cK103 : aK := ([(2, 0, (0, 0)), (0, 0, ((-2147483648), 2147483647))], (1, ((-4), 40)), [(4, (2, 4), (6, 15)), (6, (0, 0), (0, 2)), (18, (2, 4), (0, 5)), (19, (2, 4), (0, 5)), (20, (2, 4), (0, 5)), (21, (2, 4), (0, 5)), (22, (2, 4), (0, 39)), (23, (2, 4), (0, 9))], 4)
set_option maxRecDepth 100000 in
theorem cT103 : aKP aGI 87 cK103 := achk_ok (aCt_ok cP3) (n := 4000) (ann := aAf) (il := aIl) (by decide +kernel)
/-- X7_on -/
noncomputable def cK104 : aK := ([(2, 0, (0, 0)), (0, 0, ((-2147483648), 2147483647))], (1, ((-3), 40)), [(0, (0, 0), (13, 13)), (4, (1, 1), (6, 15)), (12, (0, 0), (1, 1)), (18, (1, 1), (0, 5)), (19, (1, 1), (0, 5)), (20, (1, 1), (0, 5)), (21, (1, 1), (0, 5)), (22, (1, 1), (0, 39)), (23, (1, 1), (0, 9))], 4)
set_option maxRecDepth 100000 in
theorem cT104 : aKP aGI 88 cK104 := achk_ok (aCt_ok cP3) (n := 4000) (ann := aAf) (il := aIl) (by decide +kernel)
/-- X7_costs -/
noncomputable def cK105 : aK := ([(2, 0, (0, 0)), (0, 0, ((-2147483648), 2147483647)), (0, 0, ((-2147483648), 2147483647))], (1, ((-2147483648), 2147483647)), [], 4)
set_option maxRecDepth 100000 in
theorem cT105 : aKP aGI 89 cK105 := achk_ok (aCt_ok cP3) (n := 4000) (ann := aAf) (il := aIl) (by decide +kernel)
/-- X7_looks -/
noncomputable def cK112 : aK := ([(2, 0, (0, 0)), (0, 0, ((-2147483648), 2147483647)), (0, 0, ((-2147483648), 2147483647))], (1, ((-9), 6)), [(0, (0, 0), (14, 14))], 4)
set_option maxRecDepth 100000 in
theorem cT112 : aKP aGI 98 cK112 := achk_ok (aCt_ok cP3) (n := 4000) (ann := aAf) (il := aIl) (by decide +kernel)
/-- X7_kinds -/
noncomputable def cK113 : aK := ([(2, 0, (0, 0)), (0, 0, ((-2147483648), 2147483647)), (0, 0, ((-2147483648), 2147483647))], (1, ((-2147483648), 2147483647)), [(0, (0, 0), (13, 13)), (12, (0, 0), (1, 5))], 4)
set_option maxRecDepth 100000 in
theorem cT113 : aKP aGI 99 cK113 := achk_ok (aCt_ok cP3) (n := 4000) (ann := aAf) (il := aIl) (by decide +kernel)
/-- X7_prices -/
noncomputable def cK114 : aK := ([(2, 0, (0, 0)), (0, 0, ((-2147483648), 2147483647)), (0, 0, ((-2147483648), 2147483647))], (1, ((-2147483648), 2147483647)), [(0, (0, 0), (13, 14)), (12, (0, 0), (1, 5))], 4)
set_option maxRecDepth 100000 in
theorem cT114 : aKP aGI 100 cK114 := achk_ok (aCt_ok cP3) (n := 4000) (ann := aAf) (il := aIl) (by decide +kernel)
/-- X8_packet -/
noncomputable def cK142 : aK := ([(2, 31, (0, 0)), (0, 0, ((-2147483648), 2147483647)), (0, 0, ((-2147483648), 2147483647))], (1, ((-1), 1)), [(31, (0, 0), (10, 10))], 5)
set_option maxRecDepth 100000 in
theorem cT142 : aKP aGI 158 cK142 := achk_ok (aCt_ok cP3) (n := 4000) (ann := aAf) (il := aIl) (by decide +kernel)
/-- X8_buy -/
noncomputable def cK154 : aK := ([(2, 31, (0, 0)), (0, 0, ((-2147483648), 2147483647)), (0, 0, ((-2147483648), 2147483647))], (1, ((-2147483648), 2147483647)), [(32, (0, 0), (0, 0)), (32, (0, 0), (2, 2)), (32, (0, 0), (7, 16)), (32, (0, 0), (29, 1148))], 5)
set_option maxRecDepth 100000 in
theorem cT154 : aKP aGI 166 cK154 := achk_ok (aCt_ok cP3) (n := 4000) (ann := aAf) (il := aIl) (by decide +kernel)
/-- X8_larger -/
noncomputable def cK162 : aK := ([(2, 31, (0, 0))], (1, ((-2147483648), 2147483647)), [(31, (0, 0), (10, 10))], 5)
set_option maxRecDepth 100000 in
theorem cT162 : aKP aGI 182 cK162 := achk_ok (aCt_ok cP3) (n := 4000) (ann := aAf) (il := aIl) (by decide +kernel)
/-- X8_isWell -/
noncomputable def cK168 : aK := ([(2, 31, (0, 0)), (0, 0, (0, 342)), (0, 0, (0, 3))], (1, (0, 1)), [(32, (0, 0), (4596, 4624))], 5)
set_option maxRecDepth 100000 in
theorem cT168 : aKP aGI 187 cK168 := achk_ok (aCt_ok cP3) (n := 4000) (ann := aAf) (il := aIl) (by decide +kernel)
/-- X8_leastWorth -/
noncomputable def cK178 : aK := ([(2, 31, (0, 0)), (0, 0, (0, 2))], (1, ((-2147483648), 2147483647)), [], 4)
set_option maxRecDepth 100000 in
theorem cT178 : aKP aGI 200 cK178 := achk_ok (aCt_ok cP3) (n := 4000) (ann := aAf) (il := aIl) (by decide +kernel)
/-- X8_count -/
noncomputable def cK188 : aK := ([(2, 31, (0, 0)), (0, 0, ((-2147483648), 2147483647))], (1, ((-2147483648), 2147483647)), [], 4)
set_option maxRecDepth 100000 in
theorem cT188 : aKP aGI 214 cK188 := achk_ok (aCt_ok cP3) (n := 4000) (ann := aAf) (il := aIl) (by decide +kernel)
/-- X8_digest -/
noncomputable def cK191 : aK := ([(2, 31, (0, 0))], (2, ((-9223372036854775808), 9223372036854775807)), [], 5)
set_option maxRecDepth 100000 in
theorem cT191 : aKP aGI 217 cK191 := achk_ok (aCt_ok cP3) (n := 4000) (ann := aAf) (il := aIl) (by decide +kernel)
noncomputable def cL4 : List (Nat × aK) := (38, cK34) :: (40, cK36) :: (41, cK37) :: (42, cK39) :: (45, cK40) :: (51, cK53) :: (56, cK60) :: (62, cK74) :: (63, cK75) :: (120, cK82) :: (87, cK103) :: (88, cK104) :: (89, cK105) :: (98, cK112) :: (99, cK113) :: (100, cK114) :: (158, cK142) :: (166, cK154) :: (182, cK162) :: (187, cK168) :: (200, cK178) :: (214, cK188) :: (217, cK191) :: cL3
set_option maxRecDepth 100000 in
theorem cP4 : ∀ q ∈ cL4, aKP aGI q.1 q.2 := aFm cT34 (aFm cT36 (aFm cT37 (aFm cT39 (aFm cT40 (aFm cT53 (aFm cT60 (aFm cT74 (aFm cT75 (aFm cT82 (aFm cT103 (aFm cT104 (aFm cT105 (aFm cT112 (aFm cT113 (aFm cT114 (aFm cT142 (aFm cT154 (aFm cT162 (aFm cT168 (aFm cT178 (aFm cT188 (aFm cT191 (cP3)))))))))))))))))))))))
