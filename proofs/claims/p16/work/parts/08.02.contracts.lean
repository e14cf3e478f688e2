/-- X2_isA -/
noncomputable def cK5 : aK := ([(0, 0, ((-2147483648), 2147483647)), (0, 0, ((-2147483648), 2147483647))], (1, (0, 1)), [], 2)
set_option maxRecDepth 100000 in
theorem cT5 : aKP aGI 3 cK5 := achk_ok (aCt_ok cP1) (n := 4000) (ann := aAf) (il := aIl) (by decide +kernel)
/-- X2_cost -/
noncomputable def cK7 : aK := ([(0, 0, ((-2147483648), 2147483647)), (0, 0, ((-2147483648), 2147483647)), (0, 0, ((-2147483648), 2147483647)), (0, 0, ((-2147483648), 2147483647))], (1, ((-2147483648), 2147483647)), [], 2)
set_option maxRecDepth 100000 in
theorem cT7 : aKP aGI 5 cK7 := achk_ok (aCt_ok cP1) (n := 4000) (ann := aAf) (il := aIl) (by decide +kernel)
/-- X1_getsBy -/
noncomputable def cK31 : aK := ([(2, 4, (1, 1)), (0, 0, (0, 5))], (1, (0, 9)), [], 2)
set_option maxRecDepth 100000 in
theorem cT31 : aKP aGI 36 cK31 := achk_ok (aCt_ok cP1) (n := 4000) (ann := aAf) (il := aIl) (by decide +kernel)
/-- X1_keepsFor -/
noncomputable def cK32 : aK := ([(2, 4, (1, 1)), (0, 0, (0, 5))], (1, (0, 9)), [], 2)
set_option maxRecDepth 100000 in
theorem cT32 : aKP aGI 37 cK32 := achk_ok (aCt_ok cP1) (n := 4000) (ann := aAf) (il := aIl) (by decide +kernel)
/-- X1_passWeek -/
noncomputable def cK41 : aK := ([(2, 4, (1, 1))], (1, ((-2147483648), 2147483647)), [(4, (1, 1), (9, 9)), (4, (1, 1), (11, 13)), (23, (1, 1), (0, 9))], 2)
set_option maxRecDepth 100000 in
theorem cT41 : aKP aGI 46 cK41 := achk_ok (aCt_ok cP1) (n := 4000) (ann := aAf) (il := aIl) (by decide +kernel)
/-- X1_takeStanding -/
noncomputable def cK42 : aK := ([(2, 4, (0, 0)), (2, 4, (5, 5))], (0, (0, 0)), [(4, (0, 0), (6, 15)), (18, (0, 0), (0, 5)), (19, (0, 0), (0, 5)), (20, (0, 0), (0, 5)), (21, (0, 0), (0, 5)), (23, (0, 0), (0, 9))], 2)
set_option maxRecDepth 100000 in
theorem cT42 : aKP aGI 29 cK42 := achk_ok (aCt_ok cP1) (n := 4000) (ann := aAf) (il := aIl) (by decide +kernel)
/-- X1_takeStanding -/
noncomputable def cK43 : aK := ([(2, 4, (1, 1)), (2, 4, (0, 0))], (0, (0, 0)), [(4, (1, 1), (6, 15)), (18, (1, 1), (0, 5)), (19, (1, 1), (0, 5)), (20, (1, 1), (0, 5)), (21, (1, 1), (0, 5)), (23, (1, 1), (0, 9))], 2)
set_option maxRecDepth 100000 in
theorem cT43 : aKP aGI 29 cK43 := achk_ok (aCt_ok cP1) (n := 4000) (ann := aAf) (il := aIl) (by decide +kernel)
/-- X1_takeStanding -/
noncomputable def cK44 : aK := ([(2, 4, (2, 4)), (2, 4, (1, 1))], (0, (0, 0)), [(4, (2, 4), (6, 15)), (18, (2, 4), (0, 5)), (19, (2, 4), (0, 5)), (20, (2, 4), (0, 5)), (21, (2, 4), (0, 5)), (23, (2, 4), (0, 9))], 2)
set_option maxRecDepth 100000 in
theorem cT44 : aKP aGI 29 cK44 := achk_ok (aCt_ok cP1) (n := 4000) (ann := aAf) (il := aIl) (by decide +kernel)
/-- X1_takeStanding -/
noncomputable def cK45 : aK := ([(2, 4, (1, 1)), (2, 4, (2, 4))], (0, (0, 0)), [(4, (1, 1), (6, 15)), (18, (1, 1), (0, 5)), (19, (1, 1), (0, 5)), (20, (1, 1), (0, 5)), (21, (1, 1), (0, 5)), (23, (1, 1), (0, 9))], 2)
set_option maxRecDepth 100000 in
theorem cT45 : aKP aGI 29 cK45 := achk_ok (aCt_ok cP1) (n := 4000) (ann := aAf) (il := aIl) (by decide +kernel)
/-- X4_goOn -/
noncomputable def cK58 : aK := ([(2, 9, (0, 0)), (2, 4, (1, 1)), (0, 0, (3, 3)), (0, 0, ((-2147483648), 2147483647)), (0, 0, ((-2147483648), 2147483647))], (0, (0, 0)), [(9, (0, 0), (4, 5)), (28, (0, 0), (0, 2))], 2)
set_option maxRecDepth 100000 in
theorem cT58 : aKP aGI 55 cK58 := achk_ok (aCt_ok cP1) (n := 4000) (ann := aAf) (il := aIl) (by decide +kernel)
/-- X5_readFigure -/
noncomputable def cK71 : aK := ([(2, 3, (0, 0)), (0, 0, (0, 1))], (1, (0, 9)), [(3, (0, 0), (3, 4))], 2)
set_option maxRecDepth 100000 in
theorem cT71 : aKP aGI 66 cK71 := achk_ok (aCt_ok cP1) (n := 4000) (ann := aAf) (il := aIl) (by decide +kernel)
/-- X5_readKind -/
noncomputable def cK73 : aK := ([(2, 3, (0, 0))], (1, (0, 5)), [(3, (0, 0), (3, 4))], 2)
set_option maxRecDepth 100000 in
theorem cT73 : aKP aGI 64 cK73 := achk_ok (aCt_ok cP1) (n := 4000) (ann := aAf) (il := aIl) (by decide +kernel)
/-- X5_begin -/
noncomputable def cK76 : aK := ([(2, 3, (0, 0)), (2, 2, (0, 0)), (0, 0, (0, 3))], (0, (0, 0)), [(3, (0, 0), (2, 4)), (4, (5, 5), (6, 6)), (17, (0, 0), (0, 59))], 2)
set_option maxRecDepth 100000 in
theorem cT76 : aKP aGI 59 cK76 := achk_ok (aCt_ok cP1) (n := 4000) (ann := aAf) (il := aIl) (by decide +kernel)
/-- X7_row -/
noncomputable def cK86 : aK := ([(2, 0, (0, 0)), (0, 0, ((-2147483648), 2147483647)), (0, 0, ((-2147483648), 2147483647))], (1, ((-3), 40)), [(0, (0, 0), (13, 13)), (12, (0, 0), (5, 5)), (14, (0, 0), (0, 5)), (29, (0, 5), (0, 39))], 3)
set_option maxRecDepth 100000 in
theorem cT86 : aKP aGI 68 cK86 := achk_ok (aCt_ok cP1) (n := 4000) (ann := aAf) (il := aIl) (by decide +kernel)
/-- X7_mean -/
noncomputable def cK90 : aK := ([(2, 0, (0, 0)), (0, 0, ((-2147483648), 2147483647))], (1, ((-3), 1)), [(0, (0, 0), (13, 14)), (12, (0, 0), (1, 1)), (12, (0, 0), (4, 4))], 2)
set_option maxRecDepth 100000 in
theorem cT90 : aKP aGI 73 cK90 := achk_ok (aCt_ok cP1) (n := 4000) (ann := aAf) (il := aIl) (by decide +kernel)
/-- X7_text -/
noncomputable def cK91 : aK := ([(2, 0, (0, 0)), (0, 0, ((-2147483648), 2147483647)), (0, 0, ((-2147483648), 2147483647))], (1, ((-3), 60)), [(0, (0, 0), (13, 13)), (12, (0, 0), (5, 5)), (16, (0, 0), (0, 3)), (30, (0, 3), (0, 59))], 3)
set_option maxRecDepth 100000 in
theorem cT91 : aKP aGI 74 cK91 := achk_ok (aCt_ok cP1) (n := 4000) (ann := aAf) (il := aIl) (by decide +kernel)
/-- X7_larder -/
noncomputable def cK97 : aK := ([(2, 0, (0, 0)), (0, 0, ((-2147483648), 2147483647))], (1, ((-2147483648), 2147483647)), [], 2)
set_option maxRecDepth 100000 in
theorem cT97 : aKP aGI 80 cK97 := achk_ok (aCt_ok cP1) (n := 4000) (ann := aAf) (il := aIl) (by decide +kernel)
/-- X7_off -/
noncomputable def cK110 : aK := ([(2, 0, (0, 0)), (0, 0, ((-2147483648), 2147483647))], (1, ((-2147483648), 2147483647)), [(23, (6, 6), (0, 9))], 2)
set_option maxRecDepth 100000 in
theorem cT110 : aKP aGI 96 cK110 := achk_ok (aCt_ok cP1) (n := 4000) (ann := aAf) (il := aIl) (by decide +kernel)
/-- X7_lasts -/
noncomputable def cK111 : aK := ([(2, 0, (0, 0))], (1, ((-4), 30)), [(23, (6, 6), (0, 9))], 2)
set_option maxRecDepth 100000 in
theorem cT111 : aKP aGI 97 cK111 := achk_ok (aCt_ok cP1) (n := 4000) (ann := aAf) (il := aIl) (by decide +kernel)
/-- X7_grams -/
noncomputable def cK115 : aK := ([(2, 0, (0, 0)), (0, 0, ((-2147483648), 2147483647)), (0, 0, ((-2147483648), 2147483647)), (0, 0, ((-2147483648), 2147483647))], (1, ((-2147483648), 2147483647)), [], 2)
set_option maxRecDepth 100000 in
theorem cT115 : aKP aGI 101 cK115 := achk_ok (aCt_ok cP1) (n := 4000) (ann := aAf) (il := aIl) (by decide +kernel)
/-- X8_row -/
noncomputable def cK126 : aK := ([(2, 31, (0, 0)), (0, 0, ((-2147483648), 2147483647)), (0, 0, ((-2147483648), 2147483647))], (1, ((-3), 40)), [(31, (0, 0), (13, 13)), (35, (0, 0), (0, 5)), (36, (0, 0), (0, 239)), (39, (0, 0), (5, 5))], 3)
set_option maxRecDepth 100000 in
theorem cT126 : aKP aGI 130 cK126 := achk_ok (aCt_ok cP1) (n := 4000) (ann := aAf) (il := aIl) (by decide +kernel)
/-- X8_costOf -/
noncomputable def cK135 : aK := ([(2, 31, (0, 0)), (0, 0, (0, 0)), (0, 0, (0, 5)), (0, 0, ((-2147483648), 2147483647))], (1, ((-2147483648), 2147483647)), [], 3)
set_option maxRecDepth 100000 in
theorem cT135 : aKP aGI 153 cK135 := achk_ok (aCt_ok cP1) (n := 4000) (ann := aAf) (il := aIl) (by decide +kernel)
/-- X8_costOf -/
noncomputable def cK136 : aK := ([(2, 31, (0, 0)), (0, 0, (4596, 4596)), (0, 0, (0, 5)), (0, 0, ((-2147483648), 2147483647))], (1, ((-2147483648), 2147483647)), [], 3)
set_option maxRecDepth 100000 in
theorem cT136 : aKP aGI 153 cK136 := achk_ok (aCt_ok cP1) (n := 4000) (ann := aAf) (il := aIl) (by decide +kernel)
/-- X8_got -/
noncomputable def cK138 : aK := ([(2, 31, (0, 0)), (0, 0, (0, 0)), (0, 0, (0, 5))], (1, ((-2147483648), 2147483647)), [], 2)
set_option maxRecDepth 100000 in
theorem cT138 : aKP aGI 155 cK138 := achk_ok (aCt_ok cP1) (n := 4000) (ann := aAf) (il := aIl) (by decide +kernel)
/-- X8_got -/
noncomputable def cK139 : aK := ([(2, 31, (0, 0)), (0, 0, (4596, 4596)), (0, 0, (0, 5))], (1, ((-2147483648), 2147483647)), [], 2)
set_option maxRecDepth 100000 in
theorem cT139 : aKP aGI 155 cK139 := achk_ok (aCt_ok cP1) (n := 4000) (ann := aAf) (il := aIl) (by decide +kernel)
/-- X8_week -/
noncomputable def cK155 : aK := ([(2, 31, (0, 0))], (1, ((-2147483648), 2147483647)), [(32, (0, 0), (0, 1)), (32, (0, 0), (3, 5)), (32, (0, 0), (7, 16)), (32, (0, 0), (29, 1148))], 2)
set_option maxRecDepth 100000 in
theorem cT155 : aKP aGI 168 cK155 := achk_ok (aCt_ok cP1) (n := 4000) (ann := aAf) (il := aIl) (by decide +kernel)
/-- X8_chosen -/
noncomputable def cK167 : aK := ([(2, 31, (0, 0)), (0, 0, (0, 342)), (0, 0, (0, 3)), (0, 0, (0, 2))], (1, ((-1), 5)), [], 2)
set_option maxRecDepth 100000 in
theorem cT167 : aKP aGI 186 cK167 := achk_ok (aCt_ok cP1) (n := 4000) (ann := aAf) (il := aIl) (by decide +kernel)
/-- X8_off -/
noncomputable def cK170 : aK := ([(2, 31, (0, 0)), (0, 0, ((-2147483648), 2147483647))], (1, ((-2147483648), 2147483647)), [(32, (0, 0), (4596, 4624))], 2)
set_option maxRecDepth 100000 in
theorem cT170 : aKP aGI 190 cK170 := achk_ok (aCt_ok cP1) (n := 4000) (ann := aAf) (il := aIl) (by decide +kernel)
/-- X8_lasts -/
noncomputable def cK171 : aK := ([(2, 31, (0, 0))], (1, ((-4), 30)), [(32, (0, 0), (4596, 4624))], 2)
set_option maxRecDepth 100000 in
theorem cT171 : aKP aGI 191 cK171 := achk_ok (aCt_ok cP1) (n := 4000) (ann := aAf) (il := aIl) (by decide +kernel)
/-- X8_kinds -/
noncomputable def cK173 : aK := ([(2, 31, (0, 0)), (0, 0, ((-2147483648), 2147483647)), (0, 0, ((-2147483648), 2147483647))], (1, ((-2147483648), 2147483647)), [(31, (0, 0), (13, 13)), (39, (0, 0), (1, 1)), (39, (0, 0), (3, 3)), (39, (0, 0), (5, 5))], 4)
set_option maxRecDepth 100000 in
theorem cT173 : aKP aGI 195 cK173 := achk_ok (aCt_ok cP1) (n := 4000) (ann := aAf) (il := aIl) (by decide +kernel)
/-- X8_prices -/
noncomputable def cK174 : aK := ([(2, 31, (0, 0)), (0, 0, ((-2147483648), 2147483647)), (0, 0, ((-2147483648), 2147483647))], (1, ((-2147483648), 2147483647)), [(31, (0, 0), (10, 10)), (31, (0, 0), (13, 13)), (39, (0, 0), (1, 1)), (39, (0, 0), (3, 3)), (39, (0, 0), (5, 5))], 4)
set_option maxRecDepth 100000 in
theorem cT174 : aKP aGI 196 cK174 := achk_ok (aCt_ok cP1) (n := 4000) (ann := aAf) (il := aIl) (by decide +kernel)
/-- X8_grams -/
noncomputable def cK175 : aK := ([(2, 31, (0, 0)), (0, 0, ((-2147483648), 2147483647)), (0, 0, ((-2147483648), 2147483647)), (0, 0, ((-2147483648), 2147483647))], (1, ((-2147483648), 2147483647)), [], 3)
set_option maxRecDepth 100000 in
theorem cT175 : aKP aGI 197 cK175 := achk_ok (aCt_ok cP1) (n := 4000) (ann := aAf) (il := aIl) (by decide +kernel)
/-- X8_those -/
noncomputable def cK185 : aK := ([(2, 31, (0, 0)), (0, 0, ((-2147483648), 2147483647))], (1, ((-2147483648), 2147483647)), [], 2)
set_option maxRecDepth 100000 in
theorem cT185 : aKP aGI 211 cK185 := achk_ok (aCt_ok cP1) (n := 4000) (ann := aAf) (il := aIl) (by decide +kernel)
noncomputable def cL2 : List (Nat × aK) := (3, cK5) :: (5, cK7) :: (36, cK31) :: (37, cK32) :: (46, cK41) :: (29, cK42) :: (29, cK43) :: (29, cK44) :: (29, cK45) :: (55, cK58) :: (66, cK71) :: (64, cK73) :: (59, cK76) :: (68, cK86) :: (73, cK90) :: (74, cK91) :: (80, cK97) :: (96, cK110) :: (97, cK111) :: (101, cK115) :: (130, cK126) :: (153, cK135) :: (153, cK136) :: (155, cK138) :: (155, cK139) :: (168, cK155) :: (186, cK167) :: (190, cK170) :: (191, cK171) :: (195, cK173) :: (196, cK174) :: (197, cK175) :: (211, cK185) :: cL1
set_option maxRecDepth 100000 in
theorem cP2 : ∀ q ∈ cL2, aKP aGI q.1 q.2 := aFm cT5 (aFm cT7 (aFm cT31 (aFm cT32 (aFm cT41 (aFm cT42 (aFm cT43 (aFm cT44 (aFm cT45 (aFm cT58 (aFm cT71 (aFm cT73 (aFm cT76 (aFm cT86 (aFm cT90 (aFm cT91 (aFm cT97 (aFm cT110 (aFm cT111 (aFm cT115 (aFm cT126 (aFm cT135 (aFm cT136 (aFm cT138 (aFm cT139 (aFm cT155 (aFm cT167 (aFm cT170 (aFm cT171 (aFm cT173 (aFm cT174 (aFm cT175 (aFm cT185 (cP1)))))))))))))))))))))))))))))))))
