/-- X1_costOf -/
noncomputable def cK30 : aK := ([(2, 4, (1, 1)), (0, 0, (0, 5)), (0, 0, ((-2147483648), 2147483647))], (1, ((-2147483648), 2147483647)), [], 3)
set_option maxRecDepth 100000 in
theorem cT30 : aKP aGI 35 cK30 := achk_ok (aCt_ok cP2) (n := 4000) (ann := aAf) (il := aIl) (by decide +kernel)
/-- X1_hasRoomFor -/
noncomputable def cK33 : aK := ([(2, 4, (1, 1)), (0, 0, (0, 5)), (0, 0, ((-2147483648), 2147483647))], (1, (0, 1)), [], 3)
set_option maxRecDepth 100000 in
theorem cT33 : aKP aGI 33 cK33 := achk_ok (aCt_ok cP2) (n := 4000) (ann := aAf) (il := aIl) (by decide +kernel)
/-- X1_packetsOf -/
noncomputable def cK38 : aK := ([(2, 4, (1, 1)), (0, 0, ((-2147483648), 2147483647))], (1, ((-2147483648), 2147483647)), [], 3)
set_option maxRecDepth 100000 in
theorem cT38 : aKP aGI 43 cK38 := achk_ok (aCt_ok cP2) (n := 4000) (ann := aAf) (il := aIl) (by decide +kernel)
/-- X1_takeAll -/
noncomputable def cK46 : aK := ([(2, 4, (0, 0)), (2, 4, (5, 5))], (0, (0, 0)), [(4, (0, 0), (6, 15)), (18, (0, 0), (0, 5)), (19, (0, 0), (0, 5)), (20, (0, 0), (0, 5)), (21, (0, 0), (0, 5)), (22, (0, 0), (0, 39)), (23, (0, 0), (0, 9))], 3)
set_option maxRecDepth 100000 in
theorem cT46 : aKP aGI 28 cK46 := achk_ok (aCt_ok cP2) (n := 4000) (ann := aAf) (il := aIl) (by decide +kernel)
/-- X1_takeAll -/
noncomputable def cK47 : aK := ([(2, 4, (1, 1)), (2, 4, (0, 0))], (0, (0, 0)), [(4, (1, 1), (6, 15)), (18, (1, 1), (0, 5)), (19, (1, 1), (0, 5)), (20, (1, 1), (0, 5)), (21, (1, 1), (0, 5)), (22, (1, 1), (0, 39)), (23, (1, 1), (0, 9))], 3)
set_option maxRecDepth 100000 in
theorem cT47 : aKP aGI 28 cK47 := achk_ok (aCt_ok cP2) (n := 4000) (ann := aAf) (il := aIl) (by decide +kernel)
/-- X1_takeAll -/
noncomputable def cK48 : aK := ([(2, 4, (2, 4)), (2, 4, (1, 1))], (0, (0, 0)), [(4, (2, 4), (6, 15)), (18, (2, 4), (0, 5)), (19, (2, 4), (0, 5)), (20, (2, 4), (0, 5)), (21, (2, 4), (0, 5)), (22, (2, 4), (0, 39)), (23, (2, 4), (0, 9))], 3)
set_option maxRecDepth 100000 in
theorem cT48 : aKP aGI 28 cK48 := achk_ok (aCt_ok cP2) (n := 4000) (ann := aAf) (il := aIl) (by decide +kernel)
/-- X1_takeAll -/
noncomputable def cK49 : aK := ([(2, 4, (1, 1)), (2, 4, (2, 4))], (0, (0, 0)), [(4, (1, 1), (6, 15)), (18, (1, 1), (0, 5)), (19, (1, 1), (0, 5)), (20, (1, 1), (0, 5)), (21, (1, 1), (0, 5)), (22, (1, 1), (0, 39)), (23, (1, 1), (0, 9))], 3)
set_option maxRecDepth 100000 in
theorem cT49 : aKP aGI 28 cK49 := achk_ok (aCt_ok cP2) (n := 4000) (ann := aAf) (il := aIl) (by decide +kernel)
/-- X0_leftBehind -/
noncomputable def cK52 : aK := ([(2, 4, (1, 1)), (0, 0, (0, 5)), (0, 0, (0, 3)), (0, 0, (0, 30))], (1, (0, 30)), [], 3)
set_option maxRecDepth 100000 in
theorem cT52 : aKP aGI 52 cK52 := achk_ok (aCt_ok cP2) (n := 4000) (ann := aAf) (il := aIl) (by decide +kernel)
/-- X4_liveWeek -/
noncomputable def cK59 : aK := ([(2, 9, (0, 0)), (2, 4, (1, 1)), (0, 0, (2, 2)), (0, 0, ((-9), (-9))), (0, 0, ((-2147483648), 2147483647)), (0, 0, ((-2147483648), 2147483647))], (0, (0, 0)), [(9, (0, 0), (4, 5)), (23, (7, 10), (0, 9)), (27, (0, 0), (2, 2)), (28, (0, 0), (0, 2))], 3)
set_option maxRecDepth 100000 in
theorem cT59 : aKP aGI 56 cK59 := achk_ok (aCt_ok cP2) (n := 4000) (ann := aAf) (il := aIl) (by decide +kernel)
/-- X5_readTwoFigures -/
noncomputable def cK72 : aK := ([(2, 3, (0, 0))], (1, (0, 99)), [(3, (0, 0), (3, 4))], 3)
set_option maxRecDepth 100000 in
theorem cT72 : aKP aGI 65 cK72 := achk_ok (aCt_ok cP2) (n := 4000) (ann := aAf) (il := aIl) (by decide +kernel)
/-- X7_fitsPairs -/
noncomputable def cK79 : aK := ([(2, 0, (0, 0)), (0, 0, (0, 5)), (0, 0, ((-2147483648), 2147483647)), (0, 0, ((-2147483648), 2147483647))], (1, (0, 1)), [], 3)
set_option maxRecDepth 100000 in
theorem cT79 : aKP aGI 119 cK79 := achk_ok (aCt_ok cP2) (n := 4000) (ann := aAf) (il := aIl) (by decide +kernel)
/-- X7_buyerPays -/
noncomputable def cK80 : aK := ([(2, 4, (1, 1)), (2, 10, (0, 0))], (1, ((-2147483648), 1000000)), [], 3)
set_option maxRecDepth 100000 in
theorem cT80 : aKP aGI 121 cK80 := achk_ok (aCt_ok cP2) (n := 4000) (ann := aAf) (il := aIl) (by decide +kernel)
/-- X7_week -/
noncomputable def cK99 : aK := ([(2, 0, (0, 0))], (1, ((-2147483648), 2147483647)), [(4, (1, 1), (9, 9)), (4, (1, 1), (11, 13)), (4, (1, 1), (15, 15)), (22, (1, 1), (0, 39)), (23, (1, 1), (0, 9))], 4)
set_option maxRecDepth 100000 in
theorem cT99 : aKP aGI 82 cK99 := achk_ok (aCt_ok cP2) (n := 4000) (ann := aAf) (il := aIl) (by decide +kernel)
/-- X8_toldOf -/
noncomputable def cK141 : aK := ([(2, 31, (0, 0)), (0, 0, (0, 5)), (0, 0, ((-2147483648), 2147483647))], (1, ((-2147483648), 2147483647)), [], 4)
set_option maxRecDepth 100000 in
theorem cT141 : aKP aGI 157 cK141 := achk_ok (aCt_ok cP2) (n := 4000) (ann := aAf) (il := aIl) (by decide +kernel)
/-- X8_mark -/
noncomputable def cK144 : aK := ([(2, 31, (0, 0)), (0, 0, ((-2147483648), 2147483647)), (0, 0, ((-2147483648), 2147483647))], (1, ((-2147483648), 2147483647)), [(31, (0, 0), (13, 13)), (39, (0, 0), (3, 3))], 4)
set_option maxRecDepth 100000 in
theorem cT144 : aKP aGI 160 cK144 := achk_ok (aCt_ok cP2) (n := 4000) (ann := aAf) (il := aIl) (by decide +kernel)
/-- X8_hasRoom -/
noncomputable def cK148 : aK := ([(2, 31, (0, 0)), (0, 0, (0, 0)), (0, 0, (0, 5)), (0, 0, ((-2147483648), 2147483647))], (1, (0, 1)), [], 3)
set_option maxRecDepth 100000 in
theorem cT148 : aKP aGI 164 cK148 := achk_ok (aCt_ok cP2) (n := 4000) (ann := aAf) (il := aIl) (by decide +kernel)
/-- X8_hasRoom -/
noncomputable def cK149 : aK := ([(2, 31, (0, 0)), (0, 0, (4596, 4596)), (0, 0, (0, 5)), (0, 0, ((-2147483648), 2147483647))], (1, (0, 1)), [], 3)
set_option maxRecDepth 100000 in
theorem cT149 : aKP aGI 164 cK149 := achk_ok (aCt_ok cP2) (n := 4000) (ann := aAf) (il := aIl) (by decide +kernel)
/-- X8_buysAt -/
noncomputable def cK150 : aK := ([(2, 31, (0, 0)), (0, 0, (0, 0)), (0, 0, (0, 5)), (0, 0, ((-2147483648), 2147483647))], (1, ((-2147483648), 2147483647)), [(32, (0, 0), (2, 2)), (32, (0, 0), (7, 16))], 4)
set_option maxRecDepth 100000 in
theorem cT150 : aKP aGI 165 cK150 := achk_ok (aCt_ok cP2) (n := 4000) (ann := aAf) (il := aIl) (by decide +kernel)
/-- X8_buysAt -/
noncomputable def cK151 : aK := ([(2, 31, (0, 0)), (0, 0, (4596, 4596)), (0, 0, (0, 5)), (0, 0, ((-2147483648), 2147483647))], (1, ((-2147483648), 2147483647)), [(32, (0, 0), (4598, 4598)), (32, (0, 0), (4603, 4612))], 4)
set_option maxRecDepth 100000 in
theorem cT151 : aKP aGI 165 cK151 := achk_ok (aCt_ok cP2) (n := 4000) (ann := aAf) (il := aIl) (by decide +kernel)
/-- X8_costs -/
noncomputable def cK160 : aK := ([(2, 31, (0, 0)), (0, 0, ((-2147483648), 2147483647)), (0, 0, ((-2147483648), 2147483647))], (1, ((-2147483648), 2147483647)), [], 4)
set_option maxRecDepth 100000 in
theorem cT160 : aKP aGI 177 cK160 := achk_ok (aCt_ok cP2) (n := 4000) (ann := aAf) (il := aIl) (by decide +kernel)
/-- X8_rateTo -/
noncomputable def cK161 : aK := ([(2, 31, (0, 0)), (0, 0, (0, 5)), (0, 0, (0, 5))], (1, ((-2147483648), 2147483647)), [], 4)
set_option maxRecDepth 100000 in
theorem cT161 : aKP aGI 180 cK161 := achk_ok (aCt_ok cP2) (n := 4000) (ann := aAf) (il := aIl) (by decide +kernel)
/-- X8_least -/
noncomputable def cK165 : aK := ([(2, 31, (0, 0)), (0, 0, ((-2147483648), 2147483647)), (0, 0, ((-2147483648), 2147483647))], (1, ((-2147483648), 99999)), [(35, (0, 0), (0, 5)), (36, (0, 0), (0, 239))], 4)
set_option maxRecDepth 100000 in
theorem cT165 : aKP aGI 184 cK165 := achk_ok (aCt_ok cP2) (n := 4000) (ann := aAf) (il := aIl) (by decide +kernel)
/-- X8_looks -/
noncomputable def cK172 : aK := ([(2, 31, (0, 0)), (0, 0, ((-2147483648), 2147483647)), (0, 0, ((-2147483648), 2147483647))], (1, ((-9), 6)), [(31, (0, 0), (10, 10))], 4)
set_option maxRecDepth 100000 in
theorem cT172 : aKP aGI 192 cK172 := achk_ok (aCt_ok cP2) (n := 4000) (ann := aAf) (il := aIl) (by decide +kernel)
/-- X8_worthAt -/
noncomputable def cK176 : aK := ([(2, 31, (0, 0)), (0, 0, (0, 2)), (0, 0, (0, 5))], (1, ((-2147483648), 2147483647)), [], 3)
set_option maxRecDepth 100000 in
theorem cT176 : aKP aGI 198 cK176 := achk_ok (aCt_ok cP2) (n := 4000) (ann := aAf) (il := aIl) (by decide +kernel)
/-- X8_countOf -/
noncomputable def cK187 : aK := ([(2, 31, (0, 0)), (0, 0, ((-2147483648), 2147483647))], (1, ((-2147483648), 2147483647)), [], 3)
set_option maxRecDepth 100000 in
theorem cT187 : aKP aGI 213 cK187 := achk_ok (aCt_ok cP2) (n := 4000) (ann := aAf) (il := aIl) (by decide +kernel)
noncomputable def cL3 : List (Nat × aK) := (35, cK30) :: (33, cK33) :: (43, cK38) :: (28, cK46) :: (28, cK47) :: (28, cK48) :: (28, cK49) :: (52, cK52) :: (56, cK59) :: (65, cK72) :: (119, cK79) :: (121, cK80) :: (82, cK99) :: (157, cK141) :: (160, cK144) :: (164, cK148) :: (164, cK149) :: (165, cK150) :: (165, cK151) :: (177, cK160) :: (180, cK161) :: (184, cK165) :: (192, cK172) :: (198, cK176) :: (213, cK187) :: cL2
set_option maxRecDepth 100000 in
theorem cP3 : ∀ q ∈ cL3, aKP aGI q.1 q.2 := aFm cT30 (aFm cT33 (aFm cT38 (aFm cT46 (aFm cT47 (aFm cT48 (aFm cT49 (aFm cT52 (aFm cT59 (aFm cT72 (aFm cT79 (aFm cT80 (aFm cT99 (aFm cT141 (aFm cT144 (aFm cT148 (aFm cT149 (aFm cT150 (aFm cT151 (aFm cT160 (aFm cT161 (aFm cT165 (aFm cT172 (aFm cT176 (aFm cT187 (cP2)))))))))))))))))))))))))
