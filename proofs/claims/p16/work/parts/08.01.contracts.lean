/-- J6_compare_7cf53 -/
noncomputable def cK0 : aK := ([(0, 0, ((-2147483648), 2147483647)), (0, 0, ((-2147483648), 2147483647))], (1, ((-1), 1)), [], 1)
set_option maxRecDepth 100000 in
theorem cT0 : aKP aGI 0 cK0 := achk_ok (aCt_ok cP0) (n := 4000) (ann := aAf) (il := aIl) (by decide +kernel)
/-- J7_fill_53178 -/
noncomputable def cK1 : aK := ([(2, 29, (0, 5)), (0, 0, ((-2147483648), 2147483647))], (0, (0, 0)), [(29, (0, 5), (0, 39))], 1)
set_option maxRecDepth 100000 in
theorem cT1 : aKP aGI 2 cK1 := achk_ok (aCt_ok cP0) (n := 4000) (ann := aAf) (il := aIl) (by decide +kernel)
/-- J7_fill_53178 -/
noncomputable def cK2 : aK := ([(2, 30, (0, 3)), (0, 0, ((-2147483648), 2147483647))], (0, (0, 0)), [(30, (0, 3), (0, 59))], 1)
set_option maxRecDepth 100000 in
theorem cT2 : aKP aGI 2 cK2 := achk_ok (aCt_ok cP0) (n := 4000) (ann := aAf) (il := aIl) (by decide +kernel)
/-- J7_fill_d0a16 -/
noncomputable def cK3 : aK := ([(2, 11, (0, 0)), (1, 0, ((-9223372036854775808), 9223372036854775807))], (0, (0, 0)), [(11, (0, 0), (0, 54))], 1)
set_option maxRecDepth 100000 in
theorem cT3 : aKP aGI 1 cK3 := achk_ok (aCt_ok cP0) (n := 4000) (ann := aAf) (il := aIl) (by decide +kernel)
/-- X2_parent -/
noncomputable def cK4 : aK := ([(0, 0, ((-2147483648), 2147483647))], (1, (0, 2)), [], 1)
set_option maxRecDepth 100000 in
theorem cT4 : aKP aGI 4 cK4 := achk_ok (aCt_ok cP0) (n := 4000) (ann := aAf) (il := aIl) (by decide +kernel)
/-- X2_costByCard -/
noncomputable def cK6 : aK := ([(0, 0, ((-2147483648), 2147483647)), (0, 0, ((-2147483648), 2147483647))], (1, ((-2147483648), 2147483647)), [], 1)
set_option maxRecDepth 100000 in
theorem cT6 : aKP aGI 6 cK6 := achk_ok (aCt_ok cP0) (n := 4000) (ann := aAf) (il := aIl) (by decide +kernel)
/-- X2_got -/
noncomputable def cK8 : aK := ([(0, 0, ((-2147483648), 2147483647)), (0, 0, (0, 9))], (1, (0, 9)), [], 1)
set_option maxRecDepth 100000 in
theorem cT8 : aKP aGI 7 cK8 := achk_ok (aCt_ok cP0) (n := 4000) (ann := aAf) (il := aIl) (by decide +kernel)
/-- X2_keeping -/
noncomputable def cK9 : aK := ([(0, 0, ((-2147483648), 2147483647)), (0, 0, (0, 9))], (1, (0, 9)), [], 1)
set_option maxRecDepth 100000 in
theorem cT9 : aKP aGI 8 cK9 := achk_ok (aCt_ok cP0) (n := 4000) (ann := aAf) (il := aIl) (by decide +kernel)
/-- X3_keeping -/
noncomputable def cK10 : aK := ([(2, 7, (1, 1)), (0, 0, (0, 9))], (1, ((-2147483648), 2147483647)), [], 1)
set_option maxRecDepth 100000 in
theorem cT10 : aKP aGI 9 cK10 := achk_ok (aCt_ok cP0) (n := 4000) (ann := aAf) (il := aIl) (by decide +kernel)
/-- X3_all -/
noncomputable def cK11 : aK := ([(2, 7, (0, 10))], (1, ((-2147483648), 2147483647)), [], 1)
set_option maxRecDepth 100000 in
theorem cT11 : aKP aGI 10 cK11 := achk_ok (aCt_ok cP0) (n := 4000) (ann := aAf) (il := aIl) (by decide +kernel)
/-- X3_take -/
noncomputable def cK12 : aK := ([(2, 7, (6, 6)), (2, 7, (1, 1))], (0, (0, 0)), [(23, (6, 6), (0, 9))], 1)
set_option maxRecDepth 100000 in
theorem cT12 : aKP aGI 11 cK12 := achk_ok (aCt_ok cP0) (n := 4000) (ann := aAf) (il := aIl) (by decide +kernel)
/-- X3_take -/
noncomputable def cK13 : aK := ([(2, 7, (7, 10)), (2, 7, (0, 10))], (0, (0, 0)), [(23, (7, 10), (0, 9))], 1)
set_option maxRecDepth 100000 in
theorem cT13 : aKP aGI 11 cK13 := achk_ok (aCt_ok cP0) (n := 4000) (ann := aAf) (il := aIl) (by decide +kernel)
/-- X3_take -/
noncomputable def cK14 : aK := ([(2, 7, (0, 0)), (2, 7, (5, 5))], (0, (0, 0)), [(23, (0, 0), (0, 9))], 1)
set_option maxRecDepth 100000 in
theorem cT14 : aKP aGI 11 cK14 := achk_ok (aCt_ok cP0) (n := 4000) (ann := aAf) (il := aIl) (by decide +kernel)
/-- X3_take -/
noncomputable def cK15 : aK := ([(2, 7, (1, 1)), (2, 7, (0, 4))], (0, (0, 0)), [(23, (1, 1), (0, 9))], 1)
set_option maxRecDepth 100000 in
theorem cT15 : aKP aGI 11 cK15 := achk_ok (aCt_ok cP0) (n := 4000) (ann := aAf) (il := aIl) (by decide +kernel)
/-- X3_take -/
noncomputable def cK16 : aK := ([(2, 7, (2, 4)), (2, 7, (1, 1))], (0, (0, 0)), [(23, (2, 4), (0, 9))], 1)
set_option maxRecDepth 100000 in
theorem cT16 : aKP aGI 11 cK16 := achk_ok (aCt_ok cP0) (n := 4000) (ann := aAf) (il := aIl) (by decide +kernel)
/-- X3_add -/
noncomputable def cK17 : aK := ([(2, 7, (1, 1)), (0, 0, (0, 9)), (0, 0, ((-2147483648), 2147483647))], (0, (0, 0)), [(23, (1, 1), (0, 9))], 1)
set_option maxRecDepth 100000 in
theorem cT17 : aKP aGI 12 cK17 := achk_ok (aCt_ok cP0) (n := 4000) (ann := aAf) (il := aIl) (by decide +kernel)
/-- X3_add -/
noncomputable def cK18 : aK := ([(2, 7, (7, 10)), (0, 0, (0, 9)), (0, 0, ((-2147483648), 2147483647))], (0, (0, 0)), [(23, (7, 10), (0, 9))], 1)
set_option maxRecDepth 100000 in
theorem cT18 : aKP aGI 12 cK18 := achk_ok (aCt_ok cP0) (n := 4000) (ann := aAf) (il := aIl) (by decide +kernel)
/-- X3_eat -/
noncomputable def cK19 : aK := ([(2, 7, (1, 1)), (0, 0, ((-2147483648), 2147483647))], (1, ((-2147483648), 2147483647)), [(23, (1, 1), (0, 9))], 1)
set_option maxRecDepth 100000 in
theorem cT19 : aKP aGI 13 cK19 := achk_ok (aCt_ok cP0) (n := 4000) (ann := aAf) (il := aIl) (by decide +kernel)
/-- X3_eat -/
noncomputable def cK20 : aK := ([(2, 7, (6, 6)), (0, 0, ((-2147483648), 2147483647))], (1, ((-2147483648), 2147483647)), [(23, (6, 6), (0, 9))], 1)
set_option maxRecDepth 100000 in
theorem cT20 : aKP aGI 13 cK20 := achk_ok (aCt_ok cP0) (n := 4000) (ann := aAf) (il := aIl) (by decide +kernel)
/-- X3_eat -/
noncomputable def cK21 : aK := ([(2, 7, (7, 10)), (0, 0, ((-2147483648), 2147483647))], (1, ((-2147483648), 2147483647)), [(23, (7, 10), (0, 9))], 1)
set_option maxRecDepth 100000 in
theorem cT21 : aKP aGI 13 cK21 := achk_ok (aCt_ok cP0) (n := 4000) (ann := aAf) (il := aIl) (by decide +kernel)
/-- X3_goOff -/
noncomputable def cK22 : aK := ([(2, 7, (1, 1))], (1, ((-2147483648), 2147483647)), [(23, (1, 1), (0, 9))], 1)
set_option maxRecDepth 100000 in
theorem cT22 : aKP aGI 14 cK22 := achk_ok (aCt_ok cP0) (n := 4000) (ann := aAf) (il := aIl) (by decide +kernel)
/-- X3_goOff -/
noncomputable def cK23 : aK := ([(2, 7, (6, 6))], (1, ((-2147483648), 2147483647)), [(23, (6, 6), (0, 9))], 1)
set_option maxRecDepth 100000 in
theorem cT23 : aKP aGI 14 cK23 := achk_ok (aCt_ok cP0) (n := 4000) (ann := aAf) (il := aIl) (by decide +kernel)
/-- X3_goOff -/
noncomputable def cK24 : aK := ([(2, 7, (7, 10))], (1, ((-2147483648), 2147483647)), [(23, (7, 10), (0, 9))], 1)
set_option maxRecDepth 100000 in
theorem cT24 : aKP aGI 14 cK24 := achk_ok (aCt_ok cP0) (n := 4000) (ann := aAf) (il := aIl) (by decide +kernel)
/-- X6_sumOf -/
noncomputable def cK25 : aK := ([(2, 1, (0, 0)), (0, 0, (0, 5))], (2, ((-9223372036854775808), 9223372036854775807)), [], 1)
set_option maxRecDepth 100000 in
theorem cT25 : aKP aGI 25 cK25 := achk_ok (aCt_ok cP0) (n := 4000) (ann := aAf) (il := aIl) (by decide +kernel)
/-- X6_there -/
noncomputable def cK26 : aK := ([(2, 1, (0, 0))], (1, ((-2147483648), 2147483647)), [], 2)
set_option maxRecDepth 100000 in
theorem cT26 : aKP aGI 26 cK26 := achk_ok (aCt_ok cP0) (n := 4000) (ann := aAf) (il := aIl) (by decide +kernel)
/-- X6_there -/
noncomputable def cK27 : aK := ([(2, 2, (0, 0))], (1, ((-2147483648), 2147483647)), [], 2)
set_option maxRecDepth 100000 in
theorem cT27 : aKP aGI 26 cK27 := achk_ok (aCt_ok cP0) (n := 4000) (ann := aAf) (il := aIl) (by decide +kernel)
/-- X6_mixInto -/
noncomputable def cK28 : aK := ([(2, 1, (0, 0)), (1, 0, ((-9223372036854775808), 9223372036854775807))], (2, ((-9223372036854775808), 9223372036854775807)), [], 1)
set_option maxRecDepth 100000 in
theorem cT28 : aKP aGI 27 cK28 := achk_ok (aCt_ok cP0) (n := 4000) (ann := aAf) (il := aIl) (by decide +kernel)
/-- X6_mixInto -/
noncomputable def cK29 : aK := ([(2, 2, (0, 0)), (1, 0, ((-9223372036854775808), 9223372036854775807))], (2, ((-9223372036854775808), 9223372036854775807)), [], 1)
set_option maxRecDepth 100000 in
theorem cT29 : aKP aGI 27 cK29 := achk_ok (aCt_ok cP0) (n := 4000) (ann := aAf) (il := aIl) (by decide +kernel)
/-- X1_addPacket -/
noncomputable def cK51 : aK := ([(2, 4, (5, 5)), (0, 0, (0, 5)), (0, 0, (0, 9)), (0, 0, (0, 99)), (0, 0, (0, 9))], (0, (0, 0)), [(4, (5, 5), (6, 6)), (18, (5, 5), (0, 5)), (19, (5, 5), (0, 5)), (20, (5, 5), (0, 5)), (21, (5, 5), (0, 5))], 1)
set_option maxRecDepth 100000 in
theorem cT51 : aKP aGI 48 cK51 := achk_ok (aCt_ok cP0) (n := 4000) (ann := aAf) (il := aIl) (by decide +kernel)
/-- X4_weigh -/
noncomputable def cK57 : aK := ([(2, 9, (0, 0)), (0, 0, ((-2147483648), 2147483647)), (0, 0, ((-2147483648), 2147483647))], (0, (0, 0)), [(9, (0, 0), (4, 5)), (28, (0, 0), (0, 2))], 1)
set_option maxRecDepth 100000 in
theorem cT57 : aKP aGI 57 cK57 := achk_ok (aCt_ok cP0) (n := 4000) (ann := aAf) (il := aIl) (by decide +kernel)
/-- X5_faultHere -/
noncomputable def cK69 : aK := ([(2, 3, (0, 0))], (0, (0, 0)), [(3, (0, 0), (4, 4))], 1)
set_option maxRecDepth 100000 in
theorem cT69 : aKP aGI 67 cK69 := achk_ok (aCt_ok cP0) (n := 4000) (ann := aAf) (il := aIl) (by decide +kernel)
/-- X5_skipBlanks -/
noncomputable def cK70 : aK := ([(2, 3, (0, 0))], (0, (0, 0)), [(3, (0, 0), (3, 3))], 1)
set_option maxRecDepth 100000 in
theorem cT70 : aKP aGI 61 cK70 := achk_ok (aCt_ok cP0) (n := 4000) (ann := aAf) (il := aIl) (by decide +kernel)
/-- X7_troubleOfPairs -/
noncomputable def cK78 : aK := ([(2, 0, (0, 0)), (0, 0, (0, 5))], (1, (0, 5)), [], 2)
set_option maxRecDepth 100000 in
theorem cT78 : aKP aGI 118 cK78 := achk_ok (aCt_ok cP0) (n := 4000) (ann := aAf) (il := aIl) (by decide +kernel)
/-- X7_shopTakes -/
noncomputable def cK81 : aK := ([(2, 4, (1, 1)), (2, 10, (0, 0)), (0, 0, (0, 0))], (1, (0, 0)), [], 1)
set_option maxRecDepth 100000 in
theorem cT81 : aKP aGI 120 cK81 := achk_ok (aCt_ok cP0) (n := 4000) (ann := aAf) (il := aIl) (by decide +kernel)
/-- X7_keptHouses -/
noncomputable def cK84 : aK := ([(2, 0, (0, 0))], (1, ((-2147483648), 2147483647)), [], 1)
set_option maxRecDepth 100000 in
theorem cT84 : aKP aGI 115 cK84 := achk_ok (aCt_ok cP0) (n := 4000) (ann := aAf) (il := aIl) (by decide +kernel)
/-- X7_lay -/
noncomputable def cK87 : aK := ([(2, 0, (0, 0)), (0, 0, ((-2147483648), 2147483647)), (0, 0, ((-2147483648), 2147483647)), (0, 0, ((-2147483648), 2147483647))], (1, ((-3), 1)), [(0, (0, 0), (13, 14)), (12, (0, 0), (1, 2)), (29, (0, 5), (0, 39))], 3)
set_option maxRecDepth 100000 in
theorem cT87 : aKP aGI 69 cK87 := achk_ok (aCt_ok cP0) (n := 4000) (ann := aAf) (il := aIl) (by decide +kernel)
/-- X7_at -/
noncomputable def cK88 : aK := ([(2, 0, (0, 0)), (0, 0, ((-2147483648), 2147483647)), (0, 0, ((-2147483648), 2147483647))], (1, ((-3), 1)), [(0, (0, 0), (13, 14)), (12, (0, 0), (1, 2))], 3)
set_option maxRecDepth 100000 in
theorem cT88 : aKP aGI 70 cK88 := achk_ok (aCt_ok cP0) (n := 4000) (ann := aAf) (il := aIl) (by decide +kernel)
/-- X7_tear -/
noncomputable def cK89 : aK := ([(2, 0, (0, 0)), (0, 0, ((-2147483648), 2147483647))], (1, ((-3), 1)), [(0, (0, 0), (13, 13)), (12, (0, 0), (1, 1)), (14, (0, 0), (0, 5))], 2)
set_option maxRecDepth 100000 in
theorem cT89 : aKP aGI 71 cK89 := achk_ok (aCt_ok cP0) (n := 4000) (ann := aAf) (il := aIl) (by decide +kernel)
/-- X7_put -/
noncomputable def cK92 : aK := ([(2, 0, (0, 0)), (0, 0, ((-2147483648), 2147483647)), (0, 0, ((-2147483648), 2147483647)), (0, 0, ((-2147483648), 2147483647))], (1, ((-2147483648), 2147483647)), [(0, (0, 0), (13, 13)), (12, (0, 0), (1, 2)), (30, (0, 3), (0, 59))], 3)
set_option maxRecDepth 100000 in
theorem cT92 : aKP aGI 75 cK92 := achk_ok (aCt_ok cP0) (n := 4000) (ann := aAf) (il := aIl) (by decide +kernel)
/-- X7_shrink -/
noncomputable def cK100 : aK := ([(2, 0, (0, 0)), (0, 0, ((-2147483648), 2147483647))], (1, ((-4), 8)), [(4, (1, 1), (15, 15)), (19, (1, 1), (0, 5)), (22, (1, 1), (0, 39))], 3)
set_option maxRecDepth 100000 in
theorem cT100 : aKP aGI 83 cK100 := achk_ok (aCt_ok cP0) (n := 4000) (ann := aAf) (il := aIl) (by decide +kernel)
/-- X7_price -/
noncomputable def cK101 : aK := ([(2, 0, (0, 0)), (0, 0, ((-2147483648), 2147483647)), (0, 0, ((-2147483648), 2147483647))], (1, ((-2147483648), 2147483647)), [(4, (1, 1), (15, 15)), (20, (1, 1), (0, 5)), (22, (1, 1), (0, 39))], 3)
set_option maxRecDepth 100000 in
theorem cT101 : aKP aGI 84 cK101 := achk_ok (aCt_ok cP0) (n := 4000) (ann := aAf) (il := aIl) (by decide +kernel)
/-- X7_card -/
noncomputable def cK102 : aK := ([(2, 0, (0, 0)), (0, 0, ((-2147483648), 2147483647))], (1, ((-4), 1)), [(4, (1, 1), (14, 15)), (22, (1, 1), (0, 39))], 3)
set_option maxRecDepth 100000 in
theorem cT102 : aKP aGI 85 cK102 := achk_ok (aCt_ok cP0) (n := 4000) (ann := aAf) (il := aIl) (by decide +kernel)
/-- X7_asked -/
noncomputable def cK118 : aK := ([(2, 0, (0, 0))], (1, ((-2147483648), 2147483647)), [], 1)
set_option maxRecDepth 100000 in
theorem cT118 : aKP aGI 106 cK118 := achk_ok (aCt_ok cP0) (n := 4000) (ann := aAf) (il := aIl) (by decide +kernel)
/-- X7_upper -/
noncomputable def cK119 : aK := ([(2, 0, (0, 0))], (2, ((-9223372036854775808), 9223372036854775807)), [], 1)
set_option maxRecDepth 100000 in
theorem cT119 : aKP aGI 107 cK119 := achk_ok (aCt_ok cP0) (n := 4000) (ann := aAf) (il := aIl) (by decide +kernel)
/-- X7_lower -/
noncomputable def cK120 : aK := ([(2, 0, (0, 0))], (2, ((-9223372036854775808), 9223372036854775807)), [], 1)
set_option maxRecDepth 100000 in
theorem cT120 : aKP aGI 108 cK120 := achk_ok (aCt_ok cP0) (n := 4000) (ann := aAf) (il := aIl) (by decide +kernel)
/-- X7_finding -/
noncomputable def cK122 : aK := ([(2, 0, (0, 0))], (1, ((-2147483648), 2147483647)), [], 1)
set_option maxRecDepth 100000 in
theorem cT122 : aKP aGI 110 cK122 := achk_ok (aCt_ok cP0) (n := 4000) (ann := aAf) (il := aIl) (by decide +kernel)
/-- X7_findings -/
noncomputable def cK123 : aK := ([(2, 0, (0, 0)), (0, 0, ((-2147483648), 2147483647))], (1, ((-2147483648), 2147483647)), [], 1)
set_option maxRecDepth 100000 in
theorem cT123 : aKP aGI 111 cK123 := achk_ok (aCt_ok cP0) (n := 4000) (ann := aAf) (il := aIl) (by decide +kernel)
/-- X8_makeRow -/
noncomputable def cK125 : aK := ([(2, 31, (0, 0)), (0, 0, (0, 5)), (0, 0, (0, 40))], (0, (0, 0)), [(35, (0, 0), (0, 5)), (36, (0, 0), (0, 239))], 1)
set_option maxRecDepth 100000 in
theorem cT125 : aKP aGI 131 cK125 := achk_ok (aCt_ok cP0) (n := 4000) (ann := aAf) (il := aIl) (by decide +kernel)
/-- X8_lay -/
noncomputable def cK127 : aK := ([(2, 31, (0, 0)), (0, 0, ((-2147483648), 2147483647)), (0, 0, ((-2147483648), 2147483647)), (0, 0, ((-2147483648), 2147483647))], (1, ((-3), 1)), [(31, (0, 0), (10, 10)), (31, (0, 0), (13, 13)), (36, (0, 0), (0, 239)), (39, (0, 0), (1, 2))], 4)
set_option maxRecDepth 100000 in
theorem cT127 : aKP aGI 133 cK127 := achk_ok (aCt_ok cP0) (n := 4000) (ann := aAf) (il := aIl) (by decide +kernel)
/-- X8_at -/
noncomputable def cK128 : aK := ([(2, 31, (0, 0)), (0, 0, ((-2147483648), 2147483647)), (0, 0, ((-2147483648), 2147483647))], (1, ((-3), 1)), [(31, (0, 0), (10, 10)), (31, (0, 0), (13, 13)), (39, (0, 0), (1, 2))], 4)
set_option maxRecDepth 100000 in
theorem cT128 : aKP aGI 134 cK128 := achk_ok (aCt_ok cP0) (n := 4000) (ann := aAf) (il := aIl) (by decide +kernel)
/-- X8_tear -/
noncomputable def cK129 : aK := ([(2, 31, (0, 0)), (0, 0, ((-2147483648), 2147483647))], (1, ((-3), 1)), [(31, (0, 0), (13, 13)), (35, (0, 0), (0, 5)), (39, (0, 0), (1, 1))], 3)
set_option maxRecDepth 100000 in
theorem cT129 : aKP aGI 135 cK129 := achk_ok (aCt_ok cP0) (n := 4000) (ann := aAf) (il := aIl) (by decide +kernel)
/-- X8_mean -/
noncomputable def cK130 : aK := ([(2, 31, (0, 0)), (0, 0, ((-2147483648), 2147483647))], (1, ((-3), 1)), [(31, (0, 0), (10, 10)), (31, (0, 0), (13, 13)), (39, (0, 0), (1, 1)), (39, (0, 0), (4, 4))], 3)
set_option maxRecDepth 100000 in
theorem cT130 : aKP aGI 138 cK130 := achk_ok (aCt_ok cP0) (n := 4000) (ann := aAf) (il := aIl) (by decide +kernel)
/-- X8_text -/
noncomputable def cK131 : aK := ([(2, 31, (0, 0)), (0, 0, ((-2147483648), 2147483647)), (0, 0, ((-2147483648), 2147483647))], (1, ((-3), 60)), [(31, (0, 0), (13, 13)), (37, (0, 0), (0, 3)), (38, (0, 0), (0, 239)), (39, (0, 0), (5, 5))], 3)
set_option maxRecDepth 100000 in
theorem cT131 : aKP aGI 139 cK131 := achk_ok (aCt_ok cP0) (n := 4000) (ann := aAf) (il := aIl) (by decide +kernel)
/-- X8_put -/
noncomputable def cK132 : aK := ([(2, 31, (0, 0)), (0, 0, ((-2147483648), 2147483647)), (0, 0, ((-2147483648), 2147483647)), (0, 0, ((-2147483648), 2147483647))], (1, ((-2147483648), 2147483647)), [(31, (0, 0), (13, 13)), (38, (0, 0), (0, 239)), (39, (0, 0), (1, 2))], 3)
set_option maxRecDepth 100000 in
theorem cT132 : aKP aGI 140 cK132 := achk_ok (aCt_ok cP0) (n := 4000) (ann := aAf) (il := aIl) (by decide +kernel)
/-- X8_kindOfLetter -/
noncomputable def cK133 : aK := ([(0, 0, ((-2147483648), 2147483647))], (1, ((-9), 5)), [], 1)
set_option maxRecDepth 100000 in
theorem cT133 : aKP aGI 146 cK133 := achk_ok (aCt_ok cP0) (n := 4000) (ann := aAf) (il := aIl) (by decide +kernel)
/-- X8_costBy -/
noncomputable def cK134 : aK := ([(0, 0, ((-2147483648), 2147483647)), (0, 0, ((-2147483648), 2147483647)), (0, 0, ((-2147483648), 2147483647)), (0, 0, ((-2147483648), 2147483647))], (1, ((-2147483648), 2147483647)), [], 2)
set_option maxRecDepth 100000 in
theorem cT134 : aKP aGI 152 cK134 := achk_ok (aCt_ok cP0) (n := 4000) (ann := aAf) (il := aIl) (by decide +kernel)
/-- X8_gotBy -/
noncomputable def cK137 : aK := ([(0, 0, ((-2147483648), 2147483647)), (0, 0, ((-2147483648), 2147483647))], (1, ((-2147483648), 2147483647)), [], 1)
set_option maxRecDepth 100000 in
theorem cT137 : aKP aGI 154 cK137 := achk_ok (aCt_ok cP0) (n := 4000) (ann := aAf) (il := aIl) (by decide +kernel)
/-- X8_keepsOf -/
noncomputable def cK140 : aK := ([(2, 31, (0, 0)), (0, 0, (0, 5))], (1, (0, 9)), [], 1)
set_option maxRecDepth 100000 in
theorem cT140 : aKP aGI 156 cK140 := achk_ok (aCt_ok cP0) (n := 4000) (ann := aAf) (il := aIl) (by decide +kernel)
/-- X8_isOf -/
noncomputable def cK143 : aK := ([(2, 31, (0, 0)), (0, 0, (0, 5)), (0, 0, ((-2147483648), 2147483647))], (1, (0, 1)), [], 1)
set_option maxRecDepth 100000 in
theorem cT143 : aKP aGI 159 cK143 := achk_ok (aCt_ok cP0) (n := 4000) (ann := aAf) (il := aIl) (by decide +kernel)
/-- X8_larder -/
noncomputable def cK145 : aK := ([(2, 31, (0, 0)), (0, 0, ((-2147483648), 2147483647))], (1, ((-2147483648), 2147483647)), [], 2)
set_option maxRecDepth 100000 in
theorem cT145 : aKP aGI 161 cK145 := achk_ok (aCt_ok cP0) (n := 4000) (ann := aAf) (il := aIl) (by decide +kernel)
/-- X8_inLarder -/
noncomputable def cK146 : aK := ([(2, 31, (0, 0)), (0, 0, (0, 0))], (1, ((-2147483648), 2147483647)), [], 1)
set_option maxRecDepth 100000 in
theorem cT146 : aKP aGI 162 cK146 := achk_ok (aCt_ok cP0) (n := 4000) (ann := aAf) (il := aIl) (by decide +kernel)
/-- X8_inLarder -/
noncomputable def cK147 : aK := ([(2, 31, (0, 0)), (0, 0, (4596, 4596))], (1, ((-2147483648), 2147483647)), [], 1)
set_option maxRecDepth 100000 in
theorem cT147 : aKP aGI 162 cK147 := achk_ok (aCt_ok cP0) (n := 4000) (ann := aAf) (il := aIl) (by decide +kernel)
/-- X8_pass -/
noncomputable def cK152 : aK := ([(2, 31, (0, 0)), (0, 0, (0, 0))], (1, ((-2147483648), 2147483647)), [(32, (0, 0), (1, 1)), (32, (0, 0), (3, 5)), (32, (0, 0), (7, 16))], 1)
set_option maxRecDepth 100000 in
theorem cT152 : aKP aGI 167 cK152 := achk_ok (aCt_ok cP0) (n := 4000) (ann := aAf) (il := aIl) (by decide +kernel)
/-- X8_pass -/
noncomputable def cK153 : aK := ([(2, 31, (0, 0)), (0, 0, (4596, 4596))], (1, ((-2147483648), 2147483647)), [(32, (0, 0), (4597, 4597)), (32, (0, 0), (4599, 4601)), (32, (0, 0), (4603, 4612))], 1)
set_option maxRecDepth 100000 in
theorem cT153 : aKP aGI 167 cK153 := achk_ok (aCt_ok cP0) (n := 4000) (ann := aAf) (il := aIl) (by decide +kernel)
/-- X8_shrink -/
noncomputable def cK156 : aK := ([(2, 31, (0, 0)), (0, 0, ((-2147483648), 2147483647))], (1, ((-2147483648), 2147483647)), [(32, (0, 0), (0, 0)), (32, (0, 0), (17, 22)), (32, (0, 0), (29, 1148))], 3)
set_option maxRecDepth 100000 in
theorem cT156 : aKP aGI 169 cK156 := achk_ok (aCt_ok cP0) (n := 4000) (ann := aAf) (il := aIl) (by decide +kernel)
/-- X8_price -/
noncomputable def cK157 : aK := ([(2, 31, (0, 0)), (0, 0, ((-2147483648), 2147483647)), (0, 0, ((-2147483648), 2147483647))], (1, ((-2147483648), 2147483647)), [(32, (0, 0), (0, 0)), (32, (0, 0), (23, 1148))], 3)
set_option maxRecDepth 100000 in
theorem cT157 : aKP aGI 171 cK157 := achk_ok (aCt_ok cP0) (n := 4000) (ann := aAf) (il := aIl) (by decide +kernel)
/-- X8_card -/
noncomputable def cK158 : aK := ([(2, 31, (0, 0)), (0, 0, ((-2147483648), 2147483647))], (1, ((-2147483648), 1)), [(32, (0, 0), (0, 0)), (32, (0, 0), (6, 6)), (32, (0, 0), (29, 1148))], 3)
set_option maxRecDepth 100000 in
theorem cT158 : aKP aGI 172 cK158 := achk_ok (aCt_ok cP0) (n := 4000) (ann := aAf) (il := aIl) (by decide +kernel)
/-- X8_undo -/
noncomputable def cK159 : aK := ([(2, 31, (0, 0)), (0, 0, ((-2147483648), 2147483647))], (1, ((-40), 40)), [(32, (0, 0), (0, 28))], 2)
set_option maxRecDepth 100000 in
theorem cT159 : aKP aGI 173 cK159 := achk_ok (aCt_ok cP0) (n := 4000) (ann := aAf) (il := aIl) (by decide +kernel)
/-- X8_power -/
noncomputable def cK163 : aK := ([(0, 0, (4, 4)), (0, 0, (0, 6))], (1, (1, 4096)), [], 1)
set_option maxRecDepth 100000 in
theorem cT163 : aKP aGI 183 cK163 := achk_ok (aCt_ok cP0) (n := 4000) (ann := aAf) (il := aIl) (by decide +kernel)
/-- X8_power -/
noncomputable def cK164 : aK := ([(0, 0, (1, 7)), (0, 0, ((-3), 3))], (1, (1, 343)), [], 1)
set_option maxRecDepth 100000 in
theorem cT164 : aKP aGI 183 cK164 := achk_ok (aCt_ok cP0) (n := 4000) (ann := aAf) (il := aIl) (by decide +kernel)
/-- X8_layTried -/
noncomputable def cK166 : aK := ([(2, 31, (0, 0))], (0, (0, 0)), [(32, (0, 0), (4596, 4624))], 1)
set_option maxRecDepth 100000 in
theorem cT166 : aKP aGI 185 cK166 := achk_ok (aCt_ok cP0) (n := 4000) (ann := aAf) (il := aIl) (by decide +kernel)
/-- X8_layShop -/
noncomputable def cK177 : aK := ([(2, 31, (0, 0)), (0, 0, (0, 1)), (0, 0, ((-2147483648), 2147483647))], (0, (0, 0)), [(41, (0, 0), (6, 17))], 1)
set_option maxRecDepth 100000 in
theorem cT177 : aKP aGI 199 cK177 := achk_ok (aCt_ok cP0) (n := 4000) (ann := aAf) (il := aIl) (by decide +kernel)
/-- X8_asked -/
noncomputable def cK182 : aK := ([(2, 31, (0, 0))], (1, ((-2147483648), 2147483647)), [], 1)
set_option maxRecDepth 100000 in
theorem cT182 : aKP aGI 208 cK182 := achk_ok (aCt_ok cP0) (n := 4000) (ann := aAf) (il := aIl) (by decide +kernel)
/-- X8_upper -/
noncomputable def cK183 : aK := ([(2, 31, (0, 0))], (2, ((-9223372036854775808), 9223372036854775807)), [], 1)
set_option maxRecDepth 100000 in
theorem cT183 : aKP aGI 209 cK183 := achk_ok (aCt_ok cP0) (n := 4000) (ann := aAf) (il := aIl) (by decide +kernel)
/-- X8_lower -/
noncomputable def cK184 : aK := ([(2, 31, (0, 0))], (2, ((-9223372036854775808), 9223372036854775807)), [], 1)
set_option maxRecDepth 100000 in
theorem cT184 : aKP aGI 210 cK184 := achk_ok (aCt_ok cP0) (n := 4000) (ann := aAf) (il := aIl) (by decide +kernel)
/-- X8_thereOf -/
noncomputable def cK186 : aK := ([(2, 31, (0, 0)), (0, 0, ((-2147483648), 2147483647))], (1, ((-2147483648), 2147483647)), [], 1)
set_option maxRecDepth 100000 in
theorem cT186 : aKP aGI 212 cK186 := achk_ok (aCt_ok cP0) (n := 4000) (ann := aAf) (il := aIl) (by decide +kernel)
/-- X8_finding -/
noncomputable def cK189 : aK := ([(2, 31, (0, 0))], (1, ((-2147483648), 2147483647)), [], 1)
set_option maxRecDepth 100000 in
theorem cT189 : aKP aGI 215 cK189 := achk_ok (aCt_ok cP0) (n := 4000) (ann := aAf) (il := aIl) (by decide +kernel)
/-- X8_findings -/
noncomputable def cK190 : aK := ([(2, 31, (0, 0)), (0, 0, ((-2147483648), 2147483647))], (1, ((-2147483648), 2147483647)), [], 2)
set_option maxRecDepth 100000 in
theorem cT190 : aKP aGI 216 cK190 := achk_ok (aCt_ok cP0) (n := 4000) (ann := aAf) (il := aIl) (by decide +kernel)
noncomputable def cL1 : List (Nat × aK) := (0, cK0) :: (2, cK1) :: (2, cK2) :: (1, cK3) :: (4, cK4) :: (6, cK6) :: (7, cK8) :: (8, cK9) :: (9, cK10) :: (10, cK11) :: (11, cK12) :: (11, cK13) :: (11, cK14) :: (11, cK15) :: (11, cK16) :: (12, cK17) :: (12, cK18) :: (13, cK19) :: (13, cK20) :: (13, cK21) :: (14, cK22) :: (14, cK23) :: (14, cK24) :: (25, cK25) :: (26, cK26) :: (26, cK27) :: (27, cK28) :: (27, cK29) :: (48, cK51) :: (57, cK57) :: (67, cK69) :: (61, cK70) :: (118, cK78) :: (120, cK81) :: (115, cK84) :: (69, cK87) :: (70, cK88) :: (71, cK89) :: (75, cK92) :: (83, cK100) :: (84, cK101) :: (85, cK102) :: (106, cK118) :: (107, cK119) :: (108, cK120) :: (110, cK122) :: (111, cK123) :: (131, cK125) :: (133, cK127) :: (134, cK128) :: (135, cK129) :: (138, cK130) :: (139, cK131) :: (140, cK132) :: (146, cK133) :: (152, cK134) :: (154, cK137) :: (156, cK140) :: (159, cK143) :: (161, cK145) :: (162, cK146) :: (162, cK147) :: (167, cK152) :: (167, cK153) :: (169, cK156) :: (171, cK157) :: (172, cK158) :: (173, cK159) :: (183, cK163) :: (183, cK164) :: (185, cK166) :: (199, cK177) :: (208, cK182) :: (209, cK183) :: (210, cK184) :: (212, cK186) :: (215, cK189) :: (216, cK190) :: cL0
set_option maxRecDepth 100000 in
theorem cP1 : ∀ q ∈ cL1, aKP aGI q.1 q.2 := aFm cT0 (aFm cT1 (aFm cT2 (aFm cT3 (aFm cT4 (aFm cT6 (aFm cT8 (aFm cT9 (aFm cT10 (aFm cT11 (aFm cT12 (aFm cT13 (aFm cT14 (aFm cT15 (aFm cT16 (aFm cT17 (aFm cT18 (aFm cT19 (aFm cT20 (aFm cT21 (aFm cT22 (aFm cT23 (aFm cT24 (aFm cT25 (aFm cT26 (aFm cT27 (aFm cT28 (aFm cT29 (aFm cT51 (aFm cT57 (aFm cT69 (aFm cT70 (aFm cT78 (aFm cT81 (aFm cT84 (aFm cT87 (aFm cT88 (aFm cT89 (aFm cT92 (aFm cT100 (aFm cT101 (aFm cT102 (aFm cT118 (aFm cT119 (aFm cT120 (aFm cT122 (aFm cT123 (aFm cT125 (aFm cT127 (aFm cT128 (aFm cT129 (aFm cT130 (aFm cT131 (aFm cT132 (aFm cT133 (aFm cT134 (aFm cT137 (aFm cT140 (aFm cT143 (aFm cT145 (aFm cT146 (aFm cT147 (aFm cT152 (aFm cT153 (aFm cT156 (aFm cT157 (aFm cT158 (aFm cT159 (aFm cT163 (aFm cT164 (aFm cT166 (aFm cT177 (aFm cT182 (aFm cT183 (aFm cT184 (aFm cT186 (aFm cT189 (aFm cT190 (cP0))))))))))))))))))))))))))))))))))))))))))))))))))))))))))))))))))))))))))))))
