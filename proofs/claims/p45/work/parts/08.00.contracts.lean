section
/-! printed by program: bounds of the heap, loops, contracts; each contract is checked by the interval run in the kernel -/
noncomputable def aGI : List aG := [(14, (0, 0), (0, 5), ((-1), 40)), (16, (0, 0), (0, 3), ((-1), 60)), (4, (0, 5), (6, 6), (0, 6)), (4, (0, 5), (15, 15), (0, 40)), (4, (0, 5), (14, 14), (0, 1)), (21, (0, 5), (0, 5), (0, 9)), (19, (0, 5), (0, 5), (0, 9)), (6, (0, 0), (0, 2), (0, 1)), (3, (0, 0), (2, 2), ((-1), 60)), (3, (0, 0), (3, 3), (0, 60)), (9, (0, 0), (3, 3), (0, 3)), (31, (0, 0), (3, 3), (0, 6)), (35, (0, 0), (0, 5), ((-1), 40)), (37, (0, 0), (0, 3), ((-1), 60)), (34, (0, 0), (0, 5), (0, 9)), (32, (0, 0), (0, 0), (0, 40)), (32, (0, 0), (1149, 1149), ((-1), 40)), (32, (0, 0), (2298, 2298), ((-1), 40)), (32, (0, 0), (3447, 3447), ((-1), 40)), (31, (0, 0), (21, 21), (0, 6))]
noncomputable def aAl : List (Nat × List (Nat × aAn)) := [
  (1, [(6, ([(3, (0, 55))], .inl 3, true, []))]),
  (2, [(5, ([(2, (0, 60))], .inl 2, true, []))]),
  (10, [(4, ([(1, ((-2147483648), 2147483647)), (2, (0, 10))], .inl 2, true, []))]),
  (13, [(4, ([(2, ((-2147483648), 2147483647)), (3, (0, 10))], .inl 3, true, []))]),
  (25, [(5, ([(2, ((-9223372036854775808), 9223372036854775807)), (4, (0, 40))], .inl 4, true, []))]),
  (26, [(4, ([(1, ((-2147483648), 2147483647)), (2, (0, 6))], .inl 2, true, []))]),
  (27, [(5, ([(3, ((-9223372036854775808), 9223372036854775807)), (5, (0, 6))], .inl 5, true, [])), (33, ([(3, ((-9223372036854775808), 9223372036854775807)), (6, (0, 60))], .inl 6, true, [14, 16]))]),
  (43, [(4, ([(2, ((-2147483648), 2147483647)), (3, (0, 6))], .inl 3, true, []))]),
  (49, [(2, ([(3, (0, 31))], .inl 3, true, [])), (41, ([(3, ((-1), 5))], .inl 3, false, [4])), (48, ([(4, (0, 31))], .inl 4, true, [4]))]),
  (50, [(7, ([(4, ((-2147483648), 1000000)), (5, (0, 4))], .inl 5, true, []))]),
  (53, [(3, ([(4, (0, 3))], .inl 4, true, []))]),
  (55, [(30, ([(5, (0, 6))], .inl 5, true, []))]),
  (58, [(16, ([(3, (1, 6))], .inl 3, true, []))]),
  (59, [(19, ([(3, (0, 60))], .inl 3, true, [3, 4, 16]))]),
  (64, [(9, ([(1, (0, 6))], .inl 1, true, [3]))]),
  (77, [(77, ([(2, (0, 3))], .inl 2, true, [16]))]),
  (91, [(20, ([(1, ((-9), 5)), (2, ((-2147483648), 2147483647)), (3, (0, 6))], .inl 3, true, [4]))]),
  (92, [(7, ([(1, ((-2147483648), 2147483647)), (2, ((-9), 38)), (3, (0, 6))], .inl 3, true, [])), (23, ([(1, ((-2147483648), 2147483647)), (2, ((-9), 38)), (4, (1, 6))], .inl 4, true, [4]))]),
  (93, [(80, ([(4, (0, 30)), (5, (0, 6))], .inl 5, true, [4, 14]))]),
  (94, [(74, ([(3, (0, 3))], .inl 3, true, [4, 9, 14]))]),
  (96, [(43, ([(2, ((-2147483648), 2147483647)), (3, (0, 20))], .inl 3, true, [4]))]),
  (97, [(29, ([(1, (0, 30))], .inl 1, true, [4]))]),
  (98, [(50, ([(3, ((-9), 6)), (4, ((-2147483648), 2147483646)), (5, ((-2147483648), 1000000)), (6, (0, 6))], .inl 6, true, [4]))]),
  (99, [(46, ([(4, ((-2147483648), 2147483647)), (5, (0, 6))], .inl 5, true, [4]))]),
  (100, [(50, ([(4, ((-2147483648), 2147483647)), (5, ((-9), 99)), (6, (0, 100))], .inl 6, true, [4]))]),
  (101, [(41, ([(4, ((-2147483648), 2147483647)), (5, (1, 10))], .inl 5, true, [4]))]),
  (102, [(26, ([(2, (0, 6))], .inl 2, true, [4]))]),
  (103, [(47, ([(5, ((-9223372036854775808), 9223372036854775807)), (7, (0, 55))], .inl 7, true, [4]))]),
  (104, [(30, ([(2, ((-9223372036854775808), 9223372036854775807)), (4, (0, 6))], .inl 4, true, [4]))]),
  (105, [(60, ([(3, (0, 2147483646)), (5, (0, 20))], .inl 5, true, []))]),
  (112, [(6, ([(1, ((-9223372036854775808), 9223372036854775807)), (3, (0, 16))], .inl 3, true, [])), (33, ([(1, ((-9223372036854775808), 9223372036854775807)), (3, (0, 10))], .inl 3, true, [])), (66, ([(1, ((-9223372036854775808), 9223372036854775807)), (3, (0, 6))], .inl 3, true, [])), (80, ([(1, ((-9223372036854775808), 9223372036854775807)), (4, (0, 6))], .inl 4, true, [4])), (119, ([(1, ((-9223372036854775808), 9223372036854775807)), (3, (0, 3))], .inl 3, true, [4]))]),
  (115, [(4, ([(1, ((-2147483648), 2147483647)), (2, (0, 3))], .inl 2, true, []))]),
  (118, [(38, ([(3, (0, 12))], .inl 3, true, [14]))]),
  (119, [(3, ([(4, (0, 40))], .inl 4, true, []))]),
  (120, [(24, ([(3, ((-2147483648), 2147483647)), (4, (0, 6))], .inl 4, true, []))]),
  (121, [(5, ([(2, ((-2147483648), 1000000)), (3, (0, 6))], .inl 3, true, []))]),
  (122, [(20, ([(2, (1, 1)), (4, (0, 0))], .inl 4, true, [])), (53, ([(6, (8, 54))], .inl 6, false, [4]))]),
  (131, [(9, ([(3, (0, 40))], .inl 3, true, [35]))]),
  (138, [(44, ([(2, ((-9223372036854775808), 9223372036854775807)), (4, (0, 40))], .inl 4, true, [35]))]),
  (139, [(34, ([(3, (0, 60))], .inl 3, true, [37]))]),
  (162, [(4, ([(2, ((-2147483648), 2147483647)), (3, (0, 10))], .inl 3, true, []))]),
  (163, [(2, ([(1, (0, 28))], .inl 1, true, [31, 32]))]),
  (167, [(7, ([(2, ((-2147483648), 2147483647)), (3, (0, 10))], .inl 3, true, [31])), (126, ([(4, (0, 9))], .inl 4, true, [31]))]),
  (173, [(29, ([(3, (0, 28))], .inl 3, true, [32]))]),
  (181, [(15, ([(1, ((-9), 0)), (2, (0, 0))], .inl 2, true, [31]))]),
  (182, [(10, ([(1, ((-2147483648), 2147483647)), (2, (0, 6))], .inl 2, true, [])), (22, ([(1, ((-2147483648), 2147483647)), (3, (1, 6))], .inl 3, true, []))]),
  (184, [(41, ([(3, ((-2147483648), 99999)), (4, ((-9), 4095)), (5, (0, 4096))], .inl 5, true, [31])), (63, ([(6, ((-2147483648), 2147483647)), (7, ((-2147483648), 2147483647)), (8, (0, 6))], .inl 8, true, [31])), (172, ([(5, (0, 6))], .inl 5, true, [31]))]),
  (185, [(2, ([(1, (0, 29))], .inl 1, true, []))]),
  (187, [(6, ([(3, (0, 3))], .inl 3, true, []))]),
  (188, [(41, ([(3, ((-2147483648), 2147483647)), (4, ((-9), 342)), (5, (0, 343))], .inl 5, true, [31])), (130, ([(5, (0, 0))], .inl 5, true, [31]))]),
  (189, [(29, ([(2, ((-2147483648), 2147483647)), (3, (0, 343))], .inl 3, true, [31]))]),
  (190, [(32, ([(2, ((-2147483648), 2147483647)), (3, (0, 20))], .inl 3, true, [31]))]),
  (191, [(16, ([(1, (0, 30))], .inl 1, true, [31]))]),
  (192, [(50, ([(3, ((-2147483648), 99999)), (4, ((-9), 6)), (5, ((-2147483648), 2147483647)), (6, (0, 6))], .inl 6, true, [31]))]),
  (193, [(50, ([(2, (0, 1)), (3, (0, 239))], .inl 3, true, [31, 35]))]),
  (194, [(9, ([(4, (0, 1)), (5, (0, 239))], .inl 5, true, [31, 32, 33, 35]))]),
  (195, [(35, ([(4, ((-2147483648), 2147483647)), (5, (0, 6))], .inl 5, true, [31, 35]))]),
  (196, [(42, ([(4, ((-2147483648), 2147483647)), (5, ((-1), 99))], .inl 5, false, [35]))]),
  (197, [(40, ([(4, ((-2147483648), 2147483647)), (5, (1, 10))], .inl 5, true, [31]))]),
  (199, [(2, ([(3, (0, 6))], .inl 3, true, []))]),
  (200, [(9, ([(2, ((-2147483648), 2147483647)), (3, (1, 6))], .inl 3, true, []))]),
  (201, [(5, ([(2, ((-99999), 2147483647)), (3, (0, 7))], .inl 3, true, []))]),
  (202, [(5, ([(1, ((-99999), 2147483647)), (2, (0, 7))], .inl 2, true, []))]),
  (203, [(26, ([(2, (0, 6))], .inl 2, true, [31]))]),
  (207, [(58, ([(3, (1, 2147483646)), (5, (0, 0))], .inl 5, true, [31, 32]))]),
  (211, [(4, ([(2, ((-2147483648), 2147483647)), (3, (0, 6))], .inl 3, true, []))]),
  (212, [(4, ([(2, ((-2147483648), 2147483647)), (3, (0, 6))], .inl 3, true, []))]),
  (217, [(6, ([(1, ((-9223372036854775808), 9223372036854775807)), (3, (0, 16))], .inl 3, true, [])), (33, ([(1, ((-9223372036854775808), 9223372036854775807)), (3, (0, 10))], .inl 3, true, [])), (64, ([(1, ((-9223372036854775808), 9223372036854775807)), (3, (0, 38))], .inl 3, true, [])), (103, ([(1, ((-9223372036854775808), 9223372036854775807)), (3, (1, 4))], .inl 3, true, [31])), (136, ([(1, ((-9223372036854775808), 9223372036854775807)), (3, (0, 6))], .inl 3, true, [31])), (159, ([(1, ((-9223372036854775808), 9223372036854775807)), (4, (0, 40))], .inl 4, true, [31, 35])), (204, ([(1, ((-9223372036854775808), 9223372036854775807)), (3, (0, 4))], .inl 3, true, [31])), (226, ([(1, ((-9223372036854775808), 9223372036854775807)), (4, (0, 60))], .inl 4, true, [31, 37]))])]
noncomputable def afm {α : Type} (m : Nat) : List (Nat × α) → Option α
  | [] => none
  | q :: t => match Nat.beq q.1 m with
    | true => some q.2
    | false => afm m t
noncomputable def aAf (m pc : Nat) : Option aAn := match afm m aAl with
  | some l => afm pc l
  | none => none
noncomputable def aIl (m : Nat) : Bool := jel m [15, 16, 17, 18, 19, 20, 21, 22, 23, 31, 32, 34, 44, 60, 106, 113, 123, 124, 125, 126, 127, 128, 129, 132, 136, 151, 163, 170, 193, 194]
noncomputable def aCt (l : List (Nat × aK)) (m : Nat) : List aK := match l with
  | [] => []
  | q :: t => match Nat.beq q.1 m with
    | true => q.2 :: aCt t m
    | false => aCt t m
theorem aCt_ok {gi : List aG} : ∀ {l : List (Nat × aK)}, (∀ q ∈ l, aKP gi q.1 q.2) → ∀ m c, c ∈ aCt l m → aKP gi m c
  | [], _, _, _, h => by cases h
  | q :: t, hl, m, c, h => by
    unfold aCt at h
    split at h
    · rename_i he
      have he := Nat.eq_of_beq_eq_true he
      rcases List.mem_cons.mp h with rfl | h
      · rw [← he]; exact hl q List.mem_cons_self
      · exact aCt_ok (fun x hx => hl x (List.mem_cons_of_mem _ hx)) m c h
    · exact aCt_ok (fun x hx => hl x (List.mem_cons_of_mem _ hx)) m c h
theorem aFm {gi : List aG} {l : List (Nat × aK)} {m : Nat} {c : aK} (h : aKP gi m c) (hl : ∀ q ∈ l, aKP gi q.1 q.2) : ∀ q ∈ (m, c) :: l, aKP gi q.1 q.2 := fun q hq => (List.mem_cons.mp hq).elim (fun e => by rw [e]; exact h) (hl q)
noncomputable def cL0 : List (Nat × aK) := []
theorem cP0 : ∀ q ∈ cL0, aKP aGI q.1 q.2 := fun q h => by cases h
end
section
/-- J6_compare_7cf53 -/
noncomputable def cK0 : aK := ([(0, 0, ((-2147483648), 2147483647)), (0, 0, ((-2147483648), 2147483647))], (1, ((-1), 1)), [], 1)
set_option maxRecDepth 100000 in
theorem cT0 : aKP aGI 0 cK0 := achk_ok (aCt_ok cP0) (n := 4000) (ann := aAf) (il := aIl) (by decide +kernel)
/-- J7_fill_53178 -/
noncomputable def cK1 : aK := ([(2, 29, (0, 5)), (0, 0, ((-2147483648), 2147483647))], (0, (0, 0)), [(29, (0, 5), (0, 39))], 1)
set_option maxRecDepth 100000 in
theorem cT1 : aKP aGI 2 cK1 := achk_ok (aCt_ok cP0) (n := 4000) (ann := aAf) (il := aIl) (by decide +kernel)
/-- J7_fill_53178 -/
noncomputable def cK2 : aK := ([(2, 30, (0, 3)), (0, 0, ((-2147483648), 2147483647))], (0, (0, 0)), [(30, (0, 3), (0, 59))], 1)
set_option maxRecDepth 100000 in
theorem cT2 : aKP aGI 2 cK2 := achk_ok (aCt_ok cP0) (n := 4000) (ann := aAf) (il := aIl) (by decide +kernel)
/-- J7_fill_d0a16 -/
noncomputable def cK3 : aK := ([(2, 11, (0, 0)), (1, 0, ((-9223372036854775808), 9223372036854775807))], (0, (0, 0)), [(11, (0, 0), (0, 54))], 1)
set_option maxRecDepth 100000 in
theorem cT3 : aKP aGI 1 cK3 := achk_ok (aCt_ok cP0) (n := 4000) (ann := aAf) (il := aIl) (by decide +kernel)
/-- X2_parent -/
noncomputable def cK4 : aK := ([(0, 0, ((-2147483648), 2147483647))], (1, (0, 2)), [], 1)
set_option maxRecDepth 100000 in
theorem cT4 : aKP aGI 4 cK4 := achk_ok (aCt_ok cP0) (n := 4000) (ann := aAf) (il := aIl) (by decide +kernel)
/-- X2_costByCard -/
noncomputable def cK6 : aK := ([(0, 0, ((-2147483648), 2147483647)), (0, 0, ((-2147483648), 2147483647))], (1, ((-2147483648), 2147483647)), [], 1)
set_option maxRecDepth 100000 in
theorem cT6 : aKP aGI 6 cK6 := achk_ok (aCt_ok cP0) (n := 4000) (ann := aAf) (il := aIl) (by decide +kernel)
/-- X2_got -/
noncomputable def cK8 : aK := ([(0, 0, ((-2147483648), 2147483647)), (0, 0, (0, 9))], (1, (0, 9)), [], 1)
set_option maxRecDepth 100000 in
theorem cT8 : aKP aGI 7 cK8 := achk_ok (aCt_ok cP0) (n := 4000) (ann := aAf) (il := aIl) (by decide +kernel)
/-- X2_keeping -/
noncomputable def cK9 : aK := ([(0, 0, ((-2147483648), 2147483647)), (0, 0, (0, 9))], (1, (0, 9)), [], 1)
set_option maxRecDepth 100000 in
theorem cT9 : aKP aGI 8 cK9 := achk_ok (aCt_ok cP0) (n := 4000) (ann := aAf) (il := aIl) (by decide +kernel)
/-- X3_keeping -/
noncomputable def cK10 : aK := ([(2, 7, (1, 1)), (0, 0, (0, 9))], (1, ((-2147483648), 2147483647)), [], 1)
set_option maxRecDepth 100000 in
theorem cT10 : aKP aGI 9 cK10 := achk_ok (aCt_ok cP0) (n := 4000) (ann := aAf) (il := aIl) (by decide +kernel)
/-- X3_all -/
noncomputable def cK11 : aK := ([(2, 7, (0, 10))], (1, ((-2147483648), 2147483647)), [], 1)
set_option maxRecDepth 100000 in
theorem cT11 : aKP aGI 10 cK11 := achk_ok (aCt_ok cP0) (n := 4000) (ann := aAf) (il := aIl) (by decide +kernel)
/-- X3_take -/
noncomputable def cK12 : aK := ([(2, 7, (6, 6)), (2, 7, (1, 1))], (0, (0, 0)), [(23, (6, 6), (0, 9))], 1)
set_option maxRecDepth 100000 in
theorem cT12 : aKP aGI 11 cK12 := achk_ok (aCt_ok cP0) (n := 4000) (ann := aAf) (il := aIl) (by decide +kernel)
/-- X3_take -/
noncomputable def cK13 : aK := ([(2, 7, (7, 10)), (2, 7, (0, 10))], (0, (0, 0)), [(23, (7, 10), (0, 9))], 1)
set_option maxRecDepth 100000 in
theorem cT13 : aKP aGI 11 cK13 := achk_ok (aCt_ok cP0) (n := 4000) (ann := aAf) (il := aIl) (by decide +kernel)
/-- X3_take -/
noncomputable def cK14 : aK := ([(2, 7, (0, 0)), (2, 7, (5, 5))], (0, (0, 0)), [(23, (0, 0), (0, 9))], 1)
set_option maxRecDepth 100000 in
theorem cT14 : aKP aGI 11 cK14 := achk_ok (aCt_ok cP0) (n := 4000) (ann := aAf) (il := aIl) (by decide +kernel)
/-- X3_take -/
noncomputable def cK15 : aK := ([(2, 7, (1, 1)), (2, 7, (0, 4))], (0, (0, 0)), [(23, (1, 1), (0, 9))], 1)
set_option maxRecDepth 100000 in
theorem cT15 : aKP aGI 11 cK15 := achk_ok (aCt_ok cP0) (n := 4000) (ann := aAf) (il := aIl) (by decide +kernel)
/-- X3_take -/
noncomputable def cK16 : aK := ([(2, 7, (2, 4)), (2, 7, (1, 1))], (0, (0, 0)), [(23, (2, 4), (0, 9))], 1)
set_option maxRecDepth 100000 in
theorem cT16 : aKP aGI 11 cK16 := achk_ok (aCt_ok cP0) (n := 4000) (ann := aAf) (il := aIl) (by decide +kernel)
/-- X3_add -/
noncomputable def cK17 : aK := ([(2, 7, (1, 1)), (0, 0, (0, 9)), (0, 0, ((-2147483648), 2147483647))], (0, (0, 0)), [(23, (1, 1), (0, 9))], 1)
set_option maxRecDepth 100000 in
theorem cT17 : aKP aGI 12 cK17 := achk_ok (aCt_ok cP0) (n := 4000) (ann := aAf) (il := aIl) (by decide +kernel)
/-- X3_add -/
noncomputable def cK18 : aK := ([(2, 7, (7, 10)), (0, 0, (0, 9)), (0, 0, ((-2147483648), 2147483647))], (0, (0, 0)), [(23, (7, 10), (0, 9))], 1)
set_option maxRecDepth 100000 in
theorem cT18 : aKP aGI 12 cK18 := achk_ok (aCt_ok cP0) (n := 4000) (ann := aAf) (il := aIl) (by decide +kernel)
/-- X3_eat -/
noncomputable def cK19 : aK := ([(2, 7, (1, 1)), (0, 0, ((-2147483648), 2147483647))], (1, ((-2147483648), 2147483647)), [(23, (1, 1), (0, 9))], 1)
set_option maxRecDepth 100000 in
theorem cT19 : aKP aGI 13 cK19 := achk_ok (aCt_ok cP0) (n := 4000) (ann := aAf) (il := aIl) (by decide +kernel)
/-- X3_eat -/
noncomputable def cK20 : aK := ([(2, 7, (6, 6)), (0, 0, ((-2147483648), 2147483647))], (1, ((-2147483648), 2147483647)), [(23, (6, 6), (0, 9))], 1)
set_option maxRecDepth 100000 in
theorem cT20 : aKP aGI 13 cK20 := achk_ok (aCt_ok cP0) (n := 4000) (ann := aAf) (il := aIl) (by decide +kernel)
/-- X3_eat -/
noncomputable def cK21 : aK := ([(2, 7, (7, 10)), (0, 0, ((-2147483648), 2147483647))], (1, ((-2147483648), 2147483647)), [(23, (7, 10), (0, 9))], 1)
set_option maxRecDepth 100000 in
theorem cT21 : aKP aGI 13 cK21 := achk_ok (aCt_ok cP0) (n := 4000) (ann := aAf) (il := aIl) (by decide +kernel)
/-- X3_goOff -/
noncomputable def cK22 : aK := ([(2, 7, (1, 1))], (1, ((-2147483648), 2147483647)), [(23, (1, 1), (0, 9))], 1)
set_option maxRecDepth 100000 in
theorem cT22 : aKP aGI 14 cK22 := achk_ok (aCt_ok cP0) (n := 4000) (ann := aAf) (il := aIl) (by decide +kernel)
/-- X3_goOff -/
noncomputable def cK23 : aK := ([(2, 7, (6, 6))], (1, ((-2147483648), 2147483647)), [(23, (6, 6), (0, 9))], 1)
set_option maxRecDepth 100000 in
theorem cT23 : aKP aGI 14 cK23 := achk_ok (aCt_ok cP0) (n := 4000) (ann := aAf) (il := aIl) (by decide +kernel)
/-- X3_goOff -/
noncomputable def cK24 : aK := ([(2, 7, (7, 10))], (1, ((-2147483648), 2147483647)), [(23, (7, 10), (0, 9))], 1)
set_option maxRecDepth 100000 in
theorem cT24 : aKP aGI 14 cK24 := achk_ok (aCt_ok cP0) (n := 4000) (ann := aAf) (il := aIl) (by decide +kernel)
/-- X6_sumOf -/
noncomputable def cK25 : aK := ([(2, 1, (0, 0)), (0, 0, (0, 5))], (2, ((-9223372036854775808), 9223372036854775807)), [], 1)
set_option maxRecDepth 100000 in
theorem cT25 : aKP aGI 25 cK25 := achk_ok (aCt_ok cP0) (n := 4000) (ann := aAf) (il := aIl) (by decide +kernel)
/-- X6_there -/
noncomputable def cK26 : aK := ([(2, 1, (0, 0))], (1, ((-2147483648), 2147483647)), [], 2)
set_option maxRecDepth 100000 in
theorem cT26 : aKP aGI 26 cK26 := achk_ok (aCt_ok cP0) (n := 4000) (ann := aAf) (il := aIl) (by decide +kernel)
/-- X6_there -/
noncomputable def cK27 : aK := ([(2, 2, (0, 0))], (1, ((-2147483648), 2147483647)), [], 2)
set_option maxRecDepth 100000 in
theorem cT27 : aKP aGI 26 cK27 := achk_ok (aCt_ok cP0) (n := 4000) (ann := aAf) (il := aIl) (by decide +kernel)
/-- X6_mixInto -/
noncomputable def cK28 : aK := ([(2, 1, (0, 0)), (1, 0, ((-9223372036854775808), 9223372036854775807))], (2, ((-9223372036854775808), 9223372036854775807)), [], 1)
set_option maxRecDepth 100000 in
theorem cT28 : aKP aGI 27 cK28 := achk_ok (aCt_ok cP0) (n := 4000) (ann := aAf) (il := aIl) (by decide +kernel)
/-- X6_mixInto -/
noncomputable def cK29 : aK := ([(2, 2, (0, 0)), (1, 0, ((-9223372036854775808), 9223372036854775807))], (2, ((-9223372036854775808), 9223372036854775807)), [], 1)
set_option maxRecDepth 100000 in
theorem cT29 : aKP aGI 27 cK29 := achk_ok (aCt_ok cP0) (n := 4000) (ann := aAf) (il := aIl) (by decide +kernel)
/-- X1_addPacket -/
noncomputable def cK51 : aK := ([(2, 4, (5, 5)), (0, 0, (0, 5)), (0, 0, (0, 9)), (0, 0, (0, 99)), (0, 0, (0, 9))], (0, (0, 0)), [(4, (5, 5), (6, 6)), (18, (5, 5), (0, 5)), (19, (5, 5), (0, 5)), (20, (5, 5), (0, 5)), (21, (5, 5), (0, 5))], 1)
set_option maxRecDepth 100000 in
theorem cT51 : aKP aGI 48 cK51 := achk_ok (aCt_ok cP0) (n := 4000) (ann := aAf) (il := aIl) (by decide +kernel)
/-- X4_weigh -/
noncomputable def cK57 : aK := ([(2, 9, (0, 0)), (0, 0, ((-2147483648), 2147483647)), (0, 0, ((-2147483648), 2147483647))], (0, (0, 0)), [(9, (0, 0), (4, 5)), (28, (0, 0), (0, 2))], 1)
set_option maxRecDepth 100000 in
theorem cT57 : aKP aGI 57 cK57 := achk_ok (aCt_ok cP0) (n := 4000) (ann := aAf) (il := aIl) (by decide +kernel)
/-- X5_faultHere -/
noncomputable def cK69 : aK := ([(2, 3, (0, 0))], (0, (0, 0)), [(3, (0, 0), (4, 4))], 1)
set_option maxRecDepth 100000 in
theorem cT69 : aKP aGI 67 cK69 := achk_ok (aCt_ok cP0) (n := 4000) (ann := aAf) (il := aIl) (by decide +kernel)
/-- X5_skipBlanks -/
noncomputable def cK70 : aK := ([(2, 3, (0, 0))], (0, (0, 0)), [(3, (0, 0), (3, 3))], 1)
set_option maxRecDepth 100000 in
theorem cT70 : aKP aGI 61 cK70 := achk_ok (aCt_ok cP0) (n := 4000) (ann := aAf) (il := aIl) (by decide +kernel)
/-- X7_troubleOfPairs -/
noncomputable def cK78 : aK := ([(2, 0, (0, 0)), (0, 0, (0, 5))], (1, (0, 5)), [], 2)
set_option maxRecDepth 100000 in
theorem cT78 : aKP aGI 118 cK78 := achk_ok (aCt_ok cP0) (n := 4000) (ann := aAf) (il := aIl) (by decide +kernel)
/-- X7_shopTakes -/
noncomputable def cK81 : aK := ([(2, 4, (1, 1)), (2, 10, (0, 0)), (0, 0, (0, 0))], (1, (0, 0)), [], 1)
set_option maxRecDepth 100000 in
theorem cT81 : aKP aGI 120 cK81 := achk_ok (aCt_ok cP0) (n := 4000) (ann := aAf) (il := aIl) (by decide +kernel)
/-- X7_keptHouses -/
noncomputable def cK84 : aK := ([(2, 0, (0, 0))], (1, ((-2147483648), 2147483647)), [], 1)
set_option maxRecDepth 100000 in
theorem cT84 : aKP aGI 115 cK84 := achk_ok (aCt_ok cP0) (n := 4000) (ann := aAf) (il := aIl) (by decide +kernel)
/-- X7_lay -/
noncomputable def cK87 : aK := ([(2, 0, (0, 0)), (0, 0, ((-2147483648), 2147483647)), (0, 0, ((-2147483648), 2147483647)), (0, 0, ((-2147483648), 2147483647))], (1, ((-3), 1)), [(0, (0, 0), (13, 14)), (12, (0, 0), (1, 2)), (29, (0, 5), (0, 39))], 3)
set_option maxRecDepth 100000 in
theorem cT87 : aKP aGI 69 cK87 := achk_ok (aCt_ok cP0) (n := 4000) (ann := aAf) (il := aIl) (by decide +kernel)
/-- X7_at -/
noncomputable def cK88 : aK := ([(2, 0, (0, 0)), (0, 0, ((-2147483648), 2147483647)), (0, 0, ((-2147483648), 2147483647))], (1, ((-3), 1)), [(0, (0, 0), (13, 14)), (12, (0, 0), (1, 2))], 3)
set_option maxRecDepth 100000 in
theorem cT88 : aKP aGI 70 cK88 := achk_ok (aCt_ok cP0) (n := 4000) (ann := aAf) (il := aIl) (by decide +kernel)
/-- X7_tear -/
noncomputable def cK89 : aK := ([(2, 0, (0, 0)), (0, 0, ((-2147483648), 2147483647))], (1, ((-3), 1)), [(0, (0, 0), (13, 13)), (12, (0, 0), (1, 1)), (14, (0, 0), (0, 5))], 2)
set_option maxRecDepth 100000 in
theorem cT89 : aKP aGI 71 cK89 := achk_ok (aCt_ok cP0) (n := 4000) (ann := aAf) (il := aIl) (by decide +kernel)
/-- X7_put -/
noncomputable def cK92 : aK := ([(2, 0, (0, 0)), (0, 0, ((-2147483648), 2147483647)), (0, 0, ((-2147483648), 2147483647)), (0, 0, ((-2147483648), 2147483647))], (1, ((-2147483648), 2147483647)), [(0, (0, 0), (13, 13)), (12, (0, 0), (1, 2)), (30, (0, 3), (0, 59))], 3)
set_option maxRecDepth 100000 in
theorem cT92 : aKP aGI 75 cK92 := achk_ok (aCt_ok cP0) (n := 4000) (ann := aAf) (il := aIl) (by decide +kernel)
/-- X7_shrink -/
noncomputable def cK100 : aK := ([(2, 0, (0, 0)), (0, 0, ((-2147483648), 2147483647))], (1, ((-4), 8)), [(4, (1, 1), (15, 15)), (19, (1, 1), (0, 5)), (22, (1, 1), (0, 39))], 3)
set_option maxRecDepth 100000 in
theorem cT100 : aKP aGI 83 cK100 := achk_ok (aCt_ok cP0) (n := 4000) (ann := aAf) (il := aIl) (by decide +kernel)
/-- X7_price -/
noncomputable def cK101 : aK := ([(2, 0, (0, 0)), (0, 0, ((-2147483648), 2147483647)), (0, 0, ((-2147483648), 2147483647))], (1, ((-2147483648), 2147483647)), [(4, (1, 1), (15, 15)), (20, (1, 1), (0, 5)), (22, (1, 1), (0, 39))], 3)
set_option maxRecDepth 100000 in
theorem cT101 : aKP aGI 84 cK101 := achk_ok (aCt_ok cP0) (n := 4000) (ann := aAf) (il := aIl) (by decide +kernel)
/-- X7_card -/
noncomputable def cK102 : aK := ([(2, 0, (0, 0)), (0, 0, ((-2147483648), 2147483647))], (1, ((-4), 1)), [(4, (1, 1), (14, 15)), (22, (1, 1), (0, 39))], 3)
set_option maxRecDepth 100000 in
theorem cT102 : aKP aGI 85 cK102 := achk_ok (aCt_ok cP0) (n := 4000) (ann := aAf) (il := aIl) (by decide +kernel)
/-- X7_asked -/
noncomputable def cK118 : aK := ([(2, 0, (0, 0))], (1, ((-2147483648), 2147483647)), [], 1)
set_option maxRecDepth 100000 in
theorem cT118 : aKP aGI 106 cK118 := achk_ok (aCt_ok cP0) (n := 4000) (ann := aAf) (il := aIl) (by decide +kernel)
/-- X7_upper -/
noncomputable def cK119 : aK := ([(2, 0, (0, 0))], (2, ((-9223372036854775808), 9223372036854775807)), [], 1)
set_option maxRecDepth 100000 in
theorem cT119 : aKP aGI 107 cK119 := achk_ok (aCt_ok cP0) (n := 4000) (ann := aAf) (il := aIl) (by decide +kernel)
/-- X7_lower -/
noncomputable def cK120 : aK := ([(2, 0, (0, 0))], (2, ((-9223372036854775808), 9223372036854775807)), [], 1)
set_option maxRecDepth 100000 in
theorem cT120 : aKP aGI 108 cK120 := achk_ok (aCt_ok cP0) (n := 4000) (ann := aAf) (il := aIl) (by decide +kernel)
/-- X7_finding -/
noncomputable def cK122 : aK := ([(2, 0, (0, 0))], (1, ((-2147483648), 2147483647)), [], 1)
set_option maxRecDepth 100000 in
theorem cT122 : aKP aGI 110 cK122 := achk_ok (aCt_ok cP0) (n := 4000) (ann := aAf) (il := aIl) (by decide +kernel)
/-- X7_findings -/
noncomputable def cK123 : aK := ([(2, 0, (0, 0)), (0, 0, ((-2147483648), 2147483647))], (1, ((-2147483648), 2147483647)), [], 1)
set_option maxRecDepth 100000 in
theorem cT123 : aKP aGI 111 cK123 := achk_ok (aCt_ok cP0) (n := 4000) (ann := aAf) (il := aIl) (by decide +kernel)
/-- X8_makeRow -/
noncomputable def cK125 : aK := ([(2, 31, (0, 0)), (0, 0, (0, 5)), (0, 0, (0, 40))], (0, (0, 0)), [(35, (0, 0), (0, 5)), (36, (0, 0), (0, 239))], 1)
set_option maxRecDepth 100000 in
theorem cT125 : aKP aGI 131 cK125 := achk_ok (aCt_ok cP0) (n := 4000) (ann := aAf) (il := aIl) (by decide +kernel)
/-- X8_lay -/
noncomputable def cK127 : aK := ([(2, 31, (0, 0)), (0, 0, ((-2147483648), 2147483647)), (0, 0, ((-2147483648), 2147483647)), (0, 0, ((-2147483648), 2147483647))], (1, ((-3), 1)), [(31, (0, 0), (10, 10)), (31, (0, 0), (13, 13)), (36, (0, 0), (0, 239)), (39, (0, 0), (1, 2))], 4)
set_option maxRecDepth 100000 in
theorem cT127 : aKP aGI 133 cK127 := achk_ok (aCt_ok cP0) (n := 4000) (ann := aAf) (il := aIl) (by decide +kernel)
/-- X8_at -/
noncomputable def cK128 : aK := ([(2, 31, (0, 0)), (0, 0, ((-2147483648), 2147483647)), (0, 0, ((-2147483648), 2147483647))], (1, ((-3), 1)), [(31, (0, 0), (10, 10)), (31, (0, 0), (13, 13)), (39, (0, 0), (1, 2))], 4)
set_option maxRecDepth 100000 in
theorem cT128 : aKP aGI 134 cK128 := achk_ok (aCt_ok cP0) (n := 4000) (ann := aAf) (il := aIl) (by decide +kernel)
/-- X8_tear -/
noncomputable def cK129 : aK := ([(2, 31, (0, 0)), (0, 0, ((-2147483648), 2147483647))], (1, ((-3), 1)), [(31, (0, 0), (13, 13)), (35, (0, 0), (0, 5)), (39, (0, 0), (1, 1))], 3)
set_option maxRecDepth 100000 in
theorem cT129 : aKP aGI 135 cK129 := achk_ok (aCt_ok cP0) (n := 4000) (ann := aAf) (il := aIl) (by decide +kernel)
/-- X8_mean -/
noncomputable def cK130 : aK := ([(2, 31, (0, 0)), (0, 0, ((-2147483648), 2147483647))], (1, ((-3), 1)), [(31, (0, 0), (10, 10)), (31, (0, 0), (13, 13)), (39, (0, 0), (1, 1)), (39, (0, 0), (4, 4))], 3)
set_option maxRecDepth 100000 in
theorem cT130 : aKP aGI 138 cK130 := achk_ok (aCt_ok cP0) (n := 4000) (ann := aAf) (il := aIl) (by decide +kernel)
/-- X8_text -/
noncomputable def cK131 : aK := ([(2, 31, (0, 0)), (0, 0, ((-2147483648), 2147483647)), (0, 0, ((-2147483648), 2147483647))], (1, ((-3), 60)), [(31, (0, 0), (13, 13)), (37, (0, 0), (0, 3)), (38, (0, 0), (0, 239)), (39, (0, 0), (5, 5))], 3)
set_option maxRecDepth 100000 in
theorem cT131 : aKP aGI 139 cK131 := achk_ok (aCt_ok cP0) (n := 4000) (ann := aAf) (il := aIl) (by decide +kernel)
/-- X8_put -/
noncomputable def cK132 : aK := ([(2, 31, (0, 0)), (0, 0, ((-2147483648), 2147483647)), (0, 0, ((-2147483648), 2147483647)), (0, 0, ((-2147483648), 2147483647))], (1, ((-2147483648), 2147483647)), [(31, (0, 0), (13, 13)), (38, (0, 0), (0, 239)), (39, (0, 0), (1, 2))], 3)
set_option maxRecDepth 100000 in
theorem cT132 : aKP aGI 140 cK132 := achk_ok (aCt_ok cP0) (n := 4000) (ann := aAf) (il := aIl) (by decide +kernel)
/-- X8_kindOfLetter -/
noncomputable def cK133 : aK := ([(0, 0, ((-2147483648), 2147483647))], (1, ((-9), 5)), [], 1)
set_option maxRecDepth 100000 in
theorem cT133 : aKP aGI 146 cK133 := achk_ok (aCt_ok cP0) (n := 4000) (ann := aAf) (il := aIl) (by decide +kernel)
/-- X8_costBy -/
noncomputable def cK134 : aK := ([(0, 0, ((-2147483648), 2147483647)), (0, 0, ((-2147483648), 2147483647)), (0, 0, ((-2147483648), 2147483647)), (0, 0, ((-2147483648), 2147483647))], (1, ((-2147483648), 2147483647)), [], 2)
set_option maxRecDepth 100000 in
theorem cT134 : aKP aGI 152 cK134 := achk_ok (aCt_ok cP0) (n := 4000) (ann := aAf) (il := aIl) (by decide +kernel)
/-- X8_gotBy -/
noncomputable def cK137 : aK := ([(0, 0, ((-2147483648), 2147483647)), (0, 0, ((-2147483648), 2147483647))], (1, ((-2147483648), 2147483647)), [], 1)
set_option maxRecDepth 100000 in
theorem cT137 : aKP aGI 154 cK137 := achk_ok (aCt_ok cP0) (n := 4000) (ann := aAf) (il := aIl) (by decide +kernel)
/-- X8_keepsOf -/
noncomputable def cK140 : aK := ([(2, 31, (0, 0)), (0, 0, (0, 5))], (1, (0, 9)), [], 1)
set_option maxRecDepth 100000 in
theorem cT140 : aKP aGI 156 cK140 := achk_ok (aCt_ok cP0) (n := 4000) (ann := aAf) (il := aIl) (by decide +kernel)
/-- X8_isOf -/
noncomputable def cK143 : aK := ([(2, 31, (0, 0)), (0, 0, (0, 5)), (0, 0, ((-2147483648), 2147483647))], (1, (0, 1)), [], 1)
set_option maxRecDepth 100000 in
theorem cT143 : aKP aGI 159 cK143 := achk_ok (aCt_ok cP0) (n := 4000) (ann := aAf) (il := aIl) (by decide +kernel)
/-- X8_larder -/
noncomputable def cK145 : aK := ([(2, 31, (0, 0)), (0, 0, ((-2147483648), 2147483647))], (1, ((-2147483648), 2147483647)), [], 2)
set_option maxRecDepth 100000 in
theorem cT145 : aKP aGI 161 cK145 := achk_ok (aCt_ok cP0) (n := 4000) (ann := aAf) (il := aIl) (by decide +kernel)
/-- X8_inLarder -/
noncomputable def cK146 : aK := ([(2, 31, (0, 0)), (0, 0, (0, 0))], (1, ((-2147483648), 2147483647)), [], 1)
set_option maxRecDepth 100000 in
theorem cT146 : aKP aGI 162 cK146 := achk_ok (aCt_ok cP0) (n := 4000) (ann := aAf) (il := aIl) (by decide +kernel)
/-- X8_inLarder -/
noncomputable def cK147 : aK := ([(2, 31, (0, 0)), (0, 0, (4596, 4596))], (1, ((-2147483648), 2147483647)), [], 1)
set_option maxRecDepth 100000 in
theorem cT147 : aKP aGI 162 cK147 := achk_ok (aCt_ok cP0) (n := 4000) (ann := aAf) (il := aIl) (by decide +kernel)
/-- X8_pass -/
noncomputable def cK152 : aK := ([(2, 31, (0, 0)), (0, 0, (0, 0))], (1, ((-2147483648), 2147483647)), [(32, (0, 0), (1, 1)), (32, (0, 0), (3, 5)), (32, (0, 0), (7, 16))], 1)
set_option maxRecDepth 100000 in
theorem cT152 : aKP aGI 167 cK152 := achk_ok (aCt_ok cP0) (n := 4000) (ann := aAf) (il := aIl) (by decide +kernel)
/-- X8_pass -/
noncomputable def cK153 : aK := ([(2, 31, (0, 0)), (0, 0, (4596, 4596))], (1, ((-2147483648), 2147483647)), [(32, (0, 0), (4597, 4597)), (32, (0, 0), (4599, 4601)), (32, (0, 0), (4603, 4612))], 1)
set_option maxRecDepth 100000 in
theorem cT153 : aKP aGI 167 cK153 := achk_ok (aCt_ok cP0) (n := 4000) (ann := aAf) (il := aIl) (by decide +kernel)
/-- X8_shrink -/
noncomputable def cK156 : aK := ([(2, 31, (0, 0)), (0, 0, ((-2147483648), 2147483647))], (1, ((-2147483648), 2147483647)), [(32, (0, 0), (0, 0)), (32, (0, 0), (17, 22)), (32, (0, 0), (29, 1148))], 3)
set_option maxRecDepth 100000 in
theorem cT156 : aKP aGI 169 cK156 := achk_ok (aCt_ok cP0) (n := 4000) (ann := aAf) (il := aIl) (by decide +kernel)
/-- X8_price -/
noncomputable def cK157 : aK := ([(2, 31, (0, 0)), (0, 0, ((-2147483648), 2147483647)), (0, 0, ((-2147483648), 2147483647))], (1, ((-2147483648), 2147483647)), [(32, (0, 0), (0, 0)), (32, (0, 0), (23, 1148))], 3)
set_option maxRecDepth 100000 in
theorem cT157 : aKP aGI 171 cK157 := achk_ok (aCt_ok cP0) (n := 4000) (ann := aAf) (il := aIl) (by decide +kernel)
/-- X8_card -/
noncomputable def cK158 : aK := ([(2, 31, (0, 0)), (0, 0, ((-2147483648), 2147483647))], (1, ((-2147483648), 1)), [(32, (0, 0), (0, 0)), (32, (0, 0), (6, 6)), (32, (0, 0), (29, 1148))], 3)
set_option maxRecDepth 100000 in
theorem cT158 : aKP aGI 172 cK158 := achk_ok (aCt_ok cP0) (n := 4000) (ann := aAf) (il := aIl) (by decide +kernel)
/-- X8_undo -/
noncomputable def cK159 : aK := ([(2, 31, (0, 0)), (0, 0, ((-2147483648), 2147483647))], (1, ((-40), 40)), [(32, (0, 0), (0, 28))], 2)
set_option maxRecDepth 100000 in
theorem cT159 : aKP aGI 173 cK159 := achk_ok (aCt_ok cP0) (n := 4000) (ann := aAf) (il := aIl) (by decide +kernel)
/-- X8_power -/
noncomputable def cK163 : aK := ([(0, 0, (4, 4)), (0, 0, (0, 6))], (1, (1, 4096)), [], 1)
set_option maxRecDepth 100000 in
theorem cT163 : aKP aGI 183 cK163 := achk_ok (aCt_ok cP0) (n := 4000) (ann := aAf) (il := aIl) (by decide +kernel)
/-- X8_power -/
noncomputable def cK164 : aK := ([(0, 0, (1, 7)), (0, 0, ((-3), 3))], (1, (1, 343)), [], 1)
set_option maxRecDepth 100000 in
theorem cT164 : aKP aGI 183 cK164 := achk_ok (aCt_ok cP0) (n := 4000) (ann := aAf) (il := aIl) (by decide +kernel)
/-- X8_layTried -/
noncomputable def cK166 : aK := ([(2, 31, (0, 0))], (0, (0, 0)), [(32, (0, 0), (4596, 4624))], 1)
set_option maxRecDepth 100000 in
theorem cT166 : aKP aGI 185 cK166 := achk_ok (aCt_ok cP0) (n := 4000) (ann := aAf) (il := aIl) (by decide +kernel)
/-- X8_layShop -/
noncomputable def cK177 : aK := ([(2, 31, (0, 0)), (0, 0, (0, 1)), (0, 0, ((-2147483648), 2147483647))], (0, (0, 0)), [(41, (0, 0), (6, 17))], 1)
set_option maxRecDepth 100000 in
theorem cT177 : aKP aGI 199 cK177 := achk_ok (aCt_ok cP0) (n := 4000) (ann := aAf) (il := aIl) (by decide +kernel)
/-- X8_asked -/
noncomputable def cK182 : aK := ([(2, 31, (0, 0))], (1, ((-2147483648), 2147483647)), [], 1)
set_option maxRecDepth 100000 in
theorem cT182 : aKP aGI 208 cK182 := achk_ok (aCt_ok cP0) (n := 4000) (ann := aAf) (il := aIl) (by decide +kernel)
/-- X8_upper -/
noncomputable def cK183 : aK := ([(2, 31, (0, 0))], (2, ((-9223372036854775808), 9223372036854775807)), [], 1)
set_option maxRecDepth 100000 in
theorem cT183 : aKP aGI 209 cK183 := achk_ok (aCt_ok cP0) (n := 4000) (ann := aAf) (il := aIl) (by decide +kernel)
/-- X8_lower -/
noncomputable def cK184 : aK := ([(2, 31, (0, 0))], (2, ((-9223372036854775808), 9223372036854775807)), [], 1)
set_option maxRecDepth 100000 in
theorem cT184 : aKP aGI 210 cK184 := achk_ok (aCt_ok cP0) (n := 4000) (ann := aAf) (il := aIl) (by decide +kernel)
/-- X8_thereOf -/
noncomputable def cK186 : aK := ([(2, 31, (0, 0)), (0, 0, ((-2147483648), 2147483647))], (1, ((-2147483648), 2147483647)), [], 1)
set_option maxRecDepth 100000 in
theorem cT186 : aKP aGI 212 cK186 := achk_ok (aCt_ok cP0) (n := 4000) (ann := aAf) (il := aIl) (by decide +kernel)
/-- X8_finding -/
noncomputable def cK189 : aK := ([(2, 31, (0, 0))], (1, ((-2147483648), 2147483647)), [], 1)
set_option maxRecDepth 100000 in
theorem cT189 : aKP aGI 215 cK189 := achk_ok (aCt_ok cP0) (n := 4000) (ann := aAf) (il := aIl) (by decide +kernel)
/-- X8_findings -/
noncomputable def cK190 : aK := ([(2, 31, (0, 0)), (0, 0, ((-2147483648), 2147483647))], (1, ((-2147483648), 2147483647)), [], 2)
set_option maxRecDepth 100000 in
theorem cT190 : aKP aGI 216 cK190 := achk_ok (aCt_ok cP0) (n := 4000) (ann := aAf) (il := aIl) (by decide +kernel)
noncomputable def cL1 : List (Nat × aK) := (0, cK0) :: (2, cK1) :: (2, cK2) :: (1, cK3) :: (4, cK4) :: (6, cK6) :: (7, cK8) :: (8, cK9) :: (9, cK10) :: (10, cK11) :: (11, cK12) :: (11, cK13) :: (11, cK14) :: (11, cK15) :: (11, cK16) :: (12, cK17) :: (12, cK18) :: (13, cK19) :: (13, cK20) :: (13, cK21) :: (14, cK22) :: (14, cK23) :: (14, cK24) :: (25, cK25) :: (26, cK26) :: (26, cK27) :: (27, cK28) :: (27, cK29) :: (48, cK51) :: (57, cK57) :: (67, cK69) :: (61, cK70) :: (118, cK78) :: (120, cK81) :: (115, cK84) :: (69, cK87) :: (70, cK88) :: (71, cK89) :: (75, cK92) :: (83, cK100) :: (84, cK101) :: (85, cK102) :: (106, cK118) :: (107, cK119) :: (108, cK120) :: (110, cK122) :: (111, cK123) :: (131, cK125) :: (133, cK127) :: (134, cK128) :: (135, cK129) :: (138, cK130) :: (139, cK131) :: (140, cK132) :: (146, cK133) :: (152, cK134) :: (154, cK137) :: (156, cK140) :: (159, cK143) :: (161, cK145) :: (162, cK146) :: (162, cK147) :: (167, cK152) :: (167, cK153) :: (169, cK156) :: (171, cK157) :: (172, cK158) :: (173, cK159) :: (183, cK163) :: (183, cK164) :: (185, cK166) :: (199, cK177) :: (208, cK182) :: (209, cK183) :: (210, cK184) :: (212, cK186) :: (215, cK189) :: (216, cK190) :: cL0
set_option maxRecDepth 100000 in
theorem cP1 : ∀ q ∈ cL1, aKP aGI q.1 q.2 := aFm cT0 (aFm cT1 (aFm cT2 (aFm cT3 (aFm cT4 (aFm cT6 (aFm cT8 (aFm cT9 (aFm cT10 (aFm cT11 (aFm cT12 (aFm cT13 (aFm cT14 (aFm cT15 (aFm cT16 (aFm cT17 (aFm cT18 (aFm cT19 (aFm cT20 (aFm cT21 (aFm cT22 (aFm cT23 (aFm cT24 (aFm cT25 (aFm cT26 (aFm cT27 (aFm cT28 (aFm cT29 (aFm cT51 (aFm cT57 (aFm cT69 (aFm cT70 (aFm cT78 (aFm cT81 (aFm cT84 (aFm cT87 (aFm cT88 (aFm cT89 (aFm cT92 (aFm cT100 (aFm cT101 (aFm cT102 (aFm cT118 (aFm cT119 (aFm cT120 (aFm cT122 (aFm cT123 (aFm cT125 (aFm cT127 (aFm cT128 (aFm cT129 (aFm cT130 (aFm cT131 (aFm cT132 (aFm cT133 (aFm cT134 (aFm cT137 (aFm cT140 (aFm cT143 (aFm cT145 (aFm cT146 (aFm cT147 (aFm cT152 (aFm cT153 (aFm cT156 (aFm cT157 (aFm cT158 (aFm cT159 (aFm cT163 (aFm cT164 (aFm cT166 (aFm cT177 (aFm cT182 (aFm cT183 (aFm cT184 (aFm cT186 (aFm cT189 (aFm cT190 (cP0))))))))))))))))))))))))))))))))))))))))))))))))))))))))))))))))))))))))))))))
end
section
/-- X2_isA -/
noncomputable def cK5 : aK := ([(0, 0, ((-2147483648), 2147483647)), (0, 0, ((-2147483648), 2147483647))], (1, (0, 1)), [], 2)
set_option maxRecDepth 100000 in
theorem cT5 : aKP aGI 3 cK5 := achk_ok (aCt_ok cP1) (n := 4000) (ann := aAf) (il := aIl) (by decide +kernel)
/-- X2_cost -/
noncomputable def cK7 : aK := ([(0, 0, ((-2147483648), 2147483647)), (0, 0, ((-2147483648), 2147483647)), (0, 0, ((-2147483648), 2147483647)), (0, 0, ((-2147483648), 2147483647))], (1, ((-2147483648), 2147483647)), [], 2)
set_option maxRecDepth 100000 in
theorem cT7 : aKP aGI 5 cK7 := achk_ok (aCt_ok cP1) (n := 4000) (ann := aAf) (il := aIl) (by decide +kernel)
/-- X1_getsBy -/
noncomputable def cK31 : aK := ([(2, 4, (1, 1)), (0, 0, (0, 5))], (1, (0, 9)), [], 2)
set_option maxRecDepth 100000 in
theorem cT31 : aKP aGI 36 cK31 := achk_ok (aCt_ok cP1) (n := 4000) (ann := aAf) (il := aIl) (by decide +kernel)
/-- X1_keepsFor -/
noncomputable def cK32 : aK := ([(2, 4, (1, 1)), (0, 0, (0, 5))], (1, (0, 9)), [], 2)
set_option maxRecDepth 100000 in
theorem cT32 : aKP aGI 37 cK32 := achk_ok (aCt_ok cP1) (n := 4000) (ann := aAf) (il := aIl) (by decide +kernel)
/-- X1_passWeek -/
noncomputable def cK41 : aK := ([(2, 4, (1, 1))], (1, ((-2147483648), 2147483647)), [(4, (1, 1), (9, 9)), (4, (1, 1), (11, 13)), (23, (1, 1), (0, 9))], 2)
set_option maxRecDepth 100000 in
theorem cT41 : aKP aGI 46 cK41 := achk_ok (aCt_ok cP1) (n := 4000) (ann := aAf) (il := aIl) (by decide +kernel)
/-- X1_takeStanding -/
noncomputable def cK42 : aK := ([(2, 4, (0, 0)), (2, 4, (5, 5))], (0, (0, 0)), [(4, (0, 0), (6, 15)), (18, (0, 0), (0, 5)), (19, (0, 0), (0, 5)), (20, (0, 0), (0, 5)), (21, (0, 0), (0, 5)), (23, (0, 0), (0, 9))], 2)
set_option maxRecDepth 100000 in
theorem cT42 : aKP aGI 29 cK42 := achk_ok (aCt_ok cP1) (n := 4000) (ann := aAf) (il := aIl) (by decide +kernel)
/-- X1_takeStanding -/
noncomputable def cK43 : aK := ([(2, 4, (1, 1)), (2, 4, (0, 0))], (0, (0, 0)), [(4, (1, 1), (6, 15)), (18, (1, 1), (0, 5)), (19, (1, 1), (0, 5)), (20, (1, 1), (0, 5)), (21, (1, 1), (0, 5)), (23, (1, 1), (0, 9))], 2)
set_option maxRecDepth 100000 in
theorem cT43 : aKP aGI 29 cK43 := achk_ok (aCt_ok cP1) (n := 4000) (ann := aAf) (il := aIl) (by decide +kernel)
/-- X1_takeStanding -/
noncomputable def cK44 : aK := ([(2, 4, (2, 4)), (2, 4, (1, 1))], (0, (0, 0)), [(4, (2, 4), (6, 15)), (18, (2, 4), (0, 5)), (19, (2, 4), (0, 5)), (20, (2, 4), (0, 5)), (21, (2, 4), (0, 5)), (23, (2, 4), (0, 9))], 2)
set_option maxRecDepth 100000 in
theorem cT44 : aKP aGI 29 cK44 := achk_ok (aCt_ok cP1) (n := 4000) (ann := aAf) (il := aIl) (by decide +kernel)
/-- X1_takeStanding -/
noncomputable def cK45 : aK := ([(2, 4, (1, 1)), (2, 4, (2, 4))], (0, (0, 0)), [(4, (1, 1), (6, 15)), (18, (1, 1), (0, 5)), (19, (1, 1), (0, 5)), (20, (1, 1), (0, 5)), (21, (1, 1), (0, 5)), (23, (1, 1), (0, 9))], 2)
set_option maxRecDepth 100000 in
theorem cT45 : aKP aGI 29 cK45 := achk_ok (aCt_ok cP1) (n := 4000) (ann := aAf) (il := aIl) (by decide +kernel)
/-- X4_goOn -/
noncomputable def cK58 : aK := ([(2, 9, (0, 0)), (2, 4, (1, 1)), (0, 0, (3, 3)), (0, 0, ((-2147483648), 2147483647)), (0, 0, ((-2147483648), 2147483647))], (0, (0, 0)), [(9, (0, 0), (4, 5)), (28, (0, 0), (0, 2))], 2)
set_option maxRecDepth 100000 in
theorem cT58 : aKP aGI 55 cK58 := achk_ok (aCt_ok cP1) (n := 4000) (ann := aAf) (il := aIl) (by decide +kernel)
/-- X5_readFigure -/
noncomputable def cK71 : aK := ([(2, 3, (0, 0)), (0, 0, (0, 1))], (1, (0, 9)), [(3, (0, 0), (3, 4))], 2)
set_option maxRecDepth 100000 in
theorem cT71 : aKP aGI 66 cK71 := achk_ok (aCt_ok cP1) (n := 4000) (ann := aAf) (il := aIl) (by decide +kernel)
/-- X5_readKind -/
noncomputable def cK73 : aK := ([(2, 3, (0, 0))], (1, (0, 5)), [(3, (0, 0), (3, 4))], 2)
set_option maxRecDepth 100000 in
theorem cT73 : aKP aGI 64 cK73 := achk_ok (aCt_ok cP1) (n := 4000) (ann := aAf) (il := aIl) (by decide +kernel)
/-- X5_begin -/
noncomputable def cK76 : aK := ([(2, 3, (0, 0)), (2, 2, (0, 0)), (0, 0, (0, 3))], (0, (0, 0)), [(3, (0, 0), (2, 4)), (4, (5, 5), (6, 6)), (17, (0, 0), (0, 59))], 2)
set_option maxRecDepth 100000 in
theorem cT76 : aKP aGI 59 cK76 := achk_ok (aCt_ok cP1) (n := 4000) (ann := aAf) (il := aIl) (by decide +kernel)
/-- X7_row -/
noncomputable def cK86 : aK := ([(2, 0, (0, 0)), (0, 0, ((-2147483648), 2147483647)), (0, 0, ((-2147483648), 2147483647))], (1, ((-3), 40)), [(0, (0, 0), (13, 13)), (12, (0, 0), (5, 5)), (14, (0, 0), (0, 5)), (29, (0, 5), (0, 39))], 3)
set_option maxRecDepth 100000 in
theorem cT86 : aKP aGI 68 cK86 := achk_ok (aCt_ok cP1) (n := 4000) (ann := aAf) (il := aIl) (by decide +kernel)
/-- X7_mean -/
noncomputable def cK90 : aK := ([(2, 0, (0, 0)), (0, 0, ((-2147483648), 2147483647))], (1, ((-3), 1)), [(0, (0, 0), (13, 14)), (12, (0, 0), (1, 1)), (12, (0, 0), (4, 4))], 2)
set_option maxRecDepth 100000 in
theorem cT90 : aKP aGI 73 cK90 := achk_ok (aCt_ok cP1) (n := 4000) (ann := aAf) (il := aIl) (by decide +kernel)
/-- X7_text -/
noncomputable def cK91 : aK := ([(2, 0, (0, 0)), (0, 0, ((-2147483648), 2147483647)), (0, 0, ((-2147483648), 2147483647))], (1, ((-3), 60)), [(0, (0, 0), (13, 13)), (12, (0, 0), (5, 5)), (16, (0, 0), (0, 3)), (30, (0, 3), (0, 59))], 3)
set_option maxRecDepth 100000 in
theorem cT91 : aKP aGI 74 cK91 := achk_ok (aCt_ok cP1) (n := 4000) (ann := aAf) (il := aIl) (by decide +kernel)
/-- X7_larder -/
noncomputable def cK97 : aK := ([(2, 0, (0, 0)), (0, 0, ((-2147483648), 2147483647))], (1, ((-2147483648), 2147483647)), [], 2)
set_option maxRecDepth 100000 in
theorem cT97 : aKP aGI 80 cK97 := achk_ok (aCt_ok cP1) (n := 4000) (ann := aAf) (il := aIl) (by decide +kernel)
/-- X7_off -/
noncomputable def cK110 : aK := ([(2, 0, (0, 0)), (0, 0, ((-2147483648), 2147483647))], (1, ((-2147483648), 2147483647)), [(23, (6, 6), (0, 9))], 2)
set_option maxRecDepth 100000 in
theorem cT110 : aKP aGI 96 cK110 := achk_ok (aCt_ok cP1) (n := 4000) (ann := aAf) (il := aIl) (by decide +kernel)
/-- X7_lasts -/
noncomputable def cK111 : aK := ([(2, 0, (0, 0))], (1, ((-4), 30)), [(23, (6, 6), (0, 9))], 2)
set_option maxRecDepth 100000 in
theorem cT111 : aKP aGI 97 cK111 := achk_ok (aCt_ok cP1) (n := 4000) (ann := aAf) (il := aIl) (by decide +kernel)
/-- X7_grams -/
noncomputable def cK115 : aK := ([(2, 0, (0, 0)), (0, 0, ((-2147483648), 2147483647)), (0, 0, ((-2147483648), 2147483647)), (0, 0, ((-2147483648), 2147483647))], (1, ((-2147483648), 2147483647)), [], 2)
set_option maxRecDepth 100000 in
theorem cT115 : aKP aGI 101 cK115 := achk_ok (aCt_ok cP1) (n := 4000) (ann := aAf) (il := aIl) (by decide +kernel)
/-- X8_row -/
noncomputable def cK126 : aK := ([(2, 31, (0, 0)), (0, 0, ((-2147483648), 2147483647)), (0, 0, ((-2147483648), 2147483647))], (1, ((-3), 40)), [(31, (0, 0), (13, 13)), (35, (0, 0), (0, 5)), (36, (0, 0), (0, 239)), (39, (0, 0), (5, 5))], 3)
set_option maxRecDepth 100000 in
theorem cT126 : aKP aGI 130 cK126 := achk_ok (aCt_ok cP1) (n := 4000) (ann := aAf) (il := aIl) (by decide +kernel)
/-- X8_costOf -/
noncomputable def cK135 : aK := ([(2, 31, (0, 0)), (0, 0, (0, 0)), (0, 0, (0, 5)), (0, 0, ((-2147483648), 2147483647))], (1, ((-2147483648), 2147483647)), [], 3)
set_option maxRecDepth 100000 in
theorem cT135 : aKP aGI 153 cK135 := achk_ok (aCt_ok cP1) (n := 4000) (ann := aAf) (il := aIl) (by decide +kernel)
/-- X8_costOf -/
noncomputable def cK136 : aK := ([(2, 31, (0, 0)), (0, 0, (4596, 4596)), (0, 0, (0, 5)), (0, 0, ((-2147483648), 2147483647))], (1, ((-2147483648), 2147483647)), [], 3)
set_option maxRecDepth 100000 in
theorem cT136 : aKP aGI 153 cK136 := achk_ok (aCt_ok cP1) (n := 4000) (ann := aAf) (il := aIl) (by decide +kernel)
/-- X8_got -/
noncomputable def cK138 : aK := ([(2, 31, (0, 0)), (0, 0, (0, 0)), (0, 0, (0, 5))], (1, ((-2147483648), 2147483647)), [], 2)
set_option maxRecDepth 100000 in
theorem cT138 : aKP aGI 155 cK138 := achk_ok (aCt_ok cP1) (n := 4000) (ann := aAf) (il := aIl) (by decide +kernel)
/-- X8_got -/
noncomputable def cK139 : aK := ([(2, 31, (0, 0)), (0, 0, (4596, 4596)), (0, 0, (0, 5))], (1, ((-2147483648), 2147483647)), [], 2)
set_option maxRecDepth 100000 in
theorem cT139 : aKP aGI 155 cK139 := achk_ok (aCt_ok cP1) (n := 4000) (ann := aAf) (il := aIl) (by decide +kernel)
/-- X8_week -/
noncomputable def cK155 : aK := ([(2, 31, (0, 0))], (1, ((-2147483648), 2147483647)), [(32, (0, 0), (0, 1)), (32, (0, 0), (3, 5)), (32, (0, 0), (7, 16)), (32, (0, 0), (29, 1148))], 2)
set_option maxRecDepth 100000 in
theorem cT155 : aKP aGI 168 cK155 := achk_ok (aCt_ok cP1) (n := 4000) (ann := aAf) (il := aIl) (by decide +kernel)
/-- X8_chosen -/
noncomputable def cK167 : aK := ([(2, 31, (0, 0)), (0, 0, (0, 342)), (0, 0, (0, 3)), (0, 0, (0, 2))], (1, ((-1), 5)), [], 2)
set_option maxRecDepth 100000 in
theorem cT167 : aKP aGI 186 cK167 := achk_ok (aCt_ok cP1) (n := 4000) (ann := aAf) (il := aIl) (by decide +kernel)
/-- X8_off -/
noncomputable def cK170 : aK := ([(2, 31, (0, 0)), (0, 0, ((-2147483648), 2147483647))], (1, ((-2147483648), 2147483647)), [(32, (0, 0), (4596, 4624))], 2)
set_option maxRecDepth 100000 in
theorem cT170 : aKP aGI 190 cK170 := achk_ok (aCt_ok cP1) (n := 4000) (ann := aAf) (il := aIl) (by decide +kernel)
/-- X8_lasts -/
noncomputable def cK171 : aK := ([(2, 31, (0, 0))], (1, ((-4), 30)), [(32, (0, 0), (4596, 4624))], 2)
set_option maxRecDepth 100000 in
theorem cT171 : aKP aGI 191 cK171 := achk_ok (aCt_ok cP1) (n := 4000) (ann := aAf) (il := aIl) (by decide +kernel)
/-- X8_kinds -/
noncomputable def cK173 : aK := ([(2, 31, (0, 0)), (0, 0, ((-2147483648), 2147483647)), (0, 0, ((-2147483648), 2147483647))], (1, ((-2147483648), 2147483647)), [(31, (0, 0), (13, 13)), (39, (0, 0), (1, 1)), (39, (0, 0), (3, 3)), (39, (0, 0), (5, 5))], 4)
set_option maxRecDepth 100000 in
theorem cT173 : aKP aGI 195 cK173 := achk_ok (aCt_ok cP1) (n := 4000) (ann := aAf) (il := aIl) (by decide +kernel)
/-- X8_prices -/
noncomputable def cK174 : aK := ([(2, 31, (0, 0)), (0, 0, ((-2147483648), 2147483647)), (0, 0, ((-2147483648), 2147483647))], (1, ((-2147483648), 2147483647)), [(31, (0, 0), (10, 10)), (31, (0, 0), (13, 13)), (39, (0, 0), (1, 1)), (39, (0, 0), (3, 3)), (39, (0, 0), (5, 5))], 4)
set_option maxRecDepth 100000 in
theorem cT174 : aKP aGI 196 cK174 := achk_ok (aCt_ok cP1) (n := 4000) (ann := aAf) (il := aIl) (by decide +kernel)
/-- X8_grams -/
noncomputable def cK175 : aK := ([(2, 31, (0, 0)), (0, 0, ((-2147483648), 2147483647)), (0, 0, ((-2147483648), 2147483647)), (0, 0, ((-2147483648), 2147483647))], (1, ((-2147483648), 2147483647)), [], 3)
set_option maxRecDepth 100000 in
theorem cT175 : aKP aGI 197 cK175 := achk_ok (aCt_ok cP1) (n := 4000) (ann := aAf) (il := aIl) (by decide +kernel)
/-- X8_those -/
noncomputable def cK185 : aK := ([(2, 31, (0, 0)), (0, 0, ((-2147483648), 2147483647))], (1, ((-2147483648), 2147483647)), [], 2)
set_option maxRecDepth 100000 in
theorem cT185 : aKP aGI 211 cK185 := achk_ok (aCt_ok cP1) (n := 4000) (ann := aAf) (il := aIl) (by decide +kernel)
noncomputable def cL2 : List (Nat × aK) := (3, cK5) :: (5, cK7) :: (36, cK31) :: (37, cK32) :: (46, cK41) :: (29, cK42) :: (29, cK43) :: (29, cK44) :: (29, cK45) :: (55, cK58) :: (66, cK71) :: (64, cK73) :: (59, cK76) :: (68, cK86) :: (73, cK90) :: (74, cK91) :: (80, cK97) :: (96, cK110) :: (97, cK111) :: (101, cK115) :: (130, cK126) :: (153, cK135) :: (153, cK136) :: (155, cK138) :: (155, cK139) :: (168, cK155) :: (186, cK167) :: (190, cK170) :: (191, cK171) :: (195, cK173) :: (196, cK174) :: (197, cK175) :: (211, cK185) :: cL1
set_option maxRecDepth 100000 in
theorem cP2 : ∀ q ∈ cL2, aKP aGI q.1 q.2 := aFm cT5 (aFm cT7 (aFm cT31 (aFm cT32 (aFm cT41 (aFm cT42 (aFm cT43 (aFm cT44 (aFm cT45 (aFm cT58 (aFm cT71 (aFm cT73 (aFm cT76 (aFm cT86 (aFm cT90 (aFm cT91 (aFm cT97 (aFm cT110 (aFm cT111 (aFm cT115 (aFm cT126 (aFm cT135 (aFm cT136 (aFm cT138 (aFm cT139 (aFm cT155 (aFm cT167 (aFm cT170 (aFm cT171 (aFm cT173 (aFm cT174 (aFm cT175 (aFm cT185 (cP1)))))))))))))))))))))))))))))))))
end
section
/-- X1_costOf -/
noncomputable def cK30 : aK := ([(2, 4, (1, 1)), (0, 0, (0, 5)), (0, 0, ((-2147483648), 2147483647))], (1, ((-2147483648), 2147483647)), [], 3)
set_option maxRecDepth 100000 in
theorem cT30 : aKP aGI 35 cK30 := achk_ok (aCt_ok cP2) (n := 4000) (ann := aAf) (il := aIl) (by decide +kernel)
/-- X1_hasRoomFor -/
noncomputable def cK33 : aK := ([(2, 4, (1, 1)), (0, 0, (0, 5)), (0, 0, ((-2147483648), 2147483647))], (1, (0, 1)), [], 3)
set_option maxRecDepth 100000 in
theorem cT33 : aKP aGI 33 cK33 := achk_ok (aCt_ok cP2) (n := 4000) (ann := aAf) (il := aIl) (by decide +kernel)
/-- X1_packetsOf -/
noncomputable def cK38 : aK := ([(2, 4, (1, 1)), (0, 0, ((-2147483648), 2147483647))], (1, ((-2147483648), 2147483647)), [], 3)
set_option maxRecDepth 100000 in
theorem cT38 : aKP aGI 43 cK38 := achk_ok (aCt_ok cP2) (n := 4000) (ann := aAf) (il := aIl) (by decide +kernel)
/-- X1_takeAll -/
noncomputable def cK46 : aK := ([(2, 4, (0, 0)), (2, 4, (5, 5))], (0, (0, 0)), [(4, (0, 0), (6, 15)), (18, (0, 0), (0, 5)), (19, (0, 0), (0, 5)), (20, (0, 0), (0, 5)), (21, (0, 0), (0, 5)), (22, (0, 0), (0, 39)), (23, (0, 0), (0, 9))], 3)
set_option maxRecDepth 100000 in
theorem cT46 : aKP aGI 28 cK46 := achk_ok (aCt_ok cP2) (n := 4000) (ann := aAf) (il := aIl) (by decide +kernel)
/-- X1_takeAll -/
noncomputable def cK47 : aK := ([(2, 4, (1, 1)), (2, 4, (0, 0))], (0, (0, 0)), [(4, (1, 1), (6, 15)), (18, (1, 1), (0, 5)), (19, (1, 1), (0, 5)), (20, (1, 1), (0, 5)), (21, (1, 1), (0, 5)), (22, (1, 1), (0, 39)), (23, (1, 1), (0, 9))], 3)
set_option maxRecDepth 100000 in
theorem cT47 : aKP aGI 28 cK47 := achk_ok (aCt_ok cP2) (n := 4000) (ann := aAf) (il := aIl) (by decide +kernel)
/-- X1_takeAll -/
noncomputable def cK48 : aK := ([(2, 4, (2, 4)), (2, 4, (1, 1))], (0, (0, 0)), [(4, (2, 4), (6, 15)), (18, (2, 4), (0, 5)), (19, (2, 4), (0, 5)), (20, (2, 4), (0, 5)), (21, (2, 4), (0, 5)), (22, (2, 4), (0, 39)), (23, (2, 4), (0, 9))], 3)
set_option maxRecDepth 100000 in
theorem cT48 : aKP aGI 28 cK48 := achk_ok (aCt_ok cP2) (n := 4000) (ann := aAf) (il := aIl) (by decide +kernel)
/-- X1_takeAll -/
noncomputable def cK49 : aK := ([(2, 4, (1, 1)), (2, 4, (2, 4))], (0, (0, 0)), [(4, (1, 1), (6, 15)), (18, (1, 1), (0, 5)), (19, (1, 1), (0, 5)), (20, (1, 1), (0, 5)), (21, (1, 1), (0, 5)), (22, (1, 1), (0, 39)), (23, (1, 1), (0, 9))], 3)
set_option maxRecDepth 100000 in
theorem cT49 : aKP aGI 28 cK49 := achk_ok (aCt_ok cP2) (n := 4000) (ann := aAf) (il := aIl) (by decide +kernel)
/-- X0_leftBehind -/
noncomputable def cK52 : aK := ([(2, 4, (1, 1)), (0, 0, (0, 5)), (0, 0, (0, 3)), (0, 0, (0, 30))], (1, (0, 30)), [], 3)
set_option maxRecDepth 100000 in
theorem cT52 : aKP aGI 52 cK52 := achk_ok (aCt_ok cP2) (n := 4000) (ann := aAf) (il := aIl) (by decide +kernel)
/-- X4_liveWeek -/
noncomputable def cK59 : aK := ([(2, 9, (0, 0)), (2, 4, (1, 1)), (0, 0, (2, 2)), (0, 0, ((-9), (-9))), (0, 0, ((-2147483648), 2147483647)), (0, 0, ((-2147483648), 2147483647))], (0, (0, 0)), [(9, (0, 0), (4, 5)), (23, (7, 10), (0, 9)), (27, (0, 0), (2, 2)), (28, (0, 0), (0, 2))], 3)
set_option maxRecDepth 100000 in
theorem cT59 : aKP aGI 56 cK59 := achk_ok (aCt_ok cP2) (n := 4000) (ann := aAf) (il := aIl) (by decide +kernel)
/-- X5_readTwoFigures -/
noncomputable def cK72 : aK := ([(2, 3, (0, 0))], (1, (0, 99)), [(3, (0, 0), (3, 4))], 3)
set_option maxRecDepth 100000 in
theorem cT72 : aKP aGI 65 cK72 := achk_ok (aCt_ok cP2) (n := 4000) (ann := aAf) (il := aIl) (by decide +kernel)
/-- X7_fitsPairs -/
noncomputable def cK79 : aK := ([(2, 0, (0, 0)), (0, 0, (0, 5)), (0, 0, ((-2147483648), 2147483647)), (0, 0, ((-2147483648), 2147483647))], (1, (0, 1)), [], 3)
set_option maxRecDepth 100000 in
theorem cT79 : aKP aGI 119 cK79 := achk_ok (aCt_ok cP2) (n := 4000) (ann := aAf) (il := aIl) (by decide +kernel)
/-- X7_buyerPays -/
noncomputable def cK80 : aK := ([(2, 4, (1, 1)), (2, 10, (0, 0))], (1, ((-2147483648), 1000000)), [], 3)
set_option maxRecDepth 100000 in
theorem cT80 : aKP aGI 121 cK80 := achk_ok (aCt_ok cP2) (n := 4000) (ann := aAf) (il := aIl) (by decide +kernel)
/-- X7_week -/
noncomputable def cK99 : aK := ([(2, 0, (0, 0))], (1, ((-2147483648), 2147483647)), [(4, (1, 1), (9, 9)), (4, (1, 1), (11, 13)), (4, (1, 1), (15, 15)), (22, (1, 1), (0, 39)), (23, (1, 1), (0, 9))], 4)
set_option maxRecDepth 100000 in
theorem cT99 : aKP aGI 82 cK99 := achk_ok (aCt_ok cP2) (n := 4000) (ann := aAf) (il := aIl) (by decide +kernel)
/-- X8_toldOf -/
noncomputable def cK141 : aK := ([(2, 31, (0, 0)), (0, 0, (0, 5)), (0, 0, ((-2147483648), 2147483647))], (1, ((-2147483648), 2147483647)), [], 4)
set_option maxRecDepth 100000 in
theorem cT141 : aKP aGI 157 cK141 := achk_ok (aCt_ok cP2) (n := 4000) (ann := aAf) (il := aIl) (by decide +kernel)
/-- X8_mark -/
noncomputable def cK144 : aK := ([(2, 31, (0, 0)), (0, 0, ((-2147483648), 2147483647)), (0, 0, ((-2147483648), 2147483647))], (1, ((-2147483648), 2147483647)), [(31, (0, 0), (13, 13)), (39, (0, 0), (3, 3))], 4)
set_option maxRecDepth 100000 in
theorem cT144 : aKP aGI 160 cK144 := achk_ok (aCt_ok cP2) (n := 4000) (ann := aAf) (il := aIl) (by decide +kernel)
/-- X8_hasRoom -/
noncomputable def cK148 : aK := ([(2, 31, (0, 0)), (0, 0, (0, 0)), (0, 0, (0, 5)), (0, 0, ((-2147483648), 2147483647))], (1, (0, 1)), [], 3)
set_option maxRecDepth 100000 in
theorem cT148 : aKP aGI 164 cK148 := achk_ok (aCt_ok cP2) (n := 4000) (ann := aAf) (il := aIl) (by decide +kernel)
/-- X8_hasRoom -/
noncomputable def cK149 : aK := ([(2, 31, (0, 0)), (0, 0, (4596, 4596)), (0, 0, (0, 5)), (0, 0, ((-2147483648), 2147483647))], (1, (0, 1)), [], 3)
set_option maxRecDepth 100000 in
theorem cT149 : aKP aGI 164 cK149 := achk_ok (aCt_ok cP2) (n := 4000) (ann := aAf) (il := aIl) (by decide +kernel)
/-- X8_buysAt -/
noncomputable def cK150 : aK := ([(2, 31, (0, 0)), (0, 0, (0, 0)), (0, 0, (0, 5)), (0, 0, ((-2147483648), 2147483647))], (1, ((-2147483648), 2147483647)), [(32, (0, 0), (2, 2)), (32, (0, 0), (7, 16))], 4)
set_option maxRecDepth 100000 in
theorem cT150 : aKP aGI 165 cK150 := achk_ok (aCt_ok cP2) (n := 4000) (ann := aAf) (il := aIl) (by decide +kernel)
/-- X8_buysAt -/
noncomputable def cK151 : aK := ([(2, 31, (0, 0)), (0, 0, (4596, 4596)), (0, 0, (0, 5)), (0, 0, ((-2147483648), 2147483647))], (1, ((-2147483648), 2147483647)), [(32, (0, 0), (4598, 4598)), (32, (0, 0), (4603, 4612))], 4)
set_option maxRecDepth 100000 in
theorem cT151 : aKP aGI 165 cK151 := achk_ok (aCt_ok cP2) (n := 4000) (ann := aAf) (il := aIl) (by decide +kernel)
/-- X8_costs -/
noncomputable def cK160 : aK := ([(2, 31, (0, 0)), (0, 0, ((-2147483648), 2147483647)), (0, 0, ((-2147483648), 2147483647))], (1, ((-2147483648), 2147483647)), [], 4)
set_option maxRecDepth 100000 in
theorem cT160 : aKP aGI 177 cK160 := achk_ok (aCt_ok cP2) (n := 4000) (ann := aAf) (il := aIl) (by decide +kernel)
/-- X8_rateTo -/
noncomputable def cK161 : aK := ([(2, 31, (0, 0)), (0, 0, (0, 5)), (0, 0, (0, 5))], (1, ((-2147483648), 2147483647)), [], 4)
set_option maxRecDepth 100000 in
theorem cT161 : aKP aGI 180 cK161 := achk_ok (aCt_ok cP2) (n := 4000) (ann := aAf) (il := aIl) (by decide +kernel)
/-- X8_least -/
noncomputable def cK165 : aK := ([(2, 31, (0, 0)), (0, 0, ((-2147483648), 2147483647)), (0, 0, ((-2147483648), 2147483647))], (1, ((-2147483648), 99999)), [(35, (0, 0), (0, 5)), (36, (0, 0), (0, 239))], 4)
set_option maxRecDepth 100000 in
theorem cT165 : aKP aGI 184 cK165 := achk_ok (aCt_ok cP2) (n := 4000) (ann := aAf) (il := aIl) (by decide +kernel)
/-- X8_looks -/
noncomputable def cK172 : aK := ([(2, 31, (0, 0)), (0, 0, ((-2147483648), 2147483647)), (0, 0, ((-2147483648), 2147483647))], (1, ((-9), 6)), [(31, (0, 0), (10, 10))], 4)
set_option maxRecDepth 100000 in
theorem cT172 : aKP aGI 192 cK172 := achk_ok (aCt_ok cP2) (n := 4000) (ann := aAf) (il := aIl) (by decide +kernel)
/-- X8_worthAt -/
noncomputable def cK176 : aK := ([(2, 31, (0, 0)), (0, 0, (0, 2)), (0, 0, (0, 5))], (1, ((-2147483648), 2147483647)), [], 3)
set_option maxRecDepth 100000 in
theorem cT176 : aKP aGI 198 cK176 := achk_ok (aCt_ok cP2) (n := 4000) (ann := aAf) (il := aIl) (by decide +kernel)
/-- X8_countOf -/
noncomputable def cK187 : aK := ([(2, 31, (0, 0)), (0, 0, ((-2147483648), 2147483647))], (1, ((-2147483648), 2147483647)), [], 3)
set_option maxRecDepth 100000 in
theorem cT187 : aKP aGI 213 cK187 := achk_ok (aCt_ok cP2) (n := 4000) (ann := aAf) (il := aIl) (by decide +kernel)
noncomputable def cL3 : List (Nat × aK) := (35, cK30) :: (33, cK33) :: (43, cK38) :: (28, cK46) :: (28, cK47) :: (28, cK48) :: (28, cK49) :: (52, cK52) :: (56, cK59) :: (65, cK72) :: (119, cK79) :: (121, cK80) :: (82, cK99) :: (157, cK141) :: (160, cK144) :: (164, cK148) :: (164, cK149) :: (165, cK150) :: (165, cK151) :: (177, cK160) :: (180, cK161) :: (184, cK165) :: (192, cK172) :: (198, cK176) :: (213, cK187) :: cL2
set_option maxRecDepth 100000 in
theorem cP3 : ∀ q ∈ cL3, aKP aGI q.1 q.2 := aFm cT30 (aFm cT33 (aFm cT38 (aFm cT46 (aFm cT47 (aFm cT48 (aFm cT49 (aFm cT52 (aFm cT59 (aFm cT72 (aFm cT79 (aFm cT80 (aFm cT99 (aFm cT141 (aFm cT144 (aFm cT148 (aFm cT149 (aFm cT150 (aFm cT151 (aFm cT160 (aFm cT161 (aFm cT165 (aFm cT172 (aFm cT176 (aFm cT187 (cP2)))))))))))))))))))))))))
end
