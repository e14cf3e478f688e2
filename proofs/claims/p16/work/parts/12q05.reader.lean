/-! THE READERS: the class's and the reference's go alike through a TEXT -/
noncomputable def cs (I : jI) (p q : Int32) : jI := jup (jup I 3 0 3 p) 3 0 4 q
noncomputable def ms (J : jI) (p : Int32) : jI := jup J 31 0 16 p
theorem cs_p (I : jI) (p q x : Int32) : jup (cs I p q) 3 0 3 x = cs I x q := by
  funext g i j
  unfold cs jup
  by_cases h : g = 3 ∧ i = 0 ∧ j = 3
  · obtain ⟨rfl, rfl, rfl⟩ := h; rfl
  · rw [if_neg h, if_neg h, if_neg h]
theorem cs_q (I : jI) (p q x : Int32) : jup (cs I p q) 3 0 4 x = cs I p x := by
  funext g i j
  unfold cs jup
  by_cases h : g = 3 ∧ i = 0 ∧ j = 4
  · rw [if_pos h, if_pos h]
  · rw [if_neg h, if_neg h, if_neg h]
theorem cs_up (I : jI) (p q : Int32) {g i j : Nat} {x : Int32} (h : ¬ g = 3) : jup (cs I p q) g i j x = cs (jup I g i j x) p q := by
  funext a b c
  unfold cs jup
  by_cases h1 : a = g ∧ b = i ∧ c = j
  · have h3 : ¬ a = 3 := fun z => h (h1.1.symm.trans z)
    rw [if_pos h1, if_neg (fun z => h3 z.1), if_neg (fun z => h3 z.1), if_pos h1]
  · rw [if_neg h1]
    by_cases h2 : a = 3 ∧ b = 0 ∧ c = 4
    · rw [if_pos h2, if_pos h2]
    · rw [if_neg h2, if_neg h2]
      by_cases h3 : a = 3 ∧ b = 0 ∧ c = 3
      · rw [if_pos h3, if_pos h3]
      · rw [if_neg h3, if_neg h3, if_neg h1]
theorem ms_p (J : jI) (p x : Int32) : jup (ms J p) 31 0 16 x = ms J x := by
  funext g i j
  unfold ms jup
  by_cases h : g = 31 ∧ i = 0 ∧ j = 16
  · rw [if_pos h, if_pos h]
  · rw [if_neg h, if_neg h, if_neg h]
theorem ms_up (J : jI) (p : Int32) {g i j : Nat} {x : Int32} (h : ¬ (g = 31 ∧ i = 0 ∧ j = 16)) : jup (ms J p) g i j x = ms (jup J g i j x) p := by
  funext a b c
  unfold ms jup
  by_cases h1 : a = g ∧ b = i ∧ c = j
  · have h3 : ¬ (a = 31 ∧ b = 0 ∧ c = 16) := fun z => h ⟨h1.1.symm.trans z.1, h1.2.1.symm.trans z.2.1, h1.2.2.symm.trans z.2.2⟩
    rw [if_pos h1, if_neg h3, if_pos h1]
  · rw [if_neg h1]
    by_cases h2 : a = 31 ∧ b = 0 ∧ c = 16
    · rw [if_pos h2, if_pos h2]
    · rw [if_neg h2, if_neg h2, if_neg h1]
/-- both read the same n bytes -/
noncomputable def rdS (I J : jI) (n : Int) : Prop := (0 ≤ n ∧ n ≤ 60) ∧ (I 3 0 2).toInt = n ∧ (J 31 0 17).toInt = n ∧ ∃ t : Int32, (0 ≤ t.toInt ∧ t.toInt ≤ 3) ∧ J 31 0 15 = 60 * t ∧ ∀ p : Int32, 0 ≤ p.toInt → p.toInt < n → J 38 0 (60 * t.toNatClampNeg + p.toNatClampNeg) = I 17 0 p.toNatClampNeg
theorem rdS_up {I J : jI} {n : Int} (h : rdS I J n) {g i j g' i' j' : Nat} {x y : Int32} (h1 : ¬ g = 3 ∧ ¬ g = 17) (h2 : ¬ (g' = 31 ∧ (j' = 15 ∨ j' = 17)) ∧ ¬ g' = 38) : rdS (jup I g i j x) (jup J g' i' j' y) n := by
  obtain ⟨a, b, c, t, e, f, k⟩ := h
  refine ⟨a, ?_, ?_, t, e, ?_, fun p p0 p1 => ?_⟩
  · rw [jup_g (fun z => h1.1 z.symm)]; exact b
  · rw [jup_of (fun z => h2.1 ⟨z.1.symm, Or.inr z.2.2.symm⟩)]; exact c
  · rw [jup_of (fun z => h2.1 ⟨z.1.symm, Or.inl z.2.2.symm⟩)]; exact f
  · rw [jup_g (fun z => h2.2 z.symm), jup_g (fun z => h1.2 z.symm)]; exact k p p0 p1
theorem ms_here {I J : jI} {n : Int} (h : rdS I J n) {p q : Int32} (p0 : 0 ≤ p.toInt) (p1 : p.toInt < n) : d141 (ms J p) = (cs I p q) 17 0 (Int32.toNatClampNeg ((cs I p q) 3 0 3)) := by
  obtain ⟨a, b, c, t, e, f, k⟩ := h
  have e1 : (ms J p) 31 0 15 = 60 * t := f
  have e2 : (ms J p) 31 0 16 = p := rfl
  have e3 : (cs I p q) 3 0 3 = p := rfl
  unfold d141
  rw [e1, e2, e3, ix60 e.1 e.2 p0 (by omega)]
  exact k p p0 p1
theorem i32_ps {a p : Int32} (a0 : 0 ≤ a.toInt) (a1 : a.toInt ≤ 1000) (p0 : 0 ≤ p.toInt) (p1 : p.toInt ≤ 60) : (a + (p + 1)) - 1 = a + p := by
  have c : (1 : Int32).toInt = 1 := rfl
  have e1 := i32_inc (x := p) (by omega)
  have e2 : (a + (p + 1)).toInt = a.toInt + (p.toInt + 1) := by rw [i32_add (by omega), e1]
  have e3 : ((a + (p + 1)) - 1).toInt = a.toInt + p.toInt := by rw [i32_sub (by rw [e2, c]; omega), e2, c]; omega
  have e4 : (a + p).toInt = a.toInt + p.toInt := by rw [i32_add (by omega)]
  exact eq_t.mpr (by rw [e3, e4])
theorem go_c {I : jI} {p : Int32} {n : Int} (hn : (I 3 0 2).toInt = n) : d60 (cs I p (-9)) = if p.toInt < n then 1 else 0 := by
  unfold d60
  have e1 : (cs I p (-9)) 3 0 4 = -9 := rfl
  have e2 : (cs I p (-9)) 3 0 2 = I 3 0 2 := rfl
  have e3 : (cs I p (-9)) 3 0 3 = p := rfl
  rw [e1, e2, e3, if_pos rfl]
  by_cases h : p.toInt < n
  · rw [if_pos h, if_neg (by rw [le_t, hn]; omega)]
  · rw [if_neg h, if_pos (by rw [le_t, hn]; omega)]
theorem go_f {I : jI} {p q : Int32} (h : ¬ q = -9) : d60 (cs I p q) = 0 := by
  unfold d60
  exact if_neg (show ¬ (cs I p q) 3 0 4 = -9 from h)
theorem fh_c {I : jI} {p : Int32} : d67 (cs I p (-9)) = some (cs I p p) := by
  unfold d67
  rw [if_pos (show (cs I p (-9)) 3 0 4 = -9 from rfl)]
  exact congrArg some (cs_q I p (-9) p)
theorem fh_f {I : jI} {p q : Int32} (h : ¬ q = -9) : d67 (cs I p q) = some (cs I p q) := by
  unfold d67
  exact if_neg (show ¬ (cs I p q) 3 0 4 = -9 from h)
theorem fg_f {I : jI} {p q lo : Int32} (h : ¬ q = -9) : d66 lo (cs I p q) = some (0, cs I p q) := by
  unfold d66
  rw [go_f h, if_pos rfl, fh_f h]
  rfl
theorem ne9 {p : Int32} (h : 0 ≤ p.toInt) : ¬ p = -9 := fun z => by
  rw [z] at h
  exact absurd h (by decide)
/-- a figure -/
theorem fig_eq {I J : jI} {n : Int} (h : rdS I J n) {p lo : Int32} (hl : lo = 0 ∨ lo = 1) (p0 : 0 ≤ p.toInt) (p1 : p.toInt ≤ n) : (∃ v : Int32, p.toInt < n ∧ lo.toInt ≤ v.toInt ∧ v.toInt ≤ 9 ∧ d66 lo (cs I p (-9)) = some (v, cs I (p + 1) (-9)) ∧ d143 lo 9 (ms J p) = some (v, ms J (p + 1))) ∨ (d66 lo (cs I p (-9)) = some (0, cs I p p) ∧ d143 lo 9 (ms J p) = some (-9, ms J p)) := by
  obtain ⟨a, b, c, t, e, f, k⟩ := id h
  have c48 : (48 : Int32).toInt = 48 := rfl
  have c9 : (9 : Int32).toInt = 9 := rfl
  have hl' : 0 ≤ lo.toInt ∧ lo.toInt ≤ 1 := by rcases hl with rfl | rfl <;> decide
  unfold d66 d143
  rw [go_c b]
  have e16 : (ms J p) 31 0 16 = p := rfl
  have e17 : (ms J p) 31 0 17 = J 31 0 17 := rfl
  rw [e16, e17]
  by_cases hp : p.toInt < n
  · rw [if_pos hp, if_neg (by decide), if_neg (show ¬ p = J 31 0 17 from fun z => by rw [z, c] at hp; omega), ms_here h (q := -9) p0 hp, in_i, t64, t64]
    have e3 : (cs I p (-9)) 17 0 (Int32.toNatClampNeg ((cs I p (-9)) 3 0 3)) = I 17 0 p.toNatClampNeg := rfl
    have e3' : (cs I p (-9)) 3 0 3 = p := rfl
    rw [e3, e3']
    generalize hw : I 17 0 p.toNatClampNeg = w
    have el : (48 + lo).toInt = 48 + lo.toInt := by rw [i32_add (by rw [c48]; omega), c48]
    have eh : ((48 : Int32) + 9).toInt = 57 := rfl
    rw [el, eh]
    have rw' := i32_rng w
    by_cases w1 : 48 + lo.toInt ≤ w.toInt ∧ w.toInt ≤ 57
    · have es : (w - 48).toInt = w.toInt - 48 := by rw [i32_sub (by rw [c48]; omega), c48]
      refine Or.inl ⟨w - 48, hp, by omega, by omega, ?_, ?_⟩
      · rw [if_neg (by rw [lt_t, es]; omega), if_neg (by rw [lt_t, es, c9]; omega), cs_p]
      · rw [if_neg (by rw [b01]; exact fun z => z w1), ms_p]
        have e4 : (ms J (p + 1)) 38 0 (Int32.toNatClampNeg (((ms J (p + 1)) 31 0 15 + (ms J (p + 1)) 31 0 16) - 1)) = w := by
          have f1 : (ms J (p + 1)) 31 0 15 = 60 * t := f
          have f2 : (ms J (p + 1)) 31 0 16 = p + 1 := rfl
          have c60 : (60 : Int32).toInt = 60 := rfl
          have e5 : (60 * t).toInt = 60 * t.toInt := by rw [i32_mul (by rw [c60]; omega), c60]
          rw [f1, f2, i32_ps (by omega) (by omega) p0 (by omega), ix60 e.1 e.2 p0 (by omega), ← hw]
          exact k p p0 hp
        rw [e4]
    · refine Or.inr ⟨?_, ?_⟩
      · rw [fh_c]
        by_cases w2 : w - 48 < lo
        · rw [if_pos w2]; rfl
        · rw [if_neg w2]
          by_cases w3 : (9 : Int32) < w - 48
          · rw [if_pos w3]; rfl
          · exfalso
            rw [lt_t] at w2 w3
            rw [c9] at w3
            rw [Int32.toInt_sub, c48] at w2 w3
            by_cases w4 : -2147483648 ≤ w.toInt - 48
            · rw [bm32 (by omega)] at w2 w3
              omega
            · have e9 : Int.bmod (w.toInt - 48) (2 ^ 32) = w.toInt - 48 + 4294967296 := by
                rw [Int.bmod_def]
                omega
              rw [e9] at w2 w3
              omega
      · rw [if_pos (by rw [b01]; exact w1)]
  · rw [if_neg hp, if_pos rfl, fh_c, if_pos (show p = J 31 0 17 from eq_t.mpr (by rw [c]; omega))]
    exact Or.inr ⟨rfl, rfl⟩
