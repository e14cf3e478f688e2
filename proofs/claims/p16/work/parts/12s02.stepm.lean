/-! the reference's row: eaten from, gone off, summed up, kept -/
theorem eat_ml {a : Int32} (ha : 0 ≤ a.toInt ∧ a.toInt ≤ 4596) {b : Nat} (hb : a.toNatClampNeg = b) : ∀ (n F : Nat) (l x : Int32) (I : jI), x.toInt + (n : Int) = 10 → 0 ≤ x.toInt → n < F → ∃ r, d167_7 a F l x I = some r ∧ (r.1 = (eatV n l (fun k => I 32 0 (b + 7 + k)) x.toNatClampNeg).1 ∧ (fun k => r.2 32 0 (b + 7 + k)) = (eatV n l (fun k => I 32 0 (b + 7 + k)) x.toNatClampNeg).2) ∧ (∀ j, ¬ (b + 7 ≤ j ∧ j < b + 17) → r.2 32 0 j = I 32 0 j) ∧ ∀ g, ¬ g = 32 → r.2 g = I g
  | _, 0, _, _, _, _, _, h => absurd h (by omega)
  | 0, F + 1, l, x, I, hx, h0, _ => by
    rw [d167_7, if_pos (show (10 : Int32) ≤ x by rw [le_t]; show (10 : Int) ≤ _; omega)]
    exact ⟨_, rfl, ⟨rfl, rfl⟩, fun _ _ => rfl, fun _ _ => rfl⟩
  | n + 1, F + 1, l, x, I, hx, h0, hF => by
    have nx := cl_t h0
    have e := i32_inc (x := x) (by omega)
    have nx1 := cl_t (x := x + 1) (by omega)
    have xn : (x + 1).toNatClampNeg = x.toNatClampNeg + 1 := by omega
    have e7 := ixa (a := a) (x := 7) ha.1 (by omega) (by decide) (by decide)
    have c7 : (7 : Int32).toInt = 7 := rfl
    have n7 : (7 : Int32).toNatClampNeg = 7 := rfl
    have ex := ixa (a := a + 7) (x := x) (by omega) (by omega) h0 (by omega)
    have ix : Int32.toNatClampNeg ((a + 7) + x) = b + 7 + x.toNatClampNeg := by omega
    rw [d167_7, if_neg (show ¬ (10 : Int32) ≤ x by rw [le_t]; show ¬ (10 : Int) ≤ _; omega), ix]
    have key : ∀ (w : Int32), w = mnS (I 32 0 (b + 7 + x.toNatClampNeg)) l → ∃ r, d167_7 a F (l - w) (x + 1) (jup I 32 0 (b + 7 + x.toNatClampNeg) (I 32 0 (b + 7 + x.toNatClampNeg) - w)) = some r ∧ (r.1 = (eatV (n + 1) l (fun k => I 32 0 (b + 7 + k)) x.toNatClampNeg).1 ∧ (fun k => r.2 32 0 (b + 7 + k)) = (eatV (n + 1) l (fun k => I 32 0 (b + 7 + k)) x.toNatClampNeg).2) ∧ (∀ j, ¬ (b + 7 ≤ j ∧ j < b + 17) → r.2 32 0 j = I 32 0 j) ∧ ∀ g, ¬ g = 32 → r.2 g = I g := by
      intro w hw
      obtain ⟨r, r1, ⟨r2, r3⟩, r4, r5⟩ := eat_ml ha hb n F (l - w) (x + 1) (jup I 32 0 (b + 7 + x.toNatClampNeg) (I 32 0 (b + 7 + x.toNatClampNeg) - w)) (by omega) (by omega) (by omega)
      have u : (fun k => (jup I 32 0 (b + 7 + x.toNatClampNeg) (I 32 0 (b + 7 + x.toNatClampNeg) - w)) 32 0 (b + 7 + k)) = upS (fun k => I 32 0 (b + 7 + k)) x.toNatClampNeg (I 32 0 (b + 7 + x.toNatClampNeg) - w) := by
        funext k
        rw [jup_c]
        unfold upS
        by_cases c : k = x.toNatClampNeg
        · rw [if_pos c, if_pos (by omega)]
        · rw [if_neg c, if_neg (by omega)]
      rw [u, xn, hw] at r2 r3
      refine ⟨r, r1, ⟨r2, r3⟩, fun j h => ?_, fun g h => (r5 g h).trans (jup_g h)⟩
      rw [r4 j h, jup_c, if_neg (by omega)]
    by_cases q : l ≤ I 32 0 (b + 7 + x.toNatClampNeg)
    · rw [if_pos q]
      exact key l (by unfold mnS; rw [if_neg (fun z => by rw [lt_t] at z; rw [le_t] at q; omega)])
    · rw [if_neg q]
      exact key _ (by unfold mnS; rw [if_pos (by rw [lt_t]; rw [le_t] at q; omega)])
theorem sh_ml {a y : Int32} (ha : 0 ≤ a.toInt ∧ a.toInt ≤ 4596) {b : Nat} (hb : a.toNatClampNeg = b) : ∀ (n F : Nat) (x : Int32) (I : jI), x.toInt + (n : Int) = 9 → 0 ≤ x.toInt → n < F → ∃ r, d167_126 a y F x I = some r ∧ (∀ j, r 32 0 j = if b + 7 + x.toNatClampNeg ≤ j ∧ j < b + 16 then I 32 0 (j + 1) else I 32 0 j) ∧ ∀ g, ¬ g = 32 → r g = I g
  | _, 0, _, _, _, _, h => absurd h (by omega)
  | 0, F + 1, x, I, hx, h0, _ => by
    have nx := cl_t h0
    rw [d167_126, if_pos (show (9 : Int32) ≤ x by rw [le_t]; show (9 : Int) ≤ _; omega)]
    exact ⟨_, rfl, fun j => by rw [if_neg (by omega)], fun _ _ => rfl⟩
  | n + 1, F + 1, x, I, hx, h0, hF => by
    have nx := cl_t h0
    have e := i32_inc (x := x) (by omega)
    have nx1 := cl_t (x := x + 1) (by omega)
    have xn : (x + 1).toNatClampNeg = x.toNatClampNeg + 1 := by omega
    have e7 := ixa (a := a) (x := 7) ha.1 (by omega) (by decide) (by decide)
    have c7 : (7 : Int32).toInt = 7 := rfl
    have n7 : (7 : Int32).toNatClampNeg = 7 := rfl
    have c1 : (1 : Int32).toInt = 1 := rfl
    have n1 : (1 : Int32).toNatClampNeg = 1 := rfl
    have ex := ixa (a := a + 7) (x := x) (by omega) (by omega) h0 (by omega)
    have ey := ixa (a := (a + 7) + x) (x := 1) (by omega) (by omega) (by decide) (by decide)
    have ix : Int32.toNatClampNeg ((a + 7) + x) = b + 7 + x.toNatClampNeg := by omega
    have iy : Int32.toNatClampNeg (((a + 7) + x) + 1) = b + 7 + x.toNatClampNeg + 1 := by omega
    rw [d167_126, if_neg (show ¬ (9 : Int32) ≤ x by rw [le_t]; show ¬ (9 : Int) ≤ _; omega), ix, iy]
    obtain ⟨r, r1, r2, r3⟩ := sh_ml (y := y) ha hb n F (x + 1) (jup I 32 0 (b + 7 + x.toNatClampNeg) (I 32 0 (b + 7 + x.toNatClampNeg + 1))) (by omega) (by omega) (by omega)
    refine ⟨r, r1, fun j => ?_, fun g h => (r3 g h).trans (jup_g h)⟩
    rw [r2, xn, jup_c, jup_c]
    by_cases c : b + 7 + x.toNatClampNeg ≤ j ∧ j < b + 16
    · rw [if_pos c]
      by_cases c2 : j = b + 7 + x.toNatClampNeg
      · rw [if_neg (by omega), if_pos c2, c2]
      · rw [if_pos (by omega), if_neg (by omega)]
    · rw [if_neg c, if_neg (by omega), if_neg (by omega)]
theorem sum_ml {a : Int32} (ha : 0 ≤ a.toInt ∧ a.toInt ≤ 4596) {b : Nat} (hb : a.toNatClampNeg = b) {I : jI} : ∀ (n F : Nat) (s x : Int32), x.toInt + (n : Int) = 10 → 0 ≤ x.toInt → n < F → d162_4 a I F s x = some (smV n s (fun k => I 32 0 (b + 7 + k)) x.toNatClampNeg)
  | _, 0, _, _, _, _, h => absurd h (by omega)
  | 0, F + 1, s, x, hx, h0, _ => by
    rw [d162_4, if_pos (show (10 : Int32) ≤ x by rw [le_t]; show (10 : Int) ≤ _; omega)]
    rfl
  | n + 1, F + 1, s, x, hx, h0, hF => by
    have nx := cl_t h0
    have e := i32_inc (x := x) (by omega)
    have nx1 := cl_t (x := x + 1) (by omega)
    have xn : (x + 1).toNatClampNeg = x.toNatClampNeg + 1 := by omega
    have e7 := ixa (a := a) (x := 7) ha.1 (by omega) (by decide) (by decide)
    have c7 : (7 : Int32).toInt = 7 := rfl
    have n7 : (7 : Int32).toNatClampNeg = 7 := rfl
    have ex := ixa (a := a + 7) (x := x) (by omega) (by omega) h0 (by omega)
    have ix : Int32.toNatClampNeg ((a + 7) + x) = b + 7 + x.toNatClampNeg := by omega
    rw [d162_4, if_neg (show ¬ (10 : Int32) ≤ x by rw [le_t]; show ¬ (10 : Int) ≤ _; omega), ix, sum_ml ha hb n F _ (x + 1) (by omega) (by omega) (by omega), xn]
    rfl
theorem sum_m {a : Int32} (ha : 0 ≤ a.toInt ∧ a.toInt ≤ 4596) {b : Nat} (hb : a.toNatClampNeg = b) {I : jI} : d162 a I = some (smV 10 0 (fun k => I 32 0 (b + 7 + k)) 0) := by
  unfold d162
  rw [sum_ml ha hb 10 70 0 0 (by decide) (by decide) (by decide)]
  rfl
/-! one week of the reference's -/
noncomputable def psA (b : Nat) (T : jI) (l : Int32) : jI := jup T 32 0 (b + 3) (T 32 0 (b + 3) + (T 31 0 1 - l))
noncomputable def psB (b : Nat) (T : jI) (l : Int32) : jI := jup (psA b T l) 32 0 (b + 4) (psA b T l 32 0 (b + 4) + l)
noncomputable def psC (b : Nat) (T : jI) (l : Int32) : jI := jup (psB b T l) 32 0 (b + 5) (psB b T l 32 0 (b + 5) + psB b T l 32 0 (b + 7))
noncomputable def psE (b : Nat) (X : jI) : jI := jup (jup X 32 0 (b + 16) 0) 32 0 (b + 1) (jup X 32 0 (b + 16) 0 32 0 (b + 1) + 1)
theorem psC_c {b : Nat} {T : jI} {l : Int32} {j : Nat} : psC b T l 32 0 j = if j = b + 3 then T 32 0 (b + 3) + (T 31 0 1 - l) else if j = b + 4 then T 32 0 (b + 4) + l else if j = b + 5 then T 32 0 (b + 5) + T 32 0 (b + 7) else T 32 0 j := by
  unfold psC psB psA
  rw [jup_c, jup_c, jup_c, jup_c, jup_c, jup_c, jup_c, jup_c]
  by_cases h3 : j = b + 3
  · subst h3
    rw [if_neg (by omega), if_neg (by omega), if_pos rfl, if_pos rfl]
  · by_cases h4 : j = b + 4
    · subst h4
      rw [if_neg (by omega), if_pos rfl, if_neg (by omega), if_neg (by omega), if_pos rfl]
    · by_cases h5 : j = b + 5
      · subst h5
        rw [if_pos rfl, if_neg (by omega), if_neg (by omega), if_neg (by omega), if_neg (by omega), if_neg h3, if_neg h4, if_pos rfl]
      · rw [if_neg h5, if_neg h4, if_neg h3, if_neg h3, if_neg h4, if_neg h5]
theorem psB_7 {b : Nat} {T : jI} {l : Int32} : psB b T l 32 0 (b + 7) = T 32 0 (b + 7) := by
  unfold psB psA
  rw [jup_c, if_neg (by omega), jup_c, if_neg (by omega)]
theorem psE_c {b : Nat} {X : jI} {j : Nat} : psE b X 32 0 j = if j = b + 1 then X 32 0 (b + 1) + 1 else if j = b + 16 then 0 else X 32 0 j := by
  unfold psE
  rw [jup_c]
  by_cases h : j = b + 1
  · rw [if_pos h, if_pos h, jup_c, if_neg (by omega)]
  · rw [if_neg h, if_neg h, jup_c]
noncomputable def wkM (b : Nat) (I : jI) (j : Nat) : Int32 :=
  if j = b + 1 then I 32 0 (b + 1) + 1 else if j = b + 3 then I 32 0 (b + 3) + (I 31 0 1 - (eatV 10 (I 31 0 1) (fun k => I 32 0 (b + 7 + k)) 0).1) else if j = b + 4 then I 32 0 (b + 4) + (eatV 10 (I 31 0 1) (fun k => I 32 0 (b + 7 + k)) 0).1 else if j = b + 5 then I 32 0 (b + 5) + (eatV 10 (I 31 0 1) (fun k => I 32 0 (b + 7 + k)) 0).2 0 else if b + 7 ≤ j ∧ j < b + 16 then (eatV 10 (I 31 0 1) (fun k => I 32 0 (b + 7 + k)) 0).2 (j - b - 6) else if j = b + 16 then 0 else I 32 0 j
theorem pass_m {a : Int32} (ha : 0 ≤ a.toInt ∧ a.toInt ≤ 4596) {b : Nat} (hb : a.toNatClampNeg = b) {I : jI} : ∃ r, d167 a I = some r ∧ r.1 = (eatV 10 (I 31 0 1) (fun k => I 32 0 (b + 7 + k)) 0).2 0 ∧ (∀ j, r.2 32 0 j = wkM b I j) ∧ ∀ g, ¬ g = 32 → r.2 g = I g := by
  obtain ⟨⟨l, T⟩, r1, ⟨r2, r3⟩, r4, r5⟩ := eat_ml ha hb 10 70 (I 31 0 1) 0 I (by decide) (by decide) (by decide)
  have i1 : Int32.toNatClampNeg (a + 1) = b + 1 := by rw [(ixa ha.1 (by omega) (by decide) (by decide)).2, hb]; rfl
  have i3 : Int32.toNatClampNeg (a + 3) = b + 3 := by rw [(ixa ha.1 (by omega) (by decide) (by decide)).2, hb]; rfl
  have i4 : Int32.toNatClampNeg (a + 4) = b + 4 := by rw [(ixa ha.1 (by omega) (by decide) (by decide)).2, hb]; rfl
  have i5 : Int32.toNatClampNeg (a + 5) = b + 5 := by rw [(ixa ha.1 (by omega) (by decide) (by decide)).2, hb]; rfl
  have e7 := ixa (a := a) (x := 7) ha.1 (by omega) (by decide) (by decide)
  have c7 : (7 : Int32).toInt = 7 := rfl
  have i7 : Int32.toNatClampNeg (a + 7) = b + 7 := by rw [e7.2, hb]; rfl
  have i16 : Int32.toNatClampNeg ((a + 7) + 9) = b + 16 := by rw [(ixa (a := a + 7) (by omega) (by omega) (by decide) (by decide)).2, i7]; rfl
  have c0 : Int32.toNatClampNeg 0 = 0 := rfl
  dsimp only at r2 r3 r4 r5
  rw [c0] at r2 r3
  obtain ⟨X, x1, x2, x3⟩ := sh_ml (a := a) (y := psB b T l 32 0 (b + 7)) ha hb 9 70 0 (psC b T l) (by decide) (by decide) (by decide)
  have u : d167 a I = some (psB b T l 32 0 (b + 7), psE b X) := by
    unfold d167
    rw [r1, i1, i3, i4, i5, i7, i16]
    dsimp only [Option.bind_some]
    show ((d167_126 a (psB b T l 32 0 (b + 7)) 70 0 (psC b T l)).bind fun r2 => some (psB b T l 32 0 (b + 7), psE b r2)) = _
    rw [x1]
    rfl
  have t31 : T 31 = I 31 := r5 31 (by decide)
  have tk : ∀ k, T 32 0 (b + 7 + k) = (eatV 10 (I 31 0 1) (fun k => I 32 0 (b + 7 + k)) 0).2 k := fun k => congrFun r3 k
  rw [c0] at x2
  refine ⟨_, u, ?_, fun j => ?_, fun g h => ?_⟩
  · show psB b T l 32 0 (b + 7) = _
    rw [psB_7]
    exact tk 0
  · show psE b X 32 0 j = _
    have xc : ∀ j, psC b T l 32 0 j = if j = b + 3 then I 32 0 (b + 3) + (I 31 0 1 - l) else if j = b + 4 then I 32 0 (b + 4) + l else if j = b + 5 then I 32 0 (b + 5) + T 32 0 (b + 7) else T 32 0 j := fun j => by
      rw [psC_c, t31, r4 (b + 3) (by omega), r4 (b + 4) (by omega), r4 (b + 5) (by omega)]
    unfold wkM
    rw [psE_c, ← r2]
    by_cases h1 : j = b + 1
    · rw [if_pos h1, if_pos h1, x2, if_neg (show ¬ (b + 7 + 0 ≤ b + 1 ∧ b + 1 < b + 16) by omega), xc, if_neg (show ¬ b + 1 = b + 3 by omega), if_neg (show ¬ b + 1 = b + 4 by omega), if_neg (show ¬ b + 1 = b + 5 by omega), r4 _ (by omega)]
    · rw [if_neg h1, if_neg h1]
      by_cases h7 : j = b + 16
      · rw [if_pos h7, if_neg (show ¬ j = b + 3 by omega), if_neg (show ¬ j = b + 4 by omega), if_neg (show ¬ j = b + 5 by omega), if_neg (show ¬ (b + 7 ≤ j ∧ j < b + 16) by omega), if_pos h7]
      · rw [if_neg h7, x2]
        by_cases h6 : b + 7 ≤ j ∧ j < b + 16
        · rw [if_pos (show b + 7 + 0 ≤ j ∧ j < b + 16 by omega), xc, if_neg (show ¬ j + 1 = b + 3 by omega), if_neg (show ¬ j + 1 = b + 4 by omega), if_neg (show ¬ j + 1 = b + 5 by omega), if_neg (show ¬ j = b + 3 by omega), if_neg (show ¬ j = b + 4 by omega), if_neg (show ¬ j = b + 5 by omega), if_pos h6, ← tk, show b + 7 + (j - b - 6) = j + 1 by omega]
        · rw [if_neg (show ¬ (b + 7 + 0 ≤ j ∧ j < b + 16) by omega), xc]
          by_cases h3 : j = b + 3
          · rw [if_pos h3, if_pos h3]
          rw [if_neg h3, if_neg h3]
          by_cases h4 : j = b + 4
          · rw [if_pos h4, if_pos h4]
          rw [if_neg h4, if_neg h4]
          by_cases h5 : j = b + 5
          · rw [if_pos h5, if_pos h5, ← tk 0]
          rw [if_neg h5, if_neg h5, if_neg h6, if_neg h7, r4 _ (by omega)]
  · show psE b X g = _
    unfold psE
    rw [jup_g h, jup_g h, x3 g h]
    unfold psC psB psA
    rw [jup_g h, jup_g h, jup_g h, r5 g h]
/-! the past kept -/
theorem kp_ml {D : Nat} (hD : D ≤ 39) : ∀ (n F : Nat) (x : Int32) (I : jI), (I 32 0 0).toInt = (D : Int) → x.toInt + (n : Int) = 28 → 0 ≤ x.toInt → n < F → ∃ r, d163_2 F x I = some r ∧ (∀ j, r 32 0 j = if 29 + 28 * D + x.toNatClampNeg ≤ j ∧ j < 57 + 28 * D then I 32 0 (j - (28 + 28 * D)) else I 32 0 j) ∧ ∀ g, ¬ g = 32 → r g = I g
  | _, 0, _, _, _, _, _, h => absurd h (by omega)
  | 0, F + 1, x, I, h, hx, h0, _ => by
    have nx := cl_t h0
    rw [d163_2, if_pos (show (28 : Int32) ≤ x by rw [le_t]; show (28 : Int) ≤ _; omega)]
    exact ⟨_, rfl, fun j => by rw [if_neg (by omega)], fun _ _ => rfl⟩
  | n + 1, F + 1, x, I, h, hx, h0, hF => by
    have nx := cl_t h0
    have e := i32_inc (x := x) (by omega)
    have nx1 := cl_t (x := x + 1) (by omega)
    have xn : (x + 1).toNatClampNeg = x.toNatClampNeg + 1 := by omega
    have c28 : (28 : Int32).toInt = 28 := rfl
    have c29 : (29 : Int32).toInt = 29 := rfl
    have c0 : Int32.toNatClampNeg 0 = 0 := rfl
    have e1 : (28 * I 32 0 0).toInt = 28 * (D : Int) := by rw [i32_mul (by rw [c28, h]; omega), c28, h]
    have e2 := ixa (a := 29) (x := 28 * I 32 0 0) (by decide) (by decide) (by omega) (by omega)
    have e3 := ixa (a := 29 + 28 * I 32 0 0) (x := x) (by omega) (by omega) h0 (by omega)
    have n28 := cl_t (x := 28 * I 32 0 0) (by omega)
    have n29 : (29 : Int32).toNatClampNeg = 29 := rfl
    have ix : Int32.toNatClampNeg ((29 + (28 * I 32 0 0)) + x) = 29 + 28 * D + x.toNatClampNeg := by omega
    have iy : Int32.toNatClampNeg (1 + x) = 1 + x.toNatClampNeg := by rw [(ixa (a := 1) (by decide) (by decide) h0 (by omega)).2]; rfl
    rw [d163_2, if_neg (show ¬ (28 : Int32) ≤ x by rw [le_t]; show ¬ (28 : Int) ≤ _; omega), c0, ix, iy]
    obtain ⟨r, r1, r2, r3⟩ := kp_ml hD n F (x + 1) (jup I 32 0 (29 + 28 * D + x.toNatClampNeg) (I 32 0 (1 + x.toNatClampNeg))) (by rw [jup_c, if_neg (by omega)]; exact h) (by omega) (by omega) (by omega)
    refine ⟨r, r1, fun j => ?_, fun g h => (r3 g h).trans (jup_g h)⟩
    rw [r2, xn, jup_c, jup_c]
    by_cases c : 29 + 28 * D + x.toNatClampNeg ≤ j ∧ j < 57 + 28 * D
    · rw [if_pos c]
      by_cases c2 : j = 29 + 28 * D + x.toNatClampNeg
      · rw [if_neg (by omega), if_pos c2, show j - (28 + 28 * D) = 1 + x.toNatClampNeg by omega]
      · rw [if_pos (by omega), if_neg (by omega)]
    · rw [if_neg c, if_neg (by omega), if_neg (by omega)]
noncomputable def kpM (D : Nat) (I : jI) (j : Nat) : Int32 := if j = 0 then I 32 0 0 + 1 else if 29 + 28 * D ≤ j ∧ j < 57 + 28 * D then I 32 0 (j - (28 + 28 * D)) else I 32 0 j
theorem past_m {D : Nat} {I : jI} (hD : D ≤ 39) (h : (I 32 0 0).toInt = (D : Int)) : ∃ r, d163 I = some r ∧ (∀ j, r 32 0 j = kpM D I j) ∧ ∀ g, ¬ g = 32 → r g = I g := by
  obtain ⟨r, r1, r2, r3⟩ := kp_ml hD 28 70 0 I h (by decide) (by decide) (by decide)
  have c0 : Int32.toNatClampNeg 0 = 0 := rfl
  rw [c0] at r2
  unfold d163
  rw [r1, c0]
  dsimp only [Option.bind_some]
  refine ⟨_, rfl, fun j => ?_, fun g h => (jup_g h).trans (r3 g h)⟩
  unfold kpM
  rw [jup_c, r2, r2]
  by_cases c : j = 0
  · rw [if_pos c, if_pos c, if_neg (by omega)]
  · rw [if_neg c, if_neg c]
    by_cases q : 29 + 28 * D ≤ j ∧ j < 57 + 28 * D
    · rw [if_pos q, if_pos (by omega)]
    · rw [if_neg q, if_neg (by omega)]
