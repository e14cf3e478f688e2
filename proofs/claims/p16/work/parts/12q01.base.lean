/-! pure helpers: ints, bounds, answers of 0 and 1 -/
theorem cmp_lt {x y : Int64} : lg_cmp x y < 0 ↔ x.toInt < y.toInt := by rw [cmp_lg]; exact (hop_q .lt _ _).symm
theorem cmp_gt {x y : Int64} : 0 < lg_cmp x y ↔ y.toInt < x.toInt := by rw [cmp_lg]; exact (hop_q .gt _ _).symm
theorem t64 (x : Int32) : (Int32.toInt64 x).toInt = x.toInt := Int32.toInt_toInt64 x
theorem b01 {P : Prop} [Decidable P] : ((if P then (1 : Int32) else 0) = 0) ↔ ¬ P := by
  by_cases h : P
  · rw [if_pos h]; exact ⟨fun z => absurd z (by decide), fun z => absurd h z⟩
  · rw [if_neg h]; exact ⟨fun _ => h, fun _ => rfl⟩
theorem in_t (a b c : Int64) (I : jI) : d124 a b c I = if b.toInt ≤ a.toInt ∧ a.toInt ≤ c.toInt then 1 else 0 := by
  unfold d124
  by_cases h1 : a.toInt < b.toInt
  · rw [if_pos (cmp_lt.mpr h1), if_neg (by omega)]
  · rw [if_neg (fun q => h1 (cmp_lt.mp q))]
    by_cases h2 : c.toInt < a.toInt
    · rw [if_pos (cmp_gt.mpr h2), if_neg (by omega)]
    · rw [if_neg (fun q => h2 (cmp_gt.mp q)), if_pos (by omega)]
theorem in_i (x : Int32) (b c : Int64) (I : jI) : d124 (Int32.toInt64 x) b c I = if b.toInt ≤ x.toInt ∧ x.toInt ≤ c.toInt then 1 else 0 := by rw [in_t, t64]
theorem i32_inc {x : Int32} (h : x.toInt ≤ 1000000) : (x + 1).toInt = x.toInt + 1 := by
  have c : (1 : Int32).toInt = 1 := rfl
  have r := i32_rng x
  rw [i32_add (by rw [c]; omega), c]
theorem isText_t (a : Int32) (I : jI) : d129 a I = if 0 ≤ a.toInt ∧ a.toInt ≤ 3 then 1 else 0 := by unfold d129; rw [in_i]; rfl
theorem names_t (a : Int32) (I : jI) : d15g2 a I = if 0 ≤ a.toInt ∧ a.toInt ≤ 3 then 1 else 0 := by
  unfold d15g2
  have e : (nI 4).toInt = 4 := rfl
  have z : (0 : Int32).toInt = 0 := rfl
  by_cases h1 : a.toInt < 0
  · rw [if_pos (lt_t.mpr (by rw [z]; exact h1)), if_neg (by omega)]
  · rw [if_neg (fun q => h1 (by have := lt_t.mp q; rw [z] at this; exact this))]
    by_cases h2 : 4 ≤ a.toInt
    · rw [if_pos (le_t.mpr (by rw [e]; exact h2)), if_neg (by omega)]
    · rw [if_neg (fun q => h2 (by have := le_t.mp q; rw [e] at this; exact this)), if_pos (by omega)]
theorem jup_at {I : jI} {g i j : Nat} {x : Int32} : jup I g i j x g i j = x := by unfold jup; rw [if_pos ⟨rfl, rfl, rfl⟩]
theorem jup_g {I : jI} {g0 g i j : Nat} {x : Int32} (h : ¬ g = g0) : jup I g0 i j x g = I g := by
  funext a b
  unfold jup
  exact if_neg (fun q => h q.1)
theorem le0_t {x : Int32} : 0 ≤ x ↔ 0 ≤ x.toInt := by rw [le_t]; rfl
theorem lt0_t {x : Int32} : x < 0 ↔ x.toInt < 0 := by rw [lt_t]; rfl
theorem eq_t {x y : Int32} : x = y ↔ x.toInt = y.toInt := Int32.toInt_inj.symm
theorem ix60 {t x : Int32} (h0 : 0 ≤ t.toInt) (h3 : t.toInt ≤ 3) (g0 : 0 ≤ x.toInt) (g : x.toInt ≤ 60) : Int32.toNatClampNeg (60 * t + x) = 60 * t.toNatClampNeg + x.toNatClampNeg := by
  have c : (60 : Int32).toInt = 60 := rfl
  have e1 : (60 * t).toInt = 60 * t.toInt := by rw [i32_mul (by rw [c]; omega), c]
  have e2 : (60 * t + x).toInt = 60 * t.toInt + x.toInt := by rw [i32_add (by rw [e1]; omega), e1]
  have n0 := cl_t h0
  have n1 := cl_t g0
  have n2 := cl_t (x := 60 * t + x) (by omega)
  omega
theorem jPM_and {d m : Nat} {as : List jV} {σ : jS} {k1 k2 : jK} (h1 : jPM d m as σ k1) (h2 : jPM d m as σ k2) : jPM d m as σ (fun v σ => k1 v σ ∧ k2 v σ) :=
  jPM_mono d m as σ _ _ (fun v σ h => ⟨h 0, h 1⟩) (jPM_all d m as σ (fun n => match n with | 0 => k1 | _ + 1 => k2) (fun n => match n with | 0 => h1 | _ + 1 => h2))
theorem find_c {w : Int32} {I : jI} {g : Nat} (h : ¬ g = 0) (h' : ¬ g = 12) : (d113 w I).2 g = I g := (jup_g h').trans (jup_g h)
theorem find_m {w : Int32} {I : jI} {g : Nat} (h : ¬ g = 31) (h' : ¬ g = 39) : (d126 w I).2 g = I g := (jup_g h').trans (jup_g h)
