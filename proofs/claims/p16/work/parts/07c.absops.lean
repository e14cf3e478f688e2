theorem td32 {x y : Int32} (hy : 1 ≤ y.toInt) : (x / y).toInt = x.toInt.tdiv y.toInt := by
  have h1 := i32_rng x
  have h2 := td_rng x.toInt y.toInt hy
  rw [Int32.toInt_div, bm32]
  rcases Int.le_total 0 x.toInt with h | h
  · have := h2.1 h; omega
  · have := h2.2 h; omega
theorem td64 {x y : Int64} (hy : 1 ≤ y.toInt) : (x / y).toInt = x.toInt.tdiv y.toInt := by
  have h1 := i64_rng x
  have h2 := td_rng x.toInt y.toInt hy
  rw [Int64.toInt_div, bm64]
  rcases Int.le_total 0 x.toInt with h | h
  · have := h2.1 h; omega
  · have := h2.2 h; omega
theorem tm32 {x y : Int32} (hy : 1 ≤ y.toInt) : (x - x / y * y).toInt = x.toInt.tmod y.toInt := by
  have h1 := i32_rng x
  have h2 := td_rng x.toInt y.toInt hy
  have h3 := tm_rng x.toInt y.toInt hy
  have h4 : x.toInt.tmod y.toInt = x.toInt - x.toInt.tdiv y.toInt * y.toInt := by rw [Int.tmod_def, Int.mul_comm]
  have h5 : -2147483648 ≤ x.toInt.tdiv y.toInt * y.toInt ∧ x.toInt.tdiv y.toInt * y.toInt ≤ 2147483647 := by
    rcases Int.le_total 0 x.toInt with h | h
    · have := h3.1 h; omega
    · have := h3.2 h; omega
  have h6 : (x / y * y).toInt = x.toInt.tdiv y.toInt * y.toInt := by
    rw [i32_mul (by rw [td32 hy]; exact h5), td32 hy]
  rw [i32_sub (by rw [h6, ← h4]; rcases Int.le_total 0 x.toInt with h | h; · have := h3.1 h; omega
                  · have := h3.2 h; omega), h6, h4]
theorem tm64 {x y : Int64} (hy : 1 ≤ y.toInt) : (x - x / y * y).toInt = x.toInt.tmod y.toInt := by
  have h1 := i64_rng x
  have h2 := td_rng x.toInt y.toInt hy
  have h3 := tm_rng x.toInt y.toInt hy
  have h4 : x.toInt.tmod y.toInt = x.toInt - x.toInt.tdiv y.toInt * y.toInt := by rw [Int.tmod_def, Int.mul_comm]
  have h5 : -9223372036854775808 ≤ x.toInt.tdiv y.toInt * y.toInt ∧ x.toInt.tdiv y.toInt * y.toInt ≤ 9223372036854775807 := by
    rcases Int.le_total 0 x.toInt with h | h
    · have := h3.1 h; omega
    · have := h3.2 h; omega
  have h6 : (x / y * y).toInt = x.toInt.tdiv y.toInt * y.toInt := by
    rw [i64_mul (by rw [td64 hy]; exact h5), td64 hy]
  rw [Int64.toInt_sub, h6, ← h4, bm64]
  rcases Int.le_total 0 x.toInt with h | h
  · have := h3.1 h; omega
  · have := h3.2 h; omega
theorem and32 {x y : Int32} (hy : 0 ≤ y.toInt) : 0 ≤ (x &&& y).toInt ∧ (x &&& y).toInt ≤ y.toInt := by
  have h0 : ∀ z : Int32, z.toBitVec.toNat < 2147483648 → z.toInt = (z.toBitVec.toNat : Int) := by
    intro z hz
    show z.toBitVec.toInt = _
    rw [BitVec.toInt_eq_toNat_cond, if_pos (by omega)]
  have hyn : y.toBitVec.toNat < 2147483648 := by
    have h1 : y.toInt = y.toBitVec.toInt := rfl
    rw [h1, BitVec.toInt_eq_toNat_cond] at hy
    split at hy
    · omega
    · have := y.toBitVec.isLt; omega
  have hle : (x &&& y).toBitVec.toNat ≤ y.toBitVec.toNat := by
    rw [Int32.toBitVec_and, BitVec.toNat_and]
    exact Nat.and_le_right
  rw [h0 (x &&& y) (by omega), h0 y hyn]
  omega
theorem mul_rng {a b c : Int} (h1 : a ≤ b) (h2 : b ≤ c) (y : Int) : min (a * y) (c * y) ≤ b * y ∧ b * y ≤ max (a * y) (c * y) := by
  rcases Int.le_total 0 y with h | h
  · have := Int.mul_le_mul_of_nonneg_right h1 h
    have := Int.mul_le_mul_of_nonneg_right h2 h
    omega
  · have := Int.mul_le_mul_of_nonpos_right h1 h
    have := Int.mul_le_mul_of_nonpos_right h2 h
    omega
theorem amul_ok {p q : Int × Int} {x y : Int} (hp : p.1 ≤ x ∧ x ≤ p.2) (hq : q.1 ≤ y ∧ y ≤ q.2) : (amul p q).1 ≤ x * y ∧ x * y ≤ (amul p q).2 := by
  have h1 := mul_rng hp.1 hp.2 y
  have h2 := mul_rng hq.1 hq.2 p.1
  have h3 := mul_rng hq.1 hq.2 p.2
  rw [Int.mul_comm q.1 p.1, Int.mul_comm y p.1, Int.mul_comm q.2 p.1] at h2
  rw [Int.mul_comm q.1 p.2, Int.mul_comm y p.2, Int.mul_comm q.2 p.2] at h3
  unfold amul
  simp only
  omega
theorem afit_ok {lo hi z : Int} {x : Int32} (h : lo ≤ z ∧ z ≤ hi) (hx : -2147483648 ≤ z ∧ z ≤ 2147483647 → x.toInt = z) : (afit lo hi).1 ≤ x.toInt ∧ x.toInt ≤ (afit lo hi).2 := by
  unfold afit
  split
  · rw [hx (by omega)]; exact h
  · exact i32_rng x
theorem afitL_ok {lo hi z : Int} {x : Int64} (h : lo ≤ z ∧ z ≤ hi) (hx : -9223372036854775808 ≤ z ∧ z ≤ 9223372036854775807 → x.toInt = z) : (afitL lo hi).1 ≤ x.toInt ∧ x.toInt ≤ (afitL lo hi).2 := by
  unfold afitL
  split
  · rw [hx (by omega)]; exact h
  · exact i64_rng x
theorem adiv_ok {p q : Int × Int} {x y : Int} (hp : p.1 ≤ x ∧ x ≤ p.2) (hq : q.1 ≤ y ∧ y ≤ q.2) (h1 : 1 ≤ q.1) : (adiv p q).1 ≤ x.tdiv y ∧ x.tdiv y ≤ (adiv p q).2 := by
  unfold adiv
  split
  · rename_i he
    have : y = q.1 := by omega
    subst this
    exact ⟨td_mono h1 hp.1, td_mono h1 hp.2⟩
  · have h2 := td_rng x y (by omega)
    simp only
    rcases Int.le_total 0 x with h | h
    · have := h2.1 h; omega
    · have := h2.2 h; omega
theorem arem_ok {p q : Int × Int} {x y : Int} (hp : p.1 ≤ x ∧ x ≤ p.2) (hq : q.1 ≤ y ∧ y ≤ q.2) (h1 : 1 ≤ q.1) : (arem p q).1 ≤ x.tmod y ∧ x.tmod y ≤ (arem p q).2 := by
  have h2 := tm_rng x y (by omega)
  unfold arem
  simp only
  rcases Int.le_total 0 x with h | h
  · have := h2.1 h
    constructor
    · split <;> omega
    · split <;> omega
  · have := h2.2 h
    constructor
    · split <;> omega
    · split <;> omega
/-- a new value: a symbol that stands for it, in an environment that holds -/
noncomputable def gN (v : Nat → Int) (E : aE) (z : Int) (r : aL × aE) : Prop := ∃ v', gX (alen E) v v' ∧ gE v' r.2 ∧ alen E ≤ alen r.2 ∧ r.1.1 < alen r.2 ∧ vv v' r.1 = z
theorem gN_new {v : Nat → Int} {E : aE} {q : Int × Int} {z : Int} (hE : gE v E) (h : q.1 ≤ z ∧ z ≤ q.2) : gN v E z (anew E q) := ⟨vup v (alen E) z, vup_x, gE_new hE h, by unfold anew; simp only; rw [alen_app]; omega, by unfold anew; simp only; rw [alen_app]; omega, vup_n⟩
theorem gN_old {v : Nat → Int} {E : aE} {a : aL} {z : Int} (hE : gE v E) (ha : a.1 < alen E) (h : vv v a = z) : gN v E z (a, E) := ⟨v, gX.rf, hE, Nat.le_refl _, ha, h⟩
theorem aadd_ok {v : Nat → Int} {E : aE} {a b : aL} {x y : Int32} {r : aL × aE} (hE : gE v E) (hx : x.toInt = vv v a) (hy : y.toInt = vv v b) (h : aadd E a b = some r) : gN v E (x + y).toInt r := by
  unfold aadd at h
  cases hp : aiv E a with
  | none => rw [hp] at h; simp at h
  | some p =>
    cases hq : aiv E b with
    | none => rw [hp, hq] at h; simp at h
    | some q =>
      have h1 := aiv_ok hE hp
      have h2 := aiv_ok hE hq
      rw [hp, hq] at h
      simp only at h
      split at h
      · rename_i hr
        have he : (x + y).toInt = x.toInt + y.toInt := i32_add (by omega)
        split at h
        · rename_i hb
          cases h
          refine gN_old hE h1.2.2 ?_
          rw [he, hx, hy]
          unfold vv
          rw [hb, hE.1]
          simp only
          omega
        · split at h
          · rename_i ha
            cases h
            refine gN_old hE h2.2.2 ?_
            rw [he, hx, hy]
            unfold vv
            rw [ha, hE.1]
            simp only
            omega
          · cases h
            exact gN_new hE (by rw [he]; simp only; omega)
      · cases h
        exact gN_new hE (i32_rng _)
theorem asub_ok {v : Nat → Int} {E : aE} {a b : aL} {x y : Int32} {r : aL × aE} (hE : gE v E) (hx : x.toInt = vv v a) (hy : y.toInt = vv v b) (h : asub E a b = some r) : gN v E (x - y).toInt r := by
  unfold asub at h
  cases hp : aiv E a with
  | none => rw [hp] at h; simp at h
  | some p =>
    cases hq : aiv E b with
    | none => rw [hp, hq] at h; simp at h
    | some q =>
      have h1 := aiv_ok hE hp
      have h2 := aiv_ok hE hq
      rw [hp, hq] at h
      simp only at h
      split at h
      · rename_i hr
        have he : (x - y).toInt = x.toInt - y.toInt := i32_sub (by omega)
        split at h
        · rename_i hb
          cases h
          refine gN_old hE h1.2.2 ?_
          rw [he, hx, hy]
          unfold vv
          rw [hb, hE.1]
          simp only
          omega
        · cases h
          exact gN_new hE (by rw [he]; simp only; omega)
      · cases h
        exact gN_new hE (i32_rng _)
theorem abin2 {v : Nat → Int} {E : aE} {a b : aL} {x y : Int32} {r : aL × aE} (hE : gE v E) (hx : x.toInt = vv v a) (hy : y.toInt = vv v b) (h : abin 2 E a b = some r) : gN v E (x * y).toInt r := by
  unfold abin at h
  simp only at h
  split at h
  · rename_i p q hp hq
    have h1 := aiv_ok hE hp
    have h2 := aiv_ok hE hq
    cases h
    exact gN_new hE (afit_ok (amul_ok (x := x.toInt) (y := y.toInt) (by omega) (by omega)) (fun hh => i32_mul hh))
  · cases h
theorem abin3 {v : Nat → Int} {E : aE} {a b : aL} {x y : Int32} {r : aL × aE} (hE : gE v E) (hx : x.toInt = vv v a) (hy : y.toInt = vv v b) (h : abin 3 E a b = some r) : (¬ y = 0) ∧ gN v E (x / y).toInt r := by
  unfold abin at h
  simp only at h
  split at h
  · rename_i p q hp hq
    have h1 := aiv_ok hE hp
    have h2 := aiv_ok hE hq
    split at h
    · cases h
      refine ⟨fun e => ?_, gN_new hE ?_⟩
      · subst e; simp at hy; omega
      · rw [td32 (by omega)]
        exact adiv_ok (by omega) (by omega) (by omega)
    · cases h
  · cases h
theorem abin4 {v : Nat → Int} {E : aE} {a b : aL} {x y : Int32} {r : aL × aE} (hE : gE v E) (hx : x.toInt = vv v a) (hy : y.toInt = vv v b) (h : abin 4 E a b = some r) : (¬ y = 0) ∧ gN v E (x - x / y * y).toInt r := by
  unfold abin at h
  simp only at h
  split at h
  · rename_i p q hp hq
    have h1 := aiv_ok hE hp
    have h2 := aiv_ok hE hq
    split at h
    · cases h
      refine ⟨fun e => ?_, gN_new hE ?_⟩
      · subst e; simp at hy; omega
      · rw [tm32 (by omega)]
        exact arem_ok (by omega) (by omega) (by omega)
    · cases h
  · cases h
theorem abin5 {v : Nat → Int} {E : aE} {a b : aL} {x y : Int32} {r : aL × aE} (hE : gE v E) (hx : x.toInt = vv v a) (hy : y.toInt = vv v b) (h : abin 5 E a b = some r) : gN v E (x &&& y).toInt r := by
  unfold abin at h
  simp only at h
  split at h
  · rename_i p q hp hq
    have h1 := aiv_ok hE hp
    have h2 := aiv_ok hE hq
    cases h
    refine gN_new hE ?_
    unfold aand
    split
    · have := and32 (x := x) (y := y) (by omega)
      simp only; omega
    · split
      · have := and32 (x := y) (y := x) (by omega)
        rw [Int32.and_comm] at this
        simp only; omega
      · exact i32_rng _
  · cases h
theorem abin6 {v : Nat → Int} {E : aE} {a b : aL} {z : Int32} {r : aL × aE} (hE : gE v E) (h : abin 6 E a b = some r) : gN v E z.toInt r := by
  unfold abin at h
  cases h
  exact gN_new hE (i32_rng _)
theorem abinL_ok {v : Nat → Int} {E : aE} {a b : aL} {x y : Int64} {r : aL × aE} (hE : gE v E) (hx : x.toInt = vv v a) (hy : y.toInt = vv v b) :
    (abinL 0 E a b = some r → gN v E (x + y).toInt r) ∧ (abinL 2 E a b = some r → gN v E (x * y).toInt r) ∧ (abinL 3 E a b = some r → (¬ y = 0) ∧ gN v E (x / y).toInt r) ∧ (abinL 4 E a b = some r → (¬ y = 0) ∧ gN v E (x - x / y * y).toInt r) := by
  unfold abinL
  split
  · rename_i p q hp hq
    have h1 := aiv_ok hE hp
    have h2 := aiv_ok hE hq
    refine ⟨fun h => ?_, fun h => ?_, fun h => ?_, fun h => ?_⟩
    · cases h
      exact gN_new hE (afitL_ok (z := x.toInt + y.toInt) (by omega) (fun hh => i64_add hh))
    · cases h
      exact gN_new hE (afitL_ok (amul_ok (x := x.toInt) (y := y.toInt) (by omega) (by omega)) (fun hh => i64_mul hh))
    · simp only at h
      split at h
      · cases h
        refine ⟨fun e => ?_, gN_new hE ?_⟩
        · subst e; simp at hy; omega
        · rw [td64 (by omega)]
          exact adiv_ok (by omega) (by omega) (by omega)
      · cases h
    · simp only at h
      split at h
      · cases h
        refine ⟨fun e => ?_, gN_new hE ?_⟩
        · subst e; simp at hy; omega
        · rw [tm64 (by omega)]
          exact arem_ok (by omega) (by omega) (by omega)
      · cases h
  · refine ⟨?_, ?_, ?_, ?_⟩ <;> (intro h; cases h)
