theorem inc_rng {p : Int32} {n : Int} (p0 : 0 ≤ p.toInt) (p1 : p.toInt < n) (hn : n ≤ 60) : (p + 1).toInt = p.toInt + 1 := i32_inc (by omega)
/-- two figures -/
theorem two_eq {I J : jI} {n : Int} (h : rdS I J n) {p : Int32} (p0 : 0 ≤ p.toInt) (p1 : p.toInt ≤ n) : (∃ v q : Int32, p.toInt ≤ q.toInt ∧ q.toInt ≤ n ∧ 0 ≤ v.toInt ∧ v.toInt ≤ 99 ∧ d65 (cs I p (-9)) = some (v, cs I q (-9)) ∧ d144 (ms J p) = some (v, ms J q)) ∨ (∃ q w : Int32, 0 ≤ q.toInt ∧ q.toInt ≤ n ∧ d65 (cs I p (-9)) = some (w, cs I q q) ∧ d144 (ms J p) = some (-9, ms J q)) := by
  have hn := h.1.2
  have c10 : (10 : Int32).toInt = 10 := rfl
  rcases fig_eq h (Or.inl rfl) p0 p1 with ⟨v, a1, a2, a3, a4, a5⟩ | ⟨a4, a5⟩
  · have e1 := inc_rng p0 a1 hn
    have a2 : 0 ≤ v.toInt := a2
    rcases fig_eq h (p := p + 1) (Or.inl rfl) (by omega) (by omega) with ⟨w, b1, b2, b3, b4, b5⟩ | ⟨b4, b5⟩
    · have e2 := inc_rng (p := p + 1) (by omega) b1 hn
      have b2 : 0 ≤ w.toInt := b2
      have e3 : (10 * v).toInt = 10 * v.toInt := by rw [i32_mul (by rw [c10]; omega), c10]
      have e4 : (10 * v + w).toInt = 10 * v.toInt + w.toInt := by rw [i32_add (by rw [e3]; omega), e3]
      refine Or.inl ⟨10 * v + w, p + 1 + 1, by omega, by omega, by omega, by omega, ?_, ?_⟩
      · unfold d65; rw [a4]; dsimp only [Option.bind_some]; rw [b4]; rfl
      · unfold d144; rw [a5]; dsimp only [Option.bind_some]; rw [if_neg (ne9 a2), b5]; dsimp only [Option.bind_some]; rw [if_neg (ne9 b2)]
    · refine Or.inr ⟨p + 1, 10 * v + 0, by omega, by omega, ?_, ?_⟩
      · unfold d65; rw [a4]; dsimp only [Option.bind_some]; rw [b4]; rfl
      · unfold d144; rw [a5]; dsimp only [Option.bind_some]; rw [if_neg (ne9 a2), b5]; dsimp only [Option.bind_some]; rw [if_pos rfl]
  · refine Or.inr ⟨p, 10 * 0 + 0, p0, p1, ?_, ?_⟩
    · unfold d65; rw [a4]; dsimp only [Option.bind_some]; rw [fg_f (ne9 p0)]; rfl
    · unfold d144; rw [a5]; dsimp only [Option.bind_some]; rw [if_pos rfl]
theorem two_f {I : jI} {p q : Int32} (h : ¬ q = -9) : d65 (cs I p q) = some (10 * 0 + 0, cs I p q) := by
  unfold d65; rw [fg_f h]; dsimp only [Option.bind_some]; rw [fg_f h]; rfl
/-- blanks -/
theorem skip_eq {I J : jI} {n : Int} (h : rdS I J n) (x : Int32) : ∀ (F : Nat) (p : Int32), 0 ≤ p.toInt → p.toInt ≤ n → n - p.toInt < (F : Int) → ∃ q : Int32, p.toInt ≤ q.toInt ∧ q.toInt ≤ n ∧ d61_0 F (cs I p x) = some (cs I q x) ∧ d142_0 F (ms J p) = some (ms J q)
  | 0, p, _, p1, hf => by exfalso; simp at hf; omega
  | F + 1, p, p0, p1, hf => by
    obtain ⟨a, b, c, t, e, f, k⟩ := id h
    rw [d61_0, d142_0]
    have e2 : (cs I p x) 3 0 2 = I 3 0 2 := rfl
    have e3 : (cs I p x) 3 0 3 = p := rfl
    have f17 : (ms J p) 31 0 17 = J 31 0 17 := rfl
    have f16 : (ms J p) 31 0 16 = p := rfl
    rw [e2, e3, f17, f16]
    by_cases hp : p.toInt < n
    · rw [if_neg (show ¬ I 3 0 2 ≤ p by rw [le_t, b]; omega), if_neg (show ¬ J 31 0 17 ≤ p by rw [le_t, c]; omega)]
      rw [ms_here h (q := x) p0 hp, e3]
      by_cases hw : (cs I p x) 17 0 p.toNatClampNeg = 32
      · rw [if_pos hw, if_pos hw, cs_p, ms_p]
        have e1 := inc_rng p0 hp a.2
        obtain ⟨q, q1, q2, q3, q4⟩ := skip_eq h x F (p + 1) (by omega) (by omega) (by omega)
        exact ⟨q, by omega, q2, q3, q4⟩
      · rw [if_neg hw, if_neg hw]
        exact ⟨p, by omega, p1, rfl, rfl⟩
    · rw [if_pos (show I 3 0 2 ≤ p by rw [le_t, b]; omega), if_pos (show J 31 0 17 ≤ p by rw [le_t, c]; omega)]
      exact ⟨p, by omega, p1, rfl, rfl⟩
theorem skip_c {I J : jI} {n : Int} (h : rdS I J n) (x p : Int32) (p0 : 0 ≤ p.toInt) (p1 : p.toInt ≤ n) : ∃ q : Int32, p.toInt ≤ q.toInt ∧ q.toInt ≤ n ∧ d61 (cs I p x) = some (cs I q x) ∧ d142 (ms J p) = some (ms J q) := by
  have hn := h.1.2
  obtain ⟨q, q1, q2, q3, q4⟩ := skip_eq h x 70 p p0 p1 (by simp; omega)
  refine ⟨q, q1, q2, ?_, ?_⟩
  · unfold d61; rw [q3]; rfl
  · unfold d142; rw [q4]; rfl
/-- a letter -/
theorem kind_eq {I J : jI} {n : Int} (h : rdS I J n) {p : Int32} (X : jI) (p0 : 0 ≤ p.toInt) (p1 : p.toInt < n) : (∃ κ : Int32, 0 ≤ κ.toInt ∧ κ.toInt ≤ 5 ∧ d64 (cs I p (-9)) = some (κ, cs I (p + 1) (-9)) ∧ d146 (d141 (ms J p)) X = κ) ∨ (d64 (cs I p (-9)) = some (0, cs I p p) ∧ d146 (d141 (ms J p)) X = -9) := by
  obtain ⟨a, b, c, t, e, f, k⟩ := id h
  rw [ms_here h (q := -9) p0 p1]
  have e3 : (cs I p (-9)) 3 0 3 = p := rfl
  rw [e3]
  unfold d64
  rw [go_c b, if_pos p1, if_neg (by decide)]
  generalize hw : (cs I p (-9)) 17 0 p.toNatClampNeg = w
  have step : ∀ (F : Nat) (x : Int32), d64_9 (F + 1) x (cs I p (-9)) = if 6 ≤ x then some (.inr (cs I p (-9))) else if w = jletters x.toNatClampNeg then some (.inl (x, cs I (p + 1) (-9))) else d64_9 F (x + 1) (cs I p (-9)) := by
    intro F x
    rw [d64_9, e3, hw, cs_p]
  have s0 : d64_9 70 0 (cs I p (-9)) = if w = 112 then some (.inl (0, cs I (p + 1) (-9))) else d64_9 69 1 (cs I p (-9)) := step 69 0
  have s1 : d64_9 69 1 (cs I p (-9)) = if w = 99 then some (.inl (1, cs I (p + 1) (-9))) else d64_9 68 2 (cs I p (-9)) := step 68 1
  have s2 : d64_9 68 2 (cs I p (-9)) = if w = 104 then some (.inl (2, cs I (p + 1) (-9))) else d64_9 67 3 (cs I p (-9)) := step 67 2
  have s3 : d64_9 67 3 (cs I p (-9)) = if w = 115 then some (.inl (3, cs I (p + 1) (-9))) else d64_9 66 4 (cs I p (-9)) := step 66 3
  have s4 : d64_9 66 4 (cs I p (-9)) = if w = 108 then some (.inl (4, cs I (p + 1) (-9))) else d64_9 65 5 (cs I p (-9)) := step 65 4
  have s5 : d64_9 65 5 (cs I p (-9)) = if w = 121 then some (.inl (5, cs I (p + 1) (-9))) else d64_9 64 6 (cs I p (-9)) := step 64 5
  have s6 : d64_9 64 6 (cs I p (-9)) = some (.inr (cs I p (-9))) := step 63 6
  unfold d146
  rw [s0]
  by_cases h0 : w = 112
  · rw [if_pos h0, if_pos h0]; exact Or.inl ⟨0, by decide, by decide, rfl, rfl⟩
  rw [if_neg h0, if_neg h0, s1]
  by_cases h1 : w = 99
  · rw [if_pos h1, if_pos h1]; exact Or.inl ⟨1, by decide, by decide, rfl, rfl⟩
  rw [if_neg h1, if_neg h1, s2]
  by_cases h2 : w = 104
  · rw [if_pos h2, if_pos h2]; exact Or.inl ⟨2, by decide, by decide, rfl, rfl⟩
  rw [if_neg h2, if_neg h2, s3]
  by_cases h3 : w = 115
  · rw [if_pos h3, if_pos h3]; exact Or.inl ⟨3, by decide, by decide, rfl, rfl⟩
  rw [if_neg h3, if_neg h3, s4]
  by_cases h4 : w = 108
  · rw [if_pos h4, if_pos h4]; exact Or.inl ⟨4, by decide, by decide, rfl, rfl⟩
  rw [if_neg h4, if_neg h4, s5]
  by_cases h5 : w = 121
  · rw [if_pos h5, if_pos h5]; exact Or.inl ⟨5, by decide, by decide, rfl, rfl⟩
  rw [if_neg h5, if_neg h5, s6]
  refine Or.inr ⟨?_, rfl⟩
  dsimp only [Option.bind_some]
  rw [fh_c]
  rfl
theorem kind_n {I J : jI} {n : Int} (h : rdS I J n) {p : Int32} (p1 : ¬ p.toInt < n) : d64 (cs I p (-9)) = some (0, cs I p p) := by
  unfold d64
  rw [go_c h.2.1, if_neg p1, if_pos rfl, fh_c]
  rfl
