/-! what is asked of a PACKET: the same on both sides -/
theorem card01 {I : jI} (hG : gG aGI I) : I 4 1 14 = 0 ∨ I 4 1 14 = 1 := by
  have f14 := hG (4, (0, 5), (14, 14), (0, 1)) (by decide) 1 14 (by simp) (by simp) (by simp) (by simp)
  have a : 0 ≤ (I 4 1 14).toInt := f14.1
  have b : (I 4 1 14).toInt ≤ 1 := f14.2
  have : (I 4 1 14).toInt = 0 ∨ (I 4 1 14).toInt = 1 := by omega
  rcases this with z | z
  · exact Or.inl (eq_t.mpr z)
  · exact Or.inr (eq_t.mpr z)
theorem cost_cm {I J : jI} {m : Nat} {i n : Int32} (hG : gG aGI I) (c : cur I J m) (h0 : 0 ≤ i.toInt) (hi : i.toNatClampNeg < m) : d153 0 i n J = d35 1 i n I := by
  obtain ⟨⟨-, -, ai, af⟩, ⟨-, hm⟩, -⟩ := c
  have ni := cl_t h0
  have i23 : Int32.toNatClampNeg ((0 + 23) + i) = 23 + i.toNatClampNeg := by rw [(ixa (a := 0 + 23) (by decide) (by decide) h0 (by omega)).2]; rfl
  have i6 : Int32.toNatClampNeg (0 + 6) = 1 + 5 := rfl
  unfold d153 d35
  rw [i23, i6, (ai _ hi).1.2, (ai _ hi).2.1, af 5 (by decide)]
  exact cost_m (card01 hG)
theorem got_cm {I J : jI} {m : Nat} {i : Int32} (c : cur I J m) (h0 : 0 ≤ i.toInt) (hi : i.toNatClampNeg < m) : d155 0 i J = d36 1 i I := by
  obtain ⟨⟨-, -, ai, af⟩, ⟨-, hm⟩, -⟩ := c
  have ni := cl_t h0
  have i17 : Int32.toNatClampNeg ((0 + 17) + i) = 17 + i.toNatClampNeg := by rw [(ixa (a := 0 + 17) (by decide) (by decide) h0 (by omega)).2]; rfl
  unfold d155 d36
  rw [i17, (ai _ hi).1.1, (ai _ hi).2.1]
  rfl
theorem kps_cm {I J : jI} {m : Nat} {i : Int32} (c : cur I J m) (hi : i.toNatClampNeg < m) : d156 i J = d37 1 i I := by
  obtain ⟨⟨-, -, ai, af⟩, ⟨-, hm⟩, -⟩ := c
  unfold d156 d37
  rw [(ai _ hi).2.1, (ai _ hi).2.2]
  rfl
theorem got_g {I J : jI} {m : Nat} {i : Int32} (c : cur I J m) (hi : i.toNatClampNeg < m) : 0 ≤ (d36 1 i I).toInt ∧ (d36 1 i I).toInt ≤ 9 := by
  have g := (c.2.2.2.1.2.1 _ hi).1
  exact got_b (k := I 18 1 i.toNatClampNeg) ⟨by omega, g.2⟩
theorem packet_an {I J : jI} (i w : Int32) (hG : gG aGI I) (q : RD2 I J) : ∃ r r', d78 i w I = some r ∧ d158 i w J = some r' ∧ r.1 = r'.1 := by
  have c := RD_cur hG q
  have hp := gi_packets hG
  have c3 : J 31 0 3 = I 4 1 6 := c.1.1.1
  unfold d78 d158
  rw [has_c, isP_m (by rw [c3]; exact hp), c3, in_i]
  by_cases h1 : 0 ≤ i.toInt ∧ i.toInt < (I 4 1 6).toInt
  · rw [if_pos h1, if_neg one0, if_neg one0]
    by_cases h2 : 0 ≤ w.toInt ∧ w.toInt ≤ 5
    · rw [if_neg (show ¬ w < 0 by rw [lt0_t]; omega), if_pos (show w < 6 by rw [lt_t]; show w.toInt < 6; omega), if_pos (show (0 : Int64).toInt ≤ w.toInt ∧ w.toInt ≤ (5 : Int64).toInt from h2), if_neg one0]
      exact ⟨_, _, rfl, rfl, rfl⟩
    · rw [if_neg (show ¬ ((0 : Int64).toInt ≤ w.toInt ∧ w.toInt ≤ (5 : Int64).toInt) from h2), if_pos rfl]
      by_cases h3 : w < 0
      · rw [if_pos h3]
        exact ⟨_, _, rfl, rfl, rfl⟩
      · rw [if_neg h3, if_neg (show ¬ w < 6 from fun z => by rw [lt_t] at z; have z : w.toInt < 6 := z; rw [lt0_t] at h3; exact h2 ⟨by omega, by omega⟩)]
        exact ⟨_, _, rfl, rfl, rfl⟩
  · rw [if_neg h1, if_pos rfl, if_pos rfl]
    exact ⟨_, _, rfl, rfl, rfl⟩
theorem isA_cm {k w : Int32} {I J : jI} {i : Nat} (h : J 33 0 i = k) (hw : w = 1 ∨ w = 2 ∨ w = 3 ∨ w = 4 ∨ w = 5) : (d3 k w I = 0) = ((if k = w then (1 : Int32) else if w = 1 then (if k = 4 then 1 else if w = 2 then (if k = 5 then 1 else 0) else 0) else if w = 2 then (if k = 5 then 1 else 0) else 0) = 0) := by
  unfold d3 d4
  by_cases a : k = w
  · rw [if_pos a, if_pos a]
  rw [if_neg a, if_neg a]
  by_cases k4 : k = 4
  · subst k4
    rcases hw with rfl | rfl | rfl | rfl | rfl <;> rfl
  by_cases k5 : k = 5
  · subst k5
    rcases hw with rfl | rfl | rfl | rfl | rfl <;> rfl
  rw [if_neg k4, if_neg k5, if_neg k4, if_neg k5]
  rcases hw with rfl | rfl | rfl | rfl | rfl <;> rfl
theorem mark_an {I J : jI} (i w : Int32) (hG : gG aGI I) (q : RD2 I J) : ∃ r r', d79 i w I = some r ∧ d160 i w J = some r' ∧ r.1 = r'.1 := by
  have c := RD_cur hG q
  have hp := gi_packets hG
  have c3 : J 31 0 3 = I 4 1 6 := c.1.1.1
  have z0 : (0 : Int32).toInt = 0 := rfl
  unfold d79 d160
  rw [has_c, isP_m (by rw [c3]; exact hp), c3, in_i]
  by_cases h1 : 0 ≤ i.toInt ∧ i.toInt < (I 4 1 6).toInt
  · rw [if_pos h1, if_neg one0, if_neg one0]
    obtain ⟨hi, hi5, hm0⟩ := RD_hi c h1
    have ai := c.1.2.2.1 _ hi
    by_cases h2 : 1 ≤ w.toInt ∧ w.toInt ≤ 5
    · have hw : w = 1 ∨ w = 2 ∨ w = 3 ∨ w = 4 ∨ w = 5 := by
        have : w.toInt = 1 ∨ w.toInt = 2 ∨ w.toInt = 3 ∨ w.toInt = 4 ∨ w.toInt = 5 := by omega
        rcases this with z | z | z | z | z
        · exact Or.inl (eq_t.mpr z)
        · exact Or.inr (Or.inl (eq_t.mpr z))
        · exact Or.inr (Or.inr (Or.inl (eq_t.mpr z)))
        · exact Or.inr (Or.inr (Or.inr (Or.inl (eq_t.mpr z))))
        · exact Or.inr (Or.inr (Or.inr (Or.inr (eq_t.mpr z))))
      rw [if_neg (show ¬ w ≤ 0 by rw [le_t, z0]; omega), if_pos (show w < 6 by rw [lt_t]; show w.toInt < 6; omega), if_pos (show (1 : Int64).toInt ≤ w.toInt ∧ w.toInt ≤ (5 : Int64).toInt from h2), if_neg one0]
      have i23 : Int32.toNatClampNeg (23 + i) = 23 + i.toNatClampNeg := by rw [(ixa (a := 23) (by decide) (by decide) h1.1 (by omega)).2]; rfl
      have i17 : Int32.toNatClampNeg (17 + i) = 17 + i.toNatClampNeg := by rw [(ixa (a := 17) (by decide) (by decide) h1.1 (by omega)).2]; rfl
      have i6 : Int32.toNatClampNeg 6 = 1 + 5 := rfl
      have c01 := card01 hG
      unfold d159
      rw [ai.2.1, i23, ai.1.2, i17, ai.1.1, i6, c.1.2.2.2 5 (by decide), ai.2.2, cost_cm hG c h1.1 hi, cost_cm hG c h1.1 hi, got_cm c h1.1 hi, kps_cm c hi, cost_m (Or.inl rfl), cost_m (Or.inr rfl), cost_m c01]
      have hA := isA_cm (k := I 18 1 i.toNatClampNeg) (w := w) (I := I) (J := J) ai.2.1 hw
      by_cases h3 : d3 (I 18 1 i.toNatClampNeg) w I = 0
      · rw [if_pos h3, if_pos (hA.mp h3)]
        exact ⟨_, _, rfl, rfl, rfl⟩
      · rw [if_neg h3, if_neg (fun z => h3 (hA.mpr z))]
        unfold d41
        rcases hw with rfl | rfl | rfl | rfl | rfl <;> exact ⟨_, _, rfl, rfl, rfl⟩
    · rw [if_neg (show ¬ ((1 : Int64).toInt ≤ w.toInt ∧ w.toInt ≤ (5 : Int64).toInt) from h2), if_pos rfl]
      by_cases h3 : w ≤ 0
      · rw [if_pos h3]
        exact ⟨_, _, rfl, rfl, rfl⟩
      · rw [if_neg h3, if_neg (show ¬ w < 6 from fun z => by rw [lt_t] at z; have z : w.toInt < 6 := z; rw [le_t, z0] at h3; exact h2 ⟨by omega, by omega⟩)]
        exact ⟨_, _, rfl, rfl, rfl⟩
  · rw [if_neg h1, if_pos rfl, if_pos rfl]
    exact ⟨_, _, rfl, rfl, rfl⟩
theorem larder_an {I J : jI} (k : Int32) (hG : gG aGI I) (q : RD2 I J) : d80 k I = d161 k J := by
  have c := RD_cur hG q
  unfold d80 d161 d9
  rw [in_i]
  by_cases h2 : 0 ≤ k.toInt ∧ k.toInt ≤ 9
  · have nk := cl_t h2.1
    have i7 : Int32.toNatClampNeg (7 + k) = 7 + k.toNatClampNeg := by rw [(ixa (a := 7) (by decide) (by decide) h2.1 (by omega)).2]; rfl
    rw [if_neg (show ¬ k < 0 by rw [lt0_t]; omega), if_pos (show k < 10 by rw [lt_t]; show k.toInt < 10; omega), if_pos (show (0 : Int64).toInt ≤ k.toInt ∧ k.toInt ≤ (9 : Int64).toInt from h2), if_neg one0, i7, c.1.2.1 _ (by omega)]
  · rw [if_neg (show ¬ ((0 : Int64).toInt ≤ k.toInt ∧ k.toInt ≤ (9 : Int64).toInt) from h2), if_pos rfl]
    by_cases h3 : k < 0
    · rw [if_pos h3]
    · rw [if_neg h3, if_neg (show ¬ k < 10 from fun z => by rw [lt_t] at z; have z : k.toInt < 10 := z; rw [lt0_t] at h3; exact h2 ⟨by omega, by omega⟩)]
theorem costs_an {I J : jI} (i n : Int32) (hG : gG aGI I) (q : RD2 I J) : d89 i n I = d177 i n J := by
  have c := RD_cur hG q
  have hp := gi_packets hG
  have c3 : J 31 0 3 = I 4 1 6 := c.1.1.1
  unfold d89 d177
  rw [has_c, isP_m (by rw [c3]; exact hp), c3, in_i]
  by_cases h1 : 0 ≤ i.toInt ∧ i.toInt < (I 4 1 6).toInt
  · rw [if_pos h1, if_neg one0, if_neg one0]
    obtain ⟨hi, hi5, hm0⟩ := RD_hi c h1
    by_cases h2 : 0 ≤ n.toInt ∧ n.toInt ≤ 40
    · rw [if_neg (show ¬ n < 0 by rw [lt0_t]; omega), if_pos (show n ≤ 40 by rw [le_t]; exact h2.2), if_pos (show (0 : Int64).toInt ≤ n.toInt ∧ n.toInt ≤ (40 : Int64).toInt from h2), if_neg one0, cost_cm hG c h1.1 hi]
    · rw [if_neg (show ¬ ((0 : Int64).toInt ≤ n.toInt ∧ n.toInt ≤ (40 : Int64).toInt) from h2), if_pos rfl]
      by_cases h3 : n < 0
      · rw [if_pos h3]
      · rw [if_neg h3, if_neg (show ¬ n ≤ 40 from fun z => by rw [le_t] at z; rw [lt0_t] at h3; exact h2 ⟨by omega, z⟩)]
  · rw [if_neg h1, if_pos rfl, if_pos rfl]
/-! rate: the common divisor comes to an end -/
theorem gcd_c {I : jI} : ∀ (N F : Nat) (a b : Int64) (x : Int32), x.toInt + (N : Int) = 200 → 0 ≤ x.toInt → N < F → ∃ r, d117_9 I F a b x = some r
  | _, 0, _, _, _, _, _, h => absurd h (by omega)
  | 0, F + 1, a, b, x, hx, h0, _ => by
    rw [d117_9, if_pos (show (200 : Int32) ≤ x by rw [le_t]; show (200 : Int) ≤ _; omega)]
    exact ⟨_, rfl⟩
  | N + 1, F + 1, a, b, x, hx, h0, hF => by
    have e := i32_inc (x := x) (by omega)
    rw [d117_9, if_neg (show ¬ (200 : Int32) ≤ x by rw [le_t]; show ¬ (200 : Int) ≤ _; omega)]
    by_cases c : lg_cmp b 0 = 0
    · rw [if_pos c]
      exact ⟨_, rfl⟩
    · rw [if_neg c]
      exact gcd_c N F b _ (x + 1) (by omega) (by omega) (by omega)
theorem ratio_c {a b : Int64} {I : jI} {L : jL} : ∃ L', d116 a b I L = some L' := by
  obtain ⟨r, e⟩ := gcd_c (I := I) 200 210 a b 0 (by decide) (by decide) (by decide)
  unfold d116 d117
  rw [e]
  dsimp only [Option.bind_some]
  by_cases c : lg_cmp r 0 ≤ 0
  · rw [if_pos c]; exact ⟨_, rfl⟩
  · rw [if_neg c]; exact ⟨_, rfl⟩
theorem gcd_m {p q : Int64} {I : jI} : ∀ (F : Nat) (a b : Int64), 0 ≤ a.toInt → 0 ≤ b.toInt → b.toInt < (F : Int) → ∃ r, d178_6 p q I F a b = some r
  | 0, a, b, _, h, h' => absurd h' (by simp; omega)
  | F + 1, a, b, ha, hb, hF => by
    have z0 : (0 : Int64).toInt = 0 := rfl
    rw [d178_6]
    by_cases c : lg_cmp b 0 = 0
    · rw [if_pos c]
      exact ⟨_, rfl⟩
    · rw [if_neg c]
      have bn : ¬ b.toInt = 0 := fun z => c (by rw [cmp_lg]; exact cmpI_0.mpr (by rw [z, z0]))
      have t := tm64 (x := a) (y := b) (by omega)
      have r := (tm_rng a.toInt b.toInt (by omega)).1 ha
      exact gcd_m F b _ hb (by rw [t]; exact r.1) (by rw [t]; have : ((F + 1 : Nat) : Int) = (F : Int) + 1 := rfl; omega)
theorem cost_1 {k p c : Int32} (hp : 0 ≤ p.toInt ∧ p.toInt ≤ 99) : 0 ≤ (kost k 1 p c).toInt ∧ (kost k 1 p c).toInt ≤ 99 := by
  have one : (1 : Int32).toInt = 1 := rfl
  have e1 : (1 * p).toInt = p.toInt := by rw [i32_mul (by rw [one]; omega), one]; omega
  have e6 : 0 ≤ (d6 (1 * p) c zI).toInt ∧ (d6 (1 * p) c zI).toInt ≤ 99 := by
    unfold d6
    by_cases h : c = 0
    · rw [if_pos h, e1]; exact hp
    · rw [if_neg h]
      have three : (3 : Int32).toInt = 3 := rfl
      have four : (4 : Int32).toInt = 4 := rfl
      have e3 : (1 * p * 3).toInt = p.toInt * 3 := by rw [i32_mul (by rw [e1, three]; omega), e1, three]
      rw [td32 (by decide), e3, four, Int.tdiv_eq_ediv_of_nonneg (by omega)]
      omega
  have eh : ((1 - 1 / 3) * p).toInt = p.toInt := e1
  unfold kost d5
  by_cases h1 : k = 1
  · rw [if_pos h1]; exact e6
  rw [if_neg h1]
  by_cases h2 : k = 2
  · rw [if_pos h2, eh]; exact hp
  rw [if_neg h2]
  by_cases h3 : k = 3
  · have two : (2 : Int32).toInt = 2 := rfl
    rw [if_pos h3, td32 (by decide), e1, two, Int.tdiv_eq_ediv_of_nonneg (by omega)]
    omega
  rw [if_neg h3]
  by_cases h4 : k = 4
  · rw [if_pos h4]
    by_cases g : 0 < d6 (1 * p) c zI - 1
    · rw [if_pos g, i32_sub (by omega), one]
      rw [lt_t, i32_sub (by omega), one] at g
      have g : 0 < (d6 (1 * p) c zI).toInt - 1 := g
      omega
    · rw [if_neg g]; decide
  rw [if_neg h4]
  by_cases h5 : k = 5
  · rw [if_pos h5, eh]; exact hp
  rw [if_neg h5, e1]
  exact hp
theorem cost_b {I J : jI} {m : Nat} {i : Int32} (c : cur I J m) (hi : i.toNatClampNeg < m) : 0 ≤ (d35 1 i 1 I).toInt ∧ (d35 1 i 1 I).toInt ≤ 99 := cost_1 (c.2.2.2.1.2.1 _ hi).2
theorem rate_an {I J : jI} (L L' : jL) (i : Int32) (hG : gG aGI I) (q : RD2 I J) : ∃ r r', d90 i I L = some r ∧ d179 i J L' = some r' ∧ r.1 = r'.1 := by
  have c := RD_cur hG q
  have hp := gi_packets hG
  have c3 : J 31 0 3 = I 4 1 6 := c.1.1.1
  unfold d90 d179
  rw [has_c, isP_m (by rw [c3]; exact hp), c3]
  by_cases h1 : 0 ≤ i.toInt ∧ i.toInt < (I 4 1 6).toInt
  · rw [if_pos h1, if_neg one0, if_neg one0]
    obtain ⟨hi, hi5, hm0⟩ := RD_hi c h1
    rw [cost_cm hG c h1.1 hi, got_cm c h1.1 hi]
    by_cases h2 : d36 1 i I = 0
    · rw [if_pos h2, if_pos h2]
      exact ⟨_, _, rfl, rfl, rfl⟩
    · rw [if_neg h2, if_neg h2]
      obtain ⟨L1, e1⟩ := ratio_c (a := Int32.toInt64 (d35 1 i 1 I)) (b := Int32.toInt64 (d36 1 i I)) (I := I) (L := L)
      have gb := got_g c hi
      have cb := cost_b c hi
      obtain ⟨g, e2⟩ := gcd_m (p := Int32.toInt64 (d35 1 i 1 I)) (q := Int32.toInt64 (d36 1 i I)) (I := J) 300 (Int32.toInt64 (d35 1 i 1 I)) (Int32.toInt64 (d36 1 i I)) (by rw [t64]; exact cb.1) (by rw [t64]; exact gb.1) (by rw [t64]; show _ < (300 : Int); omega)
      unfold d178
      rw [e1, e2]
      exact ⟨_, _, rfl, rfl, rfl⟩
  · rw [if_neg h1, if_pos rfl, if_pos rfl]
    exact ⟨_, _, rfl, rfl, rfl⟩
