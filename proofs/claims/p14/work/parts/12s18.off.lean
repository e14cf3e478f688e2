/-! off, lasts: weeks aside -/
def asD (I Y : jI) (nd : Int32) : Prop := (∀ k, k < 10 → Y 32 0 (4603 + k) = I 23 6 k ∧ 0 ≤ (I 23 6 k).toInt) ∧ I 4 1 7 = nd ∧ Y 31 0 1 = nd
theorem aside_w {I Y : jI} {nd : Int32} (hn : 0 ≤ nd.toInt) (q : asD I Y nd) : ∃ r r', d13 6 (I 4 1 7) I = some r ∧ d167 4596 Y = some r' ∧ ((d14 6 r.2).1 = r'.1 ∧ r.1 = nd - (eatV 10 nd (I 23 6) 0).1 ∧ r.2 4 1 7 = nd) ∧ asD (d14 6 r.2).2 r'.2 nd ∧ r'.2 32 0 4600 = Y 32 0 4600 + (eatV 10 nd (I 23 6) 0).1 ∧ (r'.2 32 0 4 = Y 32 0 4) ∧ (0 ≤ (eatV 10 nd (I 23 6) 0).1.toInt ∧ (eatV 10 nd (I 23 6) 0).1.toInt ≤ nd.toInt) := by
  obtain ⟨q1, q2, q3⟩ := q
  have ev := eatV_le 10 nd (I 23 6) 0 hn (fun j _ b => (q1 j (by omega)).2)
  obtain ⟨r, r1, ⟨r2, r3⟩, r4⟩ := eat_c (a0 := 6) (nd := nd) (I := I) hn (fun k hk => (q1 k hk).2)
  obtain ⟨s, s1, s2, s3, s4⟩ := pass_m (a := 4596) ⟨by decide, by decide⟩ (b := 4596) rfl (I := Y)
  have x := eatV_ext 10 nd (fun k => Y 32 0 (4596 + 7 + k)) (I 23 6) 0 (fun j _ b => (q1 j (by omega)).1)
  rw [q3] at s2
  refine ⟨r, s, by rw [q2]; exact r1, s1, ⟨?_, r2, ?_⟩, ⟨fun k hk => ?_, ?_, ?_⟩, ?_, ?_, ev.1⟩
  · show r.2 23 6 0 = s.1
    rw [s2, r3]
    exact (x.2 0 (by decide) (by decide)).symm
  · rw [r4 4 1 7 (by decide), q2]
  · rw [off_c, s3, r3]
    unfold wkM
    rw [q3, if_neg (by omega), if_neg (by omega), if_neg (by omega), if_neg (by omega)]
    by_cases c : k < 9
    · rw [if_pos (by omega), if_pos c, show 4603 + k - 4596 - 6 = k + 1 by omega]
      exact ⟨x.2 (k + 1) (by omega) (by omega), (ev.2 (k + 1) (by omega) (by omega)).1⟩
    · rw [if_neg (by omega), if_pos (by omega), if_neg c, if_pos (by omega)]
      exact ⟨rfl, by decide⟩
  · rw [off_o (by decide), r4 4 1 7 (by decide), q2]
  · rw [s4 31 (by decide)]; exact q3
  · rw [s3]
    unfold wkM
    rw [q3, if_neg (by decide), if_neg (by decide), if_pos rfl, x.1]
  · rw [s3, wk_o (by decide)]
theorem lay_l : ∀ (N F : Nat) (x : Int32) (Y : jI), x.toInt + (N : Int) = 29 → 0 ≤ x.toInt → N < F → ∃ r, d185_2 F x Y = some r ∧ (∀ j, r 32 0 j = if 4596 + x.toNatClampNeg ≤ j ∧ j < 4625 then Y 32 0 (j - 4596) else Y 32 0 j) ∧ ∀ g, ¬ g = 32 → r g = Y g
  | _, 0, _, _, _, _, h => absurd h (by omega)
  | 0, F + 1, x, Y, hx, h0, _ => by
    have nx := cl_t h0
    rw [d185_2, if_pos (show (29 : Int32) ≤ x by rw [le_t]; show (29 : Int) ≤ _; omega)]
    exact ⟨_, rfl, fun j => by rw [if_neg (by omega)], fun _ _ => rfl⟩
  | N + 1, F + 1, x, Y, hx, h0, hF => by
    have nx := cl_t h0
    have e := i32_inc (x := x) (by omega)
    have nx1 := cl_t (x := x + 1) (by omega)
    have xn : (x + 1).toNatClampNeg = x.toNatClampNeg + 1 := by omega
    have ix : Int32.toNatClampNeg (4596 + x) = 4596 + x.toNatClampNeg := by rw [(ixa (a := 4596) (by decide) (by decide) h0 (by omega)).2]; rfl
    rw [d185_2, if_neg (show ¬ (29 : Int32) ≤ x by rw [le_t]; show ¬ (29 : Int) ≤ _; omega), ix]
    obtain ⟨r, r1, r2, r3⟩ := lay_l N F (x + 1) (jup Y 32 0 (4596 + x.toNatClampNeg) (Y 32 0 x.toNatClampNeg)) (by omega) (by omega) (by omega)
    refine ⟨r, r1, fun j => ?_, fun g h => (r3 g h).trans (jup_g h)⟩
    rw [r2, xn, jup_c, jup_c]
    by_cases c : 4596 + x.toNatClampNeg ≤ j ∧ j < 4625
    · rw [if_pos c]
      by_cases c2 : j = 4596 + x.toNatClampNeg
      · rw [if_neg (by omega), if_pos c2, show j - 4596 = x.toNatClampNeg by omega]
      · rw [if_pos (by omega), if_neg (by omega)]
    · rw [if_neg c, if_neg (by omega), if_neg (by omega)]
theorem lay_m {Y : jI} : ∃ r, d185 Y = some r ∧ (∀ j, j < 29 → r 32 0 (4596 + j) = Y 32 0 j) ∧ (∀ j, j < 4596 → r 32 0 j = Y 32 0 j) ∧ ∀ g, ¬ g = 32 → r g = Y g := by
  obtain ⟨r, r1, r2, r3⟩ := lay_l 29 70 0 Y (by decide) (by decide) (by decide)
  have c0 : Int32.toNatClampNeg 0 = 0 := rfl
  rw [c0] at r2
  unfold d185
  rw [r1]
  refine ⟨r, rfl, fun j hj => ?_, fun j hj => ?_, r3⟩
  · rw [r2, if_pos (by omega), show 4596 + j - 4596 = j by omega]
  · rw [r2, if_neg (by omega)]
theorem d11_c {I : jI} {j : Nat} (h : j < 10) : d11 6 1 I 23 6 j = I 23 1 j := by
  have c0 : Int32.toNatClampNeg 0 = 0 := rfl
  have c10 : Int32.toNatClampNeg 10 = 10 := rfl
  unfold d11 jcpy
  rw [c0, c10, if_pos ⟨rfl, rfl, by omega, by omega⟩, show 0 + (j - 0) = j by omega]
theorem aside_0 {I J Y : jI} {m : Nat} (c : cur I J m) (y1 : ∀ j, j < 29 → Y 32 0 (4596 + j) = J 32 0 j) (y3 : ∀ g, ¬ g = 32 → Y g = J g) : asD (d11 6 1 I) Y (I 4 1 7) := by
  refine ⟨fun k hk => ⟨?_, ?_⟩, ?_, ?_⟩
  · rw [show 4603 + k = 4596 + (7 + k) by omega, y1 _ (by omega), d11_c hk, c.1.2.1 k hk]
  · rw [d11_c hk]; exact c.2.2.1.1 k hk
  · rfl
  · rw [y3 31 (by decide)]; exact c.1.1.2.1
theorem off_l {n nd : Int32} (hn : 0 ≤ nd.toInt) (h20 : n.toInt ≤ 20) : ∀ (N F F' : Nat) (s x : Int32) (I Y : jI), x.toInt + (N : Int) = n.toInt → 0 ≤ x.toInt → N < F → N < F' → asD I Y nd → ∃ r T T', d96_43 n F s x I = some (r, T) ∧ d190_32 n F' s x Y = some (r, T')
  | _, 0, _, _, _, _, _, _, _, h, _, _ => absurd h (by omega)
  | _, _, 0, _, _, _, _, _, _, _, h, _ => absurd h (by omega)
  | 0, F + 1, F' + 1, s, x, I, Y, hx, h0, _, _, _ => by
    rw [d96_43, d190_32, if_pos (show n ≤ x by rw [le_t]; omega), if_pos (show n ≤ x by rw [le_t]; omega)]
    exact ⟨_, _, _, rfl, rfl⟩
  | N + 1, F + 1, F' + 1, s, x, I, Y, hx, h0, hF, hF', q => by
    have e := i32_inc (x := x) (by omega)
    obtain ⟨r, r', e1, e2, ⟨e3, -, -⟩, e4, -⟩ := aside_w hn q
    rw [d96_43, d190_32, if_neg (show ¬ n ≤ x by rw [le_t]; omega), if_neg (show ¬ n ≤ x by rw [le_t]; omega), e1, e2]
    dsimp only [Option.bind_some]
    rw [e3]
    exact off_l hn h20 N F F' _ (x + 1) _ _ (by omega) (by omega) (by omega) (by omega) e4
theorem off_an {I J : jI} (n : Int32) (hG : gG aGI I) (q : RD2 I J) : ∃ r r', d96 n I = some r ∧ d190 n J = some r' ∧ r.1 = r'.1 := by
  have c := RD_cur hG q
  have c3 : J 31 0 3 = I 4 1 6 := c.1.1.1
  have z20 : (20 : Int32).toInt = 20 := rfl
  unfold d96 d190
  rw [in_i, c3]
  by_cases h1 : 0 ≤ n.toInt ∧ n.toInt ≤ 20
  · rw [if_neg (show ¬ n < 0 by rw [lt0_t]; omega), if_pos (show n ≤ 20 by rw [le_t, z20]; exact h1.2), if_pos (show (0 : Int64).toInt ≤ n.toInt ∧ n.toInt ≤ (20 : Int64).toInt from h1), if_neg one0]
    by_cases h2 : I 4 1 6 = 0
    · rw [if_pos h2, if_pos h2]
      exact ⟨_, _, rfl, rfl, rfl⟩
    · rw [if_neg h2, if_neg h2]
      obtain ⟨Y, y0, y1, y2, y3⟩ := lay_m (Y := J)
      have nn := cl_t h1.1
      obtain ⟨r, T, T', t1, t2⟩ := off_l (n := n) c.2.2.2.1.1.1 h1.2 n.toNatClampNeg 70 70 0 0 _ _ (by show (0 : Int) + _ = _; omega) (by decide) (by omega) (by omega) (aside_0 c y1 y3)
      rw [y0]
      dsimp only [Option.bind_some]
      rw [t1, t2]
      exact ⟨_, _, rfl, rfl, rfl⟩
  · rw [if_neg (show ¬ ((0 : Int64).toInt ≤ n.toInt ∧ n.toInt ≤ (20 : Int64).toInt) from h1), if_pos rfl]
    by_cases h3 : n < 0
    · rw [if_pos h3]
      exact ⟨_, _, rfl, rfl, rfl⟩
    · rw [if_neg h3, if_neg (show ¬ n ≤ 20 from fun z => by rw [le_t, z20] at z; rw [lt0_t] at h3; exact h1 ⟨by omega, z⟩)]
      exact ⟨_, _, rfl, rfl, rfl⟩
theorem lasts_l {nd : Int32} (hn : 0 ≤ nd.toInt ∧ nd.toInt ≤ 9) : ∀ (N F F' : Nat) (x : Int32) (I Y : jI), x.toInt + (N : Int) = 30 → 0 ≤ x.toInt → N < F → N < F' → asD I Y nd → Y 32 0 4600 = Y 32 0 4 → (0 ≤ (Y 32 0 4).toInt ∧ (Y 32 0 4).toInt ≤ 360) → ∃ r T T', d97_29 F x I = some (r, T) ∧ (d191_16 F' x Y = some (.inl (r, T')) ∨ (r = 30 ∧ d191_16 F' x Y = some (.inr T')))
  | _, 0, _, _, _, _, _, _, h, _, _, _, _ => absurd h (by omega)
  | _, _, 0, _, _, _, _, _, _, h, _, _, _ => absurd h (by omega)
  | 0, F + 1, F' + 1, x, I, Y, hx, h0, _, _, _, _, _ => by
    have e : x = 30 := eq_t.mpr (by show _ = (30 : Int); omega)
    rw [d97_29, d191_16, if_pos (show (30 : Int32) ≤ x by rw [e]; decide), if_pos (show (30 : Int32) ≤ x by rw [e]; decide)]
    exact ⟨_, _, _, rfl, Or.inr ⟨e, rfl⟩⟩
  | N + 1, F + 1, F' + 1, x, I, Y, hx, h0, hF, hF', q, hh, hb => by
    have e := i32_inc (x := x) (by omega)
    obtain ⟨r, r', e1, e2, ⟨e3, e4, e5⟩, e6, e7, e8, e9⟩ := aside_w hn.1 q
    have c4600 : Int32.toNatClampNeg 4600 = 4600 := rfl
    have c4 : Int32.toNatClampNeg 4 = 4 := rfl
    have s1 : (r'.2 32 0 4600).toInt = (Y 32 0 4).toInt + (eatV 10 nd (I 23 6) 0).1.toInt := by rw [e7, hh, i32_add (by omega)]
    have s2 : r.1.toInt = nd.toInt - (eatV 10 nd (I 23 6) 0).1.toInt := by rw [e4, i32_sub (by omega)]
    rw [d97_29, d191_16, if_neg (show ¬ (30 : Int32) ≤ x by rw [le_t]; show ¬ (30 : Int) ≤ _; omega), if_neg (show ¬ (30 : Int32) ≤ x by rw [le_t]; show ¬ (30 : Int) ≤ _; omega), e1, e2]
    dsimp only [Option.bind_some]
    rw [c4600, c4, e5, e8]
    by_cases z : (eatV 10 nd (I 23 6) 0).1.toInt = 0
    · rw [if_pos (show r.1 = nd from eq_t.mpr (by omega)), if_pos (show r'.2 32 0 4600 ≤ Y 32 0 4 by rw [le_t]; omega)]
      exact lasts_l hn N F F' (x + 1) _ _ (by omega) (by omega) (by omega) (by omega) e6 (by rw [e8]; exact eq_t.mpr (by omega)) (by rw [e8]; exact hb)
    · rw [if_neg (show ¬ r.1 = nd from fun w => by rw [w] at s2; omega), if_neg (show ¬ r'.2 32 0 4600 ≤ Y 32 0 4 by rw [le_t]; omega)]
      exact ⟨_, _, _, rfl, Or.inl rfl⟩
theorem lasts_an {I J : jI} (hG : gG aGI I) (q : RD2 I J) : ∃ r r', d97 I = some r ∧ d191 J = some r' ∧ r.1 = r'.1 := by
  have c := RD_cur hG q
  have c3 : J 31 0 3 = I 4 1 6 := c.1.1.1
  unfold d97 d191
  rw [c3]
  by_cases h2 : I 4 1 6 = 0
  · rw [if_pos h2, if_pos h2]
    exact ⟨_, _, rfl, rfl, rfl⟩
  · rw [if_neg h2, if_neg h2]
    obtain ⟨Y, y0, y1, y2, y3⟩ := lay_m (Y := J)
    have j4 : J 32 0 4 = I 4 1 12 := c.1.2.2.2 3 (by decide)
    obtain ⟨r, T, T', t1, t2⟩ := lasts_l (nd := I 4 1 7) c.2.2.2.1.1 30 70 70 0 _ _ (by decide) (by decide) (by decide) (by decide) (aside_0 c y1 y3) (by rw [show 4600 = 4596 + 4 from rfl, y1 4 (by decide), y2 4 (by decide)]) (by rw [y2 4 (by decide), j4]; exact c.2.2.2.1.2.2)
    rw [y0]
    dsimp only [Option.bind_some]
    rw [t1]
    rcases t2 with t2 | ⟨t2, t3⟩
    · rw [t2]
      exact ⟨_, _, rfl, rfl, rfl⟩
    · rw [t3]
      exact ⟨_, _, rfl, rfl, t2⟩
