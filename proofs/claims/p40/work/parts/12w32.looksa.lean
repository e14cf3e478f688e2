/-! what is asked, alike: looks, prices -/
theorem lks_2 {I J : jI} {m : Nat} {c v : Int32} (hG : gG aGI I) (cu : cur I J m) (hc : 0 ≤ c.toInt ∧ c.toInt ≤ 9) : ∀ (N F F' : Nat) (b x y p q z : Int32), z.toInt + (N : Int) = (I 4 1 6).toInt → 0 ≤ z.toInt → N < F → N < F' → lkS x p → lkC y q → (b = -9 ∨ x = p) → ∃ r t s, d98_50 c v I F b x y z = some (r, t) ∧ d192_50 c v J F' p b q z = some (s, r) ∧ (r = -9 ∨ t = s)
  | _, 0, _, _, _, _, _, _, _, _, _, h, _, _, _, _ => absurd h (by omega)
  | _, _, 0, _, _, _, _, _, _, _, _, _, h, _, _, _ => absurd h (by omega)
  | 0, F + 1, F' + 1, b, x, y, p, q, z, hz, h0, _, _, _, _, hB => by
    have c3 : J 31 0 3 = I 4 1 6 := cu.1.1.1
    rw [d98_50, d192_50, c3, if_pos (show I 4 1 6 ≤ z by rw [le_t]; omega), if_pos (show I 4 1 6 ≤ z by rw [le_t]; omega)]
    exact ⟨_, _, _, rfl, rfl, hB⟩
  | N + 1, F + 1, F' + 1, b, x, y, p, q, z, hz, h0, hF, hF', hS, hC, hB => by
    have c3 : J 31 0 3 = I 4 1 6 := cu.1.1.1
    have hp := gi_packets hG
    have e := i32_inc (x := z) (by omega)
    obtain ⟨hi, hi5, hm0⟩ := RD_hi cu (i := z) ⟨h0, by omega⟩
    have cb := cost_b cu hi
    have mb := mul_c hc (k := z + 1) ⟨by omega, by omega⟩
    have cM : (99999 : Int32).toInt = 99999 := rfl
    have cU : (1000000 : Int32).toInt = 1000000 := rfl
    have key : ∀ y q, lkC y q → ∃ r t s, (if x ≤ y + c * (z + 1) then d98_50 c v I F b x y (z + 1) else d98_50 c v I F (z + 1) (y + c * (z + 1)) y (z + 1)) = some (r, t) ∧ (if 99999 ≤ q then d192_50 c v J F' p b q (z + 1) else if p ≤ c * (z + 1) + q then d192_50 c v J F' p b q (z + 1) else d192_50 c v J F' (c * (z + 1) + q) (z + 1) q (z + 1)) = some (s, r) ∧ (r = -9 ∨ t = s) := by
      intro y q hC
      rcases hC with ⟨h1, h2⟩ | ⟨h1, h2, h3⟩
      · have ey : (y + c * (z + 1)).toInt = 1000000 + (c * (z + 1)).toInt := by rw [h1, i32_add (by rw [cU]; omega), cU]
        have hx : x.toInt ≤ 1000000 := by
          rcases hS with ⟨w, -⟩ | ⟨-, -, w⟩
          · rw [w, cU]; omega
          · omega
        rw [if_pos (show x ≤ y + c * (z + 1) by rw [le_t]; omega), if_pos (show (99999 : Int32) ≤ q by rw [h2]; decide)]
        exact lks_2 hG cu hc N F F' b x y p q (z + 1) (by omega) (by omega) (by omega) (by omega) hS (Or.inl ⟨h1, h2⟩) hB
      · subst h1
        have ey : (y + c * (z + 1)).toInt = y.toInt + (c * (z + 1)).toInt := i32_add (by omega)
        rw [if_neg (show ¬ (99999 : Int32) ≤ y by rw [le_t, cM]; omega), Int32.add_comm (c * (z + 1)) y]
        rcases hS with ⟨w1, w2⟩ | ⟨w1, w2, w3⟩
        · rw [if_neg (show ¬ x ≤ y + c * (z + 1) by rw [le_t, w1, cU]; omega), if_neg (show ¬ p ≤ y + c * (z + 1) by rw [le_t, w2, cM]; omega)]
          exact lks_2 hG cu hc N F F' _ _ y _ y (z + 1) (by omega) (by omega) (by omega) (by omega) (Or.inr ⟨rfl, by omega, by omega⟩) (Or.inr ⟨rfl, h2, h3⟩) (Or.inr rfl)
        · subst w1
          by_cases l : x ≤ y + c * (z + 1)
          · rw [if_pos l, if_pos l]
            exact lks_2 hG cu hc N F F' _ _ y _ y (z + 1) (by omega) (by omega) (by omega) (by omega) (Or.inr ⟨rfl, w2, w3⟩) (Or.inr ⟨rfl, h2, h3⟩) (Or.inr rfl)
          · rw [if_neg l, if_neg l]
            exact lks_2 hG cu hc N F F' _ _ y _ y (z + 1) (by omega) (by omega) (by omega) (by omega) (Or.inr ⟨rfl, by omega, by omega⟩) (Or.inr ⟨rfl, h2, h3⟩) (Or.inr rfl)
    rw [d98_50, d192_50, c3, if_neg (show ¬ I 4 1 6 ≤ z by rw [le_t]; omega), if_neg (show ¬ I 4 1 6 ≤ z by rw [le_t]; omega), got_cm cu h0 hi, cost_cm hG cu h0 hi, nest, nest]
    by_cases g : d36 1 z I < v
    · rw [if_pos g, if_pos g]
      exact key y q hC
    · rw [if_neg g, if_neg g]
      have cmp : (d35 1 z 1 I < y) ↔ ¬ (q ≤ d35 1 z 1 I) := by
        rw [lt_t, le_t]
        rcases hC with ⟨h1, h2⟩ | ⟨h1, h2, h3⟩
        · rw [h1, h2, cU, cM]; omega
        · rw [h1]; omega
      by_cases l : q ≤ d35 1 z 1 I
      · rw [if_pos l, if_neg (fun w => cmp.mp w l)]
        exact key y q hC
      · rw [if_neg l, if_pos (cmp.mpr l)]
        exact key _ _ (Or.inr ⟨rfl, cb.1, cb.2⟩)
theorem looks_as {I J : jI} (c v : Int32) (hG : gG aGI I) (q : RD2 I J) (hA : RAs I J) : ∃ r r', d98 c v I = some r ∧ d192 c v J = some r' ∧ RAs r.2 r'.2 := by
  have cu := RD_cur hG q
  have hp := gi_packets hG
  have c3 : J 31 0 3 = I 4 1 6 := cu.1.1.1
  have z9 : (9 : Int32).toInt = 9 := rfl
  have z1 : (1 : Int32).toInt = 1 := rfl
  unfold d98 d192
  rw [in_i, in_i, c3]
  by_cases h1 : 0 ≤ c.toInt ∧ c.toInt ≤ 9
  · rw [if_neg (show ¬ c < 0 by rw [lt0_t]; omega), if_neg (show ¬ (9 : Int32) < c by rw [lt_t, z9]; omega), if_pos (show (0 : Int64).toInt ≤ c.toInt ∧ c.toInt ≤ (9 : Int64).toInt from h1), if_neg one0]
    by_cases h2 : 1 ≤ v.toInt ∧ v.toInt ≤ 9
    · rw [if_neg (show ¬ v < 1 by rw [lt_t, z1]; omega), if_pos (show v ≤ 9 by rw [le_t, z9]; exact h2.2), if_pos (show (1 : Int64).toInt ≤ v.toInt ∧ v.toInt ≤ (9 : Int64).toInt from h2), if_neg one0]
      by_cases h3 : I 4 1 6 = 0
      · rw [if_pos h3, if_pos h3]
        exact ⟨_, _, rfl, rfl, hA⟩
      · rw [if_neg h3, if_neg h3]
        have np := cl_t hp.1
        obtain ⟨r, t, s, e1, e2, e5⟩ := lks_2 (v := v) hG cu h1 (I 4 1 6).toNatClampNeg 70 70 (-9) 1000000 1000000 99999 99999 0 (by show (0 : Int) + _ = _; omega) (by decide) (by omega) (by omega) (Or.inl ⟨rfl, rfl⟩) (Or.inl ⟨rfl, rfl⟩) (Or.inl rfl)
        rw [e1, e2]
        dsimp only [Option.bind_some]
        by_cases h9 : r = -9
        · rw [if_pos h9, if_pos h9]
          exact ⟨_, _, rfl, rfl, hA⟩
        · rw [if_neg h9, if_neg h9]
          refine ⟨_, _, rfl, rfl, ?_⟩
          show s = t
          rcases e5 with e5 | e5
          · exact absurd e5 h9
          · exact e5.symm
    · rw [if_neg (show ¬ ((1 : Int64).toInt ≤ v.toInt ∧ v.toInt ≤ (9 : Int64).toInt) from h2), if_pos rfl]
      by_cases h4 : v < 1
      · rw [if_pos h4]
        exact ⟨_, _, rfl, rfl, hA⟩
      · rw [if_neg h4, if_neg (show ¬ v ≤ 9 from fun z => by rw [le_t, z9] at z; rw [lt_t, z1] at h4; exact h2 ⟨by omega, z⟩)]
        exact ⟨_, _, rfl, rfl, hA⟩
  · rw [if_neg (show ¬ ((0 : Int64).toInt ≤ c.toInt ∧ c.toInt ≤ (9 : Int64).toInt) from h1), if_pos rfl]
    by_cases h4 : c < 0
    · rw [if_pos h4]
      exact ⟨_, _, rfl, rfl, hA⟩
    · rw [if_neg h4, if_pos (show (9 : Int32) < c by rw [lt_t, z9]; rw [lt0_t] at h4; omega)]
      exact ⟨_, _, rfl, rfl, hA⟩
noncomputable def lsP (I : jI) (r k : Int32) : Nat → Int32
  | 0 => -9
  | n + 1 => if lsP I r k n = -9 then (if d119 r k (nI n) I = some 0 then -9 else nI n) else lsP I r k n
theorem pcC_2 {I J : jI} {i r : Int32} {N : Nat} (hG : gG aGI I) (h : RR I J) (j6 : J 32 0 6 = I 4 1 14) (h1 : 0 ≤ r.toInt ∧ r.toInt ≤ 5) (hN : 2 * (N : Int) = (I 14 0 r.toNatClampNeg).toInt) (hN6 : N ≤ 6) : ∀ (M F : Nat) (a b x : Int32), x.toInt + (M : Int) = 100 → 0 ≤ x.toInt → M < F → b = lsP I r (I 18 1 i.toNatClampNeg) x.toNatClampNeg → ∃ s t, d100_50 i r I F a b x = some (s, t) ∧ t = lsP I r (I 18 1 i.toNatClampNeg) 100
  | _, 0, _, _, _, _, _, h, _ => absurd h (by omega)
  | 0, F + 1, a, b, x, hx, x0, _, ha => by
    have nx := cl_t x0
    rw [d100_50, if_pos (show (99 : Int32) < x by rw [lt_t]; show (99 : Int) < _; omega)]
    exact ⟨_, _, rfl, by rw [ha, show x.toNatClampNeg = 100 by omega]⟩
  | M + 1, F + 1, a, b, x, hx, x0, hF, ha => by
    have nx := cl_t x0
    have e := i32_inc (x := x) (by omega)
    have xn : (x + 1).toNatClampNeg = x.toNatClampNeg + 1 := by
      have := cl_t (x := x + 1) (by omega)
      omega
    have ex : nI x.toNatClampNeg = x := (nI_is (by omega) (by omega)).symm
    have st : lsP I r (I 18 1 i.toNatClampNeg) (x + 1).toNatClampNeg = if lsP I r (I 18 1 i.toNatClampNeg) x.toNatClampNeg = -9 then (if d119 r (I 18 1 i.toNatClampNeg) x I = some 0 then -9 else x) else lsP I r (I 18 1 i.toNatClampNeg) x.toNatClampNeg := by
      rw [xn]
      show (if lsP I r (I 18 1 i.toNatClampNeg) x.toNatClampNeg = -9 then (if d119 r (I 18 1 i.toNatClampNeg) (nI x.toNatClampNeg) I = some 0 then -9 else nI x.toNatClampNeg) else lsP I r (I 18 1 i.toNatClampNeg) x.toNatClampNeg) = _
      rw [ex]
    rw [← ha] at st
    rw [d100_50, if_neg (show ¬ (99 : Int32) < x by rw [lt_t]; show ¬ (99 : Int) < _; omega)]
    rcases so_m (k := I 18 1 i.toNatClampNeg) (p := x) hG h j6 h1 hN hN6 with ⟨q1, q2⟩ | ⟨q1, q2⟩
    · rw [q1, if_neg (show ¬ (some 1 : Option Int32) = some 0 from fun z => one0 (Option.some.inj z))] at st
      rw [q1]
      dsimp only [Option.bind_some]
      rw [if_neg one0]
      by_cases y : b = -9
      · rw [if_pos y]
        exact pcC_2 hG h j6 h1 hN hN6 M F _ _ (x + 1) (by omega) (by omega) (by omega) (by rw [st, if_pos y])
      · rw [if_neg y]
        exact pcC_2 hG h j6 h1 hN hN6 M F _ _ (x + 1) (by omega) (by omega) (by omega) (by rw [st, if_neg y])
    · rw [q1, if_pos rfl] at st
      rw [q1]
      dsimp only [Option.bind_some]
      rw [if_pos rfl]
      exact pcC_2 hG h j6 h1 hN hN6 M F _ _ (x + 1) (by omega) (by omega) (by omega) (by rw [st]; by_cases y : b = -9; rw [if_pos y]; exact y; rw [if_neg y])
theorem pcM_2 {I J : jI} {i r : Int32} {N : Nat} (hG : gG aGI I) (h : RR I J) (j6 : J 32 0 6 = I 4 1 14) (jk : J 33 0 i.toNatClampNeg = I 18 1 i.toNatClampNeg) (h1 : 0 ≤ r.toInt ∧ r.toInt ≤ 5) (hN : 2 * (N : Int) = (I 14 0 r.toNatClampNeg).toInt) (hN6 : N ≤ 6) : ∀ (M F : Nat) (a x : Int32) (Y : jI), x.toInt = (M : Int) - 1 → M ≤ 100 → M < F → (∀ g, ¬ g = 31 → Y g = J g) → (0 ≤ a.toInt ∧ a.toInt ≤ 100 - (M : Int)) → ∃ s T, d196_42 i r F a x Y = some (s, T) ∧ T 31 0 10 = (if lsP I r (I 18 1 i.toNatClampNeg) M = -9 then Y 31 0 10 else lsP I r (I 18 1 i.toNatClampNeg) M)
  | _, 0, _, _, _, _, _, h, _, _ => absurd h (by omega)
  | 0, F + 1, a, x, Y, hx, _, _, hY, _ => by
    rw [d196_42, if_pos (show x < 0 by rw [lt0_t]; omega)]
    exact ⟨_, _, rfl, rfl⟩
  | M + 1, F + 1, a, x, Y, hx, hM, hF, hY, ha => by
    have hx' : x.toInt = (M : Int) := by omega
    have c1 : (-1 : Int32).toInt = -1 := rfl
    have e : (x + (-1)).toInt = x.toInt - 1 := by rw [i32_add (by rw [c1]; omega), c1]; omega
    have ex : nI M = x := (nI_is hx' (by omega)).symm
    have st : lsP I r (I 18 1 i.toNatClampNeg) (M + 1) = if lsP I r (I 18 1 i.toNatClampNeg) M = -9 then (if d119 r (I 18 1 i.toNatClampNeg) x I = some 0 then -9 else x) else lsP I r (I 18 1 i.toNatClampNeg) M := by
      show (if lsP I r (I 18 1 i.toNatClampNeg) M = -9 then (if d119 r (I 18 1 i.toNatClampNeg) (nI M) I = some 0 then -9 else nI M) else lsP I r (I 18 1 i.toNatClampNeg) M) = _
      rw [ex]
    have c9 : (-9 : Int32).toInt = -9 := rfl
    have x9 : ¬ x = -9 := fun w => by rw [eq_t, c9] at w; omega
    have e1 := i32_inc (x := a) (by omega)
    have az : a + 0 = a := Int32.add_zero a
    have dY : d194 r (I 18 1 i.toNatClampNeg) x Y = d194 r (I 18 1 i.toNatClampNeg) x J := by
      unfold d194
      rw [so_x (hY 36 (by decide)) (hY 35 (by decide)) (hY 32 (by decide))]
    rw [d196_42, if_neg (show ¬ x < 0 by rw [lt0_t]; omega), hY 33 (by decide), jk, dY]
    rcases so_m (k := I 18 1 i.toNatClampNeg) (p := x) hG h j6 h1 hN hN6 with ⟨q1, q2⟩ | ⟨q1, q2⟩
    · rw [q1, if_neg (show ¬ (some 1 : Option Int32) = some 0 from fun z => one0 (Option.some.inj z))] at st
      rw [q2]
      dsimp only [Option.bind_some]
      rw [if_neg one0, if_neg one0]
      obtain ⟨s, T, t1, t2⟩ := pcM_2 hG h j6 jk h1 hN hN6 M F (a + 1) (x + (-1)) (jup Y 31 0 10 x) (by omega) (by omega) (by omega) (fun g hg => (jup_g hg).trans (hY g hg)) (by omega)
      refine ⟨s, T, t1, ?_⟩
      rw [t2, st]
      by_cases y : lsP I r (I 18 1 i.toNatClampNeg) M = -9
      · rw [if_pos y, if_pos y, if_neg x9]; rfl
      · rw [if_neg y, if_neg y, if_neg y]
    · rw [q1, if_pos rfl] at st
      rw [q2]
      dsimp only [Option.bind_some]
      rw [if_pos rfl, if_pos rfl, az]
      obtain ⟨s, T, t1, t2⟩ := pcM_2 hG h j6 jk h1 hN hN6 M F a (x + (-1)) (jup Y 31 0 10 (Y 31 0 10)) (by omega) (by omega) (by omega) (fun g hg => (jup_g hg).trans (hY g hg)) (by omega)
      refine ⟨s, T, t1, ?_⟩
      rw [t2, st]
      by_cases y : lsP I r (I 18 1 i.toNatClampNeg) M = -9
      · rw [if_pos y, if_pos y, if_pos rfl]; rfl
      · rw [if_neg y, if_neg y, if_neg y]
theorem prices_as {I J : jI} (i r : Int32) (hG : gG aGI I) (q : RD2 I J) (h : RR I J) (hA : RAs I J) : ∃ s s', d100 i r I = some s ∧ d196 i r J = some s' ∧ RAs s.2 s'.2 := by
  have c := RD_cur hG q
  have hp := gi_packets hG
  have c3 : J 31 0 3 = I 4 1 6 := c.1.1.1
  unfold d100 d196
  rw [has_c, isP_m (by rw [c3]; exact hp), c3, names_r, isRow_t]
  by_cases h1 : 0 ≤ i.toInt ∧ i.toInt < (I 4 1 6).toInt
  · rw [if_pos h1, if_neg one0, if_neg one0]
    obtain ⟨hi, hi5, hm0⟩ := RD_hi c h1
    by_cases h2 : 0 ≤ r.toInt ∧ r.toInt ≤ 5
    · rw [if_pos h2, if_neg one0, if_neg one0]
      obtain ⟨w, w1, w2⟩ := prs_m hG h h2
      rw [w1]
      dsimp only [Option.bind_some]
      rcases w2 with ⟨w2, w3, N, n1, n2⟩ | ⟨w2, w3, w4⟩
      · rw [if_pos w2, w3]
        dsimp only [Option.bind_some]
        rw [if_pos rfl]
        have j6 := c.1.2.2.2 5 (by decide)
        obtain ⟨s, t, s1, s2⟩ := pcC_2 (i := i) hG h j6 h2 n1 n2 100 120 0 (-9) 0 (by decide) (by decide) (by decide) rfl
        obtain ⟨u, T, u1, u2⟩ := pcM_2 (i := i) hG h j6 (c.1.2.2.1 _ hi).2.1 h2 n1 n2 100 120 0 99 (jup J 31 0 10 (-9)) (by decide) (by decide) (by decide) (fun g hg => jup_g hg) ⟨by decide, by decide⟩
        rw [s1, u1]
        refine ⟨_, _, rfl, rfl, ?_⟩
        show T 31 0 10 = t
        rw [u2, s2]
        by_cases y : lsP I r (I 18 1 i.toNatClampNeg) 100 = -9
        · rw [if_pos y, y]; rfl
        · rw [if_neg y]
      · rw [if_neg w2, w3]
        dsimp only [Option.bind_some]
        rw [if_neg (show ¬ (d126 w J).1 = 0 by rw [w4]; decide)]
        exact ⟨_, _, rfl, rfl, hA⟩
    · rw [if_neg h2, if_pos rfl, if_pos rfl]
      exact ⟨_, _, rfl, rfl, hA⟩
  · rw [if_neg h1, if_pos rfl, if_pos rfl]
    exact ⟨_, _, rfl, rfl, hA⟩
