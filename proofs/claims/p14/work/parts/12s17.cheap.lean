/-! cheapest, larger, grams, looks -/
theorem mul_b {x y : Int32} (hx : 0 ≤ x.toInt ∧ x.toInt ≤ 99) (hy : 0 ≤ y.toInt ∧ y.toInt ≤ 9) : 0 ≤ (x * y).toInt ∧ (x * y).toInt ≤ 891 := by
  have h1 : 0 ≤ x.toInt * y.toInt := Int.mul_nonneg hx.1 hy.1
  have h2 : x.toInt * y.toInt ≤ 99 * 9 := Int.mul_le_mul hx.2 hy.2 hy.1 (by decide)
  rw [i32_mul (by omega)]
  omega
theorem rate_cm {I J : jI} {m : Nat} {i j : Int32} (hG : gG aGI I) (c : cur I J m) (i0 : 0 ≤ i.toInt) (hi : i.toNatClampNeg < m) (j0 : 0 ≤ j.toInt) (hj : j.toNatClampNeg < m) : d38 1 i j I = if 0 ≤ (d180 i j J).toInt then (if (d180 i j J).toInt = 0 then 0 else 1) else -1 := by
  have a := mul_b (cost_b c hi) (got_g c hj)
  have b := mul_b (cost_b c hj) (got_g c hi)
  unfold d38 d180 d0
  rw [cost_cm hG c i0 hi, cost_cm hG c j0 hj, got_cm c i0 hi, got_cm c j0 hj]
  generalize d35 1 i 1 I * d36 1 j I = A at *
  generalize d35 1 j 1 I * d36 1 i I = B at *
  rw [i32_sub (by omega)]
  by_cases h : B ≤ A
  · rw [if_pos h]
    rw [le_t] at h
    by_cases e : A = B
    · rw [if_pos e, if_pos (show 0 ≤ A.toInt - B.toInt by omega), if_pos (show A.toInt - B.toInt = 0 by rw [e]; omega)]
    · rw [if_neg e, if_pos (show 0 ≤ A.toInt - B.toInt by omega), if_neg (show ¬ A.toInt - B.toInt = 0 from fun z => e (eq_t.mpr (by omega)))]
  · rw [if_neg h]
    rw [le_t] at h
    rw [if_neg (show ¬ 0 ≤ A.toInt - B.toInt by omega)]
theorem chp_l {I J : jI} {m : Nat} (hG : gG aGI I) (c : cur I J m) : ∀ (N F F' : Nat) (x y z : Int32), z.toInt + (N : Int) = (I 4 1 6).toInt → 0 ≤ z.toInt → N < F → N < F' → (x = -9 ∨ (0 ≤ x.toInt ∧ x.toInt < (I 4 1 6).toInt)) → ∃ r b, d91_20 I F x y z = some (b, r) ∧ d181_15 J F' x z = some b ∧ (b = -9 ∨ (0 ≤ b.toInt ∧ b.toInt < (I 4 1 6).toInt))
  | _, 0, _, _, _, _, _, _, h, _, _ => absurd h (by omega)
  | _, _, 0, _, _, _, _, _, _, h, _ => absurd h (by omega)
  | 0, F + 1, F' + 1, x, y, z, hz, h0, _, _, hx => by
    have c3 : J 31 0 3 = I 4 1 6 := c.1.1.1
    rw [d91_20, d181_15, c3, if_pos (show I 4 1 6 ≤ z by rw [le_t]; omega), if_pos (show I 4 1 6 ≤ z by rw [le_t]; omega)]
    exact ⟨_, _, rfl, rfl, hx⟩
  | N + 1, F + 1, F' + 1, x, y, z, hz, h0, hF, hF', hx => by
    have c3 : J 31 0 3 = I 4 1 6 := c.1.1.1
    have hp := gi_packets hG
    have e := i32_inc (x := z) (by omega)
    obtain ⟨hi, hi5, hm0⟩ := RD_hi c (i := z) ⟨h0, by omega⟩
    have gg := got_g c hi
    have z0 : (0 : Int32).toInt = 0 := rfl
    rw [d91_20, d181_15, c3, if_neg (show ¬ I 4 1 6 ≤ z by rw [le_t]; omega), if_neg (show ¬ I 4 1 6 ≤ z by rw [le_t]; omega), got_cm c h0 hi]
    have next : ∀ x y, (x = -9 ∨ (0 ≤ x.toInt ∧ x.toInt < (I 4 1 6).toInt)) → ∃ r b, d91_20 I F x y (z + 1) = some (b, r) ∧ d181_15 J F' x (z + 1) = some b ∧ (b = -9 ∨ (0 ≤ b.toInt ∧ b.toInt < (I 4 1 6).toInt)) := fun x y hx => chp_l hG c N F F' x y (z + 1) (by omega) (by omega) (by omega) (by omega) hx
    have hz' : z = -9 ∨ (0 ≤ z.toInt ∧ z.toInt < (I 4 1 6).toInt) := Or.inr ⟨h0, by omega⟩
    by_cases g : d36 1 z I = 0
    · rw [if_pos g, if_pos (show d36 1 z I ≤ 0 by rw [g]; decide)]
      exact next x y hx
    · rw [if_neg g, if_neg (show ¬ d36 1 z I ≤ 0 by rw [le_t, z0]; intro w; exact g (eq_t.mpr (by omega)))]
      by_cases x9 : x = -9
      · rw [if_pos x9, if_pos x9]
        exact next z _ hz'
      · rw [if_neg x9, if_neg x9]
        rcases hx with hx | hx
        · exact absurd hx x9
        obtain ⟨hxi, -, -⟩ := RD_hi c (i := x) hx
        have rc := rate_cm hG c h0 hi hx.1 hxi
        by_cases w : 0 ≤ (d180 z x J).toInt
        · rw [if_pos w] at rc
          rw [if_pos (show 0 ≤ d180 z x J by rw [le0_t]; exact w)]
          by_cases w0 : (d180 z x J).toInt = 0
          · rw [if_pos w0] at rc
            rw [rc, if_pos (show (0 : Int32) ≤ 0 by decide), if_pos rfl]
            exact next x _ (Or.inr hx)
          · rw [if_neg w0] at rc
            rw [rc, if_pos (show (0 : Int32) ≤ 1 by decide), if_neg one0]
            exact next x _ (Or.inr hx)
        · rw [if_neg w] at rc
          rw [rc, if_neg (show ¬ (0 : Int32) ≤ -1 by decide), if_neg (show ¬ 0 ≤ d180 z x J by rw [le0_t]; exact w)]
          exact next z _ hz'
theorem chp_m {y : Int32} {p : Int} (hp : p ≤ 6) : ∀ (N F : Nat) (z : Int32) (Y : jI), (Y 31 0 3).toInt = p → z.toInt + (N : Int) = p → 0 ≤ z.toInt → N < F → ∃ r, d181_75 y F z Y = some r
  | _, 0, _, _, _, _, _, h => absurd h (by omega)
  | 0, F + 1, z, Y, h3, hz, h0, _ => by
    rw [d181_75, if_pos (show Y 31 0 3 ≤ z by rw [le_t]; omega)]
    exact ⟨_, rfl⟩
  | N + 1, F + 1, z, Y, h3, hz, h0, hF => by
    have e := i32_inc (x := z) (by omega)
    rw [d181_75, if_neg (show ¬ Y 31 0 3 ≤ z by rw [le_t]; omega)]
    by_cases g : d155 0 z Y ≤ 0
    · rw [if_pos g]
      exact chp_m hp N F (z + 1) _ h3 (by omega) (by omega) (by omega)
    · rw [if_neg g]
      by_cases g2 : d180 z y Y = 0
      · rw [if_pos g2]
        exact chp_m hp N F (z + 1) _ h3 (by omega) (by omega) (by omega)
      · rw [if_neg g2]
        exact chp_m hp N F (z + 1) _ h3 (by omega) (by omega) (by omega)
theorem cheapest_an {I J : jI} (hG : gG aGI I) (q : RD2 I J) : ∃ r r', d91 I = some r ∧ d181 J = some r' ∧ r.1 = r'.1 := by
  have c := RD_cur hG q
  have c3 : J 31 0 3 = I 4 1 6 := c.1.1.1
  have hp := gi_packets hG
  unfold d91 d181
  rw [c3]
  by_cases h1 : I 4 1 6 = 0
  · rw [if_pos h1, if_pos h1]
    exact ⟨_, _, rfl, rfl, rfl⟩
  · rw [if_neg h1, if_neg h1]
    have np := cl_t hp.1
    obtain ⟨r, b, e1, e2, e3⟩ := chp_l hG c (I 4 1 6).toNatClampNeg 70 70 (-9) 0 0 (by show (0 : Int) + _ = _; omega) (by decide) (by omega) (by omega) (Or.inl rfl)
    rw [e1, e2]
    dsimp only [Option.bind_some]
    by_cases h9 : b = -9
    · rw [if_pos h9, if_pos h9]
      exact ⟨_, _, rfl, rfl, h9⟩
    · rw [if_neg h9, if_neg h9]
      obtain ⟨s, e4⟩ := chp_m (y := b) (p := (I 4 1 6).toInt) hp.2 (I 4 1 6).toNatClampNeg 70 0 (jup J 31 0 10 0) (by show (J 31 0 3).toInt = _; rw [c3]) (by show (0 : Int) + _ = _; omega) (by decide) (by omega)
      rw [e4]
      exact ⟨_, _, rfl, rfl, rfl⟩
theorem d155_x {a i : Int32} {Y J : jI} (h33 : Y 33 = J 33) (h32 : Y 32 = J 32) : d155 a i Y = d155 a i J := by
  unfold d155
  rw [h33, h32]
  rfl
theorem d153_x {a i n : Int32} {Y J : jI} (h33 : Y 33 = J 33) (h32 : Y 32 = J 32) : d153 a i n Y = d153 a i n J := by
  unfold d153
  rw [h33, h32]
  rfl
theorem d180_x {i j : Int32} {Y J : jI} (h33 : Y 33 = J 33) (h32 : Y 32 = J 32) : d180 i j Y = d180 i j J := by
  unfold d180
  rw [d153_x h33 h32, d153_x h33 h32, d155_x h33 h32, d155_x h33 h32]
theorem lgr_b {I J : jI} {m : Nat} {i j : Int32} (hG : gG aGI I) (c : cur I J m) (i0 : 0 ≤ i.toInt) (hi : i.toNatClampNeg < m) (j0 : 0 ≤ j.toInt) (hj : j.toNatClampNeg < m) : (d39 1 i j I = 0) ↔ ¬ ((0 < (d155 0 i J).toInt ∧ 0 < (d155 0 j J).toInt) ∧ (((d155 0 j J).toInt < (d155 0 i J).toInt ∧ 0 < (d180 i j J).toInt) ∨ ((d155 0 i J).toInt < (d155 0 j J).toInt ∧ (d180 i j J).toInt < 0))) := by
  have rc := rate_cm hG c i0 hi j0 hj
  have gi := got_g c hi
  have gj := got_g c hj
  rw [got_cm c i0 hi, got_cm c j0 hj]
  generalize (d180 i j J).toInt = w at rc
  unfold d39
  by_cases a : d36 1 i I = 0
  · have a' : (d36 1 i I).toInt = 0 := by rw [a]; rfl
    rw [if_pos a]
    exact ⟨fun _ z => by omega, fun _ => rfl⟩
  have a' : ¬ (d36 1 i I).toInt = 0 := fun z => a (eq_t.mpr (by rw [z]; rfl))
  rw [if_neg a]
  by_cases b : d36 1 j I = 0
  · have b' : (d36 1 j I).toInt = 0 := by rw [b]; rfl
    rw [if_pos b]
    exact ⟨fun _ z => by omega, fun _ => rfl⟩
  have b' : ¬ (d36 1 j I).toInt = 0 := fun z => b (eq_t.mpr (by rw [z]; rfl))
  rw [if_neg b, rc]
  unfold d0
  by_cases l : d36 1 j I ≤ d36 1 i I
  · rw [if_pos l]
    rw [le_t] at l
    by_cases e : d36 1 i I = d36 1 j I
    · rw [if_pos e, if_pos rfl]
      exact ⟨fun _ z => by rw [e] at z; omega, fun _ => rfl⟩
    · have e' : ¬ (d36 1 i I).toInt = (d36 1 j I).toInt := fun z => e (eq_t.mpr z)
      rw [if_neg e, if_neg one0]
      by_cases w0 : 0 ≤ w
      · rw [if_pos w0]
        by_cases w1 : w = 0
        · rw [if_pos w1, if_neg (show ¬ (0 : Int32) = 1 by decide)]
          exact ⟨fun _ z => by omega, fun _ => rfl⟩
        · rw [if_neg w1, if_pos rfl]
          exact ⟨fun z => absurd z one0, fun z => absurd ⟨⟨by omega, by omega⟩, Or.inl ⟨by omega, by omega⟩⟩ z⟩
      · rw [if_neg w0, if_neg (show ¬ (-1 : Int32) = 1 by decide)]
        exact ⟨fun _ z => by omega, fun _ => rfl⟩
  · rw [if_neg l, if_neg (show ¬ (-1 : Int32) = 0 by decide)]
    rw [le_t] at l
    by_cases w0 : 0 ≤ w
    · rw [if_pos w0]
      by_cases w1 : w = 0
      · rw [if_pos w1, if_neg (show ¬ (0 : Int32) = -1 by decide)]
        exact ⟨fun _ z => by omega, fun _ => rfl⟩
      · rw [if_neg w1, if_neg (show ¬ (1 : Int32) = -1 by decide)]
        exact ⟨fun _ z => by omega, fun _ => rfl⟩
    · rw [if_neg w0, if_pos rfl]
      exact ⟨fun z => absurd z one0, fun z => absurd ⟨⟨by omega, by omega⟩, Or.inr ⟨by omega, by omega⟩⟩ z⟩
def lgS (J Y : jI) : Prop := Y 31 0 3 = J 31 0 3 ∧ Y 33 = J 33 ∧ Y 32 = J 32
theorem lgS_u {J Y : jI} {v : Int32} (h : lgS J Y) : lgS J (jup Y 31 0 10 v) := ⟨h.1, (jup_g (by decide)).trans h.2.1, (jup_g (by decide)).trans h.2.2⟩
theorem lgr_l {I J : jI} {m : Nat} {i : Int32} (hG : gG aGI I) (c : cur I J m) (i0 : 0 ≤ i.toInt) (hi : i.toNatClampNeg < m) : ∀ (N F F' : Nat) (x y z : Int32) (Y : jI), z.toInt + (N : Int) = (I 4 1 6).toInt → 0 ≤ z.toInt → N < F → N < F' → lgS J Y → ∃ r s T, d92_23 i I F x y z = some (s, r) ∧ d182_22 i F' x z Y = some (s, T) ∧ lgS J T
  | _, 0, _, _, _, _, _, _, _, h, _, _ => absurd h (by omega)
  | _, _, 0, _, _, _, _, _, _, _, h, _ => absurd h (by omega)
  | 0, F + 1, F' + 1, x, y, z, Y, hz, h0, _, _, hY => by
    have c3 : Y 31 0 3 = I 4 1 6 := hY.1.trans c.1.1.1
    rw [d92_23, d182_22, c3, if_pos (show I 4 1 6 ≤ z by rw [le_t]; omega), if_pos (show I 4 1 6 ≤ z by rw [le_t]; omega)]
    exact ⟨_, _, _, rfl, rfl, hY⟩
  | N + 1, F + 1, F' + 1, x, y, z, Y, hz, h0, hF, hF', hY => by
    have c3 : Y 31 0 3 = I 4 1 6 := hY.1.trans c.1.1.1
    have hp := gi_packets hG
    have e := i32_inc (x := z) (by omega)
    obtain ⟨hj, hj5, hm0⟩ := RD_hi c (i := z) ⟨h0, by omega⟩
    have gi := got_g c hi
    have gj := got_g c hj
    rw [← got_cm c i0 hi] at gi
    rw [← got_cm c h0 hj] at gj
    have lb := lgr_b hG c i0 hi h0 hj
    have z0 : (0 : Int32).toInt = 0 := rfl
    have next : ∀ x y Y, lgS J Y → ∃ r s T, d92_23 i I F x y (z + 1) = some (s, r) ∧ d182_22 i F' x (z + 1) Y = some (s, T) ∧ lgS J T := fun x y Y hY => lgr_l hG c i0 hi N F F' x y (z + 1) Y (by omega) (by omega) (by omega) (by omega) hY
    have az : x + 0 = x := Int32.add_zero x
    rw [d92_23, d182_22, c3, if_neg (show ¬ I 4 1 6 ≤ z by rw [le_t]; omega), if_neg (show ¬ I 4 1 6 ≤ z by rw [le_t]; omega), d155_x hY.2.1 hY.2.2, d155_x hY.2.1 hY.2.2, d180_x hY.2.1 hY.2.2, az]
    have no : d39 1 i z I = 0 → ∃ r s T, (if d39 1 i z I = 0 then d92_23 i I F x y (z + 1) else if y = -9 then d92_23 i I F (x + 1) (6 * i + z) (z + 1) else d92_23 i I F (x + 1) y (z + 1)) = some (s, r) ∧ d182_22 i F' x (z + 1) (jup Y 31 0 10 (Y 31 0 10)) = some (s, T) ∧ lgS J T := fun h => by
      rw [if_pos h]
      exact next x y _ (lgS_u hY)
    have yes : ¬ d39 1 i z I = 0 → ∃ r s T, (if d39 1 i z I = 0 then d92_23 i I F x y (z + 1) else if y = -9 then d92_23 i I F (x + 1) (6 * i + z) (z + 1) else d92_23 i I F (x + 1) y (z + 1)) = some (s, r) ∧ (if x = 0 then d182_22 i F' (x + 1) (z + 1) (jup Y 31 0 10 (6 * i + z)) else d182_22 i F' (x + 1) (z + 1) (jup Y 31 0 10 (Y 31 0 10))) = some (s, T) ∧ lgS J T := fun h => by
      rw [if_neg h]
      by_cases a : y = -9
      · rw [if_pos a]
        by_cases b : x = 0
        · rw [if_pos b]; exact next _ _ _ (lgS_u hY)
        · rw [if_neg b]; exact next _ _ _ (lgS_u hY)
      · rw [if_neg a]
        by_cases b : x = 0
        · rw [if_pos b]; exact next _ _ _ (lgS_u hY)
        · rw [if_neg b]; exact next _ _ _ (lgS_u hY)
    have es : (d155 0 i J - d155 0 z J).toInt = (d155 0 i J).toInt - (d155 0 z J).toInt := i32_sub (by omega)
    by_cases a : d155 0 i J ≤ 0
    · rw [if_pos a]
      rw [le_t, z0] at a
      exact no (lb.mpr (fun w => by omega))
    rw [if_neg a]
    rw [le_t, z0] at a
    by_cases b : d155 0 z J ≤ 0
    · rw [if_pos b]
      rw [le_t, z0] at b
      exact no (lb.mpr (fun w => by omega))
    rw [if_neg b]
    rw [le_t, z0] at b
    by_cases d : d155 0 i J - d155 0 z J ≤ 0
    · rw [if_pos d]
      rw [le_t, z0, es] at d
      by_cases f : 0 ≤ d155 0 i J - d155 0 z J
      · rw [if_pos f]
        rw [le_t, z0, es] at f
        exact no (lb.mpr (fun w => by omega))
      · rw [if_neg f]
        rw [le_t, z0, es] at f
        by_cases g : 0 ≤ d180 i z J
        · rw [if_pos g]
          rw [le_t, z0] at g
          exact no (lb.mpr (fun w => by omega))
        · rw [if_neg g]
          rw [le_t, z0] at g
          exact yes (fun w => lb.mp w ⟨⟨by omega, by omega⟩, Or.inr ⟨by omega, by omega⟩⟩)
    · rw [if_neg d]
      rw [le_t, z0, es] at d
      by_cases g : d180 i z J ≤ 0
      · rw [if_pos g]
        rw [le_t, z0] at g
        exact no (lb.mpr (fun w => by omega))
      · rw [if_neg g]
        rw [le_t, z0] at g
        exact yes (fun w => lb.mp w ⟨⟨by omega, by omega⟩, Or.inl ⟨by omega, by omega⟩⟩)
theorem lgr_o {I J : jI} {m : Nat} (hG : gG aGI I) (c : cur I J m) : ∀ (N F F' : Nat) (x y z : Int32) (Y : jI), z.toInt + (N : Int) = (I 4 1 6).toInt → 0 ≤ z.toInt → N < F → N < F' → lgS J Y → ∃ r s T, d92_7 I F x y z = some (s, r) ∧ d182_10 F' x z Y = some (s, T)
  | _, 0, _, _, _, _, _, _, _, h, _, _ => absurd h (by omega)
  | _, _, 0, _, _, _, _, _, _, _, h, _ => absurd h (by omega)
  | 0, F + 1, F' + 1, x, y, z, Y, hz, h0, _, _, hY => by
    have c3 : Y 31 0 3 = I 4 1 6 := hY.1.trans c.1.1.1
    rw [d92_7, d182_10, c3, if_pos (show I 4 1 6 ≤ z by rw [le_t]; omega), if_pos (show I 4 1 6 ≤ z by rw [le_t]; omega)]
    exact ⟨_, _, _, rfl, rfl⟩
  | N + 1, F + 1, F' + 1, x, y, z, Y, hz, h0, hF, hF', hY => by
    have c3 : Y 31 0 3 = I 4 1 6 := hY.1.trans c.1.1.1
    have hp := gi_packets hG
    have e := i32_inc (x := z) (by omega)
    obtain ⟨hj, hj5, hm0⟩ := RD_hi c (i := z) ⟨h0, by omega⟩
    obtain ⟨r, s, T, t1, t2, t3⟩ := lgr_l hG c h0 hj N 70 70 x y (z + 1) Y (by omega) (by omega) (by omega) (by omega) hY
    rw [d92_7, d182_10, c3, if_neg (show ¬ I 4 1 6 ≤ z by rw [le_t]; omega), if_neg (show ¬ I 4 1 6 ≤ z by rw [le_t]; omega), t1, t2]
    dsimp only [Option.bind_some]
    exact lgr_o hG c N F F' s r (z + 1) T (by omega) (by omega) (by omega) (by omega) t3
theorem larger_an {I J : jI} (hG : gG aGI I) (q : RD2 I J) : ∃ r r', d92 I = some r ∧ d182 J = some r' ∧ r.1 = r'.1 := by
  have c := RD_cur hG q
  have hp := gi_packets hG
  have np := cl_t hp.1
  obtain ⟨r, s, T, t1, t2⟩ := lgr_o hG c (I 4 1 6).toNatClampNeg 70 70 0 (-9) 0 (jup J 31 0 10 (-9)) (by show (0 : Int) + _ = _; omega) (by decide) (by omega) (by omega) (lgS_u ⟨rfl, rfl, rfl⟩)
  unfold d92 d182
  rw [t1, t2]
  exact ⟨_, _, rfl, rfl, rfl⟩
theorem gra_l {I J : jI} {i n v : Int32} (h : J 33 0 i.toNatClampNeg = I 18 1 i.toNatClampNeg) : ∀ (N F F' : Nat) (x z : Int32), z.toInt + (N : Int) = 10 → 0 ≤ z.toInt → N < F → N < F' → ∃ r, d101_41 i n v I F x z = some r ∧ d197_40 i n v J F' x z = some r
  | _, 0, _, _, _, _, _, h, _ => absurd h (by omega)
  | _, _, 0, _, _, _, _, _, h => absurd h (by omega)
  | 0, F + 1, F' + 1, x, z, hz, h0, _, _ => by
    rw [d101_41, d197_40, if_pos (show (9 : Int32) < z by rw [lt_t]; show (9 : Int) < _; omega), if_pos (show (10 : Int32) ≤ z by rw [le_t]; show (10 : Int) ≤ _; omega)]
    exact ⟨_, rfl, rfl⟩
  | N + 1, F + 1, F' + 1, x, z, hz, h0, hF, hF' => by
    have e := i32_inc (x := z) (by omega)
    rw [d101_41, d197_40, if_neg (show ¬ (9 : Int32) < z by rw [lt_t]; show ¬ (9 : Int) < _; omega), if_neg (show ¬ (10 : Int32) ≤ z by rw [le_t]; show ¬ (10 : Int) ≤ _; omega), h, got_c, got_m]
    by_cases g : n * gotS (I 18 1 i.toNatClampNeg) z = v
    · rw [if_pos g, if_pos g]
      exact gra_l h N F F' _ (z + 1) (by omega) (by omega) (by omega) (by omega)
    · rw [if_neg g, if_neg g, Int32.or_zero]
      exact gra_l h N F F' _ (z + 1) (by omega) (by omega) (by omega) (by omega)
theorem grams_an {I J : jI} (i n v : Int32) (hG : gG aGI I) (q : RD2 I J) : ∃ r r', d101 i n v I = some r ∧ d197 i n v J = some r' ∧ r = r' := by
  have c := RD_cur hG q
  have hp := gi_packets hG
  have c3 : J 31 0 3 = I 4 1 6 := c.1.1.1
  have z1 : (1 : Int32).toInt = 1 := rfl
  have z40 : (40 : Int32).toInt = 40 := rfl
  have z360 : (360 : Int32).toInt = 360 := rfl
  unfold d101 d197
  rw [has_c, isP_m (by rw [c3]; exact hp), c3, in_i, in_i]
  by_cases h1 : 0 ≤ i.toInt ∧ i.toInt < (I 4 1 6).toInt
  · rw [if_pos h1, if_neg one0, if_neg one0]
    obtain ⟨hi, hi5, hm0⟩ := RD_hi c h1
    by_cases h2 : 1 ≤ n.toInt ∧ n.toInt ≤ 40
    · rw [if_neg (show ¬ n < 1 by rw [lt_t, z1]; omega), if_neg (show ¬ (40 : Int32) < n by rw [lt_t, z40]; omega), if_pos (show (1 : Int64).toInt ≤ n.toInt ∧ n.toInt ≤ (40 : Int64).toInt from h2), if_neg one0]
      by_cases h3 : 0 ≤ v.toInt ∧ v.toInt ≤ 360
      · rw [if_neg (show ¬ v < 0 by rw [lt0_t]; omega), if_pos (show v ≤ 360 by rw [le_t, z360]; exact h3.2), if_pos (show (0 : Int64).toInt ≤ v.toInt ∧ v.toInt ≤ (360 : Int64).toInt from h3), if_neg one0]
        obtain ⟨r, e1, e2⟩ := gra_l (I := I) (J := J) (n := n) (v := v) (c.1.2.2.1 _ hi).2.1 9 70 70 0 1 (by decide) (by decide) (by decide) (by decide)
        rw [e1, e2]
        exact ⟨_, _, rfl, rfl, rfl⟩
      · rw [if_neg (show ¬ ((0 : Int64).toInt ≤ v.toInt ∧ v.toInt ≤ (360 : Int64).toInt) from h3), if_pos rfl]
        by_cases h4 : v < 0
        · rw [if_pos h4]
          exact ⟨_, _, rfl, rfl, rfl⟩
        · rw [if_neg h4, if_neg (show ¬ v ≤ 360 from fun z => by rw [le_t, z360] at z; rw [lt0_t] at h4; exact h3 ⟨by omega, z⟩)]
          exact ⟨_, _, rfl, rfl, rfl⟩
    · rw [if_neg (show ¬ ((1 : Int64).toInt ≤ n.toInt ∧ n.toInt ≤ (40 : Int64).toInt) from h2), if_pos rfl]
      by_cases h4 : n < 1
      · rw [if_pos h4]
        exact ⟨_, _, rfl, rfl, rfl⟩
      · rw [if_neg h4, if_pos (show (40 : Int32) < n by rw [lt_t, z40]; rw [lt_t, z1] at h4; omega)]
        exact ⟨_, _, rfl, rfl, rfl⟩
  · rw [if_neg h1, if_pos rfl, if_pos rfl]
    exact ⟨_, _, rfl, rfl, rfl⟩
