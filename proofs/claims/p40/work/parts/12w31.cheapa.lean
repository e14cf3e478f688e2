/-! what is asked, alike: cheapest, larger -/
noncomputable def eqS (J : jI) (b : Int32) : Nat → Int32
  | 0 => 0
  | n + 1 => eqS J b n ||| (if 0 < (d155 0 (nI n) J).toInt ∧ (d180 (nI n) b J).toInt = 0 then 1 <<< ((nI n) &&& 31) else 0)
theorem eqS_0 {J : jI} {b : Int32} : ∀ n, (∀ k, k < n → 0 < (d155 0 (nI k) J).toInt → ¬ (d180 (nI k) b J).toInt = 0) → eqS J b n = 0
  | 0, _ => rfl
  | n + 1, h => by
    show eqS J b n ||| _ = 0
    rw [eqS_0 n (fun k hk => h k (by omega)), if_neg (fun z => h n (by omega) z.1 z.2)]
    rfl
/-- the ratios' order: a cost of 1 against GRAMS -/
theorem rt_v {I J : jI} {m : Nat} {i j : Int32} (hG : gG aGI I) (c : cur I J m) (i0 : 0 ≤ i.toInt) (hi : i.toNatClampNeg < m) (j0 : 0 ≤ j.toInt) (hj : j.toNatClampNeg < m) : (d180 i j J).toInt = (d35 1 i 1 I).toInt * (d36 1 j I).toInt - (d35 1 j 1 I).toInt * (d36 1 i I).toInt := by
  have a := mul_b (cost_b c hi) (got_g c hj)
  have b := mul_b (cost_b c hj) (got_g c hi)
  have ci := cost_b c hi
  have cj := cost_b c hj
  have gi := got_g c hi
  have gj := got_g c hj
  have a1 : (d35 1 i 1 I).toInt * (d36 1 j I).toInt ≤ 99 * 9 := Int.mul_le_mul ci.2 gj.2 gj.1 (by decide)
  have a2 : 0 ≤ (d35 1 i 1 I).toInt * (d36 1 j I).toInt := Int.mul_nonneg ci.1 gj.1
  have b1 : (d35 1 j 1 I).toInt * (d36 1 i I).toInt ≤ 99 * 9 := Int.mul_le_mul cj.2 gi.2 gi.1 (by decide)
  have b2 : 0 ≤ (d35 1 j 1 I).toInt * (d36 1 i I).toInt := Int.mul_nonneg cj.1 gi.1
  unfold d180
  rw [cost_cm hG c i0 hi, cost_cm hG c j0 hj, got_cm c i0 hi, got_cm c j0 hj, i32_sub (by omega), i32_mul (by omega), i32_mul (by omega)]
theorem rt_tr {ck gk cx gx cz gz : Int} (hk : 0 < gk) (hx : 0 < gx) (hz : 0 < gz) (h1 : 0 ≤ ck * gx - cx * gk) (h2 : cz * gx - cx * gz < 0) : ¬ ck * gz - cz * gk = 0 := by
  intro h
  have e1 : cx * gk * gz ≤ ck * gx * gz := Int.mul_le_mul_of_nonneg_right (by omega) (by omega)
  have e2 : cz * gx * gk < cx * gz * gk := Int.mul_lt_mul_of_pos_right (by omega) hk
  have e3 : ck * gz * gx = cz * gk * gx := by rw [show ck * gz = cz * gk by omega]
  have r1 : cx * gk * gz = cx * gz * gk := by rw [Int.mul_assoc, Int.mul_comm gk, ← Int.mul_assoc]
  have r2 : ck * gx * gz = ck * gz * gx := by rw [Int.mul_assoc, Int.mul_comm gx, ← Int.mul_assoc]
  have r3 : cz * gx * gk = cz * gk * gx := by rw [Int.mul_assoc, Int.mul_comm gx, ← Int.mul_assoc]
  omega
theorem rt_ge {ck gk cx gx cz gz : Int} (hk : 0 < gk) (hx : 0 < gx) (hz : 0 < gz) (h1 : 0 ≤ ck * gx - cx * gk) (h2 : cz * gx - cx * gz < 0) : 0 ≤ ck * gz - cz * gk := by
  refine Int.not_lt.mp (fun h => ?_)
  have e1 : cx * gk * gz ≤ ck * gx * gz := Int.mul_le_mul_of_nonneg_right (by omega) (by omega)
  have e2 : cz * gx * gk < cx * gz * gk := Int.mul_lt_mul_of_pos_right (by omega) hk
  have e3 : ck * gz * gx < cz * gk * gx := Int.mul_lt_mul_of_pos_right (by omega) hx
  have r1 : cx * gk * gz = cx * gz * gk := by rw [Int.mul_assoc, Int.mul_comm gk, ← Int.mul_assoc]
  have r2 : ck * gx * gz = ck * gz * gx := by rw [Int.mul_assoc, Int.mul_comm gx, ← Int.mul_assoc]
  have r3 : cz * gx * gk = cz * gk * gx := by rw [Int.mul_assoc, Int.mul_comm gx, ← Int.mul_assoc]
  omega
noncomputable def chI (J : jI) (m : Nat) (n : Nat) (x y : Int32) : Prop := (x = -9 ∧ ∀ k, k < n → (d155 0 (nI k) J).toInt = 0) ∨ (∃ b, x = nI b ∧ b < m ∧ 0 < (d155 0 (nI b) J).toInt ∧ y = eqS J (nI b) n ∧ ∀ k, k < n → 0 < (d155 0 (nI k) J).toInt → 0 ≤ (d180 (nI k) (nI b) J).toInt)
theorem chp_a {I J : jI} {m : Nat} (hG : gG aGI I) (c : cur I J m) : ∀ (N n F F' : Nat) (x y : Int32), n + N = m → N < F → N < F' → chI J m n x y → ∃ r b, d91_20 I F x y (nI n) = some (b, r) ∧ d181_15 J F' x (nI n) = some b ∧ chI J m m b r
  | _, _, 0, _, _, _, _, h, _, _ => absurd h (by omega)
  | _, _, _, 0, _, _, _, _, h, _ => absurd h (by omega)
  | 0, n, F + 1, F' + 1, x, y, hz, _, _, hx => by
    obtain ⟨e6, e3, m6⟩ := cur_nI c
    have : n = m := by omega
    subst this
    rw [d91_20, d181_15, e3, e6, if_pos (show nI n ≤ nI n by rw [le_t]; omega), if_pos (show nI n ≤ nI n by rw [le_t]; omega)]
    exact ⟨_, _, rfl, rfl, hx⟩
  | N + 1, n, F + 1, F' + 1, x, y, hz, hF, hF', hx => by
    obtain ⟨e6, e3, m6⟩ := cur_nI c
    have a1 : (nI n).toInt = (n : Int) := nI_toInt (by omega)
    have a2 : (nI m).toInt = (m : Int) := nI_toInt (by omega)
    have n0 : ∀ k, k < m → 0 ≤ (nI k).toInt ∧ (nI k).toNatClampNeg < m := fun k hk => ⟨by have : (nI k).toInt = (k : Int) := nI_toInt (by omega); omega, by rw [nI_c (by omega)]; exact hk⟩
    have hi := n0 n (by omega)
    have gg := got_g c hi.2
    have z0 : (0 : Int32).toInt = 0 := rfl
    have next : ∀ x y, chI J m (n + 1) x y → ∃ r b, d91_20 I F x y (nI (n + 1)) = some (b, r) ∧ d181_15 J F' x (nI (n + 1)) = some b ∧ chI J m m b r := fun x y hx => chp_a hG c N (n + 1) F F' x y (by omega) (by omega) (by omega) hx
    have gJ := got_cm c hi.1 hi.2
    rw [d91_20, d181_15, e3, e6, if_neg (show ¬ nI m ≤ nI n by rw [le_t]; omega), if_neg (show ¬ nI m ≤ nI n by rw [le_t]; omega), gJ, nI_up (by omega)]
    by_cases g : d36 1 (nI n) I = 0
    · rw [if_pos g, if_pos (show d36 1 (nI n) I ≤ 0 by rw [g]; decide)]
      have g' : (d155 0 (nI n) J).toInt = 0 := by rw [gJ, g]; rfl
      refine next x y ?_
      rcases hx with ⟨h1, h2⟩ | ⟨b, h1, h2, h3, h4, h5⟩
      · refine Or.inl ⟨h1, fun k hk => ?_⟩
        by_cases e : k = n
        · rw [e]; exact g'
        · exact h2 k (by omega)
      · refine Or.inr ⟨b, h1, h2, h3, ?_, fun k hk => ?_⟩
        · show y = eqS J (nI b) n ||| _
          rw [if_neg (fun z => by omega), ← h4, Int32.or_zero]
        · by_cases e : k = n
          · rw [e]; intro w; omega
          · exact h5 k (by omega)
    · have gp : 0 < (d36 1 (nI n) I).toInt := by
        have : ¬ (d36 1 (nI n) I).toInt = 0 := fun w => g (eq_t.mpr (by rw [w]; rfl))
        omega
      have gp' : 0 < (d155 0 (nI n) J).toInt := by rw [gJ]; exact gp
      rw [if_neg g, if_neg (show ¬ d36 1 (nI n) I ≤ 0 by rw [le_t, z0]; omega)]
      have selfr : (d180 (nI n) (nI n) J).toInt = 0 := by rw [rt_v hG c hi.1 hi.2 hi.1 hi.2]; omega
      have fresh : (∀ k, k < n → 0 < (d155 0 (nI k) J).toInt → ¬ (d180 (nI k) (nI n) J).toInt = 0) → (∀ k, k < n → 0 < (d155 0 (nI k) J).toInt → 0 ≤ (d180 (nI k) (nI n) J).toInt) → chI J m (n + 1) (nI n) (1 <<< ((nI n) &&& 31)) := fun w1 w2 => by
        refine Or.inr ⟨n, rfl, by omega, gp', ?_, fun k hk => ?_⟩
        · show _ = eqS J (nI n) n ||| _
          rw [eqS_0 n w1, if_pos ⟨gp', selfr⟩, Int32.zero_or]
        · by_cases e : k = n
          · rw [e]; intro _; omega
          · exact w2 k (by omega)
      by_cases x9 : x = -9
      · rw [if_pos x9, if_pos x9]
        refine next _ _ ?_
        rcases hx with ⟨h1, h2⟩ | ⟨b, h1, h2, h3, h4, h5⟩
        · exact fresh (fun k hk w => by have := h2 k hk; omega) (fun k hk w => by have := h2 k hk; omega)
        · exfalso
          have : (nI b).toInt = (b : Int) := nI_toInt (by omega)
          rw [← h1, x9] at this
          have c9 : (-9 : Int32).toInt = -9 := rfl
          omega
      · rw [if_neg x9, if_neg x9]
        rcases hx with ⟨h1, -⟩ | ⟨b, h1, h2, h3, h4, h5⟩
        · exact absurd h1 x9
        subst h1
        have hb := n0 b h2
        have rc := rate_cm hG c hi.1 hi.2 hb.1 hb.2
        have gb : 0 < (d36 1 (nI b) I).toInt := by rw [← got_cm c hb.1 hb.2]; exact h3
        by_cases w : 0 ≤ (d180 (nI n) (nI b) J).toInt
        · rw [if_pos w] at rc
          rw [if_pos (show 0 ≤ d180 (nI n) (nI b) J by rw [le0_t]; exact w)]
          have up : ∀ k, k < n + 1 → 0 < (d155 0 (nI k) J).toInt → 0 ≤ (d180 (nI k) (nI b) J).toInt := fun k hk => by
            by_cases e : k = n
            · rw [e]; intro _; exact w
            · exact h5 k (by omega)
          by_cases w0 : (d180 (nI n) (nI b) J).toInt = 0
          · rw [if_pos w0] at rc
            rw [rc, if_pos (show (0 : Int32) ≤ 0 by decide), if_pos rfl]
            refine next _ _ (Or.inr ⟨b, rfl, h2, h3, ?_, up⟩)
            show _ = eqS J (nI b) n ||| _
            rw [if_pos ⟨gp', w0⟩, ← h4]
          · rw [if_neg w0] at rc
            rw [rc, if_pos (show (0 : Int32) ≤ 1 by decide), if_neg one0]
            refine next _ _ (Or.inr ⟨b, rfl, h2, h3, ?_, up⟩)
            show _ = eqS J (nI b) n ||| _
            rw [if_neg (fun z => w0 z.2), ← h4, Int32.or_zero]
        · rw [if_neg w] at rc
          rw [rc, if_neg (show ¬ (0 : Int32) ≤ -1 by decide), if_neg (show ¬ 0 ≤ d180 (nI n) (nI b) J by rw [le0_t]; exact w)]
          have rz := rt_v hG c hi.1 hi.2 hb.1 hb.2
          have st : ∀ k, k < n → 0 < (d155 0 (nI k) J).toInt → 0 < (d36 1 (nI k) I).toInt ∧ (d180 (nI k) (nI b) J).toInt = (d35 1 (nI k) 1 I).toInt * (d36 1 (nI b) I).toInt - (d35 1 (nI b) 1 I).toInt * (d36 1 (nI k) I).toInt ∧ (d180 (nI k) (nI n) J).toInt = (d35 1 (nI k) 1 I).toInt * (d36 1 (nI n) I).toInt - (d35 1 (nI n) 1 I).toInt * (d36 1 (nI k) I).toInt := fun k hk gk => by
            have hk' := n0 k (by omega)
            exact ⟨by rw [← got_cm c hk'.1 hk'.2]; exact gk, rt_v hG c hk'.1 hk'.2 hb.1 hb.2, rt_v hG c hk'.1 hk'.2 hi.1 hi.2⟩
          refine next _ _ (fresh (fun k hk gk => ?_) (fun k hk gk => ?_))
          · obtain ⟨s1, s2, s3⟩ := st k hk gk
            have u := h5 k hk gk
            rw [s3]
            exact rt_tr (cx := (d35 1 (nI b) 1 I).toInt) s1 gb gp (by omega) (by omega)
          · obtain ⟨s1, s2, s3⟩ := st k hk gk
            have u := h5 k hk gk
            rw [s3]
            exact rt_ge (cx := (d35 1 (nI b) 1 I).toInt) s1 gb gp (by omega) (by omega)
theorem chp_b {J : jI} {b : Int32} {m : Nat} (hm : m ≤ 6) (e3 : J 31 0 3 = nI m) : ∀ (N n F : Nat) (Y : jI), n + N = m → N < F → lgS J Y → Y 31 0 10 = eqS J b n → (∀ k, k < m → 0 ≤ (d155 0 (nI k) J).toInt) → ∃ r, d181_75 b F (nI n) Y = some r ∧ r 31 0 10 = eqS J b m
  | _, _, 0, _, _, h, _, _, _ => absurd h (by omega)
  | 0, n, F + 1, Y, hz, _, hY, h10, _ => by
    have : n = m := by omega
    subst this
    rw [d181_75, hY.1, e3, if_pos (show nI n ≤ nI n by rw [le_t]; omega)]
    exact ⟨_, rfl, h10⟩
  | N + 1, n, F + 1, Y, hz, hF, hY, h10, hg => by
    have a1 : (nI n).toInt = (n : Int) := nI_toInt (by omega)
    have a2 : (nI m).toInt = (m : Int) := nI_toInt (by omega)
    have z0 : (0 : Int32).toInt = 0 := rfl
    have g0 := hg n (by omega)
    have st : eqS J b (n + 1) = eqS J b n ||| (if 0 < (d155 0 (nI n) J).toInt ∧ (d180 (nI n) b J).toInt = 0 then 1 <<< ((nI n) &&& 31) else 0) := rfl
    rw [d181_75, hY.1, e3, if_neg (show ¬ nI m ≤ nI n by rw [le_t]; omega), d155_x hY.2.1 hY.2.2, d180_x hY.2.1 hY.2.2, nI_up (by omega)]
    by_cases g : d155 0 (nI n) J ≤ 0
    · rw [if_pos g]
      rw [le_t, z0] at g
      rw [if_neg (fun z => by omega)] at st
      exact chp_b hm e3 N (n + 1) F _ (by omega) (by omega) (lgS_u hY) (by rw [st, ← h10]; rfl) hg
    · rw [if_neg g]
      rw [le_t, z0] at g
      by_cases g2 : d180 (nI n) b J = 0
      · rw [if_pos g2]
        rw [if_pos ⟨by omega, by rw [g2]; rfl⟩] at st
        exact chp_b hm e3 N (n + 1) F _ (by omega) (by omega) (lgS_u hY) (by rw [st, ← h10]; rfl) hg
      · rw [if_neg g2]
        rw [if_neg (fun z => g2 (eq_t.mpr z.2))] at st
        exact chp_b hm e3 N (n + 1) F _ (by omega) (by omega) (lgS_u hY) (by rw [st, ← h10]; rfl) hg
theorem cheapest_as {I J : jI} (hG : gG aGI I) (q : RD2 I J) (hA : RAs I J) : ∃ r r', d91 I = some r ∧ d181 J = some r' ∧ RAs r.2 r'.2 := by
  have c := RD_cur hG q
  obtain ⟨e6, e3, m6⟩ := cur_nI c
  unfold d91 d181
  rw [c.1.1.1]
  by_cases h1 : I 4 1 6 = 0
  · rw [if_pos h1, if_pos h1]
    exact ⟨_, _, rfl, rfl, hA⟩
  · rw [if_neg h1, if_neg h1]
    obtain ⟨r, b, f1, f2, f3⟩ := chp_a hG c (mP I) 0 70 70 (-9) 0 (by omega) (by omega) (by omega) (Or.inl ⟨rfl, fun k hk => absurd hk (Nat.not_lt_zero _)⟩)
    have f1 : d91_20 I 70 (-9) 0 0 = some (b, r) := f1
    have f2 : d181_15 J 70 (-9) 0 = some b := f2
    rw [f1, f2]
    dsimp only [Option.bind_some]
    by_cases h9 : b = -9
    · rw [if_pos h9, if_pos h9]
      exact ⟨_, _, rfl, rfl, hA⟩
    · rw [if_neg h9, if_neg h9]
      rcases f3 with ⟨h, -⟩ | ⟨k, k1, k2, k3, k4, -⟩
      · exact absurd h h9
      obtain ⟨s, s1, s2⟩ := chp_b (b := b) m6 e3 (mP I) 0 70 (jup J 31 0 10 0) (by omega) (by omega) (lgS_u ⟨rfl, rfl, rfl⟩) rfl (fun k hk => by
        have kc : (nI k).toNatClampNeg = k := nI_c (by omega)
        have k0 : (nI k).toInt = (k : Int) := nI_toInt (by omega)
        rw [got_cm c (by omega) (by omega)]
        exact (got_g c (by omega)).1)
      have s1 : d181_75 b 70 0 (jup J 31 0 10 0) = some s := s1
      rw [s1]
      refine ⟨_, _, rfl, rfl, ?_⟩
      show s 31 0 10 = r
      rw [s2, k4, k1]
theorem lgr_2 {I J : jI} {m : Nat} {i : Int32} (hG : gG aGI I) (c : cur I J m) (i0 : 0 ≤ i.toInt) (hi : i.toNatClampNeg < m) : ∀ (N F F' : Nat) (x y z : Int32) (Y : jI), z.toInt + (N : Int) = (I 4 1 6).toInt → 0 ≤ z.toInt → N < F → N < F' → lgS J Y → Y 31 0 10 = y → (x = 0 ↔ y = -9) → (0 ≤ x.toInt ∧ x.toInt + (N : Int) ≤ 100) → ∃ r s T, d92_23 i I F x y z = some (s, r) ∧ d182_22 i F' x z Y = some (s, T) ∧ lgS J T ∧ T 31 0 10 = r ∧ (s = 0 ↔ r = -9) ∧ (0 ≤ s.toInt ∧ s.toInt ≤ x.toInt + (N : Int))
  | _, 0, _, _, _, _, _, _, _, h, _, _, _, _, _ => absurd h (by omega)
  | _, _, 0, _, _, _, _, _, _, _, h, _, _, _, _ => absurd h (by omega)
  | 0, F + 1, F' + 1, x, y, z, Y, hz, h0, _, _, hY, hy, hb, hx => by
    have c3 : Y 31 0 3 = I 4 1 6 := hY.1.trans c.1.1.1
    rw [d92_23, d182_22, c3, if_pos (show I 4 1 6 ≤ z by rw [le_t]; omega), if_pos (show I 4 1 6 ≤ z by rw [le_t]; omega)]
    exact ⟨_, _, _, rfl, rfl, hY, hy, hb, hx.1, by omega⟩
  | N + 1, F + 1, F' + 1, x, y, z, Y, hz, h0, hF, hF', hY, hy, hb, hx => by
    have c3 : Y 31 0 3 = I 4 1 6 := hY.1.trans c.1.1.1
    have hp := gi_packets hG
    have e := i32_inc (x := z) (by omega)
    have ex := i32_inc (x := x) (by omega)
    obtain ⟨hj, hj5, hm0⟩ := RD_hi c (i := z) ⟨h0, by omega⟩
    have gi := got_g c hi
    have gj := got_g c hj
    rw [← got_cm c i0 hi] at gi
    rw [← got_cm c h0 hj] at gj
    have lb := lgr_b hG c i0 hi h0 hj
    have z0 : (0 : Int32).toInt = 0 := rfl
    have c9 : (-9 : Int32).toInt = -9 := rfl
    have c6 : (6 : Int32).toInt = 6 := rfl
    have ni := cl_t i0
    have m6 := c.2.1.2
    have e6 : (6 * i + z).toInt = 6 * i.toInt + z.toInt := by
      have : (6 * i).toInt = 6 * i.toInt := by rw [i32_mul (by rw [c6]; omega), c6]
      rw [i32_add (by omega), this]
    have x1 : ¬ x + 1 = 0 := fun w => by rw [eq_t, ex, z0] at w; omega
    have n9 : ¬ 6 * i + z = -9 := fun w => by rw [eq_t, e6, c9] at w; omega
    have next : ∀ x' y Y, lgS J Y → Y 31 0 10 = y → (x' = 0 ↔ y = -9) → (0 ≤ x'.toInt ∧ x'.toInt ≤ x.toInt + 1) → ∃ r s T, d92_23 i I F x' y (z + 1) = some (s, r) ∧ d182_22 i F' x' (z + 1) Y = some (s, T) ∧ lgS J T ∧ T 31 0 10 = r ∧ (s = 0 ↔ r = -9) ∧ (0 ≤ s.toInt ∧ s.toInt ≤ x.toInt + ((N + 1 : Nat) : Int)) := fun x' y Y hY hy hb hx' => by
      obtain ⟨r, s, T, t1, t2, t3, t4, t5, t6⟩ := lgr_2 hG c i0 hi N F F' x' y (z + 1) Y (by omega) (by omega) (by omega) (by omega) hY hy hb (by omega)
      exact ⟨r, s, T, t1, t2, t3, t4, t5, t6.1, by omega⟩
    have az : x + 0 = x := Int32.add_zero x
    rw [d92_23, d182_22, c3, if_neg (show ¬ I 4 1 6 ≤ z by rw [le_t]; omega), if_neg (show ¬ I 4 1 6 ≤ z by rw [le_t]; omega), d155_x hY.2.1 hY.2.2, d155_x hY.2.1 hY.2.2, d180_x hY.2.1 hY.2.2, az]
    have no : d39 1 i z I = 0 → ∃ r s T, (if d39 1 i z I = 0 then d92_23 i I F x y (z + 1) else if y = -9 then d92_23 i I F (x + 1) (6 * i + z) (z + 1) else d92_23 i I F (x + 1) y (z + 1)) = some (s, r) ∧ d182_22 i F' x (z + 1) (jup Y 31 0 10 (Y 31 0 10)) = some (s, T) ∧ lgS J T ∧ T 31 0 10 = r ∧ (s = 0 ↔ r = -9) ∧ (0 ≤ s.toInt ∧ s.toInt ≤ x.toInt + ((N + 1 : Nat) : Int)) := fun h => by
      rw [if_pos h]
      exact next x y _ (lgS_u hY) hy hb ⟨hx.1, by omega⟩
    have yes : ¬ d39 1 i z I = 0 → ∃ r s T, (if d39 1 i z I = 0 then d92_23 i I F x y (z + 1) else if y = -9 then d92_23 i I F (x + 1) (6 * i + z) (z + 1) else d92_23 i I F (x + 1) y (z + 1)) = some (s, r) ∧ (if x = 0 then d182_22 i F' (x + 1) (z + 1) (jup Y 31 0 10 (6 * i + z)) else d182_22 i F' (x + 1) (z + 1) (jup Y 31 0 10 (Y 31 0 10))) = some (s, T) ∧ lgS J T ∧ T 31 0 10 = r ∧ (s = 0 ↔ r = -9) ∧ (0 ≤ s.toInt ∧ s.toInt ≤ x.toInt + ((N + 1 : Nat) : Int)) := fun h => by
      rw [if_neg h]
      by_cases b : x = 0
      · rw [if_pos b, if_pos (hb.mp b)]
        exact next _ _ _ (lgS_u hY) rfl ⟨fun w => absurd w x1, fun w => absurd w n9⟩ ⟨by omega, by omega⟩
      · have b' : ¬ y = -9 := fun w => b (hb.mpr w)
        rw [if_neg b, if_neg b']
        exact next _ _ _ (lgS_u hY) hy ⟨fun w => absurd w x1, fun w => absurd w b'⟩ ⟨by omega, by omega⟩
    have es : (d155 0 i J - d155 0 z J).toInt = (d155 0 i J).toInt - (d155 0 z J).toInt := i32_sub (by omega)
    by_cases a : d155 0 i J ≤ 0
    · rw [if_pos a]
      rw [le_t, z0] at a
      exact no (lb.mpr (fun w => by omega))
    rw [if_neg a]
    rw [le_t, z0] at a
    by_cases b : d155 0 z J ≤ 0
    · rw [if_pos b]
      rw [le_t, z0] at b
      exact no (lb.mpr (fun w => by omega))
    rw [if_neg b]
    rw [le_t, z0] at b
    by_cases d : d155 0 i J - d155 0 z J ≤ 0
    · rw [if_pos d]
      rw [le_t, z0, es] at d
      by_cases f : 0 ≤ d155 0 i J - d155 0 z J
      · rw [if_pos f]
        rw [le_t, z0, es] at f
        exact no (lb.mpr (fun w => by omega))
      · rw [if_neg f]
        rw [le_t, z0, es] at f
        by_cases g : 0 ≤ d180 i z J
        · rw [if_pos g]
          rw [le_t, z0] at g
          exact no (lb.mpr (fun w => by omega))
        · rw [if_neg g]
          rw [le_t, z0] at g
          exact yes (fun w => lb.mp w ⟨⟨by omega, by omega⟩, Or.inr ⟨by omega, by omega⟩⟩)
    · rw [if_neg d]
      rw [le_t, z0, es] at d
      by_cases g : d180 i z J ≤ 0
      · rw [if_pos g]
        rw [le_t, z0] at g
        exact no (lb.mpr (fun w => by omega))
      · rw [if_neg g]
        rw [le_t, z0] at g
        exact yes (fun w => lb.mp w ⟨⟨by omega, by omega⟩, Or.inl ⟨by omega, by omega⟩⟩)
theorem lgo_2 {I J : jI} {m : Nat} (hG : gG aGI I) (c : cur I J m) : ∀ (N F F' : Nat) (x y z : Int32) (Y : jI), z.toInt + (N : Int) = (I 4 1 6).toInt → 0 ≤ z.toInt → N < F → N < F' → lgS J Y → Y 31 0 10 = y → (x = 0 ↔ y = -9) → (0 ≤ x.toInt ∧ x.toInt ≤ 6 * z.toInt) → ∃ r s T, d92_7 I F x y z = some (s, r) ∧ d182_10 F' x z Y = some (s, T) ∧ T 31 0 10 = r
  | _, 0, _, _, _, _, _, _, _, h, _, _, _, _, _ => absurd h (by omega)
  | _, _, 0, _, _, _, _, _, _, _, h, _, _, _, _ => absurd h (by omega)
  | 0, F + 1, F' + 1, x, y, z, Y, hz, h0, _, _, hY, hy, _, _ => by
    have c3 : Y 31 0 3 = I 4 1 6 := hY.1.trans c.1.1.1
    rw [d92_7, d182_10, c3, if_pos (show I 4 1 6 ≤ z by rw [le_t]; omega), if_pos (show I 4 1 6 ≤ z by rw [le_t]; omega)]
    exact ⟨_, _, _, rfl, rfl, hy⟩
  | N + 1, F + 1, F' + 1, x, y, z, Y, hz, h0, hF, hF', hY, hy, hb, hx => by
    have c3 : Y 31 0 3 = I 4 1 6 := hY.1.trans c.1.1.1
    have hp := gi_packets hG
    have e := i32_inc (x := z) (by omega)
    obtain ⟨hj, hj5, hm0⟩ := RD_hi c (i := z) ⟨h0, by omega⟩
    obtain ⟨r, s, T, t1, t2, t3, t4, t5, t6⟩ := lgr_2 hG c h0 hj N 70 70 x y (z + 1) Y (by omega) (by omega) (by omega) (by omega) hY hy hb ⟨hx.1, by omega⟩
    rw [d92_7, d182_10, c3, if_neg (show ¬ I 4 1 6 ≤ z by rw [le_t]; omega), if_neg (show ¬ I 4 1 6 ≤ z by rw [le_t]; omega), t1, t2]
    dsimp only [Option.bind_some]
    exact lgo_2 hG c N F F' s r (z + 1) T (by omega) (by omega) (by omega) (by omega) t3 t4 t5 ⟨t6.1, by omega⟩
theorem larger_as {I J : jI} (hG : gG aGI I) (q : RD2 I J) : ∃ r r', d92 I = some r ∧ d182 J = some r' ∧ RAs r.2 r'.2 := by
  have c := RD_cur hG q
  have hp := gi_packets hG
  have np := cl_t hp.1
  obtain ⟨r, s, T, t1, t2, t3⟩ := lgo_2 hG c (I 4 1 6).toNatClampNeg 70 70 0 (-9) 0 (jup J 31 0 10 (-9)) (by show (0 : Int) + _ = _; omega) (by decide) (by omega) (by omega) (lgS_u ⟨rfl, rfl, rfl⟩) rfl ⟨fun _ => rfl, fun _ => rfl⟩ ⟨by decide, by decide⟩
  unfold d92 d182
  rw [t1, t2]
  exact ⟨_, _, rfl, rfl, t3⟩
