/-! looks -/
theorem nest {P Q : Prop} [Decidable P] [Decidable Q] {A : Type} {a b c e : A} : (if P then (if P then a else (if Q then a else b)) else (if Q then (if P then a else (if Q then a else b)) else (if P then c else (if Q then c else e)))) = if P then a else if Q then a else e := by
  by_cases p : P
  · rw [if_pos p, if_pos p, if_pos p]
  · rw [if_neg p, if_neg p]
    by_cases q : Q
    · rw [if_pos q, if_neg p, if_pos q, if_pos q]
    · rw [if_neg q, if_neg p, if_neg q, if_neg p, if_neg q]
def lkC (x y : Int32) : Prop := (x = 1000000 ∧ y = 99999) ∨ (x = y ∧ 0 ≤ x.toInt ∧ x.toInt ≤ 99)
def lkS (x y : Int32) : Prop := (x = 1000000 ∧ y = 99999) ∨ (x = y ∧ 0 ≤ x.toInt ∧ x.toInt ≤ 200)
theorem mul_c {c k : Int32} (hc : 0 ≤ c.toInt ∧ c.toInt ≤ 9) (hk : 0 ≤ k.toInt ∧ k.toInt ≤ 6) : 0 ≤ (c * k).toInt ∧ (c * k).toInt ≤ 54 := by
  have h1 : 0 ≤ c.toInt * k.toInt := Int.mul_nonneg hc.1 hk.1
  have h2 : c.toInt * k.toInt ≤ 9 * 6 := Int.mul_le_mul hc.2 hk.2 hk.1 (by decide)
  rw [i32_mul (by omega)]
  omega
theorem lks_l {I J : jI} {m : Nat} {c v : Int32} (hG : gG aGI I) (cu : cur I J m) (hc : 0 ≤ c.toInt ∧ c.toInt ≤ 9) : ∀ (N F F' : Nat) (b x y p q z : Int32), z.toInt + (N : Int) = (I 4 1 6).toInt → 0 ≤ z.toInt → N < F → N < F' → lkS x p → lkC y q → ∃ r t s, d98_50 c v I F b x y z = some (r, t) ∧ d192_50 c v J F' p b q z = some (s, r)
  | _, 0, _, _, _, _, _, _, _, _, _, h, _, _, _ => absurd h (by omega)
  | _, _, 0, _, _, _, _, _, _, _, _, _, h, _, _ => absurd h (by omega)
  | 0, F + 1, F' + 1, b, x, y, p, q, z, hz, h0, _, _, _, _ => by
    have c3 : J 31 0 3 = I 4 1 6 := cu.1.1.1
    rw [d98_50, d192_50, c3, if_pos (show I 4 1 6 ≤ z by rw [le_t]; omega), if_pos (show I 4 1 6 ≤ z by rw [le_t]; omega)]
    exact ⟨_, _, _, rfl, rfl⟩
  | N + 1, F + 1, F' + 1, b, x, y, p, q, z, hz, h0, hF, hF', hS, hC => by
    have c3 : J 31 0 3 = I 4 1 6 := cu.1.1.1
    have hp := gi_packets hG
    have e := i32_inc (x := z) (by omega)
    obtain ⟨hi, hi5, hm0⟩ := RD_hi cu (i := z) ⟨h0, by omega⟩
    have cb := cost_b cu hi
    have mb := mul_c hc (k := z + 1) ⟨by omega, by omega⟩
    have cM : (99999 : Int32).toInt = 99999 := rfl
    have cU : (1000000 : Int32).toInt = 1000000 := rfl
    have key : ∀ y q, lkC y q → ∃ r t s, (if x ≤ y + c * (z + 1) then d98_50 c v I F b x y (z + 1) else d98_50 c v I F (z + 1) (y + c * (z + 1)) y (z + 1)) = some (r, t) ∧ (if 99999 ≤ q then d192_50 c v J F' p b q (z + 1) else if p ≤ c * (z + 1) + q then d192_50 c v J F' p b q (z + 1) else d192_50 c v J F' (c * (z + 1) + q) (z + 1) q (z + 1)) = some (s, r) := by
      intro y q hC
      rcases hC with ⟨h1, h2⟩ | ⟨h1, h2, h3⟩
      · have ey : (y + c * (z + 1)).toInt = 1000000 + (c * (z + 1)).toInt := by rw [h1, i32_add (by rw [cU]; omega), cU]
        have hx : x.toInt ≤ 1000000 := by
          rcases hS with ⟨w, -⟩ | ⟨-, -, w⟩
          · rw [w, cU]; omega
          · omega
        rw [if_pos (show x ≤ y + c * (z + 1) by rw [le_t]; omega), if_pos (show (99999 : Int32) ≤ q by rw [h2]; decide)]
        exact lks_l hG cu hc N F F' b x y p q (z + 1) (by omega) (by omega) (by omega) (by omega) hS (Or.inl ⟨h1, h2⟩)
      · subst h1
        have ey : (y + c * (z + 1)).toInt = y.toInt + (c * (z + 1)).toInt := i32_add (by omega)
        rw [if_neg (show ¬ (99999 : Int32) ≤ y by rw [le_t, cM]; omega), Int32.add_comm (c * (z + 1)) y]
        rcases hS with ⟨w1, w2⟩ | ⟨w1, w2, w3⟩
        · rw [if_neg (show ¬ x ≤ y + c * (z + 1) by rw [le_t, w1, cU]; omega), if_neg (show ¬ p ≤ y + c * (z + 1) by rw [le_t, w2, cM]; omega)]
          exact lks_l hG cu hc N F F' _ _ y _ y (z + 1) (by omega) (by omega) (by omega) (by omega) (Or.inr ⟨rfl, by omega, by omega⟩) (Or.inr ⟨rfl, h2, h3⟩)
        · subst w1
          by_cases l : x ≤ y + c * (z + 1)
          · rw [if_pos l, if_pos l]
            exact lks_l hG cu hc N F F' _ _ y _ y (z + 1) (by omega) (by omega) (by omega) (by omega) (Or.inr ⟨rfl, w2, w3⟩) (Or.inr ⟨rfl, h2, h3⟩)
          · rw [if_neg l, if_neg l]
            exact lks_l hG cu hc N F F' _ _ y _ y (z + 1) (by omega) (by omega) (by omega) (by omega) (Or.inr ⟨rfl, by omega, by omega⟩) (Or.inr ⟨rfl, h2, h3⟩)
    rw [d98_50, d192_50, c3, if_neg (show ¬ I 4 1 6 ≤ z by rw [le_t]; omega), if_neg (show ¬ I 4 1 6 ≤ z by rw [le_t]; omega), got_cm cu h0 hi, cost_cm hG cu h0 hi, nest, nest]
    by_cases g : d36 1 z I < v
    · rw [if_pos g, if_pos g]
      exact key y q hC
    · rw [if_neg g, if_neg g]
      have cmp : (d35 1 z 1 I < y) ↔ ¬ (q ≤ d35 1 z 1 I) := by
        rw [lt_t, le_t]
        rcases hC with ⟨h1, h2⟩ | ⟨h1, h2, h3⟩
        · rw [h1, h2, cU, cM]; omega
        · rw [h1]; omega
      by_cases l : q ≤ d35 1 z 1 I
      · rw [if_pos l, if_neg (fun w => cmp.mp w l)]
        exact key y q hC
      · rw [if_neg l, if_pos (cmp.mpr l)]
        exact key _ _ (Or.inr ⟨rfl, cb.1, cb.2⟩)
theorem looks_an {I J : jI} (c v : Int32) (hG : gG aGI I) (q : RD2 I J) : ∃ r r', d98 c v I = some r ∧ d192 c v J = some r' ∧ r.1 = r'.1 := by
  have cu := RD_cur hG q
  have hp := gi_packets hG
  have c3 : J 31 0 3 = I 4 1 6 := cu.1.1.1
  have z9 : (9 : Int32).toInt = 9 := rfl
  have z1 : (1 : Int32).toInt = 1 := rfl
  unfold d98 d192
  rw [in_i, in_i, c3]
  by_cases h1 : 0 ≤ c.toInt ∧ c.toInt ≤ 9
  · rw [if_neg (show ¬ c < 0 by rw [lt0_t]; omega), if_neg (show ¬ (9 : Int32) < c by rw [lt_t, z9]; omega), if_pos (show (0 : Int64).toInt ≤ c.toInt ∧ c.toInt ≤ (9 : Int64).toInt from h1), if_neg one0]
    by_cases h2 : 1 ≤ v.toInt ∧ v.toInt ≤ 9
    · rw [if_neg (show ¬ v < 1 by rw [lt_t, z1]; omega), if_pos (show v ≤ 9 by rw [le_t, z9]; exact h2.2), if_pos (show (1 : Int64).toInt ≤ v.toInt ∧ v.toInt ≤ (9 : Int64).toInt from h2), if_neg one0]
      by_cases h3 : I 4 1 6 = 0
      · rw [if_pos h3, if_pos h3]
        exact ⟨_, _, rfl, rfl, rfl⟩
      · rw [if_neg h3, if_neg h3]
        have np := cl_t hp.1
        obtain ⟨r, t, s, e1, e2⟩ := lks_l (v := v) hG cu h1 (I 4 1 6).toNatClampNeg 70 70 (-9) 1000000 1000000 99999 99999 0 (by show (0 : Int) + _ = _; omega) (by decide) (by omega) (by omega) (Or.inl ⟨rfl, rfl⟩) (Or.inl ⟨rfl, rfl⟩)
        rw [e1, e2]
        dsimp only [Option.bind_some]
        by_cases h9 : r = -9
        · rw [if_pos h9, if_pos h9]
          exact ⟨_, _, rfl, rfl, h9⟩
        · rw [if_neg h9, if_neg h9]
          exact ⟨_, _, rfl, rfl, rfl⟩
    · rw [if_neg (show ¬ ((1 : Int64).toInt ≤ v.toInt ∧ v.toInt ≤ (9 : Int64).toInt) from h2), if_pos rfl]
      by_cases h4 : v < 1
      · rw [if_pos h4]
        exact ⟨_, _, rfl, rfl, rfl⟩
      · rw [if_neg h4, if_neg (show ¬ v ≤ 9 from fun z => by rw [le_t, z9] at z; rw [lt_t, z1] at h4; exact h2 ⟨by omega, z⟩)]
        exact ⟨_, _, rfl, rfl, rfl⟩
  · rw [if_neg (show ¬ ((0 : Int64).toInt ≤ c.toInt ∧ c.toInt ≤ (9 : Int64).toInt) from h1), if_pos rfl]
    by_cases h4 : c < 0
    · rw [if_pos h4]
      exact ⟨_, _, rfl, rfl, rfl⟩
    · rw [if_neg h4, if_pos (show (9 : Int32) < c by rw [lt_t, z9]; rw [lt0_t] at h4; omega)]
      exact ⟨_, _, rfl, rfl, rfl⟩
