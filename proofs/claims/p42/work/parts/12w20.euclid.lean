section
/-! ratios: Euclid's steps, alike on both sides -/
theorem eq6 {x y : Int64} : x = y ↔ x.toInt = y.toInt := Int64.toInt_inj.symm
theorem cmp_0 {b : Int64} : lg_cmp b 0 = 0 ↔ b.toInt = 0 := by
  have z0 : (0 : Int64).toInt = 0 := rfl
  rw [cmp_lg]
  constructor
  · intro h; have := cmpI_0.mp h; rw [z0] at this; exact this
  · intro h; exact cmpI_0.mpr (by rw [h, z0])
theorem eu_mono {p q : Int64} {J : jI} : ∀ (F k : Nat) (a b g : Int64), d178_6 p q J F a b = some g → d178_6 p q J (F + k) a b = some g
  | 0, _, _, _, _, h => by cases h
  | F + 1, k, a, b, g, h => by
    rw [show F + 1 + k = (F + k) + 1 by omega, d178_6]
    rw [d178_6] at h
    by_cases c : lg_cmp b 0 = 0
    · rw [if_pos c] at h ⊢; exact h
    · rw [if_neg c] at h ⊢; exact eu_mono F k _ _ g h
theorem eu_ok {p q : Int64} {J : jI} : ∀ (n F : Nat) (a b : Int64), 0 ≤ a.toInt → 0 ≤ b.toInt → b.toInt < ((2 ^ n : Nat) : Int) → 2 * n + 1 ≤ F → ∃ g, d178_6 p q J F a b = some g
  | _, 0, _, _, _, _, _, h => absurd h (by omega)
  | 0, F + 1, a, b, ha, hb, hn, _ => by
    have : b.toInt = 0 := by have : ((2 ^ 0 : Nat) : Int) = 1 := rfl; omega
    rw [d178_6, if_pos (cmp_0.mpr this)]
    exact ⟨_, rfl⟩
  | n + 1, F + 1, a, b, ha, hb, hn, hF => by
    rw [d178_6]
    by_cases c : b.toInt = 0
    · rw [if_pos (cmp_0.mpr c)]
      exact ⟨_, rfl⟩
    · rw [if_neg (fun z => c (cmp_0.mp z))]
      have t := tm64 (x := a) (y := b) (by omega)
      have r := (tm_rng a.toInt b.toInt (by omega)).1 ha
      obtain ⟨F, rfl⟩ : ∃ G, F = G + 1 := ⟨F - 1, by omega⟩
      generalize hr : a - a / b * b = s at t
      rw [d178_6]
      by_cases d : s.toInt = 0
      · rw [if_pos (cmp_0.mpr d)]
        exact ⟨_, rfl⟩
      · rw [if_neg (fun z => d (cmp_0.mp z))]
        have t2 := tm64 (x := b) (y := s) (by omega)
        have r2 := (tm_rng b.toInt s.toInt (by omega)).1 hb
        have m2 : b.toInt.tmod s.toInt ≤ b.toInt - s.toInt := by
          rw [Int.tmod_eq_emod_of_nonneg hb]
          have e := Int.emod_add_mul_ediv b.toInt s.toInt
          have q1 : 1 ≤ b.toInt / s.toInt := Int.le_ediv_of_mul_le (by omega) (by omega)
          have q2 : s.toInt * 1 ≤ s.toInt * (b.toInt / s.toInt) := Int.mul_le_mul_of_nonneg_left q1 (by omega)
          omega
        have pw : ((2 ^ (n + 1) : Nat) : Int) = 2 * ((2 ^ n : Nat) : Int) := by rw [Nat.pow_succ]; omega
        exact eu_ok n F s _ (by omega) (by rw [t2]; exact r2.1) (by rw [t2]; omega) (by omega)
theorem eu_gcd {p q : Int64} {J : jI} : ∀ (F : Nat) (a b g : Int64), 0 ≤ a.toInt → 0 ≤ b.toInt → d178_6 p q J F a b = some g → g.toInt = ((Nat.gcd a.toInt.toNat b.toInt.toNat : Nat) : Int)
  | 0, _, _, _, _, _, h => by cases h
  | F + 1, a, b, g, ha, hb, h => by
    rw [d178_6] at h
    by_cases c : b.toInt = 0
    · rw [if_pos (cmp_0.mpr c)] at h
      cases h
      rw [c]
      show a.toInt = ((Nat.gcd a.toInt.toNat 0 : Nat) : Int)
      rw [Nat.gcd_zero_right]
      omega
    · rw [if_neg (fun z => c (cmp_0.mp z))] at h
      have t := tm64 (x := a) (y := b) (by omega)
      have r := (tm_rng a.toInt b.toInt (by omega)).1 ha
      have ih := eu_gcd F b _ g hb (by rw [t]; exact r.1) h
      have e : (a.toInt % b.toInt).toNat = a.toInt.toNat % b.toInt.toNat := Int.toNat_emod ha hb
      rw [ih, t, Int.tmod_eq_emod_of_nonneg ha, e, Nat.gcd_comm b.toInt.toNat, ← Nat.gcd_rec, Nat.gcd_comm]
theorem eu_cm {p q : Int64} {I J : jI} : ∀ (F F2 : Nat) (a b g : Int64) (x : Int32), d178_6 p q J F a b = some g → x.toInt + (F : Int) ≤ 200 → 0 ≤ x.toInt → F ≤ F2 → d117_9 I F2 a b x = some g
  | 0, _, _, _, _, _, h, _, _, _ => by cases h
  | F + 1, 0, _, _, _, _, _, _, _, h => absurd h (by omega)
  | F + 1, F2 + 1, a, b, g, x, h, hx, x0, hF => by
    have e := i32_inc (x := x) (by omega)
    rw [d178_6] at h
    rw [d117_9, if_neg (show ¬ (200 : Int32) ≤ x by rw [le_t]; show ¬ (200 : Int) ≤ _; omega)]
    by_cases c : lg_cmp b 0 = 0
    · rw [if_pos c] at h ⊢; exact h
    · rw [if_neg c] at h ⊢
      exact eu_cm F F2 _ _ g (x + 1) h (by omega) (by omega) (by omega)
noncomputable def RLo (L L' : jL) : Prop := L' 31 0 11 = L 0 0 15 ∧ L' 31 0 12 = L 0 0 16
theorem rat_eq {a b a' b' : Int64} {k : Nat} {I J : jI} {L L' : jL} (ha : 0 ≤ a.toInt) (hb : 0 < b.toInt) (hb22 : b.toInt < 4194304) (hk : 0 < k) (ea : a'.toInt = a.toInt * (k : Int)) (eb : b'.toInt = b.toInt * (k : Int)) (hb' : b'.toInt < 4194304) : ∃ M M', d116 a b I L = some M ∧ d178 a' b' J L' = some (1, M') ∧ RLo M M' := by
  have ka : 0 ≤ a.toInt * (k : Int) := Int.mul_nonneg ha (by omega)
  have kb : 0 ≤ b.toInt * (k : Int) := Int.mul_nonneg (by omega) (by omega)
  have p22 : ((2 ^ 22 : Nat) : Int) = 4194304 := rfl
  obtain ⟨g, g1⟩ := eu_ok (p := a) (q := b) (J := J) 22 45 a b ha (by omega) (by omega) (by decide)
  obtain ⟨g', g1'⟩ := eu_ok (p := a') (q := b') (J := J) 22 45 a' b' (by omega) (by omega) (by omega) (by decide)
  have q := eu_gcd 45 a b g ha (by omega) g1
  have q' := eu_gcd 45 a' b' g' (by omega) (by omega) g1'
  have c1 := eu_cm (I := I) 45 210 a b g 0 g1 (by decide) (by decide) (by decide)
  have m1 := eu_mono 45 255 a' b' g' g1'
  have ta : a'.toInt.toNat = a.toInt.toNat * k := by rw [ea]; exact Int.toNat_mul ha (by omega)
  have tb : b'.toInt.toNat = b.toInt.toNat * k := by rw [eb]; exact Int.toNat_mul (by omega) (by omega)
  have gg : Nat.gcd a'.toInt.toNat b'.toInt.toNat = Nat.gcd a.toInt.toNat b.toInt.toNat * k := by rw [ta, tb, Nat.gcd_mul_right]
  have gp : 0 < Nat.gcd a.toInt.toNat b.toInt.toNat := Nat.gcd_pos_of_pos_right _ (by omega)
  have gp' : 0 < Nat.gcd a.toInt.toNat b.toInt.toNat * k := Nat.mul_pos gp hk
  rw [gg] at q'
  have z0 : (0 : Int64).toInt = 0 := rfl
  have dv : ∀ x x' : Int64, 0 ≤ x.toInt → x'.toInt = x.toInt * (k : Int) → x' / g' = x / g := by
    intro x x' hx ex
    refine eq6.mpr ?_
    have hx' : 0 ≤ x.toInt * (k : Int) := Int.mul_nonneg hx (by omega)
    rw [td64 (by omega), td64 (by omega), Int.tdiv_eq_ediv_of_nonneg (by omega), Int.tdiv_eq_ediv_of_nonneg hx, ex, q', q]
    have cast : ((Nat.gcd a.toInt.toNat b.toInt.toNat * k : Nat) : Int) = ((Nat.gcd a.toInt.toNat b.toInt.toNat : Nat) : Int) * (k : Int) := rfl
    rw [cast]
    exact Int.mul_ediv_mul_of_pos_left _ _ (by omega)
  have gpos : 0 < lg_cmp g 0 := cmp_gt.mpr (by rw [z0, q]; omega)
  refine ⟨jupL (jupL L 0 0 15 (a / g)) 0 0 16 (b / g), jupL (jupL L' 31 0 11 (a' / g')) 31 0 12 (b' / g'), ?_, ?_, ?_, ?_⟩
  · unfold d116 d117
    rw [c1]
    dsimp only [Option.bind_some]
    rw [if_neg (show ¬ lg_cmp g 0 ≤ 0 by rw [le_t]; rw [lt_t] at gpos; omega)]
  · unfold d178
    rw [m1]
    rfl
  · show a' / g' = a / g
    exact dv a a' ha ea
  · show b' / g' = b / g
    exact dv b b' (by omega) eb
theorem rate_eq2 {I J : jI} (L L' : jL) (i : Int32) (hG : gG aGI I) (q : RD2 I J) (hL : RLo L L') : ∃ r r', d90 i I L = some r ∧ d179 i J L' = some r' ∧ r.1 = r'.1 ∧ RLo r.2 r'.2 := by
  have c := RD_cur hG q
  have hp := gi_packets hG
  have c3 : J 31 0 3 = I 4 1 6 := c.1.1.1
  unfold d90 d179
  rw [has_c, isP_m (by rw [c3]; exact hp), c3]
  by_cases h1 : 0 ≤ i.toInt ∧ i.toInt < (I 4 1 6).toInt
  · rw [if_pos h1, if_neg one0, if_neg one0]
    obtain ⟨hi, hi5, hm0⟩ := RD_hi c h1
    rw [cost_cm hG c h1.1 hi, got_cm c h1.1 hi]
    by_cases h2 : d36 1 i I = 0
    · rw [if_pos h2, if_pos h2]
      exact ⟨_, _, rfl, rfl, rfl, hL⟩
    · rw [if_neg h2, if_neg h2]
      have gb := got_g c hi
      have cb := cost_b c hi
      have g0 : ¬ (d36 1 i I).toInt = 0 := fun z => h2 (eq_t.mpr (by rw [z]; rfl))
      obtain ⟨M, M', m1, m2, m3⟩ := rat_eq (a := Int32.toInt64 (d35 1 i 1 I)) (b := Int32.toInt64 (d36 1 i I)) (a' := Int32.toInt64 (d35 1 i 1 I)) (b' := Int32.toInt64 (d36 1 i I)) (k := 1) (I := I) (J := J) (L := L) (L' := L') (by rw [t64]; omega) (by rw [t64]; omega) (by rw [t64]; omega) (by decide) (by omega) (by omega) (by rw [t64]; omega)
      rw [m1, m2]
      exact ⟨_, _, rfl, rfl, rfl, m3⟩
  · rw [if_neg h1, if_pos rfl, if_pos rfl]
    exact ⟨_, _, rfl, rfl, rfl, hL⟩
end
section
/-! chances: the sum over all sets, and the table of ways -/
noncomputable def chB (p q : Int) (h : Nat → Int) : Nat → (Int → Int) → Int
  | 0, f => f 0
  | i + 1, f => p * chB p q h i f + q * chB p q h i (fun x => f (x + h i))
noncomputable def chW (p q : Int) (s : Nat) : Nat → Int
  | 0 => 1
  | i + 1 => chW p q s i * (if s.testBit i then p else q)
noncomputable def chG (h : Nat → Int) (s : Nat) : Nat → Int
  | 0 => 0
  | i + 1 => chG h s i + (if s.testBit i then 0 else h i)
noncomputable def chS (f : Nat → Int) : Nat → Int
  | 0 => 0
  | n + 1 => chS f n + f n
theorem chS_congr {f g : Nat → Int} : ∀ n, (∀ s, s < n → f s = g s) → chS f n = chS g n
  | 0, _ => rfl
  | n + 1, h => by
    show chS f n + f n = chS g n + g n
    rw [chS_congr n (fun s hs => h s (by omega)), h n (by omega)]
theorem chS_add {f : Nat → Int} (n : Nat) : ∀ k, chS f (n + k) = chS f n + chS (fun s => f (n + s)) k
  | 0 => by show chS f n = chS f n + 0; omega
  | k + 1 => by
    show chS f (n + k) + f (n + k) = chS f n + (chS (fun s => f (n + s)) k + f (n + k))
    rw [chS_add n k]
    omega
theorem chS_mul (c : Int) {f : Nat → Int} : ∀ n, chS (fun s => c * f s) n = c * chS f n
  | 0 => by show (0 : Int) = c * 0; rw [Int.mul_zero]
  | n + 1 => by
    show chS (fun s => c * f s) n + c * f n = c * (chS f n + f n)
    rw [chS_mul c n, Int.mul_add]
theorem chW_hi {p q : Int} {m s : Nat} : ∀ i, i ≤ m → chW p q (2 ^ m + s) i = chW p q s i
  | 0, _ => rfl
  | i + 1, h => by
    show chW p q (2 ^ m + s) i * (if (2 ^ m + s).testBit i then p else q) = chW p q s i * (if s.testBit i then p else q)
    rw [chW_hi i (by omega), Nat.testBit_two_pow_add_gt (show i < m by omega)]
theorem chG_hi {h : Nat → Int} {m s : Nat} : ∀ i, i ≤ m → chG h (2 ^ m + s) i = chG h s i
  | 0, _ => rfl
  | i + 1, hh => by
    show chG h (2 ^ m + s) i + (if (2 ^ m + s).testBit i then 0 else h i) = chG h s i + (if s.testBit i then 0 else h i)
    rw [chG_hi i (by omega), Nat.testBit_two_pow_add_gt (show i < m by omega)]
theorem chA {p q : Int} {h : Nat → Int} : ∀ (m : Nat) (f : Int → Int), chS (fun s => chW p q s m * f (chG h s m)) (2 ^ m) = chB p q h m f
  | 0, f => by
    show 0 + 1 * f 0 = f 0
    omega
  | m + 1, f => by
    have e1 : chS (fun s => chW p q s (m + 1) * f (chG h s (m + 1))) (2 ^ m) = q * chB p q h m (fun x => f (x + h m)) := by
      rw [← chA m (fun x => f (x + h m)), ← chS_mul]
      refine chS_congr _ (fun s hs => ?_)
      show chW p q s m * (if s.testBit m then p else q) * f (chG h s m + (if s.testBit m then 0 else h m)) = q * (chW p q s m * f (chG h s m + h m))
      rw [Nat.testBit_lt_two_pow hs, if_neg (by decide), if_neg (by decide), Int.mul_comm (chW p q s m) q, Int.mul_assoc]
    have e2 : chS (fun s => chW p q (2 ^ m + s) (m + 1) * f (chG h (2 ^ m + s) (m + 1))) (2 ^ m) = p * chB p q h m f := by
      rw [← chA m f, ← chS_mul]
      refine chS_congr _ (fun s hs => ?_)
      show chW p q (2 ^ m + s) m * (if (2 ^ m + s).testBit m then p else q) * f (chG h (2 ^ m + s) m + (if (2 ^ m + s).testBit m then 0 else h m)) = p * (chW p q s m * f (chG h s m))
      rw [Nat.testBit_two_pow_add_eq, Nat.testBit_lt_two_pow hs, if_pos (by decide), if_pos (by decide), chW_hi m (Nat.le_refl _), chG_hi m (Nat.le_refl _), Int.mul_comm (chW p q s m) p, Int.mul_assoc, Int.add_zero]
    rw [show 2 ^ (m + 1) = 2 ^ m + 2 ^ m by rw [Nat.pow_succ]; omega, chS_add, e1, e2]
    show _ = p * chB p q h m f + q * chB p q h m (fun x => f (x + h m))
    omega
theorem chB_congr {p q : Int} {h : Nat → Int} : ∀ (m : Nat) (f g : Int → Int), (∀ i, i < m → 0 ≤ h i ∧ h i ≤ 9) → (∀ x, 0 ≤ x → x ≤ 9 * (m : Int) → f x = g x) → chB p q h m f = chB p q h m g
  | 0, f, g, _, e => e 0 (by omega) (by omega)
  | m + 1, f, g, hh, e => by
    have b := hh m (by omega)
    show p * chB p q h m f + q * chB p q h m (fun x => f (x + h m)) = p * chB p q h m g + q * chB p q h m (fun x => g (x + h m))
    rw [chB_congr m f g (fun i hi => hh i (by omega)) (fun x x0 x9 => e x x0 (by omega)),
      chB_congr m (fun x => f (x + h m)) (fun x => g (x + h m)) (fun i hi => hh i (by omega)) (fun x x0 x9 => e (x + h m) (by omega) (by omega))]
theorem chB_add {p q : Int} {h : Nat → Int} : ∀ (m : Nat) (f g : Int → Int), chB p q h m (fun x => f x + g x) = chB p q h m f + chB p q h m g
  | 0, f, g => rfl
  | m + 1, f, g => by
    show p * chB p q h m (fun x => f x + g x) + q * chB p q h m (fun x => f (x + h m) + g (x + h m)) = (p * chB p q h m f + q * chB p q h m (fun x => f (x + h m))) + (p * chB p q h m g + q * chB p q h m (fun x => g (x + h m)))
    rw [chB_add m f g, chB_add m (fun x => f (x + h m)) (fun x => g (x + h m)), Int.mul_add, Int.mul_add]
    omega
theorem chB_k {p q : Int} {h : Nat → Int} (hpq : p + q = 12) (k : Int) : ∀ (m : Nat), chB p q h m (fun _ => k) = k * 12 ^ m
  | 0 => by show k = k * 1; omega
  | m + 1 => by
    show p * chB p q h m (fun _ => k) + q * chB p q h m (fun _ => k) = k * 12 ^ (m + 1)
    rw [chB_k hpq k m, ← Int.add_mul, hpq, Int.pow_succ, ← Int.mul_assoc k, Int.mul_comm 12]
theorem chB_pos {p q : Int} {h : Nat → Int} (hp : 0 ≤ p) (hq : 0 ≤ q) : ∀ (m : Nat) (f : Int → Int), (∀ x, 0 ≤ f x) → 0 ≤ chB p q h m f
  | 0, f, e => e 0
  | m + 1, f, e => by
    show 0 ≤ p * chB p q h m f + q * chB p q h m (fun x => f (x + h m))
    have a := Int.mul_nonneg hp (chB_pos (h := h) hp hq m f e)
    have b := Int.mul_nonneg hq (chB_pos (h := h) hp hq m (fun x => f (x + h m)) (fun x => e _))
    omega
theorem chB_le {p q : Int} {h : Nat → Int} (hp : 0 ≤ p) (hq : 0 ≤ q) : ∀ (m : Nat) (f g : Int → Int), (∀ x, f x ≤ g x) → chB p q h m f ≤ chB p q h m g
  | 0, f, g, e => e 0
  | m + 1, f, g, e => by
    show p * chB p q h m f + q * chB p q h m (fun x => f (x + h m)) ≤ p * chB p q h m g + q * chB p q h m (fun x => g (x + h m))
    have a := Int.mul_le_mul_of_nonneg_left (chB_le (h := h) hp hq m f g e) hp
    have b := Int.mul_le_mul_of_nonneg_left (chB_le (h := h) hp hq m (fun x => f (x + h m)) (fun x => g (x + h m)) (fun x => e _)) hq
    omega
noncomputable def chD (g : Nat) (x : Int) : Int := if x = (g : Int) then 1 else 0
theorem chT {p q : Int} {h : Nat → Int} {m : Nat} (hh : ∀ i, i < m + 1 → 0 ≤ h i ∧ h i ≤ 9) (g : Nat) : chB p q h (m + 1) (chD g) = chB p q h m (chD g) * p + (if (g : Int) < h m then 0 else chB p q h m (chD (g - (h m).toNat))) * q := by
  have b := hh m (by omega)
  show p * chB p q h m (chD g) + q * chB p q h m (fun x => chD g (x + h m)) = _
  by_cases c : (g : Int) < h m
  · rw [if_pos c, chB_congr m (fun x => chD g (x + h m)) (fun _ => 0) (fun i hi => hh i (by omega)) (fun x x0 _ => by
      show (if x + h m = (g : Int) then (1 : Int) else 0) = 0
      rw [if_neg (by omega)])]
    have z : chB p q h m (fun _ => 0) = 0 := by
      have : ∀ m, chB p q h m (fun _ => 0) = 0 := fun m => by
        induction m with
        | zero => rfl
        | succ m ih => show p * chB p q h m (fun _ => 0) + q * chB p q h m (fun _ => 0) = 0; rw [ih]; omega
      exact this m
    rw [z, Int.mul_comm p]
    omega
  · rw [if_neg c, chB_congr m (fun x => chD g (x + h m)) (chD (g - (h m).toNat)) (fun i hi => hh i (by omega)) (fun x x0 _ => by
      show (if x + h m = (g : Int) then (1 : Int) else 0) = (if x = ((g - (h m).toNat : Nat) : Int) then (1 : Int) else 0)
      by_cases d : x + h m = (g : Int)
      · rw [if_pos d, if_pos (by omega)]
      · rw [if_neg d, if_neg (by omega)])]
    rw [Int.mul_comm p, Int.mul_comm q]
noncomputable def chR (v : Int) (x : Int) : Int := if v ≤ x then 1 else 0
noncomputable def chQ (v x : Int) : Int := if v ≤ x ∧ x ≤ 54 then 1 else 0
theorem chQ_s {p q : Int} {h : Nat → Int} {m : Nat} (g : Nat) (hg : g ≤ 54) : chB p q h m (chQ (g : Int)) = chB p q h m (chD g) + chB p q h m (chQ ((g : Int) + 1)) := by
  rw [← chB_add]
  congr 1
  funext x
  show (if (g : Int) ≤ x ∧ x ≤ 54 then (1 : Int) else 0) = (if x = (g : Int) then (1 : Int) else 0) + (if (g : Int) + 1 ≤ x ∧ x ≤ 54 then (1 : Int) else 0)
  by_cases a : x = (g : Int)
  · rw [if_pos a, if_pos (by omega), if_neg (by omega)]; rfl
  · rw [if_neg a]
    by_cases b : (g : Int) ≤ x ∧ x ≤ 54
    · rw [if_pos b, if_pos (by omega)]; rfl
    · rw [if_neg b, if_neg (by omega)]; rfl
theorem chQ_0 {p q : Int} {h : Nat → Int} {m : Nat} : chB p q h m (chQ 55) = 0 := by
  have e : chQ 55 = fun _ => 0 := by
    funext x
    show (if (55 : Int) ≤ x ∧ x ≤ 54 then (1 : Int) else 0) = 0
    rw [if_neg (by omega)]
  rw [e]
  induction m with
  | zero => rfl
  | succ m ih => show p * chB p q h m (fun _ => 0) + q * chB p q h m (fun _ => 0) = 0; rw [ih]; omega
theorem chQ_R {p q : Int} {h : Nat → Int} {m : Nat} (hm : m ≤ 6) (hh : ∀ i, i < m → 0 ≤ h i ∧ h i ≤ 9) (v : Int) : chB p q h m (chQ v) = chB p q h m (chR v) := chB_congr m _ _ hh (fun x x0 x9 => by
  show (if v ≤ x ∧ x ≤ 54 then (1 : Int) else 0) = (if v ≤ x then (1 : Int) else 0)
  by_cases a : v ≤ x
  · rw [if_pos a, if_pos ⟨a, by omega⟩]
  · rw [if_neg a, if_neg (fun z => a z.1)])
theorem chB_id {p q : Int} {h : Nat → Int} (hpq : p + q = 12) : ∀ m, chB p q h (m + 1) (fun x => x) = (q * chS h (m + 1)) * 12 ^ m
  | 0 => by
    show p * 0 + q * (0 + h 0) = (q * (0 + h 0)) * 1
    omega
  | m + 1 => by
    have a : chB p q h (m + 1) (fun x => x + h (m + 1)) = chB p q h (m + 1) (fun x => x) + h (m + 1) * 12 ^ (m + 1) := by
      rw [chB_add (m + 1) (fun x => x) (fun _ => h (m + 1)), chB_k hpq]
    show p * chB p q h (m + 1) (fun x => x) + q * chB p q h (m + 1) (fun x => x + h (m + 1)) = (q * (chS h (m + 1) + h (m + 1))) * 12 ^ (m + 1)
    rw [a, chB_id hpq m, Int.mul_add q (q * chS h (m + 1) * 12 ^ m), ← Int.add_assoc, ← Int.add_mul, hpq, Int.mul_add q (chS h (m + 1)), Int.add_mul, Int.pow_succ, Int.mul_comm 12, Int.mul_assoc, Int.mul_assoc q (h (m + 1))]
end
section
/-! chances: the reference runs through all sets -/
theorem nI_as {n : Int32} {j : Nat} (h : n.toInt = (j : Int)) (hj : j ≤ 1000) : n = nI j := eq_t.mpr (by rw [h, nI_toInt (by omega)])
theorem nI_c {j : Nat} (h : j ≤ 1000) : (nI j).toNatClampNeg = j := by
  have a : (nI j).toInt = (j : Int) := nI_toInt (by omega)
  have b := cl_t (x := nI j) (by omega)
  omega
theorem nI_up {j : Nat} (h : j ≤ 900) : nI j + 1 = nI (j + 1) := by
  have a : (nI j).toInt = (j : Int) := nI_toInt (by omega)
  exact nI_as (by rw [i32_inc (by omega), a]; omega) (by omega)
theorem sx64 (x : Int32) : Int32.toInt64 x = Int64.ofInt x.toInt := by rw [← t64, Int64.ofInt_toInt]
theorem of32 (x : Int32) : x = Int32.ofInt x.toInt := (Int32.ofInt_toInt x).symm
set_option maxRecDepth 100000 in
theorem bit_tab : ∀ s, s < 64 → ∀ i, i < 6 → ((((nI s) >>> ((nI i) &&& 31)) &&& 1) = (1 : Int32) ↔ s.testBit i = true) := by decide +kernel
theorem shl_tab : ∀ m, m ≤ 6 → ((1 : Int32) <<< ((nI m) &&& 31)) = nI (2 ^ m) := by decide +kernel
theorem bit_m {J : jI} {s i : Nat} (hs : s < 64) (hi : i < 6) : d125 (nI s) (nI i) J = if s.testBit i then 1 else 0 := by
  unfold d125
  by_cases c : s.testBit i = true
  · rw [if_pos ((bit_tab s hs i hi).mpr c), if_pos c]
  · rw [if_neg (fun z => c ((bit_tab s hs i hi).mp z)), if_neg c]
theorem chG_b {h : Nat → Int} {B : Int} {s : Nat} : ∀ m : Nat, (∀ i, i < m → 0 ≤ h i ∧ h i ≤ B) → 0 ≤ chG h s m ∧ chG h s m ≤ (m : Int) * B
  | 0, _ => by
    show 0 ≤ (0 : Int) ∧ (0 : Int) ≤ ((0 : Nat) : Int) * B
    rw [show ((0 : Nat) : Int) = 0 from rfl, Int.zero_mul]
    omega
  | m + 1, hh => by
    have ih := chG_b (h := h) (B := B) (s := s) m (fun i hi => hh i (by omega))
    have b := hh m (by omega)
    have e : ((m + 1 : Nat) : Int) * B = (m : Int) * B + B := by rw [show ((m + 1 : Nat) : Int) = (m : Int) + 1 from rfl, Int.add_mul, Int.one_mul]
    rw [e]
    show 0 ≤ chG h s m + (if s.testBit m then 0 else h m) ∧ chG h s m + (if s.testBit m then 0 else h m) ≤ _
    by_cases c : s.testBit m = true
    · rw [if_pos c]; omega
    · rw [if_neg c]; omega
theorem in_m {J : jI} {m s : Nat} {y1 y2 y3 : Int32} {y4 y6 : Int64} {p q : Int} {h c : Nat → Int} (hm : m ≤ 6) (hs : s < 64) (e3 : J 31 0 3 = nI m) (ep : y2.toInt = p) (eq : ((12 : Int32) - y2).toInt = q) (eh : ∀ i, i < m → (d155 0 (nI i) J).toInt = h i) (ec : ∀ i, i < m → (d153 0 (nI i) 1 J).toInt = c i) : ∀ (n i F : Nat), i + n = m → n < F → d204_32 y1 y2 y3 y4 y6 (nI s) J F (Int64.ofInt (chW p q s i)) (Int32.ofInt (chG h s i)) (Int32.ofInt (chG c s i)) (nI i) = some (Int64.ofInt (chW p q s m), Int32.ofInt (chG h s m), Int32.ofInt (chG c s m))
  | _, _, 0, _, hF => absurd hF (Nat.not_lt_zero _)
  | 0, i, F + 1, hi, _ => by
    have : i = m := by omega
    subst this
    rw [d204_32, e3, if_pos (show nI i ≤ nI i by rw [le_t]; omega)]
  | n + 1, i, F + 1, hi, hF => by
    have a1 : (nI i).toInt = (i : Int) := nI_toInt (by omega)
    have a2 : (nI m).toInt = (m : Int) := nI_toInt (by omega)
    have ih := in_m (y1 := y1) (y3 := y3) (y4 := y4) (y6 := y6) hm hs e3 ep eq eh ec n (i + 1) F (by omega) (by omega)
    rw [d204_32, e3, if_neg (show ¬ nI m ≤ nI i by rw [le_t]; omega), bit_m hs (by omega), nI_up (by omega)]
    by_cases b : s.testBit i = true
    · have w : chW p q s (i + 1) = chW p q s i * p := by show _ * (if s.testBit i then p else q) = _; rw [if_pos b]
      have g : chG h s (i + 1) = chG h s i + 0 := by show _ + (if s.testBit i then 0 else h i) = _; rw [if_pos b]
      have k : chG c s (i + 1) = chG c s i + 0 := by show _ + (if s.testBit i then 0 else c i) = _; rw [if_pos b]
      rw [w, g, k, Int64.ofInt_mul, Int32.ofInt_add, Int32.ofInt_add, ← ep, ← sx64] at ih
      rw [if_pos b, if_neg (by decide), if_neg (by decide), if_neg (by decide)]
      rw [ep] at ih
      exact ih
    · have w : chW p q s (i + 1) = chW p q s i * q := by show _ * (if s.testBit i then p else q) = _; rw [if_neg b]
      have g : chG h s (i + 1) = chG h s i + (d155 0 (nI i) J).toInt := by show _ + (if s.testBit i then 0 else h i) = _; rw [if_neg b, eh i (by omega)]
      have k : chG c s (i + 1) = chG c s i + (d153 0 (nI i) 1 J).toInt := by show _ + (if s.testBit i then 0 else c i) = _; rw [if_neg b, ec i (by omega)]
      rw [w, g, k, Int64.ofInt_mul, Int32.ofInt_add, Int32.ofInt_add, ← of32, ← of32] at ih
      rw [if_neg b, if_pos rfl, if_pos rfl, if_pos rfl, sx64, eq]
      exact ih
noncomputable def chF (y3 : Int32) (v : Int) (p q : Int) (h c : Nat → Int) (m s : Nat) : Int := if y3 = 0 then chW p q s m * chR v (chG h s m) else chW p q s m * chG c s m
theorem out_m {J : jI} {m : Nat} {y1 y2 y3 : Int32} {p q : Int} {h c : Nat → Int} (hm : m ≤ 6) (e3 : J 31 0 3 = nI m) (ep : y2.toInt = p) (eq : ((12 : Int32) - y2).toInt = q) (eh : ∀ i, i < m → (d155 0 (nI i) J).toInt = h i) (ec : ∀ i, i < m → (d153 0 (nI i) 1 J).toInt = c i) (hh : ∀ i, i < m → 0 ≤ h i ∧ h i ≤ 9) (hc : ∀ i, i < m → 0 ≤ c i ∧ c i ≤ 99) : ∀ (n s F : Nat), s + n = 2 ^ m → n < F → d204_9 y1 y2 y3 J F (Int64.ofInt (chS (chF y3 y1.toInt p q h c m) s)) (Int64.ofInt (chS (fun s => chW p q s m * 1) s)) (nI s) = some (Int64.ofInt (chS (chF y3 y1.toInt p q h c m) (2 ^ m)), Int64.ofInt (chS (fun s => chW p q s m * 1) (2 ^ m)))
  | _, _, 0, _, hF => absurd hF (Nat.not_lt_zero _)
  | 0, s, F + 1, hs, _ => by
    have : s = 2 ^ m := by omega
    subst this
    rw [d204_9, e3, shl_tab m hm, if_pos (show nI (2 ^ m) ≤ nI (2 ^ m) by rw [le_t]; omega)]
  | n + 1, s, F + 1, hs, hF => by
    have p64 : 2 ^ m ≤ 64 := Nat.pow_le_pow_right (by decide) hm
    have a1 : (nI s).toInt = (s : Int) := nI_toInt (by omega)
    have a2 : (nI (2 ^ m)).toInt = ((2 ^ m : Nat) : Int) := nI_toInt (by omega)
    have ih := out_m (y1 := y1) (y3 := y3) hm e3 ep eq eh ec hh hc n (s + 1) F (by omega) (by omega)
    have gb := chG_b (s := s) m hh
    have cb := chG_b (s := s) m hc
    have m6 : (m : Int) * 9 ≤ 54 ∧ (m : Int) * 99 ≤ 594 := by omega
    have g1 : (Int32.ofInt (chG h s m)).toInt = chG h s m := Int32.toInt_ofInt_of_le (by omega) (by omega)
    have c1 : (Int32.ofInt (chG c s m)).toInt = chG c s m := Int32.toInt_ofInt_of_le (by omega) (by omega)
    have i0 := in_m (y1 := y1) (y3 := y3) (y4 := Int64.ofInt (chS (chF y3 y1.toInt p q h c m) s)) (y6 := Int64.ofInt (chS (fun s => chW p q s m * 1) s)) (s := s) hm (by omega) e3 ep eq eh ec m 0 80 (by omega) (by omega)
    have i1 : d204_32 y1 y2 y3 (Int64.ofInt (chS (chF y3 y1.toInt p q h c m) s)) (Int64.ofInt (chS (fun s => chW p q s m * 1) s)) (nI s) J 80 1 0 0 0 = some (Int64.ofInt (chW p q s m), Int32.ofInt (chG h s m), Int32.ofInt (chG c s m)) := i0
    have sA : chS (chF y3 y1.toInt p q h c m) (s + 1) = chS (chF y3 y1.toInt p q h c m) s + chF y3 y1.toInt p q h c m s := rfl
    have sW : chS (fun s => chW p q s m * 1) (s + 1) = chS (fun s => chW p q s m * 1) s + chW p q s m := by
      show chS (fun s => chW p q s m * 1) s + chW p q s m * 1 = _
      rw [Int.mul_one]
    rw [d204_9, e3, shl_tab m hm, if_neg (show ¬ nI (2 ^ m) ≤ nI s by rw [le_t]; omega), i1]
    dsimp only [Option.bind_some]
    rw [sA, sW, Int64.ofInt_add, Int64.ofInt_add (chS (fun s => chW p q s m * 1) s)] at ih
    rw [nI_up (by omega)]
    by_cases y : y3 = 0
    · rw [if_pos y]
      by_cases g : Int32.ofInt (chG h s m) < y1
      · have f0 : chF y3 y1.toInt p q h c m s = 0 := by
          unfold chF chR
          rw [if_pos y, if_neg (by rw [lt_t, g1] at g; omega), Int.mul_zero]
        rw [f0] at ih
        rw [if_pos g]
        exact ih
      · have f0 : chF y3 y1.toInt p q h c m s = chW p q s m := by
          unfold chF chR
          rw [if_pos y, if_pos (by rw [lt_t, g1] at g; omega), Int.mul_one]
        rw [f0] at ih
        rw [if_neg g]
        exact ih
    · rw [if_neg y]
      have f0 : chF y3 y1.toInt p q h c m s = chW p q s m * chG c s m := by
        unfold chF
        rw [if_neg y]
      rw [f0, Int64.ofInt_mul] at ih
      rw [sx64, c1]
      exact ih
theorem all_m {J : jI} {m : Nat} {y1 y2 y3 : Int32} {p q : Int} {h c : Nat → Int} (hm : m ≤ 6) (e3 : J 31 0 3 = nI m) (ep : y2.toInt = p) (eq : ((12 : Int32) - y2).toInt = q) (eh : ∀ i, i < m → (d155 0 (nI i) J).toInt = h i) (ec : ∀ i, i < m → (d153 0 (nI i) 1 J).toInt = c i) (hh : ∀ i, i < m → 0 ≤ h i ∧ h i ≤ 9) (hc : ∀ i, i < m → 0 ≤ c i ∧ c i ≤ 99) (hpq : p + q = 12) : d204_9 y1 y2 y3 J 80 0 0 0 = some (Int64.ofInt (if y3 = 0 then chB p q h m (chR y1.toInt) else chB p q c m (fun x => x)), Int64.ofInt (12 ^ m)) := by
  have p64 : 2 ^ m ≤ 64 := Nat.pow_le_pow_right (by decide) hm
  have o := out_m (y1 := y1) (y3 := y3) hm e3 ep eq eh ec hh hc (2 ^ m) 0 80 (by omega) (by omega)
  have w := chA (p := p) (q := q) (h := h) m (fun _ => 1)
  rw [chB_k hpq, Int.one_mul] at w
  have f : chS (chF y3 y1.toInt p q h c m) (2 ^ m) = if y3 = 0 then chB p q h m (chR y1.toInt) else chB p q c m (fun x => x) := by
    by_cases y : y3 = 0
    · rw [if_pos y, ← chA]
      refine chS_congr _ (fun s _ => ?_)
      unfold chF
      rw [if_pos y]
    · rw [if_neg y, ← chA]
      refine chS_congr _ (fun s _ => ?_)
      unfold chF
      rw [if_neg y]
  rw [f, w] at o
  exact o
end
section
/-! chances: the class's table of ways -/
noncomputable def wyL (p q : Int64) (w : Int32) (n : Nat) (L : jL) : jL := fun g o j => if g = 11 ∧ o = 0 ∧ j < n then L 11 0 j * p + (if (j : Int) < w.toInt then 0 else L 11 0 (j - w.toNatClampNeg)) * q else L g o j
theorem wy_0 {p q : Int64} {w : Int32} {L : jL} : wyL p q w 0 L = L := by
  funext g o j
  unfold wyL
  rw [if_neg (fun z => Nat.not_lt_zero _ z.2.2)]
theorem wy_s {p q v : Int64} {w : Int32} {n : Nat} {L : jL} (e : v = L 11 0 n * p + (if (n : Int) < w.toInt then 0 else L 11 0 (n - w.toNatClampNeg)) * q) : wyL p q w n (jupL L 11 0 n v) = wyL p q w (n + 1) L := by
  funext g o j
  unfold wyL
  by_cases c : g = 11 ∧ o = 0 ∧ j < n
  · rw [if_pos c, if_pos (show g = 11 ∧ o = 0 ∧ j < n + 1 from ⟨c.1, c.2.1, by omega⟩), jupL_of (show ¬ (11 = 11 ∧ 0 = 0 ∧ j = n) by omega), jupL_of (show ¬ (11 = 11 ∧ 0 = 0 ∧ j - w.toNatClampNeg = n) by omega)]
  · rw [if_neg c]
    by_cases d : g = 11 ∧ o = 0 ∧ j = n
    · obtain ⟨rfl, rfl, rfl⟩ := d
      rw [if_pos ⟨rfl, rfl, Nat.lt_succ_self _⟩, ← e]
      unfold jupL
      rw [if_pos ⟨rfl, rfl, rfl⟩]
    · rw [if_neg (fun z => by omega), jupL_of d]
theorem way_l {y1 y4 w : Int32} {y2 : Int64} {I : jI} (h5 : 0 ≤ w.toInt ∧ w.toInt ≤ 9) : ∀ (n F : Nat) (x : Int32) (L : jL), x.toInt + 1 = (n : Int) → n ≤ 55 → n < F → d122_53 y1 y2 y4 w I F x L = some (wyL (Int32.toInt64 y1) (Int32.toInt64 (12 - y1)) w n L)
  | _, 0, _, _, _, _, hF => absurd hF (Nat.not_lt_zero _)
  | 0, F + 1, x, L, hx, _, _ => by
    rw [d122_53, if_pos (show x < 0 by rw [lt0_t]; omega), wy_0]
  | n + 1, F + 1, x, L, hx, hn, hF => by
    have xc : x.toNatClampNeg = n := by have := cl_t (x := x) (by omega); omega
    have wc := cl_t h5.1
    have z1 : (-1 : Int32).toInt = -1 := rfl
    have x1 : (x + (-1)).toInt = x.toInt - 1 := by rw [i32_add (by omega), z1]; omega
    rw [d122_53, if_neg (show ¬ x < 0 by rw [lt0_t]; omega), xc]
    by_cases c : x < w
    · rw [if_pos c, way_l h5 n F _ _ (by omega) (by omega) (by omega)]
      rw [lt_t] at c
      rw [wy_s (by rw [if_pos (by omega)])]
    · rw [if_neg c, way_l h5 n F _ _ (by omega) (by omega) (by omega)]
      rw [lt_t] at c
      have xw : (x - w).toInt = x.toInt - w.toInt := i32_sub (by omega)
      have xwc : (x - w).toNatClampNeg = n - w.toNatClampNeg := by have := cl_t (x := x - w) (by omega); omega
      rw [xwc, wy_s (by rw [if_neg (by omega)])]
theorem ways_l {y1 : Int32} {I : jI} {m : Nat} {p q : Int} {h : Nat → Int} (hm : m ≤ 6) (e6 : I 4 1 6 = nI m) (ep : y1.toInt = p) (eq : ((12 : Int32) - y1).toInt = q) (eh : ∀ i, i < m → (d36 1 (nI i) I).toInt = h i) (hh : ∀ i, i < m → 0 ≤ h i ∧ h i ≤ 9) : ∀ (n i F : Nat) (L : jL), i + n = m → n < F → (∀ j, j < 55 → L 11 0 j = Int64.ofInt (chB p q h i (chD j))) → ∃ M, d122_20 y1 I F (Int64.ofInt (12 ^ i)) (nI i) L = some (Int64.ofInt (12 ^ m), M) ∧ ∀ j, j < 55 → M 11 0 j = Int64.ofInt (chB p q h m (chD j))
  | _, _, 0, _, _, hF, _ => absurd hF (Nat.not_lt_zero _)
  | 0, i, F + 1, L, hi, _, hL => by
    have : i = m := by omega
    subst this
    rw [d122_20, e6, if_pos (show nI i ≤ nI i by rw [le_t]; omega)]
    exact ⟨L, rfl, hL⟩
  | n + 1, i, F + 1, L, hi, hF, hL => by
    have a1 : (nI i).toInt = (i : Int) := nI_toInt (by omega)
    have a2 : (nI m).toInt = (m : Int) := nI_toInt (by omega)
    have b := hh i (by omega)
    have w0 := eh i (by omega)
    have wc := cl_t (x := d36 1 (nI i) I) (by omega)
    have p12 : Int64.ofInt (12 ^ i) * 12 = Int64.ofInt (12 ^ (i + 1)) := by rw [Int.pow_succ, Int64.ofInt_mul]; rfl
    rw [d122_20, e6, if_neg (show ¬ nI m ≤ nI i by rw [le_t]; omega), way_l (by omega) 55 70 54 L (by decide) (by decide) (by decide), Option.bind_some, nI_up (by omega), p12]
    refine ways_l hm e6 ep eq eh hh n (i + 1) F _ (by omega) (by omega) (fun j hj => ?_)
    unfold wyL
    rw [if_pos ⟨rfl, rfl, hj⟩, chT (fun k hk => hh k (by omega)), Int64.ofInt_add, Int64.ofInt_mul, Int64.ofInt_mul, hL j hj, w0, sx64, sx64, ep, eq]
    by_cases c : (j : Int) < h i
    · rw [if_pos c, if_pos c]; rfl
    · rw [if_neg c, if_neg c, hL _ (by omega), show (d36 1 (nI i) I).toNatClampNeg = (h i).toNat by omega]
theorem fill_w {I : jI} : ∀ (n F : Nat) (x : Int32) (L : jL), x.toInt + (n : Int) = 55 → 0 ≤ x.toInt → n < F → ∃ M, d1g11_6 0 (nI 55) I F x L = some M ∧ ∀ j, M 11 0 j = if x.toNatClampNeg ≤ j ∧ j < 55 then 0 else L 11 0 j
  | _, 0, _, _, _, _, hF => absurd hF (Nat.not_lt_zero _)
  | 0, F + 1, x, L, hx, x0, _ => by
    have xc := cl_t x0
    have a2 : (nI 55).toInt = 55 := rfl
    rw [d1g11_6, if_pos (show nI 55 ≤ x by rw [le_t]; omega)]
    exact ⟨L, rfl, fun j => by rw [if_neg (by omega)]⟩
  | n + 1, F + 1, x, L, hx, x0, hF => by
    have xc := cl_t x0
    have a2 : (nI 55).toInt = 55 := rfl
    have x1 := i32_inc (x := x) (by omega)
    have xd := cl_t (x := x + 1) (by omega)
    rw [d1g11_6, if_neg (show ¬ nI 55 ≤ x by rw [le_t]; omega)]
    obtain ⟨M, m1, m2⟩ := fill_w n F (x + 1) (jupL L 11 0 x.toNatClampNeg 0) (by omega) (by omega) (by omega)
    refine ⟨M, m1, fun j => ?_⟩
    rw [m2]
    by_cases c : j = x.toNatClampNeg
    · rw [if_neg (by omega), if_pos (by omega), c]
      unfold jupL
      rw [if_pos ⟨rfl, rfl, rfl⟩]
    · rw [jupL_of (fun z => c z.2.2)]
      by_cases d : (x + 1).toNatClampNeg ≤ j ∧ j < 55
      · rw [if_pos d, if_pos (by omega)]
      · rw [if_neg d, if_neg (by omega)]
theorem weigh {y1 : Int32} {I : jI} {L : jL} {m : Nat} {p q : Int} {h : Nat → Int} (hm : m ≤ 6) (e6 : I 4 1 6 = nI m) (ep : y1.toInt = p) (eq : ((12 : Int32) - y1).toInt = q) (eh : ∀ i, i < m → (d36 1 (nI i) I).toInt = h i) (hh : ∀ i, i < m → 0 ≤ h i ∧ h i ≤ 9) : ∃ M, d122 y1 I L = some (Int64.ofInt (12 ^ m), M) ∧ ∀ j, j < 55 → M 11 0 j = Int64.ofInt (chB p q h m (chD j)) := by
  obtain ⟨K, k1, k2⟩ := fill_w (I := I) 55 70 0 L (by decide) (by decide) (by decide)
  obtain ⟨M, m1, m2⟩ := ways_l (h := h) hm e6 ep eq eh hh m 0 70 (jupL K 11 0 (Int32.toNatClampNeg 0) 1) (by omega) (by omega) (fun j hj => by
    show _ = Int64.ofInt (if (0 : Int) = (j : Int) then 1 else 0)
    by_cases c : j = 0
    · subst c; rfl
    · have k3 := k2 j
      rw [if_pos (show Int32.toNatClampNeg 0 ≤ j ∧ j < 55 from ⟨Nat.zero_le _, hj⟩)] at k3
      rw [jupL_of (show ¬ (11 = 11 ∧ 0 = 0 ∧ j = Int32.toNatClampNeg 0) from fun z => c z.2.2), k3, if_neg (by omega)]
      rfl)
  refine ⟨M, ?_, m2⟩
  unfold d122 d1g11
  rw [k1, Option.bind_some, Option.bind_some]
  have m3 : d122_20 y1 I 70 1 0 (jupL K 11 0 (Int32.toNatClampNeg 0) 1) = some (Int64.ofInt (12 ^ m), M) := m1
  rw [m3, Option.bind_some]
theorem enough_l {y3 : Int64} {I : jI} {M : jL} {m : Nat} {p q : Int} {h : Nat → Int} (hM : ∀ j, j < 55 → M 11 0 j = Int64.ofInt (chB p q h m (chD j))) : ∀ (n g F : Nat) (a : Int), g + n = 55 → n < F → d103_47 y3 I M F (Int64.ofInt a) (nI g) = some (Int64.ofInt (a + chB p q h m (chQ (g : Int))))
  | _, _, 0, _, _, hF => absurd hF (Nat.not_lt_zero _)
  | 0, g, F + 1, a, hg, _ => by
    have : g = 55 := by omega
    subst this
    have e := chQ_0 (p := p) (q := q) (h := h) (m := m)
    rw [d103_47, if_pos (by decide), show ((55 : Nat) : Int) = 55 from rfl, e, Int.add_zero]
  | n + 1, g, F + 1, a, hg, hF => by
    have a1 : (nI g).toInt = (g : Int) := nI_toInt (by omega)
    have z54 : (54 : Int32).toInt = 54 := rfl
    rw [d103_47, if_neg (show ¬ (54 : Int32) < nI g by rw [lt_t]; omega), nI_c (by omega), hM g (by omega), nI_up (by omega), ← Int64.ofInt_add, enough_l hM n (g + 1) F _ (by omega) (by omega), chQ_s g (by omega), Int.add_assoc]
    rfl
end
section
/-! odds, mid: the same ratio told -/
theorem p12_6 {m : Nat} (hm : m ≤ 6) : (0 : Int) < 12 ^ m ∧ (12 : Int) ^ m ≤ 2985984 := by
  have : m = 0 ∨ m = 1 ∨ m = 2 ∨ m = 3 ∨ m = 4 ∨ m = 5 ∨ m = 6 := by omega
  rcases this with e | e | e | e | e | e | e <;> subst e <;> decide
theorem of64 {z : Int} (h : 0 ≤ z) (h' : z ≤ 1000000000000) : (Int64.ofInt z).toInt = z := Int64.toInt_ofInt_of_le (by omega) (by omega)
theorem cur_nI {I J : jI} {m : Nat} (c : cur I J m) : I 4 1 6 = nI m ∧ J 31 0 3 = nI m ∧ m ≤ 6 := by
  have e := c.2.1
  have a : I 4 1 6 = nI m := nI_as e.1.symm (by omega)
  exact ⟨a, by rw [c.1.1.1, a], e.2⟩
theorem q12 {n : Int32} (h : 0 ≤ n.toInt ∧ n.toInt ≤ 12) : ((12 : Int32) - n).toInt = 12 - n.toInt := by
  have z2 : (12 : Int32).toInt = 12 := rfl
  rw [i32_sub (by omega), z2]
theorem chS_b {h : Nat → Int} {B : Int} : ∀ m : Nat, (∀ i, i < m → 0 ≤ h i ∧ h i ≤ B) → 0 ≤ chS h m ∧ chS h m ≤ (m : Int) * B
  | 0, _ => by
    show 0 ≤ (0 : Int) ∧ (0 : Int) ≤ ((0 : Nat) : Int) * B
    rw [show ((0 : Nat) : Int) = 0 from rfl, Int.zero_mul]
    omega
  | m + 1, hh => by
    have ih := chS_b (h := h) (B := B) m (fun i hi => hh i (by omega))
    have b := hh m (by omega)
    have e : ((m + 1 : Nat) : Int) * B = (m : Int) * B + B := by rw [show ((m + 1 : Nat) : Int) = (m : Int) + 1 from rfl, Int.add_mul, Int.one_mul]
    rw [e]
    show 0 ≤ chS h m + h m ∧ chS h m + h m ≤ _
    omega
theorem odds_eq2 {I J : jI} (L L' : jL) (v n : Int32) (hG : gG aGI I) (q : RD2 I J) (hL : RLo L L') : ∃ r r', d103 v n I L = some r ∧ d205 v n J L' = some r' ∧ RLo r.2 r'.2 := by
  have c := RD_cur hG q
  obtain ⟨e6, e3, m6⟩ := cur_nI c
  have z2 : (12 : Int32).toInt = 12 := rfl
  have z54 : (54 : Int32).toInt = 54 := rfl
  unfold d103 d205
  rw [in_i, in_i, c.1.1.1]
  by_cases h0 : 0 ≤ v.toInt ∧ v.toInt ≤ 54
  · rw [if_neg (show ¬ v < 0 by rw [lt0_t]; omega), if_neg (show ¬ (54 : Int32) < v by rw [lt_t, z54]; omega), if_pos (show (0 : Int64).toInt ≤ v.toInt ∧ v.toInt ≤ (54 : Int64).toInt from h0), if_neg one0]
    by_cases h1 : 0 ≤ n.toInt ∧ n.toInt ≤ 12
    · rw [if_neg (show ¬ n < 0 by rw [lt0_t]; omega), if_pos (show n ≤ 12 by rw [le_t, z2]; exact h1.2), if_pos (show (0 : Int64).toInt ≤ n.toInt ∧ n.toInt ≤ (12 : Int64).toInt from h1), if_neg one0]
      by_cases h2 : I 4 1 6 = 0
      · rw [if_pos h2, if_pos h2]
        exact ⟨_, _, rfl, rfl, hL⟩
      · rw [if_neg h2, if_neg h2]
        have gi : ∀ i, i < mP I → 0 ≤ (d36 1 (nI i) I).toInt ∧ (d36 1 (nI i) I).toInt ≤ 9 := fun i hi => got_g c (by rw [nI_c (by omega)]; exact hi)
        have ci : ∀ i, i < mP I → 0 ≤ (d35 1 (nI i) 1 I).toInt ∧ (d35 1 (nI i) 1 I).toInt ≤ 99 := fun i hi => cost_b c (by rw [nI_c (by omega)]; exact hi)
        have n0 : ∀ i, i < mP I → 0 ≤ (nI i).toInt := fun i hi => by have : (nI i).toInt = (i : Int) := nI_toInt (by omega); omega
        have q0 := q12 h1
        obtain ⟨M, m1, m2⟩ := weigh (y1 := n) (I := I) (L := L) (h := fun i => (d36 1 (nI i) I).toInt) m6 e6 rfl q0 (fun i _ => rfl) gi
        have am := all_m (J := J) (y1 := v) (y2 := n) (y3 := 0) (h := fun i => (d36 1 (nI i) I).toInt) (c := fun i => (d35 1 (nI i) 1 I).toInt) m6 e3 rfl q0 (fun i hi => by rw [got_cm c (n0 i hi) (by rw [nI_c (by omega)]; exact hi)]) (fun i hi => by rw [cost_cm hG c (n0 i hi) (by rw [nI_c (by omega)]; exact hi)]) gi ci (by omega)
        rw [if_pos rfl] at am
        have ve : v = nI v.toNatClampNeg := nI_as (by rw [cl_t h0.1]) (by have := cl_t h0.1; omega)
        have en := enough_l (y3 := Int64.ofInt (12 ^ mP I)) (I := I) (M := M) m2 (55 - v.toNatClampNeg) v.toNatClampNeg 70 0 (by have := cl_t h0.1; omega) (by omega)
        rw [← ve, cl_t h0.1, Int.zero_add, chQ_R m6 gi] at en
        have pw := p12_6 m6
        have b0 := chB_pos (p := n.toInt) (q := 12 - n.toInt) (h := fun i => (d36 1 (nI i) I).toInt) h1.1 (by omega) (mP I) (chR v.toInt) (fun x => by unfold chR; by_cases a : v.toInt ≤ x; rw [if_pos a]; decide; rw [if_neg a]; decide)
        have b1 := chB_le (p := n.toInt) (q := 12 - n.toInt) (h := fun i => (d36 1 (nI i) I).toInt) h1.1 (by omega) (mP I) (chR v.toInt) (fun _ => 1) (fun x => by unfold chR; by_cases a : v.toInt ≤ x; rw [if_pos a]; exact Int.le_refl _; rw [if_neg a]; decide)
        rw [chB_k (by omega), Int.one_mul] at b1
        generalize chB n.toInt (12 - n.toInt) (fun i => (d36 1 (nI i) I).toInt) (mP I) (chR v.toInt) = B at am en b0 b1
        have t1 := of64 b0 (by omega)
        have t2 := of64 (z := 12 ^ mP I) (by omega) (by omega)
        obtain ⟨R, R', r1, r2, r3⟩ := rat_eq (a := Int64.ofInt B) (b := Int64.ofInt (12 ^ mP I)) (a' := Int64.ofInt B) (b' := Int64.ofInt (12 ^ mP I)) (k := 1) (I := I) (J := J) (L := M) (L' := L') (by omega) (by omega) (by omega) (by decide) (by omega) (by omega) (by omega)
        unfold d204
        have en2 : d103_47 (Int64.ofInt (12 ^ mP I)) I M 70 0 v = some (Int64.ofInt B) := en
        rw [m1, am]
        dsimp only [Option.bind_some]
        rw [en2]
        dsimp only [Option.bind_some]
        rw [r1, r2]
        exact ⟨_, _, rfl, rfl, r3⟩
    · rw [if_neg (show ¬ ((0 : Int64).toInt ≤ n.toInt ∧ n.toInt ≤ (12 : Int64).toInt) from h1), if_pos rfl]
      by_cases h3 : n < 0
      · rw [if_pos h3]
        exact ⟨_, _, rfl, rfl, hL⟩
      · rw [if_neg h3, if_neg (show ¬ n ≤ 12 from fun z => by rw [le_t, z2] at z; rw [lt0_t] at h3; exact h1 ⟨by omega, z⟩)]
        exact ⟨_, _, rfl, rfl, hL⟩
  · rw [if_neg (show ¬ ((0 : Int64).toInt ≤ v.toInt ∧ v.toInt ≤ (54 : Int64).toInt) from h0), if_pos rfl]
    by_cases h3 : v < 0
    · rw [if_pos h3]
      exact ⟨_, _, rfl, rfl, hL⟩
    · rw [if_neg h3, if_pos (show (54 : Int32) < v by rw [lt_t, z54]; rw [lt0_t] at h3; omega)]
      exact ⟨_, _, rfl, rfl, hL⟩
theorem mid_l {y1 : Int32} {I : jI} {m : Nat} {c : Nat → Int} (hm : m ≤ 6) (e6 : I 4 1 6 = nI m) (ec : ∀ i, i < m → (d35 1 (nI i) 1 I).toInt = c i) : ∀ (n i F : Nat), i + n = m → n < F → d104_30 y1 I F (Int64.ofInt (chS c i)) (nI i) = some (Int64.ofInt (chS c m))
  | _, _, 0, _, hF => absurd hF (Nat.not_lt_zero _)
  | 0, i, F + 1, hi, _ => by
    have : i = m := by omega
    subst this
    rw [d104_30, e6, if_pos (show nI i ≤ nI i by rw [le_t]; omega)]
  | n + 1, i, F + 1, hi, hF => by
    have a1 : (nI i).toInt = (i : Int) := nI_toInt (by omega)
    have a2 : (nI m).toInt = (m : Int) := nI_toInt (by omega)
    rw [d104_30, e6, if_neg (show ¬ nI m ≤ nI i by rw [le_t]; omega), nI_up (by omega), sx64, ec i (by omega), ← Int64.ofInt_add]
    exact mid_l hm e6 ec n (i + 1) F (by omega) (by omega)
theorem mid_eq2 {I J : jI} (L L' : jL) (n : Int32) (hG : gG aGI I) (q : RD2 I J) (hL : RLo L L') : ∃ r r', d104 n I L = some r ∧ d206 n J L' = some r' ∧ RLo r.2 r'.2 := by
  have c := RD_cur hG q
  obtain ⟨e6, e3, m6⟩ := cur_nI c
  have z2 : (12 : Int32).toInt = 12 := rfl
  unfold d104 d206
  rw [in_i, c.1.1.1]
  by_cases h1 : 0 ≤ n.toInt ∧ n.toInt ≤ 12
  · rw [if_neg (show ¬ n < 0 by rw [lt0_t]; omega), if_pos (show n ≤ 12 by rw [le_t, z2]; exact h1.2), if_pos (show (0 : Int64).toInt ≤ n.toInt ∧ n.toInt ≤ (12 : Int64).toInt from h1), if_neg one0]
    by_cases h2 : I 4 1 6 = 0
    · rw [if_pos h2, if_pos h2]
      exact ⟨_, _, rfl, rfl, hL⟩
    · rw [if_neg h2, if_neg h2]
      have gi : ∀ i, i < mP I → 0 ≤ (d36 1 (nI i) I).toInt ∧ (d36 1 (nI i) I).toInt ≤ 9 := fun i hi => got_g c (by rw [nI_c (by omega)]; exact hi)
      have ci : ∀ i, i < mP I → 0 ≤ (d35 1 (nI i) 1 I).toInt ∧ (d35 1 (nI i) 1 I).toInt ≤ 99 := fun i hi => cost_b c (by rw [nI_c (by omega)]; exact hi)
      have n0 : ∀ i, i < mP I → 0 ≤ (nI i).toInt := fun i hi => by have : (nI i).toInt = (i : Int) := nI_toInt (by omega); omega
      have q0 := q12 h1
      have ml := mid_l (y1 := n) (I := I) (c := fun i => (d35 1 (nI i) 1 I).toInt) m6 e6 (fun i _ => rfl) (mP I) 0 70 (by omega) (by omega)
      have am := all_m (J := J) (y1 := 0) (y2 := n) (y3 := 1) (h := fun i => (d36 1 (nI i) I).toInt) (c := fun i => (d35 1 (nI i) 1 I).toInt) m6 e3 rfl q0 (fun i hi => by rw [got_cm c (n0 i hi) (by rw [nI_c (by omega)]; exact hi)]) (fun i hi => by rw [cost_cm hG c (n0 i hi) (by rw [nI_c (by omega)]; exact hi)]) gi ci (by omega)
      rw [if_neg one0] at am
      have mp : mP I ≠ 0 := fun z => h2 (by rw [e6, z]; rfl)
      obtain ⟨k, hk⟩ : ∃ k, mP I = k + 1 := ⟨mP I - 1, by omega⟩
      have sb := chS_b (mP I) ci
      rw [hk] at am ml sb
      rw [chB_id (by omega)] at am
      generalize chS (fun i => (d35 1 (nI i) 1 I).toInt) (k + 1) = S at am ml sb
      have pw := p12_6 (m := k) (by omega)
      have pw2 := p12_6 (m := k + 1) (by omega)
      have sB : 0 ≤ S ∧ S ≤ 594 := by omega
      have u0 : 0 ≤ (12 - n.toInt) * S := Int.mul_nonneg (by omega) sB.1
      have u1 : (12 - n.toInt) * S ≤ 12 * 594 := Int.mul_le_mul (by omega) sB.2 sB.1 (by omega)
      have u2 : 0 ≤ (12 - n.toInt) * S * 12 ^ k := Int.mul_nonneg u0 (by omega)
      have u3 : (12 - n.toInt) * S * 12 ^ k ≤ (12 * 594) * 2985984 := Int.mul_le_mul u1 pw.2 (by omega) (by omega)
      have s1 : Int64.ofInt S * Int32.toInt64 (12 - n) = Int64.ofInt ((12 - n.toInt) * S) := by rw [sx64, q0, ← Int64.ofInt_mul, Int.mul_comm]
      have t1 := of64 u0 (by omega)
      have t2 := of64 u2 (by omega)
      have t3 := of64 (z := 12 ^ (k + 1)) (by omega) (by omega)
      have t4 : (12 : Int64).toInt = 12 := rfl
      have kk : ((12 ^ k : Nat) : Int) = (12 : Int) ^ k := by rw [Int.natCast_pow]; rfl
      have k0 : 0 < 12 ^ k := Nat.pow_pos (by decide)
      obtain ⟨R, R', r1, r2, r3⟩ := rat_eq (a := Int64.ofInt ((12 - n.toInt) * S)) (b := 12) (a' := Int64.ofInt ((12 - n.toInt) * S * 12 ^ k)) (b' := Int64.ofInt (12 ^ (k + 1))) (k := 12 ^ k) (I := I) (J := J) (L := L) (L' := L') (by omega) (by omega) (by omega) k0 (by rw [t1, t2, kk]) (by rw [t3, t4, kk, Int.pow_succ, Int.mul_comm]) (by omega)
      have ml2 : d104_30 n I 70 0 0 = some (Int64.ofInt S) := ml
      unfold d204
      rw [ml2, am]
      dsimp only [Option.bind_some]
      rw [s1, r1, r2]
      exact ⟨_, _, rfl, rfl, r3⟩
  · rw [if_neg (show ¬ ((0 : Int64).toInt ≤ n.toInt ∧ n.toInt ≤ (12 : Int64).toInt) from h1), if_pos rfl]
    by_cases h3 : n < 0
    · rw [if_pos h3]
      exact ⟨_, _, rfl, rfl, hL⟩
    · rw [if_neg h3, if_neg (show ¬ n ≤ 12 from fun z => by rw [le_t, z2] at z; rw [lt0_t] at h3; exact h1 ⟨by omega, z⟩)]
      exact ⟨_, _, rfl, rfl, hL⟩
end
section
/-! the calls of 12s14 once more, with the longs left as they are; rate, odds, mid, upper, lower -/
theorem Pl81 {d : Nat} {a1 : Int32} {a2 : Int32} {I : jI} {L : jL} (hG : gG aGI I) (hJ : jJ I) (q : RD2 I I) : jPM d 81 [.inr (0, 0), .inl (.inl a1), .inl (.inl a2)] (I, L) (fun v σ => ((∃ r, d81 a1 a2 I = some r ∧ v = some (.inl (.inl r.1)) ∧ σ.1 = r.2) ∧ fr [19, 20, 22, 23, 5009, 5010, 5011, 5012, 5013, 5014, 5015] I σ.1) ∧ σ.2 = L) := by
  obtain ⟨r, r', e, -⟩ := buy_eq a1 a2 hG q
  exact jPM_and (jPM_and (D81 e ⟨r, e, rfl, rfl⟩) (Fx81 (fun _ I' L' f => f))) (D81 e rfl)
theorem Pl166 {d : Nat} {a1 : Int32} {a2 : Int32} {I I1 : jI} {L : jL} (hG : gG aGI I) (g1 : gG aGI I1) (hJ : jJ I) (q : RD2 I I) (f : fr [19, 20, 22, 23, 5009, 5010, 5011, 5012, 5013, 5014, 5015] I I1) : jPM d 166 [.inr (31, 0), .inl (.inl a1), .inl (.inl a2)] (I1, L) (fun v σ => ((∃ r, d166 a1 a2 I1 = some r ∧ v = some (.inl (.inl r.1)) ∧ σ.1 = r.2) ∧ fr [32] I1 σ.1) ∧ σ.2 = L) := by
  obtain ⟨r, r', -, e, -⟩ := buy_eq a1 a2 hG (RD_frM hG q f rfl)
  exact jPM_and (jPM_and (D166 e ⟨r', e, rfl, rfl⟩) (Fx166 (fun _ I' L' f => f))) (D166 e rfl)
theorem Pl82 {d : Nat} {I : jI} {L : jL} (hG : gG aGI I) (hJ : jJ I) (q : RD2 I I) : jPM d 82 [.inr (0, 0)] (I, L) (fun v σ => ((∃ r, d82 I = some r ∧ v = some (.inl (.inl r.1)) ∧ σ.1 = r.2) ∧ fr [19, 20, 22, 23, 5009, 5010, 5011, 5012, 5013, 5014, 5015] I σ.1) ∧ σ.2 = L) := by
  obtain ⟨r, r', e, -⟩ := week_eq hG q
  exact jPM_and (jPM_and (D82 e ⟨r, e, rfl, rfl⟩) (Fx82 (fun _ I' L' f => f))) (D82 e rfl)
theorem Pl168 {d : Nat} {I I1 : jI} {L : jL} (hG : gG aGI I) (g1 : gG aGI I1) (hJ : jJ I) (q : RD2 I I) (f : fr [19, 20, 22, 23, 5009, 5010, 5011, 5012, 5013, 5014, 5015] I I1) : jPM d 168 [.inr (31, 0)] (I1, L) (fun v σ => ((∃ r, d168 I1 = some r ∧ v = some (.inl (.inl r.1)) ∧ σ.1 = r.2) ∧ fr [32] I1 σ.1) ∧ σ.2 = L) := by
  obtain ⟨r, r', -, e, -⟩ := week_eq hG (RD_frM hG q f rfl)
  exact jPM_and (jPM_and (D168 e ⟨r', e, rfl, rfl⟩) (Fx168 (fun _ I' L' f => f))) (D168 e rfl)
theorem Pl83 {d : Nat} {a1 : Int32} {I : jI} {L : jL} (hG : gG aGI I) (hJ : jJ I) (q : RD2 I I) : jPM d 83 [.inr (0, 0), .inl (.inl a1)] (I, L) (fun v σ => ((∃ r, d83 a1 I = some r ∧ v = some (.inl (.inl r.1)) ∧ σ.1 = r.2) ∧ fr [19, 20, 22, 23, 5009, 5010, 5011, 5012, 5013, 5014, 5015] I σ.1) ∧ σ.2 = L) := by
  obtain ⟨r, r', e, -⟩ := shrink_eq a1 hG q
  exact jPM_and (jPM_and (D83 e ⟨r, e, rfl, rfl⟩) (Fx83 (fun _ I' L' f => f))) (D83 e rfl)
theorem Pl169 {d : Nat} {a1 : Int32} {I I1 : jI} {L : jL} (hG : gG aGI I) (g1 : gG aGI I1) (hJ : jJ I) (q : RD2 I I) (f : fr [19, 20, 22, 23, 5009, 5010, 5011, 5012, 5013, 5014, 5015] I I1) : jPM d 169 [.inr (31, 0), .inl (.inl a1)] (I1, L) (fun v σ => ((∃ r, d169 a1 I1 = some r ∧ v = some (.inl (.inl r.1)) ∧ σ.1 = r.2) ∧ fr [32] I1 σ.1) ∧ σ.2 = L) := by
  obtain ⟨r, r', -, e, -⟩ := shrink_eq a1 hG (RD_frM hG q f rfl)
  exact jPM_and (jPM_and (D169 e ⟨r', e, rfl, rfl⟩) (Fx169 (fun _ I' L' f => f))) (D169 e rfl)
theorem Pl84 {d : Nat} {a1 : Int32} {a2 : Int32} {I : jI} {L : jL} (hG : gG aGI I) (hJ : jJ I) (q : RD2 I I) : jPM d 84 [.inr (0, 0), .inl (.inl a1), .inl (.inl a2)] (I, L) (fun v σ => ((∃ r, d84 a1 a2 I = some r ∧ v = some (.inl (.inl r.1)) ∧ σ.1 = r.2) ∧ fr [19, 20, 22, 23, 5009, 5010, 5011, 5012, 5013, 5014, 5015] I σ.1) ∧ σ.2 = L) := by
  obtain ⟨r, r', e, -⟩ := price_eq a1 a2 hG q
  exact jPM_and (jPM_and (D84 e ⟨r, e, rfl, rfl⟩) (Fx84 (fun _ I' L' f => f))) (D84 e rfl)
theorem Pl171 {d : Nat} {a1 : Int32} {a2 : Int32} {I I1 : jI} {L : jL} (hG : gG aGI I) (g1 : gG aGI I1) (hJ : jJ I) (q : RD2 I I) (f : fr [19, 20, 22, 23, 5009, 5010, 5011, 5012, 5013, 5014, 5015] I I1) : jPM d 171 [.inr (31, 0), .inl (.inl a1), .inl (.inl a2)] (I1, L) (fun v σ => ((∃ r, d171 a1 a2 I1 = some r ∧ v = some (.inl (.inl r.1)) ∧ σ.1 = r.2) ∧ fr [32] I1 σ.1) ∧ σ.2 = L) := by
  obtain ⟨r, r', -, e, -⟩ := price_eq a1 a2 hG (RD_frM hG q f rfl)
  exact jPM_and (jPM_and (D171 e ⟨r', e, rfl, rfl⟩) (Fx171 (fun _ I' L' f => f))) (D171 e rfl)
theorem Pl85 {d : Nat} {a1 : Int32} {I : jI} {L : jL} (hG : gG aGI I) (hJ : jJ I) (q : RD2 I I) : jPM d 85 [.inr (0, 0), .inl (.inl a1)] (I, L) (fun v σ => ((∃ r, d85 a1 I = some r ∧ v = some (.inl (.inl r.1)) ∧ σ.1 = r.2) ∧ fr [19, 20, 22, 23, 5009, 5010, 5011, 5012, 5013, 5014, 5015] I σ.1) ∧ σ.2 = L) := by
  obtain ⟨r, r', e, -⟩ := card_eq a1 hG q
  exact jPM_and (jPM_and (D85 e ⟨r, e, rfl, rfl⟩) (Fx85 (fun _ I' L' f => f))) (D85 e rfl)
theorem Pl172 {d : Nat} {a1 : Int32} {I I1 : jI} {L : jL} (hG : gG aGI I) (g1 : gG aGI I1) (hJ : jJ I) (q : RD2 I I) (f : fr [19, 20, 22, 23, 5009, 5010, 5011, 5012, 5013, 5014, 5015] I I1) : jPM d 172 [.inr (31, 0), .inl (.inl a1)] (I1, L) (fun v σ => ((∃ r, d172 a1 I1 = some r ∧ v = some (.inl (.inl r.1)) ∧ σ.1 = r.2) ∧ fr [32] I1 σ.1) ∧ σ.2 = L) := by
  obtain ⟨r, r', -, e, -⟩ := card_eq a1 hG (RD_frM hG q f rfl)
  exact jPM_and (jPM_and (D172 e ⟨r', e, rfl, rfl⟩) (Fx172 (fun _ I' L' f => f))) (D172 e rfl)
theorem Pl86 {d : Nat} {a1 : Int32} {I : jI} {L : jL} (hG : gG aGI I) (hJ : jJ I) (q : RD2 I I) : jPM d 86 [.inr (0, 0), .inl (.inl a1)] (I, L) (fun v σ => ((∃ r, d86 a1 I = some r ∧ v = some (.inl (.inl r.1)) ∧ σ.1 = r.2) ∧ fr [18, 19, 20, 21, 22, 23, 5006, 5007, 5008, 5009, 5010, 5011, 5012, 5013, 5014, 5015] I σ.1) ∧ σ.2 = L) := by
  obtain ⟨r, r', e, -⟩ := undo_eq a1 hG hJ q
  exact jPM_and (jPM_and (D86 e ⟨r, e, rfl, rfl⟩) (Fx86 (fun _ I' L' f => f))) (D86 e rfl)
theorem Pl173 {d : Nat} {a1 : Int32} {I I1 : jI} {L : jL} (hG : gG aGI I) (g1 : gG aGI I1) (hJ : jJ I) (q : RD2 I I) (f : fr [18, 19, 20, 21, 22, 23, 5006, 5007, 5008, 5009, 5010, 5011, 5012, 5013, 5014, 5015] I I1) : jPM d 173 [.inr (31, 0), .inl (.inl a1)] (I1, L) (fun v σ => ((∃ r, d173 a1 I1 = some r ∧ v = some (.inl (.inl r.1)) ∧ σ.1 = r.2) ∧ fr [32] I1 σ.1) ∧ σ.2 = L) := by
  obtain ⟨r, r', -, e, -⟩ := undo_eq a1 hG hJ (RD_frM hG q f rfl)
  exact jPM_and (jPM_and (D173 e ⟨r', e, rfl, rfl⟩) (Fx173 (fun _ I' L' f => f))) (D173 e rfl)
theorem Pl87 {d : Nat} {a1 : Int32} {I : jI} {L : jL} (hG : gG aGI I) (hJ : jJ I) (q : RD2 I I) : jPM d 87 [.inr (0, 0), .inl (.inl a1)] (I, L) (fun v σ => ((∃ r, d87 a1 I = some r ∧ v = some (.inl (.inl r.1)) ∧ σ.1 = r.2) ∧ fr [6, 18, 19, 20, 21, 22, 23, 5006, 5007, 5008, 5009, 5010, 5011, 5012, 5013, 5014, 5015] I σ.1) ∧ σ.2 = L) := by
  obtain ⟨r, r', e, -⟩ := keep_eq a1 hG q
  exact jPM_and (jPM_and (D87 e ⟨r, e, rfl, rfl⟩) (Fx87 (fun _ I' L' f => f))) (D87 e rfl)
theorem Pl175 {d : Nat} {a1 : Int32} {I I1 : jI} {L : jL} (hG : gG aGI I) (g1 : gG aGI I1) (hJ : jJ I) (q : RD2 I I) (f : fr [6, 18, 19, 20, 21, 22, 23, 5006, 5007, 5008, 5009, 5010, 5011, 5012, 5013, 5014, 5015] I I1) : jPM d 175 [.inr (31, 0), .inl (.inl a1)] (I1, L) (fun v σ => ((∃ r, d175 a1 I1 = some r ∧ v = some (.inl (.inl r.1)) ∧ σ.1 = r.2) ∧ fr [32] I1 σ.1) ∧ σ.2 = L) := by
  obtain ⟨r, r', -, e, -⟩ := keep_eq a1 hG (RD_frM hG q f rfl)
  exact jPM_and (jPM_and (D175 e ⟨r', e, rfl, rfl⟩) (Fx175 (fun _ I' L' f => f))) (D175 e rfl)
theorem Pl88 {d : Nat} {a1 : Int32} {I : jI} {L : jL} (hG : gG aGI I) (hJ : jJ I) (q : RD2 I I) : jPM d 88 [.inr (0, 0), .inl (.inl a1)] (I, L) (fun v σ => ((∃ r, d88 a1 I = some r ∧ v = some (.inl (.inl r.1)) ∧ σ.1 = r.2) ∧ fr [12, 18, 19, 20, 21, 22, 23, 1013, 5006, 5007, 5008, 5009, 5010, 5011, 5012, 5013, 5014, 5015] I σ.1) ∧ σ.2 = L) := by
  obtain ⟨r, r', e, -⟩ := on_eq a1 hG q
  exact jPM_and (jPM_and (D88 e ⟨r, e, rfl, rfl⟩) (Fx88 (fun _ I' L' f => f))) (D88 e rfl)
theorem Pl176 {d : Nat} {a1 : Int32} {I I1 : jI} {L : jL} (hG : gG aGI I) (g1 : gG aGI I1) (hJ : jJ I) (q : RD2 I I) (f : fr [12, 18, 19, 20, 21, 22, 23, 1013, 5006, 5007, 5008, 5009, 5010, 5011, 5012, 5013, 5014, 5015] I I1) : jPM d 176 [.inr (31, 0), .inl (.inl a1)] (I1, L) (fun v σ => ((∃ r, d176 a1 I1 = some r ∧ v = some (.inl (.inl r.1)) ∧ σ.1 = r.2) ∧ fr [32, 39, 32013] I1 σ.1) ∧ σ.2 = L) := by
  obtain ⟨r, r', -, e, -⟩ := on_eq a1 hG (RD_frM hG q f rfl)
  exact jPM_and (jPM_and (D176 e ⟨r', e, rfl, rfl⟩) (Fx176 (fun _ I' L' f => f))) (D176 e rfl)
theorem Pl105 {d : Nat} {a1 : Int32} {a2 : Int32} {I : jI} {L : jL} (hG : gG aGI I) (hJ : jJ I) (q : RD2 I I) : jPM d 105 [.inr (0, 0), .inl (.inl a1), .inl (.inl a2)] (I, L) (fun v σ => ((∃ r, d105 a1 a2 I = some r ∧ v = some (.inl (.inl r.1)) ∧ σ.1 = r.2) ∧ fr [19, 20, 22, 23, 5009, 5010, 5011, 5012, 5013, 5014, 5015] I σ.1) ∧ σ.2 = L) := by
  obtain ⟨r, r', e, -⟩ := lots_eq a1 a2 hG hJ q
  exact jPM_and (jPM_and (D105 e ⟨r, e, rfl, rfl⟩) (Fx105 (fun _ I' L' f => f))) (D105 e rfl)
theorem Pl207 {d : Nat} {a1 : Int32} {a2 : Int32} {I I1 : jI} {L : jL} (hG : gG aGI I) (g1 : gG aGI I1) (hJ : jJ I) (q : RD2 I I) (f : fr [19, 20, 22, 23, 5009, 5010, 5011, 5012, 5013, 5014, 5015] I I1) : jPM d 207 [.inr (31, 0), .inl (.inl a1), .inl (.inl a2)] (I1, L) (fun v σ => ((∃ r, d207 a1 a2 I1 = some r ∧ v = some (.inl (.inl r.1)) ∧ σ.1 = r.2) ∧ fr [32] I1 σ.1) ∧ σ.2 = L) := by
  obtain ⟨r, r', -, e, -⟩ := lots_eq a1 a2 hG hJ (RD_frM hG q f rfl)
  exact jPM_and (jPM_and (D207 e ⟨r', e, rfl, rfl⟩) (Fx207 (fun _ I' L' f => f))) (D207 e rfl)
theorem Pl77 {d : Nat} {a1 : Int32} {I : jI} {L : jL} (hG : gG aGI I) (hJ : jJ I) (hT : RT I) (q : RD2 I I) : jPM d 77 [.inr (0, 0), .inl (.inl a1)] (I, L) (fun v σ => ((∃ r, d77 a1 I = some r ∧ v = some (.inl (.inl r.1)) ∧ σ.1 = r.2) ∧ fr [6, 12, 17, 18, 19, 20, 21, 22, 23, 1013, 4002, 4003, 4004, 5006, 5007, 5008, 5009, 5010, 5011, 5012, 5013, 5014, 5015] I σ.1) ∧ σ.2 = L) := by
  obtain ⟨r, r', e, -⟩ := house_eq2 a1 hG hG hJ hT rfl rfl q
  exact jPM_and (jPM_and (D77 e ⟨r, e, rfl, rfl⟩) (Fx77 (fun _ I' L' f => f))) (D77 e rfl)
theorem Pl150 {d : Nat} {a1 : Int32} {I I1 : jI} {L : jL} (hG : gG aGI I) (g1 : gG aGI I1) (hJ : jJ I) (hT : RT I) (q : RD2 I I) (f : fr [6, 12, 17, 18, 19, 20, 21, 22, 23, 1013, 4002, 4003, 4004, 5006, 5007, 5008, 5009, 5010, 5011, 5012, 5013, 5014, 5015] I I1) : jPM d 150 [.inr (31, 0), .inl (.inl a1)] (I1, L) (fun v σ => ((∃ r, d150 a1 I1 = some r ∧ v = some (.inl (.inl r.1)) ∧ σ.1 = r.2) ∧ fr [32, 33, 34, 39, 40, 32001, 32002, 32003, 32013, 32015, 32016, 32017, 32018, 32019, 32021] I1 σ.1) ∧ σ.2 = L) := by
  obtain ⟨r, r', -, e, -⟩ := house_eq2 a1 hG g1 hJ hT (fr_arr f (fun _ => rfl) rfl) (fr_arr f (fun _ => rfl) rfl) (RD_frM hG q f rfl)
  exact jPM_and (jPM_and (D150 e ⟨r', e, rfl, rfl⟩) (Fx150 (fun _ I' L' f => f))) (D150 e rfl)
noncomputable def rlC : List aR := [(0, (0, 0), (15, 16))]
noncomputable def rlM : List aR := [(31, (0, 0), (11, 12))]
theorem RL_mid {W : List aR} {I I1 : jI} {L L1 : jL} (hw : rApart W rlM = true) (q : RLo L L) (h : gR W I L I1 L1) : RLo L L1 := by
  refine ⟨?_, ?_⟩
  · rw [(h 31 0 11 (rApart_of hw ⟨(31, (0, 0), (11, 12)), by decide, rfl, by decide, by decide, by decide, by decide⟩)).2]; exact q.1
  · rw [(h 31 0 12 (rApart_of hw ⟨(31, (0, 0), (11, 12)), by decide, rfl, by decide, by decide, by decide, by decide⟩)).2]; exact q.2
theorem RL_end {W : List aR} {I I1 : jI} {L L1 : jL} (hw : rApart W rlC = true) (q : RLo L L1) (h : gR W I L I1 L1) : RLo L1 L1 := by
  refine ⟨?_, ?_⟩
  · rw [q.1, (h 0 0 15 (rApart_of hw ⟨(0, (0, 0), (15, 16)), by decide, rfl, by decide, by decide, by decide, by decide⟩)).2]
  · rw [q.2, (h 0 0 16 (rApart_of hw ⟨(0, (0, 0), (15, 16)), by decide, rfl, by decide, by decide, by decide, by decide⟩)).2]
theorem RL_gR {W : List aR} {I I1 : jI} {L L1 : jL} (h1 : rApart W rlC = true) (h2 : rApart W rlM = true) (q : RLo L L) (h : gR W I L I1 L1) : RLo L1 L1 := RL_end h1 (RL_mid h2 q h) h
theorem RL_is {L L1 L2 : jL} (q : RLo L L) (h1 : L1 = L) (h2 : L2 = L1) : RLo L2 L2 := by subst h1; subst h2; exact q
theorem Pw90 {d : Nat} {a1 : Int32} {I : jI} {L : jL} {K : jK} (hG : gG aGI I) (q : RD2 I I) (hL : RLo L L) (hK : jPM d 90 [.inr (0, 0), .inl (.inl a1)] (I, L) K) : jPM d 90 [.inr (0, 0), .inl (.inl a1)] (I, L) (fun v σ => (∃ r, d90 a1 I L = some r ∧ σ.2 = r.2) ∧ K v σ) := by
  obtain ⟨r, r', e, e', -⟩ := rate_eq2 L L a1 hG q hL
  exact jPM_and (D90 e ⟨r, e, rfl⟩) hK
theorem Pw179 {d : Nat} {a1 : Int32} {I I1 : jI} {L L1 : jL} {K : jK} (hG : gG aGI I) (q : RD2 I I1) (hL : RLo L L1) (hK : jPM d 179 [.inr (31, 0), .inl (.inl a1)] (I1, L1) K) : jPM d 179 [.inr (31, 0), .inl (.inl a1)] (I1, L1) (fun v σ => (∃ r, d179 a1 I1 L1 = some r ∧ σ.2 = r.2) ∧ K v σ) := by
  obtain ⟨r, r', e, e', -⟩ := rate_eq2 L L1 a1 hG q hL
  exact jPM_and (D179 e' ⟨r', e', rfl⟩) hK
theorem Qw90 {a1 : Int32} {I I1 : jI} {L L1 L2 : jL} (hG : gG aGI I) (q : RD2 I I1) (hL : RLo L L1) (q1 : ∃ r, d90 a1 I L = some r ∧ L1 = r.2) (q2 : ∃ r, d179 a1 I1 L1 = some r ∧ L2 = r.2) : RLo L1 L2 := by
  obtain ⟨r, r', e, e', k⟩ := rate_eq2 L L1 a1 hG q hL
  obtain ⟨s, c1, c2⟩ := q1
  obtain ⟨s', b1, b2⟩ := q2
  rw [e] at c1
  rw [e'] at b1
  cases c1
  cases b1
  rw [c2, b2]
  exact k.2
theorem Pw103 {d : Nat} {a1 : Int32} {a2 : Int32} {I : jI} {L : jL} {K : jK} (hG : gG aGI I) (q : RD2 I I) (hL : RLo L L) (hK : jPM d 103 [.inr (0, 0), .inl (.inl a1), .inl (.inl a2)] (I, L) K) : jPM d 103 [.inr (0, 0), .inl (.inl a1), .inl (.inl a2)] (I, L) (fun v σ => (∃ r, d103 a1 a2 I L = some r ∧ σ.2 = r.2) ∧ K v σ) := by
  obtain ⟨r, r', e, e', -⟩ := odds_eq2 L L a1 a2 hG q hL
  exact jPM_and (D103 e ⟨r, e, rfl⟩) hK
theorem Pw205 {d : Nat} {a1 : Int32} {a2 : Int32} {I I1 : jI} {L L1 : jL} {K : jK} (hG : gG aGI I) (q : RD2 I I1) (hL : RLo L L1) (hK : jPM d 205 [.inr (31, 0), .inl (.inl a1), .inl (.inl a2)] (I1, L1) K) : jPM d 205 [.inr (31, 0), .inl (.inl a1), .inl (.inl a2)] (I1, L1) (fun v σ => (∃ r, d205 a1 a2 I1 L1 = some r ∧ σ.2 = r.2) ∧ K v σ) := by
  obtain ⟨r, r', e, e', -⟩ := odds_eq2 L L1 a1 a2 hG q hL
  exact jPM_and (D205 e' ⟨r', e', rfl⟩) hK
theorem Qw103 {a1 : Int32} {a2 : Int32} {I I1 : jI} {L L1 L2 : jL} (hG : gG aGI I) (q : RD2 I I1) (hL : RLo L L1) (q1 : ∃ r, d103 a1 a2 I L = some r ∧ L1 = r.2) (q2 : ∃ r, d205 a1 a2 I1 L1 = some r ∧ L2 = r.2) : RLo L1 L2 := by
  obtain ⟨r, r', e, e', k⟩ := odds_eq2 L L1 a1 a2 hG q hL
  obtain ⟨s, c1, c2⟩ := q1
  obtain ⟨s', b1, b2⟩ := q2
  rw [e] at c1
  rw [e'] at b1
  cases c1
  cases b1
  rw [c2, b2]
  exact k
theorem Pw104 {d : Nat} {a1 : Int32} {I : jI} {L : jL} {K : jK} (hG : gG aGI I) (q : RD2 I I) (hL : RLo L L) (hK : jPM d 104 [.inr (0, 0), .inl (.inl a1)] (I, L) K) : jPM d 104 [.inr (0, 0), .inl (.inl a1)] (I, L) (fun v σ => (∃ r, d104 a1 I L = some r ∧ σ.2 = r.2) ∧ K v σ) := by
  obtain ⟨r, r', e, e', -⟩ := mid_eq2 L L a1 hG q hL
  exact jPM_and (D104 e ⟨r, e, rfl⟩) hK
theorem Pw206 {d : Nat} {a1 : Int32} {I I1 : jI} {L L1 : jL} {K : jK} (hG : gG aGI I) (q : RD2 I I1) (hL : RLo L L1) (hK : jPM d 206 [.inr (31, 0), .inl (.inl a1)] (I1, L1) K) : jPM d 206 [.inr (31, 0), .inl (.inl a1)] (I1, L1) (fun v σ => (∃ r, d206 a1 I1 L1 = some r ∧ σ.2 = r.2) ∧ K v σ) := by
  obtain ⟨r, r', e, e', -⟩ := mid_eq2 L L1 a1 hG q hL
  exact jPM_and (D206 e' ⟨r', e', rfl⟩) hK
theorem Qw104 {a1 : Int32} {I I1 : jI} {L L1 L2 : jL} (hG : gG aGI I) (q : RD2 I I1) (hL : RLo L L1) (q1 : ∃ r, d104 a1 I L = some r ∧ L1 = r.2) (q2 : ∃ r, d206 a1 I1 L1 = some r ∧ L2 = r.2) : RLo L1 L2 := by
  obtain ⟨r, r', e, e', k⟩ := mid_eq2 L L1 a1 hG q hL
  obtain ⟨s, c1, c2⟩ := q1
  obtain ⟨s', b1, b2⟩ := q2
  rw [e] at c1
  rw [e'] at b1
  cases c1
  cases b1
  rw [c2, b2]
  exact k
theorem Pv108 {d : Nat} {I : jI} {L : jL} {K : jK} (hK : jPM d 108 [.inr (0, 0)] (I, L) K) : jPM d 108 [.inr (0, 0)] (I, L) (fun v σ => v = some (.inl (.inr (L 0 0 16))) ∧ K v σ) := jPM_and (D108 rfl rfl) hK
theorem Pv210 {d : Nat} {I : jI} {L : jL} {K : jK} (hK : jPM d 210 [.inr (31, 0)] (I, L) K) : jPM d 210 [.inr (31, 0)] (I, L) (fun v σ => v = some (.inl (.inr (L 31 0 12))) ∧ K v σ) := jPM_and (D210 rfl rfl) hK
theorem Qv108 {x1 x2 : Int64} {L L1 : jL} (h : RLo L L1) (q1 : (some (.inl (.inr x1)) : Option jV) = some (.inl (.inr (L 0 0 16)))) (q2 : (some (.inl (.inr x2)) : Option jV) = some (.inl (.inr (L1 31 0 12)))) : lg_cmp x1 x2 = 0 := by
  cases q1
  cases q2
  rw [h.2, cmp_lg]
  exact cmpI_0.mpr rfl
end
