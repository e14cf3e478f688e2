section
/-! chances: the sum over all sets, and the table of ways -/
noncomputable def chB (p q : Int) (h : Nat → Int) : Nat → (Int → Int) → Int
  | 0, f => f 0
  | i + 1, f => p * chB p q h i f + q * chB p q h i (fun x => f (x + h i))
theorem chB_congr {p q : Int} {h : Nat → Int} : ∀ (m : Nat) (f g : Int → Int), (∀ i, i < m → 0 ≤ h i ∧ h i ≤ 9) → (∀ x, 0 ≤ x → x ≤ 9 * (m : Int) → f x = g x) → chB p q h m f = chB p q h m g
  | 0, f, g, _, e => e 0 (by omega) (by omega)
  | m + 1, f, g, hh, e => by
    have b := hh m (by omega)
    show p * chB p q h m f + q * chB p q h m (fun x => f (x + h m)) = p * chB p q h m g + q * chB p q h m (fun x => g (x + h m))
    rw [chB_congr m f g (fun i hi => hh i (by omega)) (fun x x0 x9 => e x x0 (by omega)),
      chB_congr m (fun x => f (x + h m)) (fun x => g (x + h m)) (fun i hi => hh i (by omega)) (fun x x0 x9 => e (x + h m) (by omega) (by omega))]
noncomputable def chD (g : Nat) (x : Int) : Int := if x = (g : Int) then 1 else 0
theorem chT {p q : Int} {h : Nat → Int} {m : Nat} (hh : ∀ i, i < m + 1 → 0 ≤ h i ∧ h i ≤ 9) (g : Nat) : chB p q h (m + 1) (chD g) = chB p q h m (chD g) * p + (if (g : Int) < h m then 0 else chB p q h m (chD (g - (h m).toNat))) * q := by
  have b := hh m (by omega)
  show p * chB p q h m (chD g) + q * chB p q h m (fun x => chD g (x + h m)) = _
  by_cases c : (g : Int) < h m
  · rw [if_pos c, chB_congr m (fun x => chD g (x + h m)) (fun _ => 0) (fun i hi => hh i (by omega)) (fun x x0 _ => by
      show (if x + h m = (g : Int) then (1 : Int) else 0) = 0
      rw [if_neg (by omega)])]
    have z : chB p q h m (fun _ => 0) = 0 := by
      have : ∀ m, chB p q h m (fun _ => 0) = 0 := fun m => by
        induction m with
        | zero => rfl
        | succ m ih => show p * chB p q h m (fun _ => 0) + q * chB p q h m (fun _ => 0) = 0; rw [ih]; omega
      exact this m
    rw [z, Int.mul_comm p]
    omega
  · rw [if_neg c, chB_congr m (fun x => chD g (x + h m)) (chD (g - (h m).toNat)) (fun i hi => hh i (by omega)) (fun x x0 _ => by
      show (if x + h m = (g : Int) then (1 : Int) else 0) = (if x = ((g - (h m).toNat : Nat) : Int) then (1 : Int) else 0)
      by_cases d : x + h m = (g : Int)
      · rw [if_pos d, if_pos (by omega)]
      · rw [if_neg d, if_neg (by omega)])]
    rw [Int.mul_comm p, Int.mul_comm q]
end
section
/-! chances: the reference runs through all sets -/
theorem nI_as {n : Int32} {j : Nat} (h : n.toInt = (j : Int)) (hj : j ≤ 1000) : n = nI j := eq_t.mpr (by rw [h, nI_toInt (by omega)])
theorem nI_up {j : Nat} (h : j ≤ 900) : nI j + 1 = nI (j + 1) := by
  have a : (nI j).toInt = (j : Int) := nI_toInt (by omega)
  exact nI_as (by rw [i32_inc (by omega), a]; omega) (by omega)
theorem sx64 (x : Int32) : Int32.toInt64 x = Int64.ofInt x.toInt := by rw [← t64, Int64.ofInt_toInt]
end
section
/-! chances: the class's table of ways -/
noncomputable def wyL (p q : Int64) (w : Int32) (n : Nat) (L : jL) : jL := fun g o j => if g = 11 ∧ o = 0 ∧ j < n then L 11 0 j * p + (if (j : Int) < w.toInt then 0 else L 11 0 (j - w.toNatClampNeg)) * q else L g o j
theorem wy_0 {p q : Int64} {w : Int32} {L : jL} : wyL p q w 0 L = L := by
  funext g o j
  unfold wyL
  rw [if_neg (fun z => Nat.not_lt_zero _ z.2.2)]
theorem wy_s {p q v : Int64} {w : Int32} {n : Nat} {L : jL} (e : v = L 11 0 n * p + (if (n : Int) < w.toInt then 0 else L 11 0 (n - w.toNatClampNeg)) * q) : wyL p q w n (jupL L 11 0 n v) = wyL p q w (n + 1) L := by
  funext g o j
  unfold wyL
  by_cases c : g = 11 ∧ o = 0 ∧ j < n
  · rw [if_pos c, if_pos (show g = 11 ∧ o = 0 ∧ j < n + 1 from ⟨c.1, c.2.1, by omega⟩), jupL_of (show ¬ (11 = 11 ∧ 0 = 0 ∧ j = n) by omega), jupL_of (show ¬ (11 = 11 ∧ 0 = 0 ∧ j - w.toNatClampNeg = n) by omega)]
  · rw [if_neg c]
    by_cases d : g = 11 ∧ o = 0 ∧ j = n
    · obtain ⟨rfl, rfl, rfl⟩ := d
      rw [if_pos ⟨rfl, rfl, Nat.lt_succ_self _⟩, ← e]
      unfold jupL
      rw [if_pos ⟨rfl, rfl, rfl⟩]
    · rw [if_neg (fun z => by omega), jupL_of d]
theorem way_l {y1 y4 w : Int32} {y2 : Int64} {I : jI} (h5 : 0 ≤ w.toInt ∧ w.toInt ≤ 9) : ∀ (n F : Nat) (x : Int32) (L : jL), x.toInt + 1 = (n : Int) → n ≤ 55 → n < F → d122_53 y1 y2 y4 w I F x L = some (wyL (Int32.toInt64 y1) (Int32.toInt64 (12 - y1)) w n L)
  | _, 0, _, _, _, _, hF => absurd hF (Nat.not_lt_zero _)
  | 0, F + 1, x, L, hx, _, _ => by
    rw [d122_53, if_pos (show x < 0 by rw [lt0_t]; omega), wy_0]
  | n + 1, F + 1, x, L, hx, hn, hF => by
    have xc : x.toNatClampNeg = n := by have := cl_t (x := x) (by omega); omega
    have wc := cl_t h5.1
    have z1 : (-1 : Int32).toInt = -1 := rfl
    have x1 : (x + (-1)).toInt = x.toInt - 1 := by rw [i32_add (by omega), z1]; omega
    rw [d122_53, if_neg (show ¬ x < 0 by rw [lt0_t]; omega), xc]
    by_cases c : x < w
    · rw [if_pos c, way_l h5 n F _ _ (by omega) (by omega) (by omega)]
      rw [lt_t] at c
      rw [wy_s (by rw [if_pos (by omega)])]
    · rw [if_neg c, way_l h5 n F _ _ (by omega) (by omega) (by omega)]
      rw [lt_t] at c
      have xw : (x - w).toInt = x.toInt - w.toInt := i32_sub (by omega)
      have xwc : (x - w).toNatClampNeg = n - w.toNatClampNeg := by have := cl_t (x := x - w) (by omega); omega
      rw [xwc, wy_s (by rw [if_neg (by omega)])]
theorem ways_l {y1 : Int32} {I : jI} {m : Nat} {p q : Int} {h : Nat → Int} (hm : m ≤ 6) (e6 : I 4 1 6 = nI m) (ep : y1.toInt = p) (eq : ((12 : Int32) - y1).toInt = q) (eh : ∀ i, i < m → (d36 1 (nI i) I).toInt = h i) (hh : ∀ i, i < m → 0 ≤ h i ∧ h i ≤ 9) : ∀ (n i F : Nat) (L : jL), i + n = m → n < F → (∀ j, j < 55 → L 11 0 j = Int64.ofInt (chB p q h i (chD j))) → ∃ M, d122_20 y1 I F (Int64.ofInt (12 ^ i)) (nI i) L = some (Int64.ofInt (12 ^ m), M) ∧ ∀ j, j < 55 → M 11 0 j = Int64.ofInt (chB p q h m (chD j))
  | _, _, 0, _, _, hF, _ => absurd hF (Nat.not_lt_zero _)
  | 0, i, F + 1, L, hi, _, hL => by
    have : i = m := by omega
    subst this
    rw [d122_20, e6, if_pos (show nI i ≤ nI i by rw [le_t]; omega)]
    exact ⟨L, rfl, hL⟩
  | n + 1, i, F + 1, L, hi, hF, hL => by
    have a1 : (nI i).toInt = (i : Int) := nI_toInt (by omega)
    have a2 : (nI m).toInt = (m : Int) := nI_toInt (by omega)
    have b := hh i (by omega)
    have w0 := eh i (by omega)
    have wc := cl_t (x := d36 1 (nI i) I) (by omega)
    have p12 : Int64.ofInt (12 ^ i) * 12 = Int64.ofInt (12 ^ (i + 1)) := by rw [Int.pow_succ, Int64.ofInt_mul]; rfl
    rw [d122_20, e6, if_neg (show ¬ nI m ≤ nI i by rw [le_t]; omega), way_l (by omega) 55 70 54 L (by decide) (by decide) (by decide), Option.bind_some, nI_up (by omega), p12]
    refine ways_l hm e6 ep eq eh hh n (i + 1) F _ (by omega) (by omega) (fun j hj => ?_)
    unfold wyL
    rw [if_pos ⟨rfl, rfl, hj⟩, chT (fun k hk => hh k (by omega)), Int64.ofInt_add, Int64.ofInt_mul, Int64.ofInt_mul, hL j hj, w0, sx64, sx64, ep, eq]
    by_cases c : (j : Int) < h i
    · rw [if_pos c, if_pos c]; rfl
    · rw [if_neg c, if_neg c, hL _ (by omega), show (d36 1 (nI i) I).toNatClampNeg = (h i).toNat by omega]
theorem fill_w {I : jI} : ∀ (n F : Nat) (x : Int32) (L : jL), x.toInt + (n : Int) = 55 → 0 ≤ x.toInt → n < F → ∃ M, d1g11_6 0 (nI 55) I F x L = some M ∧ ∀ j, M 11 0 j = if x.toNatClampNeg ≤ j ∧ j < 55 then 0 else L 11 0 j
  | _, 0, _, _, _, _, hF => absurd hF (Nat.not_lt_zero _)
  | 0, F + 1, x, L, hx, x0, _ => by
    have xc := cl_t x0
    have a2 : (nI 55).toInt = 55 := rfl
    rw [d1g11_6, if_pos (show nI 55 ≤ x by rw [le_t]; omega)]
    exact ⟨L, rfl, fun j => by rw [if_neg (by omega)]⟩
  | n + 1, F + 1, x, L, hx, x0, hF => by
    have xc := cl_t x0
    have a2 : (nI 55).toInt = 55 := rfl
    have x1 := i32_inc (x := x) (by omega)
    have xd := cl_t (x := x + 1) (by omega)
    rw [d1g11_6, if_neg (show ¬ nI 55 ≤ x by rw [le_t]; omega)]
    obtain ⟨M, m1, m2⟩ := fill_w n F (x + 1) (jupL L 11 0 x.toNatClampNeg 0) (by omega) (by omega) (by omega)
    refine ⟨M, m1, fun j => ?_⟩
    rw [m2]
    by_cases c : j = x.toNatClampNeg
    · rw [if_neg (by omega), if_pos (by omega), c]
      unfold jupL
      rw [if_pos ⟨rfl, rfl, rfl⟩]
    · rw [jupL_of (fun z => c z.2.2)]
      by_cases d : (x + 1).toNatClampNeg ≤ j ∧ j < 55
      · rw [if_pos d, if_pos (by omega)]
      · rw [if_neg d, if_neg (by omega)]
theorem weigh {y1 : Int32} {I : jI} {L : jL} {m : Nat} {p q : Int} {h : Nat → Int} (hm : m ≤ 6) (e6 : I 4 1 6 = nI m) (ep : y1.toInt = p) (eq : ((12 : Int32) - y1).toInt = q) (eh : ∀ i, i < m → (d36 1 (nI i) I).toInt = h i) (hh : ∀ i, i < m → 0 ≤ h i ∧ h i ≤ 9) : ∃ M, d122 y1 I L = some (Int64.ofInt (12 ^ m), M) ∧ ∀ j, j < 55 → M 11 0 j = Int64.ofInt (chB p q h m (chD j)) := by
  obtain ⟨K, k1, k2⟩ := fill_w (I := I) 55 70 0 L (by decide) (by decide) (by decide)
  obtain ⟨M, m1, m2⟩ := ways_l (h := h) hm e6 ep eq eh hh m 0 70 (jupL K 11 0 (Int32.toNatClampNeg 0) 1) (by omega) (by omega) (fun j hj => by
    show _ = Int64.ofInt (if (0 : Int) = (j : Int) then 1 else 0)
    by_cases c : j = 0
    · subst c; rfl
    · have k3 := k2 j
      rw [if_pos (show Int32.toNatClampNeg 0 ≤ j ∧ j < 55 from ⟨Nat.zero_le _, hj⟩)] at k3
      rw [jupL_of (show ¬ (11 = 11 ∧ 0 = 0 ∧ j = Int32.toNatClampNeg 0) from fun z => c z.2.2), k3, if_neg (by omega)]
      rfl)
  refine ⟨M, ?_, m2⟩
  unfold d122 d1g11
  rw [k1, Option.bind_some, Option.bind_some]
  have m3 : d122_20 y1 I 70 1 0 (jupL K 11 0 (Int32.toNatClampNeg 0) 1) = some (Int64.ofInt (12 ^ m), M) := m1
  rw [m3, Option.bind_some]
end
