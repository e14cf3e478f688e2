section
/-! least: the table of the class against the reference's run through all numbers -/
noncomputable def bU : Int := 1000000
noncomputable def mnJ (T : Nat → Int) : Nat → Int
  | 0 => bU
  | j + 1 => if T j < mnJ T j then T j else mnJ T j
noncomputable def ixJ (T : Nat → Int) : Nat → Nat
  | 0 => 0
  | j + 1 => if T j < mnJ T j then j else ixJ T j
noncomputable def bB (c : Nat → Nat → Int) (g : Nat → Int) (m : Nat) : Nat → Int → Int
  | 0, w => if w ≤ 0 then 0 else bU
  | k + 1, w => mnJ (fun n => c (m - (k + 1)) n + bB c g m k (max 0 (w - n * g (m - (k + 1))))) 4
noncomputable def tT (c : Nat → Nat → Int) (g : Nat → Int) (m k : Nat) (w : Int) : Nat → Int := fun n => c (m - (k + 1)) n + bB c g m k (max 0 (w - n * g (m - (k + 1))))
noncomputable def fF (c : Nat → Nat → Int) (g : Nat → Int) (m : Nat) : Nat → Int → Nat
  | 0, _ => 0
  | k + 1, w => ixJ (tT c g m k w) 4 * 4 ^ k + fF c g m k (max 0 (w - (ixJ (tT c g m k w) 4 : Nat) * g (m - (k + 1))))
theorem bB_s {c : Nat → Nat → Int} {g : Nat → Int} {m k : Nat} {w : Int} : bB c g m (k + 1) w = mnJ (tT c g m k w) 4 := rfl
theorem mnJ_le (T : Nat → Int) : ∀ j, mnJ T j ≤ bU
  | 0 => Int.le_refl _
  | j + 1 => by
    have := mnJ_le T j
    show (if T j < mnJ T j then T j else mnJ T j) ≤ bU
    by_cases h : T j < mnJ T j
    · rw [if_pos h]; omega
    · rw [if_neg h]; exact this
theorem mnJ_min (T : Nat → Int) : ∀ j n, n < j → mnJ T j ≤ T n
  | 0, n, h => absurd h (Nat.not_lt_zero n)
  | j + 1, n, h => by
    show (if T j < mnJ T j then T j else mnJ T j) ≤ T n
    by_cases e : n = j
    · subst e
      by_cases q : T n < mnJ T n
      · rw [if_pos q]; exact Int.le_refl _
      · rw [if_neg q]; omega
    · have := mnJ_min T j n (by omega)
      by_cases q : T j < mnJ T j
      · rw [if_pos q]; omega
      · rw [if_neg q]; exact this
theorem ixJ_ok (T : Nat → Int) : ∀ j, mnJ T j < bU → ixJ T j < j ∧ T (ixJ T j) = mnJ T j ∧ ∀ n, n < ixJ T j → mnJ T j < T n
  | 0, h => absurd h (Int.lt_irrefl _)
  | j + 1, h => by
    by_cases q : T j < mnJ T j
    · have e1 : mnJ T (j + 1) = T j := if_pos q
      have e2 : ixJ T (j + 1) = j := if_pos q
      rw [e1, e2]
      refine ⟨Nat.lt_succ_self j, rfl, fun n hn => ?_⟩
      have := mnJ_min T j n hn
      omega
    · have e1 : mnJ T (j + 1) = mnJ T j := if_neg q
      have e2 : ixJ T (j + 1) = ixJ T j := if_neg q
      rw [e1] at h ⊢
      rw [e2]
      obtain ⟨a, b, d⟩ := ixJ_ok T j h
      exact ⟨by omega, b, d⟩
theorem ixJ_lt (T : Nat → Int) : ∀ j, ixJ T (j + 1) ≤ j
  | 0 => by
    show (if T 0 < mnJ T 0 then 0 else ixJ T 0) ≤ 0
    by_cases q : T 0 < mnJ T 0
    · rw [if_pos q]; exact Nat.le_refl _
    · rw [if_neg q]; exact Nat.le_refl _
  | j + 1 => by
    show (if T (j + 1) < mnJ T (j + 1) then j + 1 else ixJ T (j + 1)) ≤ j + 1
    by_cases q : T (j + 1) < mnJ T (j + 1)
    · rw [if_pos q]; exact Nat.le_refl _
    · rw [if_neg q]
      have := ixJ_lt T j
      omega
theorem fF_lt (c : Nat → Nat → Int) (g : Nat → Int) (m : Nat) : ∀ k w, fF c g m k w < 4 ^ k
  | 0, _ => Nat.lt_succ_self 0
  | k + 1, w => by
    have h1 := ixJ_lt (tT c g m k w) 3
    have h2 := fF_lt c g m k (max 0 (w - (ixJ (tT c g m k w) 4 : Nat) * g (m - (k + 1))))
    have h3 : ixJ (tT c g m k w) 4 * 4 ^ k ≤ 3 * 4 ^ k := Nat.mul_le_mul_right _ h1
    show ixJ (tT c g m k w) 4 * 4 ^ k + fF c g m k _ < 4 ^ (k + 1)
    rw [Nat.pow_succ]
    omega
/-- costs within 0 .. 297 -/
noncomputable def cOK (c : Nat → Nat → Int) : Prop := ∀ i n, n < 4 → 0 ≤ c i n ∧ c i n ≤ 297
theorem bB_b {c : Nat → Nat → Int} {g : Nat → Int} {m : Nat} (hc : cOK c) : ∀ k w, bB c g m k w = bU ∨ (0 ≤ bB c g m k w ∧ bB c g m k w ≤ 297 * (k : Int))
  | 0, w => by
    unfold bB
    by_cases h : w ≤ 0
    · rw [if_pos h]; exact Or.inr ⟨Int.le_refl _, by omega⟩
    · rw [if_neg h]; exact Or.inl rfl
  | k + 1, w => by
    rw [bB_s]
    by_cases h : mnJ (tT c g m k w) 4 < bU
    · obtain ⟨a, b, -⟩ := ixJ_ok _ 4 h
      have hcn := hc (m - (k + 1)) _ a
      have e : tT c g m k w (ixJ (tT c g m k w) 4) = c (m - (k + 1)) (ixJ (tT c g m k w) 4) + bB c g m k (max 0 (w - (ixJ (tT c g m k w) 4 : Nat) * g (m - (k + 1)))) := rfl
      rw [b] at e
      have q := bB_b (g := g) (m := m) hc k (max 0 (w - (ixJ (tT c g m k w) 4 : Nat) * g (m - (k + 1))))
      have hU : bU = 1000000 := rfl
      refine Or.inr ?_
      rcases q with q | q
      · rw [q] at e; omega
      · have : ((k + 1 : Nat) : Int) = (k : Int) + 1 := rfl
        rw [this]
        omega
    · exact Or.inl (Int.le_antisymm (mnJ_le _ 4) (by omega))
/-! cost and grams of a number, by its last k figures -/
noncomputable def dg (x k : Nat) : Nat := x / 4 ^ k % 4
noncomputable def cC (c : Nat → Nat → Int) (m : Nat) : Nat → Nat → Int
  | 0, _ => 0
  | k + 1, x => c (m - (k + 1)) (dg x k) + cC c m k x
noncomputable def gC (g : Nat → Int) (m : Nat) : Nat → Nat → Int
  | 0, _ => 0
  | k + 1, x => (dg x k : Nat) * g (m - (k + 1)) + gC g m k x
noncomputable def scn (f h : Nat → Int) (v : Int) : Nat → Nat → Int × Int → Int × Int
  | 0, _, s => s
  | n + 1, x, s => scn f h v n (x + 1) (if h x < v then s else if s.1 ≤ f x then s else (f x, (x : Int)))
theorem scn_add (f h : Nat → Int) (v : Int) : ∀ (a b x : Nat) (s : Int × Int), scn f h v (a + b) x s = scn f h v b (x + a) (scn f h v a x s)
  | 0, b, x, s => by rw [Nat.zero_add]; rfl
  | a + 1, b, x, s => by
    rw [show a + 1 + b = (a + b) + 1 by omega]
    show scn f h v (a + b) (x + 1) _ = scn f h v b (x + (a + 1)) (scn f h v a (x + 1) _)
    rw [scn_add f h v a b (x + 1), show x + 1 + a = x + (a + 1) by omega]
theorem scn_ext (f h f' h' : Nat → Int) (v v' : Int) : ∀ (n x : Nat) (s : Int × Int), (∀ y, x ≤ y → y < x + n → f y = f' y ∧ (h y < v ↔ h' y < v')) → scn f h v n x s = scn f' h' v' n x s
  | 0, _, _, _ => rfl
  | n + 1, x, s, e => by
    obtain ⟨e1, e2⟩ := e x (Nat.le_refl _) (by omega)
    show scn f h v n (x + 1) (if h x < v then s else if s.1 ≤ f x then s else (f x, (x : Int))) = scn f' h' v' n (x + 1) (if h' x < v' then s else if s.1 ≤ f' x then s else (f' x, (x : Int)))
    rw [scn_ext f h f' h' v v' n (x + 1) _ (fun y a b => e y (by omega) (by omega)), e1]
    by_cases q : h x < v
    · rw [if_pos q, if_pos (e2.mp q)]
    · rw [if_neg q, if_neg (fun z => q (e2.mpr z))]
theorem gC_ge {g : Nat → Int} {m : Nat} (hg : ∀ i, 0 ≤ g i) : ∀ k x, 0 ≤ gC g m k x
  | 0, _ => Int.le_refl _
  | k + 1, x => by
    have h1 := gC_ge hg k x (m := m)
    have h2 : 0 ≤ ((dg x k : Nat) : Int) * g (m - (k + 1)) := Int.mul_nonneg (by omega) (hg _)
    show 0 ≤ ((dg x k : Nat) : Int) * g (m - (k + 1)) + gC g m k x
    omega
theorem dg_blk {x k base n : Nat} (hb : base % 4 ^ (k + 1) = 0) (h1 : base + n * 4 ^ k ≤ x) (h2 : x < base + n * 4 ^ k + 4 ^ k) (hn : n < 4) : dg x k = n := by
  unfold dg
  obtain ⟨q, rfl⟩ : ∃ q, base = 4 ^ (k + 1) * q := ⟨base / 4 ^ (k + 1), by have := Nat.div_add_mod base (4 ^ (k + 1)); omega⟩
  have p : 0 < 4 ^ k := Nat.pow_pos (by decide)
  have e : x / 4 ^ k = 4 * q + n := by
    rw [Nat.pow_succ] at h1 h2
    have a1 : 4 ^ k * 4 * q = (4 * q) * 4 ^ k := by rw [Nat.mul_assoc, Nat.mul_comm]
    rw [a1] at h1 h2
    have l : (4 * q + n) * 4 ^ k ≤ x := by rw [Nat.add_mul]; omega
    have u : x < (4 * q + n + 1) * 4 ^ k := by rw [Nat.add_mul, Nat.add_mul, Nat.one_mul]; omega
    exact Nat.le_antisymm (Nat.lt_succ_iff.mp ((Nat.div_lt_iff_lt_mul p).mpr u)) ((Nat.le_div_iff_mul_le p).mpr l)
  rw [e]
  omega
noncomputable def upd2 (P : Int) (base : Nat) (b : Int) (y : Nat) (s : Int × Int) : Int × Int := if b < bU ∧ P + b < s.1 then (P + b, ((base + y : Nat) : Int)) else s
/-- the run over one block of numbers -/
theorem scn_blk {c : Nat → Nat → Int} {g : Nat → Int} {m : Nat} (hc : cOK c) (hg : ∀ i, 0 ≤ g i) : ∀ (k : Nat) (P w : Int) (base : Nat) (s : Int × Int), base % 4 ^ k = 0 → k ≤ 6 → 0 ≤ w → scn (fun x => P + cC c m k x) (gC g m k) w (4 ^ k) base s = upd2 P base (bB c g m k w) (fF c g m k w) s
  | 0, P, w, base, s, _, _, hw => by
    have hU : bU = 1000000 := rfl
    show (if (0 : Int) < w then s else if s.1 ≤ P + 0 then s else (P + 0, (base : Int))) = _
    unfold upd2 bB fF
    by_cases q : 0 < w
    · rw [if_pos q, if_neg (show ¬ w ≤ 0 by omega), if_neg (fun z => absurd z.1 (Int.lt_irrefl _))]
    · rw [if_neg q, if_pos (show w ≤ 0 by omega)]
      by_cases l : s.1 ≤ P + 0
      · rw [if_pos l, if_neg (fun z => by have := z.2; omega)]
      · rw [if_neg l, if_pos ⟨by omega, by omega⟩]
        rfl
  | k + 1, P, w, base, s, hb, hk, hw => by
    have hU : bU = 1000000 := rfl
    have p : 0 < 4 ^ k := Nat.pow_pos (by decide)
    have bm : ∀ n, (base + n * 4 ^ k) % 4 ^ k = 0 := fun n => by
      have : base % 4 ^ k = 0 := by
        have d1 : 4 ^ k ∣ 4 ^ (k + 1) := Nat.pow_dvd_pow 4 (by omega)
        have d2 : 4 ^ (k + 1) ∣ base := Nat.dvd_of_mod_eq_zero hb
        exact Nat.mod_eq_zero_of_dvd (Nat.dvd_trans d1 d2)
      rw [Nat.add_mul_mod_self_right]
      exact this
    -- j blocks
    have blk : ∀ j, j ≤ 4 → scn (fun x => P + cC c m (k + 1) x) (gC g m (k + 1)) w (j * 4 ^ k) base s = upd2 P base (mnJ (tT c g m k w) j) (ixJ (tT c g m k w) j * 4 ^ k + fF c g m k (max 0 (w - (ixJ (tT c g m k w) j : Nat) * g (m - (k + 1))))) s := by
      intro j
      induction j with
      | zero =>
        intro _
        rw [Nat.zero_mul]
        unfold upd2
        rw [if_neg (fun z => absurd z.1 (Int.lt_irrefl _))]
        rfl
      | succ j ih =>
        intro hj
        rw [show (j + 1) * 4 ^ k = j * 4 ^ k + 4 ^ k by rw [Nat.add_mul, Nat.one_mul], scn_add, ih (by omega)]
        have hcj := hc (m - (k + 1)) j (by omega)
        have ex := scn_ext (fun x => P + cC c m (k + 1) x) (gC g m (k + 1)) (fun x => (P + c (m - (k + 1)) j) + cC c m k x) (gC g m k) w (max 0 (w - (j : Nat) * g (m - (k + 1)))) (4 ^ k) (base + j * 4 ^ k) (upd2 P base (mnJ (tT c g m k w) j) (ixJ (tT c g m k w) j * 4 ^ k + fF c g m k (max 0 (w - (ixJ (tT c g m k w) j : Nat) * g (m - (k + 1))))) s) (fun y a b => by
          have e := dg_blk hb a b (by omega)
          have z := gC_ge hg k y (m := m)
          constructor
          · show P + (c (m - (k + 1)) (dg y k) + cC c m k y) = P + c (m - (k + 1)) j + cC c m k y
            rw [e]; omega
          · show ((dg y k : Nat) : Int) * g (m - (k + 1)) + gC g m k y < w ↔ gC g m k y < max 0 (w - (j : Nat) * g (m - (k + 1)))
            rw [e]; omega)
        rw [ex, scn_blk hc hg k (P + c (m - (k + 1)) j) (max 0 (w - (j : Nat) * g (m - (k + 1)))) (base + j * 4 ^ k) _ (bm j) (by omega) (by omega)]
        have q := bB_b hc k (max 0 (w - (j : Nat) * g (m - (k + 1)))) (g := g) (m := m)
        have eT : tT c g m k w j = c (m - (k + 1)) j + bB c g m k (max 0 (w - (j : Nat) * g (m - (k + 1)))) := rfl
        have le := mnJ_le (tT c g m k w) j
        have s1 : mnJ (tT c g m k w) (j + 1) = if tT c g m k w j < mnJ (tT c g m k w) j then tT c g m k w j else mnJ (tT c g m k w) j := rfl
        have s2 : ixJ (tT c g m k w) (j + 1) = if tT c g m k w j < mnJ (tT c g m k w) j then j else ixJ (tT c g m k w) j := rfl
        rw [s1, s2]
        generalize hX : bB c g m k (max 0 (w - (j : Nat) * g (m - (k + 1)))) = X at q eT
        generalize hM : mnJ (tT c g m k w) j = M at le
        generalize tT c g m k w j = T at eT
        have kk : (k : Int) ≤ 5 := by omega
        have X3 : X = bU ∨ (0 ≤ X ∧ X ≤ 1500) := by
          rcases q with q | q
          · exact Or.inl q
          · exact Or.inr ⟨q.1, by omega⟩
        by_cases l : T < M
        · rw [if_pos l, if_pos l]
          unfold upd2
          have X4 : 0 ≤ X ∧ X ≤ 1500 := by
            rcases X3 with z | z
            · omega
            · exact z
          by_cases a : M < bU ∧ P + M < s.1
          · rw [if_pos a]
            dsimp only
            rw [if_pos (show X < bU ∧ P + c (m - (k + 1)) j + X < P + M from ⟨by omega, by omega⟩), if_pos (show T < bU ∧ P + T < s.1 by omega)]
            rw [Nat.add_assoc]
            exact Prod.ext (by show P + c (m - (k + 1)) j + X = P + T; omega) rfl
          · rw [if_neg a]
            by_cases a2 : P + T < s.1
            · rw [if_pos (show X < bU ∧ P + c (m - (k + 1)) j + X < s.1 by omega), if_pos (show T < bU ∧ P + T < s.1 by omega), Nat.add_assoc]
              exact Prod.ext (by show P + c (m - (k + 1)) j + X = P + T; omega) rfl
            · rw [if_neg (show ¬ (X < bU ∧ P + c (m - (k + 1)) j + X < s.1) by omega), if_neg (show ¬ (T < bU ∧ P + T < s.1) by omega)]
        · rw [if_neg l, if_neg l]
          unfold upd2
          by_cases a : M < bU ∧ P + M < s.1
          · rw [if_pos a]
            dsimp only
            rw [if_neg (show ¬ (X < bU ∧ P + c (m - (k + 1)) j + X < P + M) from fun z => by
              have z2 : P + c (m - (k + 1)) j + X < P + M := z.2
              omega)]
          · rw [if_neg a, if_neg (show ¬ (X < bU ∧ P + c (m - (k + 1)) j + X < s.1) by rcases X3 with z | z <;> omega)]
    have b4 := blk 4 (Nat.le_refl _)
    rw [show 4 * 4 ^ k = 4 ^ (k + 1) by rw [Nat.pow_succ]; omega] at b4
    exact b4
end
section
/-! the class's table -/
noncomputable def cI (I : jI) (m : Nat) (i n : Nat) : Int := if i < m ∧ n < 4 then (kost (I 18 1 i) (nI n) (I 20 1 i) (I 4 1 14)).toInt else 0
noncomputable def gI1 (I : jI) (m : Nat) (i : Nat) : Int := if i < m then (gotS (I 18 1 i) (I 19 1 i)).toInt else 0
theorem nI_is {n : Int32} {j : Nat} (h : n.toInt = (j : Int)) (hj : j ≤ 1000) : n = nI j := eq_t.mpr (by rw [h, nI_toInt (by omega)])
theorem cost_3 {k n p c : Int32} (hn : 0 ≤ n.toInt ∧ n.toInt ≤ 3) (hp : 0 ≤ p.toInt ∧ p.toInt ≤ 99) : 0 ≤ (kost k n p c).toInt ∧ (kost k n p c).toInt ≤ 297 := by
  have h1 : 0 ≤ n.toInt * p.toInt := Int.mul_nonneg hn.1 hp.1
  have h2 : n.toInt * p.toInt ≤ 3 * 99 := Int.mul_le_mul hn.2 hp.2 hp.1 (by decide)
  have e1 : (n * p).toInt = n.toInt * p.toInt := i32_mul (by omega)
  have e6 : 0 ≤ (d6 (n * p) c zI).toInt ∧ (d6 (n * p) c zI).toInt ≤ 297 := by
    unfold d6
    by_cases h : c = 0
    · rw [if_pos h, e1]; omega
    · rw [if_neg h]
      have three : (3 : Int32).toInt = 3 := rfl
      have four : (4 : Int32).toInt = 4 := rfl
      have e3 : (n * p * 3).toInt = n.toInt * p.toInt * 3 := by rw [i32_mul (by rw [e1, three]; omega), e1, three]
      rw [td32 (by decide), e3, four, Int.tdiv_eq_ediv_of_nonneg (by omega)]
      omega
  have eh : 0 ≤ ((n - n / 3) * p).toInt ∧ ((n - n / 3) * p).toInt ≤ 297 := by
    have three : (3 : Int32).toInt = 3 := rfl
    have q : (n / 3).toInt = n.toInt / 3 := by rw [td32 (by decide), three, Int.tdiv_eq_ediv_of_nonneg hn.1]
    have r : (n - n / 3).toInt = n.toInt - n.toInt / 3 := by rw [i32_sub (by omega), q]
    have s1 : 0 ≤ (n.toInt - n.toInt / 3) * p.toInt := Int.mul_nonneg (by omega) hp.1
    have s2 : (n.toInt - n.toInt / 3) * p.toInt ≤ 3 * 99 := Int.mul_le_mul (by omega) hp.2 hp.1 (by decide)
    rw [i32_mul (by rw [r]; omega), r]
    omega
  unfold kost d5
  by_cases k1 : k = 1
  · rw [if_pos k1]; exact e6
  rw [if_neg k1]
  by_cases k2 : k = 2
  · rw [if_pos k2]; exact eh
  rw [if_neg k2]
  by_cases k3 : k = 3
  · have two : (2 : Int32).toInt = 2 := rfl
    rw [if_pos k3, td32 (by decide), e1, two, Int.tdiv_eq_ediv_of_nonneg (by omega)]
    omega
  rw [if_neg k3]
  by_cases k4 : k = 4
  · rw [if_pos k4]
    by_cases w : 0 < d6 (n * p) c zI - n
    · rw [if_pos w, i32_sub (by omega)]
      rw [lt_t, i32_sub (by omega)] at w
      have w : 0 < (d6 (n * p) c zI).toInt - n.toInt := w
      omega
    · rw [if_neg w]; decide
  rw [if_neg k4]
  by_cases k5 : k = 5
  · rw [if_pos k5]; exact eh
  rw [if_neg k5, e1]
  omega
theorem cI_ok {I J : jI} {m : Nat} (c : cur I J m) : cOK (cI I m) := fun i n hn => by
  unfold cI
  by_cases h : i < m ∧ n < 4
  · rw [if_pos h]
    exact cost_3 (by rw [nI_toInt (by omega)]; omega) (c.2.2.2.1.2.1 i h.1).2
  · rw [if_neg h]; decide
theorem gI1_b {I J : jI} {m : Nat} (c : cur I J m) (i : Nat) : 0 ≤ gI1 I m i ∧ gI1 I m i ≤ 9 := by
  unfold gI1
  by_cases h : i < m
  · rw [if_pos h]
    have g := (c.2.2.2.1.2.1 i h).1
    exact got_b ⟨by omega, g.2⟩
  · rw [if_neg h]; decide
/-- another state with the same house -/
noncomputable def smH (I S : jI) : Prop := ∀ g, ¬ g = 25 → ¬ g = 29 → ¬ g = 14 → S g = I g
theorem cost_s {I S : jI} {m : Nat} {x n : Int32} (hs : smH I S) (hx : x.toNatClampNeg < m) (hn : 0 ≤ n.toInt ∧ n.toInt ≤ 3) : (d35 1 x n S).toInt = cI I m x.toNatClampNeg n.toNatClampNeg := by
  have nn := cl_t hn.1
  unfold cI d35
  rw [if_pos ⟨hx, by omega⟩, hs 18 (by decide) (by decide) (by decide), hs 20 (by decide) (by decide) (by decide), hs 4 (by decide) (by decide) (by decide), cost_c, ← nI_is (n := n) (j := n.toNatClampNeg) (by omega) (by omega)]
theorem got_s {I S : jI} {m : Nat} {x : Int32} (hs : smH I S) (hx : x.toNatClampNeg < m) : (d36 1 x S).toInt = gI1 I m x.toNatClampNeg := by
  unfold gI1 d36
  rw [if_pos hx, hs 18 (by decide) (by decide) (by decide), hs 19 (by decide) (by decide) (by decide), got_c]
theorem left_s {I J S : jI} {m : Nat} {x n w : Int32} (c : cur I J m) (hs : smH I S) (hx : x.toNatClampNeg < m) (hn : 0 ≤ n.toInt ∧ n.toInt ≤ 3) (hw : 0 ≤ w.toInt ∧ w.toInt ≤ 30) : (d52 1 x n w S).toInt = max 0 (w.toInt - (n.toNatClampNeg : Nat) * gI1 I m x.toNatClampNeg) ∧ (d52 1 x n w S).toInt ≤ w.toInt := by
  have nn := cl_t hn.1
  have g := got_s (m := m) hs hx
  have gb := gI1_b c x.toNatClampNeg
  have h1 : 0 ≤ n.toInt * gI1 I m x.toNatClampNeg := Int.mul_nonneg hn.1 gb.1
  have h2 : n.toInt * gI1 I m x.toNatClampNeg ≤ 3 * 9 := Int.mul_le_mul hn.2 gb.2 gb.1 (by decide)
  have e1 : (n * d36 1 x S).toInt = n.toInt * gI1 I m x.toNatClampNeg := by rw [i32_mul (by rw [g]; omega), g]
  have e2 : (w - n * d36 1 x S).toInt = w.toInt - n.toInt * gI1 I m x.toNatClampNeg := by rw [i32_sub (by omega), e1]
  unfold d52
  rw [nn]
  generalize n.toInt * gI1 I m x.toNatClampNeg = q at *
  by_cases l : 0 < w - n * d36 1 x S
  · rw [if_pos l, e2]
    rw [lt_t, e2] at l
    have l : 0 < w.toInt - q := l
    omega
  · rw [if_neg l]
    rw [lt_t, e2] at l
    have l : ¬ 0 < w.toInt - q := l
    have z : (0 : Int32).toInt = 0 := rfl
    rw [z]
    omega
noncomputable def tab (I : jI) (m : Nat) (v : Int) (S : jI) (i : Nat) : Prop := ∀ gg : Nat, (gg : Int) ≤ v → (S 25 i gg).toInt = bB (cI I m) (gI1 I m) m (m - i) gg
theorem with_s {I J S : jI} {m : Nat} {x n w : Int32} {v : Int} (c : cur I J m) (hs : smH I S) (hx0 : 0 ≤ x.toInt) (hx : x.toNatClampNeg < m) (hn : 0 ≤ n.toInt ∧ n.toInt ≤ 3) (hw : 0 ≤ w.toInt ∧ w.toInt ≤ v) (hv : v ≤ 30) (t : tab I m v S (x.toNatClampNeg + 1)) : (d51 1 x n w S).toInt = tT (cI I m) (gI1 I m) m (m - (x.toNatClampNeg + 1)) w.toInt n.toNatClampNeg := by
  have hm := c.2.1.2
  have nx := cl_t hx0
  have e := i32_inc (x := x) (by omega)
  have xn : (x + 1).toNatClampNeg = x.toNatClampNeg + 1 := by
    have := cl_t (x := x + 1) (by omega)
    omega
  obtain ⟨l1, l2⟩ := left_s c hs hx hn ⟨hw.1, by omega⟩
  have l0 : 0 ≤ (d52 1 x n w S).toInt := by rw [l1]; omega
  have nl := cl_t l0
  have cs := cost_s (m := m) hs hx hn
  have cb := cI_ok c x.toNatClampNeg n.toNatClampNeg (by have := cl_t hn.1; omega)
  have tb := t (d52 1 x n w S).toNatClampNeg (by omega)
  rw [nl, l1] at tb
  have bb := bB_b (c := cI I m) (g := gI1 I m) (m := m) (cI_ok c) (m - (x.toNatClampNeg + 1)) (max 0 (w.toInt - (n.toNatClampNeg : Nat) * gI1 I m x.toNatClampNeg))
  have hU : bU = 1000000 := rfl
  unfold d51 tT
  rw [xn, show m - (m - (x.toNatClampNeg + 1) + 1) = x.toNatClampNeg by omega, i32_add (by rw [cs, tb]; rcases bb with z | z <;> omega), cs, tb]
theorem lf_l {I J S : jI} {m : Nat} {x w : Int32} {v : Int} (c : cur I J m) (hs : smH I S) (hx0 : 0 ≤ x.toInt) (hx : x.toNatClampNeg < m) (hw : 0 ≤ w.toInt ∧ w.toInt ≤ v) (hv : v ≤ 30) (t : tab I m v S (x.toNatClampNeg + 1)) : ∀ (N F : Nat) (a n : Int32), n.toInt + (N : Int) = 4 → 0 ≤ n.toInt → N < F → a.toInt = mnJ (tT (cI I m) (gI1 I m) m (m - (x.toNatClampNeg + 1)) w.toInt) n.toNatClampNeg → ∃ r, d50_7 1 x w S F a n = some r ∧ r.toInt = mnJ (tT (cI I m) (gI1 I m) m (m - (x.toNatClampNeg + 1)) w.toInt) 4
  | _, 0, _, _, _, _, h, _ => absurd h (by omega)
  | 0, F + 1, a, n, hn, h0, _, ha => by
    have nn := cl_t h0
    rw [d50_7, if_pos (show (3 : Int32) < n by rw [lt_t]; show (3 : Int) < _; omega)]
    exact ⟨_, rfl, by rw [ha, show n.toNatClampNeg = 4 by omega]⟩
  | N + 1, F + 1, a, n, hn, h0, hF, ha => by
    have nn := cl_t h0
    have e := i32_inc (x := n) (by omega)
    have n1 : (n + 1).toNatClampNeg = n.toNatClampNeg + 1 := by
      have := cl_t (x := n + 1) (by omega)
      omega
    have ws := with_s c hs hx0 hx ⟨h0, by omega⟩ hw hv t (n := n)
    rw [d50_7, if_neg (show ¬ (3 : Int32) < n by rw [lt_t]; show ¬ (3 : Int) < _; omega)]
    refine lf_l c hs hx0 hx hw hv t N F _ (n + 1) (by omega) (by omega) (by omega) ?_
    rw [n1]
    show _ = if tT (cI I m) (gI1 I m) m (m - (x.toNatClampNeg + 1)) w.toInt n.toNatClampNeg < mnJ (tT (cI I m) (gI1 I m) m (m - (x.toNatClampNeg + 1)) w.toInt) n.toNatClampNeg then _ else _
    rw [← ws, ← ha]
    by_cases l : d51 1 x n w S < a
    · rw [if_pos l, if_pos (lt_t.mp l)]
    · rw [if_neg l, if_neg (fun z => l (lt_t.mpr z))]
theorem lf_c {I J S : jI} {m : Nat} {x w : Int32} {v : Int} (c : cur I J m) (hs : smH I S) (hx0 : 0 ≤ x.toInt) (hx : x.toNatClampNeg < m) (hw : 0 ≤ w.toInt ∧ w.toInt ≤ v) (hv : v ≤ 30) (t : tab I m v S (x.toNatClampNeg + 1)) : ∃ r, d50 1 x w S = some r ∧ r.toInt = bB (cI I m) (gI1 I m) m (m - x.toNatClampNeg) w.toInt := by
  obtain ⟨r, e1, e2⟩ := lf_l c hs hx0 hx hw hv t 4 70 1000000 0 (by decide) (by decide) (by decide) rfl
  unfold d50
  rw [e1]
  refine ⟨r, rfl, ?_⟩
  rw [e2, show m - x.toNatClampNeg = (m - (x.toNatClampNeg + 1)) + 1 by omega]
  rfl
theorem rw_l {I J : jI} {m : Nat} {x v : Int32} (c : cur I J m) (hx0 : 0 ≤ x.toInt) (hx : x.toNatClampNeg < m) (hv : v.toInt ≤ 30) : ∀ (N F : Nat) (w : Int32) (S : jI), w.toInt + (N : Int) = v.toInt + 1 → 0 ≤ w.toInt → N < F → smH I S → tab I m v.toInt S (x.toNatClampNeg + 1) → (∀ gg : Nat, (gg : Int) < w.toInt → (S 25 x.toNatClampNeg gg).toInt = bB (cI I m) (gI1 I m) m (m - x.toNatClampNeg) gg) → ∃ T, d49_48 1 v x F w S = some T ∧ smH I T ∧ tab I m v.toInt T x.toNatClampNeg ∧ (∀ i, ¬ i = x.toNatClampNeg → T 25 i = S 25 i) ∧ ∀ g, ¬ g = 25 → T g = S g
  | _, 0, _, _, _, _, h, _, _, _ => absurd h (by omega)
  | 0, F + 1, w, S, hw, h0, _, hs, t, tx => by
    rw [d49_48, if_pos (show v < w by rw [lt_t]; omega)]
    exact ⟨_, rfl, hs, fun gg hg => tx gg (by omega), fun _ _ => rfl, fun _ _ => rfl⟩
  | N + 1, F + 1, w, S, hw, h0, hF, hs, t, tx => by
    have nw := cl_t h0
    have e := i32_inc (x := w) (by omega)
    obtain ⟨r, r1, r2⟩ := lf_c c hs hx0 hx (w := w) ⟨h0, by omega⟩ hv t
    rw [d49_48, if_neg (show ¬ v < w by rw [lt_t]; omega), r1]
    dsimp only [Option.bind_some]
    have o : ∀ i, ¬ i = x.toNatClampNeg → jup S 25 x.toNatClampNeg w.toNatClampNeg r 25 i = S 25 i := fun i hi => by
      funext j
      exact jup_of (fun z => hi z.2.1)
    obtain ⟨T, t1, t2, t3, t4, t5⟩ := rw_l c hx0 hx hv N F (w + 1) (jup S 25 x.toNatClampNeg w.toNatClampNeg r) (by omega) (by omega) (by omega) (fun g h1 h2 h3 => (jup_g h1).trans (hs g h1 h2 h3)) (fun gg hg => by rw [o _ (by omega)]; exact t gg hg) (fun gg hg => by
      rw [jup_c]
      by_cases q : gg = w.toNatClampNeg
      · rw [if_pos q, r2, q, nw]
      · rw [if_neg q]; exact tx gg (by omega))
    exact ⟨T, t1, t2, t3, fun i hi => (t4 i hi).trans (o i hi), fun g hg => (t5 g hg).trans (jup_g hg)⟩
theorem tb_l {I J : jI} {m : Nat} {v : Int32} (c : cur I J m) (hv0 : 0 ≤ v.toInt) (hv : v.toInt ≤ 30) : ∀ (N F : Nat) (x : Int32) (S : jI), x.toInt = (N : Int) - 1 → N ≤ m → N < F → smH I S → (∀ i, N ≤ i → i ≤ m → tab I m v.toInt S i) → ∃ T, d49_41 1 v F x S = some T ∧ smH I T ∧ (∀ i, i ≤ m → tab I m v.toInt T i) ∧ ∀ g, ¬ g = 25 → T g = S g
  | _, 0, _, _, _, _, h, _, _ => absurd h (by omega)
  | 0, F + 1, x, S, hx, _, _, hs, t => by
    rw [d49_41, if_pos (show x < 0 by rw [lt0_t]; omega)]
    exact ⟨_, rfl, hs, fun i hi => t i (by omega) hi, fun _ _ => rfl⟩
  | N + 1, F + 1, x, S, hx, hN, hF, hs, t => by
    have hm := c.2.1.2
    have hx' : x.toInt = (N : Int) := by omega
    have nx := cl_t (x := x) (by omega)
    have en : x.toNatClampNeg = N := by omega
    have c1 : (-1 : Int32).toInt = -1 := rfl
    have e : (x + (-1)).toInt = x.toInt - 1 := by rw [i32_add (by rw [c1]; omega), c1]; omega
    obtain ⟨T, t1, t2, t3, t4, t5⟩ := rw_l (x := x) c (by omega) (by omega) hv (v.toInt + 1).toNat 70 0 S (by show (0 : Int) + _ = _; omega) (by decide) (by omega) hs (by rw [en]; exact t (N + 1) (by omega) (by omega)) (fun gg hg => by have : (gg : Int) < 0 := hg; omega)
    rw [d49_41, if_neg (show ¬ x < 0 by rw [lt0_t]; omega), t1]
    dsimp only [Option.bind_some]
    obtain ⟨U, u1, u2, u3, u4⟩ := tb_l c hv0 hv N F (x + (-1)) T (by omega) (by omega) (by omega) t2 (fun i h1 h2 => by
      by_cases q : i = N
      · rw [q, ← en]; exact t3
      · intro gg hg
        rw [t4 i (by omega)]
        exact t i (by omega) h2 gg hg)
    exact ⟨U, u1, u2, u3, fun g hg => (u4 g hg).trans (t5 g hg)⟩
theorem in_l {I J : jI} {m : Nat} {v : Int32} (c : cur I J m) (hv : v.toInt ≤ 30) : ∀ (N F : Nat) (w : Int32) (S : jI), w.toInt + (N : Int) = v.toInt + 1 → 0 ≤ w.toInt → N < F → smH I S → (∀ gg : Nat, (gg : Int) < w.toInt → (S 25 m gg).toInt = bB (cI I m) (gI1 I m) m 0 gg) → ∃ T, d49_2 1 v F w S = some T ∧ smH I T ∧ tab I m v.toInt T m ∧ ∀ g, ¬ g = 25 → T g = S g
  | _, 0, _, _, _, _, h, _, _ => absurd h (by omega)
  | 0, F + 1, w, S, hw, h0, _, hs, t => by
    rw [d49_2, if_pos (show v < w by rw [lt_t]; omega)]
    exact ⟨_, rfl, hs, fun gg hg => by rw [Nat.sub_self]; exact t gg (by omega), fun _ _ => rfl⟩
  | N + 1, F + 1, w, S, hw, h0, hF, hs, t => by
    have nw := cl_t h0
    have e := i32_inc (x := w) (by omega)
    have em : (S 4 1 6).toNatClampNeg = m := by
      rw [hs 4 (by decide) (by decide) (by decide)]
      have h1 := c.2.1.1
      have := cl_t (x := I 4 1 6) (by omega)
      omega
    have step : ∀ b : Int32, b.toInt = bB (cI I m) (gI1 I m) m 0 w.toInt → ∃ T, d49_2 1 v F (w + 1) (jup S 25 m w.toNatClampNeg b) = some T ∧ smH I T ∧ tab I m v.toInt T m ∧ ∀ g, ¬ g = 25 → T g = S g := fun b hb => by
      obtain ⟨T, t1, t2, t3, t4⟩ := in_l c hv N F (w + 1) (jup S 25 m w.toNatClampNeg b) (by omega) (by omega) (by omega) (fun g h1 h2 h3 => (jup_g h1).trans (hs g h1 h2 h3)) (fun gg hg => by
        rw [jup_c]
        by_cases q : gg = w.toNatClampNeg
        · rw [if_pos q, hb, q, nw]
        · rw [if_neg q]; exact t gg (by omega))
      exact ⟨T, t1, t2, t3, fun g hg => (t4 g hg).trans (jup_g hg)⟩
    rw [d49_2, if_neg (show ¬ v < w by rw [lt_t]; omega), em]
    have hU : bU = 1000000 := rfl
    by_cases q : w = 0
    · rw [if_pos q]
      exact step 0 (by unfold bB; rw [if_pos (show w.toInt ≤ 0 by rw [q]; decide)]; rfl)
    · rw [if_neg q]
      have q' : ¬ w.toInt = 0 := fun z => q (eq_t.mpr (by rw [z]; rfl))
      exact step 1000000 (by unfold bB; rw [if_neg (show ¬ w.toInt ≤ 0 by omega)]; rfl)
theorem fill_c {I J : jI} {m : Nat} {v : Int32} (c : cur I J m) (hm0 : 0 < m) (hv0 : 0 ≤ v.toInt) (hv : v.toInt ≤ 30) : ∃ r, d49 1 v I = some r ∧ r.1.toInt = bB (cI I m) (gI1 I m) m m v.toInt ∧ (∀ g, ¬ g = 25 → r.2 g = I g) ∧ ∀ i, i ≤ m → tab I m v.toInt r.2 i := by
  obtain ⟨T, t1, t2, t3, t4⟩ := in_l c hv (v.toInt + 1).toNat 70 0 I (by show (0 : Int) + _ = _; omega) (by decide) (by omega) (fun _ _ _ _ => rfl) (fun gg hg => by have : (gg : Int) < 0 := hg; omega)
  have c1 : (1 : Int32).toInt = 1 := rfl
  have h6 := c.2.1
  have e6 : T 4 1 6 = I 4 1 6 := by rw [t2 4 (by decide) (by decide) (by decide)]
  have e : (T 4 1 6 - 1).toInt = (m : Int) - 1 := by rw [e6, i32_sub (by omega), c1, ← h6.1]
  obtain ⟨U, u1, u2, u3, u4⟩ := tb_l c hv0 hv m 70 (T 4 1 6 - 1) T e (Nat.le_refl _) (by omega) t2 (fun i h1 h2 => by
    have : i = m := by omega
    rw [this]; exact t3)
  have c0 : Int32.toNatClampNeg 0 = 0 := rfl
  have nv := cl_t hv0
  unfold d49
  rw [t1]
  dsimp only [Option.bind_some]
  rw [u1]
  refine ⟨_, rfl, ?_, fun g hg => (u4 g hg).trans (t4 g hg), u3⟩
  show (U 25 (Int32.toNatClampNeg 0) v.toNatClampNeg).toInt = _
  rw [c0, u3 0 (by omega) v.toNatClampNeg (by omega), nv, Nat.sub_zero]
end
section
/-! least: the row of the class, the reference's run -/
theorem dg_hi {N y k : Nat} (hN : N < 4) (hy : y < 4 ^ k) : dg (N * 4 ^ k + y) k = N := by
  have p : 0 < 4 ^ k := Nat.pow_pos (by decide)
  unfold dg
  rw [Nat.add_comm, Nat.add_mul_div_right _ _ p, Nat.div_eq_of_lt hy, Nat.zero_add]
  exact Nat.mod_eq_of_lt hN
theorem dg_lo {N y k j : Nat} (h : j < k) : dg (N * 4 ^ k + y) j = dg y j := by
  have p : 0 < 4 ^ j := Nat.pow_pos (by decide)
  obtain ⟨e, rfl⟩ : ∃ e, k = j + 1 + e := ⟨k - (j + 1), by omega⟩
  unfold dg
  have q : N * 4 ^ (j + 1 + e) + y = y + (4 * (N * 4 ^ e)) * 4 ^ j := by
    rw [Nat.pow_add, Nat.pow_succ, Nat.add_comm]
    congr 1
    rw [Nat.mul_comm (4 ^ j) 4, Nat.mul_assoc 4, ← Nat.mul_assoc N, Nat.mul_comm N 4, Nat.mul_assoc, Nat.mul_assoc, Nat.mul_assoc, Nat.mul_comm (4 ^ j)]
  rw [q, Nat.add_mul_div_right _ _ p]
  omega
theorem fn_l {I J S : jI} {m : Nat} {x w : Int32} {v : Int} (c : cur I J m) (hs : smH I S) (hx0 : 0 ≤ x.toInt) (hx : x.toNatClampNeg < m) (hw : 0 ≤ w.toInt ∧ w.toInt ≤ v) (hv : v ≤ 30) (t : tab I m v S (x.toNatClampNeg + 1)) (t0 : tab I m v S x.toNatClampNeg) (hb : mnJ (tT (cI I m) (gI1 I m) m (m - (x.toNatClampNeg + 1)) w.toInt) 4 < bU) : ∀ (N F : Nat) (n : Int32), n.toInt + (N : Int) = 3 → 0 ≤ n.toInt → N < F → (∀ j, j < n.toNatClampNeg → ¬ tT (cI I m) (gI1 I m) m (m - (x.toNatClampNeg + 1)) w.toInt j = mnJ (tT (cI I m) (gI1 I m) m (m - (x.toNatClampNeg + 1)) w.toInt) 4) → ∃ r, d53_3 1 x w S F n = some r ∧ 0 ≤ r.toInt ∧ r.toNatClampNeg = ixJ (tT (cI I m) (gI1 I m) m (m - (x.toNatClampNeg + 1)) w.toInt) 4
  | _, 0, _, _, _, h, _ => absurd h (by omega)
  | 0, F + 1, n, hn, h0, _, ha => by
    have nn := cl_t h0
    obtain ⟨i1, i2, i3⟩ := ixJ_ok _ 4 hb
    rw [d53_3, if_pos (show (3 : Int32) ≤ n by rw [le_t]; show (3 : Int) ≤ _; omega)]
    refine ⟨_, rfl, h0, ?_⟩
    by_cases q : ixJ (tT (cI I m) (gI1 I m) m (m - (x.toNatClampNeg + 1)) w.toInt) 4 < n.toNatClampNeg
    · exact absurd i2 (ha _ q)
    · omega
  | N + 1, F + 1, n, hn, h0, hF, ha => by
    have nn := cl_t h0
    have nw := cl_t hw.1
    have e := i32_inc (x := n) (by omega)
    have n1 : (n + 1).toNatClampNeg = n.toNatClampNeg + 1 := by
      have := cl_t (x := n + 1) (by omega)
      omega
    have ws := with_s c hs hx0 hx ⟨h0, by omega⟩ hw hv t (n := n)
    have tb := t0 w.toNatClampNeg (by omega)
    rw [nw, show m - x.toNatClampNeg = (m - (x.toNatClampNeg + 1)) + 1 by omega, bB_s] at tb
    rw [d53_3, if_neg (show ¬ (3 : Int32) ≤ n by rw [le_t]; show ¬ (3 : Int) ≤ _; omega)]
    obtain ⟨i1, i2, i3⟩ := ixJ_ok _ 4 hb
    by_cases l : d51 1 x n w S = S 25 x.toNatClampNeg w.toNatClampNeg
    · rw [if_pos l]
      have l' := eq_t.mp l
      rw [ws, tb] at l'
      refine ⟨_, rfl, h0, ?_⟩
      by_cases q : ixJ (tT (cI I m) (gI1 I m) m (m - (x.toNatClampNeg + 1)) w.toInt) 4 < n.toNatClampNeg
      · exact absurd i2 (ha _ q)
      · by_cases q2 : n.toNatClampNeg < ixJ (tT (cI I m) (gI1 I m) m (m - (x.toNatClampNeg + 1)) w.toInt) 4
        · have := i3 _ q2
          omega
        · omega
    · rw [if_neg l]
      refine fn_l c hs hx0 hx hw hv t t0 hb N F (n + 1) (by omega) (by omega) (by omega) (fun j hj => ?_)
      by_cases q : j = n.toNatClampNeg
      · subst q
        rw [← ws, ← tb]
        exact fun z => l (eq_t.mpr z)
      · exact ha j (by omega)
theorem rf_l {I J : jI} {m : Nat} {r y : Int32} {v : Int} (c : cur I J m) (hv : v ≤ 30) : ∀ (k F : Nat) (w x : Int32) (S : jI), x.toInt + (k : Int) = (m : Int) → 0 ≤ x.toInt → k < F → 0 ≤ w.toInt → w.toInt ≤ v → smH I S → (∀ i, i ≤ m → tab I m v S i) → bB (cI I m) (gI1 I m) m k w.toInt < bU → ∃ T, d93_80 r y F w x S = some T ∧ (∀ g, ¬ g = 29 → T g = S g) ∧ ∀ a j, T 29 a j = if a = r.toNatClampNeg ∧ x.toNatClampNeg ≤ j ∧ j < m then nI (dg (fF (cI I m) (gI1 I m) m k w.toInt) (m - 1 - j)) else S 29 a j
  | _, 0, _, _, _, _, _, h, _, _, _, _, _ => absurd h (by omega)
  | 0, F + 1, w, x, S, hx, h0, _, _, _, hs, _, _ => by
    have nx := cl_t h0
    have h6 := c.2.1
    rw [d93_80, if_pos (show S 4 1 6 ≤ x by rw [hs 4 (by decide) (by decide) (by decide), le_t]; omega)]
    exact ⟨_, rfl, fun _ _ => rfl, fun a j => by rw [if_neg (by omega)]⟩
  | k + 1, F + 1, w, x, S, hx, h0, hF, w0, wv, hs, t, hb => by
    have nx := cl_t h0
    have h6 := c.2.1
    have ek : m - (x.toNatClampNeg + 1) = k := by omega
    have em : m - (k + 1) = x.toNatClampNeg := by omega
    have e := i32_inc (x := x) (by omega)
    have xn : (x + 1).toNatClampNeg = x.toNatClampNeg + 1 := by
      have := cl_t (x := x + 1) (by omega)
      omega
    rw [bB_s] at hb
    obtain ⟨n, n1, n2, n3⟩ := fn_l c hs h0 (by omega) ⟨w0, wv⟩ hv (t _ (by omega)) (t _ (by omega)) (by rw [ek]; exact hb) 3 70 0 (by decide) (by decide) (by decide) (fun j hj => absurd hj (Nat.not_lt_zero j))
    rw [ek] at n3
    obtain ⟨i1, i2, i3⟩ := ixJ_ok _ 4 hb
    have nn := cl_t n2
    have hs' : smH I (d19g1 r x n S) := fun g h1 h2 h3 => by
      unfold d19g1
      rw [jup_g h2]
      exact hs g h1 h2 h3
    obtain ⟨l1, l2⟩ := left_s c hs' (x := x) (n := n) (w := w) (by omega) ⟨n2, by omega⟩ ⟨w0, by omega⟩
    have q := bB_b (c := cI I m) (g := gI1 I m) (m := m) (cI_ok c) k (max 0 (w.toInt - (n.toNatClampNeg : Nat) * gI1 I m x.toNatClampNeg))
    have hU : bU = 1000000 := rfl
    have cb := cI_ok c x.toNatClampNeg n.toNatClampNeg (by omega)
    have hb' : bB (cI I m) (gI1 I m) m k (max 0 (w.toInt - (n.toNatClampNeg : Nat) * gI1 I m x.toNatClampNeg)) < bU := by
      have i2' : cI I m (m - (k + 1)) (ixJ (tT (cI I m) (gI1 I m) m k w.toInt) 4) + bB (cI I m) (gI1 I m) m k (max 0 (w.toInt - (ixJ (tT (cI I m) (gI1 I m) m k w.toInt) 4 : Nat) * gI1 I m (m - (k + 1)))) = mnJ (tT (cI I m) (gI1 I m) m k w.toInt) 4 := i2
      rw [← n3, em] at i2'
      omega
    obtain ⟨T, t1, t2, t3⟩ := rf_l (r := r) (y := y) c hv k F (d52 1 x n w (d19g1 r x n S)) (x + 1) (d19g1 r x n S) (by omega) (by omega) (by omega) (by rw [l1]; omega) (by omega) hs' (fun i hi gg hg => by
      unfold d19g1
      rw [jup_g (by decide)]
      exact t i hi gg hg) (by rw [l1]; exact hb')
    have eF : fF (cI I m) (gI1 I m) m (k + 1) w.toInt = n.toNatClampNeg * 4 ^ k + fF (cI I m) (gI1 I m) m k (d52 1 x n w (d19g1 r x n S)).toInt := by
      show ixJ (tT (cI I m) (gI1 I m) m k w.toInt) 4 * 4 ^ k + fF (cI I m) (gI1 I m) m k (max 0 (w.toInt - (ixJ (tT (cI I m) (gI1 I m) m k w.toInt) 4 : Nat) * gI1 I m (m - (k + 1)))) = _
      rw [← n3, em, l1]
    unfold d53 at *
    rw [d93_80, if_neg (show ¬ S 4 1 6 ≤ x by rw [hs 4 (by decide) (by decide) (by decide), le_t]; omega)]
    have n1' : d53 1 x w S = some n := by
      unfold d53
      rw [n1]
      rfl
    rw [n1']
    dsimp only [Option.bind_some]
    refine ⟨T, t1, fun g hg => (t2 g hg).trans (jup_g hg), fun a j => ?_⟩
    rw [t3, xn, eF]
    have fl := fF_lt (cI I m) (gI1 I m) m k (d52 1 x n w (d19g1 r x n S)).toInt
    by_cases q1 : a = r.toNatClampNeg ∧ x.toNatClampNeg ≤ j ∧ j < m
    · rw [if_pos q1]
      by_cases q2 : j = x.toNatClampNeg
      · rw [if_neg (by omega), q2, show m - 1 - x.toNatClampNeg = k by omega, dg_hi (by omega) fl]
        unfold d19g1
        rw [q1.1, jup_c, if_pos rfl]
        exact nI_is (by omega) (by omega)
      · rw [if_pos (by omega), dg_lo (by omega)]
    · rw [if_neg q1, if_neg (by omega)]
      unfold d19g1
      exact jup_of (fun z => q1 ⟨z.2.1, by omega, by omega⟩)
/-! the reference -/
theorem nn_t {z : Int32} (h : 0 ≤ z.toInt) : z.toInt = (z.toBitVec.toNat : Int) ∧ z.toBitVec.msb = false := by
  have e : z.toInt = z.toBitVec.toInt := rfl
  have l : z.toBitVec.toNat < 2147483648 := by
    rw [e, BitVec.toInt_eq_toNat_cond] at h
    split at h
    · omega
    · have := z.toBitVec.isLt; omega
  refine ⟨by rw [e, BitVec.toInt_eq_toNat_cond, if_pos (by omega)], BitVec.msb_eq_false_iff_two_mul_lt.mpr (by omega)⟩
theorem nn_of {z : Int32} {n : Nat} (h : z.toBitVec.toNat = n) (hn : n < 2147483648) : z.toInt = (n : Int) := by
  have e : z.toInt = z.toBitVec.toInt := rfl
  rw [e, BitVec.toInt_eq_toNat_cond, if_pos (by omega), h]
theorem dig32 {x s : Int32} {e X : Nat} (hX : x.toInt = (X : Int)) (hs : (s.toBitVec.smod 32).toNat = 2 * e) : ((x >>> s) &&& 3).toInt = ((dg X e : Nat) : Int) := by
  obtain ⟨n1, n2⟩ := nn_t (z := x) (by omega)
  have nX : x.toBitVec.toNat = X := by omega
  have t3 : (3 : Int32).toBitVec.toNat = 2 ^ 2 - 1 := rfl
  have l4 : dg X e < 4 := Nat.mod_lt _ (by decide)
  refine nn_of ?_ (by omega)
  rw [Int32.toBitVec_and, BitVec.toNat_and, Int32.toBitVec_shiftRight, BitVec.toNat_sshiftRight'_of_msb_false n2, hs, nX, t3, Nat.and_two_pow_sub_one_eq_mod, Nat.shiftRight_eq_div_pow, Nat.pow_mul]
  rfl
theorem dig_i {p x i : Int32} {m X : Nat} (hm : p.toInt = (m : Int)) (hm6 : m ≤ 6) (hX : x.toInt = (X : Int)) (i0 : 0 ≤ i.toInt) (hi : i.toNatClampNeg < m) : ((x >>> ((2 * ((p - 1) - i)) &&& 31)) &&& 3).toInt = ((dg X (m - 1 - i.toNatClampNeg) : Nat) : Int) := by
  have ni := cl_t i0
  have c1 : (1 : Int32).toInt = 1 := rfl
  have c2 : (2 : Int32).toInt = 2 := rfl
  have e1 : (p - 1).toInt = (m : Int) - 1 := by rw [i32_sub (by omega), c1, hm]
  have e2 : ((p - 1) - i).toInt = (m : Int) - 1 - i.toInt := by rw [i32_sub (by omega), e1]
  have e3 : (2 * ((p - 1) - i)).toInt = 2 * ((m : Int) - 1 - i.toInt) := by rw [i32_mul (by rw [c2, e2]; omega), c2, e2]
  have : m - 1 - i.toNatClampNeg = 0 ∨ m - 1 - i.toNatClampNeg = 1 ∨ m - 1 - i.toNatClampNeg = 2 ∨ m - 1 - i.toNatClampNeg = 3 ∨ m - 1 - i.toNatClampNeg = 4 ∨ m - 1 - i.toNatClampNeg = 5 := by omega
  rcases this with h | h | h | h | h | h
  · rw [h, show 2 * ((p - 1) - i) = 0 from eq_t.mpr (by rw [e3]; show _ = (0 : Int); omega)]; exact dig32 hX rfl
  · rw [h, show 2 * ((p - 1) - i) = 2 from eq_t.mpr (by rw [e3]; show _ = (2 : Int); omega)]; exact dig32 hX rfl
  · rw [h, show 2 * ((p - 1) - i) = 4 from eq_t.mpr (by rw [e3]; show _ = (4 : Int); omega)]; exact dig32 hX rfl
  · rw [h, show 2 * ((p - 1) - i) = 6 from eq_t.mpr (by rw [e3]; show _ = (6 : Int); omega)]; exact dig32 hX rfl
  · rw [h, show 2 * ((p - 1) - i) = 8 from eq_t.mpr (by rw [e3]; show _ = (8 : Int); omega)]; exact dig32 hX rfl
  · rw [h, show 2 * ((p - 1) - i) = 10 from eq_t.mpr (by rw [e3]; show _ = (10 : Int); omega)]; exact dig32 hX rfl
/-- the inner run: cost and grams of one number -/
theorem num_l {I J : jI} {m X : Nat} {y1 y2 y3 y4 x : Int32} (hG : gG aGI I) (c : cur I J m) (hX : x.toInt = (X : Int)) : ∀ (k F : Nat) (a b i : Int32), i.toInt + (k : Int) = (m : Int) → 0 ≤ i.toInt → k < F → 0 ≤ a.toInt → a.toInt + 297 * (k : Int) ≤ 3000 → 0 ≤ b.toInt → b.toInt + 27 * (k : Int) ≤ 3000 → ∃ p q : Int32, d184_63 y1 y2 y3 y4 x J F a b i = some (p, q) ∧ p.toInt = a.toInt + cC (cI I m) m k X ∧ q.toInt = b.toInt + gC (gI1 I m) m k X
  | _, 0, _, _, _, _, _, h, _, _, _, _ => absurd h (by omega)
  | 0, F + 1, a, b, i, hi, i0, _, _, _, _, _ => by
    have c3 : J 31 0 3 = I 4 1 6 := c.1.1.1
    have h6 := c.2.1
    rw [d184_63, c3, if_pos (show I 4 1 6 ≤ i by rw [le_t]; omega)]
    exact ⟨_, _, rfl, (Int.add_zero _).symm, (Int.add_zero _).symm⟩
  | k + 1, F + 1, a, b, i, hi, i0, hF, a0, a1, b0, b1 => by
    have c3 : J 31 0 3 = I 4 1 6 := c.1.1.1
    have h6 := c.2.1
    have ni := cl_t i0
    have em : m - (k + 1) = i.toNatClampNeg := by omega
    have e := i32_inc (x := i) (by omega)
    have dd := dig_i (p := I 4 1 6) (x := x) h6.1.symm h6.2 hX i0 (by omega)
    have d4 : dg X (m - 1 - i.toNatClampNeg) < 4 := Nat.mod_lt _ (by decide)
    have ek : m - 1 - i.toNatClampNeg = k := by omega
    rw [ek] at dd d4
    rw [d184_63, c3, if_neg (show ¬ I 4 1 6 ≤ i by rw [le_t]; omega), cost_cm hG c i0 (by omega), got_cm c i0 (by omega)]
    generalize (x >>> ((2 * ((I 4 1 6 - 1) - i)) &&& 31)) &&& 3 = n at dd
    have nn : n.toNatClampNeg = dg X k := by have := cl_t (x := n) (by omega); omega
    have hs : smH I I := fun _ _ _ _ => rfl
    have cs := cost_s (m := m) hs (x := i) (n := n) (by omega) ⟨by omega, by omega⟩
    have gs := got_s (m := m) hs (x := i) (by omega)
    have cb := cI_ok c i.toNatClampNeg n.toNatClampNeg (by omega)
    have gb := gI1_b c i.toNatClampNeg
    have h1 : 0 ≤ n.toInt * gI1 I m i.toNatClampNeg := Int.mul_nonneg (by omega) gb.1
    have h2 : n.toInt * gI1 I m i.toNatClampNeg ≤ 3 * 9 := Int.mul_le_mul (by omega) gb.2 gb.1 (by decide)
    have e1 : (n * d36 1 i I).toInt = n.toInt * gI1 I m i.toNatClampNeg := by rw [i32_mul (by rw [gs]; omega), gs]
    have f1 : (a + d35 1 i n I).toInt = a.toInt + cI I m i.toNatClampNeg n.toNatClampNeg := by rw [i32_add (by rw [cs]; omega), cs]
    have f2 : (b + n * d36 1 i I).toInt = b.toInt + n.toInt * gI1 I m i.toNatClampNeg := by rw [i32_add (by rw [e1]; omega), e1]
    obtain ⟨p, q, r1, r2, r3⟩ := num_l (y1 := y1) (y2 := y2) (y3 := y3) (y4 := y4) hG c hX k F (a + d35 1 i n I) (b + n * d36 1 i I) (i + 1) (by omega) (by omega) (by omega) (by omega) (by omega) (by omega) (by omega)
    refine ⟨p, q, r1, ?_, ?_⟩
    · show p.toInt = a.toInt + (cI I m (m - (k + 1)) (dg X k) + cC (cI I m) m k X)
      rw [r2, f1, em, ← nn]; omega
    · show q.toInt = b.toInt + (((dg X k : Nat) : Int) * gI1 I m (m - (k + 1)) + gC (gI1 I m) m k X)
      rw [r3, f2, em, dd]; omega
theorem pow_l {a p : Int32} {I : jI} {A P : Nat} (ha : a.toInt = (A : Int)) (hp : p.toInt = (P : Int)) (hP : P ≤ 6) (hA : A ≤ 7) (hb : A ^ P ≤ 100000) : ∀ (N F : Nat) (s x : Int32), x.toInt + (N : Int) = (P : Int) → 0 ≤ x.toInt → N < F → s.toInt = ((A ^ x.toNatClampNeg : Nat) : Int) → ∃ r, d183_4 a p I F s x = some r ∧ r.toInt = ((A ^ P : Nat) : Int)
  | _, 0, _, _, _, _, h, _ => absurd h (by omega)
  | 0, F + 1, s, x, hx, h0, _, hs => by
    have nx := cl_t h0
    rw [d183_4, if_pos (show p ≤ x by rw [le_t]; omega)]
    exact ⟨_, rfl, by rw [hs, show x.toNatClampNeg = P by omega]⟩
  | N + 1, F + 1, s, x, hx, h0, hF, hs => by
    have nx := cl_t h0
    have e := i32_inc (x := x) (by omega)
    have n1 : (x + 1).toNatClampNeg = x.toNatClampNeg + 1 := by
      have := cl_t (x := x + 1) (by omega)
      omega
    rw [d183_4, if_neg (show ¬ p ≤ x by rw [le_t]; omega)]
    have le : A ^ x.toNatClampNeg * A ≤ 700000 := by
      rcases Nat.eq_zero_or_pos A with z | z
      · rw [z, Nat.mul_zero]; exact Nat.zero_le _
      · have l1 : A ^ x.toNatClampNeg ≤ A ^ P := Nat.pow_le_pow_right z (by omega)
        have : A ^ x.toNatClampNeg * A ≤ 100000 * 7 := Nat.mul_le_mul (by omega) hA
        omega
    have cast : ((A ^ x.toNatClampNeg : Nat) : Int) * (A : Int) = ((A ^ x.toNatClampNeg * A : Nat) : Int) := rfl
    refine pow_l ha hp hP hA hb N F (s * a) (x + 1) (by omega) (by omega) (by omega) ?_
    rw [n1, Nat.pow_succ, i32_mul (by rw [hs, ha, cast]; omega), hs, ha, cast]
theorem pow_c {a p : Int32} {I : jI} {A P : Nat} (ha : a.toInt = (A : Int)) (hp : p.toInt = (P : Int)) (hP : P ≤ 6) (hA : A ≤ 7) (hb : A ^ P ≤ 100000) : ∃ r, d183 a p I = some r ∧ r.toInt = ((A ^ P : Nat) : Int) := by
  obtain ⟨r, e1, e2⟩ := pow_l (I := I) ha hp hP hA hb P 70 1 0 (by show (0 : Int) + _ = _; omega) (by decide) (by omega) rfl
  unfold d183
  rw [e1]
  exact ⟨r, rfl, e2⟩
theorem p4_6 {m : Nat} (h : m ≤ 6) : 4 ^ m ≤ 4096 := by
  have : 4 ^ m ≤ 4 ^ 6 := Nat.pow_le_pow_right (by decide) h
  omega
theorem sc_l {I J : jI} {m : Nat} {v r : Int32} (hG : gG aGI I) (c : cur I J m) (hv : 0 ≤ v.toInt ∧ v.toInt ≤ 30) : ∀ (N F : Nat) (a b x : Int32) (X : Nat), x.toInt = (X : Int) → X + N = 4 ^ m → N < F → ∃ p q : Int32, d184_41 v r J F a b x = some (p, q) ∧ (p.toInt, q.toInt) = scn (fun x => 0 + cC (cI I m) m m x) (gC (gI1 I m) m m) v.toInt N X (a.toInt, b.toInt)
  | _, 0, _, _, _, _, _, _, h => absurd h (by omega)
  | 0, F + 1, a, b, x, X, hx, hN, _ => by
    have c3 : J 31 0 3 = I 4 1 6 := c.1.1.1
    have h6 := c.2.1
    have p4 := p4_6 h6.2
    obtain ⟨w, w1, w2⟩ := pow_c (a := 4) (p := I 4 1 6) (I := J) (A := 4) (P := m) rfl h6.1.symm h6.2 (by decide) (by omega)
    rw [d184_41, c3, w1]
    dsimp only [Option.bind_some]
    rw [if_pos (show w ≤ x by rw [le_t]; omega)]
    exact ⟨_, _, rfl, rfl⟩
  | N + 1, F + 1, a, b, x, X, hx, hN, hF => by
    have c3 : J 31 0 3 = I 4 1 6 := c.1.1.1
    have h6 := c.2.1
    have p4 := p4_6 h6.2
    have e := i32_inc (x := x) (by omega)
    obtain ⟨w, w1, w2⟩ := pow_c (a := 4) (p := I 4 1 6) (I := J) (A := 4) (P := m) rfl h6.1.symm h6.2 (by decide) (by omega)
    have z0 : (0 : Int32).toInt = 0 := rfl
    obtain ⟨p, q, r1, r2, r3⟩ := num_l (y1 := v) (y2 := r) (y3 := a) (y4 := b) hG c hx m 5000 0 0 0 (by rw [z0]; omega) (by decide) (by omega) (by decide) (by rw [z0]; omega) (by decide) (by rw [z0]; omega)
    rw [z0] at r2 r3
    rw [d184_41, c3, w1]
    dsimp only [Option.bind_some]
    rw [if_neg (show ¬ w ≤ x by rw [le_t]; omega), r1]
    dsimp only [Option.bind_some]
    have st : scn (fun x => 0 + cC (cI I m) m m x) (gC (gI1 I m) m m) v.toInt (N + 1) X (a.toInt, b.toInt) = scn (fun x => 0 + cC (cI I m) m m x) (gC (gI1 I m) m m) v.toInt N (X + 1) (if gC (gI1 I m) m m X < v.toInt then (a.toInt, b.toInt) else if a.toInt ≤ 0 + cC (cI I m) m m X then (a.toInt, b.toInt) else (0 + cC (cI I m) m m X, (X : Int))) := rfl
    rw [st]
    by_cases l1 : q < v
    · rw [if_pos l1, if_pos (show gC (gI1 I m) m m X < v.toInt by rw [lt_t] at l1; omega)]
      exact sc_l hG c hv N F a b (x + 1) (X + 1) (by omega) (by omega) (by omega)
    · rw [if_neg l1, if_neg (show ¬ gC (gI1 I m) m m X < v.toInt by rw [lt_t] at l1; omega)]
      by_cases l2 : a ≤ p
      · rw [if_pos l2, if_pos (show a.toInt ≤ 0 + cC (cI I m) m m X by rw [le_t] at l2; omega)]
        exact sc_l hG c hv N F a b (x + 1) (X + 1) (by omega) (by omega) (by omega)
      · rw [if_neg l2, if_neg (show ¬ a.toInt ≤ 0 + cC (cI I m) m m X by rw [le_t] at l2; omega)]
        have := sc_l (r := r) hG c hv N F p x (x + 1) (X + 1) (by omega) (by omega) (by omega)
        rw [r2, hx] at this
        exact this
theorem least_m {I J : jI} {m : Nat} {v r : Int32} (hG : gG aGI I) (c : cur I J m) (hv : 0 ≤ v.toInt ∧ v.toInt ≤ 30) : ∃ p q : Int32, d184_41 v r J 5000 99999 (-9) 0 = some (p, q) ∧ ((bB (cI I m) (gI1 I m) m m v.toInt < bU ∧ p.toInt = bB (cI I m) (gI1 I m) m m v.toInt ∧ q.toInt = ((fF (cI I m) (gI1 I m) m m v.toInt : Nat) : Int)) ∨ (bB (cI I m) (gI1 I m) m m v.toInt = bU ∧ q = -9)) := by
  have h6 := c.2.1
  have p4 := p4_6 h6.2
  obtain ⟨p, q, e1, e2⟩ := sc_l (r := r) hG c hv (4 ^ m) 5000 99999 (-9) 0 0 rfl (by omega) (by omega)
  have bl := scn_blk (c := cI I m) (g := gI1 I m) (m := m) (cI_ok c) (fun i => (gI1_b c i).1) m 0 v.toInt 0 ((99999 : Int32).toInt, (-9 : Int32).toInt) (Nat.zero_mod _) h6.2 hv.1
  rw [bl] at e2
  have q := bB_b (c := cI I m) (g := gI1 I m) (m := m) (cI_ok c) m v.toInt
  have hU : bU = 1000000 := rfl
  refine ⟨_, _, e1, ?_⟩
  unfold upd2 at e2
  rcases q with q | q
  · refine Or.inr ⟨q, ?_⟩
    rw [if_neg (fun z => by have := z.1; omega)] at e2
    exact eq_t.mpr (congrArg Prod.snd e2)
  · have c9 : (99999 : Int32).toInt = 99999 := rfl
    rw [if_pos ⟨by omega, by show 0 + _ < (99999 : Int32).toInt; rw [c9]; omega⟩] at e2
    refine Or.inl ⟨by omega, ?_, ?_⟩
    · have := congrArg Prod.fst e2
      have : p.toInt = 0 + bB (cI I m) (gI1 I m) m m v.toInt := this
      omega
    · have := congrArg Prod.snd e2
      have : _ = (((0 + fF (cI I m) (gI1 I m) m m v.toInt : Nat)) : Int) := this
      rw [Nat.zero_add] at this
      exact this
end
section
/-! ROWS: the class's and the reference's are the same; findings -/
noncomputable def RR (I J : jI) : Prop := (∀ r, r < 6 → J 35 0 r = I 14 0 r) ∧ ∀ r j, r < 6 → j < 40 → J 36 0 (40 * r + j) = I 29 r j
noncomputable def RFi (I J : jI) : Prop := J 31 0 13 = I 0 0 13 ∧ ∀ f, f < 6 → J 39 0 f = I 12 0 f
theorem RFi_find {I J : jI} {w : Int32} (h : RFi I J) : RFi (d113 w I).2 (d126 w J).2 := by
  refine ⟨?_, fun f hf => ?_⟩
  · unfold d113 d126
    dsimp only
    rw [jup_g (show ¬ 31 = 39 by decide), jup_g (show ¬ 0 = 12 by decide), jup_at, jup_at]
  · unfold d113 d126
    dsimp only
    rw [jup_c, jup_c, jup_g (show ¬ 39 = 31 by decide), jup_g (show ¬ 12 = 0 by decide)]
    by_cases q : f = w.toNatClampNeg
    · rw [if_pos q, if_pos q, ← q, h.2 f hf]
    · rw [if_neg q, if_neg q]; exact h.2 f hf
theorem RR_find {I J : jI} {w w' : Int32} (h : RR I J) : RR (d113 w I).2 (d126 w' J).2 := by
  refine ⟨fun r hr => ?_, fun r j hr hj => ?_⟩
  · rw [find_m (by decide) (by decide), find_c (by decide) (by decide)]; exact h.1 r hr
  · rw [find_m (by decide) (by decide), find_c (by decide) (by decide)]; exact h.2 r j hr hj
theorem ix40 {t x : Int32} (h0 : 0 ≤ t.toInt) (h3 : t.toInt ≤ 5) (g0 : 0 ≤ x.toInt) (g : x.toInt ≤ 100) : Int32.toNatClampNeg (40 * t + x) = 40 * t.toNatClampNeg + x.toNatClampNeg ∧ (40 * t + x).toInt = 40 * t.toInt + x.toInt := by
  have c : (40 : Int32).toInt = 40 := rfl
  have e1 : (40 * t).toInt = 40 * t.toInt := by rw [i32_mul (by rw [c]; omega), c]
  have e2 : (40 * t + x).toInt = 40 * t.toInt + x.toInt := by rw [i32_add (by rw [e1]; omega), e1]
  have n0 := cl_t h0
  have n1 := cl_t g0
  have n2 := cl_t (x := 40 * t + x) (by omega)
  exact ⟨by omega, e2⟩
theorem fill_r {y0 : Nat} {v : Int32} : ∀ (N F : Nat) (x : Int32) (I : jI), x.toInt + (N : Int) = 40 → 0 ≤ x.toInt → N < F → ∃ I', d2g29_5 y0 v (nI 40) F x I = some I' ∧ (∀ i j, I' 29 i j = if i = y0 ∧ x.toNatClampNeg ≤ j ∧ j < 40 then v else I 29 i j) ∧ ∀ g, ¬ g = 29 → I' g = I g
  | _, 0, _, _, _, _, h => absurd h (by omega)
  | 0, F + 1, x, I, hx, h0, _ => by
    have nx := cl_t h0
    rw [d2g29_5, if_pos (show nI 40 ≤ x by rw [le_t]; show (40 : Int) ≤ _; omega)]
    exact ⟨I, rfl, fun i j => by rw [if_neg (by omega)], fun _ _ => rfl⟩
  | N + 1, F + 1, x, I, hx, h0, hF => by
    have nx := cl_t h0
    have e := i32_inc (x := x) (by omega)
    have xn : (x + 1).toNatClampNeg = x.toNatClampNeg + 1 := by
      have := cl_t (x := x + 1) (by omega)
      omega
    rw [d2g29_5, if_neg (show ¬ nI 40 ≤ x by rw [le_t]; show ¬ (40 : Int) ≤ _; omega)]
    obtain ⟨I', e1, e2, e3⟩ := fill_r (y0 := y0) (v := v) N F (x + 1) (jup I 29 y0 x.toNatClampNeg v) (by omega) (by omega) (by omega)
    refine ⟨I', e1, fun i j => ?_, fun g h => (e3 g h).trans (jup_g h)⟩
    rw [e2, xn]
    by_cases c : i = y0 ∧ x.toNatClampNeg ≤ j ∧ j < 40
    · rw [if_pos c]
      by_cases c2 : j = x.toNatClampNeg
      · rw [if_neg (by omega), c.1, c2, jup_at]
      · rw [if_pos (by omega)]
    · rw [if_neg c, if_neg (by omega), jup_of (fun z => c ⟨z.2.1, by omega, by omega⟩)]
theorem make_c {r n : Int32} {I : jI} : ∃ T, d20g1 r n 0 I = some T ∧ (∀ i, T 14 0 i = if i = r.toNatClampNeg then n else I 14 0 i) ∧ (∀ i j, T 29 i j = if i = r.toNatClampNeg ∧ j < 40 then 0 else I 29 i j) ∧ ∀ g, ¬ g = 14 → ¬ g = 29 → T g = I g := by
  obtain ⟨T, t1, t2, t3⟩ := fill_r (y0 := r.toNatClampNeg) (v := 0) 40 70 0 I (by decide) (by decide) (by decide)
  have c0 : Int32.toNatClampNeg 0 = 0 := rfl
  rw [c0] at t2
  unfold d20g1 d2g29
  rw [t1]
  refine ⟨_, rfl, fun i => ?_, fun i j => ?_, fun g h1 h2 => (jup_g h1).trans (t3 g h2)⟩
  · rw [jup_c, t3 14 (by decide)]
  · rw [jup_g (by decide), t2]
    by_cases c : i = r.toNatClampNeg ∧ j < 40
    · rw [if_pos c, if_pos ⟨c.1, by omega, c.2⟩]
    · rw [if_neg c, if_neg (fun z => c ⟨z.1, z.2.2⟩)]
theorem mk_l {r : Int32} (r0 : 0 ≤ r.toInt) (r5 : r.toInt ≤ 5) : ∀ (N F : Nat) (x : Int32) (J : jI), x.toInt + (N : Int) = 40 → 0 ≤ x.toInt → N < F → ∃ T, d131_9 r F x J = some T ∧ (∀ j, T 36 0 j = if 40 * r.toNatClampNeg + x.toNatClampNeg ≤ j ∧ j < 40 * r.toNatClampNeg + 40 then 0 else J 36 0 j) ∧ ∀ g, ¬ g = 36 → T g = J g
  | _, 0, _, _, _, _, h => absurd h (by omega)
  | 0, F + 1, x, J, hx, h0, _ => by
    have nx := cl_t h0
    rw [d131_9, if_pos (show (40 : Int32) ≤ x by rw [le_t]; show (40 : Int) ≤ _; omega)]
    exact ⟨J, rfl, fun j => by rw [if_neg (by omega)], fun _ _ => rfl⟩
  | N + 1, F + 1, x, J, hx, h0, hF => by
    have nx := cl_t h0
    have e := i32_inc (x := x) (by omega)
    have xn : (x + 1).toNatClampNeg = x.toNatClampNeg + 1 := by
      have := cl_t (x := x + 1) (by omega)
      omega
    rw [d131_9, if_neg (show ¬ (40 : Int32) ≤ x by rw [le_t]; show ¬ (40 : Int) ≤ _; omega), (ix40 r0 r5 h0 (by omega)).1]
    obtain ⟨T, e1, e2, e3⟩ := mk_l r0 r5 N F (x + 1) (jup J 36 0 (40 * r.toNatClampNeg + x.toNatClampNeg) 0) (by omega) (by omega) (by omega)
    refine ⟨T, e1, fun j => ?_, fun g h => (e3 g h).trans (jup_g h)⟩
    rw [e2, xn, jup_c]
    by_cases c : 40 * r.toNatClampNeg + x.toNatClampNeg ≤ j ∧ j < 40 * r.toNatClampNeg + 40
    · rw [if_pos c]
      by_cases c2 : j = 40 * r.toNatClampNeg + x.toNatClampNeg
      · rw [if_neg (by omega), if_pos c2]
      · rw [if_pos (by omega)]
    · rw [if_neg c, if_neg (by omega), if_neg (by omega)]
theorem make_m {r n : Int32} {J : jI} (r0 : 0 ≤ r.toInt) (r5 : r.toInt ≤ 5) : ∃ T, d131 r n J = some T ∧ (∀ i, T 35 0 i = if i = r.toNatClampNeg then n else J 35 0 i) ∧ (∀ j, T 36 0 j = if 40 * r.toNatClampNeg ≤ j ∧ j < 40 * r.toNatClampNeg + 40 then 0 else J 36 0 j) ∧ ∀ g, ¬ g = 35 → ¬ g = 36 → T g = J g := by
  obtain ⟨T, t1, t2, t3⟩ := mk_l r0 r5 40 70 0 (jup J 35 0 r.toNatClampNeg n) (by decide) (by decide) (by decide)
  have c0 : Int32.toNatClampNeg 0 = 0 := rfl
  rw [c0] at t2
  unfold d131
  rw [t1]
  refine ⟨_, rfl, fun i => ?_, fun j => ?_, fun g h1 h2 => (t3 g h2).trans (jup_g h1)⟩
  · rw [t3 35 (by decide), jup_c]
  · rw [t2, jup_g (by decide), Nat.add_zero]
theorem RR_make {I J T U : jI} {r n : Int32} (r0 : 0 ≤ r.toInt) (r5 : r.toInt ≤ 5) (h : RR I J) (t1 : ∀ i, T 14 0 i = if i = r.toNatClampNeg then n else I 14 0 i) (t2 : ∀ i j, T 29 i j = if i = r.toNatClampNeg ∧ j < 40 then 0 else I 29 i j) (u1 : ∀ i, U 35 0 i = if i = r.toNatClampNeg then n else J 35 0 i) (u2 : ∀ j, U 36 0 j = if 40 * r.toNatClampNeg ≤ j ∧ j < 40 * r.toNatClampNeg + 40 then 0 else J 36 0 j) : RR T U := by
  have nr := cl_t r0
  refine ⟨fun i hi => ?_, fun i j hi hj => ?_⟩
  · rw [u1, t1, h.1 i hi]
  · rw [u2, t2, h.2 i j hi hj]
    by_cases q : i = r.toNatClampNeg
    · rw [if_pos (by omega), if_pos ⟨q, hj⟩]
    · rw [if_neg (by omega), if_neg (fun z => q z.1)]
theorem RR_up {I J : jI} {r i v : Int32} (r0 : 0 ≤ r.toInt) (r5 : r.toInt ≤ 5) (i0 : 0 ≤ i.toInt) (i39 : i.toInt ≤ 39) (h : RR I J) : RR (jup I 29 r.toNatClampNeg i.toNatClampNeg v) (jup J 36 0 (40 * r.toNatClampNeg + i.toNatClampNeg) v) := by
  have nr := cl_t r0
  have ni := cl_t i0
  refine ⟨fun x hx => ?_, fun x j hx hj => ?_⟩
  · rw [jup_g (by decide), jup_g (by decide)]; exact h.1 x hx
  · rw [jup_c]
    by_cases q : x = r.toNatClampNeg ∧ j = i.toNatClampNeg
    · rw [if_pos (by omega), q.1, q.2, jup_at]
    · rw [if_neg (by omega), jup_of (fun z => q z.2)]; exact h.2 x j hx hj
/-! least -/
theorem it_l {J : jI} {m X : Nat} {r y q : Int32} (hm : m ≤ 6) (r0 : 0 ≤ r.toInt) (r5 : r.toInt ≤ 5) (hX : q.toInt = (X : Int)) : ∀ (k F : Nat) (i : Int32) (S : jI), i.toInt + (k : Int) = (m : Int) → 0 ≤ i.toInt → k < F → (S 31 0 3).toInt = (m : Int) → ∃ T, d184_172 r y q F i S = some T ∧ (∀ j, T 36 0 j = if 40 * r.toNatClampNeg + i.toNatClampNeg ≤ j ∧ j < 40 * r.toNatClampNeg + m then nI (dg X (m - 1 - (j - 40 * r.toNatClampNeg))) else S 36 0 j) ∧ ∀ g, ¬ g = 36 → T g = S g
  | _, 0, _, _, _, _, h, _ => absurd h (by omega)
  | 0, F + 1, i, S, hi, i0, _, h3 => by
    have ni := cl_t i0
    rw [d184_172, if_pos (show S 31 0 3 ≤ i by rw [le_t]; omega)]
    exact ⟨S, rfl, fun j => by rw [if_neg (by omega)], fun _ _ => rfl⟩
  | k + 1, F + 1, i, S, hi, i0, hF, h3 => by
    have ni := cl_t i0
    have e := i32_inc (x := i) (by omega)
    have xn : (i + 1).toNatClampNeg = i.toNatClampNeg + 1 := by
      have := cl_t (x := i + 1) (by omega)
      omega
    have dd := dig_i (p := S 31 0 3) (x := q) h3 hm hX i0 (by omega)
    have d4 : dg X (m - 1 - i.toNatClampNeg) < 4 := Nat.mod_lt _ (by decide)
    rw [d184_172, if_neg (show ¬ S 31 0 3 ≤ i by rw [le_t]; omega), (ix40 r0 r5 i0 (by omega)).1]
    generalize (q >>> ((2 * ((S 31 0 3 - 1) - i)) &&& 31)) &&& 3 = n at dd
    have en := nI_is dd (by omega)
    obtain ⟨T, t1, t2, t3⟩ := it_l (J := J) (y := y) hm r0 r5 hX k F (i + 1) (jup S 36 0 (40 * r.toNatClampNeg + i.toNatClampNeg) n) (by omega) (by omega) (by omega) h3
    refine ⟨T, t1, fun j => ?_, fun g h => (t3 g h).trans (jup_g h)⟩
    rw [t2, xn, jup_c]
    by_cases c : 40 * r.toNatClampNeg + i.toNatClampNeg ≤ j ∧ j < 40 * r.toNatClampNeg + m
    · rw [if_pos c]
      by_cases c2 : j = 40 * r.toNatClampNeg + i.toNatClampNeg
      · rw [if_neg (by omega), if_pos c2, en, show j - 40 * r.toNatClampNeg = i.toNatClampNeg by omega]
      · rw [if_pos (by omega)]
    · rw [if_neg c, if_neg (by omega), if_neg (by omega)]
noncomputable def lsO (I r : jI) (J r' : jI) : Prop := (∀ g, ¬ g = 25 → ¬ g = 29 → ¬ g = 14 → r g = I g) ∧ ∀ g, ¬ g = 35 → ¬ g = 36 → r' g = J g
theorem least_eq {I J : jI} (v r : Int32) (hG : gG aGI I) (q : RD2 I J) (h : RR I J) : ∃ s s', d93 v r I = some s ∧ d184 v r J = some s' ∧ s.1 = s'.1 ∧ RR s.2 s'.2 ∧ lsO I s.2 J s'.2 := by
  have c := RD_cur hG q
  have c3 : J 31 0 3 = I 4 1 6 := c.1.1.1
  have h6 := c.2.1
  have z30 : (30 : Int32).toInt = 30 := rfl
  have same : ∃ s s' : Int32 × jI, (some ((-1 : Int32), I)) = some s ∧ (some ((-1 : Int32), J)) = some s' ∧ s.1 = s'.1 ∧ RR s.2 s'.2 ∧ lsO I s.2 J s'.2 := ⟨_, _, rfl, rfl, rfl, h, fun _ _ _ _ => rfl, fun _ _ _ => rfl⟩
  unfold d93 d184
  rw [in_i, names_r, isRow_t, c3]
  by_cases h1 : 0 ≤ v.toInt ∧ v.toInt ≤ 30
  · rw [if_neg (show ¬ v < 0 by rw [lt0_t]; omega), if_neg (show ¬ (30 : Int32) < v by rw [lt_t, z30]; omega), if_pos (show (0 : Int64).toInt ≤ v.toInt ∧ v.toInt ≤ (30 : Int64).toInt from h1), if_neg one0]
    by_cases h2 : 0 ≤ r.toInt ∧ r.toInt ≤ 5
    · rw [if_pos h2, if_neg one0, if_neg one0]
      by_cases h3 : I 4 1 6 = 0
      · rw [if_pos h3, if_pos h3]
        exact ⟨_, _, rfl, rfl, rfl, h, fun _ _ _ _ => rfl, fun _ _ _ => rfl⟩
      · rw [if_neg h3, if_neg h3]
        have hm0 : 0 < mP I := pk0 h6.1 h3
        obtain ⟨a, a1, a2, a3, a4⟩ := fill_c c hm0 h1.1 h1.2
        obtain ⟨p, w, b1, b2⟩ := least_m (r := r) hG c h1
        have hU : bU = 1000000 := rfl
        have cU : (1000000 : Int32).toInt = 1000000 := rfl
        rw [a1, b1]
        dsimp only [Option.bind_some]
        rcases b2 with ⟨b2, b3, b4⟩ | ⟨b2, b3⟩
        · rw [if_pos (show a.1 < 1000000 by rw [lt_t, cU, a2]; omega), if_neg (show ¬ w = -9 from fun z => by rw [z] at b4; have : (-9 : Int32).toInt = -9 := rfl; omega)]
          obtain ⟨T, t1, t2, t3, t4⟩ := make_c (r := r) (n := a.2 4 1 6) (I := a.2)
          obtain ⟨U, u1, u2, u3, u4⟩ := make_m (r := r) (n := I 4 1 6) (J := J) h2.1 h2.2
          have e6 : a.2 4 1 6 = I 4 1 6 := by rw [a3 4 (by decide)]
          have sT : smH I T := fun g g1 g2 g3 => (t4 g g3 g2).trans (a3 g g1)
          obtain ⟨V, v1, v2, v3⟩ := rf_l (r := r) (y := a.1) c h1.2 (mP I) 70 v 0 T (by show (0 : Int) + _ = _; omega) (by decide) (by omega) h1.1 (Int.le_refl _) sT (fun i hi gg hg => by rw [t4 25 (by decide) (by decide)]; exact a4 i hi gg hg) b2
          obtain ⟨X, x1, x2, x3⟩ := it_l (J := J) (m := mP I) (r := r) (y := p) (q := w) h6.2 h2.1 h2.2 b4 (mP I) 5000 0 U (by show (0 : Int) + _ = _; omega) (by decide) (by omega) (by rw [u4 31 (by decide) (by decide), c3]; exact h6.1.symm)
          rw [t1, u1]
          dsimp only [Option.bind_some]
          rw [v1, x1]
          have c0 : Int32.toNatClampNeg 0 = 0 := rfl
          rw [c0] at v3 x2
          have nr := cl_t h2.1
          have rT : RR T U := by
            have hA : RR a.2 J := ⟨fun i hi => by rw [a3 14 (by decide)]; exact h.1 i hi, fun i j hi hj => by rw [a3 29 (by decide)]; exact h.2 i j hi hj⟩
            exact RR_make h2.1 h2.2 hA t2 t3 (by rw [e6]; exact u2) u3
          refine ⟨_, _, rfl, rfl, ?_, ⟨fun i hi => ?_, fun i j hi hj => ?_⟩, fun g g1 g2 g3 => ?_, fun g g1 g2 => ?_⟩
          · show a.1 = p
            exact eq_t.mpr (by rw [a2, b3])
          · show X 35 0 i = V 14 0 i
            rw [x3 35 (by decide), v2 14 (by decide)]
            exact rT.1 i hi
          · show X 36 0 (40 * i + j) = V 29 i j
            rw [x2, v3]
            by_cases g : i = r.toNatClampNeg ∧ j < mP I
            · rw [if_pos (by omega), if_pos ⟨g.1, by omega, g.2⟩, show 40 * i + j - 40 * r.toNatClampNeg = j by omega]
            · rw [if_neg (by omega), if_neg (fun z => g ⟨z.1, z.2.2⟩)]
              exact rT.2 i j hi hj
          · show V g = I g
            rw [v2 g g2]
            exact sT g g1 g2 g3
          · show X g = J g
            rw [x3 g g2, u4 g g1 g2]
        · rw [if_neg (show ¬ a.1 < 1000000 by rw [lt_t, cU, a2]; omega), if_pos b3]
          exact ⟨_, _, rfl, rfl, rfl, ⟨fun i hi => by rw [a3 14 (by decide)]; exact h.1 i hi, fun i j hi hj => by rw [a3 29 (by decide)]; exact h.2 i j hi hj⟩, fun g g1 g2 g3 => a3 g g1, fun _ _ _ => rfl⟩
    · rw [if_neg h2, if_pos rfl, if_pos rfl]
      exact same
  · rw [if_neg (show ¬ ((0 : Int64).toInt ≤ v.toInt ∧ v.toInt ≤ (30 : Int64).toInt) from h1), if_pos rfl]
    by_cases h4 : v < 0
    · rw [if_pos h4]
      exact same
    · rw [if_neg h4, if_pos (show (30 : Int32) < v by rw [lt_t, z30]; rw [lt0_t] at h4; omega)]
      exact same
end
section
/-! weeks, waste: plans as numbers -/
noncomputable def dgp (p x k : Nat) : Nat := x / p ^ k % p
theorem dgp_blk {p x k base n : Nat} (hp : 0 < p) (hb : base % p ^ (k + 1) = 0) (h1 : base + n * p ^ k ≤ x) (h2 : x < base + n * p ^ k + p ^ k) (hn : n < p) : dgp p x k = n := by
  unfold dgp
  obtain ⟨q, rfl⟩ : ∃ q, base = p ^ (k + 1) * q := ⟨base / p ^ (k + 1), by have := Nat.div_add_mod base (p ^ (k + 1)); omega⟩
  have pp : 0 < p ^ k := Nat.pow_pos hp
  have e : x / p ^ k = p * q + n := by
    have a1 : p ^ (k + 1) * q = (p * q) * p ^ k := by rw [Nat.pow_succ, Nat.mul_assoc, Nat.mul_comm]
    rw [a1] at h1 h2
    have l : (p * q + n) * p ^ k ≤ x := by rw [Nat.add_mul]; omega
    have u : x < (p * q + n + 1) * p ^ k := by rw [Nat.add_mul, Nat.add_mul, Nat.one_mul]; omega
    exact Nat.le_antisymm (Nat.lt_succ_iff.mp ((Nat.div_lt_iff_lt_mul pp).mpr u)) ((Nat.le_div_iff_mul_le pp).mpr l)
  rw [e, Nat.mul_add_mod]
  exact Nat.mod_eq_of_lt hn
noncomputable def wgh (s : Int × Int × Int) (x : Nat) : Option (Int × Int) → Int × Int × Int
  | none => s
  | some r => (if s.1 ≤ r.1 then s.1 else r.1, if r.2 < s.2.1 then r.2 else s.2.1, if s.1 ≤ r.1 then s.2.2 else (x : Int))
noncomputable def swp (f : Nat → Option (Int × Int)) : Nat → Nat → Int × Int × Int → Int × Int × Int
  | 0, _, s => s
  | n + 1, x, s => swp f n (x + 1) (wgh s x (f x))
theorem swp_add (f : Nat → Option (Int × Int)) : ∀ (a b x : Nat) (s : Int × Int × Int), swp f (a + b) x s = swp f b (x + a) (swp f a x s)
  | 0, b, x, s => by rw [Nat.zero_add]; rfl
  | a + 1, b, x, s => by
    rw [show a + 1 + b = (a + b) + 1 by omega]
    show swp f (a + b) (x + 1) _ = swp f b (x + (a + 1)) (swp f a (x + 1) _)
    rw [swp_add f a b (x + 1), show x + 1 + a = x + (a + 1) by omega]
theorem swp_ext (f h : Nat → Option (Int × Int)) : ∀ (n x : Nat) (s : Int × Int × Int), (∀ y, x ≤ y → y < x + n → f y = h y) → swp f n x s = swp h n x s
  | 0, _, _, _ => rfl
  | n + 1, x, s, e => by
    show swp f n (x + 1) (wgh s x (f x)) = swp h n (x + 1) (wgh s x (h x))
    rw [swp_ext f h n (x + 1) _ (fun y a b => e y (by omega) (by omega)), e x (Nat.le_refl _) (by omega)]
theorem swp_none (f : Nat → Option (Int × Int)) : ∀ (n x : Nat) (s : Int × Int × Int), (∀ y, x ≤ y → y < x + n → f y = none) → swp f n x s = s
  | 0, _, _, _ => rfl
  | n + 1, x, s, e => by
    show swp f n (x + 1) (wgh s x (f x)) = s
    rw [e x (Nat.le_refl _) (by omega)]
    exact swp_none f n (x + 1) s (fun y a b => e y (by omega) (by omega))
/-! one week -/
noncomputable def shf (s : Nat → Int32) : Nat → Int32 := fun k => if k < 9 then s (k + 1) else 0
noncomputable def lar (s : Nat → Int32) : Nat → Int32 := fun k => if k < 10 then s k else 0
theorem lar_ext {s t : Nat → Int32} (h : ∀ k, k < 10 → s k = t k) : lar s = lar t := by
  funext k
  unfold lar
  by_cases c : k < 10
  · rw [if_pos c, if_pos c, h k c]
  · rw [if_neg c, if_neg c]
theorem lar_at {s : Nat → Int32} {k : Nat} (h : k < 10) : lar s k = s k := if_pos h
theorem lar_sum {s : Nat → Int32} : smV 10 0 (lar s) 0 = smV 10 0 s 0 := smV_ext 10 0 _ _ 0 (fun j _ b => lar_at (by omega))
noncomputable def wkE (nd : Int32) (s : Nat → Int32) (c : Int32) : Option ((Nat → Int32) × Int × Int) := if (eatV 10 nd s 0).1 = 0 then some (shf (eatV 10 nd s 0).2, c.toInt, ((eatV 10 nd s 0).2 0).toInt) else none
noncomputable def st1 (nd room : Int32) (kq : Nat → Nat) (gt ct : Nat → Int32) (s : Nat → Int32) (a : Nat) : Option ((Nat → Int32) × Int × Int) := if a = 0 then wkE nd s 0 else if room < smV 10 0 s 0 + gt (a - 1) then none else wkE nd (upS s (kq (a - 1)) (s (kq (a - 1)) + gt (a - 1))) (ct (a - 1))
noncomputable def evp (S : (Nat → Int32) → Nat → Option ((Nat → Int32) × Int × Int)) (p : Nat) : Nat → (Nat → Int32) → Nat → Option (Int × Int)
  | 0, _, _ => some (0, 0)
  | k + 1, s, x => match S s (dgp p x k) with
    | none => none
    | some r => match evp S p k r.1 x with
      | none => none
      | some q => some (r.2.1 + q.1, r.2.2 + q.2)
noncomputable def pls (P W : Int) : Option (Int × Int) → Option (Int × Int)
  | none => none
  | some q => some (P + q.1, W + q.2)
theorem evp_some {S : (Nat → Int32) → Nat → Option ((Nat → Int32) × Int × Int)} {p k x : Nat} {s : Nat → Int32} {r : (Nat → Int32) × Int × Int} (h : S s (dgp p x k) = some r) {P W : Int} : pls P W (evp S p (k + 1) s x) = pls (P + r.2.1) (W + r.2.2) (evp S p k r.1 x) := by
  show pls P W (match S s (dgp p x k) with
    | none => none
    | some r => match evp S p k r.1 x with
      | none => none
      | some q => some (r.2.1 + q.1, r.2.2 + q.2)) = _
  rw [h]
  dsimp only
  cases evp S p k r.1 x with
  | none => rfl
  | some q =>
    show some (P + (r.2.1 + q.1), W + (r.2.2 + q.2)) = some (P + r.2.1 + q.1, W + r.2.2 + q.2)
    rw [Int.add_assoc, Int.add_assoc]
theorem evp_none {S : (Nat → Int32) → Nat → Option ((Nat → Int32) × Int × Int)} {p k x : Nat} {s : Nat → Int32} (h : S s (dgp p x k) = none) {P W : Int} : pls P W (evp S p (k + 1) s x) = none := by
  show pls P W (match S s (dgp p x k) with
    | none => none
    | some r => match evp S p k r.1 x with
      | none => none
      | some q => some (r.2.1 + q.1, r.2.2 + q.2)) = _
  rw [h]
  rfl
/-- a block of numbers, by its first figure -/
theorem swp_blk {S : (Nat → Int32) → Nat → Option ((Nat → Int32) × Int × Int)} {p : Nat} (hp : 0 < p) {k base a : Nat} {s : Nat → Int32} {P W : Int} (hb : base % p ^ (k + 1) = 0) (ha : a < p) (q : Int × Int × Int) : swp (fun x => pls P W (evp S p (k + 1) s x)) (p ^ k) (base + a * p ^ k) q = match S s a with
    | none => q
    | some r => swp (fun x => pls (P + r.2.1) (W + r.2.2) (evp S p k r.1 x)) (p ^ k) (base + a * p ^ k) q := by
  cases e : S s a with
  | none => exact swp_none _ _ _ _ (fun y h1 h2 => evp_none (by rw [dgp_blk hp hb h1 h2 ha]; exact e))
  | some r => exact swp_ext _ _ _ _ _ (fun y h1 h2 => evp_some (by rw [dgp_blk hp hb h1 h2 ha]; exact e))
theorem base_m {p k base n : Nat} (hb : base % p ^ (k + 1) = 0) : (base + n * p ^ k) % p ^ k = 0 := by
  have d1 : p ^ k ∣ p ^ (k + 1) := Nat.pow_dvd_pow p (by omega)
  have d2 : p ^ (k + 1) ∣ base := Nat.dvd_of_mod_eq_zero hb
  have : base % p ^ k = 0 := Nat.mod_eq_zero_of_dvd (Nat.dvd_trans d1 d2)
  rw [Nat.add_mul_mod_self_right]
  exact this
/-! bounds; the same run from another start -/
noncomputable def twoS (s t : Int × Int × Int) : Prop := (s = t ∧ s.1 ≤ 1000 ∧ s.2.1 ≤ 1000 ∧ 0 ≤ s.2.2) ∨ (s = (1000000, 1000000, -9) ∧ t = (99999, 99999, -9))
theorem twoS_w {s t : Int × Int × Int} {x : Nat} {o : Option (Int × Int)} (h : twoS s t) (ho : ∀ q, o = some q → (0 ≤ q.1 ∧ q.1 ≤ 1000) ∧ (0 ≤ q.2 ∧ q.2 ≤ 1000)) : twoS (wgh s x o) (wgh t x o) := by
  cases o with
  | none => exact h
  | some q =>
    obtain ⟨⟨a1, a2⟩, b1, b2⟩ := ho q rfl
    rcases h with ⟨rfl, h1, h2, h3⟩ | ⟨rfl, rfl⟩
    · refine Or.inl ⟨rfl, ?_, ?_, ?_⟩
      · show (if s.1 ≤ q.1 then s.1 else q.1) ≤ 1000
        by_cases l : s.1 ≤ q.1
        · rw [if_pos l]; exact h1
        · rw [if_neg l]; exact a2
      · show (if q.2 < s.2.1 then q.2 else s.2.1) ≤ 1000
        by_cases l : q.2 < s.2.1
        · rw [if_pos l]; exact b2
        · rw [if_neg l]; exact h2
      · show 0 ≤ (if s.1 ≤ q.1 then s.2.2 else (x : Int))
        by_cases l : s.1 ≤ q.1
        · rw [if_pos l]; exact h3
        · rw [if_neg l]; omega
    · have e1 : wgh (1000000, 1000000, -9) x (some q) = (q.1, q.2, (x : Int)) := by
        show ((if (1000000 : Int) ≤ q.1 then (1000000 : Int) else q.1), (if q.2 < (1000000 : Int) then q.2 else (1000000 : Int)), (if (1000000 : Int) ≤ q.1 then (-9 : Int) else (x : Int))) = _
        rw [if_neg (by omega), if_pos (by omega), if_neg (by omega)]
      have e2 : wgh (99999, 99999, -9) x (some q) = (q.1, q.2, (x : Int)) := by
        show ((if (99999 : Int) ≤ q.1 then (99999 : Int) else q.1), (if q.2 < (99999 : Int) then q.2 else (99999 : Int)), (if (99999 : Int) ≤ q.1 then (-9 : Int) else (x : Int))) = _
        rw [if_neg (by omega), if_pos (by omega), if_neg (by omega)]
      rw [e1, e2]
      exact Or.inl ⟨rfl, a2, b2, by show 0 ≤ (x : Int); omega⟩
theorem twoS_s {f : Nat → Option (Int × Int)} (ho : ∀ x q, f x = some q → (0 ≤ q.1 ∧ q.1 ≤ 1000) ∧ (0 ≤ q.2 ∧ q.2 ≤ 1000)) : ∀ (n x : Nat) (s t : Int × Int × Int), twoS s t → twoS (swp f n x s) (swp f n x t)
  | 0, _, _, _, h => h
  | n + 1, x, s, t, h => twoS_s ho n (x + 1) _ _ (twoS_w h (ho x))
end
section
/-! the class's search -/
theorem dgp_hi {p k base a t : Nat} (hp : 0 < p) (hb : base % p ^ (k + 1) = 0) (ha : a < p) (ht : k < t) : dgp p (base + a * p ^ k) t = dgp p base t := by
  unfold dgp
  obtain ⟨e, rfl⟩ : ∃ e, t = (k + 1) + e := ⟨t - (k + 1), by omega⟩
  have pp : 0 < p ^ (k + 1) := Nat.pow_pos hp
  have l : a * p ^ k < p ^ (k + 1) := by
    rw [Nat.pow_succ, Nat.mul_comm]
    exact Nat.mul_lt_mul_of_pos_left ha (Nat.pow_pos hp)
  have q : (base + a * p ^ k) / p ^ (k + 1) = base / p ^ (k + 1) := by
    obtain ⟨z, rfl⟩ : ∃ z, base = p ^ (k + 1) * z := ⟨base / p ^ (k + 1), by have := Nat.div_add_mod base (p ^ (k + 1)); omega⟩
    rw [Nat.mul_add_div pp, Nat.div_eq_of_lt l, Nat.mul_div_cancel_left _ pp]
    omega
  rw [Nat.pow_add, ← Nat.div_div_eq_div_mul, ← Nat.div_div_eq_div_mul, q]
noncomputable def chv (a : Nat) : Int32 := if a = 0 then -9 else nI (a - 1)
noncomputable def kq1 (I : jI) (i : Nat) : Nat := (kpsS (I 18 1 i) (I 21 1 i)).toNatClampNeg
noncomputable def gt1 (I : jI) (i : Nat) : Int32 := gotS (I 18 1 i) (I 19 1 i)
noncomputable def ct1 (I : jI) (i : Nat) : Int32 := kost (I 18 1 i) 1 (I 20 1 i) (I 4 1 14)
noncomputable def S1 (I : jI) : (Nat → Int32) → Nat → Option ((Nat → Int32) × Int × Int) := st1 (I 4 1 7) (I 4 1 8) (kq1 I) (gt1 I) (ct1 I)
noncomputable def smP (I S : jI) (n : Nat) : Prop := (∀ g, ¬ g = 23 → ¬ g = 27 → ¬ g = 28 → ¬ g = 9 → S g = I g) ∧ (∀ i, i ≤ 6 → S 23 i = I 23 i) ∧ (S 9 0 3).toInt = (n : Int)
noncomputable def cls (S : jI) (p n : Nat) (q : Int × Int × Int) : Prop := (S 9 0 4).toInt = q.1 ∧ (S 9 0 5).toInt = q.2.1 ∧ (q.2.2 = -9 ∨ ∃ x : Nat, q.2.2 = (x : Int) ∧ ∀ j, j < n → S 28 0 j = chv (dgp p x (n - 1 - j)))
noncomputable def pln (S : jI) (p n w x : Nat) : Prop := ∀ j, j < w → S 27 0 j = chv (dgp p x (n - 1 - j))
noncomputable def lQ (s : Nat → Int32) : Prop := (∀ k, k < 10 → 0 ≤ (s k).toInt) ∧ smI 10 s 0 ≤ 99 ∧ ∀ k, 10 ≤ k → s k = 0
theorem wkE_b {nd c : Int32} {s : Nat → Int32} {r : (Nat → Int32) × Int × Int} (hn : 0 ≤ nd.toInt) (hq : lQ s) (h : wkE nd s c = some r) : (eatV 10 nd s 0).1 = 0 ∧ r = (shf (eatV 10 nd s 0).2, c.toInt, ((eatV 10 nd s 0).2 0).toInt) ∧ lQ r.1 ∧ 0 ≤ r.2.2 ∧ r.2.2 ≤ 99 := by
  obtain ⟨h0, h1, h2⟩ := hq
  have ev := eatV_le 10 nd s 0 hn (fun j _ b => h0 j (by omega))
  unfold wkE at h
  by_cases z : (eatV 10 nd s 0).1 = 0
  · rw [if_pos z] at h
    cases h
    refine ⟨z, rfl, ⟨fun k hk => ?_, ?_, fun k hk => ?_⟩, (ev.2 0 (by decide) (by decide)).1, ?_⟩
    · show 0 ≤ (if k < 9 then (eatV 10 nd s 0).2 (k + 1) else 0).toInt
      by_cases c : k < 9
      · rw [if_pos c]; exact (ev.2 (k + 1) (by omega) (by omega)).1
      · rw [if_neg c]; decide
    · have g : ∀ k, k < 9 → (shf (eatV 10 nd s 0).2 k).toInt ≤ (s (k + 1)).toInt := fun k hk => by
        show (if k < 9 then (eatV 10 nd s 0).2 (k + 1) else 0).toInt ≤ _
        rw [if_pos hk]; exact (ev.2 (k + 1) (by omega) (by omega)).2
      have g9 : (shf (eatV 10 nd s 0).2 9).toInt = 0 := rfl
      have hz : 0 ≤ (s 0).toInt := h0 0 (by decide)
      rw [smI_10] at h1
      show smI 10 (shf (eatV 10 nd s 0).2) 0 ≤ 99
      rw [smI_10]
      have g0 := g 0 (by decide)
      have g1 := g 1 (by decide)
      have g2 := g 2 (by decide)
      have g3 := g 3 (by decide)
      have g4 := g 4 (by decide)
      have g5 := g 5 (by decide)
      have g6 := g 6 (by decide)
      have g7 := g 7 (by decide)
      have g8 := g 8 (by decide)
      dsimp only [Nat.reduceAdd] at g0 g1 g2 g3 g4 g5 g6 g7 g8
      omega
    · show (if k < 9 then _ else (0 : Int32)) = 0
      rw [if_neg (by omega)]
    · have a := (ev.2 0 (by decide) (by decide)).2
      have b := smI_mem 10 s 0 0 (by decide) (by decide) (fun j _ b => h0 j (by omega))
      show ((eatV 10 nd s 0).2 0).toInt ≤ 99
      omega
  · rw [if_neg z] at h
    cases h
theorem add_Q {s : Nat → Int32} {q : Nat} {g room : Int32} (hq : lQ s) (q10 : q < 10) (g0 : 0 ≤ g.toInt ∧ g.toInt ≤ 9) (hr : room.toInt ≤ 99) (h : ¬ room < smV 10 0 s 0 + g) : lQ (upS s q (s q + g)) ∧ (s q + g).toInt = (s q).toInt + g.toInt := by
  obtain ⟨h0, h1, h2⟩ := hq
  have sl := smI_ge 10 s 0 (fun j _ b => h0 j (by omega))
  have z0 : (0 : Int32).toInt = 0 := rfl
  have sv := smV_t 10 0 s 0 (by decide) (fun j _ b => h0 j (by omega)) (by rw [z0]; omega)
  rw [z0] at sv
  rw [lt_t, i32_add (by omega), sv] at h
  have mem := smI_mem 10 s 0 q (by omega) (by omega) (fun j _ b => h0 j (by omega))
  have hq0 := h0 q q10
  have e : (s q + g).toInt = (s q).toInt + g.toInt := i32_add (by omega)
  refine ⟨⟨fun k hk => ?_, ?_, fun k hk => ?_⟩, e⟩
  · unfold upS
    by_cases c : k = q
    · rw [if_pos c]; omega
    · rw [if_neg c]; exact h0 k hk
  · rw [smI_one 10 (upS s q (s q + g)) s 0 q g.toInt (by omega) (by omega) (fun j _ _ c => upS_ne c) (by rw [upS_at, e])]
    omega
  · rw [upS_ne (by omega)]; exact h2 k hk
theorem S1_b {I J : jI} {m : Nat} (c : cur I J m) (hG : gG aGI I) (hm0 : 0 < m) {s : Nat → Int32} {a : Nat} {r : (Nat → Int32) × Int × Int} (ha : a ≤ m) (hq : lQ s) (h : S1 I s a = some r) : lQ r.1 ∧ (0 ≤ r.2.1 ∧ r.2.1 ≤ 99) ∧ (0 ≤ r.2.2 ∧ r.2.2 ≤ 99) := by
  obtain ⟨o1, o2⟩ := c.2.2.2.2 hm0
  unfold S1 st1 at h
  by_cases a0 : a = 0
  · rw [if_pos a0] at h
    obtain ⟨-, w2, w3, w4⟩ := wkE_b (by omega) hq h
    rw [w2] at w3 w4 ⊢
    exact ⟨w3, ⟨by show 0 ≤ (0 : Int32).toInt; decide, by show (0 : Int32).toInt ≤ 99; decide⟩, w4⟩
  · rw [if_neg a0] at h
    by_cases l : I 4 1 8 < smV 10 0 s 0 + gt1 I (a - 1)
    · rw [if_pos l] at h; cases h
    · rw [if_neg l] at h
      have gi := c.2.2.2.1.2.1 (a - 1) (by omega)
      have kb : kq1 I (a - 1) < 10 := kps_b (hG (21, (0, 5), (0, 5), (0, 9)) (by decide) 1 (a - 1) (by simp) (by simp) (by simp) (by have := c.2.1.2; simp; omega))
      have aq := (add_Q hq kb (got_b ⟨by omega, gi.1.2⟩) (by omega) l).1
      obtain ⟨-, w2, w3, w4⟩ := wkE_b (by omega) aq h
      have cb := cost_1 (k := I 18 1 (a - 1)) (c := I 4 1 14) gi.2
      rw [w2] at w3 w4 ⊢
      exact ⟨w3, cb, w4⟩
theorem wg_c {S : jI} {p n base : Nat} {P W : Int32} {q : Int × Int × Int} (h3 : (S 9 0 3).toInt = (n : Int)) (hn : n ≤ 3) (hc : cls S p n q) (hp : pln S p n n base) : ∃ T, d57 P W S = some T ∧ cls T p n (wgh q base (pls P.toInt W.toInt (some (0, 0)))) ∧ (∀ g, ¬ g = 9 → ¬ g = 28 → T g = S g) ∧ (T 9 0 3 = S 9 0 3) := by
  obtain ⟨c1, c2, c3⟩ := hc
  have e4 : (jup S 9 0 5 (if W < S 9 0 5 then W else S 9 0 5)) 9 0 4 = S 9 0 4 := rfl
  have w5 : (if W < S 9 0 5 then W else S 9 0 5).toInt = if W.toInt + 0 < q.2.1 then W.toInt + 0 else q.2.1 := by
    by_cases l : W < S 9 0 5
    · rw [if_pos l, if_pos (by rw [lt_t] at l; omega)]; omega
    · rw [if_neg l, if_neg (by rw [lt_t] at l; omega)]; exact c2
  unfold d57
  rw [e4]
  clear e4
  generalize (if W < S 9 0 5 then W else S 9 0 5) = B at w5
  show ∃ T, _ ∧ cls T p n (if q.1 ≤ P.toInt + 0 then q.1 else P.toInt + 0, if W.toInt + 0 < q.2.1 then W.toInt + 0 else q.2.1, if q.1 ≤ P.toInt + 0 then q.2.2 else (base : Int)) ∧ _
  by_cases l : S 9 0 4 ≤ P
  · rw [if_pos l, if_pos (show q.1 ≤ P.toInt + 0 by rw [le_t] at l; omega), if_pos (show q.1 ≤ P.toInt + 0 by rw [le_t] at l; omega)]
    refine ⟨_, rfl, ⟨c1, w5, c3⟩, fun g g1 _ => jup_g g1, rfl⟩
  · rw [if_neg l, if_neg (show ¬ q.1 ≤ P.toInt + 0 by rw [le_t] at l; omega), if_neg (show ¬ q.1 ≤ P.toInt + 0 by rw [le_t] at l; omega)]
    have c0 : Int32.toNatClampNeg 0 = 0 := rfl
    have e3 : (jup (jup S 9 0 5 B) 9 0 4 P) 9 0 3 = S 9 0 3 := rfl
    have nn : (S 9 0 3).toNatClampNeg = n := by have := cl_t (x := S 9 0 3) (by omega); omega
    rw [e3, nn, c0]
    refine ⟨_, rfl, ⟨?_, ?_, Or.inr ⟨base, rfl, fun j hj => ?_⟩⟩, fun g g1 g2 => ?_, ?_⟩
    · show P.toInt = P.toInt + 0; omega
    · exact w5
    · show jcpy (jup (jup S 9 0 5 _) 9 0 4 P) 27 0 28 0 0 0 n 28 0 j = _
      unfold jcpy
      rw [if_pos ⟨rfl, rfl, by omega, by omega⟩, show 0 + (j - 0) = j by omega, jup_g (by decide), jup_g (by decide)]
      exact hp j hj
    · show jcpy (jup (jup S 9 0 5 _) 9 0 4 P) 27 0 28 0 0 0 n g = S g
      funext a b
      unfold jcpy
      rw [if_neg (fun z => g2 z.1), jup_g g1, jup_g g1]
    · show jcpy (jup (jup S 9 0 5 _) 9 0 4 P) 27 0 28 0 0 0 n 9 0 3 = S 9 0 3
      rfl
end
section
/-! one week of a plan, then the rest -/
theorem d11_t {a b : Nat} {S : jI} : (∀ j, j < 10 → d11 a b S 23 a j = S 23 b j) ∧ ∀ g i j, ¬ (g = 23 ∧ i = a) → d11 a b S g i j = S g i j := by
  have c0 : Int32.toNatClampNeg 0 = 0 := rfl
  have c10 : Int32.toNatClampNeg 10 = 10 := rfl
  refine ⟨fun j h => ?_, fun g i j h => ?_⟩
  · unfold d11 jcpy
    rw [c0, c10, if_pos ⟨rfl, rfl, by omega, by omega⟩, show 0 + (j - 0) = j by omega]
  · unfold d11 jcpy
    rw [if_neg (fun z => h ⟨z.1, z.2.1⟩)]
noncomputable def GoK (I : jI) (p n : Nat) (rc : Nat → Int32 → Int32 → Int32 → jI → Option jI) (k : Nat) : Prop := ∀ (w P W : Int32) (base : Nat) (s : Nat → Int32) (S : jI) (q : Int × Int × Int), w.toInt + (k : Int) = (n : Int) → 0 ≤ w.toInt → smP I S n → lar (S 23 (7 + w.toNatClampNeg)) = s → lQ s → pln S p n w.toNatClampNeg base → base % p ^ k = 0 → cls S p n q → (0 ≤ P.toInt ∧ P.toInt + 99 * (k : Int) ≤ 1000) → (0 ≤ W.toInt ∧ W.toInt + 99 * (k : Int) ≤ 1000) → ∃ T, rc 1 w P W S = some T ∧ smP I T n ∧ cls T p n (swp (fun x => pls P.toInt W.toInt (evp (S1 I) p k s x)) (p ^ k) base q) ∧ (∀ i, i ≤ 7 + w.toNatClampNeg → T 23 i = S 23 i) ∧ ∀ j, j < w.toNatClampNeg → T 27 0 j = S 27 0 j
noncomputable def tlE (rc : Nat → Int32 → Int32 → Int32 → jI → Option jI) (h : Nat) (w x P W c : Int32) (U : jI) : Option jI := (d13 h (U 4 1 7) U).bind fun r1 => if r1.1 = (r1.2 4 1 7) then (rc 1 (w + 1) (P + c) (W + ((d14 h (jup r1.2 27 0 (Int32.toNatClampNeg w) x)).1)) ((d14 h (jup r1.2 27 0 (Int32.toNatClampNeg w) x)).2)).bind fun r2 => some r2 else some r1.2
theorem tl_c {I : jI} {p n k base a : Nat} {rc : Nat → Int32 → Int32 → Int32 → jI → Option jI} {w P W c : Int32} {U : jI} {s0 : Nat → Int32} {q : Int × Int × Int} (hp : 0 < p) (hn : n ≤ 3) (go : GoK I p n rc k) (nd0 : 0 ≤ (I 4 1 7).toInt) (hw : w.toInt + ((k + 1 : Nat) : Int) = (n : Int)) (w0 : 0 ≤ w.toInt) (hs : smP I U n) (hu : lar (U 23 (8 + w.toNatClampNeg)) = s0) (hq : lQ s0) (hpl : pln U p n w.toNatClampNeg base) (hb : base % p ^ (k + 1) = 0) (ha : a < p) (hc : cls U p n q) (c0 : 0 ≤ c.toInt ∧ c.toInt ≤ 99) (hP : 0 ≤ P.toInt ∧ P.toInt + 99 * ((k + 1 : Nat) : Int) ≤ 1000) (hW : 0 ≤ W.toInt ∧ W.toInt + 99 * ((k + 1 : Nat) : Int) ≤ 1000) : ∃ T, tlE rc (8 + w.toNatClampNeg) w (chv a) P W c U = some T ∧ smP I T n ∧ cls T p n (match wkE (I 4 1 7) s0 c with
    | none => q
    | some r => swp (fun x => pls (P.toInt + r.2.1) (W.toInt + r.2.2) (evp (S1 I) p k r.1 x)) (p ^ k) (base + a * p ^ k) q) ∧ (∀ i, i ≤ 7 + w.toNatClampNeg → T 23 i = U 23 i) ∧ ∀ j, j < w.toNatClampNeg → T 27 0 j = U 27 0 j := by
  obtain ⟨s1, s2, s3⟩ := hs
  have nw := cl_t w0
  have e := i32_inc (x := w) (by omega)
  have wn : (w + 1).toNatClampNeg = w.toNatClampNeg + 1 := by
    have := cl_t (x := w + 1) (by omega)
    omega
  have kk : ((k + 1 : Nat) : Int) = (k : Int) + 1 := rfl
  have u7 : U 4 1 7 = I 4 1 7 := by rw [s1 4 (by decide) (by decide) (by decide) (by decide)]
  have u0 : ∀ j, j < 10 → U 23 (8 + w.toNatClampNeg) j = s0 j := fun j hj => by rw [← hu, lar_at hj]
  obtain ⟨r, r1, ⟨r2, r3⟩, r4⟩ := eat_c (a0 := 8 + w.toNatClampNeg) (nd := I 4 1 7) (I := U) nd0 (fun j hj => by rw [u0 j hj]; exact hq.1 j hj)
  have x := eatV_ext 10 (I 4 1 7) (U 23 (8 + w.toNatClampNeg)) s0 0 (fun j _ b => u0 j (by omega))
  have ev := eatV_le 10 (I 4 1 7) s0 0 nd0 (fun j _ b => hq.1 j (by omega))
  have r7 : r.2 4 1 7 = I 4 1 7 := by rw [r4 4 1 7 (fun z => absurd z.1 (by decide)), u7]
  have rn := i32_rng (I 4 1 7)
  rw [x.1] at r2
  have rt : r.1.toInt = (I 4 1 7).toInt - (eatV 10 (I 4 1 7) s0 0).1.toInt := by rw [r2, i32_sub (by omega)]
  have fr1 : ∀ g, ¬ g = 23 → r.2 g = U g := fun g hg => by
    funext i j
    exact r4 g i j (fun z => hg z.1)
  have fr2 : ∀ i, i ≤ 7 + w.toNatClampNeg → r.2 23 i = U 23 i := fun i hi => by
    funext j
    exact r4 23 i j (fun z => by have := z.2; omega)
  unfold tlE
  rw [u7, r1]
  dsimp only [Option.bind_some]
  rw [r7]
  unfold wkE
  by_cases z : (eatV 10 (I 4 1 7) s0 0).1 = 0
  · have z' : (eatV 10 (I 4 1 7) s0 0).1.toInt = 0 := by rw [z]; rfl
    rw [if_pos (show r.1 = I 4 1 7 from eq_t.mpr (by omega)), if_pos z]
    dsimp only
    have wE : wkE (I 4 1 7) s0 c = some (shf (eatV 10 (I 4 1 7) s0 0).2, c.toInt, ((eatV 10 (I 4 1 7) s0 0).2 0).toInt) := by unfold wkE; rw [if_pos z]
    obtain ⟨-, -, q3, q4, q5⟩ := wkE_b nd0 hq wE
    have q4 : 0 ≤ ((eatV 10 (I 4 1 7) s0 0).2 0).toInt := q4
    have q5 : ((eatV 10 (I 4 1 7) s0 0).2 0).toInt ≤ 99 := q5
    have V23 : ∀ i, jup r.2 27 0 w.toNatClampNeg (chv a) 23 i = r.2 23 i := fun i => by rw [jup_g (by decide)]
    have o1 : (d14 (8 + w.toNatClampNeg) (jup r.2 27 0 w.toNatClampNeg (chv a))).1 = (eatV 10 (I 4 1 7) s0 0).2 0 := by
      show jup r.2 27 0 w.toNatClampNeg (chv a) 23 (8 + w.toNatClampNeg) 0 = _
      rw [V23, r3, x.2 0 (by decide) (by decide)]
    have o2 : ∀ g i j, ¬ (g = 23 ∧ i = 8 + w.toNatClampNeg) → (d14 (8 + w.toNatClampNeg) (jup r.2 27 0 w.toNatClampNeg (chv a))).2 g i j = jup r.2 27 0 w.toNatClampNeg (chv a) g i j := fun g i j h => off_o h
    have o3 : lar ((d14 (8 + w.toNatClampNeg) (jup r.2 27 0 w.toNatClampNeg (chv a))).2 23 (8 + w.toNatClampNeg)) = shf (eatV 10 (I 4 1 7) s0 0).2 := by
      funext j
      unfold lar shf
      by_cases h10 : j < 10
      · rw [if_pos h10, off_c]
        by_cases h9 : j < 9
        · rw [if_pos h9, if_pos h9, V23, r3, x.2 (j + 1) (by omega) (by omega)]
        · rw [if_neg h9, if_pos (by omega), if_neg h9]
      · rw [if_neg h10, if_neg (by omega)]
    have eP : (P + c).toInt = P.toInt + c.toInt := i32_add (by omega)
    have eW : (W + (eatV 10 (I 4 1 7) s0 0).2 0).toInt = W.toInt + ((eatV 10 (I 4 1 7) s0 0).2 0).toInt := i32_add (by omega)
    rw [o1]
    generalize hX : (d14 (8 + w.toNatClampNeg) (jup r.2 27 0 w.toNatClampNeg (chv a))).2 = X at o2 o3
    have Xg : ∀ g, ¬ g = 23 → ¬ g = 27 → X g = U g := fun g h1 h2 => by
      funext i j
      rw [o2 g i j (fun z => h1 z.1), jup_g h2, fr1 g h1]
    have X23 : ∀ i, i ≤ 7 + w.toNatClampNeg → X 23 i = U 23 i := fun i hi => by
      funext j
      rw [o2 23 i j (fun z => by have := z.2; omega), V23, fr2 i hi]
    have X27 : ∀ j, X 27 0 j = if j = w.toNatClampNeg then chv a else U 27 0 j := fun j => by
      rw [o2 27 0 j (fun z => absurd z.1 (by decide)), jup_c, fr1 27 (by decide)]
    obtain ⟨T, t1, t2, t3, t4, t5⟩ := go (w + 1) (P + c) (W + (eatV 10 (I 4 1 7) s0 0).2 0) (base + a * p ^ k) _ X q (by omega) (by omega) ⟨fun g h1 h2 h3 h4 => (Xg g h1 h2).trans (s1 g h1 h2 h3 h4), fun i hi => (X23 i (by omega)).trans (s2 i hi), by rw [Xg 9 (by decide) (by decide)]; exact s3⟩ (by rw [wn, show 7 + (w.toNatClampNeg + 1) = 8 + w.toNatClampNeg by omega]; exact o3) q3 (fun j hj => by
        rw [wn] at hj
        rw [X27]
        by_cases q1 : j = w.toNatClampNeg
        · rw [if_pos q1, show n - 1 - j = k by omega, dgp_blk hp hb (Nat.le_refl _) (by have := Nat.pow_pos (n := k) hp; omega) ha]
        · rw [if_neg q1, dgp_hi hp hb ha (by omega)]
          exact hpl j (by omega)) (base_m hb) ⟨by rw [Xg 9 (by decide) (by decide)]; exact hc.1, by rw [Xg 9 (by decide) (by decide)]; exact hc.2.1, by rw [Xg 28 (by decide) (by decide)]; exact hc.2.2⟩ (by omega) (by omega)
    rw [t1]
    refine ⟨T, rfl, t2, ?_, fun i hi => (t4 i (by omega)).trans (X23 i hi), fun j hj => ?_⟩
    · rw [eP, eW] at t3
      exact t3
    · rw [t5 j (by omega), X27, if_neg (by omega)]
  · have z' : ¬ (eatV 10 (I 4 1 7) s0 0).1.toInt = 0 := fun y => z (eq_t.mpr (by rw [y]; rfl))
    rw [if_neg (show ¬ r.1 = I 4 1 7 from fun y => by rw [y] at rt; omega), if_neg z]
    dsimp only
    exact ⟨r.2, rfl, ⟨fun g h1 h2 h3 h4 => (fr1 g h1).trans (s1 g h1 h2 h3 h4), fun i hi => (fr2 i (by omega)).trans (s2 i hi), by rw [fr1 9 (by decide)]; exact s3⟩, ⟨by rw [fr1 9 (by decide)]; exact hc.1, by rw [fr1 9 (by decide)]; exact hc.2.1, by rw [fr1 28 (by decide)]; exact hc.2.2⟩, fr2, fun j _ => by rw [fr1 27 (by decide)]⟩
theorem lv_c {I J : jI} {m n k base a : Nat} {rc : Nat → Int32 → Int32 → Int32 → jI → Option jI} {w P W : Int32} {S : jI} {s : Nat → Int32} {q : Int × Int × Int} (hG : gG aGI I) (c : cur I J m) (hm0 : 0 < m) (hn : n ≤ 3) (go : GoK I (m + 1) n rc k) (hw : w.toInt + ((k + 1 : Nat) : Int) = (n : Int)) (w0 : 0 ≤ w.toInt) (hs : smP I S n) (hu : lar (S 23 (7 + w.toNatClampNeg)) = s) (hq : lQ s) (hpl : pln S (m + 1) n w.toNatClampNeg base) (hb : base % (m + 1) ^ (k + 1) = 0) (ha : a < m + 1) (hc : cls S (m + 1) n q) (hP : 0 ≤ P.toInt ∧ P.toInt + 99 * ((k + 1 : Nat) : Int) ≤ 1000) (hW : 0 ≤ W.toInt ∧ W.toInt + 99 * ((k + 1 : Nat) : Int) ≤ 1000) : ∃ T, d56 rc 1 w (chv a) P W S = some T ∧ smP I T n ∧ cls T (m + 1) n (swp (fun x => pls P.toInt W.toInt (evp (S1 I) (m + 1) (k + 1) s x)) ((m + 1) ^ k) (base + a * (m + 1) ^ k) q) ∧ (∀ i, i ≤ 7 + w.toNatClampNeg → T 23 i = S 23 i) ∧ ∀ j, j < w.toNatClampNeg → T 27 0 j = S 27 0 j := by
  obtain ⟨s1, s2, s3⟩ := hs
  obtain ⟨o1, o2⟩ := c.2.2.2.2 hm0
  have nw := cl_t w0
  have e := i32_inc (x := w) (by omega)
  have ix : 7 + Int32.toNatClampNeg (w + 1) = 8 + w.toNatClampNeg := by
    have := cl_t (x := w + 1) (by omega)
    omega
  obtain ⟨D1, D2⟩ := d11_t (a := 8 + w.toNatClampNeg) (b := 7 + w.toNatClampNeg) (S := S)
  unfold d56
  rw [ix]
  generalize d11 (8 + w.toNatClampNeg) (7 + w.toNatClampNeg) S = D at D1 D2
  have Dg : ∀ g, ¬ g = 23 → D g = S g := fun g hg => by
    funext i j
    exact D2 g i j (fun z => hg z.1)
  have D23 : ∀ i, i ≤ 7 + w.toNatClampNeg → D 23 i = S 23 i := fun i hi => by
    funext j
    exact D2 23 i j (fun z => by have := z.2; omega)
  have hl : lar (D 23 (8 + w.toNatClampNeg)) = s := by rw [← hu]; exact lar_ext D1
  have hsD : smP I D n := ⟨fun g h1 h2 h3 h4 => (Dg g h1).trans (s1 g h1 h2 h3 h4), fun i hi => (D23 i (by omega)).trans (s2 i hi), by rw [Dg 9 (by decide)]; exact s3⟩
  have hplD : pln D (m + 1) n w.toNatClampNeg base := fun j hj => by rw [Dg 27 (by decide)]; exact hpl j hj
  have hcD : cls D (m + 1) n q := ⟨by rw [Dg 9 (by decide)]; exact hc.1, by rw [Dg 9 (by decide)]; exact hc.2.1, by rw [Dg 28 (by decide)]; exact hc.2.2⟩
  rw [swp_blk (Nat.succ_pos m) hb ha q]
  by_cases a0 : a = 0
  · have ca : chv a = -9 := if_pos a0
    rw [if_pos ca]
    obtain ⟨T, t1, t2, t3, t4, t5⟩ := tl_c (c := 0) (P := P) (W := W) (Nat.succ_pos m) hn go (by omega) hw w0 hsD hl hq hplD hb ha hcD ⟨by decide, by decide⟩ hP hW
    have eS : S1 I s a = wkE (I 4 1 7) s 0 := by unfold S1 st1; rw [if_pos a0]
    rw [eS]
    exact ⟨T, t1, t2, t3, fun i hi => (t4 i hi).trans (D23 i hi), fun j hj => (t5 j hj).trans (by rw [Dg 27 (by decide)])⟩
  · have ca : chv a = nI (a - 1) := if_neg a0
    have h6 := c.2.1.2
    have na : (nI (a - 1)).toInt = ((a - 1 : Nat) : Int) := nI_toInt (by omega)
    have nn : (nI (a - 1)).toNatClampNeg = a - 1 := by have := cl_t (x := nI (a - 1)) (by omega); omega
    rw [if_neg (show ¬ chv a = -9 from fun z => by rw [ca] at z; have := eq_t.mp z; have k9 : (-9 : Int32).toInt = -9 := rfl; omega), sum_c]
    dsimp only [Option.bind_some]
    have gi := c.2.2.2.1.2.1 (a - 1) (by omega)
    have g1 : d36 1 (chv a) D = gt1 I (a - 1) := by
      unfold d36 gt1
      rw [ca, nn, hsD.1 18 (by decide) (by decide) (by decide) (by decide), hsD.1 19 (by decide) (by decide) (by decide) (by decide), got_c]
    have k1 : Int32.toNatClampNeg (d37 1 (chv a) D) = kq1 I (a - 1) := by
      unfold d37 kq1
      rw [ca, nn, hsD.1 18 (by decide) (by decide) (by decide) (by decide), hsD.1 21 (by decide) (by decide) (by decide) (by decide), kps_c]
    have d8 : D 4 1 8 = I 4 1 8 := by rw [hsD.1 4 (by decide) (by decide) (by decide) (by decide)]
    have sm : smV 10 0 (D 23 (8 + w.toNatClampNeg)) 0 = smV 10 0 s 0 := by rw [← hl, lar_sum]
    rw [g1, d8, sm]
    have kb : kq1 I (a - 1) < 10 := kps_b (hG (21, (0, 5), (0, 5), (0, 9)) (by decide) 1 (a - 1) (by simp) (by simp) (by simp) (by simp; omega))
    by_cases l : I 4 1 8 < smV 10 0 s 0 + gt1 I (a - 1)
    · rw [if_neg (show ¬ smV 10 0 s 0 + gt1 I (a - 1) ≤ I 4 1 8 by rw [le_t]; rw [lt_t] at l; omega)]
      have eS : S1 I s a = none := by unfold S1 st1; rw [if_neg a0, if_pos l]
      rw [eS]
      exact ⟨D, rfl, hsD, hcD, D23, fun j _ => by rw [Dg 27 (by decide)]⟩
    · rw [if_pos (show smV 10 0 s 0 + gt1 I (a - 1) ≤ I 4 1 8 by rw [le_t]; rw [lt_t] at l; omega)]
      have aq := (add_Q hq kb (got_b ⟨by omega, gi.1.2⟩) (by omega) l).1
      have eS : S1 I s a = wkE (I 4 1 7) (upS s (kq1 I (a - 1)) (s (kq1 I (a - 1)) + gt1 I (a - 1))) (ct1 I (a - 1)) := by unfold S1 st1; rw [if_neg a0, if_neg l]
      rw [eS]
      have eU : d12 (8 + w.toNatClampNeg) (d37 1 (chv a) D) (gt1 I (a - 1)) D = jup D 23 (8 + w.toNatClampNeg) (kq1 I (a - 1)) (D 23 (8 + w.toNatClampNeg) (kq1 I (a - 1)) + gt1 I (a - 1)) := by
        unfold d12
        rw [k1]
      rw [eU]
      have Ug : ∀ g, ¬ g = 23 → jup D 23 (8 + w.toNatClampNeg) (kq1 I (a - 1)) (D 23 (8 + w.toNatClampNeg) (kq1 I (a - 1)) + gt1 I (a - 1)) g = D g := fun g hg => jup_g hg
      have U23 : ∀ i, i ≤ 7 + w.toNatClampNeg → jup D 23 (8 + w.toNatClampNeg) (kq1 I (a - 1)) (D 23 (8 + w.toNatClampNeg) (kq1 I (a - 1)) + gt1 I (a - 1)) 23 i = D 23 i := fun i hi => by
        funext j
        exact jup_of (fun z => by have := z.2.1; omega)
      have Ul : lar (jup D 23 (8 + w.toNatClampNeg) (kq1 I (a - 1)) (D 23 (8 + w.toNatClampNeg) (kq1 I (a - 1)) + gt1 I (a - 1)) 23 (8 + w.toNatClampNeg)) = upS s (kq1 I (a - 1)) (s (kq1 I (a - 1)) + gt1 I (a - 1)) := by
        funext j
        unfold lar upS
        rw [jup_c, ← hl]
        by_cases h10 : j < 10
        · rw [if_pos h10, lar_at kb, lar_at h10]
        · rw [if_neg h10, if_neg (by omega)]
          unfold lar
          rw [if_neg h10]
      have ct : d35 1 (chv a) 1 (jup D 23 (8 + w.toNatClampNeg) (kq1 I (a - 1)) (D 23 (8 + w.toNatClampNeg) (kq1 I (a - 1)) + gt1 I (a - 1))) = ct1 I (a - 1) := by
        unfold d35 ct1
        rw [ca, nn, Ug 18 (by decide), Ug 20 (by decide), Ug 4 (by decide), hsD.1 18 (by decide) (by decide) (by decide) (by decide), hsD.1 20 (by decide) (by decide) (by decide) (by decide), hsD.1 4 (by decide) (by decide) (by decide) (by decide), cost_c]
      rw [ct]
      have cb := cost_1 (k := I 18 1 (a - 1)) (c := I 4 1 14) gi.2
      generalize jup D 23 (8 + w.toNatClampNeg) (kq1 I (a - 1)) (D 23 (8 + w.toNatClampNeg) (kq1 I (a - 1)) + gt1 I (a - 1)) = U at Ug U23 Ul
      obtain ⟨T, t1, t2, t3, t4, t5⟩ := tl_c (c := ct1 I (a - 1)) (P := P) (W := W) (U := U) (Nat.succ_pos m) hn go (by omega) hw w0 ⟨fun g h1 h2 h3 h4 => (Ug g h1).trans (hsD.1 g h1 h2 h3 h4), fun i hi => (U23 i (by omega)).trans (hsD.2.1 i hi), by rw [Ug 9 (by decide)]; exact hsD.2.2⟩ Ul aq (fun j hj => by rw [Ug 27 (by decide)]; exact hplD j hj) hb ha ⟨by rw [Ug 9 (by decide)]; exact hcD.1, by rw [Ug 9 (by decide)]; exact hcD.2.1, by rw [Ug 28 (by decide)]; exact hcD.2.2⟩ cb hP hW
      exact ⟨T, t1, t2, t3, fun i hi => ((t4 i hi).trans (U23 i hi)).trans (D23 i hi), fun j hj => ((t5 j hj).trans (by rw [Ug 27 (by decide)])).trans (by rw [Dg 27 (by decide)])⟩
end
section
/-! the class's search, whole -/
theorem lv_l {I J : jI} {m n k base : Nat} {rc : Nat → Int32 → Int32 → Int32 → jI → Option jI} {w P W : Int32} {s : Nat → Int32} (hG : gG aGI I) (c : cur I J m) (hm0 : 0 < m) (hn : n ≤ 3) (go : GoK I (m + 1) n rc k) (hw : w.toInt + ((k + 1 : Nat) : Int) = (n : Int)) (w0 : 0 ≤ w.toInt) (hq : lQ s) (hb : base % (m + 1) ^ (k + 1) = 0) (hP : 0 ≤ P.toInt ∧ P.toInt + 99 * ((k + 1 : Nat) : Int) ≤ 1000) (hW : 0 ≤ W.toInt ∧ W.toInt + 99 * ((k + 1 : Nat) : Int) ≤ 1000) : ∀ (N F : Nat) (x : Int32) (S : jI) (q : Int × Int × Int), x.toInt + (N : Int) = (m : Int) → 0 ≤ x.toInt → N < F → smP I S n → lar (S 23 (7 + w.toNatClampNeg)) = s → pln S (m + 1) n w.toNatClampNeg base → cls S (m + 1) n q → ∃ T, d55_30 rc 1 w P W F x S = some T ∧ smP I T n ∧ cls T (m + 1) n (swp (fun x => pls P.toInt W.toInt (evp (S1 I) (m + 1) (k + 1) s x)) (N * (m + 1) ^ k) (base + (x.toNatClampNeg + 1) * (m + 1) ^ k) q) ∧ (∀ i, i ≤ 7 + w.toNatClampNeg → T 23 i = S 23 i) ∧ ∀ j, j < w.toNatClampNeg → T 27 0 j = S 27 0 j
  | _, 0, _, _, _, _, _, h, _, _, _, _ => absurd h (by omega)
  | 0, F + 1, x, S, q, hx, x0, _, hs, hu, hpl, hc => by
    have h6 := c.2.1
    have e6 : S 4 1 6 = I 4 1 6 := by rw [hs.1 4 (by decide) (by decide) (by decide) (by decide)]
    rw [d55_30, e6, if_pos (show I 4 1 6 ≤ x by rw [le_t]; omega), Nat.zero_mul]
    exact ⟨S, rfl, hs, hc, fun _ _ => rfl, fun _ _ => rfl⟩
  | N + 1, F + 1, x, S, q, hx, x0, hF, hs, hu, hpl, hc => by
    have h6 := c.2.1
    have e6 : S 4 1 6 = I 4 1 6 := by rw [hs.1 4 (by decide) (by decide) (by decide) (by decide)]
    have nx := cl_t x0
    have e := i32_inc (x := x) (by omega)
    have xn : (x + 1).toNatClampNeg = x.toNatClampNeg + 1 := by
      have := cl_t (x := x + 1) (by omega)
      omega
    have cx : chv (x.toNatClampNeg + 1) = x := by
      unfold chv
      rw [if_neg (by omega), show x.toNatClampNeg + 1 - 1 = x.toNatClampNeg by omega]
      exact (nI_is (by omega) (by omega)).symm
    obtain ⟨T, t1, t2, t3, t4, t5⟩ := lv_c (a := x.toNatClampNeg + 1) hG c hm0 hn go hw w0 hs hu hq hpl hb (by omega) hc hP hW
    rw [cx] at t1
    obtain ⟨U, u1, u2, u3, u4, u5⟩ := lv_l hG c hm0 hn go hw w0 hq hb hP hW N F (x + 1) T _ (by omega) (by omega) (by omega) t2 (by rw [t4 _ (Nat.le_refl _)]; exact hu) (fun j hj => by rw [t5 j hj]; exact hpl j hj) t3
    rw [d55_30, e6, if_neg (show ¬ I 4 1 6 ≤ x by rw [le_t]; omega), t1]
    dsimp only [Option.bind_some]
    refine ⟨U, u1, u2, ?_, fun i hi => (u4 i hi).trans (t4 i hi), fun j hj => (u5 j hj).trans (t5 j hj)⟩
    rw [show (N + 1) * (m + 1) ^ k = (m + 1) ^ k + N * (m + 1) ^ k by rw [Nat.add_mul, Nat.one_mul, Nat.add_comm], swp_add, show base + (x.toNatClampNeg + 1) * (m + 1) ^ k + (m + 1) ^ k = base + (x.toNatClampNeg + 1 + 1) * (m + 1) ^ k by rw [Nat.add_mul (x.toNatClampNeg + 1) 1, Nat.one_mul, Nat.add_assoc]]
    rw [xn] at u3
    exact u3
theorem go_all {I J : jI} {m n : Nat} (hG : gG aGI I) (c : cur I J m) (hm0 : 0 < m) (hn : n ≤ 3) : ∀ (k F : Nat), k ≤ n → k < F → GoK I (m + 1) n (d55r F) k
  | _, 0, _, h => absurd h (by omega)
  | 0, F + 1, _, _ => by
    intro w P W base s S q hw w0 hs hu hq hpl hb hc hP hW
    have nw := cl_t w0
    have ew : w.toNatClampNeg = n := by omega
    rw [ew] at hpl
    obtain ⟨T, t1, t2, t3, t4⟩ := wg_c (P := P) (W := W) hs.2.2 hn hc hpl
    have e3 := hs.2.2
    have go : d55r (F + 1) 1 w P W S = some T := by
      show d55 (d55r F) 1 w P W S = some T
      unfold d55
      rw [if_neg (show ¬ w < S 9 0 3 by rw [lt_t]; omega), t1]
      rfl
    refine ⟨T, go, ⟨fun g h1 h2 h3 h4 => (t3 g h4 h3).trans (hs.1 g h1 h2 h3 h4), fun i hi => by rw [t3 23 (by decide) (by decide)]; exact hs.2.1 i hi, by rw [t4]; exact e3⟩, t2, fun i _ => by rw [t3 23 (by decide) (by decide)], fun j _ => by rw [t3 27 (by decide) (by decide)]⟩
  | k + 1, F + 1, hk, hF => by
    intro w P W base s S q hw w0 hs hu hq hpl hb hc hP hW
    have go := go_all hG c hm0 hn k F (by omega) (by omega)
    have e3 := hs.2.2
    have kk : ((k + 1 : Nat) : Int) = (k : Int) + 1 := rfl
    obtain ⟨T, t1, t2, t3, t4, t5⟩ := lv_c (a := 0) hG c hm0 hn go hw w0 hs hu hq hpl hb (Nat.succ_pos m) hc hP hW
    have t1 : d56 (d55r F) 1 w (-9) P W S = some T := t1
    rw [Nat.zero_mul, Nat.add_zero] at t3
    have h6 := c.2.1
    obtain ⟨U, u1, u2, u3, u4, u5⟩ := lv_l hG c hm0 hn go hw w0 hq hb hP hW m 70 0 T _ (by show (0 : Int) + _ = _; omega) (by decide) (by omega) t2 (by rw [t4 _ (Nat.le_refl _)]; exact hu) (fun j hj => by rw [t5 j hj]; exact hpl j hj) t3
    have gg : d55r (F + 1) 1 w P W S = some U := by
      show d55 (d55r F) 1 w P W S = some U
      unfold d55
      rw [if_pos (show w < S 9 0 3 by rw [lt_t]; omega), t1]
      dsimp only [Option.bind_some]
      rw [u1]
      rfl
    refine ⟨U, gg, u2, ?_, fun i hi => (u4 i hi).trans (t4 i hi), fun j hj => (u5 j hj).trans (t5 j hj)⟩
    have z0 : Int32.toNatClampNeg 0 = 0 := rfl
    rw [z0, Nat.zero_add, Nat.one_mul] at u3
    rw [show (m + 1) ^ (k + 1) = (m + 1) ^ k + m * (m + 1) ^ k by rw [Nat.pow_succ, Nat.mul_comm, Nat.add_mul, Nat.one_mul, Nat.add_comm], swp_add]
    exact u3
noncomputable def evA (I : jI) (m n : Nat) : Nat → Option (Int × Int) := fun x => pls 0 0 (evp (S1 I) (m + 1) n (lar (I 23 1)) x)
theorem lQ_cur {I J : jI} {m : Nat} (c : cur I J m) : lQ (lar (I 23 1)) := by
  refine ⟨fun k hk => by rw [lar_at hk]; exact c.2.2.1.1 k hk, ?_, fun k hk => if_neg (by omega)⟩
  rw [smI_eq (t := I 23 1) (fun j _ b => lar_at (by omega))]
  exact c.2.2.1.2
theorem search_c {I J : jI} {m n : Nat} {v : Int32} (hG : gG aGI I) (c : cur I J m) (hm0 : 0 < m) (hv : v.toInt = (n : Int)) (hn : n ≤ 3) : ∃ T, d54 1 v I = some T ∧ smP I T n ∧ cls T (m + 1) n (swp (evA I m n) ((m + 1) ^ n) 0 (1000000, 1000000, -9)) := by
  have e3 : (if (3 : Int32) < v then (3 : Int32) else v) = v := if_neg (by rw [lt_t]; show ¬ (3 : Int) < _; omega)
  have c0 : Int32.toNatClampNeg 0 = 0 := rfl
  obtain ⟨D1, D2⟩ := d11_t (a := 7) (b := 1) (S := jup (jup (jup I 9 0 3 v) 9 0 4 1000000) 9 0 5 1000000)
  have go := go_all hG c hm0 hn n 6 (Nat.le_refl _) (by omega)
  unfold d54
  rw [e3, c0]
  have D3 : d11 (7 + 0) 1 (jup (jup (jup I 9 0 3 v) 9 0 4 1000000) 9 0 5 1000000) = d11 7 1 (jup (jup (jup I 9 0 3 v) 9 0 4 1000000) 9 0 5 1000000) := rfl
  rw [D3]
  have Dg : ∀ g, ¬ g = 23 → ¬ g = 9 → d11 7 1 (jup (jup (jup I 9 0 3 v) 9 0 4 1000000) 9 0 5 1000000) g = I g := fun g h1 h2 => by
    funext i j
    rw [D2 g i j (fun z => h1 z.1), jup_g h2, jup_g h2, jup_g h2]
  have D9 : ∀ j, d11 7 1 (jup (jup (jup I 9 0 3 v) 9 0 4 1000000) 9 0 5 1000000) 9 0 j = jup (jup (jup I 9 0 3 v) 9 0 4 1000000) 9 0 5 1000000 9 0 j := fun j => D2 9 0 j (fun z => absurd z.1 (by decide))
  have D23 : ∀ i, i ≤ 6 → d11 7 1 (jup (jup (jup I 9 0 3 v) 9 0 4 1000000) 9 0 5 1000000) 23 i = I 23 i := fun i hi => by
    funext j
    rw [D2 23 i j (fun z => by have := z.2; omega), jup_g (by decide), jup_g (by decide), jup_g (by decide)]
  have D7 : ∀ j, j < 10 → d11 7 1 (jup (jup (jup I 9 0 3 v) 9 0 4 1000000) 9 0 5 1000000) 23 7 j = I 23 1 j := fun j hj => by
    rw [D1 j hj, jup_g (by decide), jup_g (by decide), jup_g (by decide)]
  generalize d11 7 1 (jup (jup (jup I 9 0 3 v) 9 0 4 1000000) 9 0 5 1000000) = D at *
  obtain ⟨T, t1, t2, t3, -, -⟩ := go 0 0 0 0 (lar (I 23 1)) D (1000000, 1000000, -9) (by show (0 : Int) + _ = _; omega) (by decide) ⟨fun g h1 _ _ h4 => Dg g h1 h4, D23, by rw [D9]; exact hv⟩ (lar_ext D7) (lQ_cur c) (fun j hj => absurd hj (Nat.not_lt_zero j)) (Nat.zero_mod _) ⟨by rw [D9]; rfl, by rw [D9]; rfl, Or.inl rfl⟩ ⟨by decide, by show (0 : Int) + _ ≤ _; omega⟩ ⟨by decide, by show (0 : Int) + _ ≤ _; omega⟩
  rw [t1]
  exact ⟨T, rfl, t2, t3⟩
end
section
/-! the reference tries a plan -/
theorem ch_m {Y : jI} {m n X i : Nat} {x nn ii : Int32} (h3 : (Y 31 0 3).toInt = (m : Int)) (hm : m ≤ 6) (hx : x.toInt = (X : Int)) (hn : nn.toInt = (n : Int)) (n3 : n ≤ 3) (hi : ii.toInt = (i : Int)) (hin : i < n) : ∃ r, d186 x nn ii Y = some r ∧ r.toInt = ((dgp (m + 1) X (n - 1 - i) : Nat) : Int) - 1 := by
  have c1 : (1 : Int32).toInt = 1 := rfl
  have e1 : (Y 31 0 3 + 1).toInt = ((m + 1 : Nat) : Int) := by rw [i32_add (by omega), c1, h3]; rfl
  have e2 : ((nn - 1) - ii).toInt = ((n - 1 - i : Nat) : Int) := by
    have a : (nn - 1).toInt = nn.toInt - 1 := by rw [i32_sub (by omega), c1]
    rw [i32_sub (by omega), a]
    omega
  have le : (m + 1) ^ (n - 1 - i) ≤ 100000 := by
    have l1 : (m + 1) ^ (n - 1 - i) ≤ 7 ^ (n - 1 - i) := Nat.pow_le_pow_left (by omega) _
    have l2 : 7 ^ (n - 1 - i) ≤ 7 ^ 2 := Nat.pow_le_pow_right (by decide) (by omega)
    omega
  obtain ⟨w, w1, w2⟩ := pow_c (I := Y) e1 e2 (by omega) (by omega) le
  have pp : 0 < (m + 1) ^ (n - 1 - i) := Nat.pow_pos (Nat.succ_pos m)
  unfold d186
  rw [w1]
  refine ⟨_, rfl, ?_⟩
  have q1 : (x / w).toInt = ((X / (m + 1) ^ (n - 1 - i) : Nat) : Int) := by
    rw [td32 (by omega), hx, w2, Int.tdiv_eq_ediv_of_nonneg (by omega)]
    rfl
  have q2 : (x / w - x / w / (Y 31 0 3 + 1) * (Y 31 0 3 + 1)).toInt = ((dgp (m + 1) X (n - 1 - i) : Nat) : Int) := by
    rw [tm32 (by omega), q1, e1, Int.tmod_eq_emod_of_nonneg (Int.natCast_nonneg _)]
    rfl
  have l : dgp (m + 1) X (n - 1 - i) < m + 1 := Nat.mod_lt _ (Nat.succ_pos m)
  rw [i32_sub (by rw [q2, c1]; omega), q2, c1]
noncomputable def smN (J Y : jI) : Prop := (∀ g, ¬ g = 32 → Y g = J g) ∧ ∀ j, j < 4596 → Y 32 0 j = J 32 0 j
noncomputable def smT (I J : jI) (m : Nat) (Y : jI) (s : Nat → Int32) : Prop := smN J Y ∧ (∀ k, k = 5 ∨ 16 ≤ k → vM m Y 4597 k = vC m I 1 k) ∧ ∀ k, k < 10 → Y 32 0 (4603 + k) = s k
theorem pw_m {I J Y : jI} {m : Nat} {s : Nat → Int32} (c : cur I J m) (h : smT I J m Y s) (hq : lQ s) : ∃ r, d167 4596 Y = some r ∧ smT I J m r.2 (shf (eatV 10 (I 4 1 7) s 0).2) ∧ r.2 32 0 4598 = Y 32 0 4598 ∧ r.2 32 0 4600 = Y 32 0 4600 + (eatV 10 (I 4 1 7) s 0).1 ∧ r.2 32 0 4601 = Y 32 0 4601 + (eatV 10 (I 4 1 7) s 0).2 0 := by
  obtain ⟨⟨h1, h2⟩, h3, h4⟩ := h
  obtain ⟨r, r1, r2, r3, r4⟩ := pass_m (a := 4596) ⟨by decide, by decide⟩ (b := 4596) rfl (I := Y)
  have y1 : Y 31 0 1 = I 4 1 7 := by rw [h1 31 (by decide)]; exact c.1.1.2.1
  have x := eatV_ext 10 (I 4 1 7) (fun k => Y 32 0 (4596 + 7 + k)) s 0 (fun j _ b => h4 j (by omega))
  have wv := wk_v (m := m) r3
  refine ⟨r, r1, ⟨⟨fun g hg => (r4 g hg).trans (h1 g hg), fun j hj => by rw [r3, wk_o (by omega)]; exact h2 j hj⟩, fun k hk => ?_, fun k hk => ?_⟩, ?_, ?_, ?_⟩
  · rw [← h3 k hk]
    have := congrFun wv k
    have : vM m r.2 4597 k = stW (Y 31 0 1) (vM m Y 4597) k := this
    rw [this]
    rcases hk with rfl | hk
    · rfl
    · exact stW_o hk
  · rw [r3]
    unfold wkM shf
    rw [if_neg (by omega), if_neg (by omega), if_neg (by omega), if_neg (by omega), y1]
    by_cases c9 : k < 9
    · rw [if_pos (by omega), if_pos c9, show 4603 + k - 4596 - 6 = k + 1 by omega]
      exact x.2 (k + 1) (by omega) (by omega)
    · rw [if_neg (by omega), if_pos (by omega), if_neg c9]
  · rw [r3]
    unfold wkM
    rw [if_neg (by decide), if_neg (by decide), if_neg (by decide), if_neg (by decide), if_neg (by decide), if_neg (by decide)]
  · rw [r3]
    unfold wkM
    rw [if_neg (by decide), if_neg (by decide), if_pos rfl, y1, x.1]
  · rw [r3]
    unfold wkM
    rw [if_neg (by decide), if_neg (by decide), if_neg (by decide), if_pos rfl, y1, x.2 0 (by decide) (by decide)]
theorem rm_m {I J Y : jI} {m : Nat} {s : Nat → Int32} {ii : Int32} {i : Nat} (c : cur I J m) (h : smT I J m Y s) (hi : ii.toInt = (i : Int)) (him : i < m) : d164 4596 ii 1 Y = some (if I 4 1 8 < smV 10 0 s 0 + gt1 I i then 0 else 1) := by
  obtain ⟨⟨h1, h2⟩, h3, h4⟩ := h
  have h6 := c.2.1.2
  have ni : ii.toNatClampNeg = i := by have := cl_t (x := ii) (by omega); omega
  have sm : smV 10 0 (fun k => Y 32 0 (4596 + 7 + k)) 0 = smV 10 0 s 0 := smV_ext 10 0 _ _ 0 (fun j _ b => h4 j (by omega))
  have c17 : (4596 + 17 : Int32).toInt = 4613 := rfl
  have i17 : Int32.toNatClampNeg ((4596 + 17) + ii) = 4597 + (16 + i) := by
    rw [(ixa (a := 4596 + 17) (x := ii) (by rw [c17]; decide) (by rw [c17]; decide) (by omega) (by omega)).2, ni]
    have : Int32.toNatClampNeg (4596 + 17) = 4613 := rfl
    omega
  have y8 : Y 31 0 2 = I 4 1 8 := by rw [h1 31 (by decide)]; exact c.1.1.2.2.1
  have k33 : Y 33 0 i = I 18 1 i := by rw [h1 33 (by decide)]; exact (c.1.2.2.1 i him).2.1
  unfold d164
  rw [sum_m (a := 4596) ⟨by decide, by decide⟩ (b := 4596) rfl, sm]
  dsimp only [Option.bind_some]
  unfold d155
  rw [i17, ni, got_m, k33, ← vM_k (m := m) (b := 4597) (I := Y) (vK_g him h6), h3 _ (Or.inr (by omega)), vC_g him h6, y8, Int32.one_mul]
  show (if I 4 1 8 < smV 10 0 s 0 + gt1 I i then _ else _) = _
  by_cases l : I 4 1 8 < smV 10 0 s 0 + gt1 I i
  · rw [if_pos l, if_pos l]
  · rw [if_neg l, if_neg l]
theorem bw_m {I J Y : jI} {m : Nat} {s : Nat → Int32} {ii : Int32} {i : Nat} (hG : gG aGI I) (c : cur I J m) (h : smT I J m Y s) (hi : ii.toInt = (i : Int)) (him : i < m) : smT I J m (d165 4596 ii 1 Y).2 (upS s (kq1 I i) (s (kq1 I i) + gt1 I i)) ∧ (d165 4596 ii 1 Y).2 32 0 4598 = Y 32 0 4598 + ct1 I i ∧ (d165 4596 ii 1 Y).2 32 0 4600 = Y 32 0 4600 ∧ (d165 4596 ii 1 Y).2 32 0 4601 = Y 32 0 4601 := by
  obtain ⟨⟨h1, h2⟩, h3, h4⟩ := h
  have h6 := c.2.1.2
  have ni : ii.toNatClampNeg = i := by have := cl_t (x := ii) (by omega); omega
  have k33 : Y 33 0 i = I 18 1 i := by rw [h1 33 (by decide)]; exact (c.1.2.2.1 i him).2.1
  have k34 : Y 34 0 i = I 21 1 i := by rw [h1 34 (by decide)]; exact (c.1.2.2.1 i him).2.2
  have b21 := hG (21, (0, 5), (0, 5), (0, 9)) (by decide) 1 i (by simp) (by simp) (by simp) (by simp; omega)
  have kb : kq1 I i < 10 := kps_b b21
  have v5 : vM m Y 4597 5 = I 4 1 14 := h3 5 (Or.inl rfl)
  have y6 : Y 32 0 (4596 + 6) = I 4 1 14 := by rw [← v5, vM_k (Or.inl (by decide))]
  obtain ⟨-, b2, b3, b4⟩ := buy_m (m := m) (a := 4596) (i := ii) (n := 1) ⟨by decide, by decide⟩ (b := 4596) rfl (I := Y) h6 (by omega) (by omega) (by rw [y6]; exact card01 hG) (by rw [ni, k34]; exact b21)
  rw [ni] at b2
  have eB : stB (Y 33 0) (Y 34 0) i 1 (vM m Y (4596 + 1)) = upS (upS (vM m Y 4597) 1 (vM m Y 4597 1 + ct1 I i)) (6 + kq1 I i) (vM m Y 4597 (6 + kq1 I i) + gt1 I i) := by
    unfold stB
    rw [k33, k34]
    show upS (upS (vM m Y 4597) 1 (vM m Y 4597 1 + kost (I 18 1 i) 1 (vM m Y 4597 (22 + i)) (vM m Y 4597 5))) (6 + kq1 I i) (vM m Y 4597 (6 + kq1 I i) + 1 * gotS (I 18 1 i) (vM m Y 4597 (16 + i))) = _
    rw [v5, h3 (22 + i) (Or.inr (by omega)), h3 (16 + i) (Or.inr (by omega)), vC_p him h6, vC_g him h6, Int32.one_mul]
    rfl
  rw [eB] at b2
  have b2 : vM m (d165 4596 ii 1 Y).2 4597 = upS (upS (vM m Y 4597) 1 (vM m Y 4597 1 + ct1 I i)) (6 + kq1 I i) (vM m Y 4597 (6 + kq1 I i) + gt1 I i) := b2
  have at_ : ∀ k, vK m k → (d165 4596 ii 1 Y).2 32 0 (4597 + k) = upS (upS (vM m Y 4597) 1 (vM m Y 4597 1 + ct1 I i)) (6 + kq1 I i) (vM m Y 4597 (6 + kq1 I i) + gt1 I i) k := fun k hk => by rw [← b2, vM_k hk]
  refine ⟨⟨⟨fun g hg => (b4 g hg).trans (h1 g hg), fun j hj => by rw [b3 j (by omega)]; exact h2 j hj⟩, fun k hk => ?_, fun k hk => ?_⟩, ?_, ?_, ?_⟩
  · rw [b2, upS_ne (by omega), upS_ne (by omega)]
    exact h3 k hk
  · rw [show 4603 + k = 4597 + (6 + k) by omega, at_ _ (vK_l hk)]
    unfold upS
    by_cases e : k = kq1 I i
    · rw [if_pos (by omega), if_pos e, vM_k (vK_l kb), show 4597 + (6 + kq1 I i) = 4603 + kq1 I i by omega, h4 _ kb]
    · rw [if_neg (by omega), if_neg (by omega), if_neg e, vM_k (vK_l hk), show 4597 + (6 + k) = 4603 + k by omega, h4 k hk]
  · have := at_ 1 vK_1
    rw [upS_ne (show ¬ 1 = 6 + kq1 I i by omega), upS_at, vM_k vK_1] at this
    exact this
  · have := at_ 3 (Or.inl (by decide))
    rw [upS_ne (show ¬ 3 = 6 + kq1 I i by omega), upS_ne (by decide), vM_k (Or.inl (by decide))] at this
    exact this
  · have := at_ 4 (Or.inl (by decide))
    rw [upS_ne (show ¬ 4 = 6 + kq1 I i by omega), upS_ne (by decide), vM_k (Or.inl (by decide))] at this
    exact this
noncomputable def wlR (I J : jI) (m k X : Nat) (s : Nat → Int32) (h0 H : Int) (Y : jI) (o : Option ((Int32 × jI) ⊕ jI)) : Prop := (∃ T, o = some (.inl (0, T)) ∧ smN J T ∧ (H = 0 → evp (S1 I) (m + 1) k s X = none)) ∨ ∃ T H', o = some (.inr T) ∧ smN J T ∧ (T 32 0 4600).toInt = h0 + H' ∧ H ≤ H' ∧ (H = 0 → (H' = 0 ∧ ∃ C W : Int32, T 32 0 4598 = Y 32 0 4598 + C ∧ T 32 0 4601 = Y 32 0 4601 + W ∧ evp (S1 I) (m + 1) k s X = some (C.toInt, W.toInt)) ∨ (¬ H' = 0 ∧ evp (S1 I) (m + 1) k s X = none))
theorem evp_nn {S : (Nat → Int32) → Nat → Option ((Nat → Int32) × Int × Int)} {p k x : Nat} {s : Nat → Int32} (h : S s (dgp p x k) = none) : evp S p (k + 1) s x = none := by
  show (match S s (dgp p x k) with
    | none => none
    | some r => match evp S p k r.1 x with
      | none => none
      | some q => some (r.2.1 + q.1, r.2.2 + q.2)) = none
  rw [h]
theorem sh_Q {nd : Int32} {s : Nat → Int32} (hn : 0 ≤ nd.toInt) (hq : lQ s) : lQ (shf (eatV 10 nd s 0).2) ∧ 0 ≤ ((eatV 10 nd s 0).2 0).toInt ∧ ((eatV 10 nd s 0).2 0).toInt ≤ 99 := by
  obtain ⟨h0, h1, h2⟩ := hq
  have ev := eatV_le 10 nd s 0 hn (fun j _ b => h0 j (by omega))
  refine ⟨⟨fun k hk => ?_, ?_, fun k hk => ?_⟩, (ev.2 0 (by decide) (by decide)).1, ?_⟩
  · show 0 ≤ (if k < 9 then (eatV 10 nd s 0).2 (k + 1) else 0).toInt
    by_cases c : k < 9
    · rw [if_pos c]; exact (ev.2 (k + 1) (by omega) (by omega)).1
    · rw [if_neg c]; decide
  · have g : ∀ k, k < 9 → (shf (eatV 10 nd s 0).2 k).toInt ≤ (s (k + 1)).toInt := fun k hk => by
      show (if k < 9 then (eatV 10 nd s 0).2 (k + 1) else 0).toInt ≤ _
      rw [if_pos hk]; exact (ev.2 (k + 1) (by omega) (by omega)).2
    have g9 : (shf (eatV 10 nd s 0).2 9).toInt = 0 := rfl
    have hz : 0 ≤ (s 0).toInt := h0 0 (by decide)
    rw [smI_10] at h1
    rw [smI_10]
    have g0 := g 0 (by decide)
    have g1 := g 1 (by decide)
    have g2 := g 2 (by decide)
    have g3 := g 3 (by decide)
    have g4 := g 4 (by decide)
    have g5 := g 5 (by decide)
    have g6 := g 6 (by decide)
    have g7 := g 7 (by decide)
    have g8 := g 8 (by decide)
    dsimp only [Nat.reduceAdd] at g0 g1 g2 g3 g4 g5 g6 g7 g8
    omega
  · show (if k < 9 then _ else (0 : Int32)) = 0
    rw [if_neg (by omega)]
  · have a := (ev.2 0 (by decide) (by decide)).2
    have b := smI_mem 10 s 0 0 (by decide) (by decide) (fun j _ b => h0 j (by omega))
    omega
theorem evp_b2 {I J : jI} {m : Nat} (hG : gG aGI I) (c : cur I J m) (hm0 : 0 < m) : ∀ (k : Nat) (s : Nat → Int32) (x : Nat) (q : Int × Int), lQ s → evp (S1 I) (m + 1) k s x = some q → (0 ≤ q.1 ∧ q.1 ≤ 99 * (k : Int)) ∧ (0 ≤ q.2 ∧ q.2 ≤ 99 * (k : Int))
  | 0, _, _, q, _, h => by
    cases h
    exact ⟨⟨Int.le_refl _, Int.le_refl _⟩, Int.le_refl _, Int.le_refl _⟩
  | k + 1, s, x, q, hQ, h => by
    have h : (match S1 I s (dgp (m + 1) x k) with
      | none => none
      | some r => match evp (S1 I) (m + 1) k r.1 x with
        | none => none
        | some q => some (r.2.1 + q.1, r.2.2 + q.2)) = some q := h
    have dl : dgp (m + 1) x k < m + 1 := Nat.mod_lt _ (Nat.succ_pos m)
    cases e : S1 I s (dgp (m + 1) x k) with
    | none => rw [e] at h; cases h
    | some r =>
      rw [e] at h
      dsimp only at h
      obtain ⟨q1, q2, q3⟩ := S1_b c hG hm0 (by omega) hQ e
      cases e2 : evp (S1 I) (m + 1) k r.1 x with
      | none => rw [e2] at h; cases h
      | some z =>
        rw [e2] at h
        dsimp only at h
        have ih := evp_b2 hG c hm0 k r.1 x z q1 e2
        cases h
        have : ((k + 1 : Nat) : Int) = (k : Int) + 1 := rfl
        dsimp only
        omega
theorem cur_v {I J : jI} {m : Nat} (c : cur I J m) : vM m J 1 = vC m I 1 := by
  obtain ⟨⟨-, al, ai, af⟩, ⟨-, hm⟩, -⟩ := c
  funext k
  by_cases h : vK m k
  · rw [vM_k h]
    by_cases c6 : k < 6
    · rw [vC_f c6]; exact af k c6
    by_cases c16 : k < 16
    · obtain ⟨j, rfl⟩ : ∃ j, k = 6 + j := ⟨k - 6, by omega⟩
      rw [vC_l (by omega), show 1 + (6 + j) = 7 + j by omega]; exact al j (by omega)
    by_cases c22 : k < 22
    · obtain ⟨j, rfl⟩ : ∃ j, k = 16 + j := ⟨k - 16, by omega⟩
      have hj : j < m := by rcases h with h | h | h <;> omega
      rw [vC_g hj hm, show 1 + (16 + j) = 17 + j by omega]; exact (ai j hj).1.1
    · obtain ⟨j, rfl⟩ : ∃ j, k = 22 + j := ⟨k - 22, by omega⟩
      have hj : j < m := by rcases h with h | h | h <;> omega
      rw [vC_p hj hm, show 1 + (22 + j) = 23 + j by omega]; exact (ai j hj).1.2
  · rw [vM_n h, vC_n h]
end
section
/-! the reference's run through the weeks of one plan -/
theorem wlR_go {I J Y Z : jI} {m n k X i : Nat} {x nn ii : Int32} {s : Nat → Int32} {h0 H l : Int} {r : (Nat → Int32) × Int × Int} {F : Nat} {c32 w32 : Int32} (hr : evp (S1 I) (m + 1) (k + 1) s X = match (if l = 0 then some r else none : Option ((Nat → Int32) × Int × Int)) with
      | none => none
      | some r => match evp (S1 I) (m + 1) k r.1 X with
        | none => none
        | some q => some (r.2.1 + q.1, r.2.2 + q.2)) (hl : 0 ≤ l) (hc : r.2.1 = c32.toInt ∧ 0 ≤ r.2.1 ∧ r.2.1 ≤ 99) (hw : r.2.2 = w32.toInt ∧ 0 ≤ r.2.2 ∧ r.2.2 ≤ 99) (hk : k ≤ 3) (zP : Z 32 0 4598 = Y 32 0 4598 + c32) (zW : Z 32 0 4601 = Y 32 0 4601 + w32) (hb : ∀ q, evp (S1 I) (m + 1) k r.1 X = some q → (0 ≤ q.1 ∧ q.1 ≤ 99 * (k : Int)) ∧ (0 ≤ q.2 ∧ q.2 ≤ 99 * (k : Int))) (h : 0 ≤ H) {o : Option ((Int32 × jI) ⊕ jI)} (g : wlR I J m k X r.1 h0 (H + l) Z o) : wlR I J m (k + 1) X s h0 H Y o := by
  rcases g with ⟨T, t1, t2, t3⟩ | ⟨T, H', t1, t2, t3, t4, t5⟩
  · refine Or.inl ⟨T, t1, t2, fun z => ?_⟩
    rw [hr]
    by_cases e : l = 0
    · rw [if_pos e]
      dsimp only
      rw [t3 (by omega)]
    · rw [if_neg e]
  · refine Or.inr ⟨T, H', t1, t2, t3, by omega, fun z => ?_⟩
    rw [hr]
    by_cases e : l = 0
    · rw [if_pos e]
      dsimp only
      rcases t5 (by omega) with ⟨a, C, W, b1, b2, b3⟩ | ⟨a, b⟩
      · rw [b3]
        dsimp only
        have bb := hb _ b3
        dsimp only at bb
        refine Or.inl ⟨a, c32 + C, w32 + W, ?_, ?_, ?_⟩
        · rw [b1, zP, Int32.add_assoc]
        · rw [b2, zW, Int32.add_assoc]
        · rw [i32_add (by omega), i32_add (by omega), hc.1, hw.1]
      · rw [b]
        exact Or.inr ⟨a, rfl⟩
    · rw [if_neg e]
      exact Or.inr ⟨by omega, rfl⟩
theorem sim_l {I J : jI} {m n X : Nat} {x nn : Int32} {h0 : Int} (hG : gG aGI I) (c : cur I J m) (hm0 : 0 < m) (hx : x.toInt = (X : Int)) (hn : nn.toInt = (n : Int)) (n3 : n ≤ 3) (hh : 0 ≤ h0 ∧ h0 ≤ 360) : ∀ (k F : Nat) (ii : Int32) (Y : jI) (s : Nat → Int32) (H : Int), ii.toInt + (k : Int) = (n : Int) → 0 ≤ ii.toInt → k < F → smT I J m Y s → lQ s → (Y 32 0 4600).toInt = h0 + H → 0 ≤ H → H + 9 * (k : Int) ≤ 100 → wlR I J m k X s h0 H Y (d187_6 x nn F ii Y)
  | _, 0, _, _, _, _, _, _, h, _, _, _, _, _ => absurd h (by omega)
  | 0, F + 1, ii, Y, s, H, hi, i0, _, hY, hq, hH, H0, _ => by
    rw [d187_6, if_pos (show nn ≤ ii by rw [le_t]; omega)]
    exact Or.inr ⟨Y, H, rfl, hY.1, hH, Int.le_refl _, fun z => Or.inl ⟨z, 0, 0, (Int32.add_zero _).symm, (Int32.add_zero _).symm, rfl⟩⟩
  | k + 1, F + 1, ii, Y, s, H, hi, i0, hF, hY, hq, hH, H0, Hk => by
    obtain ⟨o1, o2⟩ := c.2.2.2.2 hm0
    have h6 := c.2.1
    have kk : ((k + 1 : Nat) : Int) = (k : Int) + 1 := rfl
    have ni := cl_t i0
    have e := i32_inc (x := ii) (by omega)
    have c3 : J 31 0 3 = I 4 1 6 := c.1.1.1
    have y3 : (Y 31 0 3).toInt = (m : Int) := by rw [hY.1.1 31 (by decide), c3]; exact h6.1.symm
    obtain ⟨a, a1, a2⟩ := ch_m (x := x) (X := X) (nn := nn) (ii := ii) (i := ii.toNatClampNeg) y3 h6.2 hx hn n3 (by omega) (by omega)
    rw [show n - 1 - ii.toNatClampNeg = k by omega] at a2
    have dl : dgp (m + 1) X k < m + 1 := Nat.mod_lt _ (Nat.succ_pos m)
    rw [d187_6, if_neg (show ¬ nn ≤ ii by rw [le_t]; omega), a1]
    dsimp only [Option.bind_some]
    have eb : ∀ s', lQ s' → ∀ q, evp (S1 I) (m + 1) k s' X = some q → (0 ≤ q.1 ∧ q.1 ≤ 99 * (k : Int)) ∧ (0 ≤ q.2 ∧ q.2 ≤ 99 * (k : Int)) := fun s' h' q hq' => evp_b2 hG c hm0 k s' X q h' hq'
    -- a week on some larder
    have wk : ∀ (Z : jI) (s' : Nat → Int32) (c32 : Int32), smT I J m Z s' → lQ s' → (0 ≤ c32.toInt ∧ c32.toInt ≤ 99) → Z 32 0 4598 = Y 32 0 4598 + c32 → Z 32 0 4600 = Y 32 0 4600 → Z 32 0 4601 = Y 32 0 4601 → S1 I s (dgp (m + 1) X k) = wkE (I 4 1 7) s' c32 → wlR I J m (k + 1) X s h0 H Y ((d167 4596 Z).bind fun r3 => d187_6 x nn F (ii + 1) r3.2) := by
      intro Z s' c32 hZ hq' hc z1 z2 z3 hS
      have ev := eatV_le 10 (I 4 1 7) s' 0 (by omega) (fun j _ b => hq'.1 j (by omega))
      obtain ⟨r, r1, r2, r3, r4, r5⟩ := pw_m c hZ hq'
      rw [r1]
      dsimp only [Option.bind_some]
      have q1 : lQ (shf (eatV 10 (I 4 1 7) s' 0).2) ∧ 0 ≤ ((eatV 10 (I 4 1 7) s' 0).2 0).toInt ∧ ((eatV 10 (I 4 1 7) s' 0).2 0).toInt ≤ 99 := sh_Q (by omega) hq'
      have rH : (r.2 32 0 4600).toInt = h0 + (H + (eatV 10 (I 4 1 7) s' 0).1.toInt) := by rw [r4, z2, i32_add (by omega)]; omega
      have ih := sim_l hG c hm0 hx hn n3 hh k F (ii + 1) r.2 _ (H + (eatV 10 (I 4 1 7) s' 0).1.toInt) (by omega) (by omega) (by omega) r2 q1.1 rH (by omega) (by omega)
      refine wlR_go (n := n) (i := 0) (x := x) (nn := nn) (ii := ii) (F := F) (Z := r.2) (r := (shf (eatV 10 (I 4 1 7) s' 0).2, c32.toInt, ((eatV 10 (I 4 1 7) s' 0).2 0).toInt)) (l := (eatV 10 (I 4 1 7) s' 0).1.toInt) (c32 := c32) (w32 := (eatV 10 (I 4 1 7) s' 0).2 0) ?_ ev.1.1 ⟨rfl, hc⟩ ⟨rfl, q1.2⟩ (by omega) (by rw [r3, z1]) (by rw [r5, z3]) (eb _ q1.1) H0 ih
      have hS' : S1 I s (dgp (m + 1) X k) = (if (eatV 10 (I 4 1 7) s' 0).1.toInt = 0 then some (shf (eatV 10 (I 4 1 7) s' 0).2, c32.toInt, ((eatV 10 (I 4 1 7) s' 0).2 0).toInt) else none) := by
        rw [hS]
        unfold wkE
        by_cases z : (eatV 10 (I 4 1 7) s' 0).1 = 0
        · rw [if_pos z, if_pos (by rw [z]; rfl)]
        · rw [if_neg z, if_neg (fun y => z (eq_t.mpr (by rw [y]; rfl)))]
      show (match S1 I s (dgp (m + 1) X k) with
        | none => none
        | some r => match evp (S1 I) (m + 1) k r.1 X with
          | none => none
          | some q => some (r.2.1 + q.1, r.2.2 + q.2)) = _
      rw [hS']
    by_cases d0 : dgp (m + 1) X k = 0
    · rw [if_pos (show a < 0 by rw [lt0_t]; omega)]
      exact wk Y s 0 hY hq ⟨by decide, by decide⟩ (Int32.add_zero _).symm rfl rfl (by unfold S1 st1; rw [if_pos d0])
    · rw [if_neg (show ¬ a < 0 by rw [lt0_t]; omega)]
      have ai : a.toInt = ((dgp (m + 1) X k - 1 : Nat) : Int) := by omega
      rw [rm_m c hY ai (by omega)]
      dsimp only [Option.bind_some]
      by_cases l : I 4 1 8 < smV 10 0 s 0 + gt1 I (dgp (m + 1) X k - 1)
      · rw [if_pos l, if_pos rfl]
        exact Or.inl ⟨Y, rfl, hY.1, fun _ => evp_nn (by unfold S1 st1; rw [if_neg d0, if_pos l])⟩
      · rw [if_neg l, if_neg one0]
        obtain ⟨b1, b2, b3, b4⟩ := bw_m hG c hY ai (by omega)
        have gi := c.2.2.2.1.2.1 (dgp (m + 1) X k - 1) (by omega)
        have kb : kq1 I (dgp (m + 1) X k - 1) < 10 := kps_b (hG (21, (0, 5), (0, 5), (0, 9)) (by decide) 1 (dgp (m + 1) X k - 1) (by simp) (by simp) (by simp) (by simp; omega))
        have aq := (add_Q hq kb (got_b ⟨by omega, gi.1.2⟩) (by omega) l).1
        have cb := cost_1 (k := I 18 1 (dgp (m + 1) X k - 1)) (c := I 4 1 14) gi.2
        exact wk _ _ (ct1 I (dgp (m + 1) X k - 1)) b1 aq cb b2 b3 b4 (by unfold S1 st1; rw [if_neg d0, if_neg l])
theorem well_m {I J Y : jI} {m n X : Nat} {x nn : Int32} (hG : gG aGI I) (c : cur I J m) (hm0 : 0 < m) (hY : smN J Y) (hx : x.toInt = (X : Int)) (hn : nn.toInt = (n : Int)) (n3 : n ≤ 3) : ∃ r, d187 x nn Y = some r ∧ smN J r.2 ∧ ((evA I m n X = none ∧ r.1 = 0) ∨ ∃ C W : Int32, evA I m n X = some (C.toInt, W.toInt) ∧ r.1 = 1 ∧ r.2 32 0 4598 = J 32 0 2 + C ∧ r.2 32 0 4601 = J 32 0 5 + W) := by
  obtain ⟨Z, z0, z1, z2, z3⟩ := lay_m (Y := Y)
  have h6 := c.2.1
  have hv := cur_v c
  have zt : ∀ j, j < 29 → Z 32 0 (4596 + j) = J 32 0 j := fun j hj => by rw [z1 j hj]; exact hY.2 j (by omega)
  have hZ : smT I J m Z (lar (I 23 1)) := by
    refine ⟨⟨fun g hg => (z3 g hg).trans (hY.1 g hg), fun j hj => by rw [z2 j hj]; exact hY.2 j hj⟩, fun k hk => ?_, fun k hk => ?_⟩
    · rw [← hv]
      refine congrFun (vM_ext (fun k hk => ?_)) k
      rw [show 4597 + k = 4596 + (1 + k) by omega, zt _ (by omega)]
    · rw [show 4603 + k = 4596 + (7 + k) by omega, zt _ (by omega), c.1.2.1 k hk, lar_at hk]
  have z4600 : Z 32 0 4600 = J 32 0 4 := zt 4 (by decide)
  have z4598 : Z 32 0 4598 = J 32 0 2 := zt 2 (by decide)
  have z4601 : Z 32 0 4601 = J 32 0 5 := zt 5 (by decide)
  have j4 : J 32 0 4 = I 4 1 12 := c.1.2.2.2 3 (by decide)
  have hh := c.2.2.2.1.2.2
  have w := sim_l (x := x) (nn := nn) (h0 := (J 32 0 4).toInt) hG c hm0 hx hn n3 (by rw [j4]; exact hh) n 70 0 Z (lar (I 23 1)) 0 (by show (0 : Int) + _ = _; omega) (by decide) (by omega) hZ (lQ_cur c) (by rw [z4600]; omega) (Int.le_refl _) (by omega)
  have c4600 : Int32.toNatClampNeg 4600 = 4600 := rfl
  have c4 : Int32.toNatClampNeg 4 = 4 := rfl
  unfold d187
  rw [z0]
  dsimp only [Option.bind_some]
  rcases w with ⟨T, t1, t2, t3⟩ | ⟨T, H', t1, t2, t3, t4, t5⟩
  · rw [t1]
    refine ⟨_, rfl, t2, Or.inl ⟨?_, rfl⟩⟩
    unfold evA
    rw [t3 rfl]
    rfl
  · rw [t1]
    dsimp only [Option.bind_some]
    rw [c4600, c4, t2.2 4 (by decide)]
    rcases t5 rfl with ⟨a, C, W, b1, b2, b3⟩ | ⟨a, b⟩
    · rw [if_pos (show T 32 0 4600 = J 32 0 4 from eq_t.mpr (by omega))]
      refine ⟨_, rfl, t2, Or.inr ⟨C, W, ?_, rfl, ?_, ?_⟩⟩
      · unfold evA
        rw [b3]
        show some (0 + C.toInt, 0 + W.toInt) = _
        rw [Int.zero_add, Int.zero_add]
      · show T 32 0 4598 = _
        rw [b1, z4598]
      · show T 32 0 4601 = _
        rw [b2, z4601]
    · rw [if_neg (show ¬ T 32 0 4600 = J 32 0 4 from fun z => by rw [z] at t3; omega)]
      refine ⟨_, rfl, t2, Or.inl ⟨?_, rfl⟩⟩
      unfold evA
      rw [b]
      rfl
end
section
/-! weeks, waste -/
theorem evA_b {I J : jI} {m n : Nat} (hG : gG aGI I) (c : cur I J m) (hm0 : 0 < m) (n3 : n ≤ 3) : ∀ x q, evA I m n x = some q → (0 ≤ q.1 ∧ q.1 ≤ 1000) ∧ (0 ≤ q.2 ∧ q.2 ≤ 1000) := by
  intro x q h
  unfold evA at h
  cases e : evp (S1 I) (m + 1) n (lar (I 23 1)) x with
  | none => rw [e] at h; cases h
  | some z =>
    rw [e] at h
    have b := evp_b2 hG c hm0 n _ x z (lQ_cur c) e
    cases h
    dsimp only
    omega
theorem pn_m {Y : jI} {m n : Nat} {nn : Int32} (h3 : (Y 31 0 3).toInt = (m : Int)) (hm : m ≤ 6) (hn : nn.toInt = (n : Int)) (n3 : n ≤ 3) : ∃ w, d183 (Y 31 0 3 + 1) nn Y = some w ∧ w.toInt = (((m + 1) ^ n : Nat) : Int) ∧ (m + 1) ^ n ≤ 343 := by
  have c1 : (1 : Int32).toInt = 1 := rfl
  have e1 : (Y 31 0 3 + 1).toInt = ((m + 1 : Nat) : Int) := by rw [i32_add (by omega), c1, h3]; rfl
  have le : (m + 1) ^ n ≤ 343 := by
    have l1 : (m + 1) ^ n ≤ 7 ^ n := Nat.pow_le_pow_left (by omega) _
    have l2 : 7 ^ n ≤ 7 ^ 3 := Nat.pow_le_pow_right (by decide) n3
    omega
  obtain ⟨w, w1, w2⟩ := pow_c (I := Y) e1 hn (by omega) (by omega) (by omega)
  exact ⟨w, w1, w2, le⟩
theorem add_sub32 {a b : Int32} : (a + b) - a = b := by rw [Int32.add_comm]; exact Int32.add_sub_cancel b a
theorem wks_l {I J : jI} {m n : Nat} {nn r : Int32} (hG : gG aGI I) (c : cur I J m) (hm0 : 0 < m) (hn : nn.toInt = (n : Int)) (n3 : n ≤ 3) : ∀ (N F : Nat) (a b x : Int32) (X : Nat) (z : Int) (Y : jI), x.toInt = (X : Int) → X + N = (m + 1) ^ n → N < F → smN J Y → ∃ p q T z', d188_41 nn r F a b x Y = some (p, q, T) ∧ smN J T ∧ swp (evA I m n) N X (a.toInt, z, b.toInt) = (p.toInt, z', q.toInt)
  | _, 0, _, _, _, _, _, _, _, _, h, _ => absurd h (by omega)
  | 0, F + 1, a, b, x, X, z, Y, hx, hN, _, hY => by
    have h6 := c.2.1
    have c3 : J 31 0 3 = I 4 1 6 := c.1.1.1
    have y3 : (Y 31 0 3).toInt = (m : Int) := by rw [hY.1 31 (by decide), c3]; exact h6.1.symm
    obtain ⟨w, w1, w2, w3⟩ := pn_m y3 h6.2 hn n3
    rw [d188_41, w1]
    dsimp only [Option.bind_some]
    rw [if_pos (show w ≤ x by rw [le_t]; omega)]
    exact ⟨_, _, _, z, rfl, hY, rfl⟩
  | N + 1, F + 1, a, b, x, X, z, Y, hx, hN, hF, hY => by
    have h6 := c.2.1
    have c3 : J 31 0 3 = I 4 1 6 := c.1.1.1
    have y3 : (Y 31 0 3).toInt = (m : Int) := by rw [hY.1 31 (by decide), c3]; exact h6.1.symm
    obtain ⟨w, w1, w2, w3⟩ := pn_m y3 h6.2 hn n3
    have e := i32_inc (x := x) (by omega)
    obtain ⟨g, g1, g2, g3⟩ := well_m (x := x) (nn := nn) hG c hm0 hY hx hn n3
    have c2 : Int32.toNatClampNeg 2 = 2 := rfl
    have c98 : Int32.toNatClampNeg 4598 = 4598 := rfl
    rw [d188_41, w1]
    dsimp only [Option.bind_some]
    rw [if_neg (show ¬ w ≤ x by rw [le_t]; omega), g1]
    dsimp only [Option.bind_some]
    have st : swp (evA I m n) (N + 1) X (a.toInt, z, b.toInt) = swp (evA I m n) N (X + 1) (wgh (a.toInt, z, b.toInt) X (evA I m n X)) := rfl
    rw [st, c2, c98]
    rcases g3 with ⟨g3, g4⟩ | ⟨C, W, g3, g4, g5, g6⟩
    · rw [if_pos g4, g3]
      exact wks_l hG c hm0 hn n3 N F a b (x + 1) (X + 1) z g.2 (by omega) (by omega) (by omega) g2
    · rw [if_neg (show ¬ g.1 = 0 by rw [g4]; decide), g5, g2.2 2 (by decide), add_sub32, g3]
      have sw : wgh (a.toInt, z, b.toInt) X (some (C.toInt, W.toInt)) = (if a.toInt ≤ C.toInt then a.toInt else C.toInt, if W.toInt < z then W.toInt else z, if a.toInt ≤ C.toInt then b.toInt else (X : Int)) := rfl
      rw [sw]
      by_cases l : a ≤ C
      · rw [if_pos l, if_pos (le_t.mp l), if_pos (le_t.mp l)]
        exact wks_l hG c hm0 hn n3 N F a b (x + 1) (X + 1) _ g.2 (by omega) (by omega) (by omega) g2
      · rw [if_neg l, if_neg (fun y => l (le_t.mpr y)), if_neg (fun y => l (le_t.mpr y)), ← hx]
        exact wks_l hG c hm0 hn n3 N F C x (x + 1) (X + 1) _ g.2 (by omega) (by omega) (by omega) g2
theorem swp_two {I J : jI} {m n : Nat} (hG : gG aGI I) (c : cur I J m) (hm0 : 0 < m) (n3 : n ≤ 3) : twoS (swp (evA I m n) ((m + 1) ^ n) 0 (1000000, 1000000, -9)) (swp (evA I m n) ((m + 1) ^ n) 0 (99999, 99999, -9)) := twoS_s (evA_b hG c hm0 n3) _ 0 _ _ (Or.inr ⟨rfl, rfl⟩)
/-! the row of weeks -/
theorem wr_c {n : Nat} {nn r : Int32} (hn : nn.toInt = (n : Int)) (n3 : n ≤ 3) : ∀ (N F : Nat) (x : Int32) (S : jI), x.toInt + (N : Int) = (n : Int) → 0 ≤ x.toInt → N < F → ∃ T, d94_74 nn r F x S = some T ∧ (∀ g, ¬ g = 29 → T g = S g) ∧ ∀ a j, T 29 a j = if a = r.toNatClampNeg ∧ x.toNatClampNeg ≤ j ∧ j < n then S 28 0 j else S 29 a j
  | _, 0, _, _, _, _, h => absurd h (by omega)
  | 0, F + 1, x, S, hx, x0, _ => by
    have nx := cl_t x0
    rw [d94_74, if_pos (show nn ≤ x by rw [le_t]; omega)]
    exact ⟨S, rfl, fun _ _ => rfl, fun a j => by rw [if_neg (by omega)]⟩
  | N + 1, F + 1, x, S, hx, x0, hF => by
    have nx := cl_t x0
    have e := i32_inc (x := x) (by omega)
    have xn : (x + 1).toNatClampNeg = x.toNatClampNeg + 1 := by
      have := cl_t (x := x + 1) (by omega)
      omega
    rw [d94_74, if_neg (show ¬ nn ≤ x by rw [le_t]; omega)]
    obtain ⟨T, t1, t2, t3⟩ := wr_c hn n3 N F (x + 1) (d19g1 r x (S 28 0 x.toNatClampNeg) S) (by omega) (by omega) (by omega)
    refine ⟨T, t1, fun g hg => (t2 g hg).trans (jup_g hg), fun a j => ?_⟩
    rw [t3, xn]
    unfold d19g1
    rw [jup_g (show ¬ 28 = 29 by decide)]
    by_cases q1 : a = r.toNatClampNeg ∧ x.toNatClampNeg ≤ j ∧ j < n
    · rw [if_pos q1]
      by_cases q2 : j = x.toNatClampNeg
      · rw [if_neg (by omega), q1.1, q2, jup_at]
      · rw [if_pos (by omega)]
    · rw [if_neg q1, if_neg (by omega)]
      exact jup_of (fun z => q1 ⟨z.2.1, by omega, by omega⟩)
theorem wr_m {m n X : Nat} {nn r y q : Int32} (hm : m ≤ 6) (r0 : 0 ≤ r.toInt) (r5 : r.toInt ≤ 5) (hn : nn.toInt = (n : Int)) (n3 : n ≤ 3) (hX : q.toInt = (X : Int)) : ∀ (N F : Nat) (x : Int32) (S : jI), x.toInt + (N : Int) = (n : Int) → 0 ≤ x.toInt → N < F → (S 31 0 3).toInt = (m : Int) → ∃ T, d188_130 nn r y q F x S = some T ∧ (∀ j, T 36 0 j = if 40 * r.toNatClampNeg + x.toNatClampNeg ≤ j ∧ j < 40 * r.toNatClampNeg + n then chv (dgp (m + 1) X (n - 1 - (j - 40 * r.toNatClampNeg))) else S 36 0 j) ∧ ∀ g, ¬ g = 36 → T g = S g
  | _, 0, _, _, _, _, h, _ => absurd h (by omega)
  | 0, F + 1, x, S, hx, x0, _, _ => by
    have nx := cl_t x0
    rw [d188_130, if_pos (show nn ≤ x by rw [le_t]; omega)]
    exact ⟨S, rfl, fun j => by rw [if_neg (by omega)], fun _ _ => rfl⟩
  | N + 1, F + 1, x, S, hx, x0, hF, h3 => by
    have nx := cl_t x0
    have e := i32_inc (x := x) (by omega)
    have xn : (x + 1).toNatClampNeg = x.toNatClampNeg + 1 := by
      have := cl_t (x := x + 1) (by omega)
      omega
    obtain ⟨a, a1, a2⟩ := ch_m (x := q) (X := X) (nn := nn) (ii := x) (i := x.toNatClampNeg) h3 hm hX hn n3 (by omega) (by omega)
    have dl : dgp (m + 1) X (n - 1 - x.toNatClampNeg) < m + 1 := Nat.mod_lt _ (Nat.succ_pos m)
    rw [d188_130, if_neg (show ¬ nn ≤ x by rw [le_t]; omega), a1]
    dsimp only [Option.bind_some]
    rw [(ix40 r0 r5 x0 (by omega)).1]
    have step : ∀ b, b = chv (dgp (m + 1) X (n - 1 - x.toNatClampNeg)) → ∃ T, d188_130 nn r y q F (x + 1) (jup S 36 0 (40 * r.toNatClampNeg + x.toNatClampNeg) b) = some T ∧ (∀ j, T 36 0 j = if 40 * r.toNatClampNeg + x.toNatClampNeg ≤ j ∧ j < 40 * r.toNatClampNeg + n then chv (dgp (m + 1) X (n - 1 - (j - 40 * r.toNatClampNeg))) else S 36 0 j) ∧ ∀ g, ¬ g = 36 → T g = S g := by
      intro b hb
      obtain ⟨T, t1, t2, t3⟩ := wr_m (y := y) hm r0 r5 hn n3 hX N F (x + 1) (jup S 36 0 (40 * r.toNatClampNeg + x.toNatClampNeg) b) (by omega) (by omega) (by omega) h3
      refine ⟨T, t1, fun j => ?_, fun g hg => (t3 g hg).trans (jup_g hg)⟩
      rw [t2, xn, jup_c]
      by_cases q1 : 40 * r.toNatClampNeg + x.toNatClampNeg ≤ j ∧ j < 40 * r.toNatClampNeg + n
      · rw [if_pos q1]
        by_cases q2 : j = 40 * r.toNatClampNeg + x.toNatClampNeg
        · rw [if_neg (by omega), if_pos q2, hb, show j - 40 * r.toNatClampNeg = x.toNatClampNeg by omega]
        · rw [if_pos (by omega)]
      · rw [if_neg q1, if_neg (by omega), if_neg (by omega)]
    by_cases l : 0 ≤ a
    · rw [if_pos l]
      rw [le0_t] at l
      refine step a ?_
      unfold chv
      rw [if_neg (by omega)]
      exact nI_is (by omega) (by omega)
    · rw [if_neg l]
      rw [le0_t] at l
      refine step (-9) ?_
      unfold chv
      rw [if_pos (by omega)]
noncomputable def wkO (I r : jI) (J r' : jI) : Prop := (∀ g, ¬ g = 23 → ¬ g = 27 → ¬ g = 28 → ¬ g = 9 → ¬ g = 29 → ¬ g = 14 → r g = I g) ∧ ∀ g, ¬ g = 32 → ¬ g = 35 → ¬ g = 36 → r' g = J g
theorem weeks_eq {I J : jI} (v r : Int32) (hG : gG aGI I) (q : RD2 I J) (h : RR I J) : ∃ s s', d94 v r I = some s ∧ d188 v r J = some s' ∧ s.1 = s'.1 ∧ RR s.2 s'.2 ∧ wkO I s.2 J s'.2 := by
  have c := RD_cur hG q
  have c3 : J 31 0 3 = I 4 1 6 := c.1.1.1
  have z3 : (3 : Int32).toInt = 3 := rfl
  have cU : (1000000 : Int32).toInt = 1000000 := rfl
  have same : ∃ s s' : Int32 × jI, (some ((-1 : Int32), I)) = some s ∧ (some ((-1 : Int32), J)) = some s' ∧ s.1 = s'.1 ∧ RR s.2 s'.2 ∧ wkO I s.2 J s'.2 := ⟨_, _, rfl, rfl, rfl, h, fun _ _ _ _ _ _ _ => rfl, fun _ _ _ _ => rfl⟩
  unfold d94 d188
  rw [in_i, names_r, isRow_t, c3]
  by_cases h1 : 0 ≤ v.toInt ∧ v.toInt ≤ 3
  · rw [if_neg (show ¬ v < 0 by rw [lt0_t]; omega), if_neg (show ¬ (3 : Int32) < v by rw [lt_t, z3]; omega), if_pos (show (0 : Int64).toInt ≤ v.toInt ∧ v.toInt ≤ (3 : Int64).toInt from h1), if_neg one0]
    by_cases h2 : 0 ≤ r.toInt ∧ r.toInt ≤ 5
    · rw [if_pos h2, if_neg one0, if_neg one0]
      by_cases h3 : I 4 1 6 = 0
      · rw [if_pos h3, if_pos h3]
        exact ⟨_, _, rfl, rfl, rfl, h, fun _ _ _ _ _ _ _ => rfl, fun _ _ _ _ => rfl⟩
      · rw [if_neg h3, if_neg h3]
        have hm0 := pk0 c.2.1.1 h3
        have nv := cl_t h1.1
        obtain ⟨T, t1, t2, t3⟩ := search_c (n := v.toNatClampNeg) hG c hm0 nv.symm (by omega)
        have y3 : (J 31 0 3).toInt = (mP I : Int) := by rw [c3]; exact c.2.1.1.symm
        obtain ⟨w, w1, w2, w3⟩ := pn_m (nn := v) (n := v.toNatClampNeg) y3 c.2.1.2 nv.symm (by omega)
        obtain ⟨p, b, Y, z', p1, p2, p3⟩ := wks_l (r := r) hG c hm0 nv.symm (by omega) ((mP I + 1) ^ v.toNatClampNeg) 400 99999 (-9) 0 0 99999 J rfl (by omega) (by omega) ⟨fun _ _ => rfl, fun _ _ => rfl⟩
        have tw := swp_two (n := v.toNatClampNeg) hG c hm0 (by omega)
        have p3 : swp (evA I (mP I) v.toNatClampNeg) ((mP I + 1) ^ v.toNatClampNeg) 0 (99999, 99999, -9) = (p.toInt, z', b.toInt) := p3
        rw [p3] at tw
        have hT : RR T J := ⟨fun i hi => by rw [t2.1 14 (by decide) (by decide) (by decide) (by decide)]; exact h.1 i hi, fun i j hi hj => by rw [t2.1 29 (by decide) (by decide) (by decide) (by decide)]; exact h.2 i j hi hj⟩
        have hTY : RR T Y := ⟨fun i hi => by rw [p2.1 35 (by decide)]; exact hT.1 i hi, fun i j hi hj => by rw [p2.1 36 (by decide)]; exact hT.2 i j hi hj⟩
        rw [t1, p1]
        dsimp only [Option.bind_some]
        rcases tw with ⟨e, e1, e2, e3⟩ | ⟨e1, e2⟩
        · rw [e] at t3 e1 e3
          have e1 : p.toInt ≤ 1000 := e1
          have e3 : 0 ≤ b.toInt := e3
          have t4 : (T 9 0 4).toInt = p.toInt := t3.1
          have k9 : (-9 : Int32).toInt = -9 := rfl
          obtain ⟨X, x1, x2⟩ : ∃ X : Nat, b.toInt = (X : Int) ∧ ∀ j, j < v.toNatClampNeg → T 28 0 j = chv (dgp (mP I + 1) X (v.toNatClampNeg - 1 - j)) := by
            rcases t3.2.2 with y | y
            · have y : b.toInt = -9 := y
              omega
            · exact y
          rw [if_pos (show T 9 0 4 < 1000000 by rw [lt_t, cU]; omega), if_neg (show ¬ b = -9 from fun y => by rw [y, k9] at e3; omega)]
          obtain ⟨A, a1, a2, a3, a4⟩ := make_c (r := r) (n := v) (I := T)
          obtain ⟨B, b1, b2, b3, b4⟩ := make_m (r := r) (n := v) (J := Y) h2.1 h2.2
          obtain ⟨V, v1, v2, v3⟩ := wr_c (r := r) nv.symm (by omega) v.toNatClampNeg 70 0 A (by show (0 : Int) + _ = _; omega) (by decide) (by omega)
          obtain ⟨Z, x3, x4, x5⟩ := wr_m (m := mP I) (y := p) (q := b) c.2.1.2 h2.1 h2.2 nv.symm (by omega) x1 v.toNatClampNeg 400 0 B (by show (0 : Int) + _ = _; omega) (by decide) (by omega) (by rw [b4 31 (by decide) (by decide), p2.1 31 (by decide)]; exact y3)
          rw [a1, b1]
          dsimp only [Option.bind_some]
          rw [v1, x3]
          have c0 : Int32.toNatClampNeg 0 = 0 := rfl
          rw [c0] at v3 x4
          have nr := cl_t h2.1
          have rT := RR_make h2.1 h2.2 hTY a2 a3 b2 b3
          refine ⟨_, _, rfl, rfl, ?_, ⟨fun i hi => ?_, fun i j hi hj => ?_⟩, fun g g1 g2 g3 g4 g5 g6 => ?_, fun g g1 g2 g3 => ?_⟩
          · show V 9 0 4 = p
            rw [v2 9 (by decide), a4 9 (by decide) (by decide)]
            exact eq_t.mpr t4
          · show Z 35 0 i = V 14 0 i
            rw [x5 35 (by decide), v2 14 (by decide)]
            exact rT.1 i hi
          · show Z 36 0 (40 * i + j) = V 29 i j
            rw [x4, v3]
            by_cases g : i = r.toNatClampNeg ∧ j < v.toNatClampNeg
            · rw [if_pos (by omega), if_pos ⟨g.1, by omega, g.2⟩, a4 28 (by decide) (by decide), x2 j g.2, show 40 * i + j - 40 * r.toNatClampNeg = j by omega]
            · rw [if_neg (by omega), if_neg (fun z => g ⟨z.1, z.2.2⟩)]
              exact rT.2 i j hi hj
          · show V g = I g
            rw [v2 g g5, a4 g g6 g5]
            exact t2.1 g g1 g2 g3 g4
          · show Z g = J g
            rw [x5 g g3, b4 g g2 g3]
            exact p2.1 g g1
        · rw [e1] at t3
          have t4 : (T 9 0 4).toInt = 1000000 := t3.1
          have bb : b.toInt = -9 := congrArg (fun y => y.2.2) e2
          rw [if_neg (show ¬ T 9 0 4 < 1000000 by rw [lt_t, cU]; omega), if_pos (show b = -9 from eq_t.mpr bb)]
          exact ⟨_, _, rfl, rfl, rfl, hTY, fun g g1 g2 g3 g4 _ _ => t2.1 g g1 g2 g3 g4, fun g g1 _ _ => p2.1 g g1⟩
    · rw [if_neg h2, if_pos rfl, if_pos rfl]
      exact same
  · rw [if_neg (show ¬ ((0 : Int64).toInt ≤ v.toInt ∧ v.toInt ≤ (3 : Int64).toInt) from h1), if_pos rfl]
    by_cases h4 : v < 0
    · rw [if_pos h4]
      exact same
    · rw [if_neg h4, if_pos (show (3 : Int32) < v by rw [lt_t, z3]; rw [lt0_t] at h4; omega)]
      exact same
end
