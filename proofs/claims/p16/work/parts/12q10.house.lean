/-! house: what both sides lay down -/
/-- the class: nothing kept -/
theorem unk_c : ∀ (F : Nat) (x : Int32) (S : jI), 0 ≤ x.toInt → x.toInt ≤ 3 → 3 - x.toInt < (F : Int) → ∃ S', d77_77 F x S = some S' ∧ (∀ g, ¬ g = 6 → S' g = S g) ∧ ∀ j : Nat, S' 6 0 j = if x.toInt ≤ (j : Int) ∧ (j : Int) < 3 then 0 else S 6 0 j
  | 0, x, S, _, h1, h2 => by exfalso; simp at h2; omega
  | F + 1, x, S, h0, h1, h2 => by
    have c3 : (3 : Int32).toInt = 3 := rfl
    have nx := cl_t h0
    rw [d77_77]
    by_cases q : 3 ≤ x
    · rw [if_pos q]
      rw [le_t, c3] at q
      exact ⟨S, rfl, fun _ _ => rfl, fun j => by rw [if_neg (fun z => by omega)]⟩
    · rw [if_neg q]
      rw [le_t, c3] at q
      have e := i32_inc (x := x) (by omega)
      obtain ⟨S', e1, e2, e3⟩ := unk_c F (x + 1) (jup S 6 0 x.toNatClampNeg (vp_nar .boolean 0)) (by omega) (by omega) (by omega)
      refine ⟨S', e1, fun g hg => (e2 g hg).trans (jup_g hg), fun j => ?_⟩
      rw [e3, e]
      by_cases c : x.toInt ≤ (j : Int) ∧ (j : Int) < 3
      · rw [if_pos c]
        by_cases c2 : x.toInt + 1 ≤ (j : Int) ∧ (j : Int) < 3
        · rw [if_pos c2]
        · rw [if_neg c2]
          have ej : j = x.toNatClampNeg := by omega
          subst ej
          exact jup_at
      · rw [if_neg c, if_neg (fun z => c ⟨by omega, z.2⟩)]
        exact jup_of (fun z => c ⟨by omega, by omega⟩)
/-- the reference: its row empty -/
theorem z39_m : ∀ (F : Nat) (x : Int32) (S : jI), 0 ≤ x.toInt → x.toInt ≤ 1149 → 1149 - x.toInt < (F : Int) → ∃ S', d150_39 F x S = some S' ∧ (∀ g, ¬ g = 32 → S' g = S g) ∧ ∀ j : Nat, S' 32 0 j = if x.toInt ≤ (j : Int) ∧ (j : Int) < 1149 then 0 else S 32 0 j
  | 0, x, S, _, h1, h2 => by exfalso; simp at h2; omega
  | F + 1, x, S, h0, h1, h2 => by
    have c3 : (1149 : Int32).toInt = 1149 := rfl
    have nx := cl_t h0
    rw [d150_39]
    by_cases q : 1149 ≤ x
    · rw [if_pos q]
      rw [le_t, c3] at q
      exact ⟨S, rfl, fun _ _ => rfl, fun j => by rw [if_neg (fun z => by omega)]⟩
    · rw [if_neg q]
      rw [le_t, c3] at q
      have e := i32_inc (x := x) (by omega)
      obtain ⟨S', e1, e2, e3⟩ := z39_m F (x + 1) (jup S 32 0 x.toNatClampNeg 0) (by omega) (by omega) (by omega)
      refine ⟨S', e1, fun g hg => (e2 g hg).trans (jup_g hg), fun j => ?_⟩
      rw [e3, e]
      by_cases c : x.toInt ≤ (j : Int) ∧ (j : Int) < 1149
      · rw [if_pos c]
        by_cases c2 : x.toInt + 1 ≤ (j : Int) ∧ (j : Int) < 1149
        · rw [if_pos c2]
        · rw [if_neg c2]
          have ej : j = x.toNatClampNeg := by omega
          subst ej
          exact jup_at
      · rw [if_neg c, if_neg (fun z => c ⟨by omega, z.2⟩)]
        exact jup_of (fun z => c ⟨by omega, by omega⟩)
theorem ixc {c x : Int32} {n : Nat} (hc : c.toInt = (n : Int)) (hn : n ≤ 5000) (g0 : 0 ≤ x.toInt) (g : x.toInt ≤ 5000) : Int32.toNatClampNeg (c + x) = n + x.toNatClampNeg := by
  have e2 : (c + x).toInt = n + x.toInt := by rw [i32_add (by omega), hc]
  have n1 := cl_t g0
  have n2 := cl_t (x := c + x) (by omega)
  omega
/-- its PACKETS -/
noncomputable def pk85 (S : jI) (i : Nat) : jI := jup (jup (jup (jup S 33 0 i (S 40 0 (4 * i))) 32 0 (17 + i) (S 40 0 (4 * i + 1))) 32 0 (23 + i) (S 40 0 (4 * i + 2))) 34 0 i (S 40 0 (4 * i + 3))
theorem st85 {F : Nat} {x : Int32} {S : jI} (h0 : 0 ≤ x.toInt) (h6 : x.toInt < 6) (hq : ¬ S 31 0 3 ≤ x) : d150_85 (F + 1) x S = d150_85 F (x + 1) (pk85 S x.toNatClampNeg) := by
  rw [d150_85, if_neg hq]
  have a0 := ix4z (m := x) h0 (by omega)
  have a1 := ix4 (m := x) (c := 1) h0 (by omega) (by decide) (by decide)
  have a2 := ix4 (m := x) (c := 2) h0 (by omega) (by decide) (by decide)
  have a3 := ix4 (m := x) (c := 3) h0 (by omega) (by decide) (by decide)
  have b1 := ixc (c := 17) (x := x) (n := 17) rfl (by decide) h0 (by omega)
  have b2 := ixc (c := 23) (x := x) (n := 23) rfl (by decide) h0 (by omega)
  rw [a0, a1, a2, a3, b1, b2]
  rfl
theorem h85_m {m : Nat} (hm : m ≤ 6) : ∀ (F : Nat) (x : Int32) (S : jI), (S 31 0 3).toInt = (m : Int) → 0 ≤ x.toInt → x.toInt ≤ (m : Int) → (m : Int) - x.toInt < (F : Int) → ∃ S', d150_85 F x S = some S' ∧ (∀ g, ¬ g = 32 → ¬ g = 33 → ¬ g = 34 → S' g = S g) ∧ (∀ i : Nat, S' 33 0 i = if x.toInt ≤ (i : Int) ∧ i < m then S 40 0 (4 * i) else S 33 0 i) ∧ (∀ i : Nat, S' 34 0 i = if x.toInt ≤ (i : Int) ∧ i < m then S 40 0 (4 * i + 3) else S 34 0 i) ∧ (∀ i : Nat, i < m → x.toInt ≤ (i : Int) → S' 32 0 (17 + i) = S 40 0 (4 * i + 1) ∧ S' 32 0 (23 + i) = S 40 0 (4 * i + 2)) ∧ ∀ j : Nat, (∀ i, i < m → x.toInt ≤ (i : Int) → ¬ j = 17 + i ∧ ¬ j = 23 + i) → S' 32 0 j = S 32 0 j
  | 0, x, S, _, _, h1, h2 => by exfalso; simp at h2; omega
  | F + 1, x, S, hs, h0, h1, h2 => by
    have nx := cl_t h0
    by_cases q : S 31 0 3 ≤ x
    · rw [d150_85, if_pos q]
      rw [le_t, hs] at q
      exact ⟨S, rfl, fun _ _ _ _ => rfl, fun i => by rw [if_neg (fun z => by omega)], fun i => by rw [if_neg (fun z => by omega)], fun i hi hx => by omega, fun _ _ => rfl⟩
    · have q' := q
      rw [le_t, hs] at q'
      have e := i32_inc (x := x) (by omega)
      rw [st85 h0 (by omega) q]
      obtain ⟨S', e1, e2, e3, e4, e5, e6⟩ := h85_m hm F (x + 1) (pk85 S x.toNatClampNeg) hs (by omega) (by omega) (by omega)
      have p40 : ∀ j, pk85 S x.toNatClampNeg 40 0 j = S 40 0 j := fun _ => rfl
      refine ⟨S', e1, fun g g1 g2 g3 => (e2 g g1 g2 g3).trans ?_, fun i => ?_, fun i => ?_, fun i hi hx => ?_, fun j hj => ?_⟩
      · unfold pk85
        exact (jup_g g3).trans ((jup_g g1).trans ((jup_g g1).trans (jup_g g2)))
      · rw [e3, e, p40]
        have : pk85 S x.toNatClampNeg 33 0 i = if i = x.toNatClampNeg then S 40 0 (4 * i) else S 33 0 i := by
          by_cases c : i = x.toNatClampNeg
          · subst c; rw [if_pos rfl]; exact jup_at
          · rw [if_neg c]
            show jup S 33 0 x.toNatClampNeg (S 40 0 (4 * x.toNatClampNeg)) 33 0 i = _
            exact jup_of (fun z => c z.2.2)
        rw [this]
        by_cases c : x.toInt ≤ (i : Int) ∧ i < m
        · rw [if_pos c]
          by_cases c2 : x.toInt + 1 ≤ (i : Int) ∧ i < m
          · rw [if_pos c2]
          · rw [if_neg c2, if_pos (by omega)]
        · rw [if_neg c, if_neg (fun z => c ⟨by omega, z.2⟩), if_neg (fun z => c ⟨by omega, by omega⟩)]
      · rw [e4, e, p40]
        have : pk85 S x.toNatClampNeg 34 0 i = if i = x.toNatClampNeg then S 40 0 (4 * i + 3) else S 34 0 i := by
          by_cases c : i = x.toNatClampNeg
          · subst c; rw [if_pos rfl]; exact jup_at
          · rw [if_neg c]; exact jup_of (fun z => c z.2.2)
        rw [this]
        by_cases c : x.toInt ≤ (i : Int) ∧ i < m
        · rw [if_pos c]
          by_cases c2 : x.toInt + 1 ≤ (i : Int) ∧ i < m
          · rw [if_pos c2]
          · rw [if_neg c2, if_pos (by omega)]
        · rw [if_neg c, if_neg (fun z => c ⟨by omega, z.2⟩), if_neg (fun z => c ⟨by omega, by omega⟩)]
      · by_cases c : x.toInt + 1 ≤ (i : Int)
        · have := e5 i hi (by omega)
          rw [p40, p40] at this
          exact this
        · have ei : i = x.toNatClampNeg := by omega
          subst ei
          rw [e6 (17 + x.toNatClampNeg) (fun i' _ _ => ⟨by omega, by omega⟩), e6 (23 + x.toNatClampNeg) (fun i' _ _ => ⟨by omega, by omega⟩)]
          refine ⟨?_, ?_⟩
          · show jup (jup (jup S 33 0 x.toNatClampNeg _) 32 0 (17 + x.toNatClampNeg) (S 40 0 (4 * x.toNatClampNeg + 1))) 32 0 (23 + x.toNatClampNeg) _ 32 0 (17 + x.toNatClampNeg) = _
            rw [jup_of (fun z => by have := z.2.2; omega)]
            exact jup_at
          · show jup (jup (jup S 33 0 x.toNatClampNeg _) 32 0 (17 + x.toNatClampNeg) _) 32 0 (23 + x.toNatClampNeg) (S 40 0 (4 * x.toNatClampNeg + 2)) 32 0 (23 + x.toNatClampNeg) = _
            exact jup_at
      · rw [e6 j (fun i hi hx => hj i hi (by omega))]
        have hj' := hj x.toNatClampNeg (by omega) (by omega)
        show jup (jup (jup S 33 0 x.toNatClampNeg _) 32 0 (17 + x.toNatClampNeg) _) 32 0 (23 + x.toNatClampNeg) _ 32 0 j = _
        rw [jup_of (fun z => hj'.2 z.2.2), jup_of (fun z => hj'.1 z.2.2)]
        rfl
theorem h169_m : ∀ (F : Nat) (x : Int32) (S : jI), 1 ≤ x.toInt → x.toInt ≤ 4 → 4 - x.toInt < (F : Int) → ∃ S', d150_169 F x S = some S' ∧ (∀ g, ¬ g = 32 → S' g = S g) ∧ ∀ j : Nat, S' 32 0 j = if (j = 1149 ∧ x.toInt ≤ 1) ∨ (j = 2298 ∧ x.toInt ≤ 2) ∨ (j = 3447 ∧ x.toInt ≤ 3) then -1 else S 32 0 j
  | 0, x, S, _, h1, h2 => by exfalso; simp at h2; omega
  | F + 1, x, S, h0, h1, h2 => by
    have c3 : (4 : Int32).toInt = 4 := rfl
    have c9 : (1149 : Int32).toInt = 1149 := rfl
    have c0 : (0 : Int32).toInt = 0 := rfl
    rw [d150_169]
    by_cases q : 4 ≤ x
    · rw [if_pos q]
      rw [le_t, c3] at q
      exact ⟨S, rfl, fun _ _ => rfl, fun j => by rw [if_neg (fun z => by omega)]⟩
    · rw [if_neg q]
      rw [le_t, c3] at q
      have e := i32_inc (x := x) (by omega)
      have f1 : (1149 * x).toInt = 1149 * x.toInt := by rw [i32_mul (by rw [c9]; omega), c9]
      have f2 : (1149 * x + 0).toInt = 1149 * x.toInt := by rw [i32_add (by rw [f1, c0]; omega), f1, c0]; omega
      have f3 := cl_t (x := 1149 * x + 0) (by omega)
      obtain ⟨S', e1, e2, e3⟩ := h169_m F (x + 1) (jup S 32 0 (Int32.toNatClampNeg (1149 * x + 0)) (-1)) (by omega) (by omega) (by omega)
      refine ⟨S', e1, fun g hg => (e2 g hg).trans (jup_g hg), fun j => ?_⟩
      rw [e3, e]
      by_cases c : (j = 1149 ∧ x.toInt ≤ 1) ∨ (j = 2298 ∧ x.toInt ≤ 2) ∨ (j = 3447 ∧ x.toInt ≤ 3)
      · rw [if_pos c]
        by_cases c2 : (j = 1149 ∧ x.toInt + 1 ≤ 1) ∨ (j = 2298 ∧ x.toInt + 1 ≤ 2) ∨ (j = 3447 ∧ x.toInt + 1 ≤ 3)
        · rw [if_pos c2]
        · rw [if_neg c2]
          have ej : j = Int32.toNatClampNeg (1149 * x + 0) := by omega
          subst ej
          exact jup_at
      · rw [if_neg c, if_neg (fun z => c (by omega))]
        exact jup_of (fun z => c (by omega))
