/-! keep, on -/
theorem cp_ml {a b : Int32} {p q : Nat} (ha : a.toInt = (p : Int)) (hb : b.toInt = (q : Int)) (hp : p ≤ 3447) (hq : q ≤ 3447) (hd : p + 1149 ≤ q ∨ q + 1149 ≤ p) : ∀ (n F : Nat) (x : Int32) (J : jI), x.toInt + (n : Int) = 1149 → 0 ≤ x.toInt → n < F → ∃ r, d174_2 a b F x J = some r ∧ (∀ j, r 32 0 j = if q + x.toNatClampNeg ≤ j ∧ j < q + 1149 then J 32 0 (p + (j - q)) else J 32 0 j) ∧ ∀ g, ¬ g = 32 → r g = J g
  | _, 0, _, _, _, _, h => absurd h (by omega)
  | 0, F + 1, x, J, hx, h0, _ => by
    have nx := cl_t h0
    rw [d174_2, if_pos (show (1149 : Int32) ≤ x by rw [le_t]; show (1149 : Int) ≤ _; omega)]
    exact ⟨_, rfl, fun j => by rw [if_neg (by omega)], fun _ _ => rfl⟩
  | n + 1, F + 1, x, J, hx, h0, hF => by
    have nx := cl_t h0
    have na := cl_t (x := a) (by omega)
    have nb := cl_t (x := b) (by omega)
    have e := i32_inc (x := x) (by omega)
    have nx1 := cl_t (x := x + 1) (by omega)
    have xn : (x + 1).toNatClampNeg = x.toNatClampNeg + 1 := by omega
    have ix : Int32.toNatClampNeg (b + x) = q + x.toNatClampNeg := by rw [(ixa (a := b) (by omega) (by omega) h0 (by omega)).2]; omega
    have iy : Int32.toNatClampNeg (a + x) = p + x.toNatClampNeg := by rw [(ixa (a := a) (by omega) (by omega) h0 (by omega)).2]; omega
    rw [d174_2, if_neg (show ¬ (1149 : Int32) ≤ x by rw [le_t]; show ¬ (1149 : Int) ≤ _; omega), ix, iy]
    obtain ⟨r, r1, r2, r3⟩ := cp_ml ha hb hp hq hd n F (x + 1) (jup J 32 0 (q + x.toNatClampNeg) (J 32 0 (p + x.toNatClampNeg))) (by omega) (by omega) (by omega)
    refine ⟨r, r1, fun j => ?_, fun g h => (r3 g h).trans (jup_g h)⟩
    rw [r2, xn, jup_c, jup_c]
    by_cases c : q + x.toNatClampNeg ≤ j ∧ j < q + 1149
    · rw [if_pos c]
      by_cases c2 : j = q + x.toNatClampNeg
      · rw [if_neg (by omega), if_pos c2, show p + (j - q) = p + x.toNatClampNeg by omega]
      · rw [if_pos (by omega), if_neg (by omega)]
    · rw [if_neg c, if_neg (by omega), if_neg (by omega)]
theorem cp_m {a b : Int32} {p q : Nat} {J : jI} (ha : a.toInt = (p : Int)) (hb : b.toInt = (q : Int)) (hp : p ≤ 3447) (hq : q ≤ 3447) (hd : p + 1149 ≤ q ∨ q + 1149 ≤ p) : ∃ r, d174 a b J = some r ∧ (∀ j, j < 1149 → r 32 0 (q + j) = J 32 0 (p + j)) ∧ (∀ j, ¬ (q ≤ j ∧ j < q + 1149) → r 32 0 j = J 32 0 j) ∧ ∀ g, ¬ g = 32 → r g = J g := by
  obtain ⟨r, r1, r2, r3⟩ := cp_ml ha hb hp hq hd 1149 1200 0 J (by decide) (by decide) (by decide)
  have c0 : Int32.toNatClampNeg 0 = 0 := rfl
  rw [c0] at r2
  unfold d174
  rw [r1]
  refine ⟨r, rfl, fun j hj => ?_, fun j hj => ?_, r3⟩
  · rw [r2, if_pos (by omega), show p + (q + j - q) = p + j by omega]
  · rw [r2, if_neg (by omega)]
noncomputable def taT (a0 a1 : Nat) (I : jI) : jI := jcpy (d29 a0 a1 I) 22 a1 22 a0 (Int32.toNatClampNeg 0) (Int32.toNatClampNeg 0) (Int32.toNatClampNeg 40)
theorem ta_at {a0 a1 : Nat} {I : jI} {g j : Nat} (h : (g = 4 ∧ 6 ≤ j ∧ j < 16) ∨ (18 ≤ g ∧ g < 22 ∧ j < 6) ∨ (g = 23 ∧ j < 10) ∨ (g = 22 ∧ j < 40)) : taT a0 a1 I g a0 j = I g a1 j := by
  unfold taT
  by_cases c : g = 22
  · subst c
    rw [ta_l, if_pos ⟨rfl, by omega⟩]
  · rw [ta_c c, if_pos ⟨rfl, by omega⟩]
theorem ta_ot {a0 a1 : Nat} {I : jI} {g x j : Nat} (h : ¬ x = a0) : taT a0 a1 I g x j = I g x j := by
  unfold taT
  by_cases c : g = 22
  · subst c
    rw [ta_l, if_neg (fun z => h z.1)]
  · rw [ta_c c, if_neg (fun z => h z.1)]
theorem d28_t {a0 a1 : Nat} {I : jI} : d28 a0 a1 I = some (taT a0 a1 I) := rfl
theorem hst_to {m : Nat} {I T J Y : jI} {h h' b b' : Nat} (hm : m ≤ 6) (hD : dN I h ≤ 40) (q : hst m I J h b) (o : ∀ g j, T g 0 j = I g 0 j) (c : ∀ g j, ((g = 4 ∧ 6 ≤ j ∧ j < 16) ∨ (18 ≤ g ∧ g < 22 ∧ j < 6) ∨ (g = 23 ∧ j < 10) ∨ (g = 22 ∧ j < 40)) → T g h' j = I g h j) (f : ∀ j, j < 1149 → Y 32 0 (b' + j) = J 32 0 (b + j)) : hst m T Y h' b' := hst_cells hm hD q (fun j _ _ => o 4 j) (fun i _ => o 18 i) (fun i _ => o 21 i) (fun i _ => o 23 i) (fun i _ => o 19 i) (fun i _ => o 20 i) (fun j a b => c 4 j (by omega)) (fun i a => c 18 i (by omega)) (fun i a => c 21 i (by omega)) (fun i a => c 23 i (by omega)) (fun i a => c 19 i (by omega)) (fun i a => c 20 i (by omega)) (fun i a => c 22 i (by omega)) f
/-- one house taken from another, in both: what of the relation needs no word -/
theorem RD_to {I T J Y : jI} {m : Nat} (e : m = mP I) (q : RD2 I J) (o : ∀ g x j, x = 0 ∨ x = 5 → ¬ g = 6 → T g x j = I g x j) (og : ∀ g, ¬ g = 32 → Y g = J g) (h1 : hst m T Y 1 0) (hk : ∀ k, k < 3 → (T 6 0 k = 0 → Y 32 0 (1149 * (k + 1)) = -1) ∧ (¬ T 6 0 k = 0 → hst m T Y (2 + k) (1149 * (k + 1)))) : RD2 T Y := by
  subst e
  have eP : mP T = mP I := by unfold mP; rw [o 4 0 6 (Or.inl rfl) (by decide)]
  obtain ⟨⟨q1, q2⟩, ⟨q3, q4, q5⟩, q6, q7, q8, -, -⟩ := q
  refine ⟨⟨fun j a b => ?_, fun j a => ?_⟩, ⟨?_, ?_, ?_⟩, fun i hi => ⟨?_, ?_⟩, fun hz => ?_, ?_, ?_, ?_⟩
  · rw [o 4 5 j (Or.inr rfl) (by decide)]; exact q1 j a b
  · rw [o 23 5 j (Or.inr rfl) (by decide)]; exact q2 j a
  · rw [og 31 (by decide), o 4 0 6 (Or.inl rfl) (by decide)]; exact q3
  · rw [og 31 (by decide), o 4 0 7 (Or.inl rfl) (by decide)]; exact q4
  · rw [og 31 (by decide), o 4 0 8 (Or.inl rfl) (by decide)]; exact q5
  · rw [eP] at hi; rw [og 33 (by decide), o 18 0 i (Or.inl rfl) (by decide)]; exact (q6 i hi).1
  · rw [eP] at hi; rw [og 34 (by decide), o 21 0 i (Or.inl rfl) (by decide)]; exact (q6 i hi).2
  · rw [eP] at hz
    obtain ⟨z1, z2⟩ := q7 hz
    refine ⟨by rw [o 4 0 7 (Or.inl rfl) (by decide), o 4 0 8 (Or.inl rfl) (by decide)]; exact z1, fun i hi => ?_⟩
    rw [eP] at hi
    rw [o 18 0 i (Or.inl rfl) (by decide), o 21 0 i (Or.inl rfl) (by decide)]
    exact z2 i hi
  · rw [o 4 0 7 (Or.inl rfl) (by decide)]; exact q8
  · rw [eP]; exact h1
  · rw [eP]; exact hk
theorem b_of {k : Int32} (h0 : 0 ≤ k.toInt) (h2 : k.toInt ≤ 2) : (1149 * (1 + k)).toInt = ((1149 * (k.toNatClampNeg + 1) : Nat) : Int) := by
  have c1 : (1 : Int32).toInt = 1 := rfl
  have c2 : (1149 : Int32).toInt = 1149 := rfl
  have nk := cl_t h0
  have e : (1 + k).toInt = 1 + k.toInt := by rw [i32_add (by omega), c1]
  rw [i32_mul (by rw [c2, e]; omega), c2, e]
  omega
theorem keep_eq {I J : jI} (k : Int32) (hG : gG aGI I) (q : RD2 I J) : ∃ r r', d87 k I = some r ∧ d175 k J = some r' ∧ r.1 = r'.1 ∧ RD2 r.2 r'.2 := by
  have c := RD_cur hG q
  have c3 : J 31 0 3 = I 4 1 6 := c.1.1.1
  have c0 : Int32.toNatClampNeg 0 = 0 := rfl
  have c15 : J 32 0 0 = I 4 1 15 := c.1.1.2.2.2
  obtain ⟨hm, hmi⟩ := mP_6 hG
  unfold d87 d175
  rw [in_i, c3]
  by_cases h0 : k.toInt < 0
  · rw [if_pos (lt0_t.mpr h0), if_neg (show ¬ ((0 : Int64).toInt ≤ k.toInt ∧ k.toInt ≤ (2 : Int64).toInt) from fun z => by have z1 : 0 ≤ k.toInt := z.1; omega), if_pos rfl]
    exact ⟨_, _, rfl, rfl, rfl, q⟩
  rw [if_neg (fun z => h0 (lt0_t.mp z))]
  by_cases h2 : k.toInt ≤ 2
  · rw [if_pos (show k < 3 by rw [lt_t]; show k.toInt < 3; omega), if_pos (show (0 : Int64).toInt ≤ k.toInt ∧ k.toInt ≤ (2 : Int64).toInt from ⟨by show 0 ≤ k.toInt; omega, h2⟩), if_neg one0]
    by_cases h3 : I 4 1 6 = 0
    · rw [if_pos h3, if_pos h3]
      exact ⟨_, _, rfl, rfl, rfl, q⟩
    · rw [if_neg h3, if_neg h3, d28_t]
      dsimp only [Option.bind_some]
      have nk := cl_t (x := k) (by omega)
      obtain ⟨Y, y1, y2, y3, y4⟩ := cp_m (a := 0) (b := 1149 * (1 + k)) (p := 0) (q := 1149 * (k.toNatClampNeg + 1)) (J := J) rfl (b_of (by omega) h2) (by decide) (by omega) (by omega)
      rw [y1, c0]
      dsimp only [Option.bind_some]
      have v1 : vp_nar .boolean 1 = 1 := rfl
      rw [v1]
      have t6 : ∀ j, jup (taT (2 + k.toNatClampNeg) 1 I) 6 0 k.toNatClampNeg 1 6 0 j = if j = k.toNatClampNeg then 1 else I 6 0 j := fun j => by rw [jup_c, ta_ot (by omega)]
      have to : ∀ g x j, ¬ g = 6 → ¬ x = 2 + k.toNatClampNeg → jup (taT (2 + k.toNatClampNeg) 1 I) 6 0 k.toNatClampNeg 1 g x j = I g x j := fun g x j a b => by rw [jup_g a, ta_ot b]
      have tt : ∀ g j, ((g = 4 ∧ 6 ≤ j ∧ j < 16) ∨ (18 ≤ g ∧ g < 22 ∧ j < 6) ∨ (g = 23 ∧ j < 10) ∨ (g = 22 ∧ j < 40)) → jup (taT (2 + k.toNatClampNeg) 1 I) 6 0 k.toNatClampNeg 1 g (2 + k.toNatClampNeg) j = I g 1 j := fun g j h => by rw [jup_g (by omega), ta_at h]
      generalize jup (taT (2 + k.toNatClampNeg) 1 I) 6 0 k.toNatClampNeg 1 = T at t6 to tt
      refine ⟨_, _, rfl, rfl, ?_, ?_⟩
      · show T 4 1 15 = Y 32 0 0
        rw [to 4 1 15 (by decide) (by omega), y3 0 (by omega), c15]
      · show RD2 T Y
        have t0 : ∀ g j, ¬ g = 6 → T g 0 j = I g 0 j := fun g j a => to g 0 j a (by omega)
        have q' := q
        obtain ⟨-, -, -, -, -, qh, qk⟩ := q'
        have sm : ∀ x b, ¬ x = 2 + k.toNatClampNeg → x ≤ 5 → (∀ j, j < 1149 → Y 32 0 (b + j) = J 32 0 (b + j)) → hst (mP I) I J x b → hst (mP I) T Y x b := fun x b hx hx5 hf z => hst_cells hm (dN_40 hG hx5).1 z (fun j _ _ => t0 4 j (by decide)) (fun i _ => t0 18 i (by decide)) (fun i _ => t0 21 i (by decide)) (fun i _ => t0 23 i (by decide)) (fun i _ => t0 19 i (by decide)) (fun i _ => t0 20 i (by decide)) (fun j _ _ => to 4 x j (by decide) hx) (fun i _ => to 18 x i (by decide) hx) (fun i _ => to 21 x i (by decide) hx) (fun i _ => to 23 x i (by decide) hx) (fun i _ => to 19 x i (by decide) hx) (fun i _ => to 20 x i (by decide) hx) (fun i _ => to 22 x i (by decide) hx) hf
        refine RD_to rfl q (fun g x j hx hg => to g x j hg (by omega)) y4 (sm 1 0 (by omega) (by decide) (fun j hj => y3 _ (by omega)) qh) (fun k' hk' => ⟨fun z => ?_, fun z => ?_⟩)
        · rw [t6] at z
          by_cases e : k' = k.toNatClampNeg
          · rw [if_pos e] at z; exact absurd z one0
          · rw [if_neg e] at z
            rw [y3 _ (by omega)]
            exact (qk k' hk').1 z
        · by_cases e : k' = k.toNatClampNeg
          · subst e
            exact hst_cells hm (dN_40 hG (by decide)).1 qh (fun j _ _ => t0 4 j (by decide)) (fun i _ => t0 18 i (by decide)) (fun i _ => t0 21 i (by decide)) (fun i _ => t0 23 i (by decide)) (fun i _ => t0 19 i (by decide)) (fun i _ => t0 20 i (by decide)) (fun j a b => tt 4 j (by omega)) (fun i a => tt 18 i (by omega)) (fun i a => tt 21 i (by omega)) (fun i a => tt 23 i (by omega)) (fun i a => tt 19 i (by omega)) (fun i a => tt 20 i (by omega)) (fun i a => tt 22 i (by omega)) y2
          · rw [t6, if_neg e] at z
            exact sm (2 + k') _ (by omega) (by omega) (fun j hj => y3 _ (by omega)) ((qk k' hk').2 z)
  · rw [if_neg (show ¬ k < 3 by rw [lt_t]; show ¬ k.toInt < 3; omega), if_neg (show ¬ ((0 : Int64).toInt ≤ k.toInt ∧ k.toInt ≤ (2 : Int64).toInt) from fun z => h2 z.2), if_pos rfl]
    exact ⟨_, _, rfl, rfl, rfl, q⟩
theorem RD_find {I J : jI} {w w' : Int32} (hG : gG aGI I) (q : RD2 I J) : RD2 (d113 w I).2 (d126 w' J).2 := RD_cells hG q (fun g i j ⟨r, hr, e, _⟩ => by
    simp only [rdC, List.mem_cons, List.not_mem_nil, or_false] at hr
    have : ¬ g = 0 ∧ ¬ g = 12 := by rcases hr with rfl | rfl | rfl | rfl | rfl | rfl | rfl | rfl | rfl <;> simp at e <;> omega
    rw [find_c this.1 this.2]) (fun g i j ⟨r, hr, e, a1, a2, a3, a4⟩ => by
    simp only [rdM, List.mem_cons, List.not_mem_nil, or_false] at hr
    rcases hr with rfl | rfl | rfl | rfl
    · have e : 31 = g := e
      subst e
      have : ¬ j = 13 := by simp at a3 a4; omega
      unfold d126
      dsimp only
      rw [jup_g (show ¬ 31 = 39 by decide), jup_of (fun z => this z.2.2)]
    · have e : 32 = g := e
      subst e
      rw [find_m (by decide) (by decide)]
    · have e : 33 = g := e
      subst e
      rw [find_m (by decide) (by decide)]
    · have e : 34 = g := e
      subst e
      rw [find_m (by decide) (by decide)])
theorem on_eq {I J : jI} (k : Int32) (hG : gG aGI I) (q : RD2 I J) : ∃ r r', d88 k I = some r ∧ d176 k J = some r' ∧ r.1 = r'.1 ∧ RD2 r.2 r'.2 := by
  have c0 : Int32.toNatClampNeg 0 = 0 := rfl
  obtain ⟨hm, hmi⟩ := mP_6 hG
  unfold d88 d176
  rw [in_i]
  by_cases h0 : k.toInt < 0
  · rw [if_pos (lt0_t.mpr h0), if_neg (show ¬ ((0 : Int64).toInt ≤ k.toInt ∧ k.toInt ≤ (2 : Int64).toInt) from fun z => by have z1 : 0 ≤ k.toInt := z.1; omega), if_pos rfl]
    exact ⟨_, _, rfl, rfl, rfl, q⟩
  rw [if_neg (fun z => h0 (lt0_t.mp z))]
  by_cases h2 : k.toInt ≤ 2
  · rw [if_pos (show k < 3 by rw [lt_t]; show k.toInt < 3; omega), if_pos (show (0 : Int64).toInt ≤ k.toInt ∧ k.toInt ≤ (2 : Int64).toInt from ⟨by show 0 ≤ k.toInt; omega, h2⟩), if_neg one0]
    have nk := cl_t (x := k) (by omega)
    have bk := b_of (k := k) (by omega) h2
    have e0 : Int32.toNatClampNeg (1149 * (1 + k) + 0) = 1149 * (k.toNatClampNeg + 1) := by
      have := cl_t (x := 1149 * (1 + k)) (by omega)
      rw [Int32.add_zero]
      omega
    rw [e0]
    have q' := q
    obtain ⟨-, -, -, -, -, qh, qk⟩ := q'
    by_cases h3 : I 6 0 k.toNatClampNeg = 0
    · rw [if_pos h3, if_neg (show ¬ 0 ≤ J 32 0 (1149 * (k.toNatClampNeg + 1)) by rw [(qk _ (by omega)).1 h3]; decide)]
      exact ⟨_, _, rfl, rfl, rfl, RD_find hG q⟩
    · have qq := (qk _ (by omega)).2 h3
      have h15 := qq.2.1
      have hd := gi_deeds hG (x := 2 + k.toNatClampNeg) (by omega)
      rw [if_neg h3, if_pos (show 0 ≤ J 32 0 (1149 * (k.toNatClampNeg + 1)) by rw [h15, le0_t]; exact hd.1), d28_t]
      dsimp only [Option.bind_some]
      obtain ⟨Y, y1, y2, y3, y4⟩ := cp_m (a := 1149 * (1 + k)) (b := 0) (p := 1149 * (k.toNatClampNeg + 1)) (q := 0) (J := J) bk rfl (by omega) (by decide) (by omega)
      rw [y1, c0]
      dsimp only [Option.bind_some]
      have to : ∀ g x j, ¬ x = 1 → taT 1 (2 + k.toNatClampNeg) I g x j = I g x j := fun g x j b => ta_ot b
      have tt : ∀ g j, ((g = 4 ∧ 6 ≤ j ∧ j < 16) ∨ (18 ≤ g ∧ g < 22 ∧ j < 6) ∨ (g = 23 ∧ j < 10) ∨ (g = 22 ∧ j < 40)) → taT 1 (2 + k.toNatClampNeg) I g 1 j = I g (2 + k.toNatClampNeg) j := fun g j h => ta_at h
      generalize taT 1 (2 + k.toNatClampNeg) I = T at to tt
      have y20 : Y 32 0 0 = J 32 0 (1149 * (k.toNatClampNeg + 1)) := y2 0 (by decide)
      refine ⟨_, _, rfl, rfl, ?_, ?_⟩
      · show T 4 1 15 = Y 32 0 0
        rw [tt 4 15 (by omega), y20, h15]
      · show RD2 T Y
        refine RD_to rfl q (fun g x j hx _ => to g x j (by omega)) y4 (hst_to hm (dN_40 hG (by omega)).1 qq (fun g j => to g 0 j (by decide)) tt (fun j hj => by rw [show 0 + j = j by omega]; have := y2 j hj; rw [show 0 + j = j by omega] at this; exact this)) (fun k' hk' => ⟨fun z => ?_, fun z => ?_⟩)
        · rw [to 6 0 k' (by decide)] at z
          rw [y3 _ (by omega)]
          exact (qk k' hk').1 z
        · rw [to 6 0 k' (by decide)] at z
          exact hst_to hm (dN_40 hG (by omega)).1 ((qk k' hk').2 z) (fun g j => to g 0 j (by decide)) (fun g j _ => to g _ j (by omega)) (fun j hj => y3 _ (by omega))
  · rw [if_neg (show ¬ k < 3 by rw [lt_t]; show ¬ k.toInt < 3; omega), if_neg (show ¬ ((0 : Int64).toInt ≤ k.toInt ∧ k.toInt ≤ (2 : Int64).toInt) from fun z => h2 z.2), if_pos rfl]
    exact ⟨_, _, rfl, rfl, rfl, q⟩
