/-! undo: the class does the earlier deeds again, the reference takes the past -/
noncomputable def unI (m : Nat) (I U : jI) (x : Nat) : Prop := (U 4 1 15).toInt = (x : Int) ∧ vC m U 1 = rp m I 1 x ∧ (∀ e, U 22 1 e = I 22 1 e) ∧ ∀ g h j, ¬ pfR g h j → U g h j = I g h j
theorem unI_0 {m : Nat} {I : jI} (hm : m ≤ 6) (h0 : I 4 0 15 = 0) (hk : hsK0 I 1) : unI m I (d29 1 0 I) 0 := by
  have at_ : ∀ g j, ((g = 4 ∧ 6 ≤ j ∧ j < 16) ∨ (18 ≤ g ∧ g < 22 ∧ j < 6) ∨ (g = 23 ∧ j < 10)) → d29 1 0 I g 1 j = I g 0 j := fun g j h => if_pos ⟨rfl, h⟩
  have ot : ∀ g x j, ¬ (x = 1 ∧ ((g = 4 ∧ 6 ≤ j ∧ j < 16) ∨ (18 ≤ g ∧ g < 22 ∧ j < 6) ∨ (g = 23 ∧ j < 10))) → d29 1 0 I g x j = I g x j := fun g x j h => if_neg h
  refine ⟨?_, ?_, fun e => ot 22 1 e (fun z => by have := z.2; omega), fun g x j hp => ?_⟩
  · rw [at_ 4 15 (Or.inl ⟨rfl, by decide, by decide⟩), h0]; rfl
  · show _ = vC m I 0
    exact vC_ext hm (fun j a b => at_ 4 j (Or.inl ⟨rfl, by omega, by omega⟩)) (fun j a => at_ 23 j (Or.inr (Or.inr ⟨rfl, a⟩))) (fun j a => at_ 19 j (Or.inr (Or.inl ⟨by decide, by decide, a⟩))) (fun j a => at_ 20 j (Or.inr (Or.inl ⟨by decide, by decide, a⟩)))
  · by_cases c : x = 1 ∧ ((g = 4 ∧ 6 ≤ j ∧ j < 16) ∨ (18 ≤ g ∧ g < 22 ∧ j < 6) ∨ (g = 23 ∧ j < 10))
    · obtain ⟨rfl, c⟩ := c
      rw [at_ g j c]
      rcases c with ⟨rfl, c1, c2⟩ | ⟨c1, c2, c3⟩ | ⟨rfl, c1⟩
      · exact (hk.1 j c1 (Nat.le_of_not_lt (fun z => hp ⟨rfl, Or.inr (Or.inr (Or.inr (Or.inr ⟨rfl, by omega, by omega⟩)))⟩))).symm
      · have : g = 18 ∨ g = 19 ∨ g = 20 ∨ g = 21 := by omega
        rcases this with rfl | rfl | rfl | rfl
        · exact (hk.2 j c3).1.symm
        · exact absurd ⟨rfl, Or.inr (Or.inr (Or.inl rfl))⟩ hp
        · exact absurd ⟨rfl, Or.inr (Or.inr (Or.inr (Or.inl rfl)))⟩ hp
        · exact (hk.2 j c3).2.symm
      · exact absurd ⟨rfl, Or.inl rfl⟩ hp
    · exact ot g x j c
theorem undo_l {m : Nat} {I : jI} {n : Int32} (hm : m ≤ 6) (hk : hsK0 I 1) (hn0 : 0 ≤ (I 4 0 7).toInt) (h21 : ∀ i, i < 6 → 0 ≤ (I 21 0 i).toInt ∧ (I 21 0 i).toInt ≤ 9) (hn : n.toInt ≤ 39) (hx : ∀ d : Nat, (d : Int) < n.toInt → okx m (I 22 1 d) ∧ ∀ k, k < 10 → 0 ≤ (rp m I 1 d (6 + k)).toInt) : ∀ (N F : Nat) (x : Int32) (U : jI), x.toInt + (N : Int) = n.toInt → 0 ≤ x.toInt → N < F → unI m I U x.toNatClampNeg → ∃ T, d30_7 1 n F x U = some T ∧ unI m I T n.toNatClampNeg
  | _, 0, _, _, _, _, h, _ => absurd h (by omega)
  | 0, F + 1, x, U, h, h0, _, u => by
    rw [d30_7, if_pos (show n ≤ x by rw [le_t]; omega)]
    have : x = n := eq_t.mpr (by omega)
    subst this
    exact ⟨_, rfl, u⟩
  | N + 1, F + 1, x, U, h, h0, hF, u => by
    have nx := cl_t h0
    have e := i32_inc (x := x) (by omega)
    have nx1 := cl_t (x := x + 1) (by omega)
    have xn : (x + 1).toNatClampNeg = x.toNatClampNeg + 1 := by omega
    obtain ⟨u1, u2, u3, u4⟩ := u
    obtain ⟨⟨ok1, ok2⟩, lk⟩ := hx x.toNatClampNeg (by omega)
    obtain ⟨p1, p2, p3⟩ := lg_parts ok1
    have sm := lg_same ok1
    rw [d30_7, if_neg (show ¬ n ≤ x by rw [le_t]; omega), if_neg (show ¬ (40 : Int32) ≤ x by rw [le_t]; show ¬ (40 : Int) ≤ _; omega), u3]
    have n7 : U 4 1 7 = I 4 0 7 := by rw [u4 4 1 7 (fun z => by have := z.2; omega)]; exact hk.1 7 (by decide) (by decide)
    have n18 : ∀ i, i < 6 → U 18 1 i = I 18 0 i := fun i hi => by rw [u4 18 1 i (fun z => by have := z.2; omega)]; exact (hk.2 i hi).1
    have n21 : ∀ i, i < 6 → U 21 1 i = I 21 0 i := fun i hi => by rw [u4 21 1 i (fun z => by have := z.2; omega)]; exact (hk.2 i hi).2
    obtain ⟨r, r1, -, r3⟩ := perf_c (m := m) (I := U) (dd := xdd (I 22 1 x.toNatClampNeg)) (i := xii (I 22 1 x.toNatClampNeg)) (v := xvv (I 22 1 x.toNatClampNeg)) (by omega) (fun z => by have := ok2 (Or.inl z); rw [n21 _ (by omega)]; exact h21 _ (by omega)) hm (by omega) ok2 (fun _ => ⟨by rw [n7]; exact hn0, fun k hk => by rw [← vC_l (m := m) (h := 1) (I := U) hk, u2]; exact lk k hk⟩)
    obtain ⟨c1, c2, c3, c4⟩ := r3
    have r1' : d44 1 (I 22 1 x.toNatClampNeg / 1000) (I 22 1 x.toNatClampNeg / 100 - I 22 1 x.toNatClampNeg / 100 / 10 * 10) (I 22 1 x.toNatClampNeg - I 22 1 x.toNatClampNeg / 100 * 100) U = some r := r1
    rw [r1']
    dsimp only [Option.bind_some]
    have cc1 : (1 : Int32).toInt = 1 := rfl
    refine undo_l hm hk hn0 h21 hn hx N F (x + 1) r.2 (by omega) (by omega) (by omega) ⟨?_, ?_, fun e => ?_, fun g h j hp => by rw [c4 g h j hp, u4 g h j hp]⟩
    · rw [c2, i32_add (by omega), cc1, xn, u1]; omega
    · rw [c1, u2, xn, n7]
      exact stp_ext (fun z => by
        have := ok2 (Or.inl z)
        rw [c6_at (by omega), c6_at (by omega), n18 _ (by omega), n21 _ (by omega)]
        exact ⟨rfl, rfl⟩)
    · rw [c3, u3]
      by_cases q : e = (U 4 1 15).toNatClampNeg
      · have := cl_t (x := U 4 1 15) (by omega)
        rw [if_pos q, show e = x.toNatClampNeg by omega]
        exact sm
      · rw [if_neg q]
theorem un_ml {n many : Int32} {b : Nat} (hn : 0 ≤ n.toInt ∧ n.toInt ≤ 39) (hb : n.toNatClampNeg = b) (hm : 0 < many.toInt) : ∀ (N F : Nat) (x : Int32) (J : jI), x.toInt + (N : Int) = 28 → 0 ≤ x.toInt → N < F → ∃ r, d173_29 n many F x J = some r ∧ (∀ j, r 32 0 j = if 1 + x.toNatClampNeg ≤ j ∧ j < 29 then J 32 0 (28 + 28 * b + j) else J 32 0 j) ∧ ∀ g, ¬ g = 32 → r g = J g
  | _, 0, _, _, _, _, h => absurd h (by omega)
  | 0, F + 1, x, J, hx, h0, _ => by
    have nx := cl_t h0
    rw [d173_29, if_pos (show (28 : Int32) ≤ x by rw [le_t]; show (28 : Int) ≤ _; omega)]
    exact ⟨_, rfl, fun j => by rw [if_neg (by omega)], fun _ _ => rfl⟩
  | N + 1, F + 1, x, J, hx, h0, hF => by
    have nx := cl_t h0
    have nn := cl_t hn.1
    have e := i32_inc (x := x) (by omega)
    have nx1 := cl_t (x := x + 1) (by omega)
    have xn : (x + 1).toNatClampNeg = x.toNatClampNeg + 1 := by omega
    have c28 : (28 : Int32).toInt = 28 := rfl
    have c29 : (29 : Int32).toInt = 29 := rfl
    have e1 : (28 * n).toInt = 28 * n.toInt := by rw [i32_mul (by rw [c28]; omega), c28]
    have e2 := ixa (a := 29) (x := 28 * n) (by decide) (by decide) (by omega) (by omega)
    have e3 := ixa (a := 29 + 28 * n) (x := x) (by omega) (by omega) h0 (by omega)
    have n28 := cl_t (x := 28 * n) (by omega)
    have n29 : (29 : Int32).toNatClampNeg = 29 := rfl
    have ix : Int32.toNatClampNeg ((29 + (28 * n)) + x) = 28 + 28 * b + (1 + x.toNatClampNeg) := by omega
    have iy : Int32.toNatClampNeg (1 + x) = 1 + x.toNatClampNeg := by rw [(ixa (a := 1) (by decide) (by decide) h0 (by omega)).2]; rfl
    rw [d173_29, if_neg (show ¬ (28 : Int32) ≤ x by rw [le_t]; show ¬ (28 : Int) ≤ _; omega), if_neg (show ¬ many ≤ 0 by rw [le_t]; show ¬ _ ≤ (0 : Int); omega), ix, iy]
    obtain ⟨r, r1, r2, r3⟩ := un_ml hn hb hm N F (x + 1) (jup J 32 0 (1 + x.toNatClampNeg) (J 32 0 (28 + 28 * b + (1 + x.toNatClampNeg)))) (by omega) (by omega) (by omega)
    refine ⟨r, r1, fun j => ?_, fun g h => (r3 g h).trans (jup_g h)⟩
    rw [r2, xn, jup_c, jup_c]
    by_cases c : 1 + x.toNatClampNeg ≤ j ∧ j < 29
    · rw [if_pos c]
      by_cases c2 : j = 1 + x.toNatClampNeg
      · rw [if_neg (by omega), if_pos c2, c2]
      · rw [if_pos (by omega), if_neg (by omega)]
    · rw [if_neg c, if_neg (by omega), if_neg (by omega)]
theorem undo_eq {I J : jI} (n : Int32) (hG : gG aGI I) (hJ : jJ I) (q : RD2 I J) : ∃ r r', d86 n I = some r ∧ d173 n J = some r' ∧ RD2 r.2 r'.2 := by
  have c := RD_cur hG q
  have c0 : Int32.toNatClampNeg 0 = 0 := rfl
  have z0 : (0 : Int64).toInt = 0 := rfl
  have c15 : J 32 0 0 = I 4 1 15 := c.1.1.2.2.2
  have hd := gi_deeds hG (x := 1) (by decide)
  obtain ⟨hm, hmi⟩ := mP_6 hG
  unfold d86 d173
  rw [in_i, c0, c15, t64, z0]
  by_cases h0 : n.toInt < 0
  · rw [if_pos (lt0_t.mpr h0), if_neg (show ¬ (0 ≤ n.toInt ∧ n.toInt ≤ (I 4 1 15).toInt) by omega), if_pos rfl]
    exact ⟨_, _, rfl, rfl, q⟩
  rw [if_neg (fun z => h0 (lt0_t.mp z))]
  by_cases h1 : n.toInt < (I 4 1 15).toInt
  · rw [if_pos (lt_t.mpr h1), if_pos (show 0 ≤ n.toInt ∧ n.toInt ≤ (I 4 1 15).toInt by omega), if_neg one0]
    have nn := cl_t (x := n) (by omega)
    obtain ⟨d40, dI⟩ := dN_40 hG (h := 1) (by decide)
    obtain ⟨⟨q1, q2⟩, ⟨q3, q4, q5⟩, q6, q7, q8, ⟨⟨a1, a2⟩, a3, a4, a5, a6, a7, a8⟩, q10⟩ := q
    obtain ⟨T, t1, t2, t3, t4, t5⟩ := undo_l (m := mP I) (n := n) hm ⟨a1, a2⟩ q8.1 (fun i hi => hG (21, (0, 5), (0, 5), (0, 9)) (by decide) 0 i (by simp) (by simp) (by simp) (by simp; omega)) (by omega) (fun d hd => ⟨a4 d (by omega), (a5 d (by omega)).1⟩) n.toNatClampNeg 70 0 (d29 1 0 I) (by show (0 : Int) + _ = _; omega) (by decide) (by omega) (unI_0 hm hJ.1 ⟨a1, a2⟩)
    have em : (I 4 1 15 - n).toInt = (I 4 1 15).toInt - n.toInt := i32_sub (by omega)
    obtain ⟨X, x1, x2, x3⟩ := un_ml (n := n) (many := I 4 1 15 - n) ⟨by omega, by omega⟩ rfl (by omega) 28 70 0 J (by decide) (by decide) (by decide)
    unfold d30
    rw [t1, x1]
    dsimp only [Option.bind_some]
    rw [c0] at x2
    refine ⟨_, _, rfl, rfl, ?_⟩
    show RD2 T (jup X 32 0 0 n)
    have y0 : jup X 32 0 0 n 32 0 0 = n := jup_at
    have yl : ∀ k, k < 28 → jup X 32 0 0 n 32 0 (1 + k) = J 32 0 (29 + 28 * n.toNatClampNeg + k) := fun k hk => by
      rw [jup_c, if_neg (by omega), x2, if_pos (by omega), show 28 + 28 * n.toNatClampNeg + (1 + k) = 29 + 28 * n.toNatClampNeg + k by omega]
    have yh : ∀ j, 29 ≤ j → jup X 32 0 0 n 32 0 j = J 32 0 j := fun j hj => by
      rw [jup_c, if_neg (by omega), x2, if_neg (by omega)]
    have yg : ∀ g, ¬ g = 32 → jup X 32 0 0 n g = J g := fun g hg => (jup_g hg).trans (x3 g hg)
    generalize jup X 32 0 0 n = Y at y0 yl yh yg
    have o : ∀ g x j, ¬ x = 1 → T g x j = I g x j := fun g x j a => t5 g x j (fun z => a z.1)
    have o1 : ∀ j, 6 ≤ j → j ≤ 8 → T 4 1 j = I 4 1 j := fun j a b => t5 4 1 j (fun z => by have := z.2; omega)
    have o18 : ∀ j, T 18 1 j = I 18 1 j := fun j => t5 18 1 j (fun z => by have := z.2; omega)
    have o21 : ∀ j, T 21 1 j = I 21 1 j := fun j => t5 21 1 j (fun z => by have := z.2; omega)
    have eP : mP T = mP I := by unfold mP; rw [o 4 0 6 (by decide)]
    have eD : dN T 1 = n.toNatClampNeg := by
      have := cl_t (x := T 4 1 15) (by omega)
      unfold dN
      omega
    have er : ∀ d, rp (mP I) T 1 d = rp (mP I) I 1 d := fun d => rp_cells hm (fun j _ _ => o 4 0 j (by decide)) (fun i _ => o 18 0 i (by decide)) (fun i _ => o 21 0 i (by decide)) (fun i _ => o 23 0 i (by decide)) (fun i _ => o 19 0 i (by decide)) (fun i _ => o 20 0 i (by decide)) (fun e _ => t4 e)
    refine ⟨⟨fun j a b => ?_, fun j a => ?_⟩, ⟨?_, ?_, ?_⟩, fun i hi => ⟨?_, ?_⟩, fun hz => ?_, ?_, ?_, fun k hk => ⟨fun z => ?_, fun z => ?_⟩⟩
    · rw [o 4 5 j (by decide)]; exact q1 j a b
    · rw [o 23 5 j (by decide)]; exact q2 j a
    · rw [yg 31 (by decide), o 4 0 6 (by decide)]; exact q3
    · rw [yg 31 (by decide), o 4 0 7 (by decide)]; exact q4
    · rw [yg 31 (by decide), o 4 0 8 (by decide)]; exact q5
    · rw [eP] at hi; rw [yg 33 (by decide), o 18 0 i (by decide)]; exact (q6 i hi).1
    · rw [eP] at hi; rw [yg 34 (by decide), o 21 0 i (by decide)]; exact (q6 i hi).2
    · rw [eP] at hz
      obtain ⟨z1, z2⟩ := q7 hz
      refine ⟨by rw [o 4 0 7 (by decide), o 4 0 8 (by decide)]; exact z1, fun i hi => ?_⟩
      rw [eP] at hi
      rw [o 18 0 i (by decide), o 21 0 i (by decide)]
      exact z2 i hi
    · rw [o 4 0 7 (by decide)]; exact q8
    · rw [eP]
      refine ⟨⟨fun j a b => ?_, fun i hi => ⟨?_, ?_⟩⟩, ?_, fun d hd => ?_, fun d hd => ?_, fun d hd => ?_, ?_, ?_⟩
      · rw [o1 j a b, o 4 0 j (by decide)]; exact a1 j a b
      · rw [o18, o 18 0 i (by decide)]; exact (a2 i hi).1
      · rw [o21, o 21 0 i (by decide)]; exact (a2 i hi).2
      · rw [y0]; exact eq_t.mpr (by omega)
      · rw [eD] at hd; rw [t4]; exact a4 d (by omega)
      · rw [eD] at hd; rw [er]; exact a5 d (by omega)
      · rw [eD] at hd
        rw [er, ← a6 d (by omega)]
        exact vM_ext (fun k hk => yh _ (by omega))
      · rw [eD, er, ← a6 _ (by omega)]
        exact vM_ext (fun k hk => by rw [show 0 + 1 + k = 1 + k by omega, yl k hk, show 0 + 29 + 28 * n.toNatClampNeg + k = 29 + 28 * n.toNatClampNeg + k by omega])
      · rw [eD, er]; exact t3
    · rw [o 6 0 k (by decide)] at z
      rw [yh _ (by omega)]
      exact (q10 k hk).1 z
    · rw [o 6 0 k (by decide)] at z
      rw [eP]
      exact hst_cells hm (dN_40 hG (by omega)).1 ((q10 k hk).2 z) (fun j _ _ => o 4 0 j (by decide)) (fun i _ => o 18 0 i (by decide)) (fun i _ => o 21 0 i (by decide)) (fun i _ => o 23 0 i (by decide)) (fun i _ => o 19 0 i (by decide)) (fun i _ => o 20 0 i (by decide)) (fun j _ _ => o 4 _ j (by omega)) (fun i _ => o 18 _ i (by omega)) (fun i _ => o 21 _ i (by omega)) (fun i _ => o 23 _ i (by omega)) (fun i _ => o 19 _ i (by omega)) (fun i _ => o 20 _ i (by omega)) (fun i _ => o 22 _ i (by omega)) (fun j h => yh _ (by omega))
  · rw [if_neg (fun z => h1 (lt_t.mp z))]
    by_cases h2 : n.toInt = (I 4 1 15).toInt
    · rw [if_pos (show 0 ≤ n.toInt ∧ n.toInt ≤ (I 4 1 15).toInt by omega), if_neg one0]
      have en : n = I 4 1 15 := eq_t.mpr h2
      have zz : (0 : Int32).toInt = 0 := rfl
      have em : (I 4 1 15 - n).toInt = 0 := by rw [i32_sub (by omega)]; omega
      rw [d173_29, if_neg (show ¬ (28 : Int32) ≤ 0 by decide), if_pos (show I 4 1 15 - n ≤ 0 by rw [le_t, zz]; omega)]
      dsimp only [Option.bind_some]
      refine ⟨_, _, rfl, rfl, ?_⟩
      show RD2 I (jup J 32 0 0 n)
      have : jup J 32 0 0 n = J := by
        funext g i j
        unfold jup
        by_cases w : g = 32 ∧ i = 0 ∧ j = 0
        · obtain ⟨rfl, rfl, rfl⟩ := w
          rw [if_pos ⟨rfl, rfl, rfl⟩, c15, en]
        · rw [if_neg w]
      rw [this]
      exact q
    · rw [if_neg (show ¬ (0 ≤ n.toInt ∧ n.toInt ≤ (I 4 1 15).toInt) by omega), if_pos rfl]
      exact ⟨_, _, rfl, rfl, q⟩
