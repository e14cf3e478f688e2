section
/-! row, lay, at, tear, copy, mean -/
noncomputable def rfO (I r J r' : jI) : Prop := RFi I J → RFi r r'
theorem gi_rsz {I : jI} (h : gG aGI I) {t : Nat} (ht : t ≤ 5) : -1 ≤ (I 14 0 t).toInt ∧ (I 14 0 t).toInt ≤ 40 := h (14, (0, 0), (0, 5), (-1, 40)) (by decide) 0 t (by simp) (by simp) (by simp) (by simp; omega)
theorem row_eq {I J : jI} (r n : Int32) (h : RR I J) : ∃ s s', d68 r n I = some s ∧ d130 r n J = some s' ∧ s.1 = s'.1 ∧ RR s.2 s'.2 ∧ rfO I s.2 J s'.2 := by
  have z40 : (40 : Int32).toInt = 40 := rfl
  unfold d68 d130
  rw [names_r, isRow_t]
  by_cases h1 : 0 ≤ r.toInt ∧ r.toInt ≤ 5
  · rw [if_pos h1, if_neg one0, if_neg one0]
    by_cases h2 : n ≤ 40
    · rw [if_pos h2, if_pos h2]
      by_cases h3 : 0 ≤ n
      · rw [if_pos h3, if_pos h3]
        obtain ⟨A, a1, a2, a3, a4⟩ := make_c (r := r) (n := n) (I := I)
        obtain ⟨B, b1, b2, b3, b4⟩ := make_m (r := r) (n := n) (J := J) h1.1 h1.2
        rw [a1, b1]
        refine ⟨_, _, rfl, rfl, rfl, RR_make h1.1 h1.2 h a2 a3 b2 b3, fun q => ⟨?_, fun f hf => ?_⟩⟩
        · show B 31 0 13 = A 0 0 13
          rw [b4 31 (by decide) (by decide), a4 0 (by decide) (by decide)]; exact q.1
        · show B 39 0 f = A 12 0 f
          rw [b4 39 (by decide) (by decide), a4 12 (by decide) (by decide)]; exact q.2 f hf
      · rw [if_neg h3, if_neg h3]
        exact ⟨_, _, rfl, rfl, rfl, RR_find h, fun q => RFi_find q⟩
    · rw [if_neg h2, if_neg h2]
      exact ⟨_, _, rfl, rfl, rfl, h, fun q => q⟩
  · rw [if_neg h1, if_pos rfl, if_pos rfl]
    exact ⟨_, _, rfl, rfl, rfl, h, fun q => q⟩
/-- where a place of a row is refused -/
theorem ref_m {I J : jI} (r i : Int32) (hG : gG aGI I) (h : RR I J) (h1 : 0 ≤ r.toInt ∧ r.toInt ≤ 5) : (d22g1 r i I = 0 ∧ d132 r i J = some (0, J) ∧ 0 ≤ i.toInt ∧ i.toInt < (I 14 0 r.toNatClampNeg).toInt) ∨ (¬ d22g1 r i I = 0 ∧ d132 r i J = some ((d126 (d22g1 r i I) J).1, (d126 (d22g1 r i I) J).2) ∧ ¬ (d126 (d22g1 r i I) J).1 = 0) := by
  have nr := cl_t h1.1
  have hs := gi_rsz hG (t := r.toNatClampNeg) (by omega)
  have er : J 35 0 r.toNatClampNeg = I 14 0 r.toNatClampNeg := h.1 _ (by omega)
  have c1 : (1 : Int32).toInt = 1 := rfl
  have z0 : (0 : Int64).toInt = 0 := rfl
  have es : (I 14 0 r.toNatClampNeg - 1).toInt = (I 14 0 r.toNatClampNeg).toInt - 1 := by rw [i32_sub (by omega), c1]
  unfold d132 d22g1 d16g1
  rw [isRow_t, if_pos h1, if_neg one0, er]
  have cm : (-1 : Int32).toInt = -1 := rfl
  by_cases h2 : I 14 0 r.toNatClampNeg = -1
  · have h2' : (I 14 0 r.toNatClampNeg).toInt = -1 := by rw [h2]; rfl
    rw [if_pos h2, if_pos rfl, if_neg (show ¬ 0 ≤ I 14 0 r.toNatClampNeg by rw [le0_t]; omega)]
    exact Or.inr ⟨one0, rfl, by show ¬ (-3 : Int32) = 0; decide⟩
  · have h2' : ¬ (I 14 0 r.toNatClampNeg).toInt = -1 := fun z => h2 (eq_t.mpr (by rw [z, cm]))
    rw [if_neg h2, if_neg one0, if_pos (show 0 ≤ I 14 0 r.toNatClampNeg by rw [le0_t]; omega), in_i, t64, es, z0]
    by_cases h3 : 0 ≤ i.toInt ∧ i.toInt ≤ (I 14 0 r.toNatClampNeg).toInt - 1
    · rw [if_pos h3, if_neg one0, if_neg (show ¬ i < 0 by rw [lt0_t]; omega), if_pos (show i < I 14 0 r.toNatClampNeg by rw [lt_t]; omega)]
      exact Or.inl ⟨rfl, rfl, h3.1, by omega⟩
    · rw [if_neg h3, if_pos rfl]
      have e2 : (if i < 0 then (2 : Int32) else if i < I 14 0 r.toNatClampNeg then 0 else 2) = 2 := by
        by_cases a : i < 0
        · rw [if_pos a]
        · rw [if_neg a, if_neg (show ¬ i < I 14 0 r.toNatClampNeg from fun z => by rw [lt_t] at z; rw [lt0_t] at a; exact h3 ⟨by omega, by omega⟩)]
      rw [e2]
      exact Or.inr ⟨by decide, rfl, by show ¬ (-3 : Int32) = 0; decide⟩
theorem RR_g {I J I' J' : jI} (h : RR I J) (a : I' 14 = I 14) (b : I' 29 = I 29) (c : J' 35 = J 35) (d : J' 36 = J 36) : RR I' J' := ⟨fun r hr => by rw [a, c]; exact h.1 r hr, fun r j hr hj => by rw [b, d]; exact h.2 r j hr hj⟩
theorem lay_eq {I J : jI} (r i v : Int32) (hG : gG aGI I) (h : RR I J) : ∃ s s', d69 r i v I = some s ∧ d133 r i v J = some s' ∧ s.1 = s'.1 ∧ RR s.2 s'.2 ∧ rfO I s.2 J s'.2 := by
  unfold d69 d133
  rw [names_r]
  by_cases h1 : 0 ≤ r.toInt ∧ r.toInt ≤ 5
  · rw [if_pos h1, if_neg one0]
    have nr := cl_t h1.1
    have hs := gi_rsz hG (t := r.toNatClampNeg) (by omega)
    rcases ref_m r i hG h h1 with ⟨a, b, c, d⟩ | ⟨a, b, c⟩
    · rw [if_pos a, b]
      dsimp only [Option.bind_some]
      rw [if_pos rfl, (ix40 h1.1 h1.2 c (by omega)).1]
      refine ⟨_, _, rfl, rfl, rfl, ?_, fun q => ⟨?_, fun f hf => ?_⟩⟩
      · have := RR_up (v := v) h1.1 h1.2 c (by omega) h
        exact RR_g this rfl rfl rfl rfl
      · exact q.1
      · exact q.2 f hf
    · rw [if_neg a, b]
      dsimp only [Option.bind_some]
      rw [if_neg c]
      exact ⟨_, _, rfl, rfl, rfl, RR_find h, fun q => RFi_find q⟩
  · rw [if_neg h1, if_pos rfl]
    unfold d132
    rw [isRow_t, if_neg h1, if_pos rfl]
    exact ⟨_, _, rfl, rfl, rfl, h, fun q => q⟩
theorem at_eq {I J : jI} (r i : Int32) (hG : gG aGI I) (h : RR I J) : ∃ s s', d70 r i I = some s ∧ d134 r i J = some s' ∧ s.1 = s'.1 ∧ RR s.2 s'.2 ∧ rfO I s.2 J s'.2 := by
  unfold d70 d134
  rw [names_r]
  by_cases h1 : 0 ≤ r.toInt ∧ r.toInt ≤ 5
  · rw [if_pos h1, if_neg one0]
    rcases ref_m r i hG h h1 with ⟨a, b, c, d⟩ | ⟨a, b, c⟩
    · rw [if_pos a, b]
      dsimp only [Option.bind_some]
      rw [if_pos rfl]
      exact ⟨_, _, rfl, rfl, rfl, RR_g h rfl rfl rfl rfl, fun q => ⟨q.1, fun f hf => q.2 f hf⟩⟩
    · rw [if_neg a, b]
      dsimp only [Option.bind_some]
      rw [if_neg c]
      exact ⟨_, _, rfl, rfl, rfl, RR_find h, fun q => RFi_find q⟩
  · rw [if_neg h1, if_pos rfl]
    unfold d132
    rw [isRow_t, if_neg h1, if_pos rfl]
    exact ⟨_, _, rfl, rfl, rfl, h, fun q => q⟩
theorem there_m {I J : jI} {r : Int32} (hG : gG aGI I) (h : RR I J) (h1 : 0 ≤ r.toInt ∧ r.toInt ≤ 5) : J 35 0 r.toNatClampNeg = I 14 0 r.toNatClampNeg ∧ ((d16g1 r I = 0 ∧ (I 14 0 r.toNatClampNeg).toInt = -1) ∨ (d16g1 r I = 1 ∧ 0 ≤ (I 14 0 r.toNatClampNeg).toInt)) ∧ (I 14 0 r.toNatClampNeg).toInt ≤ 40 := by
  have nr := cl_t h1.1
  have hs := gi_rsz hG (t := r.toNatClampNeg) (by omega)
  have cm : (-1 : Int32).toInt = -1 := rfl
  refine ⟨h.1 _ (by omega), ?_, hs.2⟩
  unfold d16g1
  by_cases h2 : I 14 0 r.toNatClampNeg = -1
  · rw [if_pos h2]
    exact Or.inl ⟨rfl, by rw [h2]; rfl⟩
  · have h2' : ¬ (I 14 0 r.toNatClampNeg).toInt = -1 := fun z => h2 (eq_t.mpr (by rw [z, cm]))
    rw [if_neg h2]
    exact Or.inr ⟨rfl, by omega⟩
theorem tear_eq {I J : jI} (r : Int32) (hG : gG aGI I) (h : RR I J) : ∃ s s', d71 r I = some s ∧ d135 r J = some s' ∧ s.1 = s'.1 ∧ RR s.2 s'.2 ∧ rfO I s.2 J s'.2 := by
  unfold d71 d135
  rw [names_r, isRow_t]
  by_cases h1 : 0 ≤ r.toInt ∧ r.toInt ≤ 5
  · rw [if_pos h1, if_neg one0, if_neg one0]
    obtain ⟨e, t, -⟩ := there_m hG h h1
    rw [e]
    rcases t with ⟨a, b⟩ | ⟨a, b⟩
    · rw [if_pos a, if_neg (show ¬ 0 ≤ I 14 0 r.toNatClampNeg by rw [le0_t]; omega)]
      exact ⟨_, _, rfl, rfl, rfl, RR_find h, fun q => RFi_find q⟩
    · rw [if_neg (by rw [a]; exact one0), if_pos (show 0 ≤ I 14 0 r.toNatClampNeg by rw [le0_t]; omega)]
      refine ⟨_, _, rfl, rfl, rfl, ⟨fun x hx => ?_, fun x j hx hj => ?_⟩, fun q => ⟨q.1, fun f hf => q.2 f hf⟩⟩
      · show jup J 35 0 r.toNatClampNeg (-1) 35 0 x = jup I 14 0 r.toNatClampNeg (-1) 14 0 x
        rw [jup_c, jup_c, h.1 x hx]
      · exact h.2 x j hx hj
  · rw [if_neg h1, if_pos rfl, if_pos rfl]
    exact ⟨_, _, rfl, rfl, rfl, h, fun q => q⟩
theorem sum_l {I J : jI} {r : Int32} (h : RR I J) (h1 : 0 ≤ r.toInt ∧ r.toInt ≤ 5) (hs : (I 14 0 r.toNatClampNeg).toInt ≤ 40) : ∀ (N F F' : Nat) (a : Int64) (x : Int32), x.toInt + (N : Int) = (I 14 0 r.toNatClampNeg).toInt → 0 ≤ x.toInt → N < F → N < F' → ∃ s, d25g1_5 r I F a x = some s ∧ d138_44 r J F' a x = some s
  | _, 0, _, _, _, _, _, h, _ => absurd h (by omega)
  | _, _, 0, _, _, _, _, _, h => absurd h (by omega)
  | 0, F + 1, F' + 1, a, x, hx, x0, _, _ => by
    have nr := cl_t h1.1
    rw [d25g1_5, d138_44, h.1 _ (by omega), if_pos (by rw [le_t]; omega), if_pos (by rw [le_t]; omega)]
    exact ⟨_, rfl, rfl⟩
  | N + 1, F + 1, F' + 1, a, x, hx, x0, hF, hF' => by
    have nr := cl_t h1.1
    have nx := cl_t x0
    have e := i32_inc (x := x) (by omega)
    rw [d25g1_5, d138_44, h.1 _ (by omega), if_neg (by rw [le_t]; omega), if_neg (by rw [le_t]; omega), (ix40 h1.1 h1.2 x0 (by omega)).1, h.2 _ _ (by omega) (by omega)]
    exact sum_l h h1 hs N F F' _ (x + 1) (by omega) (by omega) (by omega) (by omega)
theorem mean_eq {I J : jI} (r : Int32) (hG : gG aGI I) (h : RR I J) : ∃ s s', d73 r I = some s ∧ d138 r J = some s' ∧ s.1 = s'.1 ∧ RR s.2 s'.2 ∧ rfO I s.2 J s'.2 := by
  unfold d73 d138
  rw [names_r, isRow_t]
  by_cases h1 : 0 ≤ r.toInt ∧ r.toInt ≤ 5
  · rw [if_pos h1, if_neg one0, if_neg one0]
    obtain ⟨e, t, hs⟩ := there_m hG h h1
    rw [e]
    rcases t with ⟨a, b⟩ | ⟨a, b⟩
    · rw [if_pos a, if_neg (show ¬ 0 ≤ I 14 0 r.toNatClampNeg by rw [le0_t]; omega)]
      exact ⟨_, _, rfl, rfl, rfl, RR_find h, fun q => RFi_find q⟩
    · rw [if_neg (by rw [a]; exact one0), if_pos (show 0 ≤ I 14 0 r.toNatClampNeg by rw [le0_t]; omega)]
      unfold d17g1
      by_cases z : I 14 0 r.toNatClampNeg = 0
      · rw [if_pos z, if_pos z]
        exact ⟨_, _, rfl, rfl, rfl, RR_find h, fun q => RFi_find q⟩
      · rw [if_neg z, if_neg z]
        obtain ⟨s, s1, s2⟩ := sum_l h h1 hs (I 14 0 r.toNatClampNeg).toNatClampNeg 70 70 0 0 (by show (0 : Int) + _ = _; have := cl_t b; omega) (by decide) (by have := cl_t b; omega) (by have := cl_t b; omega)
        unfold d25g1
        rw [s1, s2]
        exact ⟨_, _, rfl, rfl, rfl, RR_g h rfl rfl rfl rfl, fun q => ⟨q.1, fun f hf => q.2 f hf⟩⟩
  · rw [if_neg h1, if_pos rfl, if_pos rfl]
    exact ⟨_, _, rfl, rfl, rfl, h, fun q => q⟩
theorem span_m {I J : jI} {r i n : Int32} (h1 : 0 ≤ r.toInt ∧ r.toInt ≤ 5) (e : J 35 0 r.toNatClampNeg = I 14 0 r.toNatClampNeg) (b : 0 ≤ (I 14 0 r.toNatClampNeg).toInt) (hs : (I 14 0 r.toNatClampNeg).toInt ≤ 40) (hn : 0 ≤ n.toInt) : d136 r i n J = d23g1 r i n I ∧ ((d23g1 r i n I = 1 ∧ 0 ≤ i.toInt ∧ i.toInt + n.toInt ≤ (I 14 0 r.toNatClampNeg).toInt) ∨ d23g1 r i n I = 0) := by
  have ri := i32_rng i
  have rn := i32_rng n
  unfold d136 d23g1
  rw [e]
  by_cases a : i < 0
  · rw [if_pos a, if_pos a]
    exact ⟨rfl, Or.inr rfl⟩
  · rw [if_neg a, if_neg a]
    rw [lt0_t] at a
    have es : (Int32.toInt64 i + Int32.toInt64 n).toInt = i.toInt + n.toInt := by rw [i64_add (by rw [t64, t64]; omega), t64, t64]
    by_cases c : I 14 0 r.toNatClampNeg < i
    · rw [if_pos c]
      rw [lt_t] at c
      rw [if_pos (cmp_gt.mpr (by rw [es, t64]; omega))]
      exact ⟨rfl, Or.inr rfl⟩
    · rw [if_neg c]
      rw [lt_t] at c
      have ed : (I 14 0 r.toNatClampNeg - i).toInt = (I 14 0 r.toNatClampNeg).toInt - i.toInt := i32_sub (by omega)
      by_cases d : I 14 0 r.toNatClampNeg - i < n
      · rw [if_pos d]
        rw [lt_t, ed] at d
        rw [if_pos (cmp_gt.mpr (by rw [es, t64]; omega))]
        exact ⟨rfl, Or.inr rfl⟩
      · rw [if_neg d]
        rw [lt_t, ed] at d
        rw [if_neg (fun z => by have := cmp_gt.mp z; rw [es, t64] at this; omega)]
        exact ⟨rfl, Or.inl ⟨rfl, by omega, by omega⟩⟩
end
section
/-! copy -/
theorem cpf_l {r i t j n : Int32} {n' : Nat} (hr : 0 ≤ r.toInt ∧ r.toInt ≤ 5) (ht : 0 ≤ t.toInt ∧ t.toInt ≤ 5) (hi : 0 ≤ i.toInt) (hj : 0 ≤ j.toInt) (hn : n.toInt = (n' : Int)) (hin : i.toInt + n.toInt ≤ 40) (hjn : j.toInt + n.toInt ≤ 40) (hij : j.toInt ≤ i.toInt) : ∀ (N F : Nat) (x : Int32) (S : jI), x.toInt + (N : Int) = n.toInt → 0 ≤ x.toInt → N < F → ∃ T, d137_96 r i t j n 0 F x S = some T ∧ (∀ a, T 36 0 a = if 40 * t.toNatClampNeg + j.toNatClampNeg + x.toNatClampNeg ≤ a ∧ a < 40 * t.toNatClampNeg + j.toNatClampNeg + n' then S 36 0 (40 * r.toNatClampNeg + i.toNatClampNeg + (a - (40 * t.toNatClampNeg + j.toNatClampNeg))) else S 36 0 a) ∧ ∀ g, ¬ g = 36 → T g = S g
  | _, 0, _, _, _, _, h => absurd h (by omega)
  | 0, F + 1, x, S, hx, x0, _ => by
    have nx := cl_t x0
    rw [d137_96, if_pos (show n ≤ x by rw [le_t]; omega)]
    exact ⟨S, rfl, fun a => by rw [if_neg (by omega)], fun _ _ => rfl⟩
  | N + 1, F + 1, x, S, hx, x0, hF => by
    have nx := cl_t x0
    have nr := cl_t hr.1
    have nt := cl_t ht.1
    have ni := cl_t hi
    have nj := cl_t hj
    have e := i32_inc (x := x) (by omega)
    have xn : (x + 1).toNatClampNeg = x.toNatClampNeg + 1 := by
      have := cl_t (x := x + 1) (by omega)
      omega
    have e1 := ix40 hr.1 hr.2 hi (by omega)
    have e2 := ix40 ht.1 ht.2 hj (by omega)
    have ix : Int32.toNatClampNeg (((40 * t) + j) + x) = 40 * t.toNatClampNeg + j.toNatClampNeg + x.toNatClampNeg := by rw [(ixa (a := 40 * t + j) (by omega) (by omega) x0 (by omega)).2, e2.1]
    have iy : Int32.toNatClampNeg (((40 * r) + i) + x) = 40 * r.toNatClampNeg + i.toNatClampNeg + x.toNatClampNeg := by rw [(ixa (a := 40 * r + i) (by omega) (by omega) x0 (by omega)).2, e1.1]
    rw [d137_96, if_neg (show ¬ n ≤ x by rw [le_t]; omega), if_pos rfl, ix, iy]
    obtain ⟨T, t1, t2, t3⟩ := cpf_l hr ht hi hj hn hin hjn hij N F (x + 1) (jup S 36 0 (40 * t.toNatClampNeg + j.toNatClampNeg + x.toNatClampNeg) (S 36 0 (40 * r.toNatClampNeg + i.toNatClampNeg + x.toNatClampNeg))) (by omega) (by omega) (by omega)
    refine ⟨T, t1, fun a => ?_, fun g hg => (t3 g hg).trans (jup_g hg)⟩
    rw [t2, xn, jup_c, jup_c]
    by_cases c : 40 * t.toNatClampNeg + j.toNatClampNeg + x.toNatClampNeg ≤ a ∧ a < 40 * t.toNatClampNeg + j.toNatClampNeg + n'
    · rw [if_pos c]
      by_cases c2 : a = 40 * t.toNatClampNeg + j.toNatClampNeg + x.toNatClampNeg
      · rw [if_neg (by omega), if_pos c2, show 40 * r.toNatClampNeg + i.toNatClampNeg + (a - (40 * t.toNatClampNeg + j.toNatClampNeg)) = 40 * r.toNatClampNeg + i.toNatClampNeg + x.toNatClampNeg by omega]
      · rw [if_pos (by omega), if_neg (by omega)]
    · rw [if_neg c, if_neg (by omega), if_neg (by omega)]
theorem cpb_l {r i t j n : Int32} {n' : Nat} (hr : 0 ≤ r.toInt ∧ r.toInt ≤ 5) (ht : 0 ≤ t.toInt ∧ t.toInt ≤ 5) (hi : 0 ≤ i.toInt) (hj : 0 ≤ j.toInt) (hn : n.toInt = (n' : Int)) (hin : i.toInt + n.toInt ≤ 40) (hjn : j.toInt + n.toInt ≤ 40) (hij : i.toInt < j.toInt) : ∀ (N F : Nat) (x : Int32) (S : jI), x.toInt + (N : Int) = n.toInt → 0 ≤ x.toInt → N < F → ∃ T, d137_96 r i t j n 1 F x S = some T ∧ (∀ a, T 36 0 a = if 40 * t.toNatClampNeg + j.toNatClampNeg ≤ a ∧ a < 40 * t.toNatClampNeg + j.toNatClampNeg + N then S 36 0 (40 * r.toNatClampNeg + i.toNatClampNeg + (a - (40 * t.toNatClampNeg + j.toNatClampNeg))) else S 36 0 a) ∧ ∀ g, ¬ g = 36 → T g = S g
  | _, 0, _, _, _, _, h => absurd h (by omega)
  | 0, F + 1, x, S, hx, x0, _ => by
    have nx := cl_t x0
    rw [d137_96, if_pos (show n ≤ x by rw [le_t]; omega)]
    exact ⟨S, rfl, fun a => by rw [if_neg (by omega)], fun _ _ => rfl⟩
  | N + 1, F + 1, x, S, hx, x0, hF => by
    have nx := cl_t x0
    have nr := cl_t hr.1
    have nt := cl_t ht.1
    have ni := cl_t hi
    have nj := cl_t hj
    have e := i32_inc (x := x) (by omega)
    have c1 : (1 : Int32).toInt = 1 := rfl
    have f1 : (n - 1).toInt = n.toInt - 1 := by rw [i32_sub (by omega), c1]
    have f2 : ((n - 1) - x).toInt = (N : Int) := by rw [i32_sub (by omega), f1]; omega
    have nf : ((n - 1) - x).toNatClampNeg = N := by have := cl_t (x := (n - 1) - x) (by omega); omega
    have e1 := ix40 hr.1 hr.2 hi (by omega)
    have e2 := ix40 ht.1 ht.2 hj (by omega)
    have ix : Int32.toNatClampNeg (((40 * t) + j) + ((n - 1) - x)) = 40 * t.toNatClampNeg + j.toNatClampNeg + N := by rw [(ixa (a := 40 * t + j) (by omega) (by omega) (by omega) (by omega)).2, e2.1, nf]
    have iy : Int32.toNatClampNeg (((40 * r) + i) + ((n - 1) - x)) = 40 * r.toNatClampNeg + i.toNatClampNeg + N := by rw [(ixa (a := 40 * r + i) (by omega) (by omega) (by omega) (by omega)).2, e1.1, nf]
    rw [d137_96, if_neg (show ¬ n ≤ x by rw [le_t]; omega), if_neg one0, ix, iy]
    obtain ⟨T, t1, t2, t3⟩ := cpb_l hr ht hi hj hn hin hjn hij N F (x + 1) (jup S 36 0 (40 * t.toNatClampNeg + j.toNatClampNeg + N) (S 36 0 (40 * r.toNatClampNeg + i.toNatClampNeg + N))) (by omega) (by omega) (by omega)
    refine ⟨T, t1, fun a => ?_, fun g hg => (t3 g hg).trans (jup_g hg)⟩
    rw [t2, jup_c, jup_c]
    by_cases c : 40 * t.toNatClampNeg + j.toNatClampNeg ≤ a ∧ a < 40 * t.toNatClampNeg + j.toNatClampNeg + (N + 1)
    · rw [if_pos c]
      by_cases c2 : a = 40 * t.toNatClampNeg + j.toNatClampNeg + N
      · rw [if_neg (by omega), if_pos c2, show 40 * r.toNatClampNeg + i.toNatClampNeg + (a - (40 * t.toNatClampNeg + j.toNatClampNeg)) = 40 * r.toNatClampNeg + i.toNatClampNeg + N by omega]
      · rw [if_pos (by omega), if_neg (by omega)]
    · rw [if_neg c, if_neg (by omega), if_neg (by omega)]
theorem RR_copy {I J T : jI} {r i t j n : Nat} (hr : r < 6) (ht : t < 6) (hin : i + n ≤ 40) (hjn : j + n ≤ 40) (h : RR I J) (hT : ∀ a, T 36 0 a = if 40 * t + j ≤ a ∧ a < 40 * t + j + n then J 36 0 (40 * r + i + (a - (40 * t + j))) else J 36 0 a) (hg : ∀ g, ¬ g = 36 → T g = J g) : RR (jcpy I 29 r 29 t i j n) T := by
  refine ⟨fun x hx => ?_, fun x k hx hk => ?_⟩
  · rw [hg 35 (by decide)]
    have : jcpy I 29 r 29 t i j n 14 0 x = I 14 0 x := by unfold jcpy; rw [if_neg (fun z => absurd z.1 (by decide))]
    rw [this]
    exact h.1 x hx
  · rw [hT]
    unfold jcpy
    by_cases c : x = t ∧ j ≤ k ∧ k < j + n
    · rw [if_pos (by omega), if_pos ⟨rfl, c⟩, show 40 * r + i + (40 * x + k - (40 * t + j)) = 40 * r + (i + (k - j)) by omega]
      exact h.2 r _ hr (by omega)
    · rw [if_neg (by omega), if_neg (fun z => c z.2)]
      exact h.2 x k hx hk
theorem copy_eq {I J : jI} (r i t j n : Int32) (hG : gG aGI I) (h : RR I J) : ∃ s s', d72 r i t j n I = some s ∧ d137 r i t j n J = some s' ∧ s.1 = s'.1 ∧ RR s.2 s'.2 ∧ rfO I s.2 J s'.2 := by
  unfold d72 d137
  rw [names_r, names_r, isRow_t, isRow_t]
  by_cases h1 : 0 ≤ r.toInt ∧ r.toInt ≤ 5
  · rw [if_pos h1, if_neg one0, if_neg one0]
    by_cases h2 : 0 ≤ t.toInt ∧ t.toInt ≤ 5
    · rw [if_pos h2, if_neg one0, if_neg one0]
      by_cases h3 : 0 ≤ n
      · rw [if_pos h3, if_pos h3]
        rw [le0_t] at h3
        obtain ⟨e, w, hs⟩ := there_m hG h h1
        obtain ⟨e', w', hs'⟩ := there_m hG h h2
        rw [e, e']
        rcases w with ⟨a, b⟩ | ⟨a, b⟩
        · rw [if_pos a, if_pos (show I 14 0 r.toNatClampNeg < 0 by rw [lt0_t]; omega)]
          exact ⟨_, _, rfl, rfl, rfl, RR_find h, fun q => RFi_find q⟩
        · rw [if_neg (show ¬ d16g1 r I = 0 by rw [a]; exact one0), if_neg (show ¬ I 14 0 r.toNatClampNeg < 0 by rw [lt0_t]; omega)]
          rcases w' with ⟨a', b'⟩ | ⟨a', b'⟩
          · rw [if_pos a', if_neg (show ¬ 0 ≤ I 14 0 t.toNatClampNeg by rw [le0_t]; omega)]
            exact ⟨_, _, rfl, rfl, rfl, RR_find h, fun q => RFi_find q⟩
          · rw [if_neg (show ¬ d16g1 t I = 0 by rw [a']; exact one0), if_pos (show 0 ≤ I 14 0 t.toNatClampNeg by rw [le0_t]; omega)]
            obtain ⟨s1, s2⟩ := span_m (i := i) (n := n) h1 e b hs h3
            obtain ⟨s3, s4⟩ := span_m (i := j) (n := n) h2 e' b' hs' h3
            rw [s1, s3]
            rcases s2 with ⟨s2, p1, p2⟩ | s2
            · rw [if_neg (show ¬ d23g1 r i n I = 0 by rw [s2]; exact one0), if_neg (show ¬ d23g1 r i n I = 0 by rw [s2]; exact one0)]
              rcases s4 with ⟨s4, p3, p4⟩ | s4
              · rw [if_neg (show ¬ d23g1 t j n I = 0 by rw [s4]; exact one0), if_neg (show ¬ d23g1 t j n I = 0 by rw [s4]; exact one0)]
                have nr := cl_t h1.1
                have nt := cl_t h2.1
                have ni := cl_t p1
                have nj := cl_t p3
                have nn := cl_t h3
                have c0 : Int32.toNatClampNeg 0 = 0 := rfl
                have fin : ∀ T : jI, (∀ a, T 36 0 a = if 40 * t.toNatClampNeg + j.toNatClampNeg ≤ a ∧ a < 40 * t.toNatClampNeg + j.toNatClampNeg + n.toNatClampNeg then J 36 0 (40 * r.toNatClampNeg + i.toNatClampNeg + (a - (40 * t.toNatClampNeg + j.toNatClampNeg))) else J 36 0 a) → (∀ g, ¬ g = 36 → T g = J g) → RR (d24g1 r i t j n I) T ∧ rfO I (d24g1 r i t j n I) J T := by
                  intro T t2 t3
                  refine ⟨RR_copy (by omega) (by omega) (by omega) (by omega) h t2 t3, fun q => ⟨?_, fun f hf => ?_⟩⟩
                  · rw [t3 31 (by decide)]; exact q.1
                  · rw [t3 39 (by decide)]; exact q.2 f hf
                by_cases l : j ≤ i
                · rw [if_pos l]
                  rw [le_t] at l
                  obtain ⟨T, t1, t2, t3⟩ := cpf_l (n' := n.toNatClampNeg) h1 h2 p1 p3 nn.symm (by omega) (by omega) l n.toNatClampNeg 70 0 J (by show (0 : Int) + _ = _; omega) (by decide) (by omega)
                  rw [c0, Nat.add_zero] at t2
                  rw [t1]
                  exact ⟨_, _, rfl, rfl, rfl, fin T t2 t3⟩
                · rw [if_neg l]
                  rw [le_t] at l
                  obtain ⟨T, t1, t2, t3⟩ := cpb_l (n' := n.toNatClampNeg) h1 h2 p1 p3 nn.symm (by omega) (by omega) (by omega) n.toNatClampNeg 70 0 J (by show (0 : Int) + _ = _; omega) (by decide) (by omega)
                  rw [t1]
                  exact ⟨_, _, rfl, rfl, rfl, fin T t2 t3⟩
              · rw [if_pos s4, if_pos s4]
                exact ⟨_, _, rfl, rfl, rfl, RR_find h, fun q => RFi_find q⟩
            · rw [if_pos s2, if_pos s2]
              exact ⟨_, _, rfl, rfl, rfl, RR_find h, fun q => RFi_find q⟩
      · rw [if_neg h3, if_neg h3]
        exact ⟨_, _, rfl, rfl, rfl, RR_find h, fun q => RFi_find q⟩
    · rw [if_neg h2, if_pos rfl, if_pos rfl]
      exact ⟨_, _, rfl, rfl, rfl, h, fun q => q⟩
  · rw [if_neg h1, if_pos rfl, if_pos rfl]
    exact ⟨_, _, rfl, rfl, rfl, h, fun q => q⟩
end
section
/-! the calls of ROWS, as the law makes them -/
noncomputable def rrC : List aR := [(14, (0, 0), (0, 5)), (29, (0, 5), (0, 39))]
noncomputable def rrM : List aR := [(35, (0, 0), (0, 5)), (36, (0, 0), (0, 239))]
theorem RR_cells {I I' J J' : jI} (q : RR I J) (e : ∀ g i j, gI rrC g i j → I' g i j = I g i j) (f : ∀ g i j, gI rrM g i j → J' g i j = J g i j) : RR I' J' := by
  refine ⟨fun r hr => ?_, fun r j hr hj => ?_⟩
  · rw [f 35 0 r ⟨(35, (0, 0), (0, 5)), by decide, rfl, by simp, by simp, by simp, by simp; omega⟩, e 14 0 r ⟨(14, (0, 0), (0, 5)), by decide, rfl, by simp, by simp, by simp, by simp; omega⟩]
    exact q.1 r hr
  · rw [f 36 0 (40 * r + j) ⟨(36, (0, 0), (0, 239)), by decide, rfl, by simp, by simp, by simp; omega, by simp; omega⟩, e 29 r j ⟨(29, (0, 5), (0, 39)), by decide, rfl, by simp, by simp; omega, by simp, by simp; omega⟩]
    exact q.2 r j hr hj
theorem RR_gR {W : List aR} {I I' : jI} {L L' : jL} (hw : rApart W rrC = true) (hw' : rApart W rrM = true) (q : RR I I) (h : gR W I L I' L') : RR I' I' := RR_cells q (fun g i j z => (h g i j (rApart_of hw z)).1) (fun g i j z => (h g i j (rApart_of hw' z)).1)
theorem RR_mid {W : List aR} {I I' : jI} {L L' : jL} (hw : rApart W rrM = true) (q : RR I I) (h : gR W I L I' L') : RR I I' := RR_cells q (fun _ _ _ _ => rfl) (fun g i j z => (h g i j (rApart_of hw z)).1)
theorem RR_end {W : List aR} {I I' : jI} {L L' : jL} (hw : rApart W rrC = true) (q : RR I I') (h : gR W I L I' L') : RR I' I' := RR_cells q (fun g i j z => (h g i j (rApart_of hw z)).1) (fun _ _ _ _ => rfl)
theorem RR_fr {W : List Nat} {I I' : jI} (q : RR I I) (f : fr W I I') (hw : (jel 14 W || jel 29 W || jel 35 W || jel 36 W) = false) : RR I' I' := by
  simp only [Bool.or_eq_false_iff] at hw
  obtain ⟨⟨⟨w1, w2⟩, w3⟩, w4⟩ := hw
  exact RR_g q (fr_arr f (fun _ => rfl) w1) (fr_arr f (fun _ => rfl) w2) (fr_arr f (fun _ => rfl) w3) (fr_arr f (fun _ => rfl) w4)
theorem Pr68 {d : Nat} {a1 a2 : Int32} {I : jI} {L : jL} {K : jK} (hG : gG aGI I) (q : RD2 I I) (h : RR I I) (hK : jPM d 68 [.inr (0, 0), .inl (.inl a1), .inl (.inl a2)] (I, L) K) : jPM d 68 [.inr (0, 0), .inl (.inl a1), .inl (.inl a2)] (I, L) (fun v σ => (∃ r, d68 a1 a2 I = some r ∧ v = some (.inl (.inl r.1)) ∧ σ.1 = r.2) ∧ K v σ) := by
  obtain ⟨r, r', e, e', -⟩ := row_eq a1 a2 h
  exact jPM_and (D68 e ⟨r, e, rfl, rfl⟩) hK
theorem Pr130 {d : Nat} {a1 a2 : Int32} {I I1 : jI} {L : jL} {K : jK} (hG : gG aGI I) (q : RD2 I I1) (h : RR I I1) (hK : jPM d 130 [.inr (31, 0), .inl (.inl a1), .inl (.inl a2)] (I1, L) K) : jPM d 130 [.inr (31, 0), .inl (.inl a1), .inl (.inl a2)] (I1, L) (fun v σ => (∃ r, d130 a1 a2 I1 = some r ∧ v = some (.inl (.inl r.1)) ∧ σ.1 = r.2) ∧ K v σ) := by
  obtain ⟨r, r', e, e', -⟩ := row_eq a1 a2 h
  exact jPM_and (D130 e' ⟨r', e', rfl, rfl⟩) hK
theorem Qr68 {a1 a2 : Int32} {x1 x2 : Int32} {I I1 I2 : jI} (hG : gG aGI I) (q : RD2 I I1) (h : RR I I1) (q1 : ∃ r, d68 a1 a2 I = some r ∧ (some (.inl (.inl x1)) : Option jV) = some (.inl (.inl r.1)) ∧ I1 = r.2) (q2 : ∃ r, d130 a1 a2 I1 = some r ∧ (some (.inl (.inl x2)) : Option jV) = some (.inl (.inl r.1)) ∧ I2 = r.2) : x1 = x2 ∧ RR I1 I2 := by
  obtain ⟨s, c1, c2, c3⟩ := q1
  obtain ⟨r, r', e, e', k, z, -⟩ := row_eq a1 a2 h
  obtain ⟨s', b1, b2, b3⟩ := q2
  rw [e] at c1
  rw [e'] at b1
  cases c1
  cases b1
  cases c2
  cases b2
  rw [← b3] at z
  rw [← c3] at z
  exact ⟨k, z⟩
theorem Pr69 {d : Nat} {a1 a2 a3 : Int32} {I : jI} {L : jL} {K : jK} (hG : gG aGI I) (q : RD2 I I) (h : RR I I) (hK : jPM d 69 [.inr (0, 0), .inl (.inl a1), .inl (.inl a2), .inl (.inl a3)] (I, L) K) : jPM d 69 [.inr (0, 0), .inl (.inl a1), .inl (.inl a2), .inl (.inl a3)] (I, L) (fun v σ => (∃ r, d69 a1 a2 a3 I = some r ∧ v = some (.inl (.inl r.1)) ∧ σ.1 = r.2) ∧ K v σ) := by
  obtain ⟨r, r', e, e', -⟩ := lay_eq a1 a2 a3 hG h
  exact jPM_and (D69 e ⟨r, e, rfl, rfl⟩) hK
theorem Pr133 {d : Nat} {a1 a2 a3 : Int32} {I I1 : jI} {L : jL} {K : jK} (hG : gG aGI I) (q : RD2 I I1) (h : RR I I1) (hK : jPM d 133 [.inr (31, 0), .inl (.inl a1), .inl (.inl a2), .inl (.inl a3)] (I1, L) K) : jPM d 133 [.inr (31, 0), .inl (.inl a1), .inl (.inl a2), .inl (.inl a3)] (I1, L) (fun v σ => (∃ r, d133 a1 a2 a3 I1 = some r ∧ v = some (.inl (.inl r.1)) ∧ σ.1 = r.2) ∧ K v σ) := by
  obtain ⟨r, r', e, e', -⟩ := lay_eq a1 a2 a3 hG h
  exact jPM_and (D133 e' ⟨r', e', rfl, rfl⟩) hK
theorem Qr69 {a1 a2 a3 : Int32} {x1 x2 : Int32} {I I1 I2 : jI} (hG : gG aGI I) (q : RD2 I I1) (h : RR I I1) (q1 : ∃ r, d69 a1 a2 a3 I = some r ∧ (some (.inl (.inl x1)) : Option jV) = some (.inl (.inl r.1)) ∧ I1 = r.2) (q2 : ∃ r, d133 a1 a2 a3 I1 = some r ∧ (some (.inl (.inl x2)) : Option jV) = some (.inl (.inl r.1)) ∧ I2 = r.2) : x1 = x2 ∧ RR I1 I2 := by
  obtain ⟨s, c1, c2, c3⟩ := q1
  obtain ⟨r, r', e, e', k, z, -⟩ := lay_eq a1 a2 a3 hG h
  obtain ⟨s', b1, b2, b3⟩ := q2
  rw [e] at c1
  rw [e'] at b1
  cases c1
  cases b1
  cases c2
  cases b2
  rw [← b3] at z
  rw [← c3] at z
  exact ⟨k, z⟩
theorem Pr70 {d : Nat} {a1 a2 : Int32} {I : jI} {L : jL} {K : jK} (hG : gG aGI I) (q : RD2 I I) (h : RR I I) (hK : jPM d 70 [.inr (0, 0), .inl (.inl a1), .inl (.inl a2)] (I, L) K) : jPM d 70 [.inr (0, 0), .inl (.inl a1), .inl (.inl a2)] (I, L) (fun v σ => (∃ r, d70 a1 a2 I = some r ∧ v = some (.inl (.inl r.1)) ∧ σ.1 = r.2) ∧ K v σ) := by
  obtain ⟨r, r', e, e', -⟩ := at_eq a1 a2 hG h
  exact jPM_and (D70 e ⟨r, e, rfl, rfl⟩) hK
theorem Pr134 {d : Nat} {a1 a2 : Int32} {I I1 : jI} {L : jL} {K : jK} (hG : gG aGI I) (q : RD2 I I1) (h : RR I I1) (hK : jPM d 134 [.inr (31, 0), .inl (.inl a1), .inl (.inl a2)] (I1, L) K) : jPM d 134 [.inr (31, 0), .inl (.inl a1), .inl (.inl a2)] (I1, L) (fun v σ => (∃ r, d134 a1 a2 I1 = some r ∧ v = some (.inl (.inl r.1)) ∧ σ.1 = r.2) ∧ K v σ) := by
  obtain ⟨r, r', e, e', -⟩ := at_eq a1 a2 hG h
  exact jPM_and (D134 e' ⟨r', e', rfl, rfl⟩) hK
theorem Qr70 {a1 a2 : Int32} {x1 x2 : Int32} {I I1 I2 : jI} (hG : gG aGI I) (q : RD2 I I1) (h : RR I I1) (q1 : ∃ r, d70 a1 a2 I = some r ∧ (some (.inl (.inl x1)) : Option jV) = some (.inl (.inl r.1)) ∧ I1 = r.2) (q2 : ∃ r, d134 a1 a2 I1 = some r ∧ (some (.inl (.inl x2)) : Option jV) = some (.inl (.inl r.1)) ∧ I2 = r.2) : x1 = x2 ∧ RR I1 I2 := by
  obtain ⟨s, c1, c2, c3⟩ := q1
  obtain ⟨r, r', e, e', k, z, -⟩ := at_eq a1 a2 hG h
  obtain ⟨s', b1, b2, b3⟩ := q2
  rw [e] at c1
  rw [e'] at b1
  cases c1
  cases b1
  cases c2
  cases b2
  rw [← b3] at z
  rw [← c3] at z
  exact ⟨k, z⟩
theorem Pr71 {d : Nat} {a1 : Int32} {I : jI} {L : jL} {K : jK} (hG : gG aGI I) (q : RD2 I I) (h : RR I I) (hK : jPM d 71 [.inr (0, 0), .inl (.inl a1)] (I, L) K) : jPM d 71 [.inr (0, 0), .inl (.inl a1)] (I, L) (fun v σ => (∃ r, d71 a1 I = some r ∧ v = some (.inl (.inl r.1)) ∧ σ.1 = r.2) ∧ K v σ) := by
  obtain ⟨r, r', e, e', -⟩ := tear_eq a1 hG h
  exact jPM_and (D71 e ⟨r, e, rfl, rfl⟩) hK
theorem Pr135 {d : Nat} {a1 : Int32} {I I1 : jI} {L : jL} {K : jK} (hG : gG aGI I) (q : RD2 I I1) (h : RR I I1) (hK : jPM d 135 [.inr (31, 0), .inl (.inl a1)] (I1, L) K) : jPM d 135 [.inr (31, 0), .inl (.inl a1)] (I1, L) (fun v σ => (∃ r, d135 a1 I1 = some r ∧ v = some (.inl (.inl r.1)) ∧ σ.1 = r.2) ∧ K v σ) := by
  obtain ⟨r, r', e, e', -⟩ := tear_eq a1 hG h
  exact jPM_and (D135 e' ⟨r', e', rfl, rfl⟩) hK
theorem Qr71 {a1 : Int32} {x1 x2 : Int32} {I I1 I2 : jI} (hG : gG aGI I) (q : RD2 I I1) (h : RR I I1) (q1 : ∃ r, d71 a1 I = some r ∧ (some (.inl (.inl x1)) : Option jV) = some (.inl (.inl r.1)) ∧ I1 = r.2) (q2 : ∃ r, d135 a1 I1 = some r ∧ (some (.inl (.inl x2)) : Option jV) = some (.inl (.inl r.1)) ∧ I2 = r.2) : x1 = x2 ∧ RR I1 I2 := by
  obtain ⟨s, c1, c2, c3⟩ := q1
  obtain ⟨r, r', e, e', k, z, -⟩ := tear_eq a1 hG h
  obtain ⟨s', b1, b2, b3⟩ := q2
  rw [e] at c1
  rw [e'] at b1
  cases c1
  cases b1
  cases c2
  cases b2
  rw [← b3] at z
  rw [← c3] at z
  exact ⟨k, z⟩
theorem Pr72 {d : Nat} {a1 a2 a3 a4 a5 : Int32} {I : jI} {L : jL} {K : jK} (hG : gG aGI I) (q : RD2 I I) (h : RR I I) (hK : jPM d 72 [.inr (0, 0), .inl (.inl a1), .inl (.inl a2), .inl (.inl a3), .inl (.inl a4), .inl (.inl a5)] (I, L) K) : jPM d 72 [.inr (0, 0), .inl (.inl a1), .inl (.inl a2), .inl (.inl a3), .inl (.inl a4), .inl (.inl a5)] (I, L) (fun v σ => (∃ r, d72 a1 a2 a3 a4 a5 I = some r ∧ v = some (.inl (.inl r.1)) ∧ σ.1 = r.2) ∧ K v σ) := by
  obtain ⟨r, r', e, e', -⟩ := copy_eq a1 a2 a3 a4 a5 hG h
  exact jPM_and (D72 e ⟨r, e, rfl, rfl⟩) hK
theorem Pr137 {d : Nat} {a1 a2 a3 a4 a5 : Int32} {I I1 : jI} {L : jL} {K : jK} (hG : gG aGI I) (q : RD2 I I1) (h : RR I I1) (hK : jPM d 137 [.inr (31, 0), .inl (.inl a1), .inl (.inl a2), .inl (.inl a3), .inl (.inl a4), .inl (.inl a5)] (I1, L) K) : jPM d 137 [.inr (31, 0), .inl (.inl a1), .inl (.inl a2), .inl (.inl a3), .inl (.inl a4), .inl (.inl a5)] (I1, L) (fun v σ => (∃ r, d137 a1 a2 a3 a4 a5 I1 = some r ∧ v = some (.inl (.inl r.1)) ∧ σ.1 = r.2) ∧ K v σ) := by
  obtain ⟨r, r', e, e', -⟩ := copy_eq a1 a2 a3 a4 a5 hG h
  exact jPM_and (D137 e' ⟨r', e', rfl, rfl⟩) hK
theorem Qr72 {a1 a2 a3 a4 a5 : Int32} {x1 x2 : Int32} {I I1 I2 : jI} (hG : gG aGI I) (q : RD2 I I1) (h : RR I I1) (q1 : ∃ r, d72 a1 a2 a3 a4 a5 I = some r ∧ (some (.inl (.inl x1)) : Option jV) = some (.inl (.inl r.1)) ∧ I1 = r.2) (q2 : ∃ r, d137 a1 a2 a3 a4 a5 I1 = some r ∧ (some (.inl (.inl x2)) : Option jV) = some (.inl (.inl r.1)) ∧ I2 = r.2) : x1 = x2 ∧ RR I1 I2 := by
  obtain ⟨s, c1, c2, c3⟩ := q1
  obtain ⟨r, r', e, e', k, z, -⟩ := copy_eq a1 a2 a3 a4 a5 hG h
  obtain ⟨s', b1, b2, b3⟩ := q2
  rw [e] at c1
  rw [e'] at b1
  cases c1
  cases b1
  cases c2
  cases b2
  rw [← b3] at z
  rw [← c3] at z
  exact ⟨k, z⟩
theorem Pr73 {d : Nat} {a1 : Int32} {I : jI} {L : jL} {K : jK} (hG : gG aGI I) (q : RD2 I I) (h : RR I I) (hK : jPM d 73 [.inr (0, 0), .inl (.inl a1)] (I, L) K) : jPM d 73 [.inr (0, 0), .inl (.inl a1)] (I, L) (fun v σ => (∃ r, d73 a1 I = some r ∧ v = some (.inl (.inl r.1)) ∧ σ.1 = r.2) ∧ K v σ) := by
  obtain ⟨r, r', e, e', -⟩ := mean_eq a1 hG h
  exact jPM_and (D73 e ⟨r, e, rfl, rfl⟩) hK
theorem Pr138 {d : Nat} {a1 : Int32} {I I1 : jI} {L : jL} {K : jK} (hG : gG aGI I) (q : RD2 I I1) (h : RR I I1) (hK : jPM d 138 [.inr (31, 0), .inl (.inl a1)] (I1, L) K) : jPM d 138 [.inr (31, 0), .inl (.inl a1)] (I1, L) (fun v σ => (∃ r, d138 a1 I1 = some r ∧ v = some (.inl (.inl r.1)) ∧ σ.1 = r.2) ∧ K v σ) := by
  obtain ⟨r, r', e, e', -⟩ := mean_eq a1 hG h
  exact jPM_and (D138 e' ⟨r', e', rfl, rfl⟩) hK
theorem Qr73 {a1 : Int32} {x1 x2 : Int32} {I I1 I2 : jI} (hG : gG aGI I) (q : RD2 I I1) (h : RR I I1) (q1 : ∃ r, d73 a1 I = some r ∧ (some (.inl (.inl x1)) : Option jV) = some (.inl (.inl r.1)) ∧ I1 = r.2) (q2 : ∃ r, d138 a1 I1 = some r ∧ (some (.inl (.inl x2)) : Option jV) = some (.inl (.inl r.1)) ∧ I2 = r.2) : x1 = x2 ∧ RR I1 I2 := by
  obtain ⟨s, c1, c2, c3⟩ := q1
  obtain ⟨r, r', e, e', k, z, -⟩ := mean_eq a1 hG h
  obtain ⟨s', b1, b2, b3⟩ := q2
  rw [e] at c1
  rw [e'] at b1
  cases c1
  cases b1
  cases c2
  cases b2
  rw [← b3] at z
  rw [← c3] at z
  exact ⟨k, z⟩
theorem Pr93 {d : Nat} {a1 a2 : Int32} {I : jI} {L : jL} {K : jK} (hG : gG aGI I) (q : RD2 I I) (h : RR I I) (hK : jPM d 93 [.inr (0, 0), .inl (.inl a1), .inl (.inl a2)] (I, L) K) : jPM d 93 [.inr (0, 0), .inl (.inl a1), .inl (.inl a2)] (I, L) (fun v σ => (∃ r, d93 a1 a2 I = some r ∧ v = some (.inl (.inl r.1)) ∧ σ.1 = r.2) ∧ K v σ) := by
  obtain ⟨r, r', e, e', -⟩ := least_eq a1 a2 hG q h
  exact jPM_and (D93 e ⟨r, e, rfl, rfl⟩) hK
theorem Pr184 {d : Nat} {a1 a2 : Int32} {I I1 : jI} {L : jL} {K : jK} (hG : gG aGI I) (q : RD2 I I1) (h : RR I I1) (hK : jPM d 184 [.inr (31, 0), .inl (.inl a1), .inl (.inl a2)] (I1, L) K) : jPM d 184 [.inr (31, 0), .inl (.inl a1), .inl (.inl a2)] (I1, L) (fun v σ => (∃ r, d184 a1 a2 I1 = some r ∧ v = some (.inl (.inl r.1)) ∧ σ.1 = r.2) ∧ K v σ) := by
  obtain ⟨r, r', e, e', -⟩ := least_eq a1 a2 hG q h
  exact jPM_and (D184 e' ⟨r', e', rfl, rfl⟩) hK
theorem Qr93 {a1 a2 : Int32} {x1 x2 : Int32} {I I1 I2 : jI} (hG : gG aGI I) (q : RD2 I I1) (h : RR I I1) (q1 : ∃ r, d93 a1 a2 I = some r ∧ (some (.inl (.inl x1)) : Option jV) = some (.inl (.inl r.1)) ∧ I1 = r.2) (q2 : ∃ r, d184 a1 a2 I1 = some r ∧ (some (.inl (.inl x2)) : Option jV) = some (.inl (.inl r.1)) ∧ I2 = r.2) : x1 = x2 ∧ RR I1 I2 := by
  obtain ⟨s, c1, c2, c3⟩ := q1
  obtain ⟨r, r', e, e', k, z, -⟩ := least_eq a1 a2 hG q h
  obtain ⟨s', b1, b2, b3⟩ := q2
  rw [e] at c1
  rw [e'] at b1
  cases c1
  cases b1
  cases c2
  cases b2
  rw [← b3] at z
  rw [← c3] at z
  exact ⟨k, z⟩
theorem Pr94 {d : Nat} {a1 a2 : Int32} {I : jI} {L : jL} {K : jK} (hG : gG aGI I) (q : RD2 I I) (h : RR I I) (hK : jPM d 94 [.inr (0, 0), .inl (.inl a1), .inl (.inl a2)] (I, L) K) : jPM d 94 [.inr (0, 0), .inl (.inl a1), .inl (.inl a2)] (I, L) (fun v σ => (∃ r, d94 a1 a2 I = some r ∧ v = some (.inl (.inl r.1)) ∧ σ.1 = r.2) ∧ K v σ) := by
  obtain ⟨r, r', e, e', -⟩ := weeks_eq a1 a2 hG q h
  exact jPM_and (D94 e ⟨r, e, rfl, rfl⟩) hK
theorem Pr188 {d : Nat} {a1 a2 : Int32} {I I1 : jI} {L : jL} {K : jK} (hG : gG aGI I) (q : RD2 I I1) (h : RR I I1) (hK : jPM d 188 [.inr (31, 0), .inl (.inl a1), .inl (.inl a2)] (I1, L) K) : jPM d 188 [.inr (31, 0), .inl (.inl a1), .inl (.inl a2)] (I1, L) (fun v σ => (∃ r, d188 a1 a2 I1 = some r ∧ v = some (.inl (.inl r.1)) ∧ σ.1 = r.2) ∧ K v σ) := by
  obtain ⟨r, r', e, e', -⟩ := weeks_eq a1 a2 hG q h
  exact jPM_and (D188 e' ⟨r', e', rfl, rfl⟩) hK
theorem Qr94 {a1 a2 : Int32} {x1 x2 : Int32} {I I1 I2 : jI} (hG : gG aGI I) (q : RD2 I I1) (h : RR I I1) (q1 : ∃ r, d94 a1 a2 I = some r ∧ (some (.inl (.inl x1)) : Option jV) = some (.inl (.inl r.1)) ∧ I1 = r.2) (q2 : ∃ r, d188 a1 a2 I1 = some r ∧ (some (.inl (.inl x2)) : Option jV) = some (.inl (.inl r.1)) ∧ I2 = r.2) : x1 = x2 ∧ RR I1 I2 := by
  obtain ⟨s, c1, c2, c3⟩ := q1
  obtain ⟨r, r', e, e', k, z, -⟩ := weeks_eq a1 a2 hG q h
  obtain ⟨s', b1, b2, b3⟩ := q2
  rw [e] at c1
  rw [e'] at b1
  cases c1
  cases b1
  cases c2
  cases b2
  rw [← b3] at z
  rw [← c3] at z
  exact ⟨k, z⟩
end
section
/-! kinds, prices -/
theorem fl_l {I J : jI} {r z : Int32} (h : RR I J) (h1 : 0 ≤ r.toInt ∧ r.toInt ≤ 5) (ez : z = I 14 0 r.toNatClampNeg) (hz : 0 ≤ z.toInt ∧ z.toInt ≤ 12) : ∀ (N F F' : Nat) (x y f : Int32), x.toInt + 2 * (N : Int) = z.toInt → 0 ≤ x.toInt → N < F → N < F' → y.toInt = 40 * r.toInt + x.toInt → (f = 0 → d193_50 r J F' f y = some 0) ∧ (f = 1 → (d118_38 r z I F x = some (.inr ()) ∧ d193_50 r J F' f y = some 1) ∨ (d118_38 r z I F x = some (.inl 3) ∧ d193_50 r J F' f y = some 0))
  | _, 0, _, _, _, _, _, _, h, _, _ => absurd h (by omega)
  | _, _, 0, _, _, _, _, _, _, h, _ => absurd h (by omega)
  | 0, F + 1, F' + 1, x, y, f, hx, x0, _, _, hy => by
    have nr := cl_t h1.1
    have e := i32_inc (x := x) (by omega)
    have c40 : (40 : Int32).toInt = 40 := rfl
    have e1 : (40 * r).toInt = 40 * r.toInt := by rw [i32_mul (by rw [c40]; omega), c40]
    have e2 : (40 * r + J 35 0 r.toNatClampNeg).toInt = 40 * r.toInt + z.toInt := by rw [h.1 _ (by omega), ← ez, i32_add (by rw [e1]; omega), e1]
    rw [d118_38, d193_50, if_pos (show z ≤ x + 1 by rw [le_t]; omega), if_pos (show 40 * r + J 35 0 r.toNatClampNeg ≤ y by rw [le_t, e2]; omega)]
    exact ⟨fun q => by rw [q], fun q => Or.inl ⟨rfl, by rw [q]⟩⟩
  | N + 1, F + 1, F' + 1, x, y, f, hx, x0, hF, hF', hy => by
    have nr := cl_t h1.1
    have nx := cl_t x0
    have e := i32_inc (x := x) (by omega)
    have ey := i32_inc (x := y) (by omega)
    have xn : (x + 1).toNatClampNeg = x.toNatClampNeg + 1 := by
      have := cl_t (x := x + 1) (by omega)
      omega
    have c40 : (40 : Int32).toInt = 40 := rfl
    have c2 : (2 : Int32).toInt = 2 := rfl
    have e1 : (40 * r).toInt = 40 * r.toInt := by rw [i32_mul (by rw [c40]; omega), c40]
    have e2 : (40 * r + J 35 0 r.toNatClampNeg).toInt = 40 * r.toInt + z.toInt := by rw [h.1 _ (by omega), ← ez, i32_add (by rw [e1]; omega), e1]
    have x2 : (x + 2).toInt = x.toInt + 2 := by rw [i32_add (by omega), c2]
    have y2 : (y + 2).toInt = y.toInt + 2 := by rw [i32_add (by omega), c2]
    have ny : y.toNatClampNeg = 40 * r.toNatClampNeg + x.toNatClampNeg := by have := cl_t (x := y) (by omega); omega
    have ny1 : (y + 1).toNatClampNeg = 40 * r.toNatClampNeg + (x.toNatClampNeg + 1) := by have := cl_t (x := y + 1) (by omega); omega
    have a0 : J 36 0 y.toNatClampNeg = I 29 r.toNatClampNeg x.toNatClampNeg := by rw [ny]; exact h.2 _ _ (by omega) (by omega)
    have a1 : J 36 0 (y + 1).toNatClampNeg = I 29 r.toNatClampNeg (x.toNatClampNeg + 1) := by rw [ny1]; exact h.2 _ _ (by omega) (by omega)
    have ih := fun f => fl_l h h1 ez hz N F F' (x + 2) (y + 2) f (by omega) (by omega) (by omega) (by omega) (by omega)
    have z0 : (0 : Int64).toInt = 0 := rfl
    have z20 : (20 : Int64).toInt = 20 := rfl
    have k20 : (20 : Int32).toInt = 20 := rfl
    rw [d118_38, d193_50, if_neg (show ¬ z ≤ x + 1 by rw [le_t]; omega), if_neg (show ¬ 40 * r + J 35 0 r.toNatClampNeg ≤ y by rw [le_t, e2]; omega), a0, a1, in_i, z0, z20]
    unfold d18g1
    rw [xn]
    refine ⟨fun q => by rw [if_pos q]; exact (ih 0).1 rfl, fun q => ?_⟩
    rw [if_neg (show ¬ f = 0 by rw [q]; decide)]
    by_cases b : 0 ≤ (I 29 r.toNatClampNeg x.toNatClampNeg).toInt ∧ (I 29 r.toNatClampNeg x.toNatClampNeg).toInt ≤ 20
    · rw [if_pos b, if_neg one0, if_neg (show ¬ I 29 r.toNatClampNeg x.toNatClampNeg < 0 by rw [lt0_t]; omega), if_neg (show ¬ (20 : Int32) < I 29 r.toNatClampNeg x.toNatClampNeg by rw [lt_t, k20]; omega)]
      by_cases d : 0 ≤ I 29 r.toNatClampNeg (x.toNatClampNeg + 1)
      · rw [if_pos d, if_neg (show ¬ I 29 r.toNatClampNeg (x.toNatClampNeg + 1) < 0 by rw [lt0_t]; rw [le0_t] at d; omega)]
        exact (ih 1).2 rfl
      · rw [if_neg d, if_pos (show I 29 r.toNatClampNeg (x.toNatClampNeg + 1) < 0 by rw [lt0_t]; rw [le0_t] at d; omega)]
        exact Or.inr ⟨rfl, (ih 0).1 rfl⟩
    · rw [if_neg b, if_pos rfl]
      refine Or.inr ⟨?_, (ih 0).1 rfl⟩
      by_cases d : I 29 r.toNatClampNeg x.toNatClampNeg < 0
      · rw [if_pos d]
      · rw [if_neg d, if_pos (show (20 : Int32) < I 29 r.toNatClampNeg x.toNatClampNeg by rw [lt_t, k20]; rw [lt0_t] at d; omega)]
theorem prs_m {I J : jI} {r : Int32} (hG : gG aGI I) (h : RR I J) (h1 : 0 ≤ r.toInt ∧ r.toInt ≤ 5) : ∃ w, d118 r I = some w ∧ ((w = 0 ∧ d193 r J = some (0, J) ∧ ∃ N : Nat, 2 * (N : Int) = (I 14 0 r.toNatClampNeg).toInt ∧ N ≤ 6) ∨ (¬ w = 0 ∧ d193 r J = some ((d126 w J).1, (d126 w J).2) ∧ (d126 w J).1 = -3)) := by
  obtain ⟨e, t, hs⟩ := there_m hG h h1
  have k12 : (12 : Int32).toInt = 12 := rfl
  have k2 : (2 : Int32).toInt = 2 := rfl
  have nr := cl_t h1.1
  unfold d118 d193 d17g1
  rw [e]
  rcases t with ⟨a, b⟩ | ⟨a, b⟩
  · rw [if_pos a, if_neg (show ¬ 0 ≤ I 14 0 r.toNatClampNeg by rw [le0_t]; omega)]
    exact ⟨1, rfl, Or.inr ⟨one0, rfl, rfl⟩⟩
  · rw [if_neg (show ¬ d16g1 r I = 0 by rw [a]; exact one0), if_pos (show 0 ≤ I 14 0 r.toNatClampNeg by rw [le0_t]; omega)]
    have md : (I 14 0 r.toNatClampNeg - I 14 0 r.toNatClampNeg / 2 * 2).toInt = (I 14 0 r.toNatClampNeg).toInt % 2 := by rw [tm32 (by decide), k2, Int.tmod_eq_emod_of_nonneg b]
    by_cases c : (12 : Int32) < I 14 0 r.toNatClampNeg
    · rw [if_pos c]
      rw [lt_t, k12] at c
      rw [if_neg (show ¬ I 14 0 r.toNatClampNeg ≤ 12 by rw [le_t, k12]; omega)]
      refine ⟨5, rfl, Or.inr ⟨by decide, ?_, rfl⟩⟩
      by_cases d : I 14 0 r.toNatClampNeg - I 14 0 r.toNatClampNeg / 2 * 2 = 0
      · rw [if_pos d]
      · rw [if_neg d]
    · rw [if_neg c]
      rw [lt_t, k12] at c
      by_cases d : I 14 0 r.toNatClampNeg - I 14 0 r.toNatClampNeg / 2 * 2 = 0
      · rw [if_pos d, if_pos d, if_pos (show I 14 0 r.toNatClampNeg ≤ 12 by rw [le_t, k12]; omega)]
        have d' := eq_t.mp d
        rw [md] at d'
        have d' : (I 14 0 r.toNatClampNeg).toInt % 2 = 0 := d'
        have c40 : (40 : Int32).toInt = 40 := rfl
        have e1 : (40 * r).toInt = 40 * r.toInt := by rw [i32_mul (by rw [c40]; omega), c40]
        have lN : 2 * (((I 14 0 r.toNatClampNeg).toInt / 2).toNat : Int) = (I 14 0 r.toNatClampNeg).toInt := by omega
        rcases (fl_l h h1 rfl ⟨b, by omega⟩ ((I 14 0 r.toNatClampNeg).toInt / 2).toNat 70 70 0 (40 * r) 1 (by show (0 : Int) + _ = _; omega) (by decide) (by omega) (by omega) (by rw [e1]; show _ = _ + (0 : Int); omega)).2 rfl with ⟨q1, q2⟩ | ⟨q1, q2⟩
        · rw [q1, q2]
          exact ⟨0, rfl, Or.inl ⟨rfl, rfl, _, lN, by omega⟩⟩
        · rw [q1, q2]
          exact ⟨3, rfl, Or.inr ⟨by decide, rfl, rfl⟩⟩
      · rw [if_neg d, if_neg d]
        exact ⟨5, rfl, Or.inr ⟨by decide, rfl, rfl⟩⟩
theorem so_l {I J : jI} {r k p : Int32} (hG : gG aGI I) (h : RR I J) (j6 : J 32 0 6 = I 4 1 14) (h1 : 0 ≤ r.toInt ∧ r.toInt ≤ 5) (hz : (I 14 0 r.toNatClampNeg).toInt ≤ 12) : ∀ (N F F' : Nat) (x y f : Int32), x.toInt + 2 * (N : Int) = (I 14 0 r.toNatClampNeg).toInt → 0 ≤ x.toInt → N < F → N < F' → y.toInt = 40 * r.toInt + x.toInt → (f = 0 → d194_9 r k p J F' f y = some 0) ∧ (f = 1 → (d119_3 r k p I F x = some (.inr ()) ∧ d194_9 r k p J F' f y = some 1) ∨ (d119_3 r k p I F x = some (.inl 0) ∧ d194_9 r k p J F' f y = some 0))
  | _, 0, _, _, _, _, _, _, h, _, _ => absurd h (by omega)
  | _, _, 0, _, _, _, _, _, _, h, _ => absurd h (by omega)
  | 0, F + 1, F' + 1, x, y, f, hx, x0, _, _, hy => by
    have nr := cl_t h1.1
    have e := i32_inc (x := x) (by omega)
    have c40 : (40 : Int32).toInt = 40 := rfl
    have e1 : (40 * r).toInt = 40 * r.toInt := by rw [i32_mul (by rw [c40]; omega), c40]
    have e2 : (40 * r + J 35 0 r.toNatClampNeg).toInt = 40 * r.toInt + (I 14 0 r.toNatClampNeg).toInt := by rw [h.1 _ (by omega), i32_add (by rw [e1]; omega), e1]
    rw [d119_3, d194_9]
    unfold d17g1
    rw [if_pos (show I 14 0 r.toNatClampNeg ≤ x + 1 by rw [le_t]; omega), if_pos (show 40 * r + J 35 0 r.toNatClampNeg ≤ y by rw [le_t, e2]; omega)]
    exact ⟨fun q => by rw [q], fun q => Or.inl ⟨rfl, by rw [q]⟩⟩
  | N + 1, F + 1, F' + 1, x, y, f, hx, x0, hF, hF', hy => by
    have nr := cl_t h1.1
    have nx := cl_t x0
    have e := i32_inc (x := x) (by omega)
    have ey := i32_inc (x := y) (by omega)
    have xn : (x + 1).toNatClampNeg = x.toNatClampNeg + 1 := by
      have := cl_t (x := x + 1) (by omega)
      omega
    have c40 : (40 : Int32).toInt = 40 := rfl
    have c2 : (2 : Int32).toInt = 2 := rfl
    have e1 : (40 * r).toInt = 40 * r.toInt := by rw [i32_mul (by rw [c40]; omega), c40]
    have e2 : (40 * r + J 35 0 r.toNatClampNeg).toInt = 40 * r.toInt + (I 14 0 r.toNatClampNeg).toInt := by rw [h.1 _ (by omega), i32_add (by rw [e1]; omega), e1]
    have x2 : (x + 2).toInt = x.toInt + 2 := by rw [i32_add (by omega), c2]
    have y2 : (y + 2).toInt = y.toInt + 2 := by rw [i32_add (by omega), c2]
    have ny : y.toNatClampNeg = 40 * r.toNatClampNeg + x.toNatClampNeg := by have := cl_t (x := y) (by omega); omega
    have ny1 : (y + 1).toNatClampNeg = 40 * r.toNatClampNeg + (x.toNatClampNeg + 1) := by have := cl_t (x := y + 1) (by omega); omega
    have a0 : J 36 0 y.toNatClampNeg = I 29 r.toNatClampNeg x.toNatClampNeg := by rw [ny]; exact h.2 _ _ (by omega) (by omega)
    have a1 : J 36 0 (y + 1).toNatClampNeg = I 29 r.toNatClampNeg (x.toNatClampNeg + 1) := by rw [ny1]; exact h.2 _ _ (by omega) (by omega)
    have ih := fun f => so_l (k := k) (p := p) hG h j6 h1 hz N F F' (x + 2) (y + 2) f (by omega) (by omega) (by omega) (by omega) (by omega)
    have c6 : Int32.toNatClampNeg 6 = 6 := rfl
    rw [d119_3, d194_9]
    unfold d17g1 d18g1
    rw [if_neg (show ¬ I 14 0 r.toNatClampNeg ≤ x + 1 by rw [le_t]; omega), if_neg (show ¬ 40 * r + J 35 0 r.toNatClampNeg ≤ y by rw [le_t, e2]; omega), a0, a1, c6, j6, cost_m (card01 hG), cost_c, xn]
    refine ⟨fun q => by rw [if_pos q]; exact (ih 0).1 rfl, fun q => ?_⟩
    rw [if_neg (show ¬ f = 0 by rw [q]; decide)]
    by_cases b : kost k (I 29 r.toNatClampNeg x.toNatClampNeg) p (I 4 1 14) = I 29 r.toNatClampNeg (x.toNatClampNeg + 1)
    · rw [if_pos b, if_pos b]
      exact (ih 1).2 rfl
    · rw [if_neg b, if_neg b]
      exact Or.inr ⟨rfl, (ih 0).1 rfl⟩
theorem so_m {I J : jI} {r k p : Int32} {N : Nat} (hG : gG aGI I) (h : RR I J) (j6 : J 32 0 6 = I 4 1 14) (h1 : 0 ≤ r.toInt ∧ r.toInt ≤ 5) (hN : 2 * (N : Int) = (I 14 0 r.toNatClampNeg).toInt) (hN6 : N ≤ 6) : (d119 r k p I = some 1 ∧ d194 r k p J = some 1) ∨ (d119 r k p I = some 0 ∧ d194 r k p J = some 0) := by
  have c40 : (40 : Int32).toInt = 40 := rfl
  have e1 : (40 * r).toInt = 40 * r.toInt := by rw [i32_mul (by rw [c40]; omega), c40]
  unfold d119 d194
  rcases (so_l (k := k) (p := p) hG h j6 h1 (by omega) N 70 70 0 (40 * r) 1 (by show (0 : Int) + _ = _; omega) (by decide) (by omega) (by omega) (by rw [e1]; show _ = _ + (0 : Int); omega)).2 rfl with ⟨q1, q2⟩ | ⟨q1, q2⟩
  · rw [q1, q2]; exact Or.inl ⟨rfl, rfl⟩
  · rw [q1, q2]; exact Or.inr ⟨rfl, rfl⟩
theorem kd_l {I J : jI} {i r : Int32} {N : Nat} (hG : gG aGI I) (h : RR I J) (j6 : J 32 0 6 = I 4 1 14) (jp : J 32 0 (Int32.toNatClampNeg (23 + i)) = I 20 1 i.toNatClampNeg) (h1 : 0 ≤ r.toInt ∧ r.toInt ≤ 5) (hN : 2 * (N : Int) = (I 14 0 r.toNatClampNeg).toInt) (hN6 : N ≤ 6) : ∀ (M F F' : Nat) (a x : Int32), x.toInt + (M : Int) = 6 → 0 ≤ x.toInt → M < F → M < F' → ∃ s, d99_46 i r I F a x = some s ∧ d195_35 i r J F' a x = some s
  | _, 0, _, _, _, _, _, h, _ => absurd h (by omega)
  | _, _, 0, _, _, _, _, _, h => absurd h (by omega)
  | 0, F + 1, F' + 1, a, x, hx, x0, _, _ => by
    rw [d99_46, d195_35, if_pos (show (6 : Int32) ≤ x by rw [le_t]; show (6 : Int) ≤ _; omega), if_pos (show (6 : Int32) ≤ x by rw [le_t]; show (6 : Int) ≤ _; omega)]
    exact ⟨_, rfl, rfl⟩
  | M + 1, F + 1, F' + 1, a, x, hx, x0, hF, hF' => by
    have e := i32_inc (x := x) (by omega)
    rw [d99_46, d195_35, if_neg (show ¬ (6 : Int32) ≤ x by rw [le_t]; show ¬ (6 : Int) ≤ _; omega), if_neg (show ¬ (6 : Int32) ≤ x by rw [le_t]; show ¬ (6 : Int) ≤ _; omega), jp]
    rcases so_m (k := x) (p := I 20 1 i.toNatClampNeg) hG h j6 h1 hN hN6 with ⟨q1, q2⟩ | ⟨q1, q2⟩
    · rw [q1, q2]
      dsimp only [Option.bind_some]
      rw [if_neg one0, if_neg one0]
      exact kd_l hG h j6 jp h1 hN hN6 M F F' _ (x + 1) (by omega) (by omega) (by omega) (by omega)
    · rw [q1, q2]
      dsimp only [Option.bind_some]
      rw [if_pos rfl, if_pos rfl, Int32.or_zero]
      exact kd_l hG h j6 jp h1 hN hN6 M F F' _ (x + 1) (by omega) (by omega) (by omega) (by omega)
theorem kinds_eq {I J : jI} (i r : Int32) (hG : gG aGI I) (q : RD2 I J) (h : RR I J) : ∃ s s', d99 i r I = some s ∧ d195 i r J = some s' ∧ s.1 = s'.1 ∧ RR s.2 s'.2 ∧ rfO I s.2 J s'.2 := by
  have c := RD_cur hG q
  have hp := gi_packets hG
  have c3 : J 31 0 3 = I 4 1 6 := c.1.1.1
  unfold d99 d195
  rw [has_c, isP_m (by rw [c3]; exact hp), c3, names_r, isRow_t]
  by_cases h1 : 0 ≤ i.toInt ∧ i.toInt < (I 4 1 6).toInt
  · rw [if_pos h1, if_neg one0, if_neg one0]
    obtain ⟨hi, hi5, hm0⟩ := RD_hi c h1
    by_cases h2 : 0 ≤ r.toInt ∧ r.toInt ≤ 5
    · rw [if_pos h2, if_neg one0, if_neg one0]
      obtain ⟨w, w1, w2⟩ := prs_m hG h h2
      have i23 : Int32.toNatClampNeg (23 + i) = 23 + i.toNatClampNeg := by rw [(ixa (a := 23) (by decide) (by decide) h1.1 (by omega)).2]; rfl
      rw [w1]
      dsimp only [Option.bind_some]
      rcases w2 with ⟨w2, w3, N, n1, n2⟩ | ⟨w2, w3, w4⟩
      · rw [if_pos w2, w3]
        dsimp only [Option.bind_some]
        rw [if_pos rfl]
        obtain ⟨s, s1, s2⟩ := kd_l (i := i) hG h (c.1.2.2.2 5 (by decide)) (by rw [i23]; exact (c.1.2.2.1 _ hi).1.2) h2 n1 n2 6 70 70 0 0 (by decide) (by decide) (by decide) (by decide)
        rw [s1, s2]
        exact ⟨_, _, rfl, rfl, rfl, h, fun q => q⟩
      · rw [if_neg w2, w3]
        dsimp only [Option.bind_some]
        rw [if_neg (show ¬ (d126 w J).1 = 0 by rw [w4]; decide)]
        exact ⟨_, _, rfl, rfl, rfl, RR_find h, fun q => RFi_find q⟩
    · rw [if_neg h2, if_pos rfl, if_pos rfl]
      exact ⟨_, _, rfl, rfl, rfl, h, fun q => q⟩
  · rw [if_neg h1, if_pos rfl, if_pos rfl]
    exact ⟨_, _, rfl, rfl, rfl, h, fun q => q⟩
noncomputable def ctP (I : jI) (r k : Int32) : Nat → Nat
  | 0 => 0
  | n + 1 => ctP I r k n + (if d119 r k (nI n) I = some 0 then 0 else 1)
theorem ctP_le {I : jI} {r k : Int32} : ∀ n, ctP I r k n ≤ n
  | 0 => Nat.le_refl _
  | n + 1 => by
    have := ctP_le (I := I) (r := r) (k := k) n
    show ctP I r k n + (if d119 r k (nI n) I = some 0 then 0 else 1) ≤ n + 1
    split <;> omega
theorem pcC_l {I J : jI} {i r : Int32} {N : Nat} (hG : gG aGI I) (h : RR I J) (j6 : J 32 0 6 = I 4 1 14) (h1 : 0 ≤ r.toInt ∧ r.toInt ≤ 5) (hN : 2 * (N : Int) = (I 14 0 r.toNatClampNeg).toInt) (hN6 : N ≤ 6) : ∀ (M F : Nat) (a b x : Int32), x.toInt + (M : Int) = 100 → 0 ≤ x.toInt → M < F → a.toInt = (ctP I r (I 18 1 i.toNatClampNeg) x.toNatClampNeg : Int) → ∃ s t, d100_50 i r I F a b x = some (s, t) ∧ s.toInt = (ctP I r (I 18 1 i.toNatClampNeg) 100 : Int)
  | _, 0, _, _, _, _, _, h, _ => absurd h (by omega)
  | 0, F + 1, a, b, x, hx, x0, _, ha => by
    have nx := cl_t x0
    rw [d100_50, if_pos (show (99 : Int32) < x by rw [lt_t]; show (99 : Int) < _; omega)]
    exact ⟨_, _, rfl, by rw [ha, show x.toNatClampNeg = 100 by omega]⟩
  | M + 1, F + 1, a, b, x, hx, x0, hF, ha => by
    have nx := cl_t x0
    have e := i32_inc (x := x) (by omega)
    have xn : (x + 1).toNatClampNeg = x.toNatClampNeg + 1 := by
      have := cl_t (x := x + 1) (by omega)
      omega
    have ex : nI x.toNatClampNeg = x := (nI_is (by omega) (by omega)).symm
    have le := ctP_le (I := I) (r := r) (k := I 18 1 i.toNatClampNeg) x.toNatClampNeg
    have st : ctP I r (I 18 1 i.toNatClampNeg) (x + 1).toNatClampNeg = ctP I r (I 18 1 i.toNatClampNeg) x.toNatClampNeg + (if d119 r (I 18 1 i.toNatClampNeg) x I = some 0 then 0 else 1) := by
      rw [xn]
      show _ + (if d119 r (I 18 1 i.toNatClampNeg) (nI x.toNatClampNeg) I = some 0 then 0 else 1) = _
      rw [ex]
    have e1 := i32_inc (x := a) (by omega)
    rw [d100_50, if_neg (show ¬ (99 : Int32) < x by rw [lt_t]; show ¬ (99 : Int) < _; omega)]
    rcases so_m (k := I 18 1 i.toNatClampNeg) (p := x) hG h j6 h1 hN hN6 with ⟨q1, q2⟩ | ⟨q1, q2⟩
    · rw [q1, if_neg (show ¬ (some 1 : Option Int32) = some 0 from fun z => one0 (Option.some.inj z))] at st
      rw [q1]
      dsimp only [Option.bind_some]
      rw [if_neg one0]
      by_cases y : b = -9
      · rw [if_pos y]
        exact pcC_l hG h j6 h1 hN hN6 M F _ _ (x + 1) (by omega) (by omega) (by omega) (by rw [st]; omega)
      · rw [if_neg y]
        exact pcC_l hG h j6 h1 hN hN6 M F _ _ (x + 1) (by omega) (by omega) (by omega) (by rw [st]; omega)
    · rw [q1, if_pos rfl] at st
      rw [q1]
      dsimp only [Option.bind_some]
      rw [if_pos rfl]
      exact pcC_l hG h j6 h1 hN hN6 M F _ _ (x + 1) (by omega) (by omega) (by omega) (by rw [st]; omega)
theorem so_x {r k p : Int32} {J Y : jI} (h36 : Y 36 = J 36) (h35 : Y 35 = J 35) (h32 : Y 32 = J 32) : ∀ (F : Nat) (f y : Int32), d194_9 r k p Y F f y = d194_9 r k p J F f y
  | 0, _, _ => rfl
  | F + 1, f, y => by
    have dx : ∀ a b, d152 k p a b Y = d152 k p a b J := fun _ _ => rfl
    rw [d194_9, d194_9, h36, h35, h32, so_x h36 h35 h32 F, so_x h36 h35 h32 F, dx]
theorem pcM_l {I J : jI} {i r : Int32} {N : Nat} (hG : gG aGI I) (h : RR I J) (j6 : J 32 0 6 = I 4 1 14) (jk : J 33 0 i.toNatClampNeg = I 18 1 i.toNatClampNeg) (h1 : 0 ≤ r.toInt ∧ r.toInt ≤ 5) (hN : 2 * (N : Int) = (I 14 0 r.toNatClampNeg).toInt) (hN6 : N ≤ 6) : ∀ (M F : Nat) (a x : Int32) (Y : jI), x.toInt = (M : Int) - 1 → M ≤ 100 → M < F → (∀ g, ¬ g = 31 → Y g = J g) → (0 ≤ a.toInt ∧ a.toInt ≤ 100 - (M : Int)) → ∃ s T, d196_42 i r F a x Y = some (s, T) ∧ s.toInt = a.toInt + (ctP I r (I 18 1 i.toNatClampNeg) M : Int) ∧ (∀ g, ¬ g = 31 → T g = J g) ∧ T 31 0 13 = Y 31 0 13
  | _, 0, _, _, _, _, _, h, _, _ => absurd h (by omega)
  | 0, F + 1, a, x, Y, hx, _, _, hY, _ => by
    rw [d196_42, if_pos (show x < 0 by rw [lt0_t]; omega)]
    exact ⟨_, _, rfl, (Int.add_zero _).symm, hY, rfl⟩
  | M + 1, F + 1, a, x, Y, hx, hM, hF, hY, ha => by
    have hx' : x.toInt = (M : Int) := by omega
    have c1 : (-1 : Int32).toInt = -1 := rfl
    have e : (x + (-1)).toInt = x.toInt - 1 := by rw [i32_add (by rw [c1]; omega), c1]; omega
    have ex : nI M = x := (nI_is hx' (by omega)).symm
    have st : ctP I r (I 18 1 i.toNatClampNeg) (M + 1) = ctP I r (I 18 1 i.toNatClampNeg) M + (if d119 r (I 18 1 i.toNatClampNeg) x I = some 0 then 0 else 1) := by
      show _ + (if d119 r (I 18 1 i.toNatClampNeg) (nI M) I = some 0 then 0 else 1) = _
      rw [ex]
    have e1 := i32_inc (x := a) (by omega)
    have az : a + 0 = a := Int32.add_zero a
    have dY : d194 r (I 18 1 i.toNatClampNeg) x Y = d194 r (I 18 1 i.toNatClampNeg) x J := by
      unfold d194
      rw [so_x (hY 36 (by decide)) (hY 35 (by decide)) (hY 32 (by decide))]
    rw [d196_42, if_neg (show ¬ x < 0 by rw [lt0_t]; omega), hY 33 (by decide), jk, dY]
    rcases so_m (k := I 18 1 i.toNatClampNeg) (p := x) hG h j6 h1 hN hN6 with ⟨q1, q2⟩ | ⟨q1, q2⟩
    · rw [q1, if_neg (show ¬ (some 1 : Option Int32) = some 0 from fun z => one0 (Option.some.inj z))] at st
      rw [q2]
      dsimp only [Option.bind_some]
      rw [if_neg one0, if_neg one0]
      obtain ⟨s, T, t1, t2, t3, t4⟩ := pcM_l hG h j6 jk h1 hN hN6 M F (a + 1) (x + (-1)) (jup Y 31 0 10 x) (by omega) (by omega) (by omega) (fun g hg => (jup_g hg).trans (hY g hg)) (by omega)
      exact ⟨s, T, t1, by rw [t2, st]; omega, t3, t4⟩
    · rw [q1, if_pos rfl] at st
      rw [q2]
      dsimp only [Option.bind_some]
      rw [if_pos rfl, if_pos rfl, az]
      obtain ⟨s, T, t1, t2, t3, t4⟩ := pcM_l hG h j6 jk h1 hN hN6 M F a (x + (-1)) (jup Y 31 0 10 (Y 31 0 10)) (by omega) (by omega) (by omega) (fun g hg => (jup_g hg).trans (hY g hg)) (by omega)
      exact ⟨s, T, t1, by rw [t2, st]; omega, t3, t4⟩
theorem prices_eq {I J : jI} (i r : Int32) (hG : gG aGI I) (q : RD2 I J) (h : RR I J) : ∃ s s', d100 i r I = some s ∧ d196 i r J = some s' ∧ s.1 = s'.1 ∧ RR s.2 s'.2 ∧ rfO I s.2 J s'.2 := by
  have c := RD_cur hG q
  have hp := gi_packets hG
  have c3 : J 31 0 3 = I 4 1 6 := c.1.1.1
  unfold d100 d196
  rw [has_c, isP_m (by rw [c3]; exact hp), c3, names_r, isRow_t]
  by_cases h1 : 0 ≤ i.toInt ∧ i.toInt < (I 4 1 6).toInt
  · rw [if_pos h1, if_neg one0, if_neg one0]
    obtain ⟨hi, hi5, hm0⟩ := RD_hi c h1
    by_cases h2 : 0 ≤ r.toInt ∧ r.toInt ≤ 5
    · rw [if_pos h2, if_neg one0, if_neg one0]
      obtain ⟨w, w1, w2⟩ := prs_m hG h h2
      rw [w1]
      dsimp only [Option.bind_some]
      rcases w2 with ⟨w2, w3, N, n1, n2⟩ | ⟨w2, w3, w4⟩
      · rw [if_pos w2, w3]
        dsimp only [Option.bind_some]
        rw [if_pos rfl]
        have j6 := c.1.2.2.2 5 (by decide)
        obtain ⟨s, t, s1, s2⟩ := pcC_l (i := i) hG h j6 h2 n1 n2 100 120 0 (-9) 0 (by decide) (by decide) (by decide) rfl
        obtain ⟨u, T, u1, u2, u3, u4⟩ := pcM_l (i := i) hG h j6 (c.1.2.2.1 _ hi).2.1 h2 n1 n2 100 120 0 99 (jup J 31 0 10 (-9)) (by decide) (by decide) (by decide) (fun g hg => jup_g hg) ⟨by decide, by decide⟩
        rw [s1, u1]
        refine ⟨_, _, rfl, rfl, ?_, RR_g h rfl rfl (u3 35 (by decide)) (u3 36 (by decide)), fun q => ⟨u4.trans q.1, fun f hf => by show T 39 0 f = _; rw [u3 39 (by decide)]; exact q.2 f hf⟩⟩
        show s = u
        exact eq_t.mpr (by rw [s2, u2]; show _ = (0 : Int) + _; omega)
      · rw [if_neg w2, w3]
        dsimp only [Option.bind_some]
        rw [if_neg (show ¬ (d126 w J).1 = 0 by rw [w4]; decide)]
        exact ⟨_, _, rfl, rfl, rfl, RR_find h, fun q => RFi_find q⟩
    · rw [if_neg h2, if_pos rfl, if_pos rfl]
      exact ⟨_, _, rfl, rfl, rfl, h, fun q => q⟩
  · rw [if_neg h1, if_pos rfl, if_pos rfl]
    exact ⟨_, _, rfl, rfl, rfl, h, fun q => q⟩
end
section
/-! count -/
noncomputable def RT2 (I J : jI) : Prop := (∀ t, t < 4 → J 37 0 t = I 16 0 t) ∧ ∀ t j, t < 4 → j < 60 → J 38 0 (60 * t + j) = I 30 t j
theorem RT2_mid {W : List aR} {I I' : jI} {L L' : jL} (hw : rApart W rtW = true) (q : RT I) (h : gR W I L I' L') : RT2 I I' := by
  have key : ∀ g i j, gI rtW g i j → I' g i j = I g i j := fun g i j z => (h g i j (rApart_of hw z)).1
  refine ⟨fun t ht => ?_, fun t j ht hj => ?_⟩
  · rw [key 37 0 t ⟨(37, (0, 0), (0, 3)), by decide, rfl, by simp, by simp, by simp, by simp; omega⟩]
    exact q.1 t ht
  · rw [key 38 0 (60 * t + j) ⟨(38, (0, 0), (0, 239)), by decide, rfl, by simp, by simp, by simp; omega, by simp; omega⟩]
    exact q.2 t j ht hj
theorem kept_m {I J : jI} (hG : gG aGI I) (q : RD2 I J) {k : Nat} (hk : k < 3) : (I 6 0 k = 0 ∧ J 32 0 (1149 * (k + 1)) = -1) ∨ (¬ I 6 0 k = 0 ∧ J 32 0 (1149 * (k + 1)) = I 4 (2 + k) 15 ∧ 0 ≤ (I 4 (2 + k) 15).toInt) := by
  obtain ⟨-, -, -, -, -, -, qk⟩ := q
  by_cases h : I 6 0 k = 0
  · exact Or.inl ⟨h, (qk k hk).1 h⟩
  · exact Or.inr ⟨h, ((qk k hk).2 h).2.1, (gi_deeds hG (x := 2 + k) (by omega)).1⟩
end
section
/-! findings: every call that may find -/
noncomputable def rfC : List aR := [(0, (0, 0), (13, 13)), (12, (0, 0), (0, 5))]
noncomputable def rfM : List aR := [(31, (0, 0), (13, 13)), (39, (0, 0), (0, 5))]
theorem RF_cells {I I' J J' : jI} (q : RFi I J) (e : ∀ g i j, gI rfC g i j → I' g i j = I g i j) (f : ∀ g i j, gI rfM g i j → J' g i j = J g i j) : RFi I' J' := by
  refine ⟨?_, fun x hx => ?_⟩
  · rw [f 31 0 13 ⟨(31, (0, 0), (13, 13)), by decide, rfl, by simp, by simp, by simp, by simp⟩, e 0 0 13 ⟨(0, (0, 0), (13, 13)), by decide, rfl, by simp, by simp, by simp, by simp⟩]
    exact q.1
  · rw [f 39 0 x ⟨(39, (0, 0), (0, 5)), by decide, rfl, by simp, by simp, by simp, by simp; omega⟩, e 12 0 x ⟨(12, (0, 0), (0, 5)), by decide, rfl, by simp, by simp, by simp, by simp; omega⟩]
    exact q.2 x hx
theorem RF_g {I J I' J' : jI} (q : RFi I J) (a : I' 0 0 13 = I 0 0 13) (b : I' 12 = I 12) (c : J' 31 0 13 = J 31 0 13) (d : J' 39 = J 39) : RFi I' J' := ⟨by rw [a, c]; exact q.1, fun f hf => by rw [b, d]; exact q.2 f hf⟩
theorem text_rf {I J : jI} (t n : Int32) : ∃ s s', d74 t n I = some s ∧ d139 t n J = some s' ∧ s.1 = s'.1 ∧ rfO I s.2 J s'.2 := by
  unfold d74 d139
  rw [names_t, isText_t]
  by_cases h1 : 0 ≤ t.toInt ∧ t.toInt ≤ 3
  · rw [if_pos h1, if_neg one0, if_neg one0]
    by_cases h2 : n ≤ 60
    · rw [if_pos h2, if_pos h2]
      by_cases h3 : 0 ≤ n
      · rw [if_pos h3, if_pos h3]
        obtain ⟨A, a1, a2⟩ := fill_t (y0 := t.toNatClampNeg) (v := 32) 70 0 I (by decide) (by decide) (by decide)
        obtain ⟨B, b1, b2⟩ := fill_m (t := t) (y2 := n) h1.1 h1.2 70 0 (jup J 37 0 t.toNatClampNeg n) (by decide) (by decide) (by decide)
        unfold d20g2 d2g30
        rw [a1, b1]
        have ga : ∀ g, ¬ g = 30 → A g = I g := fun g hg => by
          funext i j
          rw [a2, if_neg (fun z => hg z.1)]
        have gb : ∀ g, ¬ g = 38 → B g = jup J 37 0 t.toNatClampNeg n g := fun g hg => by
          funext i j
          rw [b2, if_neg (fun z => hg z.1)]
        refine ⟨_, _, rfl, rfl, rfl, fun q => RF_g q ?_ ?_ ?_ ?_⟩
        · show jup A 16 0 t.toNatClampNeg n 0 0 13 = _
          rw [jup_g (by decide), ga 0 (by decide)]
        · show jup A 16 0 t.toNatClampNeg n 12 = _
          rw [jup_g (by decide), ga 12 (by decide)]
        · show B 31 0 13 = _
          rw [gb 31 (by decide), jup_g (by decide)]
        · show B 39 = _
          rw [gb 39 (by decide), jup_g (by decide)]
      · rw [if_neg h3, if_neg h3]
        exact ⟨_, _, rfl, rfl, rfl, fun q => RFi_find q⟩
    · rw [if_neg h2, if_neg h2]
      exact ⟨_, _, rfl, rfl, rfl, fun q => q⟩
  · rw [if_neg h1, if_pos rfl, if_pos rfl]
    exact ⟨_, _, rfl, rfl, rfl, fun q => q⟩
theorem put_rf {I J : jI} (t i v : Int32) (hG : gG aGI I) (ht : RT2 I J) : ∃ s s', d75 t i v I = some s ∧ d140 t i v J = some s' ∧ s.1 = s'.1 ∧ rfO I s.2 J s'.2 := by
  unfold d75 d140
  rw [names_t, isText_t]
  by_cases h1 : 0 ≤ t.toInt ∧ t.toInt ≤ 3
  · rw [if_pos h1, if_neg one0, if_neg one0]
    have nt := cl_t h1.1
    have hs := gi_tsz hG (t := t.toNatClampNeg) (by omega)
    have c1 : (1 : Int32).toInt = 1 := rfl
    have cm : (-1 : Int32).toInt = -1 := rfl
    have z0 : (0 : Int64).toInt = 0 := rfl
    have es : (I 16 0 t.toNatClampNeg - 1).toInt = (I 16 0 t.toNatClampNeg).toInt - 1 := by rw [i32_sub (by omega), c1]
    unfold d22g2 d16g2
    rw [ht.1 _ (by omega)]
    by_cases h2 : I 16 0 t.toNatClampNeg = -1
    · have h2' : (I 16 0 t.toNatClampNeg).toInt = -1 := by rw [h2]; rfl
      rw [if_pos h2, if_pos rfl, if_neg one0, if_neg (show ¬ 0 ≤ I 16 0 t.toNatClampNeg by rw [le0_t]; omega)]
      exact ⟨_, _, rfl, rfl, rfl, fun q => RFi_find q⟩
    · have h2' : ¬ (I 16 0 t.toNatClampNeg).toInt = -1 := fun z => h2 (eq_t.mpr (by rw [z, cm]))
      rw [if_neg h2, if_neg one0, if_pos (show 0 ≤ I 16 0 t.toNatClampNeg by rw [le0_t]; omega), in_i, t64, es, z0]
      by_cases h3 : 0 ≤ i.toInt ∧ i.toInt ≤ (I 16 0 t.toNatClampNeg).toInt - 1
      · rw [if_pos h3, if_neg one0, if_neg (show ¬ i < 0 by rw [lt0_t]; omega), if_pos (show i < I 16 0 t.toNatClampNeg by rw [lt_t]; omega), if_pos rfl, ix60 h1.1 h1.2 h3.1 (by omega)]
        have ni := cl_t h3.1
        refine ⟨_, _, rfl, rfl, ?_, fun q => RF_g q rfl rfl rfl rfl⟩
        show d18g2 t i I + 1000 = J 38 0 (60 * t.toNatClampNeg + i.toNatClampNeg) + 1000
        rw [ht.2 _ _ (by omega) (by omega)]
        rfl
      · rw [if_neg h3, if_pos rfl]
        have e2 : (if i < 0 then (2 : Int32) else if i < I 16 0 t.toNatClampNeg then 0 else 2) = 2 := by
          by_cases a : i < 0
          · rw [if_pos a]
          · rw [if_neg a, if_neg (show ¬ i < I 16 0 t.toNatClampNeg from fun z => by rw [lt_t] at z; rw [lt0_t] at a; exact h3 ⟨by omega, by omega⟩)]
        rw [e2, if_neg (show ¬ (2 : Int32) = 0 by decide)]
        exact ⟨_, _, rfl, rfl, rfl, fun q => RFi_find q⟩
  · rw [if_neg h1, if_pos rfl, if_pos rfl]
    exact ⟨_, _, rfl, rfl, rfl, fun q => q⟩
theorem readm_gR2 {t : Int32} {J : jI} {r : Int32 × jI} (hG : gG aGI J) (ht : 0 ≤ t.toInt ∧ t.toInt ≤ 3) (hl : 0 ≤ (J 37 0 t.toNatClampNeg).toInt) (e : d148 t J = some r) : gR rdW J (fun _ _ _ => 0) r.2 (fun _ _ _ => 0) := use_tw (L := fun _ _ _ => 0) (L' := fun _ _ _ => 0) (hd_faultOf (d := 5) (Nat.le_refl _) hG ht.1 ht.2 hl (k := fun _ σ => gR rdW J (fun _ _ _ => 0) σ.1 σ.2) (fun _ _ _ a _ _ _ => a)) (v := some (.inl (.inl r.1))) (I' := r.2) (fun d k hk => D148 e hk)
theorem fault_rf {I J : jI} (t : Int32) (hG : gG aGI I) (hGJ : gG aGI J) (h : RT2 I J) : ∃ s s', d76 t I = some s ∧ d149 t J = some s' ∧ s.1 = s'.1 ∧ rfO I s.2 J s'.2 := by
  unfold d76 d149
  rw [names_t, isText_t]
  by_cases h1 : 0 ≤ t.toInt ∧ t.toInt ≤ 3
  · rw [if_pos h1, if_neg one0, if_neg one0]
    have nt := cl_t h1.1
    have hs := gi_tsz hG (t := t.toNatClampNeg) (by omega)
    have et : J 37 0 t.toNatClampNeg = I 16 0 t.toNatClampNeg := h.1 _ (by omega)
    rw [et]
    unfold d16g2
    have cm : (-1 : Int32).toInt = -1 := rfl
    by_cases h2 : I 16 0 t.toNatClampNeg = -1
    · have h2' : (I 16 0 t.toNatClampNeg).toInt = -1 := by rw [h2]; rfl
      rw [if_pos h2, if_pos rfl, if_neg (show ¬ 0 ≤ I 16 0 t.toNatClampNeg by rw [le0_t]; omega)]
      exact ⟨_, _, rfl, rfl, rfl, fun q => RFi_find q⟩
    · have h2' : ¬ (I 16 0 t.toNatClampNeg).toInt = -1 := fun z => h2 (eq_t.mpr (by rw [z, cm]))
      rw [if_neg h2, if_neg one0, if_pos (show 0 ≤ I 16 0 t.toNatClampNeg by rw [le0_t]; omega)]
      obtain ⟨v, I', J', a1, a2, -⟩ := read_eq (I := I) (J := J) h1 et (fun j hj => h.2 _ j (by omega) hj) ⟨by omega, hs.2⟩
      obtain ⟨g1, g2⟩ := read_gR hG h1 a1
      have g3 := readm_gR2 hGJ h1 (by rw [et]; omega) a2
      rw [a1, a2]
      refine ⟨_, _, rfl, rfl, rfl, fun q => RF_cells q (fun g i j z => (g2 g i j (rApart_of (by decide) z)).1) (fun g i j z => (g3 g i j (rApart_of (by decide) z)).1)⟩
  · rw [if_neg h1, if_pos rfl, if_pos rfl]
    exact ⟨_, _, rfl, rfl, rfl, fun q => q⟩
theorem hoM_of2 {J' : jI} {m : Nat} (hm : m ≤ 6) (hj : (J' 31 0 21).toInt = (m : Int)) : ∃ X, ((d150_39 1200 0 J').bind fun r2 => (d150_85 1200 0 (hoN r2)).bind fun r3 => d150_169 1200 1 r3) = some X ∧ (hoM J' X m ∧ X 31 0 13 = J' 31 0 13) := by
  obtain ⟨U, u1, u2, u3⟩ := z39_m 1200 0 J' (by decide) (by decide) (by decide)
  have z0 : (0 : Int32).toInt = 0 := rfl
  have z1 : (1 : Int32).toInt = 1 := rfl
  rw [z0] at u3
  have u31 : U 31 = J' 31 := u2 31 (by decide)
  have s1 : hoN U 31 0 1 = J' 31 0 18 := by rw [← u31]; rfl
  have s2 : hoN U 31 0 2 = J' 31 0 19 := by rw [← u31]; rfl
  have s3 : hoN U 31 0 3 = J' 31 0 21 := by rw [← u31]; rfl
  have sg : ∀ g, ¬ g = 31 → hoN U g = U g := fun g hg => ((jup_g hg).trans (jup_g hg)).trans (jup_g hg)
  obtain ⟨V, v1, v2, v3, v4, v5, v6⟩ := h85_m hm 1200 0 (hoN U) (by rw [s3]; exact hj) (by decide) (by rw [z0]; omega) (by rw [z0]; show (m : Int) - 0 < 1200; omega)
  rw [z0] at v3 v4 v5 v6
  obtain ⟨X, x1, x2, x3⟩ := h169_m 1200 1 V (by decide) (by decide) (by decide)
  rw [z1] at x3
  have v31 : V 31 = hoN U 31 := v2 31 (by decide) (by decide) (by decide)
  have x31 : X 31 = V 31 := x2 31 (by decide)
  have w40 : hoN U 40 = J' 40 := (sg 40 (by decide)).trans (u2 40 (by decide))
  have lo : ∀ j, j < 1149 → X 32 0 j = V 32 0 j := fun j h => by rw [x3, if_neg (fun z => by omega)]
  refine ⟨X, ?_, ⟨⟨?_, ?_, ?_⟩, fun i hi => ⟨⟨?_, ?_⟩, ?_, ?_⟩, fun j h => ?_, ⟨?_, ?_, ?_⟩, fun g g1 g2 g3 g4 => ?_⟩, ?_⟩
  · rw [u1]; dsimp only [Option.bind_some]; rw [v1]; exact x1
  · rw [x31, v31, s1]
  · rw [x31, v31, s2]
  · rw [x31, v31, s3]
  · rw [x2 33 (by decide), v3, if_pos ⟨by omega, hi⟩, w40]
  · rw [x2 34 (by decide), v4, if_pos ⟨by omega, hi⟩, w40]
  · rw [lo _ (by omega), (v5 i hi (by omega)).1, w40]
  · rw [lo _ (by omega), (v5 i hi (by omega)).2, w40]
  · rw [lo j (by omega), v6 j (fun i _ _ => ⟨by omega, by omega⟩), sg 32 (by decide), u3, if_pos (by omega)]
  · rw [x3, if_pos (Or.inl ⟨rfl, by decide⟩)]
  · rw [x3, if_pos (Or.inr (Or.inl ⟨rfl, by decide⟩))]
  · rw [x3, if_pos (Or.inr (Or.inr ⟨rfl, by decide⟩))]
  · rw [x2 g g2, v2 g g2 g3 g4, sg g g1, u2 g g2]
  · rw [x31, v31]
    show U 31 0 13 = _
    rw [u31]
theorem house_rf {I J : jI} (t : Int32) (hG : gG aGI I) (hGJ : gG aGI J) (h : RT2 I J) : ∃ s s', d77 t I = some s ∧ d150 t J = some s' ∧ s.1 = s'.1 ∧ rfO I s.2 J s'.2 := by
  unfold d77 d150
  rw [names_t, isText_t]
  by_cases h1 : 0 ≤ t.toInt ∧ t.toInt ≤ 3
  · rw [if_pos h1, if_neg one0, if_neg one0]
    have nt := cl_t h1.1
    have hs := gi_tsz hG (t := t.toNatClampNeg) (by omega)
    have et : J 37 0 t.toNatClampNeg = I 16 0 t.toNatClampNeg := h.1 _ (by omega)
    rw [et]
    unfold d16g2
    have cm : (-1 : Int32).toInt = -1 := rfl
    by_cases h2 : I 16 0 t.toNatClampNeg = -1
    · have h2' : (I 16 0 t.toNatClampNeg).toInt = -1 := by rw [h2]; rfl
      rw [if_pos h2, if_pos rfl, if_neg (show ¬ 0 ≤ I 16 0 t.toNatClampNeg by rw [le0_t]; omega)]
      exact ⟨_, _, rfl, rfl, rfl, fun q => RFi_find q⟩
    · have h2' : ¬ (I 16 0 t.toNatClampNeg).toInt = -1 := fun z => h2 (eq_t.mpr (by rw [z, cm]))
      rw [if_neg h2, if_neg one0, if_pos (show 0 ≤ I 16 0 t.toNatClampNeg by rw [le0_t]; omega)]
      obtain ⟨v, I', J', a1, a2, a3⟩ := read_eq (I := I) (J := J) h1 et (fun j hj => h.2 _ j (by omega) hj) ⟨by omega, hs.2⟩
      obtain ⟨g1, g2⟩ := read_gR hG h1 a1
      have g3 := readm_gR2 hGJ h1 (by rw [et]; omega) a2
      have mid : RFi I J → RFi I' J' := fun q => RF_cells q (fun g i j z => (g2 g i j (rApart_of (by decide) z)).1) (fun g i j z => (g3 g i j (rApart_of (by decide) z)).1)
      rw [a1, a2]
      dsimp only [Option.bind_some]
      rcases a3 with ⟨rfl, m, m1, m6, rp, rn⟩ | a3
      · rw [if_pos rfl, if_pos rfl]
        obtain ⟨T, t1, t2⟩ := hoC_of (I' := I')
        obtain ⟨X, x1, x2⟩ := hoM_of2 (J' := J') m6 rp.2.1
        have eC := bind3 (d28 0 5 I') (fun r2 => d28 1 0 r2) (fun r3 => d77_77 70 0 r3) (fun r4 => (r4 4 1 6, r4))
        rw [t1] at eC
        have eM := bind3 (d150_39 1200 0 J') (fun r2 => d150_85 1200 0 (hoN r2)) (fun r3 => d150_169 1200 1 r3) (fun r4 => (r4 31 0 3, r4))
        rw [x1] at eM
        refine ⟨(T 4 1 6, T), (X 31 0 3, X), eC, eM, ?_, fun q => RF_g (mid q) ?_ ?_ ?_ ?_⟩
        · show T 4 1 6 = X 31 0 3
          rw [(t2.1 1 (by decide)).1 6 (by decide) (by decide), x2.1.1.2.2]
          exact eq_t.mpr (rp.1.trans rp.2.1.symm)
        · show T 0 0 13 = _
          rw [t2.2.2.2 0 (by decide) (by decide) (by omega)]
        · show T 12 = _
          rw [t2.2.2.2 12 (by decide) (by decide) (by omega)]
        · exact x2.2
        · show X 39 = _
          rw [x2.1.2.2.2.2 39 (by decide) (by decide) (by decide) (by decide)]
      · rw [if_neg (ne9 a3), if_neg (ne9 a3)]
        exact ⟨_, _, rfl, rfl, rfl, mid⟩
  · rw [if_neg h1, if_pos rfl, if_pos rfl]
    exact ⟨_, _, rfl, rfl, rfl, fun q => q⟩
theorem mark_rf {I J : jI} (i w : Int32) (hG : gG aGI I) (q : RD2 I J) : ∃ s s', d79 i w I = some s ∧ d160 i w J = some s' ∧ s.1 = s'.1 ∧ rfO I s.2 J s'.2 := by
  have c := RD_cur hG q
  have hp := gi_packets hG
  have c3 : J 31 0 3 = I 4 1 6 := c.1.1.1
  have z0 : (0 : Int32).toInt = 0 := rfl
  obtain ⟨a, b, ea, eb, eab⟩ := mark_an i w hG q
  refine ⟨a, b, ea, eb, eab, ?_⟩
  unfold d79 at ea
  unfold d160 at eb
  rw [has_c] at ea
  rw [isP_m (by rw [c3]; exact hp), c3, in_i] at eb
  by_cases h1 : 0 ≤ i.toInt ∧ i.toInt < (I 4 1 6).toInt
  · rw [if_pos h1, if_neg one0] at ea eb
    obtain ⟨hi, hi5, hm0⟩ := RD_hi c h1
    have ai := c.1.2.2.1 _ hi
    by_cases h2 : 1 ≤ w.toInt ∧ w.toInt ≤ 5
    · have hw : w = 1 ∨ w = 2 ∨ w = 3 ∨ w = 4 ∨ w = 5 := by
        have : w.toInt = 1 ∨ w.toInt = 2 ∨ w.toInt = 3 ∨ w.toInt = 4 ∨ w.toInt = 5 := by omega
        rcases this with z | z | z | z | z
        · exact Or.inl (eq_t.mpr z)
        · exact Or.inr (Or.inl (eq_t.mpr z))
        · exact Or.inr (Or.inr (Or.inl (eq_t.mpr z)))
        · exact Or.inr (Or.inr (Or.inr (Or.inl (eq_t.mpr z))))
        · exact Or.inr (Or.inr (Or.inr (Or.inr (eq_t.mpr z))))
      rw [if_neg (show ¬ w ≤ 0 by rw [le_t, z0]; omega), if_pos (show w < 6 by rw [lt_t]; show w.toInt < 6; omega)] at ea
      rw [if_pos (show (1 : Int64).toInt ≤ w.toInt ∧ w.toInt ≤ (5 : Int64).toInt from h2), if_neg one0] at eb
      have hA := isA_cm (k := I 18 1 i.toNatClampNeg) (w := w) (I := I) (J := J) ai.2.1 hw
      unfold d159 at eb
      rw [ai.2.1] at eb
      by_cases h3 : d3 (I 18 1 i.toNatClampNeg) w I = 0
      · rw [if_pos h3] at ea
        rw [if_pos (hA.mp h3)] at eb
        cases ea
        cases eb
        exact fun q => RFi_find q
      · rw [if_neg h3] at ea
        rw [if_neg (fun z => h3 (hA.mpr z))] at eb
        cases ea
        have sb : b.2 = J := by
          rcases hw with rfl | rfl | rfl | rfl | rfl <;> cases eb <;> rfl
        rw [show rfO I (d41 1 i w I, I).2 J b.2 = rfO I I J J by rw [sb]]
        exact fun q => q
    · have na : a.2 = I := by
        by_cases h3 : w ≤ 0
        · rw [if_pos h3] at ea
          cases ea
          rfl
        · rw [if_neg h3, if_neg (show ¬ w < 6 from fun z => by rw [lt_t] at z; have z : w.toInt < 6 := z; rw [le_t, z0] at h3; exact h2 ⟨by omega, by omega⟩)] at ea
          cases ea
          rfl
      rw [if_neg (show ¬ ((1 : Int64).toInt ≤ w.toInt ∧ w.toInt ≤ (5 : Int64).toInt) from h2), if_pos rfl] at eb
      cases eb
      rw [show rfO I a.2 J (-1, J).2 = rfO I I J J by rw [na]]
      exact fun q => q
  · rw [if_neg h1, if_pos rfl] at ea eb
    cases ea
    cases eb
    exact fun q => q
theorem on_rf {I J : jI} (k : Int32) (hG : gG aGI I) (q : RD2 I J) : ∃ s s', d88 k I = some s ∧ d176 k J = some s' ∧ s.1 = s'.1 ∧ rfO I s.2 J s'.2 := by
  obtain ⟨a, b, ea, eb, eab, -⟩ := on_eq k hG q
  refine ⟨a, b, ea, eb, eab, ?_⟩
  unfold d88 at ea
  unfold d176 at eb
  rw [in_i] at eb
  by_cases h0 : k.toInt < 0
  · rw [if_pos (lt0_t.mpr h0)] at ea
    rw [if_neg (show ¬ ((0 : Int64).toInt ≤ k.toInt ∧ k.toInt ≤ (2 : Int64).toInt) from fun z => by have z1 : 0 ≤ k.toInt := z.1; omega), if_pos rfl] at eb
    cases ea
    cases eb
    exact fun q => q
  rw [if_neg (fun z => h0 (lt0_t.mp z))] at ea
  by_cases h2 : k.toInt ≤ 2
  · rw [if_pos (show k < 3 by rw [lt_t]; show k.toInt < 3; omega)] at ea
    rw [if_pos (show (0 : Int64).toInt ≤ k.toInt ∧ k.toInt ≤ (2 : Int64).toInt from ⟨by show 0 ≤ k.toInt; omega, h2⟩), if_neg one0] at eb
    have nk := cl_t (x := k) (by omega)
    have bk := b_of (k := k) (by omega) h2
    have e0 : Int32.toNatClampNeg (1149 * (1 + k) + 0) = 1149 * (k.toNatClampNeg + 1) := by
      have := cl_t (x := 1149 * (1 + k)) (by omega)
      rw [Int32.add_zero]
      omega
    rw [e0] at eb
    rcases kept_m hG q (k := k.toNatClampNeg) (by omega) with ⟨x, y⟩ | ⟨x, y, z⟩
    · rw [if_pos x] at ea
      rw [y, if_neg (show ¬ (0 : Int32) ≤ -1 by decide)] at eb
      cases ea
      cases eb
      exact fun q => RFi_find q
    · rw [if_neg x, d28_t] at ea
      rw [y, if_pos (show 0 ≤ I 4 (2 + k.toNatClampNeg) 15 by rw [le0_t]; exact z)] at eb
      obtain ⟨Y, y1, y2, y3, y4⟩ := cp_m (a := 1149 * (1 + k)) (b := 0) (p := 1149 * (k.toNatClampNeg + 1)) (q := 0) (J := J) bk rfl (by omega) (by decide) (by omega)
      rw [y1] at eb
      cases ea
      cases eb
      refine fun q => RF_g q ?_ ?_ ?_ ?_
      · show taT 1 (2 + k.toNatClampNeg) I 0 0 13 = _
        rw [ta_ot (by decide)]
      · show taT 1 (2 + k.toNatClampNeg) I 12 = _
        funext i j
        by_cases e : i = 1
        · subst e
          unfold taT
          rw [ta_c (by decide), if_neg (fun z => by have := z.2; omega)]
        · rw [ta_ot e]
      · show Y 31 0 13 = _
        rw [y4 31 (by decide)]
      · show Y 39 = _
        rw [y4 39 (by decide)]
  · rw [if_neg (show ¬ k < 3 by rw [lt_t]; show ¬ k.toInt < 3; omega)] at ea
    rw [if_neg (show ¬ ((0 : Int64).toInt ≤ k.toInt ∧ k.toInt ≤ (2 : Int64).toInt) from fun z => h2 z.2), if_pos rfl] at eb
    cases ea
    cases eb
    exact fun q => q
end
section
theorem Pr99 {d : Nat} {a1 a2 : Int32} {I : jI} {L : jL} {K : jK} (hG : gG aGI I) (q : RD2 I I) (h : RR I I) (hK : jPM d 99 [.inr (0, 0), .inl (.inl a1), .inl (.inl a2)] (I, L) K) : jPM d 99 [.inr (0, 0), .inl (.inl a1), .inl (.inl a2)] (I, L) (fun v σ => (∃ r, d99 a1 a2 I = some r ∧ v = some (.inl (.inl r.1)) ∧ σ.1 = r.2) ∧ K v σ) := by
  obtain ⟨r, r', e, e', -⟩ := kinds_eq a1 a2 hG q h
  exact jPM_and (D99 e ⟨r, e, rfl, rfl⟩) hK
theorem Pr195 {d : Nat} {a1 a2 : Int32} {I I1 : jI} {L : jL} {K : jK} (hG : gG aGI I) (q : RD2 I I1) (h : RR I I1) (hK : jPM d 195 [.inr (31, 0), .inl (.inl a1), .inl (.inl a2)] (I1, L) K) : jPM d 195 [.inr (31, 0), .inl (.inl a1), .inl (.inl a2)] (I1, L) (fun v σ => (∃ r, d195 a1 a2 I1 = some r ∧ v = some (.inl (.inl r.1)) ∧ σ.1 = r.2) ∧ K v σ) := by
  obtain ⟨r, r', e, e', -⟩ := kinds_eq a1 a2 hG q h
  exact jPM_and (D195 e' ⟨r', e', rfl, rfl⟩) hK
theorem Qr99 {a1 a2 : Int32} {x1 x2 : Int32} {I I1 I2 : jI} (hG : gG aGI I) (q : RD2 I I1) (h : RR I I1) (q1 : ∃ r, d99 a1 a2 I = some r ∧ (some (.inl (.inl x1)) : Option jV) = some (.inl (.inl r.1)) ∧ I1 = r.2) (q2 : ∃ r, d195 a1 a2 I1 = some r ∧ (some (.inl (.inl x2)) : Option jV) = some (.inl (.inl r.1)) ∧ I2 = r.2) : x1 = x2 ∧ RR I1 I2 := by
  obtain ⟨s, c1, c2, c3⟩ := q1
  obtain ⟨r, r', e, e', k, z, -⟩ := kinds_eq a1 a2 hG q h
  obtain ⟨s', b1, b2, b3⟩ := q2
  rw [e] at c1
  rw [e'] at b1
  cases c1
  cases b1
  cases c2
  cases b2
  rw [← b3] at z
  rw [← c3] at z
  exact ⟨k, z⟩
theorem Pr100 {d : Nat} {a1 a2 : Int32} {I : jI} {L : jL} {K : jK} (hG : gG aGI I) (q : RD2 I I) (h : RR I I) (hK : jPM d 100 [.inr (0, 0), .inl (.inl a1), .inl (.inl a2)] (I, L) K) : jPM d 100 [.inr (0, 0), .inl (.inl a1), .inl (.inl a2)] (I, L) (fun v σ => (∃ r, d100 a1 a2 I = some r ∧ v = some (.inl (.inl r.1)) ∧ σ.1 = r.2) ∧ K v σ) := by
  obtain ⟨r, r', e, e', -⟩ := prices_eq a1 a2 hG q h
  exact jPM_and (D100 e ⟨r, e, rfl, rfl⟩) hK
theorem Pr196 {d : Nat} {a1 a2 : Int32} {I I1 : jI} {L : jL} {K : jK} (hG : gG aGI I) (q : RD2 I I1) (h : RR I I1) (hK : jPM d 196 [.inr (31, 0), .inl (.inl a1), .inl (.inl a2)] (I1, L) K) : jPM d 196 [.inr (31, 0), .inl (.inl a1), .inl (.inl a2)] (I1, L) (fun v σ => (∃ r, d196 a1 a2 I1 = some r ∧ v = some (.inl (.inl r.1)) ∧ σ.1 = r.2) ∧ K v σ) := by
  obtain ⟨r, r', e, e', -⟩ := prices_eq a1 a2 hG q h
  exact jPM_and (D196 e' ⟨r', e', rfl, rfl⟩) hK
theorem Qr100 {a1 a2 : Int32} {x1 x2 : Int32} {I I1 I2 : jI} (hG : gG aGI I) (q : RD2 I I1) (h : RR I I1) (q1 : ∃ r, d100 a1 a2 I = some r ∧ (some (.inl (.inl x1)) : Option jV) = some (.inl (.inl r.1)) ∧ I1 = r.2) (q2 : ∃ r, d196 a1 a2 I1 = some r ∧ (some (.inl (.inl x2)) : Option jV) = some (.inl (.inl r.1)) ∧ I2 = r.2) : x1 = x2 ∧ RR I1 I2 := by
  obtain ⟨s, c1, c2, c3⟩ := q1
  obtain ⟨r, r', e, e', k, z, -⟩ := prices_eq a1 a2 hG q h
  obtain ⟨s', b1, b2, b3⟩ := q2
  rw [e] at c1
  rw [e'] at b1
  cases c1
  cases b1
  cases c2
  cases b2
  rw [← b3] at z
  rw [← c3] at z
  exact ⟨k, z⟩
end
section
theorem RF_gR {W : List aR} {I I' : jI} {L L' : jL} (hw : rApart W rfC = true) (hw' : rApart W rfM = true) (q : RFi I I) (h : gR W I L I' L') : RFi I' I' := RF_cells q (fun g i j z => (h g i j (rApart_of hw z)).1) (fun g i j z => (h g i j (rApart_of hw' z)).1)
theorem RF_mid {W : List aR} {I I' : jI} {L L' : jL} (hw : rApart W rfM = true) (q : RFi I I) (h : gR W I L I' L') : RFi I I' := RF_cells q (fun _ _ _ _ => rfl) (fun g i j z => (h g i j (rApart_of hw z)).1)
theorem RF_end {W : List aR} {I I' : jI} {L L' : jL} (hw : rApart W rfC = true) (q : RFi I I') (h : gR W I L I' L') : RFi I' I' := RF_cells q (fun g i j z => (h g i j (rApart_of hw z)).1) (fun _ _ _ _ => rfl)
theorem RF_fr {W : List Nat} {I I' : jI} (q : RFi I I) (f : fr W I I') (hw : (jel 1013 W || jel 12 W || jel 32013 W || jel 39 W) = false) : RFi I' I' := by
  simp only [Bool.or_eq_false_iff] at hw
  obtain ⟨⟨⟨w1, w2⟩, w3⟩, w4⟩ := hw
  exact RF_g q (f 0 0 13 w1) (fr_arr f (fun _ => rfl) w2) (f 31 0 13 w3) (fr_arr f (fun _ => rfl) w4)
theorem RF_frM {W : List Nat} {I I' : jI} (q : RFi I I) (f : fr W I I') (hw : (jel 32013 W || jel 39 W) = false) : RFi I I' := by
  simp only [Bool.or_eq_false_iff] at hw
  exact RF_g q rfl rfl (f 31 0 13 hw.1) (fr_arr f (fun _ => rfl) hw.2)
theorem RF_frC {W : List Nat} {I I' : jI} (q : RFi I I') (f : fr W I I') (hw : (jel 1013 W || jel 12 W) = false) : RFi I' I' := by
  simp only [Bool.or_eq_false_iff] at hw
  exact RF_g q (f 0 0 13 hw.1) (fr_arr f (fun _ => rfl) hw.2) rfl rfl
theorem Pf74 {d : Nat} {a1 a2 : Int32} {I : jI} {L : jL}  : jPM d 74 [.inr (0, 0), .inl (.inl a1), .inl (.inl a2)] (I, L) (fun v σ => ∃ r, d74 a1 a2 I = some r ∧ v = some (.inl (.inl r.1)) ∧ σ.1 = r.2) := by
  obtain ⟨r, r', e, e', -⟩ := text_rf (I := I) (J := I) a1 a2
  exact D74 e ⟨r, e, rfl, rfl⟩
theorem Pf139 {d : Nat} {a1 a2 : Int32} {I1 : jI} {L : jL}  : jPM d 139 [.inr (31, 0), .inl (.inl a1), .inl (.inl a2)] (I1, L) (fun v σ => ∃ r, d139 a1 a2 I1 = some r ∧ v = some (.inl (.inl r.1)) ∧ σ.1 = r.2) := by
  obtain ⟨r, r', e, e', -⟩ := text_rf (I := I1) (J := I1) a1 a2
  exact D139 e' ⟨r', e', rfl, rfl⟩
theorem Qf74 {a1 a2 : Int32} {x1 x2 : Int32} {I I1 I2 : jI}  (h : RFi I I1) (q1 : ∃ r, d74 a1 a2 I = some r ∧ (some (.inl (.inl x1)) : Option jV) = some (.inl (.inl r.1)) ∧ I1 = r.2) (q2 : ∃ r, d139 a1 a2 I1 = some r ∧ (some (.inl (.inl x2)) : Option jV) = some (.inl (.inl r.1)) ∧ I2 = r.2) : RFi I1 I2 := by
  obtain ⟨s, c1, c2, c3⟩ := q1
  obtain ⟨r, r', e, e', -, z⟩ := text_rf (I := I) (J := I1) a1 a2
  obtain ⟨s', b1, b2, b3⟩ := q2
  rw [e] at c1
  rw [e'] at b1
  cases c1
  cases b1
  have z := z h
  rw [← b3] at z
  rw [← c3] at z
  exact z
theorem Pf75 {d : Nat} {a1 a2 a3 : Int32} {I : jI} {L : jL} (hG : gG aGI I) (ht : RT2 I I) : jPM d 75 [.inr (0, 0), .inl (.inl a1), .inl (.inl a2), .inl (.inl a3)] (I, L) (fun v σ => ∃ r, d75 a1 a2 a3 I = some r ∧ v = some (.inl (.inl r.1)) ∧ σ.1 = r.2) := by
  obtain ⟨r, r', e, e', -⟩ := put_rf a1 a2 a3 hG ht
  exact D75 e ⟨r, e, rfl, rfl⟩
theorem Pf140 {d : Nat} {a1 a2 a3 : Int32} {I I1 : jI} {L : jL} (hG : gG aGI I) (ht : RT2 I I1) : jPM d 140 [.inr (31, 0), .inl (.inl a1), .inl (.inl a2), .inl (.inl a3)] (I1, L) (fun v σ => ∃ r, d140 a1 a2 a3 I1 = some r ∧ v = some (.inl (.inl r.1)) ∧ σ.1 = r.2) := by
  obtain ⟨r, r', e, e', -⟩ := put_rf a1 a2 a3 hG ht
  exact D140 e' ⟨r', e', rfl, rfl⟩
theorem Qf75 {a1 a2 a3 : Int32} {x1 x2 : Int32} {I I1 I2 : jI} (hG : gG aGI I) (ht : RT2 I I1) (h : RFi I I1) (q1 : ∃ r, d75 a1 a2 a3 I = some r ∧ (some (.inl (.inl x1)) : Option jV) = some (.inl (.inl r.1)) ∧ I1 = r.2) (q2 : ∃ r, d140 a1 a2 a3 I1 = some r ∧ (some (.inl (.inl x2)) : Option jV) = some (.inl (.inl r.1)) ∧ I2 = r.2) : RFi I1 I2 := by
  obtain ⟨s, c1, c2, c3⟩ := q1
  obtain ⟨r, r', e, e', -, z⟩ := put_rf a1 a2 a3 hG ht
  obtain ⟨s', b1, b2, b3⟩ := q2
  rw [e] at c1
  rw [e'] at b1
  cases c1
  cases b1
  have z := z h
  rw [← b3] at z
  rw [← c3] at z
  exact z
theorem Pf76 {d : Nat} {a1 : Int32} {I : jI} {L : jL} (hG : gG aGI I) (hGJ : gG aGI I) (ht : RT2 I I) : jPM d 76 [.inr (0, 0), .inl (.inl a1)] (I, L) (fun v σ => ∃ r, d76 a1 I = some r ∧ v = some (.inl (.inl r.1)) ∧ σ.1 = r.2) := by
  obtain ⟨r, r', e, e', -⟩ := fault_rf a1 hG hGJ ht
  exact D76 e ⟨r, e, rfl, rfl⟩
theorem Pf149 {d : Nat} {a1 : Int32} {I I1 : jI} {L : jL} (hG : gG aGI I) (hGJ : gG aGI I1) (ht : RT2 I I1) : jPM d 149 [.inr (31, 0), .inl (.inl a1)] (I1, L) (fun v σ => ∃ r, d149 a1 I1 = some r ∧ v = some (.inl (.inl r.1)) ∧ σ.1 = r.2) := by
  obtain ⟨r, r', e, e', -⟩ := fault_rf a1 hG hGJ ht
  exact D149 e' ⟨r', e', rfl, rfl⟩
theorem Qf76 {a1 : Int32} {x1 x2 : Int32} {I I1 I2 : jI} (hG : gG aGI I) (hGJ : gG aGI I1) (ht : RT2 I I1) (h : RFi I I1) (q1 : ∃ r, d76 a1 I = some r ∧ (some (.inl (.inl x1)) : Option jV) = some (.inl (.inl r.1)) ∧ I1 = r.2) (q2 : ∃ r, d149 a1 I1 = some r ∧ (some (.inl (.inl x2)) : Option jV) = some (.inl (.inl r.1)) ∧ I2 = r.2) : RFi I1 I2 := by
  obtain ⟨s, c1, c2, c3⟩ := q1
  obtain ⟨r, r', e, e', -, z⟩ := fault_rf a1 hG hGJ ht
  obtain ⟨s', b1, b2, b3⟩ := q2
  rw [e] at c1
  rw [e'] at b1
  cases c1
  cases b1
  have z := z h
  rw [← b3] at z
  rw [← c3] at z
  exact z
theorem Pf79 {d : Nat} {a1 a2 : Int32} {I : jI} {L : jL} (hG : gG aGI I) (q : RD2 I I) : jPM d 79 [.inr (0, 0), .inl (.inl a1), .inl (.inl a2)] (I, L) (fun v σ => ∃ r, d79 a1 a2 I = some r ∧ v = some (.inl (.inl r.1)) ∧ σ.1 = r.2) := by
  obtain ⟨r, r', e, e', -⟩ := mark_rf a1 a2 hG q
  exact D79 e ⟨r, e, rfl, rfl⟩
theorem Pf160 {d : Nat} {a1 a2 : Int32} {I I1 : jI} {L : jL} (hG : gG aGI I) (q : RD2 I I1) : jPM d 160 [.inr (31, 0), .inl (.inl a1), .inl (.inl a2)] (I1, L) (fun v σ => ∃ r, d160 a1 a2 I1 = some r ∧ v = some (.inl (.inl r.1)) ∧ σ.1 = r.2) := by
  obtain ⟨r, r', e, e', -⟩ := mark_rf a1 a2 hG q
  exact D160 e' ⟨r', e', rfl, rfl⟩
theorem Qf79 {a1 a2 : Int32} {x1 x2 : Int32} {I I1 I2 : jI} (hG : gG aGI I) (q : RD2 I I1) (h : RFi I I1) (q1 : ∃ r, d79 a1 a2 I = some r ∧ (some (.inl (.inl x1)) : Option jV) = some (.inl (.inl r.1)) ∧ I1 = r.2) (q2 : ∃ r, d160 a1 a2 I1 = some r ∧ (some (.inl (.inl x2)) : Option jV) = some (.inl (.inl r.1)) ∧ I2 = r.2) : RFi I1 I2 := by
  obtain ⟨s, c1, c2, c3⟩ := q1
  obtain ⟨r, r', e, e', -, z⟩ := mark_rf a1 a2 hG q
  obtain ⟨s', b1, b2, b3⟩ := q2
  rw [e] at c1
  rw [e'] at b1
  cases c1
  cases b1
  have z := z h
  rw [← b3] at z
  rw [← c3] at z
  exact z
theorem Qf77 {a1 : Int32} {x1 x2 : Int32} {I I1 I2 : jI} (hG : gG aGI I) (hGJ : gG aGI I1) (ht : RT2 I I1) (h : RFi I I1) (q1 : ∃ r, d77 a1 I = some r ∧ (some (.inl (.inl x1)) : Option jV) = some (.inl (.inl r.1)) ∧ I1 = r.2) (q2 : ∃ r, d150 a1 I1 = some r ∧ (some (.inl (.inl x2)) : Option jV) = some (.inl (.inl r.1)) ∧ I2 = r.2) : RFi I1 I2 := by
  obtain ⟨s, c1, c2, c3⟩ := q1
  obtain ⟨r, r', e, e', -, z⟩ := house_rf a1 hG hGJ ht
  obtain ⟨s', b1, b2, b3⟩ := q2
  rw [e] at c1
  rw [e'] at b1
  cases c1
  cases b1
  have z := z h
  rw [← b3] at z
  rw [← c3] at z
  exact z
theorem Qf88 {a1 : Int32} {x1 x2 : Int32} {I I1 I2 : jI} (hG : gG aGI I) (q : RD2 I I1) (h : RFi I I1) (q1 : ∃ r, d88 a1 I = some r ∧ (some (.inl (.inl x1)) : Option jV) = some (.inl (.inl r.1)) ∧ I1 = r.2) (q2 : ∃ r, d176 a1 I1 = some r ∧ (some (.inl (.inl x2)) : Option jV) = some (.inl (.inl r.1)) ∧ I2 = r.2) : RFi I1 I2 := by
  obtain ⟨s, c1, c2, c3⟩ := q1
  obtain ⟨r, r', e, e', -, z⟩ := on_rf a1 hG q
  obtain ⟨s', b1, b2, b3⟩ := q2
  rw [e] at c1
  rw [e'] at b1
  cases c1
  cases b1
  have z := z h
  rw [← b3] at z
  rw [← c3] at z
  exact z
theorem Qs68 {a1 a2 : Int32} {x1 x2 : Int32} {I I1 I2 : jI} (hG : gG aGI I) (q : RD2 I I1) (h : RR I I1) (hf : RFi I I1) (q1 : ∃ r, d68 a1 a2 I = some r ∧ (some (.inl (.inl x1)) : Option jV) = some (.inl (.inl r.1)) ∧ I1 = r.2) (q2 : ∃ r, d130 a1 a2 I1 = some r ∧ (some (.inl (.inl x2)) : Option jV) = some (.inl (.inl r.1)) ∧ I2 = r.2) : RFi I1 I2 := by
  obtain ⟨s, c1, c2, c3⟩ := q1
  obtain ⟨r, r', e, e', -, -, z⟩ := row_eq a1 a2 h
  obtain ⟨s', b1, b2, b3⟩ := q2
  rw [e] at c1
  rw [e'] at b1
  cases c1
  cases b1
  have z := z hf
  rw [← b3] at z
  rw [← c3] at z
  exact z
theorem Qs69 {a1 a2 a3 : Int32} {x1 x2 : Int32} {I I1 I2 : jI} (hG : gG aGI I) (q : RD2 I I1) (h : RR I I1) (hf : RFi I I1) (q1 : ∃ r, d69 a1 a2 a3 I = some r ∧ (some (.inl (.inl x1)) : Option jV) = some (.inl (.inl r.1)) ∧ I1 = r.2) (q2 : ∃ r, d133 a1 a2 a3 I1 = some r ∧ (some (.inl (.inl x2)) : Option jV) = some (.inl (.inl r.1)) ∧ I2 = r.2) : RFi I1 I2 := by
  obtain ⟨s, c1, c2, c3⟩ := q1
  obtain ⟨r, r', e, e', -, -, z⟩ := lay_eq a1 a2 a3 hG h
  obtain ⟨s', b1, b2, b3⟩ := q2
  rw [e] at c1
  rw [e'] at b1
  cases c1
  cases b1
  have z := z hf
  rw [← b3] at z
  rw [← c3] at z
  exact z
theorem Qs70 {a1 a2 : Int32} {x1 x2 : Int32} {I I1 I2 : jI} (hG : gG aGI I) (q : RD2 I I1) (h : RR I I1) (hf : RFi I I1) (q1 : ∃ r, d70 a1 a2 I = some r ∧ (some (.inl (.inl x1)) : Option jV) = some (.inl (.inl r.1)) ∧ I1 = r.2) (q2 : ∃ r, d134 a1 a2 I1 = some r ∧ (some (.inl (.inl x2)) : Option jV) = some (.inl (.inl r.1)) ∧ I2 = r.2) : RFi I1 I2 := by
  obtain ⟨s, c1, c2, c3⟩ := q1
  obtain ⟨r, r', e, e', -, -, z⟩ := at_eq a1 a2 hG h
  obtain ⟨s', b1, b2, b3⟩ := q2
  rw [e] at c1
  rw [e'] at b1
  cases c1
  cases b1
  have z := z hf
  rw [← b3] at z
  rw [← c3] at z
  exact z
theorem Qs71 {a1 : Int32} {x1 x2 : Int32} {I I1 I2 : jI} (hG : gG aGI I) (q : RD2 I I1) (h : RR I I1) (hf : RFi I I1) (q1 : ∃ r, d71 a1 I = some r ∧ (some (.inl (.inl x1)) : Option jV) = some (.inl (.inl r.1)) ∧ I1 = r.2) (q2 : ∃ r, d135 a1 I1 = some r ∧ (some (.inl (.inl x2)) : Option jV) = some (.inl (.inl r.1)) ∧ I2 = r.2) : RFi I1 I2 := by
  obtain ⟨s, c1, c2, c3⟩ := q1
  obtain ⟨r, r', e, e', -, -, z⟩ := tear_eq a1 hG h
  obtain ⟨s', b1, b2, b3⟩ := q2
  rw [e] at c1
  rw [e'] at b1
  cases c1
  cases b1
  have z := z hf
  rw [← b3] at z
  rw [← c3] at z
  exact z
theorem Qs72 {a1 a2 a3 a4 a5 : Int32} {x1 x2 : Int32} {I I1 I2 : jI} (hG : gG aGI I) (q : RD2 I I1) (h : RR I I1) (hf : RFi I I1) (q1 : ∃ r, d72 a1 a2 a3 a4 a5 I = some r ∧ (some (.inl (.inl x1)) : Option jV) = some (.inl (.inl r.1)) ∧ I1 = r.2) (q2 : ∃ r, d137 a1 a2 a3 a4 a5 I1 = some r ∧ (some (.inl (.inl x2)) : Option jV) = some (.inl (.inl r.1)) ∧ I2 = r.2) : RFi I1 I2 := by
  obtain ⟨s, c1, c2, c3⟩ := q1
  obtain ⟨r, r', e, e', -, -, z⟩ := copy_eq a1 a2 a3 a4 a5 hG h
  obtain ⟨s', b1, b2, b3⟩ := q2
  rw [e] at c1
  rw [e'] at b1
  cases c1
  cases b1
  have z := z hf
  rw [← b3] at z
  rw [← c3] at z
  exact z
theorem Qs73 {a1 : Int32} {x1 x2 : Int32} {I I1 I2 : jI} (hG : gG aGI I) (q : RD2 I I1) (h : RR I I1) (hf : RFi I I1) (q1 : ∃ r, d73 a1 I = some r ∧ (some (.inl (.inl x1)) : Option jV) = some (.inl (.inl r.1)) ∧ I1 = r.2) (q2 : ∃ r, d138 a1 I1 = some r ∧ (some (.inl (.inl x2)) : Option jV) = some (.inl (.inl r.1)) ∧ I2 = r.2) : RFi I1 I2 := by
  obtain ⟨s, c1, c2, c3⟩ := q1
  obtain ⟨r, r', e, e', -, -, z⟩ := mean_eq a1 hG h
  obtain ⟨s', b1, b2, b3⟩ := q2
  rw [e] at c1
  rw [e'] at b1
  cases c1
  cases b1
  have z := z hf
  rw [← b3] at z
  rw [← c3] at z
  exact z
theorem Qs99 {a1 a2 : Int32} {x1 x2 : Int32} {I I1 I2 : jI} (hG : gG aGI I) (q : RD2 I I1) (h : RR I I1) (hf : RFi I I1) (q1 : ∃ r, d99 a1 a2 I = some r ∧ (some (.inl (.inl x1)) : Option jV) = some (.inl (.inl r.1)) ∧ I1 = r.2) (q2 : ∃ r, d195 a1 a2 I1 = some r ∧ (some (.inl (.inl x2)) : Option jV) = some (.inl (.inl r.1)) ∧ I2 = r.2) : RFi I1 I2 := by
  obtain ⟨s, c1, c2, c3⟩ := q1
  obtain ⟨r, r', e, e', -, -, z⟩ := kinds_eq a1 a2 hG q h
  obtain ⟨s', b1, b2, b3⟩ := q2
  rw [e] at c1
  rw [e'] at b1
  cases c1
  cases b1
  have z := z hf
  rw [← b3] at z
  rw [← c3] at z
  exact z
theorem Qs100 {a1 a2 : Int32} {x1 x2 : Int32} {I I1 I2 : jI} (hG : gG aGI I) (q : RD2 I I1) (h : RR I I1) (hf : RFi I I1) (q1 : ∃ r, d100 a1 a2 I = some r ∧ (some (.inl (.inl x1)) : Option jV) = some (.inl (.inl r.1)) ∧ I1 = r.2) (q2 : ∃ r, d196 a1 a2 I1 = some r ∧ (some (.inl (.inl x2)) : Option jV) = some (.inl (.inl r.1)) ∧ I2 = r.2) : RFi I1 I2 := by
  obtain ⟨s, c1, c2, c3⟩ := q1
  obtain ⟨r, r', e, e', -, -, z⟩ := prices_eq a1 a2 hG q h
  obtain ⟨s', b1, b2, b3⟩ := q2
  rw [e] at c1
  rw [e'] at b1
  cases c1
  cases b1
  have z := z hf
  rw [← b3] at z
  rw [← c3] at z
  exact z
theorem RT2_fr {W : List Nat} {I I' : jI} (h : RT I) (f : fr W I I') (hw : (jel 37 W || jel 38 W) = false) : RT2 I I' := by
  simp only [Bool.or_eq_false_iff] at hw
  refine ⟨fun t ht => ?_, fun t j ht hj => ?_⟩
  · rw [fr_arr f (g := 37) (fun _ => rfl) hw.1]; exact h.1 t ht
  · rw [fr_arr f (g := 38) (fun _ => rfl) hw.2]; exact h.2 t j ht hj
theorem finds_an {I J : jI} (x : Int32) (h : RFi I J) : d111 x I = d216 x J := by
  have z1 : (1 : Int32).toInt = 1 := rfl
  have z5 : (5 : Int32).toInt = 5 := rfl
  unfold d111 d216
  rw [in_i]
  by_cases h1 : 1 ≤ x.toInt ∧ x.toInt ≤ 5
  · have nx := cl_t (x := x) (by omega)
    rw [if_neg (show ¬ x < 1 by rw [lt_t, z1]; omega), if_pos (show x ≤ 5 by rw [le_t, z5]; exact h1.2), if_pos (show (1 : Int64).toInt ≤ x.toInt ∧ x.toInt ≤ (5 : Int64).toInt from h1), if_neg one0]
    exact (h.2 _ (by omega)).symm
  · rw [if_neg (show ¬ ((1 : Int64).toInt ≤ x.toInt ∧ x.toInt ≤ (5 : Int64).toInt) from h1), if_pos rfl]
    by_cases h3 : x < 1
    · rw [if_pos h3]
    · rw [if_neg h3, if_neg (show ¬ x ≤ 5 from fun z => by rw [le_t, z5] at z; rw [lt_t, z1] at h3; exact h1 ⟨by omega, z⟩)]
theorem Pv111 {d : Nat} {a1 : Int32} {I : jI} {L : jL} {K : jK} (hK : jPM d 111 [.inr (0, 0), .inl (.inl a1)] (I, L) K) : jPM d 111 [.inr (0, 0), .inl (.inl a1)] (I, L) (fun v σ => v = some (.inl (.inl (d111 a1 I))) ∧ K v σ) := jPM_and (D111 rfl rfl) hK
theorem Pv216 {d : Nat} {a1 : Int32} {I : jI} {L : jL} {K : jK} (hK : jPM d 216 [.inr (31, 0), .inl (.inl a1)] (I, L) K) : jPM d 216 [.inr (31, 0), .inl (.inl a1)] (I, L) (fun v σ => v = some (.inl (.inl (d216 a1 I))) ∧ K v σ) := jPM_and (D216 rfl rfl) hK
theorem Qv111 {a1 : Int32} {x1 x2 : Int32} {I I1 : jI} (h : RFi I I1) (q1 : (some (.inl (.inl x1)) : Option jV) = some (.inl (.inl (d111 a1 I)))) (q2 : (some (.inl (.inl x2)) : Option jV) = some (.inl (.inl (d216 a1 I1)))) : x1 = x2 := by
  cases q1
  cases q2
  exact finds_an a1 h
end
