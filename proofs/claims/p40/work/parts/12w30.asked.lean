/-! what is asked, alike: lay, at, mean, packet -/
noncomputable def RAs (I J : jI) : Prop := J 31 0 10 = I 0 0 14
theorem lay_as {I J : jI} (r i v : Int32) (hG : gG aGI I) (h : RR I J) (hA : RAs I J) : ∃ s s', d69 r i v I = some s ∧ d133 r i v J = some s' ∧ RAs s.2 s'.2 := by
  unfold d69 d133
  rw [names_r]
  by_cases h1 : 0 ≤ r.toInt ∧ r.toInt ≤ 5
  · rw [if_pos h1, if_neg one0]
    have nr := cl_t h1.1
    have hs := gi_rsz hG (t := r.toNatClampNeg) (by omega)
    rcases ref_m r i hG h h1 with ⟨a, b, c, d⟩ | ⟨a, b, c⟩
    · have nc := cl_t c
      rw [if_pos a, b]
      dsimp only [Option.bind_some]
      rw [if_pos rfl, (ix40 h1.1 h1.2 c (by omega)).1]
      refine ⟨_, _, rfl, rfl, ?_⟩
      exact h.2 _ _ (by omega) (by omega)
    · rw [if_neg a, b]
      dsimp only [Option.bind_some]
      rw [if_neg c]
      exact ⟨_, _, rfl, rfl, hA⟩
  · rw [if_neg h1, if_pos rfl]
    unfold d132
    rw [isRow_t, if_neg h1, if_pos rfl]
    exact ⟨_, _, rfl, rfl, hA⟩
theorem at_as {I J : jI} (r i : Int32) (hG : gG aGI I) (h : RR I J) (hA : RAs I J) : ∃ s s', d70 r i I = some s ∧ d134 r i J = some s' ∧ RAs s.2 s'.2 := by
  unfold d70 d134
  rw [names_r]
  by_cases h1 : 0 ≤ r.toInt ∧ r.toInt ≤ 5
  · rw [if_pos h1, if_neg one0]
    have nr := cl_t h1.1
    have hs := gi_rsz hG (t := r.toNatClampNeg) (by omega)
    rcases ref_m r i hG h h1 with ⟨a, b, c, d⟩ | ⟨a, b, c⟩
    · have nc := cl_t c
      rw [if_pos a, b]
      dsimp only [Option.bind_some]
      rw [if_pos rfl, (ix40 h1.1 h1.2 c (by omega)).1]
      refine ⟨_, _, rfl, rfl, ?_⟩
      exact h.2 _ _ (by omega) (by omega)
    · rw [if_neg a, b]
      dsimp only [Option.bind_some]
      rw [if_neg c]
      exact ⟨_, _, rfl, rfl, hA⟩
  · rw [if_neg h1, if_pos rfl]
    unfold d132
    rw [isRow_t, if_neg h1, if_pos rfl]
    exact ⟨_, _, rfl, rfl, hA⟩
theorem mean_as {I J : jI} (r : Int32) (hG : gG aGI I) (h : RR I J) (hA : RAs I J) : ∃ s s', d73 r I = some s ∧ d138 r J = some s' ∧ RAs s.2 s'.2 := by
  unfold d73 d138
  rw [names_r, isRow_t]
  by_cases h1 : 0 ≤ r.toInt ∧ r.toInt ≤ 5
  · rw [if_pos h1, if_neg one0, if_neg one0]
    obtain ⟨e, t, hs⟩ := there_m hG h h1
    rw [e]
    rcases t with ⟨a, b⟩ | ⟨a, b⟩
    · rw [if_pos a, if_neg (show ¬ 0 ≤ I 14 0 r.toNatClampNeg by rw [le0_t]; omega)]
      exact ⟨_, _, rfl, rfl, hA⟩
    · rw [if_neg (by rw [a]; exact one0), if_pos (show 0 ≤ I 14 0 r.toNatClampNeg by rw [le0_t]; omega)]
      unfold d17g1
      by_cases z : I 14 0 r.toNatClampNeg = 0
      · rw [if_pos z, if_pos z]
        exact ⟨_, _, rfl, rfl, hA⟩
      · rw [if_neg z, if_neg z]
        obtain ⟨s, s1, s2⟩ := sum_l h h1 hs (I 14 0 r.toNatClampNeg).toNatClampNeg 70 70 0 0 (by show (0 : Int) + _ = _; have := cl_t b; omega) (by decide) (by have := cl_t b; omega) (by have := cl_t b; omega)
        unfold d25g1
        rw [s1, s2]
        exact ⟨_, _, rfl, rfl, rfl⟩
  · rw [if_neg h1, if_pos rfl, if_pos rfl]
    exact ⟨_, _, rfl, rfl, hA⟩
theorem packet_as {I J : jI} (i w : Int32) (hG : gG aGI I) (q : RD2 I J) (hA : RAs I J) : ∃ r r', d78 i w I = some r ∧ d158 i w J = some r' ∧ RAs r.2 r'.2 := by
  have c := RD_cur hG q
  have hp := gi_packets hG
  have c3 : J 31 0 3 = I 4 1 6 := c.1.1.1
  unfold d78 d158
  rw [has_c, isP_m (by rw [c3]; exact hp), c3, in_i]
  by_cases h1 : 0 ≤ i.toInt ∧ i.toInt < (I 4 1 6).toInt
  · rw [if_pos h1, if_neg one0, if_neg one0]
    obtain ⟨hi, hi5, hm0⟩ := RD_hi c h1
    by_cases h2 : 0 ≤ w.toInt ∧ w.toInt ≤ 5
    · rw [if_neg (show ¬ w < 0 by rw [lt0_t]; omega), if_pos (show w < 6 by rw [lt_t]; show w.toInt < 6; omega), if_pos (show (0 : Int64).toInt ≤ w.toInt ∧ w.toInt ≤ (5 : Int64).toInt from h2), if_neg one0, told_m hG c h1.1 hi]
      exact ⟨_, _, rfl, rfl, rfl⟩
    · rw [if_neg (show ¬ ((0 : Int64).toInt ≤ w.toInt ∧ w.toInt ≤ (5 : Int64).toInt) from h2), if_pos rfl]
      by_cases h3 : w < 0
      · rw [if_pos h3]
        exact ⟨_, _, rfl, rfl, hA⟩
      · rw [if_neg h3, if_neg (show ¬ w < 6 from fun z => by rw [lt_t] at z; rw [lt0_t] at h3; have z6 : (6 : Int32).toInt = 6 := rfl; exact h2 ⟨by omega, by omega⟩)]
        exact ⟨_, _, rfl, rfl, hA⟩
  · rw [if_neg h1, if_pos rfl, if_pos rfl]
    exact ⟨_, _, rfl, rfl, hA⟩
