/-! buy, week, shrink, price, card -/
theorem smI_eq {n k : Nat} {s t : Nat → Int32} (h : ∀ j, k ≤ j → j < k + n → s j = t j) : smI n s k = smI n t k := Int.le_antisymm (smI_le n s t k (fun j a b => by rw [h j a b]; exact Int.le_refl _)) (smI_le n t s k (fun j a b => by rw [h j a b]; exact Int.le_refl _))
theorem mul_3 {n g : Int32} (hn : 1 ≤ n.toInt ∧ n.toInt ≤ 3) (hg : 0 ≤ g.toInt ∧ g.toInt ≤ 9) : 0 ≤ (n * g).toInt ∧ (n * g).toInt ≤ 27 := by
  have : n.toInt = 1 ∨ n.toInt = 2 ∨ n.toInt = 3 := by omega
  have e : (n * g).toInt = n.toInt * g.toInt := i32_mul (by rcases this with h | h | h <;> rw [h] <;> omega)
  rw [e]
  rcases this with h | h | h <;> rw [h] <;> omega
theorem buy_l {I J : jI} {i n : Int32} (hG : gG aGI I) (q : RD2 I J) (hi : i.toNatClampNeg < mP I) (hn : 1 ≤ n.toInt ∧ n.toInt ≤ 3) (hr : ¬ I 4 1 8 < smV 10 0 (I 23 1) 0 + n * gotS (I 18 1 i.toNatClampNeg) (I 19 1 i.toNatClampNeg)) : lOK (mP I) (dN I 1 + 1) (stp (c6 (I 18 0)) (c6 (I 21 0)) (I 4 0 7) 0 i n (vC (mP I) I 1)) := by
  obtain ⟨hm, hmi⟩ := mP_6 hG
  obtain ⟨hvv, hlk⟩ := RD_v q
  have c := RD_cur hG q
  obtain ⟨⟨-, -, -, -⟩, -, ⟨l1, l2⟩, ⟨-, g1, -⟩, o⟩ := c
  have hr8 := (o (by omega)).1.2.2
  have h2 := q.2.2.2.2.2.1.1.2 i.toNatClampNeg (by omega)
  have gb := got_b (k := I 18 1 i.toNatClampNeg) ⟨by have := (g1 _ hi).1; omega, (g1 _ hi).1.2⟩
  have mb := mul_3 hn gb
  have sl := smI_ge 10 (I 23 1) 0 (fun j _ b => l1 j (by omega))
  have z0 : (0 : Int32).toInt = 0 := rfl
  have sv := smV_t 10 0 (I 23 1) 0 (by decide) (fun j _ b => l1 j (by omega)) (by rw [z0]; omega)
  rw [z0] at sv
  rw [lt_t, i32_add (by omega), sv] at hr
  have ss : smI 10 (lrd (vC (mP I) I 1)) 0 = smI 10 (I 23 1) 0 := smI_eq lrd_C
  have ek : c6 (I 18 0) i.toNatClampNeg = I 18 1 i.toNatClampNeg := by rw [c6_at (by omega), h2.1]
  unfold stp
  rw [if_pos rfl]
  refine lOK_B hlk (kps_b ?_) ?_ ?_
  · rw [c6_at (by omega)]
    exact hG (21, (0, 5), (0, 5), (0, 9)) (by decide) 0 i.toNatClampNeg (by simp) (by simp) (by simp) (by simp; omega)
  · rw [ek, vC_g hi hm]; exact mb.1
  · rw [ek, vC_g hi hm, ss]; omega
theorem buy_eq {I J : jI} (i n : Int32) (hG : gG aGI I) (q : RD2 I J) : ∃ r r', d81 i n I = some r ∧ d166 i n J = some r' ∧ r.1 = r'.1 ∧ RD2 r.2 r'.2 := by
  have c := RD_cur hG q
  have hp := gi_packets hG
  have c3 : J 31 0 3 = I 4 1 6 := c.1.1.1
  have c0 : Int32.toNatClampNeg 0 = 0 := rfl
  have c15 : J 32 0 0 = I 4 1 15 := c.1.1.2.2.2
  have hd := gi_deeds hG (x := 1) (by decide)
  obtain ⟨hm, hmi⟩ := mP_6 hG
  unfold d81 d166
  rw [has_c, isP_m (by rw [c3]; exact hp), c3]
  by_cases h1 : 0 ≤ i.toInt ∧ i.toInt < (I 4 1 6).toInt
  · rw [if_pos h1, if_neg one0, if_neg one0, in_i]
    by_cases h2 : 1 ≤ n.toInt ∧ n.toInt ≤ 3
    · obtain ⟨hi, hi5, hm0⟩ := RD_hi c h1
      rw [if_neg (show ¬ n < 1 by rw [lt_t]; show ¬ n.toInt < 1; omega), if_pos (show n ≤ 3 by rw [le_t]; exact h2.2), if_pos (show (1 : Int64).toInt ≤ n.toInt ∧ n.toInt ≤ (3 : Int64).toInt from h2), if_neg one0, room_c, room_m c h1.1 hi]
      dsimp only [Option.bind_some]
      by_cases h3 : I 4 1 8 < smV 10 0 (I 23 1) 0 + n * gotS (I 18 1 i.toNatClampNeg) (I 19 1 i.toNatClampNeg)
      · rw [if_pos h3, if_pos rfl, if_pos rfl]
        exact ⟨_, _, rfl, rfl, rfl, q⟩
      · rw [if_neg h3, if_neg one0, if_neg one0, c0, c15]
        by_cases h5 : (I 4 1 15).toInt = 40
        · rw [full_c h5, if_pos (show I 4 1 15 = 40 from eq_t.mpr h5)]
          exact ⟨_, _, rfl, rfl, rfl, q⟩
        · obtain ⟨r, K, e1, e2, ⟨k1, ⟨k31, k33, k34⟩, k28⟩, e3, e4⟩ := deed_eq (dd := 0) (i := i) (v := n) hG q (by omega) (by decide) (by decide) h1.1 hi5 (by omega) (by omega) (fun _ => hi) (fun _ => buy_l hG q hi h2 h3) (fun z => absurd z (by decide))
          rw [e1, if_neg (show ¬ I 4 1 15 = 40 from fun z => h5 (by rw [z]; rfl)), e2]
          dsimp only [Option.bind_some]
          obtain ⟨-, -, -, af⟩ := c.1
          have f14 := hG (4, (0, 5), (14, 14), (0, 1)) (by decide) 1 14 (by simp) (by simp) (by simp) (by simp)
          have K6 : K 32 0 6 = I 4 1 14 := by rw [k28 6 (by decide) (by decide)]; exact af 5 (by decide)
          have K33 : K 33 0 i.toNatClampNeg = I 18 1 i.toNatClampNeg := by rw [k33]; exact (c.1.2.2.1 _ hi).2.1
          have K34 : K 34 0 i.toNatClampNeg = I 21 1 i.toNatClampNeg := by rw [k34]; exact (c.1.2.2.1 _ hi).2.2
          obtain ⟨b1, b2, b3, b4⟩ := buy_m (m := mP I) (a := 0) (i := i) (n := n) ⟨by decide, by decide⟩ (b := 0) rfl (I := K) hm h1.1 hi (by
            rw [show 0 + 6 = 6 from rfl, K6]
            have : (I 4 1 14).toInt = 0 ∨ (I 4 1 14).toInt = 1 := by have a : 0 ≤ (I 4 1 14).toInt := f14.1; have b : (I 4 1 14).toInt ≤ 1 := f14.2; omega
            rcases this with z | z
            · exact Or.inl (eq_t.mpr z)
            · exact Or.inr (eq_t.mpr z)) (by
            rw [K34]
            exact hG (21, (0, 5), (0, 5), (0, 9)) (by decide) 1 i.toNatClampNeg (by simp) (by simp) (by simp) (by simp; omega))
          refine ⟨_, _, rfl, rfl, ?_, e4 _ ?_ (fun j hj => b3 j (by omega)) b4⟩
          · show r.1 = (d165 0 i n K).1
            rw [e3, b1, K33]
            unfold anS
            rw [if_pos rfl]
            show _ = kost _ n (vM (mP I) K 1 _) (vM (mP I) K 1 5)
            rw [k1]
          · unfold stp
            rw [if_pos rfl, ← k33, ← k34]
            exact b2
    · rw [if_neg (show ¬ ((1 : Int64).toInt ≤ n.toInt ∧ n.toInt ≤ (3 : Int64).toInt) from h2), if_pos rfl]
      by_cases h3 : n < 1
      · rw [if_pos h3]
        exact ⟨_, _, rfl, rfl, rfl, q⟩
      · rw [if_neg h3, if_neg (show ¬ n ≤ 3 by rw [le_t]; rw [lt_t] at h3; intro z; exact h2 ⟨by have : (1 : Int32).toInt = 1 := rfl; omega, z⟩)]
        exact ⟨_, _, rfl, rfl, rfl, q⟩
  · rw [if_neg h1, if_pos rfl, if_pos rfl]
    exact ⟨_, _, rfl, rfl, rfl, q⟩
theorem stp_1 {kd kp : Nat → Int32} {nd i v : Int32} {s : Nat → Int32} : stp kd kp nd 1 i v s = stW nd s := by
  unfold stp
  rw [if_neg (show ¬ (1 : Int32) = 0 by decide), if_pos rfl]
theorem anS_1 {kd : Nat → Int32} {nd i v : Int32} {s : Nat → Int32} : anS kd nd 1 i v s = (eatV 10 nd (lrd s) 0).2 0 := by
  unfold anS
  rw [if_neg (show ¬ (1 : Int32) = 0 by decide), if_pos rfl]
theorem week_m {m : Nat} {I J K : jI} (h1 : J 31 0 1 = I 4 1 7) (k31 : K 31 = J 31) (k1 : vM m K 1 = vC m I 1) : ∃ r, d167 0 K = some r ∧ r.1 = anS (I 18 1) (I 4 1 7) 1 0 0 (vC m I 1) ∧ vM m r.2 1 = stp (J 33 0) (J 34 0) (J 31 0 1) 1 0 0 (vM m K 1) ∧ (∀ j, ¬ (1 ≤ j ∧ j ≤ 28) → r.2 32 0 j = K 32 0 j) ∧ ∀ g, ¬ g = 32 → r.2 g = K g := by
  obtain ⟨r, r1, r2, r3, r4⟩ := pass_m (a := 0) ⟨by decide, by decide⟩ (b := 0) rfl (I := K)
  refine ⟨r, r1, ?_, ?_, fun j hj => by rw [r3, wk_o (by omega)], r4⟩
  · rw [anS_1, r2, ← k1, ← h1, ← k31]
    exact ((eatV_ext 10 (K 31 0 1) (lrd (vM m K (0 + 1))) (fun k => K 32 0 (0 + 7 + k)) 0 lrd_M).2 0 (by decide) (by decide)).symm
  · rw [stp_1, ← k31]
    exact wk_v r3
theorem week_eq {I J : jI} (hG : gG aGI I) (q : RD2 I J) : ∃ r r', d82 I = some r ∧ d168 J = some r' ∧ r.1 = r'.1 ∧ RD2 r.2 r'.2 := by
  have c := RD_cur hG q
  have c3 : J 31 0 3 = I 4 1 6 := c.1.1.1
  have c0 : Int32.toNatClampNeg 0 = 0 := rfl
  have c15 : J 32 0 0 = I 4 1 15 := c.1.1.2.2.2
  have hd := gi_deeds hG (x := 1) (by decide)
  unfold d82 d168
  rw [c3, c0, c15]
  by_cases h1 : I 4 1 6 = 0
  · rw [if_pos h1, if_pos h1]
    exact ⟨_, _, rfl, rfl, rfl, q⟩
  · rw [if_neg h1, if_neg h1]
    by_cases h5 : (I 4 1 15).toInt = 40
    · rw [full_c h5, if_pos (show I 4 1 15 = 40 from eq_t.mpr h5)]
      exact ⟨_, _, rfl, rfl, rfl, q⟩
    · obtain ⟨r, K, e1, e2, ⟨k1, ⟨k31, k33, k34⟩, k28⟩, e3, e4⟩ := deed_eq (dd := 1) (i := 0) (v := 0) hG q (by omega) (by decide) (by decide) (by decide) (by decide) (by decide) (by decide) (fun z => absurd z (by decide)) (fun z => absurd z (by decide)) (fun z => absurd z (by decide))
      rw [e1, if_neg (show ¬ I 4 1 15 = 40 from fun z => h5 (by rw [z]; rfl)), e2]
      dsimp only [Option.bind_some]
      obtain ⟨s, s1, s2, s3, s4, s5⟩ := week_m c.1.1.2.1 k31 k1
      rw [s1]
      dsimp only [Option.bind_some]
      exact ⟨_, _, rfl, rfl, e3.trans s2.symm, e4 _ s3 s4 s5⟩
theorem shrink_eq {I J : jI} (i : Int32) (hG : gG aGI I) (q : RD2 I J) : ∃ r r', d83 i I = some r ∧ d169 i J = some r' ∧ r.1 = r'.1 ∧ RD2 r.2 r'.2 := by
  have c := RD_cur hG q
  have hp := gi_packets hG
  have c3 : J 31 0 3 = I 4 1 6 := c.1.1.1
  have c0 : Int32.toNatClampNeg 0 = 0 := rfl
  have c15 : J 32 0 0 = I 4 1 15 := c.1.1.2.2.2
  have hd := gi_deeds hG (x := 1) (by decide)
  obtain ⟨hm, hmi⟩ := mP_6 hG
  unfold d83 d169
  rw [has_c, isP_m (by rw [c3]; exact hp), c3]
  by_cases h1 : 0 ≤ i.toInt ∧ i.toInt < (I 4 1 6).toInt
  · rw [if_pos h1, if_neg one0, if_neg one0]
    obtain ⟨hi, hi5, hm0⟩ := RD_hi c h1
    have i17 : Int32.toNatClampNeg (17 + i) = 17 + i.toNatClampNeg := by rw [(ixa (a := 17) (by decide) (by decide) h1.1 (by omega)).2]; rfl
    have a17 := (c.1.2.2.1 _ hi).1.1
    have gb := (c.2.2.2.1.2.1 _ hi).1
    have c1 : (1 : Int32).toInt = 1 := rfl
    unfold d34
    rw [i17, a17, c0, c15]
    by_cases h2 : (I 19 1 i.toNatClampNeg).toInt = 1
    · rw [if_pos (show I 19 1 i.toNatClampNeg ≤ 1 by rw [le_t, c1]; omega), if_pos rfl, if_pos (show I 19 1 i.toNatClampNeg = 1 from eq_t.mpr h2)]
      exact ⟨_, _, rfl, rfl, rfl, q⟩
    · rw [if_neg (show ¬ I 19 1 i.toNatClampNeg ≤ 1 by rw [le_t, c1]; omega), if_neg one0, if_neg (show ¬ I 19 1 i.toNatClampNeg = 1 from fun z => h2 (by rw [z]; rfl))]
      by_cases h5 : (I 4 1 15).toInt = 40
      · rw [full_c h5, if_pos (show I 4 1 15 = 40 from eq_t.mpr h5)]
        exact ⟨_, _, rfl, rfl, rfl, q⟩
      · obtain ⟨r, K, e1, e2, ⟨k1, ⟨k31, k33, k34⟩, k28⟩, e3, e4⟩ := deed_eq (dd := 2) (i := i) (v := 0) hG q (by omega) (by decide) (by decide) h1.1 hi5 (by decide) (by decide) (fun _ => hi) (fun z => absurd z (by decide)) (fun _ => by omega)
        rw [e1, if_neg (show ¬ I 4 1 15 = 40 from fun z => h5 (by rw [z]; rfl)), e2]
        dsimp only [Option.bind_some]
        have kg : K 32 0 (17 + i.toNatClampNeg) = vC (mP I) I 1 (16 + i.toNatClampNeg) := by
          rw [← k1, vM_k (vK_g hi hm), show 1 + (16 + i.toNatClampNeg) = 17 + i.toNatClampNeg by omega]
        refine ⟨_, _, rfl, rfl, ?_, e4 _ ?_ (fun j hj => by show jup K 32 0 (17 + i.toNatClampNeg) _ 32 0 j = _; rw [jup_c, if_neg (by omega)]) (fun g h => jup_g h)⟩
        · show r.1 = jup K 32 0 (17 + i.toNatClampNeg) (K 32 0 (17 + i.toNatClampNeg) - 1) 32 0 (17 + i.toNatClampNeg)
          rw [e3, jup_c, if_pos rfl, kg]
          rfl
        · show vM (mP I) (jup K 32 0 (17 + i.toNatClampNeg) (K 32 0 (17 + i.toNatClampNeg) - 1)) 1 = upS (vM (mP I) K 1) (16 + i.toNatClampNeg) (vM (mP I) K 1 (16 + i.toNatClampNeg) - 1)
          rw [kg, k1, ← k1, show 17 + i.toNatClampNeg = 1 + (16 + i.toNatClampNeg) by omega, vM_up (vK_g hi hm)]
  · rw [if_neg h1, if_pos rfl, if_pos rfl]
    exact ⟨_, _, rfl, rfl, rfl, q⟩
theorem price_eq {I J : jI} (i v : Int32) (hG : gG aGI I) (q : RD2 I J) : ∃ r r', d84 i v I = some r ∧ d171 i v J = some r' ∧ r.1 = r'.1 ∧ RD2 r.2 r'.2 := by
  have c := RD_cur hG q
  have hp := gi_packets hG
  have c3 : J 31 0 3 = I 4 1 6 := c.1.1.1
  have c0 : Int32.toNatClampNeg 0 = 0 := rfl
  have c15 : J 32 0 0 = I 4 1 15 := c.1.1.2.2.2
  have hd := gi_deeds hG (x := 1) (by decide)
  obtain ⟨hm, hmi⟩ := mP_6 hG
  unfold d84 d171
  rw [has_c, isP_m (by rw [c3]; exact hp), c3]
  by_cases h1 : 0 ≤ i.toInt ∧ i.toInt < (I 4 1 6).toInt
  · rw [if_pos h1, if_neg one0, if_neg one0, in_i]
    obtain ⟨hi, hi5, hm0⟩ := RD_hi c h1
    by_cases h2 : 0 ≤ v.toInt ∧ v.toInt ≤ 99
    · have i23 : Int32.toNatClampNeg (23 + i) = 23 + i.toNatClampNeg := by rw [(ixa (a := 23) (by decide) (by decide) h1.1 (by omega)).2]; rfl
      have a23 := (c.1.2.2.1 _ hi).1.2
      rw [if_neg (show ¬ v < 0 by rw [lt0_t]; omega), if_pos (show v ≤ 99 by rw [le_t]; exact h2.2), if_pos (show (0 : Int64).toInt ≤ v.toInt ∧ v.toInt ≤ (99 : Int64).toInt from h2), if_neg one0]
      unfold d170
      rw [i23, a23, c0, c15]
      by_cases h3 : I 20 1 i.toNatClampNeg = v
      · rw [if_pos h3, if_pos h3]
        exact ⟨_, _, rfl, rfl, rfl, q⟩
      · rw [if_neg h3, if_neg h3]
        by_cases h5 : (I 4 1 15).toInt = 40
        · rw [full_c h5, if_pos (show I 4 1 15 = 40 from eq_t.mpr h5)]
          exact ⟨_, _, rfl, rfl, rfl, q⟩
        · obtain ⟨r, K, e1, e2, ⟨k1, ⟨k31, k33, k34⟩, k28⟩, e3, e4⟩ := deed_eq (dd := 3) (i := i) (v := v) hG q (by omega) (by decide) (by decide) h1.1 hi5 h2.1 h2.2 (fun _ => hi) (fun z => absurd z (by decide)) (fun z => absurd z (by decide))
          rw [e1, if_neg (show ¬ I 4 1 15 = 40 from fun z => h5 (by rw [z]; rfl)), e2]
          dsimp only [Option.bind_some]
          have kg : K 32 0 (23 + i.toNatClampNeg) = vC (mP I) I 1 (22 + i.toNatClampNeg) := by
            rw [← k1, vM_k (vK_p hi hm), show 1 + (22 + i.toNatClampNeg) = 23 + i.toNatClampNeg by omega]
          refine ⟨_, _, rfl, rfl, ?_, e4 _ ?_ (fun j hj => by show jup K 32 0 (23 + i.toNatClampNeg) _ 32 0 j = _; rw [jup_c, if_neg (by omega)]) (fun g h => jup_g h)⟩
          · show r.1 = K 32 0 (23 + i.toNatClampNeg)
            rw [e3, kg]
            rfl
          · show vM (mP I) (jup K 32 0 (23 + i.toNatClampNeg) v) 1 = upS (vM (mP I) K 1) (22 + i.toNatClampNeg) v
            rw [show 23 + i.toNatClampNeg = 1 + (22 + i.toNatClampNeg) by omega, vM_up (vK_p hi hm)]
    · rw [if_neg (show ¬ ((0 : Int64).toInt ≤ v.toInt ∧ v.toInt ≤ (99 : Int64).toInt) from h2), if_pos rfl]
      by_cases h3 : v < 0
      · rw [if_pos h3]
        exact ⟨_, _, rfl, rfl, rfl, q⟩
      · rw [if_neg h3, if_neg (show ¬ v ≤ 99 by rw [le_t]; rw [lt0_t] at h3; intro z; exact h2 ⟨by omega, z⟩)]
        exact ⟨_, _, rfl, rfl, rfl, q⟩
  · rw [if_neg h1, if_pos rfl, if_pos rfl]
    exact ⟨_, _, rfl, rfl, rfl, q⟩
theorem card_eq {I J : jI} (v : Int32) (hG : gG aGI I) (q : RD2 I J) : ∃ r r', d85 v I = some r ∧ d172 v J = some r' ∧ r.1 = r'.1 ∧ RD2 r.2 r'.2 := by
  have c := RD_cur hG q
  have c3 : J 31 0 3 = I 4 1 6 := c.1.1.1
  have c0 : Int32.toNatClampNeg 0 = 0 := rfl
  have c6' : Int32.toNatClampNeg 6 = 6 := rfl
  have c15 : J 32 0 0 = I 4 1 15 := c.1.1.2.2.2
  have hd := gi_deeds hG (x := 1) (by decide)
  have a6 : J 32 0 6 = I 4 1 14 := c.1.2.2.2 5 (by decide)
  have f14 := hG (4, (0, 5), (14, 14), (0, 1)) (by decide) 1 14 (by simp) (by simp) (by simp) (by simp)
  have f0 : 0 ≤ (I 4 1 14).toInt := f14.1
  have key : ∀ v : Int32, (v = 0 ∨ v = 1) → ¬ I 4 1 6 = 0 → ∃ r r', (if I 4 1 14 = v then some ((-4 : Int32), I) else (d44 1 4 0 v I).bind fun r => some (r.1, r.2)) = some r ∧ ((d170 6 v J).bind fun r1 => if 0 ≤ r1.1 then some (v, r1.2) else some (r1.1, r1.2)) = some r' ∧ r.1 = r'.1 ∧ RD2 r.2 r'.2 := by
    intro v hv hm
    unfold d170
    rw [c6', a6, c0, c15]
    by_cases h3 : I 4 1 14 = v
    · rw [if_pos h3, if_pos h3]
      dsimp only [Option.bind_some]
      rw [if_neg (show ¬ (0 : Int32) ≤ -4 by decide)]
      exact ⟨_, _, rfl, rfl, rfl, q⟩
    · rw [if_neg h3, if_neg h3]
      by_cases h5 : (I 4 1 15).toInt = 40
      · rw [full_c h5, if_pos (show I 4 1 15 = 40 from eq_t.mpr h5)]
        dsimp only [Option.bind_some]
        rw [if_neg (show ¬ (0 : Int32) ≤ -2 by decide)]
        exact ⟨_, _, rfl, rfl, rfl, q⟩
      · obtain ⟨r, K, e1, e2, ⟨k1, ⟨k31, k33, k34⟩, k28⟩, e3, e4⟩ := deed_eq (dd := 4) (i := 0) (v := v) hG q (by omega) (by decide) (by decide) (by decide) (by decide) (by rcases hv with rfl | rfl <;> decide) (by rcases hv with rfl | rfl <;> decide) (fun z => absurd z (by decide)) (fun z => absurd z (by decide)) (fun z => absurd z (by decide))
        rw [e1, if_neg (show ¬ I 4 1 15 = 40 from fun z => h5 (by rw [z]; rfl)), e2]
        dsimp only [Option.bind_some]
        rw [if_pos (show 0 ≤ K 32 0 6 by rw [k28 6 (by decide) (by decide), a6, le0_t]; exact f0)]
        refine ⟨_, _, rfl, rfl, ?_, e4 _ ?_ (fun j hj => by show jup K 32 0 6 v 32 0 j = _; rw [jup_c, if_neg (by omega)]) (fun g h => jup_g h)⟩
        · show r.1 = v
          rw [e3]
          rfl
        · show vM (mP I) (jup K 32 0 (1 + 5) v) 1 = upS (vM (mP I) K 1) 5 (if v = 1 then 1 else 0)
          rw [vM_up (Or.inl (by decide))]
          rcases hv with rfl | rfl <;> rfl
  unfold d85 d172
  rw [in_i, c3]
  by_cases h0 : v = 0
  · rw [if_pos h0, if_pos (show (0 : Int64).toInt ≤ v.toInt ∧ v.toInt ≤ (1 : Int64).toInt by subst h0; decide), if_neg one0]
    by_cases h1 : I 4 1 6 = 0
    · rw [if_pos h1, if_pos h1]
      exact ⟨_, _, rfl, rfl, rfl, q⟩
    · rw [if_neg h1, if_neg h1, if_neg (show ¬ v = 1 by subst h0; decide)]
      have := key v (Or.inl h0) h1
      rw [h0] at this ⊢
      exact this
  · rw [if_neg h0]
    by_cases h2 : v = 1
    · rw [if_pos h2, if_pos (show (0 : Int64).toInt ≤ v.toInt ∧ v.toInt ≤ (1 : Int64).toInt by subst h2; decide), if_neg one0]
      by_cases h1 : I 4 1 6 = 0
      · rw [if_pos h1, if_pos h1]
        exact ⟨_, _, rfl, rfl, rfl, q⟩
      · rw [if_neg h1, if_neg h1, if_pos h2]
        have := key v (Or.inr h2) h1
        rw [h2] at this ⊢
        exact this
    · rw [if_neg h2, if_neg (show ¬ ((0 : Int64).toInt ≤ v.toInt ∧ v.toInt ≤ (1 : Int64).toInt) from fun z => by
        have z1 : 0 ≤ v.toInt := z.1
        have z2 : v.toInt ≤ 1 := z.2
        have : v.toInt = 0 ∨ v.toInt = 1 := by omega
        rcases this with w | w
        · exact h0 (eq_t.mpr w)
        · exact h2 (eq_t.mpr w)), if_pos rfl]
      exact ⟨_, _, rfl, rfl, rfl, q⟩
