/-! what stands now, alike on both sides -/
noncomputable def cur (I J : jI) (m : Nat) : Prop := ((J 31 0 3 = I 4 1 6 ∧ J 31 0 1 = I 4 1 7 ∧ J 31 0 2 = I 4 1 8 ∧ J 32 0 0 = I 4 1 15) ∧ (∀ k, k < 10 → J 32 0 (7 + k) = I 23 1 k) ∧ (∀ i, i < m → (J 32 0 (17 + i) = I 19 1 i ∧ J 32 0 (23 + i) = I 20 1 i) ∧ J 33 0 i = I 18 1 i ∧ J 34 0 i = I 21 1 i) ∧ ∀ j, j < 6 → J 32 0 (1 + j) = I 4 1 (9 + j)) ∧ ((m : Int) = (I 4 1 6).toInt ∧ m ≤ 6) ∧ ((∀ k, k < 10 → 0 ≤ (I 23 1 k).toInt) ∧ smI 10 (I 23 1) 0 ≤ 99) ∧ ((0 ≤ (I 4 1 7).toInt ∧ (I 4 1 7).toInt ≤ 9) ∧ (∀ i, i < m → (1 ≤ (I 19 1 i).toInt ∧ (I 19 1 i).toInt ≤ 9) ∧ 0 ≤ (I 20 1 i).toInt ∧ (I 20 1 i).toInt ≤ 99) ∧ 0 ≤ (I 4 1 12).toInt ∧ (I 4 1 12).toInt ≤ 360) ∧ (0 < m → ((1 ≤ (I 4 1 7).toInt ∧ (I 4 1 7).toInt ≤ 9) ∧ (0 ≤ (I 4 1 8).toInt ∧ (I 4 1 8).toInt ≤ 99)) ∧ ∀ i : Nat, i < m → (0 ≤ (I 18 1 i).toInt ∧ (I 18 1 i).toInt ≤ 5) ∧ (1 ≤ (I 21 1 i).toInt ∧ (I 21 1 i).toInt ≤ 9))
theorem RD_v {I J : jI} (q : RD2 I J) : vC (mP I) I 1 = vM (mP I) J 1 ∧ lOK (mP I) (dN I 1) (vC (mP I) I 1) := by
  obtain ⟨-, -, -, -, -, ⟨-, -, -, h5, -, h7, h8⟩, -⟩ := q
  exact ⟨h8.trans h7.symm, by rw [h8]; exact h5 _ (Nat.le_refl _)⟩
theorem RD_cur {I J : jI} (hG : gG aGI I) (q : RD2 I J) : cur I J (mP I) := by
  obtain ⟨hm, hmi⟩ := mP_6 hG
  obtain ⟨hv, hl⟩ := RD_v q
  obtain ⟨-, ⟨q3, q4, q5⟩, q6, q7, q8, ⟨⟨h1, h2⟩, h3, -, -, -, -, -⟩, -⟩ := q
  have a6 : I 4 1 6 = I 4 0 6 := h1 6 (by decide) (by decide)
  have a7 : I 4 1 7 = I 4 0 7 := h1 7 (by decide) (by decide)
  have a8 : I 4 1 8 = I 4 0 8 := h1 8 (by decide) (by decide)
  have at_ : ∀ k, vK (mP I) k → J 32 0 (1 + k) = vC (mP I) I 1 k := fun k hk => by rw [hv, vM_k hk]
  refine ⟨⟨⟨by rw [q3, a6], by rw [q4, a7], by rw [q5, a8], h3⟩, fun k hk => ?_, fun i hi => ⟨⟨?_, ?_⟩, ?_, ?_⟩, fun j hj => ?_⟩, ⟨by rw [a6]; exact hmi, hm⟩, ⟨fun k hk => ?_, ?_⟩, ⟨by rw [a7]; exact q8, fun i hi => ?_, ?_⟩, fun hz => ?_⟩
  · rw [show 7 + k = 1 + (6 + k) by omega, at_ _ (vK_l hk), vC_l hk]
  · rw [show 17 + i = 1 + (16 + i) by omega, at_ _ (vK_g hi hm), vC_g hi hm]
  · rw [show 23 + i = 1 + (22 + i) by omega, at_ _ (vK_p hi hm), vC_p hi hm]
  · rw [(q6 i hi).1, (h2 i (by omega)).1]
  · rw [(q6 i hi).2, (h2 i (by omega)).2]
  · rw [at_ _ (Or.inl (by omega)), vC_f hj]
  · rw [← vC_l (m := mP I) (h := 1) (I := I) hk]; exact hl.1 k hk
  · refine Int.le_trans (smI_le 10 (I 23 1) (lrd (vC (mP I) I 1)) 0 (fun j _ b => ?_)) hl.2.1
    show _ ≤ (vC (mP I) I 1 (6 + j)).toInt
    rw [vC_l (by omega)]
    exact Int.le_refl _
  · rw [← vC_g (m := mP I) (h := 1) (I := I) hi hm, ← vC_p (m := mP I) (h := 1) (I := I) hi hm]
    exact hl.2.2.1 i hi
  · have z := hl.2.2.2
    have d40 := (dN_40 hG (h := 1) (by decide)).1
    have e : vC (mP I) I 1 3 = I 4 1 12 := rfl
    rw [e] at z
    omega
  · obtain ⟨z1, z2⟩ := q7 hz
    refine ⟨by rw [a7, a8]; exact z1, fun i hi => ?_⟩
    rw [(h2 i (by omega)).1, (h2 i (by omega)).2]
    exact z2 i hi
theorem has_c {I : jI} {h : Nat} {i : Int32} : d31 h i I = if 0 ≤ i.toInt ∧ i.toInt < (I 4 h 6).toInt then 1 else 0 := by
  unfold d31
  by_cases h1 : i.toInt < 0
  · rw [if_pos (lt0_t.mpr h1), if_neg (by omega)]
  · rw [if_neg (fun z => h1 (lt0_t.mp z))]
    by_cases h2 : (I 4 h 6).toInt ≤ i.toInt
    · rw [if_pos (le_t.mpr h2), if_neg (by omega)]
    · rw [if_neg (fun z => h2 (le_t.mp z)), if_pos (by omega)]
theorem isP_m {J : jI} {i : Int32} (h : 0 ≤ (J 31 0 3).toInt ∧ (J 31 0 3).toInt ≤ 6) : d151 i J = if 0 ≤ i.toInt ∧ i.toInt < (J 31 0 3).toInt then 1 else 0 := by
  have c1 : (1 : Int32).toInt = 1 := rfl
  have c0 : (0 : Int64).toInt = 0 := rfl
  have e : (J 31 0 3 - 1).toInt = (J 31 0 3).toInt - 1 := by rw [i32_sub (by omega), c1]
  unfold d151
  rw [in_i, t64, e, c0]
  by_cases c : 0 ≤ i.toInt ∧ i.toInt < (J 31 0 3).toInt
  · rw [if_pos c, if_pos (by omega)]
  · rw [if_neg c, if_neg (by omega)]
theorem one0 : ¬ (1 : Int32) = 0 := by decide
theorem room_c {I : jI} {i n : Int32} : d33 1 i n I = some (if I 4 1 8 < smV 10 0 (I 23 1) 0 + n * gotS (I 18 1 i.toNatClampNeg) (I 19 1 i.toNatClampNeg) then 0 else 1) := by
  unfold d33
  rw [sum_c]
  dsimp only [Option.bind_some]
  unfold d36
  rw [got_c]
  by_cases c : I 4 1 8 < smV 10 0 (I 23 1) 0 + n * gotS (I 18 1 i.toNatClampNeg) (I 19 1 i.toNatClampNeg)
  · rw [if_pos c, if_pos c]
  · rw [if_neg c, if_neg c]
theorem room_m {I J : jI} {m : Nat} {i n : Int32} (q : cur I J m) (hi0 : 0 ≤ i.toInt) (hi : i.toNatClampNeg < m) : d164 0 i n J = some (if I 4 1 8 < smV 10 0 (I 23 1) 0 + n * gotS (I 18 1 i.toNatClampNeg) (I 19 1 i.toNatClampNeg) then 0 else 1) := by
  obtain ⟨⟨⟨-, -, a8, -⟩, al, ai, -⟩, ⟨-, hm⟩, -⟩ := q
  have ni := cl_t hi0
  have s : smV 10 0 (fun k => J 32 0 (0 + 7 + k)) 0 = smV 10 0 (I 23 1) 0 := smV_ext 10 0 _ _ 0 (fun j _ b => by show J 32 0 (0 + 7 + j) = _; rw [show 0 + 7 + j = 7 + j by omega]; exact al j (by omega))
  unfold d164
  rw [sum_m (a := 0) ⟨by decide, by decide⟩ (b := 0) rfl, s]
  dsimp only [Option.bind_some]
  have i17 : Int32.toNatClampNeg ((0 + 17) + i) = 17 + i.toNatClampNeg := by rw [(ixa (a := 0 + 17) (by decide) (by decide) hi0 (by omega)).2]; rfl
  unfold d155
  rw [i17, got_m, (ai _ hi).1.1, (ai _ hi).2.1, a8]
  by_cases c : I 4 1 8 < smV 10 0 (I 23 1) 0 + n * gotS (I 18 1 i.toNatClampNeg) (I 19 1 i.toNatClampNeg)
  · rw [if_pos c, if_pos c]
  · rw [if_neg c, if_neg c]
theorem full_c {I : jI} {dd i v : Int32} (h : (I 4 1 15).toInt = 40) : d44 1 dd i v I = some (-2, I) := by
  have c1 : (1 : Int32).toInt = 1 := rfl
  have c40 : (40 : Int32).toInt = 40 := rfl
  unfold d44 d32
  rw [if_pos (show (40 : Int32) < I 4 1 15 + 1 by rw [lt_t, i32_add (by omega), c40, c1]; omega), if_pos rfl]
theorem RD_hi {I J : jI} {i : Int32} {m : Nat} (q : cur I J m) (h : 0 ≤ i.toInt ∧ i.toInt < (I 4 1 6).toInt) : i.toNatClampNeg < m ∧ i.toInt ≤ 5 ∧ 0 < m := by
  obtain ⟨-, ⟨hm, hm6⟩, -⟩ := q
  have := cl_t h.1
  exact ⟨by omega, by omega, by omega⟩
/-- what is alike for every deed: the class performs it, the reference keeps the past and does the same -/
theorem deed_eq' {I J : jI} {dd i v : Int32} (hG : gG aGI I) (q : RD2 I J) (hD : (I 4 1 15).toInt ≤ 39) (hd0 : 0 ≤ dd.toInt) (hd4 : dd.toInt ≤ 4) (hi0 : 0 ≤ i.toInt) (hi5 : i.toInt ≤ 5) (hv0 : 0 ≤ v.toInt) (hv : v.toInt ≤ 99) (hi : dd = 0 ∨ dd = 2 ∨ dd = 3 → i.toNatClampNeg < mP I) (hl : dd = 0 → lOK (mP I) (dN I 1 + 1) (stp (c6 (I 18 0)) (c6 (I 21 0)) (I 4 0 7) dd i v (vC (mP I) I 1))) (hs : dd = 2 → 2 ≤ (I 19 1 i.toNatClampNeg).toInt) : ∃ r K, d44 1 dd i v I = some r ∧ d163 J = some K ∧ (vM (mP I) K 1 = vC (mP I) I 1 ∧ (K 31 = J 31 ∧ K 33 = J 33 ∧ K 34 = J 34) ∧ ∀ j, 1 ≤ j → j ≤ 28 → K 32 0 j = J 32 0 j) ∧ r.1 = anS (I 18 1) (I 4 1 7) dd i v (vC (mP I) I 1) ∧ (r.2 4 1 15 = I 4 1 15 + 1 ∧ r.2 4 1 6 = I 4 1 6) ∧ ∀ J', vM (mP I) J' 1 = stp (J 33 0) (J 34 0) (J 31 0 1) dd i v (vM (mP I) K 1) → (∀ j, ¬ (1 ≤ j ∧ j ≤ 28) → J' 32 0 j = K 32 0 j) → (∀ g, ¬ g = 32 → J' g = K g) → RD2 r.2 J' := by
  obtain ⟨hm, hmi⟩ := mP_6 hG
  obtain ⟨hvv, hlk⟩ := RD_v q
  have c := RD_cur hG q
  obtain ⟨⟨⟨-, -, -, a15⟩, -, -, -⟩, -, ⟨l1, -⟩, ⟨n0, -⟩, -⟩ := c
  obtain ⟨d40, dI⟩ := dN_40 hG (h := 1) (by decide)
  obtain ⟨r, r1, r2, r3⟩ := perf_c (m := mP I) (dd := dd) (i := i) (v := v) (gi_deeds hG (x := 1) (by decide)).1 (fun z => hG (21, (0, 5), (0, 5), (0, 9)) (by decide) 1 i.toNatClampNeg (by simp) (by simp) (by simp) (by have := hi (Or.inl z); simp; omega)) hm hD hi (fun _ => ⟨n0.1, l1⟩)
  obtain ⟨K, k1, k2, k3⟩ := past_m (D := dN I 1) (I := J) (by omega) (by rw [a15]; exact dI.symm)
  refine ⟨r, K, r1, k1, ⟨by rw [kp_1 k2, hvv], ⟨k3 31 (by decide), k3 33 (by decide), k3 34 (by decide)⟩, fun j a b => ?_⟩, r2, ⟨r3.2.1, r3.2.2.2 4 1 6 (fun z => by have := z.2; omega)⟩, fun J' s o g => ?_⟩
  · rw [k2]
    unfold kpM
    rw [if_neg (by omega), if_neg (by omega)]
  · refine RD_deed hG q hD hd0 hd4 hi0 hi5 hv0 hv hi ?_ r3 (rf_of k2 k3 s o g)
    by_cases h0 : dd = 0
    · exact hl h0
    unfold stp
    rw [if_neg h0]
    by_cases h1 : dd = 1
    · rw [if_pos h1]
      exact lOK_W (by omega) q.2.2.2.2.1 hlk
    rw [if_neg h1]
    by_cases h2 : dd = 2
    · rw [if_pos h2]
      have hi2 := hi (Or.inr (Or.inl h2))
      exact lOK_S hlk hm hi2 (by rw [vC_g hi2 hm]; exact hs h2)
    rw [if_neg h2]
    by_cases h3 : dd = 3
    · rw [if_pos h3]
      exact lOK_P hlk hm (hi (Or.inr (Or.inr h3))) ⟨hv0, hv⟩
    rw [if_neg h3]
    exact lOK_C hlk
theorem deed_eq {I J : jI} {dd i v : Int32} (hG : gG aGI I) (q : RD2 I J) (hD : (I 4 1 15).toInt ≤ 39) (hd0 : 0 ≤ dd.toInt) (hd4 : dd.toInt ≤ 4) (hi0 : 0 ≤ i.toInt) (hi5 : i.toInt ≤ 5) (hv0 : 0 ≤ v.toInt) (hv : v.toInt ≤ 99) (hi : dd = 0 ∨ dd = 2 ∨ dd = 3 → i.toNatClampNeg < mP I) (hl : dd = 0 → lOK (mP I) (dN I 1 + 1) (stp (c6 (I 18 0)) (c6 (I 21 0)) (I 4 0 7) dd i v (vC (mP I) I 1))) (hs : dd = 2 → 2 ≤ (I 19 1 i.toNatClampNeg).toInt) : ∃ r K, d44 1 dd i v I = some r ∧ d163 J = some K ∧ (vM (mP I) K 1 = vC (mP I) I 1 ∧ (K 31 = J 31 ∧ K 33 = J 33 ∧ K 34 = J 34) ∧ ∀ j, 1 ≤ j → j ≤ 28 → K 32 0 j = J 32 0 j) ∧ r.1 = anS (I 18 1) (I 4 1 7) dd i v (vC (mP I) I 1) ∧ ∀ J', vM (mP I) J' 1 = stp (J 33 0) (J 34 0) (J 31 0 1) dd i v (vM (mP I) K 1) → (∀ j, ¬ (1 ≤ j ∧ j ≤ 28) → J' 32 0 j = K 32 0 j) → (∀ g, ¬ g = 32 → J' g = K g) → RD2 r.2 J' := by
  obtain ⟨r, K, a, b, c, d, -, e⟩ := deed_eq' hG q hD hd0 hd4 hi0 hi5 hv0 hv hi hl hs
  exact ⟨r, K, a, b, c, d, e⟩
