/-! the reference's deeds -/
theorem lrd_M {m b : Nat} {I : jI} : ∀ j, 0 ≤ j → j < 0 + 10 → lrd (vM m I (b + 1)) j = I 32 0 (b + 7 + j) := fun j _ h => by
  unfold lrd
  rw [vM_k (Or.inl (by omega)), show b + 1 + (6 + j) = b + 7 + j by omega]
theorem wk_v {m b : Nat} {I I' : jI} (h : ∀ j, I' 32 0 j = wkM b I j) : vM m I' (b + 1) = stW (I 31 0 1) (vM m I (b + 1)) := by
  have x1 := eatV_ext 10 (I 31 0 1) (lrd (vM m I (b + 1))) (fun k => I 32 0 (b + 7 + k)) 0 lrd_M
  funext k
  by_cases c : vK m k
  · rw [vM_k c, h]
    unfold wkM stW
    rw [x1.1]
    by_cases c0 : k = 0
    · rw [if_pos (by omega), if_pos c0, vM_k (Or.inl (by decide))]
    rw [if_neg (by omega), if_neg c0]
    by_cases c2 : k = 2
    · rw [if_pos (by omega), if_pos c2, vM_k (Or.inl (by decide))]
    rw [if_neg (by omega), if_neg c2]
    by_cases c3 : k = 3
    · rw [if_pos (by omega), if_pos c3, vM_k (Or.inl (by decide))]
    rw [if_neg (by omega), if_neg c3]
    by_cases c4 : k = 4
    · rw [if_pos (by omega), if_pos c4, vM_k (Or.inl (by decide)), x1.2 0 (by decide) (by decide)]
    rw [if_neg (by omega), if_neg c4]
    by_cases c6 : 6 ≤ k ∧ k < 15
    · rw [if_pos (by omega), if_pos c6, x1.2 (k - 5) (by omega) (by omega), show b + 1 + k - b - 6 = k - 5 by omega]
    rw [if_neg (by omega), if_neg c6]
    by_cases c15 : k = 15
    · rw [if_pos (by omega), if_pos c15]
    rw [if_neg (by omega), if_neg c15, vM_k c]
  · have : ¬ k < 16 := fun z => c (Or.inl z)
    rw [vM_n c]
    unfold stW
    rw [if_neg (by omega), if_neg (by omega), if_neg (by omega), if_neg (by omega), if_neg (by omega), if_neg (by omega), vM_n c]
theorem wk_o {b : Nat} {I : jI} {j : Nat} (h : ¬ (b + 1 ≤ j ∧ j ≤ b + 28)) : wkM b I j = I 32 0 j := by
  unfold wkM
  rw [if_neg (by omega), if_neg (by omega), if_neg (by omega), if_neg (by omega), if_neg (by omega), if_neg (by omega)]
theorem kps_i {k w : Int32} (h : 0 ≤ w.toInt ∧ w.toInt ≤ 9) : 0 ≤ (kpsS k w).toInt ∧ (kpsS k w).toInt ≤ 9 := by
  unfold kpsS d8
  by_cases c : k = 5
  · rw [if_pos c]
    have e : (w / 2).toInt = w.toInt / 2 := by rw [td32 (by decide)]; exact Int.tdiv_eq_ediv_of_nonneg h.1
    omega
  · rw [if_neg c]
    exact h
theorem vK_1 {m : Nat} : vK m 1 := Or.inl (by decide)
theorem vK_l {m q : Nat} (h : q < 10) : vK m (6 + q) := Or.inl (by omega)
theorem vK_g {m i : Nat} (h : i < m) (hm : m ≤ 6) : vK m (16 + i) := Or.inr (Or.inl ⟨by omega, by omega⟩)
theorem vK_p {m i : Nat} (h : i < m) (hm : m ≤ 6) : vK m (22 + i) := Or.inr (Or.inr ⟨by omega, by omega, by omega⟩)
theorem buy_m {m : Nat} {a i n : Int32} (ha : 0 ≤ a.toInt ∧ a.toInt ≤ 4596) {b : Nat} (hb : a.toNatClampNeg = b) {I : jI} (hm : m ≤ 6) (hi0 : 0 ≤ i.toInt) (hi : i.toNatClampNeg < m) (hc : I 32 0 (b + 6) = 0 ∨ I 32 0 (b + 6) = 1) (hk : 0 ≤ (I 34 0 i.toNatClampNeg).toInt ∧ (I 34 0 i.toNatClampNeg).toInt ≤ 9) : (d165 a i n I).1 = kost (I 33 0 i.toNatClampNeg) n (vM m I (b + 1) (22 + i.toNatClampNeg)) (vM m I (b + 1) 5) ∧ vM m (d165 a i n I).2 (b + 1) = stB (I 33 0) (I 34 0) i.toNatClampNeg n (vM m I (b + 1)) ∧ (∀ j, ¬ (b + 1 ≤ j ∧ j ≤ b + 28) → (d165 a i n I).2 32 0 j = I 32 0 j) ∧ ∀ g, ¬ g = 32 → (d165 a i n I).2 g = I g := by
  have ni := cl_t hi0
  have c23 : (23 : Int32).toInt = 23 := rfl
  have c17 : (17 : Int32).toInt = 17 := rfl
  have c7 : (7 : Int32).toInt = 7 := rfl
  have i2 : Int32.toNatClampNeg (a + 2) = b + 2 := by rw [(ixa ha.1 (by omega) (by decide) (by decide)).2, hb]; rfl
  have i6 : Int32.toNatClampNeg (a + 6) = b + 6 := by rw [(ixa ha.1 (by omega) (by decide) (by decide)).2, hb]; rfl
  have e23 := ixa (a := a) (x := 23) ha.1 (by omega) (by decide) (by decide)
  have i23 : Int32.toNatClampNeg ((a + 23) + i) = b + 23 + i.toNatClampNeg := by rw [(ixa (a := a + 23) (by omega) (by omega) hi0 (by omega)).2, e23.2, hb]; rfl
  have e17 := ixa (a := a) (x := 17) ha.1 (by omega) (by decide) (by decide)
  have i17 : Int32.toNatClampNeg ((a + 17) + i) = b + 17 + i.toNatClampNeg := by rw [(ixa (a := a + 17) (by omega) (by omega) hi0 (by omega)).2, e17.2, hb]; rfl
  have e7 := ixa (a := a) (x := 7) ha.1 (by omega) (by decide) (by decide)
  have kb := kps_i (k := I 33 0 i.toNatClampNeg) hk
  have kn := kps_b (k := I 33 0 i.toNatClampNeg) hk
  have i7 : Int32.toNatClampNeg ((a + 7) + kpsS (I 33 0 i.toNatClampNeg) (I 34 0 i.toNatClampNeg)) = b + 7 + (kpsS (I 33 0 i.toNatClampNeg) (I 34 0 i.toNatClampNeg)).toNatClampNeg := by rw [(ixa (a := a + 7) (by omega) (by omega) kb.1 (by omega)).2, e7.2, hb]; rfl
  have hp : vM m I (b + 1) (22 + i.toNatClampNeg) = I 32 0 (b + 23 + i.toNatClampNeg) := by rw [vM_k (vK_p hi hm), show b + 1 + (22 + i.toNatClampNeg) = b + 23 + i.toNatClampNeg by omega]
  have hg : vM m I (b + 1) (16 + i.toNatClampNeg) = I 32 0 (b + 17 + i.toNatClampNeg) := by rw [vM_k (vK_g hi hm), show b + 1 + (16 + i.toNatClampNeg) = b + 17 + i.toNatClampNeg by omega]
  have h5 : vM m I (b + 1) 5 = I 32 0 (b + 6) := by rw [vM_k (Or.inl (by decide))]
  have h1 : vM m I (b + 1) 1 = I 32 0 (b + 2) := by rw [vM_k vK_1]
  have hq : vM m I (b + 1) (6 + (kpsS (I 33 0 i.toNatClampNeg) (I 34 0 i.toNatClampNeg)).toNatClampNeg) = I 32 0 (b + 7 + (kpsS (I 33 0 i.toNatClampNeg) (I 34 0 i.toNatClampNeg)).toNatClampNeg) := by rw [vM_k (vK_l kn), show b + 1 + (6 + (kpsS (I 33 0 i.toNatClampNeg) (I 34 0 i.toNatClampNeg)).toNatClampNeg) = b + 7 + (kpsS (I 33 0 i.toNatClampNeg) (I 34 0 i.toNatClampNeg)).toNatClampNeg by omega]
  have ct : d153 a i n I = kost (I 33 0 i.toNatClampNeg) n (I 32 0 (b + 23 + i.toNatClampNeg)) (I 32 0 (b + 6)) := by
    unfold d153
    rw [i23, i6]
    exact cost_m hc
  generalize hC : kost (I 33 0 i.toNatClampNeg) n (I 32 0 (b + 23 + i.toNatClampNeg)) (I 32 0 (b + 6)) = C at ct
  have e : d165 a i n I = (C, jup (jup I 32 0 (b + 1 + 1) (I 32 0 (b + 2) + C)) 32 0 (b + 1 + (6 + (kpsS (I 33 0 i.toNatClampNeg) (I 34 0 i.toNatClampNeg)).toNatClampNeg)) (I 32 0 (b + 7 + (kpsS (I 33 0 i.toNatClampNeg) (I 34 0 i.toNatClampNeg)).toNatClampNeg) + n * gotS (I 33 0 i.toNatClampNeg) (I 32 0 (b + 17 + i.toNatClampNeg)))) := by
    unfold d165
    have k1 : d156 i (jup I 32 0 (b + 2) (I 32 0 (b + 2) + C)) = kpsS (I 33 0 i.toNatClampNeg) (I 34 0 i.toNatClampNeg) := rfl
    have k2 : d155 a i (jup I 32 0 (b + 2) (I 32 0 (b + 2) + C)) = gotS (I 33 0 i.toNatClampNeg) (I 32 0 (b + 17 + i.toNatClampNeg)) := by
      unfold d155
      rw [i17, got_m, jup_c, if_neg (by omega), jup_g (by decide)]
    rw [i2, ct, k1, i7, k2, jup_c, if_neg (by omega), show b + 1 + (6 + (kpsS (I 33 0 i.toNatClampNeg) (I 34 0 i.toNatClampNeg)).toNatClampNeg) = b + 7 + (kpsS (I 33 0 i.toNatClampNeg) (I 34 0 i.toNatClampNeg)).toNatClampNeg by omega]
  rw [e]
  refine ⟨?_, ?_, fun j hj => ?_, fun g h => (jup_g h).trans (jup_g h)⟩
  · rw [hp, h5]
    exact hC.symm
  · show vM m (jup (jup I 32 0 (b + 1 + 1) (I 32 0 (b + 2) + C)) 32 0 (b + 1 + (6 + (kpsS (I 33 0 i.toNatClampNeg) (I 34 0 i.toNatClampNeg)).toNatClampNeg)) (I 32 0 (b + 7 + (kpsS (I 33 0 i.toNatClampNeg) (I 34 0 i.toNatClampNeg)).toNatClampNeg) + n * gotS (I 33 0 i.toNatClampNeg) (I 32 0 (b + 17 + i.toNatClampNeg)))) (b + 1) = _
    rw [vM_up (vK_l kn), vM_up vK_1]
    unfold stB
    rw [hp, hg, h5, h1, hq, hC]
  · show jup (jup I 32 0 (b + 1 + 1) (I 32 0 (b + 2) + C)) 32 0 (b + 1 + (6 + (kpsS (I 33 0 i.toNatClampNeg) (I 34 0 i.toNatClampNeg)).toNatClampNeg)) (I 32 0 (b + 7 + (kpsS (I 33 0 i.toNatClampNeg) (I 34 0 i.toNatClampNeg)).toNatClampNeg) + n * gotS (I 33 0 i.toNatClampNeg) (I 32 0 (b + 17 + i.toNatClampNeg))) 32 0 j = _
    rw [jup_c, if_neg (by omega), jup_c, if_neg (by omega)]
/-- what a deed leaves in the reference: D deeds before -/
noncomputable def rfF (m D : Nat) (dd i v : Int32) (J J' : jI) : Prop := J' 32 0 0 = J 32 0 0 + 1 ∧ vM m J' 1 = stp (J 33 0) (J 34 0) (J 31 0 1) dd i v (vM m J 1) ∧ vM m J' (29 + 28 * D) = vM m J 1 ∧ (∀ j, 29 ≤ j → ¬ (29 + 28 * D ≤ j ∧ j < 57 + 28 * D) → J' 32 0 j = J 32 0 j) ∧ ∀ g, ¬ g = 32 → J' g = J g
theorem kp_1 {m D : Nat} {J K : jI} (h : ∀ j, K 32 0 j = kpM D J j) : vM m K 1 = vM m J 1 := vM_ext (fun k hk => by
  rw [h]
  unfold kpM
  rw [if_neg (by omega), if_neg (by omega)])
theorem rf_of {m D : Nat} {dd i v : Int32} {J K J' : jI} (h : ∀ j, K 32 0 j = kpM D J j) (g : ∀ g, ¬ g = 32 → K g = J g) (s : vM m J' 1 = stp (J 33 0) (J 34 0) (J 31 0 1) dd i v (vM m K 1)) (o : ∀ j, ¬ (1 ≤ j ∧ j ≤ 28) → J' 32 0 j = K 32 0 j) (g' : ∀ g, ¬ g = 32 → J' g = K g) : rfF m D dd i v J J' := by
  refine ⟨?_, ?_, ?_, fun j a b => ?_, fun x hx => (g' x hx).trans (g x hx)⟩
  · rw [o 0 (by decide), h]
    rfl
  · rw [s, kp_1 h]
  · refine vM_ext (fun k hk => ?_)
    rw [o _ (by omega), h]
    unfold kpM
    rw [if_neg (by omega), if_pos (by omega), show 29 + 28 * D + k - (28 + 28 * D) = 1 + k by omega]
  · rw [o j (by omega), h]
    unfold kpM
    rw [if_neg (by omega), if_neg b]
