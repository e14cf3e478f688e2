/-! the relation of houses, logs, kept ones: the class's cells in I, the reference's in J -/
noncomputable def c6 (f : Nat → Int32) : Nat → Int32 := fun i => if i < 6 then f i else 0
theorem c6_ext {f g : Nat → Int32} (h : ∀ i, i < 6 → f i = g i) : c6 f = c6 g := by
  funext i
  unfold c6
  by_cases c : i < 6
  · rw [if_pos c, if_pos c, h i c]
  · rw [if_neg c, if_neg c]
theorem c6_at {f : Nat → Int32} {i : Nat} (h : i < 6) : c6 f i = f i := if_pos h
noncomputable def hsK0 (I : jI) (h : Nat) : Prop := (∀ j, 6 ≤ j → j ≤ 8 → I 4 h j = I 4 0 j) ∧ ∀ i, i < 6 → I 18 h i = I 18 0 i ∧ I 21 h i = I 21 0 i
noncomputable def xdd (x : Int32) : Int32 := x / 1000
noncomputable def xii (x : Int32) : Int32 := x / 100 - x / 100 / 10 * 10
noncomputable def xvv (x : Int32) : Int32 := x - x / 100 * 100
noncomputable def rep (kd kp : Nat → Int32) (nd : Int32) (lg : Nat → Int32) (s : Nat → Int32) : Nat → (Nat → Int32)
  | 0 => s
  | d + 1 => stp kd kp nd (xdd (lg d)) (xii (lg d)) (xvv (lg d)) (rep kd kp nd lg s d)
noncomputable def rp (m : Nat) (I : jI) (h d : Nat) : Nat → Int32 := rep (c6 (I 18 0)) (c6 (I 21 0)) (I 4 0 7) (I 22 h) (vC m I 0) d
noncomputable def okx (m : Nat) (x : Int32) : Prop := lgOK x ∧ (xdd x = 0 ∨ xdd x = 2 ∨ xdd x = 3 → (xii x).toNatClampNeg < m)
noncomputable def lOK (m d : Nat) (s : Nat → Int32) : Prop := (∀ k, k < 10 → 0 ≤ (s (6 + k)).toInt) ∧ smI 10 (lrd s) 0 ≤ 99 ∧ (∀ i, i < m → (1 ≤ (s (16 + i)).toInt ∧ (s (16 + i)).toInt ≤ 9) ∧ 0 ≤ (s (22 + i)).toInt ∧ (s (22 + i)).toInt ≤ 99) ∧ 0 ≤ (s 3).toInt ∧ (s 3).toInt ≤ 9 * (d : Int)
noncomputable def dN (I : jI) (h : Nat) : Nat := (I 4 h 15).toNatClampNeg
noncomputable def mP (I : jI) : Nat := (I 4 0 6).toNatClampNeg
noncomputable def hst (m : Nat) (I J : jI) (h b : Nat) : Prop := hsK0 I h ∧ J 32 0 b = I 4 h 15 ∧ (∀ d, d < dN I h → okx m (I 22 h d)) ∧ (∀ d, d ≤ dN I h → lOK m d (rp m I h d)) ∧ (∀ d, d < dN I h → vM m J (b + 29 + 28 * d) = rp m I h d) ∧ vM m J (b + 1) = rp m I h (dN I h) ∧ vC m I h = rp m I h (dN I h)
noncomputable def okK0 (I : jI) : Prop := ((1 ≤ (I 4 0 7).toInt ∧ (I 4 0 7).toInt ≤ 9) ∧ (0 ≤ (I 4 0 8).toInt ∧ (I 4 0 8).toInt ≤ 99)) ∧ ∀ i : Nat, i < mP I → (0 ≤ (I 18 0 i).toInt ∧ (I 18 0 i).toInt ≤ 5) ∧ (1 ≤ (I 21 0 i).toInt ∧ (I 21 0 i).toInt ≤ 9)
noncomputable def RD2 (I J : jI) : Prop := ((∀ j, 9 ≤ j → j < 15 → I 4 5 j = 0) ∧ ∀ j, j < 10 → I 23 5 j = 0) ∧ (J 31 0 3 = I 4 0 6 ∧ J 31 0 1 = I 4 0 7 ∧ J 31 0 2 = I 4 0 8) ∧ (∀ i, i < mP I → J 33 0 i = I 18 0 i ∧ J 34 0 i = I 21 0 i) ∧ (0 < mP I → okK0 I) ∧ (0 ≤ (I 4 0 7).toInt ∧ (I 4 0 7).toInt ≤ 9) ∧ hst (mP I) I J 1 0 ∧ ∀ k, k < 3 → (I 6 0 k = 0 → J 32 0 (1149 * (k + 1)) = -1) ∧ (¬ I 6 0 k = 0 → hst (mP I) I J (2 + k) (1149 * (k + 1)))
theorem rep_log {kd kp : Nat → Int32} {nd : Int32} {lg lg' : Nat → Int32} {s : Nat → Int32} : ∀ {d : Nat}, (∀ e, e < d → lg e = lg' e) → rep kd kp nd lg s d = rep kd kp nd lg' s d
  | 0, _ => rfl
  | d + 1, h => by
    show stp kd kp nd (xdd (lg d)) (xii (lg d)) (xvv (lg d)) (rep kd kp nd lg s d) = stp kd kp nd (xdd (lg' d)) (xii (lg' d)) (xvv (lg' d)) (rep kd kp nd lg' s d)
    rw [h d (by omega), rep_log (fun e he => h e (by omega))]
theorem mP_6 {I : jI} (hG : gG aGI I) : mP I ≤ 6 ∧ (mP I : Int) = (I 4 0 6).toInt := by
  have := hG (4, (0, 5), (6, 6), (0, 6)) (by decide) 0 6 (by decide) (by decide) (by decide) (by decide)
  have h1 : 0 ≤ (I 4 0 6).toInt := this.1
  have h2 : (I 4 0 6).toInt ≤ 6 := this.2
  have e := cl_t h1
  unfold mP
  exact ⟨by omega, e⟩
theorem dN_40 {I : jI} (hG : gG aGI I) {h : Nat} (hh : h ≤ 5) : dN I h ≤ 40 ∧ (dN I h : Int) = (I 4 h 15).toInt := by
  have := gi_deeds hG hh
  have e := cl_t this.1
  unfold dN
  exact ⟨by omega, e⟩
theorem rp_cells {m : Nat} {I I' : jI} {h h' d : Nat} (hm : m ≤ 6) (e4 : ∀ j, 7 ≤ j → j < 15 → I' 4 0 j = I 4 0 j) (e18 : ∀ i, i < 6 → I' 18 0 i = I 18 0 i) (e21 : ∀ i, i < 6 → I' 21 0 i = I 21 0 i) (e23 : ∀ j, j < 10 → I' 23 0 j = I 23 0 j) (e19 : ∀ j, j < 6 → I' 19 0 j = I 19 0 j) (e20 : ∀ j, j < 6 → I' 20 0 j = I 20 0 j) (e22 : ∀ e, e < d → I' 22 h' e = I 22 h e) : rp m I' h' d = rp m I h d := by
  unfold rp
  rw [c6_ext e18, c6_ext e21, e4 7 (by decide) (by decide), vC_ext hm (fun j a b => e4 j (by omega) b) e23 e19 e20]
  exact rep_log e22
theorem hst_cells {m : Nat} {I I' J J' : jI} {h h' b b' : Nat} (hm : m ≤ 6) (hD : dN I h ≤ 40) (q : hst m I J h b) (s4 : ∀ j, 6 ≤ j → j < 15 → I' 4 0 j = I 4 0 j) (s18 : ∀ i, i < 6 → I' 18 0 i = I 18 0 i) (s21 : ∀ i, i < 6 → I' 21 0 i = I 21 0 i) (s23 : ∀ j, j < 10 → I' 23 0 j = I 23 0 j) (s19 : ∀ j, j < 6 → I' 19 0 j = I 19 0 j) (s20 : ∀ j, j < 6 → I' 20 0 j = I 20 0 j) (e4 : ∀ j, 6 ≤ j → j ≤ 15 → I' 4 h' j = I 4 h j) (e18 : ∀ i, i < 6 → I' 18 h' i = I 18 h i) (e21 : ∀ i, i < 6 → I' 21 h' i = I 21 h i) (e23 : ∀ j, j < 10 → I' 23 h' j = I 23 h j) (e19 : ∀ j, j < 6 → I' 19 h' j = I 19 h j) (e20 : ∀ j, j < 6 → I' 20 h' j = I 20 h j) (e22 : ∀ e, e < 40 → I' 22 h' e = I 22 h e) (f : ∀ j, j < 1149 → J' 32 0 (b' + j) = J 32 0 (b + j)) : hst m I' J' h' b' := by
  obtain ⟨⟨q1, q2⟩, q3, q4, q5, q6, q7, q8⟩ := q
  have eD : dN I' h' = dN I h := by unfold dN; rw [e4 15 (by decide) (by decide)]
  have er : ∀ d, d ≤ dN I h → rp m I' h' d = rp m I h d := fun d hd => rp_cells hm (fun j a b => s4 j (by omega) b) s18 s21 s23 s19 s20 (fun e he => e22 e (by omega))
  refine ⟨⟨fun j a b => ?_, fun i hi => ⟨?_, ?_⟩⟩, ?_, fun d hd => ?_, fun d hd => ?_, fun d hd => ?_, ?_, ?_⟩
  · rw [e4 j a (by omega), s4 j a (by omega)]; exact q1 j a b
  · rw [e18 i hi, s18 i hi]; exact (q2 i hi).1
  · rw [e21 i hi, s21 i hi]; exact (q2 i hi).2
  · rw [e4 15 (by decide) (by decide), ← q3]; exact f 0 (by decide)
  · rw [eD] at hd; rw [e22 d (by omega)]; exact q4 d hd
  · rw [eD] at hd; rw [er d hd]; exact q5 d hd
  · rw [eD] at hd
    rw [er d (by omega), ← q6 d hd]
    exact vM_ext (fun k hk => by rw [show b' + 29 + 28 * d + k = b' + (29 + 28 * d + k) by omega, f _ (by omega), show b + 29 + 28 * d + k = b + (29 + 28 * d + k) by omega])
  · rw [eD, er _ (Nat.le_refl _), ← q7]
    exact vM_ext (fun k hk => by rw [show b' + 1 + k = b' + (1 + k) by omega, f _ (by omega), show b + 1 + k = b + (1 + k) by omega])
  · rw [eD, er _ (Nat.le_refl _), ← q8]
    exact vC_ext hm (fun j a b => e4 j (by omega) (by omega)) e23 e19 e20
/-- the cells that it reads -/
noncomputable def rdC : List aR := [(4, (0, 4), (6, 15)), (4, (5, 5), (9, 15)), (6, (0, 0), (0, 2)), (18, (0, 4), (0, 5)), (19, (0, 4), (0, 5)), (20, (0, 4), (0, 5)), (21, (0, 4), (0, 5)), (22, (1, 4), (0, 39)), (23, (0, 5), (0, 9))]
noncomputable def rdM : List aR := [(31, (0, 0), (1, 3)), (32, (0, 0), (0, 4595)), (33, (0, 0), (0, 5)), (34, (0, 0), (0, 5))]
theorem RD_cells {I I' J J' : jI} (hG : gG aGI I) (q : RD2 I J) (e : ∀ g i j, gI rdC g i j → I' g i j = I g i j) (f : ∀ g i j, gI rdM g i j → J' g i j = J g i j) : RD2 I' J' := by
  have hm := (mP_6 hG).1
  have e4 : ∀ x j, x ≤ 4 → 6 ≤ j → j ≤ 15 → I' 4 x j = I 4 x j := fun x j a b c => e 4 x j ⟨(4, (0, 4), (6, 15)), by decide, rfl, by simp, by simp; omega, by simp; omega, by simp; omega⟩
  have e45 : ∀ j, 9 ≤ j → j ≤ 15 → I' 4 5 j = I 4 5 j := fun j b c => e 4 5 j ⟨(4, (5, 5), (9, 15)), by decide, rfl, by simp, by simp, by simp; omega, by simp; omega⟩
  have e6 : ∀ j, j < 3 → I' 6 0 j = I 6 0 j := fun j c => e 6 0 j ⟨(6, (0, 0), (0, 2)), by decide, rfl, by simp, by simp, by simp, by simp; omega⟩
  have e18 : ∀ x j, x ≤ 4 → j < 6 → I' 18 x j = I 18 x j := fun x j a c => e 18 x j ⟨(18, (0, 4), (0, 5)), by decide, rfl, by simp, by simp; omega, by simp, by simp; omega⟩
  have e19 : ∀ x j, x ≤ 4 → j < 6 → I' 19 x j = I 19 x j := fun x j a c => e 19 x j ⟨(19, (0, 4), (0, 5)), by decide, rfl, by simp, by simp; omega, by simp, by simp; omega⟩
  have e20 : ∀ x j, x ≤ 4 → j < 6 → I' 20 x j = I 20 x j := fun x j a c => e 20 x j ⟨(20, (0, 4), (0, 5)), by decide, rfl, by simp, by simp; omega, by simp, by simp; omega⟩
  have e21 : ∀ x j, x ≤ 4 → j < 6 → I' 21 x j = I 21 x j := fun x j a c => e 21 x j ⟨(21, (0, 4), (0, 5)), by decide, rfl, by simp, by simp; omega, by simp, by simp; omega⟩
  have e22 : ∀ x j, 1 ≤ x → x ≤ 4 → j < 40 → I' 22 x j = I 22 x j := fun x j a b c => e 22 x j ⟨(22, (1, 4), (0, 39)), by decide, rfl, by simp; omega, by simp; omega, by simp, by simp; omega⟩
  have e23 : ∀ x j, x ≤ 5 → j < 10 → I' 23 x j = I 23 x j := fun x j a c => e 23 x j ⟨(23, (0, 5), (0, 9)), by decide, rfl, by simp, by simp; omega, by simp, by simp; omega⟩
  have f31 : ∀ j, 1 ≤ j → j ≤ 3 → J' 31 0 j = J 31 0 j := fun j b c => f 31 0 j ⟨(31, (0, 0), (1, 3)), by decide, rfl, by simp, by simp, by simp; omega, by simp; omega⟩
  have f32 : ∀ j, j ≤ 4595 → J' 32 0 j = J 32 0 j := fun j c => f 32 0 j ⟨(32, (0, 0), (0, 4595)), by decide, rfl, by simp, by simp, by simp, by simp; omega⟩
  have f33 : ∀ j, j < 6 → J' 33 0 j = J 33 0 j := fun j c => f 33 0 j ⟨(33, (0, 0), (0, 5)), by decide, rfl, by simp, by simp, by simp, by simp; omega⟩
  have f34 : ∀ j, j < 6 → J' 34 0 j = J 34 0 j := fun j c => f 34 0 j ⟨(34, (0, 0), (0, 5)), by decide, rfl, by simp, by simp, by simp, by simp; omega⟩
  have eP : mP I' = mP I := by unfold mP; rw [e4 0 6 (by decide) (by decide) (by decide)]
  have key : ∀ x b, 1 ≤ x → x ≤ 4 → b + 1148 ≤ 4595 → hst (mP I) I J x b → hst (mP I) I' J' x b := fun x b x1 x4 hb q => hst_cells hm (dN_40 hG (by omega)).1 q (fun j a c => e4 0 j (by decide) a (by omega)) (fun i h => e18 0 i (by decide) h) (fun i h => e21 0 i (by decide) h) (fun i h => e23 0 i (by decide) h) (fun i h => e19 0 i (by decide) h) (fun i h => e20 0 i (by decide) h) (fun j a c => e4 x j x4 a c) (fun i h => e18 x i x4 h) (fun i h => e21 x i x4 h) (fun i h => e23 x i (by omega) h) (fun i h => e19 x i x4 h) (fun i h => e20 x i x4 h) (fun i h => e22 x i x1 x4 h) (fun j h => f32 _ (by omega))
  obtain ⟨⟨q1, q2⟩, ⟨q3, q4, q5⟩, q6, q7, q8, q9, q10⟩ := q
  refine ⟨⟨fun j a b => ?_, fun j a => ?_⟩, ⟨?_, ?_, ?_⟩, fun i hi => ⟨?_, ?_⟩, fun hz => ?_, ?_, ?_, fun k hk => ⟨fun z => ?_, fun z => ?_⟩⟩
  · rw [e45 j a (by omega)]; exact q1 j a b
  · rw [e23 5 j (by decide) a]; exact q2 j a
  · rw [f31 3 (by decide) (by decide), e4 0 6 (by decide) (by decide) (by decide)]; exact q3
  · rw [f31 1 (by decide) (by decide), e4 0 7 (by decide) (by decide) (by decide)]; exact q4
  · rw [f31 2 (by decide) (by decide), e4 0 8 (by decide) (by decide) (by decide)]; exact q5
  · rw [eP] at hi; rw [f33 i (by omega), e18 0 i (by decide) (by omega)]; exact (q6 i hi).1
  · rw [eP] at hi; rw [f34 i (by omega), e21 0 i (by decide) (by omega)]; exact (q6 i hi).2
  · rw [eP] at hz
    obtain ⟨z1, z2⟩ := q7 hz
    refine ⟨by rw [e4 0 7 (by decide) (by decide) (by decide), e4 0 8 (by decide) (by decide) (by decide)]; exact z1, fun i hi => ?_⟩
    rw [eP] at hi
    rw [e18 0 i (by decide) (by omega), e21 0 i (by decide) (by omega)]
    exact z2 i hi
  · rw [e4 0 7 (by decide) (by decide) (by decide)]; exact q8
  · rw [eP]; exact key 1 0 (by decide) (by decide) (by decide) q9
  · rw [e6 k hk] at z; rw [f32 _ (by omega)]; exact (q10 k hk).1 z
  · rw [e6 k hk] at z; rw [eP]; exact key (2 + k) _ (by omega) (by omega) (by omega) ((q10 k hk).2 z)
theorem RD_gR {W : List aR} {I I' : jI} {L L' : jL} (hw : rApart W (rdC ++ rdM) = true) (hG : gG aGI I) (q : RD2 I I) (h : gR W I L I' L') : RD2 I' I' := by
  have key : ∀ g i j, gI (rdC ++ rdM) g i j → I' g i j = I g i j := fun g i j z => (h g i j (rApart_of hw z)).1
  exact RD_cells hG q (fun g i j ⟨r, hr, z⟩ => key g i j ⟨r, List.mem_append_left _ hr, z⟩) (fun g i j ⟨r, hr, z⟩ => key g i j ⟨r, List.mem_append_right _ hr, z⟩)
