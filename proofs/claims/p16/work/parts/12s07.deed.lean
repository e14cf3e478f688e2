/-! a deed keeps the relation -/
theorem stp_ext {kd kd' kp kp' : Nat → Int32} {nd dd i v : Int32} {s : Nat → Int32} (h : dd = 0 → kd i.toNatClampNeg = kd' i.toNatClampNeg ∧ kp i.toNatClampNeg = kp' i.toNatClampNeg) : stp kd kp nd dd i v s = stp kd' kp' nd dd i v s := by
  unfold stp
  by_cases c : dd = 0
  · rw [if_pos c, if_pos c]
    unfold stB
    rw [(h c).1, (h c).2]
  · rw [if_neg c, if_neg c]
theorem lOK_of {m d : Nat} {s t : Nat → Int32} (q : lOK m d t) (h : ∀ k, k < 10 → s (6 + k) = t (6 + k)) (h3 : s 3 = t 3) (hg : ∀ i, i < m → (1 ≤ (s (16 + i)).toInt ∧ (s (16 + i)).toInt ≤ 9) ∧ 0 ≤ (s (22 + i)).toInt ∧ (s (22 + i)).toInt ≤ 99) : lOK m (d + 1) s := by
  refine ⟨fun k hk => by rw [h k hk]; exact q.1 k hk, ?_, hg, ?_⟩
  · refine Int.le_trans (smI_le 10 (lrd s) (lrd t) 0 (fun j _ b => ?_)) q.2.1
    show (s (6 + j)).toInt ≤ (t (6 + j)).toInt
    rw [h j (by omega)]
    exact Int.le_refl _
  · have := q.2.2.2
    rw [h3]
    omega
theorem stW_l {nd : Int32} {s : Nat → Int32} {k : Nat} (hk : k < 10) : stW nd s (6 + k) = if k < 9 then (eatV 10 nd (lrd s) 0).2 (k + 1) else 0 := by
  unfold stW
  rw [if_neg (by omega), if_neg (by omega), if_neg (by omega), if_neg (by omega)]
  by_cases c : k < 9
  · rw [if_pos c, if_pos (by omega), show 6 + k - 5 = k + 1 by omega]
  · rw [if_neg c, if_neg (by omega), if_pos (by omega)]
theorem smI_10 {f : Nat → Int32} : smI 10 f 0 = (f 0).toInt + ((f 1).toInt + ((f 2).toInt + ((f 3).toInt + ((f 4).toInt + ((f 5).toInt + ((f 6).toInt + ((f 7).toInt + ((f 8).toInt + ((f 9).toInt + 0))))))))) := rfl
theorem stW_o {nd : Int32} {s : Nat → Int32} {k : Nat} (hk : 16 ≤ k) : stW nd s k = s k := by
  unfold stW
  rw [if_neg (by omega), if_neg (by omega), if_neg (by omega), if_neg (by omega), if_neg (by omega), if_neg (by omega)]
theorem lOK_W {m d : Nat} {nd : Int32} {s : Nat → Int32} (hd : d ≤ 100) (hn : 0 ≤ nd.toInt ∧ nd.toInt ≤ 9) (q : lOK m d s) : lOK m (d + 1) (stW nd s) := by
  obtain ⟨e1, e⟩ := eatV_le 10 nd (lrd s) 0 hn.1 (fun j _ b => q.1 j (by omega))
  refine ⟨fun k hk => ?_, ?_, fun i hi => ?_, ?_⟩
  · rw [stW_l hk]
    by_cases c : k < 9
    · rw [if_pos c]; exact (e (k + 1) (by omega) (by omega)).1
    · rw [if_neg c]; decide
  · have g : ∀ k, k < 9 → (lrd (stW nd s) k).toInt ≤ (lrd s (k + 1)).toInt := fun k hk => by
      show (stW nd s (6 + k)).toInt ≤ _
      rw [stW_l (by omega), if_pos hk]
      exact (e (k + 1) (by omega) (by omega)).2
    have g9 : (lrd (stW nd s) 9).toInt = 0 := by
      show (stW nd s (6 + 9)).toInt = 0
      rw [stW_l (by decide), if_neg (by decide)]
      rfl
    have h0 : 0 ≤ (lrd s 0).toInt := q.1 0 (by decide)
    have hs := q.2.1
    rw [smI_10] at hs ⊢
    have g0 := g 0 (by decide)
    have g1 := g 1 (by decide)
    have g2 := g 2 (by decide)
    have g3 := g 3 (by decide)
    have g4 := g 4 (by decide)
    have g5 := g 5 (by decide)
    have g6 := g 6 (by decide)
    have g7 := g 7 (by decide)
    have g8 := g 8 (by decide)
    dsimp only [Nat.reduceAdd] at g0 g1 g2 g3 g4 g5 g6 g7 g8
    omega
  · rw [stW_o (by omega), stW_o (by omega)]
    exact q.2.2.1 i hi
  · have h3 : stW nd s 3 = s 3 + (eatV 10 nd (lrd s) 0).1 := rfl
    have := q.2.2.2
    rw [h3, i32_add (by omega)]
    omega
theorem lOK_B {m d : Nat} {kd kp : Nat → Int32} {i : Nat} {n : Int32} {s : Nat → Int32} (q : lOK m d s) (hk : (kpsS (kd i) (kp i)).toNatClampNeg < 10) (hn : 0 ≤ (n * gotS (kd i) (s (16 + i))).toInt) (hr : smI 10 (lrd s) 0 + (n * gotS (kd i) (s (16 + i))).toInt ≤ 99) : lOK m (d + 1) (stB kd kp i n s) := by
  generalize hq : (kpsS (kd i) (kp i)).toNatClampNeg = p at hk
  generalize hx : n * gotS (kd i) (s (16 + i)) = x at hn hr
  have mem : (s (6 + p)).toInt ≤ smI 10 (lrd s) 0 := smI_mem 10 (lrd s) 0 p (by omega) (by omega) (fun j _ b => q.1 j (by omega))
  have ge := q.1 p hk
  have ex : (s (6 + p) + x).toInt = (s (6 + p)).toInt + x.toInt := i32_add (by omega)
  have at_ : ∀ k, stB kd kp i n s (6 + k) = if k = p then s (6 + p) + x else s (6 + k) := fun k => by
    unfold stB
    rw [hq, hx]
    unfold upS
    by_cases c : k = p
    · rw [if_pos (by omega), if_pos c]
    · rw [if_neg (by omega), if_neg (by omega), if_neg c]
  have ot : ∀ k, (16 ≤ k ∨ k = 3) → stB kd kp i n s k = s k := fun k hk => by
    unfold stB
    rw [hq]
    unfold upS
    rw [if_neg (by omega), if_neg (by omega)]
  refine ⟨fun k hk => ?_, ?_, fun i hi => ?_, ?_⟩
  · rw [at_]
    by_cases c : k = p
    · rw [if_pos c]; omega
    · rw [if_neg c]; exact q.1 k hk
  · rw [smI_one 10 (lrd (stB kd kp i n s)) (lrd s) 0 p x.toInt (by omega) (by omega) (fun j _ _ c => by show stB kd kp i n s (6 + j) = s (6 + j); rw [at_, if_neg c]) (by show (stB kd kp i n s (6 + p)).toInt = _; rw [at_, if_pos rfl, ex]; rfl)]
    exact hr
  · rw [ot _ (by omega), ot _ (by omega)]
    exact q.2.2.1 i hi
  · have := q.2.2.2
    rw [ot 3 (Or.inr rfl)]
    omega
theorem lOK_S {m d i : Nat} {s : Nat → Int32} (q : lOK m d s) (hm : m ≤ 6) (hi : i < m) (h : 2 ≤ (s (16 + i)).toInt) : lOK m (d + 1) (upS s (16 + i) (s (16 + i) - 1)) := by
  have c1 : (1 : Int32).toInt = 1 := rfl
  have qi := q.2.2.1 i hi
  refine lOK_of q (fun k hk => upS_ne (by omega)) (upS_ne (by omega)) (fun j hj => ?_)
  have qj := q.2.2.1 j hj
  rw [upS_ne (show ¬ 22 + j = 16 + i by omega)]
  by_cases c : j = i
  · subst c
    rw [upS_at, i32_sub (by omega), c1]
    omega
  · rw [upS_ne (by omega)]
    exact qj
theorem lOK_P {m d i : Nat} {v : Int32} {s : Nat → Int32} (q : lOK m d s) (hm : m ≤ 6) (hi : i < m) (h : 0 ≤ v.toInt ∧ v.toInt ≤ 99) : lOK m (d + 1) (upS s (22 + i) v) := by
  refine lOK_of q (fun k hk => upS_ne (by omega)) (upS_ne (by omega)) (fun j hj => ?_)
  have qj := q.2.2.1 j hj
  rw [upS_ne (show ¬ 16 + j = 22 + i by omega)]
  by_cases c : j = i
  · subst c
    rw [upS_at]
    exact ⟨qj.1, h⟩
  · rw [upS_ne (by omega)]
    exact qj
theorem lOK_C {m d : Nat} {v : Int32} {s : Nat → Int32} (q : lOK m d s) : lOK m (d + 1) (upS s 5 v) := lOK_of q (fun k hk => upS_ne (by omega)) (upS_ne (by decide)) (fun j hj => by
  rw [upS_ne (by omega), upS_ne (by omega)]
  exact q.2.2.1 j hj)
theorem x_of {dd i v : Int32} (hd0 : 0 ≤ dd.toInt) (hd4 : dd.toInt ≤ 4) (hi0 : 0 ≤ i.toInt) (hi5 : i.toInt ≤ 5) (hv0 : 0 ≤ v.toInt) (hv : v.toInt ≤ 99) : lgOK (dd * 1000 + i * 100 + v) ∧ xdd (dd * 1000 + i * 100 + v) = dd ∧ xii (dd * 1000 + i * 100 + v) = i ∧ xvv (dd * 1000 + i * 100 + v) = v := by
  have t := code_t hd0 hd4 hi0 hi5 hv0 hv
  have k := (code_ok hd0 hd4 hi0 hi5 hv0 hv).1
  obtain ⟨p1, p2, p3⟩ := lg_parts k
  refine ⟨k, eq_t.mpr ?_, eq_t.mpr ?_, eq_t.mpr ?_⟩
  · show (xdd _).toInt = _
    unfold xdd
    rw [p1, t]; omega
  · unfold xii
    rw [p2, t]; omega
  · unfold xvv
    rw [p3, t]; omega
theorem RD_deed {I I' J J' : jI} {dd i v : Int32} (hG : gG aGI I) (q : RD2 I J) (hD : (I 4 1 15).toInt ≤ 39) (hd0 : 0 ≤ dd.toInt) (hd4 : dd.toInt ≤ 4) (hi0 : 0 ≤ i.toInt) (hi5 : i.toInt ≤ 5) (hv0 : 0 ≤ v.toInt) (hv : v.toInt ≤ 99) (hi : dd = 0 ∨ dd = 2 ∨ dd = 3 → i.toNatClampNeg < mP I) (hl : lOK (mP I) (dN I 1 + 1) (stp (c6 (I 18 0)) (c6 (I 21 0)) (I 4 0 7) dd i v (vC (mP I) I 1))) (c : pfF (mP I) dd i v I I') (r : rfF (mP I) (dN I 1) dd i v J J') : RD2 I' J' := by
  have hm := (mP_6 hG).1
  obtain ⟨x1, x2, x3, x4⟩ := x_of hd0 hd4 hi0 hi5 hv0 hv
  obtain ⟨c1, c2, c3, c4⟩ := c
  have c3 : ∀ e, I' 22 1 e = if e = dN I 1 then dd * 1000 + i * 100 + v else I 22 1 e := c3
  obtain ⟨r1, r2, r3, r4, r5⟩ := r
  obtain ⟨⟨q1, q2⟩, ⟨q3, q4, q5⟩, q6, q7, q8, ⟨⟨h1, h2⟩, h3, h4, h5, h6, h7, h8⟩, q10⟩ := q
  have o : ∀ g x j, ¬ x = 1 → I' g x j = I g x j := fun g x j a => c4 g x j (fun z => a z.1)
  have o1 : ∀ j, 6 ≤ j → j ≤ 8 → I' 4 1 j = I 4 1 j := fun j a b => c4 4 1 j (fun z => by have := z.2; omega)
  have o18 : ∀ j, I' 18 1 j = I 18 1 j := fun j => c4 18 1 j (fun z => by have := z.2; omega)
  have o21 : ∀ j, I' 21 1 j = I 21 1 j := fun j => c4 21 1 j (fun z => by have := z.2; omega)
  have eP : mP I' = mP I := by unfold mP; rw [o 4 0 6 (by decide)]
  obtain ⟨d40, dI⟩ := dN_40 hG (h := 1) (by decide)
  have cc1 : (1 : Int32).toInt = 1 := rfl
  have t15 : (I' 4 1 15).toInt = (I 4 1 15).toInt + 1 := by rw [c2, i32_add (by omega), cc1]
  have eD : dN I' 1 = dN I 1 + 1 := by
    have := cl_t (x := I' 4 1 15) (by omega)
    unfold dN at dI ⊢
    omega
  have er : ∀ d, d ≤ dN I 1 → rp (mP I) I' 1 d = rp (mP I) I 1 d := fun d hd => rp_cells hm (fun j _ _ => o 4 0 j (by decide)) (fun i _ => o 18 0 i (by decide)) (fun i _ => o 21 0 i (by decide)) (fun i _ => o 23 0 i (by decide)) (fun i _ => o 19 0 i (by decide)) (fun i _ => o 20 0 i (by decide)) (fun e he => by rw [c3, if_neg (show ¬ e = dN I 1 by omega)])
  have e7 : I 4 1 7 = I 4 0 7 := h1 7 (by decide) (by decide)
  have s1 : stp (I 18 1) (I 21 1) (I 4 1 7) dd i v (vC (mP I) I 1) = stp (c6 (I 18 0)) (c6 (I 21 0)) (I 4 0 7) dd i v (vC (mP I) I 1) := by
    rw [e7]
    refine stp_ext (fun z => ?_)
    have hi6 : i.toNatClampNeg < 6 := by have := hi (Or.inl z); omega
    rw [c6_at hi6, c6_at hi6]
    exact h2 _ hi6
  have s2 : stp (J 33 0) (J 34 0) (J 31 0 1) dd i v (vM (mP I) J 1) = stp (c6 (I 18 0)) (c6 (I 21 0)) (I 4 0 7) dd i v (vM (mP I) J 1) := by
    rw [q4]
    refine stp_ext (fun z => ?_)
    have hi6 := hi (Or.inl z)
    rw [c6_at (by omega), c6_at (by omega)]
    exact q6 _ hi6
  have nw : rp (mP I) I' 1 (dN I 1 + 1) = stp (c6 (I 18 0)) (c6 (I 21 0)) (I 4 0 7) dd i v (vC (mP I) I 1) := by
    show stp (c6 (I' 18 0)) (c6 (I' 21 0)) (I' 4 0 7) (xdd (I' 22 1 (dN I 1))) (xii (I' 22 1 (dN I 1))) (xvv (I' 22 1 (dN I 1))) (rp (mP I) I' 1 (dN I 1)) = _
    rw [er _ (Nat.le_refl _), ← h8, c3, if_pos rfl, x2, x3, x4, o 4 0 7 (by decide), c6_ext (fun i _ => o 18 0 i (by decide)), c6_ext (fun i _ => o 21 0 i (by decide))]
  have h7' : vM (mP I) J 1 = rp (mP I) I 1 (dN I 1) := h7
  refine ⟨⟨fun j a b => ?_, fun j a => ?_⟩, ⟨?_, ?_, ?_⟩, fun i hi => ⟨?_, ?_⟩, fun hz => ?_, ?_, ?_, fun k hk => ⟨fun z => ?_, fun z => ?_⟩⟩
  · rw [o 4 5 j (by decide)]; exact q1 j a b
  · rw [o 23 5 j (by decide)]; exact q2 j a
  · rw [r5 31 (by decide), o 4 0 6 (by decide)]; exact q3
  · rw [r5 31 (by decide), o 4 0 7 (by decide)]; exact q4
  · rw [r5 31 (by decide), o 4 0 8 (by decide)]; exact q5
  · rw [eP] at hi; rw [r5 33 (by decide), o 18 0 i (by decide)]; exact (q6 i hi).1
  · rw [eP] at hi; rw [r5 34 (by decide), o 21 0 i (by decide)]; exact (q6 i hi).2
  · rw [eP] at hz
    obtain ⟨z1, z2⟩ := q7 hz
    refine ⟨by rw [o 4 0 7 (by decide), o 4 0 8 (by decide)]; exact z1, fun i hi => ?_⟩
    rw [eP] at hi
    rw [o 18 0 i (by decide), o 21 0 i (by decide)]
    exact z2 i hi
  · rw [o 4 0 7 (by decide)]; exact q8
  · rw [eP]
    refine ⟨⟨fun j a b => ?_, fun i hi => ⟨?_, ?_⟩⟩, ?_, fun d hd => ?_, fun d hd => ?_, fun d hd => ?_, ?_, ?_⟩
    · rw [o1 j a b, o 4 0 j (by decide)]; exact h1 j a b
    · rw [o18, o 18 0 i (by decide)]; exact (h2 i hi).1
    · rw [o21, o 21 0 i (by decide)]; exact (h2 i hi).2
    · rw [r1, c2]; exact congrArg (fun z => z + 1) h3
    · rw [eD] at hd
      rw [c3]
      by_cases e : d = dN I 1
      · rw [if_pos e]
        exact ⟨x1, by rw [x2, x3]; exact hi⟩
      · rw [if_neg e]; exact h4 d (by omega)
    · rw [eD] at hd
      by_cases e : d = dN I 1 + 1
      · rw [e, nw]; exact hl
      · rw [er d (by omega)]; exact h5 d (by omega)
    · rw [eD] at hd
      rw [er d (by omega)]
      by_cases e : d = dN I 1
      · rw [e, ← h7', ← r3, show 0 + 29 + 28 * dN I 1 = 29 + 28 * dN I 1 by omega]
      · rw [← h6 d (by omega)]
        exact vM_ext (fun k hk => r4 _ (by omega) (by omega))
    · rw [eD, nw, h8, ← h7', show 0 + 1 = 1 from rfl, r2, s2]
    · rw [eD, nw, c1, s1]
  · rw [o 6 0 k (by decide)] at z
    rw [r4 _ (by omega) (by omega)]
    exact (q10 k hk).1 z
  · rw [o 6 0 k (by decide)] at z
    rw [eP]
    exact hst_cells hm (dN_40 hG (by omega)).1 ((q10 k hk).2 z) (fun j _ _ => o 4 0 j (by decide)) (fun i _ => o 18 0 i (by decide)) (fun i _ => o 21 0 i (by decide)) (fun i _ => o 23 0 i (by decide)) (fun i _ => o 19 0 i (by decide)) (fun i _ => o 20 0 i (by decide)) (fun j _ _ => o 4 _ j (by omega)) (fun i _ => o 18 _ i (by omega)) (fun i _ => o 21 _ i (by omega)) (fun i _ => o 23 _ i (by omega)) (fun i _ => o 19 _ i (by omega)) (fun i _ => o 20 _ i (by omega)) (fun i _ => o 22 _ i (by omega)) (fun j h => r4 _ (by omega) (by omega))
