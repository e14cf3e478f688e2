/-! shop: the reference's side -/
noncomputable def agM (J0 J : jI) : Prop := ∀ g, ¬ g = 41 → J g = J0 g
theorem agM_up {J0 J : jI} {j : Nat} {v : Int32} (h : agM J0 J) : agM J0 (jup J 41 0 j v) := fun g hg => (jup_g hg).trans (h g hg)
theorem ix6 {t i : Nat} (ht : t ≤ 3) (hi : i ≤ 20) : Int32.toNatClampNeg (6 * nI t + nI i) = 6 * t + i ∧ Int32.toNatClampNeg (6 * nI t + 6 + nI i) = 6 * t + 6 + i := by
  have a : (nI t).toInt = (t : Int) := nI_toInt (by omega)
  have b : (nI i).toInt = (i : Int) := nI_toInt (by omega)
  have c6 : (6 : Int32).toInt = 6 := rfl
  have e1 : (6 * nI t).toInt = 6 * (t : Int) := by rw [i32_mul (by rw [c6]; omega), c6, a]
  have e2 : (6 * nI t + nI i).toInt = 6 * (t : Int) + (i : Int) := by rw [i32_add (by omega), e1, b]
  have e3 : (6 * nI t + 6).toInt = 6 * (t : Int) + 6 := by rw [i32_add (by omega), e1, c6]
  have e4 : (6 * nI t + 6 + nI i).toInt = 6 * (t : Int) + 6 + (i : Int) := by rw [i32_add (by omega), e3, b]
  have f2 := cl_t (x := 6 * nI t + nI i) (by omega)
  have f4 := cl_t (x := 6 * nI t + 6 + nI i) (by omega)
  omega
theorem wM {I0 J0 J : jI} {m t i : Nat} (hG : gG aGI I0) (c : cur I0 J0 m) (hJ : agM J0 J) (ht : t ≤ 3) (hi : i < m) : (d198 (nI t) (nI i) J).toInt = shW I0 i (J 41 0 (6 * t + i)) := by
  have m6 := c.2.1.2
  have i6 : Int32.toNatClampNeg 6 = 1 + 5 := rfl
  have n0 : (nI i).toInt = (i : Int) := nI_toInt (by omega)
  have nc : (nI i).toNatClampNeg = i := nI_c (by omega)
  unfold d198
  rw [d155_x (hJ 33 (by decide)) (hJ 32 (by decide)), got_cm c (by omega) (by omega), hJ 33 (by decide), hJ 32 (by decide), (ix6 ht (by omega)).1, i6, c.1.2.2.2 5 (by decide), nc, (c.1.2.2.1 i hi).2.1, cost_m (card01 hG)]
  rfl
theorem lyM_l {J0 J : jI} {m t k : Nat} (hm : m ≤ 6) (e3 : J0 31 0 3 = nI m) (ht : t ≤ 1) (hk : k ≤ m) (hP : pR m (fun i => J 41 0 (6 * t + i))) : ∀ (N n F : Nat) (Y : jI), n + N = m → N < F → agM J0 Y → (∀ j, j < 6 * t + 6 → Y 41 0 j = J 41 0 j) → (∀ i, i < n → Y 41 0 (6 * t + 6 + i) = shU (fun i => J 41 0 (6 * t + i)) k i) → ∃ T, d199_2 (nI t) (nI k) F (nI n) Y = some T ∧ agM J0 T ∧ (∀ j, j < 6 * t + 6 → T 41 0 j = J 41 0 j) ∧ ∀ i, i < m → T 41 0 (6 * t + 6 + i) = shU (fun i => J 41 0 (6 * t + i)) k i
  | _, _, 0, _, _, h, _, _, _ => absurd h (Nat.not_lt_zero _)
  | 0, n, F + 1, Y, hn, _, hY, h1, h2 => by
    have : n = m := by omega
    subst this
    rw [d199_2, hY 31 (by decide), e3, if_pos (show nI n ≤ nI n by rw [le_t]; omega)]
    exact ⟨_, rfl, hY, h1, h2⟩
  | N + 1, n, F + 1, Y, hn, hF, hY, h1, h2 => by
    have a1 : (nI n).toInt = (n : Int) := nI_toInt (by omega)
    have a2 : (nI m).toInt = (m : Int) := nI_toInt (by omega)
    have a3 : (nI k).toInt = (k : Int) := nI_toInt (by omega)
    have c7 : (7 : Int32).toInt = 7 := rfl
    have c99 : (99 : Int32).toInt = 99 := rfl
    have b : 0 ≤ (J 41 0 (6 * t + n)).toInt ∧ (J 41 0 (6 * t + n)).toInt ≤ 99 := hP n (by omega)
    have s7 := i32_add (x := J 41 0 (6 * t + n)) (y := 7) (by omega)
    have az : J 41 0 (6 * t + n) + 0 = J 41 0 (6 * t + n) := Int32.add_zero _
    have hu : shU (fun i => J 41 0 (6 * t + i)) k n = if n = k then (if J 41 0 (6 * t + n) + 7 < 99 then J 41 0 (6 * t + n) + 7 else 99) else J 41 0 (6 * t + n) := rfl
    have next : ∀ v, v = shU (fun i => J 41 0 (6 * t + i)) k n → ∃ T, d199_2 (nI t) (nI k) F (nI (n + 1)) (jup Y 41 0 (6 * t + 6 + n) v) = some T ∧ agM J0 T ∧ (∀ j, j < 6 * t + 6 → T 41 0 j = J 41 0 j) ∧ ∀ i, i < m → T 41 0 (6 * t + 6 + i) = shU (fun i => J 41 0 (6 * t + i)) k i := fun v hv => by
      refine lyM_l hm e3 ht hk hP N (n + 1) F _ (by omega) (by omega) (agM_up hY) (fun j hj => ?_) (fun i hi => ?_)
      · rw [jup_c, if_neg (by omega)]; exact h1 j hj
      · rw [jup_c]
        by_cases e : i = n
        · rw [if_pos (by omega), hv, e]
        · rw [if_neg (by omega)]; exact h2 i (by omega)
    rw [d199_2, hY 31 (by decide), e3, if_neg (show ¬ nI m ≤ nI n by rw [le_t]; omega), (ix6 (by omega) (by omega)).1, (ix6 (by omega) (by omega)).2, h1 _ (by omega), az, nI_up (by omega)]
    by_cases e : n = k
    · rw [if_pos (show nI n = nI k by rw [e])]
      rw [if_pos e] at hu
      by_cases l : J 41 0 (6 * t + n) + 7 ≤ 99
      · rw [if_pos l]
        refine next _ ?_
        rw [hu]
        by_cases l2 : J 41 0 (6 * t + n) + 7 < 99
        · rw [if_pos l2]
        · rw [if_neg l2]
          rw [le_t] at l
          rw [lt_t] at l2
          exact eq_t.mpr (by omega)
      · rw [if_neg l]
        refine next _ ?_
        rw [hu, if_neg (fun l2 => by rw [le_t] at l; rw [lt_t] at l2; omega)]
    · rw [if_neg (show ¬ nI n = nI k from fun w => by rw [eq_t] at w; omega)]
      rw [if_neg e] at hu
      rw [if_pos (show J 41 0 (6 * t + n) ≤ 99 by rw [le_t]; omega)]
      exact next _ hu.symm
theorem lyM {J0 J : jI} {m t k : Nat} (hm : m ≤ 6) (e3 : J0 31 0 3 = nI m) (ht : t ≤ 1) (hk : k ≤ m) (hP : pR m (fun i => J 41 0 (6 * t + i))) (hJ : agM J0 J) : ∃ T, d199 (nI t) (nI k) J = some T ∧ agM J0 T ∧ (∀ j, j < 6 * t + 6 → T 41 0 j = J 41 0 j) ∧ ∀ i, i < m → T 41 0 (6 * t + 6 + i) = shU (fun i => J 41 0 (6 * t + i)) k i := by
  obtain ⟨T, t1, t2⟩ := lyM_l hm e3 ht hk hP m 0 70 J (by omega) (by omega) hJ (fun _ _ => rfl) (fun i hi => absurd hi (Nat.not_lt_zero _))
  have t1 : d199_2 (nI t) (nI k) 70 0 J = some T := t1
  refine ⟨T, ?_, t2⟩
  unfold d199
  rw [t1, Option.bind_some]
theorem byM_l {I0 J0 J : jI} {m t : Nat} (hG : gG aGI I0) (c : cur I0 J0 m) (hJ : agM J0 J) (ht : t ≤ 3) (hP : pR m (fun i => J 41 0 (6 * t + i))) : ∀ (N n F : Nat) (x : Int32), n + N = m → N < F → (∀ k, k < n → x.toInt ≤ shW I0 k (J 41 0 (6 * t + k))) → (∃ k, k < n ∧ x.toInt = shW I0 k (J 41 0 (6 * t + k))) → ∃ b, d200_9 (nI t) J F x (nI n) = some b ∧ b.toInt = shB I0 m (fun i => J 41 0 (6 * t + i))
  | _, _, 0, _, _, h, _, _ => absurd h (Nat.not_lt_zero _)
  | 0, n, F + 1, x, hn, _, h1, h2 => by
    obtain ⟨e6, e3, m6⟩ := cur_nI c
    have : n = m := by omega
    subst this
    rw [d200_9, hJ 31 (by decide), e3, if_pos (show nI n ≤ nI n by rw [le_t]; omega)]
    refine ⟨_, rfl, (mn_is h1 h2 ?_).symm⟩
    obtain ⟨k, hk, e⟩ := h2
    have := shW_b c hk (hP k hk)
    have t1 : shW I0 k (J 41 0 (6 * t + k)) ≤ 99 := this.2.1
    omega
  | N + 1, n, F + 1, x, hn, hF, h1, h2 => by
    obtain ⟨e6, e3, m6⟩ := cur_nI c
    have a1 : (nI n).toInt = (n : Int) := nI_toInt (by omega)
    have a2 : (nI m).toInt = (m : Int) := nI_toInt (by omega)
    have w := wM (i := n) hG c hJ ht (by omega)
    rw [d200_9, hJ 31 (by decide), e3, if_neg (show ¬ nI m ≤ nI n by rw [le_t]; omega), nI_up (by omega)]
    by_cases l : x ≤ d198 (nI t) (nI n) J
    · rw [if_pos l]
      rw [le_t, w] at l
      refine byM_l hG c hJ ht hP N (n + 1) F _ (by omega) (by omega) (fun k hk => ?_) ?_
      · by_cases e : k = n
        · rw [e]; exact l
        · exact h1 k (by omega)
      · obtain ⟨k, hk, e⟩ := h2
        exact ⟨k, by omega, e⟩
    · rw [if_neg l]
      rw [le_t, w] at l
      refine byM_l hG c hJ ht hP N (n + 1) F _ (by omega) (by omega) (fun k hk => ?_) ⟨n, by omega, w⟩
      rw [w]
      by_cases e : k = n
      · rw [e]; omega
      · have := h1 k (by omega); omega
theorem byM {I0 J0 J : jI} {m t : Nat} (hG : gG aGI I0) (c : cur I0 J0 m) (hm : 0 < m) (hJ : agM J0 J) (ht : t ≤ 3) (hP : pR m (fun i => J 41 0 (6 * t + i))) : ∃ b, d200 (nI t) J = some b ∧ b.toInt = shB I0 m (fun i => J 41 0 (6 * t + i)) := by
  have m6 := c.2.1.2
  have w := wM (i := 0) hG c hJ ht hm
  obtain ⟨b, b1, b2⟩ := byM_l hG c hJ ht hP (m - 1) 1 70 (d198 (nI t) (nI 0) J) (by omega) (by omega) (fun k hk => by rw [w, show k = 0 by omega]; omega) ⟨0, by omega, w⟩
  have b1 : d200_9 (nI t) J 70 (d198 (nI t) 0 J) 1 = some b := b1
  refine ⟨b, ?_, b2⟩
  unfold d200
  rw [b1, Option.bind_some]
theorem pR_cg {m : Nat} {P Q : Nat → Int32} (h : ∀ i, i < m → P i = Q i) (q : pR m Q) : pR m P := fun i hi => by rw [h i hi]; exact q i hi
theorem lsM_l {I0 J0 J : jI} {m t : Nat} (hG : gG aGI I0) (c : cur I0 J0 m) (hm : 0 < m) (ht : t ≤ 1) (hP : pR m (fun i => J 41 0 (6 * t + i))) : ∀ (N n F : Nat) (x : Int32) (Y : jI), n + N = m + 1 → N < F → agM J0 Y → (∀ j, j < 6 * t + 6 → Y 41 0 j = J 41 0 j) → x.toInt = mxF (fun k => shB I0 m (shU (fun i => J 41 0 (6 * t + i)) k) + 0) n → ∃ v T, d201_5 (nI t) F x (nI n) Y = some (v, T) ∧ v.toInt = shT I0 m 1 (fun i => J 41 0 (6 * t + i)) ∧ agM J0 T ∧ ∀ j, j < 6 * t + 6 → T 41 0 j = J 41 0 j
  | _, _, 0, _, _, _, h, _, _, _ => absurd h (Nat.not_lt_zero _)
  | 0, n, F + 1, x, Y, hn, _, hY, h1, hx => by
    obtain ⟨e6, e3, m6⟩ := cur_nI c
    have : n = m + 1 := by omega
    subst this
    have a1 : (nI (m + 1)).toInt = ((m + 1 : Nat) : Int) := nI_toInt (by omega)
    have a2 : (nI m).toInt = (m : Int) := nI_toInt (by omega)
    rw [d201_5, hY 31 (by decide), e3, if_pos (show nI m < nI (m + 1) by rw [lt_t]; omega)]
    exact ⟨_, _, rfl, hx, hY, h1⟩
  | N + 1, n, F + 1, x, Y, hn, hF, hY, h1, hx => by
    obtain ⟨e6, e3, m6⟩ := cur_nI c
    have a1 : (nI n).toInt = (n : Int) := nI_toInt (by omega)
    have a2 : (nI m).toInt = (m : Int) := nI_toInt (by omega)
    have q1 : ∀ i, i < m → Y 41 0 (6 * t + i) = J 41 0 (6 * t + i) := fun i hi => h1 _ (by omega)
    obtain ⟨T, t1, t2, t3, t4⟩ := lyM (J := Y) (k := n) m6 e3 ht (by omega) (pR_cg q1 hP) hY
    have q2 : ∀ i, i < m → T 41 0 (6 * (t + 1) + i) = shU (fun i => J 41 0 (6 * t + i)) n i := fun i hi => by
      rw [show 6 * (t + 1) + i = 6 * t + 6 + i by omega, t4 i hi]
      exact shU_cg (m := m) q1 i hi
    obtain ⟨b, b1, b2⟩ := byM (J := T) (t := t + 1) hG c hm t2 (by omega) (pR_cg q2 (pR_u hP))
    rw [sh_cg q2] at b2
    rw [d201_5, hY 31 (by decide), e3, if_neg (show ¬ nI m < nI n by rw [lt_t]; omega), t1, Option.bind_some, nI_up (by omega), b1, Option.bind_some, nI_up (by omega)]
    have st : mxF (fun k => shB I0 m (shU (fun i => J 41 0 (6 * t + i)) k) + 0) (n + 1) = if mxF (fun k => shB I0 m (shU (fun i => J 41 0 (6 * t + i)) k) + 0) n < shB I0 m (shU (fun i => J 41 0 (6 * t + i)) n) + 0 then shB I0 m (shU (fun i => J 41 0 (6 * t + i)) n) + 0 else mxF (fun k => shB I0 m (shU (fun i => J 41 0 (6 * t + i)) k) + 0) n := rfl
    rw [← hx, Int.add_zero, ← b2] at st
    have q3 : ∀ j, j < 6 * t + 6 → T 41 0 j = J 41 0 j := fun j hj => by rw [t3 j hj, h1 j hj]
    by_cases l : b ≤ x
    · rw [if_pos l]
      rw [le_t] at l
      exact lsM_l hG c hm ht hP N (n + 1) F x T (by omega) (by omega) t2 q3 (by rw [st, if_neg (by omega)])
    · rw [if_neg l]
      rw [le_t] at l
      exact lsM_l hG c hm ht hP N (n + 1) F b T (by omega) (by omega) t2 q3 (by rw [st, if_pos (by omega)])
theorem lsM {I0 J0 J : jI} {m t : Nat} (hG : gG aGI I0) (c : cur I0 J0 m) (hm : 0 < m) (ht : t ≤ 1) (hP : pR m (fun i => J 41 0 (6 * t + i))) (hJ : agM J0 J) : ∃ v T, d201 (nI t) J = some (v, T) ∧ v.toInt = shT I0 m 1 (fun i => J 41 0 (6 * t + i)) ∧ agM J0 T ∧ ∀ j, j < 6 * t + 6 → T 41 0 j = J 41 0 j := by
  have m6 := c.2.1.2
  obtain ⟨v, T, t1, t2⟩ := lsM_l hG c hm ht hP (m + 1) 0 70 (-99999) J (by omega) (by omega) hJ (fun _ _ => rfl) rfl
  have t1 : d201_5 (nI t) 70 (-99999) 0 J = some (v, T) := t1
  refine ⟨v, T, ?_, t2⟩
  unfold d201
  rw [t1, Option.bind_some]
theorem fsM_l {I0 J0 J : jI} {m : Nat} (hG : gG aGI I0) (c : cur I0 J0 m) (hm : 0 < m) (hP : pR m (J 41 0)) : ∀ (N n F : Nat) (x : Int32) (Y : jI), n + N = m + 1 → N < F → agM J0 Y → (∀ j, j < 6 → Y 41 0 j = J 41 0 j) → x.toInt = mxF (fun k => shB I0 m (shU (J 41 0) k) + shT I0 m 1 (shU (J 41 0) k)) n → ∃ v T, d202_5 F x (nI n) Y = some (v, T) ∧ v.toInt = shT I0 m 2 (J 41 0)
  | _, _, 0, _, _, _, h, _, _, _ => absurd h (Nat.not_lt_zero _)
  | 0, n, F + 1, x, Y, hn, _, hY, h1, hx => by
    obtain ⟨e6, e3, m6⟩ := cur_nI c
    have : n = m + 1 := by omega
    subst this
    have a1 : (nI (m + 1)).toInt = ((m + 1 : Nat) : Int) := nI_toInt (by omega)
    have a2 : (nI m).toInt = (m : Int) := nI_toInt (by omega)
    rw [d202_5, hY 31 (by decide), e3, if_pos (show nI m < nI (m + 1) by rw [lt_t]; omega)]
    exact ⟨_, _, rfl, hx⟩
  | N + 1, n, F + 1, x, Y, hn, hF, hY, h1, hx => by
    obtain ⟨e6, e3, m6⟩ := cur_nI c
    have a1 : (nI n).toInt = (n : Int) := nI_toInt (by omega)
    have a2 : (nI m).toInt = (m : Int) := nI_toInt (by omega)
    have q1 : ∀ i, i < m → (fun i => Y 41 0 (6 * 0 + i)) i = J 41 0 i := fun i hi => by
      show Y 41 0 (6 * 0 + i) = J 41 0 i
      rw [show 6 * 0 + i = i by omega]
      exact h1 _ (by omega)
    obtain ⟨T, t1, t2, t3, t4⟩ := lyM (J := Y) (t := 0) (k := n) m6 e3 (by omega) (by omega) (pR_cg q1 hP) hY
    have q2 : ∀ i, i < m → (fun i => T 41 0 (6 * 1 + i)) i = shU (J 41 0) n i := fun i hi => by
      show T 41 0 (6 * 1 + i) = _
      rw [show 6 * 1 + i = 6 * 0 + 6 + i by omega, t4 i hi]
      exact shU_cg (m := m) q1 i hi
    have pT := pR_cg q2 (pR_u hP)
    obtain ⟨b, b1, b2⟩ := byM (J := T) (t := 1) hG c hm t2 (by omega) pT
    obtain ⟨v, S, s1, s2, s3, s4⟩ := lsM (J := T) (t := 1) hG c hm (by omega) pT t2
    rw [sh_cg q2] at b2
    rw [shT_cg 1 _ _ q2] at s2
    have t1 : d199 0 (nI n) Y = some T := t1
    have b1 : d200 1 T = some b := b1
    have s1 : d201 1 T = some (v, S) := s1
    have bb := shB_b c hm (pR_u (k := n) hP)
    have tb := shT_b c hm 1 (shU (J 41 0) n) (pR_u hP)
    have es : (b + v).toInt = b.toInt + v.toInt := i32_add (by omega)
    rw [d202_5, hY 31 (by decide), e3, if_neg (show ¬ nI m < nI n by rw [lt_t]; omega), t1, Option.bind_some, b1, Option.bind_some, s1, Option.bind_some, nI_up (by omega)]
    have st : mxF (fun k => shB I0 m (shU (J 41 0) k) + shT I0 m 1 (shU (J 41 0) k)) (n + 1) = if mxF (fun k => shB I0 m (shU (J 41 0) k) + shT I0 m 1 (shU (J 41 0) k)) n < shB I0 m (shU (J 41 0) n) + shT I0 m 1 (shU (J 41 0) n) then shB I0 m (shU (J 41 0) n) + shT I0 m 1 (shU (J 41 0) n) else mxF (fun k => shB I0 m (shU (J 41 0) k) + shT I0 m 1 (shU (J 41 0) k)) n := rfl
    rw [← hx, ← b2, ← s2, ← es] at st
    have q3 : ∀ j, j < 6 → S 41 0 j = J 41 0 j := fun j hj => by rw [s4 j (by omega), t3 j (by omega), h1 j hj]
    by_cases l : b + v ≤ x
    · rw [if_pos l]
      rw [le_t] at l
      exact fsM_l hG c hm hP N (n + 1) F x S (by omega) (by omega) s3 q3 (by rw [st, if_neg (by omega)])
    · rw [if_neg l]
      rw [le_t] at l
      exact fsM_l hG c hm hP N (n + 1) F (b + v) S (by omega) (by omega) s3 q3 (by rw [st, if_pos (by omega)])
theorem fsM {I0 J0 J : jI} {m : Nat} (hG : gG aGI I0) (c : cur I0 J0 m) (hm : 0 < m) (hP : pR m (J 41 0)) (hJ : agM J0 J) : ∃ v T, d202 J = some (v, T) ∧ v.toInt = shT I0 m 2 (J 41 0) := by
  have m6 := c.2.1.2
  obtain ⟨v, T, t1, t2⟩ := fsM_l hG c hm hP (m + 1) 0 70 (-99999) J (by omega) (by omega) hJ (fun _ _ => rfl) rfl
  have t1 : d202_5 70 (-99999) 0 J = some (v, T) := t1
  refine ⟨v, T, ?_, t2⟩
  unfold d202
  rw [t1, Option.bind_some]
theorem flM_l {y1 : Int32} {J0 : jI} {m : Nat} (hm : m ≤ 6) (e3 : J0 31 0 3 = nI m) : ∀ (N n F : Nat) (J : jI), n + N = m → N < F → agM J0 J → (∀ i, i < n → J 41 0 i = J0 32 0 (23 + i)) → ∃ T, d203_26 y1 F (nI n) J = some T ∧ agM J0 T ∧ ∀ i, i < m → T 41 0 i = J0 32 0 (23 + i)
  | _, _, 0, _, _, h, _, _ => absurd h (Nat.not_lt_zero _)
  | 0, n, F + 1, J, hn, _, hJ, hP => by
    have : n = m := by omega
    subst this
    rw [d203_26, hJ 31 (by decide), e3, if_pos (show nI n ≤ nI n by rw [le_t]; omega)]
    exact ⟨_, rfl, hJ, hP⟩
  | N + 1, n, F + 1, J, hn, hF, hJ, hP => by
    have a1 : (nI n).toInt = (n : Int) := nI_toInt (by omega)
    have a2 : (nI m).toInt = (m : Int) := nI_toInt (by omega)
    have i23 : Int32.toNatClampNeg (23 + nI n) = 23 + n := by rw [(ixa (a := 23) (by decide) (by decide) (by omega) (by omega)).2, nI_c (by omega)]; rfl
    rw [d203_26, hJ 31 (by decide), e3, if_neg (show ¬ nI m ≤ nI n by rw [le_t]; omega), nI_c (by omega), nI_up (by omega), hJ 32 (by decide), i23]
    refine flM_l hm e3 N (n + 1) F _ (by omega) (by omega) (agM_up hJ) (fun i hi => ?_)
    rw [jup_c]
    by_cases e : i = n
    · rw [if_pos e, e]
    · rw [if_neg e]; exact hP i (by omega)
theorem shop_as {I J : jI} (n : Int32) (hG : gG aGI I) (q : RD2 I J) (hA : RAs I J) : ∃ r r', d102 n I = some r ∧ d203 n J = some r' ∧ RAs r.2 r'.2 := by
  have c := RD_cur hG q
  obtain ⟨e6, e3, m6⟩ := cur_nI c
  have z2 : (2 : Int32).toInt = 2 := rfl
  unfold d102 d203
  rw [in_i, c.1.1.1]
  by_cases h1 : 0 ≤ n.toInt ∧ n.toInt ≤ 2
  · rw [if_neg (show ¬ n < 0 by rw [lt0_t]; omega), if_pos (show n ≤ 2 by rw [le_t, z2]; exact h1.2), if_pos (show (0 : Int64).toInt ≤ n.toInt ∧ n.toInt ≤ (2 : Int64).toInt from h1), if_neg one0]
    by_cases h2 : I 4 1 6 = 0
    · rw [if_pos h2, if_pos h2]
      exact ⟨_, _, rfl, rfl, hA⟩
    · rw [if_neg h2, if_neg h2]
      have mp : 0 < mP I := by
        have : mP I ≠ 0 := fun z => h2 (by rw [e6, z]; rfl)
        omega
      have hb : ∀ i, i < mP I → 0 ≤ (I 20 1 i).toInt ∧ (I 20 1 i).toInt ≤ 99 := fun i hi => (c.2.2.2.1.2.1 i hi).2
      obtain ⟨T, t1, t2, t3⟩ := flC_l (y1 := n) m6 e6 (mP I) 0 70 I (by omega) (by omega) (fun _ _ => rfl) (fun i hi => absurd hi (Nat.not_lt_zero _))
      obtain ⟨S, s1, s2, s3⟩ := flM_l (y1 := n) m6 e3 (mP I) 0 70 J (by omega) (by omega) (fun _ _ => rfl) (fun i hi => absurd hi (Nat.not_lt_zero _))
      have t1 : d102_26 n 70 0 I = some T := t1
      have s1 : d203_26 n 70 0 J = some S := s1
      have pT : pR (mP I) (T 10 0) := pR_cg t3 hb
      have ST : ∀ i, i < mP I → S 41 0 i = T 10 0 i := fun i hi => by rw [s3 i hi, t3 i hi, (c.1.2.2.1 i hi).1.2]
      have pS : pR (mP I) (S 41 0) := pR_cg ST pT
      have nn := cl_t h1.1
      have en : n = nI n.toNatClampNeg := nI_as (by omega) (by omega)
      obtain ⟨v, v1, v2⟩ := shC c mp n.toNatClampNeg 4 T (by omega) (by omega) t2 pT
      rw [← en] at v1
      rw [t1, s1, Option.bind_some, v1, Option.bind_some]
      dsimp only [Option.bind_some]
      by_cases n0 : n = 0
      · rw [if_pos n0]
        refine ⟨_, _, rfl, rfl, ?_⟩
        show (0 : Int32) = v
        rw [show n.toNatClampNeg = 0 by rw [n0]; rfl] at v2
        exact eq_t.mpr v2.symm
      · rw [if_neg n0]
        by_cases n1 : n = 1
        · rw [if_pos n1]
          have pS' : pR (mP I) (fun i => S 41 0 (6 * 0 + i)) := pR_cg (Q := S 41 0) (fun i _ => by show S 41 0 (6 * 0 + i) = S 41 0 i; rw [show 6 * 0 + i = i by omega]) pS
          obtain ⟨w, U, u1, u2, -⟩ := lsM (J := S) (t := 0) hG c mp (by omega) pS' s2
          have u1 : d201 0 S = some (w, U) := u1
          rw [u1, Option.bind_some]
          refine ⟨_, _, rfl, rfl, ?_⟩
          show w = v
          rw [show n.toNatClampNeg = 1 by rw [n1]; rfl] at v2
          refine eq_t.mpr ?_
          rw [u2, v2]
          refine shT_cg 1 _ _ (fun i hi => ?_)
          show S 41 0 (6 * 0 + i) = T 10 0 i
          rw [show 6 * 0 + i = i by omega]
          exact ST i hi
        · rw [if_neg n1]
          have z0 : (0 : Int32).toInt = 0 := rfl
          have z1 : (1 : Int32).toInt = 1 := rfl
          have n2 : n.toNatClampNeg = 2 := by
            have a : ¬ n.toInt = 0 := fun w => n0 (eq_t.mpr (by omega))
            have b : ¬ n.toInt = 1 := fun w => n1 (eq_t.mpr (by omega))
            omega
          obtain ⟨w, U, u1, u2⟩ := fsM (J := S) hG c mp pS s2
          rw [u1, Option.bind_some]
          refine ⟨_, _, rfl, rfl, ?_⟩
          show w = v
          rw [n2] at v2
          refine eq_t.mpr ?_
          rw [u2, v2]
          exact shT_cg 2 _ _ ST
  · rw [if_neg (show ¬ ((0 : Int64).toInt ≤ n.toInt ∧ n.toInt ≤ (2 : Int64).toInt) from h1), if_pos rfl]
    by_cases h3 : n < 0
    · rw [if_pos h3]
      exact ⟨_, _, rfl, rfl, hA⟩
    · rw [if_neg h3, if_neg (show ¬ n ≤ 2 from fun z => by rw [le_t, z2] at z; rw [lt0_t] at h3; exact h1 ⟨by omega, z⟩)]
      exact ⟨_, _, rfl, rfl, hA⟩
