/-! what is asked, alike: shop; the least of a buyer, the most of a shop -/
noncomputable def mnF (f : Nat → Int) : Nat → Int
  | 0 => 1000000
  | n + 1 => if f n < mnF f n then f n else mnF f n
noncomputable def mxF (g : Nat → Int) : Nat → Int
  | 0 => -99999
  | n + 1 => if mxF g n < g n then g n else mxF g n
theorem mn_le {f : Nat → Int} : ∀ n k, k < n → mnF f n ≤ f k
  | 0, _, h => absurd h (Nat.not_lt_zero _)
  | n + 1, k, h => by
    show (if f n < mnF f n then f n else mnF f n) ≤ f k
    by_cases e : k = n
    · subst e
      by_cases c : f k < mnF f k
      · rw [if_pos c]; omega
      · rw [if_neg c]; omega
    · have ih := mn_le (f := f) n k (by omega)
      by_cases c : f n < mnF f n
      · rw [if_pos c]; omega
      · rw [if_neg c]; exact ih
theorem mn_or {f : Nat → Int} : ∀ n, mnF f n = 1000000 ∨ ∃ k, k < n ∧ mnF f n = f k
  | 0 => Or.inl rfl
  | n + 1 => by
    show (if f n < mnF f n then f n else mnF f n) = 1000000 ∨ ∃ k, k < n + 1 ∧ (if f n < mnF f n then f n else mnF f n) = f k
    by_cases c : f n < mnF f n
    · rw [if_pos c]; exact Or.inr ⟨n, by omega, rfl⟩
    · rw [if_neg c]
      rcases mn_or (f := f) n with h | ⟨k, hk, h⟩
      · exact Or.inl h
      · exact Or.inr ⟨k, by omega, h⟩
theorem mx_ge {g : Nat → Int} : ∀ n k, k < n → g k ≤ mxF g n
  | 0, _, h => absurd h (Nat.not_lt_zero _)
  | n + 1, k, h => by
    show g k ≤ (if mxF g n < g n then g n else mxF g n)
    by_cases e : k = n
    · subst e
      by_cases c : mxF g k < g k
      · rw [if_pos c]; omega
      · rw [if_neg c]; omega
    · have ih := mx_ge (g := g) n k (by omega)
      by_cases c : mxF g n < g n
      · rw [if_pos c]; omega
      · rw [if_neg c]; exact ih
theorem mx_or {g : Nat → Int} : ∀ n, mxF g n = -99999 ∨ ∃ k, k < n ∧ mxF g n = g k
  | 0 => Or.inl rfl
  | n + 1 => by
    show (if mxF g n < g n then g n else mxF g n) = -99999 ∨ ∃ k, k < n + 1 ∧ (if mxF g n < g n then g n else mxF g n) = g k
    by_cases c : mxF g n < g n
    · rw [if_pos c]; exact Or.inr ⟨n, by omega, rfl⟩
    · rw [if_neg c]
      rcases mx_or (g := g) n with h | ⟨k, hk, h⟩
      · exact Or.inl h
      · exact Or.inr ⟨k, by omega, h⟩
theorem mn_is {f : Nat → Int} {n : Nat} {v : Int} (h1 : ∀ k, k < n → v ≤ f k) (h2 : ∃ k, k < n ∧ v = f k) (h3 : v ≤ 1000000) : mnF f n = v := by
  obtain ⟨k, hk, e⟩ := h2
  have a := mn_le (f := f) n k hk
  rcases mn_or (f := f) n with h | ⟨j, hj, h⟩
  · omega
  · have := h1 j hj; omega
theorem mx_is {g : Nat → Int} {n : Nat} {v : Int} (h1 : ∀ k, k < n → g k ≤ v) (h2 : ∃ k, k < n ∧ v = g k) (h3 : -99999 ≤ v) : mxF g n = v := by
  obtain ⟨k, hk, e⟩ := h2
  have a := mx_ge (g := g) n k hk
  rcases mx_or (g := g) n with h | ⟨j, hj, h⟩
  · omega
  · have := h1 j hj; omega
theorem mn_cg {f g : Nat → Int} : ∀ n, (∀ k, k < n → f k = g k) → mnF f n = mnF g n
  | 0, _ => rfl
  | n + 1, h => by
    show (if f n < mnF f n then f n else mnF f n) = (if g n < mnF g n then g n else mnF g n)
    rw [mn_cg n (fun k hk => h k (by omega)), h n (by omega)]
theorem mx_cg {f g : Nat → Int} : ∀ n, (∀ k, k < n → f k = g k) → mxF f n = mxF g n
  | 0, _ => rfl
  | n + 1, h => by
    show (if mxF f n < f n then f n else mxF f n) = (if mxF g n < g n then g n else mxF g n)
    rw [mx_cg n (fun k hk => h k (by omega)), h n (by omega)]
noncomputable def shU (P : Nat → Int32) (k : Nat) : Nat → Int32 := fun i => if i = k then (if P i + 7 < 99 then P i + 7 else 99) else P i
noncomputable def shW (I : jI) (i : Nat) (v : Int32) : Int := (kost (I 18 1 i) 1 v (I 4 1 14) - 5 * d36 1 (nI i) I).toInt
noncomputable def shB (I : jI) (m : Nat) (P : Nat → Int32) : Int := mnF (fun i => shW I i (P i)) m
noncomputable def shT (I : jI) (m : Nat) : Nat → (Nat → Int32) → Int
  | 0, _ => 0
  | t + 1, P => mxF (fun k => shB I m (shU P k) + shT I m t (shU P k)) (m + 1)
noncomputable def pR (m : Nat) (P : Nat → Int32) : Prop := ∀ i, i < m → 0 ≤ (P i).toInt ∧ (P i).toInt ≤ 99
theorem pR_u {m : Nat} {P : Nat → Int32} {k : Nat} (h : pR m P) : pR m (shU P k) := fun i hi => by
  have b := h i hi
  have c7 : (7 : Int32).toInt = 7 := rfl
  have c99 : (99 : Int32).toInt = 99 := rfl
  show 0 ≤ (if i = k then (if P i + 7 < 99 then P i + 7 else 99) else P i).toInt ∧ (if i = k then (if P i + 7 < 99 then P i + 7 else 99) else P i).toInt ≤ 99
  by_cases e : i = k
  · rw [if_pos e]
    by_cases l : P i + 7 < 99
    · rw [if_pos l]
      rw [lt_t, c99] at l
      have := i32_add (x := P i) (y := 7) (by omega)
      omega
    · rw [if_neg l, c99]; omega
  · rw [if_neg e]; exact b
theorem sh_cg {I : jI} {m : Nat} {P Q : Nat → Int32} (h : ∀ i, i < m → P i = Q i) : shB I m P = shB I m Q := mn_cg m (fun k hk => by rw [h k hk])
theorem shU_cg {m k : Nat} {P Q : Nat → Int32} (h : ∀ i, i < m → P i = Q i) : ∀ i, i < m → shU P k i = shU Q k i := fun i hi => by
  unfold shU
  rw [h i hi]
theorem shT_cg {I : jI} {m : Nat} : ∀ (t : Nat) (P Q : Nat → Int32), (∀ i, i < m → P i = Q i) → shT I m t P = shT I m t Q
  | 0, _, _, _ => rfl
  | t + 1, P, Q, h => by
    refine mx_cg (m + 1) (fun k _ => ?_)
    show shB I m (shU P k) + shT I m t (shU P k) = shB I m (shU Q k) + shT I m t (shU Q k)
    rw [sh_cg (shU_cg h), shT_cg t (shU P k) (shU Q k) (shU_cg h)]
theorem shU_m {m : Nat} {P : Nat → Int32} : ∀ i, i < m → shU P m i = P i := fun i hi => by
  unfold shU
  rw [if_neg (by omega)]
theorem shW_b {I J : jI} {m i : Nat} {v : Int32} (c : cur I J m) (hi : i < m) (hv : 0 ≤ v.toInt ∧ v.toInt ≤ 99) : -45 ≤ shW I i v ∧ shW I i v ≤ 99 ∧ shW I i v = (kost (I 18 1 i) 1 v (I 4 1 14)).toInt - 5 * (d36 1 (nI i) I).toInt := by
  have m6 := c.2.1.2
  have a := cost_1 (k := I 18 1 i) (c := I 4 1 14) hv
  have b := got_g c (i := nI i) (by rw [nI_c (by omega)]; exact hi)
  have c5 : (5 : Int32).toInt = 5 := rfl
  have e : (5 * d36 1 (nI i) I).toInt = 5 * (d36 1 (nI i) I).toInt := by rw [i32_mul (by rw [c5]; omega), c5]
  unfold shW
  rw [i32_sub (by omega), e]
  omega
theorem shB_b {I J : jI} {m : Nat} {P : Nat → Int32} (c : cur I J m) (hm : 0 < m) (h : pR m P) : -45 ≤ shB I m P ∧ shB I m P ≤ 99 := by
  have a := mn_le (f := fun i => shW I i (P i)) m 0 hm
  have b := (shW_b c hm (h 0 hm)).2.1
  unfold shB
  rcases mn_or (f := fun i => shW I i (P i)) m with e | ⟨k, hk, e⟩
  · rw [e] at a
    have a' : (1000000 : Int) ≤ shW I 0 (P 0) := a
    omega
  · have d := (shW_b c hk (h k hk)).1
    have a' : mnF (fun i => shW I i (P i)) m ≤ shW I 0 (P 0) := a
    have e' : mnF (fun i => shW I i (P i)) m = shW I k (P k) := e
    omega
theorem shT_b {I J : jI} {m : Nat} (c : cur I J m) (hm : 0 < m) : ∀ (t : Nat) (P : Nat → Int32), pR m P → -45 * (t : Int) ≤ shT I m t P ∧ shT I m t P ≤ 99 * (t : Int)
  | 0, _, _ => by show -45 * ((0 : Nat) : Int) ≤ 0 ∧ (0 : Int) ≤ 99 * ((0 : Nat) : Int); omega
  | t + 1, P, h => by
    have key : ∀ k, -45 * ((t + 1 : Nat) : Int) ≤ shB I m (shU P k) + shT I m t (shU P k) ∧ shB I m (shU P k) + shT I m t (shU P k) ≤ 99 * ((t + 1 : Nat) : Int) := fun k => by
      have a := shB_b c hm (pR_u (k := k) h)
      have b := shT_b c hm t (shU P k) (pR_u h)
      omega
    have a := mx_ge (g := fun k => shB I m (shU P k) + shT I m t (shU P k)) (m + 1) 0 (by omega)
    have a0 := (key 0).1
    have a' : shB I m (shU P 0) + shT I m t (shU P 0) ≤ shT I m (t + 1) P := a
    rcases mx_or (g := fun k => shB I m (shU P k) + shT I m t (shU P k)) (m + 1) with e | ⟨k, hk, e⟩
    · have e' : shT I m (t + 1) P = -99999 := e
      omega
    · have e' : shT I m (t + 1) P = shB I m (shU P k) + shT I m t (shU P k) := e
      have := key k
      omega
noncomputable def agC (I0 I : jI) : Prop := ∀ g, ¬ g = 10 → I g = I0 g
theorem d36_x {a : Nat} {x : Int32} {I I0 : jI} (h18 : I 18 = I0 18) (h19 : I 19 = I0 19) : d36 a x I = d36 a x I0 := by
  unfold d36
  rw [h18, h19]
  rfl
theorem ag_up {I0 I : jI} {j : Nat} {v : Int32} (h : agC I0 I) : agC I0 (jup I 10 0 j v) := fun g hg => (jup_g hg).trans (h g hg)
theorem byC_l {I0 J I : jI} {m : Nat} (c : cur I0 J m) (hI : agC I0 I) : ∀ (N n F : Nat) (x : Int32), n + N = m → N < F → x.toInt = mnF (fun i => shW I0 i (I 10 0 i)) n → ∃ b, d121_5 1 I F x (nI n) = some b ∧ b.toInt = shB I0 m (I 10 0)
  | _, _, 0, _, _, h, _ => absurd h (Nat.not_lt_zero _)
  | 0, n, F + 1, x, hn, _, hx => by
    obtain ⟨e6, e3, m6⟩ := cur_nI c
    have : n = m := by omega
    subst this
    rw [d121_5, hI 4 (by decide), e6, if_pos (show nI n ≤ nI n by rw [le_t]; omega)]
    exact ⟨_, rfl, hx⟩
  | N + 1, n, F + 1, x, hn, hF, hx => by
    obtain ⟨e6, e3, m6⟩ := cur_nI c
    have a1 : (nI n).toInt = (n : Int) := nI_toInt (by omega)
    have a2 : (nI m).toInt = (m : Int) := nI_toInt (by omega)
    have dk : ∀ k p q, d5 k 1 p q I = kost k 1 p q := fun _ _ _ => rfl
    rw [d121_5, hI 4 (by decide), e6, if_neg (show ¬ nI m ≤ nI n by rw [le_t]; omega), hI 18 (by decide), d36_x (hI 18 (by decide)) (hI 19 (by decide)), nI_c (by omega), nI_up (by omega), dk]
    have hw : (kost (I0 18 1 n) 1 (I 10 0 n) (I0 4 1 14) - 5 * d36 1 (nI n) I0).toInt = shW I0 n (I 10 0 n) := rfl
    refine byC_l c hI N (n + 1) F _ (by omega) (by omega) ?_
    show _ = (if shW I0 n (I 10 0 n) < mnF (fun i => shW I0 i (I 10 0 i)) n then shW I0 n (I 10 0 n) else mnF (fun i => shW I0 i (I 10 0 i)) n)
    generalize kost (I0 18 1 n) 1 (I 10 0 n) (I0 4 1 14) - 5 * d36 1 (nI n) I0 = W at hw
    by_cases l : W < x
    · rw [if_pos l]
      rw [lt_t, hw, hx] at l
      rw [if_pos l, hw]
    · rw [if_neg l]
      rw [lt_t, hw, hx] at l
      rw [if_neg l, hx]
theorem byC {I0 J I : jI} {m : Nat} (c : cur I0 J m) (hI : agC I0 I) : ∃ b, d121 1 I = some b ∧ b.toInt = shB I0 m (I 10 0) := by
  have m6 := c.2.1.2
  obtain ⟨b, b1, b2⟩ := byC_l c hI m 0 70 1000000 (by omega) (by omega) rfl
  have b1 : d121_5 1 I 70 1000000 0 = some b := b1
  refine ⟨b, ?_, b2⟩
  unfold d121
  rw [b1, Option.bind_some]
theorem jup_bk {I : jI} {g i j : Nat} {v : Int32} : jup (jup I g i j v) g i j (I g i j) = I := by
  funext a b k
  unfold jup
  by_cases e : a = g ∧ b = i ∧ k = j
  · rw [if_pos e, e.1, e.2.1, e.2.2]
  · rw [if_neg e, if_neg e]
theorem jup_sh {I : jI} {k m : Nat} : ∀ i, i < m → jup I 10 0 k (if I 10 0 k + 7 < 99 then I 10 0 k + 7 else 99) 10 0 i = shU (I 10 0) k i := fun i _ => by
  rw [jup_c]
  unfold shU
  by_cases e : i = k
  · rw [if_pos e, if_pos e, e]
  · rw [if_neg e, if_neg e]
theorem shC_l {I0 J : jI} {m t : Nat} {rc : Nat → Int32 → jI → Option (Int32 × jI)} (c : cur I0 J m) (hm : 0 < m) (ht : t ≤ 1) (hrc : ∀ I, agC I0 I → pR m (I 10 0) → ∃ v, rc 1 (nI (t + 1) - 1) I = some (v, I) ∧ v.toInt = shT I0 m t (I 10 0)) : ∀ (N n F : Nat) (x : Int32) (I : jI), n + N = m → N < F → agC I0 I → pR m (I 10 0) → (∀ k, k < n → shB I0 m (shU (I 10 0) k) + shT I0 m t (shU (I 10 0) k) ≤ x.toInt) → shB I0 m (shU (I 10 0) m) + shT I0 m t (shU (I 10 0) m) ≤ x.toInt → (∃ k, k < m + 1 ∧ x.toInt = shB I0 m (shU (I 10 0) k) + shT I0 m t (shU (I 10 0) k)) → ∃ v, d120_24 rc 1 (nI (t + 1)) F x (nI n) I = some (v, I) ∧ v.toInt = shT I0 m (t + 1) (I 10 0) := by
  intro N
  induction N with
  | zero =>
    intro n F x I hn hF hI hP h1 h2 h3
    cases F with
    | zero => exact absurd hF (Nat.not_lt_zero _)
    | succ F =>
      obtain ⟨e6, e3, m6⟩ := cur_nI c
      have : n = m := by omega
      subst this
      rw [d120_24, hI 4 (by decide), e6, if_pos (show nI n ≤ nI n by rw [le_t]; omega)]
      refine ⟨_, rfl, (mx_is (fun k hk => ?_) h3 ?_).symm⟩
      · by_cases e : k = n
        · rw [e]; exact h2
        · exact h1 k (by omega)
      · obtain ⟨k, hk, e⟩ := h3
        have a := shB_b c hm (pR_u (k := k) hP)
        have b := shT_b c hm t (shU (I 10 0) k) (pR_u hP)
        omega
  | succ N ih =>
    intro n F x I hn hF hI hP h1 h2 h3
    cases F with
    | zero => exact absurd hF (Nat.not_lt_zero _)
    | succ F =>
      obtain ⟨e6, e3, m6⟩ := cur_nI c
      have a1 : (nI n).toInt = (n : Int) := nI_toInt (by omega)
      have a2 : (nI m).toInt = (m : Int) := nI_toInt (by omega)
      have js := jup_sh (I := I) (k := n) (m := m)
      have hU : pR m (jup I 10 0 n (if I 10 0 n + 7 < 99 then I 10 0 n + 7 else 99) 10 0) := fun i hi => by rw [js i hi]; exact pR_u hP i hi
      obtain ⟨b, b1, b2⟩ := byC c (ag_up (j := n) (v := if I 10 0 n + 7 < 99 then I 10 0 n + 7 else 99) hI)
      obtain ⟨v, v1, v2⟩ := hrc _ (ag_up (j := n) (v := if I 10 0 n + 7 < 99 then I 10 0 n + 7 else 99) hI) hU
      rw [sh_cg js] at b2
      rw [shT_cg t _ _ js] at v2
      rw [d120_24, hI 4 (by decide), e6, if_neg (show ¬ nI m ≤ nI n by rw [le_t]; omega), nI_c (by omega), b1, Option.bind_some, v1, Option.bind_some, jup_bk, nI_up (by omega)]
      have bb := shB_b c hm (pR_u (k := n) hP)
      have tb := shT_b c hm t (shU (I 10 0) n) (pR_u hP)
      have es : (b + v).toInt = b.toInt + v.toInt := i32_add (by omega)
      by_cases l : x < b + v
      · rw [if_pos l]
        rw [lt_t, es] at l
        refine ih (n + 1) F (b + v) I (by omega) (by omega) hI hP (fun k hk => ?_) (by omega) ⟨n, by omega, by omega⟩
        by_cases e : k = n
        · rw [e]; omega
        · have := h1 k (by omega); omega
      · rw [if_neg l]
        rw [lt_t, es] at l
        refine ih (n + 1) F x I (by omega) (by omega) hI hP (fun k hk => ?_) h2 h3
        by_cases e : k = n
        · rw [e]; omega
        · exact h1 k (by omega)
theorem shC {I0 J : jI} {m : Nat} (c : cur I0 J m) (hm : 0 < m) : ∀ (t F : Nat) (I : jI), t < F → t ≤ 2 → agC I0 I → pR m (I 10 0) → ∃ v, d120r F 1 (nI t) I = some (v, I) ∧ v.toInt = shT I0 m t (I 10 0)
  | _, 0, _, h, _, _, _ => absurd h (Nat.not_lt_zero _)
  | 0, F + 1, I, _, _, _, _ => ⟨0, rfl, rfl⟩
  | t + 1, F + 1, I, hF, ht, hI, hP => by
    obtain ⟨e6, e3, m6⟩ := cur_nI c
    have a1 : (nI (t + 1)).toInt = ((t + 1 : Nat) : Int) := nI_toInt (by omega)
    have z0 : (0 : Int32).toInt = 0 := rfl
    have z1 : (1 : Int32).toInt = 1 := rfl
    have s1 : nI (t + 1) - 1 = nI t := nI_as (by rw [i32_sub (by omega), a1, z1]; omega) (by omega)
    have hrc : ∀ I, agC I0 I → pR m (I 10 0) → ∃ v, d120r F 1 (nI (t + 1) - 1) I = some (v, I) ∧ v.toInt = shT I0 m t (I 10 0) := fun I hI hP => by
      rw [s1]
      exact shC c hm t F I (by omega) (by omega) hI hP
    obtain ⟨b, b1, b2⟩ := byC c hI
    obtain ⟨v, v1, v2⟩ := hrc I hI hP
    have bb := shB_b c hm hP
    have tb := shT_b c hm t _ hP
    have es : (b + v).toInt = b.toInt + v.toInt := i32_add (by omega)
    have u1 : shB I0 m (shU (I 10 0) m) = shB I0 m (I 10 0) := sh_cg shU_m
    have u2 : shT I0 m t (shU (I 10 0) m) = shT I0 m t (I 10 0) := shT_cg t _ _ shU_m
    obtain ⟨w, w1, w2⟩ := shC_l (rc := d120r F) c hm (by omega) hrc m 0 70 (b + v) I (by omega) (by omega) hI hP (fun k hk => absurd hk (Nat.not_lt_zero _)) (by omega) ⟨m, by omega, by omega⟩
    have w1 : d120_24 (d120r F) 1 (nI (t + 1)) 70 (b + v) 0 I = some (w, I) := w1
    refine ⟨w, ?_, w2⟩
    rw [d120r, d120, if_pos (show (0 : Int32) < nI (t + 1) by rw [lt_t]; omega), b1, Option.bind_some, v1, Option.bind_some, w1, Option.bind_some]
theorem flC_l {y1 : Int32} {I0 : jI} {m : Nat} (hm : m ≤ 6) (e6 : I0 4 1 6 = nI m) : ∀ (N n F : Nat) (I : jI), n + N = m → N < F → agC I0 I → (∀ i, i < n → I 10 0 i = I0 20 1 i) → ∃ T, d102_26 y1 F (nI n) I = some T ∧ agC I0 T ∧ ∀ i, i < m → T 10 0 i = I0 20 1 i
  | _, _, 0, _, _, h, _, _ => absurd h (Nat.not_lt_zero _)
  | 0, n, F + 1, I, hn, _, hI, hP => by
    have : n = m := by omega
    subst this
    rw [d102_26, hI 4 (by decide), e6, if_pos (show nI n ≤ nI n by rw [le_t]; omega)]
    exact ⟨_, rfl, hI, hP⟩
  | N + 1, n, F + 1, I, hn, hF, hI, hP => by
    have a1 : (nI n).toInt = (n : Int) := nI_toInt (by omega)
    have a2 : (nI m).toInt = (m : Int) := nI_toInt (by omega)
    rw [d102_26, hI 4 (by decide), e6, if_neg (show ¬ nI m ≤ nI n by rw [le_t]; omega), nI_c (by omega), nI_up (by omega), hI 20 (by decide)]
    refine flC_l hm e6 N (n + 1) F _ (by omega) (by omega) (ag_up hI) (fun i hi => ?_)
    rw [jup_c]
    by_cases e : i = n
    · rw [if_pos e, e]
    · rw [if_neg e]; exact hP i (by omega)
