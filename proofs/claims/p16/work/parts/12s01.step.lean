/-! D: standing of a house as 28 cells; what deeds do to them -/
noncomputable def upS (s : Nat → Int32) (k : Nat) (v : Int32) : Nat → Int32 := fun j => if j = k then v else s j
noncomputable def mnS (a l : Int32) : Int32 := if a < l then a else l
noncomputable def eatV : Nat → Int32 → (Nat → Int32) → Nat → Int32 × (Nat → Int32)
  | 0, l, s, _ => (l, s)
  | n + 1, l, s, k => eatV n (l - mnS (s k) l) (upS s k (s k - mnS (s k) l)) (k + 1)
noncomputable def smV : Nat → Int32 → (Nat → Int32) → Nat → Int32
  | 0, a, _, _ => a
  | n + 1, a, s, k => smV n (a + s k) s (k + 1)
noncomputable def smI : Nat → (Nat → Int32) → Nat → Int
  | 0, _, _ => 0
  | n + 1, s, k => (s k).toInt + smI n s (k + 1)
theorem jup_c {I : jI} {g i j0 j : Nat} {v : Int32} : jup I g i j0 v g i j = if j = j0 then v else I g i j := by
  unfold jup
  by_cases h : j = j0
  · rw [if_pos ⟨rfl, rfl, h⟩, if_pos h]
  · rw [if_neg (fun z => h z.2.2), if_neg h]
theorem upS_id {s : Nat → Int32} {k : Nat} : upS s k (s k) = s := by
  funext j
  unfold upS
  by_cases h : j = k
  · rw [if_pos h, h]
  · rw [if_neg h]
theorem upS_at {s : Nat → Int32} {k : Nat} {v : Int32} : upS s k v k = v := if_pos rfl
theorem upS_ne {s : Nat → Int32} {k j : Nat} {v : Int32} (h : ¬ j = k) : upS s k v j = s j := if_neg h
theorem mn_t {a l : Int32} (ha : 0 ≤ a.toInt) (hl : 0 ≤ l.toInt) : 0 ≤ (mnS a l).toInt ∧ (mnS a l).toInt ≤ a.toInt ∧ (mnS a l).toInt ≤ l.toInt ∧ (l - mnS a l).toInt = l.toInt - (mnS a l).toInt ∧ (a - mnS a l).toInt = a.toInt - (mnS a l).toInt := by
  have ra := i32_rng a
  have rl := i32_rng l
  have key : 0 ≤ (mnS a l).toInt ∧ (mnS a l).toInt ≤ a.toInt ∧ (mnS a l).toInt ≤ l.toInt := by
    unfold mnS
    by_cases h : a < l
    · rw [if_pos h]; rw [lt_t] at h; omega
    · rw [if_neg h]; rw [lt_t] at h; omega
  exact ⟨key.1, key.2.1, key.2.2, i32_sub (by omega), i32_sub (by omega)⟩
theorem eatV_out : ∀ (n : Nat) (l : Int32) (s : Nat → Int32) (k j : Nat), (j < k ∨ k + n ≤ j) → (eatV n l s k).2 j = s j
  | 0, _, _, _, _, _ => rfl
  | n + 1, l, s, k, j, h => by
    show (eatV n _ (upS s k _) (k + 1)).2 j = s j
    rw [eatV_out n _ _ (k + 1) j (by omega)]
    exact upS_ne (by omega)
theorem eatV_ext : ∀ (n : Nat) (l : Int32) (s t : Nat → Int32) (k : Nat), (∀ j, k ≤ j → j < k + n → s j = t j) → (eatV n l s k).1 = (eatV n l t k).1 ∧ ∀ j, k ≤ j → j < k + n → (eatV n l s k).2 j = (eatV n l t k).2 j
  | 0, _, _, _, _, _ => ⟨rfl, fun j a b => absurd a (by omega)⟩
  | n + 1, l, s, t, k, h => by
    have e := h k (Nat.le_refl _) (by omega)
    have q := eatV_ext n (l - mnS (t k) l) (upS s k (t k - mnS (t k) l)) (upS t k (t k - mnS (t k) l)) (k + 1) (fun j a b => by rw [upS_ne (by omega), upS_ne (by omega)]; exact h j (by omega) (by omega))
    have u : eatV (n + 1) l s k = eatV n (l - mnS (t k) l) (upS s k (t k - mnS (t k) l)) (k + 1) := by rw [← e]; rfl
    have v : eatV (n + 1) l t k = eatV n (l - mnS (t k) l) (upS t k (t k - mnS (t k) l)) (k + 1) := rfl
    rw [u, v]
    refine ⟨q.1, fun j a b => ?_⟩
    by_cases c : j = k
    · rw [eatV_out _ _ _ _ _ (Or.inl (by omega)), eatV_out _ _ _ _ _ (Or.inl (by omega)), c, upS_at, upS_at]
    · exact q.2 j (by omega) (by omega)
theorem eatV_le : ∀ (n : Nat) (l : Int32) (s : Nat → Int32) (k : Nat), 0 ≤ l.toInt → (∀ j, k ≤ j → j < k + n → 0 ≤ (s j).toInt) → (0 ≤ (eatV n l s k).1.toInt ∧ (eatV n l s k).1.toInt ≤ l.toInt) ∧ ∀ j, k ≤ j → j < k + n → 0 ≤ ((eatV n l s k).2 j).toInt ∧ ((eatV n l s k).2 j).toInt ≤ (s j).toInt
  | 0, l, _, _, h, _ => ⟨⟨h, Int.le_refl _⟩, fun j a b => absurd a (by omega)⟩
  | n + 1, l, s, k, h, hs => by
    have h0 := hs k (Nat.le_refl _) (by omega)
    obtain ⟨m1, m2, m3, m4, m5⟩ := mn_t h0 h
    have q := eatV_le n (l - mnS (s k) l) (upS s k (s k - mnS (s k) l)) (k + 1) (by omega) (fun j a b => by rw [upS_ne (by omega)]; exact hs j (by omega) (by omega))
    show (0 ≤ (eatV n (l - mnS (s k) l) (upS s k (s k - mnS (s k) l)) (k + 1)).1.toInt ∧ (eatV n (l - mnS (s k) l) (upS s k (s k - mnS (s k) l)) (k + 1)).1.toInt ≤ l.toInt) ∧ ∀ j, k ≤ j → j < k + (n + 1) → 0 ≤ ((eatV n (l - mnS (s k) l) (upS s k (s k - mnS (s k) l)) (k + 1)).2 j).toInt ∧ ((eatV n (l - mnS (s k) l) (upS s k (s k - mnS (s k) l)) (k + 1)).2 j).toInt ≤ (s j).toInt
    refine ⟨⟨q.1.1, by omega⟩, fun j a b => ?_⟩
    by_cases c : j = k
    · rw [eatV_out _ _ _ _ _ (Or.inl (by omega)), c, upS_at, m5]; omega
    · have := q.2 j (by omega) (by omega)
      rw [upS_ne c] at this
      exact this
theorem eatV_z : ∀ (n : Nat) (s : Nat → Int32) (k : Nat), (∀ j, k ≤ j → j < k + n → 0 ≤ (s j).toInt) → eatV n 0 s k = (0, s)
  | 0, _, _, _ => rfl
  | n + 1, s, k, h => by
    have h0 := h k (Nat.le_refl _) (by omega)
    have e : mnS (s k) 0 = 0 := if_neg (fun z => by rw [lt0_t] at z; omega)
    have z : (0 : Int32) - 0 = 0 := rfl
    have y : s k - 0 = s k := Int32.sub_zero _
    show eatV n (0 - mnS (s k) 0) (upS s k (s k - mnS (s k) 0)) (k + 1) = _
    rw [e, z, y, upS_id]
    exact eatV_z n s (k + 1) (fun j a b => h j (by omega) (by omega))
theorem smV_ext : ∀ (n : Nat) (a : Int32) (s t : Nat → Int32) (k : Nat), (∀ j, k ≤ j → j < k + n → s j = t j) → smV n a s k = smV n a t k
  | 0, _, _, _, _, _ => rfl
  | n + 1, a, s, t, k, h => by
    show smV n (a + s k) s (k + 1) = smV n (a + t k) t (k + 1)
    rw [h k (Nat.le_refl _) (by omega)]
    exact smV_ext n _ s t (k + 1) (fun j a b => h j (by omega) (by omega))
theorem smI_ge : ∀ (n : Nat) (s : Nat → Int32) (k : Nat), (∀ j, k ≤ j → j < k + n → 0 ≤ (s j).toInt) → 0 ≤ smI n s k
  | 0, _, _, _ => Int.le_refl _
  | n + 1, s, k, h => by
    have := smI_ge n s (k + 1) (fun j a b => h j (by omega) (by omega))
    have := h k (Nat.le_refl _) (by omega)
    show 0 ≤ (s k).toInt + smI n s (k + 1)
    omega
theorem smI_le : ∀ (n : Nat) (s t : Nat → Int32) (k : Nat), (∀ j, k ≤ j → j < k + n → (s j).toInt ≤ (t j).toInt) → smI n s k ≤ smI n t k
  | 0, _, _, _, _ => Int.le_refl _
  | n + 1, s, t, k, h => by
    have := smI_le n s t (k + 1) (fun j a b => h j (by omega) (by omega))
    have := h k (Nat.le_refl _) (by omega)
    show (s k).toInt + smI n s (k + 1) ≤ (t k).toInt + smI n t (k + 1)
    omega
theorem smI_one : ∀ (n : Nat) (s t : Nat → Int32) (k q : Nat) (x : Int), k ≤ q → q < k + n → (∀ j, k ≤ j → j < k + n → ¬ j = q → s j = t j) → (s q).toInt = (t q).toInt + x → smI n s k = smI n t k + x
  | 0, _, _, _, _, _, a, b, _, _ => absurd a (by omega)
  | n + 1, s, t, k, q, x, a, b, h, e => by
    show (s k).toInt + smI n s (k + 1) = (t k).toInt + smI n t (k + 1) + x
    by_cases c : q = k
    · subst c
      have : smI n s (q + 1) = smI n t (q + 1) := Int.le_antisymm (smI_le n s t (q + 1) (fun j a b => by rw [h j (by omega) (by omega) (by omega)]; exact Int.le_refl _)) (smI_le n t s (q + 1) (fun j a b => by rw [h j (by omega) (by omega) (by omega)]; exact Int.le_refl _))
      omega
    · have := smI_one n s t (k + 1) q x (by omega) (by omega) (fun j a b d => h j (by omega) (by omega) d) e
      rw [h k (Nat.le_refl _) (by omega) (fun z => c z.symm)]
      omega
theorem smI_mem : ∀ (n : Nat) (s : Nat → Int32) (k q : Nat), k ≤ q → q < k + n → (∀ j, k ≤ j → j < k + n → 0 ≤ (s j).toInt) → (s q).toInt ≤ smI n s k
  | 0, _, _, _, a, b, _ => absurd a (by omega)
  | n + 1, s, k, q, a, b, h => by
    show _ ≤ (s k).toInt + smI n s (k + 1)
    have h1 := h k (Nat.le_refl _) (by omega)
    have h2 := smI_ge n s (k + 1) (fun j a b => h j (by omega) (by omega))
    by_cases c : q = k
    · subst c; omega
    · have := smI_mem n s (k + 1) q (by omega) (by omega) (fun j a b => h j (by omega) (by omega))
      omega
theorem smV_t : ∀ (n : Nat) (a : Int32) (s : Nat → Int32) (k : Nat), 0 ≤ a.toInt → (∀ j, k ≤ j → j < k + n → 0 ≤ (s j).toInt) → a.toInt + smI n s k ≤ 1000 → (smV n a s k).toInt = a.toInt + smI n s k
  | 0, a, _, _, _, _, _ => by show a.toInt = a.toInt + 0; omega
  | n + 1, a, s, k, h0, h, hb => by
    have h1 := h k (Nat.le_refl _) (by omega)
    have h2 := smI_ge n s (k + 1) (fun j a b => h j (by omega) (by omega))
    have hb' : a.toInt + ((s k).toInt + smI n s (k + 1)) ≤ 1000 := hb
    have e : (a + s k).toInt = a.toInt + (s k).toInt := i32_add (by omega)
    show (smV n (a + s k) s (k + 1)).toInt = a.toInt + ((s k).toInt + smI n s (k + 1))
    rw [smV_t n (a + s k) s (k + 1) (by omega) (fun j a b => h j (by omega) (by omega)) (by omega), e]
    omega
theorem ixa {a x : Int32} (ha : 0 ≤ a.toInt) (ha' : a.toInt ≤ 100000) (hx : 0 ≤ x.toInt) (hx' : x.toInt ≤ 100000) : (a + x).toInt = a.toInt + x.toInt ∧ (a + x).toNatClampNeg = a.toNatClampNeg + x.toNatClampNeg := by
  have e : (a + x).toInt = a.toInt + x.toInt := i32_add (by omega)
  have n0 := cl_t ha
  have n1 := cl_t hx
  have n2 := cl_t (x := a + x) (by omega)
  exact ⟨e, by omega⟩
/-! the larder eaten from, gone off, summed up: the class -/
theorem eat_cl {a0 : Nat} {nd : Int32} : ∀ (n F : Nat) (l x : Int32) (I : jI), x.toInt + (n : Int) = 10 → 0 ≤ x.toInt → n < F → 0 ≤ l.toInt → (∀ k, k < 10 → 0 ≤ (I 23 a0 k).toInt) → ∃ r, d13_4 a0 nd F l x I = some r ∧ (r.1 = (eatV n l (I 23 a0) x.toNatClampNeg).1 ∧ r.2 23 a0 = (eatV n l (I 23 a0) x.toNatClampNeg).2) ∧ ∀ g i j, ¬ (g = 23 ∧ i = a0) → r.2 g i j = I g i j
  | _, 0, _, _, _, _, _, h, _, _ => absurd h (by omega)
  | 0, F + 1, l, x, I, hx, h0, _, _, _ => by
    rw [d13_4, if_pos (show (10 : Int32) ≤ x by rw [le_t]; show (10 : Int) ≤ _; omega)]
    exact ⟨_, rfl, ⟨rfl, rfl⟩, fun _ _ _ _ => rfl⟩
  | n + 1, F + 1, l, x, I, hx, h0, hF, hl, hs => by
    have nx := cl_t h0
    rw [d13_4, if_neg (show ¬ (10 : Int32) ≤ x by rw [le_t]; show ¬ (10 : Int) ≤ _; omega)]
    by_cases q : l ≤ 0
    · have lz : l = 0 := eq_t.mpr (by rw [le_t] at q; have : (0 : Int32).toInt = 0 := rfl; omega)
      rw [if_pos q, lz, eatV_z (n + 1) (I 23 a0) x.toNatClampNeg (fun j a b => hs j (by omega))]
      exact ⟨_, rfl, ⟨rfl, rfl⟩, fun _ _ _ _ => rfl⟩
    · rw [if_neg q]
      obtain ⟨m1, m2, m3, m4, m5⟩ := mn_t (hs x.toNatClampNeg (by omega)) hl
      have e := i32_inc (x := x) (by omega)
      have nx1 := cl_t (x := x + 1) (by omega)
      obtain ⟨r, r1, ⟨r2, r3⟩, r4⟩ := eat_cl (a0 := a0) (nd := nd) n F (l - mnS (I 23 a0 x.toNatClampNeg) l) (x + 1) (jup I 23 a0 x.toNatClampNeg (I 23 a0 x.toNatClampNeg - mnS (I 23 a0 x.toNatClampNeg) l)) (by omega) (by omega) (by omega) (by omega) (fun k hk => by
        rw [jup_c]
        by_cases c : k = x.toNatClampNeg
        · rw [if_pos c]; omega
        · rw [if_neg c]; exact hs k hk)
      have u : (jup I 23 a0 x.toNatClampNeg (I 23 a0 x.toNatClampNeg - mnS (I 23 a0 x.toNatClampNeg) l)) 23 a0 = upS (I 23 a0) x.toNatClampNeg (I 23 a0 x.toNatClampNeg - mnS (I 23 a0 x.toNatClampNeg) l) := funext (fun j => jup_c)
      have xn : (x + 1).toNatClampNeg = x.toNatClampNeg + 1 := by omega
      rw [u, xn] at r2 r3
      exact ⟨r, r1, ⟨r2, r3⟩, fun g i j h => (r4 g i j h).trans (jup_of (fun z => h ⟨z.1, z.2.1⟩))⟩
theorem eat_c {a0 : Nat} {nd : Int32} {I : jI} (hn : 0 ≤ nd.toInt) (hs : ∀ k, k < 10 → 0 ≤ (I 23 a0 k).toInt) : ∃ r, d13 a0 nd I = some r ∧ (r.1 = nd - (eatV 10 nd (I 23 a0) 0).1 ∧ r.2 23 a0 = (eatV 10 nd (I 23 a0) 0).2) ∧ ∀ g i j, ¬ (g = 23 ∧ i = a0) → r.2 g i j = I g i j := by
  obtain ⟨r, r1, ⟨r2, r3⟩, r4⟩ := eat_cl (a0 := a0) (nd := nd) 10 70 nd 0 I (by decide) (by decide) (by decide) hn hs
  unfold d13
  rw [r1]
  exact ⟨_, rfl, ⟨congrArg (fun z => nd - z) r2, r3⟩, r4⟩
theorem sum_cl {a0 : Nat} {I : jI} : ∀ (n F : Nat) (a x : Int32), x.toInt + (n : Int) = 10 → 0 ≤ x.toInt → n < F → d10_4 a0 I F a x = some (smV n a (I 23 a0) x.toNatClampNeg)
  | _, 0, _, _, _, _, h => absurd h (by omega)
  | 0, F + 1, a, x, hx, h0, _ => by
    rw [d10_4, if_pos (show (10 : Int32) ≤ x by rw [le_t]; show (10 : Int) ≤ _; omega)]
    rfl
  | n + 1, F + 1, a, x, hx, h0, hF => by
    have nx := cl_t h0
    have e := i32_inc (x := x) (by omega)
    have nx1 := cl_t (x := x + 1) (by omega)
    have xn : (x + 1).toNatClampNeg = x.toNatClampNeg + 1 := by omega
    rw [d10_4, if_neg (show ¬ (10 : Int32) ≤ x by rw [le_t]; show ¬ (10 : Int) ≤ _; omega), sum_cl n F _ (x + 1) (by omega) (by omega) (by omega), xn]
    rfl
theorem sum_c {a0 : Nat} {I : jI} : d10 a0 I = some (smV 10 0 (I 23 a0) 0) := by
  unfold d10
  rw [sum_cl 10 70 0 0 (by decide) (by decide) (by decide)]
  rfl
theorem off_c {a0 : Nat} {I : jI} {j : Nat} : (d14 a0 I).2 23 a0 j = if j < 9 then I 23 a0 (j + 1) else if j = 9 then 0 else I 23 a0 j := by
  have c0 : Int32.toNatClampNeg 0 = 0 := rfl
  have c1 : Int32.toNatClampNeg 1 = 1 := rfl
  have c9 : Int32.toNatClampNeg 9 = 9 := rfl
  unfold d14
  dsimp only
  rw [c0, c1, c9, jup_c]
  by_cases h : j = 9
  · rw [if_pos h, if_neg (by omega), if_pos h]
  · rw [if_neg h]
    unfold jcpy
    by_cases q : j < 9
    · rw [if_pos ⟨rfl, rfl, by omega, by omega⟩, if_pos q, show 1 + (j - 0) = j + 1 by omega]
    · rw [if_neg (fun z => by omega), if_neg q, if_neg h]
theorem off_o {a0 : Nat} {I : jI} {g i j : Nat} (h : ¬ (g = 23 ∧ i = a0)) : (d14 a0 I).2 g i j = I g i j := by
  unfold d14 jcpy
  dsimp only
  rw [jup_of (fun z => h ⟨z.1, z.2.1⟩), if_neg (fun z => h ⟨z.1, z.2.1⟩)]
