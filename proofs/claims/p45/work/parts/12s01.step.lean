section
/-! D: standing of a house as 28 cells; what deeds do to them -/
noncomputable def upS (s : Nat → Int32) (k : Nat) (v : Int32) : Nat → Int32 := fun j => if j = k then v else s j
noncomputable def mnS (a l : Int32) : Int32 := if a < l then a else l
noncomputable def eatV : Nat → Int32 → (Nat → Int32) → Nat → Int32 × (Nat → Int32)
  | 0, l, s, _ => (l, s)
  | n + 1, l, s, k => eatV n (l - mnS (s k) l) (upS s k (s k - mnS (s k) l)) (k + 1)
noncomputable def smV : Nat → Int32 → (Nat → Int32) → Nat → Int32
  | 0, a, _, _ => a
  | n + 1, a, s, k => smV n (a + s k) s (k + 1)
noncomputable def smI : Nat → (Nat → Int32) → Nat → Int
  | 0, _, _ => 0
  | n + 1, s, k => (s k).toInt + smI n s (k + 1)
theorem jup_c {I : jI} {g i j0 j : Nat} {v : Int32} : jup I g i j0 v g i j = if j = j0 then v else I g i j := by
  unfold jup
  by_cases h : j = j0
  · rw [if_pos ⟨rfl, rfl, h⟩, if_pos h]
  · rw [if_neg (fun z => h z.2.2), if_neg h]
theorem upS_id {s : Nat → Int32} {k : Nat} : upS s k (s k) = s := by
  funext j
  unfold upS
  by_cases h : j = k
  · rw [if_pos h, h]
  · rw [if_neg h]
theorem upS_at {s : Nat → Int32} {k : Nat} {v : Int32} : upS s k v k = v := if_pos rfl
theorem upS_ne {s : Nat → Int32} {k j : Nat} {v : Int32} (h : ¬ j = k) : upS s k v j = s j := if_neg h
theorem mn_t {a l : Int32} (ha : 0 ≤ a.toInt) (hl : 0 ≤ l.toInt) : 0 ≤ (mnS a l).toInt ∧ (mnS a l).toInt ≤ a.toInt ∧ (mnS a l).toInt ≤ l.toInt ∧ (l - mnS a l).toInt = l.toInt - (mnS a l).toInt ∧ (a - mnS a l).toInt = a.toInt - (mnS a l).toInt := by
  have ra := i32_rng a
  have rl := i32_rng l
  have key : 0 ≤ (mnS a l).toInt ∧ (mnS a l).toInt ≤ a.toInt ∧ (mnS a l).toInt ≤ l.toInt := by
    unfold mnS
    by_cases h : a < l
    · rw [if_pos h]; rw [lt_t] at h; omega
    · rw [if_neg h]; rw [lt_t] at h; omega
  exact ⟨key.1, key.2.1, key.2.2, i32_sub (by omega), i32_sub (by omega)⟩
theorem eatV_out : ∀ (n : Nat) (l : Int32) (s : Nat → Int32) (k j : Nat), (j < k ∨ k + n ≤ j) → (eatV n l s k).2 j = s j
  | 0, _, _, _, _, _ => rfl
  | n + 1, l, s, k, j, h => by
    show (eatV n _ (upS s k _) (k + 1)).2 j = s j
    rw [eatV_out n _ _ (k + 1) j (by omega)]
    exact upS_ne (by omega)
theorem eatV_ext : ∀ (n : Nat) (l : Int32) (s t : Nat → Int32) (k : Nat), (∀ j, k ≤ j → j < k + n → s j = t j) → (eatV n l s k).1 = (eatV n l t k).1 ∧ ∀ j, k ≤ j → j < k + n → (eatV n l s k).2 j = (eatV n l t k).2 j
  | 0, _, _, _, _, _ => ⟨rfl, fun j a b => absurd a (by omega)⟩
  | n + 1, l, s, t, k, h => by
    have e := h k (Nat.le_refl _) (by omega)
    have q := eatV_ext n (l - mnS (t k) l) (upS s k (t k - mnS (t k) l)) (upS t k (t k - mnS (t k) l)) (k + 1) (fun j a b => by rw [upS_ne (by omega), upS_ne (by omega)]; exact h j (by omega) (by omega))
    have u : eatV (n + 1) l s k = eatV n (l - mnS (t k) l) (upS s k (t k - mnS (t k) l)) (k + 1) := by rw [← e]; rfl
    have v : eatV (n + 1) l t k = eatV n (l - mnS (t k) l) (upS t k (t k - mnS (t k) l)) (k + 1) := rfl
    rw [u, v]
    refine ⟨q.1, fun j a b => ?_⟩
    by_cases c : j = k
    · rw [eatV_out _ _ _ _ _ (Or.inl (by omega)), eatV_out _ _ _ _ _ (Or.inl (by omega)), c, upS_at, upS_at]
    · exact q.2 j (by omega) (by omega)
theorem eatV_le : ∀ (n : Nat) (l : Int32) (s : Nat → Int32) (k : Nat), 0 ≤ l.toInt → (∀ j, k ≤ j → j < k + n → 0 ≤ (s j).toInt) → (0 ≤ (eatV n l s k).1.toInt ∧ (eatV n l s k).1.toInt ≤ l.toInt) ∧ ∀ j, k ≤ j → j < k + n → 0 ≤ ((eatV n l s k).2 j).toInt ∧ ((eatV n l s k).2 j).toInt ≤ (s j).toInt
  | 0, l, _, _, h, _ => ⟨⟨h, Int.le_refl _⟩, fun j a b => absurd a (by omega)⟩
  | n + 1, l, s, k, h, hs => by
    have h0 := hs k (Nat.le_refl _) (by omega)
    obtain ⟨m1, m2, m3, m4, m5⟩ := mn_t h0 h
    have q := eatV_le n (l - mnS (s k) l) (upS s k (s k - mnS (s k) l)) (k + 1) (by omega) (fun j a b => by rw [upS_ne (by omega)]; exact hs j (by omega) (by omega))
    show (0 ≤ (eatV n (l - mnS (s k) l) (upS s k (s k - mnS (s k) l)) (k + 1)).1.toInt ∧ (eatV n (l - mnS (s k) l) (upS s k (s k - mnS (s k) l)) (k + 1)).1.toInt ≤ l.toInt) ∧ ∀ j, k ≤ j → j < k + (n + 1) → 0 ≤ ((eatV n (l - mnS (s k) l) (upS s k (s k - mnS (s k) l)) (k + 1)).2 j).toInt ∧ ((eatV n (l - mnS (s k) l) (upS s k (s k - mnS (s k) l)) (k + 1)).2 j).toInt ≤ (s j).toInt
    refine ⟨⟨q.1.1, by omega⟩, fun j a b => ?_⟩
    by_cases c : j = k
    · rw [eatV_out _ _ _ _ _ (Or.inl (by omega)), c, upS_at, m5]; omega
    · have := q.2 j (by omega) (by omega)
      rw [upS_ne c] at this
      exact this
theorem eatV_z : ∀ (n : Nat) (s : Nat → Int32) (k : Nat), (∀ j, k ≤ j → j < k + n → 0 ≤ (s j).toInt) → eatV n 0 s k = (0, s)
  | 0, _, _, _ => rfl
  | n + 1, s, k, h => by
    have h0 := h k (Nat.le_refl _) (by omega)
    have e : mnS (s k) 0 = 0 := if_neg (fun z => by rw [lt0_t] at z; omega)
    have z : (0 : Int32) - 0 = 0 := rfl
    have y : s k - 0 = s k := Int32.sub_zero _
    show eatV n (0 - mnS (s k) 0) (upS s k (s k - mnS (s k) 0)) (k + 1) = _
    rw [e, z, y, upS_id]
    exact eatV_z n s (k + 1) (fun j a b => h j (by omega) (by omega))
theorem smV_ext : ∀ (n : Nat) (a : Int32) (s t : Nat → Int32) (k : Nat), (∀ j, k ≤ j → j < k + n → s j = t j) → smV n a s k = smV n a t k
  | 0, _, _, _, _, _ => rfl
  | n + 1, a, s, t, k, h => by
    show smV n (a + s k) s (k + 1) = smV n (a + t k) t (k + 1)
    rw [h k (Nat.le_refl _) (by omega)]
    exact smV_ext n _ s t (k + 1) (fun j a b => h j (by omega) (by omega))
theorem smI_ge : ∀ (n : Nat) (s : Nat → Int32) (k : Nat), (∀ j, k ≤ j → j < k + n → 0 ≤ (s j).toInt) → 0 ≤ smI n s k
  | 0, _, _, _ => Int.le_refl _
  | n + 1, s, k, h => by
    have := smI_ge n s (k + 1) (fun j a b => h j (by omega) (by omega))
    have := h k (Nat.le_refl _) (by omega)
    show 0 ≤ (s k).toInt + smI n s (k + 1)
    omega
theorem smI_le : ∀ (n : Nat) (s t : Nat → Int32) (k : Nat), (∀ j, k ≤ j → j < k + n → (s j).toInt ≤ (t j).toInt) → smI n s k ≤ smI n t k
  | 0, _, _, _, _ => Int.le_refl _
  | n + 1, s, t, k, h => by
    have := smI_le n s t (k + 1) (fun j a b => h j (by omega) (by omega))
    have := h k (Nat.le_refl _) (by omega)
    show (s k).toInt + smI n s (k + 1) ≤ (t k).toInt + smI n t (k + 1)
    omega
theorem smI_one : ∀ (n : Nat) (s t : Nat → Int32) (k q : Nat) (x : Int), k ≤ q → q < k + n → (∀ j, k ≤ j → j < k + n → ¬ j = q → s j = t j) → (s q).toInt = (t q).toInt + x → smI n s k = smI n t k + x
  | 0, _, _, _, _, _, a, b, _, _ => absurd a (by omega)
  | n + 1, s, t, k, q, x, a, b, h, e => by
    show (s k).toInt + smI n s (k + 1) = (t k).toInt + smI n t (k + 1) + x
    by_cases c : q = k
    · subst c
      have : smI n s (q + 1) = smI n t (q + 1) := Int.le_antisymm (smI_le n s t (q + 1) (fun j a b => by rw [h j (by omega) (by omega) (by omega)]; exact Int.le_refl _)) (smI_le n t s (q + 1) (fun j a b => by rw [h j (by omega) (by omega) (by omega)]; exact Int.le_refl _))
      omega
    · have := smI_one n s t (k + 1) q x (by omega) (by omega) (fun j a b d => h j (by omega) (by omega) d) e
      rw [h k (Nat.le_refl _) (by omega) (fun z => c z.symm)]
      omega
theorem smI_mem : ∀ (n : Nat) (s : Nat → Int32) (k q : Nat), k ≤ q → q < k + n → (∀ j, k ≤ j → j < k + n → 0 ≤ (s j).toInt) → (s q).toInt ≤ smI n s k
  | 0, _, _, _, a, b, _ => absurd a (by omega)
  | n + 1, s, k, q, a, b, h => by
    show _ ≤ (s k).toInt + smI n s (k + 1)
    have h1 := h k (Nat.le_refl _) (by omega)
    have h2 := smI_ge n s (k + 1) (fun j a b => h j (by omega) (by omega))
    by_cases c : q = k
    · subst c; omega
    · have := smI_mem n s (k + 1) q (by omega) (by omega) (fun j a b => h j (by omega) (by omega))
      omega
theorem smV_t : ∀ (n : Nat) (a : Int32) (s : Nat → Int32) (k : Nat), 0 ≤ a.toInt → (∀ j, k ≤ j → j < k + n → 0 ≤ (s j).toInt) → a.toInt + smI n s k ≤ 1000 → (smV n a s k).toInt = a.toInt + smI n s k
  | 0, a, _, _, _, _, _ => by show a.toInt = a.toInt + 0; omega
  | n + 1, a, s, k, h0, h, hb => by
    have h1 := h k (Nat.le_refl _) (by omega)
    have h2 := smI_ge n s (k + 1) (fun j a b => h j (by omega) (by omega))
    have hb' : a.toInt + ((s k).toInt + smI n s (k + 1)) ≤ 1000 := hb
    have e : (a + s k).toInt = a.toInt + (s k).toInt := i32_add (by omega)
    show (smV n (a + s k) s (k + 1)).toInt = a.toInt + ((s k).toInt + smI n s (k + 1))
    rw [smV_t n (a + s k) s (k + 1) (by omega) (fun j a b => h j (by omega) (by omega)) (by omega), e]
    omega
theorem ixa {a x : Int32} (ha : 0 ≤ a.toInt) (ha' : a.toInt ≤ 100000) (hx : 0 ≤ x.toInt) (hx' : x.toInt ≤ 100000) : (a + x).toInt = a.toInt + x.toInt ∧ (a + x).toNatClampNeg = a.toNatClampNeg + x.toNatClampNeg := by
  have e : (a + x).toInt = a.toInt + x.toInt := i32_add (by omega)
  have n0 := cl_t ha
  have n1 := cl_t hx
  have n2 := cl_t (x := a + x) (by omega)
  exact ⟨e, by omega⟩
/-! the larder eaten from, gone off, summed up: the class -/
theorem eat_cl {a0 : Nat} {nd : Int32} : ∀ (n F : Nat) (l x : Int32) (I : jI), x.toInt + (n : Int) = 10 → 0 ≤ x.toInt → n < F → 0 ≤ l.toInt → (∀ k, k < 10 → 0 ≤ (I 23 a0 k).toInt) → ∃ r, d13_4 a0 nd F l x I = some r ∧ (r.1 = (eatV n l (I 23 a0) x.toNatClampNeg).1 ∧ r.2 23 a0 = (eatV n l (I 23 a0) x.toNatClampNeg).2) ∧ ∀ g i j, ¬ (g = 23 ∧ i = a0) → r.2 g i j = I g i j
  | _, 0, _, _, _, _, _, h, _, _ => absurd h (by omega)
  | 0, F + 1, l, x, I, hx, h0, _, _, _ => by
    rw [d13_4, if_pos (show (10 : Int32) ≤ x by rw [le_t]; show (10 : Int) ≤ _; omega)]
    exact ⟨_, rfl, ⟨rfl, rfl⟩, fun _ _ _ _ => rfl⟩
  | n + 1, F + 1, l, x, I, hx, h0, hF, hl, hs => by
    have nx := cl_t h0
    rw [d13_4, if_neg (show ¬ (10 : Int32) ≤ x by rw [le_t]; show ¬ (10 : Int) ≤ _; omega)]
    by_cases q : l ≤ 0
    · have lz : l = 0 := eq_t.mpr (by rw [le_t] at q; have : (0 : Int32).toInt = 0 := rfl; omega)
      rw [if_pos q, lz, eatV_z (n + 1) (I 23 a0) x.toNatClampNeg (fun j a b => hs j (by omega))]
      exact ⟨_, rfl, ⟨rfl, rfl⟩, fun _ _ _ _ => rfl⟩
    · rw [if_neg q]
      obtain ⟨m1, m2, m3, m4, m5⟩ := mn_t (hs x.toNatClampNeg (by omega)) hl
      have e := i32_inc (x := x) (by omega)
      have nx1 := cl_t (x := x + 1) (by omega)
      obtain ⟨r, r1, ⟨r2, r3⟩, r4⟩ := eat_cl (a0 := a0) (nd := nd) n F (l - mnS (I 23 a0 x.toNatClampNeg) l) (x + 1) (jup I 23 a0 x.toNatClampNeg (I 23 a0 x.toNatClampNeg - mnS (I 23 a0 x.toNatClampNeg) l)) (by omega) (by omega) (by omega) (by omega) (fun k hk => by
        rw [jup_c]
        by_cases c : k = x.toNatClampNeg
        · rw [if_pos c]; omega
        · rw [if_neg c]; exact hs k hk)
      have u : (jup I 23 a0 x.toNatClampNeg (I 23 a0 x.toNatClampNeg - mnS (I 23 a0 x.toNatClampNeg) l)) 23 a0 = upS (I 23 a0) x.toNatClampNeg (I 23 a0 x.toNatClampNeg - mnS (I 23 a0 x.toNatClampNeg) l) := funext (fun j => jup_c)
      have xn : (x + 1).toNatClampNeg = x.toNatClampNeg + 1 := by omega
      rw [u, xn] at r2 r3
      exact ⟨r, r1, ⟨r2, r3⟩, fun g i j h => (r4 g i j h).trans (jup_of (fun z => h ⟨z.1, z.2.1⟩))⟩
theorem eat_c {a0 : Nat} {nd : Int32} {I : jI} (hn : 0 ≤ nd.toInt) (hs : ∀ k, k < 10 → 0 ≤ (I 23 a0 k).toInt) : ∃ r, d13 a0 nd I = some r ∧ (r.1 = nd - (eatV 10 nd (I 23 a0) 0).1 ∧ r.2 23 a0 = (eatV 10 nd (I 23 a0) 0).2) ∧ ∀ g i j, ¬ (g = 23 ∧ i = a0) → r.2 g i j = I g i j := by
  obtain ⟨r, r1, ⟨r2, r3⟩, r4⟩ := eat_cl (a0 := a0) (nd := nd) 10 70 nd 0 I (by decide) (by decide) (by decide) hn hs
  unfold d13
  rw [r1]
  exact ⟨_, rfl, ⟨congrArg (fun z => nd - z) r2, r3⟩, r4⟩
theorem sum_cl {a0 : Nat} {I : jI} : ∀ (n F : Nat) (a x : Int32), x.toInt + (n : Int) = 10 → 0 ≤ x.toInt → n < F → d10_4 a0 I F a x = some (smV n a (I 23 a0) x.toNatClampNeg)
  | _, 0, _, _, _, _, h => absurd h (by omega)
  | 0, F + 1, a, x, hx, h0, _ => by
    rw [d10_4, if_pos (show (10 : Int32) ≤ x by rw [le_t]; show (10 : Int) ≤ _; omega)]
    rfl
  | n + 1, F + 1, a, x, hx, h0, hF => by
    have nx := cl_t h0
    have e := i32_inc (x := x) (by omega)
    have nx1 := cl_t (x := x + 1) (by omega)
    have xn : (x + 1).toNatClampNeg = x.toNatClampNeg + 1 := by omega
    rw [d10_4, if_neg (show ¬ (10 : Int32) ≤ x by rw [le_t]; show ¬ (10 : Int) ≤ _; omega), sum_cl n F _ (x + 1) (by omega) (by omega) (by omega), xn]
    rfl
theorem sum_c {a0 : Nat} {I : jI} : d10 a0 I = some (smV 10 0 (I 23 a0) 0) := by
  unfold d10
  rw [sum_cl 10 70 0 0 (by decide) (by decide) (by decide)]
  rfl
theorem off_c {a0 : Nat} {I : jI} {j : Nat} : (d14 a0 I).2 23 a0 j = if j < 9 then I 23 a0 (j + 1) else if j = 9 then 0 else I 23 a0 j := by
  have c0 : Int32.toNatClampNeg 0 = 0 := rfl
  have c1 : Int32.toNatClampNeg 1 = 1 := rfl
  have c9 : Int32.toNatClampNeg 9 = 9 := rfl
  unfold d14
  dsimp only
  rw [c0, c1, c9, jup_c]
  by_cases h : j = 9
  · rw [if_pos h, if_neg (by omega), if_pos h]
  · rw [if_neg h]
    unfold jcpy
    by_cases q : j < 9
    · rw [if_pos ⟨rfl, rfl, by omega, by omega⟩, if_pos q, show 1 + (j - 0) = j + 1 by omega]
    · rw [if_neg (fun z => by omega), if_neg q, if_neg h]
theorem off_o {a0 : Nat} {I : jI} {g i j : Nat} (h : ¬ (g = 23 ∧ i = a0)) : (d14 a0 I).2 g i j = I g i j := by
  unfold d14 jcpy
  dsimp only
  rw [jup_of (fun z => h ⟨z.1, z.2.1⟩), if_neg (fun z => h ⟨z.1, z.2.1⟩)]
end
section
/-! the reference's row: eaten from, gone off, summed up, kept -/
theorem eat_ml {a : Int32} (ha : 0 ≤ a.toInt ∧ a.toInt ≤ 4596) {b : Nat} (hb : a.toNatClampNeg = b) : ∀ (n F : Nat) (l x : Int32) (I : jI), x.toInt + (n : Int) = 10 → 0 ≤ x.toInt → n < F → ∃ r, d167_7 a F l x I = some r ∧ (r.1 = (eatV n l (fun k => I 32 0 (b + 7 + k)) x.toNatClampNeg).1 ∧ (fun k => r.2 32 0 (b + 7 + k)) = (eatV n l (fun k => I 32 0 (b + 7 + k)) x.toNatClampNeg).2) ∧ (∀ j, ¬ (b + 7 ≤ j ∧ j < b + 17) → r.2 32 0 j = I 32 0 j) ∧ ∀ g, ¬ g = 32 → r.2 g = I g
  | _, 0, _, _, _, _, _, h => absurd h (by omega)
  | 0, F + 1, l, x, I, hx, h0, _ => by
    rw [d167_7, if_pos (show (10 : Int32) ≤ x by rw [le_t]; show (10 : Int) ≤ _; omega)]
    exact ⟨_, rfl, ⟨rfl, rfl⟩, fun _ _ => rfl, fun _ _ => rfl⟩
  | n + 1, F + 1, l, x, I, hx, h0, hF => by
    have nx := cl_t h0
    have e := i32_inc (x := x) (by omega)
    have nx1 := cl_t (x := x + 1) (by omega)
    have xn : (x + 1).toNatClampNeg = x.toNatClampNeg + 1 := by omega
    have e7 := ixa (a := a) (x := 7) ha.1 (by omega) (by decide) (by decide)
    have c7 : (7 : Int32).toInt = 7 := rfl
    have n7 : (7 : Int32).toNatClampNeg = 7 := rfl
    have ex := ixa (a := a + 7) (x := x) (by omega) (by omega) h0 (by omega)
    have ix : Int32.toNatClampNeg ((a + 7) + x) = b + 7 + x.toNatClampNeg := by omega
    rw [d167_7, if_neg (show ¬ (10 : Int32) ≤ x by rw [le_t]; show ¬ (10 : Int) ≤ _; omega), ix]
    have key : ∀ (w : Int32), w = mnS (I 32 0 (b + 7 + x.toNatClampNeg)) l → ∃ r, d167_7 a F (l - w) (x + 1) (jup I 32 0 (b + 7 + x.toNatClampNeg) (I 32 0 (b + 7 + x.toNatClampNeg) - w)) = some r ∧ (r.1 = (eatV (n + 1) l (fun k => I 32 0 (b + 7 + k)) x.toNatClampNeg).1 ∧ (fun k => r.2 32 0 (b + 7 + k)) = (eatV (n + 1) l (fun k => I 32 0 (b + 7 + k)) x.toNatClampNeg).2) ∧ (∀ j, ¬ (b + 7 ≤ j ∧ j < b + 17) → r.2 32 0 j = I 32 0 j) ∧ ∀ g, ¬ g = 32 → r.2 g = I g := by
      intro w hw
      obtain ⟨r, r1, ⟨r2, r3⟩, r4, r5⟩ := eat_ml ha hb n F (l - w) (x + 1) (jup I 32 0 (b + 7 + x.toNatClampNeg) (I 32 0 (b + 7 + x.toNatClampNeg) - w)) (by omega) (by omega) (by omega)
      have u : (fun k => (jup I 32 0 (b + 7 + x.toNatClampNeg) (I 32 0 (b + 7 + x.toNatClampNeg) - w)) 32 0 (b + 7 + k)) = upS (fun k => I 32 0 (b + 7 + k)) x.toNatClampNeg (I 32 0 (b + 7 + x.toNatClampNeg) - w) := by
        funext k
        rw [jup_c]
        unfold upS
        by_cases c : k = x.toNatClampNeg
        · rw [if_pos c, if_pos (by omega)]
        · rw [if_neg c, if_neg (by omega)]
      rw [u, xn, hw] at r2 r3
      refine ⟨r, r1, ⟨r2, r3⟩, fun j h => ?_, fun g h => (r5 g h).trans (jup_g h)⟩
      rw [r4 j h, jup_c, if_neg (by omega)]
    by_cases q : l ≤ I 32 0 (b + 7 + x.toNatClampNeg)
    · rw [if_pos q]
      exact key l (by unfold mnS; rw [if_neg (fun z => by rw [lt_t] at z; rw [le_t] at q; omega)])
    · rw [if_neg q]
      exact key _ (by unfold mnS; rw [if_pos (by rw [lt_t]; rw [le_t] at q; omega)])
theorem sh_ml {a y : Int32} (ha : 0 ≤ a.toInt ∧ a.toInt ≤ 4596) {b : Nat} (hb : a.toNatClampNeg = b) : ∀ (n F : Nat) (x : Int32) (I : jI), x.toInt + (n : Int) = 9 → 0 ≤ x.toInt → n < F → ∃ r, d167_126 a y F x I = some r ∧ (∀ j, r 32 0 j = if b + 7 + x.toNatClampNeg ≤ j ∧ j < b + 16 then I 32 0 (j + 1) else I 32 0 j) ∧ ∀ g, ¬ g = 32 → r g = I g
  | _, 0, _, _, _, _, h => absurd h (by omega)
  | 0, F + 1, x, I, hx, h0, _ => by
    have nx := cl_t h0
    rw [d167_126, if_pos (show (9 : Int32) ≤ x by rw [le_t]; show (9 : Int) ≤ _; omega)]
    exact ⟨_, rfl, fun j => by rw [if_neg (by omega)], fun _ _ => rfl⟩
  | n + 1, F + 1, x, I, hx, h0, hF => by
    have nx := cl_t h0
    have e := i32_inc (x := x) (by omega)
    have nx1 := cl_t (x := x + 1) (by omega)
    have xn : (x + 1).toNatClampNeg = x.toNatClampNeg + 1 := by omega
    have e7 := ixa (a := a) (x := 7) ha.1 (by omega) (by decide) (by decide)
    have c7 : (7 : Int32).toInt = 7 := rfl
    have n7 : (7 : Int32).toNatClampNeg = 7 := rfl
    have c1 : (1 : Int32).toInt = 1 := rfl
    have n1 : (1 : Int32).toNatClampNeg = 1 := rfl
    have ex := ixa (a := a + 7) (x := x) (by omega) (by omega) h0 (by omega)
    have ey := ixa (a := (a + 7) + x) (x := 1) (by omega) (by omega) (by decide) (by decide)
    have ix : Int32.toNatClampNeg ((a + 7) + x) = b + 7 + x.toNatClampNeg := by omega
    have iy : Int32.toNatClampNeg (((a + 7) + x) + 1) = b + 7 + x.toNatClampNeg + 1 := by omega
    rw [d167_126, if_neg (show ¬ (9 : Int32) ≤ x by rw [le_t]; show ¬ (9 : Int) ≤ _; omega), ix, iy]
    obtain ⟨r, r1, r2, r3⟩ := sh_ml (y := y) ha hb n F (x + 1) (jup I 32 0 (b + 7 + x.toNatClampNeg) (I 32 0 (b + 7 + x.toNatClampNeg + 1))) (by omega) (by omega) (by omega)
    refine ⟨r, r1, fun j => ?_, fun g h => (r3 g h).trans (jup_g h)⟩
    rw [r2, xn, jup_c, jup_c]
    by_cases c : b + 7 + x.toNatClampNeg ≤ j ∧ j < b + 16
    · rw [if_pos c]
      by_cases c2 : j = b + 7 + x.toNatClampNeg
      · rw [if_neg (by omega), if_pos c2, c2]
      · rw [if_pos (by omega), if_neg (by omega)]
    · rw [if_neg c, if_neg (by omega), if_neg (by omega)]
theorem sum_ml {a : Int32} (ha : 0 ≤ a.toInt ∧ a.toInt ≤ 4596) {b : Nat} (hb : a.toNatClampNeg = b) {I : jI} : ∀ (n F : Nat) (s x : Int32), x.toInt + (n : Int) = 10 → 0 ≤ x.toInt → n < F → d162_4 a I F s x = some (smV n s (fun k => I 32 0 (b + 7 + k)) x.toNatClampNeg)
  | _, 0, _, _, _, _, h => absurd h (by omega)
  | 0, F + 1, s, x, hx, h0, _ => by
    rw [d162_4, if_pos (show (10 : Int32) ≤ x by rw [le_t]; show (10 : Int) ≤ _; omega)]
    rfl
  | n + 1, F + 1, s, x, hx, h0, hF => by
    have nx := cl_t h0
    have e := i32_inc (x := x) (by omega)
    have nx1 := cl_t (x := x + 1) (by omega)
    have xn : (x + 1).toNatClampNeg = x.toNatClampNeg + 1 := by omega
    have e7 := ixa (a := a) (x := 7) ha.1 (by omega) (by decide) (by decide)
    have c7 : (7 : Int32).toInt = 7 := rfl
    have n7 : (7 : Int32).toNatClampNeg = 7 := rfl
    have ex := ixa (a := a + 7) (x := x) (by omega) (by omega) h0 (by omega)
    have ix : Int32.toNatClampNeg ((a + 7) + x) = b + 7 + x.toNatClampNeg := by omega
    rw [d162_4, if_neg (show ¬ (10 : Int32) ≤ x by rw [le_t]; show ¬ (10 : Int) ≤ _; omega), ix, sum_ml ha hb n F _ (x + 1) (by omega) (by omega) (by omega), xn]
    rfl
theorem sum_m {a : Int32} (ha : 0 ≤ a.toInt ∧ a.toInt ≤ 4596) {b : Nat} (hb : a.toNatClampNeg = b) {I : jI} : d162 a I = some (smV 10 0 (fun k => I 32 0 (b + 7 + k)) 0) := by
  unfold d162
  rw [sum_ml ha hb 10 70 0 0 (by decide) (by decide) (by decide)]
  rfl
/-! one week of the reference's -/
noncomputable def psA (b : Nat) (T : jI) (l : Int32) : jI := jup T 32 0 (b + 3) (T 32 0 (b + 3) + (T 31 0 1 - l))
noncomputable def psB (b : Nat) (T : jI) (l : Int32) : jI := jup (psA b T l) 32 0 (b + 4) (psA b T l 32 0 (b + 4) + l)
noncomputable def psC (b : Nat) (T : jI) (l : Int32) : jI := jup (psB b T l) 32 0 (b + 5) (psB b T l 32 0 (b + 5) + psB b T l 32 0 (b + 7))
noncomputable def psE (b : Nat) (X : jI) : jI := jup (jup X 32 0 (b + 16) 0) 32 0 (b + 1) (jup X 32 0 (b + 16) 0 32 0 (b + 1) + 1)
theorem psC_c {b : Nat} {T : jI} {l : Int32} {j : Nat} : psC b T l 32 0 j = if j = b + 3 then T 32 0 (b + 3) + (T 31 0 1 - l) else if j = b + 4 then T 32 0 (b + 4) + l else if j = b + 5 then T 32 0 (b + 5) + T 32 0 (b + 7) else T 32 0 j := by
  unfold psC psB psA
  rw [jup_c, jup_c, jup_c, jup_c, jup_c, jup_c, jup_c, jup_c]
  by_cases h3 : j = b + 3
  · subst h3
    rw [if_neg (by omega), if_neg (by omega), if_pos rfl, if_pos rfl]
  · by_cases h4 : j = b + 4
    · subst h4
      rw [if_neg (by omega), if_pos rfl, if_neg (by omega), if_neg (by omega), if_pos rfl]
    · by_cases h5 : j = b + 5
      · subst h5
        rw [if_pos rfl, if_neg (by omega), if_neg (by omega), if_neg (by omega), if_neg (by omega), if_neg h3, if_neg h4, if_pos rfl]
      · rw [if_neg h5, if_neg h4, if_neg h3, if_neg h3, if_neg h4, if_neg h5]
theorem psB_7 {b : Nat} {T : jI} {l : Int32} : psB b T l 32 0 (b + 7) = T 32 0 (b + 7) := by
  unfold psB psA
  rw [jup_c, if_neg (by omega), jup_c, if_neg (by omega)]
theorem psE_c {b : Nat} {X : jI} {j : Nat} : psE b X 32 0 j = if j = b + 1 then X 32 0 (b + 1) + 1 else if j = b + 16 then 0 else X 32 0 j := by
  unfold psE
  rw [jup_c]
  by_cases h : j = b + 1
  · rw [if_pos h, if_pos h, jup_c, if_neg (by omega)]
  · rw [if_neg h, if_neg h, jup_c]
noncomputable def wkM (b : Nat) (I : jI) (j : Nat) : Int32 :=
  if j = b + 1 then I 32 0 (b + 1) + 1 else if j = b + 3 then I 32 0 (b + 3) + (I 31 0 1 - (eatV 10 (I 31 0 1) (fun k => I 32 0 (b + 7 + k)) 0).1) else if j = b + 4 then I 32 0 (b + 4) + (eatV 10 (I 31 0 1) (fun k => I 32 0 (b + 7 + k)) 0).1 else if j = b + 5 then I 32 0 (b + 5) + (eatV 10 (I 31 0 1) (fun k => I 32 0 (b + 7 + k)) 0).2 0 else if b + 7 ≤ j ∧ j < b + 16 then (eatV 10 (I 31 0 1) (fun k => I 32 0 (b + 7 + k)) 0).2 (j - b - 6) else if j = b + 16 then 0 else I 32 0 j
theorem pass_m {a : Int32} (ha : 0 ≤ a.toInt ∧ a.toInt ≤ 4596) {b : Nat} (hb : a.toNatClampNeg = b) {I : jI} : ∃ r, d167 a I = some r ∧ r.1 = (eatV 10 (I 31 0 1) (fun k => I 32 0 (b + 7 + k)) 0).2 0 ∧ (∀ j, r.2 32 0 j = wkM b I j) ∧ ∀ g, ¬ g = 32 → r.2 g = I g := by
  obtain ⟨⟨l, T⟩, r1, ⟨r2, r3⟩, r4, r5⟩ := eat_ml ha hb 10 70 (I 31 0 1) 0 I (by decide) (by decide) (by decide)
  have i1 : Int32.toNatClampNeg (a + 1) = b + 1 := by rw [(ixa ha.1 (by omega) (by decide) (by decide)).2, hb]; rfl
  have i3 : Int32.toNatClampNeg (a + 3) = b + 3 := by rw [(ixa ha.1 (by omega) (by decide) (by decide)).2, hb]; rfl
  have i4 : Int32.toNatClampNeg (a + 4) = b + 4 := by rw [(ixa ha.1 (by omega) (by decide) (by decide)).2, hb]; rfl
  have i5 : Int32.toNatClampNeg (a + 5) = b + 5 := by rw [(ixa ha.1 (by omega) (by decide) (by decide)).2, hb]; rfl
  have e7 := ixa (a := a) (x := 7) ha.1 (by omega) (by decide) (by decide)
  have c7 : (7 : Int32).toInt = 7 := rfl
  have i7 : Int32.toNatClampNeg (a + 7) = b + 7 := by rw [e7.2, hb]; rfl
  have i16 : Int32.toNatClampNeg ((a + 7) + 9) = b + 16 := by rw [(ixa (a := a + 7) (by omega) (by omega) (by decide) (by decide)).2, i7]; rfl
  have c0 : Int32.toNatClampNeg 0 = 0 := rfl
  dsimp only at r2 r3 r4 r5
  rw [c0] at r2 r3
  obtain ⟨X, x1, x2, x3⟩ := sh_ml (a := a) (y := psB b T l 32 0 (b + 7)) ha hb 9 70 0 (psC b T l) (by decide) (by decide) (by decide)
  have u : d167 a I = some (psB b T l 32 0 (b + 7), psE b X) := by
    unfold d167
    rw [r1, i1, i3, i4, i5, i7, i16]
    dsimp only [Option.bind_some]
    show ((d167_126 a (psB b T l 32 0 (b + 7)) 70 0 (psC b T l)).bind fun r2 => some (psB b T l 32 0 (b + 7), psE b r2)) = _
    rw [x1]
    rfl
  have t31 : T 31 = I 31 := r5 31 (by decide)
  have tk : ∀ k, T 32 0 (b + 7 + k) = (eatV 10 (I 31 0 1) (fun k => I 32 0 (b + 7 + k)) 0).2 k := fun k => congrFun r3 k
  rw [c0] at x2
  refine ⟨_, u, ?_, fun j => ?_, fun g h => ?_⟩
  · show psB b T l 32 0 (b + 7) = _
    rw [psB_7]
    exact tk 0
  · show psE b X 32 0 j = _
    have xc : ∀ j, psC b T l 32 0 j = if j = b + 3 then I 32 0 (b + 3) + (I 31 0 1 - l) else if j = b + 4 then I 32 0 (b + 4) + l else if j = b + 5 then I 32 0 (b + 5) + T 32 0 (b + 7) else T 32 0 j := fun j => by
      rw [psC_c, t31, r4 (b + 3) (by omega), r4 (b + 4) (by omega), r4 (b + 5) (by omega)]
    unfold wkM
    rw [psE_c, ← r2]
    by_cases h1 : j = b + 1
    · rw [if_pos h1, if_pos h1, x2, if_neg (show ¬ (b + 7 + 0 ≤ b + 1 ∧ b + 1 < b + 16) by omega), xc, if_neg (show ¬ b + 1 = b + 3 by omega), if_neg (show ¬ b + 1 = b + 4 by omega), if_neg (show ¬ b + 1 = b + 5 by omega), r4 _ (by omega)]
    · rw [if_neg h1, if_neg h1]
      by_cases h7 : j = b + 16
      · rw [if_pos h7, if_neg (show ¬ j = b + 3 by omega), if_neg (show ¬ j = b + 4 by omega), if_neg (show ¬ j = b + 5 by omega), if_neg (show ¬ (b + 7 ≤ j ∧ j < b + 16) by omega), if_pos h7]
      · rw [if_neg h7, x2]
        by_cases h6 : b + 7 ≤ j ∧ j < b + 16
        · rw [if_pos (show b + 7 + 0 ≤ j ∧ j < b + 16 by omega), xc, if_neg (show ¬ j + 1 = b + 3 by omega), if_neg (show ¬ j + 1 = b + 4 by omega), if_neg (show ¬ j + 1 = b + 5 by omega), if_neg (show ¬ j = b + 3 by omega), if_neg (show ¬ j = b + 4 by omega), if_neg (show ¬ j = b + 5 by omega), if_pos h6, ← tk, show b + 7 + (j - b - 6) = j + 1 by omega]
        · rw [if_neg (show ¬ (b + 7 + 0 ≤ j ∧ j < b + 16) by omega), xc]
          by_cases h3 : j = b + 3
          · rw [if_pos h3, if_pos h3]
          rw [if_neg h3, if_neg h3]
          by_cases h4 : j = b + 4
          · rw [if_pos h4, if_pos h4]
          rw [if_neg h4, if_neg h4]
          by_cases h5 : j = b + 5
          · rw [if_pos h5, if_pos h5, ← tk 0]
          rw [if_neg h5, if_neg h5, if_neg h6, if_neg h7, r4 _ (by omega)]
  · show psE b X g = _
    unfold psE
    rw [jup_g h, jup_g h, x3 g h]
    unfold psC psB psA
    rw [jup_g h, jup_g h, jup_g h, r5 g h]
/-! the past kept -/
theorem kp_ml {D : Nat} (hD : D ≤ 39) : ∀ (n F : Nat) (x : Int32) (I : jI), (I 32 0 0).toInt = (D : Int) → x.toInt + (n : Int) = 28 → 0 ≤ x.toInt → n < F → ∃ r, d163_2 F x I = some r ∧ (∀ j, r 32 0 j = if 29 + 28 * D + x.toNatClampNeg ≤ j ∧ j < 57 + 28 * D then I 32 0 (j - (28 + 28 * D)) else I 32 0 j) ∧ ∀ g, ¬ g = 32 → r g = I g
  | _, 0, _, _, _, _, _, h => absurd h (by omega)
  | 0, F + 1, x, I, h, hx, h0, _ => by
    have nx := cl_t h0
    rw [d163_2, if_pos (show (28 : Int32) ≤ x by rw [le_t]; show (28 : Int) ≤ _; omega)]
    exact ⟨_, rfl, fun j => by rw [if_neg (by omega)], fun _ _ => rfl⟩
  | n + 1, F + 1, x, I, h, hx, h0, hF => by
    have nx := cl_t h0
    have e := i32_inc (x := x) (by omega)
    have nx1 := cl_t (x := x + 1) (by omega)
    have xn : (x + 1).toNatClampNeg = x.toNatClampNeg + 1 := by omega
    have c28 : (28 : Int32).toInt = 28 := rfl
    have c29 : (29 : Int32).toInt = 29 := rfl
    have c0 : Int32.toNatClampNeg 0 = 0 := rfl
    have e1 : (28 * I 32 0 0).toInt = 28 * (D : Int) := by rw [i32_mul (by rw [c28, h]; omega), c28, h]
    have e2 := ixa (a := 29) (x := 28 * I 32 0 0) (by decide) (by decide) (by omega) (by omega)
    have e3 := ixa (a := 29 + 28 * I 32 0 0) (x := x) (by omega) (by omega) h0 (by omega)
    have n28 := cl_t (x := 28 * I 32 0 0) (by omega)
    have n29 : (29 : Int32).toNatClampNeg = 29 := rfl
    have ix : Int32.toNatClampNeg ((29 + (28 * I 32 0 0)) + x) = 29 + 28 * D + x.toNatClampNeg := by omega
    have iy : Int32.toNatClampNeg (1 + x) = 1 + x.toNatClampNeg := by rw [(ixa (a := 1) (by decide) (by decide) h0 (by omega)).2]; rfl
    rw [d163_2, if_neg (show ¬ (28 : Int32) ≤ x by rw [le_t]; show ¬ (28 : Int) ≤ _; omega), c0, ix, iy]
    obtain ⟨r, r1, r2, r3⟩ := kp_ml hD n F (x + 1) (jup I 32 0 (29 + 28 * D + x.toNatClampNeg) (I 32 0 (1 + x.toNatClampNeg))) (by rw [jup_c, if_neg (by omega)]; exact h) (by omega) (by omega) (by omega)
    refine ⟨r, r1, fun j => ?_, fun g h => (r3 g h).trans (jup_g h)⟩
    rw [r2, xn, jup_c, jup_c]
    by_cases c : 29 + 28 * D + x.toNatClampNeg ≤ j ∧ j < 57 + 28 * D
    · rw [if_pos c]
      by_cases c2 : j = 29 + 28 * D + x.toNatClampNeg
      · rw [if_neg (by omega), if_pos c2, show j - (28 + 28 * D) = 1 + x.toNatClampNeg by omega]
      · rw [if_pos (by omega), if_neg (by omega)]
    · rw [if_neg c, if_neg (by omega), if_neg (by omega)]
noncomputable def kpM (D : Nat) (I : jI) (j : Nat) : Int32 := if j = 0 then I 32 0 0 + 1 else if 29 + 28 * D ≤ j ∧ j < 57 + 28 * D then I 32 0 (j - (28 + 28 * D)) else I 32 0 j
theorem past_m {D : Nat} {I : jI} (hD : D ≤ 39) (h : (I 32 0 0).toInt = (D : Int)) : ∃ r, d163 I = some r ∧ (∀ j, r 32 0 j = kpM D I j) ∧ ∀ g, ¬ g = 32 → r g = I g := by
  obtain ⟨r, r1, r2, r3⟩ := kp_ml hD 28 70 0 I h (by decide) (by decide) (by decide)
  have c0 : Int32.toNatClampNeg 0 = 0 := rfl
  rw [c0] at r2
  unfold d163
  rw [r1, c0]
  dsimp only [Option.bind_some]
  refine ⟨_, rfl, fun j => ?_, fun g h => (jup_g h).trans (r3 g h)⟩
  unfold kpM
  rw [jup_c, r2, r2]
  by_cases c : j = 0
  · rw [if_pos c, if_pos c, if_neg (by omega)]
  · rw [if_neg c, if_neg c]
    by_cases q : 29 + 28 * D ≤ j ∧ j < 57 + 28 * D
    · rw [if_pos q, if_pos (by omega)]
    · rw [if_neg q, if_neg (by omega)]
end
section
/-! a house's standing as 28 cells, of the class and of the reference -/
noncomputable def vC (m : Nat) (I : jI) (h : Nat) : Nat → Int32 := fun k => if k < 6 then I 4 h (9 + k) else if k < 16 then I 23 h (k - 6) else if k < 22 then (if k - 16 < m then I 19 h (k - 16) else 0) else if k < 28 then (if k - 22 < m then I 20 h (k - 22) else 0) else 0
noncomputable def vM (m : Nat) (I : jI) (b : Nat) : Nat → Int32 := fun k => if k < 16 then I 32 0 (b + k) else if k < 22 then (if k - 16 < m then I 32 0 (b + k) else 0) else if k < 28 then (if k - 22 < m then I 32 0 (b + k) else 0) else 0
noncomputable def vK (m k : Nat) : Prop := k < 16 ∨ (k < 22 ∧ k - 16 < m) ∨ (22 ≤ k ∧ k < 28 ∧ k - 22 < m)
theorem vC_l {m h k : Nat} {I : jI} (hk : k < 10) : vC m I h (6 + k) = I 23 h k := by
  unfold vC
  rw [if_neg (by omega), if_pos (by omega), show 6 + k - 6 = k by omega]
theorem vC_g {m h k : Nat} {I : jI} (hk : k < m) (hm : m ≤ 6) : vC m I h (16 + k) = I 19 h k := by
  unfold vC
  rw [if_neg (by omega), if_neg (by omega), if_pos (by omega), show 16 + k - 16 = k by omega, if_pos hk]
theorem vC_p {m h k : Nat} {I : jI} (hk : k < m) (hm : m ≤ 6) : vC m I h (22 + k) = I 20 h k := by
  unfold vC
  rw [if_neg (by omega), if_neg (by omega), if_neg (by omega), if_pos (by omega), show 22 + k - 22 = k by omega, if_pos hk]
theorem vC_f {m h k : Nat} {I : jI} (hk : k < 6) : vC m I h k = I 4 h (9 + k) := by
  unfold vC
  rw [if_pos hk]
theorem vM_k {m b k : Nat} {I : jI} (hk : vK m k) : vM m I b k = I 32 0 (b + k) := by
  unfold vM
  rcases hk with h | ⟨h, h'⟩ | ⟨h, h', h''⟩
  · rw [if_pos h]
  · by_cases c : k < 16
    · rw [if_pos c]
    · rw [if_neg c, if_pos h, if_pos h']
  · rw [if_neg (by omega), if_neg (by omega), if_pos h', if_pos h'']
theorem vM_n {m b k : Nat} {I : jI} (hk : ¬ vK m k) : vM m I b k = 0 := by
  unfold vM
  have a1 : ¬ k < 16 := fun z => hk (Or.inl z)
  rw [if_neg a1]
  by_cases c : k < 22
  · rw [if_pos c, if_neg (fun z => hk (Or.inr (Or.inl ⟨c, z⟩)))]
  · rw [if_neg c]
    by_cases d : k < 28
    · rw [if_pos d, if_neg (fun z => hk (Or.inr (Or.inr ⟨by omega, d, z⟩)))]
    · rw [if_neg d]
theorem vC_n {m h k : Nat} {I : jI} (hk : ¬ vK m k) : vC m I h k = 0 := by
  unfold vC
  have a1 : ¬ k < 16 := fun z => hk (Or.inl z)
  rw [if_neg (by omega), if_neg a1]
  by_cases c : k < 22
  · rw [if_pos c, if_neg (fun z => hk (Or.inr (Or.inl ⟨c, z⟩)))]
  · rw [if_neg c]
    by_cases d : k < 28
    · rw [if_pos d, if_neg (fun z => hk (Or.inr (Or.inr ⟨by omega, d, z⟩)))]
    · rw [if_neg d]
theorem vK_28 {m k : Nat} (h : vK m k) : k < 28 := by rcases h with h | h | h <;> omega
theorem vM_ext {m b b' : Nat} {I I' : jI} (h : ∀ k, k < 28 → I' 32 0 (b' + k) = I 32 0 (b + k)) : vM m I' b' = vM m I b := by
  funext k
  by_cases c : vK m k
  · rw [vM_k c, vM_k c, h k (vK_28 c)]
  · rw [vM_n c, vM_n c]
theorem vC_ext {m h h' : Nat} {I I' : jI} (hm : m ≤ 6) (h4 : ∀ j, 9 ≤ j → j < 15 → I' 4 h' j = I 4 h j) (h23 : ∀ j, j < 10 → I' 23 h' j = I 23 h j) (h19 : ∀ j, j < 6 → I' 19 h' j = I 19 h j) (h20 : ∀ j, j < 6 → I' 20 h' j = I 20 h j) : vC m I' h' = vC m I h := by
  funext k
  by_cases c : vK m k
  · rcases c with c | ⟨c, c'⟩ | ⟨c, c', c''⟩
    · by_cases d : k < 6
      · rw [vC_f d, vC_f d, h4 _ (by omega) (by omega)]
      · obtain ⟨j, rfl⟩ : ∃ j, k = 6 + j := ⟨k - 6, by omega⟩
        rw [vC_l (by omega), vC_l (by omega), h23 j (by omega)]
    · by_cases d : k < 16
      · by_cases d' : k < 6
        · rw [vC_f d', vC_f d', h4 _ (by omega) (by omega)]
        · obtain ⟨j, rfl⟩ : ∃ j, k = 6 + j := ⟨k - 6, by omega⟩
          rw [vC_l (by omega), vC_l (by omega), h23 j (by omega)]
      · obtain ⟨j, rfl⟩ : ∃ j, k = 16 + j := ⟨k - 16, by omega⟩
        rw [vC_g (by omega) hm, vC_g (by omega) hm, h19 j (by omega)]
    · obtain ⟨j, rfl⟩ : ∃ j, k = 22 + j := ⟨k - 22, by omega⟩
      rw [vC_p (by omega) hm, vC_p (by omega) hm, h20 j (by omega)]
  · rw [vC_n c, vC_n c]
theorem vM_up {m b k : Nat} {I : jI} {v : Int32} (hk : vK m k) : vM m (jup I 32 0 (b + k) v) b = upS (vM m I b) k v := by
  funext j
  unfold upS
  by_cases c : vK m j
  · rw [vM_k c, jup_c]
    by_cases e : j = k
    · rw [if_pos (by omega), if_pos e]
    · rw [if_neg (by omega), if_neg e, vM_k c]
  · rw [vM_n c, if_neg (show ¬ j = k from fun z => c (by rw [z]; exact hk)), vM_n c]
theorem vC_4 {m h j : Nat} {I : jI} {v : Int32} (h1 : j < 6) : vC m (jup I 4 h (9 + j) v) h = upS (vC m I h) j v := by
  funext k
  unfold upS
  by_cases c : k = j
  · rw [if_pos c, c, vC_f h1, jup_c, if_pos rfl]
  · rw [if_neg c]
    unfold vC
    by_cases d : k < 6
    · rw [if_pos d, if_pos d, jup_c, if_neg (by omega)]
    · rw [if_neg d, if_neg d]
      rw [jup_g (show ¬ 23 = 4 by decide), jup_g (show ¬ 19 = 4 by decide), jup_g (show ¬ 20 = 4 by decide)]
theorem vC_23 {m h j : Nat} {I : jI} {v : Int32} (h1 : j < 10) : vC m (jup I 23 h j v) h = upS (vC m I h) (6 + j) v := by
  funext k
  unfold upS
  by_cases c : k = 6 + j
  · rw [if_pos c, c, vC_l h1, jup_c, if_pos rfl]
  · rw [if_neg c]
    unfold vC
    rw [jup_g (show ¬ 4 = 23 by decide), jup_g (show ¬ 19 = 23 by decide), jup_g (show ¬ 20 = 23 by decide)]
    by_cases d : k < 6
    · rw [if_pos d, if_pos d]
    · rw [if_neg d, if_neg d]
      by_cases e : k < 16
      · rw [if_pos e, if_pos e, jup_c, if_neg (by omega)]
      · rw [if_neg e, if_neg e]
theorem vC_19 {m h j : Nat} {I : jI} {v : Int32} (h1 : j < m) (hm : m ≤ 6) : vC m (jup I 19 h j v) h = upS (vC m I h) (16 + j) v := by
  funext k
  unfold upS
  by_cases c : k = 16 + j
  · rw [if_pos c, c, vC_g h1 hm, jup_c, if_pos rfl]
  · rw [if_neg c]
    unfold vC
    rw [jup_g (show ¬ 4 = 19 by decide), jup_g (show ¬ 23 = 19 by decide), jup_g (show ¬ 20 = 19 by decide)]
    by_cases d : k < 6
    · rw [if_pos d, if_pos d]
    · rw [if_neg d, if_neg d]
      by_cases e : k < 16
      · rw [if_pos e, if_pos e]
      · rw [if_neg e, if_neg e, jup_c, if_neg (show ¬ k - 16 = j by omega)]
theorem vC_20 {m h j : Nat} {I : jI} {v : Int32} (h1 : j < m) (hm : m ≤ 6) : vC m (jup I 20 h j v) h = upS (vC m I h) (22 + j) v := by
  funext k
  unfold upS
  by_cases c : k = 22 + j
  · rw [if_pos c, c, vC_p h1 hm, jup_c, if_pos rfl]
  · rw [if_neg c]
    unfold vC
    rw [jup_g (show ¬ 4 = 20 by decide), jup_g (show ¬ 23 = 20 by decide), jup_g (show ¬ 19 = 20 by decide)]
    by_cases d : k < 22
    · rw [if_pos d, if_pos d]
    · rw [if_neg (show ¬ k < 6 by omega), if_neg (show ¬ k < 6 by omega), if_neg (show ¬ k < 16 by omega), if_neg (show ¬ k < 16 by omega), if_neg d, if_neg d, jup_c, if_neg (show ¬ k - 22 = j by omega)]
/-! what a deed does -/
noncomputable def zI : jI := fun _ _ _ => 0
noncomputable def kost (k n p c : Int32) : Int32 := d5 k n p c zI
noncomputable def gotS (k g : Int32) : Int32 := d7 k g zI
noncomputable def kpsS (k w : Int32) : Int32 := d8 k w zI
theorem cost_c {k n p c : Int32} {I : jI} : d5 k n p c I = kost k n p c := rfl
theorem got_c {k g : Int32} {I : jI} : d7 k g I = gotS k g := rfl
theorem kps_c {k w : Int32} {I : jI} : d8 k w I = kpsS k w := rfl
theorem some_m {x : Int32} {I : jI} : d123 x I = if 0 < x then x else 0 := by
  unfold d123
  by_cases h : 0 < x
  · rw [if_pos h, if_pos (by rw [le_t]; rw [lt_t] at h; omega)]
  · rw [if_neg h]
    by_cases q : 0 ≤ x
    · rw [if_pos q]
      rw [lt_t] at h
      rw [le_t] at q
      exact eq_t.mpr (by omega)
    · rw [if_neg q]
theorem cost_m {k n p c : Int32} {I : jI} (hc : c = 0 ∨ c = 1) : d152 k p n c I = kost k n p c := by
  unfold kost d152 d5 d6
  rcases hc with rfl | rfl
  · rw [if_neg (show ¬ (0 : Int32) = 1 by decide)]
    simp only [some_m, if_true]
  · rw [if_pos rfl]
    simp only [some_m, Int32.mul_comm 3, if_neg (show ¬ (1 : Int32) = 0 by decide)]
theorem got_m {k g : Int32} {I : jI} : d154 k g I = gotS k g := rfl
noncomputable def lrd (s : Nat → Int32) : Nat → Int32 := fun k => s (6 + k)
noncomputable def stW (nd : Int32) (s : Nat → Int32) : Nat → Int32 := fun j => if j = 0 then s 0 + 1 else if j = 2 then s 2 + (nd - (eatV 10 nd (lrd s) 0).1) else if j = 3 then s 3 + (eatV 10 nd (lrd s) 0).1 else if j = 4 then s 4 + (eatV 10 nd (lrd s) 0).2 0 else if 6 ≤ j ∧ j < 15 then (eatV 10 nd (lrd s) 0).2 (j - 5) else if j = 15 then 0 else s j
noncomputable def stB (kd kp : Nat → Int32) (i : Nat) (n : Int32) (s : Nat → Int32) : Nat → Int32 := upS (upS s 1 (s 1 + kost (kd i) n (s (22 + i)) (s 5))) (6 + (kpsS (kd i) (kp i)).toNatClampNeg) (s (6 + (kpsS (kd i) (kp i)).toNatClampNeg) + n * gotS (kd i) (s (16 + i)))
noncomputable def stp (kd kp : Nat → Int32) (nd dd i v : Int32) (s : Nat → Int32) : Nat → Int32 := if dd = 0 then stB kd kp i.toNatClampNeg v s else if dd = 1 then stW nd s else if dd = 2 then upS s (16 + i.toNatClampNeg) (s (16 + i.toNatClampNeg) - 1) else if dd = 3 then upS s (22 + i.toNatClampNeg) v else upS s 5 (if v = 1 then 1 else 0)
noncomputable def anS (kd : Nat → Int32) (nd dd i v : Int32) (s : Nat → Int32) : Int32 := if dd = 0 then kost (kd i.toNatClampNeg) v (s (22 + i.toNatClampNeg)) (s 5) else if dd = 1 then (eatV 10 nd (lrd s) 0).2 0 else if dd = 2 then s (16 + i.toNatClampNeg) - 1 else if dd = 3 then s (22 + i.toNatClampNeg) else v
theorem kps_b {k w : Int32} (h : 0 ≤ w.toInt ∧ w.toInt ≤ 9) : (kpsS k w).toNatClampNeg < 10 := by
  unfold kpsS d8
  by_cases c : k = 5
  · rw [if_pos c]
    have e : (w / 2).toInt = w.toInt / 2 := by rw [td32 (by decide)]; exact Int.tdiv_eq_ediv_of_nonneg h.1
    have := cl_t (x := w / 2) (by omega)
    omega
  · rw [if_neg c]
    have := cl_t h.1
    omega
theorem got_b {k g : Int32} (h : 0 ≤ g.toInt ∧ g.toInt ≤ 9) : 0 ≤ (gotS k g).toInt ∧ (gotS k g).toInt ≤ 9 := by
  unfold gotS d7
  by_cases c : k = 3
  · rw [if_pos c]
    have e : (g / 2).toInt = g.toInt / 2 := by rw [td32 (by decide)]; exact Int.tdiv_eq_ediv_of_nonneg h.1
    omega
  · rw [if_neg c]
    exact h
end
section
/-! the class's deeds -/
theorem lrd_C {m h : Nat} {I : jI} : ∀ j, 0 ≤ j → j < 0 + 10 → lrd (vC m I h) j = I 23 h j := fun j _ b => vC_l (by omega)
noncomputable def wkA (T : jI) (h : Int32) : jI := jup T 4 1 11 (T 4 1 11 + h)
noncomputable def wkB (T : jI) (h : Int32) : jI := jup (wkA T h) 4 1 12 (wkA T h 4 1 12 + (wkA T h 4 1 7 - h))
noncomputable def wkC (T : jI) (h : Int32) : jI := jup (d14 1 (wkB T h)).2 4 1 13 ((d14 1 (wkB T h)).2 4 1 13 + (d14 1 (wkB T h)).1)
noncomputable def wkD (T : jI) (h : Int32) : jI := jup (wkC T h) 4 1 9 (wkC T h 4 1 9 + 1)
noncomputable def pfR (g x j : Nat) : Prop := x = 1 ∧ (g = 23 ∨ g = 22 ∨ g = 19 ∨ g = 20 ∨ (g = 4 ∧ 9 ≤ j ∧ j ≤ 15))
theorem week_c {m : Nat} {I : jI} (hn : 0 ≤ (I 4 1 7).toInt) (hl : ∀ k, k < 10 → 0 ≤ (I 23 1 k).toInt) : ∃ r, d46 1 I = some r ∧ r.1 = (eatV 10 (I 4 1 7) (lrd (vC m I 1)) 0).2 0 ∧ vC m r.2 1 = stW (I 4 1 7) (vC m I 1) ∧ r.2 4 1 15 = I 4 1 15 ∧ r.2 22 1 = I 22 1 ∧ ∀ g x j, ¬ pfR g x j → r.2 g x j = I g x j := by
  obtain ⟨⟨h, T⟩, r1, ⟨r2, r3⟩, r4⟩ := eat_c (a0 := 1) (nd := I 4 1 7) hn hl
  dsimp only at r2 r3 r4
  have u : d46 1 I = some ((d14 1 (wkB T h)).1, wkD T h) := by
    unfold d46
    rw [r1]
    rfl
  have x1 := eatV_ext 10 (I 4 1 7) (lrd (vC m I 1)) (I 23 1) 0 lrd_C
  have x2 := (eatV_le 10 (I 4 1 7) (I 23 1) 0 hn (fun j _ b => hl j (by omega))).1
  have t4 : ∀ j, T 4 1 j = I 4 1 j := fun j => r4 4 1 j (by decide)
  have rn := i32_rng (I 4 1 7)
  have hs : I 4 1 7 - h = (eatV 10 (I 4 1 7) (I 23 1) 0).1 := by
    refine eq_t.mpr ?_
    have e1 : h.toInt = (I 4 1 7).toInt - (eatV 10 (I 4 1 7) (I 23 1) 0).1.toInt := by rw [r2]; exact i32_sub (by omega)
    rw [i32_sub (by omega), e1]
    omega
  have bk : ∀ k, wkB T h 23 1 k = T 23 1 k := fun k => by
    unfold wkB wkA
    rw [jup_g (by decide), jup_g (by decide)]
  have lk : ∀ k, wkD T h 23 1 k = if k < 9 then T 23 1 (k + 1) else if k = 9 then 0 else T 23 1 k := fun k => by
    unfold wkD wkC
    rw [jup_g (by decide), jup_g (by decide), off_c, bk, bk]
  have k9 : wkD T h 4 1 9 = I 4 1 9 + 1 := by rw [← t4 9]; rfl
  have k10 : wkD T h 4 1 10 = I 4 1 10 := by rw [← t4 10]; rfl
  have k11 : wkD T h 4 1 11 = I 4 1 11 + h := by rw [← t4 11]; rfl
  have k12 : wkD T h 4 1 12 = I 4 1 12 + (I 4 1 7 - h) := by rw [← t4 12, ← t4 7]; rfl
  have k13 : wkD T h 4 1 13 = I 4 1 13 + T 23 1 0 := by rw [← t4 13]; rfl
  have k14 : wkD T h 4 1 14 = I 4 1 14 := by rw [← t4 14]; rfl
  have k15 : wkD T h 4 1 15 = I 4 1 15 := by rw [← t4 15]; rfl
  have tl : ∀ k, k < 10 → T 23 1 k = (eatV 10 (I 4 1 7) (lrd (vC m I 1)) 0).2 k := fun k hk => by rw [r3, x1.2 k (by omega) (by omega)]
  have ot : ∀ g x j, ¬ (g = 23 ∧ x = 1) → ¬ (g = 4 ∧ x = 1) → wkD T h g x j = I g x j := fun g x j a b => by
    unfold wkD wkC
    rw [jup_of (fun z => b ⟨z.1, z.2.1⟩), jup_of (fun z => b ⟨z.1, z.2.1⟩), off_o a]
    unfold wkB wkA
    rw [jup_of (fun z => b ⟨z.1, z.2.1⟩), jup_of (fun z => b ⟨z.1, z.2.1⟩), r4 g x j a]
  have o4 : ∀ j, ¬ (9 ≤ j ∧ j ≤ 15) → wkD T h 4 1 j = I 4 1 j := fun j a => by
    unfold wkD wkC
    rw [jup_of (fun z => a (by omega)), jup_of (fun z => a (by omega)), off_o (by decide)]
    unfold wkB wkA
    rw [jup_of (fun z => a (by omega)), jup_of (fun z => a (by omega)), t4]
  refine ⟨_, u, ?_, ?_, k15, funext (fun e => ot 22 1 e (by decide) (by decide)), fun g x j hp => ?_⟩
  · show wkB T h 23 1 0 = _
    rw [bk, tl 0 (by decide)]
  · funext k
    unfold stW
    by_cases c0 : k = 0
    · subst c0; rw [if_pos rfl]; exact k9
    rw [if_neg c0]
    by_cases c2 : k = 2
    · subst c2; rw [if_pos rfl, x1.1, ← r2]; exact k11
    rw [if_neg c2]
    by_cases c3 : k = 3
    · subst c3; rw [if_pos rfl, x1.1, ← hs]; exact k12
    rw [if_neg c3]
    by_cases c4 : k = 4
    · subst c4; rw [if_pos rfl, ← tl 0 (by decide)]; exact k13
    rw [if_neg c4]
    by_cases c6 : 6 ≤ k ∧ k < 15
    · rw [if_pos c6, ← tl _ (by omega)]
      obtain ⟨j, rfl⟩ : ∃ j, k = 6 + j := ⟨k - 6, by omega⟩
      rw [vC_l (by omega)]
      show wkD T h 23 1 j = _
      rw [lk, if_pos (by omega), show 6 + j - 5 = j + 1 by omega]
    rw [if_neg c6]
    by_cases c15 : k = 15
    · subst c15
      rw [if_pos rfl]
      show wkD T h 23 1 9 = 0
      rw [lk, if_neg (by decide), if_pos rfl]
    rw [if_neg c15]
    by_cases c1 : k = 1
    · subst c1; exact k10
    by_cases c5 : k = 5
    · subst c5; exact k14
    unfold vC
    rw [if_neg (show ¬ k < 6 by omega), if_neg (show ¬ k < 6 by omega), if_neg (show ¬ k < 16 by omega), if_neg (show ¬ k < 16 by omega)]
    show (if k < 22 then (if k - 16 < m then wkD T h 19 1 (k - 16) else 0) else if k < 28 then (if k - 22 < m then wkD T h 20 1 (k - 22) else 0) else 0) = _
    rw [ot 19 1 _ (by decide) (by decide), ot 20 1 _ (by decide) (by decide)]
  · show wkD T h g x j = _
    by_cases a : g = 4 ∧ x = 1
    · obtain ⟨rfl, rfl⟩ := a
      exact o4 j (fun z => hp ⟨rfl, Or.inr (Or.inr (Or.inr (Or.inr ⟨rfl, z⟩)))⟩)
    · exact ot g x j (fun z => hp ⟨z.2, Or.inl z.1⟩) a
noncomputable def pfQ (I : jI) (x : Int32) : jI := jup (jup I 22 1 (I 4 1 15).toNatClampNeg x) 4 1 15 (I 4 1 15 + 1)
theorem pfQ_v {m : Nat} {I : jI} {x : Int32} (hm : m ≤ 6) : vC m (pfQ I x) 1 = vC m I 1 := by
  unfold pfQ
  refine vC_ext hm (fun j a b => ?_) (fun j _ => ?_) (fun j _ => ?_) (fun j _ => ?_)
  · rw [jup_c, if_neg (by omega), jup_g (by decide)]
  · rw [jup_g (by decide), jup_g (by decide)]
  · rw [jup_g (by decide), jup_g (by decide)]
  · rw [jup_g (by decide), jup_g (by decide)]
theorem pfQ_o {I : jI} {x : Int32} {g h j : Nat} (hp : ¬ pfR g h j) : pfQ I x g h j = I g h j := by
  unfold pfQ
  rw [jup_of (fun z => hp ⟨z.2.1, Or.inr (Or.inr (Or.inr (Or.inr ⟨z.1, by omega, by omega⟩)))⟩), jup_of (fun z => hp ⟨z.2.1, Or.inr (Or.inl z.1)⟩)]
theorem pfQ_l {I : jI} {x : Int32} {e : Nat} : pfQ I x 22 1 e = if e = (I 4 1 15).toNatClampNeg then x else I 22 1 e := by
  unfold pfQ
  rw [jup_g (by decide), jup_c]
/-- what perform leaves, at house 1 -/
noncomputable def pfF (m : Nat) (dd i v : Int32) (I I' : jI) : Prop := vC m I' 1 = stp (I 18 1) (I 21 1) (I 4 1 7) dd i v (vC m I 1) ∧ I' 4 1 15 = I 4 1 15 + 1 ∧ (∀ e, I' 22 1 e = if e = (I 4 1 15).toNatClampNeg then dd * 1000 + i * 100 + v else I 22 1 e) ∧ ∀ g h j, ¬ pfR g h j → I' g h j = I g h j
theorem buy_c {m : Nat} {Q : jI} {i n : Int32} (hm : m ≤ 6) (hi : i.toNatClampNeg < m) (hk : (kpsS (Q 18 1 i.toNatClampNeg) (Q 21 1 i.toNatClampNeg)).toNatClampNeg < 10) : ∃ r, d45 1 i n Q = some r ∧ r.1 = kost (Q 18 1 i.toNatClampNeg) n (vC m Q 1 (22 + i.toNatClampNeg)) (vC m Q 1 5) ∧ vC m r.2 1 = stB (Q 18 1) (Q 21 1) i.toNatClampNeg n (vC m Q 1) ∧ r.2 4 1 15 = Q 4 1 15 ∧ r.2 22 1 = Q 22 1 ∧ ∀ g x j, ¬ pfR g x j → r.2 g x j = Q g x j := by
  have e : d45 1 i n Q = some (kost (Q 18 1 i.toNatClampNeg) n (Q 20 1 i.toNatClampNeg) (Q 4 1 14), jup (jup Q 4 1 (9 + 1) (Q 4 1 10 + kost (Q 18 1 i.toNatClampNeg) n (Q 20 1 i.toNatClampNeg) (Q 4 1 14))) 23 1 (kpsS (Q 18 1 i.toNatClampNeg) (Q 21 1 i.toNatClampNeg)).toNatClampNeg (Q 23 1 (kpsS (Q 18 1 i.toNatClampNeg) (Q 21 1 i.toNatClampNeg)).toNatClampNeg + n * gotS (Q 18 1 i.toNatClampNeg) (Q 19 1 i.toNatClampNeg))) := by
    unfold d45 d35 d12 d37 d36
    rw [cost_c, kps_c, got_c]
    rfl
  refine ⟨_, e, ?_, ?_, rfl, rfl, fun g x j hp => ?_⟩
  · rw [vC_p hi hm]
    rfl
  · show vC m (jup (jup Q 4 1 (9 + 1) (Q 4 1 10 + kost (Q 18 1 i.toNatClampNeg) n (Q 20 1 i.toNatClampNeg) (Q 4 1 14))) 23 1 (kpsS (Q 18 1 i.toNatClampNeg) (Q 21 1 i.toNatClampNeg)).toNatClampNeg (Q 23 1 (kpsS (Q 18 1 i.toNatClampNeg) (Q 21 1 i.toNatClampNeg)).toNatClampNeg + n * gotS (Q 18 1 i.toNatClampNeg) (Q 19 1 i.toNatClampNeg))) 1 = _
    rw [vC_23 hk, vC_4 (by decide)]
    unfold stB
    rw [vC_p hi hm, vC_g hi hm, vC_l hk]
    rfl
  · show jup (jup Q 4 1 (9 + 1) (Q 4 1 10 + kost (Q 18 1 i.toNatClampNeg) n (Q 20 1 i.toNatClampNeg) (Q 4 1 14))) 23 1 (kpsS (Q 18 1 i.toNatClampNeg) (Q 21 1 i.toNatClampNeg)).toNatClampNeg (Q 23 1 (kpsS (Q 18 1 i.toNatClampNeg) (Q 21 1 i.toNatClampNeg)).toNatClampNeg + n * gotS (Q 18 1 i.toNatClampNeg) (Q 19 1 i.toNatClampNeg)) g x j = _
    rw [jup_of (fun z => hp ⟨z.2.1, Or.inl z.1⟩), jup_of (fun z => hp ⟨z.2.1, Or.inr (Or.inr (Or.inr (Or.inr ⟨z.1, by omega, by omega⟩)))⟩)]
theorem perf_c {m : Nat} {I : jI} {dd i v : Int32} (hd : 0 ≤ (I 4 1 15).toInt) (h21 : dd = 0 → 0 ≤ (I 21 1 i.toNatClampNeg).toInt ∧ (I 21 1 i.toNatClampNeg).toInt ≤ 9) (hm : m ≤ 6) (hD : (I 4 1 15).toInt ≤ 39) (hi : dd = 0 ∨ dd = 2 ∨ dd = 3 → i.toNatClampNeg < m) (hw : dd = 1 → 0 ≤ (I 4 1 7).toInt ∧ ∀ k, k < 10 → 0 ≤ (I 23 1 k).toInt) : ∃ r, d44 1 dd i v I = some r ∧ r.1 = anS (I 18 1) (I 4 1 7) dd i v (vC m I 1) ∧ pfF m dd i v I r.2 := by
  have c1 : (1 : Int32).toInt = 1 := rfl
  have c40 : (40 : Int32).toInt = 40 := rfl
  have q : ¬ d32 1 1 I = 0 := by
    unfold d32
    rw [if_neg (show ¬ (40 : Int32) < I 4 1 15 + 1 by rw [lt_t, i32_add (by omega), c40, c1]; omega)]
    decide
  have qv := pfQ_v (I := I) (x := dd * 1000 + i * 100 + v) hm
  have main : ∀ r : Int32 × jI, r.1 = anS (I 18 1) (I 4 1 7) dd i v (vC m I 1) → vC m r.2 1 = stp (I 18 1) (I 21 1) (I 4 1 7) dd i v (vC m I 1) → r.2 4 1 15 = pfQ I (dd * 1000 + i * 100 + v) 4 1 15 → r.2 22 1 = pfQ I (dd * 1000 + i * 100 + v) 22 1 → (∀ g h j, ¬ pfR g h j → r.2 g h j = pfQ I (dd * 1000 + i * 100 + v) g h j) → r.1 = anS (I 18 1) (I 4 1 7) dd i v (vC m I 1) ∧ pfF m dd i v I r.2 := by
    intro r a b c d e
    refine ⟨a, b, ?_, fun x => ?_, fun g h j hp => ?_⟩
    · rw [c]; rfl
    · rw [d, pfQ_l]
    · rw [e g h j hp, pfQ_o hp]
  have Qe : jup (jup I 22 1 (Int32.toNatClampNeg (I 4 1 15)) (((dd * 1000) + (i * 100)) + v)) 4 1 15 (((jup I 22 1 (Int32.toNatClampNeg (I 4 1 15)) (((dd * 1000) + (i * 100)) + v)) 4 1 15) + 1) = pfQ I (dd * 1000 + i * 100 + v) := rfl
  unfold d44
  rw [if_neg q, Qe]
  have a18 : pfQ I (dd * 1000 + i * 100 + v) 18 = I 18 := (jup_g (by decide)).trans (jup_g (by decide))
  have a19 : pfQ I (dd * 1000 + i * 100 + v) 19 = I 19 := (jup_g (by decide)).trans (jup_g (by decide))
  have a20 : pfQ I (dd * 1000 + i * 100 + v) 20 = I 20 := (jup_g (by decide)).trans (jup_g (by decide))
  have a21 : pfQ I (dd * 1000 + i * 100 + v) 21 = I 21 := (jup_g (by decide)).trans (jup_g (by decide))
  have a23 : pfQ I (dd * 1000 + i * 100 + v) 23 = I 23 := (jup_g (by decide)).trans (jup_g (by decide))
  have a7 : pfQ I (dd * 1000 + i * 100 + v) 4 1 7 = I 4 1 7 := rfl
  generalize pfQ I (dd * 1000 + i * 100 + v) = Q at *
  by_cases h0 : dd = 0
  · rw [if_pos h0]
    have hi0 := hi (Or.inl h0)
    have hk := kps_b (k := I 18 1 i.toNatClampNeg) (w := I 21 1 i.toNatClampNeg) (h21 h0)
    obtain ⟨r, r1, r2, r3, r4, r5, r6⟩ := buy_c (Q := Q) (n := v) hm hi0 (by rw [a18, a21]; exact hk)
    rw [r1]
    refine ⟨_, rfl, main _ ?_ ?_ r4 r5 r6⟩
    · unfold anS
      rw [if_pos h0, ← qv, ← a18]
      exact r2
    · unfold stp
      rw [if_pos h0, ← qv, ← a18, ← a21]
      exact r3
  rw [if_neg h0]
  by_cases h1 : dd = 1
  · rw [if_pos h1]
    obtain ⟨w1, w2⟩ := hw h1
    obtain ⟨r, r1, r2, r3, r4, r5, r6⟩ := week_c (m := m) (I := Q) (by rw [a7]; exact w1) (by rw [a23]; exact w2)
    rw [r1]
    refine ⟨_, rfl, main _ ?_ ?_ r4 r5 r6⟩
    · unfold anS
      rw [if_neg h0, if_pos h1, ← qv, ← a7]
      exact r2
    · unfold stp
      rw [if_neg h0, if_pos h1, ← qv, ← a7]
      exact r3
  rw [if_neg h1]
  by_cases h2 : dd = 2
  · rw [if_pos h2]
    have hi2 := hi (Or.inr (Or.inl h2))
    refine ⟨_, rfl, main _ ?_ ?_ rfl rfl (fun g h j hp => jup_of (fun z => hp ⟨z.2.1, Or.inr (Or.inr (Or.inl z.1))⟩))⟩
    · unfold anS
      rw [if_neg h0, if_neg h1, if_pos h2, vC_g hi2 hm, ← a19]
      exact jup_at
    · unfold stp
      rw [if_neg h0, if_neg h1, if_pos h2, ← qv, vC_g hi2 hm]
      exact vC_19 hi2 hm
  rw [if_neg h2]
  by_cases h3 : dd = 3
  · rw [if_pos h3]
    have hi3 := hi (Or.inr (Or.inr h3))
    refine ⟨_, rfl, main _ ?_ ?_ rfl rfl (fun g h j hp => jup_of (fun z => hp ⟨z.2.1, Or.inr (Or.inr (Or.inr (Or.inl z.1)))⟩))⟩
    · unfold anS
      rw [if_neg h0, if_neg h1, if_neg h2, if_pos h3, vC_p hi3 hm, ← a20]
    · unfold stp
      rw [if_neg h0, if_neg h1, if_neg h2, if_pos h3, ← qv]
      exact vC_20 hi3 hm
  rw [if_neg h3]
  by_cases h4 : v = 1
  · rw [if_pos h4]
    refine ⟨_, rfl, main _ ?_ ?_ rfl rfl (fun g h j hp => jup_of (fun z => hp ⟨z.2.1, Or.inr (Or.inr (Or.inr (Or.inr ⟨z.1, by omega, by omega⟩)))⟩))⟩
    · unfold anS
      rw [if_neg h0, if_neg h1, if_neg h2, if_neg h3]
    · unfold stp
      rw [if_neg h0, if_neg h1, if_neg h2, if_neg h3, if_pos h4, ← qv]
      exact vC_4 (j := 5) (by decide)
  · rw [if_neg h4]
    refine ⟨_, rfl, main _ ?_ ?_ rfl rfl (fun g h j hp => jup_of (fun z => hp ⟨z.2.1, Or.inr (Or.inr (Or.inr (Or.inr ⟨z.1, by omega, by omega⟩)))⟩))⟩
    · unfold anS
      rw [if_neg h0, if_neg h1, if_neg h2, if_neg h3]
    · unfold stp
      rw [if_neg h0, if_neg h1, if_neg h2, if_neg h3, if_neg h4, ← qv]
      exact vC_4 (j := 5) (by decide)
end
section
/-! the reference's deeds -/
theorem lrd_M {m b : Nat} {I : jI} : ∀ j, 0 ≤ j → j < 0 + 10 → lrd (vM m I (b + 1)) j = I 32 0 (b + 7 + j) := fun j _ h => by
  unfold lrd
  rw [vM_k (Or.inl (by omega)), show b + 1 + (6 + j) = b + 7 + j by omega]
theorem wk_v {m b : Nat} {I I' : jI} (h : ∀ j, I' 32 0 j = wkM b I j) : vM m I' (b + 1) = stW (I 31 0 1) (vM m I (b + 1)) := by
  have x1 := eatV_ext 10 (I 31 0 1) (lrd (vM m I (b + 1))) (fun k => I 32 0 (b + 7 + k)) 0 lrd_M
  funext k
  by_cases c : vK m k
  · rw [vM_k c, h]
    unfold wkM stW
    rw [x1.1]
    by_cases c0 : k = 0
    · rw [if_pos (by omega), if_pos c0, vM_k (Or.inl (by decide))]
    rw [if_neg (by omega), if_neg c0]
    by_cases c2 : k = 2
    · rw [if_pos (by omega), if_pos c2, vM_k (Or.inl (by decide))]
    rw [if_neg (by omega), if_neg c2]
    by_cases c3 : k = 3
    · rw [if_pos (by omega), if_pos c3, vM_k (Or.inl (by decide))]
    rw [if_neg (by omega), if_neg c3]
    by_cases c4 : k = 4
    · rw [if_pos (by omega), if_pos c4, vM_k (Or.inl (by decide)), x1.2 0 (by decide) (by decide)]
    rw [if_neg (by omega), if_neg c4]
    by_cases c6 : 6 ≤ k ∧ k < 15
    · rw [if_pos (by omega), if_pos c6, x1.2 (k - 5) (by omega) (by omega), show b + 1 + k - b - 6 = k - 5 by omega]
    rw [if_neg (by omega), if_neg c6]
    by_cases c15 : k = 15
    · rw [if_pos (by omega), if_pos c15]
    rw [if_neg (by omega), if_neg c15, vM_k c]
  · have : ¬ k < 16 := fun z => c (Or.inl z)
    rw [vM_n c]
    unfold stW
    rw [if_neg (by omega), if_neg (by omega), if_neg (by omega), if_neg (by omega), if_neg (by omega), if_neg (by omega), vM_n c]
theorem wk_o {b : Nat} {I : jI} {j : Nat} (h : ¬ (b + 1 ≤ j ∧ j ≤ b + 28)) : wkM b I j = I 32 0 j := by
  unfold wkM
  rw [if_neg (by omega), if_neg (by omega), if_neg (by omega), if_neg (by omega), if_neg (by omega), if_neg (by omega)]
theorem kps_i {k w : Int32} (h : 0 ≤ w.toInt ∧ w.toInt ≤ 9) : 0 ≤ (kpsS k w).toInt ∧ (kpsS k w).toInt ≤ 9 := by
  unfold kpsS d8
  by_cases c : k = 5
  · rw [if_pos c]
    have e : (w / 2).toInt = w.toInt / 2 := by rw [td32 (by decide)]; exact Int.tdiv_eq_ediv_of_nonneg h.1
    omega
  · rw [if_neg c]
    exact h
theorem vK_1 {m : Nat} : vK m 1 := Or.inl (by decide)
theorem vK_l {m q : Nat} (h : q < 10) : vK m (6 + q) := Or.inl (by omega)
theorem vK_g {m i : Nat} (h : i < m) (hm : m ≤ 6) : vK m (16 + i) := Or.inr (Or.inl ⟨by omega, by omega⟩)
theorem vK_p {m i : Nat} (h : i < m) (hm : m ≤ 6) : vK m (22 + i) := Or.inr (Or.inr ⟨by omega, by omega, by omega⟩)
theorem buy_m {m : Nat} {a i n : Int32} (ha : 0 ≤ a.toInt ∧ a.toInt ≤ 4596) {b : Nat} (hb : a.toNatClampNeg = b) {I : jI} (hm : m ≤ 6) (hi0 : 0 ≤ i.toInt) (hi : i.toNatClampNeg < m) (hc : I 32 0 (b + 6) = 0 ∨ I 32 0 (b + 6) = 1) (hk : 0 ≤ (I 34 0 i.toNatClampNeg).toInt ∧ (I 34 0 i.toNatClampNeg).toInt ≤ 9) : (d165 a i n I).1 = kost (I 33 0 i.toNatClampNeg) n (vM m I (b + 1) (22 + i.toNatClampNeg)) (vM m I (b + 1) 5) ∧ vM m (d165 a i n I).2 (b + 1) = stB (I 33 0) (I 34 0) i.toNatClampNeg n (vM m I (b + 1)) ∧ (∀ j, ¬ (b + 1 ≤ j ∧ j ≤ b + 28) → (d165 a i n I).2 32 0 j = I 32 0 j) ∧ ∀ g, ¬ g = 32 → (d165 a i n I).2 g = I g := by
  have ni := cl_t hi0
  have c23 : (23 : Int32).toInt = 23 := rfl
  have c17 : (17 : Int32).toInt = 17 := rfl
  have c7 : (7 : Int32).toInt = 7 := rfl
  have i2 : Int32.toNatClampNeg (a + 2) = b + 2 := by rw [(ixa ha.1 (by omega) (by decide) (by decide)).2, hb]; rfl
  have i6 : Int32.toNatClampNeg (a + 6) = b + 6 := by rw [(ixa ha.1 (by omega) (by decide) (by decide)).2, hb]; rfl
  have e23 := ixa (a := a) (x := 23) ha.1 (by omega) (by decide) (by decide)
  have i23 : Int32.toNatClampNeg ((a + 23) + i) = b + 23 + i.toNatClampNeg := by rw [(ixa (a := a + 23) (by omega) (by omega) hi0 (by omega)).2, e23.2, hb]; rfl
  have e17 := ixa (a := a) (x := 17) ha.1 (by omega) (by decide) (by decide)
  have i17 : Int32.toNatClampNeg ((a + 17) + i) = b + 17 + i.toNatClampNeg := by rw [(ixa (a := a + 17) (by omega) (by omega) hi0 (by omega)).2, e17.2, hb]; rfl
  have e7 := ixa (a := a) (x := 7) ha.1 (by omega) (by decide) (by decide)
  have kb := kps_i (k := I 33 0 i.toNatClampNeg) hk
  have kn := kps_b (k := I 33 0 i.toNatClampNeg) hk
  have i7 : Int32.toNatClampNeg ((a + 7) + kpsS (I 33 0 i.toNatClampNeg) (I 34 0 i.toNatClampNeg)) = b + 7 + (kpsS (I 33 0 i.toNatClampNeg) (I 34 0 i.toNatClampNeg)).toNatClampNeg := by rw [(ixa (a := a + 7) (by omega) (by omega) kb.1 (by omega)).2, e7.2, hb]; rfl
  have hp : vM m I (b + 1) (22 + i.toNatClampNeg) = I 32 0 (b + 23 + i.toNatClampNeg) := by rw [vM_k (vK_p hi hm), show b + 1 + (22 + i.toNatClampNeg) = b + 23 + i.toNatClampNeg by omega]
  have hg : vM m I (b + 1) (16 + i.toNatClampNeg) = I 32 0 (b + 17 + i.toNatClampNeg) := by rw [vM_k (vK_g hi hm), show b + 1 + (16 + i.toNatClampNeg) = b + 17 + i.toNatClampNeg by omega]
  have h5 : vM m I (b + 1) 5 = I 32 0 (b + 6) := by rw [vM_k (Or.inl (by decide))]
  have h1 : vM m I (b + 1) 1 = I 32 0 (b + 2) := by rw [vM_k vK_1]
  have hq : vM m I (b + 1) (6 + (kpsS (I 33 0 i.toNatClampNeg) (I 34 0 i.toNatClampNeg)).toNatClampNeg) = I 32 0 (b + 7 + (kpsS (I 33 0 i.toNatClampNeg) (I 34 0 i.toNatClampNeg)).toNatClampNeg) := by rw [vM_k (vK_l kn), show b + 1 + (6 + (kpsS (I 33 0 i.toNatClampNeg) (I 34 0 i.toNatClampNeg)).toNatClampNeg) = b + 7 + (kpsS (I 33 0 i.toNatClampNeg) (I 34 0 i.toNatClampNeg)).toNatClampNeg by omega]
  have ct : d153 a i n I = kost (I 33 0 i.toNatClampNeg) n (I 32 0 (b + 23 + i.toNatClampNeg)) (I 32 0 (b + 6)) := by
    unfold d153
    rw [i23, i6]
    exact cost_m hc
  generalize hC : kost (I 33 0 i.toNatClampNeg) n (I 32 0 (b + 23 + i.toNatClampNeg)) (I 32 0 (b + 6)) = C at ct
  have e : d165 a i n I = (C, jup (jup I 32 0 (b + 1 + 1) (I 32 0 (b + 2) + C)) 32 0 (b + 1 + (6 + (kpsS (I 33 0 i.toNatClampNeg) (I 34 0 i.toNatClampNeg)).toNatClampNeg)) (I 32 0 (b + 7 + (kpsS (I 33 0 i.toNatClampNeg) (I 34 0 i.toNatClampNeg)).toNatClampNeg) + n * gotS (I 33 0 i.toNatClampNeg) (I 32 0 (b + 17 + i.toNatClampNeg)))) := by
    unfold d165
    have k1 : d156 i (jup I 32 0 (b + 2) (I 32 0 (b + 2) + C)) = kpsS (I 33 0 i.toNatClampNeg) (I 34 0 i.toNatClampNeg) := rfl
    have k2 : d155 a i (jup I 32 0 (b + 2) (I 32 0 (b + 2) + C)) = gotS (I 33 0 i.toNatClampNeg) (I 32 0 (b + 17 + i.toNatClampNeg)) := by
      unfold d155
      rw [i17, got_m, jup_c, if_neg (by omega), jup_g (by decide)]
    rw [i2, ct, k1, i7, k2, jup_c, if_neg (by omega), show b + 1 + (6 + (kpsS (I 33 0 i.toNatClampNeg) (I 34 0 i.toNatClampNeg)).toNatClampNeg) = b + 7 + (kpsS (I 33 0 i.toNatClampNeg) (I 34 0 i.toNatClampNeg)).toNatClampNeg by omega]
  rw [e]
  refine ⟨?_, ?_, fun j hj => ?_, fun g h => (jup_g h).trans (jup_g h)⟩
  · rw [hp, h5]
    exact hC.symm
  · show vM m (jup (jup I 32 0 (b + 1 + 1) (I 32 0 (b + 2) + C)) 32 0 (b + 1 + (6 + (kpsS (I 33 0 i.toNatClampNeg) (I 34 0 i.toNatClampNeg)).toNatClampNeg)) (I 32 0 (b + 7 + (kpsS (I 33 0 i.toNatClampNeg) (I 34 0 i.toNatClampNeg)).toNatClampNeg) + n * gotS (I 33 0 i.toNatClampNeg) (I 32 0 (b + 17 + i.toNatClampNeg)))) (b + 1) = _
    rw [vM_up (vK_l kn), vM_up vK_1]
    unfold stB
    rw [hp, hg, h5, h1, hq, hC]
  · show jup (jup I 32 0 (b + 1 + 1) (I 32 0 (b + 2) + C)) 32 0 (b + 1 + (6 + (kpsS (I 33 0 i.toNatClampNeg) (I 34 0 i.toNatClampNeg)).toNatClampNeg)) (I 32 0 (b + 7 + (kpsS (I 33 0 i.toNatClampNeg) (I 34 0 i.toNatClampNeg)).toNatClampNeg) + n * gotS (I 33 0 i.toNatClampNeg) (I 32 0 (b + 17 + i.toNatClampNeg))) 32 0 j = _
    rw [jup_c, if_neg (by omega), jup_c, if_neg (by omega)]
/-- what a deed leaves in the reference: D deeds before -/
noncomputable def rfF (m D : Nat) (dd i v : Int32) (J J' : jI) : Prop := J' 32 0 0 = J 32 0 0 + 1 ∧ vM m J' 1 = stp (J 33 0) (J 34 0) (J 31 0 1) dd i v (vM m J 1) ∧ vM m J' (29 + 28 * D) = vM m J 1 ∧ (∀ j, 29 ≤ j → ¬ (29 + 28 * D ≤ j ∧ j < 57 + 28 * D) → J' 32 0 j = J 32 0 j) ∧ ∀ g, ¬ g = 32 → J' g = J g
theorem kp_1 {m D : Nat} {J K : jI} (h : ∀ j, K 32 0 j = kpM D J j) : vM m K 1 = vM m J 1 := vM_ext (fun k hk => by
  rw [h]
  unfold kpM
  rw [if_neg (by omega), if_neg (by omega)])
theorem rf_of {m D : Nat} {dd i v : Int32} {J K J' : jI} (h : ∀ j, K 32 0 j = kpM D J j) (g : ∀ g, ¬ g = 32 → K g = J g) (s : vM m J' 1 = stp (J 33 0) (J 34 0) (J 31 0 1) dd i v (vM m K 1)) (o : ∀ j, ¬ (1 ≤ j ∧ j ≤ 28) → J' 32 0 j = K 32 0 j) (g' : ∀ g, ¬ g = 32 → J' g = K g) : rfF m D dd i v J J' := by
  refine ⟨?_, ?_, ?_, fun j a b => ?_, fun x hx => (g' x hx).trans (g x hx)⟩
  · rw [o 0 (by decide), h]
    rfl
  · rw [s, kp_1 h]
  · refine vM_ext (fun k hk => ?_)
    rw [o _ (by omega), h]
    unfold kpM
    rw [if_neg (by omega), if_pos (by omega), show 29 + 28 * D + k - (28 + 28 * D) = 1 + k by omega]
  · rw [o j (by omega), h]
    unfold kpM
    rw [if_neg (by omega), if_neg b]
end
section
/-! the relation of houses, logs, kept ones: the class's cells in I, the reference's in J -/
noncomputable def c6 (f : Nat → Int32) : Nat → Int32 := fun i => if i < 6 then f i else 0
theorem c6_ext {f g : Nat → Int32} (h : ∀ i, i < 6 → f i = g i) : c6 f = c6 g := by
  funext i
  unfold c6
  by_cases c : i < 6
  · rw [if_pos c, if_pos c, h i c]
  · rw [if_neg c, if_neg c]
theorem c6_at {f : Nat → Int32} {i : Nat} (h : i < 6) : c6 f i = f i := if_pos h
noncomputable def hsK0 (I : jI) (h : Nat) : Prop := (∀ j, 6 ≤ j → j ≤ 8 → I 4 h j = I 4 0 j) ∧ ∀ i, i < 6 → I 18 h i = I 18 0 i ∧ I 21 h i = I 21 0 i
noncomputable def xdd (x : Int32) : Int32 := x / 1000
noncomputable def xii (x : Int32) : Int32 := x / 100 - x / 100 / 10 * 10
noncomputable def xvv (x : Int32) : Int32 := x - x / 100 * 100
noncomputable def rep (kd kp : Nat → Int32) (nd : Int32) (lg : Nat → Int32) (s : Nat → Int32) : Nat → (Nat → Int32)
  | 0 => s
  | d + 1 => stp kd kp nd (xdd (lg d)) (xii (lg d)) (xvv (lg d)) (rep kd kp nd lg s d)
noncomputable def rp (m : Nat) (I : jI) (h d : Nat) : Nat → Int32 := rep (c6 (I 18 0)) (c6 (I 21 0)) (I 4 0 7) (I 22 h) (vC m I 0) d
noncomputable def okx (m : Nat) (x : Int32) : Prop := lgOK x ∧ (xdd x = 0 ∨ xdd x = 2 ∨ xdd x = 3 → (xii x).toNatClampNeg < m)
noncomputable def lOK (m d : Nat) (s : Nat → Int32) : Prop := (∀ k, k < 10 → 0 ≤ (s (6 + k)).toInt) ∧ smI 10 (lrd s) 0 ≤ 99 ∧ (∀ i, i < m → (1 ≤ (s (16 + i)).toInt ∧ (s (16 + i)).toInt ≤ 9) ∧ 0 ≤ (s (22 + i)).toInt ∧ (s (22 + i)).toInt ≤ 99) ∧ 0 ≤ (s 3).toInt ∧ (s 3).toInt ≤ 9 * (d : Int)
noncomputable def dN (I : jI) (h : Nat) : Nat := (I 4 h 15).toNatClampNeg
noncomputable def mP (I : jI) : Nat := (I 4 0 6).toNatClampNeg
noncomputable def hst (m : Nat) (I J : jI) (h b : Nat) : Prop := hsK0 I h ∧ J 32 0 b = I 4 h 15 ∧ (∀ d, d < dN I h → okx m (I 22 h d)) ∧ (∀ d, d ≤ dN I h → lOK m d (rp m I h d)) ∧ (∀ d, d < dN I h → vM m J (b + 29 + 28 * d) = rp m I h d) ∧ vM m J (b + 1) = rp m I h (dN I h) ∧ vC m I h = rp m I h (dN I h)
noncomputable def okK0 (I : jI) : Prop := ((1 ≤ (I 4 0 7).toInt ∧ (I 4 0 7).toInt ≤ 9) ∧ (0 ≤ (I 4 0 8).toInt ∧ (I 4 0 8).toInt ≤ 99)) ∧ ∀ i : Nat, i < mP I → (0 ≤ (I 18 0 i).toInt ∧ (I 18 0 i).toInt ≤ 5) ∧ (1 ≤ (I 21 0 i).toInt ∧ (I 21 0 i).toInt ≤ 9)
noncomputable def RD2 (I J : jI) : Prop := ((∀ j, 9 ≤ j → j < 15 → I 4 5 j = 0) ∧ ∀ j, j < 10 → I 23 5 j = 0) ∧ (J 31 0 3 = I 4 0 6 ∧ J 31 0 1 = I 4 0 7 ∧ J 31 0 2 = I 4 0 8) ∧ (∀ i, i < mP I → J 33 0 i = I 18 0 i ∧ J 34 0 i = I 21 0 i) ∧ (0 < mP I → okK0 I) ∧ (0 ≤ (I 4 0 7).toInt ∧ (I 4 0 7).toInt ≤ 9) ∧ hst (mP I) I J 1 0 ∧ ∀ k, k < 3 → (I 6 0 k = 0 → J 32 0 (1149 * (k + 1)) = -1) ∧ (¬ I 6 0 k = 0 → hst (mP I) I J (2 + k) (1149 * (k + 1)))
theorem rep_log {kd kp : Nat → Int32} {nd : Int32} {lg lg' : Nat → Int32} {s : Nat → Int32} : ∀ {d : Nat}, (∀ e, e < d → lg e = lg' e) → rep kd kp nd lg s d = rep kd kp nd lg' s d
  | 0, _ => rfl
  | d + 1, h => by
    show stp kd kp nd (xdd (lg d)) (xii (lg d)) (xvv (lg d)) (rep kd kp nd lg s d) = stp kd kp nd (xdd (lg' d)) (xii (lg' d)) (xvv (lg' d)) (rep kd kp nd lg' s d)
    rw [h d (by omega), rep_log (fun e he => h e (by omega))]
theorem mP_6 {I : jI} (hG : gG aGI I) : mP I ≤ 6 ∧ (mP I : Int) = (I 4 0 6).toInt := by
  have := hG (4, (0, 5), (6, 6), (0, 6)) (by decide) 0 6 (by decide) (by decide) (by decide) (by decide)
  have h1 : 0 ≤ (I 4 0 6).toInt := this.1
  have h2 : (I 4 0 6).toInt ≤ 6 := this.2
  have e := cl_t h1
  unfold mP
  exact ⟨by omega, e⟩
theorem dN_40 {I : jI} (hG : gG aGI I) {h : Nat} (hh : h ≤ 5) : dN I h ≤ 40 ∧ (dN I h : Int) = (I 4 h 15).toInt := by
  have := gi_deeds hG hh
  have e := cl_t this.1
  unfold dN
  exact ⟨by omega, e⟩
theorem rp_cells {m : Nat} {I I' : jI} {h h' d : Nat} (hm : m ≤ 6) (e4 : ∀ j, 7 ≤ j → j < 15 → I' 4 0 j = I 4 0 j) (e18 : ∀ i, i < 6 → I' 18 0 i = I 18 0 i) (e21 : ∀ i, i < 6 → I' 21 0 i = I 21 0 i) (e23 : ∀ j, j < 10 → I' 23 0 j = I 23 0 j) (e19 : ∀ j, j < 6 → I' 19 0 j = I 19 0 j) (e20 : ∀ j, j < 6 → I' 20 0 j = I 20 0 j) (e22 : ∀ e, e < d → I' 22 h' e = I 22 h e) : rp m I' h' d = rp m I h d := by
  unfold rp
  rw [c6_ext e18, c6_ext e21, e4 7 (by decide) (by decide), vC_ext hm (fun j a b => e4 j (by omega) b) e23 e19 e20]
  exact rep_log e22
theorem hst_cells {m : Nat} {I I' J J' : jI} {h h' b b' : Nat} (hm : m ≤ 6) (hD : dN I h ≤ 40) (q : hst m I J h b) (s4 : ∀ j, 6 ≤ j → j < 15 → I' 4 0 j = I 4 0 j) (s18 : ∀ i, i < 6 → I' 18 0 i = I 18 0 i) (s21 : ∀ i, i < 6 → I' 21 0 i = I 21 0 i) (s23 : ∀ j, j < 10 → I' 23 0 j = I 23 0 j) (s19 : ∀ j, j < 6 → I' 19 0 j = I 19 0 j) (s20 : ∀ j, j < 6 → I' 20 0 j = I 20 0 j) (e4 : ∀ j, 6 ≤ j → j ≤ 15 → I' 4 h' j = I 4 h j) (e18 : ∀ i, i < 6 → I' 18 h' i = I 18 h i) (e21 : ∀ i, i < 6 → I' 21 h' i = I 21 h i) (e23 : ∀ j, j < 10 → I' 23 h' j = I 23 h j) (e19 : ∀ j, j < 6 → I' 19 h' j = I 19 h j) (e20 : ∀ j, j < 6 → I' 20 h' j = I 20 h j) (e22 : ∀ e, e < 40 → I' 22 h' e = I 22 h e) (f : ∀ j, j < 1149 → J' 32 0 (b' + j) = J 32 0 (b + j)) : hst m I' J' h' b' := by
  obtain ⟨⟨q1, q2⟩, q3, q4, q5, q6, q7, q8⟩ := q
  have eD : dN I' h' = dN I h := by unfold dN; rw [e4 15 (by decide) (by decide)]
  have er : ∀ d, d ≤ dN I h → rp m I' h' d = rp m I h d := fun d hd => rp_cells hm (fun j a b => s4 j (by omega) b) s18 s21 s23 s19 s20 (fun e he => e22 e (by omega))
  refine ⟨⟨fun j a b => ?_, fun i hi => ⟨?_, ?_⟩⟩, ?_, fun d hd => ?_, fun d hd => ?_, fun d hd => ?_, ?_, ?_⟩
  · rw [e4 j a (by omega), s4 j a (by omega)]; exact q1 j a b
  · rw [e18 i hi, s18 i hi]; exact (q2 i hi).1
  · rw [e21 i hi, s21 i hi]; exact (q2 i hi).2
  · rw [e4 15 (by decide) (by decide), ← q3]; exact f 0 (by decide)
  · rw [eD] at hd; rw [e22 d (by omega)]; exact q4 d hd
  · rw [eD] at hd; rw [er d hd]; exact q5 d hd
  · rw [eD] at hd
    rw [er d (by omega), ← q6 d hd]
    exact vM_ext (fun k hk => by rw [show b' + 29 + 28 * d + k = b' + (29 + 28 * d + k) by omega, f _ (by omega), show b + 29 + 28 * d + k = b + (29 + 28 * d + k) by omega])
  · rw [eD, er _ (Nat.le_refl _), ← q7]
    exact vM_ext (fun k hk => by rw [show b' + 1 + k = b' + (1 + k) by omega, f _ (by omega), show b + 1 + k = b + (1 + k) by omega])
  · rw [eD, er _ (Nat.le_refl _), ← q8]
    exact vC_ext hm (fun j a b => e4 j (by omega) (by omega)) e23 e19 e20
/-- the cells that it reads -/
noncomputable def rdC : List aR := [(4, (0, 4), (6, 15)), (4, (5, 5), (9, 15)), (6, (0, 0), (0, 2)), (18, (0, 4), (0, 5)), (19, (0, 4), (0, 5)), (20, (0, 4), (0, 5)), (21, (0, 4), (0, 5)), (22, (1, 4), (0, 39)), (23, (0, 5), (0, 9))]
noncomputable def rdM : List aR := [(31, (0, 0), (1, 3)), (32, (0, 0), (0, 4595)), (33, (0, 0), (0, 5)), (34, (0, 0), (0, 5))]
theorem RD_cells {I I' J J' : jI} (hG : gG aGI I) (q : RD2 I J) (e : ∀ g i j, gI rdC g i j → I' g i j = I g i j) (f : ∀ g i j, gI rdM g i j → J' g i j = J g i j) : RD2 I' J' := by
  have hm := (mP_6 hG).1
  have e4 : ∀ x j, x ≤ 4 → 6 ≤ j → j ≤ 15 → I' 4 x j = I 4 x j := fun x j a b c => e 4 x j ⟨(4, (0, 4), (6, 15)), by decide, rfl, by simp, by simp; omega, by simp; omega, by simp; omega⟩
  have e45 : ∀ j, 9 ≤ j → j ≤ 15 → I' 4 5 j = I 4 5 j := fun j b c => e 4 5 j ⟨(4, (5, 5), (9, 15)), by decide, rfl, by simp, by simp, by simp; omega, by simp; omega⟩
  have e6 : ∀ j, j < 3 → I' 6 0 j = I 6 0 j := fun j c => e 6 0 j ⟨(6, (0, 0), (0, 2)), by decide, rfl, by simp, by simp, by simp, by simp; omega⟩
  have e18 : ∀ x j, x ≤ 4 → j < 6 → I' 18 x j = I 18 x j := fun x j a c => e 18 x j ⟨(18, (0, 4), (0, 5)), by decide, rfl, by simp, by simp; omega, by simp, by simp; omega⟩
  have e19 : ∀ x j, x ≤ 4 → j < 6 → I' 19 x j = I 19 x j := fun x j a c => e 19 x j ⟨(19, (0, 4), (0, 5)), by decide, rfl, by simp, by simp; omega, by simp, by simp; omega⟩
  have e20 : ∀ x j, x ≤ 4 → j < 6 → I' 20 x j = I 20 x j := fun x j a c => e 20 x j ⟨(20, (0, 4), (0, 5)), by decide, rfl, by simp, by simp; omega, by simp, by simp; omega⟩
  have e21 : ∀ x j, x ≤ 4 → j < 6 → I' 21 x j = I 21 x j := fun x j a c => e 21 x j ⟨(21, (0, 4), (0, 5)), by decide, rfl, by simp, by simp; omega, by simp, by simp; omega⟩
  have e22 : ∀ x j, 1 ≤ x → x ≤ 4 → j < 40 → I' 22 x j = I 22 x j := fun x j a b c => e 22 x j ⟨(22, (1, 4), (0, 39)), by decide, rfl, by simp; omega, by simp; omega, by simp, by simp; omega⟩
  have e23 : ∀ x j, x ≤ 5 → j < 10 → I' 23 x j = I 23 x j := fun x j a c => e 23 x j ⟨(23, (0, 5), (0, 9)), by decide, rfl, by simp, by simp; omega, by simp, by simp; omega⟩
  have f31 : ∀ j, 1 ≤ j → j ≤ 3 → J' 31 0 j = J 31 0 j := fun j b c => f 31 0 j ⟨(31, (0, 0), (1, 3)), by decide, rfl, by simp, by simp, by simp; omega, by simp; omega⟩
  have f32 : ∀ j, j ≤ 4595 → J' 32 0 j = J 32 0 j := fun j c => f 32 0 j ⟨(32, (0, 0), (0, 4595)), by decide, rfl, by simp, by simp, by simp, by simp; omega⟩
  have f33 : ∀ j, j < 6 → J' 33 0 j = J 33 0 j := fun j c => f 33 0 j ⟨(33, (0, 0), (0, 5)), by decide, rfl, by simp, by simp, by simp, by simp; omega⟩
  have f34 : ∀ j, j < 6 → J' 34 0 j = J 34 0 j := fun j c => f 34 0 j ⟨(34, (0, 0), (0, 5)), by decide, rfl, by simp, by simp, by simp, by simp; omega⟩
  have eP : mP I' = mP I := by unfold mP; rw [e4 0 6 (by decide) (by decide) (by decide)]
  have key : ∀ x b, 1 ≤ x → x ≤ 4 → b + 1148 ≤ 4595 → hst (mP I) I J x b → hst (mP I) I' J' x b := fun x b x1 x4 hb q => hst_cells hm (dN_40 hG (by omega)).1 q (fun j a c => e4 0 j (by decide) a (by omega)) (fun i h => e18 0 i (by decide) h) (fun i h => e21 0 i (by decide) h) (fun i h => e23 0 i (by decide) h) (fun i h => e19 0 i (by decide) h) (fun i h => e20 0 i (by decide) h) (fun j a c => e4 x j x4 a c) (fun i h => e18 x i x4 h) (fun i h => e21 x i x4 h) (fun i h => e23 x i (by omega) h) (fun i h => e19 x i x4 h) (fun i h => e20 x i x4 h) (fun i h => e22 x i x1 x4 h) (fun j h => f32 _ (by omega))
  obtain ⟨⟨q1, q2⟩, ⟨q3, q4, q5⟩, q6, q7, q8, q9, q10⟩ := q
  refine ⟨⟨fun j a b => ?_, fun j a => ?_⟩, ⟨?_, ?_, ?_⟩, fun i hi => ⟨?_, ?_⟩, fun hz => ?_, ?_, ?_, fun k hk => ⟨fun z => ?_, fun z => ?_⟩⟩
  · rw [e45 j a (by omega)]; exact q1 j a b
  · rw [e23 5 j (by decide) a]; exact q2 j a
  · rw [f31 3 (by decide) (by decide), e4 0 6 (by decide) (by decide) (by decide)]; exact q3
  · rw [f31 1 (by decide) (by decide), e4 0 7 (by decide) (by decide) (by decide)]; exact q4
  · rw [f31 2 (by decide) (by decide), e4 0 8 (by decide) (by decide) (by decide)]; exact q5
  · rw [eP] at hi; rw [f33 i (by omega), e18 0 i (by decide) (by omega)]; exact (q6 i hi).1
  · rw [eP] at hi; rw [f34 i (by omega), e21 0 i (by decide) (by omega)]; exact (q6 i hi).2
  · rw [eP] at hz
    obtain ⟨z1, z2⟩ := q7 hz
    refine ⟨by rw [e4 0 7 (by decide) (by decide) (by decide), e4 0 8 (by decide) (by decide) (by decide)]; exact z1, fun i hi => ?_⟩
    rw [eP] at hi
    rw [e18 0 i (by decide) (by omega), e21 0 i (by decide) (by omega)]
    exact z2 i hi
  · rw [e4 0 7 (by decide) (by decide) (by decide)]; exact q8
  · rw [eP]; exact key 1 0 (by decide) (by decide) (by decide) q9
  · rw [e6 k hk] at z; rw [f32 _ (by omega)]; exact (q10 k hk).1 z
  · rw [e6 k hk] at z; rw [eP]; exact key (2 + k) _ (by omega) (by omega) (by omega) ((q10 k hk).2 z)
theorem RD_gR {W : List aR} {I I' : jI} {L L' : jL} (hw : rApart W (rdC ++ rdM) = true) (hG : gG aGI I) (q : RD2 I I) (h : gR W I L I' L') : RD2 I' I' := by
  have key : ∀ g i j, gI (rdC ++ rdM) g i j → I' g i j = I g i j := fun g i j z => (h g i j (rApart_of hw z)).1
  exact RD_cells hG q (fun g i j ⟨r, hr, z⟩ => key g i j ⟨r, List.mem_append_left _ hr, z⟩) (fun g i j ⟨r, hr, z⟩ => key g i j ⟨r, List.mem_append_right _ hr, z⟩)
end
section
/-! a deed keeps the relation -/
theorem stp_ext {kd kd' kp kp' : Nat → Int32} {nd dd i v : Int32} {s : Nat → Int32} (h : dd = 0 → kd i.toNatClampNeg = kd' i.toNatClampNeg ∧ kp i.toNatClampNeg = kp' i.toNatClampNeg) : stp kd kp nd dd i v s = stp kd' kp' nd dd i v s := by
  unfold stp
  by_cases c : dd = 0
  · rw [if_pos c, if_pos c]
    unfold stB
    rw [(h c).1, (h c).2]
  · rw [if_neg c, if_neg c]
theorem lOK_of {m d : Nat} {s t : Nat → Int32} (q : lOK m d t) (h : ∀ k, k < 10 → s (6 + k) = t (6 + k)) (h3 : s 3 = t 3) (hg : ∀ i, i < m → (1 ≤ (s (16 + i)).toInt ∧ (s (16 + i)).toInt ≤ 9) ∧ 0 ≤ (s (22 + i)).toInt ∧ (s (22 + i)).toInt ≤ 99) : lOK m (d + 1) s := by
  refine ⟨fun k hk => by rw [h k hk]; exact q.1 k hk, ?_, hg, ?_⟩
  · refine Int.le_trans (smI_le 10 (lrd s) (lrd t) 0 (fun j _ b => ?_)) q.2.1
    show (s (6 + j)).toInt ≤ (t (6 + j)).toInt
    rw [h j (by omega)]
    exact Int.le_refl _
  · have := q.2.2.2
    rw [h3]
    omega
theorem stW_l {nd : Int32} {s : Nat → Int32} {k : Nat} (hk : k < 10) : stW nd s (6 + k) = if k < 9 then (eatV 10 nd (lrd s) 0).2 (k + 1) else 0 := by
  unfold stW
  rw [if_neg (by omega), if_neg (by omega), if_neg (by omega), if_neg (by omega)]
  by_cases c : k < 9
  · rw [if_pos c, if_pos (by omega), show 6 + k - 5 = k + 1 by omega]
  · rw [if_neg c, if_neg (by omega), if_pos (by omega)]
theorem smI_10 {f : Nat → Int32} : smI 10 f 0 = (f 0).toInt + ((f 1).toInt + ((f 2).toInt + ((f 3).toInt + ((f 4).toInt + ((f 5).toInt + ((f 6).toInt + ((f 7).toInt + ((f 8).toInt + ((f 9).toInt + 0))))))))) := rfl
theorem stW_o {nd : Int32} {s : Nat → Int32} {k : Nat} (hk : 16 ≤ k) : stW nd s k = s k := by
  unfold stW
  rw [if_neg (by omega), if_neg (by omega), if_neg (by omega), if_neg (by omega), if_neg (by omega), if_neg (by omega)]
theorem lOK_W {m d : Nat} {nd : Int32} {s : Nat → Int32} (hd : d ≤ 100) (hn : 0 ≤ nd.toInt ∧ nd.toInt ≤ 9) (q : lOK m d s) : lOK m (d + 1) (stW nd s) := by
  obtain ⟨e1, e⟩ := eatV_le 10 nd (lrd s) 0 hn.1 (fun j _ b => q.1 j (by omega))
  refine ⟨fun k hk => ?_, ?_, fun i hi => ?_, ?_⟩
  · rw [stW_l hk]
    by_cases c : k < 9
    · rw [if_pos c]; exact (e (k + 1) (by omega) (by omega)).1
    · rw [if_neg c]; decide
  · have g : ∀ k, k < 9 → (lrd (stW nd s) k).toInt ≤ (lrd s (k + 1)).toInt := fun k hk => by
      show (stW nd s (6 + k)).toInt ≤ _
      rw [stW_l (by omega), if_pos hk]
      exact (e (k + 1) (by omega) (by omega)).2
    have g9 : (lrd (stW nd s) 9).toInt = 0 := by
      show (stW nd s (6 + 9)).toInt = 0
      rw [stW_l (by decide), if_neg (by decide)]
      rfl
    have h0 : 0 ≤ (lrd s 0).toInt := q.1 0 (by decide)
    have hs := q.2.1
    rw [smI_10] at hs ⊢
    have g0 := g 0 (by decide)
    have g1 := g 1 (by decide)
    have g2 := g 2 (by decide)
    have g3 := g 3 (by decide)
    have g4 := g 4 (by decide)
    have g5 := g 5 (by decide)
    have g6 := g 6 (by decide)
    have g7 := g 7 (by decide)
    have g8 := g 8 (by decide)
    dsimp only [Nat.reduceAdd] at g0 g1 g2 g3 g4 g5 g6 g7 g8
    omega
  · rw [stW_o (by omega), stW_o (by omega)]
    exact q.2.2.1 i hi
  · have h3 : stW nd s 3 = s 3 + (eatV 10 nd (lrd s) 0).1 := rfl
    have := q.2.2.2
    rw [h3, i32_add (by omega)]
    omega
theorem lOK_B {m d : Nat} {kd kp : Nat → Int32} {i : Nat} {n : Int32} {s : Nat → Int32} (q : lOK m d s) (hk : (kpsS (kd i) (kp i)).toNatClampNeg < 10) (hn : 0 ≤ (n * gotS (kd i) (s (16 + i))).toInt) (hr : smI 10 (lrd s) 0 + (n * gotS (kd i) (s (16 + i))).toInt ≤ 99) : lOK m (d + 1) (stB kd kp i n s) := by
  generalize hq : (kpsS (kd i) (kp i)).toNatClampNeg = p at hk
  generalize hx : n * gotS (kd i) (s (16 + i)) = x at hn hr
  have mem : (s (6 + p)).toInt ≤ smI 10 (lrd s) 0 := smI_mem 10 (lrd s) 0 p (by omega) (by omega) (fun j _ b => q.1 j (by omega))
  have ge := q.1 p hk
  have ex : (s (6 + p) + x).toInt = (s (6 + p)).toInt + x.toInt := i32_add (by omega)
  have at_ : ∀ k, stB kd kp i n s (6 + k) = if k = p then s (6 + p) + x else s (6 + k) := fun k => by
    unfold stB
    rw [hq, hx]
    unfold upS
    by_cases c : k = p
    · rw [if_pos (by omega), if_pos c]
    · rw [if_neg (by omega), if_neg (by omega), if_neg c]
  have ot : ∀ k, (16 ≤ k ∨ k = 3) → stB kd kp i n s k = s k := fun k hk => by
    unfold stB
    rw [hq]
    unfold upS
    rw [if_neg (by omega), if_neg (by omega)]
  refine ⟨fun k hk => ?_, ?_, fun i hi => ?_, ?_⟩
  · rw [at_]
    by_cases c : k = p
    · rw [if_pos c]; omega
    · rw [if_neg c]; exact q.1 k hk
  · rw [smI_one 10 (lrd (stB kd kp i n s)) (lrd s) 0 p x.toInt (by omega) (by omega) (fun j _ _ c => by show stB kd kp i n s (6 + j) = s (6 + j); rw [at_, if_neg c]) (by show (stB kd kp i n s (6 + p)).toInt = _; rw [at_, if_pos rfl, ex]; rfl)]
    exact hr
  · rw [ot _ (by omega), ot _ (by omega)]
    exact q.2.2.1 i hi
  · have := q.2.2.2
    rw [ot 3 (Or.inr rfl)]
    omega
theorem lOK_S {m d i : Nat} {s : Nat → Int32} (q : lOK m d s) (hm : m ≤ 6) (hi : i < m) (h : 2 ≤ (s (16 + i)).toInt) : lOK m (d + 1) (upS s (16 + i) (s (16 + i) - 1)) := by
  have c1 : (1 : Int32).toInt = 1 := rfl
  have qi := q.2.2.1 i hi
  refine lOK_of q (fun k hk => upS_ne (by omega)) (upS_ne (by omega)) (fun j hj => ?_)
  have qj := q.2.2.1 j hj
  rw [upS_ne (show ¬ 22 + j = 16 + i by omega)]
  by_cases c : j = i
  · subst c
    rw [upS_at, i32_sub (by omega), c1]
    omega
  · rw [upS_ne (by omega)]
    exact qj
theorem lOK_P {m d i : Nat} {v : Int32} {s : Nat → Int32} (q : lOK m d s) (hm : m ≤ 6) (hi : i < m) (h : 0 ≤ v.toInt ∧ v.toInt ≤ 99) : lOK m (d + 1) (upS s (22 + i) v) := by
  refine lOK_of q (fun k hk => upS_ne (by omega)) (upS_ne (by omega)) (fun j hj => ?_)
  have qj := q.2.2.1 j hj
  rw [upS_ne (show ¬ 16 + j = 22 + i by omega)]
  by_cases c : j = i
  · subst c
    rw [upS_at]
    exact ⟨qj.1, h⟩
  · rw [upS_ne (by omega)]
    exact qj
theorem lOK_C {m d : Nat} {v : Int32} {s : Nat → Int32} (q : lOK m d s) : lOK m (d + 1) (upS s 5 v) := lOK_of q (fun k hk => upS_ne (by omega)) (upS_ne (by decide)) (fun j hj => by
  rw [upS_ne (by omega), upS_ne (by omega)]
  exact q.2.2.1 j hj)
theorem x_of {dd i v : Int32} (hd0 : 0 ≤ dd.toInt) (hd4 : dd.toInt ≤ 4) (hi0 : 0 ≤ i.toInt) (hi5 : i.toInt ≤ 5) (hv0 : 0 ≤ v.toInt) (hv : v.toInt ≤ 99) : lgOK (dd * 1000 + i * 100 + v) ∧ xdd (dd * 1000 + i * 100 + v) = dd ∧ xii (dd * 1000 + i * 100 + v) = i ∧ xvv (dd * 1000 + i * 100 + v) = v := by
  have t := code_t hd0 hd4 hi0 hi5 hv0 hv
  have k := (code_ok hd0 hd4 hi0 hi5 hv0 hv).1
  obtain ⟨p1, p2, p3⟩ := lg_parts k
  refine ⟨k, eq_t.mpr ?_, eq_t.mpr ?_, eq_t.mpr ?_⟩
  · show (xdd _).toInt = _
    unfold xdd
    rw [p1, t]; omega
  · unfold xii
    rw [p2, t]; omega
  · unfold xvv
    rw [p3, t]; omega
theorem RD_deed {I I' J J' : jI} {dd i v : Int32} (hG : gG aGI I) (q : RD2 I J) (hD : (I 4 1 15).toInt ≤ 39) (hd0 : 0 ≤ dd.toInt) (hd4 : dd.toInt ≤ 4) (hi0 : 0 ≤ i.toInt) (hi5 : i.toInt ≤ 5) (hv0 : 0 ≤ v.toInt) (hv : v.toInt ≤ 99) (hi : dd = 0 ∨ dd = 2 ∨ dd = 3 → i.toNatClampNeg < mP I) (hl : lOK (mP I) (dN I 1 + 1) (stp (c6 (I 18 0)) (c6 (I 21 0)) (I 4 0 7) dd i v (vC (mP I) I 1))) (c : pfF (mP I) dd i v I I') (r : rfF (mP I) (dN I 1) dd i v J J') : RD2 I' J' := by
  have hm := (mP_6 hG).1
  obtain ⟨x1, x2, x3, x4⟩ := x_of hd0 hd4 hi0 hi5 hv0 hv
  obtain ⟨c1, c2, c3, c4⟩ := c
  have c3 : ∀ e, I' 22 1 e = if e = dN I 1 then dd * 1000 + i * 100 + v else I 22 1 e := c3
  obtain ⟨r1, r2, r3, r4, r5⟩ := r
  obtain ⟨⟨q1, q2⟩, ⟨q3, q4, q5⟩, q6, q7, q8, ⟨⟨h1, h2⟩, h3, h4, h5, h6, h7, h8⟩, q10⟩ := q
  have o : ∀ g x j, ¬ x = 1 → I' g x j = I g x j := fun g x j a => c4 g x j (fun z => a z.1)
  have o1 : ∀ j, 6 ≤ j → j ≤ 8 → I' 4 1 j = I 4 1 j := fun j a b => c4 4 1 j (fun z => by have := z.2; omega)
  have o18 : ∀ j, I' 18 1 j = I 18 1 j := fun j => c4 18 1 j (fun z => by have := z.2; omega)
  have o21 : ∀ j, I' 21 1 j = I 21 1 j := fun j => c4 21 1 j (fun z => by have := z.2; omega)
  have eP : mP I' = mP I := by unfold mP; rw [o 4 0 6 (by decide)]
  obtain ⟨d40, dI⟩ := dN_40 hG (h := 1) (by decide)
  have cc1 : (1 : Int32).toInt = 1 := rfl
  have t15 : (I' 4 1 15).toInt = (I 4 1 15).toInt + 1 := by rw [c2, i32_add (by omega), cc1]
  have eD : dN I' 1 = dN I 1 + 1 := by
    have := cl_t (x := I' 4 1 15) (by omega)
    unfold dN at dI ⊢
    omega
  have er : ∀ d, d ≤ dN I 1 → rp (mP I) I' 1 d = rp (mP I) I 1 d := fun d hd => rp_cells hm (fun j _ _ => o 4 0 j (by decide)) (fun i _ => o 18 0 i (by decide)) (fun i _ => o 21 0 i (by decide)) (fun i _ => o 23 0 i (by decide)) (fun i _ => o 19 0 i (by decide)) (fun i _ => o 20 0 i (by decide)) (fun e he => by rw [c3, if_neg (show ¬ e = dN I 1 by omega)])
  have e7 : I 4 1 7 = I 4 0 7 := h1 7 (by decide) (by decide)
  have s1 : stp (I 18 1) (I 21 1) (I 4 1 7) dd i v (vC (mP I) I 1) = stp (c6 (I 18 0)) (c6 (I 21 0)) (I 4 0 7) dd i v (vC (mP I) I 1) := by
    rw [e7]
    refine stp_ext (fun z => ?_)
    have hi6 : i.toNatClampNeg < 6 := by have := hi (Or.inl z); omega
    rw [c6_at hi6, c6_at hi6]
    exact h2 _ hi6
  have s2 : stp (J 33 0) (J 34 0) (J 31 0 1) dd i v (vM (mP I) J 1) = stp (c6 (I 18 0)) (c6 (I 21 0)) (I 4 0 7) dd i v (vM (mP I) J 1) := by
    rw [q4]
    refine stp_ext (fun z => ?_)
    have hi6 := hi (Or.inl z)
    rw [c6_at (by omega), c6_at (by omega)]
    exact q6 _ hi6
  have nw : rp (mP I) I' 1 (dN I 1 + 1) = stp (c6 (I 18 0)) (c6 (I 21 0)) (I 4 0 7) dd i v (vC (mP I) I 1) := by
    show stp (c6 (I' 18 0)) (c6 (I' 21 0)) (I' 4 0 7) (xdd (I' 22 1 (dN I 1))) (xii (I' 22 1 (dN I 1))) (xvv (I' 22 1 (dN I 1))) (rp (mP I) I' 1 (dN I 1)) = _
    rw [er _ (Nat.le_refl _), ← h8, c3, if_pos rfl, x2, x3, x4, o 4 0 7 (by decide), c6_ext (fun i _ => o 18 0 i (by decide)), c6_ext (fun i _ => o 21 0 i (by decide))]
  have h7' : vM (mP I) J 1 = rp (mP I) I 1 (dN I 1) := h7
  refine ⟨⟨fun j a b => ?_, fun j a => ?_⟩, ⟨?_, ?_, ?_⟩, fun i hi => ⟨?_, ?_⟩, fun hz => ?_, ?_, ?_, fun k hk => ⟨fun z => ?_, fun z => ?_⟩⟩
  · rw [o 4 5 j (by decide)]; exact q1 j a b
  · rw [o 23 5 j (by decide)]; exact q2 j a
  · rw [r5 31 (by decide), o 4 0 6 (by decide)]; exact q3
  · rw [r5 31 (by decide), o 4 0 7 (by decide)]; exact q4
  · rw [r5 31 (by decide), o 4 0 8 (by decide)]; exact q5
  · rw [eP] at hi; rw [r5 33 (by decide), o 18 0 i (by decide)]; exact (q6 i hi).1
  · rw [eP] at hi; rw [r5 34 (by decide), o 21 0 i (by decide)]; exact (q6 i hi).2
  · rw [eP] at hz
    obtain ⟨z1, z2⟩ := q7 hz
    refine ⟨by rw [o 4 0 7 (by decide), o 4 0 8 (by decide)]; exact z1, fun i hi => ?_⟩
    rw [eP] at hi
    rw [o 18 0 i (by decide), o 21 0 i (by decide)]
    exact z2 i hi
  · rw [o 4 0 7 (by decide)]; exact q8
  · rw [eP]
    refine ⟨⟨fun j a b => ?_, fun i hi => ⟨?_, ?_⟩⟩, ?_, fun d hd => ?_, fun d hd => ?_, fun d hd => ?_, ?_, ?_⟩
    · rw [o1 j a b, o 4 0 j (by decide)]; exact h1 j a b
    · rw [o18, o 18 0 i (by decide)]; exact (h2 i hi).1
    · rw [o21, o 21 0 i (by decide)]; exact (h2 i hi).2
    · rw [r1, c2]; exact congrArg (fun z => z + 1) h3
    · rw [eD] at hd
      rw [c3]
      by_cases e : d = dN I 1
      · rw [if_pos e]
        exact ⟨x1, by rw [x2, x3]; exact hi⟩
      · rw [if_neg e]; exact h4 d (by omega)
    · rw [eD] at hd
      by_cases e : d = dN I 1 + 1
      · rw [e, nw]; exact hl
      · rw [er d (by omega)]; exact h5 d (by omega)
    · rw [eD] at hd
      rw [er d (by omega)]
      by_cases e : d = dN I 1
      · rw [e, ← h7', ← r3, show 0 + 29 + 28 * dN I 1 = 29 + 28 * dN I 1 by omega]
      · rw [← h6 d (by omega)]
        exact vM_ext (fun k hk => r4 _ (by omega) (by omega))
    · rw [eD, nw, h8, ← h7', show 0 + 1 = 1 from rfl, r2, s2]
    · rw [eD, nw, c1, s1]
  · rw [o 6 0 k (by decide)] at z
    rw [r4 _ (by omega) (by omega)]
    exact (q10 k hk).1 z
  · rw [o 6 0 k (by decide)] at z
    rw [eP]
    exact hst_cells hm (dN_40 hG (by omega)).1 ((q10 k hk).2 z) (fun j _ _ => o 4 0 j (by decide)) (fun i _ => o 18 0 i (by decide)) (fun i _ => o 21 0 i (by decide)) (fun i _ => o 23 0 i (by decide)) (fun i _ => o 19 0 i (by decide)) (fun i _ => o 20 0 i (by decide)) (fun j _ _ => o 4 _ j (by omega)) (fun i _ => o 18 _ i (by omega)) (fun i _ => o 21 _ i (by omega)) (fun i _ => o 23 _ i (by omega)) (fun i _ => o 19 _ i (by omega)) (fun i _ => o 20 _ i (by omega)) (fun i _ => o 22 _ i (by omega)) (fun j h => r4 _ (by omega) (by omega))
end
section
/-! what stands now, alike on both sides -/
noncomputable def cur (I J : jI) (m : Nat) : Prop := ((J 31 0 3 = I 4 1 6 ∧ J 31 0 1 = I 4 1 7 ∧ J 31 0 2 = I 4 1 8 ∧ J 32 0 0 = I 4 1 15) ∧ (∀ k, k < 10 → J 32 0 (7 + k) = I 23 1 k) ∧ (∀ i, i < m → (J 32 0 (17 + i) = I 19 1 i ∧ J 32 0 (23 + i) = I 20 1 i) ∧ J 33 0 i = I 18 1 i ∧ J 34 0 i = I 21 1 i) ∧ ∀ j, j < 6 → J 32 0 (1 + j) = I 4 1 (9 + j)) ∧ ((m : Int) = (I 4 1 6).toInt ∧ m ≤ 6) ∧ ((∀ k, k < 10 → 0 ≤ (I 23 1 k).toInt) ∧ smI 10 (I 23 1) 0 ≤ 99) ∧ ((0 ≤ (I 4 1 7).toInt ∧ (I 4 1 7).toInt ≤ 9) ∧ (∀ i, i < m → (1 ≤ (I 19 1 i).toInt ∧ (I 19 1 i).toInt ≤ 9) ∧ 0 ≤ (I 20 1 i).toInt ∧ (I 20 1 i).toInt ≤ 99) ∧ 0 ≤ (I 4 1 12).toInt ∧ (I 4 1 12).toInt ≤ 360) ∧ (0 < m → ((1 ≤ (I 4 1 7).toInt ∧ (I 4 1 7).toInt ≤ 9) ∧ (0 ≤ (I 4 1 8).toInt ∧ (I 4 1 8).toInt ≤ 99)) ∧ ∀ i : Nat, i < m → (0 ≤ (I 18 1 i).toInt ∧ (I 18 1 i).toInt ≤ 5) ∧ (1 ≤ (I 21 1 i).toInt ∧ (I 21 1 i).toInt ≤ 9))
theorem RD_v {I J : jI} (q : RD2 I J) : vC (mP I) I 1 = vM (mP I) J 1 ∧ lOK (mP I) (dN I 1) (vC (mP I) I 1) := by
  obtain ⟨-, -, -, -, -, ⟨-, -, -, h5, -, h7, h8⟩, -⟩ := q
  exact ⟨h8.trans h7.symm, by rw [h8]; exact h5 _ (Nat.le_refl _)⟩
theorem RD_cur {I J : jI} (hG : gG aGI I) (q : RD2 I J) : cur I J (mP I) := by
  obtain ⟨hm, hmi⟩ := mP_6 hG
  obtain ⟨hv, hl⟩ := RD_v q
  obtain ⟨-, ⟨q3, q4, q5⟩, q6, q7, q8, ⟨⟨h1, h2⟩, h3, -, -, -, -, -⟩, -⟩ := q
  have a6 : I 4 1 6 = I 4 0 6 := h1 6 (by decide) (by decide)
  have a7 : I 4 1 7 = I 4 0 7 := h1 7 (by decide) (by decide)
  have a8 : I 4 1 8 = I 4 0 8 := h1 8 (by decide) (by decide)
  have at_ : ∀ k, vK (mP I) k → J 32 0 (1 + k) = vC (mP I) I 1 k := fun k hk => by rw [hv, vM_k hk]
  refine ⟨⟨⟨by rw [q3, a6], by rw [q4, a7], by rw [q5, a8], h3⟩, fun k hk => ?_, fun i hi => ⟨⟨?_, ?_⟩, ?_, ?_⟩, fun j hj => ?_⟩, ⟨by rw [a6]; exact hmi, hm⟩, ⟨fun k hk => ?_, ?_⟩, ⟨by rw [a7]; exact q8, fun i hi => ?_, ?_⟩, fun hz => ?_⟩
  · rw [show 7 + k = 1 + (6 + k) by omega, at_ _ (vK_l hk), vC_l hk]
  · rw [show 17 + i = 1 + (16 + i) by omega, at_ _ (vK_g hi hm), vC_g hi hm]
  · rw [show 23 + i = 1 + (22 + i) by omega, at_ _ (vK_p hi hm), vC_p hi hm]
  · rw [(q6 i hi).1, (h2 i (by omega)).1]
  · rw [(q6 i hi).2, (h2 i (by omega)).2]
  · rw [at_ _ (Or.inl (by omega)), vC_f hj]
  · rw [← vC_l (m := mP I) (h := 1) (I := I) hk]; exact hl.1 k hk
  · refine Int.le_trans (smI_le 10 (I 23 1) (lrd (vC (mP I) I 1)) 0 (fun j _ b => ?_)) hl.2.1
    show _ ≤ (vC (mP I) I 1 (6 + j)).toInt
    rw [vC_l (by omega)]
    exact Int.le_refl _
  · rw [← vC_g (m := mP I) (h := 1) (I := I) hi hm, ← vC_p (m := mP I) (h := 1) (I := I) hi hm]
    exact hl.2.2.1 i hi
  · have z := hl.2.2.2
    have d40 := (dN_40 hG (h := 1) (by decide)).1
    have e : vC (mP I) I 1 3 = I 4 1 12 := rfl
    rw [e] at z
    omega
  · obtain ⟨z1, z2⟩ := q7 hz
    refine ⟨by rw [a7, a8]; exact z1, fun i hi => ?_⟩
    rw [(h2 i (by omega)).1, (h2 i (by omega)).2]
    exact z2 i hi
theorem has_c {I : jI} {h : Nat} {i : Int32} : d31 h i I = if 0 ≤ i.toInt ∧ i.toInt < (I 4 h 6).toInt then 1 else 0 := by
  unfold d31
  by_cases h1 : i.toInt < 0
  · rw [if_pos (lt0_t.mpr h1), if_neg (by omega)]
  · rw [if_neg (fun z => h1 (lt0_t.mp z))]
    by_cases h2 : (I 4 h 6).toInt ≤ i.toInt
    · rw [if_pos (le_t.mpr h2), if_neg (by omega)]
    · rw [if_neg (fun z => h2 (le_t.mp z)), if_pos (by omega)]
theorem isP_m {J : jI} {i : Int32} (h : 0 ≤ (J 31 0 3).toInt ∧ (J 31 0 3).toInt ≤ 6) : d151 i J = if 0 ≤ i.toInt ∧ i.toInt < (J 31 0 3).toInt then 1 else 0 := by
  have c1 : (1 : Int32).toInt = 1 := rfl
  have c0 : (0 : Int64).toInt = 0 := rfl
  have e : (J 31 0 3 - 1).toInt = (J 31 0 3).toInt - 1 := by rw [i32_sub (by omega), c1]
  unfold d151
  rw [in_i, t64, e, c0]
  by_cases c : 0 ≤ i.toInt ∧ i.toInt < (J 31 0 3).toInt
  · rw [if_pos c, if_pos (by omega)]
  · rw [if_neg c, if_neg (by omega)]
theorem one0 : ¬ (1 : Int32) = 0 := by decide
theorem room_c {I : jI} {i n : Int32} : d33 1 i n I = some (if I 4 1 8 < smV 10 0 (I 23 1) 0 + n * gotS (I 18 1 i.toNatClampNeg) (I 19 1 i.toNatClampNeg) then 0 else 1) := by
  unfold d33
  rw [sum_c]
  dsimp only [Option.bind_some]
  unfold d36
  rw [got_c]
  by_cases c : I 4 1 8 < smV 10 0 (I 23 1) 0 + n * gotS (I 18 1 i.toNatClampNeg) (I 19 1 i.toNatClampNeg)
  · rw [if_pos c, if_pos c]
  · rw [if_neg c, if_neg c]
theorem room_m {I J : jI} {m : Nat} {i n : Int32} (q : cur I J m) (hi0 : 0 ≤ i.toInt) (hi : i.toNatClampNeg < m) : d164 0 i n J = some (if I 4 1 8 < smV 10 0 (I 23 1) 0 + n * gotS (I 18 1 i.toNatClampNeg) (I 19 1 i.toNatClampNeg) then 0 else 1) := by
  obtain ⟨⟨⟨-, -, a8, -⟩, al, ai, -⟩, ⟨-, hm⟩, -⟩ := q
  have ni := cl_t hi0
  have s : smV 10 0 (fun k => J 32 0 (0 + 7 + k)) 0 = smV 10 0 (I 23 1) 0 := smV_ext 10 0 _ _ 0 (fun j _ b => by show J 32 0 (0 + 7 + j) = _; rw [show 0 + 7 + j = 7 + j by omega]; exact al j (by omega))
  unfold d164
  rw [sum_m (a := 0) ⟨by decide, by decide⟩ (b := 0) rfl, s]
  dsimp only [Option.bind_some]
  have i17 : Int32.toNatClampNeg ((0 + 17) + i) = 17 + i.toNatClampNeg := by rw [(ixa (a := 0 + 17) (by decide) (by decide) hi0 (by omega)).2]; rfl
  unfold d155
  rw [i17, got_m, (ai _ hi).1.1, (ai _ hi).2.1, a8]
  by_cases c : I 4 1 8 < smV 10 0 (I 23 1) 0 + n * gotS (I 18 1 i.toNatClampNeg) (I 19 1 i.toNatClampNeg)
  · rw [if_pos c, if_pos c]
  · rw [if_neg c, if_neg c]
theorem full_c {I : jI} {dd i v : Int32} (h : (I 4 1 15).toInt = 40) : d44 1 dd i v I = some (-2, I) := by
  have c1 : (1 : Int32).toInt = 1 := rfl
  have c40 : (40 : Int32).toInt = 40 := rfl
  unfold d44 d32
  rw [if_pos (show (40 : Int32) < I 4 1 15 + 1 by rw [lt_t, i32_add (by omega), c40, c1]; omega), if_pos rfl]
theorem RD_hi {I J : jI} {i : Int32} {m : Nat} (q : cur I J m) (h : 0 ≤ i.toInt ∧ i.toInt < (I 4 1 6).toInt) : i.toNatClampNeg < m ∧ i.toInt ≤ 5 ∧ 0 < m := by
  obtain ⟨-, ⟨hm, hm6⟩, -⟩ := q
  have := cl_t h.1
  exact ⟨by omega, by omega, by omega⟩
/-- what is alike for every deed: the class performs it, the reference keeps the past and does the same -/
theorem deed_eq' {I J : jI} {dd i v : Int32} (hG : gG aGI I) (q : RD2 I J) (hD : (I 4 1 15).toInt ≤ 39) (hd0 : 0 ≤ dd.toInt) (hd4 : dd.toInt ≤ 4) (hi0 : 0 ≤ i.toInt) (hi5 : i.toInt ≤ 5) (hv0 : 0 ≤ v.toInt) (hv : v.toInt ≤ 99) (hi : dd = 0 ∨ dd = 2 ∨ dd = 3 → i.toNatClampNeg < mP I) (hl : dd = 0 → lOK (mP I) (dN I 1 + 1) (stp (c6 (I 18 0)) (c6 (I 21 0)) (I 4 0 7) dd i v (vC (mP I) I 1))) (hs : dd = 2 → 2 ≤ (I 19 1 i.toNatClampNeg).toInt) : ∃ r K, d44 1 dd i v I = some r ∧ d163 J = some K ∧ (vM (mP I) K 1 = vC (mP I) I 1 ∧ (K 31 = J 31 ∧ K 33 = J 33 ∧ K 34 = J 34) ∧ ∀ j, 1 ≤ j → j ≤ 28 → K 32 0 j = J 32 0 j) ∧ r.1 = anS (I 18 1) (I 4 1 7) dd i v (vC (mP I) I 1) ∧ (r.2 4 1 15 = I 4 1 15 + 1 ∧ r.2 4 1 6 = I 4 1 6) ∧ ∀ J', vM (mP I) J' 1 = stp (J 33 0) (J 34 0) (J 31 0 1) dd i v (vM (mP I) K 1) → (∀ j, ¬ (1 ≤ j ∧ j ≤ 28) → J' 32 0 j = K 32 0 j) → (∀ g, ¬ g = 32 → J' g = K g) → RD2 r.2 J' := by
  obtain ⟨hm, hmi⟩ := mP_6 hG
  obtain ⟨hvv, hlk⟩ := RD_v q
  have c := RD_cur hG q
  obtain ⟨⟨⟨-, -, -, a15⟩, -, -, -⟩, -, ⟨l1, -⟩, ⟨n0, -⟩, -⟩ := c
  obtain ⟨d40, dI⟩ := dN_40 hG (h := 1) (by decide)
  obtain ⟨r, r1, r2, r3⟩ := perf_c (m := mP I) (dd := dd) (i := i) (v := v) (gi_deeds hG (x := 1) (by decide)).1 (fun z => hG (21, (0, 5), (0, 5), (0, 9)) (by decide) 1 i.toNatClampNeg (by simp) (by simp) (by simp) (by have := hi (Or.inl z); simp; omega)) hm hD hi (fun _ => ⟨n0.1, l1⟩)
  obtain ⟨K, k1, k2, k3⟩ := past_m (D := dN I 1) (I := J) (by omega) (by rw [a15]; exact dI.symm)
  refine ⟨r, K, r1, k1, ⟨by rw [kp_1 k2, hvv], ⟨k3 31 (by decide), k3 33 (by decide), k3 34 (by decide)⟩, fun j a b => ?_⟩, r2, ⟨r3.2.1, r3.2.2.2 4 1 6 (fun z => by have := z.2; omega)⟩, fun J' s o g => ?_⟩
  · rw [k2]
    unfold kpM
    rw [if_neg (by omega), if_neg (by omega)]
  · refine RD_deed hG q hD hd0 hd4 hi0 hi5 hv0 hv hi ?_ r3 (rf_of k2 k3 s o g)
    by_cases h0 : dd = 0
    · exact hl h0
    unfold stp
    rw [if_neg h0]
    by_cases h1 : dd = 1
    · rw [if_pos h1]
      exact lOK_W (by omega) q.2.2.2.2.1 hlk
    rw [if_neg h1]
    by_cases h2 : dd = 2
    · rw [if_pos h2]
      have hi2 := hi (Or.inr (Or.inl h2))
      exact lOK_S hlk hm hi2 (by rw [vC_g hi2 hm]; exact hs h2)
    rw [if_neg h2]
    by_cases h3 : dd = 3
    · rw [if_pos h3]
      exact lOK_P hlk hm (hi (Or.inr (Or.inr h3))) ⟨hv0, hv⟩
    rw [if_neg h3]
    exact lOK_C hlk
theorem deed_eq {I J : jI} {dd i v : Int32} (hG : gG aGI I) (q : RD2 I J) (hD : (I 4 1 15).toInt ≤ 39) (hd0 : 0 ≤ dd.toInt) (hd4 : dd.toInt ≤ 4) (hi0 : 0 ≤ i.toInt) (hi5 : i.toInt ≤ 5) (hv0 : 0 ≤ v.toInt) (hv : v.toInt ≤ 99) (hi : dd = 0 ∨ dd = 2 ∨ dd = 3 → i.toNatClampNeg < mP I) (hl : dd = 0 → lOK (mP I) (dN I 1 + 1) (stp (c6 (I 18 0)) (c6 (I 21 0)) (I 4 0 7) dd i v (vC (mP I) I 1))) (hs : dd = 2 → 2 ≤ (I 19 1 i.toNatClampNeg).toInt) : ∃ r K, d44 1 dd i v I = some r ∧ d163 J = some K ∧ (vM (mP I) K 1 = vC (mP I) I 1 ∧ (K 31 = J 31 ∧ K 33 = J 33 ∧ K 34 = J 34) ∧ ∀ j, 1 ≤ j → j ≤ 28 → K 32 0 j = J 32 0 j) ∧ r.1 = anS (I 18 1) (I 4 1 7) dd i v (vC (mP I) I 1) ∧ ∀ J', vM (mP I) J' 1 = stp (J 33 0) (J 34 0) (J 31 0 1) dd i v (vM (mP I) K 1) → (∀ j, ¬ (1 ≤ j ∧ j ≤ 28) → J' 32 0 j = K 32 0 j) → (∀ g, ¬ g = 32 → J' g = K g) → RD2 r.2 J' := by
  obtain ⟨r, K, a, b, c, d, -, e⟩ := deed_eq' hG q hD hd0 hd4 hi0 hi5 hv0 hv hi hl hs
  exact ⟨r, K, a, b, c, d, e⟩
end
section
/-! buy, week, shrink, price, card -/
theorem smI_eq {n k : Nat} {s t : Nat → Int32} (h : ∀ j, k ≤ j → j < k + n → s j = t j) : smI n s k = smI n t k := Int.le_antisymm (smI_le n s t k (fun j a b => by rw [h j a b]; exact Int.le_refl _)) (smI_le n t s k (fun j a b => by rw [h j a b]; exact Int.le_refl _))
theorem mul_3 {n g : Int32} (hn : 1 ≤ n.toInt ∧ n.toInt ≤ 3) (hg : 0 ≤ g.toInt ∧ g.toInt ≤ 9) : 0 ≤ (n * g).toInt ∧ (n * g).toInt ≤ 27 := by
  have : n.toInt = 1 ∨ n.toInt = 2 ∨ n.toInt = 3 := by omega
  have e : (n * g).toInt = n.toInt * g.toInt := i32_mul (by rcases this with h | h | h <;> rw [h] <;> omega)
  rw [e]
  rcases this with h | h | h <;> rw [h] <;> omega
theorem buy_l {I J : jI} {i n : Int32} (hG : gG aGI I) (q : RD2 I J) (hi : i.toNatClampNeg < mP I) (hn : 1 ≤ n.toInt ∧ n.toInt ≤ 3) (hr : ¬ I 4 1 8 < smV 10 0 (I 23 1) 0 + n * gotS (I 18 1 i.toNatClampNeg) (I 19 1 i.toNatClampNeg)) : lOK (mP I) (dN I 1 + 1) (stp (c6 (I 18 0)) (c6 (I 21 0)) (I 4 0 7) 0 i n (vC (mP I) I 1)) := by
  obtain ⟨hm, hmi⟩ := mP_6 hG
  obtain ⟨hvv, hlk⟩ := RD_v q
  have c := RD_cur hG q
  obtain ⟨⟨-, -, -, -⟩, -, ⟨l1, l2⟩, ⟨-, g1, -⟩, o⟩ := c
  have hr8 := (o (by omega)).1.2.2
  have h2 := q.2.2.2.2.2.1.1.2 i.toNatClampNeg (by omega)
  have gb := got_b (k := I 18 1 i.toNatClampNeg) ⟨by have := (g1 _ hi).1; omega, (g1 _ hi).1.2⟩
  have mb := mul_3 hn gb
  have sl := smI_ge 10 (I 23 1) 0 (fun j _ b => l1 j (by omega))
  have z0 : (0 : Int32).toInt = 0 := rfl
  have sv := smV_t 10 0 (I 23 1) 0 (by decide) (fun j _ b => l1 j (by omega)) (by rw [z0]; omega)
  rw [z0] at sv
  rw [lt_t, i32_add (by omega), sv] at hr
  have ss : smI 10 (lrd (vC (mP I) I 1)) 0 = smI 10 (I 23 1) 0 := smI_eq lrd_C
  have ek : c6 (I 18 0) i.toNatClampNeg = I 18 1 i.toNatClampNeg := by rw [c6_at (by omega), h2.1]
  unfold stp
  rw [if_pos rfl]
  refine lOK_B hlk (kps_b ?_) ?_ ?_
  · rw [c6_at (by omega)]
    exact hG (21, (0, 5), (0, 5), (0, 9)) (by decide) 0 i.toNatClampNeg (by simp) (by simp) (by simp) (by simp; omega)
  · rw [ek, vC_g hi hm]; exact mb.1
  · rw [ek, vC_g hi hm, ss]; omega
theorem buy_eq {I J : jI} (i n : Int32) (hG : gG aGI I) (q : RD2 I J) : ∃ r r', d81 i n I = some r ∧ d166 i n J = some r' ∧ r.1 = r'.1 ∧ RD2 r.2 r'.2 := by
  have c := RD_cur hG q
  have hp := gi_packets hG
  have c3 : J 31 0 3 = I 4 1 6 := c.1.1.1
  have c0 : Int32.toNatClampNeg 0 = 0 := rfl
  have c15 : J 32 0 0 = I 4 1 15 := c.1.1.2.2.2
  have hd := gi_deeds hG (x := 1) (by decide)
  obtain ⟨hm, hmi⟩ := mP_6 hG
  unfold d81 d166
  rw [has_c, isP_m (by rw [c3]; exact hp), c3]
  by_cases h1 : 0 ≤ i.toInt ∧ i.toInt < (I 4 1 6).toInt
  · rw [if_pos h1, if_neg one0, if_neg one0, in_i]
    by_cases h2 : 1 ≤ n.toInt ∧ n.toInt ≤ 3
    · obtain ⟨hi, hi5, hm0⟩ := RD_hi c h1
      rw [if_neg (show ¬ n < 1 by rw [lt_t]; show ¬ n.toInt < 1; omega), if_pos (show n ≤ 3 by rw [le_t]; exact h2.2), if_pos (show (1 : Int64).toInt ≤ n.toInt ∧ n.toInt ≤ (3 : Int64).toInt from h2), if_neg one0, room_c, room_m c h1.1 hi]
      dsimp only [Option.bind_some]
      by_cases h3 : I 4 1 8 < smV 10 0 (I 23 1) 0 + n * gotS (I 18 1 i.toNatClampNeg) (I 19 1 i.toNatClampNeg)
      · rw [if_pos h3, if_pos rfl, if_pos rfl]
        exact ⟨_, _, rfl, rfl, rfl, q⟩
      · rw [if_neg h3, if_neg one0, if_neg one0, c0, c15]
        by_cases h5 : (I 4 1 15).toInt = 40
        · rw [full_c h5, if_pos (show I 4 1 15 = 40 from eq_t.mpr h5)]
          exact ⟨_, _, rfl, rfl, rfl, q⟩
        · obtain ⟨r, K, e1, e2, ⟨k1, ⟨k31, k33, k34⟩, k28⟩, e3, e4⟩ := deed_eq (dd := 0) (i := i) (v := n) hG q (by omega) (by decide) (by decide) h1.1 hi5 (by omega) (by omega) (fun _ => hi) (fun _ => buy_l hG q hi h2 h3) (fun z => absurd z (by decide))
          rw [e1, if_neg (show ¬ I 4 1 15 = 40 from fun z => h5 (by rw [z]; rfl)), e2]
          dsimp only [Option.bind_some]
          obtain ⟨-, -, -, af⟩ := c.1
          have f14 := hG (4, (0, 5), (14, 14), (0, 1)) (by decide) 1 14 (by simp) (by simp) (by simp) (by simp)
          have K6 : K 32 0 6 = I 4 1 14 := by rw [k28 6 (by decide) (by decide)]; exact af 5 (by decide)
          have K33 : K 33 0 i.toNatClampNeg = I 18 1 i.toNatClampNeg := by rw [k33]; exact (c.1.2.2.1 _ hi).2.1
          have K34 : K 34 0 i.toNatClampNeg = I 21 1 i.toNatClampNeg := by rw [k34]; exact (c.1.2.2.1 _ hi).2.2
          obtain ⟨b1, b2, b3, b4⟩ := buy_m (m := mP I) (a := 0) (i := i) (n := n) ⟨by decide, by decide⟩ (b := 0) rfl (I := K) hm h1.1 hi (by
            rw [show 0 + 6 = 6 from rfl, K6]
            have : (I 4 1 14).toInt = 0 ∨ (I 4 1 14).toInt = 1 := by have a : 0 ≤ (I 4 1 14).toInt := f14.1; have b : (I 4 1 14).toInt ≤ 1 := f14.2; omega
            rcases this with z | z
            · exact Or.inl (eq_t.mpr z)
            · exact Or.inr (eq_t.mpr z)) (by
            rw [K34]
            exact hG (21, (0, 5), (0, 5), (0, 9)) (by decide) 1 i.toNatClampNeg (by simp) (by simp) (by simp) (by simp; omega))
          refine ⟨_, _, rfl, rfl, ?_, e4 _ ?_ (fun j hj => b3 j (by omega)) b4⟩
          · show r.1 = (d165 0 i n K).1
            rw [e3, b1, K33]
            unfold anS
            rw [if_pos rfl]
            show _ = kost _ n (vM (mP I) K 1 _) (vM (mP I) K 1 5)
            rw [k1]
          · unfold stp
            rw [if_pos rfl, ← k33, ← k34]
            exact b2
    · rw [if_neg (show ¬ ((1 : Int64).toInt ≤ n.toInt ∧ n.toInt ≤ (3 : Int64).toInt) from h2), if_pos rfl]
      by_cases h3 : n < 1
      · rw [if_pos h3]
        exact ⟨_, _, rfl, rfl, rfl, q⟩
      · rw [if_neg h3, if_neg (show ¬ n ≤ 3 by rw [le_t]; rw [lt_t] at h3; intro z; exact h2 ⟨by have : (1 : Int32).toInt = 1 := rfl; omega, z⟩)]
        exact ⟨_, _, rfl, rfl, rfl, q⟩
  · rw [if_neg h1, if_pos rfl, if_pos rfl]
    exact ⟨_, _, rfl, rfl, rfl, q⟩
theorem pk0 {I : jI} {m : Nat} (hm : (m : Int) = (I 4 1 6).toInt) (h : ¬ I 4 1 6 = 0) : 0 < m := by
  have : ¬ (I 4 1 6).toInt = 0 := fun z => h (eq_t.mpr (by rw [z]; rfl))
  omega
theorem stp_1 {kd kp : Nat → Int32} {nd i v : Int32} {s : Nat → Int32} : stp kd kp nd 1 i v s = stW nd s := by
  unfold stp
  rw [if_neg (show ¬ (1 : Int32) = 0 by decide), if_pos rfl]
theorem anS_1 {kd : Nat → Int32} {nd i v : Int32} {s : Nat → Int32} : anS kd nd 1 i v s = (eatV 10 nd (lrd s) 0).2 0 := by
  unfold anS
  rw [if_neg (show ¬ (1 : Int32) = 0 by decide), if_pos rfl]
theorem week_m {m : Nat} {I J K : jI} (h1 : J 31 0 1 = I 4 1 7) (k31 : K 31 = J 31) (k1 : vM m K 1 = vC m I 1) : ∃ r, d167 0 K = some r ∧ r.1 = anS (I 18 1) (I 4 1 7) 1 0 0 (vC m I 1) ∧ vM m r.2 1 = stp (J 33 0) (J 34 0) (J 31 0 1) 1 0 0 (vM m K 1) ∧ (∀ j, ¬ (1 ≤ j ∧ j ≤ 28) → r.2 32 0 j = K 32 0 j) ∧ ∀ g, ¬ g = 32 → r.2 g = K g := by
  obtain ⟨r, r1, r2, r3, r4⟩ := pass_m (a := 0) ⟨by decide, by decide⟩ (b := 0) rfl (I := K)
  refine ⟨r, r1, ?_, ?_, fun j hj => by rw [r3, wk_o (by omega)], r4⟩
  · rw [anS_1, r2, ← k1, ← h1, ← k31]
    exact ((eatV_ext 10 (K 31 0 1) (lrd (vM m K (0 + 1))) (fun k => K 32 0 (0 + 7 + k)) 0 lrd_M).2 0 (by decide) (by decide)).symm
  · rw [stp_1, ← k31]
    exact wk_v r3
theorem week_eq {I J : jI} (hG : gG aGI I) (q : RD2 I J) : ∃ r r', d82 I = some r ∧ d168 J = some r' ∧ r.1 = r'.1 ∧ RD2 r.2 r'.2 := by
  have c := RD_cur hG q
  have c3 : J 31 0 3 = I 4 1 6 := c.1.1.1
  have c0 : Int32.toNatClampNeg 0 = 0 := rfl
  have c15 : J 32 0 0 = I 4 1 15 := c.1.1.2.2.2
  have hd := gi_deeds hG (x := 1) (by decide)
  unfold d82 d168
  rw [c3, c0, c15]
  by_cases h1 : I 4 1 6 = 0
  · rw [if_pos h1, if_pos h1]
    exact ⟨_, _, rfl, rfl, rfl, q⟩
  · rw [if_neg h1, if_neg h1]
    by_cases h5 : (I 4 1 15).toInt = 40
    · rw [full_c h5, if_pos (show I 4 1 15 = 40 from eq_t.mpr h5)]
      exact ⟨_, _, rfl, rfl, rfl, q⟩
    · obtain ⟨r, K, e1, e2, ⟨k1, ⟨k31, k33, k34⟩, k28⟩, e3, e4⟩ := deed_eq (dd := 1) (i := 0) (v := 0) hG q (by omega) (by decide) (by decide) (by decide) (by decide) (by decide) (by decide) (fun z => absurd z (by decide)) (fun z => absurd z (by decide)) (fun z => absurd z (by decide))
      rw [e1, if_neg (show ¬ I 4 1 15 = 40 from fun z => h5 (by rw [z]; rfl)), e2]
      dsimp only [Option.bind_some]
      obtain ⟨s, s1, s2, s3, s4, s5⟩ := week_m c.1.1.2.1 k31 k1
      rw [s1]
      dsimp only [Option.bind_some]
      exact ⟨_, _, rfl, rfl, e3.trans s2.symm, e4 _ s3 s4 s5⟩
theorem shrink_eq {I J : jI} (i : Int32) (hG : gG aGI I) (q : RD2 I J) : ∃ r r', d83 i I = some r ∧ d169 i J = some r' ∧ r.1 = r'.1 ∧ RD2 r.2 r'.2 := by
  have c := RD_cur hG q
  have hp := gi_packets hG
  have c3 : J 31 0 3 = I 4 1 6 := c.1.1.1
  have c0 : Int32.toNatClampNeg 0 = 0 := rfl
  have c15 : J 32 0 0 = I 4 1 15 := c.1.1.2.2.2
  have hd := gi_deeds hG (x := 1) (by decide)
  obtain ⟨hm, hmi⟩ := mP_6 hG
  unfold d83 d169
  rw [has_c, isP_m (by rw [c3]; exact hp), c3]
  by_cases h1 : 0 ≤ i.toInt ∧ i.toInt < (I 4 1 6).toInt
  · rw [if_pos h1, if_neg one0, if_neg one0]
    obtain ⟨hi, hi5, hm0⟩ := RD_hi c h1
    have i17 : Int32.toNatClampNeg (17 + i) = 17 + i.toNatClampNeg := by rw [(ixa (a := 17) (by decide) (by decide) h1.1 (by omega)).2]; rfl
    have a17 := (c.1.2.2.1 _ hi).1.1
    have gb := (c.2.2.2.1.2.1 _ hi).1
    have c1 : (1 : Int32).toInt = 1 := rfl
    unfold d34
    rw [i17, a17, c0, c15]
    by_cases h2 : (I 19 1 i.toNatClampNeg).toInt = 1
    · rw [if_pos (show I 19 1 i.toNatClampNeg ≤ 1 by rw [le_t, c1]; omega), if_pos rfl, if_pos (show I 19 1 i.toNatClampNeg = 1 from eq_t.mpr h2)]
      exact ⟨_, _, rfl, rfl, rfl, q⟩
    · rw [if_neg (show ¬ I 19 1 i.toNatClampNeg ≤ 1 by rw [le_t, c1]; omega), if_neg one0, if_neg (show ¬ I 19 1 i.toNatClampNeg = 1 from fun z => h2 (by rw [z]; rfl))]
      by_cases h5 : (I 4 1 15).toInt = 40
      · rw [full_c h5, if_pos (show I 4 1 15 = 40 from eq_t.mpr h5)]
        exact ⟨_, _, rfl, rfl, rfl, q⟩
      · obtain ⟨r, K, e1, e2, ⟨k1, ⟨k31, k33, k34⟩, k28⟩, e3, e4⟩ := deed_eq (dd := 2) (i := i) (v := 0) hG q (by omega) (by decide) (by decide) h1.1 hi5 (by decide) (by decide) (fun _ => hi) (fun z => absurd z (by decide)) (fun _ => by omega)
        rw [e1, if_neg (show ¬ I 4 1 15 = 40 from fun z => h5 (by rw [z]; rfl)), e2]
        dsimp only [Option.bind_some]
        have kg : K 32 0 (17 + i.toNatClampNeg) = vC (mP I) I 1 (16 + i.toNatClampNeg) := by
          rw [← k1, vM_k (vK_g hi hm), show 1 + (16 + i.toNatClampNeg) = 17 + i.toNatClampNeg by omega]
        refine ⟨_, _, rfl, rfl, ?_, e4 _ ?_ (fun j hj => by show jup K 32 0 (17 + i.toNatClampNeg) _ 32 0 j = _; rw [jup_c, if_neg (by omega)]) (fun g h => jup_g h)⟩
        · show r.1 = jup K 32 0 (17 + i.toNatClampNeg) (K 32 0 (17 + i.toNatClampNeg) - 1) 32 0 (17 + i.toNatClampNeg)
          rw [e3, jup_c, if_pos rfl, kg]
          rfl
        · show vM (mP I) (jup K 32 0 (17 + i.toNatClampNeg) (K 32 0 (17 + i.toNatClampNeg) - 1)) 1 = upS (vM (mP I) K 1) (16 + i.toNatClampNeg) (vM (mP I) K 1 (16 + i.toNatClampNeg) - 1)
          rw [kg, k1, ← k1, show 17 + i.toNatClampNeg = 1 + (16 + i.toNatClampNeg) by omega, vM_up (vK_g hi hm)]
  · rw [if_neg h1, if_pos rfl, if_pos rfl]
    exact ⟨_, _, rfl, rfl, rfl, q⟩
theorem price_eq {I J : jI} (i v : Int32) (hG : gG aGI I) (q : RD2 I J) : ∃ r r', d84 i v I = some r ∧ d171 i v J = some r' ∧ r.1 = r'.1 ∧ RD2 r.2 r'.2 := by
  have c := RD_cur hG q
  have hp := gi_packets hG
  have c3 : J 31 0 3 = I 4 1 6 := c.1.1.1
  have c0 : Int32.toNatClampNeg 0 = 0 := rfl
  have c15 : J 32 0 0 = I 4 1 15 := c.1.1.2.2.2
  have hd := gi_deeds hG (x := 1) (by decide)
  obtain ⟨hm, hmi⟩ := mP_6 hG
  unfold d84 d171
  rw [has_c, isP_m (by rw [c3]; exact hp), c3]
  by_cases h1 : 0 ≤ i.toInt ∧ i.toInt < (I 4 1 6).toInt
  · rw [if_pos h1, if_neg one0, if_neg one0, in_i]
    obtain ⟨hi, hi5, hm0⟩ := RD_hi c h1
    by_cases h2 : 0 ≤ v.toInt ∧ v.toInt ≤ 99
    · have i23 : Int32.toNatClampNeg (23 + i) = 23 + i.toNatClampNeg := by rw [(ixa (a := 23) (by decide) (by decide) h1.1 (by omega)).2]; rfl
      have a23 := (c.1.2.2.1 _ hi).1.2
      rw [if_neg (show ¬ v < 0 by rw [lt0_t]; omega), if_pos (show v ≤ 99 by rw [le_t]; exact h2.2), if_pos (show (0 : Int64).toInt ≤ v.toInt ∧ v.toInt ≤ (99 : Int64).toInt from h2), if_neg one0]
      unfold d170
      rw [i23, a23, c0, c15]
      by_cases h3 : I 20 1 i.toNatClampNeg = v
      · rw [if_pos h3, if_pos h3]
        exact ⟨_, _, rfl, rfl, rfl, q⟩
      · rw [if_neg h3, if_neg h3]
        by_cases h5 : (I 4 1 15).toInt = 40
        · rw [full_c h5, if_pos (show I 4 1 15 = 40 from eq_t.mpr h5)]
          exact ⟨_, _, rfl, rfl, rfl, q⟩
        · obtain ⟨r, K, e1, e2, ⟨k1, ⟨k31, k33, k34⟩, k28⟩, e3, e4⟩ := deed_eq (dd := 3) (i := i) (v := v) hG q (by omega) (by decide) (by decide) h1.1 hi5 h2.1 h2.2 (fun _ => hi) (fun z => absurd z (by decide)) (fun z => absurd z (by decide))
          rw [e1, if_neg (show ¬ I 4 1 15 = 40 from fun z => h5 (by rw [z]; rfl)), e2]
          dsimp only [Option.bind_some]
          have kg : K 32 0 (23 + i.toNatClampNeg) = vC (mP I) I 1 (22 + i.toNatClampNeg) := by
            rw [← k1, vM_k (vK_p hi hm), show 1 + (22 + i.toNatClampNeg) = 23 + i.toNatClampNeg by omega]
          refine ⟨_, _, rfl, rfl, ?_, e4 _ ?_ (fun j hj => by show jup K 32 0 (23 + i.toNatClampNeg) _ 32 0 j = _; rw [jup_c, if_neg (by omega)]) (fun g h => jup_g h)⟩
          · show r.1 = K 32 0 (23 + i.toNatClampNeg)
            rw [e3, kg]
            rfl
          · show vM (mP I) (jup K 32 0 (23 + i.toNatClampNeg) v) 1 = upS (vM (mP I) K 1) (22 + i.toNatClampNeg) v
            rw [show 23 + i.toNatClampNeg = 1 + (22 + i.toNatClampNeg) by omega, vM_up (vK_p hi hm)]
    · rw [if_neg (show ¬ ((0 : Int64).toInt ≤ v.toInt ∧ v.toInt ≤ (99 : Int64).toInt) from h2), if_pos rfl]
      by_cases h3 : v < 0
      · rw [if_pos h3]
        exact ⟨_, _, rfl, rfl, rfl, q⟩
      · rw [if_neg h3, if_neg (show ¬ v ≤ 99 by rw [le_t]; rw [lt0_t] at h3; intro z; exact h2 ⟨by omega, z⟩)]
        exact ⟨_, _, rfl, rfl, rfl, q⟩
  · rw [if_neg h1, if_pos rfl, if_pos rfl]
    exact ⟨_, _, rfl, rfl, rfl, q⟩
theorem card_eq {I J : jI} (v : Int32) (hG : gG aGI I) (q : RD2 I J) : ∃ r r', d85 v I = some r ∧ d172 v J = some r' ∧ r.1 = r'.1 ∧ RD2 r.2 r'.2 := by
  have c := RD_cur hG q
  have c3 : J 31 0 3 = I 4 1 6 := c.1.1.1
  have c0 : Int32.toNatClampNeg 0 = 0 := rfl
  have c6' : Int32.toNatClampNeg 6 = 6 := rfl
  have c15 : J 32 0 0 = I 4 1 15 := c.1.1.2.2.2
  have hd := gi_deeds hG (x := 1) (by decide)
  have a6 : J 32 0 6 = I 4 1 14 := c.1.2.2.2 5 (by decide)
  have f14 := hG (4, (0, 5), (14, 14), (0, 1)) (by decide) 1 14 (by simp) (by simp) (by simp) (by simp)
  have f0 : 0 ≤ (I 4 1 14).toInt := f14.1
  have key : ∀ v : Int32, (v = 0 ∨ v = 1) → ¬ I 4 1 6 = 0 → ∃ r r', (if I 4 1 14 = v then some ((-4 : Int32), I) else (d44 1 4 0 v I).bind fun r => some (r.1, r.2)) = some r ∧ ((d170 6 v J).bind fun r1 => if 0 ≤ r1.1 then some (v, r1.2) else some (r1.1, r1.2)) = some r' ∧ r.1 = r'.1 ∧ RD2 r.2 r'.2 := by
    intro v hv hm
    unfold d170
    rw [c6', a6, c0, c15]
    by_cases h3 : I 4 1 14 = v
    · rw [if_pos h3, if_pos h3]
      dsimp only [Option.bind_some]
      rw [if_neg (show ¬ (0 : Int32) ≤ -4 by decide)]
      exact ⟨_, _, rfl, rfl, rfl, q⟩
    · rw [if_neg h3, if_neg h3]
      by_cases h5 : (I 4 1 15).toInt = 40
      · rw [full_c h5, if_pos (show I 4 1 15 = 40 from eq_t.mpr h5)]
        dsimp only [Option.bind_some]
        rw [if_neg (show ¬ (0 : Int32) ≤ -2 by decide)]
        exact ⟨_, _, rfl, rfl, rfl, q⟩
      · obtain ⟨r, K, e1, e2, ⟨k1, ⟨k31, k33, k34⟩, k28⟩, e3, e4⟩ := deed_eq (dd := 4) (i := 0) (v := v) hG q (by omega) (by decide) (by decide) (by decide) (by decide) (by rcases hv with rfl | rfl <;> decide) (by rcases hv with rfl | rfl <;> decide) (fun z => absurd z (by decide)) (fun z => absurd z (by decide)) (fun z => absurd z (by decide))
        rw [e1, if_neg (show ¬ I 4 1 15 = 40 from fun z => h5 (by rw [z]; rfl)), e2]
        dsimp only [Option.bind_some]
        rw [if_pos (show 0 ≤ K 32 0 6 by rw [k28 6 (by decide) (by decide), a6, le0_t]; exact f0)]
        refine ⟨_, _, rfl, rfl, ?_, e4 _ ?_ (fun j hj => by show jup K 32 0 6 v 32 0 j = _; rw [jup_c, if_neg (by omega)]) (fun g h => jup_g h)⟩
        · show r.1 = v
          rw [e3]
          rfl
        · show vM (mP I) (jup K 32 0 (1 + 5) v) 1 = upS (vM (mP I) K 1) 5 (if v = 1 then 1 else 0)
          rw [vM_up (Or.inl (by decide))]
          rcases hv with rfl | rfl <;> rfl
  unfold d85 d172
  rw [in_i, c3]
  by_cases h0 : v = 0
  · rw [if_pos h0, if_pos (show (0 : Int64).toInt ≤ v.toInt ∧ v.toInt ≤ (1 : Int64).toInt by subst h0; decide), if_neg one0]
    by_cases h1 : I 4 1 6 = 0
    · rw [if_pos h1, if_pos h1]
      exact ⟨_, _, rfl, rfl, rfl, q⟩
    · rw [if_neg h1, if_neg h1, if_neg (show ¬ v = 1 by subst h0; decide)]
      have := key v (Or.inl h0) h1
      rw [h0] at this ⊢
      exact this
  · rw [if_neg h0]
    by_cases h2 : v = 1
    · rw [if_pos h2, if_pos (show (0 : Int64).toInt ≤ v.toInt ∧ v.toInt ≤ (1 : Int64).toInt by subst h2; decide), if_neg one0]
      by_cases h1 : I 4 1 6 = 0
      · rw [if_pos h1, if_pos h1]
        exact ⟨_, _, rfl, rfl, rfl, q⟩
      · rw [if_neg h1, if_neg h1, if_pos h2]
        have := key v (Or.inr h2) h1
        rw [h2] at this ⊢
        exact this
    · rw [if_neg h2, if_neg (show ¬ ((0 : Int64).toInt ≤ v.toInt ∧ v.toInt ≤ (1 : Int64).toInt) from fun z => by
        have z1 : 0 ≤ v.toInt := z.1
        have z2 : v.toInt ≤ 1 := z.2
        have : v.toInt = 0 ∨ v.toInt = 1 := by omega
        rcases this with w | w
        · exact h0 (eq_t.mpr w)
        · exact h2 (eq_t.mpr w)), if_pos rfl]
      exact ⟨_, _, rfl, rfl, rfl, q⟩
end
section
/-! undo: the class does the earlier deeds again, the reference takes the past -/
noncomputable def unI (m : Nat) (I U : jI) (x : Nat) : Prop := (U 4 1 15).toInt = (x : Int) ∧ vC m U 1 = rp m I 1 x ∧ (∀ e, U 22 1 e = I 22 1 e) ∧ ∀ g h j, ¬ pfR g h j → U g h j = I g h j
theorem unI_0 {m : Nat} {I : jI} (hm : m ≤ 6) (h0 : I 4 0 15 = 0) (hk : hsK0 I 1) : unI m I (d29 1 0 I) 0 := by
  have at_ : ∀ g j, ((g = 4 ∧ 6 ≤ j ∧ j < 16) ∨ (18 ≤ g ∧ g < 22 ∧ j < 6) ∨ (g = 23 ∧ j < 10)) → d29 1 0 I g 1 j = I g 0 j := fun g j h => if_pos ⟨rfl, h⟩
  have ot : ∀ g x j, ¬ (x = 1 ∧ ((g = 4 ∧ 6 ≤ j ∧ j < 16) ∨ (18 ≤ g ∧ g < 22 ∧ j < 6) ∨ (g = 23 ∧ j < 10))) → d29 1 0 I g x j = I g x j := fun g x j h => if_neg h
  refine ⟨?_, ?_, fun e => ot 22 1 e (fun z => by have := z.2; omega), fun g x j hp => ?_⟩
  · rw [at_ 4 15 (Or.inl ⟨rfl, by decide, by decide⟩), h0]; rfl
  · show _ = vC m I 0
    exact vC_ext hm (fun j a b => at_ 4 j (Or.inl ⟨rfl, by omega, by omega⟩)) (fun j a => at_ 23 j (Or.inr (Or.inr ⟨rfl, a⟩))) (fun j a => at_ 19 j (Or.inr (Or.inl ⟨by decide, by decide, a⟩))) (fun j a => at_ 20 j (Or.inr (Or.inl ⟨by decide, by decide, a⟩)))
  · by_cases c : x = 1 ∧ ((g = 4 ∧ 6 ≤ j ∧ j < 16) ∨ (18 ≤ g ∧ g < 22 ∧ j < 6) ∨ (g = 23 ∧ j < 10))
    · obtain ⟨rfl, c⟩ := c
      rw [at_ g j c]
      rcases c with ⟨rfl, c1, c2⟩ | ⟨c1, c2, c3⟩ | ⟨rfl, c1⟩
      · exact (hk.1 j c1 (Nat.le_of_not_lt (fun z => hp ⟨rfl, Or.inr (Or.inr (Or.inr (Or.inr ⟨rfl, by omega, by omega⟩)))⟩))).symm
      · have : g = 18 ∨ g = 19 ∨ g = 20 ∨ g = 21 := by omega
        rcases this with rfl | rfl | rfl | rfl
        · exact (hk.2 j c3).1.symm
        · exact absurd ⟨rfl, Or.inr (Or.inr (Or.inl rfl))⟩ hp
        · exact absurd ⟨rfl, Or.inr (Or.inr (Or.inr (Or.inl rfl)))⟩ hp
        · exact (hk.2 j c3).2.symm
      · exact absurd ⟨rfl, Or.inl rfl⟩ hp
    · exact ot g x j c
theorem undo_l {m : Nat} {I : jI} {n : Int32} (hm : m ≤ 6) (hk : hsK0 I 1) (hn0 : 0 ≤ (I 4 0 7).toInt) (h21 : ∀ i, i < 6 → 0 ≤ (I 21 0 i).toInt ∧ (I 21 0 i).toInt ≤ 9) (hn : n.toInt ≤ 39) (hx : ∀ d : Nat, (d : Int) < n.toInt → okx m (I 22 1 d) ∧ ∀ k, k < 10 → 0 ≤ (rp m I 1 d (6 + k)).toInt) : ∀ (N F : Nat) (x : Int32) (U : jI), x.toInt + (N : Int) = n.toInt → 0 ≤ x.toInt → N < F → unI m I U x.toNatClampNeg → ∃ T, d30_7 1 n F x U = some T ∧ unI m I T n.toNatClampNeg
  | _, 0, _, _, _, _, h, _ => absurd h (by omega)
  | 0, F + 1, x, U, h, h0, _, u => by
    rw [d30_7, if_pos (show n ≤ x by rw [le_t]; omega)]
    have : x = n := eq_t.mpr (by omega)
    subst this
    exact ⟨_, rfl, u⟩
  | N + 1, F + 1, x, U, h, h0, hF, u => by
    have nx := cl_t h0
    have e := i32_inc (x := x) (by omega)
    have nx1 := cl_t (x := x + 1) (by omega)
    have xn : (x + 1).toNatClampNeg = x.toNatClampNeg + 1 := by omega
    obtain ⟨u1, u2, u3, u4⟩ := u
    obtain ⟨⟨ok1, ok2⟩, lk⟩ := hx x.toNatClampNeg (by omega)
    obtain ⟨p1, p2, p3⟩ := lg_parts ok1
    have sm := lg_same ok1
    rw [d30_7, if_neg (show ¬ n ≤ x by rw [le_t]; omega), if_neg (show ¬ (40 : Int32) ≤ x by rw [le_t]; show ¬ (40 : Int) ≤ _; omega), u3]
    have n7 : U 4 1 7 = I 4 0 7 := by rw [u4 4 1 7 (fun z => by have := z.2; omega)]; exact hk.1 7 (by decide) (by decide)
    have n18 : ∀ i, i < 6 → U 18 1 i = I 18 0 i := fun i hi => by rw [u4 18 1 i (fun z => by have := z.2; omega)]; exact (hk.2 i hi).1
    have n21 : ∀ i, i < 6 → U 21 1 i = I 21 0 i := fun i hi => by rw [u4 21 1 i (fun z => by have := z.2; omega)]; exact (hk.2 i hi).2
    obtain ⟨r, r1, -, r3⟩ := perf_c (m := m) (I := U) (dd := xdd (I 22 1 x.toNatClampNeg)) (i := xii (I 22 1 x.toNatClampNeg)) (v := xvv (I 22 1 x.toNatClampNeg)) (by omega) (fun z => by have := ok2 (Or.inl z); rw [n21 _ (by omega)]; exact h21 _ (by omega)) hm (by omega) ok2 (fun _ => ⟨by rw [n7]; exact hn0, fun k hk => by rw [← vC_l (m := m) (h := 1) (I := U) hk, u2]; exact lk k hk⟩)
    obtain ⟨c1, c2, c3, c4⟩ := r3
    have r1' : d44 1 (I 22 1 x.toNatClampNeg / 1000) (I 22 1 x.toNatClampNeg / 100 - I 22 1 x.toNatClampNeg / 100 / 10 * 10) (I 22 1 x.toNatClampNeg - I 22 1 x.toNatClampNeg / 100 * 100) U = some r := r1
    rw [r1']
    dsimp only [Option.bind_some]
    have cc1 : (1 : Int32).toInt = 1 := rfl
    refine undo_l hm hk hn0 h21 hn hx N F (x + 1) r.2 (by omega) (by omega) (by omega) ⟨?_, ?_, fun e => ?_, fun g h j hp => by rw [c4 g h j hp, u4 g h j hp]⟩
    · rw [c2, i32_add (by omega), cc1, xn, u1]; omega
    · rw [c1, u2, xn, n7]
      exact stp_ext (fun z => by
        have := ok2 (Or.inl z)
        rw [c6_at (by omega), c6_at (by omega), n18 _ (by omega), n21 _ (by omega)]
        exact ⟨rfl, rfl⟩)
    · rw [c3, u3]
      by_cases q : e = (U 4 1 15).toNatClampNeg
      · have := cl_t (x := U 4 1 15) (by omega)
        rw [if_pos q, show e = x.toNatClampNeg by omega]
        exact sm
      · rw [if_neg q]
theorem un_ml {n many : Int32} {b : Nat} (hn : 0 ≤ n.toInt ∧ n.toInt ≤ 39) (hb : n.toNatClampNeg = b) (hm : 0 < many.toInt) : ∀ (N F : Nat) (x : Int32) (J : jI), x.toInt + (N : Int) = 28 → 0 ≤ x.toInt → N < F → ∃ r, d173_29 n many F x J = some r ∧ (∀ j, r 32 0 j = if 1 + x.toNatClampNeg ≤ j ∧ j < 29 then J 32 0 (28 + 28 * b + j) else J 32 0 j) ∧ ∀ g, ¬ g = 32 → r g = J g
  | _, 0, _, _, _, _, h => absurd h (by omega)
  | 0, F + 1, x, J, hx, h0, _ => by
    have nx := cl_t h0
    rw [d173_29, if_pos (show (28 : Int32) ≤ x by rw [le_t]; show (28 : Int) ≤ _; omega)]
    exact ⟨_, rfl, fun j => by rw [if_neg (by omega)], fun _ _ => rfl⟩
  | N + 1, F + 1, x, J, hx, h0, hF => by
    have nx := cl_t h0
    have nn := cl_t hn.1
    have e := i32_inc (x := x) (by omega)
    have nx1 := cl_t (x := x + 1) (by omega)
    have xn : (x + 1).toNatClampNeg = x.toNatClampNeg + 1 := by omega
    have c28 : (28 : Int32).toInt = 28 := rfl
    have c29 : (29 : Int32).toInt = 29 := rfl
    have e1 : (28 * n).toInt = 28 * n.toInt := by rw [i32_mul (by rw [c28]; omega), c28]
    have e2 := ixa (a := 29) (x := 28 * n) (by decide) (by decide) (by omega) (by omega)
    have e3 := ixa (a := 29 + 28 * n) (x := x) (by omega) (by omega) h0 (by omega)
    have n28 := cl_t (x := 28 * n) (by omega)
    have n29 : (29 : Int32).toNatClampNeg = 29 := rfl
    have ix : Int32.toNatClampNeg ((29 + (28 * n)) + x) = 28 + 28 * b + (1 + x.toNatClampNeg) := by omega
    have iy : Int32.toNatClampNeg (1 + x) = 1 + x.toNatClampNeg := by rw [(ixa (a := 1) (by decide) (by decide) h0 (by omega)).2]; rfl
    rw [d173_29, if_neg (show ¬ (28 : Int32) ≤ x by rw [le_t]; show ¬ (28 : Int) ≤ _; omega), if_neg (show ¬ many ≤ 0 by rw [le_t]; show ¬ _ ≤ (0 : Int); omega), ix, iy]
    obtain ⟨r, r1, r2, r3⟩ := un_ml hn hb hm N F (x + 1) (jup J 32 0 (1 + x.toNatClampNeg) (J 32 0 (28 + 28 * b + (1 + x.toNatClampNeg)))) (by omega) (by omega) (by omega)
    refine ⟨r, r1, fun j => ?_, fun g h => (r3 g h).trans (jup_g h)⟩
    rw [r2, xn, jup_c, jup_c]
    by_cases c : 1 + x.toNatClampNeg ≤ j ∧ j < 29
    · rw [if_pos c]
      by_cases c2 : j = 1 + x.toNatClampNeg
      · rw [if_neg (by omega), if_pos c2, c2]
      · rw [if_pos (by omega), if_neg (by omega)]
    · rw [if_neg c, if_neg (by omega), if_neg (by omega)]
theorem undo_eq {I J : jI} (n : Int32) (hG : gG aGI I) (hJ : jJ I) (q : RD2 I J) : ∃ r r', d86 n I = some r ∧ d173 n J = some r' ∧ RD2 r.2 r'.2 := by
  have c := RD_cur hG q
  have c0 : Int32.toNatClampNeg 0 = 0 := rfl
  have z0 : (0 : Int64).toInt = 0 := rfl
  have c15 : J 32 0 0 = I 4 1 15 := c.1.1.2.2.2
  have hd := gi_deeds hG (x := 1) (by decide)
  obtain ⟨hm, hmi⟩ := mP_6 hG
  unfold d86 d173
  rw [in_i, c0, c15, t64, z0]
  by_cases h0 : n.toInt < 0
  · rw [if_pos (lt0_t.mpr h0), if_neg (show ¬ (0 ≤ n.toInt ∧ n.toInt ≤ (I 4 1 15).toInt) by omega), if_pos rfl]
    exact ⟨_, _, rfl, rfl, q⟩
  rw [if_neg (fun z => h0 (lt0_t.mp z))]
  by_cases h1 : n.toInt < (I 4 1 15).toInt
  · rw [if_pos (lt_t.mpr h1), if_pos (show 0 ≤ n.toInt ∧ n.toInt ≤ (I 4 1 15).toInt by omega), if_neg one0]
    have nn := cl_t (x := n) (by omega)
    obtain ⟨d40, dI⟩ := dN_40 hG (h := 1) (by decide)
    obtain ⟨⟨q1, q2⟩, ⟨q3, q4, q5⟩, q6, q7, q8, ⟨⟨a1, a2⟩, a3, a4, a5, a6, a7, a8⟩, q10⟩ := q
    obtain ⟨T, t1, t2, t3, t4, t5⟩ := undo_l (m := mP I) (n := n) hm ⟨a1, a2⟩ q8.1 (fun i hi => hG (21, (0, 5), (0, 5), (0, 9)) (by decide) 0 i (by simp) (by simp) (by simp) (by simp; omega)) (by omega) (fun d hd => ⟨a4 d (by omega), (a5 d (by omega)).1⟩) n.toNatClampNeg 70 0 (d29 1 0 I) (by show (0 : Int) + _ = _; omega) (by decide) (by omega) (unI_0 hm hJ.1 ⟨a1, a2⟩)
    have em : (I 4 1 15 - n).toInt = (I 4 1 15).toInt - n.toInt := i32_sub (by omega)
    obtain ⟨X, x1, x2, x3⟩ := un_ml (n := n) (many := I 4 1 15 - n) ⟨by omega, by omega⟩ rfl (by omega) 28 70 0 J (by decide) (by decide) (by decide)
    unfold d30
    rw [t1, x1]
    dsimp only [Option.bind_some]
    rw [c0] at x2
    refine ⟨_, _, rfl, rfl, ?_⟩
    show RD2 T (jup X 32 0 0 n)
    have y0 : jup X 32 0 0 n 32 0 0 = n := jup_at
    have yl : ∀ k, k < 28 → jup X 32 0 0 n 32 0 (1 + k) = J 32 0 (29 + 28 * n.toNatClampNeg + k) := fun k hk => by
      rw [jup_c, if_neg (by omega), x2, if_pos (by omega), show 28 + 28 * n.toNatClampNeg + (1 + k) = 29 + 28 * n.toNatClampNeg + k by omega]
    have yh : ∀ j, 29 ≤ j → jup X 32 0 0 n 32 0 j = J 32 0 j := fun j hj => by
      rw [jup_c, if_neg (by omega), x2, if_neg (by omega)]
    have yg : ∀ g, ¬ g = 32 → jup X 32 0 0 n g = J g := fun g hg => (jup_g hg).trans (x3 g hg)
    generalize jup X 32 0 0 n = Y at y0 yl yh yg
    have o : ∀ g x j, ¬ x = 1 → T g x j = I g x j := fun g x j a => t5 g x j (fun z => a z.1)
    have o1 : ∀ j, 6 ≤ j → j ≤ 8 → T 4 1 j = I 4 1 j := fun j a b => t5 4 1 j (fun z => by have := z.2; omega)
    have o18 : ∀ j, T 18 1 j = I 18 1 j := fun j => t5 18 1 j (fun z => by have := z.2; omega)
    have o21 : ∀ j, T 21 1 j = I 21 1 j := fun j => t5 21 1 j (fun z => by have := z.2; omega)
    have eP : mP T = mP I := by unfold mP; rw [o 4 0 6 (by decide)]
    have eD : dN T 1 = n.toNatClampNeg := by
      have := cl_t (x := T 4 1 15) (by omega)
      unfold dN
      omega
    have er : ∀ d, rp (mP I) T 1 d = rp (mP I) I 1 d := fun d => rp_cells hm (fun j _ _ => o 4 0 j (by decide)) (fun i _ => o 18 0 i (by decide)) (fun i _ => o 21 0 i (by decide)) (fun i _ => o 23 0 i (by decide)) (fun i _ => o 19 0 i (by decide)) (fun i _ => o 20 0 i (by decide)) (fun e _ => t4 e)
    refine ⟨⟨fun j a b => ?_, fun j a => ?_⟩, ⟨?_, ?_, ?_⟩, fun i hi => ⟨?_, ?_⟩, fun hz => ?_, ?_, ?_, fun k hk => ⟨fun z => ?_, fun z => ?_⟩⟩
    · rw [o 4 5 j (by decide)]; exact q1 j a b
    · rw [o 23 5 j (by decide)]; exact q2 j a
    · rw [yg 31 (by decide), o 4 0 6 (by decide)]; exact q3
    · rw [yg 31 (by decide), o 4 0 7 (by decide)]; exact q4
    · rw [yg 31 (by decide), o 4 0 8 (by decide)]; exact q5
    · rw [eP] at hi; rw [yg 33 (by decide), o 18 0 i (by decide)]; exact (q6 i hi).1
    · rw [eP] at hi; rw [yg 34 (by decide), o 21 0 i (by decide)]; exact (q6 i hi).2
    · rw [eP] at hz
      obtain ⟨z1, z2⟩ := q7 hz
      refine ⟨by rw [o 4 0 7 (by decide), o 4 0 8 (by decide)]; exact z1, fun i hi => ?_⟩
      rw [eP] at hi
      rw [o 18 0 i (by decide), o 21 0 i (by decide)]
      exact z2 i hi
    · rw [o 4 0 7 (by decide)]; exact q8
    · rw [eP]
      refine ⟨⟨fun j a b => ?_, fun i hi => ⟨?_, ?_⟩⟩, ?_, fun d hd => ?_, fun d hd => ?_, fun d hd => ?_, ?_, ?_⟩
      · rw [o1 j a b, o 4 0 j (by decide)]; exact a1 j a b
      · rw [o18, o 18 0 i (by decide)]; exact (a2 i hi).1
      · rw [o21, o 21 0 i (by decide)]; exact (a2 i hi).2
      · rw [y0]; exact eq_t.mpr (by omega)
      · rw [eD] at hd; rw [t4]; exact a4 d (by omega)
      · rw [eD] at hd; rw [er]; exact a5 d (by omega)
      · rw [eD] at hd
        rw [er, ← a6 d (by omega)]
        exact vM_ext (fun k hk => yh _ (by omega))
      · rw [eD, er, ← a6 _ (by omega)]
        exact vM_ext (fun k hk => by rw [show 0 + 1 + k = 1 + k by omega, yl k hk, show 0 + 29 + 28 * n.toNatClampNeg + k = 29 + 28 * n.toNatClampNeg + k by omega])
      · rw [eD, er]; exact t3
    · rw [o 6 0 k (by decide)] at z
      rw [yh _ (by omega)]
      exact (q10 k hk).1 z
    · rw [o 6 0 k (by decide)] at z
      rw [eP]
      exact hst_cells hm (dN_40 hG (by omega)).1 ((q10 k hk).2 z) (fun j _ _ => o 4 0 j (by decide)) (fun i _ => o 18 0 i (by decide)) (fun i _ => o 21 0 i (by decide)) (fun i _ => o 23 0 i (by decide)) (fun i _ => o 19 0 i (by decide)) (fun i _ => o 20 0 i (by decide)) (fun j _ _ => o 4 _ j (by omega)) (fun i _ => o 18 _ i (by omega)) (fun i _ => o 21 _ i (by omega)) (fun i _ => o 23 _ i (by omega)) (fun i _ => o 19 _ i (by omega)) (fun i _ => o 20 _ i (by omega)) (fun i _ => o 22 _ i (by omega)) (fun j h => yh _ (by omega))
  · rw [if_neg (fun z => h1 (lt_t.mp z))]
    by_cases h2 : n.toInt = (I 4 1 15).toInt
    · rw [if_pos (show 0 ≤ n.toInt ∧ n.toInt ≤ (I 4 1 15).toInt by omega), if_neg one0]
      have en : n = I 4 1 15 := eq_t.mpr h2
      have zz : (0 : Int32).toInt = 0 := rfl
      have em : (I 4 1 15 - n).toInt = 0 := by rw [i32_sub (by omega)]; omega
      rw [d173_29, if_neg (show ¬ (28 : Int32) ≤ 0 by decide), if_pos (show I 4 1 15 - n ≤ 0 by rw [le_t, zz]; omega)]
      dsimp only [Option.bind_some]
      refine ⟨_, _, rfl, rfl, ?_⟩
      show RD2 I (jup J 32 0 0 n)
      have : jup J 32 0 0 n = J := by
        funext g i j
        unfold jup
        by_cases w : g = 32 ∧ i = 0 ∧ j = 0
        · obtain ⟨rfl, rfl, rfl⟩ := w
          rw [if_pos ⟨rfl, rfl, rfl⟩, c15, en]
        · rw [if_neg w]
      rw [this]
      exact q
    · rw [if_neg (show ¬ (0 ≤ n.toInt ∧ n.toInt ≤ (I 4 1 15).toInt) by omega), if_pos rfl]
      exact ⟨_, _, rfl, rfl, q⟩
end
section
/-! keep, on -/
theorem cp_ml {a b : Int32} {p q : Nat} (ha : a.toInt = (p : Int)) (hb : b.toInt = (q : Int)) (hp : p ≤ 3447) (hq : q ≤ 3447) (hd : p + 1149 ≤ q ∨ q + 1149 ≤ p) : ∀ (n F : Nat) (x : Int32) (J : jI), x.toInt + (n : Int) = 1149 → 0 ≤ x.toInt → n < F → ∃ r, d174_2 a b F x J = some r ∧ (∀ j, r 32 0 j = if q + x.toNatClampNeg ≤ j ∧ j < q + 1149 then J 32 0 (p + (j - q)) else J 32 0 j) ∧ ∀ g, ¬ g = 32 → r g = J g
  | _, 0, _, _, _, _, h => absurd h (by omega)
  | 0, F + 1, x, J, hx, h0, _ => by
    have nx := cl_t h0
    rw [d174_2, if_pos (show (1149 : Int32) ≤ x by rw [le_t]; show (1149 : Int) ≤ _; omega)]
    exact ⟨_, rfl, fun j => by rw [if_neg (by omega)], fun _ _ => rfl⟩
  | n + 1, F + 1, x, J, hx, h0, hF => by
    have nx := cl_t h0
    have na := cl_t (x := a) (by omega)
    have nb := cl_t (x := b) (by omega)
    have e := i32_inc (x := x) (by omega)
    have nx1 := cl_t (x := x + 1) (by omega)
    have xn : (x + 1).toNatClampNeg = x.toNatClampNeg + 1 := by omega
    have ix : Int32.toNatClampNeg (b + x) = q + x.toNatClampNeg := by rw [(ixa (a := b) (by omega) (by omega) h0 (by omega)).2]; omega
    have iy : Int32.toNatClampNeg (a + x) = p + x.toNatClampNeg := by rw [(ixa (a := a) (by omega) (by omega) h0 (by omega)).2]; omega
    rw [d174_2, if_neg (show ¬ (1149 : Int32) ≤ x by rw [le_t]; show ¬ (1149 : Int) ≤ _; omega), ix, iy]
    obtain ⟨r, r1, r2, r3⟩ := cp_ml ha hb hp hq hd n F (x + 1) (jup J 32 0 (q + x.toNatClampNeg) (J 32 0 (p + x.toNatClampNeg))) (by omega) (by omega) (by omega)
    refine ⟨r, r1, fun j => ?_, fun g h => (r3 g h).trans (jup_g h)⟩
    rw [r2, xn, jup_c, jup_c]
    by_cases c : q + x.toNatClampNeg ≤ j ∧ j < q + 1149
    · rw [if_pos c]
      by_cases c2 : j = q + x.toNatClampNeg
      · rw [if_neg (by omega), if_pos c2, show p + (j - q) = p + x.toNatClampNeg by omega]
      · rw [if_pos (by omega), if_neg (by omega)]
    · rw [if_neg c, if_neg (by omega), if_neg (by omega)]
theorem cp_m {a b : Int32} {p q : Nat} {J : jI} (ha : a.toInt = (p : Int)) (hb : b.toInt = (q : Int)) (hp : p ≤ 3447) (hq : q ≤ 3447) (hd : p + 1149 ≤ q ∨ q + 1149 ≤ p) : ∃ r, d174 a b J = some r ∧ (∀ j, j < 1149 → r 32 0 (q + j) = J 32 0 (p + j)) ∧ (∀ j, ¬ (q ≤ j ∧ j < q + 1149) → r 32 0 j = J 32 0 j) ∧ ∀ g, ¬ g = 32 → r g = J g := by
  obtain ⟨r, r1, r2, r3⟩ := cp_ml ha hb hp hq hd 1149 1200 0 J (by decide) (by decide) (by decide)
  have c0 : Int32.toNatClampNeg 0 = 0 := rfl
  rw [c0] at r2
  unfold d174
  rw [r1]
  refine ⟨r, rfl, fun j hj => ?_, fun j hj => ?_, r3⟩
  · rw [r2, if_pos (by omega), show p + (q + j - q) = p + j by omega]
  · rw [r2, if_neg (by omega)]
noncomputable def taT (a0 a1 : Nat) (I : jI) : jI := jcpy (d29 a0 a1 I) 22 a1 22 a0 (Int32.toNatClampNeg 0) (Int32.toNatClampNeg 0) (Int32.toNatClampNeg 40)
theorem ta_at {a0 a1 : Nat} {I : jI} {g j : Nat} (h : (g = 4 ∧ 6 ≤ j ∧ j < 16) ∨ (18 ≤ g ∧ g < 22 ∧ j < 6) ∨ (g = 23 ∧ j < 10) ∨ (g = 22 ∧ j < 40)) : taT a0 a1 I g a0 j = I g a1 j := by
  unfold taT
  by_cases c : g = 22
  · subst c
    rw [ta_l, if_pos ⟨rfl, by omega⟩]
  · rw [ta_c c, if_pos ⟨rfl, by omega⟩]
theorem ta_ot {a0 a1 : Nat} {I : jI} {g x j : Nat} (h : ¬ x = a0) : taT a0 a1 I g x j = I g x j := by
  unfold taT
  by_cases c : g = 22
  · subst c
    rw [ta_l, if_neg (fun z => h z.1)]
  · rw [ta_c c, if_neg (fun z => h z.1)]
theorem d28_t {a0 a1 : Nat} {I : jI} : d28 a0 a1 I = some (taT a0 a1 I) := rfl
theorem hst_to {m : Nat} {I T J Y : jI} {h h' b b' : Nat} (hm : m ≤ 6) (hD : dN I h ≤ 40) (q : hst m I J h b) (o : ∀ g j, T g 0 j = I g 0 j) (c : ∀ g j, ((g = 4 ∧ 6 ≤ j ∧ j < 16) ∨ (18 ≤ g ∧ g < 22 ∧ j < 6) ∨ (g = 23 ∧ j < 10) ∨ (g = 22 ∧ j < 40)) → T g h' j = I g h j) (f : ∀ j, j < 1149 → Y 32 0 (b' + j) = J 32 0 (b + j)) : hst m T Y h' b' := hst_cells hm hD q (fun j _ _ => o 4 j) (fun i _ => o 18 i) (fun i _ => o 21 i) (fun i _ => o 23 i) (fun i _ => o 19 i) (fun i _ => o 20 i) (fun j a b => c 4 j (by omega)) (fun i a => c 18 i (by omega)) (fun i a => c 21 i (by omega)) (fun i a => c 23 i (by omega)) (fun i a => c 19 i (by omega)) (fun i a => c 20 i (by omega)) (fun i a => c 22 i (by omega)) f
/-- one house taken from another, in both: what of the relation needs no word -/
theorem RD_to {I T J Y : jI} {m : Nat} (e : m = mP I) (q : RD2 I J) (o : ∀ g x j, x = 0 ∨ x = 5 → ¬ g = 6 → T g x j = I g x j) (og : ∀ g, ¬ g = 32 → Y g = J g) (h1 : hst m T Y 1 0) (hk : ∀ k, k < 3 → (T 6 0 k = 0 → Y 32 0 (1149 * (k + 1)) = -1) ∧ (¬ T 6 0 k = 0 → hst m T Y (2 + k) (1149 * (k + 1)))) : RD2 T Y := by
  subst e
  have eP : mP T = mP I := by unfold mP; rw [o 4 0 6 (Or.inl rfl) (by decide)]
  obtain ⟨⟨q1, q2⟩, ⟨q3, q4, q5⟩, q6, q7, q8, -, -⟩ := q
  refine ⟨⟨fun j a b => ?_, fun j a => ?_⟩, ⟨?_, ?_, ?_⟩, fun i hi => ⟨?_, ?_⟩, fun hz => ?_, ?_, ?_, ?_⟩
  · rw [o 4 5 j (Or.inr rfl) (by decide)]; exact q1 j a b
  · rw [o 23 5 j (Or.inr rfl) (by decide)]; exact q2 j a
  · rw [og 31 (by decide), o 4 0 6 (Or.inl rfl) (by decide)]; exact q3
  · rw [og 31 (by decide), o 4 0 7 (Or.inl rfl) (by decide)]; exact q4
  · rw [og 31 (by decide), o 4 0 8 (Or.inl rfl) (by decide)]; exact q5
  · rw [eP] at hi; rw [og 33 (by decide), o 18 0 i (Or.inl rfl) (by decide)]; exact (q6 i hi).1
  · rw [eP] at hi; rw [og 34 (by decide), o 21 0 i (Or.inl rfl) (by decide)]; exact (q6 i hi).2
  · rw [eP] at hz
    obtain ⟨z1, z2⟩ := q7 hz
    refine ⟨by rw [o 4 0 7 (Or.inl rfl) (by decide), o 4 0 8 (Or.inl rfl) (by decide)]; exact z1, fun i hi => ?_⟩
    rw [eP] at hi
    rw [o 18 0 i (Or.inl rfl) (by decide), o 21 0 i (Or.inl rfl) (by decide)]
    exact z2 i hi
  · rw [o 4 0 7 (Or.inl rfl) (by decide)]; exact q8
  · rw [eP]; exact h1
  · rw [eP]; exact hk
theorem b_of {k : Int32} (h0 : 0 ≤ k.toInt) (h2 : k.toInt ≤ 2) : (1149 * (1 + k)).toInt = ((1149 * (k.toNatClampNeg + 1) : Nat) : Int) := by
  have c1 : (1 : Int32).toInt = 1 := rfl
  have c2 : (1149 : Int32).toInt = 1149 := rfl
  have nk := cl_t h0
  have e : (1 + k).toInt = 1 + k.toInt := by rw [i32_add (by omega), c1]
  rw [i32_mul (by rw [c2, e]; omega), c2, e]
  omega
theorem keep_eq {I J : jI} (k : Int32) (hG : gG aGI I) (q : RD2 I J) : ∃ r r', d87 k I = some r ∧ d175 k J = some r' ∧ r.1 = r'.1 ∧ RD2 r.2 r'.2 := by
  have c := RD_cur hG q
  have c3 : J 31 0 3 = I 4 1 6 := c.1.1.1
  have c0 : Int32.toNatClampNeg 0 = 0 := rfl
  have c15 : J 32 0 0 = I 4 1 15 := c.1.1.2.2.2
  obtain ⟨hm, hmi⟩ := mP_6 hG
  unfold d87 d175
  rw [in_i, c3]
  by_cases h0 : k.toInt < 0
  · rw [if_pos (lt0_t.mpr h0), if_neg (show ¬ ((0 : Int64).toInt ≤ k.toInt ∧ k.toInt ≤ (2 : Int64).toInt) from fun z => by have z1 : 0 ≤ k.toInt := z.1; omega), if_pos rfl]
    exact ⟨_, _, rfl, rfl, rfl, q⟩
  rw [if_neg (fun z => h0 (lt0_t.mp z))]
  by_cases h2 : k.toInt ≤ 2
  · rw [if_pos (show k < 3 by rw [lt_t]; show k.toInt < 3; omega), if_pos (show (0 : Int64).toInt ≤ k.toInt ∧ k.toInt ≤ (2 : Int64).toInt from ⟨by show 0 ≤ k.toInt; omega, h2⟩), if_neg one0]
    by_cases h3 : I 4 1 6 = 0
    · rw [if_pos h3, if_pos h3]
      exact ⟨_, _, rfl, rfl, rfl, q⟩
    · rw [if_neg h3, if_neg h3, d28_t]
      dsimp only [Option.bind_some]
      have nk := cl_t (x := k) (by omega)
      obtain ⟨Y, y1, y2, y3, y4⟩ := cp_m (a := 0) (b := 1149 * (1 + k)) (p := 0) (q := 1149 * (k.toNatClampNeg + 1)) (J := J) rfl (b_of (by omega) h2) (by decide) (by omega) (by omega)
      rw [y1, c0]
      dsimp only [Option.bind_some]
      have v1 : vp_nar .boolean 1 = 1 := rfl
      rw [v1]
      have t6 : ∀ j, jup (taT (2 + k.toNatClampNeg) 1 I) 6 0 k.toNatClampNeg 1 6 0 j = if j = k.toNatClampNeg then 1 else I 6 0 j := fun j => by rw [jup_c, ta_ot (by omega)]
      have to : ∀ g x j, ¬ g = 6 → ¬ x = 2 + k.toNatClampNeg → jup (taT (2 + k.toNatClampNeg) 1 I) 6 0 k.toNatClampNeg 1 g x j = I g x j := fun g x j a b => by rw [jup_g a, ta_ot b]
      have tt : ∀ g j, ((g = 4 ∧ 6 ≤ j ∧ j < 16) ∨ (18 ≤ g ∧ g < 22 ∧ j < 6) ∨ (g = 23 ∧ j < 10) ∨ (g = 22 ∧ j < 40)) → jup (taT (2 + k.toNatClampNeg) 1 I) 6 0 k.toNatClampNeg 1 g (2 + k.toNatClampNeg) j = I g 1 j := fun g j h => by rw [jup_g (by omega), ta_at h]
      generalize jup (taT (2 + k.toNatClampNeg) 1 I) 6 0 k.toNatClampNeg 1 = T at t6 to tt
      refine ⟨_, _, rfl, rfl, ?_, ?_⟩
      · show T 4 1 15 = Y 32 0 0
        rw [to 4 1 15 (by decide) (by omega), y3 0 (by omega), c15]
      · show RD2 T Y
        have t0 : ∀ g j, ¬ g = 6 → T g 0 j = I g 0 j := fun g j a => to g 0 j a (by omega)
        have q' := q
        obtain ⟨-, -, -, -, -, qh, qk⟩ := q'
        have sm : ∀ x b, ¬ x = 2 + k.toNatClampNeg → x ≤ 5 → (∀ j, j < 1149 → Y 32 0 (b + j) = J 32 0 (b + j)) → hst (mP I) I J x b → hst (mP I) T Y x b := fun x b hx hx5 hf z => hst_cells hm (dN_40 hG hx5).1 z (fun j _ _ => t0 4 j (by decide)) (fun i _ => t0 18 i (by decide)) (fun i _ => t0 21 i (by decide)) (fun i _ => t0 23 i (by decide)) (fun i _ => t0 19 i (by decide)) (fun i _ => t0 20 i (by decide)) (fun j _ _ => to 4 x j (by decide) hx) (fun i _ => to 18 x i (by decide) hx) (fun i _ => to 21 x i (by decide) hx) (fun i _ => to 23 x i (by decide) hx) (fun i _ => to 19 x i (by decide) hx) (fun i _ => to 20 x i (by decide) hx) (fun i _ => to 22 x i (by decide) hx) hf
        refine RD_to rfl q (fun g x j hx hg => to g x j hg (by omega)) y4 (sm 1 0 (by omega) (by decide) (fun j hj => y3 _ (by omega)) qh) (fun k' hk' => ⟨fun z => ?_, fun z => ?_⟩)
        · rw [t6] at z
          by_cases e : k' = k.toNatClampNeg
          · rw [if_pos e] at z; exact absurd z one0
          · rw [if_neg e] at z
            rw [y3 _ (by omega)]
            exact (qk k' hk').1 z
        · by_cases e : k' = k.toNatClampNeg
          · subst e
            exact hst_cells hm (dN_40 hG (by decide)).1 qh (fun j _ _ => t0 4 j (by decide)) (fun i _ => t0 18 i (by decide)) (fun i _ => t0 21 i (by decide)) (fun i _ => t0 23 i (by decide)) (fun i _ => t0 19 i (by decide)) (fun i _ => t0 20 i (by decide)) (fun j a b => tt 4 j (by omega)) (fun i a => tt 18 i (by omega)) (fun i a => tt 21 i (by omega)) (fun i a => tt 23 i (by omega)) (fun i a => tt 19 i (by omega)) (fun i a => tt 20 i (by omega)) (fun i a => tt 22 i (by omega)) y2
          · rw [t6, if_neg e] at z
            exact sm (2 + k') _ (by omega) (by omega) (fun j hj => y3 _ (by omega)) ((qk k' hk').2 z)
  · rw [if_neg (show ¬ k < 3 by rw [lt_t]; show ¬ k.toInt < 3; omega), if_neg (show ¬ ((0 : Int64).toInt ≤ k.toInt ∧ k.toInt ≤ (2 : Int64).toInt) from fun z => h2 z.2), if_pos rfl]
    exact ⟨_, _, rfl, rfl, rfl, q⟩
theorem RD_find {I J : jI} {w w' : Int32} (hG : gG aGI I) (q : RD2 I J) : RD2 (d113 w I).2 (d126 w' J).2 := RD_cells hG q (fun g i j ⟨r, hr, e, _⟩ => by
    simp only [rdC, List.mem_cons, List.not_mem_nil, or_false] at hr
    have : ¬ g = 0 ∧ ¬ g = 12 := by rcases hr with rfl | rfl | rfl | rfl | rfl | rfl | rfl | rfl | rfl <;> simp at e <;> omega
    rw [find_c this.1 this.2]) (fun g i j ⟨r, hr, e, a1, a2, a3, a4⟩ => by
    simp only [rdM, List.mem_cons, List.not_mem_nil, or_false] at hr
    rcases hr with rfl | rfl | rfl | rfl
    · have e : 31 = g := e
      subst e
      have : ¬ j = 13 := by simp at a3 a4; omega
      unfold d126
      dsimp only
      rw [jup_g (show ¬ 31 = 39 by decide), jup_of (fun z => this z.2.2)]
    · have e : 32 = g := e
      subst e
      rw [find_m (by decide) (by decide)]
    · have e : 33 = g := e
      subst e
      rw [find_m (by decide) (by decide)]
    · have e : 34 = g := e
      subst e
      rw [find_m (by decide) (by decide)])
theorem on_eq {I J : jI} (k : Int32) (hG : gG aGI I) (q : RD2 I J) : ∃ r r', d88 k I = some r ∧ d176 k J = some r' ∧ r.1 = r'.1 ∧ RD2 r.2 r'.2 := by
  have c0 : Int32.toNatClampNeg 0 = 0 := rfl
  obtain ⟨hm, hmi⟩ := mP_6 hG
  unfold d88 d176
  rw [in_i]
  by_cases h0 : k.toInt < 0
  · rw [if_pos (lt0_t.mpr h0), if_neg (show ¬ ((0 : Int64).toInt ≤ k.toInt ∧ k.toInt ≤ (2 : Int64).toInt) from fun z => by have z1 : 0 ≤ k.toInt := z.1; omega), if_pos rfl]
    exact ⟨_, _, rfl, rfl, rfl, q⟩
  rw [if_neg (fun z => h0 (lt0_t.mp z))]
  by_cases h2 : k.toInt ≤ 2
  · rw [if_pos (show k < 3 by rw [lt_t]; show k.toInt < 3; omega), if_pos (show (0 : Int64).toInt ≤ k.toInt ∧ k.toInt ≤ (2 : Int64).toInt from ⟨by show 0 ≤ k.toInt; omega, h2⟩), if_neg one0]
    have nk := cl_t (x := k) (by omega)
    have bk := b_of (k := k) (by omega) h2
    have e0 : Int32.toNatClampNeg (1149 * (1 + k) + 0) = 1149 * (k.toNatClampNeg + 1) := by
      have := cl_t (x := 1149 * (1 + k)) (by omega)
      rw [Int32.add_zero]
      omega
    rw [e0]
    have q' := q
    obtain ⟨-, -, -, -, -, qh, qk⟩ := q'
    by_cases h3 : I 6 0 k.toNatClampNeg = 0
    · rw [if_pos h3, if_neg (show ¬ 0 ≤ J 32 0 (1149 * (k.toNatClampNeg + 1)) by rw [(qk _ (by omega)).1 h3]; decide)]
      exact ⟨_, _, rfl, rfl, rfl, RD_find hG q⟩
    · have qq := (qk _ (by omega)).2 h3
      have h15 := qq.2.1
      have hd := gi_deeds hG (x := 2 + k.toNatClampNeg) (by omega)
      rw [if_neg h3, if_pos (show 0 ≤ J 32 0 (1149 * (k.toNatClampNeg + 1)) by rw [h15, le0_t]; exact hd.1), d28_t]
      dsimp only [Option.bind_some]
      obtain ⟨Y, y1, y2, y3, y4⟩ := cp_m (a := 1149 * (1 + k)) (b := 0) (p := 1149 * (k.toNatClampNeg + 1)) (q := 0) (J := J) bk rfl (by omega) (by decide) (by omega)
      rw [y1, c0]
      dsimp only [Option.bind_some]
      have to : ∀ g x j, ¬ x = 1 → taT 1 (2 + k.toNatClampNeg) I g x j = I g x j := fun g x j b => ta_ot b
      have tt : ∀ g j, ((g = 4 ∧ 6 ≤ j ∧ j < 16) ∨ (18 ≤ g ∧ g < 22 ∧ j < 6) ∨ (g = 23 ∧ j < 10) ∨ (g = 22 ∧ j < 40)) → taT 1 (2 + k.toNatClampNeg) I g 1 j = I g (2 + k.toNatClampNeg) j := fun g j h => ta_at h
      generalize taT 1 (2 + k.toNatClampNeg) I = T at to tt
      have y20 : Y 32 0 0 = J 32 0 (1149 * (k.toNatClampNeg + 1)) := y2 0 (by decide)
      refine ⟨_, _, rfl, rfl, ?_, ?_⟩
      · show T 4 1 15 = Y 32 0 0
        rw [tt 4 15 (by omega), y20, h15]
      · show RD2 T Y
        refine RD_to rfl q (fun g x j hx _ => to g x j (by omega)) y4 (hst_to hm (dN_40 hG (by omega)).1 qq (fun g j => to g 0 j (by decide)) tt (fun j hj => by rw [show 0 + j = j by omega]; have := y2 j hj; rw [show 0 + j = j by omega] at this; exact this)) (fun k' hk' => ⟨fun z => ?_, fun z => ?_⟩)
        · rw [to 6 0 k' (by decide)] at z
          rw [y3 _ (by omega)]
          exact (qk k' hk').1 z
        · rw [to 6 0 k' (by decide)] at z
          exact hst_to hm (dN_40 hG (by omega)).1 ((qk k' hk').2 z) (fun g j => to g 0 j (by decide)) (fun g j _ => to g _ j (by omega)) (fun j hj => y3 _ (by omega))
  · rw [if_neg (show ¬ k < 3 by rw [lt_t]; show ¬ k.toInt < 3; omega), if_neg (show ¬ ((0 : Int64).toInt ≤ k.toInt ∧ k.toInt ≤ (2 : Int64).toInt) from fun z => h2 z.2), if_pos rfl]
    exact ⟨_, _, rfl, rfl, rfl, q⟩
end
section
/-! lots -/
theorem use_tw {d m : Nat} {as : List jV} {I I' : jI} {L L' : jL} {v : Option jV} {K : jK} (h : jWPM d m as (I, L) K) (hp : ∀ (d : Nat) (k : jK), k v (I', L') → jPM d m as (I, L) k) : K v (I', L') := by
  have t := jWPM_comb d m as (I, L) K (fun w σ => w = v ∧ σ = (I', L')) h (hp _ _ ⟨rfl, rfl⟩)
  refine Classical.byContradiction (fun n => jWPM_no _ _ _ _ (jWPM_mono _ _ _ _ _ _ (fun w σ q => n ?_) t))
  obtain ⟨q1, q2, q3⟩ := q
  subst q2
  subst q3
  exact q1
noncomputable def lWk (K : jI) : Option jI := (d167 0 K).bind fun r => some r.2
noncomputable def lSh (i : Int32) (w : Int32) (K : jI) : Option jI := if w = 3 then (if K 32 0 (Int32.toNatClampNeg (17 + i)) ≤ 1 then lWk K else some (jup K 32 0 (Int32.toNatClampNeg (17 + i)) ((K 32 0 (Int32.toNatClampNeg (17 + i))) - 1))) else lWk K
noncomputable def lbM (i w : Int32) (K : jI) : Option jI := if 2 ≤ w then lSh i w K else (d164 0 i 1 K).bind fun r => if r = 0 then lSh i w K else some (d165 0 i 1 K).2
theorem lots_ml {n : Int32} {F : Nat} {lot lt : Int64} {x w i : Int32} {J : jI} (hl : lot * 48271 - lot * 48271 / 2147483647 * 2147483647 = lt) (hw : Int64.toInt32 (lt / 8 - lt / 8 / 4 * 4) = w) (hi : Int64.toInt32 (lt - lt / Int32.toInt64 (J 31 0 3) * Int32.toInt64 (J 31 0 3)) = i) : d207_58 n (F + 1) lot x J = if n ≤ x then some J else (d163 J).bind fun r => (lbM i w r).bind fun Y => d207_58 n F lt (x + 1) Y := by
  rw [d207_58, hl, hw, hi]
  by_cases h : n ≤ x
  · rw [if_pos h, if_pos h]
  · rw [if_neg h, if_neg h]
    cases d163 J with
    | none => rfl
    | some r =>
      dsimp only [Option.bind_some]
      have wk : (lWk r).bind (fun Y => d207_58 n F lt (x + 1) Y) = (d167 0 r).bind fun r3 => d207_58 n F lt (x + 1) r3.2 := by
        unfold lWk
        cases d167 0 r <;> rfl
      have sh : (lSh i w r).bind (fun Y => d207_58 n F lt (x + 1) Y) = if w = 3 then (if r 32 0 (Int32.toNatClampNeg (17 + i)) ≤ 1 then ((d167 0 r).bind fun r3 => d207_58 n F lt (x + 1) r3.2) else d207_58 n F lt (x + 1) (jup r 32 0 (Int32.toNatClampNeg (17 + i)) ((r 32 0 (Int32.toNatClampNeg (17 + i))) - 1))) else ((d167 0 r).bind fun r2 => d207_58 n F lt (x + 1) r2.2) := by
        unfold lSh
        by_cases a : w = 3
        · rw [if_pos a, if_pos a]
          by_cases b : r 32 0 (Int32.toNatClampNeg (17 + i)) ≤ 1
          · rw [if_pos b, if_pos b, wk]
          · rw [if_neg b, if_neg b]; rfl
        · rw [if_neg a, if_neg a, wk]
      unfold lbM
      by_cases a : 2 ≤ w
      · rw [if_pos a, if_pos a, sh]
      · rw [if_neg a, if_neg a]
        cases d164 0 i 1 r with
        | none => rfl
        | some z =>
          dsimp only [Option.bind_some]
          by_cases b : z = 0
          · rw [if_pos b, if_pos b, sh]
          · rw [if_neg b, if_neg b]; rfl
theorem room_k {I K : jI} {m : Nat} {i n : Int32} (hm : m ≤ 6) (k1 : vM m K 1 = vC m I 1) (k8 : K 31 0 2 = I 4 1 8) (k33 : K 33 0 i.toNatClampNeg = I 18 1 i.toNatClampNeg) (hi0 : 0 ≤ i.toInt) (hi : i.toNatClampNeg < m) : d164 0 i n K = some (if I 4 1 8 < smV 10 0 (I 23 1) 0 + n * gotS (I 18 1 i.toNatClampNeg) (I 19 1 i.toNatClampNeg) then 0 else 1) := by
  have ni := cl_t hi0
  have at_ : ∀ k, vK m k → K 32 0 (1 + k) = vC m I 1 k := fun k hk => by rw [← k1, vM_k hk]
  have s : smV 10 0 (fun k => K 32 0 (0 + 7 + k)) 0 = smV 10 0 (I 23 1) 0 := smV_ext 10 0 _ _ 0 (fun j _ b => by show K 32 0 (0 + 7 + j) = _; rw [show 0 + 7 + j = 1 + (6 + j) by omega, at_ _ (vK_l (by omega)), vC_l (by omega)])
  unfold d164
  rw [sum_m (a := 0) ⟨by decide, by decide⟩ (b := 0) rfl, s]
  dsimp only [Option.bind_some]
  have i17 : Int32.toNatClampNeg ((0 + 17) + i) = 17 + i.toNatClampNeg := by rw [(ixa (a := 0 + 17) (by decide) (by decide) hi0 (by omega)).2]; rfl
  unfold d155
  rw [i17, got_m, k33, k8, show 17 + i.toNatClampNeg = 1 + (16 + i.toNatClampNeg) by omega, at_ _ (vK_g hi hm), vC_g hi hm]
  by_cases c : I 4 1 8 < smV 10 0 (I 23 1) 0 + n * gotS (I 18 1 i.toNatClampNeg) (I 19 1 i.toNatClampNeg)
  · rw [if_pos c, if_pos c]
  · rw [if_neg c, if_neg c]
theorem way_c {w : Int32} : (1 < w) ↔ (2 ≤ w) := by
  have c1 : (1 : Int32).toInt = 1 := rfl
  have c2 : (2 : Int32).toInt = 2 := rfl
  rw [lt_t, le_t, c1, c2]
  omega
theorem lot_eq {I J : jI} {i w : Int32} (hG : gG aGI I) (q : RD2 I J) (hD : (I 4 1 15).toInt ≤ 39) (h0 : 0 ≤ i.toInt) (h1 : i.toInt < (I 4 1 6).toInt) : ∃ T K Y, (if 1 < w then (if w = 3 then (if d34 1 i I = 0 then (d44 1 1 0 0 I).bind fun r => some r.2 else (d44 1 2 i 0 I).bind fun r => some r.2) else (d44 1 1 0 0 I).bind fun r => some r.2) else (d33 1 i 1 I).bind fun r4 => if r4 = 0 then (if w = 3 then (if d34 1 i I = 0 then (d44 1 1 0 0 I).bind fun r => some r.2 else (d44 1 2 i 0 I).bind fun r => some r.2) else (d44 1 1 0 0 I).bind fun r => some r.2) else (d44 1 0 i 1 I).bind fun r => some r.2) = some T ∧ d163 J = some K ∧ lbM i w K = some Y ∧ RD2 T Y ∧ (T 4 1 15 = I 4 1 15 + 1 ∧ T 4 1 6 = I 4 1 6) := by
  have c := RD_cur hG q
  obtain ⟨hm, hmi⟩ := mP_6 hG
  obtain ⟨hi, hi5, hm0⟩ := RD_hi c ⟨h0, h1⟩
  have c1 : (1 : Int32).toInt = 1 := rfl
  have gb := (c.2.2.2.1.2.1 _ hi).1
  have i17 : Int32.toNatClampNeg (17 + i) = 17 + i.toNatClampNeg := by rw [(ixa (a := 17) (by decide) (by decide) h0 (by omega)).2]; rfl
  have week : ∃ T K Y, ((d44 1 1 0 0 I).bind fun r => some r.2) = some T ∧ d163 J = some K ∧ lWk K = some Y ∧ RD2 T Y ∧ (T 4 1 15 = I 4 1 15 + 1 ∧ T 4 1 6 = I 4 1 6) := by
    obtain ⟨r, K, e1, e2, ⟨k1, ⟨k31, k33, k34⟩, k28⟩, e3, e5, e4⟩ := deed_eq' (dd := 1) (i := 0) (v := 0) hG q (by omega) (by decide) (by decide) (by decide) (by decide) (by decide) (by decide) (fun z => absurd z (by decide)) (fun z => absurd z (by decide)) (fun z => absurd z (by decide))
    obtain ⟨s, s1, s2, s3, s4, s5⟩ := week_m c.1.1.2.1 k31 k1
    unfold lWk
    refine ⟨r.2, K, s.2, by rw [e1]; rfl, e2, by rw [s1]; rfl, e4 _ s3 s4 s5, e5⟩
  have kall : ∀ K, d163 J = some K → vM (mP I) K 1 = vC (mP I) I 1 ∧ (K 31 = J 31 ∧ K 33 = J 33 ∧ K 34 = J 34) := by
    obtain ⟨r, K, e1, e2, ⟨k1, k2, k28⟩, e3, e5, e4⟩ := deed_eq' (dd := 1) (i := 0) (v := 0) hG q (by omega) (by decide) (by decide) (by decide) (by decide) (by decide) (by decide) (fun z => absurd z (by decide)) (fun z => absurd z (by decide)) (fun z => absurd z (by decide))
    intro K' e
    rw [e2] at e
    cases e
    exact ⟨k1, k2⟩
  have shr_ : ∃ T K Y, (if w = 3 then (if d34 1 i I = 0 then (d44 1 1 0 0 I).bind fun r => some r.2 else (d44 1 2 i 0 I).bind fun r => some r.2) else (d44 1 1 0 0 I).bind fun r => some r.2) = some T ∧ d163 J = some K ∧ lSh i w K = some Y ∧ RD2 T Y ∧ (T 4 1 15 = I 4 1 15 + 1 ∧ T 4 1 6 = I 4 1 6) := by
    by_cases hw : w = 3
    · rw [if_pos hw]
      unfold d34 lSh
      by_cases hg : (I 19 1 i.toNatClampNeg).toInt ≤ 1
      · rw [if_pos (show I 19 1 i.toNatClampNeg ≤ 1 by rw [le_t, c1]; exact hg), if_pos rfl]
        obtain ⟨T, K, Y, a1, a2, a3, a4⟩ := week
        refine ⟨T, K, Y, a1, a2, ?_, a4⟩
        have kk := (kall K a2).1
        rw [if_pos hw, i17, if_pos (show K 32 0 (17 + i.toNatClampNeg) ≤ 1 by rw [show 17 + i.toNatClampNeg = 1 + (16 + i.toNatClampNeg) by omega, ← vM_k (m := mP I) (b := 1) (I := K) (vK_g hi hm), kk, vC_g hi hm, le_t, c1]; exact hg)]
        exact a3
      · rw [if_neg (show ¬ I 19 1 i.toNatClampNeg ≤ 1 by rw [le_t, c1]; exact hg), if_neg one0]
        obtain ⟨r, K, e1, e2, ⟨k1, ⟨k31, k33, k34⟩, k28⟩, e3, e5, e4⟩ := deed_eq' (dd := 2) (i := i) (v := 0) hG q (by omega) (by decide) (by decide) h0 hi5 (by decide) (by decide) (fun _ => hi) (fun z => absurd z (by decide)) (fun _ => by omega)
        have kg : K 32 0 (17 + i.toNatClampNeg) = vC (mP I) I 1 (16 + i.toNatClampNeg) := by
          rw [← k1, vM_k (vK_g hi hm), show 1 + (16 + i.toNatClampNeg) = 17 + i.toNatClampNeg by omega]
        refine ⟨r.2, K, _, by rw [e1]; rfl, e2, by rw [if_pos hw, i17, if_neg (show ¬ K 32 0 (17 + i.toNatClampNeg) ≤ 1 by rw [kg, vC_g hi hm, le_t, c1]; exact hg)], e4 _ ?_ (fun j hj => by rw [jup_c, if_neg (by omega)]) (fun g h => jup_g h), e5⟩
        show vM (mP I) (jup K 32 0 (17 + i.toNatClampNeg) (K 32 0 (17 + i.toNatClampNeg) - 1)) 1 = upS (vM (mP I) K 1) (16 + i.toNatClampNeg) (vM (mP I) K 1 (16 + i.toNatClampNeg) - 1)
        rw [kg, ← k1, show 17 + i.toNatClampNeg = 1 + (16 + i.toNatClampNeg) by omega, vM_up (vK_g hi hm)]
    · rw [if_neg hw]
      unfold lSh
      obtain ⟨T, K, Y, a1, a2, a3, a4⟩ := week
      exact ⟨T, K, Y, a1, a2, by rw [if_neg hw]; exact a3, a4⟩
  unfold lbM
  by_cases hw : 1 < w
  · rw [if_pos hw]
    obtain ⟨T, K, Y, a1, a2, a3, a4⟩ := shr_
    exact ⟨T, K, Y, a1, a2, by rw [if_pos (way_c.mp hw)]; exact a3, a4⟩
  · have hw' : ¬ 2 ≤ w := fun z => hw (way_c.mpr z)
    rw [if_neg hw, room_c]
    dsimp only [Option.bind_some]
    have rk : ∀ K, d163 J = some K → d164 0 i 1 K = some (if I 4 1 8 < smV 10 0 (I 23 1) 0 + 1 * gotS (I 18 1 i.toNatClampNeg) (I 19 1 i.toNatClampNeg) then 0 else 1) := fun K e => by
      obtain ⟨k1, k31, k33, k34⟩ := kall K e
      exact room_k hm k1 (by rw [k31]; exact c.1.1.2.2.1) (by rw [k33]; exact (c.1.2.2.1 _ hi).2.1) h0 hi
    by_cases h3 : I 4 1 8 < smV 10 0 (I 23 1) 0 + 1 * gotS (I 18 1 i.toNatClampNeg) (I 19 1 i.toNatClampNeg)
    · rw [if_pos h3, if_pos rfl]
      obtain ⟨T, K, Y, a1, a2, a3, a4⟩ := shr_
      refine ⟨T, K, Y, a1, a2, ?_, a4⟩
      rw [if_neg hw', rk K a2, if_pos h3]
      dsimp only [Option.bind_some]
      rw [if_pos rfl]
      exact a3
    · rw [if_neg h3, if_neg one0]
      obtain ⟨r, K, e1, e2, ⟨k1, ⟨k31, k33, k34⟩, k28⟩, e3, e5, e4⟩ := deed_eq' (dd := 0) (i := i) (v := 1) hG q (by omega) (by decide) (by decide) h0 hi5 (by decide) (by decide) (fun _ => hi) (fun _ => buy_l hG q hi ⟨by decide, by decide⟩ h3) (fun z => absurd z (by decide))
      obtain ⟨-, -, -, af⟩ := c.1
      have f14 := hG (4, (0, 5), (14, 14), (0, 1)) (by decide) 1 14 (by simp) (by simp) (by simp) (by simp)
      have K6 : K 32 0 6 = I 4 1 14 := by rw [k28 6 (by decide) (by decide)]; exact af 5 (by decide)
      have K34 : K 34 0 i.toNatClampNeg = I 21 1 i.toNatClampNeg := by rw [k34]; exact (c.1.2.2.1 _ hi).2.2
      obtain ⟨b1, b2, b3, b4⟩ := buy_m (m := mP I) (a := 0) (i := i) (n := 1) ⟨by decide, by decide⟩ (b := 0) rfl (I := K) hm h0 hi (by
        rw [show 0 + 6 = 6 from rfl, K6]
        have : (I 4 1 14).toInt = 0 ∨ (I 4 1 14).toInt = 1 := by have a : 0 ≤ (I 4 1 14).toInt := f14.1; have b : (I 4 1 14).toInt ≤ 1 := f14.2; omega
        rcases this with z | z
        · exact Or.inl (eq_t.mpr z)
        · exact Or.inr (eq_t.mpr z)) (by
        rw [K34]
        exact hG (21, (0, 5), (0, 5), (0, 9)) (by decide) 1 i.toNatClampNeg (by simp) (by simp) (by simp) (by simp; omega))
      refine ⟨r.2, K, _, by rw [e1]; rfl, e2, ?_, e4 _ ?_ (fun j hj => b3 j (by omega)) b4, e5⟩
      · rw [if_neg hw', rk K e2, if_neg h3]
        dsimp only [Option.bind_some]
        rw [if_neg one0]
      · unfold stp
        rw [if_pos rfl, ← k33, ← k34]
        exact b2
theorem lots_l {n : Int32} (hn : n.toInt ≤ 20) : ∀ (N F F' : Nat) (lot : Int64) (x : Int32) (I J : jI), x.toInt + (N : Int) = n.toInt → 0 ≤ x.toInt → N < F → N < F' → 0 ≤ lot.toInt → lot.toInt ≤ 2147483647 → gG aGI I → jJ I → RD2 I J → ¬ I 4 1 6 = 0 → (I 4 1 15).toInt + (N : Int) ≤ 40 → ∃ T Y, d105_60 n F lot x I = some T ∧ d207_58 n F' lot x J = some Y ∧ gG aGI T ∧ RD2 T Y
  | _, 0, _, _, _, _, _, _, _, h, _, _, _, _, _, _, _, _ => absurd h (by omega)
  | _, _, 0, _, _, _, _, _, _, _, h, _, _, _, _, _, _, _ => absurd h (by omega)
  | 0, F + 1, F' + 1, lot, x, I, J, h, h0, _, _, _, _, hG, _, q, _, _ => by
    rw [d105_60, d207_58, if_pos (show n ≤ x by rw [le_t]; omega), if_pos (show n ≤ x by rw [le_t]; omega)]
    exact ⟨_, _, rfl, rfl, hG, q⟩
  | N + 1, F + 1, F' + 1, lot, x, I, J, h, h0, hF, hF', l0, l1, hG, hJ, q, hp, hD => by
    have e := i32_inc (x := x) (by omega)
    have hd := gi_deeds hG (x := 1) (by decide)
    have hpk := gi_packets hG
    have p0 : ¬ (I 4 1 6).toInt = 0 := fun z => hp (eq_t.mpr (by rw [z]; rfl))
    obtain ⟨lt, hl⟩ : ∃ lt, lot * 48271 - lot * 48271 / 2147483647 * 2147483647 = lt := ⟨_, rfl⟩
    have ln := lot_n' l0 l1
    rw [hl] at ln
    have lx := lot_x ln.1 ln.2 (p := I 4 1 6) (by omega)
    obtain ⟨i, hi⟩ : ∃ i, Int64.toInt32 (lt - lt / Int32.toInt64 (I 4 1 6) * Int32.toInt64 (I 4 1 6)) = i := ⟨_, rfl⟩
    obtain ⟨w, hw⟩ : ∃ w, Int64.toInt32 (lt / 8 - lt / 8 / 4 * 4) = w := ⟨_, rfl⟩
    rw [hi] at lx
    have c := RD_cur hG q
    have c3 : J 31 0 3 = I 4 1 6 := c.1.1.1
    obtain ⟨T, K, Y, t1, t2, t3, t4, t5, t6⟩ := lot_eq (i := i) (w := w) hG q (by omega) lx.1 (by omega)
    have tc : d47 1 lt I = some T := by
      unfold d47
      rw [if_neg hp, hw, hi]
      exact t1
    have g := use_tw (L := fun _ _ _ => 0) (L' := fun _ _ _ => 0) (hd_performLot (d := 8) (Nat.le_refl _) hG hJ ln.1 ln.2 (k := fun _ σ => gG aGI σ.1 ∧ jJ σ.1) (fun _ _ a b => ⟨a, b⟩)) (v := none) (I' := T) (fun d k hk => D47 tc hk)
    have g1 : gG aGI T := g.1
    have g2 : jJ T := g.2
    have cc1 : (1 : Int32).toInt = 1 := rfl
    have n15 : (T 4 1 15).toInt = (I 4 1 15).toInt + 1 := by rw [t5, i32_add (by omega), cc1]
    rw [d105_60, if_neg (show ¬ n ≤ x by rw [le_t]; omega), lots_ml (i := i) hl hw (by rw [c3]; exact hi), if_neg (show ¬ n ≤ x by rw [le_t]; omega), t2, hl, tc]
    dsimp only [Option.bind_some]
    rw [t3]
    dsimp only [Option.bind_some]
    exact lots_l hn N F F' lt (x + 1) T Y (by omega) (by omega) (by omega) (by omega) ln.1 (by omega) g1 g2 t4 (by rw [t6]; exact hp) (by omega)
theorem lots_eq {I J : jI} (n sd : Int32) (hG : gG aGI I) (hJ : jJ I) (q : RD2 I J) : ∃ r r', d105 n sd I = some r ∧ d207 n sd J = some r' ∧ r.1 = r'.1 ∧ RD2 r.2 r'.2 := by
  have c := RD_cur hG q
  have c3 : J 31 0 3 = I 4 1 6 := c.1.1.1
  have c0 : Int32.toNatClampNeg 0 = 0 := rfl
  have c15 : J 32 0 0 = I 4 1 15 := c.1.1.2.2.2
  have hd := gi_deeds hG (x := 1) (by decide)
  have c40 : (40 : Int32).toInt = 40 := rfl
  have z1 : (1 : Int32).toInt = 1 := rfl
  have z20 : (20 : Int32).toInt = 20 := rfl
  have zm : (2147483647 : Int64).toInt = 2147483647 := rfl
  have rs := i32_rng sd
  unfold d105 d207
  rw [in_i, in_i, c3, c0, c15]
  by_cases h1 : 1 ≤ n.toInt ∧ n.toInt ≤ 20
  · rw [if_neg (show ¬ n < 1 by rw [lt_t, z1]; omega), if_neg (show ¬ (20 : Int32) < n by rw [lt_t, z20]; omega), if_pos (show (1 : Int64).toInt ≤ n.toInt ∧ n.toInt ≤ (20 : Int64).toInt from h1), if_neg one0]
    by_cases h2 : 1 ≤ sd.toInt ∧ sd.toInt ≤ 2147483646
    · rw [if_neg (show ¬ sd < 1 by rw [lt_t, z1]; omega), if_pos (show lg_cmp (Int32.toInt64 sd) 2147483647 < 0 from cmp_lt.mpr (by rw [t64, zm]; omega)), if_pos (show (1 : Int64).toInt ≤ sd.toInt ∧ sd.toInt ≤ (2147483646 : Int64).toInt from h2), if_neg one0]
      by_cases h3 : I 4 1 6 = 0
      · rw [if_pos h3, if_pos h3]
        exact ⟨_, _, rfl, rfl, rfl, q⟩
      · rw [if_neg h3, if_neg h3]
        have en : (I 4 1 15 + n).toInt = (I 4 1 15).toInt + n.toInt := i32_add (by omega)
        unfold d32
        by_cases h4 : (I 4 1 15).toInt + n.toInt ≤ 40
        · have nn := cl_t (x := n) (by omega)
          rw [if_neg (show ¬ (40 : Int32) < I 4 1 15 + n by rw [lt_t, en, c40]; omega), if_neg one0, if_pos (show I 4 1 15 + n ≤ 40 by rw [le_t, en, c40]; omega)]
          obtain ⟨T, Y, t1, t2, t3, t4⟩ := lots_l h1.2 n.toNatClampNeg 70 70 (Int32.toInt64 sd) 0 I J (by show (0 : Int) + _ = _; omega) (by decide) (by omega) (by omega) (by rw [t64]; omega) (by rw [t64]; omega) hG hJ q h3 (by omega)
          rw [t1, t2]
          dsimp only [Option.bind_some]
          have cT := RD_cur t3 t4
          have s : smV 10 0 (fun k => Y 32 0 (0 + 7 + k)) 0 = smV 10 0 (T 23 1) 0 := smV_ext 10 0 _ _ 0 (fun j _ b => by show Y 32 0 (0 + 7 + j) = _; rw [show 0 + 7 + j = 7 + j by omega]; exact cT.1.2.1 j (by omega))
          rw [sum_c, sum_m (a := 0) ⟨by decide, by decide⟩ (b := 0) rfl, s]
          exact ⟨_, _, rfl, rfl, rfl, t4⟩
        · rw [if_pos (show (40 : Int32) < I 4 1 15 + n by rw [lt_t, en, c40]; omega), if_pos rfl, if_neg (show ¬ I 4 1 15 + n ≤ 40 by rw [le_t, en, c40]; omega)]
          exact ⟨_, _, rfl, rfl, rfl, q⟩
    · rw [if_neg (show ¬ ((1 : Int64).toInt ≤ sd.toInt ∧ sd.toInt ≤ (2147483646 : Int64).toInt) from h2), if_pos rfl]
      by_cases h3 : sd < 1
      · rw [if_pos h3]
        exact ⟨_, _, rfl, rfl, rfl, q⟩
      · rw [if_neg h3, if_neg (show ¬ lg_cmp (Int32.toInt64 sd) 2147483647 < 0 from fun z => by
          have z := cmp_lt.mp z
          rw [t64, zm] at z
          rw [lt_t, z1] at h3
          exact h2 ⟨by omega, by omega⟩)]
        exact ⟨_, _, rfl, rfl, rfl, q⟩
  · rw [if_neg (show ¬ ((1 : Int64).toInt ≤ n.toInt ∧ n.toInt ≤ (20 : Int64).toInt) from h1), if_pos rfl]
    by_cases h3 : n < 1
    · rw [if_pos h3]
      exact ⟨_, _, rfl, rfl, rfl, q⟩
    · rw [if_neg h3, if_pos (show (20 : Int32) < n by rw [lt_t, z20]; rw [lt_t, z1] at h3; omega)]
      exact ⟨_, _, rfl, rfl, rfl, q⟩
end
section
/-! house, fault: the relation -/
theorem bind3 {A B C E : Type} (a : Option A) (f : A → Option B) (g : B → Option C) (h : C → E) : (a.bind fun x => (f x).bind fun y => (g y).bind fun z => some (h z)) = ((a.bind fun x => (f x).bind fun y => g y).bind fun z => some (h z)) := by
  cases a with
  | none => rfl
  | some x =>
    show ((f x).bind fun y => (g y).bind fun z => some (h z)) = (((f x).bind fun y => g y).bind fun z => some (h z))
    cases f x with
    | none => rfl
    | some y => rfl
theorem read_gR {t : Int32} {I : jI} {r : Int32 × jI} (hG : gG aGI I) (ht : 0 ≤ t.toInt ∧ t.toInt ≤ 3) (e : d58 t I = some r) : gG aGI r.2 ∧ gR cK77.2.2.1 I (fun _ _ _ => 0) r.2 (fun _ _ _ => 0) := by
  have u := use_tr (L := fun _ _ _ => 0) (L' := fun _ _ _ => 0) cT77 (as := [.inr (3, 0), .inr (2, 0), .inl (.inl t)]) ⟨⟨rfl, rfl, by simp, by simp⟩, ⟨rfl, rfl, by simp, by simp⟩, ⟨rfl, ht.1, ht.2⟩, trivial⟩ hG (fun d k hk => D58 e hk)
  exact ⟨u.1, u.2.1⟩
theorem readm_gR {t : Int32} {J : jI} {r : Int32 × jI} (hG : gG aGI J) (ht : 0 ≤ t.toInt ∧ t.toInt ≤ 3) (hl : 0 ≤ (J 37 0 t.toNatClampNeg).toInt) (e : d148 t J = some r) : gR (rdW ++ mfW) J (fun _ _ _ => 0) r.2 (fun _ _ _ => 0) := by
  have e' : d149 t J = some r := by
    unfold d149
    rw [isText_t, if_pos ht, if_neg one0, if_pos (le0_t.mpr hl), e]
    rfl
  have u := use_tr (L := fun _ _ _ => 0) (L' := fun _ _ _ => 0) hK_mfault (as := [.inr (31, 0), .inl (.inl t)]) ⟨⟨rfl, rfl, by simp, by simp⟩, ⟨rfl, (i32_rng _).1, (i32_rng _).2⟩, trivial⟩ hG (fun d k hk => D149 e' hk)
  exact u.2.1
theorem RD_rd {I I' J J' : jI} {L L' L2 L2' : jL} {W W2 : List aR} (hG : gG aGI I) (q : RD2 I J) (hw : rApart W rdC = true) (h : gR W I L I' L') (hw2 : rApart W2 rdM = true) (h2 : gR W2 J L2 J' L2') : RD2 I' J' := RD_cells hG q (fun g i j z => (h g i j (rApart_of hw z)).1) (fun g i j z => (h2 g i j (rApart_of hw2 z)).1)
theorem RD_new {I' J' T X : jI} {m : Nat} (m1 : 1 ≤ m) (m6 : m ≤ 6) (rp_ : RP I' J' m) (rn : RN I' J') (hC : hoC I' T) (hM : hoM J' X m) (z1 : ∀ j, 9 ≤ j → j < 15 → I' 4 5 j = 0) (z2 : ∀ j, j < 10 → I' 23 5 j = 0) (z3 : I' 4 5 15 = 0) : RD2 T X := by
  obtain ⟨p1, p2, p3⟩ := rp_
  obtain ⟨n1, n2, n3, n4⟩ := rn
  obtain ⟨cx, c6_, c2, cg⟩ := hC
  obtain ⟨⟨x1, x2, x3⟩, xi, xz, xk, xg⟩ := hM
  have eP : mP T = m := by
    have h6 : T 4 0 6 = I' 4 5 6 := (cx 0 (by decide)).1 6 (by decide) (by decide)
    have := cl_t (x := T 4 0 6) (by rw [h6]; omega)
    unfold mP
    rw [h6] at this ⊢
    omega
  have t4 : ∀ x j, x ≤ 1 → 6 ≤ j → j < 16 → T 4 x j = I' 4 5 j := fun x j hx a b => (cx x hx).1 j a b
  have tg : ∀ x g j, x ≤ 1 → 18 ≤ g → g < 22 → j < 6 → T g x j = I' g 5 j := fun x g j hx a b c => (cx x hx).2.1 g j a b c
  have t23 : ∀ x j, x ≤ 1 → j < 10 → T 23 x j = I' 23 5 j := fun x j hx a => (cx x hx).2.2.1 j a
  have d0 : dN T 1 = 0 := by
    unfold dN
    rw [t4 1 15 (by decide) (by decide) (by decide), z3]
    rfl
  have v0 : vC m T 1 = vC m T 0 := vC_ext m6 (fun j a b => by rw [t4 1 j (by decide) (by omega) (by omega), t4 0 j (by decide) (by omega) (by omega)]) (fun j a => by rw [t23 1 j (by decide) a, t23 0 j (by decide) a]) (fun j a => by rw [tg 1 19 j (by decide) (by decide) (by decide) a, tg 0 19 j (by decide) (by decide) (by decide) a]) (fun j a => by rw [tg 1 20 j (by decide) (by decide) (by decide) a, tg 0 20 j (by decide) (by decide) (by decide) a])
  have vf : ∀ k, k < 6 → vC m T 0 k = 0 := fun k hk => by rw [vC_f hk, t4 0 _ (by decide) (by omega) (by omega), z1 _ (by omega) (by omega)]
  have vl : ∀ k, k < 10 → vC m T 0 (6 + k) = 0 := fun k hk => by rw [vC_l hk, t23 0 k (by decide) hk, z2 k hk]
  have vg : ∀ i, i < m → vC m T 0 (16 + i) = I' 19 5 i := fun i hi => by rw [vC_g hi m6, tg 0 19 i (by decide) (by decide) (by decide) (by omega)]
  have vp : ∀ i, i < m → vC m T 0 (22 + i) = I' 20 5 i := fun i hi => by rw [vC_p hi m6, tg 0 20 i (by decide) (by decide) (by decide) (by omega)]
  have lk : lOK m 0 (vC m T 0) := by
    refine ⟨fun k hk => by rw [vl k hk]; decide, ?_, fun i hi => ?_, by rw [vf 3 (by decide)]; decide, by rw [vf 3 (by decide)]; decide⟩
    · refine Int.le_trans (smI_le 10 (lrd (vC m T 0)) (fun _ => 0) 0 (fun j _ b => ?_)) (by decide)
      show (vC m T 0 (6 + j)).toInt ≤ _
      rw [vl j (by omega)]
      exact Int.le_refl _
    · obtain ⟨-, -, q1, q2, -⟩ := p3 i hi
      rw [vg i hi, vp i hi]
      exact ⟨q1, q2⟩
  have vm : vM m X 1 = vC m T 0 := by
    funext k
    by_cases c : vK m k
    · rw [vM_k c]
      by_cases c6 : k < 6
      · rw [vf k c6, xz _ (by omega)]
      by_cases c16 : k < 16
      · obtain ⟨j, rfl⟩ : ∃ j, k = 6 + j := ⟨k - 6, by omega⟩
        rw [vl j (by omega), xz _ (by omega)]
      by_cases c22 : k < 22
      · obtain ⟨j, rfl⟩ : ∃ j, k = 16 + j := ⟨k - 16, by omega⟩
        have hj : j < m := by rcases c with c | c | c <;> omega
        rw [vg j hj, show 1 + (16 + j) = 17 + j by omega, (xi j hj).2.1, (p3 j hj).1.2.1]
      · obtain ⟨j, rfl⟩ : ∃ j, k = 22 + j := ⟨k - 22, by omega⟩
        have hj : j < m := by rcases c with c | c | c <;> omega
        rw [vp j hj, show 1 + (22 + j) = 23 + j by omega, (xi j hj).2.2, (p3 j hj).1.2.2.1]
    · rw [vM_n c, vC_n c]
  have r0 : rp m T 1 0 = vC m T 0 := rfl
  refine ⟨⟨fun j a b => ?_, fun j a => ?_⟩, ⟨?_, ?_, ?_⟩, fun i hi => ⟨?_, ?_⟩, fun _ => ⟨?_, fun i hi => ?_⟩, ?_, ?_, fun k hk => ⟨fun _ => ?_, fun z => absurd (c6_ k hk) z⟩⟩
  · rw [c2 4 5 j (by decide) (by decide)]; exact z1 j a b
  · rw [c2 23 5 j (by decide) (by decide)]; exact z2 j a
  · rw [x3, t4 0 6 (by decide) (by decide) (by decide)]; exact eq_t.mpr (p2.trans p1.symm)
  · rw [x1, t4 0 7 (by decide) (by decide) (by decide)]; exact n1.symm
  · rw [x2, t4 0 8 (by decide) (by decide) (by decide)]; exact n2.symm
  · rw [eP] at hi; rw [(xi i hi).1.1, tg 0 18 i (by decide) (by decide) (by decide) (by omega)]; exact (p3 i hi).1.1.symm
  · rw [eP] at hi; rw [(xi i hi).1.2, tg 0 21 i (by decide) (by decide) (by decide) (by omega)]; exact (p3 i hi).1.2.2.2.symm
  · rw [t4 0 7 (by decide) (by decide) (by decide), t4 0 8 (by decide) (by decide) (by decide)]; exact ⟨n3, n4⟩
  · rw [eP] at hi
    obtain ⟨-, q1, -, -, q4⟩ := p3 i hi
    rw [tg 0 18 i (by decide) (by decide) (by decide) (by omega), tg 0 21 i (by decide) (by decide) (by decide) (by omega)]
    exact ⟨q1, q4⟩
  · rw [t4 0 7 (by decide) (by decide) (by decide)]; omega
  · rw [eP]
    refine ⟨⟨fun j a b => ?_, fun i hi => ⟨?_, ?_⟩⟩, ?_, fun d hd => ?_, fun d hd => ?_, fun d hd => ?_, ?_, ?_⟩
    · rw [t4 1 j (by decide) a (by omega), t4 0 j (by decide) a (by omega)]
    · rw [tg 1 18 i (by decide) (by decide) (by decide) hi, tg 0 18 i (by decide) (by decide) (by decide) hi]
    · rw [tg 1 21 i (by decide) (by decide) (by decide) hi, tg 0 21 i (by decide) (by decide) (by decide) hi]
    · rw [xz 0 (by decide), t4 1 15 (by decide) (by decide) (by decide), z3]
    · rw [d0] at hd; exact absurd hd (Nat.not_lt_zero d)
    · rw [d0] at hd
      have : d = 0 := by omega
      subst this
      rw [r0]; exact lk
    · rw [d0] at hd; exact absurd hd (Nat.not_lt_zero d)
    · rw [d0, r0]; exact vm
    · rw [d0, r0]; exact v0
  · have : k = 0 ∨ k = 1 ∨ k = 2 := by omega
    rcases this with rfl | rfl | rfl
    · exact xk.1
    · exact xk.2.1
    · exact xk.2.2
theorem house_eq2 {I J : jI} (t : Int32) (hG : gG aGI I) (hGJ : gG aGI J) (hJ : jJ I) (h : RT I) (h37 : J 37 = I 37) (h38 : J 38 = I 38) (q : RD2 I J) : ∃ r r', d77 t I = some r ∧ d150 t J = some r' ∧ r.1 = r'.1 ∧ RD2 r.2 r'.2 := by
  unfold d77 d150
  rw [names_t, isText_t]
  by_cases h1 : 0 ≤ t.toInt ∧ t.toInt ≤ 3
  · have hb : ¬ (if 0 ≤ t.toInt ∧ t.toInt ≤ 3 then (1 : Int32) else 0) = 0 := by rw [b01]; exact fun z => z h1
    rw [if_neg hb, if_neg hb, h37]
    have nt := cl_t h1.1
    have hs := gi_tsz hG (t := t.toNatClampNeg) (by omega)
    have et : I 37 0 t.toNatClampNeg = I 16 0 t.toNatClampNeg := h.1 _ (by omega)
    rw [et]
    unfold d16g2
    have cm : (-1 : Int32).toInt = -1 := rfl
    by_cases h2 : I 16 0 t.toNatClampNeg = -1
    · have h2' : (I 16 0 t.toNatClampNeg).toInt = -1 := by rw [h2]; rfl
      rw [if_pos h2, if_pos rfl, if_neg (by rw [le0_t]; omega)]
      exact ⟨_, _, rfl, rfl, rfl, RD_find hG q⟩
    · have h2' : ¬ (I 16 0 t.toNatClampNeg).toInt = -1 := fun z => h2 (eq_t.mpr (by rw [z, cm]))
      rw [if_neg h2, if_neg (by decide), if_pos (by rw [le0_t]; omega)]
      obtain ⟨v, I', J', a1, a2, a3⟩ := read_eq (I := I) (J := J) h1 (by rw [h37]; exact et) (fun j hj => by rw [h38]; exact h.2 _ j (by omega) hj) ⟨by omega, hs.2⟩
      obtain ⟨g1, g2⟩ := read_gR hG h1 a1
      have g3 := readm_gR hGJ h1 (by rw [h37, et]; omega) a2
      have rr : RD2 I' J' := RD_rd hG q (by decide) g2 (by decide) g3
      rw [a1, a2]
      dsimp only [Option.bind_some]
      rcases a3 with ⟨rfl, m, m1, m6, rp, rn⟩ | a3
      · rw [if_pos rfl, if_pos rfl]
        obtain ⟨T, t1, t2⟩ := hoC_of (I' := I')
        obtain ⟨X, x1, x2⟩ := hoM_of (J' := J') m6 rp.2.1
        have eC := bind3 (d28 0 5 I') (fun r2 => d28 1 0 r2) (fun r3 => d77_77 70 0 r3) (fun r4 => (r4 4 1 6, r4))
        rw [t1] at eC
        have eM := bind3 (d150_39 1200 0 J') (fun r2 => d150_85 1200 0 (hoN r2)) (fun r3 => d150_169 1200 1 r3) (fun r4 => (r4 31 0 3, r4))
        rw [x1] at eM
        have z15 : I' 4 5 15 = 0 := by
          have g2' : gR cK77.2.2.1 I (fun _ _ _ => 0) I' (fun _ _ _ => 0) := g2
          rw [(g2' 4 5 15 (rApart_of (W' := rdC) (by decide) ⟨(4, (5, 5), (9, 15)), by decide, rfl, by simp, by simp, by simp, by simp⟩)).1]
          exact hJ.2.1
        have rn2 := RD_new m1 m6 rp rn t2 x2 rr.1.1 rr.1.2 z15
        refine ⟨(T 4 1 6, T), (X 31 0 3, X), eC, eM, ?_, rn2⟩
        show T 4 1 6 = X 31 0 3
        rw [(t2.1 1 (by decide)).1 6 (by decide) (by decide), x2.1.2.2]
        exact eq_t.mpr (rp.1.trans rp.2.1.symm)
      · rw [if_neg (ne9 a3), if_neg (ne9 a3)]
        exact ⟨_, _, rfl, rfl, rfl, rr⟩
  · have hb : (if 0 ≤ t.toInt ∧ t.toInt ≤ 3 then (1 : Int32) else 0) = 0 := by rw [b01]; exact h1
    rw [if_pos hb, if_pos hb]
    exact ⟨_, _, rfl, rfl, rfl, q⟩
end
