/-! the interval run is sound: first, numbers and symbols -/
noncomputable def vv (v : Nat → Int) (a : aL) : Int := v a.1 + a.2
noncomputable def cmpI (a b : Int) : Int32 := if a > b then 1 else if a = b then 0 else -1
noncomputable def gE (v : Nat → Int) (E : aE) : Prop := v 0 = 0 ∧ 0 < alen E ∧ ∀ s q, aat E s = some q → q.1 ≤ v s ∧ v s ≤ q.2
noncomputable def gV (v : Nat → Int) (n : Nat) : aV → jV → Prop
  | .inl (.inl (.inl a)), .inl (.inl x) => a.1 < n ∧ x.toInt = vv v a
  | .inl (.inl (.inr q)), .inl (.inl x) => q.1.1 < n ∧ q.2.1 < n ∧ x = cmpI (vv v q.1) (vv v q.2)
  | .inl (.inr a), .inl (.inr x) => a.1 < n ∧ x.toInt = vv v a
  | .inr a, .inr q => a.2.1 < n ∧ q.1 = a.1 ∧ (q.2 : Int) = vv v a.2
  | _, _ => False
noncomputable def gL (v : Nat → Int) (n : Nat) : List (Option aV) → List (Option jV) → Prop
  | [], [] => True
  | a :: s, x :: t => (∀ w, a = some w → ∃ y, x = some y ∧ gV v n w y) ∧ gL v n s t
  | _, _ => False
noncomputable def gS (v : Nat → Int) (n : Nat) : List aV → List jV → Prop
  | [], [] => True
  | a :: s, x :: t => gV v n a x ∧ gS v n s t
  | _, _ => False
noncomputable def gH (v : Nat → Int) (n : Nat) (ch : aH) (I : Nat → Nat → Nat → Int32) : Prop := ∀ e ∈ ch, (e.1.2.1.1 < n ∧ e.1.2.2.1 < n ∧ e.2.1 < n) ∧ ∀ i j : Nat, (i : Int) = vv v e.1.2.1 → (j : Int) = vv v e.1.2.2 → (I e.1.1 i j).toInt = vv v e.2
noncomputable def gG (gi : List aG) (I : Nat → Nat → Nat → Int32) : Prop := ∀ e ∈ gi, ∀ i j : Nat, e.2.1.1 ≤ i → (i : Int) ≤ e.2.1.2 → e.2.2.1.1 ≤ j → (j : Int) ≤ e.2.2.1.2 → e.2.2.2.1 ≤ (I e.1 i j).toInt ∧ (I e.1 i j).toInt ≤ e.2.2.2.2
noncomputable def gI (W : List aR) (g i j : Nat) : Prop := ∃ r ∈ W, r.1 = g ∧ r.2.1.1 ≤ i ∧ (i : Int) ≤ r.2.1.2 ∧ r.2.2.1 ≤ j ∧ (j : Int) ≤ r.2.2.2
noncomputable def gR (W : List aR) (I0 : Nat → Nat → Nat → Int32) (L0 : Nat → Nat → Nat → Int64) (I : Nat → Nat → Nat → Int32) (L : Nat → Nat → Nat → Int64) : Prop := ∀ g i j, ¬ gI W g i j → I g i j = I0 g i j ∧ L g i j = L0 g i j
noncomputable def gX (n : Nat) (v v' : Nat → Int) : Prop := ∀ s, s < n → v' s = v s
theorem gX.rf {n : Nat} {v : Nat → Int} : gX n v v := fun _ _ => rfl
theorem gX.tr {n m : Nat} {v v' v'' : Nat → Int} (h : gX n v v') (h' : gX m v' v'') (hn : n ≤ m) : gX n v v'' := fun s hs => (h' s (Nat.lt_of_lt_of_le hs hn)).trans (h s hs)
theorem gX_vv {n : Nat} {v v' : Nat → Int} (h : gX n v v') {a : aL} (ha : a.1 < n) : vv v' a = vv v a := by unfold vv; rw [h a.1 ha]
theorem aat_lt : ∀ {E : aE} {s : Nat} {q : Int × Int}, aat E s = some q → s < alen E
  | [], _, _, h => by cases h
  | _ :: t, 0, _, _ => by simp [alen]
  | _ :: t, s + 1, q, h => by have := aat_lt (E := t) h; simp [alen]; omega
theorem alen_app : ∀ (E : aE) (q : Int × Int), alen (E ++ [q]) = alen E + 1
  | [], _ => rfl
  | _ :: t, q => by show alen (t ++ [q]) + 1 = _; rw [alen_app t q]; rfl
theorem aat_app : ∀ (E : aE) (q : Int × Int) {s : Nat} {r : Int × Int}, aat (E ++ [q]) s = some r → (s = alen E ∧ r = q) ∨ aat E s = some r
  | [], q, 0, r, h => by left; exact ⟨rfl, by cases h; rfl⟩
  | [], q, s + 1, r, h => by cases h
  | p :: t, q, 0, r, h => Or.inr h
  | p :: t, q, s + 1, r, h => by
    rcases aat_app t q (s := s) (r := r) h with ⟨h1, h2⟩ | h1
    · left; exact ⟨by rw [h1]; rfl, h2⟩
    · exact Or.inr h1
theorem aset_len : ∀ (E : aE) (s : Nat) (q : Int × Int), alen (aset E s q) = alen E
  | [], _, _ => rfl
  | _ :: _, 0, _ => rfl
  | _ :: t, s + 1, q => by show _ + 1 = _ + 1; rw [aset_len t s q]
theorem aset_at : ∀ (E : aE) (s : Nat) (q : Int × Int) {s' : Nat} {r : Int × Int}, aat (aset E s q) s' = some r → (s' = s ∧ r = q) ∨ aat E s' = some r
  | [], _, _, _, _, h => by cases h
  | _ :: _, 0, _, 0, _, h => by left; exact ⟨rfl, by cases h; rfl⟩
  | _ :: _, 0, _, s' + 1, _, h => Or.inr h
  | _ :: _, s + 1, _, 0, _, h => Or.inr h
  | _ :: t, s + 1, q, s' + 1, r, h => by
    rcases aset_at t s q (s' := s') (r := r) h with ⟨h1, h2⟩ | h1
    · left; exact ⟨by rw [h1], h2⟩
    · exact Or.inr h1
theorem aiv_ok {v : Nat → Int} {E : aE} {a : aL} {q : Int × Int} (hE : gE v E) (h : aiv E a = some q) : q.1 ≤ vv v a ∧ vv v a ≤ q.2 ∧ a.1 < alen E := by
  unfold aiv at h
  cases hq : aat E a.1 with
  | none => rw [hq] at h; cases h
  | some p =>
    rw [hq] at h
    cases h
    have h1 := hE.2.2 a.1 p hq
    refine ⟨?_, ?_, aat_lt hq⟩ <;> (unfold vv; simp only; omega)
theorem gE_set {v : Nat → Int} {E : aE} {s : Nat} {q : Int × Int} (hE : gE v E) (h : q.1 ≤ v s ∧ v s ≤ q.2) : gE v (aset E s q) := by
  refine ⟨hE.1, by rw [aset_len]; exact hE.2.1, fun s' r hr => ?_⟩
  rcases aset_at E s q hr with ⟨h1, h2⟩ | h1
  · rw [h1, h2]; exact h
  · exact hE.2.2 s' r h1
theorem ahi_ok {v : Nat → Int} {E : aE} {s : Nat} {h : Int} (hE : gE v E) (hv : v s ≤ h) : gE v (ahi E s h) ∧ alen (ahi E s h) = alen E := by
  unfold ahi
  cases hq : aat E s with
  | none => exact ⟨hE, rfl⟩
  | some p =>
    have h1 := hE.2.2 s p hq
    exact ⟨gE_set hE ⟨h1.1, by simp only; omega⟩, aset_len _ _ _⟩
theorem alo_ok {v : Nat → Int} {E : aE} {s : Nat} {l : Int} (hE : gE v E) (hv : l ≤ v s) : gE v (alo E s l) ∧ alen (alo E s l) = alen E := by
  unfold alo
  cases hq : aat E s with
  | none => exact ⟨hE, rfl⟩
  | some p =>
    have h1 := hE.2.2 s p hq
    exact ⟨gE_set hE ⟨by simp only; omega, h1.2⟩, aset_len _ _ _⟩
theorem ale_ok {v : Nat → Int} {E : aE} {a b : aL} (hE : gE v E) (h : vv v a ≤ vv v b) : ∃ E', ale a b E = some E' ∧ gE v E' ∧ alen E' = alen E := by
  unfold ale
  cases hp : aiv E a with
  | none => exact ⟨E, rfl, hE, rfl⟩
  | some p =>
    cases hq : aiv E b with
    | none => exact ⟨E, rfl, hE, rfl⟩
    | some q =>
      have h1 := aiv_ok hE hp
      have h2 := aiv_ok hE hq
      simp only
      rw [if_neg (by omega)]
      have h3 := ahi_ok (s := a.1) (h := q.2 - a.2) hE (by unfold vv at h h1 h2; omega)
      have h4 := alo_ok (s := b.1) (l := p.1 - b.2) h3.1 (by unfold vv at h h1 h2; omega)
      exact ⟨_, rfl, h4.1, h4.2.trans h3.2⟩
theorem ane_ok {v : Nat → Int} {E : aE} {a b : aL} (hE : gE v E) (h : vv v a ≠ vv v b) : ∃ E', ane a b E = some E' ∧ gE v E' ∧ alen E' = alen E := by
  unfold ane
  cases hp : aiv E a with
  | none => exact ⟨E, rfl, hE, rfl⟩
  | some p =>
    cases hq : aiv E b with
    | none => exact ⟨E, rfl, hE, rfl⟩
    | some q =>
      have h1 := aiv_ok hE hp
      have h2 := aiv_ok hE hq
      simp only
      rw [if_neg (by omega)]
      split
      · split
        · exact ⟨_, rfl, alo_ok hE (by unfold vv at h h1 h2; omega)⟩
        · split
          · exact ⟨_, rfl, ahi_ok hE (by unfold vv at h h1 h2; omega)⟩
          · exact ⟨_, rfl, hE, rfl⟩
      · split
        · split
          · exact ⟨_, rfl, alo_ok hE (by unfold vv at h h1 h2; omega)⟩
          · split
            · exact ⟨_, rfl, ahi_ok hE (by unfold vv at h h1 h2; omega)⟩
            · exact ⟨_, rfl, hE, rfl⟩
        · exact ⟨_, rfl, hE, rfl⟩
noncomputable def hop (op : Nat) (x y : Int) : Prop := match op with
  | 0 => x = y
  | 1 => ¬ x = y
  | 2 => x < y
  | 3 => y ≤ x
  | 4 => y < x
  | _ => x ≤ y
theorem aas_ok {v : Nat → Int} {E : aE} {a b : aL} (op : Nat) (hE : gE v E) (h : hop op (vv v a) (vv v b)) : ∃ E', aas op a b E = some E' ∧ gE v E' ∧ alen E' = alen E := by
  match op, h with
  | 0, h =>
    have h : vv v a = vv v b := h
    obtain ⟨E1, e1, e2, e3⟩ := ale_ok hE (a := a) (b := b) (by omega)
    obtain ⟨E2, f1, f2, f3⟩ := ale_ok e2 (a := b) (b := a) (by omega)
    exact ⟨E2, by show (match ale a b E with | some E' => ale b a E' | none => none) = _; rw [e1]; exact f1, f2, f3.trans e3⟩
  | 1, h => exact ane_ok hE h
  | 2, h => exact ale_ok hE (by have h : vv v a < vv v b := h; unfold vv at h ⊢; simp only; omega)
  | 3, h => exact ale_ok hE h
  | 4, h => exact ale_ok hE (by have h : vv v b < vv v a := h; unfold vv at h ⊢; simp only; omega)
  | n + 5, h => exact ale_ok hE h
theorem hop_ng (op : Nat) (x y : Int) (h : ¬ hop op x y) : hop (ang op) x y := by
  match op, h with
  | 0, h => exact h
  | 1, h => exact Classical.not_not.mp h
  | 2, h => exact Int.not_lt.mp h
  | 3, h => exact Int.not_le.mp h
  | 4, h => exact Int.not_lt.mp h
  | n + 5, h => exact Int.not_le.mp h
/-- a fresh symbol -/
noncomputable def vup (v : Nat → Int) (n : Nat) (z : Int) : Nat → Int := fun s => if s = n then z else v s
theorem vup_x {v : Nat → Int} {n : Nat} {z : Int} : gX n v (vup v n z) := fun s hs => by unfold vup; rw [if_neg (by omega)]
theorem vup_n {v : Nat → Int} {n : Nat} {z : Int} : vv (vup v n z) (n, 0) = z := by unfold vv vup; simp
theorem gE_new {v : Nat → Int} {E : aE} {q : Int × Int} {z : Int} (hE : gE v E) (h : q.1 ≤ z ∧ z ≤ q.2) : gE (vup v (alen E) z) (E ++ [q]) := by
  refine ⟨?_, by rw [alen_app]; omega, fun s r hr => ?_⟩
  · unfold vup; rw [if_neg (by have := hE.2.1; omega)]; exact hE.1
  · rcases aat_app E q hr with ⟨h1, h2⟩ | h1
    · rw [h1, h2]; unfold vup; rw [if_pos rfl]; exact h
    · unfold vup; rw [if_neg (by have := aat_lt h1; omega)]; exact hE.2.2 s r h1
theorem gV_x {v v' : Nat → Int} {n n' : Nat} (hx : gX n v v') (hn : n ≤ n') : ∀ {a : aV} {x : jV}, gV v n a x → gV v' n' a x
  | .inl (.inl (.inl a)), .inl (.inl x), h => ⟨Nat.lt_of_lt_of_le h.1 hn, by rw [gX_vv hx h.1]; exact h.2⟩
  | .inl (.inl (.inr q)), .inl (.inl x), h => ⟨Nat.lt_of_lt_of_le h.1 hn, Nat.lt_of_lt_of_le h.2.1 hn, by rw [gX_vv hx h.1, gX_vv hx h.2.1]; exact h.2.2⟩
  | .inl (.inr a), .inl (.inr x), h => ⟨Nat.lt_of_lt_of_le h.1 hn, by rw [gX_vv hx h.1]; exact h.2⟩
  | .inr a, .inr q, h => ⟨Nat.lt_of_lt_of_le h.1 hn, h.2.1, by rw [gX_vv hx h.1]; exact h.2.2⟩
theorem gL_x {v v' : Nat → Int} {n n' : Nat} (hx : gX n v v') (hn : n ≤ n') : ∀ {a : List (Option aV)} {x : List (Option jV)}, gL v n a x → gL v' n' a x
  | [], [], _ => trivial
  | a :: s, x :: t, h => ⟨fun w hw => by obtain ⟨y, h1, h2⟩ := h.1 w hw; exact ⟨y, h1, gV_x hx hn h2⟩, gL_x hx hn h.2⟩
theorem gS_x {v v' : Nat → Int} {n n' : Nat} (hx : gX n v v') (hn : n ≤ n') : ∀ {a : List aV} {x : List jV}, gS v n a x → gS v' n' a x
  | [], [], _ => trivial
  | a :: s, x :: t, h => ⟨gV_x hx hn h.1, gS_x hx hn h.2⟩
theorem gH_x {v v' : Nat → Int} {n n' : Nat} (hx : gX n v v') (hn : n ≤ n') {ch : aH} {I : Nat → Nat → Nat → Int32} (h : gH v n ch I) : gH v' n' ch I := fun e he => by
  obtain ⟨⟨h1, h2, h3⟩, h4⟩ := h e he
  exact ⟨⟨Nat.lt_of_lt_of_le h1 hn, Nat.lt_of_lt_of_le h2 hn, Nat.lt_of_lt_of_le h3 hn⟩, fun i j hi hj => by rw [gX_vv hx h3]; exact h4 i j (by rw [hi, gX_vv hx h1]) (by rw [hj, gX_vv hx h2])⟩
/-- numbers of the machine -/
theorem i32_rng (x : Int32) : -2147483648 ≤ x.toInt ∧ x.toInt ≤ 2147483647 := by
  have h1 := Int32.le_toInt x
  have h2 := Int32.toInt_lt x
  omega
theorem i64_rng (x : Int64) : -9223372036854775808 ≤ x.toInt ∧ x.toInt ≤ 9223372036854775807 := by
  have h1 := Int64.le_toInt x
  have h2 := Int64.toInt_lt x
  omega
theorem bm32 {z : Int} (h : -2147483648 ≤ z ∧ z ≤ 2147483647) : z.bmod (2 ^ 32) = z := Int.bmod_eq_of_le (by simp; omega) (by simp; omega)
theorem bm64 {z : Int} (h : -9223372036854775808 ≤ z ∧ z ≤ 9223372036854775807) : z.bmod (2 ^ 64) = z := Int.bmod_eq_of_le (by simp; omega) (by simp; omega)
theorem i32_add {x y : Int32} (h : -2147483648 ≤ x.toInt + y.toInt ∧ x.toInt + y.toInt ≤ 2147483647) : (x + y).toInt = x.toInt + y.toInt := by rw [Int32.toInt_add, bm32 h]
theorem i32_sub {x y : Int32} (h : -2147483648 ≤ x.toInt - y.toInt ∧ x.toInt - y.toInt ≤ 2147483647) : (x - y).toInt = x.toInt - y.toInt := by rw [Int32.toInt_sub, bm32 h]
theorem i32_mul {x y : Int32} (h : -2147483648 ≤ x.toInt * y.toInt ∧ x.toInt * y.toInt ≤ 2147483647) : (x * y).toInt = x.toInt * y.toInt := by rw [Int32.toInt_mul, bm32 h]
theorem i64_add {x y : Int64} (h : -9223372036854775808 ≤ x.toInt + y.toInt ∧ x.toInt + y.toInt ≤ 9223372036854775807) : (x + y).toInt = x.toInt + y.toInt := by rw [Int64.toInt_add, bm64 h]
theorem i64_mul {x y : Int64} (h : -9223372036854775808 ≤ x.toInt * y.toInt ∧ x.toInt * y.toInt ≤ 9223372036854775807) : (x * y).toInt = x.toInt * y.toInt := by rw [Int64.toInt_mul, bm64 h]
theorem td_rng (x y : Int) (hy : 1 ≤ y) : (0 ≤ x → 0 ≤ x.tdiv y ∧ x.tdiv y ≤ x) ∧ (x ≤ 0 → x ≤ x.tdiv y ∧ x.tdiv y ≤ 0) := by
  constructor
  · intro hx
    rw [Int.tdiv_eq_ediv_of_nonneg hx]
    exact ⟨Int.ediv_nonneg hx (by omega), Int.ediv_le_self _ hx⟩
  · intro hx
    have h1 : x.tdiv y = -((-x).tdiv y) := by rw [Int.neg_tdiv]; omega
    rw [h1, Int.tdiv_eq_ediv_of_nonneg (show 0 ≤ -x by omega)]
    have h2 := Int.ediv_nonneg (show 0 ≤ -x by omega) (show 0 ≤ y by omega)
    have h3 := Int.ediv_le_self y (show 0 ≤ -x by omega)
    omega
theorem td_mono {x x' y : Int} (hy : 1 ≤ y) (h : x ≤ x') : x.tdiv y ≤ x'.tdiv y := by
  rcases Int.le_total 0 x with h0 | h0
  · rw [Int.tdiv_eq_ediv_of_nonneg h0, Int.tdiv_eq_ediv_of_nonneg (show 0 ≤ x' by omega)]
    exact Int.ediv_le_ediv (by omega) h
  · rcases Int.le_total 0 x' with h1 | h1
    · have := ((td_rng x y hy).2 h0).2
      have := ((td_rng x' y hy).1 h1).1
      omega
    · have e1 : x.tdiv y = -((-x).tdiv y) := by rw [Int.neg_tdiv]; omega
      have e2 : x'.tdiv y = -((-x').tdiv y) := by rw [Int.neg_tdiv]; omega
      rw [e1, e2, Int.tdiv_eq_ediv_of_nonneg (show 0 ≤ -x by omega), Int.tdiv_eq_ediv_of_nonneg (show 0 ≤ -x' by omega)]
      have := Int.ediv_le_ediv (show 0 < y by omega) (show -x' ≤ -x by omega)
      omega
theorem tm_rng (x y : Int) (hy : 1 ≤ y) : (0 ≤ x → 0 ≤ x.tmod y ∧ x.tmod y ≤ x ∧ x.tmod y ≤ y - 1) ∧ (x ≤ 0 → x ≤ x.tmod y ∧ x.tmod y ≤ 0 ∧ 1 - y ≤ x.tmod y) := by
  constructor
  · intro hx
    rw [Int.tmod_eq_emod_of_nonneg hx]
    have h1 := Int.emod_nonneg x (show y ≠ 0 by omega)
    have h2 := Int.emod_lt_of_pos x (show 0 < y by omega)
    have h3 : x % y ≤ x := by
      rw [Int.emod_def]
      have := Int.mul_nonneg (show 0 ≤ y by omega) (Int.ediv_nonneg hx (show 0 ≤ y by omega))
      omega
    omega
  · intro hx
    have h1 : x.tmod y = -((-x).tmod y) := by rw [Int.neg_tmod]; omega
    rw [h1, Int.tmod_eq_emod_of_nonneg (show 0 ≤ -x by omega)]
    have h2 := Int.emod_nonneg (-x) (show y ≠ 0 by omega)
    have h3 := Int.emod_lt_of_pos (-x) (show 0 < y by omega)
    have h4 : (-x) % y ≤ -x := by
      rw [Int.emod_def]
      have := Int.mul_nonneg (show 0 ≤ y by omega) (Int.ediv_nonneg (show 0 ≤ -x by omega) (show 0 ≤ y by omega))
      omega
    omega
