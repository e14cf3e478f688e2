/-! the answers of row and text, by their arguments alone -/
def eA (R N : Int) (r n : Int32) : Int32 := if r.toInt < 0 then -1 else if R < r.toInt then -1 else if N < n.toInt then -1 else if n.toInt < 0 then -3 else n
theorem eAr {g : Nat} {a b c e lo hi : Int} {W : List aR} {r n : Int32} (h1 : a ≤ r.toInt) (h2 : r.toInt ≤ b) (h3 : c ≤ n.toInt) (h4 : n.toInt ≤ e) : aAs (eK g a b c e lo hi W).1 [.inr (g, 0), .inl (.inl r), .inl (.inl n)] := ⟨⟨rfl, rfl, by simp, by simp⟩, ⟨rfl, h1, h2⟩, ⟨rfl, h3, h4⟩, trivial⟩
theorem use_j {m : Nat} {A : List aA} {rv : Nat × (Int × Int)} (h : jKP m A rv) {d : Nat} {as : List jV} {I : Nat → Nat → Nat → Int32} {L : Nat → Nat → Nat → Int64} {k : jK} (hd : 13 ≤ d) (has : aAs A as) (hG : gG aGI I) (hJ : jJ I) (hk : ∀ v I' L', gG aGI I' → jJ I' → aRv rv v → k v (I', L')) : jWPM d m as (I, L) k := h d hd as I L has hG hJ k hk
theorem eUse {m g : Nat} {R N : Int} {W : List aR} (h : eRows m g R N W = true) (hR : 0 ≤ R) (hN : 0 ≤ N) {d : Nat} (hd : 9 ≤ d) {r n : Int32} {I : Nat → Nat → Nat → Int32} {L : Nat → Nat → Nat → Int64} {k : jK} (hG : gG aGI I) (hk : ∀ I' L', gG aGI I' → gR W I L I' L' → k (some (.inl (.inl (eA R N r n)))) (I', L')) : jWPM d m [.inr (g, 0), .inl (.inl r), .inl (.inl n)] (I, L) k := by
  unfold eRows at h
  simp only [Bool.and_eq_true] at h
  obtain ⟨⟨⟨⟨h1, h2⟩, h3⟩, h4⟩, h5⟩ := h
  have rr := i32_rng r
  have rn := i32_rng n
  have one : ∀ (x y : Int32), y.toInt ≤ x.toInt → x.toInt ≤ y.toInt → x = y := fun x y a b => Int32.toInt_inj.mp (by omega)
  have lo : eMin = -2147483648 := rfl
  have hi : eMax = 2147483647 := rfl
  by_cases q1 : r.toInt < 0
  · refine eC_ok h1 d hd _ I L (eAr (by omega) (by omega) (by omega) (by omega)) hG k (fun v I' L' a b c => ?_)
    obtain ⟨x, rfl, c1, c2⟩ := c
    rw [one x (-1) c1 c2]
    have := hk I' L' a b
    unfold eA at this
    rw [if_pos q1] at this
    exact this
  by_cases q2 : R < r.toInt
  · refine eC_ok h2 d hd _ I L (eAr (by omega) (by omega) (by omega) (by omega)) hG k (fun v I' L' a b c => ?_)
    obtain ⟨x, rfl, c1, c2⟩ := c
    rw [one x (-1) c1 c2]
    have := hk I' L' a b
    unfold eA at this
    rw [if_neg q1, if_pos q2] at this
    exact this
  by_cases q3 : N < n.toInt
  · refine eC_ok h3 d hd _ I L (eAr (by omega) (by omega) (by omega) (by omega)) hG k (fun v I' L' a b c => ?_)
    obtain ⟨x, rfl, c1, c2⟩ := c
    rw [one x (-1) c1 c2]
    have := hk I' L' a b
    unfold eA at this
    rw [if_neg q1, if_neg q2, if_pos q3] at this
    exact this
  by_cases q4 : n.toInt < 0
  · refine eC_ok h4 d hd _ I L (eAr (by omega) (by omega) (by omega) (by omega)) hG k (fun v I' L' a b c => ?_)
    obtain ⟨x, rfl, c1, c2⟩ := c
    rw [one x (-3) c1 c2]
    have := hk I' L' a b
    unfold eA at this
    rw [if_neg q1, if_neg q2, if_neg q3, if_pos q4] at this
    exact this
  · have e : ((n.toInt.toNat : Nat) : Int) = n.toInt := by omega
    have h5 := List.all_eq_true.mp h5 n.toInt.toNat (List.mem_range.mpr (by omega))
    rw [e] at h5
    refine eC_ok h5 d hd _ I L (eAr (by omega) (by omega) (by omega) (by omega)) hG k (fun v I' L' a b c => ?_)
    obtain ⟨x, rfl, c1, c2⟩ := c
    rw [one x n c1 c2]
    have := hk I' L' a b
    unfold eA at this
    rw [if_neg q1, if_neg q2, if_neg q3, if_neg q4] at this
    exact this
theorem lw_ix {i c : Int32} {N : Nat} (hi0 : 0 ≤ i.toInt) (hi : i.toInt + 6 ≤ (N : Int)) (hN : N ≤ 384) (h0 : 0 ≤ c.toInt) (h5 : c.toInt ≤ 5) : vp_in (i + c) N := by
  have e : (i + c).toInt = i.toInt + c.toInt := i32_add (by omega)
  exact vp_in_iff.mpr (by omega)
