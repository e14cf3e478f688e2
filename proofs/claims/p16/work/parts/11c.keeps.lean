theorem hJ_cells {I I' : Nat → Nat → Nat → Int32} {h h' : Nat} (hb : (I 4 h 15).toInt ≤ 40) (q : hJ I h) (e15 : I' 4 h' 15 = I 4 h 15) (e22 : ∀ e, e < 40 → I' 22 h' e = I 22 h e) (e19 : ∀ i, i < 6 → I' 19 h' i = I 19 h i) (e0 : ∀ i, i < 6 → I' 19 0 i = I 19 0 i) : hJ I' h' := by
  refine ⟨fun x hx => ?_, fun i hi => ?_⟩
  · rw [e15] at hx
    rw [e22 x (by omega)]
    exact q.1 x hx
  · rw [e15, e19 i (by omega), e0 i (by omega), cnt_ext (fun x hx => e22 x (by omega))]
    exact q.2 i hi
theorem code_t {dd i v : Int32} (hd0 : 0 ≤ dd.toInt) (hd4 : dd.toInt ≤ 4) (hi0 : 0 ≤ i.toInt) (hi5 : i.toInt ≤ 5) (hv0 : 0 ≤ v.toInt) (hv : v.toInt ≤ 99) : (dd * 1000 + i * 100 + v).toInt = dd.toInt * 1000 + i.toInt * 100 + v.toInt := by
  have c1 : (1000 : Int32).toInt = 1000 := rfl
  have c2 : (100 : Int32).toInt = 100 := rfl
  have e1 : (dd * 1000).toInt = dd.toInt * 1000 := by rw [i32_mul (by rw [c1]; omega), c1]
  have e2 : (i * 100).toInt = i.toInt * 100 := by rw [i32_mul (by rw [c2]; omega), c2]
  have e3 : (dd * 1000 + i * 100).toInt = dd.toInt * 1000 + i.toInt * 100 := by rw [i32_add (by rw [e1, e2]; omega), e1, e2]
  rw [i32_add (by rw [e3]; omega), e3]
theorem code_ok {dd i v : Int32} (hd0 : 0 ≤ dd.toInt) (hd4 : dd.toInt ≤ 4) (hi0 : 0 ≤ i.toInt) (hi5 : i.toInt ≤ 5) (hv0 : 0 ≤ v.toInt) (hv : v.toInt ≤ 99) : lgOK (dd * 1000 + i * 100 + v) ∧ ∀ j : Nat, shr (dd * 1000 + i * 100 + v) j = if dd = 2 ∧ j = i.toNatClampNeg then 1 else 0 := by
  have e := code_t hd0 hd4 hi0 hi5 hv0 hv
  have n := cl_t hi0
  refine ⟨?_, fun j => ?_⟩
  · unfold lgOK; rw [e]; omega
  · unfold shr
    rw [e]
    have e2 : dd = 2 ↔ dd.toInt = 2 := ⟨fun h => by rw [h]; rfl, fun h => i32_of h 2 rfl⟩
    by_cases h : dd = 2 ∧ j = i.toNatClampNeg
    · rw [if_pos h, if_pos]
      have := e2.mp h.1
      omega
    · rw [if_neg h, if_neg]
      intro q
      refine h ⟨e2.mpr (by omega), by omega⟩
theorem hJ_perform {I I' : Nat → Nat → Nat → Int32} {dd i v : Int32} (hG : gG aGI I) (h : hJ I 1) (hp : pfP I I' dd i v) (e0 : ∀ j, j < 6 → I' 19 0 j = I 19 0 j) (hc : lgOK (dd * 1000 + i * 100 + v) ∧ ∀ j : Nat, shr (dd * 1000 + i * 100 + v) j = if dd = 2 ∧ j = i.toNatClampNeg then 1 else 0) : hJ I' 1 := by
  obtain ⟨p1, p2, p3, p4⟩ := hp
  have hb := gi_deeds hG (x := 1) (by omega)
  have nb := cl_t hb.1
  refine ⟨fun e he => ?_, fun j hj => ?_⟩
  · rw [p3 e]
    by_cases q : e = (I 4 1 15).toNatClampNeg
    · rw [if_pos q]; exact hc.1
    · rw [if_neg q]; exact h.1 e (by omega)
  · have e1 : (I' 4 1 15).toInt.toNat = (I 4 1 15).toInt.toNat + 1 := by omega
    have e2 : cnt (I' 22 1) j ((I 4 1 15).toInt.toNat + 1) = cnt (I 22 1) j (I 4 1 15).toInt.toNat + shr (dd * 1000 + i * 100 + v) j := by
      show cnt (I' 22 1) j (I 4 1 15).toInt.toNat + shr (I' 22 1 (I 4 1 15).toInt.toNat) j = _
      rw [cnt_ext (lg' := I 22 1) (fun e he => by rw [p3 e, if_neg (by omega)]), p3, if_pos (by omega)]
    rw [e1, e2, p4 j, hc.2 j, e0 j (by omega), ← h.2 j hj]
    omega
theorem jJ_perform {I I' : Nat → Nat → Nat → Int32} {L L' : Nat → Nat → Nat → Int64} {dd i v : Int32} (hG : gG aGI I) (h : jJ I) (hR : gR pfW I L I' L') (hp : (I' = I ∧ L' = L ∧ (I 4 1 15).toInt = 40) ∨ pfP I I' dd i v) (hd0 : 0 ≤ dd.toInt) (hd4 : dd.toInt ≤ 4) (hi0 : 0 ≤ i.toInt) (hi5 : i.toInt ≤ 5) (hv0 : 0 ≤ v.toInt) (hv : v.toInt ≤ 99) : jJ I' := by
  rcases hp with hp | hp
  · rw [hp.1]; exact h
  have out : ∀ g x j : Nat, x ≠ 1 → I' g x j = I g x j := fun g x j hx => (hR g x j (fun ⟨r, hr, q1, q2, q3, q4⟩ => by
    have : ∀ r ∈ pfW, r.2.1 = (1, 1) := by decide
    rw [this r hr] at q2 q3
    omega)).1
  refine ⟨by rw [out 4 0 15 (by decide)]; exact h.1, by rw [out 4 5 15 (by decide)]; exact h.2.1, hJ_perform hG h.2.2.1 hp (fun j _ => out 19 0 j (by decide)) (code_ok hd0 hd4 hi0 hi5 hv0 hv), fun k hk q => ?_⟩
  refine hJ_cells (gi_deeds hG (by omega)).2 (h.2.2.2 k hk (by rw [← out 6 0 k (by decide)]; exact q)) (out _ _ _ (by omega)) (fun e _ => out _ _ _ (by omega)) (fun e _ => out _ _ _ (by omega)) (fun e _ => out _ _ _ (by decide))
/-- a contract that keeps both the bounds and the log -/
noncomputable def jKP (m : Nat) (A : List aA) (rv : Nat × (Int × Int)) : Prop := ∀ d, 13 ≤ d → ∀ (as : List jV) (I : Nat → Nat → Nat → Int32) (L : Nat → Nat → Nat → Int64), aAs A as → gG aGI I → jJ I → ∀ k : jK, (∀ v I' L', gG aGI I' → jJ I' → aRv rv v → k v (I', L')) → jWPM d m as (I, L) k
theorem jKP_of {m : Nat} {c : aK} (h : aKP aGI m c) (hn : c.2.2.2 ≤ 13) (hw : rApart c.2.2.1 jJW = true) : jKP m c.1 c.2.1 := fun d hd as I L has hG hJ k hk => h d (Nat.le_trans hn hd) as I L has hG k (fun v I' L' g1 g2 g3 => hk v I' L' g1 (jJ_frame hw hG hJ g2) g3)
theorem hd_chas {d : Nat} (hd : 1 ≤ d) {i : Int32} {I : Nat → Nat → Nat → Int32} {L : Nat → Nat → Nat → Int64} {k : jK} (hG : gG aGI I) (h1 : 0 ≤ i.toInt → i.toInt ≤ 5 → k (some (.inl (.inl 1))) (I, L)) (h0 : k (some (.inl (.inl 0))) (I, L)) : jWPM d 31 [.inr (4, 1), .inl (.inl i)] (I, L) k := by
  obtain ⟨d, rfl⟩ : ∃ d', d = d' + 1 := ⟨d - 1, by omega⟩
  have hp := gi_packets hG
  refine jWB_run [] 30 ?_
  conv => whnf
  refine ⟨fun q => ⟨Or.inl rfl, h0⟩, fun q => ?_⟩
  have q : ¬ i.toInt < 0 := fun z => q (lt_t.mpr z)
  conv => whnf
  refine ⟨fun q => ⟨Or.inl rfl, h0⟩, fun q2 => ⟨Or.inr rfl, h1 (by omega) ?_⟩⟩
  have q2 : ¬ (I 4 1 6).toInt ≤ i.toInt := fun z => q2 (le_t.mpr z)
  omega
theorem hd_canShrink {d : Nat} (hd : 1 ≤ d) {i : Int32} {I : Nat → Nat → Nat → Int32} {L : Nat → Nat → Nat → Int64} {k : jK} (hi0 : 0 ≤ i.toInt) (hi5 : i.toInt ≤ 5) (h1 : 1 < (I 19 1 i.toNatClampNeg).toInt → k (some (.inl (.inl 1))) (I, L)) (h0 : k (some (.inl (.inl 0))) (I, L)) : jWPM d 34 [.inr (4, 1), .inl (.inl i)] (I, L) k := by
  obtain ⟨d, rfl⟩ : ∃ d', d = d' + 1 := ⟨d - 1, by omega⟩
  refine jWB_run [] 30 ?_
  conv => whnf
  refine ⟨vp_in_iff.mpr (by omega), ?_⟩
  conv => whnf
  refine ⟨fun q => ⟨Or.inl rfl, h0⟩, fun q => ⟨Or.inr rfl, h1 ?_⟩⟩
  have q : ¬ (I 19 1 i.toNatClampNeg).toInt ≤ 1 := fun z => q (le_t.mpr z)
  omega
noncomputable def anyI : Int × Int := (-2147483648, 2147483647)
theorem any_ok (x : Int32) : aRv (1, anyI) (some (.inl (.inl x))) := ⟨x, rfl, (i32_rng x).1, (i32_rng x).2⟩
set_option maxHeartbeats 1000000 in
theorem jK_buy : jKP 81 [(2, 0, (0, 0)), (0, 0, anyI), (0, 0, anyI)] (1, anyI) := by
  intro d hd as I L has hG hJ k hk
  obtain ⟨d, rfl⟩ : ∃ d', d = d' + 1 := ⟨d - 1, by omega⟩
  have hd : 12 ≤ d := by omega
  match as, has with
  | [.inr (g0, n0), .inl (.inl i), .inl (.inl n)], has =>
    obtain ⟨⟨-, e1, e2, e3⟩, -⟩ := has
    dsimp only at e1 e2 e3
    obtain rfl : n0 = 0 := by omega
    subst e1
    have same : ∀ x : Int32, k (some (.inl (.inl x))) (I, L) := fun x => hk _ _ _ hG hJ (any_ok x)
    refine jWB_run [] 60 ?_
    conv => whnf
    refine hd_chas (Nat.le_trans (by decide) hd) hG (fun a b => ?_) ?_
    · conv => whnf
      refine ⟨fun h => absurd h (by decide), fun _ => ?_⟩
      conv => whnf
      refine ⟨fun _ => same _, fun q1 => ?_⟩
      have q1 : ¬ n.toInt < 1 := fun z => q1 (lt_t.mpr z)
      conv => whnf
      refine ⟨fun q2 => ?_, fun _ => same _⟩
      have q2 : n.toInt ≤ 3 := le_t.mp q2
      conv => whnf
      refine use_c cT33 (Nat.le_trans (by decide) hd) ⟨⟨rfl, rfl, by simp, by simp⟩, ⟨rfl, by simp only; omega, by simp only; omega⟩, ⟨rfl, (i32_rng _).1, (i32_rng _).2⟩, trivial⟩ hG (fun v I' L' r1 r2 r3 => ?_)
      obtain ⟨rfl, rfl⟩ := gR_nil r2
      obtain ⟨y, rfl, -, -⟩ := r3
      conv => whnf
      refine ⟨fun _ => ?_, fun _ => same _⟩
      conv => whnf
      refine hd_perform (Nat.le_trans (by decide) hd) hG (by decide) (by decide) a b (fun z => absurd z (by decide)) (fun x I1 L1 g1 g2 g3 => ?_)
      exact hk _ _ _ g1 (jJ_perform hG hJ g2 g3 (by decide) (by decide) a b (by omega) (by omega)) (any_ok x)
    · conv => whnf
      exact ⟨fun _ => same _, fun h => absurd rfl h⟩
set_option maxHeartbeats 1000000 in
theorem jK_week : jKP 82 [(2, 0, (0, 0))] (1, anyI) := by
  intro d hd as I L has hG hJ k hk
  obtain ⟨d, rfl⟩ : ∃ d', d = d' + 1 := ⟨d - 1, by omega⟩
  have hd : 12 ≤ d := by omega
  match as, has with
  | [.inr (g0, n0)], has =>
    obtain ⟨⟨-, e1, e2, e3⟩, -⟩ := has
    dsimp only at e1 e2 e3
    obtain rfl : n0 = 0 := by omega
    subst e1
    refine jWB_run [] 60 ?_
    conv => whnf
    refine ⟨fun _ => ?_, fun _ => hk _ _ _ hG hJ (any_ok _)⟩
    conv => whnf
    refine hd_perform (Nat.le_trans (by decide) hd) hG (by decide) (by decide) (by decide) (by decide) (fun z => absurd z (by decide)) (fun x I1 L1 g1 g2 g3 => ?_)
    exact hk _ _ _ g1 (jJ_perform hG hJ g2 g3 (by decide) (by decide) (by decide) (by decide) (by decide) (by decide)) (any_ok x)
set_option maxHeartbeats 1000000 in
theorem jK_shrink : jKP 83 [(2, 0, (0, 0)), (0, 0, anyI)] (1, anyI) := by
  intro d hd as I L has hG hJ k hk
  obtain ⟨d, rfl⟩ : ∃ d', d = d' + 1 := ⟨d - 1, by omega⟩
  have hd : 12 ≤ d := by omega
  match as, has with
  | [.inr (g0, n0), .inl (.inl i)], has =>
    obtain ⟨⟨-, e1, e2, e3⟩, -⟩ := has
    dsimp only at e1 e2 e3
    obtain rfl : n0 = 0 := by omega
    subst e1
    have same : ∀ x : Int32, k (some (.inl (.inl x))) (I, L) := fun x => hk _ _ _ hG hJ (any_ok x)
    refine jWB_run [] 60 ?_
    conv => whnf
    refine hd_chas (Nat.le_trans (by decide) hd) hG (fun a b => ?_) ?_
    · conv => whnf
      refine ⟨fun _ => ?_, fun h => absurd h (by decide)⟩
      conv => whnf
      refine hd_canShrink (Nat.le_trans (by decide) hd) a b (fun hs => ?_) ?_
      · conv => whnf
        refine ⟨fun _ => ?_, fun h => absurd h (by decide)⟩
        conv => whnf
        refine hd_perform (Nat.le_trans (by decide) hd) hG (by decide) (by decide) a b (fun _ => by omega) (fun x I1 L1 g1 g2 g3 => ?_)
        exact hk _ _ _ g1 (jJ_perform hG hJ g2 g3 (by decide) (by decide) a b (by decide) (by decide)) (any_ok x)
      · conv => whnf
        exact ⟨fun h => absurd rfl h, fun _ => same _⟩
    · conv => whnf
      exact ⟨fun h => absurd rfl h, fun _ => same _⟩
set_option maxHeartbeats 1000000 in
theorem jK_price : jKP 84 [(2, 0, (0, 0)), (0, 0, anyI), (0, 0, anyI)] (1, anyI) := by
  intro d hd as I L has hG hJ k hk
  obtain ⟨d, rfl⟩ : ∃ d', d = d' + 1 := ⟨d - 1, by omega⟩
  have hd : 12 ≤ d := by omega
  match as, has with
  | [.inr (g0, n0), .inl (.inl i), .inl (.inl n)], has =>
    obtain ⟨⟨-, e1, e2, e3⟩, -⟩ := has
    dsimp only at e1 e2 e3
    obtain rfl : n0 = 0 := by omega
    subst e1
    have same : ∀ x : Int32, k (some (.inl (.inl x))) (I, L) := fun x => hk _ _ _ hG hJ (any_ok x)
    refine jWB_run [] 60 ?_
    conv => whnf
    refine hd_chas (Nat.le_trans (by decide) hd) hG (fun a b => ?_) ?_
    · conv => whnf
      refine ⟨fun h => absurd h (by decide), fun _ => ?_⟩
      conv => whnf
      refine ⟨fun _ => same _, fun q1 => ?_⟩
      have q1 : ¬ n.toInt < 0 := fun z => q1 (lt_t.mpr z)
      conv => whnf
      refine ⟨fun q2 => ?_, fun _ => same _⟩
      have q2 : n.toInt ≤ 99 := le_t.mp q2
      conv => whnf
      refine ⟨vp_in_iff.mpr (by omega), ?_⟩
      conv => whnf
      refine ⟨fun _ => ?_, fun _ => same _⟩
      conv => whnf
      refine hd_perform (Nat.le_trans (by decide) hd) hG (by decide) (by decide) a b (fun z => absurd z (by decide)) (fun x I1 L1 g1 g2 g3 => ?_)
      exact hk _ _ _ g1 (jJ_perform hG hJ g2 g3 (by decide) (by decide) a b (by omega) (by omega)) (any_ok x)
    · conv => whnf
      exact ⟨fun _ => same _, fun h => absurd rfl h⟩
