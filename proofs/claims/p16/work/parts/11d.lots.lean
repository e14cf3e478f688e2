set_option maxHeartbeats 1000000 in
theorem jK_card : jKP 85 [(2, 0, (0, 0)), (0, 0, anyI)] (1, anyI) := by
  intro d hd as I L has hG hJ k hk
  obtain ⟨d, rfl⟩ : ∃ d', d = d' + 1 := ⟨d - 1, by omega⟩
  have hd : 12 ≤ d := by omega
  match as, has with
  | [.inr (g0, n0), .inl (.inl n)], has =>
    obtain ⟨⟨-, e1, e2, e3⟩, -⟩ := has
    dsimp only at e1 e2 e3
    obtain rfl : n0 = 0 := by omega
    subst e1
    have same : ∀ x : Int32, k (some (.inl (.inl x))) (I, L) := fun x => hk _ _ _ hG hJ (any_ok x)
    have go : 0 ≤ n.toInt → n.toInt ≤ 1 → jWB (jWPM d) k none (jco 85) (44, [some (.inr (0, 0)), some (.inl (.inl n))], [], I, L) := by
      intro a b
      refine jWB_run [] 60 ?_
      conv => whnf
      refine hd_perform (Nat.le_trans (by decide) hd) hG (by decide) (by decide) (by decide) (by decide) (fun z => absurd z (by decide)) (fun x I1 L1 g1 g2 g3 => ?_)
      exact hk _ _ _ g1 (jJ_perform hG hJ g2 g3 (by decide) (by decide) (by decide) (by decide) a (by omega)) (any_ok x)
    have mid : 0 ≤ n.toInt → n.toInt ≤ 1 → jWB (jWPM d) k none (jco 85) (11, [some (.inr (0, 0)), some (.inl (.inl n))], [], I, L) := by
      intro a b
      have go := go a b
      refine jWB_run [44] 60 ?_
      conv => whnf
      refine ⟨fun _ => same _, fun _ => ⟨fun _ => ⟨fun _ => go, fun _ => same _⟩, fun _ => ⟨fun _ => go, fun _ => same _⟩⟩⟩
    refine jWB_run [11] 60 ?_
    conv => whnf
    refine ⟨fun q => mid (by rw [q]; decide) (by rw [q]; decide), fun _ => ⟨fun q => mid (by rw [q]; decide) (by rw [q]; decide), fun _ => same _⟩⟩
theorem lot_n' {lot : Int64} (h4 : 0 ≤ lot.toInt) (h5 : lot.toInt ≤ 2147483647) : 0 ≤ (lot * 48271 - lot * 48271 / 2147483647 * 2147483647).toInt ∧ (lot * 48271 - lot * 48271 / 2147483647 * 2147483647).toInt ≤ 2147483646 := by
  have hc : (48271 : Int64).toInt = 48271 := by decide
  have em : (lot * 48271).toInt = lot.toInt * 48271 := by rw [i64_mul (by rw [hc]; omega), hc]
  have hM : (1 : Int) ≤ (2147483647 : Int64).toInt := by decide
  have hN : (2147483647 : Int64).toInt = 2147483647 := by decide
  rw [tm64 hM, em, hN]
  have hl := (tm_rng (lot.toInt * 48271) 2147483647 (by decide)).1 (by omega)
  exact ⟨hl.1, hl.2.2⟩
set_option maxHeartbeats 1000000 in
theorem hd_performLot {d : Nat} (hd : 8 ≤ d) {lot : Int64} {I : Nat → Nat → Nat → Int32} {L : Nat → Nat → Nat → Int64} {k : jK} (hG : gG aGI I) (hJ : jJ I) (h4 : 0 ≤ lot.toInt) (h5 : lot.toInt ≤ 2147483646) (hk : ∀ I' L', gG aGI I' → jJ I' → k none (I', L')) : jWPM d 47 [.inr (4, 1), .inl (.inr lot)] (I, L) k := by
  obtain ⟨d, rfl⟩ : ∃ d', d = d' + 1 := ⟨d - 1, by omega⟩
  have hd : 7 ≤ d := by omega
  have hpk := gi_pk hG (x := 1) (by omega)
  have fin : ∀ (way i : Int32), 0 ≤ i.toInt → i.toInt ≤ 5 → jWB (jWPM d) k none (jco 47) (82, [some (.inr (4, 1)), some (.inl (.inr lot)), none, some (.inl (.inl way)), some (.inl (.inl i))], [], I, L) := by
    intro way i a b
    refine jWB_run [] 60 ?_
    conv => whnf
    refine hd_perform (Nat.le_trans (by decide) hd) hG (by decide) (by decide) (by decide) (by decide) (fun z => absurd z (by decide)) (fun x I1 L1 g1 g2 g3 => ?_)
    exact hk _ _ g1 (jJ_perform hG hJ g2 g3 (by decide) (by decide) (by decide) (by decide) (by decide) (by decide))
  have s56 : ∀ (way i : Int32), 0 ≤ i.toInt → i.toInt ≤ 5 → jWB (jWPM d) k none (jco 47) (56, [some (.inr (4, 1)), some (.inl (.inr lot)), none, some (.inl (.inl way)), some (.inl (.inl i))], [], I, L) := by
    intro way i a b
    have fin := fin way i a b
    refine jWB_run [82] 60 ?_
    conv => whnf
    refine ⟨fun _ => fin, fun _ => ?_⟩
    conv => whnf
    refine hd_canShrink (Nat.le_trans (by decide) hd) a b (fun hs => ?_) ?_
    · conv => whnf
      refine ⟨fun h => absurd h (by decide), fun _ => ?_⟩
      conv => whnf
      refine hd_perform (Nat.le_trans (by decide) hd) hG (by decide) (by decide) a b (fun _ => by omega) (fun x I1 L1 g1 g2 g3 => ?_)
      exact hk _ _ g1 (jJ_perform hG hJ g2 g3 (by decide) (by decide) a b (by decide) (by decide))
    · conv => whnf
      exact ⟨fun _ => fin, fun h => absurd rfl h⟩
  have s29 : ∀ (way i : Int32), 0 ≤ i.toInt → i.toInt ≤ 5 → jWB (jWPM d) k none (jco 47) (29, [some (.inr (4, 1)), some (.inl (.inr lot)), none, some (.inl (.inl way)), some (.inl (.inl i))], [], I, L) := by
    intro way i a b
    have s56 := s56 way i a b
    refine jWB_run [56] 60 ?_
    conv => whnf
    refine ⟨fun _ => s56, fun _ => ?_⟩
    conv => whnf
    refine use_c cT33 (Nat.le_trans (by decide) hd) ⟨⟨rfl, rfl, by simp, by simp⟩, ⟨rfl, by simp only; omega, by simp only; omega⟩, ⟨rfl, (i32_rng _).1, (i32_rng _).2⟩, trivial⟩ hG (fun v I' L' r1 r2 r3 => ?_)
    obtain ⟨rfl, rfl⟩ := gR_nil r2
    obtain ⟨y, rfl, -, -⟩ := r3
    conv => whnf
    refine ⟨fun _ => s56, fun _ => ?_⟩
    conv => whnf
    refine hd_perform (Nat.le_trans (by decide) hd) hG (by decide) (by decide) a b (fun z => absurd z (by decide)) (fun x I1 L1 g1 g2 g3 => ?_)
    exact hk _ _ g1 (jJ_perform hG hJ g2 g3 (by decide) (by decide) a b (by decide) (by decide))
  refine jWB_run [29] 60 ?_
  conv => whnf
  refine ⟨fun q => ?_, fun _ => hk _ _ hG hJ⟩
  have hn : (I 4 1 6).toInt ≠ 0 := fun e => q (i32_of e 0 rfl)
  have hp64 : (I 4 1 6).toInt64.toInt = (I 4 1 6).toInt := Int32.toInt_toInt64 _
  have hnz : ¬ (I 4 1 6).toInt64 = 0 := fun e => by rw [e] at hp64; simp at hp64; omega
  have hx := lot_x h4 h5 (p := I 4 1 6) (by omega)
  have h55 : (I 4 1 6).toInt - 1 ≤ 5 := by clear hx; omega
  conv => whnf
  refine ⟨by decide, ?_⟩
  conv => whnf
  refine ⟨by decide, ?_⟩
  conv => whnf
  refine ⟨hnz, ?_⟩
  exact s29 _ _ hx.1 (Int.le_trans hx.2 h55)
set_option maxHeartbeats 1000000 in
theorem jK_lots : jKP 105 [(2, 0, (0, 0)), (0, 0, anyI), (0, 0, anyI)] (1, anyI) := by
  intro d hd as I0 L0 has hG hJ k hk
  obtain ⟨d, rfl⟩ : ∃ d', d = d' + 1 := ⟨d - 1, by omega⟩
  have hd : 12 ≤ d := by omega
  match as, has with
  | [.inr (g0, n0), .inl (.inl n), .inl (.inl sd)], has =>
    obtain ⟨⟨-, e1, e2, e3⟩, -⟩ := has
    dsimp only at e1 e2 e3
    obtain rfl : n0 = 0 := by omega
    subst e1
    have hexit : ∀ (lot : Int64) (i : Int32) (I : Nat → Nat → Nat → Int32) (L : Nat → Nat → Nat → Int64), gG aGI I → jJ I → jWB (jWPM d) k none (jco 105) (90, [some (.inr (0, 0)), some (.inl (.inl n)), some (.inl (.inl sd)), some (.inl (.inr lot)), none, some (.inl (.inl i))], [], I, L) := by
      intro lot i I L h1 h2
      refine jWB_run [] 40 ?_
      conv => whnf
      refine use_c cT11 (Nat.le_trans (by decide) hd) ⟨⟨rfl, rfl, by simp, by simp⟩, trivial⟩ h1 (fun v I' L' r1 r2 r3 => ?_)
      obtain ⟨rfl, rfl⟩ := gR_nil r2
      obtain ⟨x, rfl, r4, r5⟩ := r3
      exact hk _ _ _ h1 h2 (any_ok x)
    have loop : ∀ (N : Nat) (lot : Int64) (i : Int32) (I : Nat → Nat → Nat → Int32) (L : Nat → Nat → Nat → Int64), n.toInt - i.toInt ≤ (N : Int) → 0 ≤ i.toInt → n.toInt ≤ 20 → 0 ≤ lot.toInt → lot.toInt ≤ 2147483647 → gG aGI I → jJ I → jWB (jWPM d) k none (jco 105) (60, [some (.inr (0, 0)), some (.inl (.inl n)), some (.inl (.inl sd)), some (.inl (.inr lot)), none, some (.inl (.inl i))], [], I, L) := by
      intro N
      induction N with
      | zero =>
        intro lot i I L h1 h2 h3 h4 h5 h6 h7
        refine jWB_run [60, 90] 60 ?_
        conv => whnf
        refine ⟨fun q => hexit lot i I L h6 h7, fun q => ?_⟩
        rw [le_t] at q; exfalso; omega
      | succ N ih =>
        intro lot i I L h1 h2 h3 h4 h5 h6 h7
        refine jWB_run [60, 90] 60 ?_
        conv => whnf
        refine ⟨fun q => hexit lot i I L h6 h7, fun q => ?_⟩
        rw [le_t] at q
        have ei : (i + 1).toInt = i.toInt + 1 := by rw [i32_add (by simp; omega)]; simp
        have hl := lot_n' h4 h5
        have a1 : n.toInt - (i + 1).toInt ≤ (N : Int) := by clear hl; omega
        have a2 : 0 ≤ (i + 1).toInt := by clear hl; omega
        conv => whnf
        refine ⟨by decide, ?_⟩
        conv => whnf
        refine hd_performLot (Nat.le_trans (by decide) hd) h6 h7 hl.1 hl.2 (fun I1 L1 g1 g2 => ?_)
        exact ih _ (i + 1) I1 L1 a1 a2 h3 hl.1 (Int.le_trans hl.2 (by decide)) g1 g2
    have bad : ∀ x : Int32, k (some (.inl (.inl x))) (I0, L0) := fun x => hk _ _ _ hG hJ (any_ok _)
    have go : n.toInt ≤ 20 → 1 ≤ n.toInt → 1 ≤ sd.toInt → jWB (jWPM d) k none (jco 105) (27, [some (.inr (0, 0)), some (.inl (.inl n)), some (.inl (.inl sd)), none, none, none], [], I0, L0) := by
      intro h1 h2 h3
      refine jWB_run [60] 60 ?_
      conv => whnf
      refine ⟨fun _ => ?_, fun _ => bad _⟩
      conv => whnf
      refine hd_hasDeedsFor (Nat.le_trans (by decide) hd) hG (by omega) h1 (fun _ => ?_) (fun _ => ?_)
      · conv => whnf
        refine ⟨fun _ => ?_, fun h => absurd h (by decide)⟩
        have := (i32_rng sd).2
        exact loop 20 sd.toInt64 0 I0 L0 (by simp; omega) (by decide) h1 (by rw [Int32.toInt_toInt64]; omega) (by rw [Int32.toInt_toInt64]; omega) hG hJ
      · conv => whnf
        exact ⟨fun h => absurd rfl h, fun _ => bad _⟩
    refine jWB_run [27] 60 ?_
    conv => whnf
    refine ⟨fun _ => bad _, fun q1 => ⟨fun _ => bad _, fun q2 => ⟨fun _ => bad _, fun q3 => ?_⟩⟩⟩
    have q1 : ¬ n.toInt < 1 := fun z => q1 (lt_t.mpr z)
    have q2 : ¬ 20 < n.toInt := fun z => q2 (lt_t.mpr z)
    have q3 : ¬ sd.toInt < 1 := fun z => q3 (lt_t.mpr z)
    have go := go (by omega) (by omega) (by omega)
    conv => whnf
    refine ⟨fun _ => go, fun _ => bad _⟩
