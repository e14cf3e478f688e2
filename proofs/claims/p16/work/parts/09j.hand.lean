theorem hd_keepPast {d : Nat} (hd : 1 ≤ d) {I : Nat → Nat → Nat → Int32} {L : Nat → Nat → Nat → Int64} {k : jK} (hG : gG aGI I) (h39 : (I 32 0 0).toInt ≤ 39) (hk : ∀ I', gG aGI I' → gR [(32, (0, 0), (0, 1148))] I L I' L → (I' 32 0 0).toInt = (I 32 0 0).toInt + 1 → k none (I', L)) : jWPM d 163 [.inr (31, 0)] (I, L) k := by
  obtain ⟨d, rfl⟩ : ∃ d', d = d' + 1 := ⟨d - 1, by omega⟩
  have h0 := gi32_0 hG
  have hexit : ∀ (i : Int32) (I' : Nat → Nat → Nat → Int32), gG aGI I' → gR [(32, (0, 0), (0, 1148))] I L I' L → I' 32 0 0 = I 32 0 0 → jWB (jWPM d) k none (jco 163) (41, [some (.inr (31, 0)), some (.inl (.inl i))], [], I', L) := by
    intro i I' h3 h4 h5
    have e1 : (I' 32 0 0 + 1).toInt = (I 32 0 0).toInt + 1 := by rw [h5, i32_add (by simp; omega)]; simp
    refine jWB_run [] 40 ?_
    conv => whnf
    refine ⟨vp_in_iff.mpr (by decide), ?_⟩
    conv => whnf
    refine ⟨vp_in_iff.mpr (by decide), ?_⟩
    refine hk _ (gG_32 h3 (fun _ => ?_) (fun z => absurd z (by decide))) (gR_w h4 List.mem_cons_self (by decide) (by decide)) e1
    show 0 ≤ (I' 32 0 0 + 1).toInt ∧ (I' 32 0 0 + 1).toInt ≤ 40
    omega
  have loop : ∀ (N : Nat) (i : Int32) (I' : Nat → Nat → Nat → Int32), 28 - i.toInt ≤ (N : Int) → 0 ≤ i.toInt → gG aGI I' → gR [(32, (0, 0), (0, 1148))] I L I' L → I' 32 0 0 = I 32 0 0 → jWB (jWPM d) k none (jco 163) (2, [some (.inr (31, 0)), some (.inl (.inl i))], [], I', L) := by
    intro N
    induction N with
    | zero =>
      intro i I' h1 h2 h3 h4 h5
      refine jWB_run [2, 41] 40 ?_
      conv => whnf
      refine ⟨fun q => hexit i I' h3 h4 h5, fun q => ?_⟩
      rw [le_t] at q; exfalso; simp at q; omega
    | succ N ih =>
      intro i I' h1 h2 h3 h4 h5
      refine jWB_run [2, 41] 40 ?_
      conv => whnf
      refine ⟨fun q => hexit i I' h3 h4 h5, fun q => ?_⟩
      have q : i.toInt < 28 := by rw [le_t] at q; simp at q; omega
      have e28 : (28 * I' 32 0 0).toInt = 28 * (I 32 0 0).toInt := by rw [h5, i32_mul (by simp; omega)]; simp
      have e29 : (29 + 28 * I' 32 0 0).toInt = 29 + 28 * (I 32 0 0).toInt := by rw [i32_add (by rw [e28]; simp; omega), e28]; simp
      have ed : (29 + 28 * I' 32 0 0 + i).toInt = 29 + 28 * (I 32 0 0).toInt + i.toInt := by rw [i32_add (by rw [e29]; omega), e29]
      have e1i : (1 + i).toInt = 1 + i.toInt := by rw [i32_add (by simp; omega)]; simp
      have ei : (i + 1).toInt = i.toInt + 1 := by rw [i32_add (by simp; omega)]; simp
      have nd := cl_t (x := 29 + 28 * I' 32 0 0 + i) (by omega)
      conv => whnf
      refine ⟨vp_in_iff.mpr (by decide), ?_⟩
      conv => whnf
      refine ⟨vp_in_iff.mpr (by omega), ?_⟩
      conv => whnf
      refine ⟨vp_in_iff.mpr (show 0 ≤ (29 + 28 * I' 32 0 0 + i).toInt ∧ (29 + 28 * I' 32 0 0 + i).toInt < 4625 by omega), ?_⟩
      refine ih (i + 1) _ (by omega) (by omega) (gG_32 h3 (fun z => ?_) (fun z => ?_)) (gR_w h4 List.mem_cons_self ?_ ?_) ?_
      · have z : (29 + 28 * I' 32 0 0 + i).toNatClampNeg = 0 := z
        omega
      · have z : (29 + 28 * I' 32 0 0 + i).toNatClampNeg = 1149 ∨ (29 + 28 * I' 32 0 0 + i).toNatClampNeg = 2298 ∨ (29 + 28 * I' 32 0 0 + i).toNatClampNeg = 3447 := z
        omega
      · omega
      · show ((29 + 28 * I' 32 0 0 + i).toNatClampNeg : Int) ≤ 1148
        omega
      · rw [jup_of (fun z => ?_), h5]
        have z : 0 = (29 + 28 * I' 32 0 0 + i).toNatClampNeg := z.2.2
        omega
  refine jWB_run [2] 30 ?_
  exact loop 28 0 I (by decide) (by decide) hG gR_rf rfl
theorem gR_at {W : List aR} {I0 I : Nat → Nat → Nat → Int32} {L0 L : Nat → Nat → Nat → Int64} (h : gR W I0 L0 I L) (g j : Nat) (hn : rIn [(g, (0, 0), ((j : Int), (j : Int)))] W = false) (hs : ∀ r ∈ W, ¬ (r.1 = g ∧ r.2.1.1 ≤ (0 : Nat) ∧ ((0 : Nat) : Int) ≤ r.2.1.2 ∧ r.2.2.1 ≤ (j : Int) ∧ (j : Int) ≤ r.2.2.2)) : I g 0 j = I0 g 0 j := (h g 0 j (fun ⟨r, hr, q⟩ => hs r hr q)).1
theorem l2i_t {x : Int64} (h : -2147483648 ≤ x.toInt ∧ x.toInt ≤ 2147483647) : x.toInt32.toInt = x.toInt := by
  rw [Int64.toInt_toInt32, bm32]; omega
theorem lot_n {lot : Int64} (h4 : 0 ≤ lot.toInt) (h5 : lot.toInt ≤ 2147483646) : 0 ≤ (lot * 48271 - lot * 48271 / 2147483647 * 2147483647).toInt ∧ (lot * 48271 - lot * 48271 / 2147483647 * 2147483647).toInt ≤ 2147483646 := by
  have hc : (48271 : Int64).toInt = 48271 := by decide
  have em : (lot * 48271).toInt = lot.toInt * 48271 := by rw [i64_mul (by rw [hc]; omega), hc]
  have hM : (1 : Int) ≤ (2147483647 : Int64).toInt := by decide
  have hN : (2147483647 : Int64).toInt = 2147483647 := by decide
  rw [tm64 hM, em, hN]
  have hl := (tm_rng (lot.toInt * 48271) 2147483647 (by decide)).1 (by omega)
  exact ⟨hl.1, hl.2.2⟩
theorem lot_x {lot : Int64} {p : Int32} (h4 : 0 ≤ lot.toInt) (h5 : lot.toInt ≤ 2147483646) (hp : 1 ≤ p.toInt) : 0 ≤ (lot - lot / p.toInt64 * p.toInt64).toInt32.toInt ∧ (lot - lot / p.toInt64 * p.toInt64).toInt32.toInt ≤ p.toInt - 1 := by
  have hp64 : p.toInt64.toInt = p.toInt := Int32.toInt_toInt64 _
  have e : (lot - lot / p.toInt64 * p.toInt64).toInt = lot.toInt.tmod p.toInt := by rw [tm64 (by omega), hp64]
  have hx := (tm_rng lot.toInt p.toInt hp).1 h4
  rw [l2i_t (by rw [e]; omega), e]
  exact ⟨hx.1, hx.2.2⟩
set_option maxHeartbeats 4000000 in
theorem hK_mlots : aKP aGI 207 ([(2, 31, (0, 0)), (0, 0, ((-2147483648), 2147483647)), (0, 0, ((-2147483648), 2147483647))], (1, ((-2147483648), 2147483647)), [(32, (0, 0), (0, 1148))], 9) := by
  intro d hd as I0 L0 has hG k hk
  obtain ⟨d, rfl⟩ : ∃ d', d = d' + 1 := ⟨d - 1, by simp at hd; omega⟩
  have hd : 8 ≤ d := by simp at hd; omega
  dsimp only at hk
  match as, has with
  | [.inr (g0, n0), .inl (.inl n), .inl (.inl sd)], has =>
    obtain ⟨⟨-, e1, e2, e3⟩, -⟩ := has
    dsimp only at e1 e2 e3
    obtain rfl : n0 = 0 := by omega
    subst e1
    have hexit : ∀ (lot : Int64) (i : Int32) (e6 e7 : Option jV) (I : Nat → Nat → Nat → Int32) (L : Nat → Nat → Nat → Int64), gG aGI I → gR [(32, (0, 0), (0, 1148))] I0 L0 I L → jWB (jWPM d) k none (jco 207) (178, [some (.inr (31, 0)), some (.inl (.inl n)), some (.inl (.inl sd)), some (.inl (.inr lot)), none, some (.inl (.inl i)), e6, e7], [], I, L) := by
      intro lot i e6 e7 I L h1 h2
      refine jWB_run [] 40 ?_
      conv => whnf
      refine use_c cT146 (Nat.le_trans (by decide) hd) ⟨⟨rfl, rfl, by simp, by simp⟩, ⟨rfl, by decide, by decide⟩, trivial⟩ h1 (fun v I' L' r1 r2 r3 => ?_)
      obtain ⟨rfl, rfl⟩ := gR_nil r2
      obtain ⟨x, rfl, r4, r5⟩ := r3
      exact hk _ _ _ h1 h2 ⟨x, rfl, r4, r5⟩
    have loop : ∀ (N : Nat) (lot : Int64) (i : Int32) (e6 e7 : Option jV) (I : Nat → Nat → Nat → Int32) (L : Nat → Nat → Nat → Int64), n.toInt - i.toInt ≤ (N : Int) → 0 ≤ i.toInt → n.toInt ≤ 20 → 0 ≤ lot.toInt → lot.toInt ≤ 2147483646 → gG aGI I → gR [(32, (0, 0), (0, 1148))] I0 L0 I L → 1 ≤ (I 31 0 3).toInt → (I 32 0 0).toInt + n.toInt ≤ 40 + i.toInt → jWB (jWPM d) k none (jco 207) (58, [some (.inr (31, 0)), some (.inl (.inl n)), some (.inl (.inl sd)), some (.inl (.inr lot)), none, some (.inl (.inl i)), e6, e7], [], I, L) := by
      intro N
      induction N with
      | zero =>
        intro lot i e6 e7 I L h1 h2 h3 h4 h5 h6 h7 h8 h9
        refine jWB_run [58, 178] 60 ?_
        conv => whnf
        refine ⟨fun q => hexit lot i e6 e7 I L h6 h7, fun q => ?_⟩
        rw [le_t] at q; exfalso; omega
      | succ N ih =>
        intro lot i e6 e7 I L h1 h2 h3 h4 h5 h6 h7 h8 h9
        refine jWB_run [58, 100, 178] 60 ?_
        conv => whnf
        refine ⟨fun q => hexit lot i e6 e7 I L h6 h7, fun q => ?_⟩
        rw [le_t] at q
        have hpk := gi_mpackets h6
        have ei : (i + 1).toInt = i.toInt + 1 := by rw [i32_add (by simp; omega)]; simp
        have after : ∀ (lot' : Int64) (way x : Int32) (I1 : Nat → Nat → Nat → Int32), 0 ≤ lot'.toInt → lot'.toInt ≤ 2147483646 → 0 ≤ x.toInt → x.toInt ≤ 5 → gG aGI I1 → gR [(32, (0, 0), (0, 1148))] I L I1 L → (I1 32 0 0).toInt = (I 32 0 0).toInt + 1 → jWB (jWPM d) k none (jco 207) (100, [some (.inr (31, 0)), some (.inl (.inl n)), some (.inl (.inl sd)), some (.inl (.inr lot')), none, some (.inl (.inl i)), some (.inl (.inl way)), some (.inl (.inl x))], [], I1, L) := by
          intro lot' way x I1 hl1 hl2 hx1 hx2 g1 g2 g3
          have p1 : I1 31 0 3 = I 31 0 3 := gR_at g2 31 3 (by decide) (by decide)
          have g4 := gR_cat h7 g2
          have back : ∀ (I2 : Nat → Nat → Nat → Int32) (L2 : Nat → Nat → Nat → Int64), gG aGI I2 → gR [(32, (0, 0), (1, 1148))] I1 L I2 L2 → jWB (jWPM d) k none (jco 207) (172, [some (.inr (31, 0)), some (.inl (.inl n)), some (.inl (.inl sd)), some (.inl (.inr lot')), none, some (.inl (.inl i)), some (.inl (.inl way)), some (.inl (.inl x))], [], I2, L2) := by
            intro I2 L2 f1 f2
            have p2 : I2 31 0 3 = I1 31 0 3 := gR_at f2 31 3 (by decide) (by decide)
            have p3 : I2 32 0 0 = I1 32 0 0 := gR_at f2 32 0 (by decide) (by decide)
            refine jWB_run [58] 20 ?_
            refine ih lot' (i + 1) _ _ I2 L2 (by omega) (by omega) h3 hl1 hl2 f1 (gR_cat g4 (gR_in (by decide) f2)) (by rw [p2, p1]; exact h8) ?_
            rw [p3]; omega
          have nx := cl_t (x := x) (by omega)
          have e17 : (17 + x).toInt = 17 + x.toInt := by rw [i32_add (by simp; omega)]; simp
          have n17 := cl_t (x := 17 + x) (by omega)
          have two : jWB (jWPM d) k none (jco 207) (129, [some (.inr (31, 0)), some (.inl (.inl n)), some (.inl (.inl sd)), some (.inl (.inr lot')), none, some (.inl (.inl i)), some (.inl (.inl way)), some (.inl (.inl x))], [], I1, L) := by
            have pass : jWB (jWPM d) k none (jco 207) (166, [some (.inr (31, 0)), some (.inl (.inl n)), some (.inl (.inl sd)), some (.inl (.inr lot')), none, some (.inl (.inl i)), some (.inl (.inl way)), some (.inl (.inl x))], [], I1, L) := by
              refine jWB_run [172] 20 ?_
              conv => whnf
              refine use_c cT152 (Nat.le_trans (by decide) hd) ⟨⟨rfl, rfl, by simp, by simp⟩, ⟨rfl, by decide, by decide⟩, trivial⟩ g1 (fun v I' L' r1 r2 r3 => ?_)
              obtain ⟨y, rfl, r4, r5⟩ := r3
              exact back I' L' r1 (gR_in (by decide) r2)
            refine jWB_run [166, 172] 40 ?_
            conv => whnf
            refine ⟨fun _ => pass, fun _ => ?_⟩
            conv => whnf
            refine ⟨vp_in_iff.mpr (by omega), ?_⟩
            conv => whnf
            refine ⟨fun _ => pass, fun _ => ?_⟩
            conv => whnf
            refine ⟨vp_in_iff.mpr (by omega), ?_⟩
            conv => whnf
            refine ⟨vp_in_iff.mpr (by omega), ?_⟩
            exact back _ L (gG_32 g1 (fun z => by omega) (fun z => by omega)) (gR_w gR_rf List.mem_cons_self (by omega) (by omega))
          refine jWB_run [129, 172] 60 ?_
          conv => whnf
          refine ⟨fun _ => two, fun _ => ?_⟩
          conv => whnf
          refine use_c cT148 (Nat.le_trans (by decide) hd) ⟨⟨rfl, rfl, by simp, by simp⟩, ⟨rfl, by decide, by decide⟩, ⟨rfl, by simp only; omega, by simp only; omega⟩, ⟨rfl, by decide, by decide⟩, trivial⟩ g1 (fun v I' L' r1 r2 r3 => ?_)
          obtain ⟨rfl, rfl⟩ := gR_nil r2
          obtain ⟨y, rfl, r4, r5⟩ := r3
          conv => whnf
          refine ⟨fun _ => two, fun _ => ?_⟩
          conv => whnf
          refine use_c cT150 (Nat.le_trans (by decide) hd) ⟨⟨rfl, rfl, by simp, by simp⟩, ⟨rfl, by decide, by decide⟩, ⟨rfl, by simp only; omega, by simp only; omega⟩, ⟨rfl, by decide, by decide⟩, trivial⟩ g1 (fun v I' L' r1 r2 r3 => ?_)
          obtain ⟨y, rfl, r4, r5⟩ := r3
          exact back I' L' r1 (gR_in (by decide) r2)
        have hp64 : (I 31 0 3).toInt64.toInt = (I 31 0 3).toInt := Int32.toInt_toInt64 _
        have hl := lot_n h4 h5
        have hx := lot_x hl.1 hl.2 h8
        have h55 : (I 31 0 3).toInt - 1 ≤ 5 := by clear hl hx; omega
        have h39 : (I 32 0 0).toInt ≤ 39 := by clear hl hx; omega
        have hnz : ¬ (I 31 0 3).toInt64 = 0 := fun e => by clear hl hx; rw [e] at hp64; simp at hp64; omega
        conv => whnf
        refine ⟨by decide, ?_⟩
        conv => whnf
        refine ⟨by decide, ?_⟩
        conv => whnf
        refine ⟨by decide, ?_⟩
        conv => whnf
        refine ⟨hnz, ?_⟩
        conv => whnf
        refine hd_keepPast (Nat.le_trans (by decide) hd) h6 h39 (fun I1 g1 g2 g3 => ?_)
        exact after _ _ _ I1 hl.1 hl.2 hx.1 (Int.le_trans hx.2 h55) g1 g2 g3
    refine jWB_run [58] 60 ?_
    conv => whnf
    have bad : k (some (.inl (.inl (-1)))) (I0, L0) := hk _ _ _ hG gR_rf ⟨-1, rfl, by decide, by decide⟩
    refine hd_in (Nat.le_trans (by decide) hd) (fun a b => ?_) (fun a => ?_)
    · rw [Int32.toInt_toInt64] at a b
      have a : 1 ≤ n.toInt := by simpa using a
      have b : n.toInt ≤ 20 := by simpa using b
      conv => whnf
      refine ⟨fun h => absurd h (by decide), fun _ => ?_⟩
      conv => whnf
      refine hd_in (Nat.le_trans (by decide) hd) (fun a2 b2 => ?_) (fun a => ?_)
      · rw [Int32.toInt_toInt64] at a2 b2
        have a2 : 1 ≤ sd.toInt := by simpa using a2
        have b2 : sd.toInt ≤ 2147483646 := by simpa using b2
        conv => whnf
        refine ⟨fun _ => ?_, fun h => absurd h (by decide)⟩
        conv => whnf
        refine ⟨fun q => ?_, fun q => hk _ _ _ hG gR_rf ⟨-4, rfl, by decide, by decide⟩⟩
        have hpk := gi_mpackets hG
        have hn : (I0 31 0 3).toInt ≠ 0 := fun e => q (i32_of e 0 rfl)
        have h0 := gi32_0 hG
        have en : (I0 32 0 0 + n).toInt = (I0 32 0 0).toInt + n.toInt := i32_add (by omega)
        conv => whnf
        refine ⟨vp_in_iff.mpr (by decide), ?_⟩
        conv => whnf
        refine ⟨fun q => ?_, fun q => hk _ _ _ hG gR_rf ⟨-2, rfl, by decide, by decide⟩⟩
        have q : (I0 32 0 0).toInt + n.toInt ≤ 40 := by
          have q : I0 32 0 0 + n ≤ 40 := q
          rw [le_t, en] at q; simpa using q
        exact loop 20 sd.toInt64 0 _ _ I0 L0 (by simp; omega) (by decide) b (by rw [Int32.toInt_toInt64]; omega) (by rw [Int32.toInt_toInt64]; omega) hG gR_rf (by omega) (by simp; omega)
      · conv => whnf
        exact ⟨fun h => absurd rfl h, fun h => bad⟩
    · conv => whnf
      exact ⟨fun h => bad, fun h => absurd rfl h⟩
