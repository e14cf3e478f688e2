section
/-! contracts that rest on those proved by hand -/
noncomputable def cLg : List (Nat × aK) := (117, ([(1, 0, ((-9223372036854775808), 9223372036854775807)), (1, 0, ((-9223372036854775808), 9223372036854775807))], (2, ((-9223372036854775808), 9223372036854775807)), [], 1)) :: (122, ([(2, 0, (0, 0)), (0, 0, (0, 12))], (2, ((-9223372036854775808), 9223372036854775807)), [(11, (0, 0), (0, 54))], 4)) :: cL11
theorem cPg : ∀ q ∈ cLg, aKP aGI q.1 q.2 := aFm hK_commonDivisor (aFm hK_weighWays (cP11))
/-- X7_tellRatio -/
noncomputable def cK192 : aK := ([(2, 0, (0, 0)), (1, 0, ((-9223372036854775808), 9223372036854775807)), (1, 0, ((-9223372036854775808), 9223372036854775807))], (0, (0, 0)), [(0, (0, 0), (15, 16))], 2)
set_option maxRecDepth 100000 in
theorem cT192 : aKP aGI 116 cK192 := achk_ok (aCt_ok cPg) (n := 4000) (ann := aAf) (il := aIl) (by decide +kernel)
noncomputable def cL12 : List (Nat × aK) := (116, cK192) :: cLg
set_option maxRecDepth 100000 in
theorem cP12 : ∀ q ∈ cL12, aKP aGI q.1 q.2 := aFm cT192 (cPg)
end
section
/-- X7_rate -/
noncomputable def cK193 : aK := ([(2, 0, (0, 0)), (0, 0, ((-2147483648), 2147483647))], (1, ((-4), 1)), [(0, (0, 0), (15, 16))], 4)
set_option maxRecDepth 100000 in
theorem cT193 : aKP aGI 90 cK193 := achk_ok (aCt_ok cP12) (n := 4000) (ann := aAf) (il := aIl) (by decide +kernel)
/-- X7_odds -/
noncomputable def cK194 : aK := ([(2, 0, (0, 0)), (0, 0, ((-2147483648), 2147483647)), (0, 0, ((-2147483648), 2147483647))], (1, ((-4), 1)), [(0, (0, 0), (15, 16)), (11, (0, 0), (0, 54))], 5)
set_option maxRecDepth 100000 in
theorem cT194 : aKP aGI 103 cK194 := achk_ok (aCt_ok cP12) (n := 4000) (ann := aAf) (il := aIl) (by decide +kernel)
/-- X7_mid -/
noncomputable def cK195 : aK := ([(2, 0, (0, 0)), (0, 0, ((-2147483648), 2147483647))], (1, ((-4), 1)), [(0, (0, 0), (15, 16))], 4)
set_option maxRecDepth 100000 in
theorem cT195 : aKP aGI 104 cK195 := achk_ok (aCt_ok cP12) (n := 4000) (ann := aAf) (il := aIl) (by decide +kernel)
noncomputable def cL13 : List (Nat × aK) := (90, cK193) :: (103, cK194) :: (104, cK195) :: cL12
set_option maxRecDepth 100000 in
theorem cP13 : ∀ q ∈ cL13, aKP aGI q.1 q.2 := aFm cT193 (aFm cT194 (aFm cT195 (cP12)))
end
section
noncomputable def eC (m : Nat) (c : aK) : Bool := achk aGI (aCt cL13) aAf aIl 4000 m c
end
section
/-! what the class's log says of its grams -/
noncomputable def shr (x : Int32) (i : Nat) : Int := if x.toInt / 1000 = 2 ∧ x.toInt / 100 % 10 = (i : Int) then 1 else 0
noncomputable def cnt (lg : Nat → Int32) (i : Nat) : Nat → Int
  | 0 => 0
  | n + 1 => cnt lg i n + shr (lg n) i
noncomputable def lgOK (x : Int32) : Prop := 0 ≤ x.toInt ∧ x.toInt ≤ 4999 ∧ x.toInt / 100 % 10 ≤ 5
noncomputable def hJ (I : Nat → Nat → Nat → Int32) (h : Nat) : Prop := (∀ e : Nat, (e : Int) < (I 4 h 15).toInt → lgOK (I 22 h e)) ∧ ∀ i : Nat, i ≤ 5 → (I 19 h i).toInt + cnt (I 22 h) i (I 4 h 15).toInt.toNat = (I 19 0 i).toInt
noncomputable def jJ (I : Nat → Nat → Nat → Int32) : Prop := I 4 0 15 = 0 ∧ I 4 5 15 = 0 ∧ hJ I 1 ∧ ∀ k : Nat, k ≤ 2 → ¬ I 6 0 k = 0 → hJ I (2 + k)
theorem shr_01 (x : Int32) (i : Nat) : 0 ≤ shr x i ∧ shr x i ≤ 1 := by unfold shr; split <;> omega
theorem cnt_ge (lg : Nat → Int32) (i : Nat) : ∀ n m : Nat, n ≤ m → cnt lg i n ≤ cnt lg i m
  | n, 0, h => by rw [Nat.le_zero.mp h]; exact Int.le_refl _
  | n, m + 1, h => by
    rcases Nat.lt_or_ge n (m + 1) with q | q
    · have := cnt_ge lg i n m (by omega)
      have := (shr_01 (lg m) i).1
      show _ ≤ cnt lg i m + shr (lg m) i
      omega
    · rw [Nat.le_antisymm h q]; exact Int.le_refl _
theorem cnt_ext {lg lg' : Nat → Int32} {i : Nat} : ∀ {n : Nat}, (∀ e, e < n → lg e = lg' e) → cnt lg i n = cnt lg' i n
  | 0, _ => rfl
  | n + 1, h => by
    show cnt lg i n + shr (lg n) i = cnt lg' i n + shr (lg' n) i
    rw [cnt_ext (fun e he => h e (by omega)), h n (by omega)]
/-- the cells that it reads -/
noncomputable def jJW : List aR := [(4, (0, 5), (15, 15)), (19, (0, 4), (0, 5)), (22, (1, 4), (0, 39)), (6, (0, 0), (0, 2))]
noncomputable def rApart (W W' : List aR) : Bool := W.all (fun r => W'.all (fun s => !(Nat.beq r.1 s.1) || decide (r.2.1.2 < s.2.1.1) || decide (s.2.1.2 < r.2.1.1) || decide (r.2.2.2 < s.2.2.1) || decide (s.2.2.2 < r.2.2.1)))
theorem rApart_of {W W' : List aR} (h : rApart W W' = true) {g i j : Nat} (hj : gI W' g i j) : ¬ gI W g i j := by
  rintro ⟨r, hr, a1, a2, a3, a4, a5⟩
  obtain ⟨s, hs, b1, b2, b3, b4, b5⟩ := hj
  have h1 := List.all_eq_true.mp (List.all_eq_true.mp h r hr) s hs
  simp only [Bool.or_eq_true, decide_eq_true_eq, Bool.not_eq_true'] at h1
  have e : Nat.beq r.1 s.1 = true := by rw [a1, b1]; exact Nat.beq_refl g
  rcases h1 with (((h1 | h1) | h1) | h1) | h1
  · rw [e] at h1; cases h1
  all_goals omega
theorem jJ_cells {I I' : Nat → Nat → Nat → Int32} (hG : gG aGI I) (h : jJ I) (e : ∀ g i j, gI jJW g i j → I' g i j = I g i j) : jJ I' := by
  have e15 : ∀ h : Nat, h ≤ 5 → I' 4 h 15 = I 4 h 15 := fun h hh => e 4 h 15 ⟨(4, (0, 5), (15, 15)), by decide, rfl, by simp, by simp; omega, by simp, by simp⟩
  have e19 : ∀ h i : Nat, h ≤ 4 → i ≤ 5 → I' 19 h i = I 19 h i := fun h i hh hi => e 19 h i ⟨(19, (0, 4), (0, 5)), by decide, rfl, by simp, by simp; omega, by simp, by simp; omega⟩
  have e22 : ∀ h i : Nat, 1 ≤ h → h ≤ 4 → i ≤ 39 → I' 22 h i = I 22 h i := fun h i h1 hh hi => e 22 h i ⟨(22, (1, 4), (0, 39)), by decide, rfl, by simp; omega, by simp; omega, by simp, by simp; omega⟩
  have e6 : ∀ i : Nat, i ≤ 2 → I' 6 0 i = I 6 0 i := fun i hi => e 6 0 i ⟨(6, (0, 0), (0, 2)), by decide, rfl, by simp, by simp, by simp, by simp; omega⟩
  have key : ∀ h : Nat, 1 ≤ h → h ≤ 4 → hJ I h → hJ I' h := by
    intro h h1 h4 q
    have hd : 0 ≤ (I 4 h 15).toInt ∧ (I 4 h 15).toInt ≤ 40 := hG (4, (0, 5), (15, 15), (0, 40)) (by decide) h 15 (by simp) (by simp; omega) (by simp) (by simp)
    refine ⟨fun x hx => ?_, fun i hi => ?_⟩
    · rw [e15 h (by omega)] at hx
      rw [e22 h x h1 h4 (by omega)]
      exact q.1 x hx
    · rw [e15 h (by omega), e19 h i h4 hi, e19 0 i (by omega) hi, cnt_ext (fun x hx => e22 h x h1 h4 (by omega))]
      exact q.2 i hi
  exact ⟨by rw [e15 0 (by omega)]; exact h.1, by rw [e15 5 (by omega)]; exact h.2.1, key 1 (by omega) (by omega) h.2.2.1, fun k hk q => key (2 + k) (by omega) (by omega) (h.2.2.2 k hk (by rw [← e6 k hk]; exact q))⟩
theorem jJ_frame {W : List aR} {I I' : Nat → Nat → Nat → Int32} {L L' : Nat → Nat → Nat → Int64} (hw : rApart W jJW = true) (hG : gG aGI I) (h : jJ I) (hR : gR W I L I' L') : jJ I' := jJ_cells hG h (fun g i j q => (hR g i j (rApart_of hw q)).1)
theorem gi_deeds {I : Nat → Nat → Nat → Int32} (h : gG aGI I) {x : Nat} (hx : x ≤ 5) : 0 ≤ (I 4 x 15).toInt ∧ (I 4 x 15).toInt ≤ 40 := h (4, (0, 5), (15, 15), (0, 40)) (by decide) x 15 (by simp) (by simp; omega) (by simp) (by simp)
theorem gi_grams {I : Nat → Nat → Nat → Int32} (h : gG aGI I) {x j : Nat} (hx : x ≤ 5) (hj : j ≤ 5) : 0 ≤ (I 19 x j).toInt ∧ (I 19 x j).toInt ≤ 9 := h (19, (0, 5), (0, 5), (0, 9)) (by decide) x j (by simp) (by simp; omega) (by simp) (by simp; omega)
noncomputable def pfW : List aR := [(4, (1, 1), (9, 15)), (19, (1, 1), (0, 5)), (20, (1, 1), (0, 5)), (22, (1, 1), (0, 39)), (23, (1, 1), (0, 9))]
noncomputable def pfP (I I' : Nat → Nat → Nat → Int32) (dd i v : Int32) : Prop := (I 4 1 15).toInt ≤ 39 ∧ (I' 4 1 15).toInt = (I 4 1 15).toInt + 1 ∧ (∀ e : Nat, I' 22 1 e = if e = (I 4 1 15).toNatClampNeg then dd * 1000 + i * 100 + v else I 22 1 e) ∧ (∀ j : Nat, (I' 19 1 j).toInt = (I 19 1 j).toInt - (if dd = 2 ∧ j = i.toNatClampNeg then 1 else 0))
theorem hd_hasDeedsFor {d : Nat} (hd : 1 ≤ d) {n : Int32} {I : Nat → Nat → Nat → Int32} {L : Nat → Nat → Nat → Int64} {k : jK} (hG : gG aGI I) (h0 : 0 ≤ n.toInt) (h20 : n.toInt ≤ 20) (h1 : (I 4 1 15).toInt + n.toInt ≤ 40 → k (some (.inl (.inl 1))) (I, L)) (hz : ¬ (I 4 1 15).toInt + n.toInt ≤ 40 → k (some (.inl (.inl 0))) (I, L)) : jWPM d 32 [.inr (4, 1), .inl (.inl n)] (I, L) k := by
  obtain ⟨d, rfl⟩ : ∃ d', d = d' + 1 := ⟨d - 1, by omega⟩
  have hb := gi_deeds hG (x := 1) (by omega)
  have e : (I 4 1 15 + n).toInt = (I 4 1 15).toInt + n.toInt := i32_add (by omega)
  refine jWB_run [] 30 ?_
  conv => whnf
  refine ⟨fun q => ?_, fun q => ?_⟩
  · have q : 40 < (I 4 1 15 + n).toInt := lt_t.mp q
    conv => whnf
    exact ⟨Or.inl rfl, hz (by omega)⟩
  · have q : ¬ 40 < (I 4 1 15 + n).toInt := fun z => q (lt_t.mpr z)
    conv => whnf
    exact ⟨Or.inr rfl, h1 (by omega)⟩
theorem gR_wi {W : List aR} {I0 I : Nat → Nat → Nat → Int32} {L0 L : Nat → Nat → Nat → Int64} {g i j : Nat} {x : Int32} {a b lo hi : Int} (h : gR W I0 L0 I L) (hm : (g, (a, b), (lo, hi)) ∈ W) (h1 : a ≤ (i : Int)) (h2 : (i : Int) ≤ b) (h3 : lo ≤ (j : Int)) (h4 : (j : Int) ≤ hi) : gR W I0 L0 (jup I g i j x) L := gR_upI h ⟨_, hm, rfl, h1, h2, h3, h4⟩
theorem gG_up1i {I : Nat → Nat → Nat → Int32} {g i j : Nat} {x : Int32} {lo hi : Int} (h : gG aGI I) (hn : ∀ e ∈ aGI, e.1 = g → e.2.2.1.1 ≤ (j : Int) → (j : Int) ≤ e.2.2.1.2 → e.2.2.2 = (lo, hi)) (h1 : lo ≤ x.toInt) (h2 : x.toInt ≤ hi) : gG aGI (jup I g i j x) := gG_up1 h (fun e he a b c => by rw [hn e he a b c]; exact ⟨h1, h2⟩)
theorem gi19 : ∀ e ∈ aGI, e.1 = 19 → e.2.2.2 = (0, 9) := by decide
set_option maxHeartbeats 4000000 in
theorem hd_perform {d : Nat} (hd : 6 ≤ d) {dd i v : Int32} {I : Nat → Nat → Nat → Int32} {L : Nat → Nat → Nat → Int64} {k : jK} (hG : gG aGI I) (hd0 : 0 ≤ dd.toInt) (hd4 : dd.toInt ≤ 4) (hi0 : 0 ≤ i.toInt) (hi5 : i.toInt ≤ 5) (hs : dd = 2 → 1 ≤ (I 19 1 i.toNatClampNeg).toInt) (hk : ∀ x I' L', gG aGI I' → gR pfW I L I' L' → ((I' = I ∧ L' = L ∧ (I 4 1 15).toInt = 40) ∨ pfP I I' dd i v) → k (some (.inl (.inl x))) (I', L')) : jWPM d 44 [.inr (4, 1), .inl (.inl dd), .inl (.inl i), .inl (.inl v)] (I, L) k := by
  obtain ⟨d, rfl⟩ : ∃ d', d = d' + 1 := ⟨d - 1, by omega⟩
  have hd : 5 ≤ d := by omega
  have hb := gi_deeds hG (x := 1) (by omega)
  have nb := cl_t hb.1
  have ni := cl_t hi0
  refine jWB_run [] 60 ?_
  conv => whnf
  refine hd_hasDeedsFor (Nat.le_trans (by decide) hd) hG (by decide) (by decide) (fun h1 => ?_) (fun h1 => ?_)
  · have h1 : (I 4 1 15).toInt ≤ 39 := by have : (I 4 1 15).toInt + 1 ≤ 40 := h1; omega
    have e1 : (I 4 1 15 + 1).toInt = (I 4 1 15).toInt + 1 := by rw [i32_add (by simp; omega)]; simp
    conv => whnf
    refine ⟨fun _ => ?_, fun h => absurd h (by decide)⟩
    conv => whnf
    refine ⟨vp_in_iff.mpr (by omega), ?_⟩
    have gI1 : gG aGI (jup (jup I 22 1 (I 4 1 15).toNatClampNeg (dd * 1000 + i * 100 + v)) 4 1 15 (I 4 1 15 + 1)) := gG_up1i (gG_up hG (by decide)) (lo := 0) (hi := 40) (by decide) (by omega) (by omega)
    have rI1 : gR pfW I L (jup (jup I 22 1 (I 4 1 15).toNatClampNeg (dd * 1000 + i * 100 + v)) 4 1 15 (I 4 1 15 + 1)) L := gR_wi (gR_wi gR_rf (g := 22) (a := 1) (b := 1) (lo := 0) (hi := 39) (by decide) (by decide) (by decide) (by omega) (by omega)) (g := 4) (a := 1) (b := 1) (lo := 9) (hi := 15) (by decide) (by decide) (by decide) (by decide) (by decide)
    have a22 : ∀ e : Nat, jup (jup I 22 1 (I 4 1 15).toNatClampNeg (dd * 1000 + i * 100 + v)) 4 1 15 (I 4 1 15 + 1) 22 1 e = if e = (I 4 1 15).toNatClampNeg then dd * 1000 + i * 100 + v else I 22 1 e := fun e => by simp [jup]
    have a19 : ∀ e : Nat, jup (jup I 22 1 (I 4 1 15).toNatClampNeg (dd * 1000 + i * 100 + v)) 4 1 15 (I 4 1 15 + 1) 19 1 e = I 19 1 e := fun e => rfl
    have a15 : jup (jup I 22 1 (I 4 1 15).toNatClampNeg (dd * 1000 + i * 100 + v)) 4 1 15 (I 4 1 15 + 1) 4 1 15 = I 4 1 15 + 1 := rfl
    have fin : ∀ x I2 L2, ¬ dd = 2 → gG aGI I2 → gR [(4, (1, 1), (9, 14)), (20, (1, 1), (0, 5)), (23, (1, 1), (0, 9))] (jup (jup I 22 1 (I 4 1 15).toNatClampNeg (dd * 1000 + i * 100 + v)) 4 1 15 (I 4 1 15 + 1)) L I2 L2 → k (some (.inl (.inl x))) (I2, L2) := by
      intro x I2 L2 h2 g1 g2
      refine hk x I2 L2 g1 (gR_then rI1 (by decide) g2 (by decide)) (Or.inr ⟨h1, ?_, fun e => ?_, fun j => ?_⟩)
      · rw [(g2 4 1 15 (fun ⟨r, hr, q⟩ => ?_)).1, a15]; · exact e1
        revert q; revert r; decide
      · rw [(g2 22 1 e (fun ⟨r, hr, q⟩ => ?_)).1]; · exact a22 e
        have : ∀ r ∈ ([(4, (1, 1), (9, 14)), (20, (1, 1), (0, 5)), (23, (1, 1), (0, 9))] : List aR), r.1 ≠ 22 := by decide
        exact this r hr q.1
      · rw [(g2 19 1 j (fun ⟨r, hr, q⟩ => ?_)).1, a19, if_neg (fun z => h2 z.1)]; · omega
        have : ∀ r ∈ ([(4, (1, 1), (9, 14)), (20, (1, 1), (0, 5)), (23, (1, 1), (0, 9))] : List aR), r.1 ≠ 19 := by decide
        exact this r hr q.1
    conv => whnf
    refine ⟨fun q => ?_, fun q0 => ⟨fun q => ?_, fun q1 => ⟨fun q => ?_, fun q2 => ⟨fun q => ?_, fun q3 => ?_⟩⟩⟩⟩
    · conv => whnf
      refine use_c cT40 (Nat.le_trans (by decide) hd) ⟨⟨rfl, rfl, by simp, by simp⟩, ⟨rfl, by simp only; omega, by simp only; omega⟩, ⟨rfl, (i32_rng _).1, (i32_rng _).2⟩, trivial⟩ gI1 (fun x I' L' r1 r2 r3 => ?_)
      obtain ⟨y, rfl, -, -⟩ := r3
      exact fin y I' L' (fun z => by rw [z] at q; exact absurd q (by decide)) r1 (gR_in (by decide) r2)
    · conv => whnf
      refine use_c cT41 (Nat.le_trans (by decide) hd) ⟨⟨rfl, rfl, by simp, by simp⟩, trivial⟩ gI1 (fun x I' L' r1 r2 r3 => ?_)
      obtain ⟨y, rfl, -, -⟩ := r3
      exact fin y I' L' (fun z => by rw [z] at q; exact absurd q (by decide)) r1 (gR_in (by decide) r2)
    · have hs := hs q
      have hg := gi_grams hG (x := 1) (j := i.toNatClampNeg) (by omega) (by omega)
      have es : (I 19 1 i.toNatClampNeg - 1).toInt = (I 19 1 i.toNatClampNeg).toInt - 1 := by rw [i32_sub (by simp; omega)]; simp
      conv => whnf
      refine ⟨vp_in_iff.mpr (by omega), ?_⟩
      conv => whnf
      refine ⟨vp_in_iff.mpr (by omega), ?_⟩
      conv => whnf
      refine ⟨vp_in_iff.mpr (by omega), ?_⟩
      refine hk _ _ _ (gG_up1 gI1 (fun e he a _ _ => ?_)) (gR_wi rI1 (g := 19) (a := 1) (b := 1) (lo := 0) (hi := 5) (by decide) (by decide) (by decide) (by omega) (by omega)) (Or.inr ⟨h1, e1, fun e => a22 e, fun j => ?_⟩)
      · rw [gi19 e he a]
        show 0 ≤ (I 19 1 i.toNatClampNeg - 1).toInt ∧ (I 19 1 i.toNatClampNeg - 1).toInt ≤ 9
        omega
      · by_cases hj : j = i.toNatClampNeg
        · subst hj
          rw [if_pos ⟨q, rfl⟩, ← es]
          have : ∀ (A : Nat → Nat → Nat → Int32) (j : Nat) (y : Int32), jup A 19 1 j y 19 1 j = y := fun A j y => by simp [jup]
          rw [this]; rfl
        · rw [if_neg (fun z => hj z.2), jup_of (fun z => hj z.2.2)]; show (I 19 1 j).toInt = _; omega
    · conv => whnf
      refine ⟨vp_in_iff.mpr (by omega), ?_⟩
      conv => whnf
      refine ⟨vp_in_iff.mpr (by omega), ?_⟩
      exact fin _ _ L q2 (gG_up gI1 (by decide)) (gR_wi gR_rf (g := 20) (a := 1) (b := 1) (lo := 0) (hi := 5) (by decide) (by decide) (by decide) (by omega) (by omega))
    · conv => whnf
      refine ⟨fun _ => ?_, fun _ => ?_⟩
      · conv => whnf
        refine ⟨Or.inl rfl, ?_⟩
        exact fin _ _ L q2 (gG_up1i gI1 (lo := 0) (hi := 1) (by decide) (by decide) (by decide)) (gR_wi gR_rf (g := 4) (a := 1) (b := 1) (lo := 9) (hi := 14) (by decide) (by decide) (by decide) (by decide) (by decide))
      · conv => whnf
        refine ⟨Or.inr rfl, ?_⟩
        exact fin _ _ L q2 (gG_up1i gI1 (lo := 0) (hi := 1) (by decide) (by decide) (by decide)) (gR_wi gR_rf (g := 4) (a := 1) (b := 1) (lo := 9) (hi := 14) (by decide) (by decide) (by decide) (by decide) (by decide))
  · conv => whnf
    refine ⟨fun h => absurd rfl h, fun _ => hk _ _ _ hG gR_rf (Or.inl ⟨rfl, rfl, ?_⟩)⟩
    have : ¬ (I 4 1 15).toInt + 1 ≤ 40 := h1
    omega
end
section
theorem gi_card {I : Nat → Nat → Nat → Int32} (h : gG aGI I) {x : Nat} (hx : x ≤ 5) : 0 ≤ (I 4 x 14).toInt ∧ (I 4 x 14).toInt ≤ 1 := h (4, (0, 5), (14, 14), (0, 1)) (by decide) x 14 (by simp) (by simp; omega) (by simp) (by simp)
theorem gi_pk {I : Nat → Nat → Nat → Int32} (h : gG aGI I) {x : Nat} (hx : x ≤ 5) : 0 ≤ (I 4 x 6).toInt ∧ (I 4 x 6).toInt ≤ 6 := h (4, (0, 5), (6, 6), (0, 6)) (by decide) x 6 (by simp) (by simp; omega) (by simp) (by simp)
theorem gR_cpy {W : List aR} {I0 I : Nat → Nat → Nat → Int32} {L0 L : Nat → Nat → Nat → Int64} {g a b n : Nat} (h : gR W I0 L0 I L) (hm : (g, ((a : Int), (a : Int)), ((0 : Int), (n : Int) - 1)) ∈ W) : gR W I0 L0 (jcpy I g b g a 0 0 n) L := fun g' i' j' hn => by
  refine ⟨?_, (h g' i' j' hn).2⟩
  unfold jcpy
  rw [if_neg (fun q => hn ⟨_, hm, q.1.symm, by simp; omega, by simp; omega, by simp, by simp; omega⟩)]
  exact (h g' i' j' hn).1
theorem gG_cpy {I : Nat → Nat → Nat → Int32} {g a b n : Nat} (h : gG aGI I) (hg : ∀ e ∈ aGI, e.1 = g → e.2.1 = (0, 5) ∧ e.2.2.1 = (0, 5)) (hb : b ≤ 5) : gG aGI (jcpy I g b g a 0 0 n) := fun e he i j a1 a2 a3 a4 => by
  unfold jcpy
  split
  · rename_i q
    obtain ⟨q1, q2⟩ := hg e he q.1
    rw [q2] at a3 a4
    have := h e he b (0 + (j - 0)) (by rw [q1]; simp) (by rw [q1]; simp; omega) (by rw [q2]; simp) (by rw [q2]; simp at a4 ⊢; omega)
    rw [q.1] at this
    exact this
  · exact h e he i j a1 a2 a3 a4
theorem cpy_at {I : Nat → Nat → Nat → Int32} {g a b n j : Nat} (hj : j < n) : jcpy I g b g a 0 0 n g a j = I g b j := by
  unfold jcpy
  rw [if_pos ⟨rfl, rfl, Nat.zero_le _, by omega⟩]
  simp
theorem cpy_of {I : Nat → Nat → Nat → Int32} {g a b n g' i' j' : Nat} (h : ¬ (g' = g ∧ i' = a)) : jcpy I g b g a 0 0 n g' i' j' = I g' i' j' := by
  unfold jcpy
  rw [if_neg (fun q => h ⟨q.1, q.2.1⟩)]
noncomputable def tsW (a : Nat) : List aR := [(4, ((a : Int), (a : Int)), (6, 15)), (18, ((a : Int), (a : Int)), (0, 5)), (19, ((a : Int), (a : Int)), (0, 5)), (20, ((a : Int), (a : Int)), (0, 5)), (21, ((a : Int), (a : Int)), (0, 5)), (23, ((a : Int), (a : Int)), (0, 9))]
theorem gR_ts4 {I0 I : Nat → Nat → Nat → Int32} {L0 L : Nat → Nat → Nat → Int64} {a j : Nat} {x : Int32} (h : gR (tsW a) I0 L0 I L) (h1 : 6 ≤ j) (h2 : j ≤ 15) : gR (tsW a) I0 L0 (jup I 4 a j x) L := gR_upI h ⟨(4, ((a : Int), (a : Int)), (6, 15)), List.mem_cons_self, rfl, by simp, by simp, by simp; omega, by simp; omega⟩
theorem i32_01 {x : Int32} (h : 0 ≤ x.toInt ∧ x.toInt ≤ 1) : x = 0 ∨ x = 1 := by
  have : x.toInt = 0 ∨ x.toInt = 1 := by omega
  rcases this with h | h
  · exact Or.inl (i32_of h 0 rfl)
  · exact Or.inr (i32_of h 1 rfl)
set_option maxHeartbeats 4000000 in
theorem hd_takeStanding {d : Nat} (hd : 2 ≤ d) {a b : Nat} (hab : a ≠ b) (ha : a ≤ 5) (hb : b ≤ 5) {I : Nat → Nat → Nat → Int32} {L : Nat → Nat → Nat → Int64} {k : jK} (hG : gG aGI I) (hk : ∀ I', gG aGI I' → gR (tsW a) I L I' L → (∀ j, j < 6 → I' 19 a j = I 19 b j) → I' 4 a 15 = I 4 b 15 → k none (I', L)) : jWPM d 29 [.inr (4, a), .inr (4, b)] (I, L) k := by
  obtain ⟨d, rfl⟩ : ∃ d', d = d' + 1 := ⟨d - 1, by omega⟩
  have hd : 1 ≤ d := by omega
  have hP : ∃ P : (Nat → Nat → Nat → Int32) → Prop, P = fun J => gG aGI J ∧ gR (tsW a) I L J L ∧ (∀ j, j < 6 → J 19 a j = I 19 b j) ∧ (∀ j, J 4 b j = I 4 b j) := ⟨_, rfl⟩
  obtain ⟨P, hP⟩ := hP
  have up : ∀ (J : Nat → Nat → Nat → Int32) (j : Nat), P J → 6 ≤ j → j ≤ 15 → (∀ e ∈ aGI, e.1 = 4 → e.2.2.1.1 ≤ (j : Int) → (j : Int) ≤ e.2.2.1.2 → e.2.1 = (0, 5)) → P (jup J 4 a j (J 4 b j)) := by
    intro J j h h1 h2 h3
    rw [hP] at h ⊢
    refine ⟨gG_up1 h.1 (fun e he q1 q2 q3 => ?_), gR_ts4 h.2.1 h1 h2, fun x hx => h.2.2.1 x hx, fun x => ?_⟩
    · have := h.1 e he b j (by rw [h3 e he q1 q2 q3]; simp) (by rw [h3 e he q1 q2 q3]; simp; omega) q2 q3
      rw [q1] at this
      exact this
    · rw [jup_of (fun q => hab q.2.1.symm)]
      exact h.2.2.2 x
  have s143 : ∀ J, P J → jWB (jWPM d) k none (jco 29) (143, [some (.inr (4, a)), some (.inr (4, b))], [], J, L) := by
    intro J h
    have h' := up J 15 h (by decide) (by decide) (by decide)
    rw [hP] at h'
    refine jWB_run [] 20 ?_
    conv => whnf
    refine hk _ h'.1 h'.2.1 h'.2.2.1 ?_
    have : jup J 4 a 15 (J 4 b 15) 4 a 15 = J 4 b 15 := by simp [jup]
    rw [hP] at h
    exact this.trans (h.2.2.2 15)
  have s135 : ∀ J, P J → jWB (jWPM d) k none (jco 29) (135, [some (.inr (4, a)), some (.inr (4, b))], [], J, L) := by
    intro J h
    have hb1 : J 4 b 14 = 0 ∨ J 4 b 14 = 1 := by
      rw [hP] at h
      exact i32_01 (gi_card h.1 hb)
    refine jWB_run [143] 20 ?_
    conv => whnf
    exact ⟨hb1, s143 _ (up J 14 h (by decide) (by decide) (by decide))⟩
  have s127 : ∀ J, P J → jWB (jWPM d) k none (jco 29) (127, [some (.inr (4, a)), some (.inr (4, b))], [], J, L) := by
    intro J h
    refine jWB_run [135] 20 ?_
    exact s135 _ (up J 13 h (by decide) (by decide) (by decide))
  have s119 : ∀ J, P J → jWB (jWPM d) k none (jco 29) (119, [some (.inr (4, a)), some (.inr (4, b))], [], J, L) := by
    intro J h
    refine jWB_run [127] 20 ?_
    exact s127 _ (up J 12 h (by decide) (by decide) (by decide))
  have s111 : ∀ J, P J → jWB (jWPM d) k none (jco 29) (111, [some (.inr (4, a)), some (.inr (4, b))], [], J, L) := by
    intro J h
    refine jWB_run [119] 20 ?_
    exact s119 _ (up J 11 h (by decide) (by decide) (by decide))
  have s103 : ∀ J, P J → jWB (jWPM d) k none (jco 29) (103, [some (.inr (4, a)), some (.inr (4, b))], [], J, L) := by
    intro J h
    refine jWB_run [111] 20 ?_
    exact s111 _ (up J 10 h (by decide) (by decide) (by decide))
  have s95 : ∀ J, P J → jWB (jWPM d) k none (jco 29) (95, [some (.inr (4, a)), some (.inr (4, b))], [], J, L) := by
    intro J h
    refine jWB_run [103] 20 ?_
    exact s103 _ (up J 9 h (by decide) (by decide) (by decide))
  have s87 : ∀ J, P J → jWB (jWPM d) k none (jco 29) (87, [some (.inr (4, a)), some (.inr (4, b))], [], J, L) := by
    intro J h
    refine jWB_run [95] 20 ?_
    exact s95 _ (up J 8 h (by decide) (by decide) (by decide))
  have s79 : ∀ J, P J → jWB (jWPM d) k none (jco 29) (79, [some (.inr (4, a)), some (.inr (4, b))], [], J, L) := by
    intro J h
    refine jWB_run [87] 20 ?_
    exact s87 _ (up J 7 h (by decide) (by decide) (by decide))
  have s71 : ∀ J, P J → jWB (jWPM d) k none (jco 29) (71, [some (.inr (4, a)), some (.inr (4, b))], [], J, L) := by
    intro J h
    refine jWB_run [79] 20 ?_
    exact s79 _ (up J 6 h (by decide) (by decide) (by decide))
  have s60 : ∀ J, P J → jWB (jWPM d) k none (jco 29) (60, [some (.inr (4, a)), some (.inr (4, b))], [], J, L) := by
    intro J h
    obtain ⟨d, rfl⟩ : ∃ d', d = d' + 1 := ⟨d - 1, by omega⟩
    refine jWB_run [71] 20 ?_
    conv => whnf
    refine jWB_run [] 20 ?_
    conv => whnf
    refine ⟨by decide, ?_⟩
    refine s71 _ ?_
    rw [hP] at h ⊢
    refine ⟨gG_cpy h.1 (by decide) hb, gR_cpy (n := 10) h.2.1 (by simp [tsW]), fun j hj => ?_, fun j => ?_⟩
    · exact (cpy_of (by simp)).trans (h.2.2.1 j hj)
    · exact (cpy_of (by simp)).trans (h.2.2.2 j)
  have s45 : ∀ J, P J → jWB (jWPM d) k none (jco 29) (45, [some (.inr (4, a)), some (.inr (4, b))], [], J, L) := by
    intro J h
    refine jWB_run [60] 20 ?_
    conv => whnf
    refine ⟨by decide, ?_⟩
    refine s60 _ ?_
    rw [hP] at h ⊢
    refine ⟨gG_cpy h.1 (by decide) hb, gR_cpy (n := 6) h.2.1 (by simp [tsW]), fun j hj => ?_, fun j => ?_⟩
    · exact (cpy_of (by simp)).trans (h.2.2.1 j hj)
    · exact (cpy_of (by simp)).trans (h.2.2.2 j)
  have s30 : ∀ J, P J → jWB (jWPM d) k none (jco 29) (30, [some (.inr (4, a)), some (.inr (4, b))], [], J, L) := by
    intro J h
    refine jWB_run [45] 20 ?_
    conv => whnf
    refine ⟨by decide, ?_⟩
    refine s45 _ ?_
    rw [hP] at h ⊢
    refine ⟨gG_cpy h.1 (by decide) hb, gR_cpy (n := 6) h.2.1 (by simp [tsW]), fun j hj => ?_, fun j => ?_⟩
    · exact (cpy_of (by simp)).trans (h.2.2.1 j hj)
    · exact (cpy_of (by simp)).trans (h.2.2.2 j)
  have s15 : ∀ J, gG aGI J → gR (tsW a) I L J L → (∀ j, J 19 b j = I 19 b j) → (∀ j, J 4 b j = I 4 b j) → jWB (jWPM d) k none (jco 29) (15, [some (.inr (4, a)), some (.inr (4, b))], [], J, L) := by
    intro J h1 h2 h3 h4
    refine jWB_run [30] 20 ?_
    conv => whnf
    refine ⟨by decide, ?_⟩
    refine s30 _ ?_
    rw [hP]
    refine ⟨gG_cpy h1 (by decide) hb, gR_cpy (n := 6) h2 (by simp [tsW]), fun j hj => ?_, fun j => ?_⟩
    · exact (cpy_at hj).trans (h3 j)
    · exact (cpy_of (by simp)).trans (h4 j)
  refine jWB_run [15] 20 ?_
  conv => whnf
  refine ⟨by decide, ?_⟩
  exact s15 _ (gG_cpy hG (by decide) hb) (gR_cpy (n := 6) gR_rf (by simp [tsW])) (fun j => cpy_of (by simp)) (fun j => cpy_of (by simp))
noncomputable def taW (a : Nat) : List aR := (22, ((a : Int), (a : Int)), (0, 39)) :: tsW a
theorem hd_takeAll {d : Nat} (hd : 3 ≤ d) {a b : Nat} (hab : a ≠ b) (ha : a ≤ 5) (hb : b ≤ 5) {I : Nat → Nat → Nat → Int32} {L : Nat → Nat → Nat → Int64} {k : jK} (hG : gG aGI I) (hk : ∀ I', gG aGI I' → gR (taW a) I L I' L → (∀ j, j < 6 → I' 19 a j = I 19 b j) → I' 4 a 15 = I 4 b 15 → (∀ j, j < 40 → I' 22 a j = I 22 b j) → k none (I', L)) : jWPM d 28 [.inr (4, a), .inr (4, b)] (I, L) k := by
  obtain ⟨d, rfl⟩ : ∃ d', d = d' + 1 := ⟨d - 1, by omega⟩
  have hd : 2 ≤ d := by omega
  refine jWB_run [] 30 ?_
  conv => whnf
  refine hd_takeStanding hd hab ha hb hG (fun I1 g1 g2 g3 g4 => ?_)
  have g5 : ∀ x j, I1 22 x j = I 22 x j := fun x j => (g2 22 x j (fun ⟨r, hr, q⟩ => by
    simp only [tsW, List.mem_cons, List.not_mem_nil, or_false] at hr
    rcases hr with rfl | rfl | rfl | rfl | rfl | rfl <;> (have q1 := q.1; simp at q1))).1
  conv => whnf
  refine ⟨by decide, ?_⟩
  refine hk _ (gG_cpy g1 (by decide) hb) (gR_cpy (n := 40) (gR_mono g2 (fun r hr => List.mem_cons_of_mem _ hr)) (by simp [taW])) (fun j hj => ?_) ?_ (fun j hj => ?_)
  · exact (cpy_of (by simp)).trans (g3 j hj)
  · exact (cpy_of (by simp)).trans g4
  · exact (cpy_at hj).trans (g5 b j)
end
section
theorem hJ_cells {I I' : Nat → Nat → Nat → Int32} {h h' : Nat} (hb : (I 4 h 15).toInt ≤ 40) (q : hJ I h) (e15 : I' 4 h' 15 = I 4 h 15) (e22 : ∀ e, e < 40 → I' 22 h' e = I 22 h e) (e19 : ∀ i, i < 6 → I' 19 h' i = I 19 h i) (e0 : ∀ i, i < 6 → I' 19 0 i = I 19 0 i) : hJ I' h' := by
  refine ⟨fun x hx => ?_, fun i hi => ?_⟩
  · rw [e15] at hx
    rw [e22 x (by omega)]
    exact q.1 x hx
  · rw [e15, e19 i (by omega), e0 i (by omega), cnt_ext (fun x hx => e22 x (by omega))]
    exact q.2 i hi
theorem code_t {dd i v : Int32} (hd0 : 0 ≤ dd.toInt) (hd4 : dd.toInt ≤ 4) (hi0 : 0 ≤ i.toInt) (hi5 : i.toInt ≤ 5) (hv0 : 0 ≤ v.toInt) (hv : v.toInt ≤ 99) : (dd * 1000 + i * 100 + v).toInt = dd.toInt * 1000 + i.toInt * 100 + v.toInt := by
  have c1 : (1000 : Int32).toInt = 1000 := rfl
  have c2 : (100 : Int32).toInt = 100 := rfl
  have e1 : (dd * 1000).toInt = dd.toInt * 1000 := by rw [i32_mul (by rw [c1]; omega), c1]
  have e2 : (i * 100).toInt = i.toInt * 100 := by rw [i32_mul (by rw [c2]; omega), c2]
  have e3 : (dd * 1000 + i * 100).toInt = dd.toInt * 1000 + i.toInt * 100 := by rw [i32_add (by rw [e1, e2]; omega), e1, e2]
  rw [i32_add (by rw [e3]; omega), e3]
theorem code_ok {dd i v : Int32} (hd0 : 0 ≤ dd.toInt) (hd4 : dd.toInt ≤ 4) (hi0 : 0 ≤ i.toInt) (hi5 : i.toInt ≤ 5) (hv0 : 0 ≤ v.toInt) (hv : v.toInt ≤ 99) : lgOK (dd * 1000 + i * 100 + v) ∧ ∀ j : Nat, shr (dd * 1000 + i * 100 + v) j = if dd = 2 ∧ j = i.toNatClampNeg then 1 else 0 := by
  have e := code_t hd0 hd4 hi0 hi5 hv0 hv
  have n := cl_t hi0
  refine ⟨?_, fun j => ?_⟩
  · unfold lgOK; rw [e]; omega
  · unfold shr
    rw [e]
    have e2 : dd = 2 ↔ dd.toInt = 2 := ⟨fun h => by rw [h]; rfl, fun h => i32_of h 2 rfl⟩
    by_cases h : dd = 2 ∧ j = i.toNatClampNeg
    · rw [if_pos h, if_pos]
      have := e2.mp h.1
      omega
    · rw [if_neg h, if_neg]
      intro q
      refine h ⟨e2.mpr (by omega), by omega⟩
theorem hJ_perform {I I' : Nat → Nat → Nat → Int32} {dd i v : Int32} (hG : gG aGI I) (h : hJ I 1) (hp : pfP I I' dd i v) (e0 : ∀ j, j < 6 → I' 19 0 j = I 19 0 j) (hc : lgOK (dd * 1000 + i * 100 + v) ∧ ∀ j : Nat, shr (dd * 1000 + i * 100 + v) j = if dd = 2 ∧ j = i.toNatClampNeg then 1 else 0) : hJ I' 1 := by
  obtain ⟨p1, p2, p3, p4⟩ := hp
  have hb := gi_deeds hG (x := 1) (by omega)
  have nb := cl_t hb.1
  refine ⟨fun e he => ?_, fun j hj => ?_⟩
  · rw [p3 e]
    by_cases q : e = (I 4 1 15).toNatClampNeg
    · rw [if_pos q]; exact hc.1
    · rw [if_neg q]; exact h.1 e (by omega)
  · have e1 : (I' 4 1 15).toInt.toNat = (I 4 1 15).toInt.toNat + 1 := by omega
    have e2 : cnt (I' 22 1) j ((I 4 1 15).toInt.toNat + 1) = cnt (I 22 1) j (I 4 1 15).toInt.toNat + shr (dd * 1000 + i * 100 + v) j := by
      show cnt (I' 22 1) j (I 4 1 15).toInt.toNat + shr (I' 22 1 (I 4 1 15).toInt.toNat) j = _
      rw [cnt_ext (lg' := I 22 1) (fun e he => by rw [p3 e, if_neg (by omega)]), p3, if_pos (by omega)]
    rw [e1, e2, p4 j, hc.2 j, e0 j (by omega), ← h.2 j hj]
    omega
theorem jJ_perform {I I' : Nat → Nat → Nat → Int32} {L L' : Nat → Nat → Nat → Int64} {dd i v : Int32} (hG : gG aGI I) (h : jJ I) (hR : gR pfW I L I' L') (hp : (I' = I ∧ L' = L ∧ (I 4 1 15).toInt = 40) ∨ pfP I I' dd i v) (hd0 : 0 ≤ dd.toInt) (hd4 : dd.toInt ≤ 4) (hi0 : 0 ≤ i.toInt) (hi5 : i.toInt ≤ 5) (hv0 : 0 ≤ v.toInt) (hv : v.toInt ≤ 99) : jJ I' := by
  rcases hp with hp | hp
  · rw [hp.1]; exact h
  have out : ∀ g x j : Nat, x ≠ 1 → I' g x j = I g x j := fun g x j hx => (hR g x j (fun ⟨r, hr, q1, q2, q3, q4⟩ => by
    have : ∀ r ∈ pfW, r.2.1 = (1, 1) := by decide
    rw [this r hr] at q2 q3
    omega)).1
  refine ⟨by rw [out 4 0 15 (by decide)]; exact h.1, by rw [out 4 5 15 (by decide)]; exact h.2.1, hJ_perform hG h.2.2.1 hp (fun j _ => out 19 0 j (by decide)) (code_ok hd0 hd4 hi0 hi5 hv0 hv), fun k hk q => ?_⟩
  refine hJ_cells (gi_deeds hG (by omega)).2 (h.2.2.2 k hk (by rw [← out 6 0 k (by decide)]; exact q)) (out _ _ _ (by omega)) (fun e _ => out _ _ _ (by omega)) (fun e _ => out _ _ _ (by omega)) (fun e _ => out _ _ _ (by decide))
/-- a contract that keeps both the bounds and the log -/
noncomputable def jKP (m : Nat) (A : List aA) (rv : Nat × (Int × Int)) : Prop := ∀ d, 13 ≤ d → ∀ (as : List jV) (I : Nat → Nat → Nat → Int32) (L : Nat → Nat → Nat → Int64), aAs A as → gG aGI I → jJ I → ∀ k : jK, (∀ v I' L', gG aGI I' → jJ I' → aRv rv v → k v (I', L')) → jWPM d m as (I, L) k
theorem jKP_of {m : Nat} {c : aK} (h : aKP aGI m c) (hn : c.2.2.2 ≤ 13) (hw : rApart c.2.2.1 jJW = true) : jKP m c.1 c.2.1 := fun d hd as I L has hG hJ k hk => h d (Nat.le_trans hn hd) as I L has hG k (fun v I' L' g1 g2 g3 => hk v I' L' g1 (jJ_frame hw hG hJ g2) g3)
theorem hd_chas {d : Nat} (hd : 1 ≤ d) {i : Int32} {I : Nat → Nat → Nat → Int32} {L : Nat → Nat → Nat → Int64} {k : jK} (hG : gG aGI I) (h1 : 0 ≤ i.toInt → i.toInt ≤ 5 → k (some (.inl (.inl 1))) (I, L)) (h0 : k (some (.inl (.inl 0))) (I, L)) : jWPM d 31 [.inr (4, 1), .inl (.inl i)] (I, L) k := by
  obtain ⟨d, rfl⟩ : ∃ d', d = d' + 1 := ⟨d - 1, by omega⟩
  have hp := gi_packets hG
  refine jWB_run [] 30 ?_
  conv => whnf
  refine ⟨fun q => ⟨Or.inl rfl, h0⟩, fun q => ?_⟩
  have q : ¬ i.toInt < 0 := fun z => q (lt_t.mpr z)
  conv => whnf
  refine ⟨fun q => ⟨Or.inl rfl, h0⟩, fun q2 => ⟨Or.inr rfl, h1 (by omega) ?_⟩⟩
  have q2 : ¬ (I 4 1 6).toInt ≤ i.toInt := fun z => q2 (le_t.mpr z)
  omega
theorem hd_canShrink {d : Nat} (hd : 1 ≤ d) {i : Int32} {I : Nat → Nat → Nat → Int32} {L : Nat → Nat → Nat → Int64} {k : jK} (hi0 : 0 ≤ i.toInt) (hi5 : i.toInt ≤ 5) (h1 : 1 < (I 19 1 i.toNatClampNeg).toInt → k (some (.inl (.inl 1))) (I, L)) (h0 : k (some (.inl (.inl 0))) (I, L)) : jWPM d 34 [.inr (4, 1), .inl (.inl i)] (I, L) k := by
  obtain ⟨d, rfl⟩ : ∃ d', d = d' + 1 := ⟨d - 1, by omega⟩
  refine jWB_run [] 30 ?_
  conv => whnf
  refine ⟨vp_in_iff.mpr (by omega), ?_⟩
  conv => whnf
  refine ⟨fun q => ⟨Or.inl rfl, h0⟩, fun q => ⟨Or.inr rfl, h1 ?_⟩⟩
  have q : ¬ (I 19 1 i.toNatClampNeg).toInt ≤ 1 := fun z => q (le_t.mpr z)
  omega
noncomputable def anyI : Int × Int := (-2147483648, 2147483647)
theorem any_ok (x : Int32) : aRv (1, anyI) (some (.inl (.inl x))) := ⟨x, rfl, (i32_rng x).1, (i32_rng x).2⟩
set_option maxHeartbeats 1000000 in
theorem jK_buy : jKP 81 [(2, 0, (0, 0)), (0, 0, anyI), (0, 0, anyI)] (1, anyI) := by
  intro d hd as I L has hG hJ k hk
  obtain ⟨d, rfl⟩ : ∃ d', d = d' + 1 := ⟨d - 1, by omega⟩
  have hd : 12 ≤ d := by omega
  match as, has with
  | [.inr (g0, n0), .inl (.inl i), .inl (.inl n)], has =>
    obtain ⟨⟨-, e1, e2, e3⟩, -⟩ := has
    dsimp only at e1 e2 e3
    obtain rfl : n0 = 0 := by omega
    subst e1
    have same : ∀ x : Int32, k (some (.inl (.inl x))) (I, L) := fun x => hk _ _ _ hG hJ (any_ok x)
    refine jWB_run [] 60 ?_
    conv => whnf
    refine hd_chas (Nat.le_trans (by decide) hd) hG (fun a b => ?_) ?_
    · conv => whnf
      refine ⟨fun h => absurd h (by decide), fun _ => ?_⟩
      conv => whnf
      refine ⟨fun _ => same _, fun q1 => ?_⟩
      have q1 : ¬ n.toInt < 1 := fun z => q1 (lt_t.mpr z)
      conv => whnf
      refine ⟨fun q2 => ?_, fun _ => same _⟩
      have q2 : n.toInt ≤ 3 := le_t.mp q2
      conv => whnf
      refine use_c cT33 (Nat.le_trans (by decide) hd) ⟨⟨rfl, rfl, by simp, by simp⟩, ⟨rfl, by simp only; omega, by simp only; omega⟩, ⟨rfl, (i32_rng _).1, (i32_rng _).2⟩, trivial⟩ hG (fun v I' L' r1 r2 r3 => ?_)
      obtain ⟨rfl, rfl⟩ := gR_nil r2
      obtain ⟨y, rfl, -, -⟩ := r3
      conv => whnf
      refine ⟨fun _ => ?_, fun _ => same _⟩
      conv => whnf
      refine hd_perform (Nat.le_trans (by decide) hd) hG (by decide) (by decide) a b (fun z => absurd z (by decide)) (fun x I1 L1 g1 g2 g3 => ?_)
      exact hk _ _ _ g1 (jJ_perform hG hJ g2 g3 (by decide) (by decide) a b (by omega) (by omega)) (any_ok x)
    · conv => whnf
      exact ⟨fun _ => same _, fun h => absurd rfl h⟩
set_option maxHeartbeats 1000000 in
theorem jK_week : jKP 82 [(2, 0, (0, 0))] (1, anyI) := by
  intro d hd as I L has hG hJ k hk
  obtain ⟨d, rfl⟩ : ∃ d', d = d' + 1 := ⟨d - 1, by omega⟩
  have hd : 12 ≤ d := by omega
  match as, has with
  | [.inr (g0, n0)], has =>
    obtain ⟨⟨-, e1, e2, e3⟩, -⟩ := has
    dsimp only at e1 e2 e3
    obtain rfl : n0 = 0 := by omega
    subst e1
    refine jWB_run [] 60 ?_
    conv => whnf
    refine ⟨fun _ => ?_, fun _ => hk _ _ _ hG hJ (any_ok _)⟩
    conv => whnf
    refine hd_perform (Nat.le_trans (by decide) hd) hG (by decide) (by decide) (by decide) (by decide) (fun z => absurd z (by decide)) (fun x I1 L1 g1 g2 g3 => ?_)
    exact hk _ _ _ g1 (jJ_perform hG hJ g2 g3 (by decide) (by decide) (by decide) (by decide) (by decide) (by decide)) (any_ok x)
set_option maxHeartbeats 1000000 in
theorem jK_shrink : jKP 83 [(2, 0, (0, 0)), (0, 0, anyI)] (1, anyI) := by
  intro d hd as I L has hG hJ k hk
  obtain ⟨d, rfl⟩ : ∃ d', d = d' + 1 := ⟨d - 1, by omega⟩
  have hd : 12 ≤ d := by omega
  match as, has with
  | [.inr (g0, n0), .inl (.inl i)], has =>
    obtain ⟨⟨-, e1, e2, e3⟩, -⟩ := has
    dsimp only at e1 e2 e3
    obtain rfl : n0 = 0 := by omega
    subst e1
    have same : ∀ x : Int32, k (some (.inl (.inl x))) (I, L) := fun x => hk _ _ _ hG hJ (any_ok x)
    refine jWB_run [] 60 ?_
    conv => whnf
    refine hd_chas (Nat.le_trans (by decide) hd) hG (fun a b => ?_) ?_
    · conv => whnf
      refine ⟨fun _ => ?_, fun h => absurd h (by decide)⟩
      conv => whnf
      refine hd_canShrink (Nat.le_trans (by decide) hd) a b (fun hs => ?_) ?_
      · conv => whnf
        refine ⟨fun _ => ?_, fun h => absurd h (by decide)⟩
        conv => whnf
        refine hd_perform (Nat.le_trans (by decide) hd) hG (by decide) (by decide) a b (fun _ => by omega) (fun x I1 L1 g1 g2 g3 => ?_)
        exact hk _ _ _ g1 (jJ_perform hG hJ g2 g3 (by decide) (by decide) a b (by decide) (by decide)) (any_ok x)
      · conv => whnf
        exact ⟨fun h => absurd rfl h, fun _ => same _⟩
    · conv => whnf
      exact ⟨fun h => absurd rfl h, fun _ => same _⟩
set_option maxHeartbeats 1000000 in
theorem jK_price : jKP 84 [(2, 0, (0, 0)), (0, 0, anyI), (0, 0, anyI)] (1, anyI) := by
  intro d hd as I L has hG hJ k hk
  obtain ⟨d, rfl⟩ : ∃ d', d = d' + 1 := ⟨d - 1, by omega⟩
  have hd : 12 ≤ d := by omega
  match as, has with
  | [.inr (g0, n0), .inl (.inl i), .inl (.inl n)], has =>
    obtain ⟨⟨-, e1, e2, e3⟩, -⟩ := has
    dsimp only at e1 e2 e3
    obtain rfl : n0 = 0 := by omega
    subst e1
    have same : ∀ x : Int32, k (some (.inl (.inl x))) (I, L) := fun x => hk _ _ _ hG hJ (any_ok x)
    refine jWB_run [] 60 ?_
    conv => whnf
    refine hd_chas (Nat.le_trans (by decide) hd) hG (fun a b => ?_) ?_
    · conv => whnf
      refine ⟨fun h => absurd h (by decide), fun _ => ?_⟩
      conv => whnf
      refine ⟨fun _ => same _, fun q1 => ?_⟩
      have q1 : ¬ n.toInt < 0 := fun z => q1 (lt_t.mpr z)
      conv => whnf
      refine ⟨fun q2 => ?_, fun _ => same _⟩
      have q2 : n.toInt ≤ 99 := le_t.mp q2
      conv => whnf
      refine ⟨vp_in_iff.mpr (by omega), ?_⟩
      conv => whnf
      refine ⟨fun _ => ?_, fun _ => same _⟩
      conv => whnf
      refine hd_perform (Nat.le_trans (by decide) hd) hG (by decide) (by decide) a b (fun z => absurd z (by decide)) (fun x I1 L1 g1 g2 g3 => ?_)
      exact hk _ _ _ g1 (jJ_perform hG hJ g2 g3 (by decide) (by decide) a b (by omega) (by omega)) (any_ok x)
    · conv => whnf
      exact ⟨fun _ => same _, fun h => absurd rfl h⟩
end
section
set_option maxHeartbeats 1000000 in
theorem jK_card : jKP 85 [(2, 0, (0, 0)), (0, 0, anyI)] (1, anyI) := by
  intro d hd as I L has hG hJ k hk
  obtain ⟨d, rfl⟩ : ∃ d', d = d' + 1 := ⟨d - 1, by omega⟩
  have hd : 12 ≤ d := by omega
  match as, has with
  | [.inr (g0, n0), .inl (.inl n)], has =>
    obtain ⟨⟨-, e1, e2, e3⟩, -⟩ := has
    dsimp only at e1 e2 e3
    obtain rfl : n0 = 0 := by omega
    subst e1
    have same : ∀ x : Int32, k (some (.inl (.inl x))) (I, L) := fun x => hk _ _ _ hG hJ (any_ok x)
    have go : 0 ≤ n.toInt → n.toInt ≤ 1 → jWB (jWPM d) k none (jco 85) (44, [some (.inr (0, 0)), some (.inl (.inl n))], [], I, L) := by
      intro a b
      refine jWB_run [] 60 ?_
      conv => whnf
      refine hd_perform (Nat.le_trans (by decide) hd) hG (by decide) (by decide) (by decide) (by decide) (fun z => absurd z (by decide)) (fun x I1 L1 g1 g2 g3 => ?_)
      exact hk _ _ _ g1 (jJ_perform hG hJ g2 g3 (by decide) (by decide) (by decide) (by decide) a (by omega)) (any_ok x)
    have mid : 0 ≤ n.toInt → n.toInt ≤ 1 → jWB (jWPM d) k none (jco 85) (11, [some (.inr (0, 0)), some (.inl (.inl n))], [], I, L) := by
      intro a b
      have go := go a b
      refine jWB_run [44] 60 ?_
      conv => whnf
      refine ⟨fun _ => same _, fun _ => ⟨fun _ => ⟨fun _ => go, fun _ => same _⟩, fun _ => ⟨fun _ => go, fun _ => same _⟩⟩⟩
    refine jWB_run [11] 60 ?_
    conv => whnf
    refine ⟨fun q => mid (by rw [q]; decide) (by rw [q]; decide), fun _ => ⟨fun q => mid (by rw [q]; decide) (by rw [q]; decide), fun _ => same _⟩⟩
theorem lot_n' {lot : Int64} (h4 : 0 ≤ lot.toInt) (h5 : lot.toInt ≤ 2147483647) : 0 ≤ (lot * 48271 - lot * 48271 / 2147483647 * 2147483647).toInt ∧ (lot * 48271 - lot * 48271 / 2147483647 * 2147483647).toInt ≤ 2147483646 := by
  have hc : (48271 : Int64).toInt = 48271 := by decide
  have em : (lot * 48271).toInt = lot.toInt * 48271 := by rw [i64_mul (by rw [hc]; omega), hc]
  have hM : (1 : Int) ≤ (2147483647 : Int64).toInt := by decide
  have hN : (2147483647 : Int64).toInt = 2147483647 := by decide
  rw [tm64 hM, em, hN]
  have hl := (tm_rng (lot.toInt * 48271) 2147483647 (by decide)).1 (by omega)
  exact ⟨hl.1, hl.2.2⟩
set_option maxHeartbeats 1000000 in
theorem hd_performLot {d : Nat} (hd : 8 ≤ d) {lot : Int64} {I : Nat → Nat → Nat → Int32} {L : Nat → Nat → Nat → Int64} {k : jK} (hG : gG aGI I) (hJ : jJ I) (h4 : 0 ≤ lot.toInt) (h5 : lot.toInt ≤ 2147483646) (hk : ∀ I' L', gG aGI I' → jJ I' → k none (I', L')) : jWPM d 47 [.inr (4, 1), .inl (.inr lot)] (I, L) k := by
  obtain ⟨d, rfl⟩ : ∃ d', d = d' + 1 := ⟨d - 1, by omega⟩
  have hd : 7 ≤ d := by omega
  have hpk := gi_pk hG (x := 1) (by omega)
  have fin : ∀ (way i : Int32), 0 ≤ i.toInt → i.toInt ≤ 5 → jWB (jWPM d) k none (jco 47) (82, [some (.inr (4, 1)), some (.inl (.inr lot)), none, some (.inl (.inl way)), some (.inl (.inl i))], [], I, L) := by
    intro way i a b
    refine jWB_run [] 60 ?_
    conv => whnf
    refine hd_perform (Nat.le_trans (by decide) hd) hG (by decide) (by decide) (by decide) (by decide) (fun z => absurd z (by decide)) (fun x I1 L1 g1 g2 g3 => ?_)
    exact hk _ _ g1 (jJ_perform hG hJ g2 g3 (by decide) (by decide) (by decide) (by decide) (by decide) (by decide))
  have s56 : ∀ (way i : Int32), 0 ≤ i.toInt → i.toInt ≤ 5 → jWB (jWPM d) k none (jco 47) (56, [some (.inr (4, 1)), some (.inl (.inr lot)), none, some (.inl (.inl way)), some (.inl (.inl i))], [], I, L) := by
    intro way i a b
    have fin := fin way i a b
    refine jWB_run [82] 60 ?_
    conv => whnf
    refine ⟨fun _ => fin, fun _ => ?_⟩
    conv => whnf
    refine hd_canShrink (Nat.le_trans (by decide) hd) a b (fun hs => ?_) ?_
    · conv => whnf
      refine ⟨fun h => absurd h (by decide), fun _ => ?_⟩
      conv => whnf
      refine hd_perform (Nat.le_trans (by decide) hd) hG (by decide) (by decide) a b (fun _ => by omega) (fun x I1 L1 g1 g2 g3 => ?_)
      exact hk _ _ g1 (jJ_perform hG hJ g2 g3 (by decide) (by decide) a b (by decide) (by decide))
    · conv => whnf
      exact ⟨fun _ => fin, fun h => absurd rfl h⟩
  have s29 : ∀ (way i : Int32), 0 ≤ i.toInt → i.toInt ≤ 5 → jWB (jWPM d) k none (jco 47) (29, [some (.inr (4, 1)), some (.inl (.inr lot)), none, some (.inl (.inl way)), some (.inl (.inl i))], [], I, L) := by
    intro way i a b
    have s56 := s56 way i a b
    refine jWB_run [56] 60 ?_
    conv => whnf
    refine ⟨fun _ => s56, fun _ => ?_⟩
    conv => whnf
    refine use_c cT33 (Nat.le_trans (by decide) hd) ⟨⟨rfl, rfl, by simp, by simp⟩, ⟨rfl, by simp only; omega, by simp only; omega⟩, ⟨rfl, (i32_rng _).1, (i32_rng _).2⟩, trivial⟩ hG (fun v I' L' r1 r2 r3 => ?_)
    obtain ⟨rfl, rfl⟩ := gR_nil r2
    obtain ⟨y, rfl, -, -⟩ := r3
    conv => whnf
    refine ⟨fun _ => s56, fun _ => ?_⟩
    conv => whnf
    refine hd_perform (Nat.le_trans (by decide) hd) hG (by decide) (by decide) a b (fun z => absurd z (by decide)) (fun x I1 L1 g1 g2 g3 => ?_)
    exact hk _ _ g1 (jJ_perform hG hJ g2 g3 (by decide) (by decide) a b (by decide) (by decide))
  refine jWB_run [29] 60 ?_
  conv => whnf
  refine ⟨fun q => ?_, fun _ => hk _ _ hG hJ⟩
  have hn : (I 4 1 6).toInt ≠ 0 := fun e => q (i32_of e 0 rfl)
  have hp64 : (I 4 1 6).toInt64.toInt = (I 4 1 6).toInt := Int32.toInt_toInt64 _
  have hnz : ¬ (I 4 1 6).toInt64 = 0 := fun e => by rw [e] at hp64; simp at hp64; omega
  have hx := lot_x h4 h5 (p := I 4 1 6) (by omega)
  have h55 : (I 4 1 6).toInt - 1 ≤ 5 := by clear hx; omega
  conv => whnf
  refine ⟨by decide, ?_⟩
  conv => whnf
  refine ⟨by decide, ?_⟩
  conv => whnf
  refine ⟨hnz, ?_⟩
  exact s29 _ _ hx.1 (Int.le_trans hx.2 h55)
set_option maxHeartbeats 1000000 in
theorem jK_lots : jKP 105 [(2, 0, (0, 0)), (0, 0, anyI), (0, 0, anyI)] (1, anyI) := by
  intro d hd as I0 L0 has hG hJ k hk
  obtain ⟨d, rfl⟩ : ∃ d', d = d' + 1 := ⟨d - 1, by omega⟩
  have hd : 12 ≤ d := by omega
  match as, has with
  | [.inr (g0, n0), .inl (.inl n), .inl (.inl sd)], has =>
    obtain ⟨⟨-, e1, e2, e3⟩, -⟩ := has
    dsimp only at e1 e2 e3
    obtain rfl : n0 = 0 := by omega
    subst e1
    have hexit : ∀ (lot : Int64) (i : Int32) (I : Nat → Nat → Nat → Int32) (L : Nat → Nat → Nat → Int64), gG aGI I → jJ I → jWB (jWPM d) k none (jco 105) (90, [some (.inr (0, 0)), some (.inl (.inl n)), some (.inl (.inl sd)), some (.inl (.inr lot)), none, some (.inl (.inl i))], [], I, L) := by
      intro lot i I L h1 h2
      refine jWB_run [] 40 ?_
      conv => whnf
      refine use_c cT11 (Nat.le_trans (by decide) hd) ⟨⟨rfl, rfl, by simp, by simp⟩, trivial⟩ h1 (fun v I' L' r1 r2 r3 => ?_)
      obtain ⟨rfl, rfl⟩ := gR_nil r2
      obtain ⟨x, rfl, r4, r5⟩ := r3
      exact hk _ _ _ h1 h2 (any_ok x)
    have loop : ∀ (N : Nat) (lot : Int64) (i : Int32) (I : Nat → Nat → Nat → Int32) (L : Nat → Nat → Nat → Int64), n.toInt - i.toInt ≤ (N : Int) → 0 ≤ i.toInt → n.toInt ≤ 20 → 0 ≤ lot.toInt → lot.toInt ≤ 2147483647 → gG aGI I → jJ I → jWB (jWPM d) k none (jco 105) (60, [some (.inr (0, 0)), some (.inl (.inl n)), some (.inl (.inl sd)), some (.inl (.inr lot)), none, some (.inl (.inl i))], [], I, L) := by
      intro N
      induction N with
      | zero =>
        intro lot i I L h1 h2 h3 h4 h5 h6 h7
        refine jWB_run [60, 90] 60 ?_
        conv => whnf
        refine ⟨fun q => hexit lot i I L h6 h7, fun q => ?_⟩
        rw [le_t] at q; exfalso; omega
      | succ N ih =>
        intro lot i I L h1 h2 h3 h4 h5 h6 h7
        refine jWB_run [60, 90] 60 ?_
        conv => whnf
        refine ⟨fun q => hexit lot i I L h6 h7, fun q => ?_⟩
        rw [le_t] at q
        have ei : (i + 1).toInt = i.toInt + 1 := by rw [i32_add (by simp; omega)]; simp
        have hl := lot_n' h4 h5
        have a1 : n.toInt - (i + 1).toInt ≤ (N : Int) := by clear hl; omega
        have a2 : 0 ≤ (i + 1).toInt := by clear hl; omega
        conv => whnf
        refine ⟨by decide, ?_⟩
        conv => whnf
        refine hd_performLot (Nat.le_trans (by decide) hd) h6 h7 hl.1 hl.2 (fun I1 L1 g1 g2 => ?_)
        exact ih _ (i + 1) I1 L1 a1 a2 h3 hl.1 (Int.le_trans hl.2 (by decide)) g1 g2
    have bad : ∀ x : Int32, k (some (.inl (.inl x))) (I0, L0) := fun x => hk _ _ _ hG hJ (any_ok _)
    have go : n.toInt ≤ 20 → 1 ≤ n.toInt → 1 ≤ sd.toInt → jWB (jWPM d) k none (jco 105) (27, [some (.inr (0, 0)), some (.inl (.inl n)), some (.inl (.inl sd)), none, none, none], [], I0, L0) := by
      intro h1 h2 h3
      refine jWB_run [60] 60 ?_
      conv => whnf
      refine ⟨fun _ => ?_, fun _ => bad _⟩
      conv => whnf
      refine hd_hasDeedsFor (Nat.le_trans (by decide) hd) hG (by omega) h1 (fun _ => ?_) (fun _ => ?_)
      · conv => whnf
        refine ⟨fun _ => ?_, fun h => absurd h (by decide)⟩
        have := (i32_rng sd).2
        exact loop 20 sd.toInt64 0 I0 L0 (by simp; omega) (by decide) h1 (by rw [Int32.toInt_toInt64]; omega) (by rw [Int32.toInt_toInt64]; omega) hG hJ
      · conv => whnf
        exact ⟨fun h => absurd rfl h, fun _ => bad _⟩
    refine jWB_run [27] 60 ?_
    conv => whnf
    refine ⟨fun _ => bad _, fun q1 => ⟨fun _ => bad _, fun q2 => ⟨fun _ => bad _, fun q3 => ?_⟩⟩⟩
    have q1 : ¬ n.toInt < 1 := fun z => q1 (lt_t.mpr z)
    have q2 : ¬ 20 < n.toInt := fun z => q2 (lt_t.mpr z)
    have q3 : ¬ sd.toInt < 1 := fun z => q3 (lt_t.mpr z)
    have go := go (by omega) (by omega) (by omega)
    conv => whnf
    refine ⟨fun _ => go, fun _ => bad _⟩
end
section
theorem taW_out {a : Nat} {I I' : Nat → Nat → Nat → Int32} {L L' : Nat → Nat → Nat → Int64} (h : gR (taW a) I L I' L') {g x j : Nat} (hx : x ≠ a) : I' g x j = I g x j := (h g x j (fun ⟨r, hr, q1, q2, q3, _, _⟩ => by
  simp only [taW, tsW, List.mem_cons, List.not_mem_nil, or_false] at hr
  rcases hr with rfl | rfl | rfl | rfl | rfl | rfl | rfl <;> (simp at q2 q3; omega))).1
theorem hd_names2 {d : Nat} (hd : 1 ≤ d) {r : Int32} {I : Nat → Nat → Nat → Int32} {L : Nat → Nat → Nat → Int64} {k : jK} (h1 : 0 ≤ r.toInt → r.toInt ≤ 3 → k (some (.inl (.inl 1))) (I, L)) (h0 : ¬ (0 ≤ r.toInt ∧ r.toInt ≤ 3) → k (some (.inl (.inl 0))) (I, L)) : jWPM d 15 [.inr (2, 0), .inl (.inl r)] (I, L) k := by
  obtain ⟨d, rfl⟩ : ∃ d', d = d' + 1 := ⟨d - 1, by omega⟩
  refine jWB_run [] 60 ?_
  conv => whnf
  refine ⟨fun q => ?_, fun q => ?_⟩
  · rw [lt_t] at q
    have q : r.toInt < 0 := by simpa using q
    conv => whnf
    exact ⟨Or.inl rfl, h0 (by omega)⟩
  · rw [lt_t] at q
    have q : ¬ r.toInt < 0 := by simpa using q
    conv => whnf
    refine ⟨fun q2 => ?_, fun q2 => ?_⟩
    · have q2 : 4 ≤ r.toInt := le_t.mp q2
      conv => whnf
      exact ⟨Or.inl rfl, h0 (by omega)⟩
    · have q2 : ¬ 4 ≤ r.toInt := fun z => q2 (le_t.mpr z)
      conv => whnf
      exact ⟨Or.inr rfl, h1 (by omega) (by omega)⟩
theorem hd_isThere2 {d : Nat} (hd : 1 ≤ d) {r : Int32} {I : Nat → Nat → Nat → Int32} {L : Nat → Nat → Nat → Int64} {k : jK} (hr0 : 0 ≤ r.toInt) (hr5 : r.toInt ≤ 3) (h1 : k (some (.inl (.inl 1))) (I, L)) (h0 : k (some (.inl (.inl 0))) (I, L)) : jWPM d 16 [.inr (2, 0), .inl (.inl r)] (I, L) k := by
  obtain ⟨d, rfl⟩ : ∃ d', d = d' + 1 := ⟨d - 1, by omega⟩
  refine jWB_run [] 60 ?_
  conv => whnf
  refine ⟨vp_in_iff.mpr (by omega), ?_⟩
  conv => whnf
  exact ⟨fun _ => ⟨Or.inl rfl, h0⟩, fun _ => ⟨Or.inr rfl, h1⟩⟩
theorem jJ_keep {I I' : Nat → Nat → Nat → Int32} {L L' : Nat → Nat → Nat → Int64} {n : Nat} (hn : n ≤ 2) (hG : gG aGI I) (h : jJ I) (hR : gR (taW (2 + n)) I L I' L') (h1 : ∀ j, j < 6 → I' 19 (2 + n) j = I 19 1 j) (h2 : I' 4 (2 + n) 15 = I 4 1 15) (h3 : ∀ j, j < 40 → I' 22 (2 + n) j = I 22 1 j) (x : Int32) : jJ (jup I' 6 0 n x) := by
  have o : ∀ g x j : Nat, x ≠ 2 + n → I' g x j = I g x j := fun g x j hx => taW_out hR hx
  have u : ∀ g i j : Nat, ¬ g = 6 → jup I' 6 0 n x g i j = I' g i j := fun g i j hg => jup_of (fun z => hg z.1)
  have b1 := (gi_deeds hG (x := 1) (by omega)).2
  refine ⟨?_, ?_, ?_, fun k hk q => ?_⟩
  · rw [u _ _ _ (by decide), o _ _ _ (by omega)]; exact h.1
  · rw [u _ _ _ (by decide), o _ _ _ (by omega)]; exact h.2.1
  · exact hJ_cells b1 h.2.2.1 (by rw [u _ _ _ (by decide), o _ _ _ (by omega)]) (fun e _ => by rw [u _ _ _ (by decide), o _ _ _ (by omega)]) (fun e _ => by rw [u _ _ _ (by decide), o _ _ _ (by omega)]) (fun e _ => by rw [u _ _ _ (by decide), o _ _ _ (by omega)])
  · by_cases e : k = n
    · subst e
      exact hJ_cells b1 h.2.2.1 (by rw [u _ _ _ (by decide), h2]) (fun e he => by rw [u _ _ _ (by decide), h3 e he]) (fun e he => by rw [u _ _ _ (by decide), h1 e he]) (fun e _ => by rw [u _ _ _ (by decide), o _ _ _ (by omega)])
    · rw [jup_of (fun z => e z.2.2), o _ _ _ (by omega)] at q
      exact hJ_cells (gi_deeds hG (by omega)).2 (h.2.2.2 k hk q) (by rw [u _ _ _ (by decide), o _ _ _ (by omega)]) (fun e _ => by rw [u _ _ _ (by decide), o _ _ _ (by omega)]) (fun e _ => by rw [u _ _ _ (by decide), o _ _ _ (by omega)]) (fun e _ => by rw [u _ _ _ (by decide), o _ _ _ (by omega)])
theorem jJ_on {I I' : Nat → Nat → Nat → Int32} {L L' : Nat → Nat → Nat → Int64} {n : Nat} (hn : n ≤ 2) (hG : gG aGI I) (h : jJ I) (hq : ¬ I 6 0 n = 0) (hR : gR (taW 1) I L I' L') (h1 : ∀ j, j < 6 → I' 19 1 j = I 19 (2 + n) j) (h2 : I' 4 1 15 = I 4 (2 + n) 15) (h3 : ∀ j, j < 40 → I' 22 1 j = I 22 (2 + n) j) : jJ I' := by
  have o : ∀ g x j : Nat, x ≠ 1 → I' g x j = I g x j := fun g x j hx => taW_out hR hx
  refine ⟨?_, ?_, ?_, fun k hk q => ?_⟩
  · rw [o _ _ _ (by omega)]; exact h.1
  · rw [o _ _ _ (by omega)]; exact h.2.1
  · exact hJ_cells (gi_deeds hG (by omega)).2 (h.2.2.2 n hn hq) h2 h3 h1 (fun e _ => o _ _ _ (by omega))
  · rw [o _ _ _ (by omega)] at q
    exact hJ_cells (gi_deeds hG (by omega)).2 (h.2.2.2 k hk q) (o _ _ _ (by omega)) (fun e _ => o _ _ _ (by omega)) (fun e _ => o _ _ _ (by omega)) (fun e _ => o _ _ _ (by omega))
theorem gi6 : ∀ e ∈ aGI, e.1 = 6 → e.2.2.2 = (0, 1) := by decide
set_option maxHeartbeats 1000000 in
theorem jK_keep : jKP 87 [(2, 0, (0, 0)), (0, 0, anyI)] (1, anyI) := by
  intro d hd as I L has hG hJ k hk
  obtain ⟨d, rfl⟩ : ∃ d', d = d' + 1 := ⟨d - 1, by omega⟩
  have hd : 12 ≤ d := by omega
  match as, has with
  | [.inr (g0, n0), .inl (.inl n)], has =>
    obtain ⟨⟨-, e1, e2, e3⟩, -⟩ := has
    dsimp only at e1 e2 e3
    obtain rfl : n0 = 0 := by omega
    subst e1
    have same : ∀ x : Int32, k (some (.inl (.inl x))) (I, L) := fun x => hk _ _ _ hG hJ (any_ok x)
    refine jWB_run [] 60 ?_
    conv => whnf
    refine ⟨fun _ => same _, fun q1 => ⟨fun q2 => ?_, fun _ => same _⟩⟩
    have q1 : ¬ n.toInt < 0 := fun z => q1 (lt_t.mpr z)
    have q2 : n.toInt < 3 := lt_t.mp q2
    have nn := cl_t (x := n) (by omega)
    conv => whnf
    refine ⟨fun _ => ?_, fun _ => same _⟩
    conv => whnf
    refine ⟨vp_in_iff.mpr (by omega), ?_⟩
    conv => whnf
    refine hd_takeAll (Nat.le_trans (by decide) hd) (a := 2 + n.toNatClampNeg) (b := 1) (by omega) (by omega) (by omega) hG (fun I1 g1 g2 g3 g4 g5 => ?_)
    conv => whnf
    refine ⟨vp_in_iff.mpr (by omega), ?_⟩
    refine hk _ _ _ (gG_up1 g1 (fun e he a _ _ => ?_)) (jJ_keep (n := n.toNatClampNeg) (by omega) hG hJ g2 g3 g4 g5 _) (any_ok _)
    rw [gi6 e he a]; decide
set_option maxHeartbeats 1000000 in
theorem jK_on : jKP 88 [(2, 0, (0, 0)), (0, 0, anyI)] (1, anyI) := by
  intro d hd as I L has hG hJ k hk
  obtain ⟨d, rfl⟩ : ∃ d', d = d' + 1 := ⟨d - 1, by omega⟩
  have hd : 12 ≤ d := by omega
  match as, has with
  | [.inr (g0, n0), .inl (.inl n)], has =>
    obtain ⟨⟨-, e1, e2, e3⟩, -⟩ := has
    dsimp only at e1 e2 e3
    obtain rfl : n0 = 0 := by omega
    subst e1
    have same : ∀ x : Int32, k (some (.inl (.inl x))) (I, L) := fun x => hk _ _ _ hG hJ (any_ok x)
    refine jWB_run [] 60 ?_
    conv => whnf
    refine ⟨fun _ => same _, fun q1 => ⟨fun q2 => ?_, fun _ => same _⟩⟩
    have q1 : ¬ n.toInt < 0 := fun z => q1 (lt_t.mpr z)
    have q2 : n.toInt < 3 := lt_t.mp q2
    have nn := cl_t (x := n) (by omega)
    conv => whnf
    refine ⟨vp_in_iff.mpr (by omega), ?_⟩
    conv => whnf
    refine ⟨fun q3 => ?_, fun _ => ?_⟩
    · conv => whnf
      refine ⟨vp_in_iff.mpr (by omega), ?_⟩
      conv => whnf
      refine hd_takeAll (Nat.le_trans (by decide) hd) (a := 1) (b := 2 + n.toNatClampNeg) (by omega) (by omega) (by omega) hG (fun I1 g1 g2 g3 g4 g5 => ?_)
      exact hk _ _ _ g1 (jJ_on (n := n.toNatClampNeg) (by omega) hG hJ q3 g2 g3 g4 g5) (any_ok _)
    · conv => whnf
      refine hd_cfind (Nat.le_trans (by decide) hd) (by decide) (by decide) hG (fun I1 g1 g2 => ?_)
      exact hk _ _ _ g1 (jJ_frame (by decide) hG hJ g2) (any_ok _)
theorem jJ_house {I1 I2 I3 : Nat → Nat → Nat → Int32} {L L' L'' : Nat → Nat → Nat → Int64} (h : I1 4 5 15 = 0) (hR : gR (taW 0) I1 L I2 L') (h2 : I2 4 0 15 = I1 4 5 15) (hR' : gR (taW 1) I2 L' I3 L'') (h3 : ∀ j, j < 6 → I3 19 1 j = I2 19 0 j) (h4 : I3 4 1 15 = I2 4 0 15) : jJ (jup (jup (jup I3 6 0 0 0) 6 0 1 0) 6 0 2 0) := by
  have u : ∀ g i j : Nat, ¬ g = 6 → jup (jup (jup I3 6 0 0 0) 6 0 1 0) 6 0 2 0 g i j = I3 g i j := fun g i j hg => by rw [jup_of (fun z => hg z.1), jup_of (fun z => hg z.1), jup_of (fun z => hg z.1)]
  have e1 : I3 4 1 15 = 0 := by rw [h4, h2, h]
  have e0 : I3 4 0 15 = 0 := by rw [taW_out hR' (by decide), h2, h]
  refine ⟨?_, ?_, ⟨fun e he => ?_, fun i hi => ?_⟩, fun k hk q => ?_⟩
  · rw [u _ _ _ (by decide)]; exact e0
  · rw [u _ _ _ (by decide), taW_out hR' (by decide), taW_out hR (by decide)]; exact h
  · rw [u _ _ _ (by decide), e1] at he
    have : (e : Int) < 0 := he
    omega
  · rw [u _ _ _ (by decide), u _ _ _ (by decide), u _ _ _ (by decide), e1, h3 i (by omega), taW_out hR' (g := 19) (x := 0) (by decide)]
    exact Int.add_zero _
  · refine absurd ?_ q
    have : k = 0 ∨ k = 1 ∨ k = 2 := by omega
    rcases this with rfl | rfl | rfl <;> rfl
set_option maxHeartbeats 1000000 in
theorem jK_house : jKP 77 [(2, 0, (0, 0)), (0, 0, anyI)] (1, anyI) := by
  intro d hd as I L has hG hJ k hk
  obtain ⟨d, rfl⟩ : ∃ d', d = d' + 1 := ⟨d - 1, by omega⟩
  have hd : 12 ≤ d := by omega
  match as, has with
  | [.inr (g0, n0), .inl (.inl n)], has =>
    obtain ⟨⟨-, e1, e2, e3⟩, -⟩ := has
    dsimp only at e1 e2 e3
    obtain rfl : n0 = 0 := by omega
    subst e1
    have same : ∀ x : Int32, k (some (.inl (.inl x))) (I, L) := fun x => hk _ _ _ hG hJ (any_ok x)
    have s50 : ∀ I1 L1, gG aGI I1 → jJ I1 → jWB (jWPM d) k none (jco 77) (50, [some (.inr (0, 0)), some (.inl (.inl n)), none], [], I1, L1) := by
      intro I1 L1 g1 j1
      refine jWB_run [] 60 ?_
      conv => whnf
      refine hd_takeAll (Nat.le_trans (by decide) hd) (a := 0) (b := 5) (by decide) (by decide) (by decide) g1 (fun I2 a1 a2 a3 a4 a5 => ?_)
      conv => whnf
      refine hd_takeAll (Nat.le_trans (by decide) hd) (a := 1) (b := 0) (by decide) (by decide) (by decide) a1 (fun I3 b1 b2 b3 b4 b5 => ?_)
      conv => whnf
      refine ⟨fun h => absurd h (by decide), fun _ => ?_⟩
      conv => whnf
      refine ⟨vp_in_iff.mpr (by decide), ?_⟩
      conv => whnf
      refine ⟨fun h => absurd h (by decide), fun _ => ?_⟩
      conv => whnf
      refine ⟨vp_in_iff.mpr (by decide), ?_⟩
      conv => whnf
      refine ⟨fun h => absurd h (by decide), fun _ => ?_⟩
      conv => whnf
      refine ⟨vp_in_iff.mpr (by decide), ?_⟩
      conv => whnf
      refine ⟨fun _ => ?_, fun h => absurd (by decide) h⟩
      exact hk _ _ _ (gG_up1 (gG_up1 (gG_up1 b1 (fun e he a _ _ => by rw [gi6 e he a]; decide)) (fun e he a _ _ => by rw [gi6 e he a]; decide)) (fun e he a _ _ => by rw [gi6 e he a]; decide)) (jJ_house j1.2.1 a2 a4 b2 b3 b4) (any_ok _)
    refine jWB_run [50] 60 ?_
    conv => whnf
    refine hd_names2 (Nat.le_trans (by decide) hd) (fun a b => ?_) (fun _ => ?_)
    · conv => whnf
      refine ⟨fun _ => ?_, fun h => absurd h (by decide)⟩
      conv => whnf
      refine hd_isThere2 (Nat.le_trans (by decide) hd) a b ?_ ?_
      · conv => whnf
        refine ⟨fun _ => ?_, fun h => absurd h (by decide)⟩
        conv => whnf
        refine use_c cT77 (Nat.le_trans (by decide) hd) ⟨⟨rfl, rfl, by simp, by simp⟩, ⟨rfl, rfl, by simp, by simp⟩, ⟨rfl, by simp only; omega, by simp only; omega⟩, trivial⟩ hG (fun v I' L' r1 r2 r3 => ?_)
        obtain ⟨y, rfl, -, -⟩ := r3
        have j1 := jJ_frame (by decide) hG hJ r2
        conv => whnf
        exact ⟨fun _ => s50 I' L' r1 j1, fun _ => hk _ _ _ r1 j1 (any_ok _)⟩
      · conv => whnf
        refine ⟨fun h => absurd rfl h, fun _ => ?_⟩
        conv => whnf
        refine hd_cfind (Nat.le_trans (by decide) hd) (by decide) (by decide) hG (fun I1 g1 g2 => ?_)
        exact hk _ _ _ g1 (jJ_frame (by decide) hG hJ g2) (any_ok _)
    · conv => whnf
      exact ⟨fun h => absurd rfl h, fun _ => same _⟩
end
section
theorem lg_parts {x : Int32} (h : lgOK x) : (x / 1000).toInt = x.toInt / 1000 ∧ (x / 100 - x / 100 / 10 * 10).toInt = x.toInt / 100 % 10 ∧ (x - x / 100 * 100).toInt = x.toInt % 100 := by
  obtain ⟨h0, h1, -⟩ := h
  have c1 : (1000 : Int32).toInt = 1000 := rfl
  have c2 : (100 : Int32).toInt = 100 := rfl
  have c3 : (10 : Int32).toInt = 10 := rfl
  have e1 : (x / 100).toInt = x.toInt / 100 := by rw [td32 (by decide), c2, Int.tdiv_eq_ediv_of_nonneg h0]
  refine ⟨?_, ?_, ?_⟩
  · rw [td32 (by decide), c1, Int.tdiv_eq_ediv_of_nonneg h0]
  · rw [tm32 (by decide), c3, e1, Int.tmod_eq_emod_of_nonneg (by omega)]
  · rw [tm32 (by decide), c2, Int.tmod_eq_emod_of_nonneg h0]
theorem lg_same {x : Int32} (h : lgOK x) : x / 1000 * 1000 + (x / 100 - x / 100 / 10 * 10) * 100 + (x - x / 100 * 100) = x := by
  obtain ⟨e1, e2, e3⟩ := lg_parts h
  obtain ⟨h0, h1, h2⟩ := h
  refine Int32.toInt_inj.mp ?_
  rw [code_t (by rw [e1]; omega) (by rw [e1]; omega) (by rw [e2]; omega) (by rw [e2]; omega) (by rw [e3]; omega) (by rw [e3]; omega), e1, e2, e3]
  omega
noncomputable def uI (I J : Nat → Nat → Nat → Int32) (n : Nat) : Prop := (J 4 1 15).toInt = (n : Int) ∧ (∀ e : Nat, J 22 1 e = I 22 1 e) ∧ (∀ i : Nat, i ≤ 5 → (J 19 1 i).toInt + cnt (I 22 1) i n = (I 19 0 i).toInt) ∧ (∀ g x j : Nat, x ≠ 1 → J g x j = I g x j)
theorem jJ_undo {I J : Nat → Nat → Nat → Int32} {n : Nat} (hG : gG aGI I) (h : jJ I) (hu : uI I J n) (hn : (n : Int) ≤ (I 4 1 15).toInt) : jJ J := by
  obtain ⟨u1, u2, u3, u4⟩ := hu
  refine ⟨?_, ?_, ⟨fun e he => ?_, fun i hi => ?_⟩, fun k hk q => ?_⟩
  · rw [u4 _ _ _ (by decide)]; exact h.1
  · rw [u4 _ _ _ (by decide)]; exact h.2.1
  · rw [u1] at he
    rw [u2]
    exact h.2.2.1.1 e (by omega)
  · rw [u1, u4 19 0 i (by decide), ← u3 i hi, cnt_ext (lg' := I 22 1) (fun e _ => u2 e)]
    rfl
  · rw [u4 _ _ _ (by decide)] at q
    exact hJ_cells (gi_deeds hG (by omega)).2 (h.2.2.2 k hk q) (u4 _ _ _ (by omega)) (fun e _ => u4 _ _ _ (by omega)) (fun e _ => u4 _ _ _ (by omega)) (fun e _ => u4 _ _ _ (by omega))
theorem uI_next {I J J' : Nat → Nat → Nat → Int32} {L L' : Nat → Nat → Nat → Int64} {n : Nat} (hu : uI I J n) (hg : lgOK (I 22 1 n)) (hR : gR pfW J L J' L') (hp : pfP J J' (I 22 1 n / 1000) (I 22 1 n / 100 - I 22 1 n / 100 / 10 * 10) (I 22 1 n - I 22 1 n / 100 * 100)) : uI I J' (n + 1) := by
  obtain ⟨u1, u2, u3, u4⟩ := hu
  obtain ⟨p1, p2, p3, p4⟩ := hp
  have hs := lg_same hg
  obtain ⟨e1, e2, e3⟩ := lg_parts hg
  have hc := code_ok (dd := I 22 1 n / 1000) (i := I 22 1 n / 100 - I 22 1 n / 100 / 10 * 10) (v := I 22 1 n - I 22 1 n / 100 * 100) (by rw [e1]; have := hg.1; omega) (by rw [e1]; have := hg.2.1; omega) (by rw [e2]; have := hg.1; omega) (by rw [e2]; have := hg.2.2; omega) (by rw [e3]; have := hg.1; omega) (by rw [e3]; have := hg.1; omega)
  rw [hs] at hc
  have nn : (J 4 1 15).toNatClampNeg = n := by
    have := cl_t (x := J 4 1 15) (by omega)
    omega
  refine ⟨by rw [p2, u1]; simp, fun e => ?_, fun i hi => ?_, fun g x j hx => ?_⟩
  · rw [p3 e, hs]
    by_cases q : e = (J 4 1 15).toNatClampNeg
    · rw [if_pos q, q, nn]
    · rw [if_neg q, u2 e]
  · show (J' 19 1 i).toInt + (cnt (I 22 1) i n + shr (I 22 1 n) i) = _
    rw [p4 i, hc.2 i, ← u3 i hi]
    omega
  · rw [← u4 g x j hx]
    exact (hR g x j (fun ⟨r, hr, q1, q2, q3, q4⟩ => by
      have : ∀ r ∈ pfW, r.2.1 = (1, 1) := by decide
      rw [this r hr] at q2 q3
      omega)).1
theorem uI_gram {I J : Nat → Nat → Nat → Int32} {n : Nat} (hG : gG aGI I) (h : jJ I) (hu : uI I J n) (hn : (n : Int) < (I 4 1 15).toInt) {i : Nat} (hi : i ≤ 5) (hs : shr (I 22 1 n) i = 1) : 1 ≤ (J 19 1 i).toInt := by
  have h1 := hu.2.2.1 i hi
  have h2 := h.2.2.1.2 i hi
  have h3 := cnt_ge (I 22 1) i (n + 1) (I 4 1 15).toInt.toNat (by omega)
  have h4 := (gi_grams hG (x := 1) (j := i) (by omega) hi).1
  have h5 : cnt (I 22 1) i (n + 1) = cnt (I 22 1) i n + shr (I 22 1 n) i := rfl
  omega
set_option maxHeartbeats 1000000 in
theorem hd_doAgain {d : Nat} (hd : 8 ≤ d) {n : Int32} {I : Nat → Nat → Nat → Int32} {L : Nat → Nat → Nat → Int64} {k : jK} (hG : gG aGI I) (hJ : jJ I) (h0 : 0 ≤ n.toInt) (h1 : n.toInt < (I 4 1 15).toInt) (hk : ∀ I' L', gG aGI I' → jJ I' → k none (I', L')) : jWPM d 30 [.inr (4, 1), .inr (4, 0), .inl (.inl n)] (I, L) k := by
  obtain ⟨d, rfl⟩ : ∃ d', d = d' + 1 := ⟨d - 1, by omega⟩
  have hd : 7 ≤ d := by omega
  have hb := (gi_deeds hG (x := 1) (by omega)).2
  have loop : ∀ (N : Nat) (e : Int32) (J : Nat → Nat → Nat → Int32) (L' : Nat → Nat → Nat → Int64), n.toInt - e.toInt ≤ (N : Int) → 0 ≤ e.toInt → e.toInt ≤ n.toInt → gG aGI J → uI I J e.toNatClampNeg → jWB (jWPM d) k none (jco 30) (7, [some (.inr (4, 1)), some (.inr (4, 0)), some (.inl (.inl n)), some (.inl (.inl e))], [], J, L') := by
    intro N
    induction N with
    | zero =>
      intro e J L' a1 a2 a3 a4 a5
      have ne := cl_t a2
      refine jWB_run [7] 60 ?_
      conv => whnf
      refine ⟨fun q => hk _ _ a4 (jJ_undo hG hJ a5 (by omega)), fun q => ?_⟩
      rw [le_t] at q; exfalso; omega
    | succ N ih =>
      intro e J L' a1 a2 a3 a4 a5
      have ne := cl_t a2
      refine jWB_run [7] 60 ?_
      conv => whnf
      refine ⟨fun q => hk _ _ a4 (jJ_undo hG hJ a5 (by omega)), fun q => ?_⟩
      rw [le_t] at q
      have ei : (e + 1).toInt = e.toInt + 1 := by rw [i32_add (by simp; omega)]; simp
      have ni := cl_t (x := e + 1) (by omega)
      have en : (e + 1).toNatClampNeg = e.toNatClampNeg + 1 := by omega
      have hg : lgOK (I 22 1 e.toNatClampNeg) := hJ.2.2.1.1 _ (by omega)
      have u2 : J 22 1 e.toNatClampNeg = I 22 1 e.toNatClampNeg := a5.2.1 _
      have u1 : (J 4 1 15).toInt = e.toInt := by rw [a5.1]; exact ne
      obtain ⟨e1, e2, e3⟩ := lg_parts hg
      have gi : 0 ≤ (J 22 1 e.toNatClampNeg / 100 - J 22 1 e.toNatClampNeg / 100 / 10 * 10).toInt := by rw [u2, e2]; have := hg.1; omega
      have gj : (J 22 1 e.toNatClampNeg / 100 - J 22 1 e.toNatClampNeg / 100 / 10 * 10).toInt ≤ 5 := by rw [u2, e2]; exact hg.2.2
      have gk : 0 ≤ (J 22 1 e.toNatClampNeg / 1000).toInt := by rw [u2, e1]; have := hg.1; omega
      have gl : (J 22 1 e.toNatClampNeg / 1000).toInt ≤ 4 := by rw [u2, e1]; have := hg.2.1; omega
      have gn := cl_t gi
      have gm : J 22 1 e.toNatClampNeg / 1000 = 2 → 1 ≤ (J 19 1 (J 22 1 e.toNatClampNeg / 100 - J 22 1 e.toNatClampNeg / 100 / 10 * 10).toNatClampNeg).toInt := by
        intro z
        rw [u2] at z gn gj ⊢
        refine uI_gram hG hJ a5 (by omega) (by omega) ?_
        unfold shr
        rw [if_pos]
        refine ⟨by rw [← e1, z]; rfl, by rw [← e2, gn]⟩
      have nx : ∀ I1 L1, gG aGI I1 → gR pfW J L' I1 L1 → ((I1 = J ∧ L1 = L' ∧ (J 4 1 15).toInt = 40) ∨ pfP J I1 (J 22 1 e.toNatClampNeg / 1000) (J 22 1 e.toNatClampNeg / 100 - J 22 1 e.toNatClampNeg / 100 / 10 * 10) (J 22 1 e.toNatClampNeg - J 22 1 e.toNatClampNeg / 100 * 100)) → jWB (jWPM d) k none (jco 30) (7, [some (.inr (4, 1)), some (.inr (4, 0)), some (.inl (.inl n)), some (.inl (.inl (e + 1)))], [], I1, L1) := by
        intro I1 L1 g1 g2 g3
        rcases g3 with g3 | g3
        · exfalso; have := g3.2.2; omega
        · rw [u2] at g3
          have u := uI_next a5 hg g2 g3
          rw [← en] at u
          exact ih (e + 1) I1 L1 (by omega) (by omega) (by omega) g1 u
      conv => whnf
      refine ⟨fun q => ?_, fun q => ?_⟩
      · exfalso
        have q : 40 ≤ e.toInt := le_t.mp q
        omega
      conv => whnf
      refine ⟨vp_in_iff.mpr (by omega), ?_⟩
      conv => whnf
      refine ⟨by decide, ?_⟩
      conv => whnf
      refine ⟨vp_in_iff.mpr (by omega), ?_⟩
      conv => whnf
      refine ⟨by decide, ?_⟩
      conv => whnf
      refine ⟨by decide, ?_⟩
      conv => whnf
      refine ⟨vp_in_iff.mpr (by omega), ?_⟩
      conv => whnf
      refine ⟨by decide, ?_⟩
      conv => whnf
      refine hd_perform (Nat.le_trans (by decide) hd) a4 gk gl gi gj gm (fun x I1 L1 g1 g2 g3 => ?_)
      exact nx I1 L1 g1 g2 g3
  refine jWB_run [7] 60 ?_
  conv => whnf
  refine hd_takeStanding (Nat.le_trans (by decide) hd) (a := 1) (b := 0) (by decide) (by decide) (by decide) hG (fun I1 g1 g2 g3 g4 => ?_)
  have o : ∀ g x j : Nat, x ≠ 1 → I1 g x j = I g x j := fun g x j hx => taW_out (gR_mono g2 (fun r hr => List.mem_cons_of_mem _ hr)) hx
  have g5 : ∀ j, I1 22 1 j = I 22 1 j := fun j => (g2 22 1 j (fun ⟨r, hr, q⟩ => by
    simp only [tsW, List.mem_cons, List.not_mem_nil, or_false] at hr
    rcases hr with rfl | rfl | rfl | rfl | rfl | rfl <;> (have q1 := q.1; simp at q1))).1
  exact loop n.toInt.toNat 0 I1 L (by rw [Int.toNat_of_nonneg h0]; exact Int.le_of_eq (Int.sub_zero _)) (by decide) h0 g1 ⟨by rw [g4, hJ.1]; rfl, g5, fun i hi => by rw [g3 i (by omega)]; exact Int.add_zero _, o⟩
set_option maxHeartbeats 1000000 in
theorem jK_undo : jKP 86 [(2, 0, (0, 0)), (0, 0, anyI)] (1, anyI) := by
  intro d hd as I L has hG hJ k hk
  obtain ⟨d, rfl⟩ : ∃ d', d = d' + 1 := ⟨d - 1, by omega⟩
  have hd : 12 ≤ d := by omega
  match as, has with
  | [.inr (g0, n0), .inl (.inl n)], has =>
    obtain ⟨⟨-, e1, e2, e3⟩, -⟩ := has
    dsimp only at e1 e2 e3
    obtain rfl : n0 = 0 := by omega
    subst e1
    have same : ∀ x : Int32, k (some (.inl (.inl x))) (I, L) := fun x => hk _ _ _ hG hJ (any_ok x)
    refine jWB_run [] 60 ?_
    conv => whnf
    refine ⟨fun _ => same _, fun q1 => ⟨fun q2 => ?_, fun _ => same _⟩⟩
    have q1 : ¬ n.toInt < 0 := fun z => q1 (lt_t.mpr z)
    have q2 : n.toInt < (I 4 1 15).toInt := lt_t.mp q2
    conv => whnf
    refine hd_doAgain (Nat.le_trans (by decide) hd) hG hJ (by omega) q2 (fun I1 L1 g1 g2 => ?_)
    exact hk _ _ _ g1 g2 (any_ok _)
end
