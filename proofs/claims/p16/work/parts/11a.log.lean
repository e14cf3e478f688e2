/-! what the class's log says of its grams -/
noncomputable def shr (x : Int32) (i : Nat) : Int := if x.toInt / 1000 = 2 ∧ x.toInt / 100 % 10 = (i : Int) then 1 else 0
noncomputable def cnt (lg : Nat → Int32) (i : Nat) : Nat → Int
  | 0 => 0
  | n + 1 => cnt lg i n + shr (lg n) i
noncomputable def lgOK (x : Int32) : Prop := 0 ≤ x.toInt ∧ x.toInt ≤ 4999 ∧ x.toInt / 100 % 10 ≤ 5
noncomputable def hJ (I : Nat → Nat → Nat → Int32) (h : Nat) : Prop := (∀ e : Nat, (e : Int) < (I 4 h 15).toInt → lgOK (I 22 h e)) ∧ ∀ i : Nat, i ≤ 5 → (I 19 h i).toInt + cnt (I 22 h) i (I 4 h 15).toInt.toNat = (I 19 0 i).toInt
noncomputable def jJ (I : Nat → Nat → Nat → Int32) : Prop := I 4 0 15 = 0 ∧ I 4 5 15 = 0 ∧ hJ I 1 ∧ ∀ k : Nat, k ≤ 2 → ¬ I 6 0 k = 0 → hJ I (2 + k)
theorem shr_01 (x : Int32) (i : Nat) : 0 ≤ shr x i ∧ shr x i ≤ 1 := by unfold shr; split <;> omega
theorem cnt_ge (lg : Nat → Int32) (i : Nat) : ∀ n m : Nat, n ≤ m → cnt lg i n ≤ cnt lg i m
  | n, 0, h => by rw [Nat.le_zero.mp h]; exact Int.le_refl _
  | n, m + 1, h => by
    rcases Nat.lt_or_ge n (m + 1) with q | q
    · have := cnt_ge lg i n m (by omega)
      have := (shr_01 (lg m) i).1
      show _ ≤ cnt lg i m + shr (lg m) i
      omega
    · rw [Nat.le_antisymm h q]; exact Int.le_refl _
theorem cnt_ext {lg lg' : Nat → Int32} {i : Nat} : ∀ {n : Nat}, (∀ e, e < n → lg e = lg' e) → cnt lg i n = cnt lg' i n
  | 0, _ => rfl
  | n + 1, h => by
    show cnt lg i n + shr (lg n) i = cnt lg' i n + shr (lg' n) i
    rw [cnt_ext (fun e he => h e (by omega)), h n (by omega)]
/-- the cells that it reads -/
noncomputable def jJW : List aR := [(4, (0, 5), (15, 15)), (19, (0, 4), (0, 5)), (22, (1, 4), (0, 39)), (6, (0, 0), (0, 2))]
noncomputable def rApart (W W' : List aR) : Bool := W.all (fun r => W'.all (fun s => !(Nat.beq r.1 s.1) || decide (r.2.1.2 < s.2.1.1) || decide (s.2.1.2 < r.2.1.1) || decide (r.2.2.2 < s.2.2.1) || decide (s.2.2.2 < r.2.2.1)))
theorem rApart_of {W W' : List aR} (h : rApart W W' = true) {g i j : Nat} (hj : gI W' g i j) : ¬ gI W g i j := by
  rintro ⟨r, hr, a1, a2, a3, a4, a5⟩
  obtain ⟨s, hs, b1, b2, b3, b4, b5⟩ := hj
  have h1 := List.all_eq_true.mp (List.all_eq_true.mp h r hr) s hs
  simp only [Bool.or_eq_true, decide_eq_true_eq, Bool.not_eq_true'] at h1
  have e : Nat.beq r.1 s.1 = true := by rw [a1, b1]; exact Nat.beq_refl g
  rcases h1 with (((h1 | h1) | h1) | h1) | h1
  · rw [e] at h1; cases h1
  all_goals omega
theorem jJ_cells {I I' : Nat → Nat → Nat → Int32} (hG : gG aGI I) (h : jJ I) (e : ∀ g i j, gI jJW g i j → I' g i j = I g i j) : jJ I' := by
  have e15 : ∀ h : Nat, h ≤ 5 → I' 4 h 15 = I 4 h 15 := fun h hh => e 4 h 15 ⟨(4, (0, 5), (15, 15)), by decide, rfl, by simp, by simp; omega, by simp, by simp⟩
  have e19 : ∀ h i : Nat, h ≤ 4 → i ≤ 5 → I' 19 h i = I 19 h i := fun h i hh hi => e 19 h i ⟨(19, (0, 4), (0, 5)), by decide, rfl, by simp, by simp; omega, by simp, by simp; omega⟩
  have e22 : ∀ h i : Nat, 1 ≤ h → h ≤ 4 → i ≤ 39 → I' 22 h i = I 22 h i := fun h i h1 hh hi => e 22 h i ⟨(22, (1, 4), (0, 39)), by decide, rfl, by simp; omega, by simp; omega, by simp, by simp; omega⟩
  have e6 : ∀ i : Nat, i ≤ 2 → I' 6 0 i = I 6 0 i := fun i hi => e 6 0 i ⟨(6, (0, 0), (0, 2)), by decide, rfl, by simp, by simp, by simp, by simp; omega⟩
  have key : ∀ h : Nat, 1 ≤ h → h ≤ 4 → hJ I h → hJ I' h := by
    intro h h1 h4 q
    have hd : 0 ≤ (I 4 h 15).toInt ∧ (I 4 h 15).toInt ≤ 40 := hG (4, (0, 5), (15, 15), (0, 40)) (by decide) h 15 (by simp) (by simp; omega) (by simp) (by simp)
    refine ⟨fun x hx => ?_, fun i hi => ?_⟩
    · rw [e15 h (by omega)] at hx
      rw [e22 h x h1 h4 (by omega)]
      exact q.1 x hx
    · rw [e15 h (by omega), e19 h i h4 hi, e19 0 i (by omega) hi, cnt_ext (fun x hx => e22 h x h1 h4 (by omega))]
      exact q.2 i hi
  exact ⟨by rw [e15 0 (by omega)]; exact h.1, by rw [e15 5 (by omega)]; exact h.2.1, key 1 (by omega) (by omega) h.2.2.1, fun k hk q => key (2 + k) (by omega) (by omega) (h.2.2.2 k hk (by rw [← e6 k hk]; exact q))⟩
theorem jJ_frame {W : List aR} {I I' : Nat → Nat → Nat → Int32} {L L' : Nat → Nat → Nat → Int64} (hw : rApart W jJW = true) (hG : gG aGI I) (h : jJ I) (hR : gR W I L I' L') : jJ I' := jJ_cells hG h (fun g i j q => (hR g i j (rApart_of hw q)).1)
theorem gi_deeds {I : Nat → Nat → Nat → Int32} (h : gG aGI I) {x : Nat} (hx : x ≤ 5) : 0 ≤ (I 4 x 15).toInt ∧ (I 4 x 15).toInt ≤ 40 := h (4, (0, 5), (15, 15), (0, 40)) (by decide) x 15 (by simp) (by simp; omega) (by simp) (by simp)
theorem gi_grams {I : Nat → Nat → Nat → Int32} (h : gG aGI I) {x j : Nat} (hx : x ≤ 5) (hj : j ≤ 5) : 0 ≤ (I 19 x j).toInt ∧ (I 19 x j).toInt ≤ 9 := h (19, (0, 5), (0, 5), (0, 9)) (by decide) x j (by simp) (by simp; omega) (by simp) (by simp; omega)
noncomputable def pfW : List aR := [(4, (1, 1), (9, 15)), (19, (1, 1), (0, 5)), (20, (1, 1), (0, 5)), (22, (1, 1), (0, 39)), (23, (1, 1), (0, 9))]
noncomputable def pfP (I I' : Nat → Nat → Nat → Int32) (dd i v : Int32) : Prop := (I 4 1 15).toInt ≤ 39 ∧ (I' 4 1 15).toInt = (I 4 1 15).toInt + 1 ∧ (∀ e : Nat, I' 22 1 e = if e = (I 4 1 15).toNatClampNeg then dd * 1000 + i * 100 + v else I 22 1 e) ∧ (∀ j : Nat, (I' 19 1 j).toInt = (I 19 1 j).toInt - (if dd = 2 ∧ j = i.toNatClampNeg then 1 else 0))
theorem hd_hasDeedsFor {d : Nat} (hd : 1 ≤ d) {n : Int32} {I : Nat → Nat → Nat → Int32} {L : Nat → Nat → Nat → Int64} {k : jK} (hG : gG aGI I) (h0 : 0 ≤ n.toInt) (h20 : n.toInt ≤ 20) (h1 : (I 4 1 15).toInt + n.toInt ≤ 40 → k (some (.inl (.inl 1))) (I, L)) (hz : ¬ (I 4 1 15).toInt + n.toInt ≤ 40 → k (some (.inl (.inl 0))) (I, L)) : jWPM d 32 [.inr (4, 1), .inl (.inl n)] (I, L) k := by
  obtain ⟨d, rfl⟩ : ∃ d', d = d' + 1 := ⟨d - 1, by omega⟩
  have hb := gi_deeds hG (x := 1) (by omega)
  have e : (I 4 1 15 + n).toInt = (I 4 1 15).toInt + n.toInt := i32_add (by omega)
  refine jWB_run [] 30 ?_
  conv => whnf
  refine ⟨fun q => ?_, fun q => ?_⟩
  · have q : 40 < (I 4 1 15 + n).toInt := lt_t.mp q
    conv => whnf
    exact ⟨Or.inl rfl, hz (by omega)⟩
  · have q : ¬ 40 < (I 4 1 15 + n).toInt := fun z => q (lt_t.mpr z)
    conv => whnf
    exact ⟨Or.inr rfl, h1 (by omega)⟩
theorem gR_wi {W : List aR} {I0 I : Nat → Nat → Nat → Int32} {L0 L : Nat → Nat → Nat → Int64} {g i j : Nat} {x : Int32} {a b lo hi : Int} (h : gR W I0 L0 I L) (hm : (g, (a, b), (lo, hi)) ∈ W) (h1 : a ≤ (i : Int)) (h2 : (i : Int) ≤ b) (h3 : lo ≤ (j : Int)) (h4 : (j : Int) ≤ hi) : gR W I0 L0 (jup I g i j x) L := gR_upI h ⟨_, hm, rfl, h1, h2, h3, h4⟩
theorem gG_up1i {I : Nat → Nat → Nat → Int32} {g i j : Nat} {x : Int32} {lo hi : Int} (h : gG aGI I) (hn : ∀ e ∈ aGI, e.1 = g → e.2.2.1.1 ≤ (j : Int) → (j : Int) ≤ e.2.2.1.2 → e.2.2.2 = (lo, hi)) (h1 : lo ≤ x.toInt) (h2 : x.toInt ≤ hi) : gG aGI (jup I g i j x) := gG_up1 h (fun e he a b c => by rw [hn e he a b c]; exact ⟨h1, h2⟩)
theorem gi19 : ∀ e ∈ aGI, e.1 = 19 → e.2.2.2 = (0, 9) := by decide
set_option maxHeartbeats 4000000 in
theorem hd_perform {d : Nat} (hd : 6 ≤ d) {dd i v : Int32} {I : Nat → Nat → Nat → Int32} {L : Nat → Nat → Nat → Int64} {k : jK} (hG : gG aGI I) (hd0 : 0 ≤ dd.toInt) (hd4 : dd.toInt ≤ 4) (hi0 : 0 ≤ i.toInt) (hi5 : i.toInt ≤ 5) (hs : dd = 2 → 1 ≤ (I 19 1 i.toNatClampNeg).toInt) (hk : ∀ x I' L', gG aGI I' → gR pfW I L I' L' → ((I' = I ∧ L' = L ∧ (I 4 1 15).toInt = 40) ∨ pfP I I' dd i v) → k (some (.inl (.inl x))) (I', L')) : jWPM d 44 [.inr (4, 1), .inl (.inl dd), .inl (.inl i), .inl (.inl v)] (I, L) k := by
  obtain ⟨d, rfl⟩ : ∃ d', d = d' + 1 := ⟨d - 1, by omega⟩
  have hd : 5 ≤ d := by omega
  have hb := gi_deeds hG (x := 1) (by omega)
  have nb := cl_t hb.1
  have ni := cl_t hi0
  refine jWB_run [] 60 ?_
  conv => whnf
  refine hd_hasDeedsFor (Nat.le_trans (by decide) hd) hG (by decide) (by decide) (fun h1 => ?_) (fun h1 => ?_)
  · have h1 : (I 4 1 15).toInt ≤ 39 := by have : (I 4 1 15).toInt + 1 ≤ 40 := h1; omega
    have e1 : (I 4 1 15 + 1).toInt = (I 4 1 15).toInt + 1 := by rw [i32_add (by simp; omega)]; simp
    conv => whnf
    refine ⟨fun _ => ?_, fun h => absurd h (by decide)⟩
    conv => whnf
    refine ⟨vp_in_iff.mpr (by omega), ?_⟩
    have gI1 : gG aGI (jup (jup I 22 1 (I 4 1 15).toNatClampNeg (dd * 1000 + i * 100 + v)) 4 1 15 (I 4 1 15 + 1)) := gG_up1i (gG_up hG (by decide)) (lo := 0) (hi := 40) (by decide) (by omega) (by omega)
    have rI1 : gR pfW I L (jup (jup I 22 1 (I 4 1 15).toNatClampNeg (dd * 1000 + i * 100 + v)) 4 1 15 (I 4 1 15 + 1)) L := gR_wi (gR_wi gR_rf (g := 22) (a := 1) (b := 1) (lo := 0) (hi := 39) (by decide) (by decide) (by decide) (by omega) (by omega)) (g := 4) (a := 1) (b := 1) (lo := 9) (hi := 15) (by decide) (by decide) (by decide) (by decide) (by decide)
    have a22 : ∀ e : Nat, jup (jup I 22 1 (I 4 1 15).toNatClampNeg (dd * 1000 + i * 100 + v)) 4 1 15 (I 4 1 15 + 1) 22 1 e = if e = (I 4 1 15).toNatClampNeg then dd * 1000 + i * 100 + v else I 22 1 e := fun e => by simp [jup]
    have a19 : ∀ e : Nat, jup (jup I 22 1 (I 4 1 15).toNatClampNeg (dd * 1000 + i * 100 + v)) 4 1 15 (I 4 1 15 + 1) 19 1 e = I 19 1 e := fun e => rfl
    have a15 : jup (jup I 22 1 (I 4 1 15).toNatClampNeg (dd * 1000 + i * 100 + v)) 4 1 15 (I 4 1 15 + 1) 4 1 15 = I 4 1 15 + 1 := rfl
    have fin : ∀ x I2 L2, ¬ dd = 2 → gG aGI I2 → gR [(4, (1, 1), (9, 14)), (20, (1, 1), (0, 5)), (23, (1, 1), (0, 9))] (jup (jup I 22 1 (I 4 1 15).toNatClampNeg (dd * 1000 + i * 100 + v)) 4 1 15 (I 4 1 15 + 1)) L I2 L2 → k (some (.inl (.inl x))) (I2, L2) := by
      intro x I2 L2 h2 g1 g2
      refine hk x I2 L2 g1 (gR_then rI1 (by decide) g2 (by decide)) (Or.inr ⟨h1, ?_, fun e => ?_, fun j => ?_⟩)
      · rw [(g2 4 1 15 (fun ⟨r, hr, q⟩ => ?_)).1, a15]; · exact e1
        revert q; revert r; decide
      · rw [(g2 22 1 e (fun ⟨r, hr, q⟩ => ?_)).1]; · exact a22 e
        have : ∀ r ∈ ([(4, (1, 1), (9, 14)), (20, (1, 1), (0, 5)), (23, (1, 1), (0, 9))] : List aR), r.1 ≠ 22 := by decide
        exact this r hr q.1
      · rw [(g2 19 1 j (fun ⟨r, hr, q⟩ => ?_)).1, a19, if_neg (fun z => h2 z.1)]; · omega
        have : ∀ r ∈ ([(4, (1, 1), (9, 14)), (20, (1, 1), (0, 5)), (23, (1, 1), (0, 9))] : List aR), r.1 ≠ 19 := by decide
        exact this r hr q.1
    conv => whnf
    refine ⟨fun q => ?_, fun q0 => ⟨fun q => ?_, fun q1 => ⟨fun q => ?_, fun q2 => ⟨fun q => ?_, fun q3 => ?_⟩⟩⟩⟩
    · conv => whnf
      refine use_c cT40 (Nat.le_trans (by decide) hd) ⟨⟨rfl, rfl, by simp, by simp⟩, ⟨rfl, by simp only; omega, by simp only; omega⟩, ⟨rfl, (i32_rng _).1, (i32_rng _).2⟩, trivial⟩ gI1 (fun x I' L' r1 r2 r3 => ?_)
      obtain ⟨y, rfl, -, -⟩ := r3
      exact fin y I' L' (fun z => by rw [z] at q; exact absurd q (by decide)) r1 (gR_in (by decide) r2)
    · conv => whnf
      refine use_c cT41 (Nat.le_trans (by decide) hd) ⟨⟨rfl, rfl, by simp, by simp⟩, trivial⟩ gI1 (fun x I' L' r1 r2 r3 => ?_)
      obtain ⟨y, rfl, -, -⟩ := r3
      exact fin y I' L' (fun z => by rw [z] at q; exact absurd q (by decide)) r1 (gR_in (by decide) r2)
    · have hs := hs q
      have hg := gi_grams hG (x := 1) (j := i.toNatClampNeg) (by omega) (by omega)
      have es : (I 19 1 i.toNatClampNeg - 1).toInt = (I 19 1 i.toNatClampNeg).toInt - 1 := by rw [i32_sub (by simp; omega)]; simp
      conv => whnf
      refine ⟨vp_in_iff.mpr (by omega), ?_⟩
      conv => whnf
      refine ⟨vp_in_iff.mpr (by omega), ?_⟩
      conv => whnf
      refine ⟨vp_in_iff.mpr (by omega), ?_⟩
      refine hk _ _ _ (gG_up1 gI1 (fun e he a _ _ => ?_)) (gR_wi rI1 (g := 19) (a := 1) (b := 1) (lo := 0) (hi := 5) (by decide) (by decide) (by decide) (by omega) (by omega)) (Or.inr ⟨h1, e1, fun e => a22 e, fun j => ?_⟩)
      · rw [gi19 e he a]
        show 0 ≤ (I 19 1 i.toNatClampNeg - 1).toInt ∧ (I 19 1 i.toNatClampNeg - 1).toInt ≤ 9
        omega
      · by_cases hj : j = i.toNatClampNeg
        · subst hj
          rw [if_pos ⟨q, rfl⟩, ← es]
          have : ∀ (A : Nat → Nat → Nat → Int32) (j : Nat) (y : Int32), jup A 19 1 j y 19 1 j = y := fun A j y => by simp [jup]
          rw [this]; rfl
        · rw [if_neg (fun z => hj z.2), jup_of (fun z => hj z.2.2)]; show (I 19 1 j).toInt = _; omega
    · conv => whnf
      refine ⟨vp_in_iff.mpr (by omega), ?_⟩
      conv => whnf
      refine ⟨vp_in_iff.mpr (by omega), ?_⟩
      exact fin _ _ L q2 (gG_up gI1 (by decide)) (gR_wi gR_rf (g := 20) (a := 1) (b := 1) (lo := 0) (hi := 5) (by decide) (by decide) (by decide) (by omega) (by omega))
    · conv => whnf
      refine ⟨fun _ => ?_, fun _ => ?_⟩
      · conv => whnf
        refine ⟨Or.inl rfl, ?_⟩
        exact fin _ _ L q2 (gG_up1i gI1 (lo := 0) (hi := 1) (by decide) (by decide) (by decide)) (gR_wi gR_rf (g := 4) (a := 1) (b := 1) (lo := 9) (hi := 14) (by decide) (by decide) (by decide) (by decide) (by decide))
      · conv => whnf
        refine ⟨Or.inr rfl, ?_⟩
        exact fin _ _ L q2 (gG_up1i gI1 (lo := 0) (hi := 1) (by decide) (by decide) (by decide)) (gR_wi gR_rf (g := 4) (a := 1) (b := 1) (lo := 9) (hi := 14) (by decide) (by decide) (by decide) (by decide) (by decide))
  · conv => whnf
    refine ⟨fun h => absurd rfl h, fun _ => hk _ _ _ hG gR_rf (Or.inl ⟨rfl, rfl, ?_⟩)⟩
    have : ¬ (I 4 1 15).toInt + 1 ≤ 40 := h1
    omega
