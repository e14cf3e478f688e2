noncomputable def wkW : List aR := [(32, (0, 0), (4596, 4624)), (35, (0, 0), (0, 5)), (36, (0, 0), (0, 239))]
theorem wkW36 : (36, (0, 0), (0, 239)) ∈ wkW := by decide
set_option maxHeartbeats 4000000 in
theorem hK_mweeks : aKP aGI 188 ([(2, 31, (0, 0)), (0, 0, ((-2147483648), 2147483647)), (0, 0, ((-2147483648), 2147483647))], (1, ((-2147483648), 2147483647)), wkW, 9) := by
  intro d hd as I0 L0 has hG k hk
  obtain ⟨d, rfl⟩ : ∃ d', d = d' + 1 := ⟨d - 1, by simp at hd; omega⟩
  have hd : 8 ≤ d := by simp at hd; omega
  dsimp only at hk
  match as, has with
  | [.inr (g0, n0), .inl (.inl n), .inl (.inl r)], has =>
    obtain ⟨⟨-, e1, e2, e3⟩, -⟩ := has
    dsimp only at e1 e2 e3
    obtain rfl : n0 = 0 := by omega
    subst e1
    have bad : k (some (.inl (.inl (-1)))) (I0, L0) := hk _ _ _ hG gR_rf ⟨-1, rfl, by decide, by decide⟩
    refine jWB_run [41] 60 ?_
    conv => whnf
    refine hd_in (Nat.le_trans (by decide) hd) (fun a b => ?_) (fun a => ?_)
    · rw [Int32.toInt_toInt64] at a b
      have a : 0 ≤ n.toInt := by simpa using a
      have b : n.toInt ≤ 3 := by simpa using b
      conv => whnf
      refine ⟨fun h => absurd h (by decide), fun _ => ?_⟩
      conv => whnf
      refine hd_isRow (Nat.le_trans (by decide) hd) (fun a2 b2 => ?_) (fun _ => ?_)
      · conv => whnf
        refine ⟨fun _ => ?_, fun h => absurd h (by decide)⟩
        conv => whnf
        refine ⟨fun q => ?_, fun q => hk _ _ _ hG gR_rf ⟨-4, rfl, by decide, by decide⟩⟩
        have second : ∀ (N : Nat) (le be i : Int32) (e6 : Option jV) (I : Nat → Nat → Nat → Int32) (L : Nat → Nat → Nat → Int64), 3 - i.toInt ≤ (N : Int) → 0 ≤ i.toInt → 0 ≤ be.toInt → be.toInt ≤ 342 → gG aGI I → gR wkW I0 L0 I L → jWB (jWPM d) k none (jco 188) (130, [some (.inr (31, 0)), some (.inl (.inl n)), some (.inl (.inl r)), some (.inl (.inl le)), some (.inl (.inl be)), some (.inl (.inl i)), e6], [], I, L) := by
          intro N
          induction N with
          | zero =>
            intro le be i e6 I L h1 h2 h3 h4 h5 h6
            refine jWB_run [130] 60 ?_
            conv => whnf
            refine ⟨fun q => hk _ _ _ h5 h6 ⟨le, rfl, (i32_rng _).1, (i32_rng _).2⟩, fun q => ?_⟩
            rw [le_t] at q; exfalso; omega
          | succ N ih =>
            intro le be i e6 I L h1 h2 h3 h4 h5 h6
            refine jWB_run [130] 60 ?_
            conv => whnf
            refine ⟨fun q => hk _ _ _ h5 h6 ⟨le, rfl, (i32_rng _).1, (i32_rng _).2⟩, fun q => ?_⟩
            rw [le_t] at q
            have ei : (i + 1).toInt = i.toInt + 1 := by rw [i32_add (by simp; omega)]; simp
            have e40 : (40 * r).toInt = 40 * r.toInt := by rw [i32_mul (by simp; omega)]; simp
            have ej : (40 * r + i).toInt = 40 * r.toInt + i.toInt := by rw [i32_add (by rw [e40]; omega), e40]
            have nj := cl_t (x := 40 * r + i) (by omega)
            conv => whnf
            refine use_c cT167 (Nat.le_trans (by decide) hd) ⟨⟨rfl, rfl, by simp, by simp⟩, ⟨rfl, by simp only; omega, by simp only; omega⟩, ⟨rfl, by simp only; omega, by simp only; omega⟩, ⟨rfl, by simp only; omega, by simp only; omega⟩, trivial⟩ h5 (fun v I' L' r1 r2 r3 => ?_)
            obtain ⟨rfl, rfl⟩ := gR_nil r2
            obtain ⟨x, rfl, r4, r5⟩ := r3
            conv => whnf
            refine ⟨fun _ => ?_, fun _ => ?_⟩
            · conv => whnf
              refine ⟨vp_in_iff.mpr (by omega), ?_⟩
              exact ih le be (i + 1) _ _ L' (by omega) (by omega) h3 h4 (gG_up h5 (by decide)) (gR_w h6 wkW36 (by omega) (by omega))
            · conv => whnf
              refine ⟨vp_in_iff.mpr (by omega), ?_⟩
              exact ih le be (i + 1) _ _ L' (by omega) (by omega) h3 h4 (gG_up h5 (by decide)) (gR_w h6 wkW36 (by omega) (by omega))
        have hexit : ∀ (le be i : Int32) (e6 : Option jV) (I : Nat → Nat → Nat → Int32) (L : Nat → Nat → Nat → Int64), (be = -9 ∨ (0 ≤ be.toInt ∧ be.toInt ≤ 342)) → gG aGI I → gR wkW I0 L0 I L → jWB (jWPM d) k none (jco 188) (111, [some (.inr (31, 0)), some (.inl (.inl n)), some (.inl (.inl r)), some (.inl (.inl le)), some (.inl (.inl be)), some (.inl (.inl i)), e6], [], I, L) := by
          intro le be i e6 I L h1 h2 h3
          refine jWB_run [130] 60 ?_
          conv => whnf
          refine ⟨fun q => ?_, fun q => hk _ _ _ h2 h3 ⟨-9, rfl, by decide, by decide⟩⟩
          have h1 := h1.resolve_left q
          conv => whnf
          refine use_c cT125 (Nat.le_trans (by decide) hd) ⟨⟨rfl, rfl, by simp, by simp⟩, ⟨rfl, by simp only; omega, by simp only; omega⟩, ⟨rfl, by simp only; omega, by simp only; omega⟩, trivial⟩ h2 (fun v I' L' r1 r2 r3 => ?_)
          obtain rfl := r3
          exact second 3 le be 0 e6 I' L' (by decide) (by decide) h1.1 h1.2 r1 (gR_then h3 (by decide) r2 (by decide))
        have first : ∀ (N : Nat) (le be i : Int32) (e6 : Option jV) (I : Nat → Nat → Nat → Int32) (L : Nat → Nat → Nat → Int64), 343 - i.toInt ≤ (N : Int) → 0 ≤ i.toInt → (be = -9 ∨ (0 ≤ be.toInt ∧ be.toInt ≤ 342)) → gG aGI I → gR wkW I0 L0 I L → jWB (jWPM d) k none (jco 188) (41, [some (.inr (31, 0)), some (.inl (.inl n)), some (.inl (.inl r)), some (.inl (.inl le)), some (.inl (.inl be)), some (.inl (.inl i)), e6], [], I, L) := by
          intro N
          induction N with
          | zero =>
            intro le be i e6 I L h1 h2 h3 h4 h5
            have hp := gi_mpackets h4
            have ep : (I 31 0 3 + 1).toInt = (I 31 0 3).toInt + 1 := by rw [i32_add (by simp; omega)]; simp
            refine jWB_run [41, 111] 60 ?_
            conv => whnf
            refine use_c cT164 (Nat.le_trans (by decide) hd) ⟨⟨rfl, by simp only; omega, by simp only; omega⟩, ⟨rfl, by simp only; omega, by simp only; omega⟩, trivial⟩ h4 (fun v I' L' r1 r2 r3 => ?_)
            obtain ⟨rfl, rfl⟩ := gR_nil r2
            obtain ⟨x, rfl, r4, r5⟩ := r3
            conv => whnf
            refine ⟨fun q => hexit le be i e6 I' L' h3 h4 h5, fun q => ?_⟩
            have r5 : x.toInt ≤ 343 := r5
            rw [le_t] at q; exfalso; omega
          | succ N ih =>
            intro le be i e6 I L h1 h2 h3 h4 h5
            have hp := gi_mpackets h4
            have ep : (I 31 0 3 + 1).toInt = (I 31 0 3).toInt + 1 := by rw [i32_add (by simp; omega)]; simp
            refine jWB_run [41, 111] 60 ?_
            conv => whnf
            refine use_c cT164 (Nat.le_trans (by decide) hd) ⟨⟨rfl, by simp only; omega, by simp only; omega⟩, ⟨rfl, by simp only; omega, by simp only; omega⟩, trivial⟩ h4 (fun v I' L' r1 r2 r3 => ?_)
            obtain ⟨rfl, rfl⟩ := gR_nil r2
            obtain ⟨x, rfl, r4, r5⟩ := r3
            conv => whnf
            refine ⟨fun q => hexit le be i e6 I' L' h3 h4 h5, fun q => ?_⟩
            rw [le_t] at q
            have r5 : x.toInt ≤ 343 := r5
            have ei : (i + 1).toInt = i.toInt + 1 := by rw [i32_add (by simp; omega)]; simp
            conv => whnf
            refine use_c cT168 (Nat.le_trans (by decide) hd) ⟨⟨rfl, rfl, by simp, by simp⟩, ⟨rfl, by simp only; omega, by simp only; omega⟩, ⟨rfl, by simp only; omega, by simp only; omega⟩, trivial⟩ h4 (fun v I2 L2 s1 s2 s3 => ?_)
            obtain ⟨y, rfl, s4, s5⟩ := s3
            have f : gR wkW I0 L0 I2 L2 := gR_then h5 (by decide) s2 (by decide)
            conv => whnf
            refine ⟨fun _ => ih le be (i + 1) e6 I2 L2 (by omega) (by omega) h3 s1 f, fun _ => ?_⟩
            conv => whnf
            refine ⟨vp_in_iff.mpr (by decide), ?_⟩
            conv => whnf
            refine ⟨vp_in_iff.mpr (by decide), ?_⟩
            conv => whnf
            refine ⟨fun _ => ih le be (i + 1) e6 I2 L2 (by omega) (by omega) h3 s1 f, fun _ => ?_⟩
            conv => whnf
            refine ⟨vp_in_iff.mpr (by decide), ?_⟩
            conv => whnf
            refine ⟨vp_in_iff.mpr (by decide), ?_⟩
            exact ih _ i (i + 1) e6 I2 L2 (by omega) (by omega) (Or.inr (by omega)) s1 f
        exact first 343 99999 (-9) 0 _ I0 L0 (by decide) (by decide) (Or.inl rfl) hG gR_rf
      · conv => whnf
        exact ⟨fun h => absurd rfl h, fun h => bad⟩
    · conv => whnf
      exact ⟨fun h => bad, fun h => absurd rfl h⟩
theorem gi_rows {I : Nat → Nat → Nat → Int32} (h : gG aGI I) {j : Nat} (hj : j ≤ 5) : -1 ≤ (I 35 0 j).toInt ∧ (I 35 0 j).toInt ≤ 40 := h (35, (0, 0), (0, 5), ((-1), 40)) (by decide) 0 j (by decide) (by decide) (by simp) (by simp; omega)
theorem hd_isSpan {d : Nat} (hd : 1 ≤ d) {r i n : Int32} {I : Nat → Nat → Nat → Int32} {L : Nat → Nat → Nat → Int64} {k : jK} (hr0 : 0 ≤ r.toInt) (hr5 : r.toInt ≤ 5) (h1 : 0 ≤ i.toInt → i.toInt + n.toInt ≤ (I 35 0 r.toNatClampNeg).toInt → k (some (.inl (.inl 1))) (I, L)) (h0 : k (some (.inl (.inl 0))) (I, L)) : jWPM d 136 [.inr (31, 0), .inl (.inl r), .inl (.inl i), .inl (.inl n)] (I, L) k := by
  obtain ⟨d, rfl⟩ : ∃ d', d = d' + 1 := ⟨d - 1, by omega⟩
  refine jWB_run [] 60 ?_
  conv => whnf
  refine ⟨fun q => ⟨Or.inl rfl, h0⟩, fun q => ?_⟩
  rw [lt_t] at q
  conv => whnf
  refine ⟨vp_in_iff.mpr (by omega), ?_⟩
  conv => whnf
  refine ⟨fun q => ⟨Or.inl rfl, h0⟩, fun q2 => ⟨Or.inr rfl, ?_⟩⟩
  rw [cmp_lg] at q2
  have q2 : ¬ (I 35 0 r.toNatClampNeg).toInt64.toInt < (i.toInt64 + n.toInt64).toInt := fun z => q2 ((hop_q .gt _ _).mp z)
  have a1 := i32_rng i
  have a2 := i32_rng n
  rw [i64_add' (by rw [Int32.toInt_toInt64, Int32.toInt_toInt64]; omega), Int32.toInt_toInt64, Int32.toInt_toInt64, Int32.toInt_toInt64] at q2
  exact h1 (by simp at q; omega) (by omega)
