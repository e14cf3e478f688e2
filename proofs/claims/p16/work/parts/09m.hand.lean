noncomputable def cfW : List aR := [(0, (0, 0), (13, 13)), (12, (0, 0), (0, 5))]
theorem hd_cfind {d : Nat} (hd : 1 ≤ d) {f : Int32} {I : Nat → Nat → Nat → Int32} {L : Nat → Nat → Nat → Int64} {k : jK} (h0 : 0 ≤ f.toInt) (h5 : f.toInt ≤ 5) (hG : gG aGI I) (hk : ∀ I', gG aGI I' → gR cfW I L I' L → k (some (.inl (.inl (-3)))) (I', L)) : jWPM d 113 [.inr (0, 0), .inl (.inl f)] (I, L) k := by
  obtain ⟨d, rfl⟩ : ∃ d', d = d' + 1 := ⟨d - 1, by omega⟩
  have hn : (f.toNatClampNeg : Int) = f.toInt := cl_t h0
  refine jWB_run [] 60 ?_
  conv => whnf
  refine ⟨vp_in_iff.mpr (by omega), ?_⟩
  conv => whnf
  refine ⟨vp_in_iff.mpr (by omega), ?_⟩
  conv => whnf
  exact hk _ (gG_up (gG_up hG (by decide)) (by decide)) (gR_w (gR_w gR_rf (List.mem_cons_self) (by decide) (by decide)) (List.mem_cons_of_mem _ List.mem_cons_self) (by omega) (by omega))
theorem hd_names {d : Nat} (hd : 1 ≤ d) {r : Int32} {I : Nat → Nat → Nat → Int32} {L : Nat → Nat → Nat → Int64} {k : jK} (h1 : 0 ≤ r.toInt → r.toInt ≤ 5 → k (some (.inl (.inl 1))) (I, L)) (h0 : ¬ (0 ≤ r.toInt ∧ r.toInt ≤ 5) → k (some (.inl (.inl 0))) (I, L)) : jWPM d 15 [.inr (1, 0), .inl (.inl r)] (I, L) k := by
  obtain ⟨d, rfl⟩ : ∃ d', d = d' + 1 := ⟨d - 1, by omega⟩
  refine jWB_run [] 60 ?_
  conv => whnf
  refine ⟨fun q => ?_, fun q => ?_⟩
  · rw [lt_t] at q
    have q : r.toInt < 0 := by simpa using q
    conv => whnf
    exact ⟨Or.inl rfl, h0 (by omega)⟩
  · rw [lt_t] at q
    have q : ¬ r.toInt < 0 := by simpa using q
    conv => whnf
    refine ⟨fun q2 => ?_, fun q2 => ?_⟩
    · have q2 : 6 ≤ r.toInt := le_t.mp q2
      conv => whnf
      exact ⟨Or.inl rfl, h0 (by omega)⟩
    · have q2 : ¬ 6 ≤ r.toInt := fun z => q2 (le_t.mpr z)
      conv => whnf
      exact ⟨Or.inr rfl, h1 (by omega) (by omega)⟩
theorem hd_isThere {d : Nat} (hd : 1 ≤ d) {r : Int32} {I : Nat → Nat → Nat → Int32} {L : Nat → Nat → Nat → Int64} {k : jK} (hr0 : 0 ≤ r.toInt) (hr5 : r.toInt ≤ 5) (h1 : k (some (.inl (.inl 1))) (I, L)) (h0 : k (some (.inl (.inl 0))) (I, L)) : jWPM d 16 [.inr (1, 0), .inl (.inl r)] (I, L) k := by
  obtain ⟨d, rfl⟩ : ∃ d', d = d' + 1 := ⟨d - 1, by omega⟩
  refine jWB_run [] 60 ?_
  conv => whnf
  refine ⟨vp_in_iff.mpr (by omega), ?_⟩
  conv => whnf
  exact ⟨fun _ => ⟨Or.inl rfl, h0⟩, fun _ => ⟨Or.inr rfl, h1⟩⟩
theorem gi_crows {I : Nat → Nat → Nat → Int32} (h : gG aGI I) {j : Nat} (hj : j ≤ 5) : -1 ≤ (I 14 0 j).toInt ∧ (I 14 0 j).toInt ≤ 40 := h (14, (0, 0), (0, 5), ((-1), 40)) (by decide) 0 j (by decide) (by decide) (by simp) (by simp; omega)
theorem hd_hasPlaces {d : Nat} (hd : 1 ≤ d) {r i n : Int32} {I : Nat → Nat → Nat → Int32} {L : Nat → Nat → Nat → Int64} {k : jK} (hG : gG aGI I) (hr0 : 0 ≤ r.toInt) (hr5 : r.toInt ≤ 5) (h1 : 0 ≤ i.toInt → i.toInt + n.toInt ≤ 40 → k (some (.inl (.inl 1))) (I, L)) (h0 : k (some (.inl (.inl 0))) (I, L)) : jWPM d 23 [.inr (1, 0), .inl (.inl r), .inl (.inl i), .inl (.inl n)] (I, L) k := by
  obtain ⟨d, rfl⟩ : ∃ d', d = d' + 1 := ⟨d - 1, by omega⟩
  have nr := cl_t hr0
  have hs := gi_crows hG (j := r.toNatClampNeg) (by omega)
  refine jWB_run [] 60 ?_
  conv => whnf
  refine ⟨fun q => ⟨Or.inl rfl, h0⟩, fun q => ?_⟩
  rw [lt_t] at q
  have q : ¬ i.toInt < 0 := by simpa using q
  conv => whnf
  refine ⟨vp_in_iff.mpr (by omega), ?_⟩
  conv => whnf
  refine ⟨fun q => ⟨Or.inl rfl, h0⟩, fun q2 => ?_⟩
  have q2 : ¬ (I 14 0 r.toNatClampNeg).toInt < i.toInt := fun z => q2 (lt_t.mpr z)
  conv => whnf
  refine ⟨vp_in_iff.mpr (by omega), ?_⟩
  conv => whnf
  refine ⟨fun q => ⟨Or.inl rfl, h0⟩, fun q3 => ⟨Or.inr rfl, h1 (by omega) ?_⟩⟩
  have e : (I 14 0 r.toNatClampNeg - i).toInt = (I 14 0 r.toNatClampNeg).toInt - i.toInt := i32_sub (by omega)
  have q3 : ¬ (I 14 0 r.toNatClampNeg - i).toInt < n.toInt := fun z => q3 (lt_t.mpr z)
  omega
noncomputable def ccW : List aR := [(0, (0, 0), (13, 13)), (12, (0, 0), (0, 5)), (29, (0, 5), (0, 39))]
set_option maxHeartbeats 4000000 in
theorem hK_copy : aKP aGI 72 ([(2, 0, (0, 0)), (0, 0, ((-2147483648), 2147483647)), (0, 0, ((-2147483648), 2147483647)), (0, 0, ((-2147483648), 2147483647)), (0, 0, ((-2147483648), 2147483647)), (0, 0, ((-2147483648), 2147483647))], (1, ((-3), 1)), ccW, 9) := by
  intro d hd as I0 L0 has hG k hk
  obtain ⟨d, rfl⟩ : ∃ d', d = d' + 1 := ⟨d - 1, by simp at hd; omega⟩
  have hd : 8 ≤ d := by simp at hd; omega
  have hd1 : 1 ≤ d := by omega
  dsimp only at hk
  match as, has with
  | [.inr (g0, n0), .inl (.inl r), .inl (.inl i), .inl (.inl to), .inl (.inl j), .inl (.inl n)], has =>
    obtain ⟨⟨-, e1, e2, e3⟩, -⟩ := has
    dsimp only at e1 e2 e3
    obtain rfl : n0 = 0 := by omega
    subst e1
    have bad : k (some (.inl (.inl (-1)))) (I0, L0) := hk _ _ _ hG gR_rf ⟨-1, rfl, by decide, by decide⟩
    have fnd : ∀ (I' : Nat → Nat → Nat → Int32), gG aGI I' → gR cfW I0 L0 I' L0 → k (some (.inl (.inl (-3)))) (I', L0) := fun I' g1 g2 => hk _ _ _ g1 (gR_in (by decide) g2) ⟨-3, rfl, by decide, by decide⟩
    refine jWB_run [] 100 ?_
    conv => whnf
    refine hd_names hd1 (fun a b => ?_) (fun _ => ?_)
    · conv => whnf
      refine ⟨fun h => absurd h (by decide), fun _ => ?_⟩
      conv => whnf
      refine hd_names hd1 (fun a2 b2 => ?_) (fun _ => ?_)
      · conv => whnf
        refine ⟨fun _ => ?_, fun h => absurd h (by decide)⟩
        have nr := cl_t a
        have nt := cl_t a2
        conv => whnf
        refine ⟨fun hn => ?_, fun hn => ?_⟩
        · rw [le_t] at hn
          have hn : 0 ≤ n.toInt := by simpa using hn
          conv => whnf
          refine hd_isThere hd1 a b ?_ ?_
          · conv => whnf
            refine ⟨fun h => absurd h (by decide), fun _ => ?_⟩
            conv => whnf
            refine hd_isThere hd1 a2 b2 ?_ ?_
            · conv => whnf
              refine ⟨fun _ => ?_, fun h => absurd h (by decide)⟩
              conv => whnf
              refine hd_hasPlaces hd1 hG a b (fun h1 h2 => ?_) ?_
              · conv => whnf
                refine ⟨fun h => absurd h (by decide), fun _ => ?_⟩
                conv => whnf
                refine hd_hasPlaces hd1 hG a2 b2 (fun h3 h4 => ?_) ?_
                · conv => whnf
                  refine ⟨fun _ => ?_, fun h => absurd h (by decide)⟩
                  conv => whnf
                  obtain ⟨d, rfl⟩ : ∃ d', d = d' + 1 := ⟨d - 1, by omega⟩
                  have ni := cl_t h1
                  have nj := cl_t h3
                  have nn := cl_t hn
                  refine jWB_run [] 60 ?_
                  conv => whnf
                  refine ⟨vp_in_iff.mpr (by omega), ?_⟩
                  conv => whnf
                  refine ⟨vp_in_iff.mpr (by omega), ?_⟩
                  conv => whnf
                  refine ⟨⟨fun z => ?_, fun z => ?_, fun z => ?_, by omega, by omega⟩, ?_⟩
                  · rw [lt_t] at z; simp at z; omega
                  · rw [lt_t] at z; simp at z; omega
                  · rw [lt_t] at z; simp at z; omega
                  conv => whnf
                  refine hk _ _ _ (fun e he x y c1 c2 c3 c4 => ?_) (fun g x y hw => ⟨?_, rfl⟩) ⟨1, rfl, by decide, by decide⟩
                  · have : ∀ e ∈ aGI, e.1 ≠ 29 := by decide
                    unfold jcpy
                    rw [if_neg (fun q => this e he q.1)]
                    exact hG e he x y c1 c2 c3 c4
                  · unfold jcpy
                    rw [if_neg (fun q => hw ⟨(29, (0, 5), (0, 39)), by decide, q.1.symm, by simp, ?_, by simp, ?_⟩)]
                    · have := q.2.1
                      simp only at this ⊢
                      omega
                    · have := q.2.2
                      simp only
                      omega
                · conv => whnf
                  exact ⟨fun h => absurd rfl h, fun _ => hd_cfind hd1 (by decide) (by decide) hG fnd⟩
              · conv => whnf
                exact ⟨fun _ => hd_cfind hd1 (by decide) (by decide) hG fnd, fun h => absurd rfl h⟩
            · conv => whnf
              exact ⟨fun h => absurd rfl h, fun _ => hd_cfind hd1 (by decide) (by decide) hG fnd⟩
          · conv => whnf
            exact ⟨fun _ => hd_cfind hd1 (by decide) (by decide) hG fnd, fun h => absurd rfl h⟩
        · conv => whnf
          exact hd_cfind hd1 (by decide) (by decide) hG fnd
      · conv => whnf
        exact ⟨fun h => absurd rfl h, fun h => bad⟩
    · conv => whnf
      exact ⟨fun h => bad, fun h => absurd rfl h⟩
