theorem gG_upn {I : Nat → Nat → Nat → Int32} {g i j : Nat} {x : Int32} (h : gG aGI I) (hn : ∀ e ∈ aGI, ¬ (e.1 = g ∧ e.2.2.1.1 ≤ (j : Int) ∧ (j : Int) ≤ e.2.2.1.2)) : gG aGI (jup I g i j x) := fun e he i' j' a1 a2 a3 a4 => by
  rw [jup_of (fun q => hn e he ⟨q.1, by rw [← q.2.2]; exact ⟨a3, a4⟩⟩)]
  exact h e he i' j' a1 a2 a3 a4
theorem gG_up1 {I : Nat → Nat → Nat → Int32} {g i j : Nat} {x : Int32} (h : gG aGI I) (hn : ∀ e ∈ aGI, e.1 = g → e.2.2.1.1 ≤ (j : Int) → (j : Int) ≤ e.2.2.1.2 → e.2.2.2.1 ≤ x.toInt ∧ x.toInt ≤ e.2.2.2.2) : gG aGI (jup I g i j x) := fun e he i' j' a1 a2 a3 a4 => by
  by_cases q : e.1 = g ∧ i' = i ∧ j' = j
  · have : jup I g i j x e.1 i' j' = x := by unfold jup; rw [if_pos q]
    rw [this]
    exact hn e he q.1 (by rw [← q.2.2]; exact a3) (by rw [← q.2.2]; exact a4)
  · rw [jup_of q]
    exact h e he i' j' a1 a2 a3 a4
noncomputable def rd (I : Nat → Nat → Nat → Int32) : Prop := 0 ≤ (I 31 0 15).toInt ∧ (I 31 0 15).toInt ≤ 180 ∧ (I 31 0 17).toInt ≤ 60 ∧ 0 ≤ (I 31 0 16).toInt ∧ (I 31 0 16).toInt ≤ (I 31 0 17).toInt
noncomputable def oP (I I' : Nat → Nat → Nat → Int32) : Prop := (∀ g i j, ¬ (g = 31 ∧ i = 0 ∧ j = 16) → I' g i j = I g i j) ∧ (I 31 0 16).toInt ≤ (I' 31 0 16).toInt ∧ (I' 31 0 16).toInt ≤ (I 31 0 17).toInt
theorem oP_rf {I : Nat → Nat → Nat → Int32} (h : rd I) : oP I I := ⟨fun _ _ _ _ => rfl, Int.le_refl _, h.2.2.2.2⟩
theorem oP_rd {I I' : Nat → Nat → Nat → Int32} (h : rd I) (o : oP I I') : rd I' := by
  have e1 := o.1 31 0 15 (by decide)
  have e2 := o.1 31 0 17 (by decide)
  obtain ⟨a, b, c, d, e⟩ := h
  obtain ⟨-, p, q⟩ := o
  unfold rd
  rw [e1, e2]
  exact ⟨a, b, c, by omega, by omega⟩
theorem oP_tr {I I' I'' : Nat → Nat → Nat → Int32} (o : oP I I') (p : oP I' I'') : oP I I'' := by
  have e2 := o.1 31 0 17 (by decide)
  obtain ⟨a, b, c⟩ := o
  obtain ⟨a', b', c'⟩ := p
  refine ⟨fun g i j h => (a' g i j h).trans (a g i j h), by omega, by rw [← e2]; exact c'⟩
theorem oP_gG {I I' : Nat → Nat → Nat → Int32} (h : gG aGI I) (o : oP I I') : gG aGI I' := fun e he i j a1 a2 a3 a4 => by
  rw [o.1 e.1 i j (fun q => ?_)]
  · exact h e he i j a1 a2 a3 a4
  · obtain ⟨c1, c2, c3⟩ := q
    revert c1 a1 a2 a3 a4
    subst c2; subst c3
    revert e
    decide
theorem oP_up {I : Nat → Nat → Nat → Int32} {x : Int32} (h1 : (I 31 0 16).toInt ≤ x.toInt) (h2 : x.toInt ≤ (I 31 0 17).toInt) : oP I (jup I 31 0 16 x) := ⟨fun g i j q => jup_of q, by simpa [jup] using h1, by simpa [jup] using h2⟩
theorem hd_here {d : Nat} (hd : 1 ≤ d) {I : Nat → Nat → Nat → Int32} {L : Nat → Nat → Nat → Int64} {k : jK} (h : rd I) (hp : (I 31 0 16).toInt < (I 31 0 17).toInt) (hk : k (some (.inl (.inl (I 38 0 (I 31 0 15 + I 31 0 16).toNatClampNeg)))) (I, L)) : jWPM d 141 [.inr (31, 0)] (I, L) k := by
  obtain ⟨d, rfl⟩ : ∃ d', d = d' + 1 := ⟨d - 1, by omega⟩
  obtain ⟨h1, h2, h3, h4, h5⟩ := h
  refine jWB_run [] 20 ?_
  conv => whnf
  exact ⟨vp_in_iff.mpr (by rw [i32_add (by omega)]; omega), hk⟩
theorem hd_skip {d : Nat} (hd : 2 ≤ d) {I : Nat → Nat → Nat → Int32} {L : Nat → Nat → Nat → Int64} {k : jK} (h : rd I) (hk : ∀ I', oP I I' → k none (I', L)) : jWPM d 142 [.inr (31, 0)] (I, L) k := by
  obtain ⟨d, rfl⟩ : ∃ d', d = d' + 1 := ⟨d - 1, by omega⟩
  have hd : 1 ≤ d := by omega
  have loop : ∀ (N : Nat) (I' : Nat → Nat → Nat → Int32), (I' 31 0 17).toInt - (I' 31 0 16).toInt ≤ (N : Int) → oP I I' → jWB (jWPM d) k none (jco 142) (0, [some (.inr (31, 0))], [], I', L) := by
    intro N
    induction N with
    | zero =>
      intro I' h1 h2
      refine jWB_run [] 20 ?_
      conv => whnf
      refine ⟨fun q => hk _ h2, fun q => ?_⟩
      rw [le_t] at q; exfalso; omega
    | succ N ih =>
      intro I' h1 h2
      refine jWB_run [0] 20 ?_
      conv => whnf
      refine ⟨fun q => hk _ h2, fun q => ?_⟩
      rw [le_t] at q
      have hr := oP_rd h h2
      conv => whnf
      refine hd_here hd hr (by omega) ?_
      conv => whnf
      refine ⟨fun q => hk _ h2, fun q2 => ?_⟩
      obtain ⟨r1, r2, r3, r4, r5⟩ := hr
      have e : (I' 31 0 16 + 1).toInt = (I' 31 0 16).toInt + 1 := by rw [i32_add (by simp; omega)]; simp
      exact ih (jup I' 31 0 16 (I' 31 0 16 + 1)) (by show (I' 31 0 17).toInt - (I' 31 0 16 + 1).toInt ≤ _; omega) (oP_tr h2 (oP_up (by omega) (by omega)))
  exact loop ((I 31 0 17).toInt - (I 31 0 16).toInt).toNat I (by omega) (oP_rf h)
set_option maxHeartbeats 1000000 in
theorem hd_figure {d : Nat} (hd : 2 ≤ d) {I : Nat → Nat → Nat → Int32} {L : Nat → Nat → Nat → Int64} {k : jK} {lo hi : Int32} (h : rd I) (hl0 : 0 ≤ lo.toInt) (hl : lo.toInt ≤ 9) (hh0 : 0 ≤ hi.toInt) (hh : hi.toInt ≤ 9) (hk : ∀ I' v, oP I I' → (v = -9 ∨ (lo.toInt ≤ v.toInt ∧ v.toInt ≤ hi.toInt)) → k (some (.inl (.inl v))) (I', L)) : jWPM d 143 [.inr (31, 0), .inl (.inl lo), .inl (.inl hi)] (I, L) k := by
  obtain ⟨d, rfl⟩ : ∃ d', d = d' + 1 := ⟨d - 1, by omega⟩
  have hd : 1 ≤ d := by omega
  have hr := h
  obtain ⟨r1, r2, r3, r4, r5⟩ := hr
  refine jWB_run [] 60 ?_
  conv => whnf
  refine ⟨fun q => hk _ _ (oP_rf h) (Or.inl rfl), fun q => ?_⟩
  have hne : (I 31 0 16).toInt ≠ (I 31 0 17).toInt := fun e => q (Int32.toInt_inj.mp e)
  conv => whnf
  refine hd_here hd h (by omega) ?_
  conv => whnf
  have el : (48 + lo).toInt = 48 + lo.toInt := by rw [i32_add (by simp; omega)]; simp
  have eh : (48 + hi).toInt = 48 + hi.toInt := by rw [i32_add (by simp; omega)]; simp
  have e : (I 31 0 16 + 1).toInt = (I 31 0 16).toInt + 1 := by rw [i32_add (by simp; omega)]; simp
  have es : (I 31 0 15 + I 31 0 16).toInt = (I 31 0 15).toInt + (I 31 0 16).toInt := i32_add (by omega)
  have es2 : (I 31 0 15 + (I 31 0 16 + 1)).toInt = (I 31 0 15).toInt + (I 31 0 16).toInt + 1 := by rw [i32_add (by omega), e]; omega
  have es3 : I 31 0 15 + (I 31 0 16 + 1) - 1 = I 31 0 15 + I 31 0 16 := Int32.toInt_inj.mp (by rw [i32_sub (by rw [es2]; simp; omega), es2, es]; simp)
  refine hd_in hd (fun a b => ?_) (fun a => ?_)
  · rw [Int32.toInt_toInt64, Int32.toInt_toInt64] at a b
    rw [el] at a
    rw [eh] at b
    conv => whnf
    refine ⟨fun _ => ?_, fun h => absurd h (by decide)⟩
    conv => whnf
    have c1 : jup I 31 0 16 (I 31 0 16 + 1) 31 0 15 = I 31 0 15 := rfl
    have c2 : jup I 31 0 16 (I 31 0 16 + 1) 31 0 16 = I 31 0 16 + 1 := rfl
    have c3 : ∀ j, jup I 31 0 16 (I 31 0 16 + 1) 38 0 j = I 38 0 j := fun j => rfl
    rw [c1, c2, es3]
    refine ⟨vp_in_iff.mpr (by omega), ?_⟩
    conv => whnf
    rw [c3]
    refine hk _ _ (oP_up (by omega) (by omega)) (Or.inr ?_)
    rw [i32_sub (by simp; omega)]
    simp
    omega
  · conv => whnf
    exact ⟨fun h => absurd rfl h, fun _ => hk _ _ (oP_rf h) (Or.inl rfl)⟩
theorem hd_twoFigures {d : Nat} (hd : 3 ≤ d) {I : Nat → Nat → Nat → Int32} {L : Nat → Nat → Nat → Int64} {k : jK} (h : rd I) (hk : ∀ I' v, oP I I' → k (some (.inl (.inl v))) (I', L)) : jWPM d 144 [.inr (31, 0)] (I, L) k := by
  obtain ⟨d, rfl⟩ : ∃ d', d = d' + 1 := ⟨d - 1, by omega⟩
  have hd : 2 ≤ d := by omega
  refine jWB_run [] 60 ?_
  conv => whnf
  refine hd_figure hd h (by decide) (by decide) (by decide) (by decide) (fun I' v o1 hv => ?_)
  conv => whnf
  refine ⟨fun q => ?_, fun q => ?_⟩
  · conv => whnf
    refine hd_figure hd (oP_rd h o1) (by decide) (by decide) (by decide) (by decide) (fun I'' v o2 hv => ?_)
    conv => whnf
    exact ⟨fun q => hk _ _ (oP_tr o1 o2), fun q => hk _ _ (oP_tr o1 o2)⟩
  · conv => whnf
    exact ⟨fun q => hk _ _ o1, fun q => hk _ _ o1⟩
