noncomputable def mcW : List aR := [(31, (0, 0), (13, 13)), (39, (0, 0), (0, 5)), (36, (0, 0), (0, 239))]
theorem mcW36 : (36, (0, 0), (0, 239)) ∈ mcW := by decide
set_option maxHeartbeats 4000000 in
theorem hK_mcopy : aKP aGI 137 ([(2, 31, (0, 0)), (0, 0, ((-2147483648), 2147483647)), (0, 0, ((-2147483648), 2147483647)), (0, 0, ((-2147483648), 2147483647)), (0, 0, ((-2147483648), 2147483647)), (0, 0, ((-2147483648), 2147483647))], (1, ((-3), 1)), mcW, 9) := by
  intro d hd as I0 L0 has hG k hk
  obtain ⟨d, rfl⟩ : ∃ d', d = d' + 1 := ⟨d - 1, by simp at hd; omega⟩
  have hd : 8 ≤ d := by simp at hd; omega
  dsimp only at hk
  match as, has with
  | [.inr (g0, n0), .inl (.inl r), .inl (.inl i), .inl (.inl to), .inl (.inl j), .inl (.inl n)], has =>
    obtain ⟨⟨-, e1, e2, e3⟩, -⟩ := has
    dsimp only at e1 e2 e3
    obtain rfl : n0 = 0 := by omega
    subst e1
    have bad : k (some (.inl (.inl (-1)))) (I0, L0) := hk _ _ _ hG gR_rf ⟨-1, rfl, by decide, by decide⟩
    have fnd : ∀ (I' : Nat → Nat → Nat → Int32), gG aGI I' → gR mfW I0 L0 I' L0 → k (some (.inl (.inl (-3)))) (I', L0) := fun I' g1 g2 => hk _ _ _ g1 (gR_in (by decide) g2) ⟨-3, rfl, by decide, by decide⟩
    refine jWB_run [96] 100 ?_
    conv => whnf
    refine hd_isRow (Nat.le_trans (by decide) hd) (fun a b => ?_) (fun _ => ?_)
    · conv => whnf
      refine ⟨fun h => absurd h (by decide), fun _ => ?_⟩
      conv => whnf
      refine hd_isRow (Nat.le_trans (by decide) hd) (fun a2 b2 => ?_) (fun _ => ?_)
      · conv => whnf
        refine ⟨fun _ => ?_, fun h => absurd h (by decide)⟩
        conv => whnf
        refine ⟨fun hn => ?_, fun hn => ?_⟩
        · rw [le_t] at hn
          have hn : 0 ≤ n.toInt := by simpa using hn
          have nr := cl_t a
          have nt := cl_t a2
          conv => whnf
          refine ⟨vp_in_iff.mpr (by omega), ?_⟩
          conv => whnf
          refine ⟨fun q => ?_, fun q => ?_⟩
          · conv => whnf
            exact hd_find (Nat.le_trans (by decide) hd) (by decide) (by decide) hG fnd
          conv => whnf
          refine ⟨vp_in_iff.mpr (by omega), ?_⟩
          conv => whnf
          refine ⟨fun q => ?_, fun q => ?_⟩
          · conv => whnf
            have two : ∀ I L, I = I0 → L = L0 → jWB (jWPM d) k none (jco 137) (74, [some (.inr (31, 0)), some (.inl (.inl r)), some (.inl (.inl i)), some (.inl (.inl to)), some (.inl (.inl j)), some (.inl (.inl n)), none, none, none], [], I, L) := by
              intro I L e1 e2
              subst e1; subst e2
              refine jWB_run [] 20 ?_
              conv => whnf
              exact hd_find (Nat.le_trans (by decide) hd) (by decide) (by decide) hG fnd
            refine hd_isSpan (Nat.le_trans (by decide) hd) a b (fun h1 h2 => ?_) ?_
            · conv => whnf
              refine ⟨fun h => absurd h (by decide), fun _ => ?_⟩
              conv => whnf
              refine hd_isSpan (Nat.le_trans (by decide) hd) a2 b2 (fun h3 h4 => ?_) ?_
              · conv => whnf
                refine ⟨fun _ => ?_, fun h => absurd h (by decide)⟩
                have s1 := gi_rows hG (j := r.toNatClampNeg) (by omega)
                have s2 := gi_rows hG (j := to.toNatClampNeg) (by omega)
                have loop : ∀ (N : Nat) (ba x : Int32) (e8 : Option jV) (I : Nat → Nat → Nat → Int32), n.toInt - x.toInt ≤ (N : Int) → 0 ≤ x.toInt → gG aGI I → gR mcW I0 L0 I L0 → jWB (jWPM d) k none (jco 137) (96, [some (.inr (31, 0)), some (.inl (.inl r)), some (.inl (.inl i)), some (.inl (.inl to)), some (.inl (.inl j)), some (.inl (.inl n)), some (.inl (.inl ba)), some (.inl (.inl x)), e8], [], I, L0) := by
                  intro N
                  induction N with
                  | zero =>
                    intro ba x e8 I c1 c2 c3 c4
                    refine jWB_run [96] 60 ?_
                    conv => whnf
                    refine ⟨fun q => hk _ _ _ c3 c4 ⟨1, rfl, by decide, by decide⟩, fun q => ?_⟩
                    rw [le_t] at q; exfalso; omega
                  | succ N ih =>
                    intro ba x e8 I c1 c2 c3 c4
                    have body : n.toInt > x.toInt → ∀ y : Int32, 0 ≤ y.toInt → y.toInt < n.toInt → jWB (jWPM d) k none (jco 137) (122, [some (.inr (31, 0)), some (.inl (.inl r)), some (.inl (.inl i)), some (.inl (.inl to)), some (.inl (.inl j)), some (.inl (.inl n)), some (.inl (.inl ba)), some (.inl (.inl x)), some (.inl (.inl y))], [], I, L0) := by
                      intro hx y y0 y1
                      have ex : (x + 1).toInt = x.toInt + 1 := by rw [i32_add (by simp; omega)]; simp
                      have f1 : (40 * to).toInt = 40 * to.toInt := by rw [i32_mul (by simp; omega)]; simp
                      have f2 : (40 * to + j).toInt = 40 * to.toInt + j.toInt := by rw [i32_add (by rw [f1]; omega), f1]
                      have f3 : (40 * to + j + y).toInt = 40 * to.toInt + j.toInt + y.toInt := by rw [i32_add (by rw [f2]; omega), f2]
                      have f4 : (40 * r).toInt = 40 * r.toInt := by rw [i32_mul (by simp; omega)]; simp
                      have f5 : (40 * r + i).toInt = 40 * r.toInt + i.toInt := by rw [i32_add (by rw [f4]; omega), f4]
                      have f6 : (40 * r + i + y).toInt = 40 * r.toInt + i.toInt + y.toInt := by rw [i32_add (by rw [f5]; omega), f5]
                      have nf := cl_t (x := 40 * to + j + y) (by omega)
                      refine jWB_run [96] 60 ?_
                      conv => whnf
                      refine ⟨vp_in_iff.mpr (by omega), ?_⟩
                      conv => whnf
                      refine ⟨vp_in_iff.mpr (by omega), ?_⟩
                      exact ih ba (x + 1) _ _ (by omega) (by omega) (gG_up c3 (by decide)) (gR_w c4 mcW36 (by omega) (by omega))
                    refine jWB_run [96, 122] 60 ?_
                    conv => whnf
                    refine ⟨fun q => hk _ _ _ c3 c4 ⟨1, rfl, by decide, by decide⟩, fun q => ?_⟩
                    rw [le_t] at q
                    have en : (n - 1).toInt = n.toInt - 1 := by rw [i32_sub (by simp; omega)]; simp
                    have en2 : (n - 1 - x).toInt = n.toInt - 1 - x.toInt := by rw [i32_sub (by rw [en]; omega), en]
                    conv => whnf
                    refine ⟨fun _ => body (by omega) x (by omega) (by omega), fun _ => body (by omega) (n - 1 - x) (by omega) (by omega)⟩
                conv => whnf
                refine ⟨fun _ => loop n.toInt.toNat 0 0 _ I0 (by show n.toInt - 0 ≤ _; omega) (by decide) hG gR_rf, fun _ => loop n.toInt.toNat 1 0 _ I0 (by show n.toInt - 0 ≤ _; omega) (by decide) hG gR_rf⟩
              · conv => whnf
                exact ⟨fun h => absurd rfl h, fun _ => hd_find (Nat.le_trans (by decide) hd) (by decide) (by decide) hG fnd⟩
            · conv => whnf
              exact ⟨fun _ => hd_find (Nat.le_trans (by decide) hd) (by decide) (by decide) hG fnd, fun h => absurd rfl h⟩
          · conv => whnf
            exact hd_find (Nat.le_trans (by decide) hd) (by decide) (by decide) hG fnd
        · conv => whnf
          exact hd_find (Nat.le_trans (by decide) hd) (by decide) (by decide) hG fnd
      · conv => whnf
        exact ⟨fun h => absurd rfl h, fun h => bad⟩
    · conv => whnf
      exact ⟨fun h => bad, fun h => absurd rfl h⟩
