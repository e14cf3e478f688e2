theorem i32_of {x : Int32} {n : Int} (h : x.toInt = n) (y : Int32) (hy : y.toInt = n) : x = y := Int32.toInt_inj.mp (by rw [h, hy])
theorem i32_cases5 {x : Int32} (h0 : 0 ≤ x.toInt) (h5 : x.toInt ≤ 5) : x = 0 ∨ x = 1 ∨ x = 2 ∨ x = 3 ∨ x = 4 ∨ x = 5 := by
  have h : x.toInt = 0 ∨ x.toInt = 1 ∨ x.toInt = 2 ∨ x.toInt = 3 ∨ x.toInt = 4 ∨ x.toInt = 5 := by omega
  rcases h with h | h | h | h | h | h
  · exact Or.inl (i32_of h 0 rfl)
  · exact Or.inr (Or.inl (i32_of h 1 rfl))
  · exact Or.inr (Or.inr (Or.inl (i32_of h 2 rfl)))
  · exact Or.inr (Or.inr (Or.inr (Or.inl (i32_of h 3 rfl))))
  · exact Or.inr (Or.inr (Or.inr (Or.inr (Or.inl (i32_of h 4 rfl)))))
  · exact Or.inr (Or.inr (Or.inr (Or.inr (Or.inr (i32_of h 5 rfl)))))
theorem bit_0 {i : Int32} (h0 : 0 ≤ i.toInt) (h5 : i.toInt ≤ 5) : ¬ ((0 : Int32) >>> (i &&& 31)) &&& 1 = 1 := by
  rcases i32_cases5 h0 h5 with h | h | h | h | h | h <;> subst h <;> decide
theorem bit_all {n : Int32} (h0 : 1 ≤ n.toInt) (h6 : n.toInt ≤ 6) : ∃ M : Int, 2 ≤ M ∧ M ≤ 64 ∧ ((1 : Int32) <<< (n &&& 31)).toInt = M ∧ ∀ g i : Int32, g.toInt = M - 1 → 0 ≤ i.toInt → i.toInt < n.toInt → (g >>> (i &&& 31)) &&& 1 = 1 := by
  have h : n.toInt = 1 ∨ n.toInt = 2 ∨ n.toInt = 3 ∨ n.toInt = 4 ∨ n.toInt = 5 ∨ n.toInt = 6 := by omega
  have key : ∀ (n' : Int32) (M : Int) (g' : Int32), n = n' → 2 ≤ M → M ≤ 64 → ((1 : Int32) <<< (n' &&& 31)).toInt = M → g'.toInt = M - 1 → (∀ i ∈ ([0, 1, 2, 3, 4, 5] : List Int32), i.toInt < n'.toInt → (g' >>> (i &&& 31)) &&& 1 = 1) → ∃ M : Int, 2 ≤ M ∧ M ≤ 64 ∧ ((1 : Int32) <<< (n &&& 31)).toInt = M ∧ ∀ g i : Int32, g.toInt = M - 1 → 0 ≤ i.toInt → i.toInt < n.toInt → (g >>> (i &&& 31)) &&& 1 = 1 := by
    intro n' M g' e a b c f q
    subst e
    refine ⟨M, a, b, c, fun g i hg hi1 hi2 => ?_⟩
    obtain rfl : g = g' := i32_of hg g' f
    refine q i ?_ hi2
    rcases i32_cases5 hi1 (by omega) with h | h | h | h | h | h <;> subst h <;> decide
  rcases h with h | h | h | h | h | h
  · exact key 1 2 1 (i32_of h 1 rfl) (by decide) (by decide) (by decide) (by decide) (by decide)
  · exact key 2 4 3 (i32_of h 2 rfl) (by decide) (by decide) (by decide) (by decide) (by decide)
  · exact key 3 8 7 (i32_of h 3 rfl) (by decide) (by decide) (by decide) (by decide) (by decide)
  · exact key 4 16 15 (i32_of h 4 rfl) (by decide) (by decide) (by decide) (by decide) (by decide)
  · exact key 5 32 31 (i32_of h 5 rfl) (by decide) (by decide) (by decide) (by decide) (by decide)
  · exact key 6 64 63 (i32_of h 6 rfl) (by decide) (by decide) (by decide) (by decide) (by decide)
theorem hd_has {d : Nat} (hd : 1 ≤ d) {g i : Int32} {I : Nat → Nat → Nat → Int32} {L : Nat → Nat → Nat → Int64} {k : jK} (h1 : (g >>> (i &&& 31)) &&& 1 = 1 → k (some (.inl (.inl 1))) (I, L)) (h0 : ¬ (g >>> (i &&& 31)) &&& 1 = 1 → k (some (.inl (.inl 0))) (I, L)) : jWPM d 125 [.inl (.inl g), .inl (.inl i)] (I, L) k := by
  obtain ⟨d, rfl⟩ : ∃ d', d = d' + 1 := ⟨d - 1, by omega⟩
  refine jWB_run [] 20 ?_
  conv => whnf
  refine ⟨fun h => ⟨Or.inl rfl, h0 h⟩, fun h => ⟨Or.inr rfl, h1 h⟩⟩
theorem i64_add' {x y : Int64} (h : -9223372036854775808 ≤ x.toInt + y.toInt ∧ x.toInt + y.toInt ≤ 9223372036854775807) : (x + y).toInt = x.toInt + y.toInt := by
  rw [Int64.toInt_add, bm64]; omega
set_option maxHeartbeats 4000000 in
theorem hd_tellThere {d : Nat} (hd : 9 ≤ d) {v p c : Int32} {I : Nat → Nat → Nat → Int32} {L : Nat → Nat → Nat → Int64} {k : jK} (hG : gG aGI I) (hp0 : 0 ≤ p.toInt) (hp12 : p.toInt ≤ 12) (hn : 1 ≤ (I 31 0 3).toInt) (hk : ∀ u v, k (some (.inl (.inl 1))) (I, jupL (jupL L 31 0 11 u) 31 0 12 v)) : jWPM d 204 [.inr (31, 0), .inl (.inl v), .inl (.inl p), .inl (.inl c)] (I, L) k := by
  obtain ⟨d, rfl⟩ : ∃ d', d = d' + 1 := ⟨d - 1, by omega⟩
  have hd : 8 ≤ d := by omega
  have hd1 : 1 ≤ d := by omega
  have hpk := gi_mpackets hG
  obtain ⟨M, hM2, hM64, hM, hbit⟩ := bit_all hn hpk.2
  have e12 : (12 - p).toInt = 12 - p.toInt := by rw [i32_sub (by simp; omega)]; simp
  have outer : ∀ (N : Nat) (a b : Int64) (g : Int32) (e9 e10 e11 e12 e13 : Option jV), M - g.toInt ≤ (N : Int) → 0 ≤ g.toInt → g.toInt ≤ M → 0 ≤ b.toInt → b.toInt ≤ g.toInt * 2985984 → (p.toInt < 12 → 1 ≤ g.toInt → 1 ≤ b.toInt) → (p.toInt = 12 → g.toInt = M → 1 ≤ b.toInt) → jWB (jWPM d) k none (jco 204) (9, [some (.inr (31, 0)), some (.inl (.inl v)), some (.inl (.inl p)), some (.inl (.inl c)), some (.inl (.inr a)), none, some (.inl (.inr b)), none, some (.inl (.inl g)), e9, e10, e11, e12, e13], [], I, L) := by
    have hexit : ∀ (a b : Int64) (g : Int32) (e9 e10 e11 e12 e13 : Option jV), g.toInt = M → 0 ≤ b.toInt → (p.toInt < 12 → 1 ≤ g.toInt → 1 ≤ b.toInt) → (p.toInt = 12 → g.toInt = M → 1 ≤ b.toInt) → jWB (jWPM d) k none (jco 204) (168, [some (.inr (31, 0)), some (.inl (.inl v)), some (.inl (.inl p)), some (.inl (.inl c)), some (.inl (.inr a)), none, some (.inl (.inr b)), none, some (.inl (.inl g)), e9, e10, e11, e12, e13], [], I, L) := by
      intro a b g e9 e10 e11 e12 e13 h1 h2 h3 h4
      have hb : 1 ≤ b.toInt := by
        rcases Int.lt_or_eq_of_le hp12 with h | h
        · exact h3 h (by omega)
        · exact h4 h h1
      refine jWB_run [] 20 ?_
      conv => whnf
      refine hd_tellParts hd1 (fun e => ?_) hk
      rw [e] at hb; exact absurd hb (by decide)
    intro N
    induction N with
    | zero =>
      intro a b g e9 e10 e11 e12 e13 h1 h2 h3 h4 h5 h6 h7
      refine jWB_run [9, 32, 168] 40 ?_
      conv => whnf
      refine ⟨fun h => hexit a b g e9 e10 e11 e12 e13 (by omega) h4 h6 h7, fun h => ?_⟩
      rw [le_t, hM] at h; exfalso; omega
    | succ N ih =>
      intro a b g e9 e10 e11 e12' e13 h1 h2 h3 h4 h5 h6 h7
      refine jWB_run [9, 32, 168] 40 ?_
      conv => whnf
      refine ⟨fun h => ?_, fun h => ?_⟩
      · rw [le_t, hM] at h
        exact hexit a b g e9 e10 e11 e12' e13 (by omega) h4 h6 h7
      rw [le_t, hM] at h
      have hg1 : (g + 1).toInt = g.toInt + 1 := by rw [i32_add (by simp; omega)]; simp
      have inner : ∀ (N : Nat) (w : Int64) (gr co i : Int32) (j : Nat), 6 - (j : Int) ≤ (N : Int) → i.toInt = (j : Int) → (j : Int) ≤ (I 31 0 3).toInt → 0 ≤ w.toInt → w.toInt ≤ (12 : Int) ^ j → (((p.toInt < 12 ∧ g.toInt = 0) ∨ (p.toInt = 12 ∧ g.toInt = M - 1)) → 1 ≤ w.toInt) → jWB (jWPM d) k none (jco 204) (32, [some (.inr (31, 0)), some (.inl (.inl v)), some (.inl (.inl p)), some (.inl (.inl c)), some (.inl (.inr a)), none, some (.inl (.inr b)), none, some (.inl (.inl g)), some (.inl (.inr w)), none, some (.inl (.inl gr)), some (.inl (.inl co)), some (.inl (.inl i))], [], I, L) := by
        have fin : ∀ (w : Int64) (gr co i : Int32), 0 ≤ w.toInt → w.toInt ≤ 2985984 → (((p.toInt < 12 ∧ g.toInt = 0) ∨ (p.toInt = 12 ∧ g.toInt = M - 1)) → 1 ≤ w.toInt) → jWB (jWPM d) k none (jco 204) (125, [some (.inr (31, 0)), some (.inl (.inl v)), some (.inl (.inl p)), some (.inl (.inl c)), some (.inl (.inr a)), none, some (.inl (.inr b)), none, some (.inl (.inl g)), some (.inl (.inr w)), none, some (.inl (.inl gr)), some (.inl (.inl co)), some (.inl (.inl i))], [], I, L) := by
          intro w gr co i w0 w1 w2
          have hbw : (b + w).toInt = b.toInt + w.toInt := i64_add' (by omega)
          have go : ∀ a' : Int64, jWB (jWPM d) k none (jco 204) (9, [some (.inr (31, 0)), some (.inl (.inl v)), some (.inl (.inl p)), some (.inl (.inl c)), some (.inl (.inr a')), none, some (.inl (.inr (b + w))), none, some (.inl (.inl (g + 1))), some (.inl (.inr w)), none, some (.inl (.inl gr)), some (.inl (.inl co)), some (.inl (.inl i))], [], I, L) := by
            intro a'
            refine ih a' (b + w) (g + 1) _ _ _ _ _ (by omega) (by omega) (by omega) (by omega) (by omega) (fun q1 q2 => ?_) (fun q1 q2 => ?_)
            · by_cases hg0 : g.toInt = 0
              · have := w2 (Or.inl ⟨q1, hg0⟩); omega
              · have := h6 q1 (by omega); omega
            · have := w2 (Or.inr ⟨q1, by omega⟩); omega
          refine jWB_run [9, 32, 168] 40 ?_
          conv => whnf
          refine ⟨fun q => ?_, fun q => ?_⟩
          · conv => whnf
            exact ⟨fun _ => go _, fun _ => go _⟩
          · exact go _
        intro N
        induction N with
        | zero =>
          intro w gr co i j i1 i2 i3 i4 i5 i6
          have hj : (12 : Int) ^ j ≤ 2985984 := by
            have : j = 6 := by omega
            subst this; decide
          refine jWB_run [9, 32, 125, 168] 60 ?_
          conv => whnf
          refine ⟨fun q => fin w gr co i i4 (by omega) i6, fun q => ?_⟩
          rw [le_t] at q; exfalso; omega
        | succ N ihi =>
          intro w gr co i j i1 i2 i3 i4 i5 i6
          have hj : ∀ j : Nat, (j : Int) ≤ 6 → (12 : Int) ^ j ≤ 2985984 := by
            intro j hj
            have : j = 0 ∨ j = 1 ∨ j = 2 ∨ j = 3 ∨ j = 4 ∨ j = 5 ∨ j = 6 := by omega
            rcases this with h | h | h | h | h | h | h <;> subst h <;> decide
          refine jWB_run [9, 32, 66, 125, 168] 60 ?_
          conv => whnf
          have hj6 := hj j (by omega)
          refine ⟨fun q => fin w gr co i i4 (by omega) i6, fun q => ?_⟩
          rw [le_t] at q
          have hi1 : (i + 1).toInt = i.toInt + 1 := by rw [i32_add (by simp; omega)]; simp
          have step : ∀ (f : Int64) (gr' co' : Int32), 0 ≤ f.toInt → f.toInt ≤ 12 → (((p.toInt < 12 ∧ g.toInt = 0) ∨ (p.toInt = 12 ∧ g.toInt = M - 1)) → 1 ≤ f.toInt) → jWB (jWPM d) k none (jco 204) (32, [some (.inr (31, 0)), some (.inl (.inl v)), some (.inl (.inl p)), some (.inl (.inl c)), some (.inl (.inr a)), none, some (.inl (.inr b)), none, some (.inl (.inl g)), some (.inl (.inr (w * f))), none, some (.inl (.inl gr')), some (.inl (.inl co')), some (.inl (.inl (i + 1)))], [], I, L) := by
            intro f gr' co' f0 f1 f2
            have m0 : 0 ≤ w.toInt * f.toInt := Int.mul_nonneg i4 f0
            have m1 : w.toInt * f.toInt ≤ (12 : Int) ^ j * 12 := Int.mul_le_mul i5 f1 f0 (by omega)
            have hwf : (w * f).toInt = w.toInt * f.toInt := i64_mul (by omega)
            refine ihi (w * f) gr' co' (i + 1) (j + 1) (by omega) (by omega) (by omega) (by omega) (by rw [hwf, Int.pow_succ]; exact m1) (fun q => ?_)
            rw [hwf]
            have := Int.mul_le_mul (i6 q) (f2 q) (by omega) i4
            omega
          conv => whnf
          have third : ∀ (f : Int64) (gr' : Int32), 0 ≤ f.toInt → f.toInt ≤ 12 → (((p.toInt < 12 ∧ g.toInt = 0) ∨ (p.toInt = 12 ∧ g.toInt = M - 1)) → 1 ≤ f.toInt) → jWB (jWPM d) k none (jco 204) (92, [some (.inr (31, 0)), some (.inl (.inl v)), some (.inl (.inl p)), some (.inl (.inl c)), some (.inl (.inr a)), none, some (.inl (.inr b)), none, some (.inl (.inl g)), some (.inl (.inr (w * f))), none, some (.inl (.inl gr')), some (.inl (.inl co)), some (.inl (.inl i))], [], I, L) := by
            intro f gr' f0 f1 f2
            refine jWB_run [9, 32, 125, 168] 60 ?_
            conv => whnf
            refine hd_has hd1 (fun q => ?_) (fun q => ?_)
            · conv => whnf
              refine ⟨fun h => absurd h (by decide), fun h => step f gr' _ f0 f1 f2⟩
            · conv => whnf
              refine ⟨fun h => ?_, fun h => absurd rfl h⟩
              conv => whnf
              refine use_c cT135 (Nat.le_trans (by decide) hd) ⟨⟨rfl, rfl, by simp, by simp⟩, ⟨rfl, by decide, by decide⟩, ⟨rfl, by simp only; omega, by simp only; omega⟩, ⟨rfl, by decide, by decide⟩, trivial⟩ hG (fun v I' L' r1 r2 r3 => ?_)
              obtain ⟨rfl, rfl⟩ := gR_nil r2
              obtain ⟨x, rfl, r4, r5⟩ := r3
              exact step f gr' _ f0 f1 f2
          have second : ∀ (f : Int64), 0 ≤ f.toInt → f.toInt ≤ 12 → (((p.toInt < 12 ∧ g.toInt = 0) ∨ (p.toInt = 12 ∧ g.toInt = M - 1)) → 1 ≤ f.toInt) → jWB (jWPM d) k none (jco 204) (66, [some (.inr (31, 0)), some (.inl (.inl v)), some (.inl (.inl p)), some (.inl (.inl c)), some (.inl (.inr a)), none, some (.inl (.inr b)), none, some (.inl (.inl g)), some (.inl (.inr (w * f))), none, some (.inl (.inl gr)), some (.inl (.inl co)), some (.inl (.inl i))], [], I, L) := by
            intro f f0 f1 f2
            refine jWB_run [9, 32, 92, 125, 168] 60 ?_
            conv => whnf
            refine hd_has hd1 (fun q => ?_) (fun q => ?_)
            · conv => whnf
              refine ⟨fun h => absurd h (by decide), fun h => third f _ f0 f1 f2⟩
            · conv => whnf
              refine ⟨fun h => ?_, fun h => absurd rfl h⟩
              conv => whnf
              refine use_c cT138 (Nat.le_trans (by decide) hd) ⟨⟨rfl, rfl, by simp, by simp⟩, ⟨rfl, by decide, by decide⟩, ⟨rfl, by simp only; omega, by simp only; omega⟩, trivial⟩ hG (fun v I' L' r1 r2 r3 => ?_)
              obtain ⟨rfl, rfl⟩ := gR_nil r2
              obtain ⟨x, rfl, r4, r5⟩ := r3
              exact third f _ f0 f1 f2
          refine hd_has hd1 (fun q => ?_) (fun q => ?_)
          · conv => whnf
            refine ⟨fun h => absurd h (by decide), fun h => ?_⟩
            refine second p.toInt64 (by rw [Int32.toInt_toInt64]; omega) (by rw [Int32.toInt_toInt64]; omega) (fun z => ?_)
            rw [Int32.toInt_toInt64]
            rcases z with z | z
            · exfalso
              obtain rfl : g = 0 := i32_of z.2 0 rfl
              exact bit_0 (by omega) (by omega) q
            · omega
          · conv => whnf
            refine ⟨fun h => ?_, fun h => absurd rfl h⟩
            refine second (12 - p).toInt64 (by rw [Int32.toInt_toInt64]; omega) (by rw [Int32.toInt_toInt64]; omega) (fun z => ?_)
            rw [Int32.toInt_toInt64]
            rcases z with z | z
            · omega
            · exact absurd (hbit g i z.2 (by omega) (by omega)) q
      exact inner 6 1 0 0 0 0 (by decide) (by decide) (by omega) (by decide) (by decide) (fun _ => by decide)
  refine jWB_run [9] 20 ?_
  refine outer 64 0 0 0 _ _ _ _ _ (by simp; omega) (by decide) (by simp; omega) (by decide) (by decide) (fun _ h => absurd h (by decide)) (fun _ h => ?_)
  have h : (0 : Int) = M := h
  omega
theorem gR_parts {I : Nat → Nat → Nat → Int32} {L : Nat → Nat → Nat → Int64} {u v : Int64} : gR [(31, (0, 0), (11, 12))] I L I (jupL (jupL L 31 0 11 u) 31 0 12 v) := gR_upL (gR_upL gR_rf ⟨_, List.mem_cons_self, rfl, by simp, by simp, by simp, by simp⟩) ⟨_, List.mem_cons_self, rfl, by simp, by simp, by simp, by simp⟩
set_option maxHeartbeats 1000000 in
theorem hK_mmid : aKP aGI 206 ([(2, 31, (0, 0)), (0, 0, ((-2147483648), 2147483647))], (1, ((-4), 1)), [(31, (0, 0), (11, 12))], 10) := by
  intro d hd as I0 L0 has hG k hk
  obtain ⟨d, rfl⟩ : ∃ d', d = d' + 1 := ⟨d - 1, by simp at hd; omega⟩
  have hd : 9 ≤ d := by simp at hd; omega
  dsimp only at hk
  match as, has with
  | [.inr (g0, n0), .inl (.inl p)], has =>
    obtain ⟨⟨-, e1, e2, e3⟩, -⟩ := has
    dsimp only at e1 e2 e3
    obtain rfl : n0 = 0 := by omega
    subst e1
    have hp := gi_mpackets hG
    refine jWB_run [] 40 ?_
    conv => whnf
    refine hd_in (Nat.le_trans (by decide) hd) (fun a b => ?_) (fun a => ?_)
    · rw [Int32.toInt_toInt64] at a b
      conv => whnf
      refine ⟨fun _ => ?_, fun h => absurd h (by decide)⟩
      conv => whnf
      refine ⟨fun h => ?_, fun h => hk _ _ _ hG gR_rf ⟨-4, rfl, by decide, by decide⟩⟩
      conv => whnf
      have hn : (I0 31 0 3).toInt ≠ 0 := fun e => h (i32_of e 0 rfl)
      refine hd_tellThere (Nat.le_trans (by decide) hd) hG (by simpa using a) (by simpa using b) (by omega) (fun u v => ?_)
      exact hk _ _ _ hG gR_parts ⟨1, rfl, by decide, by decide⟩
    · conv => whnf
      refine ⟨fun h => absurd rfl h, fun h => hk _ _ _ hG gR_rf ⟨-1, rfl, by decide, by decide⟩⟩
set_option maxHeartbeats 1000000 in
theorem hK_modds : aKP aGI 205 ([(2, 31, (0, 0)), (0, 0, ((-2147483648), 2147483647)), (0, 0, ((-2147483648), 2147483647))], (1, ((-4), 1)), [(31, (0, 0), (11, 12))], 10) := by
  intro d hd as I0 L0 has hG k hk
  obtain ⟨d, rfl⟩ : ∃ d', d = d' + 1 := ⟨d - 1, by simp at hd; omega⟩
  have hd : 9 ≤ d := by simp at hd; omega
  dsimp only at hk
  match as, has with
  | [.inr (g0, n0), .inl (.inl v), .inl (.inl p)], has =>
    obtain ⟨⟨-, e1, e2, e3⟩, -⟩ := has
    dsimp only at e1 e2 e3
    obtain rfl : n0 = 0 := by omega
    subst e1
    have hp := gi_mpackets hG
    refine jWB_run [] 40 ?_
    conv => whnf
    refine hd_in (Nat.le_trans (by decide) hd) (fun _ _ => ?_) (fun _ => ?_)
    · conv => whnf
      refine ⟨fun h => absurd h (by decide), fun _ => ?_⟩
      conv => whnf
      refine hd_in (Nat.le_trans (by decide) hd) (fun a b => ?_) (fun a => ?_)
      · rw [Int32.toInt_toInt64] at a b
        conv => whnf
        refine ⟨fun _ => ?_, fun h => absurd h (by decide)⟩
        conv => whnf
        refine ⟨fun h => ?_, fun h => hk _ _ _ hG gR_rf ⟨-4, rfl, by decide, by decide⟩⟩
        conv => whnf
        have hn : (I0 31 0 3).toInt ≠ 0 := fun e => h (i32_of e 0 rfl)
        refine hd_tellThere (Nat.le_trans (by decide) hd) hG (by simpa using a) (by simpa using b) (by omega) (fun u v => ?_)
        exact hk _ _ _ hG gR_parts ⟨1, rfl, by decide, by decide⟩
      · conv => whnf
        refine ⟨fun h => absurd rfl h, fun h => hk _ _ _ hG gR_rf ⟨-1, rfl, by decide, by decide⟩⟩
    · conv => whnf
      refine ⟨fun h => hk _ _ _ hG gR_rf ⟨-1, rfl, by decide, by decide⟩, fun h => absurd rfl h⟩
