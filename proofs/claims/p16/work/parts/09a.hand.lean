theorem cmpI_0 {a b : Int} : cmpI a b = 0 ↔ a = b := (hop_q .eq a b).symm
theorem i64_ne {x y : Int64} (h : ¬ lg_cmp x y = 0) : ¬ x = y := fun e => h (by rw [cmp_lg, e]; exact cmpI_0.mpr rfl)
theorem hd_commonDivisor (I : Nat → Nat → Nat → Int32) (L : Nat → Nat → Nat → Int64) (k : jK) (d : Nat) (a b : Int64) (hk : ∀ x : Int64, k (some (.inl (.inr x))) (I, L)) : ∀ (N : Nat) (x y : Int64) (s : Int32) (u : Option jV), (200 - s.toInt) ≤ (N : Int) → jWB (jWPM d) k none (jco 117) (9, [some (.inl (.inr a)), none, some (.inl (.inr b)), none, some (.inl (.inr x)), none, some (.inl (.inr y)), none, some (.inl (.inl s)), u, none], [], I, L) := by
  intro N
  induction N with
  | zero =>
    intro x y s u hs
    refine jWB_run [9] 30 ?_
    conv => whnf
    refine ⟨fun h => ?_, fun h => ?_⟩
    · exact hk x
    · exfalso
      have := fun e => h (Int32.le_iff_toInt_le.mpr e)
      simp at this
      omega
  | succ N ih =>
    intro x y s u hs
    refine jWB_run [9] 30 ?_
    conv => whnf
    refine ⟨fun h => ?_, fun h => ?_⟩
    · exact hk x
    · conv => whnf
      refine ⟨fun h2 => ?_, fun h2 => ?_⟩
      · exact hk x
      · conv => whnf
        refine ⟨i64_ne h2, ?_⟩
        have hlt : s.toInt < 200 := by
          have := fun e => h (Int32.le_iff_toInt_le.mpr e)
          simp at this
          omega
        have h0 := i32_rng s
        refine ih y (x - x / y * y) (s + 1) _ ?_
        rw [i32_add (by simp; omega)]
        simp
        omega
theorem hK_commonDivisor : aKP aGI 117 ([(1, 0, ((-9223372036854775808), 9223372036854775807)), (1, 0, ((-9223372036854775808), 9223372036854775807))], (2, ((-9223372036854775808), 9223372036854775807)), [], 1) := by
  intro d hd as I L has hG k hk
  obtain ⟨d', rfl⟩ : ∃ d', d = d' + 1 := ⟨d - 1, by simp at hd; omega⟩
  match as, has with
  | [.inl (.inr a), .inl (.inr b)], has =>
    refine jWB_run [9] 30 ?_
    refine hd_commonDivisor I L k d' a b (fun x => hk _ _ _ hG gR_rf ⟨x, rfl, i64_rng x⟩) 200 a b 0 _ (by decide)
theorem use_c {m : Nat} {c : aK} (h : aKP aGI m c) {d : Nat} {as : List jV} {I : Nat → Nat → Nat → Int32} {L : Nat → Nat → Nat → Int64} {k : jK} (hd : c.2.2.2 ≤ d) (has : aAs c.1 as) (hG : gG aGI I) (hk : ∀ v I' L', gG aGI I' → gR c.2.2.1 I L I' L' → aRv c.2.1 v → k v (I', L')) : jWPM d m as (I, L) k := h d hd as I L has hG k hk
theorem gR_nil {I I' : Nat → Nat → Nat → Int32} {L L' : Nat → Nat → Nat → Int64} (h : gR [] I L I' L') : I' = I ∧ L' = L := ⟨funext fun g => funext fun i => funext fun j => (h g i j (fun ⟨_, hr, _⟩ => by cases hr)).1, funext fun g => funext fun i => funext fun j => (h g i j (fun ⟨_, hr, _⟩ => by cases hr)).2⟩
theorem gR_upL {W : List aR} {I0 I : Nat → Nat → Nat → Int32} {L0 L : Nat → Nat → Nat → Int64} {g i j : Nat} {x : Int64} (h : gR W I0 L0 I L) (hw : gI W g i j) : gR W I0 L0 I (jupL L g i j x) := fun g' i' j' hn => by
  rw [jupL_of (fun ⟨a, b, c⟩ => hn (by rw [a, b, c]; exact hw))]
  exact h g' i' j' hn
theorem gR_upI {W : List aR} {I0 I : Nat → Nat → Nat → Int32} {L0 L : Nat → Nat → Nat → Int64} {g i j : Nat} {x : Int32} (h : gR W I0 L0 I L) (hw : gI W g i j) : gR W I0 L0 (jup I g i j x) L := fun g' i' j' hn => by
  rw [jup_of (fun ⟨a, b, c⟩ => hn (by rw [a, b, c]; exact hw))]
  exact h g' i' j' hn
theorem gR_cat {W : List aR} {I0 I I' : Nat → Nat → Nat → Int32} {L0 L L' : Nat → Nat → Nat → Int64} (h : gR W I0 L0 I L) (h' : gR W I L I' L') : gR W I0 L0 I' L' := fun g i j hn => ⟨(h' g i j hn).1.trans (h g i j hn).1, (h' g i j hn).2.trans (h g i j hn).2⟩
theorem lt_t {x y : Int32} : x < y ↔ x.toInt < y.toInt := Int32.lt_iff_toInt_lt
theorem le_t {x y : Int32} : x ≤ y ↔ x.toInt ≤ y.toInt := Int32.le_iff_toInt_le
theorem cl_t {x : Int32} (h : 0 ≤ x.toInt) : (x.toNatClampNeg : Int) = x.toInt := by show ((x.toInt.toNat : Nat) : Int) = _; omega
/-- the bounds that are kept, one by one -/
theorem gi_packets {I : Nat → Nat → Nat → Int32} (h : gG aGI I) : 0 ≤ (I 4 1 6).toInt ∧ (I 4 1 6).toInt ≤ 6 := h (4, (0, 5), (6, 6), (0, 6)) (by decide) 1 6 (by decide) (by decide) (by decide) (by decide)
theorem gi_mpackets {I : Nat → Nat → Nat → Int32} (h : gG aGI I) : 0 ≤ (I 31 0 3).toInt ∧ (I 31 0 3).toInt ≤ 6 := h (31, (0, 0), (3, 3), (0, 6)) (by decide) 0 3 (by decide) (by decide) (by decide) (by decide)
set_option maxHeartbeats 1000000 in
theorem hK_weighWays : aKP aGI 122 ([(2, 0, (0, 0)), (0, 0, (0, 12))], (2, ((-9223372036854775808), 9223372036854775807)), [(11, (0, 0), (0, 54))], 4) := by
  intro d hd as I0 L0 has hG k hk
  obtain ⟨d, rfl⟩ : ∃ d', d = d' + 1 := ⟨d - 1, by simp at hd; omega⟩
  have hd : 3 ≤ d := by simp at hd; omega
  dsimp only at hk
  match as, has with
  | [.inr (g0, n0), .inl (.inl p)], has =>
    obtain ⟨⟨-, e1, e2, e3⟩, -, -⟩ := has
    dsimp only at e1 e2 e3
    obtain rfl : n0 = 0 := by omega
    subst e1
    have hw : ∀ j : Nat, j ≤ 54 → gI [(11, (0, 0), (0, 54))] 11 0 j := fun j hj => ⟨_, List.mem_cons_self, rfl, by simp, by simp, by simp, by simp; omega⟩
    have inner : ∀ (I : Nat → Nat → Nat → Int32) (al : Int64) (i got : Int32), 0 ≤ got.toInt → ∀ (N : Nat) (g : Int32) (e7 : Option jV) (L : Nat → Nat → Nat → Int64), g.toInt + 1 ≤ (N : Int) → -1 ≤ g.toInt → g.toInt ≤ 54 → gR [(11, (0, 0), (0, 54))] I0 L0 I L → (∀ (g' : Int32) (e7' : Option jV) (L' : Nat → Nat → Nat → Int64), gR [(11, (0, 0), (0, 54))] I0 L0 I L' → jWB (jWPM d) k none (jco 122) (113, [some (.inr (0, 0)), some (.inl (.inl p)), some (.inl (.inr al)), none, some (.inl (.inl i)), some (.inl (.inl got)), some (.inl (.inl g')), e7', none], [], I, L')) → jWB (jWPM d) k none (jco 122) (53, [some (.inr (0, 0)), some (.inl (.inl p)), some (.inl (.inr al)), none, some (.inl (.inl i)), some (.inl (.inl got)), some (.inl (.inl g)), e7, none], [], I, L) := by
      intro I al i got hgot N
      induction N with
      | zero =>
        intro g e7 L h1 h2 h3 hR hc
        refine jWB_run [53, 113] 60 ?_
        conv => whnf
        refine ⟨fun h => hc g e7 L hR, fun h => ?_⟩
        exfalso
        rw [lt_t] at h; simp at h; omega
      | succ N ih =>
        intro g e7 L h1 h2 h3 hR hc
        refine jWB_run [53, 113] 60 ?_
        conv => whnf
        refine ⟨fun h => hc g e7 L hR, fun h => ?_⟩
        rw [lt_t] at h
        simp at h
        have hcl := cl_t h
        have hin : vp_in g 55 := vp_in_iff.mpr (by omega)
        have hstep : (g + -1).toInt = g.toInt - 1 := by rw [i32_add (by simp; omega)]; simp; omega
        conv => whnf
        refine ⟨fun h4 => ?_, fun h4 => ?_⟩
        · conv => whnf
          refine ⟨hin, ?_⟩
          conv => whnf
          refine ⟨hin, ?_⟩
          exact ih (g + -1) _ _ (by omega) (by omega) (by omega) (gR_upL hR (hw _ (by omega))) hc
        · rw [lt_t] at h4
          conv => whnf
          refine ⟨vp_in_iff.mpr (by rw [i32_sub (by have := i32_rng got; omega)]; omega), ?_⟩
          conv => whnf
          refine ⟨hin, ?_⟩
          conv => whnf
          refine ⟨hin, ?_⟩
          exact ih (g + -1) _ _ (by omega) (by omega) (by omega) (gR_upL hR (hw _ (by omega))) hc
    have outer : ∀ (N : Nat) (i : Int32) (al : Int64) (e5 e6 e7 : Option jV) (I : Nat → Nat → Nat → Int32) (L : Nat → Nat → Nat → Int64), 6 - i.toInt ≤ (N : Int) → 0 ≤ i.toInt → gG aGI I → gR [(11, (0, 0), (0, 54))] I0 L0 I L → jWB (jWPM d) k none (jco 122) (20, [some (.inr (0, 0)), some (.inl (.inl p)), some (.inl (.inr al)), none, some (.inl (.inl i)), e5, e6, e7, none], [], I, L) := by
      intro N
      induction N with
      | zero =>
        intro i al e5 e6 e7 I L h1 h2 hG hR
        refine jWB_run [20, 53] 60 ?_
        conv => whnf
        refine ⟨fun h => hk _ _ _ hG hR ⟨al, rfl, i64_rng al⟩, fun h => ?_⟩
        exfalso
        have := gi_packets hG
        rw [le_t] at h; omega
      | succ N ih =>
        intro i al e5 e6 e7 I L h1 h2 hG hR
        refine jWB_run [20, 53] 60 ?_
        conv => whnf
        refine ⟨fun h => hk _ _ _ hG hR ⟨al, rfl, i64_rng al⟩, fun h => ?_⟩
        have hp := gi_packets hG
        rw [le_t] at h
        conv => whnf
        refine use_c cT31 (by show 2 ≤ d; omega) ⟨⟨rfl, rfl, by simp, by simp⟩, ⟨rfl, by omega, by simp only; omega⟩, trivial⟩ hG (fun v I' L' r1 r2 r3 => ?_)
        obtain ⟨rfl, rfl⟩ := gR_nil r2
        obtain ⟨got, rfl, r4, r5⟩ := r3
        refine inner I' _ i got r4 55 54 _ L' (by decide) (by decide) (by decide) hR (fun g' e7' L'' hR2 => ?_)
        refine jWB_run [20] 10 ?_
        exact ih (i + 1) _ _ _ _ I' L'' (by rw [i32_add (by simp; omega)]; simp; omega) (by rw [i32_add (by simp; omega)]; simp; omega) r1 hR2
    refine jWB_run [20] 60 ?_
    conv => whnf
    refine use_c cT3 (by show 1 ≤ d; omega) ⟨⟨rfl, rfl, by simp, by simp⟩, ⟨rfl, i64_rng 0⟩, trivial⟩ hG (fun v I' L' r1 r2 r3 => ?_)
    have r3 : v = none := r3
    subst r3
    conv => whnf
    refine ⟨vp_in_iff.mpr (by decide), ?_⟩
    exact outer 6 0 1 _ _ _ I' _ (by decide) (by decide) r1 (gR_upL r2 (hw 0 (by decide)))
