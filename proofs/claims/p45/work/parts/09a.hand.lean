section
theorem cmpI_0 {a b : Int} : cmpI a b = 0 ↔ a = b := (hop_q .eq a b).symm
theorem i64_ne {x y : Int64} (h : ¬ lg_cmp x y = 0) : ¬ x = y := fun e => h (by rw [cmp_lg, e]; exact cmpI_0.mpr rfl)
theorem hd_commonDivisor (I : Nat → Nat → Nat → Int32) (L : Nat → Nat → Nat → Int64) (k : jK) (d : Nat) (a b : Int64) (hk : ∀ x : Int64, k (some (.inl (.inr x))) (I, L)) : ∀ (N : Nat) (x y : Int64) (s : Int32) (u : Option jV), (200 - s.toInt) ≤ (N : Int) → jWB (jWPM d) k none (jco 117) (9, [some (.inl (.inr a)), none, some (.inl (.inr b)), none, some (.inl (.inr x)), none, some (.inl (.inr y)), none, some (.inl (.inl s)), u, none], [], I, L) := by
  intro N
  induction N with
  | zero =>
    intro x y s u hs
    refine jWB_run [9] 30 ?_
    conv => whnf
    refine ⟨fun h => ?_, fun h => ?_⟩
    · exact hk x
    · exfalso
      have := fun e => h (Int32.le_iff_toInt_le.mpr e)
      simp at this
      omega
  | succ N ih =>
    intro x y s u hs
    refine jWB_run [9] 30 ?_
    conv => whnf
    refine ⟨fun h => ?_, fun h => ?_⟩
    · exact hk x
    · conv => whnf
      refine ⟨fun h2 => ?_, fun h2 => ?_⟩
      · exact hk x
      · conv => whnf
        refine ⟨i64_ne h2, ?_⟩
        have hlt : s.toInt < 200 := by
          have := fun e => h (Int32.le_iff_toInt_le.mpr e)
          simp at this
          omega
        have h0 := i32_rng s
        refine ih y (x - x / y * y) (s + 1) _ ?_
        rw [i32_add (by simp; omega)]
        simp
        omega
theorem hK_commonDivisor : aKP aGI 117 ([(1, 0, ((-9223372036854775808), 9223372036854775807)), (1, 0, ((-9223372036854775808), 9223372036854775807))], (2, ((-9223372036854775808), 9223372036854775807)), [], 1) := by
  intro d hd as I L has hG k hk
  obtain ⟨d', rfl⟩ : ∃ d', d = d' + 1 := ⟨d - 1, by simp at hd; omega⟩
  match as, has with
  | [.inl (.inr a), .inl (.inr b)], has =>
    refine jWB_run [9] 30 ?_
    refine hd_commonDivisor I L k d' a b (fun x => hk _ _ _ hG gR_rf ⟨x, rfl, i64_rng x⟩) 200 a b 0 _ (by decide)
theorem use_c {m : Nat} {c : aK} (h : aKP aGI m c) {d : Nat} {as : List jV} {I : Nat → Nat → Nat → Int32} {L : Nat → Nat → Nat → Int64} {k : jK} (hd : c.2.2.2 ≤ d) (has : aAs c.1 as) (hG : gG aGI I) (hk : ∀ v I' L', gG aGI I' → gR c.2.2.1 I L I' L' → aRv c.2.1 v → k v (I', L')) : jWPM d m as (I, L) k := h d hd as I L has hG k hk
theorem gR_nil {I I' : Nat → Nat → Nat → Int32} {L L' : Nat → Nat → Nat → Int64} (h : gR [] I L I' L') : I' = I ∧ L' = L := ⟨funext fun g => funext fun i => funext fun j => (h g i j (fun ⟨_, hr, _⟩ => by cases hr)).1, funext fun g => funext fun i => funext fun j => (h g i j (fun ⟨_, hr, _⟩ => by cases hr)).2⟩
theorem gR_upL {W : List aR} {I0 I : Nat → Nat → Nat → Int32} {L0 L : Nat → Nat → Nat → Int64} {g i j : Nat} {x : Int64} (h : gR W I0 L0 I L) (hw : gI W g i j) : gR W I0 L0 I (jupL L g i j x) := fun g' i' j' hn => by
  rw [jupL_of (fun ⟨a, b, c⟩ => hn (by rw [a, b, c]; exact hw))]
  exact h g' i' j' hn
theorem gR_upI {W : List aR} {I0 I : Nat → Nat → Nat → Int32} {L0 L : Nat → Nat → Nat → Int64} {g i j : Nat} {x : Int32} (h : gR W I0 L0 I L) (hw : gI W g i j) : gR W I0 L0 (jup I g i j x) L := fun g' i' j' hn => by
  rw [jup_of (fun ⟨a, b, c⟩ => hn (by rw [a, b, c]; exact hw))]
  exact h g' i' j' hn
theorem gR_cat {W : List aR} {I0 I I' : Nat → Nat → Nat → Int32} {L0 L L' : Nat → Nat → Nat → Int64} (h : gR W I0 L0 I L) (h' : gR W I L I' L') : gR W I0 L0 I' L' := fun g i j hn => ⟨(h' g i j hn).1.trans (h g i j hn).1, (h' g i j hn).2.trans (h g i j hn).2⟩
theorem lt_t {x y : Int32} : x < y ↔ x.toInt < y.toInt := Int32.lt_iff_toInt_lt
theorem le_t {x y : Int32} : x ≤ y ↔ x.toInt ≤ y.toInt := Int32.le_iff_toInt_le
theorem cl_t {x : Int32} (h : 0 ≤ x.toInt) : (x.toNatClampNeg : Int) = x.toInt := by show ((x.toInt.toNat : Nat) : Int) = _; omega
/-- the bounds that are kept, one by one -/
theorem gi_packets {I : Nat → Nat → Nat → Int32} (h : gG aGI I) : 0 ≤ (I 4 1 6).toInt ∧ (I 4 1 6).toInt ≤ 6 := h (4, (0, 5), (6, 6), (0, 6)) (by decide) 1 6 (by decide) (by decide) (by decide) (by decide)
theorem gi_mpackets {I : Nat → Nat → Nat → Int32} (h : gG aGI I) : 0 ≤ (I 31 0 3).toInt ∧ (I 31 0 3).toInt ≤ 6 := h (31, (0, 0), (3, 3), (0, 6)) (by decide) 0 3 (by decide) (by decide) (by decide) (by decide)
set_option maxHeartbeats 1000000 in
theorem hK_weighWays : aKP aGI 122 ([(2, 0, (0, 0)), (0, 0, (0, 12))], (2, ((-9223372036854775808), 9223372036854775807)), [(11, (0, 0), (0, 54))], 4) := by
  intro d hd as I0 L0 has hG k hk
  obtain ⟨d, rfl⟩ : ∃ d', d = d' + 1 := ⟨d - 1, by simp at hd; omega⟩
  have hd : 3 ≤ d := by simp at hd; omega
  dsimp only at hk
  match as, has with
  | [.inr (g0, n0), .inl (.inl p)], has =>
    obtain ⟨⟨-, e1, e2, e3⟩, -, -⟩ := has
    dsimp only at e1 e2 e3
    obtain rfl : n0 = 0 := by omega
    subst e1
    have hw : ∀ j : Nat, j ≤ 54 → gI [(11, (0, 0), (0, 54))] 11 0 j := fun j hj => ⟨_, List.mem_cons_self, rfl, by simp, by simp, by simp, by simp; omega⟩
    have inner : ∀ (I : Nat → Nat → Nat → Int32) (al : Int64) (i got : Int32), 0 ≤ got.toInt → ∀ (N : Nat) (g : Int32) (e7 : Option jV) (L : Nat → Nat → Nat → Int64), g.toInt + 1 ≤ (N : Int) → -1 ≤ g.toInt → g.toInt ≤ 54 → gR [(11, (0, 0), (0, 54))] I0 L0 I L → (∀ (g' : Int32) (e7' : Option jV) (L' : Nat → Nat → Nat → Int64), gR [(11, (0, 0), (0, 54))] I0 L0 I L' → jWB (jWPM d) k none (jco 122) (113, [some (.inr (0, 0)), some (.inl (.inl p)), some (.inl (.inr al)), none, some (.inl (.inl i)), some (.inl (.inl got)), some (.inl (.inl g')), e7', none], [], I, L')) → jWB (jWPM d) k none (jco 122) (53, [some (.inr (0, 0)), some (.inl (.inl p)), some (.inl (.inr al)), none, some (.inl (.inl i)), some (.inl (.inl got)), some (.inl (.inl g)), e7, none], [], I, L) := by
      intro I al i got hgot N
      induction N with
      | zero =>
        intro g e7 L h1 h2 h3 hR hc
        refine jWB_run [53, 113] 60 ?_
        conv => whnf
        refine ⟨fun h => hc g e7 L hR, fun h => ?_⟩
        exfalso
        rw [lt_t] at h; simp at h; omega
      | succ N ih =>
        intro g e7 L h1 h2 h3 hR hc
        refine jWB_run [53, 113] 60 ?_
        conv => whnf
        refine ⟨fun h => hc g e7 L hR, fun h => ?_⟩
        rw [lt_t] at h
        simp at h
        have hcl := cl_t h
        have hin : vp_in g 55 := vp_in_iff.mpr (by omega)
        have hstep : (g + -1).toInt = g.toInt - 1 := by rw [i32_add (by simp; omega)]; simp; omega
        conv => whnf
        refine ⟨fun h4 => ?_, fun h4 => ?_⟩
        · conv => whnf
          refine ⟨hin, ?_⟩
          conv => whnf
          refine ⟨hin, ?_⟩
          exact ih (g + -1) _ _ (by omega) (by omega) (by omega) (gR_upL hR (hw _ (by omega))) hc
        · rw [lt_t] at h4
          conv => whnf
          refine ⟨vp_in_iff.mpr (by rw [i32_sub (by have := i32_rng got; omega)]; omega), ?_⟩
          conv => whnf
          refine ⟨hin, ?_⟩
          conv => whnf
          refine ⟨hin, ?_⟩
          exact ih (g + -1) _ _ (by omega) (by omega) (by omega) (gR_upL hR (hw _ (by omega))) hc
    have outer : ∀ (N : Nat) (i : Int32) (al : Int64) (e5 e6 e7 : Option jV) (I : Nat → Nat → Nat → Int32) (L : Nat → Nat → Nat → Int64), 6 - i.toInt ≤ (N : Int) → 0 ≤ i.toInt → gG aGI I → gR [(11, (0, 0), (0, 54))] I0 L0 I L → jWB (jWPM d) k none (jco 122) (20, [some (.inr (0, 0)), some (.inl (.inl p)), some (.inl (.inr al)), none, some (.inl (.inl i)), e5, e6, e7, none], [], I, L) := by
      intro N
      induction N with
      | zero =>
        intro i al e5 e6 e7 I L h1 h2 hG hR
        refine jWB_run [20, 53] 60 ?_
        conv => whnf
        refine ⟨fun h => hk _ _ _ hG hR ⟨al, rfl, i64_rng al⟩, fun h => ?_⟩
        exfalso
        have := gi_packets hG
        rw [le_t] at h; omega
      | succ N ih =>
        intro i al e5 e6 e7 I L h1 h2 hG hR
        refine jWB_run [20, 53] 60 ?_
        conv => whnf
        refine ⟨fun h => hk _ _ _ hG hR ⟨al, rfl, i64_rng al⟩, fun h => ?_⟩
        have hp := gi_packets hG
        rw [le_t] at h
        conv => whnf
        refine use_c cT31 (by show 2 ≤ d; omega) ⟨⟨rfl, rfl, by simp, by simp⟩, ⟨rfl, by omega, by simp only; omega⟩, trivial⟩ hG (fun v I' L' r1 r2 r3 => ?_)
        obtain ⟨rfl, rfl⟩ := gR_nil r2
        obtain ⟨got, rfl, r4, r5⟩ := r3
        refine inner I' _ i got r4 55 54 _ L' (by decide) (by decide) (by decide) hR (fun g' e7' L'' hR2 => ?_)
        refine jWB_run [20] 10 ?_
        exact ih (i + 1) _ _ _ _ I' L'' (by rw [i32_add (by simp; omega)]; simp; omega) (by rw [i32_add (by simp; omega)]; simp; omega) r1 hR2
    refine jWB_run [20] 60 ?_
    conv => whnf
    refine use_c cT3 (by show 1 ≤ d; omega) ⟨⟨rfl, rfl, by simp, by simp⟩, ⟨rfl, i64_rng 0⟩, trivial⟩ hG (fun v I' L' r1 r2 r3 => ?_)
    have r3 : v = none := r3
    subst r3
    conv => whnf
    refine ⟨vp_in_iff.mpr (by decide), ?_⟩
    exact outer 6 0 1 _ _ _ I' _ (by decide) (by decide) r1 (gR_upL r2 (hw 0 (by decide)))
end
section
theorem gG_up {I : Nat → Nat → Nat → Int32} {g i j : Nat} {x : Int32} (h : gG aGI I) (hn : ∀ e ∈ aGI, e.1 ≠ g) : gG aGI (jup I g i j x) := fun e he i' j' a1 a2 a3 a4 => by
  rw [jup_of (fun q => hn e he q.1)]
  exact h e he i' j' a1 a2 a3 a4
set_option maxHeartbeats 1000000 in
theorem hK_cheapest : aKP aGI 91 ([(2, 0, (0, 0))], (1, ((-9), 5)), [(0, (0, 0), (14, 14))], 9) := by
  intro d hd as I0 L0 has hG k hk
  obtain ⟨d, rfl⟩ : ∃ d', d = d' + 1 := ⟨d - 1, by simp at hd; omega⟩
  have hd : 8 ≤ d := by simp at hd; omega
  dsimp only at hk
  match as, has with
  | [.inr (g0, n0)], has =>
    obtain ⟨⟨-, e1, e2, e3⟩, -⟩ := has
    dsimp only at e1 e2 e3
    obtain rfl : n0 = 0 := by omega
    subst e1
    have hexit : ∀ (f a i : Int32) (e4 : Option jV) (I : Nat → Nat → Nat → Int32) (L : Nat → Nat → Nat → Int64), -9 ≤ f.toInt → f.toInt ≤ 5 → gG aGI I → gR [(0, (0, 0), (14, 14))] I0 L0 I L → jWB (jWPM d) k none (jco 91) (97, [some (.inr (0, 0)), some (.inl (.inl f)), some (.inl (.inl a)), some (.inl (.inl i)), e4], [], I, L) := by
      intro f a i e4 I L h1 h2 hG hR
      refine jWB_run [20, 97] 20 ?_
      conv => whnf
      refine ⟨fun h => hk _ _ _ hG hR ⟨f, rfl, h1, h2⟩, fun h => hk _ _ _ (gG_up hG (by decide)) (gR_upI hR ⟨_, List.mem_cons_self, rfl, by simp, by simp, by simp, by simp⟩) ⟨f, rfl, h1, h2⟩⟩
    have loop : ∀ (N : Nat) (f a i : Int32) (e4 : Option jV) (I : Nat → Nat → Nat → Int32) (L : Nat → Nat → Nat → Int64), 6 - i.toInt ≤ (N : Int) → 0 ≤ i.toInt → (f.toInt = -9 ∨ (0 ≤ f.toInt ∧ f.toInt ≤ 5)) → gG aGI I → gR [(0, (0, 0), (14, 14))] I0 L0 I L → jWB (jWPM d) k none (jco 91) (20, [some (.inr (0, 0)), some (.inl (.inl f)), some (.inl (.inl a)), some (.inl (.inl i)), e4], [], I, L) := by
      intro N
      induction N with
      | zero =>
        intro f a i e4 I L h1 h2 h3 hG hR
        refine jWB_run [20, 66, 97] 40 ?_
        conv => whnf
        refine ⟨fun h => hexit f a i e4 I L (by omega) (by omega) hG hR, fun h => ?_⟩
        exfalso
        have := gi_packets hG
        rw [le_t] at h; omega
      | succ N ih =>
        intro f a i e4 I L h1 h2 h3 hG hR
        refine jWB_run [20, 66, 97] 40 ?_
        conv => whnf
        refine ⟨fun h => hexit f a i e4 I L (by omega) (by omega) hG hR, fun h => ?_⟩
        have hp := gi_packets hG
        rw [le_t] at h
        have hi1 : (i + 1).toInt = i.toInt + 1 := by rw [i32_add (by simp; omega)]; simp
        have tail : ∀ (o : Int32), jWB (jWPM d) k none (jco 91) (66, [some (.inr (0, 0)), some (.inl (.inl f)), some (.inl (.inl a)), some (.inl (.inl i)), some (.inl (.inl o))], [], I, L) := by
          intro o
          refine jWB_run [20, 66, 97] 40 ?_
          conv => whnf
          refine ⟨fun h4 => ?_, fun h4 => ?_⟩
          · conv => whnf
            refine ⟨fun h5 => ih f a (i + 1) _ I L (by omega) (by omega) h3 hG hR, fun h5 => ih f _ (i + 1) _ I L (by omega) (by omega) h3 hG hR⟩
          · exact ih i _ (i + 1) _ I L (by omega) (by omega) (by omega) hG hR
        conv => whnf
        refine use_c cT31 (Nat.le_trans (by decide) hd) ⟨⟨rfl, rfl, by simp, by simp⟩, ⟨rfl, by simp only; omega, by simp only; omega⟩, trivial⟩ hG (fun v I' L' r1 r2 r3 => ?_)
        obtain ⟨rfl, rfl⟩ := gR_nil r2
        obtain ⟨got, rfl, r4, r5⟩ := r3
        conv => whnf
        refine ⟨fun h4 => ?_, fun h4 => ih f a (i + 1) _ I' L' (by omega) (by omega) h3 hG hR⟩
        conv => whnf
        refine ⟨fun h5 => ?_, fun h5 => tail (-1)⟩
        conv => whnf
        have hf : 0 ≤ f.toInt ∧ f.toInt ≤ 5 := by
          rcases h3 with h3 | h3
          · exact absurd (Int32.toInt_inj.mp (by rw [h3]; rfl)) h5
          · exact h3
        refine use_c cT34 (Nat.le_trans (by decide) hd) ⟨⟨rfl, rfl, by simp, by simp⟩, ⟨rfl, by simp only; omega, by simp only; omega⟩, ⟨rfl, by simp only; omega, by simp only; omega⟩, trivial⟩ hG (fun v I' L' r1 r2 r3 => ?_)
        obtain ⟨rfl, rfl⟩ := gR_nil r2
        obtain ⟨o, rfl, r4, r5⟩ := r3
        exact tail o
    refine jWB_run [20] 60 ?_
    conv => whnf
    refine ⟨fun h => ?_, fun h => hk _ _ _ hG gR_rf ⟨-4, rfl, by decide, by decide⟩⟩
    exact loop 6 (-9) 0 0 _ I0 L0 (by decide) (by decide) (Or.inl (by decide)) hG gR_rf
set_option maxHeartbeats 1000000 in
theorem hK_mcheapest : aKP aGI 181 ([(2, 31, (0, 0))], (1, ((-9), 5)), [(31, (0, 0), (10, 10))], 9) := by
  intro d hd as I0 L0 has hG k hk
  obtain ⟨d, rfl⟩ : ∃ d', d = d' + 1 := ⟨d - 1, by simp at hd; omega⟩
  have hd : 8 ≤ d := by simp at hd; omega
  dsimp only at hk
  match as, has with
  | [.inr (g0, n0)], has =>
    obtain ⟨⟨-, e1, e2, e3⟩, -⟩ := has
    dsimp only at e1 e2 e3
    obtain rfl : n0 = 0 := by omega
    subst e1
    have hup : ∀ (I : Nat → Nat → Nat → Int32) (x : Int32), gG aGI I → gG aGI (jup I 31 0 10 x) := fun I x h e he i j a1 a2 a3 a4 => by
      by_cases hc : e.1 = 31 ∧ i = 0 ∧ j = 10
      · exfalso
        obtain ⟨c1, c2, c3⟩ := hc
        revert c1 a1 a2 a3 a4
        subst c2; subst c3
        revert e
        decide
      · rw [jup_of hc]; exact h e he i j a1 a2 a3 a4
    have hwr : ∀ {I : Nat → Nat → Nat → Int32} {L : Nat → Nat → Nat → Int64} {x : Int32}, gR [(31, (0, 0), (10, 10))] I0 L0 I L → gR [(31, (0, 0), (10, 10))] I0 L0 (jup I 31 0 10 x) L := fun hR => gR_upI hR ⟨_, List.mem_cons_self, rfl, by simp, by simp, by simp, by simp⟩
    have loop2 : ∀ (N : Nat) (f i : Int32) (I : Nat → Nat → Nat → Int32) (L : Nat → Nat → Nat → Int64), 6 - i.toInt ≤ (N : Int) → 0 ≤ i.toInt → (0 ≤ f.toInt ∧ f.toInt ≤ 5) → gG aGI I → gR [(31, (0, 0), (10, 10))] I0 L0 I L → jWB (jWPM d) k none (jco 181) (75, [some (.inr (31, 0)), some (.inl (.inl f)), some (.inl (.inl i))], [], I, L) := by
      intro N
      induction N with
      | zero =>
        intro f i I L h1 h2 h3 hG hR
        refine jWB_run [75] 40 ?_
        conv => whnf
        refine ⟨fun h => hk _ _ _ hG hR ⟨f, rfl, by simp only; omega, by simp only; omega⟩, fun h => ?_⟩
        exfalso
        have := gi_mpackets hG
        rw [le_t] at h; omega
      | succ N ih =>
        intro f i I L h1 h2 h3 hG hR
        refine jWB_run [75] 40 ?_
        conv => whnf
        refine ⟨fun h => hk _ _ _ hG hR ⟨f, rfl, by simp only; omega, by simp only; omega⟩, fun h => ?_⟩
        have hp := gi_mpackets hG
        rw [le_t] at h
        have hi1 : (i + 1).toInt = i.toInt + 1 := by rw [i32_add (by simp; omega)]; simp
        conv => whnf
        refine use_c cT138 (Nat.le_trans (by decide) hd) ⟨⟨rfl, rfl, by simp, by simp⟩, ⟨rfl, by decide, by decide⟩, ⟨rfl, by simp only; omega, by simp only; omega⟩, trivial⟩ hG (fun v I' L' r1 r2 r3 => ?_)
        obtain ⟨rfl, rfl⟩ := gR_nil r2
        obtain ⟨got, rfl, r4, r5⟩ := r3
        conv => whnf
        refine ⟨fun h4 => ?_, fun h4 => ?_⟩
        · exact ih f (i + 1) _ L' (by omega) (by omega) h3 (hup _ _ hG) (hwr hR)
        · conv => whnf
          refine use_c cT161 (Nat.le_trans (by decide) hd) ⟨⟨rfl, rfl, by simp, by simp⟩, ⟨rfl, by simp only; omega, by simp only; omega⟩, ⟨rfl, by simp only; omega, by simp only; omega⟩, trivial⟩ hG (fun v I' L' r1 r2 r3 => ?_)
          obtain ⟨rfl, rfl⟩ := gR_nil r2
          obtain ⟨o, rfl, r4, r5⟩ := r3
          conv => whnf
          refine ⟨fun h5 => ?_, fun h5 => ?_⟩
          · exact ih f (i + 1) _ L' (by omega) (by omega) h3 (hup _ _ hG) (hwr hR)
          · exact ih f (i + 1) _ L' (by omega) (by omega) h3 (hup _ _ hG) (hwr hR)
    have loop : ∀ (N : Nat) (f i : Int32) (I : Nat → Nat → Nat → Int32) (L : Nat → Nat → Nat → Int64), 6 - i.toInt ≤ (N : Int) → 0 ≤ i.toInt → (f.toInt = -9 ∨ (0 ≤ f.toInt ∧ f.toInt ≤ 5)) → gG aGI I → gR [(31, (0, 0), (10, 10))] I0 L0 I L → jWB (jWPM d) k none (jco 181) (15, [some (.inr (31, 0)), some (.inl (.inl f)), some (.inl (.inl i))], [], I, L) := by
      have hexit : ∀ (f i : Int32) (I : Nat → Nat → Nat → Int32) (L : Nat → Nat → Nat → Int64), (f.toInt = -9 ∨ (0 ≤ f.toInt ∧ f.toInt ≤ 5)) → gG aGI I → gR [(31, (0, 0), (10, 10))] I0 L0 I L → jWB (jWPM d) k none (jco 181) (59, [some (.inr (31, 0)), some (.inl (.inl f)), some (.inl (.inl i))], [], I, L) := by
        intro f i I L h3 hG hR
        refine jWB_run [75] 40 ?_
        conv => whnf
        refine ⟨fun h5 => ?_, fun h5 => hk _ _ _ hG hR ⟨-9, rfl, by decide, by decide⟩⟩
        have hf : 0 ≤ f.toInt ∧ f.toInt ≤ 5 := by
          rcases h3 with h3 | h3
          · exact absurd (Int32.toInt_inj.mp (by rw [h3]; rfl)) h5
          · exact h3
        exact loop2 6 f 0 _ L (by decide) (by decide) hf (hup _ _ hG) (hwr hR)
      intro N
      induction N with
      | zero =>
        intro f i I L h1 h2 h3 hG hR
        refine jWB_run [15, 59] 40 ?_
        conv => whnf
        refine ⟨fun h => hexit f i I L h3 hG hR, fun h => ?_⟩
        exfalso
        have := gi_mpackets hG
        rw [le_t] at h; omega
      | succ N ih =>
        intro f i I L h1 h2 h3 hG hR
        refine jWB_run [15, 59] 40 ?_
        conv => whnf
        refine ⟨fun h => hexit f i I L h3 hG hR, fun h => ?_⟩
        have hp := gi_mpackets hG
        rw [le_t] at h
        have hi1 : (i + 1).toInt = i.toInt + 1 := by rw [i32_add (by simp; omega)]; simp
        conv => whnf
        refine use_c cT138 (Nat.le_trans (by decide) hd) ⟨⟨rfl, rfl, by simp, by simp⟩, ⟨rfl, by decide, by decide⟩, ⟨rfl, by simp only; omega, by simp only; omega⟩, trivial⟩ hG (fun v I' L' r1 r2 r3 => ?_)
        obtain ⟨rfl, rfl⟩ := gR_nil r2
        obtain ⟨got, rfl, r4, r5⟩ := r3
        conv => whnf
        refine ⟨fun h4 => ih f (i + 1) I' L' (by omega) (by omega) h3 hG hR, fun h4 => ?_⟩
        conv => whnf
        refine ⟨fun h5 => ih i (i + 1) I' L' (by omega) (by omega) (by omega) hG hR, fun h5 => ?_⟩
        have hf : 0 ≤ f.toInt ∧ f.toInt ≤ 5 := by
          rcases h3 with h3 | h3
          · exact absurd (Int32.toInt_inj.mp (by rw [h3]; rfl)) h5
          · exact h3
        conv => whnf
        refine use_c cT161 (Nat.le_trans (by decide) hd) ⟨⟨rfl, rfl, by simp, by simp⟩, ⟨rfl, by simp only; omega, by simp only; omega⟩, ⟨rfl, by simp only; omega, by simp only; omega⟩, trivial⟩ hG (fun v I' L' r1 r2 r3 => ?_)
        obtain ⟨rfl, rfl⟩ := gR_nil r2
        obtain ⟨o, rfl, r4, r5⟩ := r3
        conv => whnf
        refine ⟨fun h6 => ih f (i + 1) I' L' (by omega) (by omega) h3 hG hR, fun h6 => ih i (i + 1) I' L' (by omega) (by omega) (by omega) hG hR⟩
    refine jWB_run [15] 60 ?_
    conv => whnf
    refine ⟨fun h => ?_, fun h => hk _ _ _ hG gR_rf ⟨-4, rfl, by decide, by decide⟩⟩
    exact loop 6 (-9) 0 I0 L0 (by decide) (by decide) (Or.inl (by decide)) hG gR_rf
end
section
theorem rem_lt {x y : Int64} (hy : y ≠ 0) : (x - x / y * y).toInt.natAbs < y.toInt.natAbs := by
  have hy0 : y.toInt ≠ 0 := fun e => hy (Int64.toInt_inj.mp (by rw [e]; rfl))
  have h4 : x.toInt.tmod y.toInt = x.toInt - x.toInt.tdiv y.toInt * y.toInt := by rw [Int.tmod_def, Int.mul_comm]
  have h5 := i64_rng x
  have h6 := i64_rng y
  have h7 : (x.toInt.tmod y.toInt).natAbs < y.toInt.natAbs := by
    rw [Int.natAbs_tmod]
    exact Nat.mod_lt _ (by omega)
  have h8 : (x - x / y * y).toInt = x.toInt.tmod y.toInt := by
    rw [Int64.toInt_sub, Int64.toInt_mul, Int64.toInt_div, Int.bmod_mul_bmod, Int.sub_bmod_bmod, ← h4, bm64]
    omega
  rw [h8]; exact h7
theorem hd_in {d : Nat} (hd : 1 ≤ d) {v lo hi : Int64} {I : Nat → Nat → Nat → Int32} {L : Nat → Nat → Nat → Int64} {k : jK} (h1 : lo.toInt ≤ v.toInt → v.toInt ≤ hi.toInt → k (some (.inl (.inl 1))) (I, L)) (h0 : ¬ (lo.toInt ≤ v.toInt ∧ v.toInt ≤ hi.toInt) → k (some (.inl (.inl 0))) (I, L)) : jWPM d 124 [.inl (.inr v), .inl (.inr lo), .inl (.inr hi)] (I, L) k := by
  obtain ⟨d, rfl⟩ : ∃ d', d = d' + 1 := ⟨d - 1, by omega⟩
  refine jWB_run [] 20 ?_
  conv => whnf
  refine ⟨fun h => ?_, fun h => ?_⟩
  · rw [cmp_lg] at h
    have h := (hop_q .lt _ _).mpr h
    conv => whnf
    exact ⟨Or.inl rfl, h0 (fun q => absurd (show v.toInt < lo.toInt from h) (by omega))⟩
  · conv => whnf
    rw [cmp_lg] at h
    have h : ¬ v.toInt < lo.toInt := fun q => h ((hop_q .lt _ _).mp q)
    refine ⟨fun g => ?_, fun g => ?_⟩
    · rw [cmp_lg] at g
      have g : hi.toInt < v.toInt := (hop_q .gt _ _).mpr g
      conv => whnf
      exact ⟨Or.inl rfl, h0 (fun q => by omega)⟩
    · rw [cmp_lg] at g
      have g : ¬ hi.toInt < v.toInt := fun q => g ((hop_q .gt _ _).mp q)
      conv => whnf
      exact ⟨Or.inr rfl, h1 (by omega) (by omega)⟩
theorem hd_isPacket {d : Nat} (hd : 2 ≤ d) {i : Int32} {I : Nat → Nat → Nat → Int32} {L : Nat → Nat → Nat → Int64} {k : jK} (hG : gG aGI I) (h1 : 0 ≤ i.toInt → i.toInt < (I 31 0 3).toInt → k (some (.inl (.inl 1))) (I, L)) (h0 : ¬ (0 ≤ i.toInt ∧ i.toInt < (I 31 0 3).toInt) → k (some (.inl (.inl 0))) (I, L)) : jWPM d 151 [.inr (31, 0), .inl (.inl i)] (I, L) k := by
  obtain ⟨d, rfl⟩ : ∃ d', d = d' + 1 := ⟨d - 1, by omega⟩
  have hd : 1 ≤ d := by omega
  have hp := gi_mpackets hG
  have e : (I 31 0 3 - 1).toInt = (I 31 0 3).toInt - 1 := by rw [i32_sub (by simp; omega)]; simp
  refine jWB_run [] 20 ?_
  conv => whnf
  refine hd_in hd (fun a b => ?_) (fun a => ?_)
  · rw [Int32.toInt_toInt64] at a b
    rw [Int32.toInt_toInt64, e] at b
    conv => whnf
    exact ⟨Or.inr rfl, h1 (by simpa using a) (by omega)⟩
  · rw [Int32.toInt_toInt64, Int32.toInt_toInt64, e] at a
    conv => whnf
    exact ⟨Or.inl rfl, h0 (fun q => a ⟨by simpa using q.1, by omega⟩)⟩
theorem hd_got {d : Nat} (hd : 2 ≤ d) {i : Int32} (I : Nat → Nat → Nat → Int32) (L : Nat → Nat → Nat → Int64) (h0 : 0 ≤ i.toInt) (h5 : i.toInt ≤ 5) : ∃ g : Int32, ∀ k : jK, k (some (.inl (.inl g))) (I, L) → jWPM d 155 [.inr (31, 0), .inl (.inl 0), .inl (.inl i)] (I, L) k := by
  obtain ⟨d, rfl⟩ : ∃ d', d = d' + 2 := ⟨d - 2, by omega⟩
  have e : (0 + 17 + i : Int32).toInt = 17 + i.toInt := by rw [i32_add (by simp; omega)]; simp
  by_cases h3 : I 33 0 i.toNatClampNeg = 3
  · refine ⟨I 32 0 (0 + 17 + i).toNatClampNeg / 2, fun k hk => ?_⟩
    refine jWB_run [] 20 ?_
    conv => whnf
    refine ⟨vp_in_iff.mpr (by omega), ?_⟩
    conv => whnf
    refine ⟨vp_in_iff.mpr (by rw [e]; omega), ?_⟩
    conv => whnf
    refine jWB_run [] 20 ?_
    conv => whnf
    refine ⟨fun h => absurd h3 h, fun h => ?_⟩
    conv => whnf
    refine ⟨by decide, ?_⟩
    exact hk
  · refine ⟨I 32 0 (0 + 17 + i).toNatClampNeg, fun k hk => ?_⟩
    refine jWB_run [] 20 ?_
    conv => whnf
    refine ⟨vp_in_iff.mpr (by omega), ?_⟩
    conv => whnf
    refine ⟨vp_in_iff.mpr (by rw [e]; omega), ?_⟩
    conv => whnf
    refine jWB_run [] 20 ?_
    conv => whnf
    refine ⟨fun h => hk, fun h => absurd h h3⟩
theorem hd_tellParts {d : Nat} (hd : 1 ≤ d) {a b : Int64} {I : Nat → Nat → Nat → Int32} {L : Nat → Nat → Nat → Int64} {k : jK} (hb : b ≠ 0) (hk : ∀ u v, k (some (.inl (.inl 1))) (I, jupL (jupL L 31 0 11 u) 31 0 12 v)) : jWPM d 178 [.inr (31, 0), .inl (.inr a), .inl (.inr b)] (I, L) k := by
  obtain ⟨d, rfl⟩ : ∃ d', d = d' + 1 := ⟨d - 1, by omega⟩
  have loop : ∀ (N : Nat) (x y : Int64) (e9 e10 : Option jV), y.toInt.natAbs ≤ N → (x ≠ 0 ∨ y ≠ 0) → jWB (jWPM d) k none (jco 178) (6, [some (.inr (31, 0)), some (.inl (.inr a)), none, some (.inl (.inr b)), none, some (.inl (.inr x)), none, some (.inl (.inr y)), none, e9, e10], [], I, L) := by
    intro N
    induction N with
    | zero =>
      intro x y e9 e10 h1 h2
      refine jWB_run [6] 40 ?_
      conv => whnf
      have hy : y = 0 := Int64.toInt_inj.mp (by rw [show y.toInt = 0 by omega]; rfl)
      have hx : x ≠ 0 := h2.resolve_right (fun h => h hy)
      refine ⟨fun h => ?_, fun h => absurd hy (i64_ne h)⟩
      conv => whnf
      refine ⟨hx, ?_⟩
      conv => whnf
      exact ⟨hx, hk _ _⟩
    | succ N ih =>
      intro x y e9 e10 h1 h2
      refine jWB_run [6] 40 ?_
      conv => whnf
      refine ⟨fun h => ?_, fun h => ?_⟩
      · have hy : y = 0 := Int64.toInt_inj.mp (by rw [cmp_lg] at h; exact cmpI_0.mp h)
        have hx : x ≠ 0 := h2.resolve_right (fun h => h hy)
        conv => whnf
        refine ⟨hx, ?_⟩
        conv => whnf
        exact ⟨hx, hk _ _⟩
      · have hy : y ≠ 0 := i64_ne h
        conv => whnf
        refine ⟨hy, ?_⟩
        have := @rem_lt x y hy
        exact ih y (x - x / y * y) _ _ (by omega) (Or.inl hy)
  refine jWB_run [6] 20 ?_
  exact loop b.toInt.natAbs a b _ _ (Nat.le_refl _) (Or.inr hb)
set_option maxHeartbeats 1000000 in
theorem hK_mrate : aKP aGI 179 ([(2, 31, (0, 0)), (0, 0, ((-2147483648), 2147483647))], (1, ((-4), 1)), [(31, (0, 0), (11, 12))], 9) := by
  intro d hd as I0 L0 has hG k hk
  obtain ⟨d, rfl⟩ : ∃ d', d = d' + 1 := ⟨d - 1, by simp at hd; omega⟩
  have hd : 8 ≤ d := by simp at hd; omega
  dsimp only at hk
  match as, has with
  | [.inr (g0, n0), .inl (.inl i)], has =>
    obtain ⟨⟨-, e1, e2, e3⟩, -⟩ := has
    dsimp only at e1 e2 e3
    obtain rfl : n0 = 0 := by omega
    subst e1
    refine jWB_run [] 40 ?_
    conv => whnf
    refine hd_isPacket (Nat.le_trans (by decide) hd) hG (fun a b => ?_) (fun a => ?_)
    · have hp := gi_mpackets hG
      conv => whnf
      refine ⟨fun _ => ?_, fun h => absurd h (by decide)⟩
      conv => whnf
      obtain ⟨g, hg⟩ := hd_got (Nat.le_trans (by decide) hd) I0 L0 a (by omega)
      refine hg _ ?_
      conv => whnf
      refine ⟨fun h => ?_, fun h => hk _ _ _ hG gR_rf ⟨-4, rfl, by decide, by decide⟩⟩
      conv => whnf
      refine use_c cT135 (Nat.le_trans (by decide) hd) ⟨⟨rfl, rfl, by simp, by simp⟩, ⟨rfl, by decide, by decide⟩, ⟨rfl, by simp only; omega, by simp only; omega⟩, ⟨rfl, by decide, by decide⟩, trivial⟩ hG (fun v I' L' r1 r2 r3 => ?_)
      obtain ⟨rfl, rfl⟩ := gR_nil r2
      obtain ⟨c, rfl, r4, r5⟩ := r3
      conv => whnf
      refine hg _ ?_
      conv => whnf
      refine hd_tellParts (Nat.le_trans (by decide) hd) (fun e => h (Int32.toInt_inj.mp (by rw [← Int32.toInt_toInt64, e]; rfl))) (fun u v => ?_)
      exact hk _ _ _ hG (gR_upL (gR_upL gR_rf ⟨_, List.mem_cons_self, rfl, by simp, by simp, by simp, by simp⟩) ⟨_, List.mem_cons_self, rfl, by simp, by simp, by simp, by simp⟩) ⟨1, rfl, by decide, by decide⟩
    · conv => whnf
      refine ⟨fun h => absurd rfl h, fun h => hk _ _ _ hG gR_rf ⟨-1, rfl, by decide, by decide⟩⟩
end
section
theorem i32_of {x : Int32} {n : Int} (h : x.toInt = n) (y : Int32) (hy : y.toInt = n) : x = y := Int32.toInt_inj.mp (by rw [h, hy])
theorem i32_cases5 {x : Int32} (h0 : 0 ≤ x.toInt) (h5 : x.toInt ≤ 5) : x = 0 ∨ x = 1 ∨ x = 2 ∨ x = 3 ∨ x = 4 ∨ x = 5 := by
  have h : x.toInt = 0 ∨ x.toInt = 1 ∨ x.toInt = 2 ∨ x.toInt = 3 ∨ x.toInt = 4 ∨ x.toInt = 5 := by omega
  rcases h with h | h | h | h | h | h
  · exact Or.inl (i32_of h 0 rfl)
  · exact Or.inr (Or.inl (i32_of h 1 rfl))
  · exact Or.inr (Or.inr (Or.inl (i32_of h 2 rfl)))
  · exact Or.inr (Or.inr (Or.inr (Or.inl (i32_of h 3 rfl))))
  · exact Or.inr (Or.inr (Or.inr (Or.inr (Or.inl (i32_of h 4 rfl)))))
  · exact Or.inr (Or.inr (Or.inr (Or.inr (Or.inr (i32_of h 5 rfl)))))
theorem bit_0 {i : Int32} (h0 : 0 ≤ i.toInt) (h5 : i.toInt ≤ 5) : ¬ ((0 : Int32) >>> (i &&& 31)) &&& 1 = 1 := by
  rcases i32_cases5 h0 h5 with h | h | h | h | h | h <;> subst h <;> decide
theorem bit_all {n : Int32} (h0 : 1 ≤ n.toInt) (h6 : n.toInt ≤ 6) : ∃ M : Int, 2 ≤ M ∧ M ≤ 64 ∧ ((1 : Int32) <<< (n &&& 31)).toInt = M ∧ ∀ g i : Int32, g.toInt = M - 1 → 0 ≤ i.toInt → i.toInt < n.toInt → (g >>> (i &&& 31)) &&& 1 = 1 := by
  have h : n.toInt = 1 ∨ n.toInt = 2 ∨ n.toInt = 3 ∨ n.toInt = 4 ∨ n.toInt = 5 ∨ n.toInt = 6 := by omega
  have key : ∀ (n' : Int32) (M : Int) (g' : Int32), n = n' → 2 ≤ M → M ≤ 64 → ((1 : Int32) <<< (n' &&& 31)).toInt = M → g'.toInt = M - 1 → (∀ i ∈ ([0, 1, 2, 3, 4, 5] : List Int32), i.toInt < n'.toInt → (g' >>> (i &&& 31)) &&& 1 = 1) → ∃ M : Int, 2 ≤ M ∧ M ≤ 64 ∧ ((1 : Int32) <<< (n &&& 31)).toInt = M ∧ ∀ g i : Int32, g.toInt = M - 1 → 0 ≤ i.toInt → i.toInt < n.toInt → (g >>> (i &&& 31)) &&& 1 = 1 := by
    intro n' M g' e a b c f q
    subst e
    refine ⟨M, a, b, c, fun g i hg hi1 hi2 => ?_⟩
    obtain rfl : g = g' := i32_of hg g' f
    refine q i ?_ hi2
    rcases i32_cases5 hi1 (by omega) with h | h | h | h | h | h <;> subst h <;> decide
  rcases h with h | h | h | h | h | h
  · exact key 1 2 1 (i32_of h 1 rfl) (by decide) (by decide) (by decide) (by decide) (by decide)
  · exact key 2 4 3 (i32_of h 2 rfl) (by decide) (by decide) (by decide) (by decide) (by decide)
  · exact key 3 8 7 (i32_of h 3 rfl) (by decide) (by decide) (by decide) (by decide) (by decide)
  · exact key 4 16 15 (i32_of h 4 rfl) (by decide) (by decide) (by decide) (by decide) (by decide)
  · exact key 5 32 31 (i32_of h 5 rfl) (by decide) (by decide) (by decide) (by decide) (by decide)
  · exact key 6 64 63 (i32_of h 6 rfl) (by decide) (by decide) (by decide) (by decide) (by decide)
theorem hd_has {d : Nat} (hd : 1 ≤ d) {g i : Int32} {I : Nat → Nat → Nat → Int32} {L : Nat → Nat → Nat → Int64} {k : jK} (h1 : (g >>> (i &&& 31)) &&& 1 = 1 → k (some (.inl (.inl 1))) (I, L)) (h0 : ¬ (g >>> (i &&& 31)) &&& 1 = 1 → k (some (.inl (.inl 0))) (I, L)) : jWPM d 125 [.inl (.inl g), .inl (.inl i)] (I, L) k := by
  obtain ⟨d, rfl⟩ : ∃ d', d = d' + 1 := ⟨d - 1, by omega⟩
  refine jWB_run [] 20 ?_
  conv => whnf
  refine ⟨fun h => ⟨Or.inl rfl, h0 h⟩, fun h => ⟨Or.inr rfl, h1 h⟩⟩
theorem i64_add' {x y : Int64} (h : -9223372036854775808 ≤ x.toInt + y.toInt ∧ x.toInt + y.toInt ≤ 9223372036854775807) : (x + y).toInt = x.toInt + y.toInt := by
  rw [Int64.toInt_add, bm64]; omega
set_option maxHeartbeats 4000000 in
theorem hd_tellThere {d : Nat} (hd : 9 ≤ d) {v p c : Int32} {I : Nat → Nat → Nat → Int32} {L : Nat → Nat → Nat → Int64} {k : jK} (hG : gG aGI I) (hp0 : 0 ≤ p.toInt) (hp12 : p.toInt ≤ 12) (hn : 1 ≤ (I 31 0 3).toInt) (hk : ∀ u v, k (some (.inl (.inl 1))) (I, jupL (jupL L 31 0 11 u) 31 0 12 v)) : jWPM d 204 [.inr (31, 0), .inl (.inl v), .inl (.inl p), .inl (.inl c)] (I, L) k := by
  obtain ⟨d, rfl⟩ : ∃ d', d = d' + 1 := ⟨d - 1, by omega⟩
  have hd : 8 ≤ d := by omega
  have hd1 : 1 ≤ d := by omega
  have hpk := gi_mpackets hG
  obtain ⟨M, hM2, hM64, hM, hbit⟩ := bit_all hn hpk.2
  have e12 : (12 - p).toInt = 12 - p.toInt := by rw [i32_sub (by simp; omega)]; simp
  have outer : ∀ (N : Nat) (a b : Int64) (g : Int32) (e9 e10 e11 e12 e13 : Option jV), M - g.toInt ≤ (N : Int) → 0 ≤ g.toInt → g.toInt ≤ M → 0 ≤ b.toInt → b.toInt ≤ g.toInt * 2985984 → (p.toInt < 12 → 1 ≤ g.toInt → 1 ≤ b.toInt) → (p.toInt = 12 → g.toInt = M → 1 ≤ b.toInt) → jWB (jWPM d) k none (jco 204) (9, [some (.inr (31, 0)), some (.inl (.inl v)), some (.inl (.inl p)), some (.inl (.inl c)), some (.inl (.inr a)), none, some (.inl (.inr b)), none, some (.inl (.inl g)), e9, e10, e11, e12, e13], [], I, L) := by
    have hexit : ∀ (a b : Int64) (g : Int32) (e9 e10 e11 e12 e13 : Option jV), g.toInt = M → 0 ≤ b.toInt → (p.toInt < 12 → 1 ≤ g.toInt → 1 ≤ b.toInt) → (p.toInt = 12 → g.toInt = M → 1 ≤ b.toInt) → jWB (jWPM d) k none (jco 204) (168, [some (.inr (31, 0)), some (.inl (.inl v)), some (.inl (.inl p)), some (.inl (.inl c)), some (.inl (.inr a)), none, some (.inl (.inr b)), none, some (.inl (.inl g)), e9, e10, e11, e12, e13], [], I, L) := by
      intro a b g e9 e10 e11 e12 e13 h1 h2 h3 h4
      have hb : 1 ≤ b.toInt := by
        rcases Int.lt_or_eq_of_le hp12 with h | h
        · exact h3 h (by omega)
        · exact h4 h h1
      refine jWB_run [] 20 ?_
      conv => whnf
      refine hd_tellParts hd1 (fun e => ?_) hk
      rw [e] at hb; exact absurd hb (by decide)
    intro N
    induction N with
    | zero =>
      intro a b g e9 e10 e11 e12 e13 h1 h2 h3 h4 h5 h6 h7
      refine jWB_run [9, 32, 168] 40 ?_
      conv => whnf
      refine ⟨fun h => hexit a b g e9 e10 e11 e12 e13 (by omega) h4 h6 h7, fun h => ?_⟩
      rw [le_t, hM] at h; exfalso; omega
    | succ N ih =>
      intro a b g e9 e10 e11 e12' e13 h1 h2 h3 h4 h5 h6 h7
      refine jWB_run [9, 32, 168] 40 ?_
      conv => whnf
      refine ⟨fun h => ?_, fun h => ?_⟩
      · rw [le_t, hM] at h
        exact hexit a b g e9 e10 e11 e12' e13 (by omega) h4 h6 h7
      rw [le_t, hM] at h
      have hg1 : (g + 1).toInt = g.toInt + 1 := by rw [i32_add (by simp; omega)]; simp
      have inner : ∀ (N : Nat) (w : Int64) (gr co i : Int32) (j : Nat), 6 - (j : Int) ≤ (N : Int) → i.toInt = (j : Int) → (j : Int) ≤ (I 31 0 3).toInt → 0 ≤ w.toInt → w.toInt ≤ (12 : Int) ^ j → (((p.toInt < 12 ∧ g.toInt = 0) ∨ (p.toInt = 12 ∧ g.toInt = M - 1)) → 1 ≤ w.toInt) → jWB (jWPM d) k none (jco 204) (32, [some (.inr (31, 0)), some (.inl (.inl v)), some (.inl (.inl p)), some (.inl (.inl c)), some (.inl (.inr a)), none, some (.inl (.inr b)), none, some (.inl (.inl g)), some (.inl (.inr w)), none, some (.inl (.inl gr)), some (.inl (.inl co)), some (.inl (.inl i))], [], I, L) := by
        have fin : ∀ (w : Int64) (gr co i : Int32), 0 ≤ w.toInt → w.toInt ≤ 2985984 → (((p.toInt < 12 ∧ g.toInt = 0) ∨ (p.toInt = 12 ∧ g.toInt = M - 1)) → 1 ≤ w.toInt) → jWB (jWPM d) k none (jco 204) (125, [some (.inr (31, 0)), some (.inl (.inl v)), some (.inl (.inl p)), some (.inl (.inl c)), some (.inl (.inr a)), none, some (.inl (.inr b)), none, some (.inl (.inl g)), some (.inl (.inr w)), none, some (.inl (.inl gr)), some (.inl (.inl co)), some (.inl (.inl i))], [], I, L) := by
          intro w gr co i w0 w1 w2
          have hbw : (b + w).toInt = b.toInt + w.toInt := i64_add' (by omega)
          have go : ∀ a' : Int64, jWB (jWPM d) k none (jco 204) (9, [some (.inr (31, 0)), some (.inl (.inl v)), some (.inl (.inl p)), some (.inl (.inl c)), some (.inl (.inr a')), none, some (.inl (.inr (b + w))), none, some (.inl (.inl (g + 1))), some (.inl (.inr w)), none, some (.inl (.inl gr)), some (.inl (.inl co)), some (.inl (.inl i))], [], I, L) := by
            intro a'
            refine ih a' (b + w) (g + 1) _ _ _ _ _ (by omega) (by omega) (by omega) (by omega) (by omega) (fun q1 q2 => ?_) (fun q1 q2 => ?_)
            · by_cases hg0 : g.toInt = 0
              · have := w2 (Or.inl ⟨q1, hg0⟩); omega
              · have := h6 q1 (by omega); omega
            · have := w2 (Or.inr ⟨q1, by omega⟩); omega
          refine jWB_run [9, 32, 168] 40 ?_
          conv => whnf
          refine ⟨fun q => ?_, fun q => ?_⟩
          · conv => whnf
            exact ⟨fun _ => go _, fun _ => go _⟩
          · exact go _
        intro N
        induction N with
        | zero =>
          intro w gr co i j i1 i2 i3 i4 i5 i6
          have hj : (12 : Int) ^ j ≤ 2985984 := by
            have : j = 6 := by omega
            subst this; decide
          refine jWB_run [9, 32, 125, 168] 60 ?_
          conv => whnf
          refine ⟨fun q => fin w gr co i i4 (by omega) i6, fun q => ?_⟩
          rw [le_t] at q; exfalso; omega
        | succ N ihi =>
          intro w gr co i j i1 i2 i3 i4 i5 i6
          have hj : ∀ j : Nat, (j : Int) ≤ 6 → (12 : Int) ^ j ≤ 2985984 := by
            intro j hj
            have : j = 0 ∨ j = 1 ∨ j = 2 ∨ j = 3 ∨ j = 4 ∨ j = 5 ∨ j = 6 := by omega
            rcases this with h | h | h | h | h | h | h <;> subst h <;> decide
          refine jWB_run [9, 32, 66, 125, 168] 60 ?_
          conv => whnf
          have hj6 := hj j (by omega)
          refine ⟨fun q => fin w gr co i i4 (by omega) i6, fun q => ?_⟩
          rw [le_t] at q
          have hi1 : (i + 1).toInt = i.toInt + 1 := by rw [i32_add (by simp; omega)]; simp
          have step : ∀ (f : Int64) (gr' co' : Int32), 0 ≤ f.toInt → f.toInt ≤ 12 → (((p.toInt < 12 ∧ g.toInt = 0) ∨ (p.toInt = 12 ∧ g.toInt = M - 1)) → 1 ≤ f.toInt) → jWB (jWPM d) k none (jco 204) (32, [some (.inr (31, 0)), some (.inl (.inl v)), some (.inl (.inl p)), some (.inl (.inl c)), some (.inl (.inr a)), none, some (.inl (.inr b)), none, some (.inl (.inl g)), some (.inl (.inr (w * f))), none, some (.inl (.inl gr')), some (.inl (.inl co')), some (.inl (.inl (i + 1)))], [], I, L) := by
            intro f gr' co' f0 f1 f2
            have m0 : 0 ≤ w.toInt * f.toInt := Int.mul_nonneg i4 f0
            have m1 : w.toInt * f.toInt ≤ (12 : Int) ^ j * 12 := Int.mul_le_mul i5 f1 f0 (by omega)
            have hwf : (w * f).toInt = w.toInt * f.toInt := i64_mul (by omega)
            refine ihi (w * f) gr' co' (i + 1) (j + 1) (by omega) (by omega) (by omega) (by omega) (by rw [hwf, Int.pow_succ]; exact m1) (fun q => ?_)
            rw [hwf]
            have := Int.mul_le_mul (i6 q) (f2 q) (by omega) i4
            omega
          conv => whnf
          have third : ∀ (f : Int64) (gr' : Int32), 0 ≤ f.toInt → f.toInt ≤ 12 → (((p.toInt < 12 ∧ g.toInt = 0) ∨ (p.toInt = 12 ∧ g.toInt = M - 1)) → 1 ≤ f.toInt) → jWB (jWPM d) k none (jco 204) (92, [some (.inr (31, 0)), some (.inl (.inl v)), some (.inl (.inl p)), some (.inl (.inl c)), some (.inl (.inr a)), none, some (.inl (.inr b)), none, some (.inl (.inl g)), some (.inl (.inr (w * f))), none, some (.inl (.inl gr')), some (.inl (.inl co)), some (.inl (.inl i))], [], I, L) := by
            intro f gr' f0 f1 f2
            refine jWB_run [9, 32, 125, 168] 60 ?_
            conv => whnf
            refine hd_has hd1 (fun q => ?_) (fun q => ?_)
            · conv => whnf
              refine ⟨fun h => absurd h (by decide), fun h => step f gr' _ f0 f1 f2⟩
            · conv => whnf
              refine ⟨fun h => ?_, fun h => absurd rfl h⟩
              conv => whnf
              refine use_c cT135 (Nat.le_trans (by decide) hd) ⟨⟨rfl, rfl, by simp, by simp⟩, ⟨rfl, by decide, by decide⟩, ⟨rfl, by simp only; omega, by simp only; omega⟩, ⟨rfl, by decide, by decide⟩, trivial⟩ hG (fun v I' L' r1 r2 r3 => ?_)
              obtain ⟨rfl, rfl⟩ := gR_nil r2
              obtain ⟨x, rfl, r4, r5⟩ := r3
              exact step f gr' _ f0 f1 f2
          have second : ∀ (f : Int64), 0 ≤ f.toInt → f.toInt ≤ 12 → (((p.toInt < 12 ∧ g.toInt = 0) ∨ (p.toInt = 12 ∧ g.toInt = M - 1)) → 1 ≤ f.toInt) → jWB (jWPM d) k none (jco 204) (66, [some (.inr (31, 0)), some (.inl (.inl v)), some (.inl (.inl p)), some (.inl (.inl c)), some (.inl (.inr a)), none, some (.inl (.inr b)), none, some (.inl (.inl g)), some (.inl (.inr (w * f))), none, some (.inl (.inl gr)), some (.inl (.inl co)), some (.inl (.inl i))], [], I, L) := by
            intro f f0 f1 f2
            refine jWB_run [9, 32, 92, 125, 168] 60 ?_
            conv => whnf
            refine hd_has hd1 (fun q => ?_) (fun q => ?_)
            · conv => whnf
              refine ⟨fun h => absurd h (by decide), fun h => third f _ f0 f1 f2⟩
            · conv => whnf
              refine ⟨fun h => ?_, fun h => absurd rfl h⟩
              conv => whnf
              refine use_c cT138 (Nat.le_trans (by decide) hd) ⟨⟨rfl, rfl, by simp, by simp⟩, ⟨rfl, by decide, by decide⟩, ⟨rfl, by simp only; omega, by simp only; omega⟩, trivial⟩ hG (fun v I' L' r1 r2 r3 => ?_)
              obtain ⟨rfl, rfl⟩ := gR_nil r2
              obtain ⟨x, rfl, r4, r5⟩ := r3
              exact third f _ f0 f1 f2
          refine hd_has hd1 (fun q => ?_) (fun q => ?_)
          · conv => whnf
            refine ⟨fun h => absurd h (by decide), fun h => ?_⟩
            refine second p.toInt64 (by rw [Int32.toInt_toInt64]; omega) (by rw [Int32.toInt_toInt64]; omega) (fun z => ?_)
            rw [Int32.toInt_toInt64]
            rcases z with z | z
            · exfalso
              obtain rfl : g = 0 := i32_of z.2 0 rfl
              exact bit_0 (by omega) (by omega) q
            · omega
          · conv => whnf
            refine ⟨fun h => ?_, fun h => absurd rfl h⟩
            refine second (12 - p).toInt64 (by rw [Int32.toInt_toInt64]; omega) (by rw [Int32.toInt_toInt64]; omega) (fun z => ?_)
            rw [Int32.toInt_toInt64]
            rcases z with z | z
            · omega
            · exact absurd (hbit g i z.2 (by omega) (by omega)) q
      exact inner 6 1 0 0 0 0 (by decide) (by decide) (by omega) (by decide) (by decide) (fun _ => by decide)
  refine jWB_run [9] 20 ?_
  refine outer 64 0 0 0 _ _ _ _ _ (by simp; omega) (by decide) (by simp; omega) (by decide) (by decide) (fun _ h => absurd h (by decide)) (fun _ h => ?_)
  have h : (0 : Int) = M := h
  omega
theorem gR_parts {I : Nat → Nat → Nat → Int32} {L : Nat → Nat → Nat → Int64} {u v : Int64} : gR [(31, (0, 0), (11, 12))] I L I (jupL (jupL L 31 0 11 u) 31 0 12 v) := gR_upL (gR_upL gR_rf ⟨_, List.mem_cons_self, rfl, by simp, by simp, by simp, by simp⟩) ⟨_, List.mem_cons_self, rfl, by simp, by simp, by simp, by simp⟩
set_option maxHeartbeats 1000000 in
theorem hK_mmid : aKP aGI 206 ([(2, 31, (0, 0)), (0, 0, ((-2147483648), 2147483647))], (1, ((-4), 1)), [(31, (0, 0), (11, 12))], 10) := by
  intro d hd as I0 L0 has hG k hk
  obtain ⟨d, rfl⟩ : ∃ d', d = d' + 1 := ⟨d - 1, by simp at hd; omega⟩
  have hd : 9 ≤ d := by simp at hd; omega
  dsimp only at hk
  match as, has with
  | [.inr (g0, n0), .inl (.inl p)], has =>
    obtain ⟨⟨-, e1, e2, e3⟩, -⟩ := has
    dsimp only at e1 e2 e3
    obtain rfl : n0 = 0 := by omega
    subst e1
    have hp := gi_mpackets hG
    refine jWB_run [] 40 ?_
    conv => whnf
    refine hd_in (Nat.le_trans (by decide) hd) (fun a b => ?_) (fun a => ?_)
    · rw [Int32.toInt_toInt64] at a b
      conv => whnf
      refine ⟨fun _ => ?_, fun h => absurd h (by decide)⟩
      conv => whnf
      refine ⟨fun h => ?_, fun h => hk _ _ _ hG gR_rf ⟨-4, rfl, by decide, by decide⟩⟩
      conv => whnf
      have hn : (I0 31 0 3).toInt ≠ 0 := fun e => h (i32_of e 0 rfl)
      refine hd_tellThere (Nat.le_trans (by decide) hd) hG (by simpa using a) (by simpa using b) (by omega) (fun u v => ?_)
      exact hk _ _ _ hG gR_parts ⟨1, rfl, by decide, by decide⟩
    · conv => whnf
      refine ⟨fun h => absurd rfl h, fun h => hk _ _ _ hG gR_rf ⟨-1, rfl, by decide, by decide⟩⟩
set_option maxHeartbeats 1000000 in
theorem hK_modds : aKP aGI 205 ([(2, 31, (0, 0)), (0, 0, ((-2147483648), 2147483647)), (0, 0, ((-2147483648), 2147483647))], (1, ((-4), 1)), [(31, (0, 0), (11, 12))], 10) := by
  intro d hd as I0 L0 has hG k hk
  obtain ⟨d, rfl⟩ : ∃ d', d = d' + 1 := ⟨d - 1, by simp at hd; omega⟩
  have hd : 9 ≤ d := by simp at hd; omega
  dsimp only at hk
  match as, has with
  | [.inr (g0, n0), .inl (.inl v), .inl (.inl p)], has =>
    obtain ⟨⟨-, e1, e2, e3⟩, -⟩ := has
    dsimp only at e1 e2 e3
    obtain rfl : n0 = 0 := by omega
    subst e1
    have hp := gi_mpackets hG
    refine jWB_run [] 40 ?_
    conv => whnf
    refine hd_in (Nat.le_trans (by decide) hd) (fun _ _ => ?_) (fun _ => ?_)
    · conv => whnf
      refine ⟨fun h => absurd h (by decide), fun _ => ?_⟩
      conv => whnf
      refine hd_in (Nat.le_trans (by decide) hd) (fun a b => ?_) (fun a => ?_)
      · rw [Int32.toInt_toInt64] at a b
        conv => whnf
        refine ⟨fun _ => ?_, fun h => absurd h (by decide)⟩
        conv => whnf
        refine ⟨fun h => ?_, fun h => hk _ _ _ hG gR_rf ⟨-4, rfl, by decide, by decide⟩⟩
        conv => whnf
        have hn : (I0 31 0 3).toInt ≠ 0 := fun e => h (i32_of e 0 rfl)
        refine hd_tellThere (Nat.le_trans (by decide) hd) hG (by simpa using a) (by simpa using b) (by omega) (fun u v => ?_)
        exact hk _ _ _ hG gR_parts ⟨1, rfl, by decide, by decide⟩
      · conv => whnf
        refine ⟨fun h => absurd rfl h, fun h => hk _ _ _ hG gR_rf ⟨-1, rfl, by decide, by decide⟩⟩
    · conv => whnf
      refine ⟨fun h => hk _ _ _ hG gR_rf ⟨-1, rfl, by decide, by decide⟩, fun h => absurd rfl h⟩
end
section
theorem gG_upn {I : Nat → Nat → Nat → Int32} {g i j : Nat} {x : Int32} (h : gG aGI I) (hn : ∀ e ∈ aGI, ¬ (e.1 = g ∧ e.2.2.1.1 ≤ (j : Int) ∧ (j : Int) ≤ e.2.2.1.2)) : gG aGI (jup I g i j x) := fun e he i' j' a1 a2 a3 a4 => by
  rw [jup_of (fun q => hn e he ⟨q.1, by rw [← q.2.2]; exact ⟨a3, a4⟩⟩)]
  exact h e he i' j' a1 a2 a3 a4
theorem gG_up1 {I : Nat → Nat → Nat → Int32} {g i j : Nat} {x : Int32} (h : gG aGI I) (hn : ∀ e ∈ aGI, e.1 = g → e.2.2.1.1 ≤ (j : Int) → (j : Int) ≤ e.2.2.1.2 → e.2.2.2.1 ≤ x.toInt ∧ x.toInt ≤ e.2.2.2.2) : gG aGI (jup I g i j x) := fun e he i' j' a1 a2 a3 a4 => by
  by_cases q : e.1 = g ∧ i' = i ∧ j' = j
  · have : jup I g i j x e.1 i' j' = x := by unfold jup; rw [if_pos q]
    rw [this]
    exact hn e he q.1 (by rw [← q.2.2]; exact a3) (by rw [← q.2.2]; exact a4)
  · rw [jup_of q]
    exact h e he i' j' a1 a2 a3 a4
noncomputable def rd (I : Nat → Nat → Nat → Int32) : Prop := 0 ≤ (I 31 0 15).toInt ∧ (I 31 0 15).toInt ≤ 180 ∧ (I 31 0 17).toInt ≤ 60 ∧ 0 ≤ (I 31 0 16).toInt ∧ (I 31 0 16).toInt ≤ (I 31 0 17).toInt
noncomputable def oP (I I' : Nat → Nat → Nat → Int32) : Prop := (∀ g i j, ¬ (g = 31 ∧ i = 0 ∧ j = 16) → I' g i j = I g i j) ∧ (I 31 0 16).toInt ≤ (I' 31 0 16).toInt ∧ (I' 31 0 16).toInt ≤ (I 31 0 17).toInt
theorem oP_rf {I : Nat → Nat → Nat → Int32} (h : rd I) : oP I I := ⟨fun _ _ _ _ => rfl, Int.le_refl _, h.2.2.2.2⟩
theorem oP_rd {I I' : Nat → Nat → Nat → Int32} (h : rd I) (o : oP I I') : rd I' := by
  have e1 := o.1 31 0 15 (by decide)
  have e2 := o.1 31 0 17 (by decide)
  obtain ⟨a, b, c, d, e⟩ := h
  obtain ⟨-, p, q⟩ := o
  unfold rd
  rw [e1, e2]
  exact ⟨a, b, c, by omega, by omega⟩
theorem oP_tr {I I' I'' : Nat → Nat → Nat → Int32} (o : oP I I') (p : oP I' I'') : oP I I'' := by
  have e2 := o.1 31 0 17 (by decide)
  obtain ⟨a, b, c⟩ := o
  obtain ⟨a', b', c'⟩ := p
  refine ⟨fun g i j h => (a' g i j h).trans (a g i j h), by omega, by rw [← e2]; exact c'⟩
theorem oP_gG {I I' : Nat → Nat → Nat → Int32} (h : gG aGI I) (o : oP I I') : gG aGI I' := fun e he i j a1 a2 a3 a4 => by
  rw [o.1 e.1 i j (fun q => ?_)]
  · exact h e he i j a1 a2 a3 a4
  · obtain ⟨c1, c2, c3⟩ := q
    revert c1 a1 a2 a3 a4
    subst c2; subst c3
    revert e
    decide
theorem oP_up {I : Nat → Nat → Nat → Int32} {x : Int32} (h1 : (I 31 0 16).toInt ≤ x.toInt) (h2 : x.toInt ≤ (I 31 0 17).toInt) : oP I (jup I 31 0 16 x) := ⟨fun g i j q => jup_of q, by simpa [jup] using h1, by simpa [jup] using h2⟩
theorem hd_here {d : Nat} (hd : 1 ≤ d) {I : Nat → Nat → Nat → Int32} {L : Nat → Nat → Nat → Int64} {k : jK} (h : rd I) (hp : (I 31 0 16).toInt < (I 31 0 17).toInt) (hk : k (some (.inl (.inl (I 38 0 (I 31 0 15 + I 31 0 16).toNatClampNeg)))) (I, L)) : jWPM d 141 [.inr (31, 0)] (I, L) k := by
  obtain ⟨d, rfl⟩ : ∃ d', d = d' + 1 := ⟨d - 1, by omega⟩
  obtain ⟨h1, h2, h3, h4, h5⟩ := h
  refine jWB_run [] 20 ?_
  conv => whnf
  exact ⟨vp_in_iff.mpr (by rw [i32_add (by omega)]; omega), hk⟩
theorem hd_skip {d : Nat} (hd : 2 ≤ d) {I : Nat → Nat → Nat → Int32} {L : Nat → Nat → Nat → Int64} {k : jK} (h : rd I) (hk : ∀ I', oP I I' → k none (I', L)) : jWPM d 142 [.inr (31, 0)] (I, L) k := by
  obtain ⟨d, rfl⟩ : ∃ d', d = d' + 1 := ⟨d - 1, by omega⟩
  have hd : 1 ≤ d := by omega
  have loop : ∀ (N : Nat) (I' : Nat → Nat → Nat → Int32), (I' 31 0 17).toInt - (I' 31 0 16).toInt ≤ (N : Int) → oP I I' → jWB (jWPM d) k none (jco 142) (0, [some (.inr (31, 0))], [], I', L) := by
    intro N
    induction N with
    | zero =>
      intro I' h1 h2
      refine jWB_run [] 20 ?_
      conv => whnf
      refine ⟨fun q => hk _ h2, fun q => ?_⟩
      rw [le_t] at q; exfalso; omega
    | succ N ih =>
      intro I' h1 h2
      refine jWB_run [0] 20 ?_
      conv => whnf
      refine ⟨fun q => hk _ h2, fun q => ?_⟩
      rw [le_t] at q
      have hr := oP_rd h h2
      conv => whnf
      refine hd_here hd hr (by omega) ?_
      conv => whnf
      refine ⟨fun q => hk _ h2, fun q2 => ?_⟩
      obtain ⟨r1, r2, r3, r4, r5⟩ := hr
      have e : (I' 31 0 16 + 1).toInt = (I' 31 0 16).toInt + 1 := by rw [i32_add (by simp; omega)]; simp
      exact ih (jup I' 31 0 16 (I' 31 0 16 + 1)) (by show (I' 31 0 17).toInt - (I' 31 0 16 + 1).toInt ≤ _; omega) (oP_tr h2 (oP_up (by omega) (by omega)))
  exact loop ((I 31 0 17).toInt - (I 31 0 16).toInt).toNat I (by omega) (oP_rf h)
set_option maxHeartbeats 1000000 in
theorem hd_figure {d : Nat} (hd : 2 ≤ d) {I : Nat → Nat → Nat → Int32} {L : Nat → Nat → Nat → Int64} {k : jK} {lo hi : Int32} (h : rd I) (hl0 : 0 ≤ lo.toInt) (hl : lo.toInt ≤ 9) (hh0 : 0 ≤ hi.toInt) (hh : hi.toInt ≤ 9) (hk : ∀ I' v, oP I I' → (v = -9 ∨ (lo.toInt ≤ v.toInt ∧ v.toInt ≤ hi.toInt)) → k (some (.inl (.inl v))) (I', L)) : jWPM d 143 [.inr (31, 0), .inl (.inl lo), .inl (.inl hi)] (I, L) k := by
  obtain ⟨d, rfl⟩ : ∃ d', d = d' + 1 := ⟨d - 1, by omega⟩
  have hd : 1 ≤ d := by omega
  have hr := h
  obtain ⟨r1, r2, r3, r4, r5⟩ := hr
  refine jWB_run [] 60 ?_
  conv => whnf
  refine ⟨fun q => hk _ _ (oP_rf h) (Or.inl rfl), fun q => ?_⟩
  have hne : (I 31 0 16).toInt ≠ (I 31 0 17).toInt := fun e => q (Int32.toInt_inj.mp e)
  conv => whnf
  refine hd_here hd h (by omega) ?_
  conv => whnf
  have el : (48 + lo).toInt = 48 + lo.toInt := by rw [i32_add (by simp; omega)]; simp
  have eh : (48 + hi).toInt = 48 + hi.toInt := by rw [i32_add (by simp; omega)]; simp
  have e : (I 31 0 16 + 1).toInt = (I 31 0 16).toInt + 1 := by rw [i32_add (by simp; omega)]; simp
  have es : (I 31 0 15 + I 31 0 16).toInt = (I 31 0 15).toInt + (I 31 0 16).toInt := i32_add (by omega)
  have es2 : (I 31 0 15 + (I 31 0 16 + 1)).toInt = (I 31 0 15).toInt + (I 31 0 16).toInt + 1 := by rw [i32_add (by omega), e]; omega
  have es3 : I 31 0 15 + (I 31 0 16 + 1) - 1 = I 31 0 15 + I 31 0 16 := Int32.toInt_inj.mp (by rw [i32_sub (by rw [es2]; simp; omega), es2, es]; simp)
  refine hd_in hd (fun a b => ?_) (fun a => ?_)
  · rw [Int32.toInt_toInt64, Int32.toInt_toInt64] at a b
    rw [el] at a
    rw [eh] at b
    conv => whnf
    refine ⟨fun _ => ?_, fun h => absurd h (by decide)⟩
    conv => whnf
    have c1 : jup I 31 0 16 (I 31 0 16 + 1) 31 0 15 = I 31 0 15 := rfl
    have c2 : jup I 31 0 16 (I 31 0 16 + 1) 31 0 16 = I 31 0 16 + 1 := rfl
    have c3 : ∀ j, jup I 31 0 16 (I 31 0 16 + 1) 38 0 j = I 38 0 j := fun j => rfl
    rw [c1, c2, es3]
    refine ⟨vp_in_iff.mpr (by omega), ?_⟩
    conv => whnf
    rw [c3]
    refine hk _ _ (oP_up (by omega) (by omega)) (Or.inr ?_)
    rw [i32_sub (by simp; omega)]
    simp
    omega
  · conv => whnf
    exact ⟨fun h => absurd rfl h, fun _ => hk _ _ (oP_rf h) (Or.inl rfl)⟩
theorem hd_twoFigures {d : Nat} (hd : 3 ≤ d) {I : Nat → Nat → Nat → Int32} {L : Nat → Nat → Nat → Int64} {k : jK} (h : rd I) (hk : ∀ I' v, oP I I' → k (some (.inl (.inl v))) (I', L)) : jWPM d 144 [.inr (31, 0)] (I, L) k := by
  obtain ⟨d, rfl⟩ : ∃ d', d = d' + 1 := ⟨d - 1, by omega⟩
  have hd : 2 ≤ d := by omega
  refine jWB_run [] 60 ?_
  conv => whnf
  refine hd_figure hd h (by decide) (by decide) (by decide) (by decide) (fun I' v o1 hv => ?_)
  conv => whnf
  refine ⟨fun q => ?_, fun q => ?_⟩
  · conv => whnf
    refine hd_figure hd (oP_rd h o1) (by decide) (by decide) (by decide) (by decide) (fun I'' v o2 hv => ?_)
    conv => whnf
    exact ⟨fun q => hk _ _ (oP_tr o1 o2), fun q => hk _ _ (oP_tr o1 o2)⟩
  · conv => whnf
    exact ⟨fun q => hk _ _ o1, fun q => hk _ _ o1⟩
end
section
noncomputable def rdW : List aR := [(31, (0, 0), (15, 21)), (40, (0, 0), (0, 23))]
noncomputable def rP (I : Nat → Nat → Nat → Int32) : Prop := ∀ j : Nat, (j : Int) < (I 31 0 21).toInt → 0 ≤ (I 40 0 (4 * j + 3)).toInt ∧ (I 40 0 (4 * j + 3)).toInt ≤ 9
theorem gR_31 {I0 I : Nat → Nat → Nat → Int32} {L0 L : Nat → Nat → Nat → Int64} {j : Nat} {x : Int32} (h : gR rdW I0 L0 I L) (h1 : 15 ≤ j) (h2 : j ≤ 21) : gR rdW I0 L0 (jup I 31 0 j x) L := gR_upI h ⟨(31, (0, 0), (15, 21)), List.mem_cons_self, rfl, by simp, by simp, by simp; omega, by simp; omega⟩
theorem gR_40 {I0 I : Nat → Nat → Nat → Int32} {L0 L : Nat → Nat → Nat → Int64} {j : Nat} {x : Int32} (h : gR rdW I0 L0 I L) (h2 : j ≤ 23) : gR rdW I0 L0 (jup I 40 0 j x) L := gR_upI h ⟨(40, (0, 0), (0, 23)), List.mem_cons_of_mem _ List.mem_cons_self, rfl, by simp, by simp, by simp, by simp; omega⟩
theorem gR_oP {I0 I I' : Nat → Nat → Nat → Int32} {L0 L : Nat → Nat → Nat → Int64} (h : gR rdW I0 L0 I L) (o : oP I I') : gR rdW I0 L0 I' L := fun g i j hn => by
  rw [o.1 g i j (fun q => hn ?_)]
  · exact h g i j hn
  · rw [q.1, q.2.1, q.2.2]
    exact ⟨(31, (0, 0), (15, 21)), List.mem_cons_self, rfl, by simp, by simp, by simp, by simp⟩
theorem rP_oP {I I' : Nat → Nat → Nat → Int32} (h : rP I) (o : oP I I') : rP I' := fun j hj => by
  rw [o.1 31 0 21 (by decide)] at hj
  rw [o.1 40 0 (4 * j + 3) (fun q => absurd q.1 (by decide))]
  exact h j hj
/-- what the reader keeps: bounds, frame, place, packets read -/
noncomputable def rI (I0 : Nat → Nat → Nat → Int32) (L0 : Nat → Nat → Nat → Int64) (I : Nat → Nat → Nat → Int32) (L : Nat → Nat → Nat → Int64) : Prop := gG aGI I ∧ gR rdW I0 L0 I L ∧ rd I ∧ rP I
theorem rI_oP {I0 I I' : Nat → Nat → Nat → Int32} {L0 L : Nat → Nat → Nat → Int64} (h : rI I0 L0 I L) (o : oP I I') : rI I0 L0 I' L := ⟨oP_gG h.1 o, gR_oP h.2.1 o, oP_rd h.2.2.1 o, rP_oP h.2.2.2 o⟩
theorem rI_18 {I0 I : Nat → Nat → Nat → Int32} {L0 L : Nat → Nat → Nat → Int64} {x : Int32} (h : rI I0 L0 I L) : rI I0 L0 (jup I 31 0 18 x) L := ⟨gG_upn h.1 (by decide), gR_31 h.2.1 (by decide) (by decide), h.2.2.1, h.2.2.2⟩
theorem rI_19 {I0 I : Nat → Nat → Nat → Int32} {L0 L : Nat → Nat → Nat → Int64} {x : Int32} (h : rI I0 L0 I L) : rI I0 L0 (jup I 31 0 19 x) L := ⟨gG_upn h.1 (by decide), gR_31 h.2.1 (by decide) (by decide), h.2.2.1, h.2.2.2⟩
set_option maxHeartbeats 1000000 in
theorem hd_readsNeed {d : Nat} (hd : 4 ≤ d) {I0 I : Nat → Nat → Nat → Int32} {L0 L : Nat → Nat → Nat → Int64} {k : jK} (h : rI I0 L0 I L) (hk : ∀ I' v, rI I0 L0 I' L → (v = 0 ∨ v = 1) → k (some (.inl (.inl v))) (I', L)) : jWPM d 145 [.inr (31, 0)] (I, L) k := by
  obtain ⟨d, rfl⟩ : ∃ d', d = d' + 1 := ⟨d - 1, by omega⟩
  have hd : 3 ≤ d := by omega
  refine jWB_run [] 60 ?_
  conv => whnf
  refine hd_skip (Nat.le_trans (by decide) hd) h.2.2.1 (fun I1 o1 => ?_)
  have h1 := rI_oP h o1
  have hr := h1.2.2.1
  obtain ⟨r1, r2, r3, r4, r5⟩ := hr
  conv => whnf
  refine ⟨fun q => ⟨Or.inl rfl, hk _ _ h1 (Or.inl rfl)⟩, fun q => ?_⟩
  have hne : (I1 31 0 16).toInt ≠ (I1 31 0 17).toInt := fun e => q (Int32.toInt_inj.mp e)
  conv => whnf
  refine hd_here (Nat.le_trans (by decide) hd) h1.2.2.1 (by omega) ?_
  conv => whnf
  refine ⟨fun q => ?_, fun q => ⟨Or.inl rfl, hk _ _ h1 (Or.inl rfl)⟩⟩
  have e : (I1 31 0 16 + 1).toInt = (I1 31 0 16).toInt + 1 := by rw [i32_add (by simp; omega)]; simp
  have h2 := rI_oP h1 (oP_up (x := I1 31 0 16 + 1) (by omega) (by omega))
  conv => whnf
  refine hd_figure (Nat.le_trans (by decide) hd) h2.2.2.1 (by decide) (by decide) (by decide) (by decide) (fun I3 v o3 hv => ?_)
  have h3 := rI_18 (x := v) (rI_oP h2 o3)
  conv => whnf
  refine ⟨fun q => ?_, fun q => ?_⟩
  · conv => whnf
    refine hd_twoFigures (Nat.le_trans (by decide) hd) h3.2.2.1 (fun I4 v o4 => ?_)
    have h4 := rI_19 (x := v) (rI_oP h3 o4)
    conv => whnf
    exact ⟨fun q => ⟨Or.inl rfl, hk _ _ h4 (Or.inl rfl)⟩, fun q => ⟨Or.inr rfl, hk _ _ h4 (Or.inr rfl)⟩⟩
  · conv => whnf
    have h4 := rI_19 (x := -9) h3
    exact ⟨fun q => ⟨Or.inl rfl, hk _ _ h4 (Or.inl rfl)⟩, fun q => ⟨Or.inr rfl, hk _ _ h4 (Or.inr rfl)⟩⟩
theorem gi_many {I : Nat → Nat → Nat → Int32} (h : gG aGI I) : 0 ≤ (I 31 0 21).toInt ∧ (I 31 0 21).toInt ≤ 6 := h (31, (0, 0), (21, 21), (0, 6)) (by decide) 0 21 (by decide) (by decide) (by decide) (by decide)
theorem rI_40 {I0 I : Nat → Nat → Nat → Int32} {L0 L : Nat → Nat → Nat → Int64} {j : Nat} {x : Int32} (h : rI I0 L0 I L) (h1 : 4 * (I 31 0 21).toInt ≤ (j : Int)) (h2 : j ≤ 23) : rI I0 L0 (jup I 40 0 j x) L := ⟨gG_up h.1 (by decide), gR_40 h.2.1 h2, h.2.2.1, fun i hi => by
  have hi : (i : Int) < (I 31 0 21).toInt := hi
  rw [jup_of (fun q => by omega)]
  exact h.2.2.2 i hi⟩
set_option maxHeartbeats 2000000 in
theorem hd_readsPacket {d : Nat} (hd : 4 ≤ d) {I0 I : Nat → Nat → Nat → Int32} {L0 L : Nat → Nat → Nat → Int64} {k : jK} (h : rI I0 L0 I L) (hp : (I 31 0 16).toInt < (I 31 0 17).toInt) (hk : ∀ I' v, rI I0 L0 I' L → (v = 0 ∨ (v = 1 ∧ (I' 31 0 17).toInt - (I' 31 0 16).toInt < (I 31 0 17).toInt - (I 31 0 16).toInt)) → k (some (.inl (.inl v))) (I', L)) : jWPM d 147 [.inr (31, 0)] (I, L) k := by
  obtain ⟨d, rfl⟩ : ∃ d', d = d' + 1 := ⟨d - 1, by omega⟩
  have hd : 3 ≤ d := by omega
  have hr := h.2.2.1
  obtain ⟨r1, r2, r3, r4, r5⟩ := hr
  have hm := gi_many h.1
  have eb : (4 * I 31 0 21).toInt = 4 * (I 31 0 21).toInt := by rw [i32_mul (by simp; omega)]; simp
  refine jWB_run [67] 60 ?_
  conv => whnf
  refine hd_here (Nat.le_trans (by decide) hd) h.2.2.1 (by omega) ?_
  conv => whnf
  refine use_c cT133 (Nat.le_trans (by decide) hd) ⟨⟨rfl, (i32_rng _).1, (i32_rng _).2⟩, trivial⟩ h.1 (fun v I' L' g1 g2 g3 => ?_)
  obtain ⟨rfl, rfl⟩ := gR_nil g2
  obtain ⟨kd, rfl, -, -⟩ := g3
  conv => whnf
  refine ⟨fun q => ⟨Or.inl rfl, hk _ _ h (Or.inl rfl)⟩, fun q => ?_⟩
  conv => whnf
  refine ⟨fun q6 => ?_, fun q => ⟨Or.inl rfl, hk _ _ h (Or.inl rfl)⟩⟩
  have hm6 : (I' 31 0 21).toInt ≠ 6 := fun e => q6 (i32_of e 6 rfl)
  have e : (I' 31 0 16 + 1).toInt = (I' 31 0 16).toInt + 1 := by rw [i32_add (by simp; omega)]; simp
  have o1 : oP I' (jup I' 31 0 16 (I' 31 0 16 + 1)) := oP_up (by omega) (by omega)
  have h1 := rI_oP h o1
  have m1 : (I' 31 0 16).toInt + 1 ≤ (jup I' 31 0 16 (I' 31 0 16 + 1) 31 0 16).toInt := by show _ ≤ (I' 31 0 16 + 1).toInt; omega
  conv => whnf
  revert m1 o1 h1
  generalize jup I' 31 0 16 (I' 31 0 16 + 1) = J1
  intro o1 h1 m1
  refine hd_figure (Nat.le_trans (by decide) hd) h1.2.2.1 (by decide) (by decide) (by decide) (by decide) (fun J2 gr o2 hv => ?_)
  have keepq : ∀ (J : Nat → Nat → Nat → Int32) (pr : Int32), oP J2 J → jWB (jWPM d) k none (jco 147) (67, [some (.inr (31, 0)), some (.inl (.inl (4 * I' 31 0 21))), some (.inl (.inl kd)), some (.inl (.inl gr)), some (.inl (.inl pr)), none], [], J, L') := by
    intro J pr oJ
    have o3 := oP_tr o1 (oP_tr o2 oJ)
    have h3 := rI_oP h o3
    have last : ∀ (J' : Nat → Nat → Nat → Int32) (ke : Int32), oP J J' → (ke = -9 ∨ (1 ≤ ke.toInt ∧ ke.toInt ≤ 9)) → jWB (jWPM d) k none (jco 147) (88, [some (.inr (31, 0)), some (.inl (.inl (4 * I' 31 0 21))), some (.inl (.inl kd)), some (.inl (.inl gr)), some (.inl (.inl pr)), some (.inl (.inl ke))], [], J', L') := by
      intro J' ke oJ' hke
      have o4 := oP_tr o3 oJ'
      have h4 := rI_oP h o4
      refine jWB_run [] 60 ?_
      conv => whnf
      refine ⟨fun q => ?_, fun q => ⟨Or.inl rfl, hk _ _ h4 (Or.inl rfl)⟩⟩
      have hke := hke.resolve_left q
      have em : J' 31 0 21 = I' 31 0 21 := o4.1 31 0 21 (by decide)
      have e17 : J' 31 0 17 = I' 31 0 17 := o4.1 31 0 17 (by decide)
      have hpl : (I' 31 0 16).toInt + 1 ≤ (J' 31 0 16).toInt := by
        have := o2.2.1; have := oJ.2.1; have := oJ'.2.1; omega
      have ib : (4 * I' 31 0 21).toNatClampNeg = 4 * (I' 31 0 21).toInt.toNat := by have := cl_t (x := 4 * I' 31 0 21) (by omega); omega
      have ib1 : (4 * I' 31 0 21 + 1).toInt = 4 * (I' 31 0 21).toInt + 1 := by rw [i32_add (by rw [eb]; simp; omega), eb]; simp
      have ib2 : (4 * I' 31 0 21 + 2).toInt = 4 * (I' 31 0 21).toInt + 2 := by rw [i32_add (by rw [eb]; simp; omega), eb]; simp
      have ib3 : (4 * I' 31 0 21 + 3).toInt = 4 * (I' 31 0 21).toInt + 3 := by rw [i32_add (by rw [eb]; simp; omega), eb]; simp
      have n1 : (4 * I' 31 0 21 + 1).toNatClampNeg = 4 * (I' 31 0 21).toInt.toNat + 1 := by have := cl_t (x := 4 * I' 31 0 21 + 1) (by omega); omega
      have n2 : (4 * I' 31 0 21 + 2).toNatClampNeg = 4 * (I' 31 0 21).toInt.toNat + 2 := by have := cl_t (x := 4 * I' 31 0 21 + 2) (by omega); omega
      have n3 : (4 * I' 31 0 21 + 3).toNatClampNeg = 4 * (I' 31 0 21).toInt.toNat + 3 := by have := cl_t (x := 4 * I' 31 0 21 + 3) (by omega); omega
      conv => whnf
      refine ⟨vp_in_iff.mpr (by omega), ?_⟩
      conv => whnf
      refine ⟨vp_in_iff.mpr (by omega), ?_⟩
      conv => whnf
      refine ⟨vp_in_iff.mpr (by omega), ?_⟩
      conv => whnf
      refine ⟨vp_in_iff.mpr (by omega), ?_⟩
      conv => whnf
      rw [ib, n1, n2, n3]
      refine ⟨Or.inr rfl, ?_⟩
      have hem : (J' 31 0 21).toInt = (I' 31 0 21).toInt := by rw [em]
      have w1 := rI_40 (j := 4 * (I' 31 0 21).toInt.toNat) (x := kd) h4 (by omega) (by omega)
      have w2 := rI_40 (j := 4 * (I' 31 0 21).toInt.toNat + 1) (x := gr) w1 (by show 4 * (J' 31 0 21).toInt ≤ _; omega) (by omega)
      have w3 := rI_40 (j := 4 * (I' 31 0 21).toInt.toNat + 2) (x := pr) w2 (by show 4 * (J' 31 0 21).toInt ≤ _; omega) (by omega)
      have w4 := rI_40 (j := 4 * (I' 31 0 21).toInt.toNat + 3) (x := ke) w3 (by show 4 * (J' 31 0 21).toInt ≤ _; omega) (by omega)
      have em1 : (J' 31 0 21 + 1).toInt = (I' 31 0 21).toInt + 1 := by rw [em, i32_add (by simp; omega)]; simp
      refine hk _ _ ⟨gG_up1 w4.1 ?_, gR_31 w4.2.1 (by decide) (by decide), w4.2.2.1, ?_⟩ (Or.inr ⟨rfl, ?_⟩)
      · have hx : 0 ≤ (J' 31 0 21 + 1).toInt ∧ (J' 31 0 21 + 1).toInt ≤ 6 := by omega
        revert hx
        show 0 ≤ (J' 31 0 21 + 1).toInt ∧ (J' 31 0 21 + 1).toInt ≤ 6 → ∀ e ∈ aGI, e.1 = 31 → e.2.2.1.1 ≤ 21 → 21 ≤ e.2.2.1.2 → e.2.2.2.1 ≤ (J' 31 0 21 + 1).toInt ∧ (J' 31 0 21 + 1).toInt ≤ e.2.2.2.2
        generalize (J' 31 0 21 + 1).toInt = z
        intro hx e he a b c
        have : ∀ e ∈ aGI, e.1 = 31 → e.2.2.1.1 ≤ 21 → 21 ≤ e.2.2.1.2 → e.2.2.2 = (0, 6) := by decide
        rw [this e he a b c]; exact hx
      · intro i hi
        have hi : (i : Int) < (J' 31 0 21 + 1).toInt := hi
        by_cases c : i = (I' 31 0 21).toInt.toNat
        · subst c
          have : ∀ (A : Nat → Nat → Nat → Int32) (y : Int32), jup (jup A 40 0 (4 * (I' 31 0 21).toInt.toNat + 3) ke) 31 0 21 y 40 0 (4 * (I' 31 0 21).toInt.toNat + 3) = ke := fun A y => by simp [jup]
          rw [this]; omega
        · exact w4.2.2.2 i (by show (i : Int) < (J' 31 0 21).toInt; omega)
      · show (J' 31 0 17).toInt - (J' 31 0 16).toInt < _
        rw [e17]; omega
    refine jWB_run [88] 60 ?_
    conv => whnf
    refine ⟨fun q => ?_, fun q => last J (-9) (oP_rf (oP_rd h.2.2.1 o3)) (Or.inl rfl)⟩
    conv => whnf
    refine hd_figure (Nat.le_trans (by decide) hd) h3.2.2.1 (by decide) (by decide) (by decide) (by decide) (fun J4 ke o4 hv => ?_)
    exact last J4 ke o4 hv
  conv => whnf
  refine ⟨fun q => ?_, fun q => ?_⟩
  · conv => whnf
    refine hd_twoFigures (Nat.le_trans (by decide) hd) (oP_rd h1.2.2.1 o2) (fun J3 pr o3 => ?_)
    exact keepq J3 pr o3
  · exact keepq J2 (-9) (oP_rf (oP_rd h1.2.2.1 o2))
end
section
theorem gi_text {I : Nat → Nat → Nat → Int32} (h : gG aGI I) {j : Nat} (hj : j ≤ 3) : -1 ≤ (I 37 0 j).toInt ∧ (I 37 0 j).toInt ≤ 60 := h (37, (0, 0), (0, 3), ((-1), 60)) (by decide) 0 j (by decide) (by decide) (by simp) (by simp; omega)
set_option maxHeartbeats 2000000 in
theorem hd_faultOf {d : Nat} (hd : 5 ≤ d) {I : Nat → Nat → Nat → Int32} {L : Nat → Nat → Nat → Int64} {k : jK} {t : Int32} (hG : gG aGI I) (ht0 : 0 ≤ t.toInt) (ht3 : t.toInt ≤ 3) (hl : 0 ≤ (I 37 0 t.toNatClampNeg).toInt) (hk : ∀ I' v, gG aGI I' → gR rdW I L I' L → rP I' → -9 ≤ v.toInt → v.toInt ≤ 60 → k (some (.inl (.inl v))) (I', L)) : jWPM d 148 [.inr (31, 0), .inl (.inl t)] (I, L) k := by
  obtain ⟨d, rfl⟩ : ∃ d', d = d' + 1 := ⟨d - 1, by omega⟩
  have hd : 4 ≤ d := by omega
  have htn : t.toNatClampNeg ≤ 3 := by have := cl_t ht0; omega
  have hl2 := gi_text hG htn
  have hexit : ∀ (I' : Nat → Nat → Nat → Int32) (v : Int32), rI I L I' L → jWB (jWPM d) k none (jco 148) (72, [some (.inr (31, 0)), some (.inl (.inl t)), some (.inl (.inl v))], [], I', L) := by
    intro I' v h
    have hr := h.2.2.1
    obtain ⟨r1, r2, r3, r4, r5⟩ := hr
    have f1 : k (some (.inl (.inl (I' 31 0 16)))) (I', L) := hk _ _ h.1 h.2.1 h.2.2.2 (by omega) (by omega)
    refine jWB_run [] 60 ?_
    conv => whnf
    refine ⟨fun q => f1, fun q => ?_⟩
    conv => whnf
    exact ⟨fun q => f1, fun q => hk _ _ h.1 h.2.1 h.2.2.2 (by decide) (by decide)⟩
  have loop : ∀ (N : Nat) (I' : Nat → Nat → Nat → Int32) (v : Int32), (v = 0 ∨ v = 1) → (I' 31 0 17).toInt - (I' 31 0 16).toInt ≤ (N : Int) → rI I L I' L → jWB (jWPM d) k none (jco 148) (41, [some (.inr (31, 0)), some (.inl (.inl t)), some (.inl (.inl v))], [], I', L) := by
    intro N
    induction N with
    | zero =>
      intro I' v hv h1 h2
      refine jWB_run [41, 72] 60 ?_
      conv => whnf
      refine ⟨fun q => hexit I' v h2, fun q => ?_⟩
      conv => whnf
      refine ⟨fun q => hexit I' v h2, fun q => ?_⟩
      rw [le_t] at q; exfalso; omega
    | succ N ih =>
      intro I' v hv h1 h2
      refine jWB_run [41, 72] 60 ?_
      conv => whnf
      refine ⟨fun q => hexit I' v h2, fun q => ?_⟩
      conv => whnf
      refine ⟨fun q => hexit I' v h2, fun q => ?_⟩
      rw [le_t] at q
      conv => whnf
      refine hd_readsPacket hd h2 (by omega) (fun I2 v2 h3 hv2 => ?_)
      conv => whnf
      refine ⟨fun q => ?_, fun q => ?_⟩
      · refine jWB_run [72] 60 ?_
        conv => whnf
        exact ⟨fun _ => hexit I2 v2 h3, fun z => absurd q z⟩
      · conv => whnf
        refine hd_skip (Nat.le_trans (by decide) hd) h3.2.2.1 (fun I3 o => ?_)
        have e17 : (I3 31 0 17).toInt = (I2 31 0 17).toInt := by rw [o.1 31 0 17 (by decide)]
        have o2 := o.2.1
        rcases hv2 with hv2 | ⟨hv2, hm⟩
        · exact absurd hv2 q
        · exact ih I3 v2 (Or.inr hv2) (by omega) (rI_oP h3 o)
  have e60 : (60 * t).toInt = 60 * t.toInt := by rw [i32_mul (by simp; omega)]; simp
  refine jWB_run [41] 60 ?_
  conv => whnf
  refine ⟨vp_in_iff.mpr (by omega), ?_⟩
  conv => whnf
  have c37 : ∀ j, jup (jup I 31 0 15 (60 * t)) 31 0 16 0 37 0 j = I 37 0 j := fun j => rfl
  rw [c37]
  have h0 : rI I L (jup (jup (jup (jup I 31 0 15 (60 * t)) 31 0 16 0) 31 0 17 (I 37 0 t.toNatClampNeg)) 31 0 21 0) L := by
    refine ⟨gG_up1 (gG_upn (gG_upn (gG_upn hG (by decide)) (by decide)) (by decide)) (by decide), gR_31 (gR_31 (gR_31 (gR_31 gR_rf (by decide) (by decide)) (by decide) (by decide)) (by decide) (by decide)) (by decide) (by decide), ?_, ?_⟩
    · show 0 ≤ (60 * t).toInt ∧ (60 * t).toInt ≤ 180 ∧ (I 37 0 t.toNatClampNeg).toInt ≤ 60 ∧ 0 ≤ (0 : Int32).toInt ∧ (0 : Int32).toInt ≤ (I 37 0 t.toNatClampNeg).toInt
      refine ⟨by omega, by omega, by omega, by decide, by simpa using hl⟩
    · intro j hj
      have hj : (j : Int) < 0 := hj
      omega
  refine hd_readsNeed hd h0 (fun I1 v h1 hv => ?_)
  conv => whnf
  refine ⟨fun q => loop ((I1 31 0 17).toInt - (I1 31 0 16).toInt).toNat I1 v hv (by omega) h1, fun q => ?_⟩
  conv => whnf
  refine hd_skip (Nat.le_trans (by decide) hd) h1.2.2.1 (fun I2 o => ?_)
  exact loop ((I2 31 0 17).toInt - (I2 31 0 16).toInt).toNat I2 v hv (by omega) (rI_oP h1 o)
end
section
theorem gR_mono {W W' : List aR} {I0 I : Nat → Nat → Nat → Int32} {L0 L : Nat → Nat → Nat → Int64} (h : gR W I0 L0 I L) (hw : ∀ r ∈ W, r ∈ W') : gR W' I0 L0 I L := fun g i j hn => h g i j (fun ⟨r, hr, q⟩ => hn ⟨r, hw r hr, q⟩)
/-- every rectangle lies in one of the others -/
noncomputable def rIn (W W' : List aR) : Bool := W.all (fun r => W'.any (fun s => Nat.beq r.1 s.1 && decide (s.2.1.1 ≤ r.2.1.1) && decide (r.2.1.2 ≤ s.2.1.2) && decide (s.2.2.1 ≤ r.2.2.1) && decide (r.2.2.2 ≤ s.2.2.2)))
theorem gR_in {W W' : List aR} {I0 I : Nat → Nat → Nat → Int32} {L0 L : Nat → Nat → Nat → Int64} (hw : rIn W W' = true) (h : gR W I0 L0 I L) : gR W' I0 L0 I L := fun g i j hn => h g i j (fun ⟨r, hr, q1, q2, q3, q4, q5⟩ => by
  have h1 := List.all_eq_true.mp hw r hr
  obtain ⟨s, hs, h2⟩ := List.any_eq_true.mp h1
  simp only [Bool.and_eq_true, decide_eq_true_eq] at h2
  obtain ⟨⟨⟨⟨a, b⟩, c⟩, d⟩, e⟩ := h2
  exact hn ⟨s, hs, by rw [← Nat.eq_of_beq_eq_true a]; exact q1, by omega, by omega, by omega, by omega⟩)
theorem gR_then {W W1 W2 : List aR} {I0 I I' : Nat → Nat → Nat → Int32} {L0 L L' : Nat → Nat → Nat → Int64} (h : gR W1 I0 L0 I L) (h1 : rIn W1 W = true) (h' : gR W2 I L I' L') (h2 : rIn W2 W = true) : gR W I0 L0 I' L' := gR_cat (gR_in h1 h) (gR_in h2 h')
theorem gR_w {W : List aR} {I0 I : Nat → Nat → Nat → Int32} {L0 L : Nat → Nat → Nat → Int64} {g j : Nat} {x : Int32} {lo hi : Int} (h : gR W I0 L0 I L) (hm : (g, (0, 0), (lo, hi)) ∈ W) (h1 : lo ≤ (j : Int)) (h2 : (j : Int) ≤ hi) : gR W I0 L0 (jup I g 0 j x) L := gR_upI h ⟨_, hm, rfl, by simp, by simp, h1, h2⟩
noncomputable def mfW : List aR := [(31, (0, 0), (13, 13)), (39, (0, 0), (0, 5))]
theorem hd_find {d : Nat} (hd : 1 ≤ d) {f : Int32} {I : Nat → Nat → Nat → Int32} {L : Nat → Nat → Nat → Int64} {k : jK} (h0 : 0 ≤ f.toInt) (h5 : f.toInt ≤ 5) (hG : gG aGI I) (hk : ∀ I', gG aGI I' → gR mfW I L I' L → k (some (.inl (.inl (-3)))) (I', L)) : jWPM d 126 [.inr (31, 0), .inl (.inl f)] (I, L) k := by
  obtain ⟨d, rfl⟩ : ∃ d', d = d' + 1 := ⟨d - 1, by omega⟩
  have hn : (f.toNatClampNeg : Int) = f.toInt := cl_t h0
  refine jWB_run [] 60 ?_
  conv => whnf
  refine ⟨vp_in_iff.mpr (by omega), ?_⟩
  conv => whnf
  refine ⟨vp_in_iff.mpr (by omega), ?_⟩
  conv => whnf
  exact hk _ (gG_up (gG_upn hG (by decide)) (by decide)) (gR_w (gR_w gR_rf (List.mem_cons_self) (by decide) (by decide)) (List.mem_cons_of_mem _ List.mem_cons_self) (by omega) (by omega))
theorem hd_isText {d : Nat} (hd : 2 ≤ d) {t : Int32} {I : Nat → Nat → Nat → Int32} {L : Nat → Nat → Nat → Int64} {k : jK} (h1 : 0 ≤ t.toInt → t.toInt ≤ 3 → k (some (.inl (.inl 1))) (I, L)) (h0 : ¬ (0 ≤ t.toInt ∧ t.toInt ≤ 3) → k (some (.inl (.inl 0))) (I, L)) : jWPM d 129 [.inl (.inl t)] (I, L) k := by
  obtain ⟨d, rfl⟩ : ∃ d', d = d' + 1 := ⟨d - 1, by omega⟩
  have hd : 1 ≤ d := by omega
  refine jWB_run [] 20 ?_
  conv => whnf
  refine hd_in hd (fun a b => ?_) (fun a => ?_)
  · rw [Int32.toInt_toInt64] at a b
    conv => whnf
    exact ⟨Or.inr rfl, h1 (by simpa using a) (by simpa using b)⟩
  · rw [Int32.toInt_toInt64] at a
    conv => whnf
    exact ⟨Or.inl rfl, h0 (fun q => a ⟨by simpa using q.1, by simpa using q.2⟩)⟩
theorem hd_isRow {d : Nat} (hd : 2 ≤ d) {t : Int32} {I : Nat → Nat → Nat → Int32} {L : Nat → Nat → Nat → Int64} {k : jK} (h1 : 0 ≤ t.toInt → t.toInt ≤ 5 → k (some (.inl (.inl 1))) (I, L)) (h0 : ¬ (0 ≤ t.toInt ∧ t.toInt ≤ 5) → k (some (.inl (.inl 0))) (I, L)) : jWPM d 128 [.inl (.inl t)] (I, L) k := by
  obtain ⟨d, rfl⟩ : ∃ d', d = d' + 1 := ⟨d - 1, by omega⟩
  have hd : 1 ≤ d := by omega
  refine jWB_run [] 20 ?_
  conv => whnf
  refine hd_in hd (fun a b => ?_) (fun a => ?_)
  · rw [Int32.toInt_toInt64] at a b
    conv => whnf
    exact ⟨Or.inr rfl, h1 (by simpa using a) (by simpa using b)⟩
  · rw [Int32.toInt_toInt64] at a
    conv => whnf
    exact ⟨Or.inl rfl, h0 (fun q => a ⟨by simpa using q.1, by simpa using q.2⟩)⟩
set_option maxHeartbeats 1000000 in
theorem hK_mfault : aKP aGI 149 ([(2, 31, (0, 0)), (0, 0, ((-2147483648), 2147483647))], (1, ((-9), 60)), rdW ++ mfW, 8) := by
  intro d hd as I0 L0 has hG k hk
  obtain ⟨d, rfl⟩ : ∃ d', d = d' + 1 := ⟨d - 1, by simp at hd; omega⟩
  have hd : 7 ≤ d := by simp at hd; omega
  dsimp only at hk
  match as, has with
  | [.inr (g0, n0), .inl (.inl t)], has =>
    obtain ⟨⟨-, e1, e2, e3⟩, -⟩ := has
    dsimp only at e1 e2 e3
    obtain rfl : n0 = 0 := by omega
    subst e1
    refine jWB_run [] 60 ?_
    conv => whnf
    refine hd_isText (Nat.le_trans (by decide) hd) (fun a b => ?_) (fun a => ?_)
    · conv => whnf
      refine ⟨fun _ => ?_, fun h => absurd h (by decide)⟩
      conv => whnf
      refine ⟨vp_in_iff.mpr (by omega), ?_⟩
      conv => whnf
      refine ⟨fun q => ?_, fun q => ?_⟩
      · rw [le_t] at q
        conv => whnf
        refine hd_faultOf (Nat.le_trans (by decide) hd) hG a b (by simpa using q) (fun I' v g1 g2 g3 g4 g5 => ?_)
        exact hk _ _ _ g1 (gR_in (by decide) g2) ⟨v, rfl, g4, g5⟩
      · conv => whnf
        refine hd_find (Nat.le_trans (by decide) hd) (by decide) (by decide) hG (fun I' g1 g2 => ?_)
        exact hk _ _ _ g1 (gR_in (by decide) g2) ⟨-3, rfl, by decide, by decide⟩
    · conv => whnf
      refine ⟨fun h => absurd rfl h, fun h => hk _ _ _ hG gR_rf ⟨-1, rfl, by decide, by decide⟩⟩
theorem gi32 : ∀ e ∈ aGI, e.1 = 32 → (e.2.2.1 = (0, 0) ∧ e.2.2.2 = (0, 40)) ∨ ((e.2.2.1 = (1149, 1149) ∨ e.2.2.1 = (2298, 2298) ∨ e.2.2.1 = (3447, 3447)) ∧ e.2.2.2 = (-1, 40)) := by decide
theorem gi32_0 {I : Nat → Nat → Nat → Int32} (h : gG aGI I) : 0 ≤ (I 32 0 0).toInt ∧ (I 32 0 0).toInt ≤ 40 := h (32, (0, 0), (0, 0), (0, 40)) (by decide) 0 0 (by decide) (by decide) (by decide) (by decide)
theorem gi32_s {I : Nat → Nat → Nat → Int32} (h : gG aGI I) {j : Nat} (hj : j = 1149 ∨ j = 2298 ∨ j = 3447) : -1 ≤ (I 32 0 j).toInt ∧ (I 32 0 j).toInt ≤ 40 := by
  rcases hj with rfl | rfl | rfl
  · exact h (32, (0, 0), (1149, 1149), (-1, 40)) (by decide) 0 1149 (by decide) (by decide) (by decide) (by decide)
  · exact h (32, (0, 0), (2298, 2298), (-1, 40)) (by decide) 0 2298 (by decide) (by decide) (by decide) (by decide)
  · exact h (32, (0, 0), (3447, 3447), (-1, 40)) (by decide) 0 3447 (by decide) (by decide) (by decide) (by decide)
/-- a write into the row: the first cell 0 .. 40, the three others -1 .. 40, the rest free -/
theorem gG_32 {I : Nat → Nat → Nat → Int32} {j : Nat} {x : Int32} (h : gG aGI I) (h0 : j = 0 → 0 ≤ x.toInt ∧ x.toInt ≤ 40) (h1 : j = 1149 ∨ j = 2298 ∨ j = 3447 → -1 ≤ x.toInt ∧ x.toInt ≤ 40) : gG aGI (jup I 32 0 j x) := gG_up1 h (fun e he a b c => by
  rcases gi32 e he a with ⟨p, q⟩ | ⟨p, q⟩
  · rw [p] at b c; rw [q]; exact h0 (by omega)
  · rw [q]
    rcases p with p | p | p <;> rw [p] at b c
    · exact h1 (Or.inl (by omega))
    · exact h1 (Or.inr (Or.inl (by omega)))
    · exact h1 (Or.inr (Or.inr (by omega))))
theorem hd_copyHouse {d : Nat} (hd : 1 ≤ d) {a b : Int32} {I : Nat → Nat → Nat → Int32} {L : Nat → Nat → Nat → Int64} {k : jK} (hG : gG aGI I) (ha0 : 0 ≤ a.toInt) (ha : a.toInt ≤ 3447) (hb : b.toInt = 0 ∨ b.toInt = 1149 ∨ b.toInt = 2298 ∨ b.toInt = 3447) (hab : a.toInt < b.toInt ∨ b.toInt + 1149 ≤ a.toInt) (hv : 0 ≤ (I 32 0 a.toNatClampNeg).toInt ∧ (I 32 0 a.toNatClampNeg).toInt ≤ 40) (hk : ∀ I', gG aGI I' → gR [(32, (0, 0), (b.toInt, b.toInt + 1148))] I L I' L → k none (I', L)) : jWPM d 174 [.inr (31, 0), .inl (.inl a), .inl (.inl b)] (I, L) k := by
  obtain ⟨d, rfl⟩ : ∃ d', d = d' + 1 := ⟨d - 1, by omega⟩
  have hna := cl_t ha0
  have loop : ∀ (N : Nat) (i : Int32) (I' : Nat → Nat → Nat → Int32), 1149 - i.toInt ≤ (N : Int) → 0 ≤ i.toInt → gG aGI I' → gR [(32, (0, 0), (b.toInt, b.toInt + 1148))] I L I' L → jWB (jWPM d) k none (jco 174) (2, [some (.inr (31, 0)), some (.inl (.inl a)), some (.inl (.inl b)), some (.inl (.inl i))], [], I', L) := by
    intro N
    induction N with
    | zero =>
      intro i I' h1 h2 h3 h4
      refine jWB_run [2] 30 ?_
      conv => whnf
      refine ⟨fun q => hk _ h3 h4, fun q => ?_⟩
      rw [le_t] at q; exfalso; simp at q; omega
    | succ N ih =>
      intro i I' h1 h2 h3 h4
      refine jWB_run [2] 30 ?_
      conv => whnf
      refine ⟨fun q => hk _ h3 h4, fun q => ?_⟩
      have q : i.toInt < 1149 := by rw [le_t] at q; simp at q; omega
      have ea : (a + i).toInt = a.toInt + i.toInt := i32_add (by omega)
      have eb : (b + i).toInt = b.toInt + i.toInt := i32_add (by omega)
      have ei : (i + 1).toInt = i.toInt + 1 := by rw [i32_add (by simp; omega)]; simp
      have na := cl_t (x := a + i) (by omega)
      have nb := cl_t (x := b + i) (by omega)
      conv => whnf
      refine ⟨vp_in_iff.mpr (by omega), ?_⟩
      conv => whnf
      refine ⟨vp_in_iff.mpr (by omega), ?_⟩
      refine ih (i + 1) _ (by omega) (by omega) ?_ (gR_w h4 List.mem_cons_self (by omega) (by omega))
      have hz : i.toInt = 0 → 0 ≤ (I' 32 0 (a + i).toNatClampNeg).toInt ∧ (I' 32 0 (a + i).toNatClampNeg).toInt ≤ 40 := by
        intro hi
        have : (a + i).toNatClampNeg = a.toNatClampNeg := by omega
        rw [this, (h4 32 0 a.toNatClampNeg (fun ⟨r, hr, z1, z2, z3, z4, z5⟩ => by
          obtain rfl := List.mem_singleton.mp hr
          dsimp only at z4 z5; omega)).1]
        exact hv
      refine gG_32 h3 (fun z => hz (by omega)) (fun z => ?_)
      have := hz (by omega)
      omega
  refine jWB_run [2] 30 ?_
  exact loop 1149 0 I (by decide) (by decide) hG gR_rf
set_option maxHeartbeats 1000000 in
theorem hK_mkeep : aKP aGI 175 ([(2, 31, (0, 0)), (0, 0, ((-2147483648), 2147483647))], (1, ((-4), 40)), [(32, (0, 0), (1149, 4595))], 4) := by
  intro d hd as I0 L0 has hG k hk
  obtain ⟨d, rfl⟩ : ∃ d', d = d' + 1 := ⟨d - 1, by simp at hd; omega⟩
  have hd : 3 ≤ d := by simp at hd; omega
  dsimp only at hk
  match as, has with
  | [.inr (g0, n0), .inl (.inl t)], has =>
    obtain ⟨⟨-, e1, e2, e3⟩, -⟩ := has
    dsimp only at e1 e2 e3
    obtain rfl : n0 = 0 := by omega
    subst e1
    refine jWB_run [] 60 ?_
    conv => whnf
    refine hd_in (Nat.le_trans (by decide) hd) (fun a b => ?_) (fun a => ?_)
    · rw [Int32.toInt_toInt64] at a b
      have a : 0 ≤ t.toInt := by simpa using a
      have b : t.toInt ≤ 2 := by simpa using b
      have et : (1149 * (1 + t)).toInt = 1149 * (1 + t.toInt) := by
        have : (1 + t).toInt = 1 + t.toInt := by rw [i32_add (by simp; omega)]; simp
        rw [i32_mul (by rw [this]; simp; omega), this]; simp
      conv => whnf
      refine ⟨fun _ => ?_, fun h => absurd h (by decide)⟩
      conv => whnf
      refine ⟨fun q => ?_, fun q => hk _ _ _ hG gR_rf ⟨-4, rfl, by decide, by decide⟩⟩
      conv => whnf
      refine hd_copyHouse (Nat.le_trans (by decide) hd) hG (by decide) (by decide) (by omega) (Or.inl (by rw [et]; simp; omega)) (gi32_0 hG) (fun I' g1 g2 => ?_)
      conv => whnf
      have h0 := gi32_0 g1
      refine ⟨vp_in_iff.mpr (by decide), hk _ _ _ g1 (fun g i j hn => g2 g i j (fun ⟨r, hr, z1, z2, z3, z4, z5⟩ => hn ?_)) ⟨_, rfl, by simp; omega, by simp; omega⟩⟩
      obtain rfl := List.mem_singleton.mp hr
      exact ⟨_, List.mem_cons_self, z1, z2, z3, by dsimp only at z4 ⊢; omega, by dsimp only at z5 ⊢; omega⟩
    · conv => whnf
      refine ⟨fun h => absurd rfl h, fun h => hk _ _ _ hG gR_rf ⟨-1, rfl, by decide, by decide⟩⟩
set_option maxHeartbeats 1000000 in
theorem hK_mon : aKP aGI 176 ([(2, 31, (0, 0)), (0, 0, ((-2147483648), 2147483647))], (1, ((-4), 40)), (32, (0, 0), (0, 1148)) :: mfW, 4) := by
  intro d hd as I0 L0 has hG k hk
  obtain ⟨d, rfl⟩ : ∃ d', d = d' + 1 := ⟨d - 1, by simp at hd; omega⟩
  have hd : 3 ≤ d := by simp at hd; omega
  dsimp only at hk
  match as, has with
  | [.inr (g0, n0), .inl (.inl t)], has =>
    obtain ⟨⟨-, e1, e2, e3⟩, -⟩ := has
    dsimp only at e1 e2 e3
    obtain rfl : n0 = 0 := by omega
    subst e1
    refine jWB_run [] 60 ?_
    conv => whnf
    refine hd_in (Nat.le_trans (by decide) hd) (fun a b => ?_) (fun a => ?_)
    · rw [Int32.toInt_toInt64] at a b
      have a : 0 ≤ t.toInt := by simpa using a
      have b : t.toInt ≤ 2 := by simpa using b
      have et : (1149 * (1 + t)).toInt = 1149 * (1 + t.toInt) := by
        have : (1 + t).toInt = 1 + t.toInt := by rw [i32_add (by simp; omega)]; simp
        rw [i32_mul (by rw [this]; simp; omega), this]; simp
      have et0 : 1149 * (1 + t) + 0 = 1149 * (1 + t) := Int32.add_zero _
      have nt := cl_t (x := 1149 * (1 + t)) (by omega)
      conv => whnf
      refine ⟨fun _ => ?_, fun h => absurd h (by decide)⟩
      conv => whnf
      rw [et0]
      refine ⟨vp_in_iff.mpr (by omega), ?_⟩
      conv => whnf
      refine ⟨fun q => ?_, fun q => ?_⟩
      · rw [le_t] at q
        have q : 0 ≤ (I0 32 0 (1149 * (1 + t)).toNatClampNeg).toInt := by simpa using q
        have q2 := gi32_s hG (j := (1149 * (1 + t)).toNatClampNeg) (by omega)
        conv => whnf
        refine hd_copyHouse (Nat.le_trans (by decide) hd) hG (by omega) (by omega) (Or.inl (by decide)) (Or.inr (by rw [et]; simp; omega)) ⟨q, q2.2⟩ (fun I' g1 g2 => ?_)
        conv => whnf
        have h0 := gi32_0 g1
        exact ⟨vp_in_iff.mpr (by decide), hk _ _ _ g1 (gR_mono g2 (fun r hr => by obtain rfl := List.mem_singleton.mp hr; exact List.mem_cons_self)) ⟨_, rfl, by simp; omega, by simp; omega⟩⟩
      · conv => whnf
        refine hd_find (Nat.le_trans (by decide) hd) (by decide) (by decide) hG (fun I' g1 g2 => ?_)
        exact hk _ _ _ g1 (gR_in (by decide) g2) ⟨-3, rfl, by decide, by decide⟩
    · conv => whnf
      refine ⟨fun h => absurd rfl h, fun h => hk _ _ _ hG gR_rf ⟨-1, rfl, by decide, by decide⟩⟩
end
