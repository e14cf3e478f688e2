theorem gG_up {I : Nat → Nat → Nat → Int32} {g i j : Nat} {x : Int32} (h : gG aGI I) (hn : ∀ e ∈ aGI, e.1 ≠ g) : gG aGI (jup I g i j x) := fun e he i' j' a1 a2 a3 a4 => by
  rw [jup_of (fun q => hn e he q.1)]
  exact h e he i' j' a1 a2 a3 a4
set_option maxHeartbeats 1000000 in
theorem hK_cheapest : aKP aGI 91 ([(2, 0, (0, 0))], (1, ((-9), 5)), [(0, (0, 0), (14, 14))], 9) := by
  intro d hd as I0 L0 has hG k hk
  obtain ⟨d, rfl⟩ : ∃ d', d = d' + 1 := ⟨d - 1, by simp at hd; omega⟩
  have hd : 8 ≤ d := by simp at hd; omega
  dsimp only at hk
  match as, has with
  | [.inr (g0, n0)], has =>
    obtain ⟨⟨-, e1, e2, e3⟩, -⟩ := has
    dsimp only at e1 e2 e3
    obtain rfl : n0 = 0 := by omega
    subst e1
    have hexit : ∀ (f a i : Int32) (e4 : Option jV) (I : Nat → Nat → Nat → Int32) (L : Nat → Nat → Nat → Int64), -9 ≤ f.toInt → f.toInt ≤ 5 → gG aGI I → gR [(0, (0, 0), (14, 14))] I0 L0 I L → jWB (jWPM d) k none (jco 91) (97, [some (.inr (0, 0)), some (.inl (.inl f)), some (.inl (.inl a)), some (.inl (.inl i)), e4], [], I, L) := by
      intro f a i e4 I L h1 h2 hG hR
      refine jWB_run [20, 97] 20 ?_
      conv => whnf
      refine ⟨fun h => hk _ _ _ hG hR ⟨f, rfl, h1, h2⟩, fun h => hk _ _ _ (gG_up hG (by decide)) (gR_upI hR ⟨_, List.mem_cons_self, rfl, by simp, by simp, by simp, by simp⟩) ⟨f, rfl, h1, h2⟩⟩
    have loop : ∀ (N : Nat) (f a i : Int32) (e4 : Option jV) (I : Nat → Nat → Nat → Int32) (L : Nat → Nat → Nat → Int64), 6 - i.toInt ≤ (N : Int) → 0 ≤ i.toInt → (f.toInt = -9 ∨ (0 ≤ f.toInt ∧ f.toInt ≤ 5)) → gG aGI I → gR [(0, (0, 0), (14, 14))] I0 L0 I L → jWB (jWPM d) k none (jco 91) (20, [some (.inr (0, 0)), some (.inl (.inl f)), some (.inl (.inl a)), some (.inl (.inl i)), e4], [], I, L) := by
      intro N
      induction N with
      | zero =>
        intro f a i e4 I L h1 h2 h3 hG hR
        refine jWB_run [20, 66, 97] 40 ?_
        conv => whnf
        refine ⟨fun h => hexit f a i e4 I L (by omega) (by omega) hG hR, fun h => ?_⟩
        exfalso
        have := gi_packets hG
        rw [le_t] at h; omega
      | succ N ih =>
        intro f a i e4 I L h1 h2 h3 hG hR
        refine jWB_run [20, 66, 97] 40 ?_
        conv => whnf
        refine ⟨fun h => hexit f a i e4 I L (by omega) (by omega) hG hR, fun h => ?_⟩
        have hp := gi_packets hG
        rw [le_t] at h
        have hi1 : (i + 1).toInt = i.toInt + 1 := by rw [i32_add (by simp; omega)]; simp
        have tail : ∀ (o : Int32), jWB (jWPM d) k none (jco 91) (66, [some (.inr (0, 0)), some (.inl (.inl f)), some (.inl (.inl a)), some (.inl (.inl i)), some (.inl (.inl o))], [], I, L) := by
          intro o
          refine jWB_run [20, 66, 97] 40 ?_
          conv => whnf
          refine ⟨fun h4 => ?_, fun h4 => ?_⟩
          · conv => whnf
            refine ⟨fun h5 => ih f a (i + 1) _ I L (by omega) (by omega) h3 hG hR, fun h5 => ih f _ (i + 1) _ I L (by omega) (by omega) h3 hG hR⟩
          · exact ih i _ (i + 1) _ I L (by omega) (by omega) (by omega) hG hR
        conv => whnf
        refine use_c cT31 (Nat.le_trans (by decide) hd) ⟨⟨rfl, rfl, by simp, by simp⟩, ⟨rfl, by simp only; omega, by simp only; omega⟩, trivial⟩ hG (fun v I' L' r1 r2 r3 => ?_)
        obtain ⟨rfl, rfl⟩ := gR_nil r2
        obtain ⟨got, rfl, r4, r5⟩ := r3
        conv => whnf
        refine ⟨fun h4 => ?_, fun h4 => ih f a (i + 1) _ I' L' (by omega) (by omega) h3 hG hR⟩
        conv => whnf
        refine ⟨fun h5 => ?_, fun h5 => tail (-1)⟩
        conv => whnf
        have hf : 0 ≤ f.toInt ∧ f.toInt ≤ 5 := by
          rcases h3 with h3 | h3
          · exact absurd (Int32.toInt_inj.mp (by rw [h3]; rfl)) h5
          · exact h3
        refine use_c cT34 (Nat.le_trans (by decide) hd) ⟨⟨rfl, rfl, by simp, by simp⟩, ⟨rfl, by simp only; omega, by simp only; omega⟩, ⟨rfl, by simp only; omega, by simp only; omega⟩, trivial⟩ hG (fun v I' L' r1 r2 r3 => ?_)
        obtain ⟨rfl, rfl⟩ := gR_nil r2
        obtain ⟨o, rfl, r4, r5⟩ := r3
        exact tail o
    refine jWB_run [20] 60 ?_
    conv => whnf
    refine ⟨fun h => ?_, fun h => hk _ _ _ hG gR_rf ⟨-4, rfl, by decide, by decide⟩⟩
    exact loop 6 (-9) 0 0 _ I0 L0 (by decide) (by decide) (Or.inl (by decide)) hG gR_rf
set_option maxHeartbeats 1000000 in
theorem hK_mcheapest : aKP aGI 181 ([(2, 31, (0, 0))], (1, ((-9), 5)), [(31, (0, 0), (10, 10))], 9) := by
  intro d hd as I0 L0 has hG k hk
  obtain ⟨d, rfl⟩ : ∃ d', d = d' + 1 := ⟨d - 1, by simp at hd; omega⟩
  have hd : 8 ≤ d := by simp at hd; omega
  dsimp only at hk
  match as, has with
  | [.inr (g0, n0)], has =>
    obtain ⟨⟨-, e1, e2, e3⟩, -⟩ := has
    dsimp only at e1 e2 e3
    obtain rfl : n0 = 0 := by omega
    subst e1
    have hup : ∀ (I : Nat → Nat → Nat → Int32) (x : Int32), gG aGI I → gG aGI (jup I 31 0 10 x) := fun I x h e he i j a1 a2 a3 a4 => by
      by_cases hc : e.1 = 31 ∧ i = 0 ∧ j = 10
      · exfalso
        obtain ⟨c1, c2, c3⟩ := hc
        revert c1 a1 a2 a3 a4
        subst c2; subst c3
        revert e
        decide
      · rw [jup_of hc]; exact h e he i j a1 a2 a3 a4
    have hwr : ∀ {I : Nat → Nat → Nat → Int32} {L : Nat → Nat → Nat → Int64} {x : Int32}, gR [(31, (0, 0), (10, 10))] I0 L0 I L → gR [(31, (0, 0), (10, 10))] I0 L0 (jup I 31 0 10 x) L := fun hR => gR_upI hR ⟨_, List.mem_cons_self, rfl, by simp, by simp, by simp, by simp⟩
    have loop2 : ∀ (N : Nat) (f i : Int32) (I : Nat → Nat → Nat → Int32) (L : Nat → Nat → Nat → Int64), 6 - i.toInt ≤ (N : Int) → 0 ≤ i.toInt → (0 ≤ f.toInt ∧ f.toInt ≤ 5) → gG aGI I → gR [(31, (0, 0), (10, 10))] I0 L0 I L → jWB (jWPM d) k none (jco 181) (75, [some (.inr (31, 0)), some (.inl (.inl f)), some (.inl (.inl i))], [], I, L) := by
      intro N
      induction N with
      | zero =>
        intro f i I L h1 h2 h3 hG hR
        refine jWB_run [75] 40 ?_
        conv => whnf
        refine ⟨fun h => hk _ _ _ hG hR ⟨f, rfl, by simp only; omega, by simp only; omega⟩, fun h => ?_⟩
        exfalso
        have := gi_mpackets hG
        rw [le_t] at h; omega
      | succ N ih =>
        intro f i I L h1 h2 h3 hG hR
        refine jWB_run [75] 40 ?_
        conv => whnf
        refine ⟨fun h => hk _ _ _ hG hR ⟨f, rfl, by simp only; omega, by simp only; omega⟩, fun h => ?_⟩
        have hp := gi_mpackets hG
        rw [le_t] at h
        have hi1 : (i + 1).toInt = i.toInt + 1 := by rw [i32_add (by simp; omega)]; simp
        conv => whnf
        refine use_c cT138 (Nat.le_trans (by decide) hd) ⟨⟨rfl, rfl, by simp, by simp⟩, ⟨rfl, by decide, by decide⟩, ⟨rfl, by simp only; omega, by simp only; omega⟩, trivial⟩ hG (fun v I' L' r1 r2 r3 => ?_)
        obtain ⟨rfl, rfl⟩ := gR_nil r2
        obtain ⟨got, rfl, r4, r5⟩ := r3
        conv => whnf
        refine ⟨fun h4 => ?_, fun h4 => ?_⟩
        · exact ih f (i + 1) _ L' (by omega) (by omega) h3 (hup _ _ hG) (hwr hR)
        · conv => whnf
          refine use_c cT161 (Nat.le_trans (by decide) hd) ⟨⟨rfl, rfl, by simp, by simp⟩, ⟨rfl, by simp only; omega, by simp only; omega⟩, ⟨rfl, by simp only; omega, by simp only; omega⟩, trivial⟩ hG (fun v I' L' r1 r2 r3 => ?_)
          obtain ⟨rfl, rfl⟩ := gR_nil r2
          obtain ⟨o, rfl, r4, r5⟩ := r3
          conv => whnf
          refine ⟨fun h5 => ?_, fun h5 => ?_⟩
          · exact ih f (i + 1) _ L' (by omega) (by omega) h3 (hup _ _ hG) (hwr hR)
          · exact ih f (i + 1) _ L' (by omega) (by omega) h3 (hup _ _ hG) (hwr hR)
    have loop : ∀ (N : Nat) (f i : Int32) (I : Nat → Nat → Nat → Int32) (L : Nat → Nat → Nat → Int64), 6 - i.toInt ≤ (N : Int) → 0 ≤ i.toInt → (f.toInt = -9 ∨ (0 ≤ f.toInt ∧ f.toInt ≤ 5)) → gG aGI I → gR [(31, (0, 0), (10, 10))] I0 L0 I L → jWB (jWPM d) k none (jco 181) (15, [some (.inr (31, 0)), some (.inl (.inl f)), some (.inl (.inl i))], [], I, L) := by
      have hexit : ∀ (f i : Int32) (I : Nat → Nat → Nat → Int32) (L : Nat → Nat → Nat → Int64), (f.toInt = -9 ∨ (0 ≤ f.toInt ∧ f.toInt ≤ 5)) → gG aGI I → gR [(31, (0, 0), (10, 10))] I0 L0 I L → jWB (jWPM d) k none (jco 181) (59, [some (.inr (31, 0)), some (.inl (.inl f)), some (.inl (.inl i))], [], I, L) := by
        intro f i I L h3 hG hR
        refine jWB_run [75] 40 ?_
        conv => whnf
        refine ⟨fun h5 => ?_, fun h5 => hk _ _ _ hG hR ⟨-9, rfl, by decide, by decide⟩⟩
        have hf : 0 ≤ f.toInt ∧ f.toInt ≤ 5 := by
          rcases h3 with h3 | h3
          · exact absurd (Int32.toInt_inj.mp (by rw [h3]; rfl)) h5
          · exact h3
        exact loop2 6 f 0 _ L (by decide) (by decide) hf (hup _ _ hG) (hwr hR)
      intro N
      induction N with
      | zero =>
        intro f i I L h1 h2 h3 hG hR
        refine jWB_run [15, 59] 40 ?_
        conv => whnf
        refine ⟨fun h => hexit f i I L h3 hG hR, fun h => ?_⟩
        exfalso
        have := gi_mpackets hG
        rw [le_t] at h; omega
      | succ N ih =>
        intro f i I L h1 h2 h3 hG hR
        refine jWB_run [15, 59] 40 ?_
        conv => whnf
        refine ⟨fun h => hexit f i I L h3 hG hR, fun h => ?_⟩
        have hp := gi_mpackets hG
        rw [le_t] at h
        have hi1 : (i + 1).toInt = i.toInt + 1 := by rw [i32_add (by simp; omega)]; simp
        conv => whnf
        refine use_c cT138 (Nat.le_trans (by decide) hd) ⟨⟨rfl, rfl, by simp, by simp⟩, ⟨rfl, by decide, by decide⟩, ⟨rfl, by simp only; omega, by simp only; omega⟩, trivial⟩ hG (fun v I' L' r1 r2 r3 => ?_)
        obtain ⟨rfl, rfl⟩ := gR_nil r2
        obtain ⟨got, rfl, r4, r5⟩ := r3
        conv => whnf
        refine ⟨fun h4 => ih f (i + 1) I' L' (by omega) (by omega) h3 hG hR, fun h4 => ?_⟩
        conv => whnf
        refine ⟨fun h5 => ih i (i + 1) I' L' (by omega) (by omega) (by omega) hG hR, fun h5 => ?_⟩
        have hf : 0 ≤ f.toInt ∧ f.toInt ≤ 5 := by
          rcases h3 with h3 | h3
          · exact absurd (Int32.toInt_inj.mp (by rw [h3]; rfl)) h5
          · exact h3
        conv => whnf
        refine use_c cT161 (Nat.le_trans (by decide) hd) ⟨⟨rfl, rfl, by simp, by simp⟩, ⟨rfl, by simp only; omega, by simp only; omega⟩, ⟨rfl, by simp only; omega, by simp only; omega⟩, trivial⟩ hG (fun v I' L' r1 r2 r3 => ?_)
        obtain ⟨rfl, rfl⟩ := gR_nil r2
        obtain ⟨o, rfl, r4, r5⟩ := r3
        conv => whnf
        refine ⟨fun h6 => ih f (i + 1) I' L' (by omega) (by omega) h3 hG hR, fun h6 => ih i (i + 1) I' L' (by omega) (by omega) (by omega) hG hR⟩
    refine jWB_run [15] 60 ?_
    conv => whnf
    refine ⟨fun h => ?_, fun h => hk _ _ _ hG gR_rf ⟨-4, rfl, by decide, by decide⟩⟩
    exact loop 6 (-9) 0 I0 L0 (by decide) (by decide) (Or.inl (by decide)) hG gR_rf
