theorem rem_lt {x y : Int64} (hy : y ≠ 0) : (x - x / y * y).toInt.natAbs < y.toInt.natAbs := by
  have hy0 : y.toInt ≠ 0 := fun e => hy (Int64.toInt_inj.mp (by rw [e]; rfl))
  have h4 : x.toInt.tmod y.toInt = x.toInt - x.toInt.tdiv y.toInt * y.toInt := by rw [Int.tmod_def, Int.mul_comm]
  have h5 := i64_rng x
  have h6 := i64_rng y
  have h7 : (x.toInt.tmod y.toInt).natAbs < y.toInt.natAbs := by
    rw [Int.natAbs_tmod]
    exact Nat.mod_lt _ (by omega)
  have h8 : (x - x / y * y).toInt = x.toInt.tmod y.toInt := by
    rw [Int64.toInt_sub, Int64.toInt_mul, Int64.toInt_div, Int.bmod_mul_bmod, Int.sub_bmod_bmod, ← h4, bm64]
    omega
  rw [h8]; exact h7
theorem hd_in {d : Nat} (hd : 1 ≤ d) {v lo hi : Int64} {I : Nat → Nat → Nat → Int32} {L : Nat → Nat → Nat → Int64} {k : jK} (h1 : lo.toInt ≤ v.toInt → v.toInt ≤ hi.toInt → k (some (.inl (.inl 1))) (I, L)) (h0 : ¬ (lo.toInt ≤ v.toInt ∧ v.toInt ≤ hi.toInt) → k (some (.inl (.inl 0))) (I, L)) : jWPM d 124 [.inl (.inr v), .inl (.inr lo), .inl (.inr hi)] (I, L) k := by
  obtain ⟨d, rfl⟩ : ∃ d', d = d' + 1 := ⟨d - 1, by omega⟩
  refine jWB_run [] 20 ?_
  conv => whnf
  refine ⟨fun h => ?_, fun h => ?_⟩
  · rw [cmp_lg] at h
    have h := (hop_q .lt _ _).mpr h
    conv => whnf
    exact ⟨Or.inl rfl, h0 (fun q => absurd (show v.toInt < lo.toInt from h) (by omega))⟩
  · conv => whnf
    rw [cmp_lg] at h
    have h : ¬ v.toInt < lo.toInt := fun q => h ((hop_q .lt _ _).mp q)
    refine ⟨fun g => ?_, fun g => ?_⟩
    · rw [cmp_lg] at g
      have g : hi.toInt < v.toInt := (hop_q .gt _ _).mpr g
      conv => whnf
      exact ⟨Or.inl rfl, h0 (fun q => by omega)⟩
    · rw [cmp_lg] at g
      have g : ¬ hi.toInt < v.toInt := fun q => g ((hop_q .gt _ _).mp q)
      conv => whnf
      exact ⟨Or.inr rfl, h1 (by omega) (by omega)⟩
theorem hd_isPacket {d : Nat} (hd : 2 ≤ d) {i : Int32} {I : Nat → Nat → Nat → Int32} {L : Nat → Nat → Nat → Int64} {k : jK} (hG : gG aGI I) (h1 : 0 ≤ i.toInt → i.toInt < (I 31 0 3).toInt → k (some (.inl (.inl 1))) (I, L)) (h0 : ¬ (0 ≤ i.toInt ∧ i.toInt < (I 31 0 3).toInt) → k (some (.inl (.inl 0))) (I, L)) : jWPM d 151 [.inr (31, 0), .inl (.inl i)] (I, L) k := by
  obtain ⟨d, rfl⟩ : ∃ d', d = d' + 1 := ⟨d - 1, by omega⟩
  have hd : 1 ≤ d := by omega
  have hp := gi_mpackets hG
  have e : (I 31 0 3 - 1).toInt = (I 31 0 3).toInt - 1 := by rw [i32_sub (by simp; omega)]; simp
  refine jWB_run [] 20 ?_
  conv => whnf
  refine hd_in hd (fun a b => ?_) (fun a => ?_)
  · rw [Int32.toInt_toInt64] at a b
    rw [Int32.toInt_toInt64, e] at b
    conv => whnf
    exact ⟨Or.inr rfl, h1 (by simpa using a) (by omega)⟩
  · rw [Int32.toInt_toInt64, Int32.toInt_toInt64, e] at a
    conv => whnf
    exact ⟨Or.inl rfl, h0 (fun q => a ⟨by simpa using q.1, by omega⟩)⟩
theorem hd_got {d : Nat} (hd : 2 ≤ d) {i : Int32} (I : Nat → Nat → Nat → Int32) (L : Nat → Nat → Nat → Int64) (h0 : 0 ≤ i.toInt) (h5 : i.toInt ≤ 5) : ∃ g : Int32, ∀ k : jK, k (some (.inl (.inl g))) (I, L) → jWPM d 155 [.inr (31, 0), .inl (.inl 0), .inl (.inl i)] (I, L) k := by
  obtain ⟨d, rfl⟩ : ∃ d', d = d' + 2 := ⟨d - 2, by omega⟩
  have e : (0 + 17 + i : Int32).toInt = 17 + i.toInt := by rw [i32_add (by simp; omega)]; simp
  by_cases h3 : I 33 0 i.toNatClampNeg = 3
  · refine ⟨I 32 0 (0 + 17 + i).toNatClampNeg / 2, fun k hk => ?_⟩
    refine jWB_run [] 20 ?_
    conv => whnf
    refine ⟨vp_in_iff.mpr (by omega), ?_⟩
    conv => whnf
    refine ⟨vp_in_iff.mpr (by rw [e]; omega), ?_⟩
    conv => whnf
    refine jWB_run [] 20 ?_
    conv => whnf
    refine ⟨fun h => absurd h3 h, fun h => ?_⟩
    conv => whnf
    refine ⟨by decide, ?_⟩
    exact hk
  · refine ⟨I 32 0 (0 + 17 + i).toNatClampNeg, fun k hk => ?_⟩
    refine jWB_run [] 20 ?_
    conv => whnf
    refine ⟨vp_in_iff.mpr (by omega), ?_⟩
    conv => whnf
    refine ⟨vp_in_iff.mpr (by rw [e]; omega), ?_⟩
    conv => whnf
    refine jWB_run [] 20 ?_
    conv => whnf
    refine ⟨fun h => hk, fun h => absurd h h3⟩
theorem hd_tellParts {d : Nat} (hd : 1 ≤ d) {a b : Int64} {I : Nat → Nat → Nat → Int32} {L : Nat → Nat → Nat → Int64} {k : jK} (hb : b ≠ 0) (hk : ∀ u v, k (some (.inl (.inl 1))) (I, jupL (jupL L 31 0 11 u) 31 0 12 v)) : jWPM d 178 [.inr (31, 0), .inl (.inr a), .inl (.inr b)] (I, L) k := by
  obtain ⟨d, rfl⟩ : ∃ d', d = d' + 1 := ⟨d - 1, by omega⟩
  have loop : ∀ (N : Nat) (x y : Int64) (e9 e10 : Option jV), y.toInt.natAbs ≤ N → (x ≠ 0 ∨ y ≠ 0) → jWB (jWPM d) k none (jco 178) (6, [some (.inr (31, 0)), some (.inl (.inr a)), none, some (.inl (.inr b)), none, some (.inl (.inr x)), none, some (.inl (.inr y)), none, e9, e10], [], I, L) := by
    intro N
    induction N with
    | zero =>
      intro x y e9 e10 h1 h2
      refine jWB_run [6] 40 ?_
      conv => whnf
      have hy : y = 0 := Int64.toInt_inj.mp (by rw [show y.toInt = 0 by omega]; rfl)
      have hx : x ≠ 0 := h2.resolve_right (fun h => h hy)
      refine ⟨fun h => ?_, fun h => absurd hy (i64_ne h)⟩
      conv => whnf
      refine ⟨hx, ?_⟩
      conv => whnf
      exact ⟨hx, hk _ _⟩
    | succ N ih =>
      intro x y e9 e10 h1 h2
      refine jWB_run [6] 40 ?_
      conv => whnf
      refine ⟨fun h => ?_, fun h => ?_⟩
      · have hy : y = 0 := Int64.toInt_inj.mp (by rw [cmp_lg] at h; exact cmpI_0.mp h)
        have hx : x ≠ 0 := h2.resolve_right (fun h => h hy)
        conv => whnf
        refine ⟨hx, ?_⟩
        conv => whnf
        exact ⟨hx, hk _ _⟩
      · have hy : y ≠ 0 := i64_ne h
        conv => whnf
        refine ⟨hy, ?_⟩
        have := @rem_lt x y hy
        exact ih y (x - x / y * y) _ _ (by omega) (Or.inl hy)
  refine jWB_run [6] 20 ?_
  exact loop b.toInt.natAbs a b _ _ (Nat.le_refl _) (Or.inr hb)
set_option maxHeartbeats 1000000 in
theorem hK_mrate : aKP aGI 179 ([(2, 31, (0, 0)), (0, 0, ((-2147483648), 2147483647))], (1, ((-4), 1)), [(31, (0, 0), (11, 12))], 9) := by
  intro d hd as I0 L0 has hG k hk
  obtain ⟨d, rfl⟩ : ∃ d', d = d' + 1 := ⟨d - 1, by simp at hd; omega⟩
  have hd : 8 ≤ d := by simp at hd; omega
  dsimp only at hk
  match as, has with
  | [.inr (g0, n0), .inl (.inl i)], has =>
    obtain ⟨⟨-, e1, e2, e3⟩, -⟩ := has
    dsimp only at e1 e2 e3
    obtain rfl : n0 = 0 := by omega
    subst e1
    refine jWB_run [] 40 ?_
    conv => whnf
    refine hd_isPacket (Nat.le_trans (by decide) hd) hG (fun a b => ?_) (fun a => ?_)
    · have hp := gi_mpackets hG
      conv => whnf
      refine ⟨fun _ => ?_, fun h => absurd h (by decide)⟩
      conv => whnf
      obtain ⟨g, hg⟩ := hd_got (Nat.le_trans (by decide) hd) I0 L0 a (by omega)
      refine hg _ ?_
      conv => whnf
      refine ⟨fun h => ?_, fun h => hk _ _ _ hG gR_rf ⟨-4, rfl, by decide, by decide⟩⟩
      conv => whnf
      refine use_c cT135 (Nat.le_trans (by decide) hd) ⟨⟨rfl, rfl, by simp, by simp⟩, ⟨rfl, by decide, by decide⟩, ⟨rfl, by simp only; omega, by simp only; omega⟩, ⟨rfl, by decide, by decide⟩, trivial⟩ hG (fun v I' L' r1 r2 r3 => ?_)
      obtain ⟨rfl, rfl⟩ := gR_nil r2
      obtain ⟨c, rfl, r4, r5⟩ := r3
      conv => whnf
      refine hg _ ?_
      conv => whnf
      refine hd_tellParts (Nat.le_trans (by decide) hd) (fun e => h (Int32.toInt_inj.mp (by rw [← Int32.toInt_toInt64, e]; rfl))) (fun u v => ?_)
      exact hk _ _ _ hG (gR_upL (gR_upL gR_rf ⟨_, List.mem_cons_self, rfl, by simp, by simp, by simp, by simp⟩) ⟨_, List.mem_cons_self, rfl, by simp, by simp, by simp, by simp⟩) ⟨1, rfl, by decide, by decide⟩
    · conv => whnf
      refine ⟨fun h => absurd rfl h, fun h => hk _ _ _ hG gR_rf ⟨-1, rfl, by decide, by decide⟩⟩
