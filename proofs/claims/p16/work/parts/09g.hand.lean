theorem gi_text {I : Nat → Nat → Nat → Int32} (h : gG aGI I) {j : Nat} (hj : j ≤ 3) : -1 ≤ (I 37 0 j).toInt ∧ (I 37 0 j).toInt ≤ 60 := h (37, (0, 0), (0, 3), ((-1), 60)) (by decide) 0 j (by decide) (by decide) (by simp) (by simp; omega)
set_option maxHeartbeats 2000000 in
theorem hd_faultOf {d : Nat} (hd : 5 ≤ d) {I : Nat → Nat → Nat → Int32} {L : Nat → Nat → Nat → Int64} {k : jK} {t : Int32} (hG : gG aGI I) (ht0 : 0 ≤ t.toInt) (ht3 : t.toInt ≤ 3) (hl : 0 ≤ (I 37 0 t.toNatClampNeg).toInt) (hk : ∀ I' v, gG aGI I' → gR rdW I L I' L → rP I' → -9 ≤ v.toInt → v.toInt ≤ 60 → k (some (.inl (.inl v))) (I', L)) : jWPM d 148 [.inr (31, 0), .inl (.inl t)] (I, L) k := by
  obtain ⟨d, rfl⟩ : ∃ d', d = d' + 1 := ⟨d - 1, by omega⟩
  have hd : 4 ≤ d := by omega
  have htn : t.toNatClampNeg ≤ 3 := by have := cl_t ht0; omega
  have hl2 := gi_text hG htn
  have hexit : ∀ (I' : Nat → Nat → Nat → Int32) (v : Int32), rI I L I' L → jWB (jWPM d) k none (jco 148) (72, [some (.inr (31, 0)), some (.inl (.inl t)), some (.inl (.inl v))], [], I', L) := by
    intro I' v h
    have hr := h.2.2.1
    obtain ⟨r1, r2, r3, r4, r5⟩ := hr
    have f1 : k (some (.inl (.inl (I' 31 0 16)))) (I', L) := hk _ _ h.1 h.2.1 h.2.2.2 (by omega) (by omega)
    refine jWB_run [] 60 ?_
    conv => whnf
    refine ⟨fun q => f1, fun q => ?_⟩
    conv => whnf
    exact ⟨fun q => f1, fun q => hk _ _ h.1 h.2.1 h.2.2.2 (by decide) (by decide)⟩
  have loop : ∀ (N : Nat) (I' : Nat → Nat → Nat → Int32) (v : Int32), (v = 0 ∨ v = 1) → (I' 31 0 17).toInt - (I' 31 0 16).toInt ≤ (N : Int) → rI I L I' L → jWB (jWPM d) k none (jco 148) (41, [some (.inr (31, 0)), some (.inl (.inl t)), some (.inl (.inl v))], [], I', L) := by
    intro N
    induction N with
    | zero =>
      intro I' v hv h1 h2
      refine jWB_run [41, 72] 60 ?_
      conv => whnf
      refine ⟨fun q => hexit I' v h2, fun q => ?_⟩
      conv => whnf
      refine ⟨fun q => hexit I' v h2, fun q => ?_⟩
      rw [le_t] at q; exfalso; omega
    | succ N ih =>
      intro I' v hv h1 h2
      refine jWB_run [41, 72] 60 ?_
      conv => whnf
      refine ⟨fun q => hexit I' v h2, fun q => ?_⟩
      conv => whnf
      refine ⟨fun q => hexit I' v h2, fun q => ?_⟩
      rw [le_t] at q
      conv => whnf
      refine hd_readsPacket hd h2 (by omega) (fun I2 v2 h3 hv2 => ?_)
      conv => whnf
      refine ⟨fun q => ?_, fun q => ?_⟩
      · refine jWB_run [72] 60 ?_
        conv => whnf
        exact ⟨fun _ => hexit I2 v2 h3, fun z => absurd q z⟩
      · conv => whnf
        refine hd_skip (Nat.le_trans (by decide) hd) h3.2.2.1 (fun I3 o => ?_)
        have e17 : (I3 31 0 17).toInt = (I2 31 0 17).toInt := by rw [o.1 31 0 17 (by decide)]
        have o2 := o.2.1
        rcases hv2 with hv2 | ⟨hv2, hm⟩
        · exact absurd hv2 q
        · exact ih I3 v2 (Or.inr hv2) (by omega) (rI_oP h3 o)
  have e60 : (60 * t).toInt = 60 * t.toInt := by rw [i32_mul (by simp; omega)]; simp
  refine jWB_run [41] 60 ?_
  conv => whnf
  refine ⟨vp_in_iff.mpr (by omega), ?_⟩
  conv => whnf
  have c37 : ∀ j, jup (jup I 31 0 15 (60 * t)) 31 0 16 0 37 0 j = I 37 0 j := fun j => rfl
  rw [c37]
  have h0 : rI I L (jup (jup (jup (jup I 31 0 15 (60 * t)) 31 0 16 0) 31 0 17 (I 37 0 t.toNatClampNeg)) 31 0 21 0) L := by
    refine ⟨gG_up1 (gG_upn (gG_upn (gG_upn hG (by decide)) (by decide)) (by decide)) (by decide), gR_31 (gR_31 (gR_31 (gR_31 gR_rf (by decide) (by decide)) (by decide) (by decide)) (by decide) (by decide)) (by decide) (by decide), ?_, ?_⟩
    · show 0 ≤ (60 * t).toInt ∧ (60 * t).toInt ≤ 180 ∧ (I 37 0 t.toNatClampNeg).toInt ≤ 60 ∧ 0 ≤ (0 : Int32).toInt ∧ (0 : Int32).toInt ≤ (I 37 0 t.toNatClampNeg).toInt
      refine ⟨by omega, by omega, by omega, by decide, by simpa using hl⟩
    · intro j hj
      have hj : (j : Int) < 0 := hj
      omega
  refine hd_readsNeed hd h0 (fun I1 v h1 hv => ?_)
  conv => whnf
  refine ⟨fun q => loop ((I1 31 0 17).toInt - (I1 31 0 16).toInt).toNat I1 v hv (by omega) h1, fun q => ?_⟩
  conv => whnf
  refine hd_skip (Nat.le_trans (by decide) hd) h1.2.2.1 (fun I2 o => ?_)
  exact loop ((I2 31 0 17).toInt - (I2 31 0 16).toInt).toNat I2 v hv (by omega) (rI_oP h1 o)
