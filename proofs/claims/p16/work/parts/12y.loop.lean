/-! the law's loop on the small machine -/
set_option maxHeartbeats 4000000 in
set_option maxRecDepth 20000 in
theorem lw_body {d : Nat} (hd : 13 ≤ d) {k : jK} {N : Nat} {xs : Nat → Int32} {i : Int32} {I : jI} {L : jL} (hi0 : 0 ≤ i.toInt) (hi : i.toInt + 6 ≤ (N : Int)) (hN : N ≤ 384) (hG : gG aGI I) (hJ : jJ I) (hR : lR I L) (nx : ∀ I' L', gG aGI I' → jJ I' → lR I' L' → jWB (jWPM d) k (some (N, xs)) jc_law (1423, [some (.inr (901, 0)), some (.inr (0, 0)), some (.inr (31, 0)), some (.inl (.inl i))], [], I', L')) : jWB (jWPM d) k (some (N, xs)) jc_law (27, [some (.inr (901, 0)), some (.inr (0, 0)), some (.inr (31, 0)), some (.inl (.inl i))], [], I, L) := by
  refine jWB_run [228, 261, 304, 337, 360, 423, 446, 479, 522, 545, 568, 601, 634, 657, 690, 703, 726, 759, 782, 805, 828, 851, 884, 907, 920, 933, 966, 999, 1022, 1045, 1058, 1091, 1124, 1157, 1200, 1223, 1256, 1279, 1312, 1325, 1338, 1351, 1374, 1387, 1410, 1423] 20 ?_
  conv => whnf
  refine ⟨vp_in_iff.mpr (by omega), ?_⟩
  conv => whnf
  refine ⟨fun _ => lwC_0 hd hi0 hi hN hG hJ hR nx, fun _ => ?_⟩
  conv => whnf
  refine ⟨fun _ => lwC_1 hd hi0 hi hN hG hJ hR nx, fun _ => ?_⟩
  conv => whnf
  refine ⟨fun _ => lwC_2 hd hi0 hi hN hG hJ hR nx, fun _ => ?_⟩
  conv => whnf
  refine ⟨fun _ => lwC_3 hd hi0 hi hN hG hJ hR nx, fun _ => ?_⟩
  conv => whnf
  refine ⟨fun _ => lwC_4 hd hi0 hi hN hG hJ hR nx, fun _ => ?_⟩
  conv => whnf
  refine ⟨fun _ => lwC_5 hd hi0 hi hN hG hJ hR nx, fun _ => ?_⟩
  conv => whnf
  refine ⟨fun _ => lwC_6 hd hi0 hi hN hG hJ hR nx, fun _ => ?_⟩
  conv => whnf
  refine ⟨fun _ => lwC_7 hd hi0 hi hN hG hJ hR nx, fun _ => ?_⟩
  conv => whnf
  refine ⟨fun _ => lwC_8 hd hi0 hi hN hG hJ hR nx, fun _ => ?_⟩
  conv => whnf
  refine ⟨fun _ => lwC_9 hd hi0 hi hN hG hJ hR nx, fun _ => ?_⟩
  conv => whnf
  refine ⟨fun _ => lwC_10 hd hi0 hi hN hG hJ hR nx, fun _ => ?_⟩
  conv => whnf
  refine ⟨fun _ => lwC_11 hd hi0 hi hN hG hJ hR nx, fun _ => ?_⟩
  conv => whnf
  refine ⟨fun _ => lwC_12 hd hi0 hi hN hG hJ hR nx, fun _ => ?_⟩
  conv => whnf
  refine ⟨fun _ => lwC_13 hd hi0 hi hN hG hJ hR nx, fun _ => ?_⟩
  conv => whnf
  refine ⟨fun _ => lwC_14 hd hi0 hi hN hG hJ hR nx, fun _ => ?_⟩
  conv => whnf
  refine ⟨fun _ => lwC_15 hd hi0 hi hN hG hJ hR nx, fun _ => ?_⟩
  conv => whnf
  refine ⟨fun _ => lwC_16 hd hi0 hi hN hG hJ hR nx, fun _ => ?_⟩
  conv => whnf
  refine ⟨fun _ => lwC_17 hd hi0 hi hN hG hJ hR nx, fun _ => ?_⟩
  conv => whnf
  refine ⟨fun _ => lwC_18 hd hi0 hi hN hG hJ hR nx, fun _ => ?_⟩
  conv => whnf
  refine ⟨fun _ => lwC_19 hd hi0 hi hN hG hJ hR nx, fun _ => ?_⟩
  conv => whnf
  refine ⟨fun _ => lwC_20 hd hi0 hi hN hG hJ hR nx, fun _ => ?_⟩
  conv => whnf
  refine ⟨fun _ => lwC_21 hd hi0 hi hN hG hJ hR nx, fun _ => ?_⟩
  conv => whnf
  refine ⟨fun _ => lwC_22 hd hi0 hi hN hG hJ hR nx, fun _ => ?_⟩
  conv => whnf
  refine ⟨fun _ => lwC_23 hd hi0 hi hN hG hJ hR nx, fun _ => ?_⟩
  conv => whnf
  refine ⟨fun _ => lwC_24 hd hi0 hi hN hG hJ hR nx, fun _ => ?_⟩
  conv => whnf
  refine ⟨fun _ => lwC_25 hd hi0 hi hN hG hJ hR nx, fun _ => ?_⟩
  conv => whnf
  refine ⟨fun _ => lwC_26 hd hi0 hi hN hG hJ hR nx, fun _ => ?_⟩
  conv => whnf
  refine ⟨fun _ => lwC_27 hd hi0 hi hN hG hJ hR nx, fun _ => ?_⟩
  conv => whnf
  refine ⟨fun _ => lwC_28 hd hi0 hi hN hG hJ hR nx, fun _ => ?_⟩
  conv => whnf
  refine ⟨fun _ => lwC_29 hd hi0 hi hN hG hJ hR nx, fun _ => ?_⟩
  conv => whnf
  refine ⟨fun _ => lwC_30 hd hi0 hi hN hG hJ hR nx, fun _ => ?_⟩
  conv => whnf
  refine ⟨fun _ => lwC_31 hd hi0 hi hN hG hJ hR nx, fun _ => ?_⟩
  conv => whnf
  refine ⟨fun _ => lwC_32 hd hi0 hi hN hG hJ hR nx, fun _ => ?_⟩
  conv => whnf
  refine ⟨fun _ => lwC_33 hd hi0 hi hN hG hJ hR nx, fun _ => ?_⟩
  conv => whnf
  refine ⟨fun _ => lwC_34 hd hi0 hi hN hG hJ hR nx, fun _ => ?_⟩
  conv => whnf
  refine ⟨fun _ => lwC_35 hd hi0 hi hN hG hJ hR nx, fun _ => ?_⟩
  conv => whnf
  refine ⟨fun _ => lwC_36 hd hi0 hi hN hG hJ hR nx, fun _ => ?_⟩
  conv => whnf
  refine ⟨fun _ => lwC_37 hd hi0 hi hN hG hJ hR nx, fun _ => ?_⟩
  conv => whnf
  refine ⟨fun _ => lwC_38 hd hi0 hi hN hG hJ hR nx, fun _ => ?_⟩
  conv => whnf
  refine ⟨fun _ => lwC_39 hd hi0 hi hN hG hJ hR nx, fun _ => ?_⟩
  conv => whnf
  refine ⟨fun _ => lwC_40 hd hi0 hi hN hG hJ hR nx, fun _ => ?_⟩
  conv => whnf
  refine ⟨fun _ => lwC_41 hd hi0 hi hN hG hJ hR nx, fun _ => ?_⟩
  conv => whnf
  refine ⟨fun _ => lwC_42 hd hi0 hi hN hG hJ hR nx, fun _ => ?_⟩
  conv => whnf
  refine ⟨fun _ => lwC_43 hd hi0 hi hN hG hJ hR nx, fun _ => ?_⟩
  conv => whnf
  refine ⟨fun _ => lwC_44 hd hi0 hi hN hG hJ hR nx, fun _ => ?_⟩
  exact nx I L hG hJ hR
theorem nI_sub {N : Nat} (hN : N ≤ 384) : (nI N - 6).toInt = (N : Int) - 6 := by
  have e : (nI N).toInt = (N : Int) := nI_toInt (by omega)
  have c : (6 : Int32).toInt = 6 := rfl
  rw [i32_sub (by rw [e, c]; omega), e, c]
set_option maxHeartbeats 4000000 in
set_option maxRecDepth 20000 in
theorem lw_loop {d : Nat} (hd : 13 ≤ d) {k : jK} {N : Nat} {xs : Nat → Int32} (hN : N ≤ 384) (hk : ∀ σ, k (some (.inl (.inl 1))) σ) : ∀ (n : Nat) (i : Int32) (I : jI) (L : jL), (N : Int) - i.toInt ≤ (n : Int) → 0 ≤ i.toInt → i.toInt ≤ 400 → gG aGI I → jJ I → lR I L → jWB (jWPM d) k (some (N, xs)) jc_law (18, [some (.inr (901, 0)), some (.inr (0, 0)), some (.inr (31, 0)), some (.inl (.inl i))], [], I, L)
  | n, i, I, L, h1, h2, h3, hG, hJ, hR => by
    have es := nI_sub hN
    refine jWB_run [18, 27, 1429] 20 ?_
    conv => whnf
    refine ⟨fun _ => ?_, fun q => ?_⟩
    · refine jWB_run [] 20 ?_
      exact hk _
    · have q : ¬ (N : Int) - 6 < i.toInt := fun z => q (lt_t.mpr (by rw [es]; exact z))
      refine lw_body hd h2 (by omega) hN hG hJ hR (fun I1 L1 g1 j1 r1 => ?_)
      have e6 : (i + 6).toInt = i.toInt + 6 := by rw [i32_add (by simp; omega)]; simp
      refine jWB_run [18] 20 ?_
      match n, h1 with
      | 0, h1 => exfalso; have : (N : Int) - i.toInt ≤ 0 := h1; omega
      | n + 1, h1 => exact lw_loop hd hN hk n (i + 6) I1 L1 (by omega) (by omega) (by omega) g1 j1 r1
termination_by n => n
