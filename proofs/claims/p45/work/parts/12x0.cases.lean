section
set_option maxHeartbeats 4000000 in
set_option maxRecDepth 20000 in
theorem lwC_0 {d : Nat} (hd : 13 ≤ d) {k : jK} {N : Nat} {xs : Nat → Int32} {i : Int32} {I : jI} {L : jL} (hi0 : 0 ≤ i.toInt) (hi : i.toInt + 6 ≤ (N : Int)) (hN : N ≤ 384) (hG : gG aGI I) (hJ : jJ I) (hR : lR I L) (nx : ∀ I' L', gG aGI I' → jJ I' → lR I' L' → jWB (jWPM d) k (some (N, xs)) jc_law (1423, [some (.inr (901, 0)), some (.inr (0, 0)), some (.inr (31, 0)), some (.inl (.inl i))], [], I', L')) : jWB (jWPM d) k (some (N, xs)) jc_law (228, [some (.inr (901, 0)), some (.inr (0, 0)), some (.inr (31, 0)), some (.inl (.inl i))], [], I, L) := by
  refine jWB_run [1423] 80 ?_
  conv => whnf
  refine ⟨lw_ix hi0 hi hN (by decide) (by decide), ?_⟩
  conv => whnf
  refine ⟨lw_ix hi0 hi hN (by decide) (by decide), ?_⟩
  conv => whnf
  refine use_jp (jKP_of cT86 (by decide) (by decide)) hd ⟨⟨rfl, rfl, by simp, by simp⟩, ⟨rfl, (i32_rng _).1, (i32_rng _).2⟩, ⟨rfl, (i32_rng _).1, (i32_rng _).2⟩, trivial⟩ hG hJ (Pr68 hG hR.2.1 hR.2.2.1 (pKR cT86 ⟨⟨rfl, rfl, by simp, by simp⟩, ⟨rfl, (i32_rng _).1, (i32_rng _).2⟩, ⟨rfl, (i32_rng _).1, (i32_rng _).2⟩, trivial⟩ hG)) (fun v1 I1 L1 g1 j1 r1 q1 => ?_)
  obtain ⟨x1, rfl, -, -⟩ := r1
  conv => whnf
  refine ⟨lw_ix hi0 hi hN (by decide) (by decide), ?_⟩
  conv => whnf
  refine ⟨lw_ix hi0 hi hN (by decide) (by decide), ?_⟩
  conv => whnf
  refine use_jp (jKP_of cT126 (by decide) (by decide)) hd ⟨⟨rfl, rfl, by simp, by simp⟩, ⟨rfl, (i32_rng _).1, (i32_rng _).2⟩, ⟨rfl, (i32_rng _).1, (i32_rng _).2⟩, trivial⟩ g1 j1 (Pr130 hG (RD_mid (by decide) hG hR.2.1 q1.2) (RR_mid (by decide) hR.2.2.1 q1.2) (pKR cT126 ⟨⟨rfl, rfl, by simp, by simp⟩, ⟨rfl, (i32_rng _).1, (i32_rng _).2⟩, ⟨rfl, (i32_rng _).1, (i32_rng _).2⟩, trivial⟩ g1)) (fun v2 I2 L2 g2 j2 r2 q2 => ?_)
  obtain ⟨x2, rfl, -, -⟩ := r2
  have qq := Qr68 hG (RD_mid (by decide) hG hR.2.1 q1.2) (RR_mid (by decide) hR.2.2.1 q1.2) q1.1 q2.1
  have rr : lR I2 L2 := ⟨RT_gR (by decide) (RT_gR (by decide) hR.1 q1.2) q2.2, RD_gR (by decide) g1 (RD_gR (by decide) hG hR.2.1 q1.2) q2.2, RR_end (by decide) qq.2 q2.2, RF_end (by decide) (Qs68 hG (RD_mid (by decide) hG hR.2.1 q1.2) (RR_mid (by decide) hR.2.2.1 q1.2) (RF_mid (by decide) hR.2.2.2 q1.2) q1.1 q2.1) q2.2⟩
  have ee := qq.1
  exact nx _ _ g2 j2 rr
set_option maxHeartbeats 4000000 in
set_option maxRecDepth 20000 in
theorem lwC_1 {d : Nat} (hd : 13 ≤ d) {k : jK} {N : Nat} {xs : Nat → Int32} {i : Int32} {I : jI} {L : jL} (hi0 : 0 ≤ i.toInt) (hi : i.toInt + 6 ≤ (N : Int)) (hN : N ≤ 384) (hG : gG aGI I) (hJ : jJ I) (hR : lR I L) (nx : ∀ I' L', gG aGI I' → jJ I' → lR I' L' → jWB (jWPM d) k (some (N, xs)) jc_law (1423, [some (.inr (901, 0)), some (.inr (0, 0)), some (.inr (31, 0)), some (.inl (.inl i))], [], I', L')) : jWB (jWPM d) k (some (N, xs)) jc_law (261, [some (.inr (901, 0)), some (.inr (0, 0)), some (.inr (31, 0)), some (.inl (.inl i))], [], I, L) := by
  refine jWB_run [1423] 80 ?_
  conv => whnf
  refine ⟨lw_ix hi0 hi hN (by decide) (by decide), ?_⟩
  conv => whnf
  refine ⟨lw_ix hi0 hi hN (by decide) (by decide), ?_⟩
  conv => whnf
  refine ⟨lw_ix hi0 hi hN (by decide) (by decide), ?_⟩
  conv => whnf
  refine use_jp (jKP_of cT87 (by decide) (by decide)) hd ⟨⟨rfl, rfl, by simp, by simp⟩, ⟨rfl, (i32_rng _).1, (i32_rng _).2⟩, ⟨rfl, (i32_rng _).1, (i32_rng _).2⟩, ⟨rfl, (i32_rng _).1, (i32_rng _).2⟩, trivial⟩ hG hJ (Pr69 hG hR.2.1 hR.2.2.1 (pKR cT87 ⟨⟨rfl, rfl, by simp, by simp⟩, ⟨rfl, (i32_rng _).1, (i32_rng _).2⟩, ⟨rfl, (i32_rng _).1, (i32_rng _).2⟩, ⟨rfl, (i32_rng _).1, (i32_rng _).2⟩, trivial⟩ hG)) (fun v1 I1 L1 g1 j1 r1 q1 => ?_)
  obtain ⟨x1, rfl, -, -⟩ := r1
  conv => whnf
  refine ⟨lw_ix hi0 hi hN (by decide) (by decide), ?_⟩
  conv => whnf
  refine ⟨lw_ix hi0 hi hN (by decide) (by decide), ?_⟩
  conv => whnf
  refine ⟨lw_ix hi0 hi hN (by decide) (by decide), ?_⟩
  conv => whnf
  refine use_jp (jKP_of cT127 (by decide) (by decide)) hd ⟨⟨rfl, rfl, by simp, by simp⟩, ⟨rfl, (i32_rng _).1, (i32_rng _).2⟩, ⟨rfl, (i32_rng _).1, (i32_rng _).2⟩, ⟨rfl, (i32_rng _).1, (i32_rng _).2⟩, trivial⟩ g1 j1 (Pr133 hG (RD_mid (by decide) hG hR.2.1 q1.2) (RR_mid (by decide) hR.2.2.1 q1.2) (pKR cT127 ⟨⟨rfl, rfl, by simp, by simp⟩, ⟨rfl, (i32_rng _).1, (i32_rng _).2⟩, ⟨rfl, (i32_rng _).1, (i32_rng _).2⟩, ⟨rfl, (i32_rng _).1, (i32_rng _).2⟩, trivial⟩ g1)) (fun v2 I2 L2 g2 j2 r2 q2 => ?_)
  obtain ⟨x2, rfl, -, -⟩ := r2
  have qq := Qr69 hG (RD_mid (by decide) hG hR.2.1 q1.2) (RR_mid (by decide) hR.2.2.1 q1.2) q1.1 q2.1
  have rr : lR I2 L2 := ⟨RT_gR (by decide) (RT_gR (by decide) hR.1 q1.2) q2.2, RD_gR (by decide) g1 (RD_gR (by decide) hG hR.2.1 q1.2) q2.2, RR_end (by decide) qq.2 q2.2, RF_end (by decide) (Qs69 hG (RD_mid (by decide) hG hR.2.1 q1.2) (RR_mid (by decide) hR.2.2.1 q1.2) (RF_mid (by decide) hR.2.2.2 q1.2) q1.1 q2.1) q2.2⟩
  have ee := qq.1
  exact nx _ _ g2 j2 rr
set_option maxHeartbeats 4000000 in
set_option maxRecDepth 20000 in
theorem lwC_2 {d : Nat} (hd : 13 ≤ d) {k : jK} {N : Nat} {xs : Nat → Int32} {i : Int32} {I : jI} {L : jL} (hi0 : 0 ≤ i.toInt) (hi : i.toInt + 6 ≤ (N : Int)) (hN : N ≤ 384) (hG : gG aGI I) (hJ : jJ I) (hR : lR I L) (nx : ∀ I' L', gG aGI I' → jJ I' → lR I' L' → jWB (jWPM d) k (some (N, xs)) jc_law (1423, [some (.inr (901, 0)), some (.inr (0, 0)), some (.inr (31, 0)), some (.inl (.inl i))], [], I', L')) : jWB (jWPM d) k (some (N, xs)) jc_law (304, [some (.inr (901, 0)), some (.inr (0, 0)), some (.inr (31, 0)), some (.inl (.inl i))], [], I, L) := by
  refine jWB_run [1423] 80 ?_
  conv => whnf
  refine ⟨lw_ix hi0 hi hN (by decide) (by decide), ?_⟩
  conv => whnf
  refine ⟨lw_ix hi0 hi hN (by decide) (by decide), ?_⟩
  conv => whnf
  refine use_jp (jKP_of cT88 (by decide) (by decide)) hd ⟨⟨rfl, rfl, by simp, by simp⟩, ⟨rfl, (i32_rng _).1, (i32_rng _).2⟩, ⟨rfl, (i32_rng _).1, (i32_rng _).2⟩, trivial⟩ hG hJ (Pr70 hG hR.2.1 hR.2.2.1 (pKR cT88 ⟨⟨rfl, rfl, by simp, by simp⟩, ⟨rfl, (i32_rng _).1, (i32_rng _).2⟩, ⟨rfl, (i32_rng _).1, (i32_rng _).2⟩, trivial⟩ hG)) (fun v1 I1 L1 g1 j1 r1 q1 => ?_)
  obtain ⟨x1, rfl, -, -⟩ := r1
  conv => whnf
  refine ⟨lw_ix hi0 hi hN (by decide) (by decide), ?_⟩
  conv => whnf
  refine ⟨lw_ix hi0 hi hN (by decide) (by decide), ?_⟩
  conv => whnf
  refine use_jp (jKP_of cT128 (by decide) (by decide)) hd ⟨⟨rfl, rfl, by simp, by simp⟩, ⟨rfl, (i32_rng _).1, (i32_rng _).2⟩, ⟨rfl, (i32_rng _).1, (i32_rng _).2⟩, trivial⟩ g1 j1 (Pr134 hG (RD_mid (by decide) hG hR.2.1 q1.2) (RR_mid (by decide) hR.2.2.1 q1.2) (pKR cT128 ⟨⟨rfl, rfl, by simp, by simp⟩, ⟨rfl, (i32_rng _).1, (i32_rng _).2⟩, ⟨rfl, (i32_rng _).1, (i32_rng _).2⟩, trivial⟩ g1)) (fun v2 I2 L2 g2 j2 r2 q2 => ?_)
  obtain ⟨x2, rfl, -, -⟩ := r2
  have qq := Qr70 hG (RD_mid (by decide) hG hR.2.1 q1.2) (RR_mid (by decide) hR.2.2.1 q1.2) q1.1 q2.1
  have rr : lR I2 L2 := ⟨RT_gR (by decide) (RT_gR (by decide) hR.1 q1.2) q2.2, RD_gR (by decide) g1 (RD_gR (by decide) hG hR.2.1 q1.2) q2.2, RR_end (by decide) qq.2 q2.2, RF_end (by decide) (Qs70 hG (RD_mid (by decide) hG hR.2.1 q1.2) (RR_mid (by decide) hR.2.2.1 q1.2) (RF_mid (by decide) hR.2.2.2 q1.2) q1.1 q2.1) q2.2⟩
  have ee := qq.1
  exact nx _ _ g2 j2 rr
set_option maxHeartbeats 4000000 in
set_option maxRecDepth 20000 in
theorem lwC_3 {d : Nat} (hd : 13 ≤ d) {k : jK} {N : Nat} {xs : Nat → Int32} {i : Int32} {I : jI} {L : jL} (hi0 : 0 ≤ i.toInt) (hi : i.toInt + 6 ≤ (N : Int)) (hN : N ≤ 384) (hG : gG aGI I) (hJ : jJ I) (hR : lR I L) (nx : ∀ I' L', gG aGI I' → jJ I' → lR I' L' → jWB (jWPM d) k (some (N, xs)) jc_law (1423, [some (.inr (901, 0)), some (.inr (0, 0)), some (.inr (31, 0)), some (.inl (.inl i))], [], I', L')) : jWB (jWPM d) k (some (N, xs)) jc_law (337, [some (.inr (901, 0)), some (.inr (0, 0)), some (.inr (31, 0)), some (.inl (.inl i))], [], I, L) := by
  refine jWB_run [1423] 80 ?_
  conv => whnf
  refine ⟨lw_ix hi0 hi hN (by decide) (by decide), ?_⟩
  conv => whnf
  refine use_jp (jKP_of cT89 (by decide) (by decide)) hd ⟨⟨rfl, rfl, by simp, by simp⟩, ⟨rfl, (i32_rng _).1, (i32_rng _).2⟩, trivial⟩ hG hJ (Pr71 hG hR.2.1 hR.2.2.1 (pKR cT89 ⟨⟨rfl, rfl, by simp, by simp⟩, ⟨rfl, (i32_rng _).1, (i32_rng _).2⟩, trivial⟩ hG)) (fun v1 I1 L1 g1 j1 r1 q1 => ?_)
  obtain ⟨x1, rfl, -, -⟩ := r1
  conv => whnf
  refine ⟨lw_ix hi0 hi hN (by decide) (by decide), ?_⟩
  conv => whnf
  refine use_jp (jKP_of cT129 (by decide) (by decide)) hd ⟨⟨rfl, rfl, by simp, by simp⟩, ⟨rfl, (i32_rng _).1, (i32_rng _).2⟩, trivial⟩ g1 j1 (Pr135 hG (RD_mid (by decide) hG hR.2.1 q1.2) (RR_mid (by decide) hR.2.2.1 q1.2) (pKR cT129 ⟨⟨rfl, rfl, by simp, by simp⟩, ⟨rfl, (i32_rng _).1, (i32_rng _).2⟩, trivial⟩ g1)) (fun v2 I2 L2 g2 j2 r2 q2 => ?_)
  obtain ⟨x2, rfl, -, -⟩ := r2
  have qq := Qr71 hG (RD_mid (by decide) hG hR.2.1 q1.2) (RR_mid (by decide) hR.2.2.1 q1.2) q1.1 q2.1
  have rr : lR I2 L2 := ⟨RT_gR (by decide) (RT_gR (by decide) hR.1 q1.2) q2.2, RD_gR (by decide) g1 (RD_gR (by decide) hG hR.2.1 q1.2) q2.2, RR_end (by decide) qq.2 q2.2, RF_end (by decide) (Qs71 hG (RD_mid (by decide) hG hR.2.1 q1.2) (RR_mid (by decide) hR.2.2.1 q1.2) (RF_mid (by decide) hR.2.2.2 q1.2) q1.1 q2.1) q2.2⟩
  have ee := qq.1
  exact nx _ _ g2 j2 rr
set_option maxHeartbeats 4000000 in
set_option maxRecDepth 20000 in
theorem lwC_4 {d : Nat} (hd : 13 ≤ d) {k : jK} {N : Nat} {xs : Nat → Int32} {i : Int32} {I : jI} {L : jL} (hi0 : 0 ≤ i.toInt) (hi : i.toInt + 6 ≤ (N : Int)) (hN : N ≤ 384) (hG : gG aGI I) (hJ : jJ I) (hR : lR I L) (nx : ∀ I' L', gG aGI I' → jJ I' → lR I' L' → jWB (jWPM d) k (some (N, xs)) jc_law (1423, [some (.inr (901, 0)), some (.inr (0, 0)), some (.inr (31, 0)), some (.inl (.inl i))], [], I', L')) : jWB (jWPM d) k (some (N, xs)) jc_law (360, [some (.inr (901, 0)), some (.inr (0, 0)), some (.inr (31, 0)), some (.inl (.inl i))], [], I, L) := by
  refine jWB_run [1423] 80 ?_
  conv => whnf
  refine ⟨lw_ix hi0 hi hN (by decide) (by decide), ?_⟩
  conv => whnf
  refine ⟨lw_ix hi0 hi hN (by decide) (by decide), ?_⟩
  conv => whnf
  refine ⟨lw_ix hi0 hi hN (by decide) (by decide), ?_⟩
  conv => whnf
  refine ⟨lw_ix hi0 hi hN (by decide) (by decide), ?_⟩
  conv => whnf
  refine ⟨lw_ix hi0 hi hN (by decide) (by decide), ?_⟩
  conv => whnf
  refine use_jp (jKP_of hK_copy (by decide) (by decide)) hd ⟨⟨rfl, rfl, by simp, by simp⟩, ⟨rfl, (i32_rng _).1, (i32_rng _).2⟩, ⟨rfl, (i32_rng _).1, (i32_rng _).2⟩, ⟨rfl, (i32_rng _).1, (i32_rng _).2⟩, ⟨rfl, (i32_rng _).1, (i32_rng _).2⟩, ⟨rfl, (i32_rng _).1, (i32_rng _).2⟩, trivial⟩ hG hJ (Pr72 hG hR.2.1 hR.2.2.1 (pKR hK_copy ⟨⟨rfl, rfl, by simp, by simp⟩, ⟨rfl, (i32_rng _).1, (i32_rng _).2⟩, ⟨rfl, (i32_rng _).1, (i32_rng _).2⟩, ⟨rfl, (i32_rng _).1, (i32_rng _).2⟩, ⟨rfl, (i32_rng _).1, (i32_rng _).2⟩, ⟨rfl, (i32_rng _).1, (i32_rng _).2⟩, trivial⟩ hG)) (fun v1 I1 L1 g1 j1 r1 q1 => ?_)
  obtain ⟨x1, rfl, -, -⟩ := r1
  conv => whnf
  refine ⟨lw_ix hi0 hi hN (by decide) (by decide), ?_⟩
  conv => whnf
  refine ⟨lw_ix hi0 hi hN (by decide) (by decide), ?_⟩
  conv => whnf
  refine ⟨lw_ix hi0 hi hN (by decide) (by decide), ?_⟩
  conv => whnf
  refine ⟨lw_ix hi0 hi hN (by decide) (by decide), ?_⟩
  conv => whnf
  refine ⟨lw_ix hi0 hi hN (by decide) (by decide), ?_⟩
  conv => whnf
  refine use_jp (jKP_of hK_mcopy (by decide) (by decide)) hd ⟨⟨rfl, rfl, by simp, by simp⟩, ⟨rfl, (i32_rng _).1, (i32_rng _).2⟩, ⟨rfl, (i32_rng _).1, (i32_rng _).2⟩, ⟨rfl, (i32_rng _).1, (i32_rng _).2⟩, ⟨rfl, (i32_rng _).1, (i32_rng _).2⟩, ⟨rfl, (i32_rng _).1, (i32_rng _).2⟩, trivial⟩ g1 j1 (Pr137 hG (RD_mid (by decide) hG hR.2.1 q1.2) (RR_mid (by decide) hR.2.2.1 q1.2) (pKR hK_mcopy ⟨⟨rfl, rfl, by simp, by simp⟩, ⟨rfl, (i32_rng _).1, (i32_rng _).2⟩, ⟨rfl, (i32_rng _).1, (i32_rng _).2⟩, ⟨rfl, (i32_rng _).1, (i32_rng _).2⟩, ⟨rfl, (i32_rng _).1, (i32_rng _).2⟩, ⟨rfl, (i32_rng _).1, (i32_rng _).2⟩, trivial⟩ g1)) (fun v2 I2 L2 g2 j2 r2 q2 => ?_)
  obtain ⟨x2, rfl, -, -⟩ := r2
  have qq := Qr72 hG (RD_mid (by decide) hG hR.2.1 q1.2) (RR_mid (by decide) hR.2.2.1 q1.2) q1.1 q2.1
  have rr : lR I2 L2 := ⟨RT_gR (by decide) (RT_gR (by decide) hR.1 q1.2) q2.2, RD_gR (by decide) g1 (RD_gR (by decide) hG hR.2.1 q1.2) q2.2, RR_end (by decide) qq.2 q2.2, RF_end (by decide) (Qs72 hG (RD_mid (by decide) hG hR.2.1 q1.2) (RR_mid (by decide) hR.2.2.1 q1.2) (RF_mid (by decide) hR.2.2.2 q1.2) q1.1 q2.1) q2.2⟩
  have ee := qq.1
  exact nx _ _ g2 j2 rr
set_option maxHeartbeats 4000000 in
set_option maxRecDepth 20000 in
theorem lwC_5 {d : Nat} (hd : 13 ≤ d) {k : jK} {N : Nat} {xs : Nat → Int32} {i : Int32} {I : jI} {L : jL} (hi0 : 0 ≤ i.toInt) (hi : i.toInt + 6 ≤ (N : Int)) (hN : N ≤ 384) (hG : gG aGI I) (hJ : jJ I) (hR : lR I L) (nx : ∀ I' L', gG aGI I' → jJ I' → lR I' L' → jWB (jWPM d) k (some (N, xs)) jc_law (1423, [some (.inr (901, 0)), some (.inr (0, 0)), some (.inr (31, 0)), some (.inl (.inl i))], [], I', L')) : jWB (jWPM d) k (some (N, xs)) jc_law (423, [some (.inr (901, 0)), some (.inr (0, 0)), some (.inr (31, 0)), some (.inl (.inl i))], [], I, L) := by
  refine jWB_run [1423] 80 ?_
  conv => whnf
  refine ⟨lw_ix hi0 hi hN (by decide) (by decide), ?_⟩
  conv => whnf
  refine use_jp (jKP_of cT90 (by decide) (by decide)) hd ⟨⟨rfl, rfl, by simp, by simp⟩, ⟨rfl, (i32_rng _).1, (i32_rng _).2⟩, trivial⟩ hG hJ (Pr73 hG hR.2.1 hR.2.2.1 (pKR cT90 ⟨⟨rfl, rfl, by simp, by simp⟩, ⟨rfl, (i32_rng _).1, (i32_rng _).2⟩, trivial⟩ hG)) (fun v1 I1 L1 g1 j1 r1 q1 => ?_)
  obtain ⟨x1, rfl, -, -⟩ := r1
  conv => whnf
  refine ⟨lw_ix hi0 hi hN (by decide) (by decide), ?_⟩
  conv => whnf
  refine use_jp (jKP_of cT130 (by decide) (by decide)) hd ⟨⟨rfl, rfl, by simp, by simp⟩, ⟨rfl, (i32_rng _).1, (i32_rng _).2⟩, trivial⟩ g1 j1 (Pr138 hG (RD_mid (by decide) hG hR.2.1 q1.2) (RR_mid (by decide) hR.2.2.1 q1.2) (pKR cT130 ⟨⟨rfl, rfl, by simp, by simp⟩, ⟨rfl, (i32_rng _).1, (i32_rng _).2⟩, trivial⟩ g1)) (fun v2 I2 L2 g2 j2 r2 q2 => ?_)
  obtain ⟨x2, rfl, -, -⟩ := r2
  have qq := Qr73 hG (RD_mid (by decide) hG hR.2.1 q1.2) (RR_mid (by decide) hR.2.2.1 q1.2) q1.1 q2.1
  have rr : lR I2 L2 := ⟨RT_gR (by decide) (RT_gR (by decide) hR.1 q1.2) q2.2, RD_gR (by decide) g1 (RD_gR (by decide) hG hR.2.1 q1.2) q2.2, RR_end (by decide) qq.2 q2.2, RF_end (by decide) (Qs73 hG (RD_mid (by decide) hG hR.2.1 q1.2) (RR_mid (by decide) hR.2.2.1 q1.2) (RF_mid (by decide) hR.2.2.2 q1.2) q1.1 q2.1) q2.2⟩
  have ee := qq.1
  exact nx _ _ g2 j2 rr
set_option maxHeartbeats 4000000 in
set_option maxRecDepth 20000 in
theorem lwC_6 {d : Nat} (hd : 13 ≤ d) {k : jK} {N : Nat} {xs : Nat → Int32} {i : Int32} {I : jI} {L : jL} (hi0 : 0 ≤ i.toInt) (hi : i.toInt + 6 ≤ (N : Int)) (hN : N ≤ 384) (hG : gG aGI I) (hJ : jJ I) (hR : lR I L) (nx : ∀ I' L', gG aGI I' → jJ I' → lR I' L' → jWB (jWPM d) k (some (N, xs)) jc_law (1423, [some (.inr (901, 0)), some (.inr (0, 0)), some (.inr (31, 0)), some (.inl (.inl i))], [], I', L')) : jWB (jWPM d) k (some (N, xs)) jc_law (446, [some (.inr (901, 0)), some (.inr (0, 0)), some (.inr (31, 0)), some (.inl (.inl i))], [], I, L) := by
  refine jWB_run [1423] 80 ?_
  conv => whnf
  refine ⟨lw_ix hi0 hi hN (by decide) (by decide), ?_⟩
  conv => whnf
  refine ⟨lw_ix hi0 hi hN (by decide) (by decide), ?_⟩
  conv => whnf
  refine use_jp (jKP_of cT91 (by decide) (by decide)) hd ⟨⟨rfl, rfl, by simp, by simp⟩, ⟨rfl, (i32_rng _).1, (i32_rng _).2⟩, ⟨rfl, (i32_rng _).1, (i32_rng _).2⟩, trivial⟩ hG hJ (jPM_and P74 Pf74) (fun v1 I1 L1 g1 j1 r1 q1 => ?_)
  obtain ⟨x1, rfl, -, -⟩ := r1
  conv => whnf
  refine ⟨lw_ix hi0 hi hN (by decide) (by decide), ?_⟩
  conv => whnf
  refine ⟨lw_ix hi0 hi hN (by decide) (by decide), ?_⟩
  conv => whnf
  refine use_jp (jKP_of cT131 (by decide) (by decide)) hd ⟨⟨rfl, rfl, by simp, by simp⟩, ⟨rfl, (i32_rng _).1, (i32_rng _).2⟩, ⟨rfl, (i32_rng _).1, (i32_rng _).2⟩, trivial⟩ g1 j1 (jPM_and P139 Pf139) (fun v2 I2 L2 g2 j2 r2 q2 => ?_)
  obtain ⟨x2, rfl, -, -⟩ := r2
  obtain ⟨q1, w1⟩ := q1
  obtain ⟨q2, w2⟩ := q2
  have rr : lR I2 L2 := ⟨RT_text hR.1 q1.2 q2.2 q1.1.2 q2.1.2, RD_fr g1 (RD_fr hG hR.2.1 q1.2 rfl) q2.2 rfl, RR_fr (RR_fr hR.2.2.1 q1.2 rfl) q2.2 rfl, RF_frC (Qf74 (RF_frM hR.2.2.2 q1.2 rfl) w1 w2) q2.2 rfl⟩
  exact nx _ _ g2 j2 rr
set_option maxHeartbeats 4000000 in
set_option maxRecDepth 20000 in
theorem lwC_7 {d : Nat} (hd : 13 ≤ d) {k : jK} {N : Nat} {xs : Nat → Int32} {i : Int32} {I : jI} {L : jL} (hi0 : 0 ≤ i.toInt) (hi : i.toInt + 6 ≤ (N : Int)) (hN : N ≤ 384) (hG : gG aGI I) (hJ : jJ I) (hR : lR I L) (nx : ∀ I' L', gG aGI I' → jJ I' → lR I' L' → jWB (jWPM d) k (some (N, xs)) jc_law (1423, [some (.inr (901, 0)), some (.inr (0, 0)), some (.inr (31, 0)), some (.inl (.inl i))], [], I', L')) : jWB (jWPM d) k (some (N, xs)) jc_law (479, [some (.inr (901, 0)), some (.inr (0, 0)), some (.inr (31, 0)), some (.inl (.inl i))], [], I, L) := by
  refine jWB_run [1423] 80 ?_
  conv => whnf
  refine ⟨lw_ix hi0 hi hN (by decide) (by decide), ?_⟩
  conv => whnf
  refine ⟨lw_ix hi0 hi hN (by decide) (by decide), ?_⟩
  conv => whnf
  refine ⟨lw_ix hi0 hi hN (by decide) (by decide), ?_⟩
  conv => whnf
  refine use_jp (jKP_of cT92 (by decide) (by decide)) hd ⟨⟨rfl, rfl, by simp, by simp⟩, ⟨rfl, (i32_rng _).1, (i32_rng _).2⟩, ⟨rfl, (i32_rng _).1, (i32_rng _).2⟩, ⟨rfl, (i32_rng _).1, (i32_rng _).2⟩, trivial⟩ hG hJ (jPM_and P75 (Pf75 hG hR.1)) (fun v1 I1 L1 g1 j1 r1 q1 => ?_)
  obtain ⟨x1, rfl, -, -⟩ := r1
  conv => whnf
  refine ⟨lw_ix hi0 hi hN (by decide) (by decide), ?_⟩
  conv => whnf
  refine ⟨lw_ix hi0 hi hN (by decide) (by decide), ?_⟩
  conv => whnf
  refine ⟨lw_ix hi0 hi hN (by decide) (by decide), ?_⟩
  conv => whnf
  refine use_jp (jKP_of cT132 (by decide) (by decide)) hd ⟨⟨rfl, rfl, by simp, by simp⟩, ⟨rfl, (i32_rng _).1, (i32_rng _).2⟩, ⟨rfl, (i32_rng _).1, (i32_rng _).2⟩, ⟨rfl, (i32_rng _).1, (i32_rng _).2⟩, trivial⟩ g1 j1 (jPM_and (P140 g1) (Pf140 hG (RT2_fr hR.1 q1.1.2 rfl))) (fun v2 I2 L2 g2 j2 r2 q2 => ?_)
  obtain ⟨x2, rfl, -, -⟩ := r2
  obtain ⟨q1, w1⟩ := q1
  obtain ⟨q2, w2⟩ := q2
  have fu := Qf75 hG (RT2_fr hR.1 q1.2 rfl) (RF_frM hR.2.2.2 q1.2 rfl) w1 w2
  obtain ⟨⟨y1, e1, s1⟩, f1⟩ := q1
  obtain ⟨⟨y2, e2, s2⟩, f2⟩ := q2
  cases e1
  cases e2
  obtain ⟨rr0, ee⟩ := RT_put hG hR.1 f1 f2 s1 s2
  have rr : lR I2 L2 := ⟨rr0, RD_fr g1 (RD_fr hG hR.2.1 f1 rfl) f2 rfl, RR_fr (RR_fr hR.2.2.1 f1 rfl) f2 rfl, RF_frC fu f2 rfl⟩
  exact nx _ _ g2 j2 rr
set_option maxHeartbeats 4000000 in
set_option maxRecDepth 20000 in
theorem lwC_8 {d : Nat} (hd : 13 ≤ d) {k : jK} {N : Nat} {xs : Nat → Int32} {i : Int32} {I : jI} {L : jL} (hi0 : 0 ≤ i.toInt) (hi : i.toInt + 6 ≤ (N : Int)) (hN : N ≤ 384) (hG : gG aGI I) (hJ : jJ I) (hR : lR I L) (nx : ∀ I' L', gG aGI I' → jJ I' → lR I' L' → jWB (jWPM d) k (some (N, xs)) jc_law (1423, [some (.inr (901, 0)), some (.inr (0, 0)), some (.inr (31, 0)), some (.inl (.inl i))], [], I', L')) : jWB (jWPM d) k (some (N, xs)) jc_law (522, [some (.inr (901, 0)), some (.inr (0, 0)), some (.inr (31, 0)), some (.inl (.inl i))], [], I, L) := by
  refine jWB_run [1423] 80 ?_
  conv => whnf
  refine ⟨lw_ix hi0 hi hN (by decide) (by decide), ?_⟩
  conv => whnf
  refine use_jp (jKP_of cT93 (by decide) (by decide)) hd ⟨⟨rfl, rfl, by simp, by simp⟩, ⟨rfl, (i32_rng _).1, (i32_rng _).2⟩, trivial⟩ hG hJ (jPM_and (Pf76 hG hG hR.1) (pKR cT93 ⟨⟨rfl, rfl, by simp, by simp⟩, ⟨rfl, (i32_rng _).1, (i32_rng _).2⟩, trivial⟩ hG)) (fun v1 I1 L1 g1 j1 r1 q1 => ?_)
  obtain ⟨x1, rfl, -, -⟩ := r1
  conv => whnf
  refine ⟨lw_ix hi0 hi hN (by decide) (by decide), ?_⟩
  conv => whnf
  refine use_jp (jKP_of hK_mfault (by decide) (by decide)) hd ⟨⟨rfl, rfl, by simp, by simp⟩, ⟨rfl, (i32_rng _).1, (i32_rng _).2⟩, trivial⟩ g1 j1 (jPM_and (Pf149 hG g1 (RT2_mid (by decide) hR.1 q1.2)) (pKR hK_mfault ⟨⟨rfl, rfl, by simp, by simp⟩, ⟨rfl, (i32_rng _).1, (i32_rng _).2⟩, trivial⟩ g1)) (fun v2 I2 L2 g2 j2 r2 q2 => ?_)
  obtain ⟨x2, rfl, -, -⟩ := r2
  have fu := Qf76 hG g1 (RT2_mid (by decide) hR.1 q1.2) (RF_mid (by decide) hR.2.2.2 q1.2) q1.1 q2.1
  have rr : lR I2 L2 := ⟨RT_gR (by decide) (RT_gR (by decide) hR.1 q1.2) q2.2, RD_gR (by decide) g1 (RD_gR (by decide) hG hR.2.1 q1.2) q2.2, RR_gR (by decide) (by decide) (RR_gR (by decide) (by decide) hR.2.2.1 q1.2) q2.2, RF_end (by decide) fu q2.2⟩
  exact nx _ _ g2 j2 rr
set_option maxHeartbeats 4000000 in
set_option maxRecDepth 20000 in
theorem lwC_9 {d : Nat} (hd : 13 ≤ d) {k : jK} {N : Nat} {xs : Nat → Int32} {i : Int32} {I : jI} {L : jL} (hi0 : 0 ≤ i.toInt) (hi : i.toInt + 6 ≤ (N : Int)) (hN : N ≤ 384) (hG : gG aGI I) (hJ : jJ I) (hR : lR I L) (nx : ∀ I' L', gG aGI I' → jJ I' → lR I' L' → jWB (jWPM d) k (some (N, xs)) jc_law (1423, [some (.inr (901, 0)), some (.inr (0, 0)), some (.inr (31, 0)), some (.inl (.inl i))], [], I', L')) : jWB (jWPM d) k (some (N, xs)) jc_law (545, [some (.inr (901, 0)), some (.inr (0, 0)), some (.inr (31, 0)), some (.inl (.inl i))], [], I, L) := by
  refine jWB_run [1423] 80 ?_
  conv => whnf
  refine ⟨lw_ix hi0 hi hN (by decide) (by decide), ?_⟩
  conv => whnf
  refine use_jp jK_house hd ⟨⟨rfl, rfl, by simp, by simp⟩, ⟨rfl, (i32_rng _).1, (i32_rng _).2⟩, trivial⟩ hG hJ (Pq77 hG hJ hR.1 hR.2.1) (fun v1 I1 L1 g1 j1 r1 q1 => ?_)
  obtain ⟨x1, rfl, -, -⟩ := r1
  conv => whnf
  refine ⟨lw_ix hi0 hi hN (by decide) (by decide), ?_⟩
  conv => whnf
  refine use_jp (jKP_of hK_mhouse (by decide) (by decide)) hd ⟨⟨rfl, rfl, by simp, by simp⟩, ⟨rfl, (i32_rng _).1, (i32_rng _).2⟩, trivial⟩ g1 j1 (Pq150 hG g1 hJ hR.1 hR.2.1 q1.2) (fun v2 I2 L2 g2 j2 r2 q2 => ?_)
  obtain ⟨x2, rfl, -, -⟩ := r2
  have qq := Qq77 hG g1 hJ hR.1 hR.2.1 q1 q2
  have rr : lR I2 L2 := ⟨RT_fr (RT_fr hR.1 q1.2 rfl) q2.2 rfl, qq.2, RR_fr (RR_fr hR.2.2.1 q1.2 rfl) q2.2 rfl, RF_frC (Qf77 hG g1 (RT2_fr hR.1 q1.2 rfl) (RF_frM hR.2.2.2 q1.2 rfl) q1.1 q2.1) q2.2 rfl⟩
  exact nx _ _ g2 j2 rr
set_option maxHeartbeats 4000000 in
set_option maxRecDepth 20000 in
theorem lwC_10 {d : Nat} (hd : 13 ≤ d) {k : jK} {N : Nat} {xs : Nat → Int32} {i : Int32} {I : jI} {L : jL} (hi0 : 0 ≤ i.toInt) (hi : i.toInt + 6 ≤ (N : Int)) (hN : N ≤ 384) (hG : gG aGI I) (hJ : jJ I) (hR : lR I L) (nx : ∀ I' L', gG aGI I' → jJ I' → lR I' L' → jWB (jWPM d) k (some (N, xs)) jc_law (1423, [some (.inr (901, 0)), some (.inr (0, 0)), some (.inr (31, 0)), some (.inl (.inl i))], [], I', L')) : jWB (jWPM d) k (some (N, xs)) jc_law (568, [some (.inr (901, 0)), some (.inr (0, 0)), some (.inr (31, 0)), some (.inl (.inl i))], [], I, L) := by
  refine jWB_run [1423] 80 ?_
  conv => whnf
  refine ⟨lw_ix hi0 hi hN (by decide) (by decide), ?_⟩
  conv => whnf
  refine ⟨lw_ix hi0 hi hN (by decide) (by decide), ?_⟩
  conv => whnf
  refine use_jp (jKP_of cT95 (by decide) (by decide)) hd ⟨⟨rfl, rfl, by simp, by simp⟩, ⟨rfl, (i32_rng _).1, (i32_rng _).2⟩, ⟨rfl, (i32_rng _).1, (i32_rng _).2⟩, trivial⟩ hG hJ (pKR cT95 ⟨⟨rfl, rfl, by simp, by simp⟩, ⟨rfl, (i32_rng _).1, (i32_rng _).2⟩, ⟨rfl, (i32_rng _).1, (i32_rng _).2⟩, trivial⟩ hG) (fun v1 I1 L1 g1 j1 r1 q1 => ?_)
  obtain ⟨x1, rfl, -, -⟩ := r1
  conv => whnf
  refine ⟨lw_ix hi0 hi hN (by decide) (by decide), ?_⟩
  conv => whnf
  refine ⟨lw_ix hi0 hi hN (by decide) (by decide), ?_⟩
  conv => whnf
  refine use_jp (jKP_of cT142 (by decide) (by decide)) hd ⟨⟨rfl, rfl, by simp, by simp⟩, ⟨rfl, (i32_rng _).1, (i32_rng _).2⟩, ⟨rfl, (i32_rng _).1, (i32_rng _).2⟩, trivial⟩ g1 j1 (pKR cT142 ⟨⟨rfl, rfl, by simp, by simp⟩, ⟨rfl, (i32_rng _).1, (i32_rng _).2⟩, ⟨rfl, (i32_rng _).1, (i32_rng _).2⟩, trivial⟩ g1) (fun v2 I2 L2 g2 j2 r2 q2 => ?_)
  obtain ⟨x2, rfl, -, -⟩ := r2
  have rr := lR_gR (by decide) (by decide) (by decide) (by decide) (by decide) (by decide) g1 (lR_gR (by decide) (by decide) (by decide) (by decide) (by decide) (by decide) hG hR q1) q2
  exact nx _ _ g2 j2 rr
set_option maxHeartbeats 4000000 in
set_option maxRecDepth 20000 in
theorem lwC_11 {d : Nat} (hd : 13 ≤ d) {k : jK} {N : Nat} {xs : Nat → Int32} {i : Int32} {I : jI} {L : jL} (hi0 : 0 ≤ i.toInt) (hi : i.toInt + 6 ≤ (N : Int)) (hN : N ≤ 384) (hG : gG aGI I) (hJ : jJ I) (hR : lR I L) (nx : ∀ I' L', gG aGI I' → jJ I' → lR I' L' → jWB (jWPM d) k (some (N, xs)) jc_law (1423, [some (.inr (901, 0)), some (.inr (0, 0)), some (.inr (31, 0)), some (.inl (.inl i))], [], I', L')) : jWB (jWPM d) k (some (N, xs)) jc_law (601, [some (.inr (901, 0)), some (.inr (0, 0)), some (.inr (31, 0)), some (.inl (.inl i))], [], I, L) := by
  refine jWB_run [1423] 80 ?_
  conv => whnf
  refine ⟨lw_ix hi0 hi hN (by decide) (by decide), ?_⟩
  conv => whnf
  refine ⟨lw_ix hi0 hi hN (by decide) (by decide), ?_⟩
  conv => whnf
  refine use_jp (jKP_of cT96 (by decide) (by decide)) hd ⟨⟨rfl, rfl, by simp, by simp⟩, ⟨rfl, (i32_rng _).1, (i32_rng _).2⟩, ⟨rfl, (i32_rng _).1, (i32_rng _).2⟩, trivial⟩ hG hJ (jPM_and (Pf79 hG hR.2.1) (pKR cT96 ⟨⟨rfl, rfl, by simp, by simp⟩, ⟨rfl, (i32_rng _).1, (i32_rng _).2⟩, ⟨rfl, (i32_rng _).1, (i32_rng _).2⟩, trivial⟩ hG)) (fun v1 I1 L1 g1 j1 r1 q1 => ?_)
  obtain ⟨x1, rfl, -, -⟩ := r1
  conv => whnf
  refine ⟨lw_ix hi0 hi hN (by decide) (by decide), ?_⟩
  conv => whnf
  refine ⟨lw_ix hi0 hi hN (by decide) (by decide), ?_⟩
  conv => whnf
  refine use_jp (jKP_of cT144 (by decide) (by decide)) hd ⟨⟨rfl, rfl, by simp, by simp⟩, ⟨rfl, (i32_rng _).1, (i32_rng _).2⟩, ⟨rfl, (i32_rng _).1, (i32_rng _).2⟩, trivial⟩ g1 j1 (jPM_and (Pf160 hG (RD_mid (by decide) hG hR.2.1 q1.2)) (pKR cT144 ⟨⟨rfl, rfl, by simp, by simp⟩, ⟨rfl, (i32_rng _).1, (i32_rng _).2⟩, ⟨rfl, (i32_rng _).1, (i32_rng _).2⟩, trivial⟩ g1)) (fun v2 I2 L2 g2 j2 r2 q2 => ?_)
  obtain ⟨x2, rfl, -, -⟩ := r2
  have fu := Qf79 hG (RD_mid (by decide) hG hR.2.1 q1.2) (RF_mid (by decide) hR.2.2.2 q1.2) q1.1 q2.1
  have rr : lR I2 L2 := ⟨RT_gR (by decide) (RT_gR (by decide) hR.1 q1.2) q2.2, RD_gR (by decide) g1 (RD_gR (by decide) hG hR.2.1 q1.2) q2.2, RR_gR (by decide) (by decide) (RR_gR (by decide) (by decide) hR.2.2.1 q1.2) q2.2, RF_end (by decide) fu q2.2⟩
  exact nx _ _ g2 j2 rr
set_option maxHeartbeats 4000000 in
set_option maxRecDepth 20000 in
theorem lwC_12 {d : Nat} (hd : 13 ≤ d) {k : jK} {N : Nat} {xs : Nat → Int32} {i : Int32} {I : jI} {L : jL} (hi0 : 0 ≤ i.toInt) (hi : i.toInt + 6 ≤ (N : Int)) (hN : N ≤ 384) (hG : gG aGI I) (hJ : jJ I) (hR : lR I L) (nx : ∀ I' L', gG aGI I' → jJ I' → lR I' L' → jWB (jWPM d) k (some (N, xs)) jc_law (1423, [some (.inr (901, 0)), some (.inr (0, 0)), some (.inr (31, 0)), some (.inl (.inl i))], [], I', L')) : jWB (jWPM d) k (some (N, xs)) jc_law (634, [some (.inr (901, 0)), some (.inr (0, 0)), some (.inr (31, 0)), some (.inl (.inl i))], [], I, L) := by
  refine jWB_run [1423] 80 ?_
  conv => whnf
  refine ⟨lw_ix hi0 hi hN (by decide) (by decide), ?_⟩
  conv => whnf
  refine use_jp (jKP_of cT97 (by decide) (by decide)) hd ⟨⟨rfl, rfl, by simp, by simp⟩, ⟨rfl, (i32_rng _).1, (i32_rng _).2⟩, trivial⟩ hG hJ (pKR cT97 ⟨⟨rfl, rfl, by simp, by simp⟩, ⟨rfl, (i32_rng _).1, (i32_rng _).2⟩, trivial⟩ hG) (fun v1 I1 L1 g1 j1 r1 q1 => ?_)
  obtain ⟨x1, rfl, -, -⟩ := r1
  conv => whnf
  refine ⟨lw_ix hi0 hi hN (by decide) (by decide), ?_⟩
  conv => whnf
  refine use_jp (jKP_of cT145 (by decide) (by decide)) hd ⟨⟨rfl, rfl, by simp, by simp⟩, ⟨rfl, (i32_rng _).1, (i32_rng _).2⟩, trivial⟩ g1 j1 (pKR cT145 ⟨⟨rfl, rfl, by simp, by simp⟩, ⟨rfl, (i32_rng _).1, (i32_rng _).2⟩, trivial⟩ g1) (fun v2 I2 L2 g2 j2 r2 q2 => ?_)
  obtain ⟨x2, rfl, -, -⟩ := r2
  have rr := lR_gR (by decide) (by decide) (by decide) (by decide) (by decide) (by decide) g1 (lR_gR (by decide) (by decide) (by decide) (by decide) (by decide) (by decide) hG hR q1) q2
  exact nx _ _ g2 j2 rr
set_option maxHeartbeats 4000000 in
set_option maxRecDepth 20000 in
theorem lwC_13 {d : Nat} (hd : 13 ≤ d) {k : jK} {N : Nat} {xs : Nat → Int32} {i : Int32} {I : jI} {L : jL} (hi0 : 0 ≤ i.toInt) (hi : i.toInt + 6 ≤ (N : Int)) (hN : N ≤ 384) (hG : gG aGI I) (hJ : jJ I) (hR : lR I L) (nx : ∀ I' L', gG aGI I' → jJ I' → lR I' L' → jWB (jWPM d) k (some (N, xs)) jc_law (1423, [some (.inr (901, 0)), some (.inr (0, 0)), some (.inr (31, 0)), some (.inl (.inl i))], [], I', L')) : jWB (jWPM d) k (some (N, xs)) jc_law (657, [some (.inr (901, 0)), some (.inr (0, 0)), some (.inr (31, 0)), some (.inl (.inl i))], [], I, L) := by
  refine jWB_run [1423] 80 ?_
  conv => whnf
  refine ⟨lw_ix hi0 hi hN (by decide) (by decide), ?_⟩
  conv => whnf
  refine ⟨lw_ix hi0 hi hN (by decide) (by decide), ?_⟩
  conv => whnf
  refine use_jp jK_buy hd ⟨⟨rfl, rfl, by simp, by simp⟩, ⟨rfl, (i32_rng _).1, (i32_rng _).2⟩, ⟨rfl, (i32_rng _).1, (i32_rng _).2⟩, trivial⟩ hG hJ (Pq81 hG hJ hR.2.1) (fun v1 I1 L1 g1 j1 r1 q1 => ?_)
  obtain ⟨x1, rfl, -, -⟩ := r1
  conv => whnf
  refine ⟨lw_ix hi0 hi hN (by decide) (by decide), ?_⟩
  conv => whnf
  refine ⟨lw_ix hi0 hi hN (by decide) (by decide), ?_⟩
  conv => whnf
  refine use_jp (jKP_of cT154 (by decide) (by decide)) hd ⟨⟨rfl, rfl, by simp, by simp⟩, ⟨rfl, (i32_rng _).1, (i32_rng _).2⟩, ⟨rfl, (i32_rng _).1, (i32_rng _).2⟩, trivial⟩ g1 j1 (Pq166 hG g1 hJ hR.2.1 q1.2) (fun v2 I2 L2 g2 j2 r2 q2 => ?_)
  obtain ⟨x2, rfl, -, -⟩ := r2
  have qq := Qq81 hG g1 hJ hR.2.1 q1 q2
  have rr : lR I2 L2 := ⟨RT_fr (RT_fr hR.1 q1.2 rfl) q2.2 rfl, qq.2, RR_fr (RR_fr hR.2.2.1 q1.2 rfl) q2.2 rfl, RF_fr (RF_fr hR.2.2.2 q1.2 rfl) q2.2 rfl⟩
  exact nx _ _ g2 j2 rr
set_option maxHeartbeats 4000000 in
set_option maxRecDepth 20000 in
theorem lwC_14 {d : Nat} (hd : 13 ≤ d) {k : jK} {N : Nat} {xs : Nat → Int32} {i : Int32} {I : jI} {L : jL} (hi0 : 0 ≤ i.toInt) (hi : i.toInt + 6 ≤ (N : Int)) (hN : N ≤ 384) (hG : gG aGI I) (hJ : jJ I) (hR : lR I L) (nx : ∀ I' L', gG aGI I' → jJ I' → lR I' L' → jWB (jWPM d) k (some (N, xs)) jc_law (1423, [some (.inr (901, 0)), some (.inr (0, 0)), some (.inr (31, 0)), some (.inl (.inl i))], [], I', L')) : jWB (jWPM d) k (some (N, xs)) jc_law (690, [some (.inr (901, 0)), some (.inr (0, 0)), some (.inr (31, 0)), some (.inl (.inl i))], [], I, L) := by
  refine jWB_run [1423] 80 ?_
  conv => whnf
  refine use_jp jK_week hd ⟨⟨rfl, rfl, by simp, by simp⟩, trivial⟩ hG hJ (Pq82 hG hJ hR.2.1) (fun v1 I1 L1 g1 j1 r1 q1 => ?_)
  obtain ⟨x1, rfl, -, -⟩ := r1
  conv => whnf
  refine use_jp (jKP_of cT155 (by decide) (by decide)) hd ⟨⟨rfl, rfl, by simp, by simp⟩, trivial⟩ g1 j1 (Pq168 hG g1 hJ hR.2.1 q1.2) (fun v2 I2 L2 g2 j2 r2 q2 => ?_)
  obtain ⟨x2, rfl, -, -⟩ := r2
  have qq := Qq82 hG g1 hJ hR.2.1 q1 q2
  have rr : lR I2 L2 := ⟨RT_fr (RT_fr hR.1 q1.2 rfl) q2.2 rfl, qq.2, RR_fr (RR_fr hR.2.2.1 q1.2 rfl) q2.2 rfl, RF_fr (RF_fr hR.2.2.2 q1.2 rfl) q2.2 rfl⟩
  exact nx _ _ g2 j2 rr
set_option maxHeartbeats 4000000 in
set_option maxRecDepth 20000 in
theorem lwC_15 {d : Nat} (hd : 13 ≤ d) {k : jK} {N : Nat} {xs : Nat → Int32} {i : Int32} {I : jI} {L : jL} (hi0 : 0 ≤ i.toInt) (hi : i.toInt + 6 ≤ (N : Int)) (hN : N ≤ 384) (hG : gG aGI I) (hJ : jJ I) (hR : lR I L) (nx : ∀ I' L', gG aGI I' → jJ I' → lR I' L' → jWB (jWPM d) k (some (N, xs)) jc_law (1423, [some (.inr (901, 0)), some (.inr (0, 0)), some (.inr (31, 0)), some (.inl (.inl i))], [], I', L')) : jWB (jWPM d) k (some (N, xs)) jc_law (703, [some (.inr (901, 0)), some (.inr (0, 0)), some (.inr (31, 0)), some (.inl (.inl i))], [], I, L) := by
  refine jWB_run [1423] 80 ?_
  conv => whnf
  refine ⟨lw_ix hi0 hi hN (by decide) (by decide), ?_⟩
  conv => whnf
  refine use_jp jK_shrink hd ⟨⟨rfl, rfl, by simp, by simp⟩, ⟨rfl, (i32_rng _).1, (i32_rng _).2⟩, trivial⟩ hG hJ (Pq83 hG hJ hR.2.1) (fun v1 I1 L1 g1 j1 r1 q1 => ?_)
  obtain ⟨x1, rfl, -, -⟩ := r1
  conv => whnf
  refine ⟨lw_ix hi0 hi hN (by decide) (by decide), ?_⟩
  conv => whnf
  refine use_jp (jKP_of cT156 (by decide) (by decide)) hd ⟨⟨rfl, rfl, by simp, by simp⟩, ⟨rfl, (i32_rng _).1, (i32_rng _).2⟩, trivial⟩ g1 j1 (Pq169 hG g1 hJ hR.2.1 q1.2) (fun v2 I2 L2 g2 j2 r2 q2 => ?_)
  obtain ⟨x2, rfl, -, -⟩ := r2
  have qq := Qq83 hG g1 hJ hR.2.1 q1 q2
  have rr : lR I2 L2 := ⟨RT_fr (RT_fr hR.1 q1.2 rfl) q2.2 rfl, qq.2, RR_fr (RR_fr hR.2.2.1 q1.2 rfl) q2.2 rfl, RF_fr (RF_fr hR.2.2.2 q1.2 rfl) q2.2 rfl⟩
  exact nx _ _ g2 j2 rr
end
section
set_option maxHeartbeats 4000000 in
set_option maxRecDepth 20000 in
theorem lwC_16 {d : Nat} (hd : 13 ≤ d) {k : jK} {N : Nat} {xs : Nat → Int32} {i : Int32} {I : jI} {L : jL} (hi0 : 0 ≤ i.toInt) (hi : i.toInt + 6 ≤ (N : Int)) (hN : N ≤ 384) (hG : gG aGI I) (hJ : jJ I) (hR : lR I L) (nx : ∀ I' L', gG aGI I' → jJ I' → lR I' L' → jWB (jWPM d) k (some (N, xs)) jc_law (1423, [some (.inr (901, 0)), some (.inr (0, 0)), some (.inr (31, 0)), some (.inl (.inl i))], [], I', L')) : jWB (jWPM d) k (some (N, xs)) jc_law (726, [some (.inr (901, 0)), some (.inr (0, 0)), some (.inr (31, 0)), some (.inl (.inl i))], [], I, L) := by
  refine jWB_run [1423] 80 ?_
  conv => whnf
  refine ⟨lw_ix hi0 hi hN (by decide) (by decide), ?_⟩
  conv => whnf
  refine ⟨lw_ix hi0 hi hN (by decide) (by decide), ?_⟩
  conv => whnf
  refine use_jp jK_price hd ⟨⟨rfl, rfl, by simp, by simp⟩, ⟨rfl, (i32_rng _).1, (i32_rng _).2⟩, ⟨rfl, (i32_rng _).1, (i32_rng _).2⟩, trivial⟩ hG hJ (Pq84 hG hJ hR.2.1) (fun v1 I1 L1 g1 j1 r1 q1 => ?_)
  obtain ⟨x1, rfl, -, -⟩ := r1
  conv => whnf
  refine ⟨lw_ix hi0 hi hN (by decide) (by decide), ?_⟩
  conv => whnf
  refine ⟨lw_ix hi0 hi hN (by decide) (by decide), ?_⟩
  conv => whnf
  refine use_jp (jKP_of cT157 (by decide) (by decide)) hd ⟨⟨rfl, rfl, by simp, by simp⟩, ⟨rfl, (i32_rng _).1, (i32_rng _).2⟩, ⟨rfl, (i32_rng _).1, (i32_rng _).2⟩, trivial⟩ g1 j1 (Pq171 hG g1 hJ hR.2.1 q1.2) (fun v2 I2 L2 g2 j2 r2 q2 => ?_)
  obtain ⟨x2, rfl, -, -⟩ := r2
  have qq := Qq84 hG g1 hJ hR.2.1 q1 q2
  have rr : lR I2 L2 := ⟨RT_fr (RT_fr hR.1 q1.2 rfl) q2.2 rfl, qq.2, RR_fr (RR_fr hR.2.2.1 q1.2 rfl) q2.2 rfl, RF_fr (RF_fr hR.2.2.2 q1.2 rfl) q2.2 rfl⟩
  exact nx _ _ g2 j2 rr
set_option maxHeartbeats 4000000 in
set_option maxRecDepth 20000 in
theorem lwC_17 {d : Nat} (hd : 13 ≤ d) {k : jK} {N : Nat} {xs : Nat → Int32} {i : Int32} {I : jI} {L : jL} (hi0 : 0 ≤ i.toInt) (hi : i.toInt + 6 ≤ (N : Int)) (hN : N ≤ 384) (hG : gG aGI I) (hJ : jJ I) (hR : lR I L) (nx : ∀ I' L', gG aGI I' → jJ I' → lR I' L' → jWB (jWPM d) k (some (N, xs)) jc_law (1423, [some (.inr (901, 0)), some (.inr (0, 0)), some (.inr (31, 0)), some (.inl (.inl i))], [], I', L')) : jWB (jWPM d) k (some (N, xs)) jc_law (759, [some (.inr (901, 0)), some (.inr (0, 0)), some (.inr (31, 0)), some (.inl (.inl i))], [], I, L) := by
  refine jWB_run [1423] 80 ?_
  conv => whnf
  refine ⟨lw_ix hi0 hi hN (by decide) (by decide), ?_⟩
  conv => whnf
  refine use_jp jK_card hd ⟨⟨rfl, rfl, by simp, by simp⟩, ⟨rfl, (i32_rng _).1, (i32_rng _).2⟩, trivial⟩ hG hJ (Pq85 hG hJ hR.2.1) (fun v1 I1 L1 g1 j1 r1 q1 => ?_)
  obtain ⟨x1, rfl, -, -⟩ := r1
  conv => whnf
  refine ⟨lw_ix hi0 hi hN (by decide) (by decide), ?_⟩
  conv => whnf
  refine use_jp (jKP_of cT158 (by decide) (by decide)) hd ⟨⟨rfl, rfl, by simp, by simp⟩, ⟨rfl, (i32_rng _).1, (i32_rng _).2⟩, trivial⟩ g1 j1 (Pq172 hG g1 hJ hR.2.1 q1.2) (fun v2 I2 L2 g2 j2 r2 q2 => ?_)
  obtain ⟨x2, rfl, -, -⟩ := r2
  have qq := Qq85 hG g1 hJ hR.2.1 q1 q2
  have rr : lR I2 L2 := ⟨RT_fr (RT_fr hR.1 q1.2 rfl) q2.2 rfl, qq.2, RR_fr (RR_fr hR.2.2.1 q1.2 rfl) q2.2 rfl, RF_fr (RF_fr hR.2.2.2 q1.2 rfl) q2.2 rfl⟩
  exact nx _ _ g2 j2 rr
set_option maxHeartbeats 4000000 in
set_option maxRecDepth 20000 in
theorem lwC_18 {d : Nat} (hd : 13 ≤ d) {k : jK} {N : Nat} {xs : Nat → Int32} {i : Int32} {I : jI} {L : jL} (hi0 : 0 ≤ i.toInt) (hi : i.toInt + 6 ≤ (N : Int)) (hN : N ≤ 384) (hG : gG aGI I) (hJ : jJ I) (hR : lR I L) (nx : ∀ I' L', gG aGI I' → jJ I' → lR I' L' → jWB (jWPM d) k (some (N, xs)) jc_law (1423, [some (.inr (901, 0)), some (.inr (0, 0)), some (.inr (31, 0)), some (.inl (.inl i))], [], I', L')) : jWB (jWPM d) k (some (N, xs)) jc_law (782, [some (.inr (901, 0)), some (.inr (0, 0)), some (.inr (31, 0)), some (.inl (.inl i))], [], I, L) := by
  refine jWB_run [1423] 80 ?_
  conv => whnf
  refine ⟨lw_ix hi0 hi hN (by decide) (by decide), ?_⟩
  conv => whnf
  refine use_jp jK_undo hd ⟨⟨rfl, rfl, by simp, by simp⟩, ⟨rfl, (i32_rng _).1, (i32_rng _).2⟩, trivial⟩ hG hJ (Pq86 hG hJ hR.2.1) (fun v1 I1 L1 g1 j1 r1 q1 => ?_)
  obtain ⟨x1, rfl, -, -⟩ := r1
  conv => whnf
  refine ⟨lw_ix hi0 hi hN (by decide) (by decide), ?_⟩
  conv => whnf
  refine use_jp (jKP_of cT159 (by decide) (by decide)) hd ⟨⟨rfl, rfl, by simp, by simp⟩, ⟨rfl, (i32_rng _).1, (i32_rng _).2⟩, trivial⟩ g1 j1 (Pq173 hG g1 hJ hR.2.1 q1.2) (fun v2 I2 L2 g2 j2 r2 q2 => ?_)
  obtain ⟨x2, rfl, -, -⟩ := r2
  have qq := Qq86 hG g1 hJ hR.2.1 q1 q2
  have rr : lR I2 L2 := ⟨RT_fr (RT_fr hR.1 q1.2 rfl) q2.2 rfl, qq, RR_fr (RR_fr hR.2.2.1 q1.2 rfl) q2.2 rfl, RF_fr (RF_fr hR.2.2.2 q1.2 rfl) q2.2 rfl⟩
  exact nx _ _ g2 j2 rr
set_option maxHeartbeats 4000000 in
set_option maxRecDepth 20000 in
theorem lwC_19 {d : Nat} (hd : 13 ≤ d) {k : jK} {N : Nat} {xs : Nat → Int32} {i : Int32} {I : jI} {L : jL} (hi0 : 0 ≤ i.toInt) (hi : i.toInt + 6 ≤ (N : Int)) (hN : N ≤ 384) (hG : gG aGI I) (hJ : jJ I) (hR : lR I L) (nx : ∀ I' L', gG aGI I' → jJ I' → lR I' L' → jWB (jWPM d) k (some (N, xs)) jc_law (1423, [some (.inr (901, 0)), some (.inr (0, 0)), some (.inr (31, 0)), some (.inl (.inl i))], [], I', L')) : jWB (jWPM d) k (some (N, xs)) jc_law (805, [some (.inr (901, 0)), some (.inr (0, 0)), some (.inr (31, 0)), some (.inl (.inl i))], [], I, L) := by
  refine jWB_run [1423] 80 ?_
  conv => whnf
  refine ⟨lw_ix hi0 hi hN (by decide) (by decide), ?_⟩
  conv => whnf
  refine use_jp jK_keep hd ⟨⟨rfl, rfl, by simp, by simp⟩, ⟨rfl, (i32_rng _).1, (i32_rng _).2⟩, trivial⟩ hG hJ (Pq87 hG hJ hR.2.1) (fun v1 I1 L1 g1 j1 r1 q1 => ?_)
  obtain ⟨x1, rfl, -, -⟩ := r1
  conv => whnf
  refine ⟨lw_ix hi0 hi hN (by decide) (by decide), ?_⟩
  conv => whnf
  refine use_jp (jKP_of hK_mkeep (by decide) (by decide)) hd ⟨⟨rfl, rfl, by simp, by simp⟩, ⟨rfl, (i32_rng _).1, (i32_rng _).2⟩, trivial⟩ g1 j1 (Pq175 hG g1 hJ hR.2.1 q1.2) (fun v2 I2 L2 g2 j2 r2 q2 => ?_)
  obtain ⟨x2, rfl, -, -⟩ := r2
  have qq := Qq87 hG g1 hJ hR.2.1 q1 q2
  have rr : lR I2 L2 := ⟨RT_fr (RT_fr hR.1 q1.2 rfl) q2.2 rfl, qq.2, RR_fr (RR_fr hR.2.2.1 q1.2 rfl) q2.2 rfl, RF_fr (RF_fr hR.2.2.2 q1.2 rfl) q2.2 rfl⟩
  exact nx _ _ g2 j2 rr
set_option maxHeartbeats 4000000 in
set_option maxRecDepth 20000 in
theorem lwC_20 {d : Nat} (hd : 13 ≤ d) {k : jK} {N : Nat} {xs : Nat → Int32} {i : Int32} {I : jI} {L : jL} (hi0 : 0 ≤ i.toInt) (hi : i.toInt + 6 ≤ (N : Int)) (hN : N ≤ 384) (hG : gG aGI I) (hJ : jJ I) (hR : lR I L) (nx : ∀ I' L', gG aGI I' → jJ I' → lR I' L' → jWB (jWPM d) k (some (N, xs)) jc_law (1423, [some (.inr (901, 0)), some (.inr (0, 0)), some (.inr (31, 0)), some (.inl (.inl i))], [], I', L')) : jWB (jWPM d) k (some (N, xs)) jc_law (828, [some (.inr (901, 0)), some (.inr (0, 0)), some (.inr (31, 0)), some (.inl (.inl i))], [], I, L) := by
  refine jWB_run [1423] 80 ?_
  conv => whnf
  refine ⟨lw_ix hi0 hi hN (by decide) (by decide), ?_⟩
  conv => whnf
  refine use_jp jK_on hd ⟨⟨rfl, rfl, by simp, by simp⟩, ⟨rfl, (i32_rng _).1, (i32_rng _).2⟩, trivial⟩ hG hJ (Pq88 hG hJ hR.2.1) (fun v1 I1 L1 g1 j1 r1 q1 => ?_)
  obtain ⟨x1, rfl, -, -⟩ := r1
  conv => whnf
  refine ⟨lw_ix hi0 hi hN (by decide) (by decide), ?_⟩
  conv => whnf
  refine use_jp (jKP_of hK_mon (by decide) (by decide)) hd ⟨⟨rfl, rfl, by simp, by simp⟩, ⟨rfl, (i32_rng _).1, (i32_rng _).2⟩, trivial⟩ g1 j1 (Pq176 hG g1 hJ hR.2.1 q1.2) (fun v2 I2 L2 g2 j2 r2 q2 => ?_)
  obtain ⟨x2, rfl, -, -⟩ := r2
  have qq := Qq88 hG g1 hJ hR.2.1 q1 q2
  have rr : lR I2 L2 := ⟨RT_fr (RT_fr hR.1 q1.2 rfl) q2.2 rfl, qq.2, RR_fr (RR_fr hR.2.2.1 q1.2 rfl) q2.2 rfl, RF_frC (Qf88 hG (RD_frM hG hR.2.1 q1.2 rfl) (RF_frM hR.2.2.2 q1.2 rfl) q1.1 q2.1) q2.2 rfl⟩
  exact nx _ _ g2 j2 rr
set_option maxHeartbeats 4000000 in
set_option maxRecDepth 20000 in
theorem lwC_21 {d : Nat} (hd : 13 ≤ d) {k : jK} {N : Nat} {xs : Nat → Int32} {i : Int32} {I : jI} {L : jL} (hi0 : 0 ≤ i.toInt) (hi : i.toInt + 6 ≤ (N : Int)) (hN : N ≤ 384) (hG : gG aGI I) (hJ : jJ I) (hR : lR I L) (nx : ∀ I' L', gG aGI I' → jJ I' → lR I' L' → jWB (jWPM d) k (some (N, xs)) jc_law (1423, [some (.inr (901, 0)), some (.inr (0, 0)), some (.inr (31, 0)), some (.inl (.inl i))], [], I', L')) : jWB (jWPM d) k (some (N, xs)) jc_law (851, [some (.inr (901, 0)), some (.inr (0, 0)), some (.inr (31, 0)), some (.inl (.inl i))], [], I, L) := by
  refine jWB_run [1423] 80 ?_
  conv => whnf
  refine ⟨lw_ix hi0 hi hN (by decide) (by decide), ?_⟩
  conv => whnf
  refine ⟨lw_ix hi0 hi hN (by decide) (by decide), ?_⟩
  conv => whnf
  refine use_jp (jKP_of cT105 (by decide) (by decide)) hd ⟨⟨rfl, rfl, by simp, by simp⟩, ⟨rfl, (i32_rng _).1, (i32_rng _).2⟩, ⟨rfl, (i32_rng _).1, (i32_rng _).2⟩, trivial⟩ hG hJ (pKR cT105 ⟨⟨rfl, rfl, by simp, by simp⟩, ⟨rfl, (i32_rng _).1, (i32_rng _).2⟩, ⟨rfl, (i32_rng _).1, (i32_rng _).2⟩, trivial⟩ hG) (fun v1 I1 L1 g1 j1 r1 q1 => ?_)
  obtain ⟨x1, rfl, -, -⟩ := r1
  conv => whnf
  refine ⟨lw_ix hi0 hi hN (by decide) (by decide), ?_⟩
  conv => whnf
  refine ⟨lw_ix hi0 hi hN (by decide) (by decide), ?_⟩
  conv => whnf
  refine use_jp (jKP_of cT160 (by decide) (by decide)) hd ⟨⟨rfl, rfl, by simp, by simp⟩, ⟨rfl, (i32_rng _).1, (i32_rng _).2⟩, ⟨rfl, (i32_rng _).1, (i32_rng _).2⟩, trivial⟩ g1 j1 (pKR cT160 ⟨⟨rfl, rfl, by simp, by simp⟩, ⟨rfl, (i32_rng _).1, (i32_rng _).2⟩, ⟨rfl, (i32_rng _).1, (i32_rng _).2⟩, trivial⟩ g1) (fun v2 I2 L2 g2 j2 r2 q2 => ?_)
  obtain ⟨x2, rfl, -, -⟩ := r2
  have rr := lR_gR (by decide) (by decide) (by decide) (by decide) (by decide) (by decide) g1 (lR_gR (by decide) (by decide) (by decide) (by decide) (by decide) (by decide) hG hR q1) q2
  exact nx _ _ g2 j2 rr
set_option maxHeartbeats 4000000 in
set_option maxRecDepth 20000 in
theorem lwC_22 {d : Nat} (hd : 13 ≤ d) {k : jK} {N : Nat} {xs : Nat → Int32} {i : Int32} {I : jI} {L : jL} (hi0 : 0 ≤ i.toInt) (hi : i.toInt + 6 ≤ (N : Int)) (hN : N ≤ 384) (hG : gG aGI I) (hJ : jJ I) (hR : lR I L) (nx : ∀ I' L', gG aGI I' → jJ I' → lR I' L' → jWB (jWPM d) k (some (N, xs)) jc_law (1423, [some (.inr (901, 0)), some (.inr (0, 0)), some (.inr (31, 0)), some (.inl (.inl i))], [], I', L')) : jWB (jWPM d) k (some (N, xs)) jc_law (884, [some (.inr (901, 0)), some (.inr (0, 0)), some (.inr (31, 0)), some (.inl (.inl i))], [], I, L) := by
  refine jWB_run [1423] 80 ?_
  conv => whnf
  refine ⟨lw_ix hi0 hi hN (by decide) (by decide), ?_⟩
  conv => whnf
  refine use_jp (jKP_of cT193 (by decide) (by decide)) hd ⟨⟨rfl, rfl, by simp, by simp⟩, ⟨rfl, (i32_rng _).1, (i32_rng _).2⟩, trivial⟩ hG hJ (pKR cT193 ⟨⟨rfl, rfl, by simp, by simp⟩, ⟨rfl, (i32_rng _).1, (i32_rng _).2⟩, trivial⟩ hG) (fun v1 I1 L1 g1 j1 r1 q1 => ?_)
  obtain ⟨x1, rfl, -, -⟩ := r1
  conv => whnf
  refine ⟨lw_ix hi0 hi hN (by decide) (by decide), ?_⟩
  conv => whnf
  refine use_jp (jKP_of hK_mrate (by decide) (by decide)) hd ⟨⟨rfl, rfl, by simp, by simp⟩, ⟨rfl, (i32_rng _).1, (i32_rng _).2⟩, trivial⟩ g1 j1 (pKR hK_mrate ⟨⟨rfl, rfl, by simp, by simp⟩, ⟨rfl, (i32_rng _).1, (i32_rng _).2⟩, trivial⟩ g1) (fun v2 I2 L2 g2 j2 r2 q2 => ?_)
  obtain ⟨x2, rfl, -, -⟩ := r2
  have rr := lR_gR (by decide) (by decide) (by decide) (by decide) (by decide) (by decide) g1 (lR_gR (by decide) (by decide) (by decide) (by decide) (by decide) (by decide) hG hR q1) q2
  exact nx _ _ g2 j2 rr
set_option maxHeartbeats 4000000 in
set_option maxRecDepth 20000 in
theorem lwC_23 {d : Nat} (hd : 13 ≤ d) {k : jK} {N : Nat} {xs : Nat → Int32} {i : Int32} {I : jI} {L : jL} (hi0 : 0 ≤ i.toInt) (hi : i.toInt + 6 ≤ (N : Int)) (hN : N ≤ 384) (hG : gG aGI I) (hJ : jJ I) (hR : lR I L) (nx : ∀ I' L', gG aGI I' → jJ I' → lR I' L' → jWB (jWPM d) k (some (N, xs)) jc_law (1423, [some (.inr (901, 0)), some (.inr (0, 0)), some (.inr (31, 0)), some (.inl (.inl i))], [], I', L')) : jWB (jWPM d) k (some (N, xs)) jc_law (907, [some (.inr (901, 0)), some (.inr (0, 0)), some (.inr (31, 0)), some (.inl (.inl i))], [], I, L) := by
  refine jWB_run [1423] 80 ?_
  conv => whnf
  refine use_jp (jKP_of hK_cheapest (by decide) (by decide)) hd ⟨⟨rfl, rfl, by simp, by simp⟩, trivial⟩ hG hJ (pKR hK_cheapest ⟨⟨rfl, rfl, by simp, by simp⟩, trivial⟩ hG) (fun v1 I1 L1 g1 j1 r1 q1 => ?_)
  obtain ⟨x1, rfl, -, -⟩ := r1
  conv => whnf
  refine use_jp (jKP_of hK_mcheapest (by decide) (by decide)) hd ⟨⟨rfl, rfl, by simp, by simp⟩, trivial⟩ g1 j1 (pKR hK_mcheapest ⟨⟨rfl, rfl, by simp, by simp⟩, trivial⟩ g1) (fun v2 I2 L2 g2 j2 r2 q2 => ?_)
  obtain ⟨x2, rfl, -, -⟩ := r2
  have rr := lR_gR (by decide) (by decide) (by decide) (by decide) (by decide) (by decide) g1 (lR_gR (by decide) (by decide) (by decide) (by decide) (by decide) (by decide) hG hR q1) q2
  exact nx _ _ g2 j2 rr
set_option maxHeartbeats 4000000 in
set_option maxRecDepth 20000 in
theorem lwC_24 {d : Nat} (hd : 13 ≤ d) {k : jK} {N : Nat} {xs : Nat → Int32} {i : Int32} {I : jI} {L : jL} (hi0 : 0 ≤ i.toInt) (hi : i.toInt + 6 ≤ (N : Int)) (hN : N ≤ 384) (hG : gG aGI I) (hJ : jJ I) (hR : lR I L) (nx : ∀ I' L', gG aGI I' → jJ I' → lR I' L' → jWB (jWPM d) k (some (N, xs)) jc_law (1423, [some (.inr (901, 0)), some (.inr (0, 0)), some (.inr (31, 0)), some (.inl (.inl i))], [], I', L')) : jWB (jWPM d) k (some (N, xs)) jc_law (920, [some (.inr (901, 0)), some (.inr (0, 0)), some (.inr (31, 0)), some (.inl (.inl i))], [], I, L) := by
  refine jWB_run [1423] 80 ?_
  conv => whnf
  refine use_jp (jKP_of cT106 (by decide) (by decide)) hd ⟨⟨rfl, rfl, by simp, by simp⟩, trivial⟩ hG hJ (pKR cT106 ⟨⟨rfl, rfl, by simp, by simp⟩, trivial⟩ hG) (fun v1 I1 L1 g1 j1 r1 q1 => ?_)
  obtain ⟨x1, rfl, -, -⟩ := r1
  conv => whnf
  refine use_jp (jKP_of cT162 (by decide) (by decide)) hd ⟨⟨rfl, rfl, by simp, by simp⟩, trivial⟩ g1 j1 (pKR cT162 ⟨⟨rfl, rfl, by simp, by simp⟩, trivial⟩ g1) (fun v2 I2 L2 g2 j2 r2 q2 => ?_)
  obtain ⟨x2, rfl, -, -⟩ := r2
  have rr := lR_gR (by decide) (by decide) (by decide) (by decide) (by decide) (by decide) g1 (lR_gR (by decide) (by decide) (by decide) (by decide) (by decide) (by decide) hG hR q1) q2
  exact nx _ _ g2 j2 rr
set_option maxHeartbeats 4000000 in
set_option maxRecDepth 20000 in
theorem lwC_25 {d : Nat} (hd : 13 ≤ d) {k : jK} {N : Nat} {xs : Nat → Int32} {i : Int32} {I : jI} {L : jL} (hi0 : 0 ≤ i.toInt) (hi : i.toInt + 6 ≤ (N : Int)) (hN : N ≤ 384) (hG : gG aGI I) (hJ : jJ I) (hR : lR I L) (nx : ∀ I' L', gG aGI I' → jJ I' → lR I' L' → jWB (jWPM d) k (some (N, xs)) jc_law (1423, [some (.inr (901, 0)), some (.inr (0, 0)), some (.inr (31, 0)), some (.inl (.inl i))], [], I', L')) : jWB (jWPM d) k (some (N, xs)) jc_law (933, [some (.inr (901, 0)), some (.inr (0, 0)), some (.inr (31, 0)), some (.inl (.inl i))], [], I, L) := by
  refine jWB_run [1423] 80 ?_
  conv => whnf
  refine ⟨lw_ix hi0 hi hN (by decide) (by decide), ?_⟩
  conv => whnf
  refine ⟨lw_ix hi0 hi hN (by decide) (by decide), ?_⟩
  conv => whnf
  refine use_jp (jKP_of cT107 (by decide) (by decide)) hd ⟨⟨rfl, rfl, by simp, by simp⟩, ⟨rfl, (i32_rng _).1, (i32_rng _).2⟩, ⟨rfl, (i32_rng _).1, (i32_rng _).2⟩, trivial⟩ hG hJ (Pr93 hG hR.2.1 hR.2.2.1 (pKR cT107 ⟨⟨rfl, rfl, by simp, by simp⟩, ⟨rfl, (i32_rng _).1, (i32_rng _).2⟩, ⟨rfl, (i32_rng _).1, (i32_rng _).2⟩, trivial⟩ hG)) (fun v1 I1 L1 g1 j1 r1 q1 => ?_)
  obtain ⟨x1, rfl, -, -⟩ := r1
  conv => whnf
  refine ⟨lw_ix hi0 hi hN (by decide) (by decide), ?_⟩
  conv => whnf
  refine ⟨lw_ix hi0 hi hN (by decide) (by decide), ?_⟩
  conv => whnf
  refine use_jp (jKP_of cT165 (by decide) (by decide)) hd ⟨⟨rfl, rfl, by simp, by simp⟩, ⟨rfl, (i32_rng _).1, (i32_rng _).2⟩, ⟨rfl, (i32_rng _).1, (i32_rng _).2⟩, trivial⟩ g1 j1 (Pr184 hG (RD_mid (by decide) hG hR.2.1 q1.2) (RR_mid (by decide) hR.2.2.1 q1.2) (pKR cT165 ⟨⟨rfl, rfl, by simp, by simp⟩, ⟨rfl, (i32_rng _).1, (i32_rng _).2⟩, ⟨rfl, (i32_rng _).1, (i32_rng _).2⟩, trivial⟩ g1)) (fun v2 I2 L2 g2 j2 r2 q2 => ?_)
  obtain ⟨x2, rfl, -, -⟩ := r2
  have qq := Qr93 hG (RD_mid (by decide) hG hR.2.1 q1.2) (RR_mid (by decide) hR.2.2.1 q1.2) q1.1 q2.1
  have rr : lR I2 L2 := ⟨RT_gR (by decide) (RT_gR (by decide) hR.1 q1.2) q2.2, RD_gR (by decide) g1 (RD_gR (by decide) hG hR.2.1 q1.2) q2.2, RR_end (by decide) qq.2 q2.2, RF_gR (by decide) (by decide) (RF_gR (by decide) (by decide) hR.2.2.2 q1.2) q2.2⟩
  have ee := qq.1
  exact nx _ _ g2 j2 rr
set_option maxHeartbeats 4000000 in
set_option maxRecDepth 20000 in
theorem lwC_26 {d : Nat} (hd : 13 ≤ d) {k : jK} {N : Nat} {xs : Nat → Int32} {i : Int32} {I : jI} {L : jL} (hi0 : 0 ≤ i.toInt) (hi : i.toInt + 6 ≤ (N : Int)) (hN : N ≤ 384) (hG : gG aGI I) (hJ : jJ I) (hR : lR I L) (nx : ∀ I' L', gG aGI I' → jJ I' → lR I' L' → jWB (jWPM d) k (some (N, xs)) jc_law (1423, [some (.inr (901, 0)), some (.inr (0, 0)), some (.inr (31, 0)), some (.inl (.inl i))], [], I', L')) : jWB (jWPM d) k (some (N, xs)) jc_law (966, [some (.inr (901, 0)), some (.inr (0, 0)), some (.inr (31, 0)), some (.inl (.inl i))], [], I, L) := by
  refine jWB_run [1423] 80 ?_
  conv => whnf
  refine ⟨lw_ix hi0 hi hN (by decide) (by decide), ?_⟩
  conv => whnf
  refine ⟨lw_ix hi0 hi hN (by decide) (by decide), ?_⟩
  conv => whnf
  refine use_jp (jKP_of cT108 (by decide) (by decide)) hd ⟨⟨rfl, rfl, by simp, by simp⟩, ⟨rfl, (i32_rng _).1, (i32_rng _).2⟩, ⟨rfl, (i32_rng _).1, (i32_rng _).2⟩, trivial⟩ hG hJ (Pr94 hG hR.2.1 hR.2.2.1 (pKR cT108 ⟨⟨rfl, rfl, by simp, by simp⟩, ⟨rfl, (i32_rng _).1, (i32_rng _).2⟩, ⟨rfl, (i32_rng _).1, (i32_rng _).2⟩, trivial⟩ hG)) (fun v1 I1 L1 g1 j1 r1 q1 => ?_)
  obtain ⟨x1, rfl, -, -⟩ := r1
  conv => whnf
  refine ⟨lw_ix hi0 hi hN (by decide) (by decide), ?_⟩
  conv => whnf
  refine ⟨lw_ix hi0 hi hN (by decide) (by decide), ?_⟩
  conv => whnf
  refine use_jp (jKP_of hK_mweeks (by decide) (by decide)) hd ⟨⟨rfl, rfl, by simp, by simp⟩, ⟨rfl, (i32_rng _).1, (i32_rng _).2⟩, ⟨rfl, (i32_rng _).1, (i32_rng _).2⟩, trivial⟩ g1 j1 (Pr188 hG (RD_mid (by decide) hG hR.2.1 q1.2) (RR_mid (by decide) hR.2.2.1 q1.2) (pKR hK_mweeks ⟨⟨rfl, rfl, by simp, by simp⟩, ⟨rfl, (i32_rng _).1, (i32_rng _).2⟩, ⟨rfl, (i32_rng _).1, (i32_rng _).2⟩, trivial⟩ g1)) (fun v2 I2 L2 g2 j2 r2 q2 => ?_)
  obtain ⟨x2, rfl, -, -⟩ := r2
  have qq := Qr94 hG (RD_mid (by decide) hG hR.2.1 q1.2) (RR_mid (by decide) hR.2.2.1 q1.2) q1.1 q2.1
  have rr : lR I2 L2 := ⟨RT_gR (by decide) (RT_gR (by decide) hR.1 q1.2) q2.2, RD_gR (by decide) g1 (RD_gR (by decide) hG hR.2.1 q1.2) q2.2, RR_end (by decide) qq.2 q2.2, RF_gR (by decide) (by decide) (RF_gR (by decide) (by decide) hR.2.2.2 q1.2) q2.2⟩
  have ee := qq.1
  exact nx _ _ g2 j2 rr
set_option maxHeartbeats 4000000 in
set_option maxRecDepth 20000 in
theorem lwC_27 {d : Nat} (hd : 13 ≤ d) {k : jK} {N : Nat} {xs : Nat → Int32} {i : Int32} {I : jI} {L : jL} (hi0 : 0 ≤ i.toInt) (hi : i.toInt + 6 ≤ (N : Int)) (hN : N ≤ 384) (hG : gG aGI I) (hJ : jJ I) (hR : lR I L) (nx : ∀ I' L', gG aGI I' → jJ I' → lR I' L' → jWB (jWPM d) k (some (N, xs)) jc_law (1423, [some (.inr (901, 0)), some (.inr (0, 0)), some (.inr (31, 0)), some (.inl (.inl i))], [], I', L')) : jWB (jWPM d) k (some (N, xs)) jc_law (999, [some (.inr (901, 0)), some (.inr (0, 0)), some (.inr (31, 0)), some (.inl (.inl i))], [], I, L) := by
  refine jWB_run [1423] 80 ?_
  conv => whnf
  refine ⟨lw_ix hi0 hi hN (by decide) (by decide), ?_⟩
  conv => whnf
  refine use_jp (jKP_of cT109 (by decide) (by decide)) hd ⟨⟨rfl, rfl, by simp, by simp⟩, ⟨rfl, (i32_rng _).1, (i32_rng _).2⟩, trivial⟩ hG hJ (pKR cT109 ⟨⟨rfl, rfl, by simp, by simp⟩, ⟨rfl, (i32_rng _).1, (i32_rng _).2⟩, trivial⟩ hG) (fun v1 I1 L1 g1 j1 r1 q1 => ?_)
  obtain ⟨x1, rfl, -, -⟩ := r1
  conv => whnf
  refine ⟨lw_ix hi0 hi hN (by decide) (by decide), ?_⟩
  conv => whnf
  refine use_jp (jKP_of cT169 (by decide) (by decide)) hd ⟨⟨rfl, rfl, by simp, by simp⟩, ⟨rfl, (i32_rng _).1, (i32_rng _).2⟩, trivial⟩ g1 j1 (pKR cT169 ⟨⟨rfl, rfl, by simp, by simp⟩, ⟨rfl, (i32_rng _).1, (i32_rng _).2⟩, trivial⟩ g1) (fun v2 I2 L2 g2 j2 r2 q2 => ?_)
  obtain ⟨x2, rfl, -, -⟩ := r2
  have rr := lR_gR (by decide) (by decide) (by decide) (by decide) (by decide) (by decide) g1 (lR_gR (by decide) (by decide) (by decide) (by decide) (by decide) (by decide) hG hR q1) q2
  exact nx _ _ g2 j2 rr
set_option maxHeartbeats 4000000 in
set_option maxRecDepth 20000 in
theorem lwC_28 {d : Nat} (hd : 13 ≤ d) {k : jK} {N : Nat} {xs : Nat → Int32} {i : Int32} {I : jI} {L : jL} (hi0 : 0 ≤ i.toInt) (hi : i.toInt + 6 ≤ (N : Int)) (hN : N ≤ 384) (hG : gG aGI I) (hJ : jJ I) (hR : lR I L) (nx : ∀ I' L', gG aGI I' → jJ I' → lR I' L' → jWB (jWPM d) k (some (N, xs)) jc_law (1423, [some (.inr (901, 0)), some (.inr (0, 0)), some (.inr (31, 0)), some (.inl (.inl i))], [], I', L')) : jWB (jWPM d) k (some (N, xs)) jc_law (1022, [some (.inr (901, 0)), some (.inr (0, 0)), some (.inr (31, 0)), some (.inl (.inl i))], [], I, L) := by
  refine jWB_run [1423] 80 ?_
  conv => whnf
  refine ⟨lw_ix hi0 hi hN (by decide) (by decide), ?_⟩
  conv => whnf
  refine use_jp (jKP_of cT110 (by decide) (by decide)) hd ⟨⟨rfl, rfl, by simp, by simp⟩, ⟨rfl, (i32_rng _).1, (i32_rng _).2⟩, trivial⟩ hG hJ (pKR cT110 ⟨⟨rfl, rfl, by simp, by simp⟩, ⟨rfl, (i32_rng _).1, (i32_rng _).2⟩, trivial⟩ hG) (fun v1 I1 L1 g1 j1 r1 q1 => ?_)
  obtain ⟨x1, rfl, -, -⟩ := r1
  conv => whnf
  refine ⟨lw_ix hi0 hi hN (by decide) (by decide), ?_⟩
  conv => whnf
  refine use_jp (jKP_of cT170 (by decide) (by decide)) hd ⟨⟨rfl, rfl, by simp, by simp⟩, ⟨rfl, (i32_rng _).1, (i32_rng _).2⟩, trivial⟩ g1 j1 (pKR cT170 ⟨⟨rfl, rfl, by simp, by simp⟩, ⟨rfl, (i32_rng _).1, (i32_rng _).2⟩, trivial⟩ g1) (fun v2 I2 L2 g2 j2 r2 q2 => ?_)
  obtain ⟨x2, rfl, -, -⟩ := r2
  have rr := lR_gR (by decide) (by decide) (by decide) (by decide) (by decide) (by decide) g1 (lR_gR (by decide) (by decide) (by decide) (by decide) (by decide) (by decide) hG hR q1) q2
  exact nx _ _ g2 j2 rr
set_option maxHeartbeats 4000000 in
set_option maxRecDepth 20000 in
theorem lwC_29 {d : Nat} (hd : 13 ≤ d) {k : jK} {N : Nat} {xs : Nat → Int32} {i : Int32} {I : jI} {L : jL} (hi0 : 0 ≤ i.toInt) (hi : i.toInt + 6 ≤ (N : Int)) (hN : N ≤ 384) (hG : gG aGI I) (hJ : jJ I) (hR : lR I L) (nx : ∀ I' L', gG aGI I' → jJ I' → lR I' L' → jWB (jWPM d) k (some (N, xs)) jc_law (1423, [some (.inr (901, 0)), some (.inr (0, 0)), some (.inr (31, 0)), some (.inl (.inl i))], [], I', L')) : jWB (jWPM d) k (some (N, xs)) jc_law (1045, [some (.inr (901, 0)), some (.inr (0, 0)), some (.inr (31, 0)), some (.inl (.inl i))], [], I, L) := by
  refine jWB_run [1423] 80 ?_
  conv => whnf
  refine use_jp (jKP_of cT111 (by decide) (by decide)) hd ⟨⟨rfl, rfl, by simp, by simp⟩, trivial⟩ hG hJ (pKR cT111 ⟨⟨rfl, rfl, by simp, by simp⟩, trivial⟩ hG) (fun v1 I1 L1 g1 j1 r1 q1 => ?_)
  obtain ⟨x1, rfl, -, -⟩ := r1
  conv => whnf
  refine use_jp (jKP_of cT171 (by decide) (by decide)) hd ⟨⟨rfl, rfl, by simp, by simp⟩, trivial⟩ g1 j1 (pKR cT171 ⟨⟨rfl, rfl, by simp, by simp⟩, trivial⟩ g1) (fun v2 I2 L2 g2 j2 r2 q2 => ?_)
  obtain ⟨x2, rfl, -, -⟩ := r2
  have rr := lR_gR (by decide) (by decide) (by decide) (by decide) (by decide) (by decide) g1 (lR_gR (by decide) (by decide) (by decide) (by decide) (by decide) (by decide) hG hR q1) q2
  exact nx _ _ g2 j2 rr
set_option maxHeartbeats 4000000 in
set_option maxRecDepth 20000 in
theorem lwC_30 {d : Nat} (hd : 13 ≤ d) {k : jK} {N : Nat} {xs : Nat → Int32} {i : Int32} {I : jI} {L : jL} (hi0 : 0 ≤ i.toInt) (hi : i.toInt + 6 ≤ (N : Int)) (hN : N ≤ 384) (hG : gG aGI I) (hJ : jJ I) (hR : lR I L) (nx : ∀ I' L', gG aGI I' → jJ I' → lR I' L' → jWB (jWPM d) k (some (N, xs)) jc_law (1423, [some (.inr (901, 0)), some (.inr (0, 0)), some (.inr (31, 0)), some (.inl (.inl i))], [], I', L')) : jWB (jWPM d) k (some (N, xs)) jc_law (1058, [some (.inr (901, 0)), some (.inr (0, 0)), some (.inr (31, 0)), some (.inl (.inl i))], [], I, L) := by
  refine jWB_run [1423] 80 ?_
  conv => whnf
  refine ⟨lw_ix hi0 hi hN (by decide) (by decide), ?_⟩
  conv => whnf
  refine ⟨lw_ix hi0 hi hN (by decide) (by decide), ?_⟩
  conv => whnf
  refine use_jp (jKP_of cT112 (by decide) (by decide)) hd ⟨⟨rfl, rfl, by simp, by simp⟩, ⟨rfl, (i32_rng _).1, (i32_rng _).2⟩, ⟨rfl, (i32_rng _).1, (i32_rng _).2⟩, trivial⟩ hG hJ (pKR cT112 ⟨⟨rfl, rfl, by simp, by simp⟩, ⟨rfl, (i32_rng _).1, (i32_rng _).2⟩, ⟨rfl, (i32_rng _).1, (i32_rng _).2⟩, trivial⟩ hG) (fun v1 I1 L1 g1 j1 r1 q1 => ?_)
  obtain ⟨x1, rfl, -, -⟩ := r1
  conv => whnf
  refine ⟨lw_ix hi0 hi hN (by decide) (by decide), ?_⟩
  conv => whnf
  refine ⟨lw_ix hi0 hi hN (by decide) (by decide), ?_⟩
  conv => whnf
  refine use_jp (jKP_of cT172 (by decide) (by decide)) hd ⟨⟨rfl, rfl, by simp, by simp⟩, ⟨rfl, (i32_rng _).1, (i32_rng _).2⟩, ⟨rfl, (i32_rng _).1, (i32_rng _).2⟩, trivial⟩ g1 j1 (pKR cT172 ⟨⟨rfl, rfl, by simp, by simp⟩, ⟨rfl, (i32_rng _).1, (i32_rng _).2⟩, ⟨rfl, (i32_rng _).1, (i32_rng _).2⟩, trivial⟩ g1) (fun v2 I2 L2 g2 j2 r2 q2 => ?_)
  obtain ⟨x2, rfl, -, -⟩ := r2
  have rr := lR_gR (by decide) (by decide) (by decide) (by decide) (by decide) (by decide) g1 (lR_gR (by decide) (by decide) (by decide) (by decide) (by decide) (by decide) hG hR q1) q2
  exact nx _ _ g2 j2 rr
set_option maxHeartbeats 4000000 in
set_option maxRecDepth 20000 in
theorem lwC_31 {d : Nat} (hd : 13 ≤ d) {k : jK} {N : Nat} {xs : Nat → Int32} {i : Int32} {I : jI} {L : jL} (hi0 : 0 ≤ i.toInt) (hi : i.toInt + 6 ≤ (N : Int)) (hN : N ≤ 384) (hG : gG aGI I) (hJ : jJ I) (hR : lR I L) (nx : ∀ I' L', gG aGI I' → jJ I' → lR I' L' → jWB (jWPM d) k (some (N, xs)) jc_law (1423, [some (.inr (901, 0)), some (.inr (0, 0)), some (.inr (31, 0)), some (.inl (.inl i))], [], I', L')) : jWB (jWPM d) k (some (N, xs)) jc_law (1091, [some (.inr (901, 0)), some (.inr (0, 0)), some (.inr (31, 0)), some (.inl (.inl i))], [], I, L) := by
  refine jWB_run [1423] 80 ?_
  conv => whnf
  refine ⟨lw_ix hi0 hi hN (by decide) (by decide), ?_⟩
  conv => whnf
  refine ⟨lw_ix hi0 hi hN (by decide) (by decide), ?_⟩
  conv => whnf
  refine use_jp (jKP_of cT113 (by decide) (by decide)) hd ⟨⟨rfl, rfl, by simp, by simp⟩, ⟨rfl, (i32_rng _).1, (i32_rng _).2⟩, ⟨rfl, (i32_rng _).1, (i32_rng _).2⟩, trivial⟩ hG hJ (Pr99 hG hR.2.1 hR.2.2.1 (pKR cT113 ⟨⟨rfl, rfl, by simp, by simp⟩, ⟨rfl, (i32_rng _).1, (i32_rng _).2⟩, ⟨rfl, (i32_rng _).1, (i32_rng _).2⟩, trivial⟩ hG)) (fun v1 I1 L1 g1 j1 r1 q1 => ?_)
  obtain ⟨x1, rfl, -, -⟩ := r1
  conv => whnf
  refine ⟨lw_ix hi0 hi hN (by decide) (by decide), ?_⟩
  conv => whnf
  refine ⟨lw_ix hi0 hi hN (by decide) (by decide), ?_⟩
  conv => whnf
  refine use_jp (jKP_of cT173 (by decide) (by decide)) hd ⟨⟨rfl, rfl, by simp, by simp⟩, ⟨rfl, (i32_rng _).1, (i32_rng _).2⟩, ⟨rfl, (i32_rng _).1, (i32_rng _).2⟩, trivial⟩ g1 j1 (Pr195 hG (RD_mid (by decide) hG hR.2.1 q1.2) (RR_mid (by decide) hR.2.2.1 q1.2) (pKR cT173 ⟨⟨rfl, rfl, by simp, by simp⟩, ⟨rfl, (i32_rng _).1, (i32_rng _).2⟩, ⟨rfl, (i32_rng _).1, (i32_rng _).2⟩, trivial⟩ g1)) (fun v2 I2 L2 g2 j2 r2 q2 => ?_)
  obtain ⟨x2, rfl, -, -⟩ := r2
  have qq := Qr99 hG (RD_mid (by decide) hG hR.2.1 q1.2) (RR_mid (by decide) hR.2.2.1 q1.2) q1.1 q2.1
  have rr : lR I2 L2 := ⟨RT_gR (by decide) (RT_gR (by decide) hR.1 q1.2) q2.2, RD_gR (by decide) g1 (RD_gR (by decide) hG hR.2.1 q1.2) q2.2, RR_end (by decide) qq.2 q2.2, RF_end (by decide) (Qs99 hG (RD_mid (by decide) hG hR.2.1 q1.2) (RR_mid (by decide) hR.2.2.1 q1.2) (RF_mid (by decide) hR.2.2.2 q1.2) q1.1 q2.1) q2.2⟩
  have ee := qq.1
  exact nx _ _ g2 j2 rr
set_option maxHeartbeats 4000000 in
set_option maxRecDepth 20000 in
theorem lwC_32 {d : Nat} (hd : 13 ≤ d) {k : jK} {N : Nat} {xs : Nat → Int32} {i : Int32} {I : jI} {L : jL} (hi0 : 0 ≤ i.toInt) (hi : i.toInt + 6 ≤ (N : Int)) (hN : N ≤ 384) (hG : gG aGI I) (hJ : jJ I) (hR : lR I L) (nx : ∀ I' L', gG aGI I' → jJ I' → lR I' L' → jWB (jWPM d) k (some (N, xs)) jc_law (1423, [some (.inr (901, 0)), some (.inr (0, 0)), some (.inr (31, 0)), some (.inl (.inl i))], [], I', L')) : jWB (jWPM d) k (some (N, xs)) jc_law (1124, [some (.inr (901, 0)), some (.inr (0, 0)), some (.inr (31, 0)), some (.inl (.inl i))], [], I, L) := by
  refine jWB_run [1423] 80 ?_
  conv => whnf
  refine ⟨lw_ix hi0 hi hN (by decide) (by decide), ?_⟩
  conv => whnf
  refine ⟨lw_ix hi0 hi hN (by decide) (by decide), ?_⟩
  conv => whnf
  refine use_jp (jKP_of cT114 (by decide) (by decide)) hd ⟨⟨rfl, rfl, by simp, by simp⟩, ⟨rfl, (i32_rng _).1, (i32_rng _).2⟩, ⟨rfl, (i32_rng _).1, (i32_rng _).2⟩, trivial⟩ hG hJ (Pr100 hG hR.2.1 hR.2.2.1 (pKR cT114 ⟨⟨rfl, rfl, by simp, by simp⟩, ⟨rfl, (i32_rng _).1, (i32_rng _).2⟩, ⟨rfl, (i32_rng _).1, (i32_rng _).2⟩, trivial⟩ hG)) (fun v1 I1 L1 g1 j1 r1 q1 => ?_)
  obtain ⟨x1, rfl, -, -⟩ := r1
  conv => whnf
  refine ⟨lw_ix hi0 hi hN (by decide) (by decide), ?_⟩
  conv => whnf
  refine ⟨lw_ix hi0 hi hN (by decide) (by decide), ?_⟩
  conv => whnf
  refine use_jp (jKP_of cT174 (by decide) (by decide)) hd ⟨⟨rfl, rfl, by simp, by simp⟩, ⟨rfl, (i32_rng _).1, (i32_rng _).2⟩, ⟨rfl, (i32_rng _).1, (i32_rng _).2⟩, trivial⟩ g1 j1 (Pr196 hG (RD_mid (by decide) hG hR.2.1 q1.2) (RR_mid (by decide) hR.2.2.1 q1.2) (pKR cT174 ⟨⟨rfl, rfl, by simp, by simp⟩, ⟨rfl, (i32_rng _).1, (i32_rng _).2⟩, ⟨rfl, (i32_rng _).1, (i32_rng _).2⟩, trivial⟩ g1)) (fun v2 I2 L2 g2 j2 r2 q2 => ?_)
  obtain ⟨x2, rfl, -, -⟩ := r2
  have qq := Qr100 hG (RD_mid (by decide) hG hR.2.1 q1.2) (RR_mid (by decide) hR.2.2.1 q1.2) q1.1 q2.1
  have rr : lR I2 L2 := ⟨RT_gR (by decide) (RT_gR (by decide) hR.1 q1.2) q2.2, RD_gR (by decide) g1 (RD_gR (by decide) hG hR.2.1 q1.2) q2.2, RR_end (by decide) qq.2 q2.2, RF_end (by decide) (Qs100 hG (RD_mid (by decide) hG hR.2.1 q1.2) (RR_mid (by decide) hR.2.2.1 q1.2) (RF_mid (by decide) hR.2.2.2 q1.2) q1.1 q2.1) q2.2⟩
  have ee := qq.1
  exact nx _ _ g2 j2 rr
set_option maxHeartbeats 4000000 in
set_option maxRecDepth 20000 in
theorem lwC_33 {d : Nat} (hd : 13 ≤ d) {k : jK} {N : Nat} {xs : Nat → Int32} {i : Int32} {I : jI} {L : jL} (hi0 : 0 ≤ i.toInt) (hi : i.toInt + 6 ≤ (N : Int)) (hN : N ≤ 384) (hG : gG aGI I) (hJ : jJ I) (hR : lR I L) (nx : ∀ I' L', gG aGI I' → jJ I' → lR I' L' → jWB (jWPM d) k (some (N, xs)) jc_law (1423, [some (.inr (901, 0)), some (.inr (0, 0)), some (.inr (31, 0)), some (.inl (.inl i))], [], I', L')) : jWB (jWPM d) k (some (N, xs)) jc_law (1157, [some (.inr (901, 0)), some (.inr (0, 0)), some (.inr (31, 0)), some (.inl (.inl i))], [], I, L) := by
  refine jWB_run [1423] 80 ?_
  conv => whnf
  refine ⟨lw_ix hi0 hi hN (by decide) (by decide), ?_⟩
  conv => whnf
  refine ⟨lw_ix hi0 hi hN (by decide) (by decide), ?_⟩
  conv => whnf
  refine ⟨lw_ix hi0 hi hN (by decide) (by decide), ?_⟩
  conv => whnf
  refine use_jp (jKP_of cT115 (by decide) (by decide)) hd ⟨⟨rfl, rfl, by simp, by simp⟩, ⟨rfl, (i32_rng _).1, (i32_rng _).2⟩, ⟨rfl, (i32_rng _).1, (i32_rng _).2⟩, ⟨rfl, (i32_rng _).1, (i32_rng _).2⟩, trivial⟩ hG hJ (pKR cT115 ⟨⟨rfl, rfl, by simp, by simp⟩, ⟨rfl, (i32_rng _).1, (i32_rng _).2⟩, ⟨rfl, (i32_rng _).1, (i32_rng _).2⟩, ⟨rfl, (i32_rng _).1, (i32_rng _).2⟩, trivial⟩ hG) (fun v1 I1 L1 g1 j1 r1 q1 => ?_)
  obtain ⟨x1, rfl, -, -⟩ := r1
  conv => whnf
  refine ⟨lw_ix hi0 hi hN (by decide) (by decide), ?_⟩
  conv => whnf
  refine ⟨lw_ix hi0 hi hN (by decide) (by decide), ?_⟩
  conv => whnf
  refine ⟨lw_ix hi0 hi hN (by decide) (by decide), ?_⟩
  conv => whnf
  refine use_jp (jKP_of cT175 (by decide) (by decide)) hd ⟨⟨rfl, rfl, by simp, by simp⟩, ⟨rfl, (i32_rng _).1, (i32_rng _).2⟩, ⟨rfl, (i32_rng _).1, (i32_rng _).2⟩, ⟨rfl, (i32_rng _).1, (i32_rng _).2⟩, trivial⟩ g1 j1 (pKR cT175 ⟨⟨rfl, rfl, by simp, by simp⟩, ⟨rfl, (i32_rng _).1, (i32_rng _).2⟩, ⟨rfl, (i32_rng _).1, (i32_rng _).2⟩, ⟨rfl, (i32_rng _).1, (i32_rng _).2⟩, trivial⟩ g1) (fun v2 I2 L2 g2 j2 r2 q2 => ?_)
  obtain ⟨x2, rfl, -, -⟩ := r2
  have rr := lR_gR (by decide) (by decide) (by decide) (by decide) (by decide) (by decide) g1 (lR_gR (by decide) (by decide) (by decide) (by decide) (by decide) (by decide) hG hR q1) q2
  exact nx _ _ g2 j2 rr
set_option maxHeartbeats 4000000 in
set_option maxRecDepth 20000 in
theorem lwC_34 {d : Nat} (hd : 13 ≤ d) {k : jK} {N : Nat} {xs : Nat → Int32} {i : Int32} {I : jI} {L : jL} (hi0 : 0 ≤ i.toInt) (hi : i.toInt + 6 ≤ (N : Int)) (hN : N ≤ 384) (hG : gG aGI I) (hJ : jJ I) (hR : lR I L) (nx : ∀ I' L', gG aGI I' → jJ I' → lR I' L' → jWB (jWPM d) k (some (N, xs)) jc_law (1423, [some (.inr (901, 0)), some (.inr (0, 0)), some (.inr (31, 0)), some (.inl (.inl i))], [], I', L')) : jWB (jWPM d) k (some (N, xs)) jc_law (1200, [some (.inr (901, 0)), some (.inr (0, 0)), some (.inr (31, 0)), some (.inl (.inl i))], [], I, L) := by
  refine jWB_run [1423] 80 ?_
  conv => whnf
  refine ⟨lw_ix hi0 hi hN (by decide) (by decide), ?_⟩
  conv => whnf
  refine use_jp (jKP_of cT116 (by decide) (by decide)) hd ⟨⟨rfl, rfl, by simp, by simp⟩, ⟨rfl, (i32_rng _).1, (i32_rng _).2⟩, trivial⟩ hG hJ (pKR cT116 ⟨⟨rfl, rfl, by simp, by simp⟩, ⟨rfl, (i32_rng _).1, (i32_rng _).2⟩, trivial⟩ hG) (fun v1 I1 L1 g1 j1 r1 q1 => ?_)
  obtain ⟨x1, rfl, -, -⟩ := r1
  conv => whnf
  refine ⟨lw_ix hi0 hi hN (by decide) (by decide), ?_⟩
  conv => whnf
  refine use_jp (jKP_of cT181 (by decide) (by decide)) hd ⟨⟨rfl, rfl, by simp, by simp⟩, ⟨rfl, (i32_rng _).1, (i32_rng _).2⟩, trivial⟩ g1 j1 (pKR cT181 ⟨⟨rfl, rfl, by simp, by simp⟩, ⟨rfl, (i32_rng _).1, (i32_rng _).2⟩, trivial⟩ g1) (fun v2 I2 L2 g2 j2 r2 q2 => ?_)
  obtain ⟨x2, rfl, -, -⟩ := r2
  have rr := lR_gR (by decide) (by decide) (by decide) (by decide) (by decide) (by decide) g1 (lR_gR (by decide) (by decide) (by decide) (by decide) (by decide) (by decide) hG hR q1) q2
  exact nx _ _ g2 j2 rr
end
