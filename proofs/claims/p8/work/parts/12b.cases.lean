set_option maxHeartbeats 4000000 in
set_option maxRecDepth 20000 in
theorem lwC_0 {d : Nat} (hd : 13 ≤ d) {k : jK} {N : Nat} {xs : Nat → Int32} {i : Int32} {I : Nat → Nat → Nat → Int32} {L : Nat → Nat → Nat → Int64} (hi0 : 0 ≤ i.toInt) (hi : i.toInt + 6 ≤ (N : Int)) (hN : N ≤ 384) (hG : gG aGI I) (hJ : jJ I) (nx : ∀ I' L', gG aGI I' → jJ I' → jWB (jWPM d) k (some (N, xs)) jc_law (1423, [some (.inr (901, 0)), some (.inr (0, 0)), some (.inr (31, 0)), some (.inl (.inl i))], [], I', L')) : jWB (jWPM d) k (some (N, xs)) jc_law (228, [some (.inr (901, 0)), some (.inr (0, 0)), some (.inr (31, 0)), some (.inl (.inl i))], [], I, L) := by
  refine jWB_run [1423] 80 ?_
  conv => whnf
  refine ⟨lw_ix hi0 hi hN (by decide) (by decide), ?_⟩
  conv => whnf
  refine ⟨lw_ix hi0 hi hN (by decide) (by decide), ?_⟩
  conv => whnf
  refine use_j (jKP_of cT86 (by decide) (by decide)) hd ⟨⟨rfl, rfl, by simp, by simp⟩, ⟨rfl, (i32_rng _).1, (i32_rng _).2⟩, ⟨rfl, (i32_rng _).1, (i32_rng _).2⟩, trivial⟩ hG hJ (fun v1 I1 L1 g1 j1 r1 => ?_)
  obtain ⟨x1, rfl, -, -⟩ := r1
  conv => whnf
  refine ⟨lw_ix hi0 hi hN (by decide) (by decide), ?_⟩
  conv => whnf
  refine ⟨lw_ix hi0 hi hN (by decide) (by decide), ?_⟩
  conv => whnf
  refine use_j (jKP_of cT126 (by decide) (by decide)) hd ⟨⟨rfl, rfl, by simp, by simp⟩, ⟨rfl, (i32_rng _).1, (i32_rng _).2⟩, ⟨rfl, (i32_rng _).1, (i32_rng _).2⟩, trivial⟩ g1 j1 (fun v2 I2 L2 g2 j2 r2 => ?_)
  obtain ⟨x2, rfl, -, -⟩ := r2
  exact nx _ _ g2 j2
set_option maxHeartbeats 4000000 in
set_option maxRecDepth 20000 in
theorem lwC_1 {d : Nat} (hd : 13 ≤ d) {k : jK} {N : Nat} {xs : Nat → Int32} {i : Int32} {I : Nat → Nat → Nat → Int32} {L : Nat → Nat → Nat → Int64} (hi0 : 0 ≤ i.toInt) (hi : i.toInt + 6 ≤ (N : Int)) (hN : N ≤ 384) (hG : gG aGI I) (hJ : jJ I) (nx : ∀ I' L', gG aGI I' → jJ I' → jWB (jWPM d) k (some (N, xs)) jc_law (1423, [some (.inr (901, 0)), some (.inr (0, 0)), some (.inr (31, 0)), some (.inl (.inl i))], [], I', L')) : jWB (jWPM d) k (some (N, xs)) jc_law (261, [some (.inr (901, 0)), some (.inr (0, 0)), some (.inr (31, 0)), some (.inl (.inl i))], [], I, L) := by
  refine jWB_run [1423] 80 ?_
  conv => whnf
  refine ⟨lw_ix hi0 hi hN (by decide) (by decide), ?_⟩
  conv => whnf
  refine ⟨lw_ix hi0 hi hN (by decide) (by decide), ?_⟩
  conv => whnf
  refine ⟨lw_ix hi0 hi hN (by decide) (by decide), ?_⟩
  conv => whnf
  refine use_j (jKP_of cT87 (by decide) (by decide)) hd ⟨⟨rfl, rfl, by simp, by simp⟩, ⟨rfl, (i32_rng _).1, (i32_rng _).2⟩, ⟨rfl, (i32_rng _).1, (i32_rng _).2⟩, ⟨rfl, (i32_rng _).1, (i32_rng _).2⟩, trivial⟩ hG hJ (fun v1 I1 L1 g1 j1 r1 => ?_)
  obtain ⟨x1, rfl, -, -⟩ := r1
  conv => whnf
  refine ⟨lw_ix hi0 hi hN (by decide) (by decide), ?_⟩
  conv => whnf
  refine ⟨lw_ix hi0 hi hN (by decide) (by decide), ?_⟩
  conv => whnf
  refine ⟨lw_ix hi0 hi hN (by decide) (by decide), ?_⟩
  conv => whnf
  refine use_j (jKP_of cT127 (by decide) (by decide)) hd ⟨⟨rfl, rfl, by simp, by simp⟩, ⟨rfl, (i32_rng _).1, (i32_rng _).2⟩, ⟨rfl, (i32_rng _).1, (i32_rng _).2⟩, ⟨rfl, (i32_rng _).1, (i32_rng _).2⟩, trivial⟩ g1 j1 (fun v2 I2 L2 g2 j2 r2 => ?_)
  obtain ⟨x2, rfl, -, -⟩ := r2
  exact nx _ _ g2 j2
set_option maxHeartbeats 4000000 in
set_option maxRecDepth 20000 in
theorem lwC_2 {d : Nat} (hd : 13 ≤ d) {k : jK} {N : Nat} {xs : Nat → Int32} {i : Int32} {I : Nat → Nat → Nat → Int32} {L : Nat → Nat → Nat → Int64} (hi0 : 0 ≤ i.toInt) (hi : i.toInt + 6 ≤ (N : Int)) (hN : N ≤ 384) (hG : gG aGI I) (hJ : jJ I) (nx : ∀ I' L', gG aGI I' → jJ I' → jWB (jWPM d) k (some (N, xs)) jc_law (1423, [some (.inr (901, 0)), some (.inr (0, 0)), some (.inr (31, 0)), some (.inl (.inl i))], [], I', L')) : jWB (jWPM d) k (some (N, xs)) jc_law (304, [some (.inr (901, 0)), some (.inr (0, 0)), some (.inr (31, 0)), some (.inl (.inl i))], [], I, L) := by
  refine jWB_run [1423] 80 ?_
  conv => whnf
  refine ⟨lw_ix hi0 hi hN (by decide) (by decide), ?_⟩
  conv => whnf
  refine ⟨lw_ix hi0 hi hN (by decide) (by decide), ?_⟩
  conv => whnf
  refine use_j (jKP_of cT88 (by decide) (by decide)) hd ⟨⟨rfl, rfl, by simp, by simp⟩, ⟨rfl, (i32_rng _).1, (i32_rng _).2⟩, ⟨rfl, (i32_rng _).1, (i32_rng _).2⟩, trivial⟩ hG hJ (fun v1 I1 L1 g1 j1 r1 => ?_)
  obtain ⟨x1, rfl, -, -⟩ := r1
  conv => whnf
  refine ⟨lw_ix hi0 hi hN (by decide) (by decide), ?_⟩
  conv => whnf
  refine ⟨lw_ix hi0 hi hN (by decide) (by decide), ?_⟩
  conv => whnf
  refine use_j (jKP_of cT128 (by decide) (by decide)) hd ⟨⟨rfl, rfl, by simp, by simp⟩, ⟨rfl, (i32_rng _).1, (i32_rng _).2⟩, ⟨rfl, (i32_rng _).1, (i32_rng _).2⟩, trivial⟩ g1 j1 (fun v2 I2 L2 g2 j2 r2 => ?_)
  obtain ⟨x2, rfl, -, -⟩ := r2
  exact nx _ _ g2 j2
set_option maxHeartbeats 4000000 in
set_option maxRecDepth 20000 in
theorem lwC_3 {d : Nat} (hd : 13 ≤ d) {k : jK} {N : Nat} {xs : Nat → Int32} {i : Int32} {I : Nat → Nat → Nat → Int32} {L : Nat → Nat → Nat → Int64} (hi0 : 0 ≤ i.toInt) (hi : i.toInt + 6 ≤ (N : Int)) (hN : N ≤ 384) (hG : gG aGI I) (hJ : jJ I) (nx : ∀ I' L', gG aGI I' → jJ I' → jWB (jWPM d) k (some (N, xs)) jc_law (1423, [some (.inr (901, 0)), some (.inr (0, 0)), some (.inr (31, 0)), some (.inl (.inl i))], [], I', L')) : jWB (jWPM d) k (some (N, xs)) jc_law (337, [some (.inr (901, 0)), some (.inr (0, 0)), some (.inr (31, 0)), some (.inl (.inl i))], [], I, L) := by
  refine jWB_run [1423] 80 ?_
  conv => whnf
  refine ⟨lw_ix hi0 hi hN (by decide) (by decide), ?_⟩
  conv => whnf
  refine use_j (jKP_of cT89 (by decide) (by decide)) hd ⟨⟨rfl, rfl, by simp, by simp⟩, ⟨rfl, (i32_rng _).1, (i32_rng _).2⟩, trivial⟩ hG hJ (fun v1 I1 L1 g1 j1 r1 => ?_)
  obtain ⟨x1, rfl, -, -⟩ := r1
  conv => whnf
  refine ⟨lw_ix hi0 hi hN (by decide) (by decide), ?_⟩
  conv => whnf
  refine use_j (jKP_of cT129 (by decide) (by decide)) hd ⟨⟨rfl, rfl, by simp, by simp⟩, ⟨rfl, (i32_rng _).1, (i32_rng _).2⟩, trivial⟩ g1 j1 (fun v2 I2 L2 g2 j2 r2 => ?_)
  obtain ⟨x2, rfl, -, -⟩ := r2
  exact nx _ _ g2 j2
set_option maxHeartbeats 4000000 in
set_option maxRecDepth 20000 in
theorem lwC_4 {d : Nat} (hd : 13 ≤ d) {k : jK} {N : Nat} {xs : Nat → Int32} {i : Int32} {I : Nat → Nat → Nat → Int32} {L : Nat → Nat → Nat → Int64} (hi0 : 0 ≤ i.toInt) (hi : i.toInt + 6 ≤ (N : Int)) (hN : N ≤ 384) (hG : gG aGI I) (hJ : jJ I) (nx : ∀ I' L', gG aGI I' → jJ I' → jWB (jWPM d) k (some (N, xs)) jc_law (1423, [some (.inr (901, 0)), some (.inr (0, 0)), some (.inr (31, 0)), some (.inl (.inl i))], [], I', L')) : jWB (jWPM d) k (some (N, xs)) jc_law (360, [some (.inr (901, 0)), some (.inr (0, 0)), some (.inr (31, 0)), some (.inl (.inl i))], [], I, L) := by
  refine jWB_run [1423] 80 ?_
  conv => whnf
  refine ⟨lw_ix hi0 hi hN (by decide) (by decide), ?_⟩
  conv => whnf
  refine ⟨lw_ix hi0 hi hN (by decide) (by decide), ?_⟩
  conv => whnf
  refine ⟨lw_ix hi0 hi hN (by decide) (by decide), ?_⟩
  conv => whnf
  refine ⟨lw_ix hi0 hi hN (by decide) (by decide), ?_⟩
  conv => whnf
  refine ⟨lw_ix hi0 hi hN (by decide) (by decide), ?_⟩
  conv => whnf
  refine use_j (jKP_of hK_copy (by decide) (by decide)) hd ⟨⟨rfl, rfl, by simp, by simp⟩, ⟨rfl, (i32_rng _).1, (i32_rng _).2⟩, ⟨rfl, (i32_rng _).1, (i32_rng _).2⟩, ⟨rfl, (i32_rng _).1, (i32_rng _).2⟩, ⟨rfl, (i32_rng _).1, (i32_rng _).2⟩, ⟨rfl, (i32_rng _).1, (i32_rng _).2⟩, trivial⟩ hG hJ (fun v1 I1 L1 g1 j1 r1 => ?_)
  obtain ⟨x1, rfl, -, -⟩ := r1
  conv => whnf
  refine ⟨lw_ix hi0 hi hN (by decide) (by decide), ?_⟩
  conv => whnf
  refine ⟨lw_ix hi0 hi hN (by decide) (by decide), ?_⟩
  conv => whnf
  refine ⟨lw_ix hi0 hi hN (by decide) (by decide), ?_⟩
  conv => whnf
  refine ⟨lw_ix hi0 hi hN (by decide) (by decide), ?_⟩
  conv => whnf
  refine ⟨lw_ix hi0 hi hN (by decide) (by decide), ?_⟩
  conv => whnf
  refine use_j (jKP_of hK_mcopy (by decide) (by decide)) hd ⟨⟨rfl, rfl, by simp, by simp⟩, ⟨rfl, (i32_rng _).1, (i32_rng _).2⟩, ⟨rfl, (i32_rng _).1, (i32_rng _).2⟩, ⟨rfl, (i32_rng _).1, (i32_rng _).2⟩, ⟨rfl, (i32_rng _).1, (i32_rng _).2⟩, ⟨rfl, (i32_rng _).1, (i32_rng _).2⟩, trivial⟩ g1 j1 (fun v2 I2 L2 g2 j2 r2 => ?_)
  obtain ⟨x2, rfl, -, -⟩ := r2
  exact nx _ _ g2 j2
set_option maxHeartbeats 4000000 in
set_option maxRecDepth 20000 in
theorem lwC_5 {d : Nat} (hd : 13 ≤ d) {k : jK} {N : Nat} {xs : Nat → Int32} {i : Int32} {I : Nat → Nat → Nat → Int32} {L : Nat → Nat → Nat → Int64} (hi0 : 0 ≤ i.toInt) (hi : i.toInt + 6 ≤ (N : Int)) (hN : N ≤ 384) (hG : gG aGI I) (hJ : jJ I) (nx : ∀ I' L', gG aGI I' → jJ I' → jWB (jWPM d) k (some (N, xs)) jc_law (1423, [some (.inr (901, 0)), some (.inr (0, 0)), some (.inr (31, 0)), some (.inl (.inl i))], [], I', L')) : jWB (jWPM d) k (some (N, xs)) jc_law (423, [some (.inr (901, 0)), some (.inr (0, 0)), some (.inr (31, 0)), some (.inl (.inl i))], [], I, L) := by
  refine jWB_run [1423] 80 ?_
  conv => whnf
  refine ⟨lw_ix hi0 hi hN (by decide) (by decide), ?_⟩
  conv => whnf
  refine use_j (jKP_of cT90 (by decide) (by decide)) hd ⟨⟨rfl, rfl, by simp, by simp⟩, ⟨rfl, (i32_rng _).1, (i32_rng _).2⟩, trivial⟩ hG hJ (fun v1 I1 L1 g1 j1 r1 => ?_)
  obtain ⟨x1, rfl, -, -⟩ := r1
  conv => whnf
  refine ⟨lw_ix hi0 hi hN (by decide) (by decide), ?_⟩
  conv => whnf
  refine use_j (jKP_of cT130 (by decide) (by decide)) hd ⟨⟨rfl, rfl, by simp, by simp⟩, ⟨rfl, (i32_rng _).1, (i32_rng _).2⟩, trivial⟩ g1 j1 (fun v2 I2 L2 g2 j2 r2 => ?_)
  obtain ⟨x2, rfl, -, -⟩ := r2
  exact nx _ _ g2 j2
set_option maxHeartbeats 4000000 in
set_option maxRecDepth 20000 in
theorem lwC_6 {d : Nat} (hd : 13 ≤ d) {k : jK} {N : Nat} {xs : Nat → Int32} {i : Int32} {I : Nat → Nat → Nat → Int32} {L : Nat → Nat → Nat → Int64} (hi0 : 0 ≤ i.toInt) (hi : i.toInt + 6 ≤ (N : Int)) (hN : N ≤ 384) (hG : gG aGI I) (hJ : jJ I) (nx : ∀ I' L', gG aGI I' → jJ I' → jWB (jWPM d) k (some (N, xs)) jc_law (1423, [some (.inr (901, 0)), some (.inr (0, 0)), some (.inr (31, 0)), some (.inl (.inl i))], [], I', L')) : jWB (jWPM d) k (some (N, xs)) jc_law (446, [some (.inr (901, 0)), some (.inr (0, 0)), some (.inr (31, 0)), some (.inl (.inl i))], [], I, L) := by
  refine jWB_run [1423] 80 ?_
  conv => whnf
  refine ⟨lw_ix hi0 hi hN (by decide) (by decide), ?_⟩
  conv => whnf
  refine ⟨lw_ix hi0 hi hN (by decide) (by decide), ?_⟩
  conv => whnf
  refine eUse eText (by decide) (by decide) (Nat.le_trans (by decide) hd) hG (fun I1 L1 g1 r1 => ?_)
  have j1 := jJ_frame (by decide) hG hJ r1
  conv => whnf
  refine ⟨lw_ix hi0 hi hN (by decide) (by decide), ?_⟩
  conv => whnf
  refine ⟨lw_ix hi0 hi hN (by decide) (by decide), ?_⟩
  conv => whnf
  refine eUse eTextM (by decide) (by decide) (Nat.le_trans (by decide) hd) g1 (fun I2 L2 g2 r2 => ?_)
  have j2 := jJ_frame (by decide) g1 j1 r2
  conv => whnf
  exact ⟨fun _ => nx _ _ g2 j2, fun h => absurd rfl h⟩
set_option maxHeartbeats 4000000 in
set_option maxRecDepth 20000 in
theorem lwC_7 {d : Nat} (hd : 13 ≤ d) {k : jK} {N : Nat} {xs : Nat → Int32} {i : Int32} {I : Nat → Nat → Nat → Int32} {L : Nat → Nat → Nat → Int64} (hi0 : 0 ≤ i.toInt) (hi : i.toInt + 6 ≤ (N : Int)) (hN : N ≤ 384) (hG : gG aGI I) (hJ : jJ I) (nx : ∀ I' L', gG aGI I' → jJ I' → jWB (jWPM d) k (some (N, xs)) jc_law (1423, [some (.inr (901, 0)), some (.inr (0, 0)), some (.inr (31, 0)), some (.inl (.inl i))], [], I', L')) : jWB (jWPM d) k (some (N, xs)) jc_law (479, [some (.inr (901, 0)), some (.inr (0, 0)), some (.inr (31, 0)), some (.inl (.inl i))], [], I, L) := by
  refine jWB_run [1423] 80 ?_
  conv => whnf
  refine ⟨lw_ix hi0 hi hN (by decide) (by decide), ?_⟩
  conv => whnf
  refine ⟨lw_ix hi0 hi hN (by decide) (by decide), ?_⟩
  conv => whnf
  refine ⟨lw_ix hi0 hi hN (by decide) (by decide), ?_⟩
  conv => whnf
  refine use_j (jKP_of cT92 (by decide) (by decide)) hd ⟨⟨rfl, rfl, by simp, by simp⟩, ⟨rfl, (i32_rng _).1, (i32_rng _).2⟩, ⟨rfl, (i32_rng _).1, (i32_rng _).2⟩, ⟨rfl, (i32_rng _).1, (i32_rng _).2⟩, trivial⟩ hG hJ (fun v1 I1 L1 g1 j1 r1 => ?_)
  obtain ⟨x1, rfl, -, -⟩ := r1
  conv => whnf
  refine ⟨lw_ix hi0 hi hN (by decide) (by decide), ?_⟩
  conv => whnf
  refine ⟨lw_ix hi0 hi hN (by decide) (by decide), ?_⟩
  conv => whnf
  refine ⟨lw_ix hi0 hi hN (by decide) (by decide), ?_⟩
  conv => whnf
  refine use_j (jKP_of cT132 (by decide) (by decide)) hd ⟨⟨rfl, rfl, by simp, by simp⟩, ⟨rfl, (i32_rng _).1, (i32_rng _).2⟩, ⟨rfl, (i32_rng _).1, (i32_rng _).2⟩, ⟨rfl, (i32_rng _).1, (i32_rng _).2⟩, trivial⟩ g1 j1 (fun v2 I2 L2 g2 j2 r2 => ?_)
  obtain ⟨x2, rfl, -, -⟩ := r2
  exact nx _ _ g2 j2
set_option maxHeartbeats 4000000 in
set_option maxRecDepth 20000 in
theorem lwC_8 {d : Nat} (hd : 13 ≤ d) {k : jK} {N : Nat} {xs : Nat → Int32} {i : Int32} {I : Nat → Nat → Nat → Int32} {L : Nat → Nat → Nat → Int64} (hi0 : 0 ≤ i.toInt) (hi : i.toInt + 6 ≤ (N : Int)) (hN : N ≤ 384) (hG : gG aGI I) (hJ : jJ I) (nx : ∀ I' L', gG aGI I' → jJ I' → jWB (jWPM d) k (some (N, xs)) jc_law (1423, [some (.inr (901, 0)), some (.inr (0, 0)), some (.inr (31, 0)), some (.inl (.inl i))], [], I', L')) : jWB (jWPM d) k (some (N, xs)) jc_law (522, [some (.inr (901, 0)), some (.inr (0, 0)), some (.inr (31, 0)), some (.inl (.inl i))], [], I, L) := by
  refine jWB_run [1423] 80 ?_
  conv => whnf
  refine ⟨lw_ix hi0 hi hN (by decide) (by decide), ?_⟩
  conv => whnf
  refine use_j (jKP_of cT93 (by decide) (by decide)) hd ⟨⟨rfl, rfl, by simp, by simp⟩, ⟨rfl, (i32_rng _).1, (i32_rng _).2⟩, trivial⟩ hG hJ (fun v1 I1 L1 g1 j1 r1 => ?_)
  obtain ⟨x1, rfl, -, -⟩ := r1
  conv => whnf
  refine ⟨lw_ix hi0 hi hN (by decide) (by decide), ?_⟩
  conv => whnf
  refine use_j (jKP_of hK_mfault (by decide) (by decide)) hd ⟨⟨rfl, rfl, by simp, by simp⟩, ⟨rfl, (i32_rng _).1, (i32_rng _).2⟩, trivial⟩ g1 j1 (fun v2 I2 L2 g2 j2 r2 => ?_)
  obtain ⟨x2, rfl, -, -⟩ := r2
  exact nx _ _ g2 j2
set_option maxHeartbeats 4000000 in
set_option maxRecDepth 20000 in
theorem lwC_9 {d : Nat} (hd : 13 ≤ d) {k : jK} {N : Nat} {xs : Nat → Int32} {i : Int32} {I : Nat → Nat → Nat → Int32} {L : Nat → Nat → Nat → Int64} (hi0 : 0 ≤ i.toInt) (hi : i.toInt + 6 ≤ (N : Int)) (hN : N ≤ 384) (hG : gG aGI I) (hJ : jJ I) (nx : ∀ I' L', gG aGI I' → jJ I' → jWB (jWPM d) k (some (N, xs)) jc_law (1423, [some (.inr (901, 0)), some (.inr (0, 0)), some (.inr (31, 0)), some (.inl (.inl i))], [], I', L')) : jWB (jWPM d) k (some (N, xs)) jc_law (545, [some (.inr (901, 0)), some (.inr (0, 0)), some (.inr (31, 0)), some (.inl (.inl i))], [], I, L) := by
  refine jWB_run [1423] 80 ?_
  conv => whnf
  refine ⟨lw_ix hi0 hi hN (by decide) (by decide), ?_⟩
  conv => whnf
  refine use_j jK_house hd ⟨⟨rfl, rfl, by simp, by simp⟩, ⟨rfl, (i32_rng _).1, (i32_rng _).2⟩, trivial⟩ hG hJ (fun v1 I1 L1 g1 j1 r1 => ?_)
  obtain ⟨x1, rfl, -, -⟩ := r1
  conv => whnf
  refine ⟨lw_ix hi0 hi hN (by decide) (by decide), ?_⟩
  conv => whnf
  refine use_j (jKP_of hK_mhouse (by decide) (by decide)) hd ⟨⟨rfl, rfl, by simp, by simp⟩, ⟨rfl, (i32_rng _).1, (i32_rng _).2⟩, trivial⟩ g1 j1 (fun v2 I2 L2 g2 j2 r2 => ?_)
  obtain ⟨x2, rfl, -, -⟩ := r2
  exact nx _ _ g2 j2
set_option maxHeartbeats 4000000 in
set_option maxRecDepth 20000 in
theorem lwC_10 {d : Nat} (hd : 13 ≤ d) {k : jK} {N : Nat} {xs : Nat → Int32} {i : Int32} {I : Nat → Nat → Nat → Int32} {L : Nat → Nat → Nat → Int64} (hi0 : 0 ≤ i.toInt) (hi : i.toInt + 6 ≤ (N : Int)) (hN : N ≤ 384) (hG : gG aGI I) (hJ : jJ I) (nx : ∀ I' L', gG aGI I' → jJ I' → jWB (jWPM d) k (some (N, xs)) jc_law (1423, [some (.inr (901, 0)), some (.inr (0, 0)), some (.inr (31, 0)), some (.inl (.inl i))], [], I', L')) : jWB (jWPM d) k (some (N, xs)) jc_law (568, [some (.inr (901, 0)), some (.inr (0, 0)), some (.inr (31, 0)), some (.inl (.inl i))], [], I, L) := by
  refine jWB_run [1423] 80 ?_
  conv => whnf
  refine ⟨lw_ix hi0 hi hN (by decide) (by decide), ?_⟩
  conv => whnf
  refine ⟨lw_ix hi0 hi hN (by decide) (by decide), ?_⟩
  conv => whnf
  refine use_j (jKP_of cT95 (by decide) (by decide)) hd ⟨⟨rfl, rfl, by simp, by simp⟩, ⟨rfl, (i32_rng _).1, (i32_rng _).2⟩, ⟨rfl, (i32_rng _).1, (i32_rng _).2⟩, trivial⟩ hG hJ (fun v1 I1 L1 g1 j1 r1 => ?_)
  obtain ⟨x1, rfl, -, -⟩ := r1
  conv => whnf
  refine ⟨lw_ix hi0 hi hN (by decide) (by decide), ?_⟩
  conv => whnf
  refine ⟨lw_ix hi0 hi hN (by decide) (by decide), ?_⟩
  conv => whnf
  refine use_j (jKP_of cT142 (by decide) (by decide)) hd ⟨⟨rfl, rfl, by simp, by simp⟩, ⟨rfl, (i32_rng _).1, (i32_rng _).2⟩, ⟨rfl, (i32_rng _).1, (i32_rng _).2⟩, trivial⟩ g1 j1 (fun v2 I2 L2 g2 j2 r2 => ?_)
  obtain ⟨x2, rfl, -, -⟩ := r2
  exact nx _ _ g2 j2
set_option maxHeartbeats 4000000 in
set_option maxRecDepth 20000 in
theorem lwC_11 {d : Nat} (hd : 13 ≤ d) {k : jK} {N : Nat} {xs : Nat → Int32} {i : Int32} {I : Nat → Nat → Nat → Int32} {L : Nat → Nat → Nat → Int64} (hi0 : 0 ≤ i.toInt) (hi : i.toInt + 6 ≤ (N : Int)) (hN : N ≤ 384) (hG : gG aGI I) (hJ : jJ I) (nx : ∀ I' L', gG aGI I' → jJ I' → jWB (jWPM d) k (some (N, xs)) jc_law (1423, [some (.inr (901, 0)), some (.inr (0, 0)), some (.inr (31, 0)), some (.inl (.inl i))], [], I', L')) : jWB (jWPM d) k (some (N, xs)) jc_law (601, [some (.inr (901, 0)), some (.inr (0, 0)), some (.inr (31, 0)), some (.inl (.inl i))], [], I, L) := by
  refine jWB_run [1423] 80 ?_
  conv => whnf
  refine ⟨lw_ix hi0 hi hN (by decide) (by decide), ?_⟩
  conv => whnf
  refine ⟨lw_ix hi0 hi hN (by decide) (by decide), ?_⟩
  conv => whnf
  refine use_j (jKP_of cT96 (by decide) (by decide)) hd ⟨⟨rfl, rfl, by simp, by simp⟩, ⟨rfl, (i32_rng _).1, (i32_rng _).2⟩, ⟨rfl, (i32_rng _).1, (i32_rng _).2⟩, trivial⟩ hG hJ (fun v1 I1 L1 g1 j1 r1 => ?_)
  obtain ⟨x1, rfl, -, -⟩ := r1
  conv => whnf
  refine ⟨lw_ix hi0 hi hN (by decide) (by decide), ?_⟩
  conv => whnf
  refine ⟨lw_ix hi0 hi hN (by decide) (by decide), ?_⟩
  conv => whnf
  refine use_j (jKP_of cT144 (by decide) (by decide)) hd ⟨⟨rfl, rfl, by simp, by simp⟩, ⟨rfl, (i32_rng _).1, (i32_rng _).2⟩, ⟨rfl, (i32_rng _).1, (i32_rng _).2⟩, trivial⟩ g1 j1 (fun v2 I2 L2 g2 j2 r2 => ?_)
  obtain ⟨x2, rfl, -, -⟩ := r2
  exact nx _ _ g2 j2
set_option maxHeartbeats 4000000 in
set_option maxRecDepth 20000 in
theorem lwC_12 {d : Nat} (hd : 13 ≤ d) {k : jK} {N : Nat} {xs : Nat → Int32} {i : Int32} {I : Nat → Nat → Nat → Int32} {L : Nat → Nat → Nat → Int64} (hi0 : 0 ≤ i.toInt) (hi : i.toInt + 6 ≤ (N : Int)) (hN : N ≤ 384) (hG : gG aGI I) (hJ : jJ I) (nx : ∀ I' L', gG aGI I' → jJ I' → jWB (jWPM d) k (some (N, xs)) jc_law (1423, [some (.inr (901, 0)), some (.inr (0, 0)), some (.inr (31, 0)), some (.inl (.inl i))], [], I', L')) : jWB (jWPM d) k (some (N, xs)) jc_law (634, [some (.inr (901, 0)), some (.inr (0, 0)), some (.inr (31, 0)), some (.inl (.inl i))], [], I, L) := by
  refine jWB_run [1423] 80 ?_
  conv => whnf
  refine ⟨lw_ix hi0 hi hN (by decide) (by decide), ?_⟩
  conv => whnf
  refine use_j (jKP_of cT97 (by decide) (by decide)) hd ⟨⟨rfl, rfl, by simp, by simp⟩, ⟨rfl, (i32_rng _).1, (i32_rng _).2⟩, trivial⟩ hG hJ (fun v1 I1 L1 g1 j1 r1 => ?_)
  obtain ⟨x1, rfl, -, -⟩ := r1
  conv => whnf
  refine ⟨lw_ix hi0 hi hN (by decide) (by decide), ?_⟩
  conv => whnf
  refine use_j (jKP_of cT145 (by decide) (by decide)) hd ⟨⟨rfl, rfl, by simp, by simp⟩, ⟨rfl, (i32_rng _).1, (i32_rng _).2⟩, trivial⟩ g1 j1 (fun v2 I2 L2 g2 j2 r2 => ?_)
  obtain ⟨x2, rfl, -, -⟩ := r2
  exact nx _ _ g2 j2
set_option maxHeartbeats 4000000 in
set_option maxRecDepth 20000 in
theorem lwC_13 {d : Nat} (hd : 13 ≤ d) {k : jK} {N : Nat} {xs : Nat → Int32} {i : Int32} {I : Nat → Nat → Nat → Int32} {L : Nat → Nat → Nat → Int64} (hi0 : 0 ≤ i.toInt) (hi : i.toInt + 6 ≤ (N : Int)) (hN : N ≤ 384) (hG : gG aGI I) (hJ : jJ I) (nx : ∀ I' L', gG aGI I' → jJ I' → jWB (jWPM d) k (some (N, xs)) jc_law (1423, [some (.inr (901, 0)), some (.inr (0, 0)), some (.inr (31, 0)), some (.inl (.inl i))], [], I', L')) : jWB (jWPM d) k (some (N, xs)) jc_law (657, [some (.inr (901, 0)), some (.inr (0, 0)), some (.inr (31, 0)), some (.inl (.inl i))], [], I, L) := by
  refine jWB_run [1423] 80 ?_
  conv => whnf
  refine ⟨lw_ix hi0 hi hN (by decide) (by decide), ?_⟩
  conv => whnf
  refine ⟨lw_ix hi0 hi hN (by decide) (by decide), ?_⟩
  conv => whnf
  refine use_j jK_buy hd ⟨⟨rfl, rfl, by simp, by simp⟩, ⟨rfl, (i32_rng _).1, (i32_rng _).2⟩, ⟨rfl, (i32_rng _).1, (i32_rng _).2⟩, trivial⟩ hG hJ (fun v1 I1 L1 g1 j1 r1 => ?_)
  obtain ⟨x1, rfl, -, -⟩ := r1
  conv => whnf
  refine ⟨lw_ix hi0 hi hN (by decide) (by decide), ?_⟩
  conv => whnf
  refine ⟨lw_ix hi0 hi hN (by decide) (by decide), ?_⟩
  conv => whnf
  refine use_j (jKP_of cT154 (by decide) (by decide)) hd ⟨⟨rfl, rfl, by simp, by simp⟩, ⟨rfl, (i32_rng _).1, (i32_rng _).2⟩, ⟨rfl, (i32_rng _).1, (i32_rng _).2⟩, trivial⟩ g1 j1 (fun v2 I2 L2 g2 j2 r2 => ?_)
  obtain ⟨x2, rfl, -, -⟩ := r2
  exact nx _ _ g2 j2
set_option maxHeartbeats 4000000 in
set_option maxRecDepth 20000 in
theorem lwC_14 {d : Nat} (hd : 13 ≤ d) {k : jK} {N : Nat} {xs : Nat → Int32} {i : Int32} {I : Nat → Nat → Nat → Int32} {L : Nat → Nat → Nat → Int64} (hi0 : 0 ≤ i.toInt) (hi : i.toInt + 6 ≤ (N : Int)) (hN : N ≤ 384) (hG : gG aGI I) (hJ : jJ I) (nx : ∀ I' L', gG aGI I' → jJ I' → jWB (jWPM d) k (some (N, xs)) jc_law (1423, [some (.inr (901, 0)), some (.inr (0, 0)), some (.inr (31, 0)), some (.inl (.inl i))], [], I', L')) : jWB (jWPM d) k (some (N, xs)) jc_law (690, [some (.inr (901, 0)), some (.inr (0, 0)), some (.inr (31, 0)), some (.inl (.inl i))], [], I, L) := by
  refine jWB_run [1423] 80 ?_
  conv => whnf
  refine use_j jK_week hd ⟨⟨rfl, rfl, by simp, by simp⟩, trivial⟩ hG hJ (fun v1 I1 L1 g1 j1 r1 => ?_)
  obtain ⟨x1, rfl, -, -⟩ := r1
  conv => whnf
  refine use_j (jKP_of cT155 (by decide) (by decide)) hd ⟨⟨rfl, rfl, by simp, by simp⟩, trivial⟩ g1 j1 (fun v2 I2 L2 g2 j2 r2 => ?_)
  obtain ⟨x2, rfl, -, -⟩ := r2
  exact nx _ _ g2 j2
set_option maxHeartbeats 4000000 in
set_option maxRecDepth 20000 in
theorem lwC_15 {d : Nat} (hd : 13 ≤ d) {k : jK} {N : Nat} {xs : Nat → Int32} {i : Int32} {I : Nat → Nat → Nat → Int32} {L : Nat → Nat → Nat → Int64} (hi0 : 0 ≤ i.toInt) (hi : i.toInt + 6 ≤ (N : Int)) (hN : N ≤ 384) (hG : gG aGI I) (hJ : jJ I) (nx : ∀ I' L', gG aGI I' → jJ I' → jWB (jWPM d) k (some (N, xs)) jc_law (1423, [some (.inr (901, 0)), some (.inr (0, 0)), some (.inr (31, 0)), some (.inl (.inl i))], [], I', L')) : jWB (jWPM d) k (some (N, xs)) jc_law (703, [some (.inr (901, 0)), some (.inr (0, 0)), some (.inr (31, 0)), some (.inl (.inl i))], [], I, L) := by
  refine jWB_run [1423] 80 ?_
  conv => whnf
  refine ⟨lw_ix hi0 hi hN (by decide) (by decide), ?_⟩
  conv => whnf
  refine use_j jK_shrink hd ⟨⟨rfl, rfl, by simp, by simp⟩, ⟨rfl, (i32_rng _).1, (i32_rng _).2⟩, trivial⟩ hG hJ (fun v1 I1 L1 g1 j1 r1 => ?_)
  obtain ⟨x1, rfl, -, -⟩ := r1
  conv => whnf
  refine ⟨lw_ix hi0 hi hN (by decide) (by decide), ?_⟩
  conv => whnf
  refine use_j (jKP_of cT156 (by decide) (by decide)) hd ⟨⟨rfl, rfl, by simp, by simp⟩, ⟨rfl, (i32_rng _).1, (i32_rng _).2⟩, trivial⟩ g1 j1 (fun v2 I2 L2 g2 j2 r2 => ?_)
  obtain ⟨x2, rfl, -, -⟩ := r2
  exact nx _ _ g2 j2
set_option maxHeartbeats 4000000 in
set_option maxRecDepth 20000 in
theorem lwC_16 {d : Nat} (hd : 13 ≤ d) {k : jK} {N : Nat} {xs : Nat → Int32} {i : Int32} {I : Nat → Nat → Nat → Int32} {L : Nat → Nat → Nat → Int64} (hi0 : 0 ≤ i.toInt) (hi : i.toInt + 6 ≤ (N : Int)) (hN : N ≤ 384) (hG : gG aGI I) (hJ : jJ I) (nx : ∀ I' L', gG aGI I' → jJ I' → jWB (jWPM d) k (some (N, xs)) jc_law (1423, [some (.inr (901, 0)), some (.inr (0, 0)), some (.inr (31, 0)), some (.inl (.inl i))], [], I', L')) : jWB (jWPM d) k (some (N, xs)) jc_law (726, [some (.inr (901, 0)), some (.inr (0, 0)), some (.inr (31, 0)), some (.inl (.inl i))], [], I, L) := by
  refine jWB_run [1423] 80 ?_
  conv => whnf
  refine ⟨lw_ix hi0 hi hN (by decide) (by decide), ?_⟩
  conv => whnf
  refine ⟨lw_ix hi0 hi hN (by decide) (by decide), ?_⟩
  conv => whnf
  refine use_j jK_price hd ⟨⟨rfl, rfl, by simp, by simp⟩, ⟨rfl, (i32_rng _).1, (i32_rng _).2⟩, ⟨rfl, (i32_rng _).1, (i32_rng _).2⟩, trivial⟩ hG hJ (fun v1 I1 L1 g1 j1 r1 => ?_)
  obtain ⟨x1, rfl, -, -⟩ := r1
  conv => whnf
  refine ⟨lw_ix hi0 hi hN (by decide) (by decide), ?_⟩
  conv => whnf
  refine ⟨lw_ix hi0 hi hN (by decide) (by decide), ?_⟩
  conv => whnf
  refine use_j (jKP_of cT157 (by decide) (by decide)) hd ⟨⟨rfl, rfl, by simp, by simp⟩, ⟨rfl, (i32_rng _).1, (i32_rng _).2⟩, ⟨rfl, (i32_rng _).1, (i32_rng _).2⟩, trivial⟩ g1 j1 (fun v2 I2 L2 g2 j2 r2 => ?_)
  obtain ⟨x2, rfl, -, -⟩ := r2
  exact nx _ _ g2 j2
set_option maxHeartbeats 4000000 in
set_option maxRecDepth 20000 in
theorem lwC_17 {d : Nat} (hd : 13 ≤ d) {k : jK} {N : Nat} {xs : Nat → Int32} {i : Int32} {I : Nat → Nat → Nat → Int32} {L : Nat → Nat → Nat → Int64} (hi0 : 0 ≤ i.toInt) (hi : i.toInt + 6 ≤ (N : Int)) (hN : N ≤ 384) (hG : gG aGI I) (hJ : jJ I) (nx : ∀ I' L', gG aGI I' → jJ I' → jWB (jWPM d) k (some (N, xs)) jc_law (1423, [some (.inr (901, 0)), some (.inr (0, 0)), some (.inr (31, 0)), some (.inl (.inl i))], [], I', L')) : jWB (jWPM d) k (some (N, xs)) jc_law (759, [some (.inr (901, 0)), some (.inr (0, 0)), some (.inr (31, 0)), some (.inl (.inl i))], [], I, L) := by
  refine jWB_run [1423] 80 ?_
  conv => whnf
  refine ⟨lw_ix hi0 hi hN (by decide) (by decide), ?_⟩
  conv => whnf
  refine use_j jK_card hd ⟨⟨rfl, rfl, by simp, by simp⟩, ⟨rfl, (i32_rng _).1, (i32_rng _).2⟩, trivial⟩ hG hJ (fun v1 I1 L1 g1 j1 r1 => ?_)
  obtain ⟨x1, rfl, -, -⟩ := r1
  conv => whnf
  refine ⟨lw_ix hi0 hi hN (by decide) (by decide), ?_⟩
  conv => whnf
  refine use_j (jKP_of cT158 (by decide) (by decide)) hd ⟨⟨rfl, rfl, by simp, by simp⟩, ⟨rfl, (i32_rng _).1, (i32_rng _).2⟩, trivial⟩ g1 j1 (fun v2 I2 L2 g2 j2 r2 => ?_)
  obtain ⟨x2, rfl, -, -⟩ := r2
  exact nx _ _ g2 j2
set_option maxHeartbeats 4000000 in
set_option maxRecDepth 20000 in
theorem lwC_18 {d : Nat} (hd : 13 ≤ d) {k : jK} {N : Nat} {xs : Nat → Int32} {i : Int32} {I : Nat → Nat → Nat → Int32} {L : Nat → Nat → Nat → Int64} (hi0 : 0 ≤ i.toInt) (hi : i.toInt + 6 ≤ (N : Int)) (hN : N ≤ 384) (hG : gG aGI I) (hJ : jJ I) (nx : ∀ I' L', gG aGI I' → jJ I' → jWB (jWPM d) k (some (N, xs)) jc_law (1423, [some (.inr (901, 0)), some (.inr (0, 0)), some (.inr (31, 0)), some (.inl (.inl i))], [], I', L')) : jWB (jWPM d) k (some (N, xs)) jc_law (782, [some (.inr (901, 0)), some (.inr (0, 0)), some (.inr (31, 0)), some (.inl (.inl i))], [], I, L) := by
  refine jWB_run [1423] 80 ?_
  conv => whnf
  refine ⟨lw_ix hi0 hi hN (by decide) (by decide), ?_⟩
  conv => whnf
  refine use_j jK_undo hd ⟨⟨rfl, rfl, by simp, by simp⟩, ⟨rfl, (i32_rng _).1, (i32_rng _).2⟩, trivial⟩ hG hJ (fun v1 I1 L1 g1 j1 r1 => ?_)
  obtain ⟨x1, rfl, -, -⟩ := r1
  conv => whnf
  refine ⟨lw_ix hi0 hi hN (by decide) (by decide), ?_⟩
  conv => whnf
  refine use_j (jKP_of cT159 (by decide) (by decide)) hd ⟨⟨rfl, rfl, by simp, by simp⟩, ⟨rfl, (i32_rng _).1, (i32_rng _).2⟩, trivial⟩ g1 j1 (fun v2 I2 L2 g2 j2 r2 => ?_)
  obtain ⟨x2, rfl, -, -⟩ := r2
  exact nx _ _ g2 j2
set_option maxHeartbeats 4000000 in
set_option maxRecDepth 20000 in
theorem lwC_19 {d : Nat} (hd : 13 ≤ d) {k : jK} {N : Nat} {xs : Nat → Int32} {i : Int32} {I : Nat → Nat → Nat → Int32} {L : Nat → Nat → Nat → Int64} (hi0 : 0 ≤ i.toInt) (hi : i.toInt + 6 ≤ (N : Int)) (hN : N ≤ 384) (hG : gG aGI I) (hJ : jJ I) (nx : ∀ I' L', gG aGI I' → jJ I' → jWB (jWPM d) k (some (N, xs)) jc_law (1423, [some (.inr (901, 0)), some (.inr (0, 0)), some (.inr (31, 0)), some (.inl (.inl i))], [], I', L')) : jWB (jWPM d) k (some (N, xs)) jc_law (805, [some (.inr (901, 0)), some (.inr (0, 0)), some (.inr (31, 0)), some (.inl (.inl i))], [], I, L) := by
  refine jWB_run [1423] 80 ?_
  conv => whnf
  refine ⟨lw_ix hi0 hi hN (by decide) (by decide), ?_⟩
  conv => whnf
  refine use_j jK_keep hd ⟨⟨rfl, rfl, by simp, by simp⟩, ⟨rfl, (i32_rng _).1, (i32_rng _).2⟩, trivial⟩ hG hJ (fun v1 I1 L1 g1 j1 r1 => ?_)
  obtain ⟨x1, rfl, -, -⟩ := r1
  conv => whnf
  refine ⟨lw_ix hi0 hi hN (by decide) (by decide), ?_⟩
  conv => whnf
  refine use_j (jKP_of hK_mkeep (by decide) (by decide)) hd ⟨⟨rfl, rfl, by simp, by simp⟩, ⟨rfl, (i32_rng _).1, (i32_rng _).2⟩, trivial⟩ g1 j1 (fun v2 I2 L2 g2 j2 r2 => ?_)
  obtain ⟨x2, rfl, -, -⟩ := r2
  exact nx _ _ g2 j2
set_option maxHeartbeats 4000000 in
set_option maxRecDepth 20000 in
theorem lwC_20 {d : Nat} (hd : 13 ≤ d) {k : jK} {N : Nat} {xs : Nat → Int32} {i : Int32} {I : Nat → Nat → Nat → Int32} {L : Nat → Nat → Nat → Int64} (hi0 : 0 ≤ i.toInt) (hi : i.toInt + 6 ≤ (N : Int)) (hN : N ≤ 384) (hG : gG aGI I) (hJ : jJ I) (nx : ∀ I' L', gG aGI I' → jJ I' → jWB (jWPM d) k (some (N, xs)) jc_law (1423, [some (.inr (901, 0)), some (.inr (0, 0)), some (.inr (31, 0)), some (.inl (.inl i))], [], I', L')) : jWB (jWPM d) k (some (N, xs)) jc_law (828, [some (.inr (901, 0)), some (.inr (0, 0)), some (.inr (31, 0)), some (.inl (.inl i))], [], I, L) := by
  refine jWB_run [1423] 80 ?_
  conv => whnf
  refine ⟨lw_ix hi0 hi hN (by decide) (by decide), ?_⟩
  conv => whnf
  refine use_j jK_on hd ⟨⟨rfl, rfl, by simp, by simp⟩, ⟨rfl, (i32_rng _).1, (i32_rng _).2⟩, trivial⟩ hG hJ (fun v1 I1 L1 g1 j1 r1 => ?_)
  obtain ⟨x1, rfl, -, -⟩ := r1
  conv => whnf
  refine ⟨lw_ix hi0 hi hN (by decide) (by decide), ?_⟩
  conv => whnf
  refine use_j (jKP_of hK_mon (by decide) (by decide)) hd ⟨⟨rfl, rfl, by simp, by simp⟩, ⟨rfl, (i32_rng _).1, (i32_rng _).2⟩, trivial⟩ g1 j1 (fun v2 I2 L2 g2 j2 r2 => ?_)
  obtain ⟨x2, rfl, -, -⟩ := r2
  exact nx _ _ g2 j2
set_option maxHeartbeats 4000000 in
set_option maxRecDepth 20000 in
theorem lwC_21 {d : Nat} (hd : 13 ≤ d) {k : jK} {N : Nat} {xs : Nat → Int32} {i : Int32} {I : Nat → Nat → Nat → Int32} {L : Nat → Nat → Nat → Int64} (hi0 : 0 ≤ i.toInt) (hi : i.toInt + 6 ≤ (N : Int)) (hN : N ≤ 384) (hG : gG aGI I) (hJ : jJ I) (nx : ∀ I' L', gG aGI I' → jJ I' → jWB (jWPM d) k (some (N, xs)) jc_law (1423, [some (.inr (901, 0)), some (.inr (0, 0)), some (.inr (31, 0)), some (.inl (.inl i))], [], I', L')) : jWB (jWPM d) k (some (N, xs)) jc_law (851, [some (.inr (901, 0)), some (.inr (0, 0)), some (.inr (31, 0)), some (.inl (.inl i))], [], I, L) := by
  refine jWB_run [1423] 80 ?_
  conv => whnf
  refine ⟨lw_ix hi0 hi hN (by decide) (by decide), ?_⟩
  conv => whnf
  refine ⟨lw_ix hi0 hi hN (by decide) (by decide), ?_⟩
  conv => whnf
  refine use_j (jKP_of cT105 (by decide) (by decide)) hd ⟨⟨rfl, rfl, by simp, by simp⟩, ⟨rfl, (i32_rng _).1, (i32_rng _).2⟩, ⟨rfl, (i32_rng _).1, (i32_rng _).2⟩, trivial⟩ hG hJ (fun v1 I1 L1 g1 j1 r1 => ?_)
  obtain ⟨x1, rfl, -, -⟩ := r1
  conv => whnf
  refine ⟨lw_ix hi0 hi hN (by decide) (by decide), ?_⟩
  conv => whnf
  refine ⟨lw_ix hi0 hi hN (by decide) (by decide), ?_⟩
  conv => whnf
  refine use_j (jKP_of cT160 (by decide) (by decide)) hd ⟨⟨rfl, rfl, by simp, by simp⟩, ⟨rfl, (i32_rng _).1, (i32_rng _).2⟩, ⟨rfl, (i32_rng _).1, (i32_rng _).2⟩, trivial⟩ g1 j1 (fun v2 I2 L2 g2 j2 r2 => ?_)
  obtain ⟨x2, rfl, -, -⟩ := r2
  exact nx _ _ g2 j2
set_option maxHeartbeats 4000000 in
set_option maxRecDepth 20000 in
theorem lwC_22 {d : Nat} (hd : 13 ≤ d) {k : jK} {N : Nat} {xs : Nat → Int32} {i : Int32} {I : Nat → Nat → Nat → Int32} {L : Nat → Nat → Nat → Int64} (hi0 : 0 ≤ i.toInt) (hi : i.toInt + 6 ≤ (N : Int)) (hN : N ≤ 384) (hG : gG aGI I) (hJ : jJ I) (nx : ∀ I' L', gG aGI I' → jJ I' → jWB (jWPM d) k (some (N, xs)) jc_law (1423, [some (.inr (901, 0)), some (.inr (0, 0)), some (.inr (31, 0)), some (.inl (.inl i))], [], I', L')) : jWB (jWPM d) k (some (N, xs)) jc_law (884, [some (.inr (901, 0)), some (.inr (0, 0)), some (.inr (31, 0)), some (.inl (.inl i))], [], I, L) := by
  refine jWB_run [1423] 80 ?_
  conv => whnf
  refine ⟨lw_ix hi0 hi hN (by decide) (by decide), ?_⟩
  conv => whnf
  refine use_j (jKP_of cT193 (by decide) (by decide)) hd ⟨⟨rfl, rfl, by simp, by simp⟩, ⟨rfl, (i32_rng _).1, (i32_rng _).2⟩, trivial⟩ hG hJ (fun v1 I1 L1 g1 j1 r1 => ?_)
  obtain ⟨x1, rfl, -, -⟩ := r1
  conv => whnf
  refine ⟨lw_ix hi0 hi hN (by decide) (by decide), ?_⟩
  conv => whnf
  refine use_j (jKP_of hK_mrate (by decide) (by decide)) hd ⟨⟨rfl, rfl, by simp, by simp⟩, ⟨rfl, (i32_rng _).1, (i32_rng _).2⟩, trivial⟩ g1 j1 (fun v2 I2 L2 g2 j2 r2 => ?_)
  obtain ⟨x2, rfl, -, -⟩ := r2
  exact nx _ _ g2 j2
set_option maxHeartbeats 4000000 in
set_option maxRecDepth 20000 in
theorem lwC_23 {d : Nat} (hd : 13 ≤ d) {k : jK} {N : Nat} {xs : Nat → Int32} {i : Int32} {I : Nat → Nat → Nat → Int32} {L : Nat → Nat → Nat → Int64} (hi0 : 0 ≤ i.toInt) (hi : i.toInt + 6 ≤ (N : Int)) (hN : N ≤ 384) (hG : gG aGI I) (hJ : jJ I) (nx : ∀ I' L', gG aGI I' → jJ I' → jWB (jWPM d) k (some (N, xs)) jc_law (1423, [some (.inr (901, 0)), some (.inr (0, 0)), some (.inr (31, 0)), some (.inl (.inl i))], [], I', L')) : jWB (jWPM d) k (some (N, xs)) jc_law (907, [some (.inr (901, 0)), some (.inr (0, 0)), some (.inr (31, 0)), some (.inl (.inl i))], [], I, L) := by
  refine jWB_run [1423] 80 ?_
  conv => whnf
  refine use_j (jKP_of hK_cheapest (by decide) (by decide)) hd ⟨⟨rfl, rfl, by simp, by simp⟩, trivial⟩ hG hJ (fun v1 I1 L1 g1 j1 r1 => ?_)
  obtain ⟨x1, rfl, -, -⟩ := r1
  conv => whnf
  refine use_j (jKP_of hK_mcheapest (by decide) (by decide)) hd ⟨⟨rfl, rfl, by simp, by simp⟩, trivial⟩ g1 j1 (fun v2 I2 L2 g2 j2 r2 => ?_)
  obtain ⟨x2, rfl, -, -⟩ := r2
  exact nx _ _ g2 j2
set_option maxHeartbeats 4000000 in
set_option maxRecDepth 20000 in
theorem lwC_24 {d : Nat} (hd : 13 ≤ d) {k : jK} {N : Nat} {xs : Nat → Int32} {i : Int32} {I : Nat → Nat → Nat → Int32} {L : Nat → Nat → Nat → Int64} (hi0 : 0 ≤ i.toInt) (hi : i.toInt + 6 ≤ (N : Int)) (hN : N ≤ 384) (hG : gG aGI I) (hJ : jJ I) (nx : ∀ I' L', gG aGI I' → jJ I' → jWB (jWPM d) k (some (N, xs)) jc_law (1423, [some (.inr (901, 0)), some (.inr (0, 0)), some (.inr (31, 0)), some (.inl (.inl i))], [], I', L')) : jWB (jWPM d) k (some (N, xs)) jc_law (920, [some (.inr (901, 0)), some (.inr (0, 0)), some (.inr (31, 0)), some (.inl (.inl i))], [], I, L) := by
  refine jWB_run [1423] 80 ?_
  conv => whnf
  refine use_j (jKP_of cT106 (by decide) (by decide)) hd ⟨⟨rfl, rfl, by simp, by simp⟩, trivial⟩ hG hJ (fun v1 I1 L1 g1 j1 r1 => ?_)
  obtain ⟨x1, rfl, -, -⟩ := r1
  conv => whnf
  refine use_j (jKP_of cT162 (by decide) (by decide)) hd ⟨⟨rfl, rfl, by simp, by simp⟩, trivial⟩ g1 j1 (fun v2 I2 L2 g2 j2 r2 => ?_)
  obtain ⟨x2, rfl, -, -⟩ := r2
  exact nx _ _ g2 j2
set_option maxHeartbeats 4000000 in
set_option maxRecDepth 20000 in
theorem lwC_25 {d : Nat} (hd : 13 ≤ d) {k : jK} {N : Nat} {xs : Nat → Int32} {i : Int32} {I : Nat → Nat → Nat → Int32} {L : Nat → Nat → Nat → Int64} (hi0 : 0 ≤ i.toInt) (hi : i.toInt + 6 ≤ (N : Int)) (hN : N ≤ 384) (hG : gG aGI I) (hJ : jJ I) (nx : ∀ I' L', gG aGI I' → jJ I' → jWB (jWPM d) k (some (N, xs)) jc_law (1423, [some (.inr (901, 0)), some (.inr (0, 0)), some (.inr (31, 0)), some (.inl (.inl i))], [], I', L')) : jWB (jWPM d) k (some (N, xs)) jc_law (933, [some (.inr (901, 0)), some (.inr (0, 0)), some (.inr (31, 0)), some (.inl (.inl i))], [], I, L) := by
  refine jWB_run [1423] 80 ?_
  conv => whnf
  refine ⟨lw_ix hi0 hi hN (by decide) (by decide), ?_⟩
  conv => whnf
  refine ⟨lw_ix hi0 hi hN (by decide) (by decide), ?_⟩
  conv => whnf
  refine use_j (jKP_of cT107 (by decide) (by decide)) hd ⟨⟨rfl, rfl, by simp, by simp⟩, ⟨rfl, (i32_rng _).1, (i32_rng _).2⟩, ⟨rfl, (i32_rng _).1, (i32_rng _).2⟩, trivial⟩ hG hJ (fun v1 I1 L1 g1 j1 r1 => ?_)
  obtain ⟨x1, rfl, -, -⟩ := r1
  conv => whnf
  refine ⟨lw_ix hi0 hi hN (by decide) (by decide), ?_⟩
  conv => whnf
  refine ⟨lw_ix hi0 hi hN (by decide) (by decide), ?_⟩
  conv => whnf
  refine use_j (jKP_of cT165 (by decide) (by decide)) hd ⟨⟨rfl, rfl, by simp, by simp⟩, ⟨rfl, (i32_rng _).1, (i32_rng _).2⟩, ⟨rfl, (i32_rng _).1, (i32_rng _).2⟩, trivial⟩ g1 j1 (fun v2 I2 L2 g2 j2 r2 => ?_)
  obtain ⟨x2, rfl, -, -⟩ := r2
  exact nx _ _ g2 j2
set_option maxHeartbeats 4000000 in
set_option maxRecDepth 20000 in
theorem lwC_26 {d : Nat} (hd : 13 ≤ d) {k : jK} {N : Nat} {xs : Nat → Int32} {i : Int32} {I : Nat → Nat → Nat → Int32} {L : Nat → Nat → Nat → Int64} (hi0 : 0 ≤ i.toInt) (hi : i.toInt + 6 ≤ (N : Int)) (hN : N ≤ 384) (hG : gG aGI I) (hJ : jJ I) (nx : ∀ I' L', gG aGI I' → jJ I' → jWB (jWPM d) k (some (N, xs)) jc_law (1423, [some (.inr (901, 0)), some (.inr (0, 0)), some (.inr (31, 0)), some (.inl (.inl i))], [], I', L')) : jWB (jWPM d) k (some (N, xs)) jc_law (966, [some (.inr (901, 0)), some (.inr (0, 0)), some (.inr (31, 0)), some (.inl (.inl i))], [], I, L) := by
  refine jWB_run [1423] 80 ?_
  conv => whnf
  refine ⟨lw_ix hi0 hi hN (by decide) (by decide), ?_⟩
  conv => whnf
  refine ⟨lw_ix hi0 hi hN (by decide) (by decide), ?_⟩
  conv => whnf
  refine use_j (jKP_of cT108 (by decide) (by decide)) hd ⟨⟨rfl, rfl, by simp, by simp⟩, ⟨rfl, (i32_rng _).1, (i32_rng _).2⟩, ⟨rfl, (i32_rng _).1, (i32_rng _).2⟩, trivial⟩ hG hJ (fun v1 I1 L1 g1 j1 r1 => ?_)
  obtain ⟨x1, rfl, -, -⟩ := r1
  conv => whnf
  refine ⟨lw_ix hi0 hi hN (by decide) (by decide), ?_⟩
  conv => whnf
  refine ⟨lw_ix hi0 hi hN (by decide) (by decide), ?_⟩
  conv => whnf
  refine use_j (jKP_of hK_mweeks (by decide) (by decide)) hd ⟨⟨rfl, rfl, by simp, by simp⟩, ⟨rfl, (i32_rng _).1, (i32_rng _).2⟩, ⟨rfl, (i32_rng _).1, (i32_rng _).2⟩, trivial⟩ g1 j1 (fun v2 I2 L2 g2 j2 r2 => ?_)
  obtain ⟨x2, rfl, -, -⟩ := r2
  exact nx _ _ g2 j2
set_option maxHeartbeats 4000000 in
set_option maxRecDepth 20000 in
theorem lwC_27 {d : Nat} (hd : 13 ≤ d) {k : jK} {N : Nat} {xs : Nat → Int32} {i : Int32} {I : Nat → Nat → Nat → Int32} {L : Nat → Nat → Nat → Int64} (hi0 : 0 ≤ i.toInt) (hi : i.toInt + 6 ≤ (N : Int)) (hN : N ≤ 384) (hG : gG aGI I) (hJ : jJ I) (nx : ∀ I' L', gG aGI I' → jJ I' → jWB (jWPM d) k (some (N, xs)) jc_law (1423, [some (.inr (901, 0)), some (.inr (0, 0)), some (.inr (31, 0)), some (.inl (.inl i))], [], I', L')) : jWB (jWPM d) k (some (N, xs)) jc_law (999, [some (.inr (901, 0)), some (.inr (0, 0)), some (.inr (31, 0)), some (.inl (.inl i))], [], I, L) := by
  refine jWB_run [1423] 80 ?_
  conv => whnf
  refine ⟨lw_ix hi0 hi hN (by decide) (by decide), ?_⟩
  conv => whnf
  refine use_j (jKP_of cT109 (by decide) (by decide)) hd ⟨⟨rfl, rfl, by simp, by simp⟩, ⟨rfl, (i32_rng _).1, (i32_rng _).2⟩, trivial⟩ hG hJ (fun v1 I1 L1 g1 j1 r1 => ?_)
  obtain ⟨x1, rfl, -, -⟩ := r1
  conv => whnf
  refine ⟨lw_ix hi0 hi hN (by decide) (by decide), ?_⟩
  conv => whnf
  refine use_j (jKP_of cT169 (by decide) (by decide)) hd ⟨⟨rfl, rfl, by simp, by simp⟩, ⟨rfl, (i32_rng _).1, (i32_rng _).2⟩, trivial⟩ g1 j1 (fun v2 I2 L2 g2 j2 r2 => ?_)
  obtain ⟨x2, rfl, -, -⟩ := r2
  exact nx _ _ g2 j2
set_option maxHeartbeats 4000000 in
set_option maxRecDepth 20000 in
theorem lwC_28 {d : Nat} (hd : 13 ≤ d) {k : jK} {N : Nat} {xs : Nat → Int32} {i : Int32} {I : Nat → Nat → Nat → Int32} {L : Nat → Nat → Nat → Int64} (hi0 : 0 ≤ i.toInt) (hi : i.toInt + 6 ≤ (N : Int)) (hN : N ≤ 384) (hG : gG aGI I) (hJ : jJ I) (nx : ∀ I' L', gG aGI I' → jJ I' → jWB (jWPM d) k (some (N, xs)) jc_law (1423, [some (.inr (901, 0)), some (.inr (0, 0)), some (.inr (31, 0)), some (.inl (.inl i))], [], I', L')) : jWB (jWPM d) k (some (N, xs)) jc_law (1022, [some (.inr (901, 0)), some (.inr (0, 0)), some (.inr (31, 0)), some (.inl (.inl i))], [], I, L) := by
  refine jWB_run [1423] 80 ?_
  conv => whnf
  refine ⟨lw_ix hi0 hi hN (by decide) (by decide), ?_⟩
  conv => whnf
  refine use_j (jKP_of cT110 (by decide) (by decide)) hd ⟨⟨rfl, rfl, by simp, by simp⟩, ⟨rfl, (i32_rng _).1, (i32_rng _).2⟩, trivial⟩ hG hJ (fun v1 I1 L1 g1 j1 r1 => ?_)
  obtain ⟨x1, rfl, -, -⟩ := r1
  conv => whnf
  refine ⟨lw_ix hi0 hi hN (by decide) (by decide), ?_⟩
  conv => whnf
  refine use_j (jKP_of cT170 (by decide) (by decide)) hd ⟨⟨rfl, rfl, by simp, by simp⟩, ⟨rfl, (i32_rng _).1, (i32_rng _).2⟩, trivial⟩ g1 j1 (fun v2 I2 L2 g2 j2 r2 => ?_)
  obtain ⟨x2, rfl, -, -⟩ := r2
  exact nx _ _ g2 j2
set_option maxHeartbeats 4000000 in
set_option maxRecDepth 20000 in
theorem lwC_29 {d : Nat} (hd : 13 ≤ d) {k : jK} {N : Nat} {xs : Nat → Int32} {i : Int32} {I : Nat → Nat → Nat → Int32} {L : Nat → Nat → Nat → Int64} (hi0 : 0 ≤ i.toInt) (hi : i.toInt + 6 ≤ (N : Int)) (hN : N ≤ 384) (hG : gG aGI I) (hJ : jJ I) (nx : ∀ I' L', gG aGI I' → jJ I' → jWB (jWPM d) k (some (N, xs)) jc_law (1423, [some (.inr (901, 0)), some (.inr (0, 0)), some (.inr (31, 0)), some (.inl (.inl i))], [], I', L')) : jWB (jWPM d) k (some (N, xs)) jc_law (1045, [some (.inr (901, 0)), some (.inr (0, 0)), some (.inr (31, 0)), some (.inl (.inl i))], [], I, L) := by
  refine jWB_run [1423] 80 ?_
  conv => whnf
  refine use_j (jKP_of cT111 (by decide) (by decide)) hd ⟨⟨rfl, rfl, by simp, by simp⟩, trivial⟩ hG hJ (fun v1 I1 L1 g1 j1 r1 => ?_)
  obtain ⟨x1, rfl, -, -⟩ := r1
  conv => whnf
  refine use_j (jKP_of cT171 (by decide) (by decide)) hd ⟨⟨rfl, rfl, by simp, by simp⟩, trivial⟩ g1 j1 (fun v2 I2 L2 g2 j2 r2 => ?_)
  obtain ⟨x2, rfl, -, -⟩ := r2
  exact nx _ _ g2 j2
set_option maxHeartbeats 4000000 in
set_option maxRecDepth 20000 in
theorem lwC_30 {d : Nat} (hd : 13 ≤ d) {k : jK} {N : Nat} {xs : Nat → Int32} {i : Int32} {I : Nat → Nat → Nat → Int32} {L : Nat → Nat → Nat → Int64} (hi0 : 0 ≤ i.toInt) (hi : i.toInt + 6 ≤ (N : Int)) (hN : N ≤ 384) (hG : gG aGI I) (hJ : jJ I) (nx : ∀ I' L', gG aGI I' → jJ I' → jWB (jWPM d) k (some (N, xs)) jc_law (1423, [some (.inr (901, 0)), some (.inr (0, 0)), some (.inr (31, 0)), some (.inl (.inl i))], [], I', L')) : jWB (jWPM d) k (some (N, xs)) jc_law (1058, [some (.inr (901, 0)), some (.inr (0, 0)), some (.inr (31, 0)), some (.inl (.inl i))], [], I, L) := by
  refine jWB_run [1423] 80 ?_
  conv => whnf
  refine ⟨lw_ix hi0 hi hN (by decide) (by decide), ?_⟩
  conv => whnf
  refine ⟨lw_ix hi0 hi hN (by decide) (by decide), ?_⟩
  conv => whnf
  refine use_j (jKP_of cT112 (by decide) (by decide)) hd ⟨⟨rfl, rfl, by simp, by simp⟩, ⟨rfl, (i32_rng _).1, (i32_rng _).2⟩, ⟨rfl, (i32_rng _).1, (i32_rng _).2⟩, trivial⟩ hG hJ (fun v1 I1 L1 g1 j1 r1 => ?_)
  obtain ⟨x1, rfl, -, -⟩ := r1
  conv => whnf
  refine ⟨lw_ix hi0 hi hN (by decide) (by decide), ?_⟩
  conv => whnf
  refine ⟨lw_ix hi0 hi hN (by decide) (by decide), ?_⟩
  conv => whnf
  refine use_j (jKP_of cT172 (by decide) (by decide)) hd ⟨⟨rfl, rfl, by simp, by simp⟩, ⟨rfl, (i32_rng _).1, (i32_rng _).2⟩, ⟨rfl, (i32_rng _).1, (i32_rng _).2⟩, trivial⟩ g1 j1 (fun v2 I2 L2 g2 j2 r2 => ?_)
  obtain ⟨x2, rfl, -, -⟩ := r2
  exact nx _ _ g2 j2
set_option maxHeartbeats 4000000 in
set_option maxRecDepth 20000 in
theorem lwC_31 {d : Nat} (hd : 13 ≤ d) {k : jK} {N : Nat} {xs : Nat → Int32} {i : Int32} {I : Nat → Nat → Nat → Int32} {L : Nat → Nat → Nat → Int64} (hi0 : 0 ≤ i.toInt) (hi : i.toInt + 6 ≤ (N : Int)) (hN : N ≤ 384) (hG : gG aGI I) (hJ : jJ I) (nx : ∀ I' L', gG aGI I' → jJ I' → jWB (jWPM d) k (some (N, xs)) jc_law (1423, [some (.inr (901, 0)), some (.inr (0, 0)), some (.inr (31, 0)), some (.inl (.inl i))], [], I', L')) : jWB (jWPM d) k (some (N, xs)) jc_law (1091, [some (.inr (901, 0)), some (.inr (0, 0)), some (.inr (31, 0)), some (.inl (.inl i))], [], I, L) := by
  refine jWB_run [1423] 80 ?_
  conv => whnf
  refine ⟨lw_ix hi0 hi hN (by decide) (by decide), ?_⟩
  conv => whnf
  refine ⟨lw_ix hi0 hi hN (by decide) (by decide), ?_⟩
  conv => whnf
  refine use_j (jKP_of cT113 (by decide) (by decide)) hd ⟨⟨rfl, rfl, by simp, by simp⟩, ⟨rfl, (i32_rng _).1, (i32_rng _).2⟩, ⟨rfl, (i32_rng _).1, (i32_rng _).2⟩, trivial⟩ hG hJ (fun v1 I1 L1 g1 j1 r1 => ?_)
  obtain ⟨x1, rfl, -, -⟩ := r1
  conv => whnf
  refine ⟨lw_ix hi0 hi hN (by decide) (by decide), ?_⟩
  conv => whnf
  refine ⟨lw_ix hi0 hi hN (by decide) (by decide), ?_⟩
  conv => whnf
  refine use_j (jKP_of cT173 (by decide) (by decide)) hd ⟨⟨rfl, rfl, by simp, by simp⟩, ⟨rfl, (i32_rng _).1, (i32_rng _).2⟩, ⟨rfl, (i32_rng _).1, (i32_rng _).2⟩, trivial⟩ g1 j1 (fun v2 I2 L2 g2 j2 r2 => ?_)
  obtain ⟨x2, rfl, -, -⟩ := r2
  exact nx _ _ g2 j2
set_option maxHeartbeats 4000000 in
set_option maxRecDepth 20000 in
theorem lwC_32 {d : Nat} (hd : 13 ≤ d) {k : jK} {N : Nat} {xs : Nat → Int32} {i : Int32} {I : Nat → Nat → Nat → Int32} {L : Nat → Nat → Nat → Int64} (hi0 : 0 ≤ i.toInt) (hi : i.toInt + 6 ≤ (N : Int)) (hN : N ≤ 384) (hG : gG aGI I) (hJ : jJ I) (nx : ∀ I' L', gG aGI I' → jJ I' → jWB (jWPM d) k (some (N, xs)) jc_law (1423, [some (.inr (901, 0)), some (.inr (0, 0)), some (.inr (31, 0)), some (.inl (.inl i))], [], I', L')) : jWB (jWPM d) k (some (N, xs)) jc_law (1124, [some (.inr (901, 0)), some (.inr (0, 0)), some (.inr (31, 0)), some (.inl (.inl i))], [], I, L) := by
  refine jWB_run [1423] 80 ?_
  conv => whnf
  refine ⟨lw_ix hi0 hi hN (by decide) (by decide), ?_⟩
  conv => whnf
  refine ⟨lw_ix hi0 hi hN (by decide) (by decide), ?_⟩
  conv => whnf
  refine use_j (jKP_of cT114 (by decide) (by decide)) hd ⟨⟨rfl, rfl, by simp, by simp⟩, ⟨rfl, (i32_rng _).1, (i32_rng _).2⟩, ⟨rfl, (i32_rng _).1, (i32_rng _).2⟩, trivial⟩ hG hJ (fun v1 I1 L1 g1 j1 r1 => ?_)
  obtain ⟨x1, rfl, -, -⟩ := r1
  conv => whnf
  refine ⟨lw_ix hi0 hi hN (by decide) (by decide), ?_⟩
  conv => whnf
  refine ⟨lw_ix hi0 hi hN (by decide) (by decide), ?_⟩
  conv => whnf
  refine use_j (jKP_of cT174 (by decide) (by decide)) hd ⟨⟨rfl, rfl, by simp, by simp⟩, ⟨rfl, (i32_rng _).1, (i32_rng _).2⟩, ⟨rfl, (i32_rng _).1, (i32_rng _).2⟩, trivial⟩ g1 j1 (fun v2 I2 L2 g2 j2 r2 => ?_)
  obtain ⟨x2, rfl, -, -⟩ := r2
  exact nx _ _ g2 j2
set_option maxHeartbeats 4000000 in
set_option maxRecDepth 20000 in
theorem lwC_33 {d : Nat} (hd : 13 ≤ d) {k : jK} {N : Nat} {xs : Nat → Int32} {i : Int32} {I : Nat → Nat → Nat → Int32} {L : Nat → Nat → Nat → Int64} (hi0 : 0 ≤ i.toInt) (hi : i.toInt + 6 ≤ (N : Int)) (hN : N ≤ 384) (hG : gG aGI I) (hJ : jJ I) (nx : ∀ I' L', gG aGI I' → jJ I' → jWB (jWPM d) k (some (N, xs)) jc_law (1423, [some (.inr (901, 0)), some (.inr (0, 0)), some (.inr (31, 0)), some (.inl (.inl i))], [], I', L')) : jWB (jWPM d) k (some (N, xs)) jc_law (1157, [some (.inr (901, 0)), some (.inr (0, 0)), some (.inr (31, 0)), some (.inl (.inl i))], [], I, L) := by
  refine jWB_run [1423] 80 ?_
  conv => whnf
  refine ⟨lw_ix hi0 hi hN (by decide) (by decide), ?_⟩
  conv => whnf
  refine ⟨lw_ix hi0 hi hN (by decide) (by decide), ?_⟩
  conv => whnf
  refine ⟨lw_ix hi0 hi hN (by decide) (by decide), ?_⟩
  conv => whnf
  refine use_j (jKP_of cT115 (by decide) (by decide)) hd ⟨⟨rfl, rfl, by simp, by simp⟩, ⟨rfl, (i32_rng _).1, (i32_rng _).2⟩, ⟨rfl, (i32_rng _).1, (i32_rng _).2⟩, ⟨rfl, (i32_rng _).1, (i32_rng _).2⟩, trivial⟩ hG hJ (fun v1 I1 L1 g1 j1 r1 => ?_)
  obtain ⟨x1, rfl, -, -⟩ := r1
  conv => whnf
  refine ⟨lw_ix hi0 hi hN (by decide) (by decide), ?_⟩
  conv => whnf
  refine ⟨lw_ix hi0 hi hN (by decide) (by decide), ?_⟩
  conv => whnf
  refine ⟨lw_ix hi0 hi hN (by decide) (by decide), ?_⟩
  conv => whnf
  refine use_j (jKP_of cT175 (by decide) (by decide)) hd ⟨⟨rfl, rfl, by simp, by simp⟩, ⟨rfl, (i32_rng _).1, (i32_rng _).2⟩, ⟨rfl, (i32_rng _).1, (i32_rng _).2⟩, ⟨rfl, (i32_rng _).1, (i32_rng _).2⟩, trivial⟩ g1 j1 (fun v2 I2 L2 g2 j2 r2 => ?_)
  obtain ⟨x2, rfl, -, -⟩ := r2
  exact nx _ _ g2 j2
set_option maxHeartbeats 4000000 in
set_option maxRecDepth 20000 in
theorem lwC_34 {d : Nat} (hd : 13 ≤ d) {k : jK} {N : Nat} {xs : Nat → Int32} {i : Int32} {I : Nat → Nat → Nat → Int32} {L : Nat → Nat → Nat → Int64} (hi0 : 0 ≤ i.toInt) (hi : i.toInt + 6 ≤ (N : Int)) (hN : N ≤ 384) (hG : gG aGI I) (hJ : jJ I) (nx : ∀ I' L', gG aGI I' → jJ I' → jWB (jWPM d) k (some (N, xs)) jc_law (1423, [some (.inr (901, 0)), some (.inr (0, 0)), some (.inr (31, 0)), some (.inl (.inl i))], [], I', L')) : jWB (jWPM d) k (some (N, xs)) jc_law (1200, [some (.inr (901, 0)), some (.inr (0, 0)), some (.inr (31, 0)), some (.inl (.inl i))], [], I, L) := by
  refine jWB_run [1423] 80 ?_
  conv => whnf
  refine ⟨lw_ix hi0 hi hN (by decide) (by decide), ?_⟩
  conv => whnf
  refine use_j (jKP_of cT116 (by decide) (by decide)) hd ⟨⟨rfl, rfl, by simp, by simp⟩, ⟨rfl, (i32_rng _).1, (i32_rng _).2⟩, trivial⟩ hG hJ (fun v1 I1 L1 g1 j1 r1 => ?_)
  obtain ⟨x1, rfl, -, -⟩ := r1
  conv => whnf
  refine ⟨lw_ix hi0 hi hN (by decide) (by decide), ?_⟩
  conv => whnf
  refine use_j (jKP_of cT181 (by decide) (by decide)) hd ⟨⟨rfl, rfl, by simp, by simp⟩, ⟨rfl, (i32_rng _).1, (i32_rng _).2⟩, trivial⟩ g1 j1 (fun v2 I2 L2 g2 j2 r2 => ?_)
  obtain ⟨x2, rfl, -, -⟩ := r2
  exact nx _ _ g2 j2
set_option maxHeartbeats 4000000 in
set_option maxRecDepth 20000 in
theorem lwC_35 {d : Nat} (hd : 13 ≤ d) {k : jK} {N : Nat} {xs : Nat → Int32} {i : Int32} {I : Nat → Nat → Nat → Int32} {L : Nat → Nat → Nat → Int64} (hi0 : 0 ≤ i.toInt) (hi : i.toInt + 6 ≤ (N : Int)) (hN : N ≤ 384) (hG : gG aGI I) (hJ : jJ I) (nx : ∀ I' L', gG aGI I' → jJ I' → jWB (jWPM d) k (some (N, xs)) jc_law (1423, [some (.inr (901, 0)), some (.inr (0, 0)), some (.inr (31, 0)), some (.inl (.inl i))], [], I', L')) : jWB (jWPM d) k (some (N, xs)) jc_law (1223, [some (.inr (901, 0)), some (.inr (0, 0)), some (.inr (31, 0)), some (.inl (.inl i))], [], I, L) := by
  refine jWB_run [1423] 80 ?_
  conv => whnf
  refine ⟨lw_ix hi0 hi hN (by decide) (by decide), ?_⟩
  conv => whnf
  refine ⟨lw_ix hi0 hi hN (by decide) (by decide), ?_⟩
  conv => whnf
  refine use_j (jKP_of cT194 (by decide) (by decide)) hd ⟨⟨rfl, rfl, by simp, by simp⟩, ⟨rfl, (i32_rng _).1, (i32_rng _).2⟩, ⟨rfl, (i32_rng _).1, (i32_rng _).2⟩, trivial⟩ hG hJ (fun v1 I1 L1 g1 j1 r1 => ?_)
  obtain ⟨x1, rfl, -, -⟩ := r1
  conv => whnf
  refine ⟨lw_ix hi0 hi hN (by decide) (by decide), ?_⟩
  conv => whnf
  refine ⟨lw_ix hi0 hi hN (by decide) (by decide), ?_⟩
  conv => whnf
  refine use_j (jKP_of hK_modds (by decide) (by decide)) hd ⟨⟨rfl, rfl, by simp, by simp⟩, ⟨rfl, (i32_rng _).1, (i32_rng _).2⟩, ⟨rfl, (i32_rng _).1, (i32_rng _).2⟩, trivial⟩ g1 j1 (fun v2 I2 L2 g2 j2 r2 => ?_)
  obtain ⟨x2, rfl, -, -⟩ := r2
  exact nx _ _ g2 j2
set_option maxHeartbeats 4000000 in
set_option maxRecDepth 20000 in
theorem lwC_36 {d : Nat} (hd : 13 ≤ d) {k : jK} {N : Nat} {xs : Nat → Int32} {i : Int32} {I : Nat → Nat → Nat → Int32} {L : Nat → Nat → Nat → Int64} (hi0 : 0 ≤ i.toInt) (hi : i.toInt + 6 ≤ (N : Int)) (hN : N ≤ 384) (hG : gG aGI I) (hJ : jJ I) (nx : ∀ I' L', gG aGI I' → jJ I' → jWB (jWPM d) k (some (N, xs)) jc_law (1423, [some (.inr (901, 0)), some (.inr (0, 0)), some (.inr (31, 0)), some (.inl (.inl i))], [], I', L')) : jWB (jWPM d) k (some (N, xs)) jc_law (1256, [some (.inr (901, 0)), some (.inr (0, 0)), some (.inr (31, 0)), some (.inl (.inl i))], [], I, L) := by
  refine jWB_run [1423] 80 ?_
  conv => whnf
  refine ⟨lw_ix hi0 hi hN (by decide) (by decide), ?_⟩
  conv => whnf
  refine use_j (jKP_of cT195 (by decide) (by decide)) hd ⟨⟨rfl, rfl, by simp, by simp⟩, ⟨rfl, (i32_rng _).1, (i32_rng _).2⟩, trivial⟩ hG hJ (fun v1 I1 L1 g1 j1 r1 => ?_)
  obtain ⟨x1, rfl, -, -⟩ := r1
  conv => whnf
  refine ⟨lw_ix hi0 hi hN (by decide) (by decide), ?_⟩
  conv => whnf
  refine use_j (jKP_of hK_mmid (by decide) (by decide)) hd ⟨⟨rfl, rfl, by simp, by simp⟩, ⟨rfl, (i32_rng _).1, (i32_rng _).2⟩, trivial⟩ g1 j1 (fun v2 I2 L2 g2 j2 r2 => ?_)
  obtain ⟨x2, rfl, -, -⟩ := r2
  exact nx _ _ g2 j2
set_option maxHeartbeats 4000000 in
set_option maxRecDepth 20000 in
theorem lwC_37 {d : Nat} (hd : 13 ≤ d) {k : jK} {N : Nat} {xs : Nat → Int32} {i : Int32} {I : Nat → Nat → Nat → Int32} {L : Nat → Nat → Nat → Int64} (hi0 : 0 ≤ i.toInt) (hi : i.toInt + 6 ≤ (N : Int)) (hN : N ≤ 384) (hG : gG aGI I) (hJ : jJ I) (nx : ∀ I' L', gG aGI I' → jJ I' → jWB (jWPM d) k (some (N, xs)) jc_law (1423, [some (.inr (901, 0)), some (.inr (0, 0)), some (.inr (31, 0)), some (.inl (.inl i))], [], I', L')) : jWB (jWPM d) k (some (N, xs)) jc_law (1279, [some (.inr (901, 0)), some (.inr (0, 0)), some (.inr (31, 0)), some (.inl (.inl i))], [], I, L) := by
  refine jWB_run [1423] 80 ?_
  conv => whnf
  refine ⟨lw_ix hi0 hi hN (by decide) (by decide), ?_⟩
  conv => whnf
  refine ⟨lw_ix hi0 hi hN (by decide) (by decide), ?_⟩
  conv => whnf
  refine use_j jK_lots hd ⟨⟨rfl, rfl, by simp, by simp⟩, ⟨rfl, (i32_rng _).1, (i32_rng _).2⟩, ⟨rfl, (i32_rng _).1, (i32_rng _).2⟩, trivial⟩ hG hJ (fun v1 I1 L1 g1 j1 r1 => ?_)
  obtain ⟨x1, rfl, -, -⟩ := r1
  conv => whnf
  refine ⟨lw_ix hi0 hi hN (by decide) (by decide), ?_⟩
  conv => whnf
  refine ⟨lw_ix hi0 hi hN (by decide) (by decide), ?_⟩
  conv => whnf
  refine use_j (jKP_of hK_mlots (by decide) (by decide)) hd ⟨⟨rfl, rfl, by simp, by simp⟩, ⟨rfl, (i32_rng _).1, (i32_rng _).2⟩, ⟨rfl, (i32_rng _).1, (i32_rng _).2⟩, trivial⟩ g1 j1 (fun v2 I2 L2 g2 j2 r2 => ?_)
  obtain ⟨x2, rfl, -, -⟩ := r2
  exact nx _ _ g2 j2
set_option maxHeartbeats 4000000 in
set_option maxRecDepth 20000 in
theorem lwC_38 {d : Nat} (hd : 13 ≤ d) {k : jK} {N : Nat} {xs : Nat → Int32} {i : Int32} {I : Nat → Nat → Nat → Int32} {L : Nat → Nat → Nat → Int64} (hi0 : 0 ≤ i.toInt) (hi : i.toInt + 6 ≤ (N : Int)) (hN : N ≤ 384) (hG : gG aGI I) (hJ : jJ I) (nx : ∀ I' L', gG aGI I' → jJ I' → jWB (jWPM d) k (some (N, xs)) jc_law (1423, [some (.inr (901, 0)), some (.inr (0, 0)), some (.inr (31, 0)), some (.inl (.inl i))], [], I', L')) : jWB (jWPM d) k (some (N, xs)) jc_law (1312, [some (.inr (901, 0)), some (.inr (0, 0)), some (.inr (31, 0)), some (.inl (.inl i))], [], I, L) := by
  refine jWB_run [1423] 80 ?_
  conv => whnf
  refine use_j (jKP_of cT118 (by decide) (by decide)) hd ⟨⟨rfl, rfl, by simp, by simp⟩, trivial⟩ hG hJ (fun v1 I1 L1 g1 j1 r1 => ?_)
  obtain ⟨x1, rfl, -, -⟩ := r1
  conv => whnf
  refine use_j (jKP_of cT182 (by decide) (by decide)) hd ⟨⟨rfl, rfl, by simp, by simp⟩, trivial⟩ g1 j1 (fun v2 I2 L2 g2 j2 r2 => ?_)
  obtain ⟨x2, rfl, -, -⟩ := r2
  exact nx _ _ g2 j2
set_option maxHeartbeats 4000000 in
set_option maxRecDepth 20000 in
theorem lwC_39 {d : Nat} (hd : 13 ≤ d) {k : jK} {N : Nat} {xs : Nat → Int32} {i : Int32} {I : Nat → Nat → Nat → Int32} {L : Nat → Nat → Nat → Int64} (hi0 : 0 ≤ i.toInt) (hi : i.toInt + 6 ≤ (N : Int)) (hN : N ≤ 384) (hG : gG aGI I) (hJ : jJ I) (nx : ∀ I' L', gG aGI I' → jJ I' → jWB (jWPM d) k (some (N, xs)) jc_law (1423, [some (.inr (901, 0)), some (.inr (0, 0)), some (.inr (31, 0)), some (.inl (.inl i))], [], I', L')) : jWB (jWPM d) k (some (N, xs)) jc_law (1325, [some (.inr (901, 0)), some (.inr (0, 0)), some (.inr (31, 0)), some (.inl (.inl i))], [], I, L) := by
  refine jWB_run [1423] 80 ?_
  conv => whnf
  refine use_j (jKP_of cT119 (by decide) (by decide)) hd ⟨⟨rfl, rfl, by simp, by simp⟩, trivial⟩ hG hJ (fun v1 I1 L1 g1 j1 r1 => ?_)
  obtain ⟨x1, rfl, -, -⟩ := r1
  conv => whnf
  refine use_j (jKP_of cT183 (by decide) (by decide)) hd ⟨⟨rfl, rfl, by simp, by simp⟩, trivial⟩ g1 j1 (fun v2 I2 L2 g2 j2 r2 => ?_)
  obtain ⟨x2, rfl, -, -⟩ := r2
  exact nx _ _ g2 j2
set_option maxHeartbeats 4000000 in
set_option maxRecDepth 20000 in
theorem lwC_40 {d : Nat} (hd : 13 ≤ d) {k : jK} {N : Nat} {xs : Nat → Int32} {i : Int32} {I : Nat → Nat → Nat → Int32} {L : Nat → Nat → Nat → Int64} (hi0 : 0 ≤ i.toInt) (hi : i.toInt + 6 ≤ (N : Int)) (hN : N ≤ 384) (hG : gG aGI I) (hJ : jJ I) (nx : ∀ I' L', gG aGI I' → jJ I' → jWB (jWPM d) k (some (N, xs)) jc_law (1423, [some (.inr (901, 0)), some (.inr (0, 0)), some (.inr (31, 0)), some (.inl (.inl i))], [], I', L')) : jWB (jWPM d) k (some (N, xs)) jc_law (1338, [some (.inr (901, 0)), some (.inr (0, 0)), some (.inr (31, 0)), some (.inl (.inl i))], [], I, L) := by
  refine jWB_run [1423] 80 ?_
  conv => whnf
  refine use_j (jKP_of cT120 (by decide) (by decide)) hd ⟨⟨rfl, rfl, by simp, by simp⟩, trivial⟩ hG hJ (fun v1 I1 L1 g1 j1 r1 => ?_)
  obtain ⟨x1, rfl, -, -⟩ := r1
  conv => whnf
  refine use_j (jKP_of cT184 (by decide) (by decide)) hd ⟨⟨rfl, rfl, by simp, by simp⟩, trivial⟩ g1 j1 (fun v2 I2 L2 g2 j2 r2 => ?_)
  obtain ⟨x2, rfl, -, -⟩ := r2
  exact nx _ _ g2 j2
set_option maxHeartbeats 4000000 in
set_option maxRecDepth 20000 in
theorem lwC_41 {d : Nat} (hd : 13 ≤ d) {k : jK} {N : Nat} {xs : Nat → Int32} {i : Int32} {I : Nat → Nat → Nat → Int32} {L : Nat → Nat → Nat → Int64} (hi0 : 0 ≤ i.toInt) (hi : i.toInt + 6 ≤ (N : Int)) (hN : N ≤ 384) (hG : gG aGI I) (hJ : jJ I) (nx : ∀ I' L', gG aGI I' → jJ I' → jWB (jWPM d) k (some (N, xs)) jc_law (1423, [some (.inr (901, 0)), some (.inr (0, 0)), some (.inr (31, 0)), some (.inl (.inl i))], [], I', L')) : jWB (jWPM d) k (some (N, xs)) jc_law (1351, [some (.inr (901, 0)), some (.inr (0, 0)), some (.inr (31, 0)), some (.inl (.inl i))], [], I, L) := by
  refine jWB_run [1423] 80 ?_
  conv => whnf
  refine ⟨lw_ix hi0 hi hN (by decide) (by decide), ?_⟩
  conv => whnf
  refine use_j (jKP_of cT121 (by decide) (by decide)) hd ⟨⟨rfl, rfl, by simp, by simp⟩, ⟨rfl, (i32_rng _).1, (i32_rng _).2⟩, trivial⟩ hG hJ (fun v1 I1 L1 g1 j1 r1 => ?_)
  obtain ⟨x1, rfl, -, -⟩ := r1
  conv => whnf
  refine ⟨lw_ix hi0 hi hN (by decide) (by decide), ?_⟩
  conv => whnf
  refine use_j (jKP_of cT188 (by decide) (by decide)) hd ⟨⟨rfl, rfl, by simp, by simp⟩, ⟨rfl, (i32_rng _).1, (i32_rng _).2⟩, trivial⟩ g1 j1 (fun v2 I2 L2 g2 j2 r2 => ?_)
  obtain ⟨x2, rfl, -, -⟩ := r2
  exact nx _ _ g2 j2
set_option maxHeartbeats 4000000 in
set_option maxRecDepth 20000 in
theorem lwC_42 {d : Nat} (hd : 13 ≤ d) {k : jK} {N : Nat} {xs : Nat → Int32} {i : Int32} {I : Nat → Nat → Nat → Int32} {L : Nat → Nat → Nat → Int64} (hi0 : 0 ≤ i.toInt) (hi : i.toInt + 6 ≤ (N : Int)) (hN : N ≤ 384) (hG : gG aGI I) (hJ : jJ I) (nx : ∀ I' L', gG aGI I' → jJ I' → jWB (jWPM d) k (some (N, xs)) jc_law (1423, [some (.inr (901, 0)), some (.inr (0, 0)), some (.inr (31, 0)), some (.inl (.inl i))], [], I', L')) : jWB (jWPM d) k (some (N, xs)) jc_law (1374, [some (.inr (901, 0)), some (.inr (0, 0)), some (.inr (31, 0)), some (.inl (.inl i))], [], I, L) := by
  refine jWB_run [1423] 80 ?_
  conv => whnf
  refine use_j (jKP_of cT122 (by decide) (by decide)) hd ⟨⟨rfl, rfl, by simp, by simp⟩, trivial⟩ hG hJ (fun v1 I1 L1 g1 j1 r1 => ?_)
  obtain ⟨x1, rfl, -, -⟩ := r1
  conv => whnf
  refine use_j (jKP_of cT189 (by decide) (by decide)) hd ⟨⟨rfl, rfl, by simp, by simp⟩, trivial⟩ g1 j1 (fun v2 I2 L2 g2 j2 r2 => ?_)
  obtain ⟨x2, rfl, -, -⟩ := r2
  exact nx _ _ g2 j2
set_option maxHeartbeats 4000000 in
set_option maxRecDepth 20000 in
theorem lwC_43 {d : Nat} (hd : 13 ≤ d) {k : jK} {N : Nat} {xs : Nat → Int32} {i : Int32} {I : Nat → Nat → Nat → Int32} {L : Nat → Nat → Nat → Int64} (hi0 : 0 ≤ i.toInt) (hi : i.toInt + 6 ≤ (N : Int)) (hN : N ≤ 384) (hG : gG aGI I) (hJ : jJ I) (nx : ∀ I' L', gG aGI I' → jJ I' → jWB (jWPM d) k (some (N, xs)) jc_law (1423, [some (.inr (901, 0)), some (.inr (0, 0)), some (.inr (31, 0)), some (.inl (.inl i))], [], I', L')) : jWB (jWPM d) k (some (N, xs)) jc_law (1387, [some (.inr (901, 0)), some (.inr (0, 0)), some (.inr (31, 0)), some (.inl (.inl i))], [], I, L) := by
  refine jWB_run [1423] 80 ?_
  conv => whnf
  refine ⟨lw_ix hi0 hi hN (by decide) (by decide), ?_⟩
  conv => whnf
  refine use_j (jKP_of cT123 (by decide) (by decide)) hd ⟨⟨rfl, rfl, by simp, by simp⟩, ⟨rfl, (i32_rng _).1, (i32_rng _).2⟩, trivial⟩ hG hJ (fun v1 I1 L1 g1 j1 r1 => ?_)
  obtain ⟨x1, rfl, -, -⟩ := r1
  conv => whnf
  refine ⟨lw_ix hi0 hi hN (by decide) (by decide), ?_⟩
  conv => whnf
  refine use_j (jKP_of cT190 (by decide) (by decide)) hd ⟨⟨rfl, rfl, by simp, by simp⟩, ⟨rfl, (i32_rng _).1, (i32_rng _).2⟩, trivial⟩ g1 j1 (fun v2 I2 L2 g2 j2 r2 => ?_)
  obtain ⟨x2, rfl, -, -⟩ := r2
  exact nx _ _ g2 j2
set_option maxHeartbeats 4000000 in
set_option maxRecDepth 20000 in
theorem lwC_44 {d : Nat} (hd : 13 ≤ d) {k : jK} {N : Nat} {xs : Nat → Int32} {i : Int32} {I : Nat → Nat → Nat → Int32} {L : Nat → Nat → Nat → Int64} (hi0 : 0 ≤ i.toInt) (hi : i.toInt + 6 ≤ (N : Int)) (hN : N ≤ 384) (hG : gG aGI I) (hJ : jJ I) (nx : ∀ I' L', gG aGI I' → jJ I' → jWB (jWPM d) k (some (N, xs)) jc_law (1423, [some (.inr (901, 0)), some (.inr (0, 0)), some (.inr (31, 0)), some (.inl (.inl i))], [], I', L')) : jWB (jWPM d) k (some (N, xs)) jc_law (1410, [some (.inr (901, 0)), some (.inr (0, 0)), some (.inr (31, 0)), some (.inl (.inl i))], [], I, L) := by
  refine jWB_run [1423] 80 ?_
  conv => whnf
  refine use_j (jKP_of cT124 (by decide) (by decide)) hd ⟨⟨rfl, rfl, by simp, by simp⟩, trivial⟩ hG hJ (fun v1 I1 L1 g1 j1 r1 => ?_)
  obtain ⟨x1, rfl, -, -⟩ := r1
  conv => whnf
  refine use_j (jKP_of cT191 (by decide) (by decide)) hd ⟨⟨rfl, rfl, by simp, by simp⟩, trivial⟩ g1 j1 (fun v2 I2 L2 g2 j2 r2 => ?_)
  obtain ⟨x2, rfl, -, -⟩ := r2
  exact nx _ _ g2 j2
