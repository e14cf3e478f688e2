set_option maxHeartbeats 4000000 in
set_option maxRecDepth 20000 in
theorem lwC_35 {d : Nat} (hd : 13 ≤ d) {k : jK} {N : Nat} {xs : Nat → Int32} {i : Int32} {I : jI} {L : jL} (hi0 : 0 ≤ i.toInt) (hi : i.toInt + 6 ≤ (N : Int)) (hN : N ≤ 384) (hG : gG aGI I) (hJ : jJ I) (hR : lR I L) (nx : ∀ I' L', gG aGI I' → jJ I' → lR I' L' → jWB (jWPM d) k (some (N, xs)) jc_law (1423, [some (.inr (901, 0)), some (.inr (0, 0)), some (.inr (31, 0)), some (.inl (.inl i))], [], I', L')) : jWB (jWPM d) k (some (N, xs)) jc_law (1223, [some (.inr (901, 0)), some (.inr (0, 0)), some (.inr (31, 0)), some (.inl (.inl i))], [], I, L) := by
  refine jWB_run [1423] 80 ?_
  conv => whnf
  refine ⟨lw_ix hi0 hi hN (by decide) (by decide), ?_⟩
  conv => whnf
  refine ⟨lw_ix hi0 hi hN (by decide) (by decide), ?_⟩
  conv => whnf
  refine use_jp (jKP_of cT194 (by decide) (by decide)) hd ⟨⟨rfl, rfl, by simp, by simp⟩, ⟨rfl, (i32_rng _).1, (i32_rng _).2⟩, ⟨rfl, (i32_rng _).1, (i32_rng _).2⟩, trivial⟩ hG hJ (pKR cT194 ⟨⟨rfl, rfl, by simp, by simp⟩, ⟨rfl, (i32_rng _).1, (i32_rng _).2⟩, ⟨rfl, (i32_rng _).1, (i32_rng _).2⟩, trivial⟩ hG) (fun v1 I1 L1 g1 j1 r1 q1 => ?_)
  obtain ⟨x1, rfl, -, -⟩ := r1
  conv => whnf
  refine ⟨lw_ix hi0 hi hN (by decide) (by decide), ?_⟩
  conv => whnf
  refine ⟨lw_ix hi0 hi hN (by decide) (by decide), ?_⟩
  conv => whnf
  refine use_jp (jKP_of hK_modds (by decide) (by decide)) hd ⟨⟨rfl, rfl, by simp, by simp⟩, ⟨rfl, (i32_rng _).1, (i32_rng _).2⟩, ⟨rfl, (i32_rng _).1, (i32_rng _).2⟩, trivial⟩ g1 j1 (pKR hK_modds ⟨⟨rfl, rfl, by simp, by simp⟩, ⟨rfl, (i32_rng _).1, (i32_rng _).2⟩, ⟨rfl, (i32_rng _).1, (i32_rng _).2⟩, trivial⟩ g1) (fun v2 I2 L2 g2 j2 r2 q2 => ?_)
  obtain ⟨x2, rfl, -, -⟩ := r2
  have rr := lR_gR (by decide) (by decide) (by decide) (by decide) (by decide) (by decide) g1 (lR_gR (by decide) (by decide) (by decide) (by decide) (by decide) (by decide) hG hR q1) q2
  exact nx _ _ g2 j2 rr
set_option maxHeartbeats 4000000 in
set_option maxRecDepth 20000 in
theorem lwC_36 {d : Nat} (hd : 13 ≤ d) {k : jK} {N : Nat} {xs : Nat → Int32} {i : Int32} {I : jI} {L : jL} (hi0 : 0 ≤ i.toInt) (hi : i.toInt + 6 ≤ (N : Int)) (hN : N ≤ 384) (hG : gG aGI I) (hJ : jJ I) (hR : lR I L) (nx : ∀ I' L', gG aGI I' → jJ I' → lR I' L' → jWB (jWPM d) k (some (N, xs)) jc_law (1423, [some (.inr (901, 0)), some (.inr (0, 0)), some (.inr (31, 0)), some (.inl (.inl i))], [], I', L')) : jWB (jWPM d) k (some (N, xs)) jc_law (1256, [some (.inr (901, 0)), some (.inr (0, 0)), some (.inr (31, 0)), some (.inl (.inl i))], [], I, L) := by
  refine jWB_run [1423] 80 ?_
  conv => whnf
  refine ⟨lw_ix hi0 hi hN (by decide) (by decide), ?_⟩
  conv => whnf
  refine use_jp (jKP_of cT195 (by decide) (by decide)) hd ⟨⟨rfl, rfl, by simp, by simp⟩, ⟨rfl, (i32_rng _).1, (i32_rng _).2⟩, trivial⟩ hG hJ (pKR cT195 ⟨⟨rfl, rfl, by simp, by simp⟩, ⟨rfl, (i32_rng _).1, (i32_rng _).2⟩, trivial⟩ hG) (fun v1 I1 L1 g1 j1 r1 q1 => ?_)
  obtain ⟨x1, rfl, -, -⟩ := r1
  conv => whnf
  refine ⟨lw_ix hi0 hi hN (by decide) (by decide), ?_⟩
  conv => whnf
  refine use_jp (jKP_of hK_mmid (by decide) (by decide)) hd ⟨⟨rfl, rfl, by simp, by simp⟩, ⟨rfl, (i32_rng _).1, (i32_rng _).2⟩, trivial⟩ g1 j1 (pKR hK_mmid ⟨⟨rfl, rfl, by simp, by simp⟩, ⟨rfl, (i32_rng _).1, (i32_rng _).2⟩, trivial⟩ g1) (fun v2 I2 L2 g2 j2 r2 q2 => ?_)
  obtain ⟨x2, rfl, -, -⟩ := r2
  have rr := lR_gR (by decide) (by decide) (by decide) (by decide) (by decide) (by decide) g1 (lR_gR (by decide) (by decide) (by decide) (by decide) (by decide) (by decide) hG hR q1) q2
  exact nx _ _ g2 j2 rr
set_option maxHeartbeats 4000000 in
set_option maxRecDepth 20000 in
theorem lwC_37 {d : Nat} (hd : 13 ≤ d) {k : jK} {N : Nat} {xs : Nat → Int32} {i : Int32} {I : jI} {L : jL} (hi0 : 0 ≤ i.toInt) (hi : i.toInt + 6 ≤ (N : Int)) (hN : N ≤ 384) (hG : gG aGI I) (hJ : jJ I) (hR : lR I L) (nx : ∀ I' L', gG aGI I' → jJ I' → lR I' L' → jWB (jWPM d) k (some (N, xs)) jc_law (1423, [some (.inr (901, 0)), some (.inr (0, 0)), some (.inr (31, 0)), some (.inl (.inl i))], [], I', L')) : jWB (jWPM d) k (some (N, xs)) jc_law (1279, [some (.inr (901, 0)), some (.inr (0, 0)), some (.inr (31, 0)), some (.inl (.inl i))], [], I, L) := by
  refine jWB_run [1423] 80 ?_
  conv => whnf
  refine ⟨lw_ix hi0 hi hN (by decide) (by decide), ?_⟩
  conv => whnf
  refine ⟨lw_ix hi0 hi hN (by decide) (by decide), ?_⟩
  conv => whnf
  refine use_jp jK_lots hd ⟨⟨rfl, rfl, by simp, by simp⟩, ⟨rfl, (i32_rng _).1, (i32_rng _).2⟩, ⟨rfl, (i32_rng _).1, (i32_rng _).2⟩, trivial⟩ hG hJ (Pq105 hG hJ hR.2.1) (fun v1 I1 L1 g1 j1 r1 q1 => ?_)
  obtain ⟨x1, rfl, -, -⟩ := r1
  conv => whnf
  refine ⟨lw_ix hi0 hi hN (by decide) (by decide), ?_⟩
  conv => whnf
  refine ⟨lw_ix hi0 hi hN (by decide) (by decide), ?_⟩
  conv => whnf
  refine use_jp (jKP_of hK_mlots (by decide) (by decide)) hd ⟨⟨rfl, rfl, by simp, by simp⟩, ⟨rfl, (i32_rng _).1, (i32_rng _).2⟩, ⟨rfl, (i32_rng _).1, (i32_rng _).2⟩, trivial⟩ g1 j1 (Pq207 hG g1 hJ hR.2.1 q1.2) (fun v2 I2 L2 g2 j2 r2 q2 => ?_)
  obtain ⟨x2, rfl, -, -⟩ := r2
  have qq := Qq105 hG g1 hJ hR.2.1 q1 q2
  have rr : lR I2 L2 := ⟨RT_fr (RT_fr hR.1 q1.2 rfl) q2.2 rfl, qq.2, RR_fr (RR_fr hR.2.2.1 q1.2 rfl) q2.2 rfl, RF_fr (RF_fr hR.2.2.2 q1.2 rfl) q2.2 rfl⟩
  exact nx _ _ g2 j2 rr
set_option maxHeartbeats 4000000 in
set_option maxRecDepth 20000 in
theorem lwC_38 {d : Nat} (hd : 13 ≤ d) {k : jK} {N : Nat} {xs : Nat → Int32} {i : Int32} {I : jI} {L : jL} (hi0 : 0 ≤ i.toInt) (hi : i.toInt + 6 ≤ (N : Int)) (hN : N ≤ 384) (hG : gG aGI I) (hJ : jJ I) (hR : lR I L) (nx : ∀ I' L', gG aGI I' → jJ I' → lR I' L' → jWB (jWPM d) k (some (N, xs)) jc_law (1423, [some (.inr (901, 0)), some (.inr (0, 0)), some (.inr (31, 0)), some (.inl (.inl i))], [], I', L')) : jWB (jWPM d) k (some (N, xs)) jc_law (1312, [some (.inr (901, 0)), some (.inr (0, 0)), some (.inr (31, 0)), some (.inl (.inl i))], [], I, L) := by
  refine jWB_run [1423] 80 ?_
  conv => whnf
  refine use_jp (jKP_of cT118 (by decide) (by decide)) hd ⟨⟨rfl, rfl, by simp, by simp⟩, trivial⟩ hG hJ (pKR cT118 ⟨⟨rfl, rfl, by simp, by simp⟩, trivial⟩ hG) (fun v1 I1 L1 g1 j1 r1 q1 => ?_)
  obtain ⟨x1, rfl, -, -⟩ := r1
  conv => whnf
  refine use_jp (jKP_of cT182 (by decide) (by decide)) hd ⟨⟨rfl, rfl, by simp, by simp⟩, trivial⟩ g1 j1 (pKR cT182 ⟨⟨rfl, rfl, by simp, by simp⟩, trivial⟩ g1) (fun v2 I2 L2 g2 j2 r2 q2 => ?_)
  obtain ⟨x2, rfl, -, -⟩ := r2
  have rr := lR_gR (by decide) (by decide) (by decide) (by decide) (by decide) (by decide) g1 (lR_gR (by decide) (by decide) (by decide) (by decide) (by decide) (by decide) hG hR q1) q2
  exact nx _ _ g2 j2 rr
set_option maxHeartbeats 4000000 in
set_option maxRecDepth 20000 in
theorem lwC_39 {d : Nat} (hd : 13 ≤ d) {k : jK} {N : Nat} {xs : Nat → Int32} {i : Int32} {I : jI} {L : jL} (hi0 : 0 ≤ i.toInt) (hi : i.toInt + 6 ≤ (N : Int)) (hN : N ≤ 384) (hG : gG aGI I) (hJ : jJ I) (hR : lR I L) (nx : ∀ I' L', gG aGI I' → jJ I' → lR I' L' → jWB (jWPM d) k (some (N, xs)) jc_law (1423, [some (.inr (901, 0)), some (.inr (0, 0)), some (.inr (31, 0)), some (.inl (.inl i))], [], I', L')) : jWB (jWPM d) k (some (N, xs)) jc_law (1325, [some (.inr (901, 0)), some (.inr (0, 0)), some (.inr (31, 0)), some (.inl (.inl i))], [], I, L) := by
  refine jWB_run [1423] 80 ?_
  conv => whnf
  refine use_jp (jKP_of cT119 (by decide) (by decide)) hd ⟨⟨rfl, rfl, by simp, by simp⟩, trivial⟩ hG hJ (pKR cT119 ⟨⟨rfl, rfl, by simp, by simp⟩, trivial⟩ hG) (fun v1 I1 L1 g1 j1 r1 q1 => ?_)
  obtain ⟨x1, rfl, -, -⟩ := r1
  conv => whnf
  refine use_jp (jKP_of cT183 (by decide) (by decide)) hd ⟨⟨rfl, rfl, by simp, by simp⟩, trivial⟩ g1 j1 (pKR cT183 ⟨⟨rfl, rfl, by simp, by simp⟩, trivial⟩ g1) (fun v2 I2 L2 g2 j2 r2 q2 => ?_)
  obtain ⟨x2, rfl, -, -⟩ := r2
  have rr := lR_gR (by decide) (by decide) (by decide) (by decide) (by decide) (by decide) g1 (lR_gR (by decide) (by decide) (by decide) (by decide) (by decide) (by decide) hG hR q1) q2
  exact nx _ _ g2 j2 rr
set_option maxHeartbeats 4000000 in
set_option maxRecDepth 20000 in
theorem lwC_40 {d : Nat} (hd : 13 ≤ d) {k : jK} {N : Nat} {xs : Nat → Int32} {i : Int32} {I : jI} {L : jL} (hi0 : 0 ≤ i.toInt) (hi : i.toInt + 6 ≤ (N : Int)) (hN : N ≤ 384) (hG : gG aGI I) (hJ : jJ I) (hR : lR I L) (nx : ∀ I' L', gG aGI I' → jJ I' → lR I' L' → jWB (jWPM d) k (some (N, xs)) jc_law (1423, [some (.inr (901, 0)), some (.inr (0, 0)), some (.inr (31, 0)), some (.inl (.inl i))], [], I', L')) : jWB (jWPM d) k (some (N, xs)) jc_law (1338, [some (.inr (901, 0)), some (.inr (0, 0)), some (.inr (31, 0)), some (.inl (.inl i))], [], I, L) := by
  refine jWB_run [1423] 80 ?_
  conv => whnf
  refine use_jp (jKP_of cT120 (by decide) (by decide)) hd ⟨⟨rfl, rfl, by simp, by simp⟩, trivial⟩ hG hJ (pKR cT120 ⟨⟨rfl, rfl, by simp, by simp⟩, trivial⟩ hG) (fun v1 I1 L1 g1 j1 r1 q1 => ?_)
  obtain ⟨x1, rfl, -, -⟩ := r1
  conv => whnf
  refine use_jp (jKP_of cT184 (by decide) (by decide)) hd ⟨⟨rfl, rfl, by simp, by simp⟩, trivial⟩ g1 j1 (pKR cT184 ⟨⟨rfl, rfl, by simp, by simp⟩, trivial⟩ g1) (fun v2 I2 L2 g2 j2 r2 q2 => ?_)
  obtain ⟨x2, rfl, -, -⟩ := r2
  have rr := lR_gR (by decide) (by decide) (by decide) (by decide) (by decide) (by decide) g1 (lR_gR (by decide) (by decide) (by decide) (by decide) (by decide) (by decide) hG hR q1) q2
  exact nx _ _ g2 j2 rr
set_option maxHeartbeats 4000000 in
set_option maxRecDepth 20000 in
theorem lwC_41 {d : Nat} (hd : 13 ≤ d) {k : jK} {N : Nat} {xs : Nat → Int32} {i : Int32} {I : jI} {L : jL} (hi0 : 0 ≤ i.toInt) (hi : i.toInt + 6 ≤ (N : Int)) (hN : N ≤ 384) (hG : gG aGI I) (hJ : jJ I) (hR : lR I L) (nx : ∀ I' L', gG aGI I' → jJ I' → lR I' L' → jWB (jWPM d) k (some (N, xs)) jc_law (1423, [some (.inr (901, 0)), some (.inr (0, 0)), some (.inr (31, 0)), some (.inl (.inl i))], [], I', L')) : jWB (jWPM d) k (some (N, xs)) jc_law (1351, [some (.inr (901, 0)), some (.inr (0, 0)), some (.inr (31, 0)), some (.inl (.inl i))], [], I, L) := by
  refine jWB_run [1423] 80 ?_
  conv => whnf
  refine ⟨lw_ix hi0 hi hN (by decide) (by decide), ?_⟩
  conv => whnf
  refine use_jp (jKP_of cT121 (by decide) (by decide)) hd ⟨⟨rfl, rfl, by simp, by simp⟩, ⟨rfl, (i32_rng _).1, (i32_rng _).2⟩, trivial⟩ hG hJ (pKR cT121 ⟨⟨rfl, rfl, by simp, by simp⟩, ⟨rfl, (i32_rng _).1, (i32_rng _).2⟩, trivial⟩ hG) (fun v1 I1 L1 g1 j1 r1 q1 => ?_)
  obtain ⟨x1, rfl, -, -⟩ := r1
  conv => whnf
  refine ⟨lw_ix hi0 hi hN (by decide) (by decide), ?_⟩
  conv => whnf
  refine use_jp (jKP_of cT188 (by decide) (by decide)) hd ⟨⟨rfl, rfl, by simp, by simp⟩, ⟨rfl, (i32_rng _).1, (i32_rng _).2⟩, trivial⟩ g1 j1 (pKR cT188 ⟨⟨rfl, rfl, by simp, by simp⟩, ⟨rfl, (i32_rng _).1, (i32_rng _).2⟩, trivial⟩ g1) (fun v2 I2 L2 g2 j2 r2 q2 => ?_)
  obtain ⟨x2, rfl, -, -⟩ := r2
  have rr := lR_gR (by decide) (by decide) (by decide) (by decide) (by decide) (by decide) g1 (lR_gR (by decide) (by decide) (by decide) (by decide) (by decide) (by decide) hG hR q1) q2
  exact nx _ _ g2 j2 rr
set_option maxHeartbeats 4000000 in
set_option maxRecDepth 20000 in
theorem lwC_42 {d : Nat} (hd : 13 ≤ d) {k : jK} {N : Nat} {xs : Nat → Int32} {i : Int32} {I : jI} {L : jL} (hi0 : 0 ≤ i.toInt) (hi : i.toInt + 6 ≤ (N : Int)) (hN : N ≤ 384) (hG : gG aGI I) (hJ : jJ I) (hR : lR I L) (nx : ∀ I' L', gG aGI I' → jJ I' → lR I' L' → jWB (jWPM d) k (some (N, xs)) jc_law (1423, [some (.inr (901, 0)), some (.inr (0, 0)), some (.inr (31, 0)), some (.inl (.inl i))], [], I', L')) : jWB (jWPM d) k (some (N, xs)) jc_law (1374, [some (.inr (901, 0)), some (.inr (0, 0)), some (.inr (31, 0)), some (.inl (.inl i))], [], I, L) := by
  refine jWB_run [1423] 80 ?_
  conv => whnf
  refine use_jp (jKP_of cT122 (by decide) (by decide)) hd ⟨⟨rfl, rfl, by simp, by simp⟩, trivial⟩ hG hJ (pKR cT122 ⟨⟨rfl, rfl, by simp, by simp⟩, trivial⟩ hG) (fun v1 I1 L1 g1 j1 r1 q1 => ?_)
  obtain ⟨x1, rfl, -, -⟩ := r1
  conv => whnf
  refine use_jp (jKP_of cT189 (by decide) (by decide)) hd ⟨⟨rfl, rfl, by simp, by simp⟩, trivial⟩ g1 j1 (pKR cT189 ⟨⟨rfl, rfl, by simp, by simp⟩, trivial⟩ g1) (fun v2 I2 L2 g2 j2 r2 q2 => ?_)
  obtain ⟨x2, rfl, -, -⟩ := r2
  have rr := lR_gR (by decide) (by decide) (by decide) (by decide) (by decide) (by decide) g1 (lR_gR (by decide) (by decide) (by decide) (by decide) (by decide) (by decide) hG hR q1) q2
  exact nx _ _ g2 j2 rr
set_option maxHeartbeats 4000000 in
set_option maxRecDepth 20000 in
theorem lwC_43 {d : Nat} (hd : 13 ≤ d) {k : jK} {N : Nat} {xs : Nat → Int32} {i : Int32} {I : jI} {L : jL} (hi0 : 0 ≤ i.toInt) (hi : i.toInt + 6 ≤ (N : Int)) (hN : N ≤ 384) (hG : gG aGI I) (hJ : jJ I) (hR : lR I L) (nx : ∀ I' L', gG aGI I' → jJ I' → lR I' L' → jWB (jWPM d) k (some (N, xs)) jc_law (1423, [some (.inr (901, 0)), some (.inr (0, 0)), some (.inr (31, 0)), some (.inl (.inl i))], [], I', L')) : jWB (jWPM d) k (some (N, xs)) jc_law (1387, [some (.inr (901, 0)), some (.inr (0, 0)), some (.inr (31, 0)), some (.inl (.inl i))], [], I, L) := by
  refine jWB_run [1423] 80 ?_
  conv => whnf
  refine ⟨lw_ix hi0 hi hN (by decide) (by decide), ?_⟩
  conv => whnf
  refine use_jp (jKP_of cT123 (by decide) (by decide)) hd ⟨⟨rfl, rfl, by simp, by simp⟩, ⟨rfl, (i32_rng _).1, (i32_rng _).2⟩, trivial⟩ hG hJ (Pv111 (pKR cT123 ⟨⟨rfl, rfl, by simp, by simp⟩, ⟨rfl, (i32_rng _).1, (i32_rng _).2⟩, trivial⟩ hG)) (fun v1 I1 L1 g1 j1 r1 q1 => ?_)
  obtain ⟨x1, rfl, -, -⟩ := r1
  conv => whnf
  refine ⟨lw_ix hi0 hi hN (by decide) (by decide), ?_⟩
  conv => whnf
  refine use_jp (jKP_of cT190 (by decide) (by decide)) hd ⟨⟨rfl, rfl, by simp, by simp⟩, ⟨rfl, (i32_rng _).1, (i32_rng _).2⟩, trivial⟩ g1 j1 (Pv216 (pKR cT190 ⟨⟨rfl, rfl, by simp, by simp⟩, ⟨rfl, (i32_rng _).1, (i32_rng _).2⟩, trivial⟩ g1)) (fun v2 I2 L2 g2 j2 r2 q2 => ?_)
  obtain ⟨x2, rfl, -, -⟩ := r2
  have ee := Qv111 (RF_mid (by decide) hR.2.2.2 q1.2) q1.1 q2.1
  have rr := lR_gR (by decide) (by decide) (by decide) (by decide) (by decide) (by decide) g1 (lR_gR (by decide) (by decide) (by decide) (by decide) (by decide) (by decide) hG hR q1.2) q2.2
  conv => whnf
  exact ⟨fun _ => nx _ _ g2 j2 rr, fun h => absurd ee h⟩
set_option maxHeartbeats 4000000 in
set_option maxRecDepth 20000 in
theorem lwC_44 {d : Nat} (hd : 13 ≤ d) {k : jK} {N : Nat} {xs : Nat → Int32} {i : Int32} {I : jI} {L : jL} (hi0 : 0 ≤ i.toInt) (hi : i.toInt + 6 ≤ (N : Int)) (hN : N ≤ 384) (hG : gG aGI I) (hJ : jJ I) (hR : lR I L) (nx : ∀ I' L', gG aGI I' → jJ I' → lR I' L' → jWB (jWPM d) k (some (N, xs)) jc_law (1423, [some (.inr (901, 0)), some (.inr (0, 0)), some (.inr (31, 0)), some (.inl (.inl i))], [], I', L')) : jWB (jWPM d) k (some (N, xs)) jc_law (1410, [some (.inr (901, 0)), some (.inr (0, 0)), some (.inr (31, 0)), some (.inl (.inl i))], [], I, L) := by
  refine jWB_run [1423] 80 ?_
  conv => whnf
  refine use_jp (jKP_of cT124 (by decide) (by decide)) hd ⟨⟨rfl, rfl, by simp, by simp⟩, trivial⟩ hG hJ (pKR cT124 ⟨⟨rfl, rfl, by simp, by simp⟩, trivial⟩ hG) (fun v1 I1 L1 g1 j1 r1 q1 => ?_)
  obtain ⟨x1, rfl, -, -⟩ := r1
  conv => whnf
  refine use_jp (jKP_of cT191 (by decide) (by decide)) hd ⟨⟨rfl, rfl, by simp, by simp⟩, trivial⟩ g1 j1 (pKR cT191 ⟨⟨rfl, rfl, by simp, by simp⟩, trivial⟩ g1) (fun v2 I2 L2 g2 j2 r2 q2 => ?_)
  obtain ⟨x2, rfl, -, -⟩ := r2
  have rr := lR_gR (by decide) (by decide) (by decide) (by decide) (by decide) (by decide) g1 (lR_gR (by decide) (by decide) (by decide) (by decide) (by decide) (by decide) hG hR q1) q2
  exact nx _ _ g2 j2 rr
