set_option maxHeartbeats 4000000 in
set_option maxRecDepth 20000 in
theorem lwC_17 {d : Nat} (hd : 13 ≤ d) {k : jK} {N : Nat} {xs : Nat → Int32} {i : Int32} {I : jI} {L : jL} (hi0 : 0 ≤ i.toInt) (hi : i.toInt + 6 ≤ (N : Int)) (hN : N ≤ 384) (hG : gG aGI I) (hJ : jJ I) (hR : lR I L) (nx : ∀ I' L', gG aGI I' → jJ I' → lR I' L' → jWB (jWPM d) k (some (N, xs)) jc_law (1423, [some (.inr (901, 0)), some (.inr (0, 0)), some (.inr (31, 0)), some (.inl (.inl i))], [], I', L')) : jWB (jWPM d) k (some (N, xs)) jc_law (759, [some (.inr (901, 0)), some (.inr (0, 0)), some (.inr (31, 0)), some (.inl (.inl i))], [], I, L) := by
  refine jWB_run [1423] 80 ?_
  conv => whnf
  refine ⟨lw_ix hi0 hi hN (by decide) (by decide), ?_⟩
  conv => whnf
  refine use_jp jK_card hd ⟨⟨rfl, rfl, by simp, by simp⟩, ⟨rfl, (i32_rng _).1, (i32_rng _).2⟩, trivial⟩ hG hJ (Pq85 hG hJ hR.2) (fun v1 I1 L1 g1 j1 r1 q1 => ?_)
  obtain ⟨x1, rfl, -, -⟩ := r1
  conv => whnf
  refine ⟨lw_ix hi0 hi hN (by decide) (by decide), ?_⟩
  conv => whnf
  refine use_jp (jKP_of cT158 (by decide) (by decide)) hd ⟨⟨rfl, rfl, by simp, by simp⟩, ⟨rfl, (i32_rng _).1, (i32_rng _).2⟩, trivial⟩ g1 j1 (Pq172 hG g1 hJ hR.2 q1.2) (fun v2 I2 L2 g2 j2 r2 q2 => ?_)
  obtain ⟨x2, rfl, -, -⟩ := r2
  have qq := Qq85 hG g1 hJ hR.2 q1 q2
  have rr : lR I2 L2 := ⟨RT_fr (RT_fr hR.1 q1.2 rfl) q2.2 rfl, qq.2⟩
  exact nx _ _ g2 j2 rr
set_option maxHeartbeats 4000000 in
set_option maxRecDepth 20000 in
theorem lwC_18 {d : Nat} (hd : 13 ≤ d) {k : jK} {N : Nat} {xs : Nat → Int32} {i : Int32} {I : jI} {L : jL} (hi0 : 0 ≤ i.toInt) (hi : i.toInt + 6 ≤ (N : Int)) (hN : N ≤ 384) (hG : gG aGI I) (hJ : jJ I) (hR : lR I L) (nx : ∀ I' L', gG aGI I' → jJ I' → lR I' L' → jWB (jWPM d) k (some (N, xs)) jc_law (1423, [some (.inr (901, 0)), some (.inr (0, 0)), some (.inr (31, 0)), some (.inl (.inl i))], [], I', L')) : jWB (jWPM d) k (some (N, xs)) jc_law (782, [some (.inr (901, 0)), some (.inr (0, 0)), some (.inr (31, 0)), some (.inl (.inl i))], [], I, L) := by
  refine jWB_run [1423] 80 ?_
  conv => whnf
  refine ⟨lw_ix hi0 hi hN (by decide) (by decide), ?_⟩
  conv => whnf
  refine use_jp jK_undo hd ⟨⟨rfl, rfl, by simp, by simp⟩, ⟨rfl, (i32_rng _).1, (i32_rng _).2⟩, trivial⟩ hG hJ (Pq86 hG hJ hR.2) (fun v1 I1 L1 g1 j1 r1 q1 => ?_)
  obtain ⟨x1, rfl, -, -⟩ := r1
  conv => whnf
  refine ⟨lw_ix hi0 hi hN (by decide) (by decide), ?_⟩
  conv => whnf
  refine use_jp (jKP_of cT159 (by decide) (by decide)) hd ⟨⟨rfl, rfl, by simp, by simp⟩, ⟨rfl, (i32_rng _).1, (i32_rng _).2⟩, trivial⟩ g1 j1 (Pq173 hG g1 hJ hR.2 q1.2) (fun v2 I2 L2 g2 j2 r2 q2 => ?_)
  obtain ⟨x2, rfl, -, -⟩ := r2
  have qq := Qq86 hG g1 hJ hR.2 q1 q2
  have rr : lR I2 L2 := ⟨RT_fr (RT_fr hR.1 q1.2 rfl) q2.2 rfl, qq⟩
  exact nx _ _ g2 j2 rr
set_option maxHeartbeats 4000000 in
set_option maxRecDepth 20000 in
theorem lwC_19 {d : Nat} (hd : 13 ≤ d) {k : jK} {N : Nat} {xs : Nat → Int32} {i : Int32} {I : jI} {L : jL} (hi0 : 0 ≤ i.toInt) (hi : i.toInt + 6 ≤ (N : Int)) (hN : N ≤ 384) (hG : gG aGI I) (hJ : jJ I) (hR : lR I L) (nx : ∀ I' L', gG aGI I' → jJ I' → lR I' L' → jWB (jWPM d) k (some (N, xs)) jc_law (1423, [some (.inr (901, 0)), some (.inr (0, 0)), some (.inr (31, 0)), some (.inl (.inl i))], [], I', L')) : jWB (jWPM d) k (some (N, xs)) jc_law (805, [some (.inr (901, 0)), some (.inr (0, 0)), some (.inr (31, 0)), some (.inl (.inl i))], [], I, L) := by
  refine jWB_run [1423] 80 ?_
  conv => whnf
  refine ⟨lw_ix hi0 hi hN (by decide) (by decide), ?_⟩
  conv => whnf
  refine use_jp jK_keep hd ⟨⟨rfl, rfl, by simp, by simp⟩, ⟨rfl, (i32_rng _).1, (i32_rng _).2⟩, trivial⟩ hG hJ (Pq87 hG hJ hR.2) (fun v1 I1 L1 g1 j1 r1 q1 => ?_)
  obtain ⟨x1, rfl, -, -⟩ := r1
  conv => whnf
  refine ⟨lw_ix hi0 hi hN (by decide) (by decide), ?_⟩
  conv => whnf
  refine use_jp (jKP_of hK_mkeep (by decide) (by decide)) hd ⟨⟨rfl, rfl, by simp, by simp⟩, ⟨rfl, (i32_rng _).1, (i32_rng _).2⟩, trivial⟩ g1 j1 (Pq175 hG g1 hJ hR.2 q1.2) (fun v2 I2 L2 g2 j2 r2 q2 => ?_)
  obtain ⟨x2, rfl, -, -⟩ := r2
  have qq := Qq87 hG g1 hJ hR.2 q1 q2
  have rr : lR I2 L2 := ⟨RT_fr (RT_fr hR.1 q1.2 rfl) q2.2 rfl, qq.2⟩
  exact nx _ _ g2 j2 rr
set_option maxHeartbeats 4000000 in
set_option maxRecDepth 20000 in
theorem lwC_20 {d : Nat} (hd : 13 ≤ d) {k : jK} {N : Nat} {xs : Nat → Int32} {i : Int32} {I : jI} {L : jL} (hi0 : 0 ≤ i.toInt) (hi : i.toInt + 6 ≤ (N : Int)) (hN : N ≤ 384) (hG : gG aGI I) (hJ : jJ I) (hR : lR I L) (nx : ∀ I' L', gG aGI I' → jJ I' → lR I' L' → jWB (jWPM d) k (some (N, xs)) jc_law (1423, [some (.inr (901, 0)), some (.inr (0, 0)), some (.inr (31, 0)), some (.inl (.inl i))], [], I', L')) : jWB (jWPM d) k (some (N, xs)) jc_law (828, [some (.inr (901, 0)), some (.inr (0, 0)), some (.inr (31, 0)), some (.inl (.inl i))], [], I, L) := by
  refine jWB_run [1423] 80 ?_
  conv => whnf
  refine ⟨lw_ix hi0 hi hN (by decide) (by decide), ?_⟩
  conv => whnf
  refine use_jp jK_on hd ⟨⟨rfl, rfl, by simp, by simp⟩, ⟨rfl, (i32_rng _).1, (i32_rng _).2⟩, trivial⟩ hG hJ (Pq88 hG hJ hR.2) (fun v1 I1 L1 g1 j1 r1 q1 => ?_)
  obtain ⟨x1, rfl, -, -⟩ := r1
  conv => whnf
  refine ⟨lw_ix hi0 hi hN (by decide) (by decide), ?_⟩
  conv => whnf
  refine use_jp (jKP_of hK_mon (by decide) (by decide)) hd ⟨⟨rfl, rfl, by simp, by simp⟩, ⟨rfl, (i32_rng _).1, (i32_rng _).2⟩, trivial⟩ g1 j1 (Pq176 hG g1 hJ hR.2 q1.2) (fun v2 I2 L2 g2 j2 r2 q2 => ?_)
  obtain ⟨x2, rfl, -, -⟩ := r2
  have qq := Qq88 hG g1 hJ hR.2 q1 q2
  have rr : lR I2 L2 := ⟨RT_fr (RT_fr hR.1 q1.2 rfl) q2.2 rfl, qq.2⟩
  exact nx _ _ g2 j2 rr
set_option maxHeartbeats 4000000 in
set_option maxRecDepth 20000 in
theorem lwC_21 {d : Nat} (hd : 13 ≤ d) {k : jK} {N : Nat} {xs : Nat → Int32} {i : Int32} {I : jI} {L : jL} (hi0 : 0 ≤ i.toInt) (hi : i.toInt + 6 ≤ (N : Int)) (hN : N ≤ 384) (hG : gG aGI I) (hJ : jJ I) (hR : lR I L) (nx : ∀ I' L', gG aGI I' → jJ I' → lR I' L' → jWB (jWPM d) k (some (N, xs)) jc_law (1423, [some (.inr (901, 0)), some (.inr (0, 0)), some (.inr (31, 0)), some (.inl (.inl i))], [], I', L')) : jWB (jWPM d) k (some (N, xs)) jc_law (851, [some (.inr (901, 0)), some (.inr (0, 0)), some (.inr (31, 0)), some (.inl (.inl i))], [], I, L) := by
  refine jWB_run [1423] 80 ?_
  conv => whnf
  refine ⟨lw_ix hi0 hi hN (by decide) (by decide), ?_⟩
  conv => whnf
  refine ⟨lw_ix hi0 hi hN (by decide) (by decide), ?_⟩
  conv => whnf
  refine use_jp (jKP_of cT105 (by decide) (by decide)) hd ⟨⟨rfl, rfl, by simp, by simp⟩, ⟨rfl, (i32_rng _).1, (i32_rng _).2⟩, ⟨rfl, (i32_rng _).1, (i32_rng _).2⟩, trivial⟩ hG hJ (pKR cT105 ⟨⟨rfl, rfl, by simp, by simp⟩, ⟨rfl, (i32_rng _).1, (i32_rng _).2⟩, ⟨rfl, (i32_rng _).1, (i32_rng _).2⟩, trivial⟩ hG) (fun v1 I1 L1 g1 j1 r1 q1 => ?_)
  obtain ⟨x1, rfl, -, -⟩ := r1
  conv => whnf
  refine ⟨lw_ix hi0 hi hN (by decide) (by decide), ?_⟩
  conv => whnf
  refine ⟨lw_ix hi0 hi hN (by decide) (by decide), ?_⟩
  conv => whnf
  refine use_jp (jKP_of cT160 (by decide) (by decide)) hd ⟨⟨rfl, rfl, by simp, by simp⟩, ⟨rfl, (i32_rng _).1, (i32_rng _).2⟩, ⟨rfl, (i32_rng _).1, (i32_rng _).2⟩, trivial⟩ g1 j1 (pKR cT160 ⟨⟨rfl, rfl, by simp, by simp⟩, ⟨rfl, (i32_rng _).1, (i32_rng _).2⟩, ⟨rfl, (i32_rng _).1, (i32_rng _).2⟩, trivial⟩ g1) (fun v2 I2 L2 g2 j2 r2 q2 => ?_)
  obtain ⟨x2, rfl, -, -⟩ := r2
  have rr := lR_gR (by decide) (by decide) g1 (lR_gR (by decide) (by decide) hG hR q1) q2
  exact nx _ _ g2 j2 rr
set_option maxHeartbeats 4000000 in
set_option maxRecDepth 20000 in
theorem lwC_22 {d : Nat} (hd : 13 ≤ d) {k : jK} {N : Nat} {xs : Nat → Int32} {i : Int32} {I : jI} {L : jL} (hi0 : 0 ≤ i.toInt) (hi : i.toInt + 6 ≤ (N : Int)) (hN : N ≤ 384) (hG : gG aGI I) (hJ : jJ I) (hR : lR I L) (nx : ∀ I' L', gG aGI I' → jJ I' → lR I' L' → jWB (jWPM d) k (some (N, xs)) jc_law (1423, [some (.inr (901, 0)), some (.inr (0, 0)), some (.inr (31, 0)), some (.inl (.inl i))], [], I', L')) : jWB (jWPM d) k (some (N, xs)) jc_law (884, [some (.inr (901, 0)), some (.inr (0, 0)), some (.inr (31, 0)), some (.inl (.inl i))], [], I, L) := by
  refine jWB_run [1423] 80 ?_
  conv => whnf
  refine ⟨lw_ix hi0 hi hN (by decide) (by decide), ?_⟩
  conv => whnf
  refine use_jp (jKP_of cT193 (by decide) (by decide)) hd ⟨⟨rfl, rfl, by simp, by simp⟩, ⟨rfl, (i32_rng _).1, (i32_rng _).2⟩, trivial⟩ hG hJ (pKR cT193 ⟨⟨rfl, rfl, by simp, by simp⟩, ⟨rfl, (i32_rng _).1, (i32_rng _).2⟩, trivial⟩ hG) (fun v1 I1 L1 g1 j1 r1 q1 => ?_)
  obtain ⟨x1, rfl, -, -⟩ := r1
  conv => whnf
  refine ⟨lw_ix hi0 hi hN (by decide) (by decide), ?_⟩
  conv => whnf
  refine use_jp (jKP_of hK_mrate (by decide) (by decide)) hd ⟨⟨rfl, rfl, by simp, by simp⟩, ⟨rfl, (i32_rng _).1, (i32_rng _).2⟩, trivial⟩ g1 j1 (pKR hK_mrate ⟨⟨rfl, rfl, by simp, by simp⟩, ⟨rfl, (i32_rng _).1, (i32_rng _).2⟩, trivial⟩ g1) (fun v2 I2 L2 g2 j2 r2 q2 => ?_)
  obtain ⟨x2, rfl, -, -⟩ := r2
  have rr := lR_gR (by decide) (by decide) g1 (lR_gR (by decide) (by decide) hG hR q1) q2
  exact nx _ _ g2 j2 rr
set_option maxHeartbeats 4000000 in
set_option maxRecDepth 20000 in
theorem lwC_23 {d : Nat} (hd : 13 ≤ d) {k : jK} {N : Nat} {xs : Nat → Int32} {i : Int32} {I : jI} {L : jL} (hi0 : 0 ≤ i.toInt) (hi : i.toInt + 6 ≤ (N : Int)) (hN : N ≤ 384) (hG : gG aGI I) (hJ : jJ I) (hR : lR I L) (nx : ∀ I' L', gG aGI I' → jJ I' → lR I' L' → jWB (jWPM d) k (some (N, xs)) jc_law (1423, [some (.inr (901, 0)), some (.inr (0, 0)), some (.inr (31, 0)), some (.inl (.inl i))], [], I', L')) : jWB (jWPM d) k (some (N, xs)) jc_law (907, [some (.inr (901, 0)), some (.inr (0, 0)), some (.inr (31, 0)), some (.inl (.inl i))], [], I, L) := by
  refine jWB_run [1423] 80 ?_
  conv => whnf
  refine use_jp (jKP_of hK_cheapest (by decide) (by decide)) hd ⟨⟨rfl, rfl, by simp, by simp⟩, trivial⟩ hG hJ (pKR hK_cheapest ⟨⟨rfl, rfl, by simp, by simp⟩, trivial⟩ hG) (fun v1 I1 L1 g1 j1 r1 q1 => ?_)
  obtain ⟨x1, rfl, -, -⟩ := r1
  conv => whnf
  refine use_jp (jKP_of hK_mcheapest (by decide) (by decide)) hd ⟨⟨rfl, rfl, by simp, by simp⟩, trivial⟩ g1 j1 (pKR hK_mcheapest ⟨⟨rfl, rfl, by simp, by simp⟩, trivial⟩ g1) (fun v2 I2 L2 g2 j2 r2 q2 => ?_)
  obtain ⟨x2, rfl, -, -⟩ := r2
  have rr := lR_gR (by decide) (by decide) g1 (lR_gR (by decide) (by decide) hG hR q1) q2
  exact nx _ _ g2 j2 rr
set_option maxHeartbeats 4000000 in
set_option maxRecDepth 20000 in
theorem lwC_24 {d : Nat} (hd : 13 ≤ d) {k : jK} {N : Nat} {xs : Nat → Int32} {i : Int32} {I : jI} {L : jL} (hi0 : 0 ≤ i.toInt) (hi : i.toInt + 6 ≤ (N : Int)) (hN : N ≤ 384) (hG : gG aGI I) (hJ : jJ I) (hR : lR I L) (nx : ∀ I' L', gG aGI I' → jJ I' → lR I' L' → jWB (jWPM d) k (some (N, xs)) jc_law (1423, [some (.inr (901, 0)), some (.inr (0, 0)), some (.inr (31, 0)), some (.inl (.inl i))], [], I', L')) : jWB (jWPM d) k (some (N, xs)) jc_law (920, [some (.inr (901, 0)), some (.inr (0, 0)), some (.inr (31, 0)), some (.inl (.inl i))], [], I, L) := by
  refine jWB_run [1423] 80 ?_
  conv => whnf
  refine use_jp (jKP_of cT106 (by decide) (by decide)) hd ⟨⟨rfl, rfl, by simp, by simp⟩, trivial⟩ hG hJ (pKR cT106 ⟨⟨rfl, rfl, by simp, by simp⟩, trivial⟩ hG) (fun v1 I1 L1 g1 j1 r1 q1 => ?_)
  obtain ⟨x1, rfl, -, -⟩ := r1
  conv => whnf
  refine use_jp (jKP_of cT162 (by decide) (by decide)) hd ⟨⟨rfl, rfl, by simp, by simp⟩, trivial⟩ g1 j1 (pKR cT162 ⟨⟨rfl, rfl, by simp, by simp⟩, trivial⟩ g1) (fun v2 I2 L2 g2 j2 r2 q2 => ?_)
  obtain ⟨x2, rfl, -, -⟩ := r2
  have rr := lR_gR (by decide) (by decide) g1 (lR_gR (by decide) (by decide) hG hR q1) q2
  exact nx _ _ g2 j2 rr
set_option maxHeartbeats 4000000 in
set_option maxRecDepth 20000 in
theorem lwC_25 {d : Nat} (hd : 13 ≤ d) {k : jK} {N : Nat} {xs : Nat → Int32} {i : Int32} {I : jI} {L : jL} (hi0 : 0 ≤ i.toInt) (hi : i.toInt + 6 ≤ (N : Int)) (hN : N ≤ 384) (hG : gG aGI I) (hJ : jJ I) (hR : lR I L) (nx : ∀ I' L', gG aGI I' → jJ I' → lR I' L' → jWB (jWPM d) k (some (N, xs)) jc_law (1423, [some (.inr (901, 0)), some (.inr (0, 0)), some (.inr (31, 0)), some (.inl (.inl i))], [], I', L')) : jWB (jWPM d) k (some (N, xs)) jc_law (933, [some (.inr (901, 0)), some (.inr (0, 0)), some (.inr (31, 0)), some (.inl (.inl i))], [], I, L) := by
  refine jWB_run [1423] 80 ?_
  conv => whnf
  refine ⟨lw_ix hi0 hi hN (by decide) (by decide), ?_⟩
  conv => whnf
  refine ⟨lw_ix hi0 hi hN (by decide) (by decide), ?_⟩
  conv => whnf
  refine use_jp (jKP_of cT107 (by decide) (by decide)) hd ⟨⟨rfl, rfl, by simp, by simp⟩, ⟨rfl, (i32_rng _).1, (i32_rng _).2⟩, ⟨rfl, (i32_rng _).1, (i32_rng _).2⟩, trivial⟩ hG hJ (pKR cT107 ⟨⟨rfl, rfl, by simp, by simp⟩, ⟨rfl, (i32_rng _).1, (i32_rng _).2⟩, ⟨rfl, (i32_rng _).1, (i32_rng _).2⟩, trivial⟩ hG) (fun v1 I1 L1 g1 j1 r1 q1 => ?_)
  obtain ⟨x1, rfl, -, -⟩ := r1
  conv => whnf
  refine ⟨lw_ix hi0 hi hN (by decide) (by decide), ?_⟩
  conv => whnf
  refine ⟨lw_ix hi0 hi hN (by decide) (by decide), ?_⟩
  conv => whnf
  refine use_jp (jKP_of cT165 (by decide) (by decide)) hd ⟨⟨rfl, rfl, by simp, by simp⟩, ⟨rfl, (i32_rng _).1, (i32_rng _).2⟩, ⟨rfl, (i32_rng _).1, (i32_rng _).2⟩, trivial⟩ g1 j1 (pKR cT165 ⟨⟨rfl, rfl, by simp, by simp⟩, ⟨rfl, (i32_rng _).1, (i32_rng _).2⟩, ⟨rfl, (i32_rng _).1, (i32_rng _).2⟩, trivial⟩ g1) (fun v2 I2 L2 g2 j2 r2 q2 => ?_)
  obtain ⟨x2, rfl, -, -⟩ := r2
  have rr := lR_gR (by decide) (by decide) g1 (lR_gR (by decide) (by decide) hG hR q1) q2
  exact nx _ _ g2 j2 rr
set_option maxHeartbeats 4000000 in
set_option maxRecDepth 20000 in
theorem lwC_26 {d : Nat} (hd : 13 ≤ d) {k : jK} {N : Nat} {xs : Nat → Int32} {i : Int32} {I : jI} {L : jL} (hi0 : 0 ≤ i.toInt) (hi : i.toInt + 6 ≤ (N : Int)) (hN : N ≤ 384) (hG : gG aGI I) (hJ : jJ I) (hR : lR I L) (nx : ∀ I' L', gG aGI I' → jJ I' → lR I' L' → jWB (jWPM d) k (some (N, xs)) jc_law (1423, [some (.inr (901, 0)), some (.inr (0, 0)), some (.inr (31, 0)), some (.inl (.inl i))], [], I', L')) : jWB (jWPM d) k (some (N, xs)) jc_law (966, [some (.inr (901, 0)), some (.inr (0, 0)), some (.inr (31, 0)), some (.inl (.inl i))], [], I, L) := by
  refine jWB_run [1423] 80 ?_
  conv => whnf
  refine ⟨lw_ix hi0 hi hN (by decide) (by decide), ?_⟩
  conv => whnf
  refine ⟨lw_ix hi0 hi hN (by decide) (by decide), ?_⟩
  conv => whnf
  refine use_jp (jKP_of cT108 (by decide) (by decide)) hd ⟨⟨rfl, rfl, by simp, by simp⟩, ⟨rfl, (i32_rng _).1, (i32_rng _).2⟩, ⟨rfl, (i32_rng _).1, (i32_rng _).2⟩, trivial⟩ hG hJ (pKR cT108 ⟨⟨rfl, rfl, by simp, by simp⟩, ⟨rfl, (i32_rng _).1, (i32_rng _).2⟩, ⟨rfl, (i32_rng _).1, (i32_rng _).2⟩, trivial⟩ hG) (fun v1 I1 L1 g1 j1 r1 q1 => ?_)
  obtain ⟨x1, rfl, -, -⟩ := r1
  conv => whnf
  refine ⟨lw_ix hi0 hi hN (by decide) (by decide), ?_⟩
  conv => whnf
  refine ⟨lw_ix hi0 hi hN (by decide) (by decide), ?_⟩
  conv => whnf
  refine use_jp (jKP_of hK_mweeks (by decide) (by decide)) hd ⟨⟨rfl, rfl, by simp, by simp⟩, ⟨rfl, (i32_rng _).1, (i32_rng _).2⟩, ⟨rfl, (i32_rng _).1, (i32_rng _).2⟩, trivial⟩ g1 j1 (pKR hK_mweeks ⟨⟨rfl, rfl, by simp, by simp⟩, ⟨rfl, (i32_rng _).1, (i32_rng _).2⟩, ⟨rfl, (i32_rng _).1, (i32_rng _).2⟩, trivial⟩ g1) (fun v2 I2 L2 g2 j2 r2 q2 => ?_)
  obtain ⟨x2, rfl, -, -⟩ := r2
  have rr := lR_gR (by decide) (by decide) g1 (lR_gR (by decide) (by decide) hG hR q1) q2
  exact nx _ _ g2 j2 rr
set_option maxHeartbeats 4000000 in
set_option maxRecDepth 20000 in
theorem lwC_27 {d : Nat} (hd : 13 ≤ d) {k : jK} {N : Nat} {xs : Nat → Int32} {i : Int32} {I : jI} {L : jL} (hi0 : 0 ≤ i.toInt) (hi : i.toInt + 6 ≤ (N : Int)) (hN : N ≤ 384) (hG : gG aGI I) (hJ : jJ I) (hR : lR I L) (nx : ∀ I' L', gG aGI I' → jJ I' → lR I' L' → jWB (jWPM d) k (some (N, xs)) jc_law (1423, [some (.inr (901, 0)), some (.inr (0, 0)), some (.inr (31, 0)), some (.inl (.inl i))], [], I', L')) : jWB (jWPM d) k (some (N, xs)) jc_law (999, [some (.inr (901, 0)), some (.inr (0, 0)), some (.inr (31, 0)), some (.inl (.inl i))], [], I, L) := by
  refine jWB_run [1423] 80 ?_
  conv => whnf
  refine ⟨lw_ix hi0 hi hN (by decide) (by decide), ?_⟩
  conv => whnf
  refine use_jp (jKP_of cT109 (by decide) (by decide)) hd ⟨⟨rfl, rfl, by simp, by simp⟩, ⟨rfl, (i32_rng _).1, (i32_rng _).2⟩, trivial⟩ hG hJ (pKR cT109 ⟨⟨rfl, rfl, by simp, by simp⟩, ⟨rfl, (i32_rng _).1, (i32_rng _).2⟩, trivial⟩ hG) (fun v1 I1 L1 g1 j1 r1 q1 => ?_)
  obtain ⟨x1, rfl, -, -⟩ := r1
  conv => whnf
  refine ⟨lw_ix hi0 hi hN (by decide) (by decide), ?_⟩
  conv => whnf
  refine use_jp (jKP_of cT169 (by decide) (by decide)) hd ⟨⟨rfl, rfl, by simp, by simp⟩, ⟨rfl, (i32_rng _).1, (i32_rng _).2⟩, trivial⟩ g1 j1 (pKR cT169 ⟨⟨rfl, rfl, by simp, by simp⟩, ⟨rfl, (i32_rng _).1, (i32_rng _).2⟩, trivial⟩ g1) (fun v2 I2 L2 g2 j2 r2 q2 => ?_)
  obtain ⟨x2, rfl, -, -⟩ := r2
  have rr := lR_gR (by decide) (by decide) g1 (lR_gR (by decide) (by decide) hG hR q1) q2
  exact nx _ _ g2 j2 rr
set_option maxHeartbeats 4000000 in
set_option maxRecDepth 20000 in
theorem lwC_28 {d : Nat} (hd : 13 ≤ d) {k : jK} {N : Nat} {xs : Nat → Int32} {i : Int32} {I : jI} {L : jL} (hi0 : 0 ≤ i.toInt) (hi : i.toInt + 6 ≤ (N : Int)) (hN : N ≤ 384) (hG : gG aGI I) (hJ : jJ I) (hR : lR I L) (nx : ∀ I' L', gG aGI I' → jJ I' → lR I' L' → jWB (jWPM d) k (some (N, xs)) jc_law (1423, [some (.inr (901, 0)), some (.inr (0, 0)), some (.inr (31, 0)), some (.inl (.inl i))], [], I', L')) : jWB (jWPM d) k (some (N, xs)) jc_law (1022, [some (.inr (901, 0)), some (.inr (0, 0)), some (.inr (31, 0)), some (.inl (.inl i))], [], I, L) := by
  refine jWB_run [1423] 80 ?_
  conv => whnf
  refine ⟨lw_ix hi0 hi hN (by decide) (by decide), ?_⟩
  conv => whnf
  refine use_jp (jKP_of cT110 (by decide) (by decide)) hd ⟨⟨rfl, rfl, by simp, by simp⟩, ⟨rfl, (i32_rng _).1, (i32_rng _).2⟩, trivial⟩ hG hJ (pKR cT110 ⟨⟨rfl, rfl, by simp, by simp⟩, ⟨rfl, (i32_rng _).1, (i32_rng _).2⟩, trivial⟩ hG) (fun v1 I1 L1 g1 j1 r1 q1 => ?_)
  obtain ⟨x1, rfl, -, -⟩ := r1
  conv => whnf
  refine ⟨lw_ix hi0 hi hN (by decide) (by decide), ?_⟩
  conv => whnf
  refine use_jp (jKP_of cT170 (by decide) (by decide)) hd ⟨⟨rfl, rfl, by simp, by simp⟩, ⟨rfl, (i32_rng _).1, (i32_rng _).2⟩, trivial⟩ g1 j1 (pKR cT170 ⟨⟨rfl, rfl, by simp, by simp⟩, ⟨rfl, (i32_rng _).1, (i32_rng _).2⟩, trivial⟩ g1) (fun v2 I2 L2 g2 j2 r2 q2 => ?_)
  obtain ⟨x2, rfl, -, -⟩ := r2
  have rr := lR_gR (by decide) (by decide) g1 (lR_gR (by decide) (by decide) hG hR q1) q2
  exact nx _ _ g2 j2 rr
set_option maxHeartbeats 4000000 in
set_option maxRecDepth 20000 in
theorem lwC_29 {d : Nat} (hd : 13 ≤ d) {k : jK} {N : Nat} {xs : Nat → Int32} {i : Int32} {I : jI} {L : jL} (hi0 : 0 ≤ i.toInt) (hi : i.toInt + 6 ≤ (N : Int)) (hN : N ≤ 384) (hG : gG aGI I) (hJ : jJ I) (hR : lR I L) (nx : ∀ I' L', gG aGI I' → jJ I' → lR I' L' → jWB (jWPM d) k (some (N, xs)) jc_law (1423, [some (.inr (901, 0)), some (.inr (0, 0)), some (.inr (31, 0)), some (.inl (.inl i))], [], I', L')) : jWB (jWPM d) k (some (N, xs)) jc_law (1045, [some (.inr (901, 0)), some (.inr (0, 0)), some (.inr (31, 0)), some (.inl (.inl i))], [], I, L) := by
  refine jWB_run [1423] 80 ?_
  conv => whnf
  refine use_jp (jKP_of cT111 (by decide) (by decide)) hd ⟨⟨rfl, rfl, by simp, by simp⟩, trivial⟩ hG hJ (pKR cT111 ⟨⟨rfl, rfl, by simp, by simp⟩, trivial⟩ hG) (fun v1 I1 L1 g1 j1 r1 q1 => ?_)
  obtain ⟨x1, rfl, -, -⟩ := r1
  conv => whnf
  refine use_jp (jKP_of cT171 (by decide) (by decide)) hd ⟨⟨rfl, rfl, by simp, by simp⟩, trivial⟩ g1 j1 (pKR cT171 ⟨⟨rfl, rfl, by simp, by simp⟩, trivial⟩ g1) (fun v2 I2 L2 g2 j2 r2 q2 => ?_)
  obtain ⟨x2, rfl, -, -⟩ := r2
  have rr := lR_gR (by decide) (by decide) g1 (lR_gR (by decide) (by decide) hG hR q1) q2
  exact nx _ _ g2 j2 rr
set_option maxHeartbeats 4000000 in
set_option maxRecDepth 20000 in
theorem lwC_30 {d : Nat} (hd : 13 ≤ d) {k : jK} {N : Nat} {xs : Nat → Int32} {i : Int32} {I : jI} {L : jL} (hi0 : 0 ≤ i.toInt) (hi : i.toInt + 6 ≤ (N : Int)) (hN : N ≤ 384) (hG : gG aGI I) (hJ : jJ I) (hR : lR I L) (nx : ∀ I' L', gG aGI I' → jJ I' → lR I' L' → jWB (jWPM d) k (some (N, xs)) jc_law (1423, [some (.inr (901, 0)), some (.inr (0, 0)), some (.inr (31, 0)), some (.inl (.inl i))], [], I', L')) : jWB (jWPM d) k (some (N, xs)) jc_law (1058, [some (.inr (901, 0)), some (.inr (0, 0)), some (.inr (31, 0)), some (.inl (.inl i))], [], I, L) := by
  refine jWB_run [1423] 80 ?_
  conv => whnf
  refine ⟨lw_ix hi0 hi hN (by decide) (by decide), ?_⟩
  conv => whnf
  refine ⟨lw_ix hi0 hi hN (by decide) (by decide), ?_⟩
  conv => whnf
  refine use_jp (jKP_of cT112 (by decide) (by decide)) hd ⟨⟨rfl, rfl, by simp, by simp⟩, ⟨rfl, (i32_rng _).1, (i32_rng _).2⟩, ⟨rfl, (i32_rng _).1, (i32_rng _).2⟩, trivial⟩ hG hJ (pKR cT112 ⟨⟨rfl, rfl, by simp, by simp⟩, ⟨rfl, (i32_rng _).1, (i32_rng _).2⟩, ⟨rfl, (i32_rng _).1, (i32_rng _).2⟩, trivial⟩ hG) (fun v1 I1 L1 g1 j1 r1 q1 => ?_)
  obtain ⟨x1, rfl, -, -⟩ := r1
  conv => whnf
  refine ⟨lw_ix hi0 hi hN (by decide) (by decide), ?_⟩
  conv => whnf
  refine ⟨lw_ix hi0 hi hN (by decide) (by decide), ?_⟩
  conv => whnf
  refine use_jp (jKP_of cT172 (by decide) (by decide)) hd ⟨⟨rfl, rfl, by simp, by simp⟩, ⟨rfl, (i32_rng _).1, (i32_rng _).2⟩, ⟨rfl, (i32_rng _).1, (i32_rng _).2⟩, trivial⟩ g1 j1 (pKR cT172 ⟨⟨rfl, rfl, by simp, by simp⟩, ⟨rfl, (i32_rng _).1, (i32_rng _).2⟩, ⟨rfl, (i32_rng _).1, (i32_rng _).2⟩, trivial⟩ g1) (fun v2 I2 L2 g2 j2 r2 q2 => ?_)
  obtain ⟨x2, rfl, -, -⟩ := r2
  have rr := lR_gR (by decide) (by decide) g1 (lR_gR (by decide) (by decide) hG hR q1) q2
  exact nx _ _ g2 j2 rr
set_option maxHeartbeats 4000000 in
set_option maxRecDepth 20000 in
theorem lwC_31 {d : Nat} (hd : 13 ≤ d) {k : jK} {N : Nat} {xs : Nat → Int32} {i : Int32} {I : jI} {L : jL} (hi0 : 0 ≤ i.toInt) (hi : i.toInt + 6 ≤ (N : Int)) (hN : N ≤ 384) (hG : gG aGI I) (hJ : jJ I) (hR : lR I L) (nx : ∀ I' L', gG aGI I' → jJ I' → lR I' L' → jWB (jWPM d) k (some (N, xs)) jc_law (1423, [some (.inr (901, 0)), some (.inr (0, 0)), some (.inr (31, 0)), some (.inl (.inl i))], [], I', L')) : jWB (jWPM d) k (some (N, xs)) jc_law (1091, [some (.inr (901, 0)), some (.inr (0, 0)), some (.inr (31, 0)), some (.inl (.inl i))], [], I, L) := by
  refine jWB_run [1423] 80 ?_
  conv => whnf
  refine ⟨lw_ix hi0 hi hN (by decide) (by decide), ?_⟩
  conv => whnf
  refine ⟨lw_ix hi0 hi hN (by decide) (by decide), ?_⟩
  conv => whnf
  refine use_jp (jKP_of cT113 (by decide) (by decide)) hd ⟨⟨rfl, rfl, by simp, by simp⟩, ⟨rfl, (i32_rng _).1, (i32_rng _).2⟩, ⟨rfl, (i32_rng _).1, (i32_rng _).2⟩, trivial⟩ hG hJ (pKR cT113 ⟨⟨rfl, rfl, by simp, by simp⟩, ⟨rfl, (i32_rng _).1, (i32_rng _).2⟩, ⟨rfl, (i32_rng _).1, (i32_rng _).2⟩, trivial⟩ hG) (fun v1 I1 L1 g1 j1 r1 q1 => ?_)
  obtain ⟨x1, rfl, -, -⟩ := r1
  conv => whnf
  refine ⟨lw_ix hi0 hi hN (by decide) (by decide), ?_⟩
  conv => whnf
  refine ⟨lw_ix hi0 hi hN (by decide) (by decide), ?_⟩
  conv => whnf
  refine use_jp (jKP_of cT173 (by decide) (by decide)) hd ⟨⟨rfl, rfl, by simp, by simp⟩, ⟨rfl, (i32_rng _).1, (i32_rng _).2⟩, ⟨rfl, (i32_rng _).1, (i32_rng _).2⟩, trivial⟩ g1 j1 (pKR cT173 ⟨⟨rfl, rfl, by simp, by simp⟩, ⟨rfl, (i32_rng _).1, (i32_rng _).2⟩, ⟨rfl, (i32_rng _).1, (i32_rng _).2⟩, trivial⟩ g1) (fun v2 I2 L2 g2 j2 r2 q2 => ?_)
  obtain ⟨x2, rfl, -, -⟩ := r2
  have rr := lR_gR (by decide) (by decide) g1 (lR_gR (by decide) (by decide) hG hR q1) q2
  exact nx _ _ g2 j2 rr
set_option maxHeartbeats 4000000 in
set_option maxRecDepth 20000 in
theorem lwC_32 {d : Nat} (hd : 13 ≤ d) {k : jK} {N : Nat} {xs : Nat → Int32} {i : Int32} {I : jI} {L : jL} (hi0 : 0 ≤ i.toInt) (hi : i.toInt + 6 ≤ (N : Int)) (hN : N ≤ 384) (hG : gG aGI I) (hJ : jJ I) (hR : lR I L) (nx : ∀ I' L', gG aGI I' → jJ I' → lR I' L' → jWB (jWPM d) k (some (N, xs)) jc_law (1423, [some (.inr (901, 0)), some (.inr (0, 0)), some (.inr (31, 0)), some (.inl (.inl i))], [], I', L')) : jWB (jWPM d) k (some (N, xs)) jc_law (1124, [some (.inr (901, 0)), some (.inr (0, 0)), some (.inr (31, 0)), some (.inl (.inl i))], [], I, L) := by
  refine jWB_run [1423] 80 ?_
  conv => whnf
  refine ⟨lw_ix hi0 hi hN (by decide) (by decide), ?_⟩
  conv => whnf
  refine ⟨lw_ix hi0 hi hN (by decide) (by decide), ?_⟩
  conv => whnf
  refine use_jp (jKP_of cT114 (by decide) (by decide)) hd ⟨⟨rfl, rfl, by simp, by simp⟩, ⟨rfl, (i32_rng _).1, (i32_rng _).2⟩, ⟨rfl, (i32_rng _).1, (i32_rng _).2⟩, trivial⟩ hG hJ (pKR cT114 ⟨⟨rfl, rfl, by simp, by simp⟩, ⟨rfl, (i32_rng _).1, (i32_rng _).2⟩, ⟨rfl, (i32_rng _).1, (i32_rng _).2⟩, trivial⟩ hG) (fun v1 I1 L1 g1 j1 r1 q1 => ?_)
  obtain ⟨x1, rfl, -, -⟩ := r1
  conv => whnf
  refine ⟨lw_ix hi0 hi hN (by decide) (by decide), ?_⟩
  conv => whnf
  refine ⟨lw_ix hi0 hi hN (by decide) (by decide), ?_⟩
  conv => whnf
  refine use_jp (jKP_of cT174 (by decide) (by decide)) hd ⟨⟨rfl, rfl, by simp, by simp⟩, ⟨rfl, (i32_rng _).1, (i32_rng _).2⟩, ⟨rfl, (i32_rng _).1, (i32_rng _).2⟩, trivial⟩ g1 j1 (pKR cT174 ⟨⟨rfl, rfl, by simp, by simp⟩, ⟨rfl, (i32_rng _).1, (i32_rng _).2⟩, ⟨rfl, (i32_rng _).1, (i32_rng _).2⟩, trivial⟩ g1) (fun v2 I2 L2 g2 j2 r2 q2 => ?_)
  obtain ⟨x2, rfl, -, -⟩ := r2
  have rr := lR_gR (by decide) (by decide) g1 (lR_gR (by decide) (by decide) hG hR q1) q2
  exact nx _ _ g2 j2 rr
set_option maxHeartbeats 4000000 in
set_option maxRecDepth 20000 in
theorem lwC_33 {d : Nat} (hd : 13 ≤ d) {k : jK} {N : Nat} {xs : Nat → Int32} {i : Int32} {I : jI} {L : jL} (hi0 : 0 ≤ i.toInt) (hi : i.toInt + 6 ≤ (N : Int)) (hN : N ≤ 384) (hG : gG aGI I) (hJ : jJ I) (hR : lR I L) (nx : ∀ I' L', gG aGI I' → jJ I' → lR I' L' → jWB (jWPM d) k (some (N, xs)) jc_law (1423, [some (.inr (901, 0)), some (.inr (0, 0)), some (.inr (31, 0)), some (.inl (.inl i))], [], I', L')) : jWB (jWPM d) k (some (N, xs)) jc_law (1157, [some (.inr (901, 0)), some (.inr (0, 0)), some (.inr (31, 0)), some (.inl (.inl i))], [], I, L) := by
  refine jWB_run [1423] 80 ?_
  conv => whnf
  refine ⟨lw_ix hi0 hi hN (by decide) (by decide), ?_⟩
  conv => whnf
  refine ⟨lw_ix hi0 hi hN (by decide) (by decide), ?_⟩
  conv => whnf
  refine ⟨lw_ix hi0 hi hN (by decide) (by decide), ?_⟩
  conv => whnf
  refine use_jp (jKP_of cT115 (by decide) (by decide)) hd ⟨⟨rfl, rfl, by simp, by simp⟩, ⟨rfl, (i32_rng _).1, (i32_rng _).2⟩, ⟨rfl, (i32_rng _).1, (i32_rng _).2⟩, ⟨rfl, (i32_rng _).1, (i32_rng _).2⟩, trivial⟩ hG hJ (pKR cT115 ⟨⟨rfl, rfl, by simp, by simp⟩, ⟨rfl, (i32_rng _).1, (i32_rng _).2⟩, ⟨rfl, (i32_rng _).1, (i32_rng _).2⟩, ⟨rfl, (i32_rng _).1, (i32_rng _).2⟩, trivial⟩ hG) (fun v1 I1 L1 g1 j1 r1 q1 => ?_)
  obtain ⟨x1, rfl, -, -⟩ := r1
  conv => whnf
  refine ⟨lw_ix hi0 hi hN (by decide) (by decide), ?_⟩
  conv => whnf
  refine ⟨lw_ix hi0 hi hN (by decide) (by decide), ?_⟩
  conv => whnf
  refine ⟨lw_ix hi0 hi hN (by decide) (by decide), ?_⟩
  conv => whnf
  refine use_jp (jKP_of cT175 (by decide) (by decide)) hd ⟨⟨rfl, rfl, by simp, by simp⟩, ⟨rfl, (i32_rng _).1, (i32_rng _).2⟩, ⟨rfl, (i32_rng _).1, (i32_rng _).2⟩, ⟨rfl, (i32_rng _).1, (i32_rng _).2⟩, trivial⟩ g1 j1 (pKR cT175 ⟨⟨rfl, rfl, by simp, by simp⟩, ⟨rfl, (i32_rng _).1, (i32_rng _).2⟩, ⟨rfl, (i32_rng _).1, (i32_rng _).2⟩, ⟨rfl, (i32_rng _).1, (i32_rng _).2⟩, trivial⟩ g1) (fun v2 I2 L2 g2 j2 r2 q2 => ?_)
  obtain ⟨x2, rfl, -, -⟩ := r2
  have rr := lR_gR (by decide) (by decide) g1 (lR_gR (by decide) (by decide) hG hR q1) q2
  exact nx _ _ g2 j2 rr
set_option maxHeartbeats 4000000 in
set_option maxRecDepth 20000 in
theorem lwC_34 {d : Nat} (hd : 13 ≤ d) {k : jK} {N : Nat} {xs : Nat → Int32} {i : Int32} {I : jI} {L : jL} (hi0 : 0 ≤ i.toInt) (hi : i.toInt + 6 ≤ (N : Int)) (hN : N ≤ 384) (hG : gG aGI I) (hJ : jJ I) (hR : lR I L) (nx : ∀ I' L', gG aGI I' → jJ I' → lR I' L' → jWB (jWPM d) k (some (N, xs)) jc_law (1423, [some (.inr (901, 0)), some (.inr (0, 0)), some (.inr (31, 0)), some (.inl (.inl i))], [], I', L')) : jWB (jWPM d) k (some (N, xs)) jc_law (1200, [some (.inr (901, 0)), some (.inr (0, 0)), some (.inr (31, 0)), some (.inl (.inl i))], [], I, L) := by
  refine jWB_run [1423] 80 ?_
  conv => whnf
  refine ⟨lw_ix hi0 hi hN (by decide) (by decide), ?_⟩
  conv => whnf
  refine use_jp (jKP_of cT116 (by decide) (by decide)) hd ⟨⟨rfl, rfl, by simp, by simp⟩, ⟨rfl, (i32_rng _).1, (i32_rng _).2⟩, trivial⟩ hG hJ (pKR cT116 ⟨⟨rfl, rfl, by simp, by simp⟩, ⟨rfl, (i32_rng _).1, (i32_rng _).2⟩, trivial⟩ hG) (fun v1 I1 L1 g1 j1 r1 q1 => ?_)
  obtain ⟨x1, rfl, -, -⟩ := r1
  conv => whnf
  refine ⟨lw_ix hi0 hi hN (by decide) (by decide), ?_⟩
  conv => whnf
  refine use_jp (jKP_of cT181 (by decide) (by decide)) hd ⟨⟨rfl, rfl, by simp, by simp⟩, ⟨rfl, (i32_rng _).1, (i32_rng _).2⟩, trivial⟩ g1 j1 (pKR cT181 ⟨⟨rfl, rfl, by simp, by simp⟩, ⟨rfl, (i32_rng _).1, (i32_rng _).2⟩, trivial⟩ g1) (fun v2 I2 L2 g2 j2 r2 q2 => ?_)
  obtain ⟨x2, rfl, -, -⟩ := r2
  have rr := lR_gR (by decide) (by decide) g1 (lR_gR (by decide) (by decide) hG hR q1) q2
  exact nx _ _ g2 j2 rr
set_option maxHeartbeats 4000000 in
set_option maxRecDepth 20000 in
theorem lwC_35 {d : Nat} (hd : 13 ≤ d) {k : jK} {N : Nat} {xs : Nat → Int32} {i : Int32} {I : jI} {L : jL} (hi0 : 0 ≤ i.toInt) (hi : i.toInt + 6 ≤ (N : Int)) (hN : N ≤ 384) (hG : gG aGI I) (hJ : jJ I) (hR : lR I L) (nx : ∀ I' L', gG aGI I' → jJ I' → lR I' L' → jWB (jWPM d) k (some (N, xs)) jc_law (1423, [some (.inr (901, 0)), some (.inr (0, 0)), some (.inr (31, 0)), some (.inl (.inl i))], [], I', L')) : jWB (jWPM d) k (some (N, xs)) jc_law (1223, [some (.inr (901, 0)), some (.inr (0, 0)), some (.inr (31, 0)), some (.inl (.inl i))], [], I, L) := by
  refine jWB_run [1423] 80 ?_
  conv => whnf
  refine ⟨lw_ix hi0 hi hN (by decide) (by decide), ?_⟩
  conv => whnf
  refine ⟨lw_ix hi0 hi hN (by decide) (by decide), ?_⟩
  conv => whnf
  refine use_jp (jKP_of cT194 (by decide) (by decide)) hd ⟨⟨rfl, rfl, by simp, by simp⟩, ⟨rfl, (i32_rng _).1, (i32_rng _).2⟩, ⟨rfl, (i32_rng _).1, (i32_rng _).2⟩, trivial⟩ hG hJ (pKR cT194 ⟨⟨rfl, rfl, by simp, by simp⟩, ⟨rfl, (i32_rng _).1, (i32_rng _).2⟩, ⟨rfl, (i32_rng _).1, (i32_rng _).2⟩, trivial⟩ hG) (fun v1 I1 L1 g1 j1 r1 q1 => ?_)
  obtain ⟨x1, rfl, -, -⟩ := r1
  conv => whnf
  refine ⟨lw_ix hi0 hi hN (by decide) (by decide), ?_⟩
  conv => whnf
  refine ⟨lw_ix hi0 hi hN (by decide) (by decide), ?_⟩
  conv => whnf
  refine use_jp (jKP_of hK_modds (by decide) (by decide)) hd ⟨⟨rfl, rfl, by simp, by simp⟩, ⟨rfl, (i32_rng _).1, (i32_rng _).2⟩, ⟨rfl, (i32_rng _).1, (i32_rng _).2⟩, trivial⟩ g1 j1 (pKR hK_modds ⟨⟨rfl, rfl, by simp, by simp⟩, ⟨rfl, (i32_rng _).1, (i32_rng _).2⟩, ⟨rfl, (i32_rng _).1, (i32_rng _).2⟩, trivial⟩ g1) (fun v2 I2 L2 g2 j2 r2 q2 => ?_)
  obtain ⟨x2, rfl, -, -⟩ := r2
  have rr := lR_gR (by decide) (by decide) g1 (lR_gR (by decide) (by decide) hG hR q1) q2
  exact nx _ _ g2 j2 rr
