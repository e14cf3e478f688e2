set_option maxHeartbeats 4000000 in
set_option maxRecDepth 20000 in
theorem lwC_0 {d : Nat} (hd : 13 ≤ d) {k : jK} {N : Nat} {xs : Nat → Int32} {i : Int32} {I : jI} {L : jL} (hi0 : 0 ≤ i.toInt) (hi : i.toInt + 6 ≤ (N : Int)) (hN : N ≤ 384) (hG : gG aGI I) (hJ : jJ I) (hR : lR I L) (nx : ∀ I' L', gG aGI I' → jJ I' → lR I' L' → jWB (jWPM d) k (some (N, xs)) jc_law (1423, [some (.inr (901, 0)), some (.inr (0, 0)), some (.inr (31, 0)), some (.inl (.inl i))], [], I', L')) : jWB (jWPM d) k (some (N, xs)) jc_law (228, [some (.inr (901, 0)), some (.inr (0, 0)), some (.inr (31, 0)), some (.inl (.inl i))], [], I, L) := by
  refine jWB_run [1423] 80 ?_
  conv => whnf
  refine ⟨lw_ix hi0 hi hN (by decide) (by decide), ?_⟩
  conv => whnf
  refine ⟨lw_ix hi0 hi hN (by decide) (by decide), ?_⟩
  conv => whnf
  refine use_jp (jKP_of cT86 (by decide) (by decide)) hd ⟨⟨rfl, rfl, by simp, by simp⟩, ⟨rfl, (i32_rng _).1, (i32_rng _).2⟩, ⟨rfl, (i32_rng _).1, (i32_rng _).2⟩, trivial⟩ hG hJ (kp := fun _ σ => fr [12, 14, 29, 1013] I σ.1) (Fx68 (fun _ I' L' f => f)) (fun v1 I1 L1 g1 j1 r1 q1 => ?_)
  obtain ⟨x1, rfl, -, -⟩ := r1
  conv => whnf
  refine ⟨lw_ix hi0 hi hN (by decide) (by decide), ?_⟩
  conv => whnf
  refine ⟨lw_ix hi0 hi hN (by decide) (by decide), ?_⟩
  conv => whnf
  refine use_jp (jKP_of cT126 (by decide) (by decide)) hd ⟨⟨rfl, rfl, by simp, by simp⟩, ⟨rfl, (i32_rng _).1, (i32_rng _).2⟩, ⟨rfl, (i32_rng _).1, (i32_rng _).2⟩, trivial⟩ g1 j1 (kp := fun _ σ => fr [35, 36, 39, 32013] I1 σ.1) (Fx130 (fun _ I' L' f => f)) (fun v2 I2 L2 g2 j2 r2 q2 => ?_)
  obtain ⟨x2, rfl, -, -⟩ := r2
  have rr := RT_fr (RT_fr hR q1 rfl) q2 rfl
  exact nx _ _ g2 j2 rr
set_option maxHeartbeats 4000000 in
set_option maxRecDepth 20000 in
theorem lwC_1 {d : Nat} (hd : 13 ≤ d) {k : jK} {N : Nat} {xs : Nat → Int32} {i : Int32} {I : jI} {L : jL} (hi0 : 0 ≤ i.toInt) (hi : i.toInt + 6 ≤ (N : Int)) (hN : N ≤ 384) (hG : gG aGI I) (hJ : jJ I) (hR : lR I L) (nx : ∀ I' L', gG aGI I' → jJ I' → lR I' L' → jWB (jWPM d) k (some (N, xs)) jc_law (1423, [some (.inr (901, 0)), some (.inr (0, 0)), some (.inr (31, 0)), some (.inl (.inl i))], [], I', L')) : jWB (jWPM d) k (some (N, xs)) jc_law (261, [some (.inr (901, 0)), some (.inr (0, 0)), some (.inr (31, 0)), some (.inl (.inl i))], [], I, L) := by
  refine jWB_run [1423] 80 ?_
  conv => whnf
  refine ⟨lw_ix hi0 hi hN (by decide) (by decide), ?_⟩
  conv => whnf
  refine ⟨lw_ix hi0 hi hN (by decide) (by decide), ?_⟩
  conv => whnf
  refine ⟨lw_ix hi0 hi hN (by decide) (by decide), ?_⟩
  conv => whnf
  refine use_jp (jKP_of cT87 (by decide) (by decide)) hd ⟨⟨rfl, rfl, by simp, by simp⟩, ⟨rfl, (i32_rng _).1, (i32_rng _).2⟩, ⟨rfl, (i32_rng _).1, (i32_rng _).2⟩, ⟨rfl, (i32_rng _).1, (i32_rng _).2⟩, trivial⟩ hG hJ (kp := fun _ σ => fr [12, 29, 1013, 1014] I σ.1) (Fx69 (fun _ I' L' f => f)) (fun v1 I1 L1 g1 j1 r1 q1 => ?_)
  obtain ⟨x1, rfl, -, -⟩ := r1
  conv => whnf
  refine ⟨lw_ix hi0 hi hN (by decide) (by decide), ?_⟩
  conv => whnf
  refine ⟨lw_ix hi0 hi hN (by decide) (by decide), ?_⟩
  conv => whnf
  refine ⟨lw_ix hi0 hi hN (by decide) (by decide), ?_⟩
  conv => whnf
  refine use_jp (jKP_of cT127 (by decide) (by decide)) hd ⟨⟨rfl, rfl, by simp, by simp⟩, ⟨rfl, (i32_rng _).1, (i32_rng _).2⟩, ⟨rfl, (i32_rng _).1, (i32_rng _).2⟩, ⟨rfl, (i32_rng _).1, (i32_rng _).2⟩, trivial⟩ g1 j1 (kp := fun _ σ => fr [36, 39, 32010, 32013] I1 σ.1) (Fx133 (fun _ I' L' f => f)) (fun v2 I2 L2 g2 j2 r2 q2 => ?_)
  obtain ⟨x2, rfl, -, -⟩ := r2
  have rr := RT_fr (RT_fr hR q1 rfl) q2 rfl
  exact nx _ _ g2 j2 rr
set_option maxHeartbeats 4000000 in
set_option maxRecDepth 20000 in
theorem lwC_2 {d : Nat} (hd : 13 ≤ d) {k : jK} {N : Nat} {xs : Nat → Int32} {i : Int32} {I : jI} {L : jL} (hi0 : 0 ≤ i.toInt) (hi : i.toInt + 6 ≤ (N : Int)) (hN : N ≤ 384) (hG : gG aGI I) (hJ : jJ I) (hR : lR I L) (nx : ∀ I' L', gG aGI I' → jJ I' → lR I' L' → jWB (jWPM d) k (some (N, xs)) jc_law (1423, [some (.inr (901, 0)), some (.inr (0, 0)), some (.inr (31, 0)), some (.inl (.inl i))], [], I', L')) : jWB (jWPM d) k (some (N, xs)) jc_law (304, [some (.inr (901, 0)), some (.inr (0, 0)), some (.inr (31, 0)), some (.inl (.inl i))], [], I, L) := by
  refine jWB_run [1423] 80 ?_
  conv => whnf
  refine ⟨lw_ix hi0 hi hN (by decide) (by decide), ?_⟩
  conv => whnf
  refine ⟨lw_ix hi0 hi hN (by decide) (by decide), ?_⟩
  conv => whnf
  refine use_jp (jKP_of cT88 (by decide) (by decide)) hd ⟨⟨rfl, rfl, by simp, by simp⟩, ⟨rfl, (i32_rng _).1, (i32_rng _).2⟩, ⟨rfl, (i32_rng _).1, (i32_rng _).2⟩, trivial⟩ hG hJ (kp := fun _ σ => fr [12, 1013, 1014] I σ.1) (Fx70 (fun _ I' L' f => f)) (fun v1 I1 L1 g1 j1 r1 q1 => ?_)
  obtain ⟨x1, rfl, -, -⟩ := r1
  conv => whnf
  refine ⟨lw_ix hi0 hi hN (by decide) (by decide), ?_⟩
  conv => whnf
  refine ⟨lw_ix hi0 hi hN (by decide) (by decide), ?_⟩
  conv => whnf
  refine use_jp (jKP_of cT128 (by decide) (by decide)) hd ⟨⟨rfl, rfl, by simp, by simp⟩, ⟨rfl, (i32_rng _).1, (i32_rng _).2⟩, ⟨rfl, (i32_rng _).1, (i32_rng _).2⟩, trivial⟩ g1 j1 (kp := fun _ σ => fr [39, 32010, 32013] I1 σ.1) (Fx134 (fun _ I' L' f => f)) (fun v2 I2 L2 g2 j2 r2 q2 => ?_)
  obtain ⟨x2, rfl, -, -⟩ := r2
  have rr := RT_fr (RT_fr hR q1 rfl) q2 rfl
  exact nx _ _ g2 j2 rr
set_option maxHeartbeats 4000000 in
set_option maxRecDepth 20000 in
theorem lwC_3 {d : Nat} (hd : 13 ≤ d) {k : jK} {N : Nat} {xs : Nat → Int32} {i : Int32} {I : jI} {L : jL} (hi0 : 0 ≤ i.toInt) (hi : i.toInt + 6 ≤ (N : Int)) (hN : N ≤ 384) (hG : gG aGI I) (hJ : jJ I) (hR : lR I L) (nx : ∀ I' L', gG aGI I' → jJ I' → lR I' L' → jWB (jWPM d) k (some (N, xs)) jc_law (1423, [some (.inr (901, 0)), some (.inr (0, 0)), some (.inr (31, 0)), some (.inl (.inl i))], [], I', L')) : jWB (jWPM d) k (some (N, xs)) jc_law (337, [some (.inr (901, 0)), some (.inr (0, 0)), some (.inr (31, 0)), some (.inl (.inl i))], [], I, L) := by
  refine jWB_run [1423] 80 ?_
  conv => whnf
  refine ⟨lw_ix hi0 hi hN (by decide) (by decide), ?_⟩
  conv => whnf
  refine use_jp (jKP_of cT89 (by decide) (by decide)) hd ⟨⟨rfl, rfl, by simp, by simp⟩, ⟨rfl, (i32_rng _).1, (i32_rng _).2⟩, trivial⟩ hG hJ (kp := fun _ σ => fr [12, 14, 1013] I σ.1) (Fx71 (fun _ I' L' f => f)) (fun v1 I1 L1 g1 j1 r1 q1 => ?_)
  obtain ⟨x1, rfl, -, -⟩ := r1
  conv => whnf
  refine ⟨lw_ix hi0 hi hN (by decide) (by decide), ?_⟩
  conv => whnf
  refine use_jp (jKP_of cT129 (by decide) (by decide)) hd ⟨⟨rfl, rfl, by simp, by simp⟩, ⟨rfl, (i32_rng _).1, (i32_rng _).2⟩, trivial⟩ g1 j1 (kp := fun _ σ => fr [35, 39, 32013] I1 σ.1) (Fx135 (fun _ I' L' f => f)) (fun v2 I2 L2 g2 j2 r2 q2 => ?_)
  obtain ⟨x2, rfl, -, -⟩ := r2
  have rr := RT_fr (RT_fr hR q1 rfl) q2 rfl
  exact nx _ _ g2 j2 rr
set_option maxHeartbeats 4000000 in
set_option maxRecDepth 20000 in
theorem lwC_4 {d : Nat} (hd : 13 ≤ d) {k : jK} {N : Nat} {xs : Nat → Int32} {i : Int32} {I : jI} {L : jL} (hi0 : 0 ≤ i.toInt) (hi : i.toInt + 6 ≤ (N : Int)) (hN : N ≤ 384) (hG : gG aGI I) (hJ : jJ I) (hR : lR I L) (nx : ∀ I' L', gG aGI I' → jJ I' → lR I' L' → jWB (jWPM d) k (some (N, xs)) jc_law (1423, [some (.inr (901, 0)), some (.inr (0, 0)), some (.inr (31, 0)), some (.inl (.inl i))], [], I', L')) : jWB (jWPM d) k (some (N, xs)) jc_law (360, [some (.inr (901, 0)), some (.inr (0, 0)), some (.inr (31, 0)), some (.inl (.inl i))], [], I, L) := by
  refine jWB_run [1423] 80 ?_
  conv => whnf
  refine ⟨lw_ix hi0 hi hN (by decide) (by decide), ?_⟩
  conv => whnf
  refine ⟨lw_ix hi0 hi hN (by decide) (by decide), ?_⟩
  conv => whnf
  refine ⟨lw_ix hi0 hi hN (by decide) (by decide), ?_⟩
  conv => whnf
  refine ⟨lw_ix hi0 hi hN (by decide) (by decide), ?_⟩
  conv => whnf
  refine ⟨lw_ix hi0 hi hN (by decide) (by decide), ?_⟩
  conv => whnf
  refine use_jp (jKP_of hK_copy (by decide) (by decide)) hd ⟨⟨rfl, rfl, by simp, by simp⟩, ⟨rfl, (i32_rng _).1, (i32_rng _).2⟩, ⟨rfl, (i32_rng _).1, (i32_rng _).2⟩, ⟨rfl, (i32_rng _).1, (i32_rng _).2⟩, ⟨rfl, (i32_rng _).1, (i32_rng _).2⟩, ⟨rfl, (i32_rng _).1, (i32_rng _).2⟩, trivial⟩ hG hJ (kp := fun _ σ => fr [12, 29, 1013] I σ.1) (Fx72 (fun _ I' L' f => f)) (fun v1 I1 L1 g1 j1 r1 q1 => ?_)
  obtain ⟨x1, rfl, -, -⟩ := r1
  conv => whnf
  refine ⟨lw_ix hi0 hi hN (by decide) (by decide), ?_⟩
  conv => whnf
  refine ⟨lw_ix hi0 hi hN (by decide) (by decide), ?_⟩
  conv => whnf
  refine ⟨lw_ix hi0 hi hN (by decide) (by decide), ?_⟩
  conv => whnf
  refine ⟨lw_ix hi0 hi hN (by decide) (by decide), ?_⟩
  conv => whnf
  refine ⟨lw_ix hi0 hi hN (by decide) (by decide), ?_⟩
  conv => whnf
  refine use_jp (jKP_of hK_mcopy (by decide) (by decide)) hd ⟨⟨rfl, rfl, by simp, by simp⟩, ⟨rfl, (i32_rng _).1, (i32_rng _).2⟩, ⟨rfl, (i32_rng _).1, (i32_rng _).2⟩, ⟨rfl, (i32_rng _).1, (i32_rng _).2⟩, ⟨rfl, (i32_rng _).1, (i32_rng _).2⟩, ⟨rfl, (i32_rng _).1, (i32_rng _).2⟩, trivial⟩ g1 j1 (kp := fun _ σ => fr [36, 39, 32013] I1 σ.1) (Fx137 (fun _ I' L' f => f)) (fun v2 I2 L2 g2 j2 r2 q2 => ?_)
  obtain ⟨x2, rfl, -, -⟩ := r2
  have rr := RT_fr (RT_fr hR q1 rfl) q2 rfl
  exact nx _ _ g2 j2 rr
set_option maxHeartbeats 4000000 in
set_option maxRecDepth 20000 in
theorem lwC_5 {d : Nat} (hd : 13 ≤ d) {k : jK} {N : Nat} {xs : Nat → Int32} {i : Int32} {I : jI} {L : jL} (hi0 : 0 ≤ i.toInt) (hi : i.toInt + 6 ≤ (N : Int)) (hN : N ≤ 384) (hG : gG aGI I) (hJ : jJ I) (hR : lR I L) (nx : ∀ I' L', gG aGI I' → jJ I' → lR I' L' → jWB (jWPM d) k (some (N, xs)) jc_law (1423, [some (.inr (901, 0)), some (.inr (0, 0)), some (.inr (31, 0)), some (.inl (.inl i))], [], I', L')) : jWB (jWPM d) k (some (N, xs)) jc_law (423, [some (.inr (901, 0)), some (.inr (0, 0)), some (.inr (31, 0)), some (.inl (.inl i))], [], I, L) := by
  refine jWB_run [1423] 80 ?_
  conv => whnf
  refine ⟨lw_ix hi0 hi hN (by decide) (by decide), ?_⟩
  conv => whnf
  refine use_jp (jKP_of cT90 (by decide) (by decide)) hd ⟨⟨rfl, rfl, by simp, by simp⟩, ⟨rfl, (i32_rng _).1, (i32_rng _).2⟩, trivial⟩ hG hJ (kp := fun _ σ => fr [12, 1013, 1014] I σ.1) (Fx73 (fun _ I' L' f => f)) (fun v1 I1 L1 g1 j1 r1 q1 => ?_)
  obtain ⟨x1, rfl, -, -⟩ := r1
  conv => whnf
  refine ⟨lw_ix hi0 hi hN (by decide) (by decide), ?_⟩
  conv => whnf
  refine use_jp (jKP_of cT130 (by decide) (by decide)) hd ⟨⟨rfl, rfl, by simp, by simp⟩, ⟨rfl, (i32_rng _).1, (i32_rng _).2⟩, trivial⟩ g1 j1 (kp := fun _ σ => fr [39, 32010, 32013] I1 σ.1) (Fx138 (fun _ I' L' f => f)) (fun v2 I2 L2 g2 j2 r2 q2 => ?_)
  obtain ⟨x2, rfl, -, -⟩ := r2
  have rr := RT_fr (RT_fr hR q1 rfl) q2 rfl
  exact nx _ _ g2 j2 rr
set_option maxHeartbeats 4000000 in
set_option maxRecDepth 20000 in
theorem lwC_6 {d : Nat} (hd : 13 ≤ d) {k : jK} {N : Nat} {xs : Nat → Int32} {i : Int32} {I : jI} {L : jL} (hi0 : 0 ≤ i.toInt) (hi : i.toInt + 6 ≤ (N : Int)) (hN : N ≤ 384) (hG : gG aGI I) (hJ : jJ I) (hR : lR I L) (nx : ∀ I' L', gG aGI I' → jJ I' → lR I' L' → jWB (jWPM d) k (some (N, xs)) jc_law (1423, [some (.inr (901, 0)), some (.inr (0, 0)), some (.inr (31, 0)), some (.inl (.inl i))], [], I', L')) : jWB (jWPM d) k (some (N, xs)) jc_law (446, [some (.inr (901, 0)), some (.inr (0, 0)), some (.inr (31, 0)), some (.inl (.inl i))], [], I, L) := by
  refine jWB_run [1423] 80 ?_
  conv => whnf
  refine ⟨lw_ix hi0 hi hN (by decide) (by decide), ?_⟩
  conv => whnf
  refine ⟨lw_ix hi0 hi hN (by decide) (by decide), ?_⟩
  conv => whnf
  refine use_jp (jKP_of cT91 (by decide) (by decide)) hd ⟨⟨rfl, rfl, by simp, by simp⟩, ⟨rfl, (i32_rng _).1, (i32_rng _).2⟩, ⟨rfl, (i32_rng _).1, (i32_rng _).2⟩, trivial⟩ hG hJ P74 (fun v1 I1 L1 g1 j1 r1 q1 => ?_)
  obtain ⟨x1, rfl, -, -⟩ := r1
  conv => whnf
  refine ⟨lw_ix hi0 hi hN (by decide) (by decide), ?_⟩
  conv => whnf
  refine ⟨lw_ix hi0 hi hN (by decide) (by decide), ?_⟩
  conv => whnf
  refine use_jp (jKP_of cT131 (by decide) (by decide)) hd ⟨⟨rfl, rfl, by simp, by simp⟩, ⟨rfl, (i32_rng _).1, (i32_rng _).2⟩, ⟨rfl, (i32_rng _).1, (i32_rng _).2⟩, trivial⟩ g1 j1 P139 (fun v2 I2 L2 g2 j2 r2 q2 => ?_)
  obtain ⟨x2, rfl, -, -⟩ := r2
  have rr := RT_text hR q1.2 q2.2 q1.1.2 q2.1.2
  exact nx _ _ g2 j2 rr
set_option maxHeartbeats 4000000 in
set_option maxRecDepth 20000 in
theorem lwC_7 {d : Nat} (hd : 13 ≤ d) {k : jK} {N : Nat} {xs : Nat → Int32} {i : Int32} {I : jI} {L : jL} (hi0 : 0 ≤ i.toInt) (hi : i.toInt + 6 ≤ (N : Int)) (hN : N ≤ 384) (hG : gG aGI I) (hJ : jJ I) (hR : lR I L) (nx : ∀ I' L', gG aGI I' → jJ I' → lR I' L' → jWB (jWPM d) k (some (N, xs)) jc_law (1423, [some (.inr (901, 0)), some (.inr (0, 0)), some (.inr (31, 0)), some (.inl (.inl i))], [], I', L')) : jWB (jWPM d) k (some (N, xs)) jc_law (479, [some (.inr (901, 0)), some (.inr (0, 0)), some (.inr (31, 0)), some (.inl (.inl i))], [], I, L) := by
  refine jWB_run [1423] 80 ?_
  conv => whnf
  refine ⟨lw_ix hi0 hi hN (by decide) (by decide), ?_⟩
  conv => whnf
  refine ⟨lw_ix hi0 hi hN (by decide) (by decide), ?_⟩
  conv => whnf
  refine ⟨lw_ix hi0 hi hN (by decide) (by decide), ?_⟩
  conv => whnf
  refine use_jp (jKP_of cT92 (by decide) (by decide)) hd ⟨⟨rfl, rfl, by simp, by simp⟩, ⟨rfl, (i32_rng _).1, (i32_rng _).2⟩, ⟨rfl, (i32_rng _).1, (i32_rng _).2⟩, ⟨rfl, (i32_rng _).1, (i32_rng _).2⟩, trivial⟩ hG hJ P75 (fun v1 I1 L1 g1 j1 r1 q1 => ?_)
  obtain ⟨x1, rfl, -, -⟩ := r1
  conv => whnf
  refine ⟨lw_ix hi0 hi hN (by decide) (by decide), ?_⟩
  conv => whnf
  refine ⟨lw_ix hi0 hi hN (by decide) (by decide), ?_⟩
  conv => whnf
  refine ⟨lw_ix hi0 hi hN (by decide) (by decide), ?_⟩
  conv => whnf
  refine use_jp (jKP_of cT132 (by decide) (by decide)) hd ⟨⟨rfl, rfl, by simp, by simp⟩, ⟨rfl, (i32_rng _).1, (i32_rng _).2⟩, ⟨rfl, (i32_rng _).1, (i32_rng _).2⟩, ⟨rfl, (i32_rng _).1, (i32_rng _).2⟩, trivial⟩ g1 j1 (P140 g1) (fun v2 I2 L2 g2 j2 r2 q2 => ?_)
  obtain ⟨x2, rfl, -, -⟩ := r2
  obtain ⟨⟨y1, e1, s1⟩, f1⟩ := q1
  obtain ⟨⟨y2, e2, s2⟩, f2⟩ := q2
  cases e1
  cases e2
  obtain ⟨rr, ee⟩ := RT_put hG hR f1 f2 s1 s2
  exact nx _ _ g2 j2 rr
set_option maxHeartbeats 4000000 in
set_option maxRecDepth 20000 in
theorem lwC_8 {d : Nat} (hd : 13 ≤ d) {k : jK} {N : Nat} {xs : Nat → Int32} {i : Int32} {I : jI} {L : jL} (hi0 : 0 ≤ i.toInt) (hi : i.toInt + 6 ≤ (N : Int)) (hN : N ≤ 384) (hG : gG aGI I) (hJ : jJ I) (hR : lR I L) (nx : ∀ I' L', gG aGI I' → jJ I' → lR I' L' → jWB (jWPM d) k (some (N, xs)) jc_law (1423, [some (.inr (901, 0)), some (.inr (0, 0)), some (.inr (31, 0)), some (.inl (.inl i))], [], I', L')) : jWB (jWPM d) k (some (N, xs)) jc_law (522, [some (.inr (901, 0)), some (.inr (0, 0)), some (.inr (31, 0)), some (.inl (.inl i))], [], I, L) := by
  refine jWB_run [1423] 80 ?_
  conv => whnf
  refine ⟨lw_ix hi0 hi hN (by decide) (by decide), ?_⟩
  conv => whnf
  refine use_jp (jKP_of cT93 (by decide) (by decide)) hd ⟨⟨rfl, rfl, by simp, by simp⟩, ⟨rfl, (i32_rng _).1, (i32_rng _).2⟩, trivial⟩ hG hJ (kp := fun _ σ => fr [12, 17, 18, 19, 20, 21, 1013, 4002, 4003, 4004, 5006, 5007, 5008] I σ.1) (Fx76 (fun _ I' L' f => f)) (fun v1 I1 L1 g1 j1 r1 q1 => ?_)
  obtain ⟨x1, rfl, -, -⟩ := r1
  conv => whnf
  refine ⟨lw_ix hi0 hi hN (by decide) (by decide), ?_⟩
  conv => whnf
  refine use_jp (jKP_of hK_mfault (by decide) (by decide)) hd ⟨⟨rfl, rfl, by simp, by simp⟩, ⟨rfl, (i32_rng _).1, (i32_rng _).2⟩, trivial⟩ g1 j1 (kp := fun _ σ => fr [39, 40, 32013, 32015, 32016, 32017, 32018, 32019, 32021] I1 σ.1) (Fx149 (fun _ I' L' f => f)) (fun v2 I2 L2 g2 j2 r2 q2 => ?_)
  obtain ⟨x2, rfl, -, -⟩ := r2
  have rr := RT_fr (RT_fr hR q1 rfl) q2 rfl
  exact nx _ _ g2 j2 rr
set_option maxHeartbeats 4000000 in
set_option maxRecDepth 20000 in
theorem lwC_9 {d : Nat} (hd : 13 ≤ d) {k : jK} {N : Nat} {xs : Nat → Int32} {i : Int32} {I : jI} {L : jL} (hi0 : 0 ≤ i.toInt) (hi : i.toInt + 6 ≤ (N : Int)) (hN : N ≤ 384) (hG : gG aGI I) (hJ : jJ I) (hR : lR I L) (nx : ∀ I' L', gG aGI I' → jJ I' → lR I' L' → jWB (jWPM d) k (some (N, xs)) jc_law (1423, [some (.inr (901, 0)), some (.inr (0, 0)), some (.inr (31, 0)), some (.inl (.inl i))], [], I', L')) : jWB (jWPM d) k (some (N, xs)) jc_law (545, [some (.inr (901, 0)), some (.inr (0, 0)), some (.inr (31, 0)), some (.inl (.inl i))], [], I, L) := by
  refine jWB_run [1423] 80 ?_
  conv => whnf
  refine ⟨lw_ix hi0 hi hN (by decide) (by decide), ?_⟩
  conv => whnf
  refine use_jp jK_house hd ⟨⟨rfl, rfl, by simp, by simp⟩, ⟨rfl, (i32_rng _).1, (i32_rng _).2⟩, trivial⟩ hG hJ (P77 hG hR) (fun v1 I1 L1 g1 j1 r1 q1 => ?_)
  obtain ⟨x1, rfl, -, -⟩ := r1
  conv => whnf
  refine ⟨lw_ix hi0 hi hN (by decide) (by decide), ?_⟩
  conv => whnf
  refine use_jp (jKP_of hK_mhouse (by decide) (by decide)) hd ⟨⟨rfl, rfl, by simp, by simp⟩, ⟨rfl, (i32_rng _).1, (i32_rng _).2⟩, trivial⟩ g1 j1 (P150 hG hR q1.2) (fun v2 I2 L2 g2 j2 r2 q2 => ?_)
  obtain ⟨x2, rfl, -, -⟩ := r2
  have rr := RT_fr (RT_fr hR q1.2 rfl) q2.2 rfl
  have ee := ee_house hG hR q1.2 q1.1 q2.1
  conv => whnf
  exact ⟨fun _ => nx _ _ g2 j2 rr, fun h => absurd ee h⟩
set_option maxHeartbeats 4000000 in
set_option maxRecDepth 20000 in
theorem lwC_10 {d : Nat} (hd : 13 ≤ d) {k : jK} {N : Nat} {xs : Nat → Int32} {i : Int32} {I : jI} {L : jL} (hi0 : 0 ≤ i.toInt) (hi : i.toInt + 6 ≤ (N : Int)) (hN : N ≤ 384) (hG : gG aGI I) (hJ : jJ I) (hR : lR I L) (nx : ∀ I' L', gG aGI I' → jJ I' → lR I' L' → jWB (jWPM d) k (some (N, xs)) jc_law (1423, [some (.inr (901, 0)), some (.inr (0, 0)), some (.inr (31, 0)), some (.inl (.inl i))], [], I', L')) : jWB (jWPM d) k (some (N, xs)) jc_law (568, [some (.inr (901, 0)), some (.inr (0, 0)), some (.inr (31, 0)), some (.inl (.inl i))], [], I, L) := by
  refine jWB_run [1423] 80 ?_
  conv => whnf
  refine ⟨lw_ix hi0 hi hN (by decide) (by decide), ?_⟩
  conv => whnf
  refine ⟨lw_ix hi0 hi hN (by decide) (by decide), ?_⟩
  conv => whnf
  refine use_jp (jKP_of cT95 (by decide) (by decide)) hd ⟨⟨rfl, rfl, by simp, by simp⟩, ⟨rfl, (i32_rng _).1, (i32_rng _).2⟩, ⟨rfl, (i32_rng _).1, (i32_rng _).2⟩, trivial⟩ hG hJ (kp := fun _ σ => fr [1014] I σ.1) (Fx78 (fun _ I' L' f => f)) (fun v1 I1 L1 g1 j1 r1 q1 => ?_)
  obtain ⟨x1, rfl, -, -⟩ := r1
  conv => whnf
  refine ⟨lw_ix hi0 hi hN (by decide) (by decide), ?_⟩
  conv => whnf
  refine ⟨lw_ix hi0 hi hN (by decide) (by decide), ?_⟩
  conv => whnf
  refine use_jp (jKP_of cT142 (by decide) (by decide)) hd ⟨⟨rfl, rfl, by simp, by simp⟩, ⟨rfl, (i32_rng _).1, (i32_rng _).2⟩, ⟨rfl, (i32_rng _).1, (i32_rng _).2⟩, trivial⟩ g1 j1 (kp := fun _ σ => fr [32010] I1 σ.1) (Fx158 (fun _ I' L' f => f)) (fun v2 I2 L2 g2 j2 r2 q2 => ?_)
  obtain ⟨x2, rfl, -, -⟩ := r2
  have rr := RT_fr (RT_fr hR q1 rfl) q2 rfl
  exact nx _ _ g2 j2 rr
set_option maxHeartbeats 4000000 in
set_option maxRecDepth 20000 in
theorem lwC_11 {d : Nat} (hd : 13 ≤ d) {k : jK} {N : Nat} {xs : Nat → Int32} {i : Int32} {I : jI} {L : jL} (hi0 : 0 ≤ i.toInt) (hi : i.toInt + 6 ≤ (N : Int)) (hN : N ≤ 384) (hG : gG aGI I) (hJ : jJ I) (hR : lR I L) (nx : ∀ I' L', gG aGI I' → jJ I' → lR I' L' → jWB (jWPM d) k (some (N, xs)) jc_law (1423, [some (.inr (901, 0)), some (.inr (0, 0)), some (.inr (31, 0)), some (.inl (.inl i))], [], I', L')) : jWB (jWPM d) k (some (N, xs)) jc_law (601, [some (.inr (901, 0)), some (.inr (0, 0)), some (.inr (31, 0)), some (.inl (.inl i))], [], I, L) := by
  refine jWB_run [1423] 80 ?_
  conv => whnf
  refine ⟨lw_ix hi0 hi hN (by decide) (by decide), ?_⟩
  conv => whnf
  refine ⟨lw_ix hi0 hi hN (by decide) (by decide), ?_⟩
  conv => whnf
  refine use_jp (jKP_of cT96 (by decide) (by decide)) hd ⟨⟨rfl, rfl, by simp, by simp⟩, ⟨rfl, (i32_rng _).1, (i32_rng _).2⟩, ⟨rfl, (i32_rng _).1, (i32_rng _).2⟩, trivial⟩ hG hJ (kp := fun _ σ => fr [12, 1013] I σ.1) (Fx79 (fun _ I' L' f => f)) (fun v1 I1 L1 g1 j1 r1 q1 => ?_)
  obtain ⟨x1, rfl, -, -⟩ := r1
  conv => whnf
  refine ⟨lw_ix hi0 hi hN (by decide) (by decide), ?_⟩
  conv => whnf
  refine ⟨lw_ix hi0 hi hN (by decide) (by decide), ?_⟩
  conv => whnf
  refine use_jp (jKP_of cT144 (by decide) (by decide)) hd ⟨⟨rfl, rfl, by simp, by simp⟩, ⟨rfl, (i32_rng _).1, (i32_rng _).2⟩, ⟨rfl, (i32_rng _).1, (i32_rng _).2⟩, trivial⟩ g1 j1 (kp := fun _ σ => fr [39, 32013] I1 σ.1) (Fx160 (fun _ I' L' f => f)) (fun v2 I2 L2 g2 j2 r2 q2 => ?_)
  obtain ⟨x2, rfl, -, -⟩ := r2
  have rr := RT_fr (RT_fr hR q1 rfl) q2 rfl
  exact nx _ _ g2 j2 rr
set_option maxHeartbeats 4000000 in
set_option maxRecDepth 20000 in
theorem lwC_12 {d : Nat} (hd : 13 ≤ d) {k : jK} {N : Nat} {xs : Nat → Int32} {i : Int32} {I : jI} {L : jL} (hi0 : 0 ≤ i.toInt) (hi : i.toInt + 6 ≤ (N : Int)) (hN : N ≤ 384) (hG : gG aGI I) (hJ : jJ I) (hR : lR I L) (nx : ∀ I' L', gG aGI I' → jJ I' → lR I' L' → jWB (jWPM d) k (some (N, xs)) jc_law (1423, [some (.inr (901, 0)), some (.inr (0, 0)), some (.inr (31, 0)), some (.inl (.inl i))], [], I', L')) : jWB (jWPM d) k (some (N, xs)) jc_law (634, [some (.inr (901, 0)), some (.inr (0, 0)), some (.inr (31, 0)), some (.inl (.inl i))], [], I, L) := by
  refine jWB_run [1423] 80 ?_
  conv => whnf
  refine ⟨lw_ix hi0 hi hN (by decide) (by decide), ?_⟩
  conv => whnf
  refine use_jp (jKP_of cT97 (by decide) (by decide)) hd ⟨⟨rfl, rfl, by simp, by simp⟩, ⟨rfl, (i32_rng _).1, (i32_rng _).2⟩, trivial⟩ hG hJ (kp := fun _ σ => fr [] I σ.1) (Fx80 (fun _ I' L' f => f)) (fun v1 I1 L1 g1 j1 r1 q1 => ?_)
  obtain ⟨x1, rfl, -, -⟩ := r1
  conv => whnf
  refine ⟨lw_ix hi0 hi hN (by decide) (by decide), ?_⟩
  conv => whnf
  refine use_jp (jKP_of cT145 (by decide) (by decide)) hd ⟨⟨rfl, rfl, by simp, by simp⟩, ⟨rfl, (i32_rng _).1, (i32_rng _).2⟩, trivial⟩ g1 j1 (kp := fun _ σ => fr [] I1 σ.1) (Fx161 (fun _ I' L' f => f)) (fun v2 I2 L2 g2 j2 r2 q2 => ?_)
  obtain ⟨x2, rfl, -, -⟩ := r2
  have rr := RT_fr (RT_fr hR q1 rfl) q2 rfl
  exact nx _ _ g2 j2 rr
set_option maxHeartbeats 4000000 in
set_option maxRecDepth 20000 in
theorem lwC_13 {d : Nat} (hd : 13 ≤ d) {k : jK} {N : Nat} {xs : Nat → Int32} {i : Int32} {I : jI} {L : jL} (hi0 : 0 ≤ i.toInt) (hi : i.toInt + 6 ≤ (N : Int)) (hN : N ≤ 384) (hG : gG aGI I) (hJ : jJ I) (hR : lR I L) (nx : ∀ I' L', gG aGI I' → jJ I' → lR I' L' → jWB (jWPM d) k (some (N, xs)) jc_law (1423, [some (.inr (901, 0)), some (.inr (0, 0)), some (.inr (31, 0)), some (.inl (.inl i))], [], I', L')) : jWB (jWPM d) k (some (N, xs)) jc_law (657, [some (.inr (901, 0)), some (.inr (0, 0)), some (.inr (31, 0)), some (.inl (.inl i))], [], I, L) := by
  refine jWB_run [1423] 80 ?_
  conv => whnf
  refine ⟨lw_ix hi0 hi hN (by decide) (by decide), ?_⟩
  conv => whnf
  refine ⟨lw_ix hi0 hi hN (by decide) (by decide), ?_⟩
  conv => whnf
  refine use_jp jK_buy hd ⟨⟨rfl, rfl, by simp, by simp⟩, ⟨rfl, (i32_rng _).1, (i32_rng _).2⟩, ⟨rfl, (i32_rng _).1, (i32_rng _).2⟩, trivial⟩ hG hJ (kp := fun _ σ => fr [19, 20, 22, 23, 5009, 5010, 5011, 5012, 5013, 5014, 5015] I σ.1) (Fx81 (fun _ I' L' f => f)) (fun v1 I1 L1 g1 j1 r1 q1 => ?_)
  obtain ⟨x1, rfl, -, -⟩ := r1
  conv => whnf
  refine ⟨lw_ix hi0 hi hN (by decide) (by decide), ?_⟩
  conv => whnf
  refine ⟨lw_ix hi0 hi hN (by decide) (by decide), ?_⟩
  conv => whnf
  refine use_jp (jKP_of cT154 (by decide) (by decide)) hd ⟨⟨rfl, rfl, by simp, by simp⟩, ⟨rfl, (i32_rng _).1, (i32_rng _).2⟩, ⟨rfl, (i32_rng _).1, (i32_rng _).2⟩, trivial⟩ g1 j1 (kp := fun _ σ => fr [32] I1 σ.1) (Fx166 (fun _ I' L' f => f)) (fun v2 I2 L2 g2 j2 r2 q2 => ?_)
  obtain ⟨x2, rfl, -, -⟩ := r2
  have rr := RT_fr (RT_fr hR q1 rfl) q2 rfl
  exact nx _ _ g2 j2 rr
set_option maxHeartbeats 4000000 in
set_option maxRecDepth 20000 in
theorem lwC_14 {d : Nat} (hd : 13 ≤ d) {k : jK} {N : Nat} {xs : Nat → Int32} {i : Int32} {I : jI} {L : jL} (hi0 : 0 ≤ i.toInt) (hi : i.toInt + 6 ≤ (N : Int)) (hN : N ≤ 384) (hG : gG aGI I) (hJ : jJ I) (hR : lR I L) (nx : ∀ I' L', gG aGI I' → jJ I' → lR I' L' → jWB (jWPM d) k (some (N, xs)) jc_law (1423, [some (.inr (901, 0)), some (.inr (0, 0)), some (.inr (31, 0)), some (.inl (.inl i))], [], I', L')) : jWB (jWPM d) k (some (N, xs)) jc_law (690, [some (.inr (901, 0)), some (.inr (0, 0)), some (.inr (31, 0)), some (.inl (.inl i))], [], I, L) := by
  refine jWB_run [1423] 80 ?_
  conv => whnf
  refine use_jp jK_week hd ⟨⟨rfl, rfl, by simp, by simp⟩, trivial⟩ hG hJ (kp := fun _ σ => fr [19, 20, 22, 23, 5009, 5010, 5011, 5012, 5013, 5014, 5015] I σ.1) (Fx82 (fun _ I' L' f => f)) (fun v1 I1 L1 g1 j1 r1 q1 => ?_)
  obtain ⟨x1, rfl, -, -⟩ := r1
  conv => whnf
  refine use_jp (jKP_of cT155 (by decide) (by decide)) hd ⟨⟨rfl, rfl, by simp, by simp⟩, trivial⟩ g1 j1 (kp := fun _ σ => fr [32] I1 σ.1) (Fx168 (fun _ I' L' f => f)) (fun v2 I2 L2 g2 j2 r2 q2 => ?_)
  obtain ⟨x2, rfl, -, -⟩ := r2
  have rr := RT_fr (RT_fr hR q1 rfl) q2 rfl
  exact nx _ _ g2 j2 rr
set_option maxHeartbeats 4000000 in
set_option maxRecDepth 20000 in
theorem lwC_15 {d : Nat} (hd : 13 ≤ d) {k : jK} {N : Nat} {xs : Nat → Int32} {i : Int32} {I : jI} {L : jL} (hi0 : 0 ≤ i.toInt) (hi : i.toInt + 6 ≤ (N : Int)) (hN : N ≤ 384) (hG : gG aGI I) (hJ : jJ I) (hR : lR I L) (nx : ∀ I' L', gG aGI I' → jJ I' → lR I' L' → jWB (jWPM d) k (some (N, xs)) jc_law (1423, [some (.inr (901, 0)), some (.inr (0, 0)), some (.inr (31, 0)), some (.inl (.inl i))], [], I', L')) : jWB (jWPM d) k (some (N, xs)) jc_law (703, [some (.inr (901, 0)), some (.inr (0, 0)), some (.inr (31, 0)), some (.inl (.inl i))], [], I, L) := by
  refine jWB_run [1423] 80 ?_
  conv => whnf
  refine ⟨lw_ix hi0 hi hN (by decide) (by decide), ?_⟩
  conv => whnf
  refine use_jp jK_shrink hd ⟨⟨rfl, rfl, by simp, by simp⟩, ⟨rfl, (i32_rng _).1, (i32_rng _).2⟩, trivial⟩ hG hJ (kp := fun _ σ => fr [19, 20, 22, 23, 5009, 5010, 5011, 5012, 5013, 5014, 5015] I σ.1) (Fx83 (fun _ I' L' f => f)) (fun v1 I1 L1 g1 j1 r1 q1 => ?_)
  obtain ⟨x1, rfl, -, -⟩ := r1
  conv => whnf
  refine ⟨lw_ix hi0 hi hN (by decide) (by decide), ?_⟩
  conv => whnf
  refine use_jp (jKP_of cT156 (by decide) (by decide)) hd ⟨⟨rfl, rfl, by simp, by simp⟩, ⟨rfl, (i32_rng _).1, (i32_rng _).2⟩, trivial⟩ g1 j1 (kp := fun _ σ => fr [32] I1 σ.1) (Fx169 (fun _ I' L' f => f)) (fun v2 I2 L2 g2 j2 r2 q2 => ?_)
  obtain ⟨x2, rfl, -, -⟩ := r2
  have rr := RT_fr (RT_fr hR q1 rfl) q2 rfl
  exact nx _ _ g2 j2 rr
set_option maxHeartbeats 4000000 in
set_option maxRecDepth 20000 in
theorem lwC_16 {d : Nat} (hd : 13 ≤ d) {k : jK} {N : Nat} {xs : Nat → Int32} {i : Int32} {I : jI} {L : jL} (hi0 : 0 ≤ i.toInt) (hi : i.toInt + 6 ≤ (N : Int)) (hN : N ≤ 384) (hG : gG aGI I) (hJ : jJ I) (hR : lR I L) (nx : ∀ I' L', gG aGI I' → jJ I' → lR I' L' → jWB (jWPM d) k (some (N, xs)) jc_law (1423, [some (.inr (901, 0)), some (.inr (0, 0)), some (.inr (31, 0)), some (.inl (.inl i))], [], I', L')) : jWB (jWPM d) k (some (N, xs)) jc_law (726, [some (.inr (901, 0)), some (.inr (0, 0)), some (.inr (31, 0)), some (.inl (.inl i))], [], I, L) := by
  refine jWB_run [1423] 80 ?_
  conv => whnf
  refine ⟨lw_ix hi0 hi hN (by decide) (by decide), ?_⟩
  conv => whnf
  refine ⟨lw_ix hi0 hi hN (by decide) (by decide), ?_⟩
  conv => whnf
  refine use_jp jK_price hd ⟨⟨rfl, rfl, by simp, by simp⟩, ⟨rfl, (i32_rng _).1, (i32_rng _).2⟩, ⟨rfl, (i32_rng _).1, (i32_rng _).2⟩, trivial⟩ hG hJ (kp := fun _ σ => fr [19, 20, 22, 23, 5009, 5010, 5011, 5012, 5013, 5014, 5015] I σ.1) (Fx84 (fun _ I' L' f => f)) (fun v1 I1 L1 g1 j1 r1 q1 => ?_)
  obtain ⟨x1, rfl, -, -⟩ := r1
  conv => whnf
  refine ⟨lw_ix hi0 hi hN (by decide) (by decide), ?_⟩
  conv => whnf
  refine ⟨lw_ix hi0 hi hN (by decide) (by decide), ?_⟩
  conv => whnf
  refine use_jp (jKP_of cT157 (by decide) (by decide)) hd ⟨⟨rfl, rfl, by simp, by simp⟩, ⟨rfl, (i32_rng _).1, (i32_rng _).2⟩, ⟨rfl, (i32_rng _).1, (i32_rng _).2⟩, trivial⟩ g1 j1 (kp := fun _ σ => fr [32] I1 σ.1) (Fx171 (fun _ I' L' f => f)) (fun v2 I2 L2 g2 j2 r2 q2 => ?_)
  obtain ⟨x2, rfl, -, -⟩ := r2
  have rr := RT_fr (RT_fr hR q1 rfl) q2 rfl
  exact nx _ _ g2 j2 rr
