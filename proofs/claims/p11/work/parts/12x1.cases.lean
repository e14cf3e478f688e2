set_option maxHeartbeats 4000000 in
set_option maxRecDepth 20000 in
theorem lwC_17 {d : Nat} (hd : 13 ≤ d) {k : jK} {N : Nat} {xs : Nat → Int32} {i : Int32} {I : jI} {L : jL} (hi0 : 0 ≤ i.toInt) (hi : i.toInt + 6 ≤ (N : Int)) (hN : N ≤ 384) (hG : gG aGI I) (hJ : jJ I) (hR : lR I L) (nx : ∀ I' L', gG aGI I' → jJ I' → lR I' L' → jWB (jWPM d) k (some (N, xs)) jc_law (1423, [some (.inr (901, 0)), some (.inr (0, 0)), some (.inr (31, 0)), some (.inl (.inl i))], [], I', L')) : jWB (jWPM d) k (some (N, xs)) jc_law (759, [some (.inr (901, 0)), some (.inr (0, 0)), some (.inr (31, 0)), some (.inl (.inl i))], [], I, L) := by
  refine jWB_run [1423] 80 ?_
  conv => whnf
  refine ⟨lw_ix hi0 hi hN (by decide) (by decide), ?_⟩
  conv => whnf
  refine use_jp jK_card hd ⟨⟨rfl, rfl, by simp, by simp⟩, ⟨rfl, (i32_rng _).1, (i32_rng _).2⟩, trivial⟩ hG hJ (kp := fun _ σ => fr [19, 20, 22, 23, 5009, 5010, 5011, 5012, 5013, 5014, 5015] I σ.1) (Fx85 (fun _ I' L' f => f)) (fun v1 I1 L1 g1 j1 r1 q1 => ?_)
  obtain ⟨x1, rfl, -, -⟩ := r1
  conv => whnf
  refine ⟨lw_ix hi0 hi hN (by decide) (by decide), ?_⟩
  conv => whnf
  refine use_jp (jKP_of cT158 (by decide) (by decide)) hd ⟨⟨rfl, rfl, by simp, by simp⟩, ⟨rfl, (i32_rng _).1, (i32_rng _).2⟩, trivial⟩ g1 j1 (kp := fun _ σ => fr [32] I1 σ.1) (Fx172 (fun _ I' L' f => f)) (fun v2 I2 L2 g2 j2 r2 q2 => ?_)
  obtain ⟨x2, rfl, -, -⟩ := r2
  have rr := RT_fr (RT_fr hR q1 rfl) q2 rfl
  exact nx _ _ g2 j2 rr
set_option maxHeartbeats 4000000 in
set_option maxRecDepth 20000 in
theorem lwC_18 {d : Nat} (hd : 13 ≤ d) {k : jK} {N : Nat} {xs : Nat → Int32} {i : Int32} {I : jI} {L : jL} (hi0 : 0 ≤ i.toInt) (hi : i.toInt + 6 ≤ (N : Int)) (hN : N ≤ 384) (hG : gG aGI I) (hJ : jJ I) (hR : lR I L) (nx : ∀ I' L', gG aGI I' → jJ I' → lR I' L' → jWB (jWPM d) k (some (N, xs)) jc_law (1423, [some (.inr (901, 0)), some (.inr (0, 0)), some (.inr (31, 0)), some (.inl (.inl i))], [], I', L')) : jWB (jWPM d) k (some (N, xs)) jc_law (782, [some (.inr (901, 0)), some (.inr (0, 0)), some (.inr (31, 0)), some (.inl (.inl i))], [], I, L) := by
  refine jWB_run [1423] 80 ?_
  conv => whnf
  refine ⟨lw_ix hi0 hi hN (by decide) (by decide), ?_⟩
  conv => whnf
  refine use_jp jK_undo hd ⟨⟨rfl, rfl, by simp, by simp⟩, ⟨rfl, (i32_rng _).1, (i32_rng _).2⟩, trivial⟩ hG hJ (kp := fun _ σ => fr [18, 19, 20, 21, 22, 23, 5006, 5007, 5008, 5009, 5010, 5011, 5012, 5013, 5014, 5015] I σ.1) (Fx86 (fun _ I' L' f => f)) (fun v1 I1 L1 g1 j1 r1 q1 => ?_)
  obtain ⟨x1, rfl, -, -⟩ := r1
  conv => whnf
  refine ⟨lw_ix hi0 hi hN (by decide) (by decide), ?_⟩
  conv => whnf
  refine use_jp (jKP_of cT159 (by decide) (by decide)) hd ⟨⟨rfl, rfl, by simp, by simp⟩, ⟨rfl, (i32_rng _).1, (i32_rng _).2⟩, trivial⟩ g1 j1 (kp := fun _ σ => fr [32] I1 σ.1) (Fx173 (fun _ I' L' f => f)) (fun v2 I2 L2 g2 j2 r2 q2 => ?_)
  obtain ⟨x2, rfl, -, -⟩ := r2
  have rr := RT_fr (RT_fr hR q1 rfl) q2 rfl
  exact nx _ _ g2 j2 rr
set_option maxHeartbeats 4000000 in
set_option maxRecDepth 20000 in
theorem lwC_19 {d : Nat} (hd : 13 ≤ d) {k : jK} {N : Nat} {xs : Nat → Int32} {i : Int32} {I : jI} {L : jL} (hi0 : 0 ≤ i.toInt) (hi : i.toInt + 6 ≤ (N : Int)) (hN : N ≤ 384) (hG : gG aGI I) (hJ : jJ I) (hR : lR I L) (nx : ∀ I' L', gG aGI I' → jJ I' → lR I' L' → jWB (jWPM d) k (some (N, xs)) jc_law (1423, [some (.inr (901, 0)), some (.inr (0, 0)), some (.inr (31, 0)), some (.inl (.inl i))], [], I', L')) : jWB (jWPM d) k (some (N, xs)) jc_law (805, [some (.inr (901, 0)), some (.inr (0, 0)), some (.inr (31, 0)), some (.inl (.inl i))], [], I, L) := by
  refine jWB_run [1423] 80 ?_
  conv => whnf
  refine ⟨lw_ix hi0 hi hN (by decide) (by decide), ?_⟩
  conv => whnf
  refine use_jp jK_keep hd ⟨⟨rfl, rfl, by simp, by simp⟩, ⟨rfl, (i32_rng _).1, (i32_rng _).2⟩, trivial⟩ hG hJ (kp := fun _ σ => fr [6, 18, 19, 20, 21, 22, 23, 5006, 5007, 5008, 5009, 5010, 5011, 5012, 5013, 5014, 5015] I σ.1) (Fx87 (fun _ I' L' f => f)) (fun v1 I1 L1 g1 j1 r1 q1 => ?_)
  obtain ⟨x1, rfl, -, -⟩ := r1
  conv => whnf
  refine ⟨lw_ix hi0 hi hN (by decide) (by decide), ?_⟩
  conv => whnf
  refine use_jp (jKP_of hK_mkeep (by decide) (by decide)) hd ⟨⟨rfl, rfl, by simp, by simp⟩, ⟨rfl, (i32_rng _).1, (i32_rng _).2⟩, trivial⟩ g1 j1 (kp := fun _ σ => fr [32] I1 σ.1) (Fx175 (fun _ I' L' f => f)) (fun v2 I2 L2 g2 j2 r2 q2 => ?_)
  obtain ⟨x2, rfl, -, -⟩ := r2
  have rr := RT_fr (RT_fr hR q1 rfl) q2 rfl
  exact nx _ _ g2 j2 rr
set_option maxHeartbeats 4000000 in
set_option maxRecDepth 20000 in
theorem lwC_20 {d : Nat} (hd : 13 ≤ d) {k : jK} {N : Nat} {xs : Nat → Int32} {i : Int32} {I : jI} {L : jL} (hi0 : 0 ≤ i.toInt) (hi : i.toInt + 6 ≤ (N : Int)) (hN : N ≤ 384) (hG : gG aGI I) (hJ : jJ I) (hR : lR I L) (nx : ∀ I' L', gG aGI I' → jJ I' → lR I' L' → jWB (jWPM d) k (some (N, xs)) jc_law (1423, [some (.inr (901, 0)), some (.inr (0, 0)), some (.inr (31, 0)), some (.inl (.inl i))], [], I', L')) : jWB (jWPM d) k (some (N, xs)) jc_law (828, [some (.inr (901, 0)), some (.inr (0, 0)), some (.inr (31, 0)), some (.inl (.inl i))], [], I, L) := by
  refine jWB_run [1423] 80 ?_
  conv => whnf
  refine ⟨lw_ix hi0 hi hN (by decide) (by decide), ?_⟩
  conv => whnf
  refine use_jp jK_on hd ⟨⟨rfl, rfl, by simp, by simp⟩, ⟨rfl, (i32_rng _).1, (i32_rng _).2⟩, trivial⟩ hG hJ (kp := fun _ σ => fr [12, 18, 19, 20, 21, 22, 23, 1013, 5006, 5007, 5008, 5009, 5010, 5011, 5012, 5013, 5014, 5015] I σ.1) (Fx88 (fun _ I' L' f => f)) (fun v1 I1 L1 g1 j1 r1 q1 => ?_)
  obtain ⟨x1, rfl, -, -⟩ := r1
  conv => whnf
  refine ⟨lw_ix hi0 hi hN (by decide) (by decide), ?_⟩
  conv => whnf
  refine use_jp (jKP_of hK_mon (by decide) (by decide)) hd ⟨⟨rfl, rfl, by simp, by simp⟩, ⟨rfl, (i32_rng _).1, (i32_rng _).2⟩, trivial⟩ g1 j1 (kp := fun _ σ => fr [32, 39, 32013] I1 σ.1) (Fx176 (fun _ I' L' f => f)) (fun v2 I2 L2 g2 j2 r2 q2 => ?_)
  obtain ⟨x2, rfl, -, -⟩ := r2
  have rr := RT_fr (RT_fr hR q1 rfl) q2 rfl
  exact nx _ _ g2 j2 rr
set_option maxHeartbeats 4000000 in
set_option maxRecDepth 20000 in
theorem lwC_21 {d : Nat} (hd : 13 ≤ d) {k : jK} {N : Nat} {xs : Nat → Int32} {i : Int32} {I : jI} {L : jL} (hi0 : 0 ≤ i.toInt) (hi : i.toInt + 6 ≤ (N : Int)) (hN : N ≤ 384) (hG : gG aGI I) (hJ : jJ I) (hR : lR I L) (nx : ∀ I' L', gG aGI I' → jJ I' → lR I' L' → jWB (jWPM d) k (some (N, xs)) jc_law (1423, [some (.inr (901, 0)), some (.inr (0, 0)), some (.inr (31, 0)), some (.inl (.inl i))], [], I', L')) : jWB (jWPM d) k (some (N, xs)) jc_law (851, [some (.inr (901, 0)), some (.inr (0, 0)), some (.inr (31, 0)), some (.inl (.inl i))], [], I, L) := by
  refine jWB_run [1423] 80 ?_
  conv => whnf
  refine ⟨lw_ix hi0 hi hN (by decide) (by decide), ?_⟩
  conv => whnf
  refine ⟨lw_ix hi0 hi hN (by decide) (by decide), ?_⟩
  conv => whnf
  refine use_jp (jKP_of cT105 (by decide) (by decide)) hd ⟨⟨rfl, rfl, by simp, by simp⟩, ⟨rfl, (i32_rng _).1, (i32_rng _).2⟩, ⟨rfl, (i32_rng _).1, (i32_rng _).2⟩, trivial⟩ hG hJ (kp := fun _ σ => fr [] I σ.1) (Fx89 (fun _ I' L' f => f)) (fun v1 I1 L1 g1 j1 r1 q1 => ?_)
  obtain ⟨x1, rfl, -, -⟩ := r1
  conv => whnf
  refine ⟨lw_ix hi0 hi hN (by decide) (by decide), ?_⟩
  conv => whnf
  refine ⟨lw_ix hi0 hi hN (by decide) (by decide), ?_⟩
  conv => whnf
  refine use_jp (jKP_of cT160 (by decide) (by decide)) hd ⟨⟨rfl, rfl, by simp, by simp⟩, ⟨rfl, (i32_rng _).1, (i32_rng _).2⟩, ⟨rfl, (i32_rng _).1, (i32_rng _).2⟩, trivial⟩ g1 j1 (kp := fun _ σ => fr [] I1 σ.1) (Fx177 (fun _ I' L' f => f)) (fun v2 I2 L2 g2 j2 r2 q2 => ?_)
  obtain ⟨x2, rfl, -, -⟩ := r2
  have rr := RT_fr (RT_fr hR q1 rfl) q2 rfl
  exact nx _ _ g2 j2 rr
set_option maxHeartbeats 4000000 in
set_option maxRecDepth 20000 in
theorem lwC_22 {d : Nat} (hd : 13 ≤ d) {k : jK} {N : Nat} {xs : Nat → Int32} {i : Int32} {I : jI} {L : jL} (hi0 : 0 ≤ i.toInt) (hi : i.toInt + 6 ≤ (N : Int)) (hN : N ≤ 384) (hG : gG aGI I) (hJ : jJ I) (hR : lR I L) (nx : ∀ I' L', gG aGI I' → jJ I' → lR I' L' → jWB (jWPM d) k (some (N, xs)) jc_law (1423, [some (.inr (901, 0)), some (.inr (0, 0)), some (.inr (31, 0)), some (.inl (.inl i))], [], I', L')) : jWB (jWPM d) k (some (N, xs)) jc_law (884, [some (.inr (901, 0)), some (.inr (0, 0)), some (.inr (31, 0)), some (.inl (.inl i))], [], I, L) := by
  refine jWB_run [1423] 80 ?_
  conv => whnf
  refine ⟨lw_ix hi0 hi hN (by decide) (by decide), ?_⟩
  conv => whnf
  refine use_jp (jKP_of cT193 (by decide) (by decide)) hd ⟨⟨rfl, rfl, by simp, by simp⟩, ⟨rfl, (i32_rng _).1, (i32_rng _).2⟩, trivial⟩ hG hJ (kp := fun _ σ => fr [] I σ.1) (Fx90 (fun _ I' L' f => f)) (fun v1 I1 L1 g1 j1 r1 q1 => ?_)
  obtain ⟨x1, rfl, -, -⟩ := r1
  conv => whnf
  refine ⟨lw_ix hi0 hi hN (by decide) (by decide), ?_⟩
  conv => whnf
  refine use_jp (jKP_of hK_mrate (by decide) (by decide)) hd ⟨⟨rfl, rfl, by simp, by simp⟩, ⟨rfl, (i32_rng _).1, (i32_rng _).2⟩, trivial⟩ g1 j1 (kp := fun _ σ => fr [] I1 σ.1) (Fx179 (fun _ I' L' f => f)) (fun v2 I2 L2 g2 j2 r2 q2 => ?_)
  obtain ⟨x2, rfl, -, -⟩ := r2
  have rr := RT_fr (RT_fr hR q1 rfl) q2 rfl
  exact nx _ _ g2 j2 rr
set_option maxHeartbeats 4000000 in
set_option maxRecDepth 20000 in
theorem lwC_23 {d : Nat} (hd : 13 ≤ d) {k : jK} {N : Nat} {xs : Nat → Int32} {i : Int32} {I : jI} {L : jL} (hi0 : 0 ≤ i.toInt) (hi : i.toInt + 6 ≤ (N : Int)) (hN : N ≤ 384) (hG : gG aGI I) (hJ : jJ I) (hR : lR I L) (nx : ∀ I' L', gG aGI I' → jJ I' → lR I' L' → jWB (jWPM d) k (some (N, xs)) jc_law (1423, [some (.inr (901, 0)), some (.inr (0, 0)), some (.inr (31, 0)), some (.inl (.inl i))], [], I', L')) : jWB (jWPM d) k (some (N, xs)) jc_law (907, [some (.inr (901, 0)), some (.inr (0, 0)), some (.inr (31, 0)), some (.inl (.inl i))], [], I, L) := by
  refine jWB_run [1423] 80 ?_
  conv => whnf
  refine use_jp (jKP_of hK_cheapest (by decide) (by decide)) hd ⟨⟨rfl, rfl, by simp, by simp⟩, trivial⟩ hG hJ (kp := fun _ σ => fr [1014] I σ.1) (Fx91 (fun _ I' L' f => f)) (fun v1 I1 L1 g1 j1 r1 q1 => ?_)
  obtain ⟨x1, rfl, -, -⟩ := r1
  conv => whnf
  refine use_jp (jKP_of hK_mcheapest (by decide) (by decide)) hd ⟨⟨rfl, rfl, by simp, by simp⟩, trivial⟩ g1 j1 (kp := fun _ σ => fr [32010] I1 σ.1) (Fx181 (fun _ I' L' f => f)) (fun v2 I2 L2 g2 j2 r2 q2 => ?_)
  obtain ⟨x2, rfl, -, -⟩ := r2
  have rr := RT_fr (RT_fr hR q1 rfl) q2 rfl
  exact nx _ _ g2 j2 rr
set_option maxHeartbeats 4000000 in
set_option maxRecDepth 20000 in
theorem lwC_24 {d : Nat} (hd : 13 ≤ d) {k : jK} {N : Nat} {xs : Nat → Int32} {i : Int32} {I : jI} {L : jL} (hi0 : 0 ≤ i.toInt) (hi : i.toInt + 6 ≤ (N : Int)) (hN : N ≤ 384) (hG : gG aGI I) (hJ : jJ I) (hR : lR I L) (nx : ∀ I' L', gG aGI I' → jJ I' → lR I' L' → jWB (jWPM d) k (some (N, xs)) jc_law (1423, [some (.inr (901, 0)), some (.inr (0, 0)), some (.inr (31, 0)), some (.inl (.inl i))], [], I', L')) : jWB (jWPM d) k (some (N, xs)) jc_law (920, [some (.inr (901, 0)), some (.inr (0, 0)), some (.inr (31, 0)), some (.inl (.inl i))], [], I, L) := by
  refine jWB_run [1423] 80 ?_
  conv => whnf
  refine use_jp (jKP_of cT106 (by decide) (by decide)) hd ⟨⟨rfl, rfl, by simp, by simp⟩, trivial⟩ hG hJ (kp := fun _ σ => fr [1014] I σ.1) (Fx92 (fun _ I' L' f => f)) (fun v1 I1 L1 g1 j1 r1 q1 => ?_)
  obtain ⟨x1, rfl, -, -⟩ := r1
  conv => whnf
  refine use_jp (jKP_of cT162 (by decide) (by decide)) hd ⟨⟨rfl, rfl, by simp, by simp⟩, trivial⟩ g1 j1 (kp := fun _ σ => fr [32010] I1 σ.1) (Fx182 (fun _ I' L' f => f)) (fun v2 I2 L2 g2 j2 r2 q2 => ?_)
  obtain ⟨x2, rfl, -, -⟩ := r2
  have rr := RT_fr (RT_fr hR q1 rfl) q2 rfl
  exact nx _ _ g2 j2 rr
set_option maxHeartbeats 4000000 in
set_option maxRecDepth 20000 in
theorem lwC_25 {d : Nat} (hd : 13 ≤ d) {k : jK} {N : Nat} {xs : Nat → Int32} {i : Int32} {I : jI} {L : jL} (hi0 : 0 ≤ i.toInt) (hi : i.toInt + 6 ≤ (N : Int)) (hN : N ≤ 384) (hG : gG aGI I) (hJ : jJ I) (hR : lR I L) (nx : ∀ I' L', gG aGI I' → jJ I' → lR I' L' → jWB (jWPM d) k (some (N, xs)) jc_law (1423, [some (.inr (901, 0)), some (.inr (0, 0)), some (.inr (31, 0)), some (.inl (.inl i))], [], I', L')) : jWB (jWPM d) k (some (N, xs)) jc_law (933, [some (.inr (901, 0)), some (.inr (0, 0)), some (.inr (31, 0)), some (.inl (.inl i))], [], I, L) := by
  refine jWB_run [1423] 80 ?_
  conv => whnf
  refine ⟨lw_ix hi0 hi hN (by decide) (by decide), ?_⟩
  conv => whnf
  refine ⟨lw_ix hi0 hi hN (by decide) (by decide), ?_⟩
  conv => whnf
  refine use_jp (jKP_of cT107 (by decide) (by decide)) hd ⟨⟨rfl, rfl, by simp, by simp⟩, ⟨rfl, (i32_rng _).1, (i32_rng _).2⟩, ⟨rfl, (i32_rng _).1, (i32_rng _).2⟩, trivial⟩ hG hJ (kp := fun _ σ => fr [14, 25, 29] I σ.1) (Fx93 (fun _ I' L' f => f)) (fun v1 I1 L1 g1 j1 r1 q1 => ?_)
  obtain ⟨x1, rfl, -, -⟩ := r1
  conv => whnf
  refine ⟨lw_ix hi0 hi hN (by decide) (by decide), ?_⟩
  conv => whnf
  refine ⟨lw_ix hi0 hi hN (by decide) (by decide), ?_⟩
  conv => whnf
  refine use_jp (jKP_of cT165 (by decide) (by decide)) hd ⟨⟨rfl, rfl, by simp, by simp⟩, ⟨rfl, (i32_rng _).1, (i32_rng _).2⟩, ⟨rfl, (i32_rng _).1, (i32_rng _).2⟩, trivial⟩ g1 j1 (kp := fun _ σ => fr [35, 36] I1 σ.1) (Fx184 (fun _ I' L' f => f)) (fun v2 I2 L2 g2 j2 r2 q2 => ?_)
  obtain ⟨x2, rfl, -, -⟩ := r2
  have rr := RT_fr (RT_fr hR q1 rfl) q2 rfl
  exact nx _ _ g2 j2 rr
set_option maxHeartbeats 4000000 in
set_option maxRecDepth 20000 in
theorem lwC_26 {d : Nat} (hd : 13 ≤ d) {k : jK} {N : Nat} {xs : Nat → Int32} {i : Int32} {I : jI} {L : jL} (hi0 : 0 ≤ i.toInt) (hi : i.toInt + 6 ≤ (N : Int)) (hN : N ≤ 384) (hG : gG aGI I) (hJ : jJ I) (hR : lR I L) (nx : ∀ I' L', gG aGI I' → jJ I' → lR I' L' → jWB (jWPM d) k (some (N, xs)) jc_law (1423, [some (.inr (901, 0)), some (.inr (0, 0)), some (.inr (31, 0)), some (.inl (.inl i))], [], I', L')) : jWB (jWPM d) k (some (N, xs)) jc_law (966, [some (.inr (901, 0)), some (.inr (0, 0)), some (.inr (31, 0)), some (.inl (.inl i))], [], I, L) := by
  refine jWB_run [1423] 80 ?_
  conv => whnf
  refine ⟨lw_ix hi0 hi hN (by decide) (by decide), ?_⟩
  conv => whnf
  refine ⟨lw_ix hi0 hi hN (by decide) (by decide), ?_⟩
  conv => whnf
  refine use_jp (jKP_of cT108 (by decide) (by decide)) hd ⟨⟨rfl, rfl, by simp, by simp⟩, ⟨rfl, (i32_rng _).1, (i32_rng _).2⟩, ⟨rfl, (i32_rng _).1, (i32_rng _).2⟩, trivial⟩ hG hJ (kp := fun _ σ => fr [14, 23, 27, 28, 29, 10003, 10004, 10005] I σ.1) (Fx94 hG (fun _ I' L' f => f)) (fun v1 I1 L1 g1 j1 r1 q1 => ?_)
  obtain ⟨x1, rfl, -, -⟩ := r1
  conv => whnf
  refine ⟨lw_ix hi0 hi hN (by decide) (by decide), ?_⟩
  conv => whnf
  refine ⟨lw_ix hi0 hi hN (by decide) (by decide), ?_⟩
  conv => whnf
  refine use_jp (jKP_of hK_mweeks (by decide) (by decide)) hd ⟨⟨rfl, rfl, by simp, by simp⟩, ⟨rfl, (i32_rng _).1, (i32_rng _).2⟩, ⟨rfl, (i32_rng _).1, (i32_rng _).2⟩, trivial⟩ g1 j1 (kp := fun _ σ => fr [32, 35, 36] I1 σ.1) (Fx188 (fun _ I' L' f => f)) (fun v2 I2 L2 g2 j2 r2 q2 => ?_)
  obtain ⟨x2, rfl, -, -⟩ := r2
  have rr := RT_fr (RT_fr hR q1 rfl) q2 rfl
  exact nx _ _ g2 j2 rr
set_option maxHeartbeats 4000000 in
set_option maxRecDepth 20000 in
theorem lwC_27 {d : Nat} (hd : 13 ≤ d) {k : jK} {N : Nat} {xs : Nat → Int32} {i : Int32} {I : jI} {L : jL} (hi0 : 0 ≤ i.toInt) (hi : i.toInt + 6 ≤ (N : Int)) (hN : N ≤ 384) (hG : gG aGI I) (hJ : jJ I) (hR : lR I L) (nx : ∀ I' L', gG aGI I' → jJ I' → lR I' L' → jWB (jWPM d) k (some (N, xs)) jc_law (1423, [some (.inr (901, 0)), some (.inr (0, 0)), some (.inr (31, 0)), some (.inl (.inl i))], [], I', L')) : jWB (jWPM d) k (some (N, xs)) jc_law (999, [some (.inr (901, 0)), some (.inr (0, 0)), some (.inr (31, 0)), some (.inl (.inl i))], [], I, L) := by
  refine jWB_run [1423] 80 ?_
  conv => whnf
  refine ⟨lw_ix hi0 hi hN (by decide) (by decide), ?_⟩
  conv => whnf
  refine use_jp (jKP_of cT109 (by decide) (by decide)) hd ⟨⟨rfl, rfl, by simp, by simp⟩, ⟨rfl, (i32_rng _).1, (i32_rng _).2⟩, trivial⟩ hG hJ (kp := fun _ σ => fr [23, 27, 28, 10003, 10004, 10005] I σ.1) (Fx95 hG (fun _ I' L' f => f)) (fun v1 I1 L1 g1 j1 r1 q1 => ?_)
  obtain ⟨x1, rfl, -, -⟩ := r1
  conv => whnf
  refine ⟨lw_ix hi0 hi hN (by decide) (by decide), ?_⟩
  conv => whnf
  refine use_jp (jKP_of cT169 (by decide) (by decide)) hd ⟨⟨rfl, rfl, by simp, by simp⟩, ⟨rfl, (i32_rng _).1, (i32_rng _).2⟩, trivial⟩ g1 j1 (kp := fun _ σ => fr [32] I1 σ.1) (Fx189 (fun _ I' L' f => f)) (fun v2 I2 L2 g2 j2 r2 q2 => ?_)
  obtain ⟨x2, rfl, -, -⟩ := r2
  have rr := RT_fr (RT_fr hR q1 rfl) q2 rfl
  exact nx _ _ g2 j2 rr
set_option maxHeartbeats 4000000 in
set_option maxRecDepth 20000 in
theorem lwC_28 {d : Nat} (hd : 13 ≤ d) {k : jK} {N : Nat} {xs : Nat → Int32} {i : Int32} {I : jI} {L : jL} (hi0 : 0 ≤ i.toInt) (hi : i.toInt + 6 ≤ (N : Int)) (hN : N ≤ 384) (hG : gG aGI I) (hJ : jJ I) (hR : lR I L) (nx : ∀ I' L', gG aGI I' → jJ I' → lR I' L' → jWB (jWPM d) k (some (N, xs)) jc_law (1423, [some (.inr (901, 0)), some (.inr (0, 0)), some (.inr (31, 0)), some (.inl (.inl i))], [], I', L')) : jWB (jWPM d) k (some (N, xs)) jc_law (1022, [some (.inr (901, 0)), some (.inr (0, 0)), some (.inr (31, 0)), some (.inl (.inl i))], [], I, L) := by
  refine jWB_run [1423] 80 ?_
  conv => whnf
  refine ⟨lw_ix hi0 hi hN (by decide) (by decide), ?_⟩
  conv => whnf
  refine use_jp (jKP_of cT110 (by decide) (by decide)) hd ⟨⟨rfl, rfl, by simp, by simp⟩, ⟨rfl, (i32_rng _).1, (i32_rng _).2⟩, trivial⟩ hG hJ (kp := fun _ σ => fr [23] I σ.1) (Fx96 (fun _ I' L' f => f)) (fun v1 I1 L1 g1 j1 r1 q1 => ?_)
  obtain ⟨x1, rfl, -, -⟩ := r1
  conv => whnf
  refine ⟨lw_ix hi0 hi hN (by decide) (by decide), ?_⟩
  conv => whnf
  refine use_jp (jKP_of cT170 (by decide) (by decide)) hd ⟨⟨rfl, rfl, by simp, by simp⟩, ⟨rfl, (i32_rng _).1, (i32_rng _).2⟩, trivial⟩ g1 j1 (kp := fun _ σ => fr [32] I1 σ.1) (Fx190 (fun _ I' L' f => f)) (fun v2 I2 L2 g2 j2 r2 q2 => ?_)
  obtain ⟨x2, rfl, -, -⟩ := r2
  have rr := RT_fr (RT_fr hR q1 rfl) q2 rfl
  exact nx _ _ g2 j2 rr
set_option maxHeartbeats 4000000 in
set_option maxRecDepth 20000 in
theorem lwC_29 {d : Nat} (hd : 13 ≤ d) {k : jK} {N : Nat} {xs : Nat → Int32} {i : Int32} {I : jI} {L : jL} (hi0 : 0 ≤ i.toInt) (hi : i.toInt + 6 ≤ (N : Int)) (hN : N ≤ 384) (hG : gG aGI I) (hJ : jJ I) (hR : lR I L) (nx : ∀ I' L', gG aGI I' → jJ I' → lR I' L' → jWB (jWPM d) k (some (N, xs)) jc_law (1423, [some (.inr (901, 0)), some (.inr (0, 0)), some (.inr (31, 0)), some (.inl (.inl i))], [], I', L')) : jWB (jWPM d) k (some (N, xs)) jc_law (1045, [some (.inr (901, 0)), some (.inr (0, 0)), some (.inr (31, 0)), some (.inl (.inl i))], [], I, L) := by
  refine jWB_run [1423] 80 ?_
  conv => whnf
  refine use_jp (jKP_of cT111 (by decide) (by decide)) hd ⟨⟨rfl, rfl, by simp, by simp⟩, trivial⟩ hG hJ (kp := fun _ σ => fr [23] I σ.1) (Fx97 (fun _ I' L' f => f)) (fun v1 I1 L1 g1 j1 r1 q1 => ?_)
  obtain ⟨x1, rfl, -, -⟩ := r1
  conv => whnf
  refine use_jp (jKP_of cT171 (by decide) (by decide)) hd ⟨⟨rfl, rfl, by simp, by simp⟩, trivial⟩ g1 j1 (kp := fun _ σ => fr [32] I1 σ.1) (Fx191 (fun _ I' L' f => f)) (fun v2 I2 L2 g2 j2 r2 q2 => ?_)
  obtain ⟨x2, rfl, -, -⟩ := r2
  have rr := RT_fr (RT_fr hR q1 rfl) q2 rfl
  exact nx _ _ g2 j2 rr
set_option maxHeartbeats 4000000 in
set_option maxRecDepth 20000 in
theorem lwC_30 {d : Nat} (hd : 13 ≤ d) {k : jK} {N : Nat} {xs : Nat → Int32} {i : Int32} {I : jI} {L : jL} (hi0 : 0 ≤ i.toInt) (hi : i.toInt + 6 ≤ (N : Int)) (hN : N ≤ 384) (hG : gG aGI I) (hJ : jJ I) (hR : lR I L) (nx : ∀ I' L', gG aGI I' → jJ I' → lR I' L' → jWB (jWPM d) k (some (N, xs)) jc_law (1423, [some (.inr (901, 0)), some (.inr (0, 0)), some (.inr (31, 0)), some (.inl (.inl i))], [], I', L')) : jWB (jWPM d) k (some (N, xs)) jc_law (1058, [some (.inr (901, 0)), some (.inr (0, 0)), some (.inr (31, 0)), some (.inl (.inl i))], [], I, L) := by
  refine jWB_run [1423] 80 ?_
  conv => whnf
  refine ⟨lw_ix hi0 hi hN (by decide) (by decide), ?_⟩
  conv => whnf
  refine ⟨lw_ix hi0 hi hN (by decide) (by decide), ?_⟩
  conv => whnf
  refine use_jp (jKP_of cT112 (by decide) (by decide)) hd ⟨⟨rfl, rfl, by simp, by simp⟩, ⟨rfl, (i32_rng _).1, (i32_rng _).2⟩, ⟨rfl, (i32_rng _).1, (i32_rng _).2⟩, trivial⟩ hG hJ (kp := fun _ σ => fr [1014] I σ.1) (Fx98 (fun _ I' L' f => f)) (fun v1 I1 L1 g1 j1 r1 q1 => ?_)
  obtain ⟨x1, rfl, -, -⟩ := r1
  conv => whnf
  refine ⟨lw_ix hi0 hi hN (by decide) (by decide), ?_⟩
  conv => whnf
  refine ⟨lw_ix hi0 hi hN (by decide) (by decide), ?_⟩
  conv => whnf
  refine use_jp (jKP_of cT172 (by decide) (by decide)) hd ⟨⟨rfl, rfl, by simp, by simp⟩, ⟨rfl, (i32_rng _).1, (i32_rng _).2⟩, ⟨rfl, (i32_rng _).1, (i32_rng _).2⟩, trivial⟩ g1 j1 (kp := fun _ σ => fr [32010] I1 σ.1) (Fx192 (fun _ I' L' f => f)) (fun v2 I2 L2 g2 j2 r2 q2 => ?_)
  obtain ⟨x2, rfl, -, -⟩ := r2
  have rr := RT_fr (RT_fr hR q1 rfl) q2 rfl
  exact nx _ _ g2 j2 rr
set_option maxHeartbeats 4000000 in
set_option maxRecDepth 20000 in
theorem lwC_31 {d : Nat} (hd : 13 ≤ d) {k : jK} {N : Nat} {xs : Nat → Int32} {i : Int32} {I : jI} {L : jL} (hi0 : 0 ≤ i.toInt) (hi : i.toInt + 6 ≤ (N : Int)) (hN : N ≤ 384) (hG : gG aGI I) (hJ : jJ I) (hR : lR I L) (nx : ∀ I' L', gG aGI I' → jJ I' → lR I' L' → jWB (jWPM d) k (some (N, xs)) jc_law (1423, [some (.inr (901, 0)), some (.inr (0, 0)), some (.inr (31, 0)), some (.inl (.inl i))], [], I', L')) : jWB (jWPM d) k (some (N, xs)) jc_law (1091, [some (.inr (901, 0)), some (.inr (0, 0)), some (.inr (31, 0)), some (.inl (.inl i))], [], I, L) := by
  refine jWB_run [1423] 80 ?_
  conv => whnf
  refine ⟨lw_ix hi0 hi hN (by decide) (by decide), ?_⟩
  conv => whnf
  refine ⟨lw_ix hi0 hi hN (by decide) (by decide), ?_⟩
  conv => whnf
  refine use_jp (jKP_of cT113 (by decide) (by decide)) hd ⟨⟨rfl, rfl, by simp, by simp⟩, ⟨rfl, (i32_rng _).1, (i32_rng _).2⟩, ⟨rfl, (i32_rng _).1, (i32_rng _).2⟩, trivial⟩ hG hJ (kp := fun _ σ => fr [12, 1013] I σ.1) (Fx99 (fun _ I' L' f => f)) (fun v1 I1 L1 g1 j1 r1 q1 => ?_)
  obtain ⟨x1, rfl, -, -⟩ := r1
  conv => whnf
  refine ⟨lw_ix hi0 hi hN (by decide) (by decide), ?_⟩
  conv => whnf
  refine ⟨lw_ix hi0 hi hN (by decide) (by decide), ?_⟩
  conv => whnf
  refine use_jp (jKP_of cT173 (by decide) (by decide)) hd ⟨⟨rfl, rfl, by simp, by simp⟩, ⟨rfl, (i32_rng _).1, (i32_rng _).2⟩, ⟨rfl, (i32_rng _).1, (i32_rng _).2⟩, trivial⟩ g1 j1 (kp := fun _ σ => fr [39, 32013] I1 σ.1) (Fx195 (fun _ I' L' f => f)) (fun v2 I2 L2 g2 j2 r2 q2 => ?_)
  obtain ⟨x2, rfl, -, -⟩ := r2
  have rr := RT_fr (RT_fr hR q1 rfl) q2 rfl
  exact nx _ _ g2 j2 rr
set_option maxHeartbeats 4000000 in
set_option maxRecDepth 20000 in
theorem lwC_32 {d : Nat} (hd : 13 ≤ d) {k : jK} {N : Nat} {xs : Nat → Int32} {i : Int32} {I : jI} {L : jL} (hi0 : 0 ≤ i.toInt) (hi : i.toInt + 6 ≤ (N : Int)) (hN : N ≤ 384) (hG : gG aGI I) (hJ : jJ I) (hR : lR I L) (nx : ∀ I' L', gG aGI I' → jJ I' → lR I' L' → jWB (jWPM d) k (some (N, xs)) jc_law (1423, [some (.inr (901, 0)), some (.inr (0, 0)), some (.inr (31, 0)), some (.inl (.inl i))], [], I', L')) : jWB (jWPM d) k (some (N, xs)) jc_law (1124, [some (.inr (901, 0)), some (.inr (0, 0)), some (.inr (31, 0)), some (.inl (.inl i))], [], I, L) := by
  refine jWB_run [1423] 80 ?_
  conv => whnf
  refine ⟨lw_ix hi0 hi hN (by decide) (by decide), ?_⟩
  conv => whnf
  refine ⟨lw_ix hi0 hi hN (by decide) (by decide), ?_⟩
  conv => whnf
  refine use_jp (jKP_of cT114 (by decide) (by decide)) hd ⟨⟨rfl, rfl, by simp, by simp⟩, ⟨rfl, (i32_rng _).1, (i32_rng _).2⟩, ⟨rfl, (i32_rng _).1, (i32_rng _).2⟩, trivial⟩ hG hJ (kp := fun _ σ => fr [12, 1013, 1014] I σ.1) (Fx100 (fun _ I' L' f => f)) (fun v1 I1 L1 g1 j1 r1 q1 => ?_)
  obtain ⟨x1, rfl, -, -⟩ := r1
  conv => whnf
  refine ⟨lw_ix hi0 hi hN (by decide) (by decide), ?_⟩
  conv => whnf
  refine ⟨lw_ix hi0 hi hN (by decide) (by decide), ?_⟩
  conv => whnf
  refine use_jp (jKP_of cT174 (by decide) (by decide)) hd ⟨⟨rfl, rfl, by simp, by simp⟩, ⟨rfl, (i32_rng _).1, (i32_rng _).2⟩, ⟨rfl, (i32_rng _).1, (i32_rng _).2⟩, trivial⟩ g1 j1 (kp := fun _ σ => fr [39, 32010, 32013] I1 σ.1) (Fx196 (fun _ I' L' f => f)) (fun v2 I2 L2 g2 j2 r2 q2 => ?_)
  obtain ⟨x2, rfl, -, -⟩ := r2
  have rr := RT_fr (RT_fr hR q1 rfl) q2 rfl
  exact nx _ _ g2 j2 rr
set_option maxHeartbeats 4000000 in
set_option maxRecDepth 20000 in
theorem lwC_33 {d : Nat} (hd : 13 ≤ d) {k : jK} {N : Nat} {xs : Nat → Int32} {i : Int32} {I : jI} {L : jL} (hi0 : 0 ≤ i.toInt) (hi : i.toInt + 6 ≤ (N : Int)) (hN : N ≤ 384) (hG : gG aGI I) (hJ : jJ I) (hR : lR I L) (nx : ∀ I' L', gG aGI I' → jJ I' → lR I' L' → jWB (jWPM d) k (some (N, xs)) jc_law (1423, [some (.inr (901, 0)), some (.inr (0, 0)), some (.inr (31, 0)), some (.inl (.inl i))], [], I', L')) : jWB (jWPM d) k (some (N, xs)) jc_law (1157, [some (.inr (901, 0)), some (.inr (0, 0)), some (.inr (31, 0)), some (.inl (.inl i))], [], I, L) := by
  refine jWB_run [1423] 80 ?_
  conv => whnf
  refine ⟨lw_ix hi0 hi hN (by decide) (by decide), ?_⟩
  conv => whnf
  refine ⟨lw_ix hi0 hi hN (by decide) (by decide), ?_⟩
  conv => whnf
  refine ⟨lw_ix hi0 hi hN (by decide) (by decide), ?_⟩
  conv => whnf
  refine use_jp (jKP_of cT115 (by decide) (by decide)) hd ⟨⟨rfl, rfl, by simp, by simp⟩, ⟨rfl, (i32_rng _).1, (i32_rng _).2⟩, ⟨rfl, (i32_rng _).1, (i32_rng _).2⟩, ⟨rfl, (i32_rng _).1, (i32_rng _).2⟩, trivial⟩ hG hJ (kp := fun _ σ => fr [] I σ.1) (Fx101 (fun _ I' L' f => f)) (fun v1 I1 L1 g1 j1 r1 q1 => ?_)
  obtain ⟨x1, rfl, -, -⟩ := r1
  conv => whnf
  refine ⟨lw_ix hi0 hi hN (by decide) (by decide), ?_⟩
  conv => whnf
  refine ⟨lw_ix hi0 hi hN (by decide) (by decide), ?_⟩
  conv => whnf
  refine ⟨lw_ix hi0 hi hN (by decide) (by decide), ?_⟩
  conv => whnf
  refine use_jp (jKP_of cT175 (by decide) (by decide)) hd ⟨⟨rfl, rfl, by simp, by simp⟩, ⟨rfl, (i32_rng _).1, (i32_rng _).2⟩, ⟨rfl, (i32_rng _).1, (i32_rng _).2⟩, ⟨rfl, (i32_rng _).1, (i32_rng _).2⟩, trivial⟩ g1 j1 (kp := fun _ σ => fr [] I1 σ.1) (Fx197 (fun _ I' L' f => f)) (fun v2 I2 L2 g2 j2 r2 q2 => ?_)
  obtain ⟨x2, rfl, -, -⟩ := r2
  have rr := RT_fr (RT_fr hR q1 rfl) q2 rfl
  exact nx _ _ g2 j2 rr
set_option maxHeartbeats 4000000 in
set_option maxRecDepth 20000 in
theorem lwC_34 {d : Nat} (hd : 13 ≤ d) {k : jK} {N : Nat} {xs : Nat → Int32} {i : Int32} {I : jI} {L : jL} (hi0 : 0 ≤ i.toInt) (hi : i.toInt + 6 ≤ (N : Int)) (hN : N ≤ 384) (hG : gG aGI I) (hJ : jJ I) (hR : lR I L) (nx : ∀ I' L', gG aGI I' → jJ I' → lR I' L' → jWB (jWPM d) k (some (N, xs)) jc_law (1423, [some (.inr (901, 0)), some (.inr (0, 0)), some (.inr (31, 0)), some (.inl (.inl i))], [], I', L')) : jWB (jWPM d) k (some (N, xs)) jc_law (1200, [some (.inr (901, 0)), some (.inr (0, 0)), some (.inr (31, 0)), some (.inl (.inl i))], [], I, L) := by
  refine jWB_run [1423] 80 ?_
  conv => whnf
  refine ⟨lw_ix hi0 hi hN (by decide) (by decide), ?_⟩
  conv => whnf
  refine use_jp (jKP_of cT116 (by decide) (by decide)) hd ⟨⟨rfl, rfl, by simp, by simp⟩, ⟨rfl, (i32_rng _).1, (i32_rng _).2⟩, trivial⟩ hG hJ (kp := fun _ σ => fr [10, 1014] I σ.1) (Fx102 hG (fun _ I' L' f => f)) (fun v1 I1 L1 g1 j1 r1 q1 => ?_)
  obtain ⟨x1, rfl, -, -⟩ := r1
  conv => whnf
  refine ⟨lw_ix hi0 hi hN (by decide) (by decide), ?_⟩
  conv => whnf
  refine use_jp (jKP_of cT181 (by decide) (by decide)) hd ⟨⟨rfl, rfl, by simp, by simp⟩, ⟨rfl, (i32_rng _).1, (i32_rng _).2⟩, trivial⟩ g1 j1 (kp := fun _ σ => fr [41, 32010] I1 σ.1) (Fx203 (fun _ I' L' f => f)) (fun v2 I2 L2 g2 j2 r2 q2 => ?_)
  obtain ⟨x2, rfl, -, -⟩ := r2
  have rr := RT_fr (RT_fr hR q1 rfl) q2 rfl
  exact nx _ _ g2 j2 rr
set_option maxHeartbeats 4000000 in
set_option maxRecDepth 20000 in
theorem lwC_35 {d : Nat} (hd : 13 ≤ d) {k : jK} {N : Nat} {xs : Nat → Int32} {i : Int32} {I : jI} {L : jL} (hi0 : 0 ≤ i.toInt) (hi : i.toInt + 6 ≤ (N : Int)) (hN : N ≤ 384) (hG : gG aGI I) (hJ : jJ I) (hR : lR I L) (nx : ∀ I' L', gG aGI I' → jJ I' → lR I' L' → jWB (jWPM d) k (some (N, xs)) jc_law (1423, [some (.inr (901, 0)), some (.inr (0, 0)), some (.inr (31, 0)), some (.inl (.inl i))], [], I', L')) : jWB (jWPM d) k (some (N, xs)) jc_law (1223, [some (.inr (901, 0)), some (.inr (0, 0)), some (.inr (31, 0)), some (.inl (.inl i))], [], I, L) := by
  refine jWB_run [1423] 80 ?_
  conv => whnf
  refine ⟨lw_ix hi0 hi hN (by decide) (by decide), ?_⟩
  conv => whnf
  refine ⟨lw_ix hi0 hi hN (by decide) (by decide), ?_⟩
  conv => whnf
  refine use_jp (jKP_of cT194 (by decide) (by decide)) hd ⟨⟨rfl, rfl, by simp, by simp⟩, ⟨rfl, (i32_rng _).1, (i32_rng _).2⟩, ⟨rfl, (i32_rng _).1, (i32_rng _).2⟩, trivial⟩ hG hJ (kp := fun _ σ => fr [] I σ.1) (Fx103 (fun _ I' L' f => f)) (fun v1 I1 L1 g1 j1 r1 q1 => ?_)
  obtain ⟨x1, rfl, -, -⟩ := r1
  conv => whnf
  refine ⟨lw_ix hi0 hi hN (by decide) (by decide), ?_⟩
  conv => whnf
  refine ⟨lw_ix hi0 hi hN (by decide) (by decide), ?_⟩
  conv => whnf
  refine use_jp (jKP_of hK_modds (by decide) (by decide)) hd ⟨⟨rfl, rfl, by simp, by simp⟩, ⟨rfl, (i32_rng _).1, (i32_rng _).2⟩, ⟨rfl, (i32_rng _).1, (i32_rng _).2⟩, trivial⟩ g1 j1 (kp := fun _ σ => fr [] I1 σ.1) (Fx205 (fun _ I' L' f => f)) (fun v2 I2 L2 g2 j2 r2 q2 => ?_)
  obtain ⟨x2, rfl, -, -⟩ := r2
  have rr := RT_fr (RT_fr hR q1 rfl) q2 rfl
  exact nx _ _ g2 j2 rr
set_option maxHeartbeats 4000000 in
set_option maxRecDepth 20000 in
theorem lwC_36 {d : Nat} (hd : 13 ≤ d) {k : jK} {N : Nat} {xs : Nat → Int32} {i : Int32} {I : jI} {L : jL} (hi0 : 0 ≤ i.toInt) (hi : i.toInt + 6 ≤ (N : Int)) (hN : N ≤ 384) (hG : gG aGI I) (hJ : jJ I) (hR : lR I L) (nx : ∀ I' L', gG aGI I' → jJ I' → lR I' L' → jWB (jWPM d) k (some (N, xs)) jc_law (1423, [some (.inr (901, 0)), some (.inr (0, 0)), some (.inr (31, 0)), some (.inl (.inl i))], [], I', L')) : jWB (jWPM d) k (some (N, xs)) jc_law (1256, [some (.inr (901, 0)), some (.inr (0, 0)), some (.inr (31, 0)), some (.inl (.inl i))], [], I, L) := by
  refine jWB_run [1423] 80 ?_
  conv => whnf
  refine ⟨lw_ix hi0 hi hN (by decide) (by decide), ?_⟩
  conv => whnf
  refine use_jp (jKP_of cT195 (by decide) (by decide)) hd ⟨⟨rfl, rfl, by simp, by simp⟩, ⟨rfl, (i32_rng _).1, (i32_rng _).2⟩, trivial⟩ hG hJ (kp := fun _ σ => fr [] I σ.1) (Fx104 (fun _ I' L' f => f)) (fun v1 I1 L1 g1 j1 r1 q1 => ?_)
  obtain ⟨x1, rfl, -, -⟩ := r1
  conv => whnf
  refine ⟨lw_ix hi0 hi hN (by decide) (by decide), ?_⟩
  conv => whnf
  refine use_jp (jKP_of hK_mmid (by decide) (by decide)) hd ⟨⟨rfl, rfl, by simp, by simp⟩, ⟨rfl, (i32_rng _).1, (i32_rng _).2⟩, trivial⟩ g1 j1 (kp := fun _ σ => fr [] I1 σ.1) (Fx206 (fun _ I' L' f => f)) (fun v2 I2 L2 g2 j2 r2 q2 => ?_)
  obtain ⟨x2, rfl, -, -⟩ := r2
  have rr := RT_fr (RT_fr hR q1 rfl) q2 rfl
  exact nx _ _ g2 j2 rr
