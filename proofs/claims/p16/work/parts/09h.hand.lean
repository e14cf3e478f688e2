theorem gR_mono {W W' : List aR} {I0 I : Nat → Nat → Nat → Int32} {L0 L : Nat → Nat → Nat → Int64} (h : gR W I0 L0 I L) (hw : ∀ r ∈ W, r ∈ W') : gR W' I0 L0 I L := fun g i j hn => h g i j (fun ⟨r, hr, q⟩ => hn ⟨r, hw r hr, q⟩)
/-- every rectangle lies in one of the others -/
noncomputable def rIn (W W' : List aR) : Bool := W.all (fun r => W'.any (fun s => Nat.beq r.1 s.1 && decide (s.2.1.1 ≤ r.2.1.1) && decide (r.2.1.2 ≤ s.2.1.2) && decide (s.2.2.1 ≤ r.2.2.1) && decide (r.2.2.2 ≤ s.2.2.2)))
theorem gR_in {W W' : List aR} {I0 I : Nat → Nat → Nat → Int32} {L0 L : Nat → Nat → Nat → Int64} (hw : rIn W W' = true) (h : gR W I0 L0 I L) : gR W' I0 L0 I L := fun g i j hn => h g i j (fun ⟨r, hr, q1, q2, q3, q4, q5⟩ => by
  have h1 := List.all_eq_true.mp hw r hr
  obtain ⟨s, hs, h2⟩ := List.any_eq_true.mp h1
  simp only [Bool.and_eq_true, decide_eq_true_eq] at h2
  obtain ⟨⟨⟨⟨a, b⟩, c⟩, d⟩, e⟩ := h2
  exact hn ⟨s, hs, by rw [← Nat.eq_of_beq_eq_true a]; exact q1, by omega, by omega, by omega, by omega⟩)
theorem gR_then {W W1 W2 : List aR} {I0 I I' : Nat → Nat → Nat → Int32} {L0 L L' : Nat → Nat → Nat → Int64} (h : gR W1 I0 L0 I L) (h1 : rIn W1 W = true) (h' : gR W2 I L I' L') (h2 : rIn W2 W = true) : gR W I0 L0 I' L' := gR_cat (gR_in h1 h) (gR_in h2 h')
theorem gR_w {W : List aR} {I0 I : Nat → Nat → Nat → Int32} {L0 L : Nat → Nat → Nat → Int64} {g j : Nat} {x : Int32} {lo hi : Int} (h : gR W I0 L0 I L) (hm : (g, (0, 0), (lo, hi)) ∈ W) (h1 : lo ≤ (j : Int)) (h2 : (j : Int) ≤ hi) : gR W I0 L0 (jup I g 0 j x) L := gR_upI h ⟨_, hm, rfl, by simp, by simp, h1, h2⟩
noncomputable def mfW : List aR := [(31, (0, 0), (13, 13)), (39, (0, 0), (0, 5))]
theorem hd_find {d : Nat} (hd : 1 ≤ d) {f : Int32} {I : Nat → Nat → Nat → Int32} {L : Nat → Nat → Nat → Int64} {k : jK} (h0 : 0 ≤ f.toInt) (h5 : f.toInt ≤ 5) (hG : gG aGI I) (hk : ∀ I', gG aGI I' → gR mfW I L I' L → k (some (.inl (.inl (-3)))) (I', L)) : jWPM d 126 [.inr (31, 0), .inl (.inl f)] (I, L) k := by
  obtain ⟨d, rfl⟩ : ∃ d', d = d' + 1 := ⟨d - 1, by omega⟩
  have hn : (f.toNatClampNeg : Int) = f.toInt := cl_t h0
  refine jWB_run [] 60 ?_
  conv => whnf
  refine ⟨vp_in_iff.mpr (by omega), ?_⟩
  conv => whnf
  refine ⟨vp_in_iff.mpr (by omega), ?_⟩
  conv => whnf
  exact hk _ (gG_up (gG_upn hG (by decide)) (by decide)) (gR_w (gR_w gR_rf (List.mem_cons_self) (by decide) (by decide)) (List.mem_cons_of_mem _ List.mem_cons_self) (by omega) (by omega))
theorem hd_isText {d : Nat} (hd : 2 ≤ d) {t : Int32} {I : Nat → Nat → Nat → Int32} {L : Nat → Nat → Nat → Int64} {k : jK} (h1 : 0 ≤ t.toInt → t.toInt ≤ 3 → k (some (.inl (.inl 1))) (I, L)) (h0 : ¬ (0 ≤ t.toInt ∧ t.toInt ≤ 3) → k (some (.inl (.inl 0))) (I, L)) : jWPM d 129 [.inl (.inl t)] (I, L) k := by
  obtain ⟨d, rfl⟩ : ∃ d', d = d' + 1 := ⟨d - 1, by omega⟩
  have hd : 1 ≤ d := by omega
  refine jWB_run [] 20 ?_
  conv => whnf
  refine hd_in hd (fun a b => ?_) (fun a => ?_)
  · rw [Int32.toInt_toInt64] at a b
    conv => whnf
    exact ⟨Or.inr rfl, h1 (by simpa using a) (by simpa using b)⟩
  · rw [Int32.toInt_toInt64] at a
    conv => whnf
    exact ⟨Or.inl rfl, h0 (fun q => a ⟨by simpa using q.1, by simpa using q.2⟩)⟩
theorem hd_isRow {d : Nat} (hd : 2 ≤ d) {t : Int32} {I : Nat → Nat → Nat → Int32} {L : Nat → Nat → Nat → Int64} {k : jK} (h1 : 0 ≤ t.toInt → t.toInt ≤ 5 → k (some (.inl (.inl 1))) (I, L)) (h0 : ¬ (0 ≤ t.toInt ∧ t.toInt ≤ 5) → k (some (.inl (.inl 0))) (I, L)) : jWPM d 128 [.inl (.inl t)] (I, L) k := by
  obtain ⟨d, rfl⟩ : ∃ d', d = d' + 1 := ⟨d - 1, by omega⟩
  have hd : 1 ≤ d := by omega
  refine jWB_run [] 20 ?_
  conv => whnf
  refine hd_in hd (fun a b => ?_) (fun a => ?_)
  · rw [Int32.toInt_toInt64] at a b
    conv => whnf
    exact ⟨Or.inr rfl, h1 (by simpa using a) (by simpa using b)⟩
  · rw [Int32.toInt_toInt64] at a
    conv => whnf
    exact ⟨Or.inl rfl, h0 (fun q => a ⟨by simpa using q.1, by simpa using q.2⟩)⟩
set_option maxHeartbeats 1000000 in
theorem hK_mfault : aKP aGI 149 ([(2, 31, (0, 0)), (0, 0, ((-2147483648), 2147483647))], (1, ((-9), 60)), rdW ++ mfW, 8) := by
  intro d hd as I0 L0 has hG k hk
  obtain ⟨d, rfl⟩ : ∃ d', d = d' + 1 := ⟨d - 1, by simp at hd; omega⟩
  have hd : 7 ≤ d := by simp at hd; omega
  dsimp only at hk
  match as, has with
  | [.inr (g0, n0), .inl (.inl t)], has =>
    obtain ⟨⟨-, e1, e2, e3⟩, -⟩ := has
    dsimp only at e1 e2 e3
    obtain rfl : n0 = 0 := by omega
    subst e1
    refine jWB_run [] 60 ?_
    conv => whnf
    refine hd_isText (Nat.le_trans (by decide) hd) (fun a b => ?_) (fun a => ?_)
    · conv => whnf
      refine ⟨fun _ => ?_, fun h => absurd h (by decide)⟩
      conv => whnf
      refine ⟨vp_in_iff.mpr (by omega), ?_⟩
      conv => whnf
      refine ⟨fun q => ?_, fun q => ?_⟩
      · rw [le_t] at q
        conv => whnf
        refine hd_faultOf (Nat.le_trans (by decide) hd) hG a b (by simpa using q) (fun I' v g1 g2 g3 g4 g5 => ?_)
        exact hk _ _ _ g1 (gR_in (by decide) g2) ⟨v, rfl, g4, g5⟩
      · conv => whnf
        refine hd_find (Nat.le_trans (by decide) hd) (by decide) (by decide) hG (fun I' g1 g2 => ?_)
        exact hk _ _ _ g1 (gR_in (by decide) g2) ⟨-3, rfl, by decide, by decide⟩
    · conv => whnf
      refine ⟨fun h => absurd rfl h, fun h => hk _ _ _ hG gR_rf ⟨-1, rfl, by decide, by decide⟩⟩
theorem gi32 : ∀ e ∈ aGI, e.1 = 32 → (e.2.2.1 = (0, 0) ∧ e.2.2.2 = (0, 40)) ∨ ((e.2.2.1 = (1149, 1149) ∨ e.2.2.1 = (2298, 2298) ∨ e.2.2.1 = (3447, 3447)) ∧ e.2.2.2 = (-1, 40)) := by decide
theorem gi32_0 {I : Nat → Nat → Nat → Int32} (h : gG aGI I) : 0 ≤ (I 32 0 0).toInt ∧ (I 32 0 0).toInt ≤ 40 := h (32, (0, 0), (0, 0), (0, 40)) (by decide) 0 0 (by decide) (by decide) (by decide) (by decide)
theorem gi32_s {I : Nat → Nat → Nat → Int32} (h : gG aGI I) {j : Nat} (hj : j = 1149 ∨ j = 2298 ∨ j = 3447) : -1 ≤ (I 32 0 j).toInt ∧ (I 32 0 j).toInt ≤ 40 := by
  rcases hj with rfl | rfl | rfl
  · exact h (32, (0, 0), (1149, 1149), (-1, 40)) (by decide) 0 1149 (by decide) (by decide) (by decide) (by decide)
  · exact h (32, (0, 0), (2298, 2298), (-1, 40)) (by decide) 0 2298 (by decide) (by decide) (by decide) (by decide)
  · exact h (32, (0, 0), (3447, 3447), (-1, 40)) (by decide) 0 3447 (by decide) (by decide) (by decide) (by decide)
/-- a write into the row: the first cell 0 .. 40, the three others -1 .. 40, the rest free -/
theorem gG_32 {I : Nat → Nat → Nat → Int32} {j : Nat} {x : Int32} (h : gG aGI I) (h0 : j = 0 → 0 ≤ x.toInt ∧ x.toInt ≤ 40) (h1 : j = 1149 ∨ j = 2298 ∨ j = 3447 → -1 ≤ x.toInt ∧ x.toInt ≤ 40) : gG aGI (jup I 32 0 j x) := gG_up1 h (fun e he a b c => by
  rcases gi32 e he a with ⟨p, q⟩ | ⟨p, q⟩
  · rw [p] at b c; rw [q]; exact h0 (by omega)
  · rw [q]
    rcases p with p | p | p <;> rw [p] at b c
    · exact h1 (Or.inl (by omega))
    · exact h1 (Or.inr (Or.inl (by omega)))
    · exact h1 (Or.inr (Or.inr (by omega))))
theorem hd_copyHouse {d : Nat} (hd : 1 ≤ d) {a b : Int32} {I : Nat → Nat → Nat → Int32} {L : Nat → Nat → Nat → Int64} {k : jK} (hG : gG aGI I) (ha0 : 0 ≤ a.toInt) (ha : a.toInt ≤ 3447) (hb : b.toInt = 0 ∨ b.toInt = 1149 ∨ b.toInt = 2298 ∨ b.toInt = 3447) (hab : a.toInt < b.toInt ∨ b.toInt + 1149 ≤ a.toInt) (hv : 0 ≤ (I 32 0 a.toNatClampNeg).toInt ∧ (I 32 0 a.toNatClampNeg).toInt ≤ 40) (hk : ∀ I', gG aGI I' → gR [(32, (0, 0), (b.toInt, b.toInt + 1148))] I L I' L → k none (I', L)) : jWPM d 174 [.inr (31, 0), .inl (.inl a), .inl (.inl b)] (I, L) k := by
  obtain ⟨d, rfl⟩ : ∃ d', d = d' + 1 := ⟨d - 1, by omega⟩
  have hna := cl_t ha0
  have loop : ∀ (N : Nat) (i : Int32) (I' : Nat → Nat → Nat → Int32), 1149 - i.toInt ≤ (N : Int) → 0 ≤ i.toInt → gG aGI I' → gR [(32, (0, 0), (b.toInt, b.toInt + 1148))] I L I' L → jWB (jWPM d) k none (jco 174) (2, [some (.inr (31, 0)), some (.inl (.inl a)), some (.inl (.inl b)), some (.inl (.inl i))], [], I', L) := by
    intro N
    induction N with
    | zero =>
      intro i I' h1 h2 h3 h4
      refine jWB_run [2] 30 ?_
      conv => whnf
      refine ⟨fun q => hk _ h3 h4, fun q => ?_⟩
      rw [le_t] at q; exfalso; simp at q; omega
    | succ N ih =>
      intro i I' h1 h2 h3 h4
      refine jWB_run [2] 30 ?_
      conv => whnf
      refine ⟨fun q => hk _ h3 h4, fun q => ?_⟩
      have q : i.toInt < 1149 := by rw [le_t] at q; simp at q; omega
      have ea : (a + i).toInt = a.toInt + i.toInt := i32_add (by omega)
      have eb : (b + i).toInt = b.toInt + i.toInt := i32_add (by omega)
      have ei : (i + 1).toInt = i.toInt + 1 := by rw [i32_add (by simp; omega)]; simp
      have na := cl_t (x := a + i) (by omega)
      have nb := cl_t (x := b + i) (by omega)
      conv => whnf
      refine ⟨vp_in_iff.mpr (by omega), ?_⟩
      conv => whnf
      refine ⟨vp_in_iff.mpr (by omega), ?_⟩
      refine ih (i + 1) _ (by omega) (by omega) ?_ (gR_w h4 List.mem_cons_self (by omega) (by omega))
      have hz : i.toInt = 0 → 0 ≤ (I' 32 0 (a + i).toNatClampNeg).toInt ∧ (I' 32 0 (a + i).toNatClampNeg).toInt ≤ 40 := by
        intro hi
        have : (a + i).toNatClampNeg = a.toNatClampNeg := by omega
        rw [this, (h4 32 0 a.toNatClampNeg (fun ⟨r, hr, z1, z2, z3, z4, z5⟩ => by
          obtain rfl := List.mem_singleton.mp hr
          dsimp only at z4 z5; omega)).1]
        exact hv
      refine gG_32 h3 (fun z => hz (by omega)) (fun z => ?_)
      have := hz (by omega)
      omega
  refine jWB_run [2] 30 ?_
  exact loop 1149 0 I (by decide) (by decide) hG gR_rf
set_option maxHeartbeats 1000000 in
theorem hK_mkeep : aKP aGI 175 ([(2, 31, (0, 0)), (0, 0, ((-2147483648), 2147483647))], (1, ((-4), 40)), [(32, (0, 0), (1149, 4595))], 4) := by
  intro d hd as I0 L0 has hG k hk
  obtain ⟨d, rfl⟩ : ∃ d', d = d' + 1 := ⟨d - 1, by simp at hd; omega⟩
  have hd : 3 ≤ d := by simp at hd; omega
  dsimp only at hk
  match as, has with
  | [.inr (g0, n0), .inl (.inl t)], has =>
    obtain ⟨⟨-, e1, e2, e3⟩, -⟩ := has
    dsimp only at e1 e2 e3
    obtain rfl : n0 = 0 := by omega
    subst e1
    refine jWB_run [] 60 ?_
    conv => whnf
    refine hd_in (Nat.le_trans (by decide) hd) (fun a b => ?_) (fun a => ?_)
    · rw [Int32.toInt_toInt64] at a b
      have a : 0 ≤ t.toInt := by simpa using a
      have b : t.toInt ≤ 2 := by simpa using b
      have et : (1149 * (1 + t)).toInt = 1149 * (1 + t.toInt) := by
        have : (1 + t).toInt = 1 + t.toInt := by rw [i32_add (by simp; omega)]; simp
        rw [i32_mul (by rw [this]; simp; omega), this]; simp
      conv => whnf
      refine ⟨fun _ => ?_, fun h => absurd h (by decide)⟩
      conv => whnf
      refine ⟨fun q => ?_, fun q => hk _ _ _ hG gR_rf ⟨-4, rfl, by decide, by decide⟩⟩
      conv => whnf
      refine hd_copyHouse (Nat.le_trans (by decide) hd) hG (by decide) (by decide) (by omega) (Or.inl (by rw [et]; simp; omega)) (gi32_0 hG) (fun I' g1 g2 => ?_)
      conv => whnf
      have h0 := gi32_0 g1
      refine ⟨vp_in_iff.mpr (by decide), hk _ _ _ g1 (fun g i j hn => g2 g i j (fun ⟨r, hr, z1, z2, z3, z4, z5⟩ => hn ?_)) ⟨_, rfl, by simp; omega, by simp; omega⟩⟩
      obtain rfl := List.mem_singleton.mp hr
      exact ⟨_, List.mem_cons_self, z1, z2, z3, by dsimp only at z4 ⊢; omega, by dsimp only at z5 ⊢; omega⟩
    · conv => whnf
      refine ⟨fun h => absurd rfl h, fun h => hk _ _ _ hG gR_rf ⟨-1, rfl, by decide, by decide⟩⟩
set_option maxHeartbeats 1000000 in
theorem hK_mon : aKP aGI 176 ([(2, 31, (0, 0)), (0, 0, ((-2147483648), 2147483647))], (1, ((-4), 40)), (32, (0, 0), (0, 1148)) :: mfW, 4) := by
  intro d hd as I0 L0 has hG k hk
  obtain ⟨d, rfl⟩ : ∃ d', d = d' + 1 := ⟨d - 1, by simp at hd; omega⟩
  have hd : 3 ≤ d := by simp at hd; omega
  dsimp only at hk
  match as, has with
  | [.inr (g0, n0), .inl (.inl t)], has =>
    obtain ⟨⟨-, e1, e2, e3⟩, -⟩ := has
    dsimp only at e1 e2 e3
    obtain rfl : n0 = 0 := by omega
    subst e1
    refine jWB_run [] 60 ?_
    conv => whnf
    refine hd_in (Nat.le_trans (by decide) hd) (fun a b => ?_) (fun a => ?_)
    · rw [Int32.toInt_toInt64] at a b
      have a : 0 ≤ t.toInt := by simpa using a
      have b : t.toInt ≤ 2 := by simpa using b
      have et : (1149 * (1 + t)).toInt = 1149 * (1 + t.toInt) := by
        have : (1 + t).toInt = 1 + t.toInt := by rw [i32_add (by simp; omega)]; simp
        rw [i32_mul (by rw [this]; simp; omega), this]; simp
      have et0 : 1149 * (1 + t) + 0 = 1149 * (1 + t) := Int32.add_zero _
      have nt := cl_t (x := 1149 * (1 + t)) (by omega)
      conv => whnf
      refine ⟨fun _ => ?_, fun h => absurd h (by decide)⟩
      conv => whnf
      rw [et0]
      refine ⟨vp_in_iff.mpr (by omega), ?_⟩
      conv => whnf
      refine ⟨fun q => ?_, fun q => ?_⟩
      · rw [le_t] at q
        have q : 0 ≤ (I0 32 0 (1149 * (1 + t)).toNatClampNeg).toInt := by simpa using q
        have q2 := gi32_s hG (j := (1149 * (1 + t)).toNatClampNeg) (by omega)
        conv => whnf
        refine hd_copyHouse (Nat.le_trans (by decide) hd) hG (by omega) (by omega) (Or.inl (by decide)) (Or.inr (by rw [et]; simp; omega)) ⟨q, q2.2⟩ (fun I' g1 g2 => ?_)
        conv => whnf
        have h0 := gi32_0 g1
        exact ⟨vp_in_iff.mpr (by decide), hk _ _ _ g1 (gR_mono g2 (fun r hr => by obtain rfl := List.mem_singleton.mp hr; exact List.mem_cons_self)) ⟨_, rfl, by simp; omega, by simp; omega⟩⟩
      · conv => whnf
        refine hd_find (Nat.le_trans (by decide) hd) (by decide) (by decide) hG (fun I' g1 g2 => ?_)
        exact hk _ _ _ g1 (gR_in (by decide) g2) ⟨-3, rfl, by decide, by decide⟩
    · conv => whnf
      refine ⟨fun h => absurd rfl h, fun h => hk _ _ _ hG gR_rf ⟨-1, rfl, by decide, by decide⟩⟩
