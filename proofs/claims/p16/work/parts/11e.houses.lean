theorem taW_out {a : Nat} {I I' : Nat → Nat → Nat → Int32} {L L' : Nat → Nat → Nat → Int64} (h : gR (taW a) I L I' L') {g x j : Nat} (hx : x ≠ a) : I' g x j = I g x j := (h g x j (fun ⟨r, hr, q1, q2, q3, _, _⟩ => by
  simp only [taW, tsW, List.mem_cons, List.not_mem_nil, or_false] at hr
  rcases hr with rfl | rfl | rfl | rfl | rfl | rfl | rfl <;> (simp at q2 q3; omega))).1
theorem hd_names2 {d : Nat} (hd : 1 ≤ d) {r : Int32} {I : Nat → Nat → Nat → Int32} {L : Nat → Nat → Nat → Int64} {k : jK} (h1 : 0 ≤ r.toInt → r.toInt ≤ 3 → k (some (.inl (.inl 1))) (I, L)) (h0 : ¬ (0 ≤ r.toInt ∧ r.toInt ≤ 3) → k (some (.inl (.inl 0))) (I, L)) : jWPM d 15 [.inr (2, 0), .inl (.inl r)] (I, L) k := by
  obtain ⟨d, rfl⟩ : ∃ d', d = d' + 1 := ⟨d - 1, by omega⟩
  refine jWB_run [] 60 ?_
  conv => whnf
  refine ⟨fun q => ?_, fun q => ?_⟩
  · rw [lt_t] at q
    have q : r.toInt < 0 := by simpa using q
    conv => whnf
    exact ⟨Or.inl rfl, h0 (by omega)⟩
  · rw [lt_t] at q
    have q : ¬ r.toInt < 0 := by simpa using q
    conv => whnf
    refine ⟨fun q2 => ?_, fun q2 => ?_⟩
    · have q2 : 4 ≤ r.toInt := le_t.mp q2
      conv => whnf
      exact ⟨Or.inl rfl, h0 (by omega)⟩
    · have q2 : ¬ 4 ≤ r.toInt := fun z => q2 (le_t.mpr z)
      conv => whnf
      exact ⟨Or.inr rfl, h1 (by omega) (by omega)⟩
theorem hd_isThere2 {d : Nat} (hd : 1 ≤ d) {r : Int32} {I : Nat → Nat → Nat → Int32} {L : Nat → Nat → Nat → Int64} {k : jK} (hr0 : 0 ≤ r.toInt) (hr5 : r.toInt ≤ 3) (h1 : k (some (.inl (.inl 1))) (I, L)) (h0 : k (some (.inl (.inl 0))) (I, L)) : jWPM d 16 [.inr (2, 0), .inl (.inl r)] (I, L) k := by
  obtain ⟨d, rfl⟩ : ∃ d', d = d' + 1 := ⟨d - 1, by omega⟩
  refine jWB_run [] 60 ?_
  conv => whnf
  refine ⟨vp_in_iff.mpr (by omega), ?_⟩
  conv => whnf
  exact ⟨fun _ => ⟨Or.inl rfl, h0⟩, fun _ => ⟨Or.inr rfl, h1⟩⟩
theorem jJ_keep {I I' : Nat → Nat → Nat → Int32} {L L' : Nat → Nat → Nat → Int64} {n : Nat} (hn : n ≤ 2) (hG : gG aGI I) (h : jJ I) (hR : gR (taW (2 + n)) I L I' L') (h1 : ∀ j, j < 6 → I' 19 (2 + n) j = I 19 1 j) (h2 : I' 4 (2 + n) 15 = I 4 1 15) (h3 : ∀ j, j < 40 → I' 22 (2 + n) j = I 22 1 j) (x : Int32) : jJ (jup I' 6 0 n x) := by
  have o : ∀ g x j : Nat, x ≠ 2 + n → I' g x j = I g x j := fun g x j hx => taW_out hR hx
  have u : ∀ g i j : Nat, ¬ g = 6 → jup I' 6 0 n x g i j = I' g i j := fun g i j hg => jup_of (fun z => hg z.1)
  have b1 := (gi_deeds hG (x := 1) (by omega)).2
  refine ⟨?_, ?_, ?_, fun k hk q => ?_⟩
  · rw [u _ _ _ (by decide), o _ _ _ (by omega)]; exact h.1
  · rw [u _ _ _ (by decide), o _ _ _ (by omega)]; exact h.2.1
  · exact hJ_cells b1 h.2.2.1 (by rw [u _ _ _ (by decide), o _ _ _ (by omega)]) (fun e _ => by rw [u _ _ _ (by decide), o _ _ _ (by omega)]) (fun e _ => by rw [u _ _ _ (by decide), o _ _ _ (by omega)]) (fun e _ => by rw [u _ _ _ (by decide), o _ _ _ (by omega)])
  · by_cases e : k = n
    · subst e
      exact hJ_cells b1 h.2.2.1 (by rw [u _ _ _ (by decide), h2]) (fun e he => by rw [u _ _ _ (by decide), h3 e he]) (fun e he => by rw [u _ _ _ (by decide), h1 e he]) (fun e _ => by rw [u _ _ _ (by decide), o _ _ _ (by omega)])
    · rw [jup_of (fun z => e z.2.2), o _ _ _ (by omega)] at q
      exact hJ_cells (gi_deeds hG (by omega)).2 (h.2.2.2 k hk q) (by rw [u _ _ _ (by decide), o _ _ _ (by omega)]) (fun e _ => by rw [u _ _ _ (by decide), o _ _ _ (by omega)]) (fun e _ => by rw [u _ _ _ (by decide), o _ _ _ (by omega)]) (fun e _ => by rw [u _ _ _ (by decide), o _ _ _ (by omega)])
theorem jJ_on {I I' : Nat → Nat → Nat → Int32} {L L' : Nat → Nat → Nat → Int64} {n : Nat} (hn : n ≤ 2) (hG : gG aGI I) (h : jJ I) (hq : ¬ I 6 0 n = 0) (hR : gR (taW 1) I L I' L') (h1 : ∀ j, j < 6 → I' 19 1 j = I 19 (2 + n) j) (h2 : I' 4 1 15 = I 4 (2 + n) 15) (h3 : ∀ j, j < 40 → I' 22 1 j = I 22 (2 + n) j) : jJ I' := by
  have o : ∀ g x j : Nat, x ≠ 1 → I' g x j = I g x j := fun g x j hx => taW_out hR hx
  refine ⟨?_, ?_, ?_, fun k hk q => ?_⟩
  · rw [o _ _ _ (by omega)]; exact h.1
  · rw [o _ _ _ (by omega)]; exact h.2.1
  · exact hJ_cells (gi_deeds hG (by omega)).2 (h.2.2.2 n hn hq) h2 h3 h1 (fun e _ => o _ _ _ (by omega))
  · rw [o _ _ _ (by omega)] at q
    exact hJ_cells (gi_deeds hG (by omega)).2 (h.2.2.2 k hk q) (o _ _ _ (by omega)) (fun e _ => o _ _ _ (by omega)) (fun e _ => o _ _ _ (by omega)) (fun e _ => o _ _ _ (by omega))
theorem gi6 : ∀ e ∈ aGI, e.1 = 6 → e.2.2.2 = (0, 1) := by decide
set_option maxHeartbeats 1000000 in
theorem jK_keep : jKP 87 [(2, 0, (0, 0)), (0, 0, anyI)] (1, anyI) := by
  intro d hd as I L has hG hJ k hk
  obtain ⟨d, rfl⟩ : ∃ d', d = d' + 1 := ⟨d - 1, by omega⟩
  have hd : 12 ≤ d := by omega
  match as, has with
  | [.inr (g0, n0), .inl (.inl n)], has =>
    obtain ⟨⟨-, e1, e2, e3⟩, -⟩ := has
    dsimp only at e1 e2 e3
    obtain rfl : n0 = 0 := by omega
    subst e1
    have same : ∀ x : Int32, k (some (.inl (.inl x))) (I, L) := fun x => hk _ _ _ hG hJ (any_ok x)
    refine jWB_run [] 60 ?_
    conv => whnf
    refine ⟨fun _ => same _, fun q1 => ⟨fun q2 => ?_, fun _ => same _⟩⟩
    have q1 : ¬ n.toInt < 0 := fun z => q1 (lt_t.mpr z)
    have q2 : n.toInt < 3 := lt_t.mp q2
    have nn := cl_t (x := n) (by omega)
    conv => whnf
    refine ⟨fun _ => ?_, fun _ => same _⟩
    conv => whnf
    refine ⟨vp_in_iff.mpr (by omega), ?_⟩
    conv => whnf
    refine hd_takeAll (Nat.le_trans (by decide) hd) (a := 2 + n.toNatClampNeg) (b := 1) (by omega) (by omega) (by omega) hG (fun I1 g1 g2 g3 g4 g5 => ?_)
    conv => whnf
    refine ⟨vp_in_iff.mpr (by omega), ?_⟩
    refine hk _ _ _ (gG_up1 g1 (fun e he a _ _ => ?_)) (jJ_keep (n := n.toNatClampNeg) (by omega) hG hJ g2 g3 g4 g5 _) (any_ok _)
    rw [gi6 e he a]; decide
set_option maxHeartbeats 1000000 in
theorem jK_on : jKP 88 [(2, 0, (0, 0)), (0, 0, anyI)] (1, anyI) := by
  intro d hd as I L has hG hJ k hk
  obtain ⟨d, rfl⟩ : ∃ d', d = d' + 1 := ⟨d - 1, by omega⟩
  have hd : 12 ≤ d := by omega
  match as, has with
  | [.inr (g0, n0), .inl (.inl n)], has =>
    obtain ⟨⟨-, e1, e2, e3⟩, -⟩ := has
    dsimp only at e1 e2 e3
    obtain rfl : n0 = 0 := by omega
    subst e1
    have same : ∀ x : Int32, k (some (.inl (.inl x))) (I, L) := fun x => hk _ _ _ hG hJ (any_ok x)
    refine jWB_run [] 60 ?_
    conv => whnf
    refine ⟨fun _ => same _, fun q1 => ⟨fun q2 => ?_, fun _ => same _⟩⟩
    have q1 : ¬ n.toInt < 0 := fun z => q1 (lt_t.mpr z)
    have q2 : n.toInt < 3 := lt_t.mp q2
    have nn := cl_t (x := n) (by omega)
    conv => whnf
    refine ⟨vp_in_iff.mpr (by omega), ?_⟩
    conv => whnf
    refine ⟨fun q3 => ?_, fun _ => ?_⟩
    · conv => whnf
      refine ⟨vp_in_iff.mpr (by omega), ?_⟩
      conv => whnf
      refine hd_takeAll (Nat.le_trans (by decide) hd) (a := 1) (b := 2 + n.toNatClampNeg) (by omega) (by omega) (by omega) hG (fun I1 g1 g2 g3 g4 g5 => ?_)
      exact hk _ _ _ g1 (jJ_on (n := n.toNatClampNeg) (by omega) hG hJ q3 g2 g3 g4 g5) (any_ok _)
    · conv => whnf
      refine hd_cfind (Nat.le_trans (by decide) hd) (by decide) (by decide) hG (fun I1 g1 g2 => ?_)
      exact hk _ _ _ g1 (jJ_frame (by decide) hG hJ g2) (any_ok _)
theorem jJ_house {I1 I2 I3 : Nat → Nat → Nat → Int32} {L L' L'' : Nat → Nat → Nat → Int64} (h : I1 4 5 15 = 0) (hR : gR (taW 0) I1 L I2 L') (h2 : I2 4 0 15 = I1 4 5 15) (hR' : gR (taW 1) I2 L' I3 L'') (h3 : ∀ j, j < 6 → I3 19 1 j = I2 19 0 j) (h4 : I3 4 1 15 = I2 4 0 15) : jJ (jup (jup (jup I3 6 0 0 0) 6 0 1 0) 6 0 2 0) := by
  have u : ∀ g i j : Nat, ¬ g = 6 → jup (jup (jup I3 6 0 0 0) 6 0 1 0) 6 0 2 0 g i j = I3 g i j := fun g i j hg => by rw [jup_of (fun z => hg z.1), jup_of (fun z => hg z.1), jup_of (fun z => hg z.1)]
  have e1 : I3 4 1 15 = 0 := by rw [h4, h2, h]
  have e0 : I3 4 0 15 = 0 := by rw [taW_out hR' (by decide), h2, h]
  refine ⟨?_, ?_, ⟨fun e he => ?_, fun i hi => ?_⟩, fun k hk q => ?_⟩
  · rw [u _ _ _ (by decide)]; exact e0
  · rw [u _ _ _ (by decide), taW_out hR' (by decide), taW_out hR (by decide)]; exact h
  · rw [u _ _ _ (by decide), e1] at he
    have : (e : Int) < 0 := he
    omega
  · rw [u _ _ _ (by decide), u _ _ _ (by decide), u _ _ _ (by decide), e1, h3 i (by omega), taW_out hR' (g := 19) (x := 0) (by decide)]
    exact Int.add_zero _
  · refine absurd ?_ q
    have : k = 0 ∨ k = 1 ∨ k = 2 := by omega
    rcases this with rfl | rfl | rfl <;> rfl
set_option maxHeartbeats 1000000 in
theorem jK_house : jKP 77 [(2, 0, (0, 0)), (0, 0, anyI)] (1, anyI) := by
  intro d hd as I L has hG hJ k hk
  obtain ⟨d, rfl⟩ : ∃ d', d = d' + 1 := ⟨d - 1, by omega⟩
  have hd : 12 ≤ d := by omega
  match as, has with
  | [.inr (g0, n0), .inl (.inl n)], has =>
    obtain ⟨⟨-, e1, e2, e3⟩, -⟩ := has
    dsimp only at e1 e2 e3
    obtain rfl : n0 = 0 := by omega
    subst e1
    have same : ∀ x : Int32, k (some (.inl (.inl x))) (I, L) := fun x => hk _ _ _ hG hJ (any_ok x)
    have s50 : ∀ I1 L1, gG aGI I1 → jJ I1 → jWB (jWPM d) k none (jco 77) (50, [some (.inr (0, 0)), some (.inl (.inl n)), none], [], I1, L1) := by
      intro I1 L1 g1 j1
      refine jWB_run [] 60 ?_
      conv => whnf
      refine hd_takeAll (Nat.le_trans (by decide) hd) (a := 0) (b := 5) (by decide) (by decide) (by decide) g1 (fun I2 a1 a2 a3 a4 a5 => ?_)
      conv => whnf
      refine hd_takeAll (Nat.le_trans (by decide) hd) (a := 1) (b := 0) (by decide) (by decide) (by decide) a1 (fun I3 b1 b2 b3 b4 b5 => ?_)
      conv => whnf
      refine ⟨fun h => absurd h (by decide), fun _ => ?_⟩
      conv => whnf
      refine ⟨vp_in_iff.mpr (by decide), ?_⟩
      conv => whnf
      refine ⟨fun h => absurd h (by decide), fun _ => ?_⟩
      conv => whnf
      refine ⟨vp_in_iff.mpr (by decide), ?_⟩
      conv => whnf
      refine ⟨fun h => absurd h (by decide), fun _ => ?_⟩
      conv => whnf
      refine ⟨vp_in_iff.mpr (by decide), ?_⟩
      conv => whnf
      refine ⟨fun _ => ?_, fun h => absurd (by decide) h⟩
      exact hk _ _ _ (gG_up1 (gG_up1 (gG_up1 b1 (fun e he a _ _ => by rw [gi6 e he a]; decide)) (fun e he a _ _ => by rw [gi6 e he a]; decide)) (fun e he a _ _ => by rw [gi6 e he a]; decide)) (jJ_house j1.2.1 a2 a4 b2 b3 b4) (any_ok _)
    refine jWB_run [50] 60 ?_
    conv => whnf
    refine hd_names2 (Nat.le_trans (by decide) hd) (fun a b => ?_) (fun _ => ?_)
    · conv => whnf
      refine ⟨fun _ => ?_, fun h => absurd h (by decide)⟩
      conv => whnf
      refine hd_isThere2 (Nat.le_trans (by decide) hd) a b ?_ ?_
      · conv => whnf
        refine ⟨fun _ => ?_, fun h => absurd h (by decide)⟩
        conv => whnf
        refine use_c cT77 (Nat.le_trans (by decide) hd) ⟨⟨rfl, rfl, by simp, by simp⟩, ⟨rfl, rfl, by simp, by simp⟩, ⟨rfl, by simp only; omega, by simp only; omega⟩, trivial⟩ hG (fun v I' L' r1 r2 r3 => ?_)
        obtain ⟨y, rfl, -, -⟩ := r3
        have j1 := jJ_frame (by decide) hG hJ r2
        conv => whnf
        exact ⟨fun _ => s50 I' L' r1 j1, fun _ => hk _ _ _ r1 j1 (any_ok _)⟩
      · conv => whnf
        refine ⟨fun h => absurd rfl h, fun _ => ?_⟩
        conv => whnf
        refine hd_cfind (Nat.le_trans (by decide) hd) (by decide) (by decide) hG (fun I1 g1 g2 => ?_)
        exact hk _ _ _ g1 (jJ_frame (by decide) hG hJ g2) (any_ok _)
    · conv => whnf
      exact ⟨fun h => absurd rfl h, fun _ => same _⟩
