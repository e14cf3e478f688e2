section
noncomputable def hoW : List aR := [(31, (0, 0), (15, 21)), (40, (0, 0), (0, 23)), (31, (0, 0), (13, 13)), (39, (0, 0), (0, 5)), (32, (0, 0), (0, 3447)), (31, (0, 0), (1, 3)), (33, (0, 0), (0, 5)), (34, (0, 0), (0, 5))]
theorem mem2 {α : Type} {a b : α} {l : List α} : a ∈ b :: a :: l := List.mem_cons_of_mem _ List.mem_cons_self
theorem hoW32 : (32, (0, 0), (0, 3447)) ∈ hoW := by decide
theorem hoW33 : (33, (0, 0), (0, 5)) ∈ hoW := by decide
theorem hoW34 : (34, (0, 0), (0, 5)) ∈ hoW := by decide
theorem hoW31 : (31, (0, 0), (1, 3)) ∈ hoW := by decide
theorem gi34 : ∀ e ∈ aGI, e.1 = 34 → e.2.2.2 = (0, 9) := by decide
set_option maxHeartbeats 4000000 in
theorem hK_mhouse : aKP aGI 150 ([(2, 31, (0, 0)), (0, 0, ((-2147483648), 2147483647))], (1, ((-4), 6)), hoW, 8) := by
  intro d hd as I0 L0 has hG k hk
  obtain ⟨d, rfl⟩ : ∃ d', d = d' + 1 := ⟨d - 1, by simp at hd; omega⟩
  have hd : 7 ≤ d := by simp at hd; omega
  dsimp only at hk
  match as, has with
  | [.inr (g0, n0), .inl (.inl t)], has =>
    obtain ⟨⟨-, e1, e2, e3⟩, -⟩ := has
    dsimp only at e1 e2 e3
    obtain rfl : n0 = 0 := by omega
    subst e1
    have third : ∀ (i : Int32) (I : Nat → Nat → Nat → Int32), gG aGI I → gR hoW I0 L0 I L0 → jWB (jWPM d) k none (jco 150) (167, [some (.inr (31, 0)), some (.inl (.inl t)), some (.inl (.inl i))], [], I, L0) := by
      intro i I g1 g2
      have s1 : ∀ (I : Nat → Nat → Nat → Int32), gG aGI I → gG aGI (jup I 32 0 1149 (-1)) := fun I g => gG_32 g (fun z => absurd z (by decide)) (fun _ => by decide)
      have s2 : ∀ (I : Nat → Nat → Nat → Int32), gG aGI I → gG aGI (jup I 32 0 2298 (-1)) := fun I g => gG_32 g (fun z => absurd z (by decide)) (fun _ => by decide)
      have s3 : ∀ (I : Nat → Nat → Nat → Int32), gG aGI I → gG aGI (jup I 32 0 3447 (-1)) := fun I g => gG_32 g (fun z => absurd z (by decide)) (fun _ => by decide)
      refine jWB_run [] 100 ?_
      conv => whnf
      refine ⟨fun q => absurd q (by decide), fun _ => ?_⟩
      conv => whnf
      refine ⟨vp_in_iff.mpr (by decide), ?_⟩
      conv => whnf
      refine ⟨fun q => absurd q (by decide), fun _ => ?_⟩
      conv => whnf
      refine ⟨vp_in_iff.mpr (by decide), ?_⟩
      conv => whnf
      refine ⟨fun q => absurd q (by decide), fun _ => ?_⟩
      conv => whnf
      refine ⟨vp_in_iff.mpr (by decide), ?_⟩
      conv => whnf
      refine ⟨fun _ => ?_, fun q => absurd (by decide) q⟩
      have f1 := s3 _ (s2 _ (s1 _ g1))
      have hp := gi_mpackets g1
      exact hk _ _ _ f1 (gR_w (gR_w (gR_w g2 hoW32 (by decide) (by decide)) hoW32 (by decide) (by decide)) hoW32 (by decide) (by decide)) ⟨_, rfl, (by show -4 ≤ (I 31 0 3).toInt; omega), (by show (I 31 0 3).toInt ≤ 6; omega)⟩
    have second : ∀ (N : Nat) (i : Int32) (I : Nat → Nat → Nat → Int32), 6 - i.toInt ≤ (N : Int) → 0 ≤ i.toInt → gG aGI I → gR hoW I0 L0 I L0 → rP I → I 31 0 3 = I 31 0 21 → jWB (jWPM d) k none (jco 150) (85, [some (.inr (31, 0)), some (.inl (.inl t)), some (.inl (.inl i))], [], I, L0) := by
      intro N
      induction N with
      | zero =>
        intro i I h1 h2 h3 h4 h5 h6
        have hp := gi_mpackets h3
        refine jWB_run [85, 167] 100 ?_
        conv => whnf
        refine ⟨fun q => third i I h3 h4, fun q => ?_⟩
        rw [le_t] at q; exfalso; omega
      | succ N ih =>
        intro i I h1 h2 h3 h4 h5 h6
        have hp := gi_mpackets h3
        refine jWB_run [85, 167] 100 ?_
        conv => whnf
        refine ⟨fun q => third i I h3 h4, fun q => ?_⟩
        rw [le_t] at q
        have ei : (i + 1).toInt = i.toInt + 1 := by rw [i32_add (by simp; omega)]; simp
        have e4 : (4 * i).toInt = 4 * i.toInt := by rw [i32_mul (by simp; omega)]; simp
        have e41 : (4 * i + 1).toInt = 4 * i.toInt + 1 := by rw [i32_add (by rw [e4]; simp; omega), e4]; simp
        have e42 : (4 * i + 2).toInt = 4 * i.toInt + 2 := by rw [i32_add (by rw [e4]; simp; omega), e4]; simp
        have e43 : (4 * i + 3).toInt = 4 * i.toInt + 3 := by rw [i32_add (by rw [e4]; simp; omega), e4]; simp
        have e17 : (17 + i).toInt = 17 + i.toInt := by rw [i32_add (by simp; omega)]; simp
        have e23 : (23 + i).toInt = 23 + i.toInt := by rw [i32_add (by simp; omega)]; simp
        have ni := cl_t h2
        have n17 := cl_t (x := 17 + i) (by omega)
        have n23 := cl_t (x := 23 + i) (by omega)
        have n43 := cl_t (x := 4 * i + 3) (by omega)
        have c43 : (4 * i + 3).toNatClampNeg = 4 * i.toInt.toNat + 3 := by omega
        conv => whnf
        refine ⟨vp_in_iff.mpr (by omega), ?_⟩
        conv => whnf
        refine ⟨vp_in_iff.mpr (by omega), ?_⟩
        conv => whnf
        refine ⟨vp_in_iff.mpr (by omega), ?_⟩
        conv => whnf
        refine ⟨vp_in_iff.mpr (by omega), ?_⟩
        conv => whnf
        refine ⟨vp_in_iff.mpr (by omega), ?_⟩
        conv => whnf
        refine ⟨vp_in_iff.mpr (by omega), ?_⟩
        conv => whnf
        refine ⟨vp_in_iff.mpr (by omega), ?_⟩
        conv => whnf
        refine ⟨vp_in_iff.mpr (by omega), ?_⟩
        have hke := h5 i.toInt.toNat (by rw [← h6]; omega)
        rw [← c43] at hke
        refine ih (i + 1) _ (by omega) (by omega) ?_ (gR_w (gR_w (gR_w (gR_w h4 hoW33 (by omega) (by omega)) hoW32 (by omega) (by omega)) hoW32 (by omega) (by omega)) hoW34 (by omega) (by omega)) (fun j hj => h5 j hj) h6
        refine gG_up1 (gG_32 (gG_32 (gG_up h3 (by decide)) (fun z => by omega) (fun z => by omega)) (fun z => by omega) (fun z => by omega)) (fun e he a _ _ => ?_)
        rw [gi34 e he a]
        exact hke
    have first : ∀ (N : Nat) (i : Int32) (I : Nat → Nat → Nat → Int32), 1149 - i.toInt ≤ (N : Int) → 0 ≤ i.toInt → gG aGI I → gR hoW I0 L0 I L0 → rP I → jWB (jWPM d) k none (jco 150) (39, [some (.inr (31, 0)), some (.inl (.inl t)), some (.inl (.inl i))], [], I, L0) := by
      have out : ∀ (i : Int32) (I : Nat → Nat → Nat → Int32), gG aGI I → gR hoW I0 L0 I L0 → rP I → jWB (jWPM d) k none (jco 150) (59, [some (.inr (31, 0)), some (.inl (.inl t)), some (.inl (.inl i))], [], I, L0) := by
        intro i I h3 h4 h5
        have hm := gi_many h3
        refine jWB_run [85] 100 ?_
        refine second 6 0 _ (by decide) (by decide) ?_ (gR_w (gR_w (gR_w h4 hoW31 (by decide) (by decide)) hoW31 (by decide) (by decide)) hoW31 (by decide) (by decide)) (fun j hj => h5 j hj) rfl
        refine gG_up1 (gG_upn (gG_upn h3 (by decide)) (by decide)) (fun e he a b c => ?_)
        have : ∀ e ∈ aGI, e.1 = 31 → e.2.2.1.1 ≤ 3 → 3 ≤ e.2.2.1.2 → e.2.2.2 = (0, 6) := by decide
        rw [this e he a b c]; exact hm
      intro N
      induction N with
      | zero =>
        intro i I h1 h2 h3 h4 h5
        refine jWB_run [39, 59] 100 ?_
        conv => whnf
        refine ⟨fun q => out i I h3 h4 h5, fun q => ?_⟩
        rw [le_t] at q; exfalso; simp at q; omega
      | succ N ih =>
        intro i I h1 h2 h3 h4 h5
        refine jWB_run [39, 59] 100 ?_
        conv => whnf
        refine ⟨fun q => out i I h3 h4 h5, fun q => ?_⟩
        have q : i.toInt < 1149 := by rw [le_t] at q; simp at q; omega
        have ei : (i + 1).toInt = i.toInt + 1 := by rw [i32_add (by simp; omega)]; simp
        have ni := cl_t h2
        conv => whnf
        refine ⟨vp_in_iff.mpr (by omega), ?_⟩
        exact ih (i + 1) _ (by omega) (by omega) (gG_32 h3 (fun _ => by decide) (fun _ => by decide)) (gR_w h4 hoW32 (by omega) (by omega)) (fun j hj => h5 j hj)
    refine jWB_run [39] 60 ?_
    conv => whnf
    refine hd_isText (Nat.le_trans (by decide) hd) (fun a b => ?_) (fun a => ?_)
    · conv => whnf
      refine ⟨fun _ => ?_, fun h => absurd h (by decide)⟩
      conv => whnf
      refine ⟨vp_in_iff.mpr (by omega), ?_⟩
      conv => whnf
      refine ⟨fun q => ?_, fun q => ?_⟩
      · rw [le_t] at q
        conv => whnf
        refine hd_faultOf (Nat.le_trans (by decide) hd) hG a b (by simpa using q) (fun I' v g1 g2 g3 g4 g5 => ?_)
        conv => whnf
        refine ⟨fun q => ?_, fun q => hk _ _ _ g1 (gR_in (by decide) g2) ⟨-4, rfl, by decide, by decide⟩⟩
        exact first 1149 0 I' (by decide) (by decide) g1 (gR_in (by decide) g2) g3
      · conv => whnf
        refine hd_find (Nat.le_trans (by decide) hd) (by decide) (by decide) hG (fun I' g1 g2 => ?_)
        exact hk _ _ _ g1 (gR_in (by decide) g2) ⟨-3, rfl, by decide, by decide⟩
    · conv => whnf
      refine ⟨fun h => absurd rfl h, fun h => hk _ _ _ hG gR_rf ⟨-1, rfl, by decide, by decide⟩⟩
end
section
theorem hd_keepPast {d : Nat} (hd : 1 ≤ d) {I : Nat → Nat → Nat → Int32} {L : Nat → Nat → Nat → Int64} {k : jK} (hG : gG aGI I) (h39 : (I 32 0 0).toInt ≤ 39) (hk : ∀ I', gG aGI I' → gR [(32, (0, 0), (0, 1148))] I L I' L → (I' 32 0 0).toInt = (I 32 0 0).toInt + 1 → k none (I', L)) : jWPM d 163 [.inr (31, 0)] (I, L) k := by
  obtain ⟨d, rfl⟩ : ∃ d', d = d' + 1 := ⟨d - 1, by omega⟩
  have h0 := gi32_0 hG
  have hexit : ∀ (i : Int32) (I' : Nat → Nat → Nat → Int32), gG aGI I' → gR [(32, (0, 0), (0, 1148))] I L I' L → I' 32 0 0 = I 32 0 0 → jWB (jWPM d) k none (jco 163) (41, [some (.inr (31, 0)), some (.inl (.inl i))], [], I', L) := by
    intro i I' h3 h4 h5
    have e1 : (I' 32 0 0 + 1).toInt = (I 32 0 0).toInt + 1 := by rw [h5, i32_add (by simp; omega)]; simp
    refine jWB_run [] 40 ?_
    conv => whnf
    refine ⟨vp_in_iff.mpr (by decide), ?_⟩
    conv => whnf
    refine ⟨vp_in_iff.mpr (by decide), ?_⟩
    refine hk _ (gG_32 h3 (fun _ => ?_) (fun z => absurd z (by decide))) (gR_w h4 List.mem_cons_self (by decide) (by decide)) e1
    show 0 ≤ (I' 32 0 0 + 1).toInt ∧ (I' 32 0 0 + 1).toInt ≤ 40
    omega
  have loop : ∀ (N : Nat) (i : Int32) (I' : Nat → Nat → Nat → Int32), 28 - i.toInt ≤ (N : Int) → 0 ≤ i.toInt → gG aGI I' → gR [(32, (0, 0), (0, 1148))] I L I' L → I' 32 0 0 = I 32 0 0 → jWB (jWPM d) k none (jco 163) (2, [some (.inr (31, 0)), some (.inl (.inl i))], [], I', L) := by
    intro N
    induction N with
    | zero =>
      intro i I' h1 h2 h3 h4 h5
      refine jWB_run [2, 41] 40 ?_
      conv => whnf
      refine ⟨fun q => hexit i I' h3 h4 h5, fun q => ?_⟩
      rw [le_t] at q; exfalso; simp at q; omega
    | succ N ih =>
      intro i I' h1 h2 h3 h4 h5
      refine jWB_run [2, 41] 40 ?_
      conv => whnf
      refine ⟨fun q => hexit i I' h3 h4 h5, fun q => ?_⟩
      have q : i.toInt < 28 := by rw [le_t] at q; simp at q; omega
      have e28 : (28 * I' 32 0 0).toInt = 28 * (I 32 0 0).toInt := by rw [h5, i32_mul (by simp; omega)]; simp
      have e29 : (29 + 28 * I' 32 0 0).toInt = 29 + 28 * (I 32 0 0).toInt := by rw [i32_add (by rw [e28]; simp; omega), e28]; simp
      have ed : (29 + 28 * I' 32 0 0 + i).toInt = 29 + 28 * (I 32 0 0).toInt + i.toInt := by rw [i32_add (by rw [e29]; omega), e29]
      have e1i : (1 + i).toInt = 1 + i.toInt := by rw [i32_add (by simp; omega)]; simp
      have ei : (i + 1).toInt = i.toInt + 1 := by rw [i32_add (by simp; omega)]; simp
      have nd := cl_t (x := 29 + 28 * I' 32 0 0 + i) (by omega)
      conv => whnf
      refine ⟨vp_in_iff.mpr (by decide), ?_⟩
      conv => whnf
      refine ⟨vp_in_iff.mpr (by omega), ?_⟩
      conv => whnf
      refine ⟨vp_in_iff.mpr (show 0 ≤ (29 + 28 * I' 32 0 0 + i).toInt ∧ (29 + 28 * I' 32 0 0 + i).toInt < 4625 by omega), ?_⟩
      refine ih (i + 1) _ (by omega) (by omega) (gG_32 h3 (fun z => ?_) (fun z => ?_)) (gR_w h4 List.mem_cons_self ?_ ?_) ?_
      · have z : (29 + 28 * I' 32 0 0 + i).toNatClampNeg = 0 := z
        omega
      · have z : (29 + 28 * I' 32 0 0 + i).toNatClampNeg = 1149 ∨ (29 + 28 * I' 32 0 0 + i).toNatClampNeg = 2298 ∨ (29 + 28 * I' 32 0 0 + i).toNatClampNeg = 3447 := z
        omega
      · omega
      · show ((29 + 28 * I' 32 0 0 + i).toNatClampNeg : Int) ≤ 1148
        omega
      · rw [jup_of (fun z => ?_), h5]
        have z : 0 = (29 + 28 * I' 32 0 0 + i).toNatClampNeg := z.2.2
        omega
  refine jWB_run [2] 30 ?_
  exact loop 28 0 I (by decide) (by decide) hG gR_rf rfl
theorem gR_at {W : List aR} {I0 I : Nat → Nat → Nat → Int32} {L0 L : Nat → Nat → Nat → Int64} (h : gR W I0 L0 I L) (g j : Nat) (hn : rIn [(g, (0, 0), ((j : Int), (j : Int)))] W = false) (hs : ∀ r ∈ W, ¬ (r.1 = g ∧ r.2.1.1 ≤ (0 : Nat) ∧ ((0 : Nat) : Int) ≤ r.2.1.2 ∧ r.2.2.1 ≤ (j : Int) ∧ (j : Int) ≤ r.2.2.2)) : I g 0 j = I0 g 0 j := (h g 0 j (fun ⟨r, hr, q⟩ => hs r hr q)).1
theorem l2i_t {x : Int64} (h : -2147483648 ≤ x.toInt ∧ x.toInt ≤ 2147483647) : x.toInt32.toInt = x.toInt := by
  rw [Int64.toInt_toInt32, bm32]; omega
theorem lot_n {lot : Int64} (h4 : 0 ≤ lot.toInt) (h5 : lot.toInt ≤ 2147483646) : 0 ≤ (lot * 48271 - lot * 48271 / 2147483647 * 2147483647).toInt ∧ (lot * 48271 - lot * 48271 / 2147483647 * 2147483647).toInt ≤ 2147483646 := by
  have hc : (48271 : Int64).toInt = 48271 := by decide
  have em : (lot * 48271).toInt = lot.toInt * 48271 := by rw [i64_mul (by rw [hc]; omega), hc]
  have hM : (1 : Int) ≤ (2147483647 : Int64).toInt := by decide
  have hN : (2147483647 : Int64).toInt = 2147483647 := by decide
  rw [tm64 hM, em, hN]
  have hl := (tm_rng (lot.toInt * 48271) 2147483647 (by decide)).1 (by omega)
  exact ⟨hl.1, hl.2.2⟩
theorem lot_x {lot : Int64} {p : Int32} (h4 : 0 ≤ lot.toInt) (h5 : lot.toInt ≤ 2147483646) (hp : 1 ≤ p.toInt) : 0 ≤ (lot - lot / p.toInt64 * p.toInt64).toInt32.toInt ∧ (lot - lot / p.toInt64 * p.toInt64).toInt32.toInt ≤ p.toInt - 1 := by
  have hp64 : p.toInt64.toInt = p.toInt := Int32.toInt_toInt64 _
  have e : (lot - lot / p.toInt64 * p.toInt64).toInt = lot.toInt.tmod p.toInt := by rw [tm64 (by omega), hp64]
  have hx := (tm_rng lot.toInt p.toInt hp).1 h4
  rw [l2i_t (by rw [e]; omega), e]
  exact ⟨hx.1, hx.2.2⟩
set_option maxHeartbeats 4000000 in
theorem hK_mlots : aKP aGI 207 ([(2, 31, (0, 0)), (0, 0, ((-2147483648), 2147483647)), (0, 0, ((-2147483648), 2147483647))], (1, ((-2147483648), 2147483647)), [(32, (0, 0), (0, 1148))], 9) := by
  intro d hd as I0 L0 has hG k hk
  obtain ⟨d, rfl⟩ : ∃ d', d = d' + 1 := ⟨d - 1, by simp at hd; omega⟩
  have hd : 8 ≤ d := by simp at hd; omega
  dsimp only at hk
  match as, has with
  | [.inr (g0, n0), .inl (.inl n), .inl (.inl sd)], has =>
    obtain ⟨⟨-, e1, e2, e3⟩, -⟩ := has
    dsimp only at e1 e2 e3
    obtain rfl : n0 = 0 := by omega
    subst e1
    have hexit : ∀ (lot : Int64) (i : Int32) (e6 e7 : Option jV) (I : Nat → Nat → Nat → Int32) (L : Nat → Nat → Nat → Int64), gG aGI I → gR [(32, (0, 0), (0, 1148))] I0 L0 I L → jWB (jWPM d) k none (jco 207) (178, [some (.inr (31, 0)), some (.inl (.inl n)), some (.inl (.inl sd)), some (.inl (.inr lot)), none, some (.inl (.inl i)), e6, e7], [], I, L) := by
      intro lot i e6 e7 I L h1 h2
      refine jWB_run [] 40 ?_
      conv => whnf
      refine use_c cT146 (Nat.le_trans (by decide) hd) ⟨⟨rfl, rfl, by simp, by simp⟩, ⟨rfl, by decide, by decide⟩, trivial⟩ h1 (fun v I' L' r1 r2 r3 => ?_)
      obtain ⟨rfl, rfl⟩ := gR_nil r2
      obtain ⟨x, rfl, r4, r5⟩ := r3
      exact hk _ _ _ h1 h2 ⟨x, rfl, r4, r5⟩
    have loop : ∀ (N : Nat) (lot : Int64) (i : Int32) (e6 e7 : Option jV) (I : Nat → Nat → Nat → Int32) (L : Nat → Nat → Nat → Int64), n.toInt - i.toInt ≤ (N : Int) → 0 ≤ i.toInt → n.toInt ≤ 20 → 0 ≤ lot.toInt → lot.toInt ≤ 2147483646 → gG aGI I → gR [(32, (0, 0), (0, 1148))] I0 L0 I L → 1 ≤ (I 31 0 3).toInt → (I 32 0 0).toInt + n.toInt ≤ 40 + i.toInt → jWB (jWPM d) k none (jco 207) (58, [some (.inr (31, 0)), some (.inl (.inl n)), some (.inl (.inl sd)), some (.inl (.inr lot)), none, some (.inl (.inl i)), e6, e7], [], I, L) := by
      intro N
      induction N with
      | zero =>
        intro lot i e6 e7 I L h1 h2 h3 h4 h5 h6 h7 h8 h9
        refine jWB_run [58, 178] 60 ?_
        conv => whnf
        refine ⟨fun q => hexit lot i e6 e7 I L h6 h7, fun q => ?_⟩
        rw [le_t] at q; exfalso; omega
      | succ N ih =>
        intro lot i e6 e7 I L h1 h2 h3 h4 h5 h6 h7 h8 h9
        refine jWB_run [58, 100, 178] 60 ?_
        conv => whnf
        refine ⟨fun q => hexit lot i e6 e7 I L h6 h7, fun q => ?_⟩
        rw [le_t] at q
        have hpk := gi_mpackets h6
        have ei : (i + 1).toInt = i.toInt + 1 := by rw [i32_add (by simp; omega)]; simp
        have after : ∀ (lot' : Int64) (way x : Int32) (I1 : Nat → Nat → Nat → Int32), 0 ≤ lot'.toInt → lot'.toInt ≤ 2147483646 → 0 ≤ x.toInt → x.toInt ≤ 5 → gG aGI I1 → gR [(32, (0, 0), (0, 1148))] I L I1 L → (I1 32 0 0).toInt = (I 32 0 0).toInt + 1 → jWB (jWPM d) k none (jco 207) (100, [some (.inr (31, 0)), some (.inl (.inl n)), some (.inl (.inl sd)), some (.inl (.inr lot')), none, some (.inl (.inl i)), some (.inl (.inl way)), some (.inl (.inl x))], [], I1, L) := by
          intro lot' way x I1 hl1 hl2 hx1 hx2 g1 g2 g3
          have p1 : I1 31 0 3 = I 31 0 3 := gR_at g2 31 3 (by decide) (by decide)
          have g4 := gR_cat h7 g2
          have back : ∀ (I2 : Nat → Nat → Nat → Int32) (L2 : Nat → Nat → Nat → Int64), gG aGI I2 → gR [(32, (0, 0), (1, 1148))] I1 L I2 L2 → jWB (jWPM d) k none (jco 207) (172, [some (.inr (31, 0)), some (.inl (.inl n)), some (.inl (.inl sd)), some (.inl (.inr lot')), none, some (.inl (.inl i)), some (.inl (.inl way)), some (.inl (.inl x))], [], I2, L2) := by
            intro I2 L2 f1 f2
            have p2 : I2 31 0 3 = I1 31 0 3 := gR_at f2 31 3 (by decide) (by decide)
            have p3 : I2 32 0 0 = I1 32 0 0 := gR_at f2 32 0 (by decide) (by decide)
            refine jWB_run [58] 20 ?_
            refine ih lot' (i + 1) _ _ I2 L2 (by omega) (by omega) h3 hl1 hl2 f1 (gR_cat g4 (gR_in (by decide) f2)) (by rw [p2, p1]; exact h8) ?_
            rw [p3]; omega
          have nx := cl_t (x := x) (by omega)
          have e17 : (17 + x).toInt = 17 + x.toInt := by rw [i32_add (by simp; omega)]; simp
          have n17 := cl_t (x := 17 + x) (by omega)
          have two : jWB (jWPM d) k none (jco 207) (129, [some (.inr (31, 0)), some (.inl (.inl n)), some (.inl (.inl sd)), some (.inl (.inr lot')), none, some (.inl (.inl i)), some (.inl (.inl way)), some (.inl (.inl x))], [], I1, L) := by
            have pass : jWB (jWPM d) k none (jco 207) (166, [some (.inr (31, 0)), some (.inl (.inl n)), some (.inl (.inl sd)), some (.inl (.inr lot')), none, some (.inl (.inl i)), some (.inl (.inl way)), some (.inl (.inl x))], [], I1, L) := by
              refine jWB_run [172] 20 ?_
              conv => whnf
              refine use_c cT152 (Nat.le_trans (by decide) hd) ⟨⟨rfl, rfl, by simp, by simp⟩, ⟨rfl, by decide, by decide⟩, trivial⟩ g1 (fun v I' L' r1 r2 r3 => ?_)
              obtain ⟨y, rfl, r4, r5⟩ := r3
              exact back I' L' r1 (gR_in (by decide) r2)
            refine jWB_run [166, 172] 40 ?_
            conv => whnf
            refine ⟨fun _ => pass, fun _ => ?_⟩
            conv => whnf
            refine ⟨vp_in_iff.mpr (by omega), ?_⟩
            conv => whnf
            refine ⟨fun _ => pass, fun _ => ?_⟩
            conv => whnf
            refine ⟨vp_in_iff.mpr (by omega), ?_⟩
            conv => whnf
            refine ⟨vp_in_iff.mpr (by omega), ?_⟩
            exact back _ L (gG_32 g1 (fun z => by omega) (fun z => by omega)) (gR_w gR_rf List.mem_cons_self (by omega) (by omega))
          refine jWB_run [129, 172] 60 ?_
          conv => whnf
          refine ⟨fun _ => two, fun _ => ?_⟩
          conv => whnf
          refine use_c cT148 (Nat.le_trans (by decide) hd) ⟨⟨rfl, rfl, by simp, by simp⟩, ⟨rfl, by decide, by decide⟩, ⟨rfl, by simp only; omega, by simp only; omega⟩, ⟨rfl, by decide, by decide⟩, trivial⟩ g1 (fun v I' L' r1 r2 r3 => ?_)
          obtain ⟨rfl, rfl⟩ := gR_nil r2
          obtain ⟨y, rfl, r4, r5⟩ := r3
          conv => whnf
          refine ⟨fun _ => two, fun _ => ?_⟩
          conv => whnf
          refine use_c cT150 (Nat.le_trans (by decide) hd) ⟨⟨rfl, rfl, by simp, by simp⟩, ⟨rfl, by decide, by decide⟩, ⟨rfl, by simp only; omega, by simp only; omega⟩, ⟨rfl, by decide, by decide⟩, trivial⟩ g1 (fun v I' L' r1 r2 r3 => ?_)
          obtain ⟨y, rfl, r4, r5⟩ := r3
          exact back I' L' r1 (gR_in (by decide) r2)
        have hp64 : (I 31 0 3).toInt64.toInt = (I 31 0 3).toInt := Int32.toInt_toInt64 _
        have hl := lot_n h4 h5
        have hx := lot_x hl.1 hl.2 h8
        have h55 : (I 31 0 3).toInt - 1 ≤ 5 := by clear hl hx; omega
        have h39 : (I 32 0 0).toInt ≤ 39 := by clear hl hx; omega
        have hnz : ¬ (I 31 0 3).toInt64 = 0 := fun e => by clear hl hx; rw [e] at hp64; simp at hp64; omega
        conv => whnf
        refine ⟨by decide, ?_⟩
        conv => whnf
        refine ⟨by decide, ?_⟩
        conv => whnf
        refine ⟨by decide, ?_⟩
        conv => whnf
        refine ⟨hnz, ?_⟩
        conv => whnf
        refine hd_keepPast (Nat.le_trans (by decide) hd) h6 h39 (fun I1 g1 g2 g3 => ?_)
        exact after _ _ _ I1 hl.1 hl.2 hx.1 (Int.le_trans hx.2 h55) g1 g2 g3
    refine jWB_run [58] 60 ?_
    conv => whnf
    have bad : k (some (.inl (.inl (-1)))) (I0, L0) := hk _ _ _ hG gR_rf ⟨-1, rfl, by decide, by decide⟩
    refine hd_in (Nat.le_trans (by decide) hd) (fun a b => ?_) (fun a => ?_)
    · rw [Int32.toInt_toInt64] at a b
      have a : 1 ≤ n.toInt := by simpa using a
      have b : n.toInt ≤ 20 := by simpa using b
      conv => whnf
      refine ⟨fun h => absurd h (by decide), fun _ => ?_⟩
      conv => whnf
      refine hd_in (Nat.le_trans (by decide) hd) (fun a2 b2 => ?_) (fun a => ?_)
      · rw [Int32.toInt_toInt64] at a2 b2
        have a2 : 1 ≤ sd.toInt := by simpa using a2
        have b2 : sd.toInt ≤ 2147483646 := by simpa using b2
        conv => whnf
        refine ⟨fun _ => ?_, fun h => absurd h (by decide)⟩
        conv => whnf
        refine ⟨fun q => ?_, fun q => hk _ _ _ hG gR_rf ⟨-4, rfl, by decide, by decide⟩⟩
        have hpk := gi_mpackets hG
        have hn : (I0 31 0 3).toInt ≠ 0 := fun e => q (i32_of e 0 rfl)
        have h0 := gi32_0 hG
        have en : (I0 32 0 0 + n).toInt = (I0 32 0 0).toInt + n.toInt := i32_add (by omega)
        conv => whnf
        refine ⟨vp_in_iff.mpr (by decide), ?_⟩
        conv => whnf
        refine ⟨fun q => ?_, fun q => hk _ _ _ hG gR_rf ⟨-2, rfl, by decide, by decide⟩⟩
        have q : (I0 32 0 0).toInt + n.toInt ≤ 40 := by
          have q : I0 32 0 0 + n ≤ 40 := q
          rw [le_t, en] at q; simpa using q
        exact loop 20 sd.toInt64 0 _ _ I0 L0 (by simp; omega) (by decide) b (by rw [Int32.toInt_toInt64]; omega) (by rw [Int32.toInt_toInt64]; omega) hG gR_rf (by omega) (by simp; omega)
      · conv => whnf
        exact ⟨fun h => absurd rfl h, fun h => bad⟩
    · conv => whnf
      exact ⟨fun h => bad, fun h => absurd rfl h⟩
end
section
noncomputable def wkW : List aR := [(32, (0, 0), (4596, 4624)), (35, (0, 0), (0, 5)), (36, (0, 0), (0, 239))]
theorem wkW36 : (36, (0, 0), (0, 239)) ∈ wkW := by decide
set_option maxHeartbeats 4000000 in
theorem hK_mweeks : aKP aGI 188 ([(2, 31, (0, 0)), (0, 0, ((-2147483648), 2147483647)), (0, 0, ((-2147483648), 2147483647))], (1, ((-2147483648), 2147483647)), wkW, 9) := by
  intro d hd as I0 L0 has hG k hk
  obtain ⟨d, rfl⟩ : ∃ d', d = d' + 1 := ⟨d - 1, by simp at hd; omega⟩
  have hd : 8 ≤ d := by simp at hd; omega
  dsimp only at hk
  match as, has with
  | [.inr (g0, n0), .inl (.inl n), .inl (.inl r)], has =>
    obtain ⟨⟨-, e1, e2, e3⟩, -⟩ := has
    dsimp only at e1 e2 e3
    obtain rfl : n0 = 0 := by omega
    subst e1
    have bad : k (some (.inl (.inl (-1)))) (I0, L0) := hk _ _ _ hG gR_rf ⟨-1, rfl, by decide, by decide⟩
    refine jWB_run [41] 60 ?_
    conv => whnf
    refine hd_in (Nat.le_trans (by decide) hd) (fun a b => ?_) (fun a => ?_)
    · rw [Int32.toInt_toInt64] at a b
      have a : 0 ≤ n.toInt := by simpa using a
      have b : n.toInt ≤ 3 := by simpa using b
      conv => whnf
      refine ⟨fun h => absurd h (by decide), fun _ => ?_⟩
      conv => whnf
      refine hd_isRow (Nat.le_trans (by decide) hd) (fun a2 b2 => ?_) (fun _ => ?_)
      · conv => whnf
        refine ⟨fun _ => ?_, fun h => absurd h (by decide)⟩
        conv => whnf
        refine ⟨fun q => ?_, fun q => hk _ _ _ hG gR_rf ⟨-4, rfl, by decide, by decide⟩⟩
        have second : ∀ (N : Nat) (le be i : Int32) (e6 : Option jV) (I : Nat → Nat → Nat → Int32) (L : Nat → Nat → Nat → Int64), 3 - i.toInt ≤ (N : Int) → 0 ≤ i.toInt → 0 ≤ be.toInt → be.toInt ≤ 342 → gG aGI I → gR wkW I0 L0 I L → jWB (jWPM d) k none (jco 188) (130, [some (.inr (31, 0)), some (.inl (.inl n)), some (.inl (.inl r)), some (.inl (.inl le)), some (.inl (.inl be)), some (.inl (.inl i)), e6], [], I, L) := by
          intro N
          induction N with
          | zero =>
            intro le be i e6 I L h1 h2 h3 h4 h5 h6
            refine jWB_run [130] 60 ?_
            conv => whnf
            refine ⟨fun q => hk _ _ _ h5 h6 ⟨le, rfl, (i32_rng _).1, (i32_rng _).2⟩, fun q => ?_⟩
            rw [le_t] at q; exfalso; omega
          | succ N ih =>
            intro le be i e6 I L h1 h2 h3 h4 h5 h6
            refine jWB_run [130] 60 ?_
            conv => whnf
            refine ⟨fun q => hk _ _ _ h5 h6 ⟨le, rfl, (i32_rng _).1, (i32_rng _).2⟩, fun q => ?_⟩
            rw [le_t] at q
            have ei : (i + 1).toInt = i.toInt + 1 := by rw [i32_add (by simp; omega)]; simp
            have e40 : (40 * r).toInt = 40 * r.toInt := by rw [i32_mul (by simp; omega)]; simp
            have ej : (40 * r + i).toInt = 40 * r.toInt + i.toInt := by rw [i32_add (by rw [e40]; omega), e40]
            have nj := cl_t (x := 40 * r + i) (by omega)
            conv => whnf
            refine use_c cT167 (Nat.le_trans (by decide) hd) ⟨⟨rfl, rfl, by simp, by simp⟩, ⟨rfl, by simp only; omega, by simp only; omega⟩, ⟨rfl, by simp only; omega, by simp only; omega⟩, ⟨rfl, by simp only; omega, by simp only; omega⟩, trivial⟩ h5 (fun v I' L' r1 r2 r3 => ?_)
            obtain ⟨rfl, rfl⟩ := gR_nil r2
            obtain ⟨x, rfl, r4, r5⟩ := r3
            conv => whnf
            refine ⟨fun _ => ?_, fun _ => ?_⟩
            · conv => whnf
              refine ⟨vp_in_iff.mpr (by omega), ?_⟩
              exact ih le be (i + 1) _ _ L' (by omega) (by omega) h3 h4 (gG_up h5 (by decide)) (gR_w h6 wkW36 (by omega) (by omega))
            · conv => whnf
              refine ⟨vp_in_iff.mpr (by omega), ?_⟩
              exact ih le be (i + 1) _ _ L' (by omega) (by omega) h3 h4 (gG_up h5 (by decide)) (gR_w h6 wkW36 (by omega) (by omega))
        have hexit : ∀ (le be i : Int32) (e6 : Option jV) (I : Nat → Nat → Nat → Int32) (L : Nat → Nat → Nat → Int64), (be = -9 ∨ (0 ≤ be.toInt ∧ be.toInt ≤ 342)) → gG aGI I → gR wkW I0 L0 I L → jWB (jWPM d) k none (jco 188) (111, [some (.inr (31, 0)), some (.inl (.inl n)), some (.inl (.inl r)), some (.inl (.inl le)), some (.inl (.inl be)), some (.inl (.inl i)), e6], [], I, L) := by
          intro le be i e6 I L h1 h2 h3
          refine jWB_run [130] 60 ?_
          conv => whnf
          refine ⟨fun q => ?_, fun q => hk _ _ _ h2 h3 ⟨-9, rfl, by decide, by decide⟩⟩
          have h1 := h1.resolve_left q
          conv => whnf
          refine use_c cT125 (Nat.le_trans (by decide) hd) ⟨⟨rfl, rfl, by simp, by simp⟩, ⟨rfl, by simp only; omega, by simp only; omega⟩, ⟨rfl, by simp only; omega, by simp only; omega⟩, trivial⟩ h2 (fun v I' L' r1 r2 r3 => ?_)
          obtain rfl := r3
          exact second 3 le be 0 e6 I' L' (by decide) (by decide) h1.1 h1.2 r1 (gR_then h3 (by decide) r2 (by decide))
        have first : ∀ (N : Nat) (le be i : Int32) (e6 : Option jV) (I : Nat → Nat → Nat → Int32) (L : Nat → Nat → Nat → Int64), 343 - i.toInt ≤ (N : Int) → 0 ≤ i.toInt → (be = -9 ∨ (0 ≤ be.toInt ∧ be.toInt ≤ 342)) → gG aGI I → gR wkW I0 L0 I L → jWB (jWPM d) k none (jco 188) (41, [some (.inr (31, 0)), some (.inl (.inl n)), some (.inl (.inl r)), some (.inl (.inl le)), some (.inl (.inl be)), some (.inl (.inl i)), e6], [], I, L) := by
          intro N
          induction N with
          | zero =>
            intro le be i e6 I L h1 h2 h3 h4 h5
            have hp := gi_mpackets h4
            have ep : (I 31 0 3 + 1).toInt = (I 31 0 3).toInt + 1 := by rw [i32_add (by simp; omega)]; simp
            refine jWB_run [41, 111] 60 ?_
            conv => whnf
            refine use_c cT164 (Nat.le_trans (by decide) hd) ⟨⟨rfl, by simp only; omega, by simp only; omega⟩, ⟨rfl, by simp only; omega, by simp only; omega⟩, trivial⟩ h4 (fun v I' L' r1 r2 r3 => ?_)
            obtain ⟨rfl, rfl⟩ := gR_nil r2
            obtain ⟨x, rfl, r4, r5⟩ := r3
            conv => whnf
            refine ⟨fun q => hexit le be i e6 I' L' h3 h4 h5, fun q => ?_⟩
            have r5 : x.toInt ≤ 343 := r5
            rw [le_t] at q; exfalso; omega
          | succ N ih =>
            intro le be i e6 I L h1 h2 h3 h4 h5
            have hp := gi_mpackets h4
            have ep : (I 31 0 3 + 1).toInt = (I 31 0 3).toInt + 1 := by rw [i32_add (by simp; omega)]; simp
            refine jWB_run [41, 111] 60 ?_
            conv => whnf
            refine use_c cT164 (Nat.le_trans (by decide) hd) ⟨⟨rfl, by simp only; omega, by simp only; omega⟩, ⟨rfl, by simp only; omega, by simp only; omega⟩, trivial⟩ h4 (fun v I' L' r1 r2 r3 => ?_)
            obtain ⟨rfl, rfl⟩ := gR_nil r2
            obtain ⟨x, rfl, r4, r5⟩ := r3
            conv => whnf
            refine ⟨fun q => hexit le be i e6 I' L' h3 h4 h5, fun q => ?_⟩
            rw [le_t] at q
            have r5 : x.toInt ≤ 343 := r5
            have ei : (i + 1).toInt = i.toInt + 1 := by rw [i32_add (by simp; omega)]; simp
            conv => whnf
            refine use_c cT168 (Nat.le_trans (by decide) hd) ⟨⟨rfl, rfl, by simp, by simp⟩, ⟨rfl, by simp only; omega, by simp only; omega⟩, ⟨rfl, by simp only; omega, by simp only; omega⟩, trivial⟩ h4 (fun v I2 L2 s1 s2 s3 => ?_)
            obtain ⟨y, rfl, s4, s5⟩ := s3
            have f : gR wkW I0 L0 I2 L2 := gR_then h5 (by decide) s2 (by decide)
            conv => whnf
            refine ⟨fun _ => ih le be (i + 1) e6 I2 L2 (by omega) (by omega) h3 s1 f, fun _ => ?_⟩
            conv => whnf
            refine ⟨vp_in_iff.mpr (by decide), ?_⟩
            conv => whnf
            refine ⟨vp_in_iff.mpr (by decide), ?_⟩
            conv => whnf
            refine ⟨fun _ => ih le be (i + 1) e6 I2 L2 (by omega) (by omega) h3 s1 f, fun _ => ?_⟩
            conv => whnf
            refine ⟨vp_in_iff.mpr (by decide), ?_⟩
            conv => whnf
            refine ⟨vp_in_iff.mpr (by decide), ?_⟩
            exact ih _ i (i + 1) e6 I2 L2 (by omega) (by omega) (Or.inr (by omega)) s1 f
        exact first 343 99999 (-9) 0 _ I0 L0 (by decide) (by decide) (Or.inl rfl) hG gR_rf
      · conv => whnf
        exact ⟨fun h => absurd rfl h, fun h => bad⟩
    · conv => whnf
      exact ⟨fun h => bad, fun h => absurd rfl h⟩
theorem gi_rows {I : Nat → Nat → Nat → Int32} (h : gG aGI I) {j : Nat} (hj : j ≤ 5) : -1 ≤ (I 35 0 j).toInt ∧ (I 35 0 j).toInt ≤ 40 := h (35, (0, 0), (0, 5), ((-1), 40)) (by decide) 0 j (by decide) (by decide) (by simp) (by simp; omega)
theorem hd_isSpan {d : Nat} (hd : 1 ≤ d) {r i n : Int32} {I : Nat → Nat → Nat → Int32} {L : Nat → Nat → Nat → Int64} {k : jK} (hr0 : 0 ≤ r.toInt) (hr5 : r.toInt ≤ 5) (h1 : 0 ≤ i.toInt → i.toInt + n.toInt ≤ (I 35 0 r.toNatClampNeg).toInt → k (some (.inl (.inl 1))) (I, L)) (h0 : k (some (.inl (.inl 0))) (I, L)) : jWPM d 136 [.inr (31, 0), .inl (.inl r), .inl (.inl i), .inl (.inl n)] (I, L) k := by
  obtain ⟨d, rfl⟩ : ∃ d', d = d' + 1 := ⟨d - 1, by omega⟩
  refine jWB_run [] 60 ?_
  conv => whnf
  refine ⟨fun q => ⟨Or.inl rfl, h0⟩, fun q => ?_⟩
  rw [lt_t] at q
  conv => whnf
  refine ⟨vp_in_iff.mpr (by omega), ?_⟩
  conv => whnf
  refine ⟨fun q => ⟨Or.inl rfl, h0⟩, fun q2 => ⟨Or.inr rfl, ?_⟩⟩
  rw [cmp_lg] at q2
  have q2 : ¬ (I 35 0 r.toNatClampNeg).toInt64.toInt < (i.toInt64 + n.toInt64).toInt := fun z => q2 ((hop_q .gt _ _).mp z)
  have a1 := i32_rng i
  have a2 := i32_rng n
  rw [i64_add' (by rw [Int32.toInt_toInt64, Int32.toInt_toInt64]; omega), Int32.toInt_toInt64, Int32.toInt_toInt64, Int32.toInt_toInt64] at q2
  exact h1 (by simp at q; omega) (by omega)
end
section
noncomputable def mcW : List aR := [(31, (0, 0), (13, 13)), (39, (0, 0), (0, 5)), (36, (0, 0), (0, 239))]
theorem mcW36 : (36, (0, 0), (0, 239)) ∈ mcW := by decide
set_option maxHeartbeats 4000000 in
theorem hK_mcopy : aKP aGI 137 ([(2, 31, (0, 0)), (0, 0, ((-2147483648), 2147483647)), (0, 0, ((-2147483648), 2147483647)), (0, 0, ((-2147483648), 2147483647)), (0, 0, ((-2147483648), 2147483647)), (0, 0, ((-2147483648), 2147483647))], (1, ((-3), 1)), mcW, 9) := by
  intro d hd as I0 L0 has hG k hk
  obtain ⟨d, rfl⟩ : ∃ d', d = d' + 1 := ⟨d - 1, by simp at hd; omega⟩
  have hd : 8 ≤ d := by simp at hd; omega
  dsimp only at hk
  match as, has with
  | [.inr (g0, n0), .inl (.inl r), .inl (.inl i), .inl (.inl to), .inl (.inl j), .inl (.inl n)], has =>
    obtain ⟨⟨-, e1, e2, e3⟩, -⟩ := has
    dsimp only at e1 e2 e3
    obtain rfl : n0 = 0 := by omega
    subst e1
    have bad : k (some (.inl (.inl (-1)))) (I0, L0) := hk _ _ _ hG gR_rf ⟨-1, rfl, by decide, by decide⟩
    have fnd : ∀ (I' : Nat → Nat → Nat → Int32), gG aGI I' → gR mfW I0 L0 I' L0 → k (some (.inl (.inl (-3)))) (I', L0) := fun I' g1 g2 => hk _ _ _ g1 (gR_in (by decide) g2) ⟨-3, rfl, by decide, by decide⟩
    refine jWB_run [96] 100 ?_
    conv => whnf
    refine hd_isRow (Nat.le_trans (by decide) hd) (fun a b => ?_) (fun _ => ?_)
    · conv => whnf
      refine ⟨fun h => absurd h (by decide), fun _ => ?_⟩
      conv => whnf
      refine hd_isRow (Nat.le_trans (by decide) hd) (fun a2 b2 => ?_) (fun _ => ?_)
      · conv => whnf
        refine ⟨fun _ => ?_, fun h => absurd h (by decide)⟩
        conv => whnf
        refine ⟨fun hn => ?_, fun hn => ?_⟩
        · rw [le_t] at hn
          have hn : 0 ≤ n.toInt := by simpa using hn
          have nr := cl_t a
          have nt := cl_t a2
          conv => whnf
          refine ⟨vp_in_iff.mpr (by omega), ?_⟩
          conv => whnf
          refine ⟨fun q => ?_, fun q => ?_⟩
          · conv => whnf
            exact hd_find (Nat.le_trans (by decide) hd) (by decide) (by decide) hG fnd
          conv => whnf
          refine ⟨vp_in_iff.mpr (by omega), ?_⟩
          conv => whnf
          refine ⟨fun q => ?_, fun q => ?_⟩
          · conv => whnf
            have two : ∀ I L, I = I0 → L = L0 → jWB (jWPM d) k none (jco 137) (74, [some (.inr (31, 0)), some (.inl (.inl r)), some (.inl (.inl i)), some (.inl (.inl to)), some (.inl (.inl j)), some (.inl (.inl n)), none, none, none], [], I, L) := by
              intro I L e1 e2
              subst e1; subst e2
              refine jWB_run [] 20 ?_
              conv => whnf
              exact hd_find (Nat.le_trans (by decide) hd) (by decide) (by decide) hG fnd
            refine hd_isSpan (Nat.le_trans (by decide) hd) a b (fun h1 h2 => ?_) ?_
            · conv => whnf
              refine ⟨fun h => absurd h (by decide), fun _ => ?_⟩
              conv => whnf
              refine hd_isSpan (Nat.le_trans (by decide) hd) a2 b2 (fun h3 h4 => ?_) ?_
              · conv => whnf
                refine ⟨fun _ => ?_, fun h => absurd h (by decide)⟩
                have s1 := gi_rows hG (j := r.toNatClampNeg) (by omega)
                have s2 := gi_rows hG (j := to.toNatClampNeg) (by omega)
                have loop : ∀ (N : Nat) (ba x : Int32) (e8 : Option jV) (I : Nat → Nat → Nat → Int32), n.toInt - x.toInt ≤ (N : Int) → 0 ≤ x.toInt → gG aGI I → gR mcW I0 L0 I L0 → jWB (jWPM d) k none (jco 137) (96, [some (.inr (31, 0)), some (.inl (.inl r)), some (.inl (.inl i)), some (.inl (.inl to)), some (.inl (.inl j)), some (.inl (.inl n)), some (.inl (.inl ba)), some (.inl (.inl x)), e8], [], I, L0) := by
                  intro N
                  induction N with
                  | zero =>
                    intro ba x e8 I c1 c2 c3 c4
                    refine jWB_run [96] 60 ?_
                    conv => whnf
                    refine ⟨fun q => hk _ _ _ c3 c4 ⟨1, rfl, by decide, by decide⟩, fun q => ?_⟩
                    rw [le_t] at q; exfalso; omega
                  | succ N ih =>
                    intro ba x e8 I c1 c2 c3 c4
                    have body : n.toInt > x.toInt → ∀ y : Int32, 0 ≤ y.toInt → y.toInt < n.toInt → jWB (jWPM d) k none (jco 137) (122, [some (.inr (31, 0)), some (.inl (.inl r)), some (.inl (.inl i)), some (.inl (.inl to)), some (.inl (.inl j)), some (.inl (.inl n)), some (.inl (.inl ba)), some (.inl (.inl x)), some (.inl (.inl y))], [], I, L0) := by
                      intro hx y y0 y1
                      have ex : (x + 1).toInt = x.toInt + 1 := by rw [i32_add (by simp; omega)]; simp
                      have f1 : (40 * to).toInt = 40 * to.toInt := by rw [i32_mul (by simp; omega)]; simp
                      have f2 : (40 * to + j).toInt = 40 * to.toInt + j.toInt := by rw [i32_add (by rw [f1]; omega), f1]
                      have f3 : (40 * to + j + y).toInt = 40 * to.toInt + j.toInt + y.toInt := by rw [i32_add (by rw [f2]; omega), f2]
                      have f4 : (40 * r).toInt = 40 * r.toInt := by rw [i32_mul (by simp; omega)]; simp
                      have f5 : (40 * r + i).toInt = 40 * r.toInt + i.toInt := by rw [i32_add (by rw [f4]; omega), f4]
                      have f6 : (40 * r + i + y).toInt = 40 * r.toInt + i.toInt + y.toInt := by rw [i32_add (by rw [f5]; omega), f5]
                      have nf := cl_t (x := 40 * to + j + y) (by omega)
                      refine jWB_run [96] 60 ?_
                      conv => whnf
                      refine ⟨vp_in_iff.mpr (by omega), ?_⟩
                      conv => whnf
                      refine ⟨vp_in_iff.mpr (by omega), ?_⟩
                      exact ih ba (x + 1) _ _ (by omega) (by omega) (gG_up c3 (by decide)) (gR_w c4 mcW36 (by omega) (by omega))
                    refine jWB_run [96, 122] 60 ?_
                    conv => whnf
                    refine ⟨fun q => hk _ _ _ c3 c4 ⟨1, rfl, by decide, by decide⟩, fun q => ?_⟩
                    rw [le_t] at q
                    have en : (n - 1).toInt = n.toInt - 1 := by rw [i32_sub (by simp; omega)]; simp
                    have en2 : (n - 1 - x).toInt = n.toInt - 1 - x.toInt := by rw [i32_sub (by rw [en]; omega), en]
                    conv => whnf
                    refine ⟨fun _ => body (by omega) x (by omega) (by omega), fun _ => body (by omega) (n - 1 - x) (by omega) (by omega)⟩
                conv => whnf
                refine ⟨fun _ => loop n.toInt.toNat 0 0 _ I0 (by show n.toInt - 0 ≤ _; omega) (by decide) hG gR_rf, fun _ => loop n.toInt.toNat 1 0 _ I0 (by show n.toInt - 0 ≤ _; omega) (by decide) hG gR_rf⟩
              · conv => whnf
                exact ⟨fun h => absurd rfl h, fun _ => hd_find (Nat.le_trans (by decide) hd) (by decide) (by decide) hG fnd⟩
            · conv => whnf
              exact ⟨fun _ => hd_find (Nat.le_trans (by decide) hd) (by decide) (by decide) hG fnd, fun h => absurd rfl h⟩
          · conv => whnf
            exact hd_find (Nat.le_trans (by decide) hd) (by decide) (by decide) hG fnd
        · conv => whnf
          exact hd_find (Nat.le_trans (by decide) hd) (by decide) (by decide) hG fnd
      · conv => whnf
        exact ⟨fun h => absurd rfl h, fun h => bad⟩
    · conv => whnf
      exact ⟨fun h => bad, fun h => absurd rfl h⟩
end
section
noncomputable def cfW : List aR := [(0, (0, 0), (13, 13)), (12, (0, 0), (0, 5))]
theorem hd_cfind {d : Nat} (hd : 1 ≤ d) {f : Int32} {I : Nat → Nat → Nat → Int32} {L : Nat → Nat → Nat → Int64} {k : jK} (h0 : 0 ≤ f.toInt) (h5 : f.toInt ≤ 5) (hG : gG aGI I) (hk : ∀ I', gG aGI I' → gR cfW I L I' L → k (some (.inl (.inl (-3)))) (I', L)) : jWPM d 113 [.inr (0, 0), .inl (.inl f)] (I, L) k := by
  obtain ⟨d, rfl⟩ : ∃ d', d = d' + 1 := ⟨d - 1, by omega⟩
  have hn : (f.toNatClampNeg : Int) = f.toInt := cl_t h0
  refine jWB_run [] 60 ?_
  conv => whnf
  refine ⟨vp_in_iff.mpr (by omega), ?_⟩
  conv => whnf
  refine ⟨vp_in_iff.mpr (by omega), ?_⟩
  conv => whnf
  exact hk _ (gG_up (gG_up hG (by decide)) (by decide)) (gR_w (gR_w gR_rf (List.mem_cons_self) (by decide) (by decide)) (List.mem_cons_of_mem _ List.mem_cons_self) (by omega) (by omega))
theorem hd_names {d : Nat} (hd : 1 ≤ d) {r : Int32} {I : Nat → Nat → Nat → Int32} {L : Nat → Nat → Nat → Int64} {k : jK} (h1 : 0 ≤ r.toInt → r.toInt ≤ 5 → k (some (.inl (.inl 1))) (I, L)) (h0 : ¬ (0 ≤ r.toInt ∧ r.toInt ≤ 5) → k (some (.inl (.inl 0))) (I, L)) : jWPM d 15 [.inr (1, 0), .inl (.inl r)] (I, L) k := by
  obtain ⟨d, rfl⟩ : ∃ d', d = d' + 1 := ⟨d - 1, by omega⟩
  refine jWB_run [] 60 ?_
  conv => whnf
  refine ⟨fun q => ?_, fun q => ?_⟩
  · rw [lt_t] at q
    have q : r.toInt < 0 := by simpa using q
    conv => whnf
    exact ⟨Or.inl rfl, h0 (by omega)⟩
  · rw [lt_t] at q
    have q : ¬ r.toInt < 0 := by simpa using q
    conv => whnf
    refine ⟨fun q2 => ?_, fun q2 => ?_⟩
    · have q2 : 6 ≤ r.toInt := le_t.mp q2
      conv => whnf
      exact ⟨Or.inl rfl, h0 (by omega)⟩
    · have q2 : ¬ 6 ≤ r.toInt := fun z => q2 (le_t.mpr z)
      conv => whnf
      exact ⟨Or.inr rfl, h1 (by omega) (by omega)⟩
theorem hd_isThere {d : Nat} (hd : 1 ≤ d) {r : Int32} {I : Nat → Nat → Nat → Int32} {L : Nat → Nat → Nat → Int64} {k : jK} (hr0 : 0 ≤ r.toInt) (hr5 : r.toInt ≤ 5) (h1 : k (some (.inl (.inl 1))) (I, L)) (h0 : k (some (.inl (.inl 0))) (I, L)) : jWPM d 16 [.inr (1, 0), .inl (.inl r)] (I, L) k := by
  obtain ⟨d, rfl⟩ : ∃ d', d = d' + 1 := ⟨d - 1, by omega⟩
  refine jWB_run [] 60 ?_
  conv => whnf
  refine ⟨vp_in_iff.mpr (by omega), ?_⟩
  conv => whnf
  exact ⟨fun _ => ⟨Or.inl rfl, h0⟩, fun _ => ⟨Or.inr rfl, h1⟩⟩
theorem gi_crows {I : Nat → Nat → Nat → Int32} (h : gG aGI I) {j : Nat} (hj : j ≤ 5) : -1 ≤ (I 14 0 j).toInt ∧ (I 14 0 j).toInt ≤ 40 := h (14, (0, 0), (0, 5), ((-1), 40)) (by decide) 0 j (by decide) (by decide) (by simp) (by simp; omega)
theorem hd_hasPlaces {d : Nat} (hd : 1 ≤ d) {r i n : Int32} {I : Nat → Nat → Nat → Int32} {L : Nat → Nat → Nat → Int64} {k : jK} (hG : gG aGI I) (hr0 : 0 ≤ r.toInt) (hr5 : r.toInt ≤ 5) (h1 : 0 ≤ i.toInt → i.toInt + n.toInt ≤ 40 → k (some (.inl (.inl 1))) (I, L)) (h0 : k (some (.inl (.inl 0))) (I, L)) : jWPM d 23 [.inr (1, 0), .inl (.inl r), .inl (.inl i), .inl (.inl n)] (I, L) k := by
  obtain ⟨d, rfl⟩ : ∃ d', d = d' + 1 := ⟨d - 1, by omega⟩
  have nr := cl_t hr0
  have hs := gi_crows hG (j := r.toNatClampNeg) (by omega)
  refine jWB_run [] 60 ?_
  conv => whnf
  refine ⟨fun q => ⟨Or.inl rfl, h0⟩, fun q => ?_⟩
  rw [lt_t] at q
  have q : ¬ i.toInt < 0 := by simpa using q
  conv => whnf
  refine ⟨vp_in_iff.mpr (by omega), ?_⟩
  conv => whnf
  refine ⟨fun q => ⟨Or.inl rfl, h0⟩, fun q2 => ?_⟩
  have q2 : ¬ (I 14 0 r.toNatClampNeg).toInt < i.toInt := fun z => q2 (lt_t.mpr z)
  conv => whnf
  refine ⟨vp_in_iff.mpr (by omega), ?_⟩
  conv => whnf
  refine ⟨fun q => ⟨Or.inl rfl, h0⟩, fun q3 => ⟨Or.inr rfl, h1 (by omega) ?_⟩⟩
  have e : (I 14 0 r.toNatClampNeg - i).toInt = (I 14 0 r.toNatClampNeg).toInt - i.toInt := i32_sub (by omega)
  have q3 : ¬ (I 14 0 r.toNatClampNeg - i).toInt < n.toInt := fun z => q3 (lt_t.mpr z)
  omega
noncomputable def ccW : List aR := [(0, (0, 0), (13, 13)), (12, (0, 0), (0, 5)), (29, (0, 5), (0, 39))]
set_option maxHeartbeats 4000000 in
theorem hK_copy : aKP aGI 72 ([(2, 0, (0, 0)), (0, 0, ((-2147483648), 2147483647)), (0, 0, ((-2147483648), 2147483647)), (0, 0, ((-2147483648), 2147483647)), (0, 0, ((-2147483648), 2147483647)), (0, 0, ((-2147483648), 2147483647))], (1, ((-3), 1)), ccW, 9) := by
  intro d hd as I0 L0 has hG k hk
  obtain ⟨d, rfl⟩ : ∃ d', d = d' + 1 := ⟨d - 1, by simp at hd; omega⟩
  have hd : 8 ≤ d := by simp at hd; omega
  have hd1 : 1 ≤ d := by omega
  dsimp only at hk
  match as, has with
  | [.inr (g0, n0), .inl (.inl r), .inl (.inl i), .inl (.inl to), .inl (.inl j), .inl (.inl n)], has =>
    obtain ⟨⟨-, e1, e2, e3⟩, -⟩ := has
    dsimp only at e1 e2 e3
    obtain rfl : n0 = 0 := by omega
    subst e1
    have bad : k (some (.inl (.inl (-1)))) (I0, L0) := hk _ _ _ hG gR_rf ⟨-1, rfl, by decide, by decide⟩
    have fnd : ∀ (I' : Nat → Nat → Nat → Int32), gG aGI I' → gR cfW I0 L0 I' L0 → k (some (.inl (.inl (-3)))) (I', L0) := fun I' g1 g2 => hk _ _ _ g1 (gR_in (by decide) g2) ⟨-3, rfl, by decide, by decide⟩
    refine jWB_run [] 100 ?_
    conv => whnf
    refine hd_names hd1 (fun a b => ?_) (fun _ => ?_)
    · conv => whnf
      refine ⟨fun h => absurd h (by decide), fun _ => ?_⟩
      conv => whnf
      refine hd_names hd1 (fun a2 b2 => ?_) (fun _ => ?_)
      · conv => whnf
        refine ⟨fun _ => ?_, fun h => absurd h (by decide)⟩
        have nr := cl_t a
        have nt := cl_t a2
        conv => whnf
        refine ⟨fun hn => ?_, fun hn => ?_⟩
        · rw [le_t] at hn
          have hn : 0 ≤ n.toInt := by simpa using hn
          conv => whnf
          refine hd_isThere hd1 a b ?_ ?_
          · conv => whnf
            refine ⟨fun h => absurd h (by decide), fun _ => ?_⟩
            conv => whnf
            refine hd_isThere hd1 a2 b2 ?_ ?_
            · conv => whnf
              refine ⟨fun _ => ?_, fun h => absurd h (by decide)⟩
              conv => whnf
              refine hd_hasPlaces hd1 hG a b (fun h1 h2 => ?_) ?_
              · conv => whnf
                refine ⟨fun h => absurd h (by decide), fun _ => ?_⟩
                conv => whnf
                refine hd_hasPlaces hd1 hG a2 b2 (fun h3 h4 => ?_) ?_
                · conv => whnf
                  refine ⟨fun _ => ?_, fun h => absurd h (by decide)⟩
                  conv => whnf
                  obtain ⟨d, rfl⟩ : ∃ d', d = d' + 1 := ⟨d - 1, by omega⟩
                  have ni := cl_t h1
                  have nj := cl_t h3
                  have nn := cl_t hn
                  refine jWB_run [] 60 ?_
                  conv => whnf
                  refine ⟨vp_in_iff.mpr (by omega), ?_⟩
                  conv => whnf
                  refine ⟨vp_in_iff.mpr (by omega), ?_⟩
                  conv => whnf
                  refine ⟨⟨fun z => ?_, fun z => ?_, fun z => ?_, by omega, by omega⟩, ?_⟩
                  · rw [lt_t] at z; simp at z; omega
                  · rw [lt_t] at z; simp at z; omega
                  · rw [lt_t] at z; simp at z; omega
                  conv => whnf
                  refine hk _ _ _ (fun e he x y c1 c2 c3 c4 => ?_) (fun g x y hw => ⟨?_, rfl⟩) ⟨1, rfl, by decide, by decide⟩
                  · have : ∀ e ∈ aGI, e.1 ≠ 29 := by decide
                    unfold jcpy
                    rw [if_neg (fun q => this e he q.1)]
                    exact hG e he x y c1 c2 c3 c4
                  · unfold jcpy
                    rw [if_neg (fun q => hw ⟨(29, (0, 5), (0, 39)), by decide, q.1.symm, by simp, ?_, by simp, ?_⟩)]
                    · have := q.2.1
                      simp only at this ⊢
                      omega
                    · have := q.2.2
                      simp only
                      omega
                · conv => whnf
                  exact ⟨fun h => absurd rfl h, fun _ => hd_cfind hd1 (by decide) (by decide) hG fnd⟩
              · conv => whnf
                exact ⟨fun _ => hd_cfind hd1 (by decide) (by decide) hG fnd, fun h => absurd rfl h⟩
            · conv => whnf
              exact ⟨fun h => absurd rfl h, fun _ => hd_cfind hd1 (by decide) (by decide) hG fnd⟩
          · conv => whnf
            exact ⟨fun _ => hd_cfind hd1 (by decide) (by decide) hG fnd, fun h => absurd rfl h⟩
        · conv => whnf
          exact hd_cfind hd1 (by decide) (by decide) hG fnd
      · conv => whnf
        exact ⟨fun h => absurd rfl h, fun h => bad⟩
    · conv => whnf
      exact ⟨fun h => bad, fun h => absurd rfl h⟩
end
