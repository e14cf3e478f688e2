noncomputable def hoW : List aR := [(31, (0, 0), (15, 21)), (40, (0, 0), (0, 23)), (31, (0, 0), (13, 13)), (39, (0, 0), (0, 5)), (32, (0, 0), (0, 3447)), (31, (0, 0), (1, 3)), (33, (0, 0), (0, 5)), (34, (0, 0), (0, 5))]
theorem mem2 {α : Type} {a b : α} {l : List α} : a ∈ b :: a :: l := List.mem_cons_of_mem _ List.mem_cons_self
theorem hoW32 : (32, (0, 0), (0, 3447)) ∈ hoW := by decide
theorem hoW33 : (33, (0, 0), (0, 5)) ∈ hoW := by decide
theorem hoW34 : (34, (0, 0), (0, 5)) ∈ hoW := by decide
theorem hoW31 : (31, (0, 0), (1, 3)) ∈ hoW := by decide
theorem gi34 : ∀ e ∈ aGI, e.1 = 34 → e.2.2.2 = (0, 9) := by decide
set_option maxHeartbeats 4000000 in
theorem hK_mhouse : aKP aGI 150 ([(2, 31, (0, 0)), (0, 0, ((-2147483648), 2147483647))], (1, ((-4), 6)), hoW, 8) := by
  intro d hd as I0 L0 has hG k hk
  obtain ⟨d, rfl⟩ : ∃ d', d = d' + 1 := ⟨d - 1, by simp at hd; omega⟩
  have hd : 7 ≤ d := by simp at hd; omega
  dsimp only at hk
  match as, has with
  | [.inr (g0, n0), .inl (.inl t)], has =>
    obtain ⟨⟨-, e1, e2, e3⟩, -⟩ := has
    dsimp only at e1 e2 e3
    obtain rfl : n0 = 0 := by omega
    subst e1
    have third : ∀ (i : Int32) (I : Nat → Nat → Nat → Int32), gG aGI I → gR hoW I0 L0 I L0 → jWB (jWPM d) k none (jco 150) (167, [some (.inr (31, 0)), some (.inl (.inl t)), some (.inl (.inl i))], [], I, L0) := by
      intro i I g1 g2
      have s1 : ∀ (I : Nat → Nat → Nat → Int32), gG aGI I → gG aGI (jup I 32 0 1149 (-1)) := fun I g => gG_32 g (fun z => absurd z (by decide)) (fun _ => by decide)
      have s2 : ∀ (I : Nat → Nat → Nat → Int32), gG aGI I → gG aGI (jup I 32 0 2298 (-1)) := fun I g => gG_32 g (fun z => absurd z (by decide)) (fun _ => by decide)
      have s3 : ∀ (I : Nat → Nat → Nat → Int32), gG aGI I → gG aGI (jup I 32 0 3447 (-1)) := fun I g => gG_32 g (fun z => absurd z (by decide)) (fun _ => by decide)
      refine jWB_run [] 100 ?_
      conv => whnf
      refine ⟨fun q => absurd q (by decide), fun _ => ?_⟩
      conv => whnf
      refine ⟨vp_in_iff.mpr (by decide), ?_⟩
      conv => whnf
      refine ⟨fun q => absurd q (by decide), fun _ => ?_⟩
      conv => whnf
      refine ⟨vp_in_iff.mpr (by decide), ?_⟩
      conv => whnf
      refine ⟨fun q => absurd q (by decide), fun _ => ?_⟩
      conv => whnf
      refine ⟨vp_in_iff.mpr (by decide), ?_⟩
      conv => whnf
      refine ⟨fun _ => ?_, fun q => absurd (by decide) q⟩
      have f1 := s3 _ (s2 _ (s1 _ g1))
      have hp := gi_mpackets g1
      exact hk _ _ _ f1 (gR_w (gR_w (gR_w g2 hoW32 (by decide) (by decide)) hoW32 (by decide) (by decide)) hoW32 (by decide) (by decide)) ⟨_, rfl, (by show -4 ≤ (I 31 0 3).toInt; omega), (by show (I 31 0 3).toInt ≤ 6; omega)⟩
    have second : ∀ (N : Nat) (i : Int32) (I : Nat → Nat → Nat → Int32), 6 - i.toInt ≤ (N : Int) → 0 ≤ i.toInt → gG aGI I → gR hoW I0 L0 I L0 → rP I → I 31 0 3 = I 31 0 21 → jWB (jWPM d) k none (jco 150) (85, [some (.inr (31, 0)), some (.inl (.inl t)), some (.inl (.inl i))], [], I, L0) := by
      intro N
      induction N with
      | zero =>
        intro i I h1 h2 h3 h4 h5 h6
        have hp := gi_mpackets h3
        refine jWB_run [85, 167] 100 ?_
        conv => whnf
        refine ⟨fun q => third i I h3 h4, fun q => ?_⟩
        rw [le_t] at q; exfalso; omega
      | succ N ih =>
        intro i I h1 h2 h3 h4 h5 h6
        have hp := gi_mpackets h3
        refine jWB_run [85, 167] 100 ?_
        conv => whnf
        refine ⟨fun q => third i I h3 h4, fun q => ?_⟩
        rw [le_t] at q
        have ei : (i + 1).toInt = i.toInt + 1 := by rw [i32_add (by simp; omega)]; simp
        have e4 : (4 * i).toInt = 4 * i.toInt := by rw [i32_mul (by simp; omega)]; simp
        have e41 : (4 * i + 1).toInt = 4 * i.toInt + 1 := by rw [i32_add (by rw [e4]; simp; omega), e4]; simp
        have e42 : (4 * i + 2).toInt = 4 * i.toInt + 2 := by rw [i32_add (by rw [e4]; simp; omega), e4]; simp
        have e43 : (4 * i + 3).toInt = 4 * i.toInt + 3 := by rw [i32_add (by rw [e4]; simp; omega), e4]; simp
        have e17 : (17 + i).toInt = 17 + i.toInt := by rw [i32_add (by simp; omega)]; simp
        have e23 : (23 + i).toInt = 23 + i.toInt := by rw [i32_add (by simp; omega)]; simp
        have ni := cl_t h2
        have n17 := cl_t (x := 17 + i) (by omega)
        have n23 := cl_t (x := 23 + i) (by omega)
        have n43 := cl_t (x := 4 * i + 3) (by omega)
        have c43 : (4 * i + 3).toNatClampNeg = 4 * i.toInt.toNat + 3 := by omega
        conv => whnf
        refine ⟨vp_in_iff.mpr (by omega), ?_⟩
        conv => whnf
        refine ⟨vp_in_iff.mpr (by omega), ?_⟩
        conv => whnf
        refine ⟨vp_in_iff.mpr (by omega), ?_⟩
        conv => whnf
        refine ⟨vp_in_iff.mpr (by omega), ?_⟩
        conv => whnf
        refine ⟨vp_in_iff.mpr (by omega), ?_⟩
        conv => whnf
        refine ⟨vp_in_iff.mpr (by omega), ?_⟩
        conv => whnf
        refine ⟨vp_in_iff.mpr (by omega), ?_⟩
        conv => whnf
        refine ⟨vp_in_iff.mpr (by omega), ?_⟩
        have hke := h5 i.toInt.toNat (by rw [← h6]; omega)
        rw [← c43] at hke
        refine ih (i + 1) _ (by omega) (by omega) ?_ (gR_w (gR_w (gR_w (gR_w h4 hoW33 (by omega) (by omega)) hoW32 (by omega) (by omega)) hoW32 (by omega) (by omega)) hoW34 (by omega) (by omega)) (fun j hj => h5 j hj) h6
        refine gG_up1 (gG_32 (gG_32 (gG_up h3 (by decide)) (fun z => by omega) (fun z => by omega)) (fun z => by omega) (fun z => by omega)) (fun e he a _ _ => ?_)
        rw [gi34 e he a]
        exact hke
    have first : ∀ (N : Nat) (i : Int32) (I : Nat → Nat → Nat → Int32), 1149 - i.toInt ≤ (N : Int) → 0 ≤ i.toInt → gG aGI I → gR hoW I0 L0 I L0 → rP I → jWB (jWPM d) k none (jco 150) (39, [some (.inr (31, 0)), some (.inl (.inl t)), some (.inl (.inl i))], [], I, L0) := by
      have out : ∀ (i : Int32) (I : Nat → Nat → Nat → Int32), gG aGI I → gR hoW I0 L0 I L0 → rP I → jWB (jWPM d) k none (jco 150) (59, [some (.inr (31, 0)), some (.inl (.inl t)), some (.inl (.inl i))], [], I, L0) := by
        intro i I h3 h4 h5
        have hm := gi_many h3
        refine jWB_run [85] 100 ?_
        refine second 6 0 _ (by decide) (by decide) ?_ (gR_w (gR_w (gR_w h4 hoW31 (by decide) (by decide)) hoW31 (by decide) (by decide)) hoW31 (by decide) (by decide)) (fun j hj => h5 j hj) rfl
        refine gG_up1 (gG_upn (gG_upn h3 (by decide)) (by decide)) (fun e he a b c => ?_)
        have : ∀ e ∈ aGI, e.1 = 31 → e.2.2.1.1 ≤ 3 → 3 ≤ e.2.2.1.2 → e.2.2.2 = (0, 6) := by decide
        rw [this e he a b c]; exact hm
      intro N
      induction N with
      | zero =>
        intro i I h1 h2 h3 h4 h5
        refine jWB_run [39, 59] 100 ?_
        conv => whnf
        refine ⟨fun q => out i I h3 h4 h5, fun q => ?_⟩
        rw [le_t] at q; exfalso; simp at q; omega
      | succ N ih =>
        intro i I h1 h2 h3 h4 h5
        refine jWB_run [39, 59] 100 ?_
        conv => whnf
        refine ⟨fun q => out i I h3 h4 h5, fun q => ?_⟩
        have q : i.toInt < 1149 := by rw [le_t] at q; simp at q; omega
        have ei : (i + 1).toInt = i.toInt + 1 := by rw [i32_add (by simp; omega)]; simp
        have ni := cl_t h2
        conv => whnf
        refine ⟨vp_in_iff.mpr (by omega), ?_⟩
        exact ih (i + 1) _ (by omega) (by omega) (gG_32 h3 (fun _ => by decide) (fun _ => by decide)) (gR_w h4 hoW32 (by omega) (by omega)) (fun j hj => h5 j hj)
    refine jWB_run [39] 60 ?_
    conv => whnf
    refine hd_isText (Nat.le_trans (by decide) hd) (fun a b => ?_) (fun a => ?_)
    · conv => whnf
      refine ⟨fun _ => ?_, fun h => absurd h (by decide)⟩
      conv => whnf
      refine ⟨vp_in_iff.mpr (by omega), ?_⟩
      conv => whnf
      refine ⟨fun q => ?_, fun q => ?_⟩
      · rw [le_t] at q
        conv => whnf
        refine hd_faultOf (Nat.le_trans (by decide) hd) hG a b (by simpa using q) (fun I' v g1 g2 g3 g4 g5 => ?_)
        conv => whnf
        refine ⟨fun q => ?_, fun q => hk _ _ _ g1 (gR_in (by decide) g2) ⟨-4, rfl, by decide, by decide⟩⟩
        exact first 1149 0 I' (by decide) (by decide) g1 (gR_in (by decide) g2) g3
      · conv => whnf
        refine hd_find (Nat.le_trans (by decide) hd) (by decide) (by decide) hG (fun I' g1 g2 => ?_)
        exact hk _ _ _ g1 (gR_in (by decide) g2) ⟨-3, rfl, by decide, by decide⟩
    · conv => whnf
      refine ⟨fun h => absurd rfl h, fun h => hk _ _ _ hG gR_rf ⟨-1, rfl, by decide, by decide⟩⟩
