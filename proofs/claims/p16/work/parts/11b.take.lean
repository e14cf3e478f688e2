theorem gi_card {I : Nat → Nat → Nat → Int32} (h : gG aGI I) {x : Nat} (hx : x ≤ 5) : 0 ≤ (I 4 x 14).toInt ∧ (I 4 x 14).toInt ≤ 1 := h (4, (0, 5), (14, 14), (0, 1)) (by decide) x 14 (by simp) (by simp; omega) (by simp) (by simp)
theorem gi_pk {I : Nat → Nat → Nat → Int32} (h : gG aGI I) {x : Nat} (hx : x ≤ 5) : 0 ≤ (I 4 x 6).toInt ∧ (I 4 x 6).toInt ≤ 6 := h (4, (0, 5), (6, 6), (0, 6)) (by decide) x 6 (by simp) (by simp; omega) (by simp) (by simp)
theorem gR_cpy {W : List aR} {I0 I : Nat → Nat → Nat → Int32} {L0 L : Nat → Nat → Nat → Int64} {g a b n : Nat} (h : gR W I0 L0 I L) (hm : (g, ((a : Int), (a : Int)), ((0 : Int), (n : Int) - 1)) ∈ W) : gR W I0 L0 (jcpy I g b g a 0 0 n) L := fun g' i' j' hn => by
  refine ⟨?_, (h g' i' j' hn).2⟩
  unfold jcpy
  rw [if_neg (fun q => hn ⟨_, hm, q.1.symm, by simp; omega, by simp; omega, by simp, by simp; omega⟩)]
  exact (h g' i' j' hn).1
theorem gG_cpy {I : Nat → Nat → Nat → Int32} {g a b n : Nat} (h : gG aGI I) (hg : ∀ e ∈ aGI, e.1 = g → e.2.1 = (0, 5) ∧ e.2.2.1 = (0, 5)) (hb : b ≤ 5) : gG aGI (jcpy I g b g a 0 0 n) := fun e he i j a1 a2 a3 a4 => by
  unfold jcpy
  split
  · rename_i q
    obtain ⟨q1, q2⟩ := hg e he q.1
    rw [q2] at a3 a4
    have := h e he b (0 + (j - 0)) (by rw [q1]; simp) (by rw [q1]; simp; omega) (by rw [q2]; simp) (by rw [q2]; simp at a4 ⊢; omega)
    rw [q.1] at this
    exact this
  · exact h e he i j a1 a2 a3 a4
theorem cpy_at {I : Nat → Nat → Nat → Int32} {g a b n j : Nat} (hj : j < n) : jcpy I g b g a 0 0 n g a j = I g b j := by
  unfold jcpy
  rw [if_pos ⟨rfl, rfl, Nat.zero_le _, by omega⟩]
  simp
theorem cpy_of {I : Nat → Nat → Nat → Int32} {g a b n g' i' j' : Nat} (h : ¬ (g' = g ∧ i' = a)) : jcpy I g b g a 0 0 n g' i' j' = I g' i' j' := by
  unfold jcpy
  rw [if_neg (fun q => h ⟨q.1, q.2.1⟩)]
noncomputable def tsW (a : Nat) : List aR := [(4, ((a : Int), (a : Int)), (6, 15)), (18, ((a : Int), (a : Int)), (0, 5)), (19, ((a : Int), (a : Int)), (0, 5)), (20, ((a : Int), (a : Int)), (0, 5)), (21, ((a : Int), (a : Int)), (0, 5)), (23, ((a : Int), (a : Int)), (0, 9))]
theorem gR_ts4 {I0 I : Nat → Nat → Nat → Int32} {L0 L : Nat → Nat → Nat → Int64} {a j : Nat} {x : Int32} (h : gR (tsW a) I0 L0 I L) (h1 : 6 ≤ j) (h2 : j ≤ 15) : gR (tsW a) I0 L0 (jup I 4 a j x) L := gR_upI h ⟨(4, ((a : Int), (a : Int)), (6, 15)), List.mem_cons_self, rfl, by simp, by simp, by simp; omega, by simp; omega⟩
theorem i32_01 {x : Int32} (h : 0 ≤ x.toInt ∧ x.toInt ≤ 1) : x = 0 ∨ x = 1 := by
  have : x.toInt = 0 ∨ x.toInt = 1 := by omega
  rcases this with h | h
  · exact Or.inl (i32_of h 0 rfl)
  · exact Or.inr (i32_of h 1 rfl)
set_option maxHeartbeats 4000000 in
theorem hd_takeStanding {d : Nat} (hd : 2 ≤ d) {a b : Nat} (hab : a ≠ b) (ha : a ≤ 5) (hb : b ≤ 5) {I : Nat → Nat → Nat → Int32} {L : Nat → Nat → Nat → Int64} {k : jK} (hG : gG aGI I) (hk : ∀ I', gG aGI I' → gR (tsW a) I L I' L → (∀ j, j < 6 → I' 19 a j = I 19 b j) → I' 4 a 15 = I 4 b 15 → k none (I', L)) : jWPM d 29 [.inr (4, a), .inr (4, b)] (I, L) k := by
  obtain ⟨d, rfl⟩ : ∃ d', d = d' + 1 := ⟨d - 1, by omega⟩
  have hd : 1 ≤ d := by omega
  have hP : ∃ P : (Nat → Nat → Nat → Int32) → Prop, P = fun J => gG aGI J ∧ gR (tsW a) I L J L ∧ (∀ j, j < 6 → J 19 a j = I 19 b j) ∧ (∀ j, J 4 b j = I 4 b j) := ⟨_, rfl⟩
  obtain ⟨P, hP⟩ := hP
  have up : ∀ (J : Nat → Nat → Nat → Int32) (j : Nat), P J → 6 ≤ j → j ≤ 15 → (∀ e ∈ aGI, e.1 = 4 → e.2.2.1.1 ≤ (j : Int) → (j : Int) ≤ e.2.2.1.2 → e.2.1 = (0, 5)) → P (jup J 4 a j (J 4 b j)) := by
    intro J j h h1 h2 h3
    rw [hP] at h ⊢
    refine ⟨gG_up1 h.1 (fun e he q1 q2 q3 => ?_), gR_ts4 h.2.1 h1 h2, fun x hx => h.2.2.1 x hx, fun x => ?_⟩
    · have := h.1 e he b j (by rw [h3 e he q1 q2 q3]; simp) (by rw [h3 e he q1 q2 q3]; simp; omega) q2 q3
      rw [q1] at this
      exact this
    · rw [jup_of (fun q => hab q.2.1.symm)]
      exact h.2.2.2 x
  have s143 : ∀ J, P J → jWB (jWPM d) k none (jco 29) (143, [some (.inr (4, a)), some (.inr (4, b))], [], J, L) := by
    intro J h
    have h' := up J 15 h (by decide) (by decide) (by decide)
    rw [hP] at h'
    refine jWB_run [] 20 ?_
    conv => whnf
    refine hk _ h'.1 h'.2.1 h'.2.2.1 ?_
    have : jup J 4 a 15 (J 4 b 15) 4 a 15 = J 4 b 15 := by simp [jup]
    rw [hP] at h
    exact this.trans (h.2.2.2 15)
  have s135 : ∀ J, P J → jWB (jWPM d) k none (jco 29) (135, [some (.inr (4, a)), some (.inr (4, b))], [], J, L) := by
    intro J h
    have hb1 : J 4 b 14 = 0 ∨ J 4 b 14 = 1 := by
      rw [hP] at h
      exact i32_01 (gi_card h.1 hb)
    refine jWB_run [143] 20 ?_
    conv => whnf
    exact ⟨hb1, s143 _ (up J 14 h (by decide) (by decide) (by decide))⟩
  have s127 : ∀ J, P J → jWB (jWPM d) k none (jco 29) (127, [some (.inr (4, a)), some (.inr (4, b))], [], J, L) := by
    intro J h
    refine jWB_run [135] 20 ?_
    exact s135 _ (up J 13 h (by decide) (by decide) (by decide))
  have s119 : ∀ J, P J → jWB (jWPM d) k none (jco 29) (119, [some (.inr (4, a)), some (.inr (4, b))], [], J, L) := by
    intro J h
    refine jWB_run [127] 20 ?_
    exact s127 _ (up J 12 h (by decide) (by decide) (by decide))
  have s111 : ∀ J, P J → jWB (jWPM d) k none (jco 29) (111, [some (.inr (4, a)), some (.inr (4, b))], [], J, L) := by
    intro J h
    refine jWB_run [119] 20 ?_
    exact s119 _ (up J 11 h (by decide) (by decide) (by decide))
  have s103 : ∀ J, P J → jWB (jWPM d) k none (jco 29) (103, [some (.inr (4, a)), some (.inr (4, b))], [], J, L) := by
    intro J h
    refine jWB_run [111] 20 ?_
    exact s111 _ (up J 10 h (by decide) (by decide) (by decide))
  have s95 : ∀ J, P J → jWB (jWPM d) k none (jco 29) (95, [some (.inr (4, a)), some (.inr (4, b))], [], J, L) := by
    intro J h
    refine jWB_run [103] 20 ?_
    exact s103 _ (up J 9 h (by decide) (by decide) (by decide))
  have s87 : ∀ J, P J → jWB (jWPM d) k none (jco 29) (87, [some (.inr (4, a)), some (.inr (4, b))], [], J, L) := by
    intro J h
    refine jWB_run [95] 20 ?_
    exact s95 _ (up J 8 h (by decide) (by decide) (by decide))
  have s79 : ∀ J, P J → jWB (jWPM d) k none (jco 29) (79, [some (.inr (4, a)), some (.inr (4, b))], [], J, L) := by
    intro J h
    refine jWB_run [87] 20 ?_
    exact s87 _ (up J 7 h (by decide) (by decide) (by decide))
  have s71 : ∀ J, P J → jWB (jWPM d) k none (jco 29) (71, [some (.inr (4, a)), some (.inr (4, b))], [], J, L) := by
    intro J h
    refine jWB_run [79] 20 ?_
    exact s79 _ (up J 6 h (by decide) (by decide) (by decide))
  have s60 : ∀ J, P J → jWB (jWPM d) k none (jco 29) (60, [some (.inr (4, a)), some (.inr (4, b))], [], J, L) := by
    intro J h
    obtain ⟨d, rfl⟩ : ∃ d', d = d' + 1 := ⟨d - 1, by omega⟩
    refine jWB_run [71] 20 ?_
    conv => whnf
    refine jWB_run [] 20 ?_
    conv => whnf
    refine ⟨by decide, ?_⟩
    refine s71 _ ?_
    rw [hP] at h ⊢
    refine ⟨gG_cpy h.1 (by decide) hb, gR_cpy (n := 10) h.2.1 (by simp [tsW]), fun j hj => ?_, fun j => ?_⟩
    · exact (cpy_of (by simp)).trans (h.2.2.1 j hj)
    · exact (cpy_of (by simp)).trans (h.2.2.2 j)
  have s45 : ∀ J, P J → jWB (jWPM d) k none (jco 29) (45, [some (.inr (4, a)), some (.inr (4, b))], [], J, L) := by
    intro J h
    refine jWB_run [60] 20 ?_
    conv => whnf
    refine ⟨by decide, ?_⟩
    refine s60 _ ?_
    rw [hP] at h ⊢
    refine ⟨gG_cpy h.1 (by decide) hb, gR_cpy (n := 6) h.2.1 (by simp [tsW]), fun j hj => ?_, fun j => ?_⟩
    · exact (cpy_of (by simp)).trans (h.2.2.1 j hj)
    · exact (cpy_of (by simp)).trans (h.2.2.2 j)
  have s30 : ∀ J, P J → jWB (jWPM d) k none (jco 29) (30, [some (.inr (4, a)), some (.inr (4, b))], [], J, L) := by
    intro J h
    refine jWB_run [45] 20 ?_
    conv => whnf
    refine ⟨by decide, ?_⟩
    refine s45 _ ?_
    rw [hP] at h ⊢
    refine ⟨gG_cpy h.1 (by decide) hb, gR_cpy (n := 6) h.2.1 (by simp [tsW]), fun j hj => ?_, fun j => ?_⟩
    · exact (cpy_of (by simp)).trans (h.2.2.1 j hj)
    · exact (cpy_of (by simp)).trans (h.2.2.2 j)
  have s15 : ∀ J, gG aGI J → gR (tsW a) I L J L → (∀ j, J 19 b j = I 19 b j) → (∀ j, J 4 b j = I 4 b j) → jWB (jWPM d) k none (jco 29) (15, [some (.inr (4, a)), some (.inr (4, b))], [], J, L) := by
    intro J h1 h2 h3 h4
    refine jWB_run [30] 20 ?_
    conv => whnf
    refine ⟨by decide, ?_⟩
    refine s30 _ ?_
    rw [hP]
    refine ⟨gG_cpy h1 (by decide) hb, gR_cpy (n := 6) h2 (by simp [tsW]), fun j hj => ?_, fun j => ?_⟩
    · exact (cpy_at hj).trans (h3 j)
    · exact (cpy_of (by simp)).trans (h4 j)
  refine jWB_run [15] 20 ?_
  conv => whnf
  refine ⟨by decide, ?_⟩
  exact s15 _ (gG_cpy hG (by decide) hb) (gR_cpy (n := 6) gR_rf (by simp [tsW])) (fun j => cpy_of (by simp)) (fun j => cpy_of (by simp))
noncomputable def taW (a : Nat) : List aR := (22, ((a : Int), (a : Int)), (0, 39)) :: tsW a
theorem hd_takeAll {d : Nat} (hd : 3 ≤ d) {a b : Nat} (hab : a ≠ b) (ha : a ≤ 5) (hb : b ≤ 5) {I : Nat → Nat → Nat → Int32} {L : Nat → Nat → Nat → Int64} {k : jK} (hG : gG aGI I) (hk : ∀ I', gG aGI I' → gR (taW a) I L I' L → (∀ j, j < 6 → I' 19 a j = I 19 b j) → I' 4 a 15 = I 4 b 15 → (∀ j, j < 40 → I' 22 a j = I 22 b j) → k none (I', L)) : jWPM d 28 [.inr (4, a), .inr (4, b)] (I, L) k := by
  obtain ⟨d, rfl⟩ : ∃ d', d = d' + 1 := ⟨d - 1, by omega⟩
  have hd : 2 ≤ d := by omega
  refine jWB_run [] 30 ?_
  conv => whnf
  refine hd_takeStanding hd hab ha hb hG (fun I1 g1 g2 g3 g4 => ?_)
  have g5 : ∀ x j, I1 22 x j = I 22 x j := fun x j => (g2 22 x j (fun ⟨r, hr, q⟩ => by
    simp only [tsW, List.mem_cons, List.not_mem_nil, or_false] at hr
    rcases hr with rfl | rfl | rfl | rfl | rfl | rfl <;> (have q1 := q.1; simp at q1))).1
  conv => whnf
  refine ⟨by decide, ?_⟩
  refine hk _ (gG_cpy g1 (by decide) hb) (gR_cpy (n := 40) (gR_mono g2 (fun r hr => List.mem_cons_of_mem _ hr)) (by simp [taW])) (fun j hj => ?_) ?_ (fun j hj => ?_)
  · exact (cpy_of (by simp)).trans (g3 j hj)
  · exact (cpy_of (by simp)).trans g4
  · exact (cpy_at hj).trans (g5 b j)
