/-! the class's deeds -/
theorem lrd_C {m h : Nat} {I : jI} : ∀ j, 0 ≤ j → j < 0 + 10 → lrd (vC m I h) j = I 23 h j := fun j _ b => vC_l (by omega)
noncomputable def wkA (T : jI) (h : Int32) : jI := jup T 4 1 11 (T 4 1 11 + h)
noncomputable def wkB (T : jI) (h : Int32) : jI := jup (wkA T h) 4 1 12 (wkA T h 4 1 12 + (wkA T h 4 1 7 - h))
noncomputable def wkC (T : jI) (h : Int32) : jI := jup (d14 1 (wkB T h)).2 4 1 13 ((d14 1 (wkB T h)).2 4 1 13 + (d14 1 (wkB T h)).1)
noncomputable def wkD (T : jI) (h : Int32) : jI := jup (wkC T h) 4 1 9 (wkC T h 4 1 9 + 1)
noncomputable def pfR (g x j : Nat) : Prop := x = 1 ∧ (g = 23 ∨ g = 22 ∨ g = 19 ∨ g = 20 ∨ (g = 4 ∧ 9 ≤ j ∧ j ≤ 15))
theorem week_c {m : Nat} {I : jI} (hn : 0 ≤ (I 4 1 7).toInt) (hl : ∀ k, k < 10 → 0 ≤ (I 23 1 k).toInt) : ∃ r, d46 1 I = some r ∧ r.1 = (eatV 10 (I 4 1 7) (lrd (vC m I 1)) 0).2 0 ∧ vC m r.2 1 = stW (I 4 1 7) (vC m I 1) ∧ r.2 4 1 15 = I 4 1 15 ∧ r.2 22 1 = I 22 1 ∧ ∀ g x j, ¬ pfR g x j → r.2 g x j = I g x j := by
  obtain ⟨⟨h, T⟩, r1, ⟨r2, r3⟩, r4⟩ := eat_c (a0 := 1) (nd := I 4 1 7) hn hl
  dsimp only at r2 r3 r4
  have u : d46 1 I = some ((d14 1 (wkB T h)).1, wkD T h) := by
    unfold d46
    rw [r1]
    rfl
  have x1 := eatV_ext 10 (I 4 1 7) (lrd (vC m I 1)) (I 23 1) 0 lrd_C
  have x2 := (eatV_le 10 (I 4 1 7) (I 23 1) 0 hn (fun j _ b => hl j (by omega))).1
  have t4 : ∀ j, T 4 1 j = I 4 1 j := fun j => r4 4 1 j (by decide)
  have rn := i32_rng (I 4 1 7)
  have hs : I 4 1 7 - h = (eatV 10 (I 4 1 7) (I 23 1) 0).1 := by
    refine eq_t.mpr ?_
    have e1 : h.toInt = (I 4 1 7).toInt - (eatV 10 (I 4 1 7) (I 23 1) 0).1.toInt := by rw [r2]; exact i32_sub (by omega)
    rw [i32_sub (by omega), e1]
    omega
  have bk : ∀ k, wkB T h 23 1 k = T 23 1 k := fun k => by
    unfold wkB wkA
    rw [jup_g (by decide), jup_g (by decide)]
  have lk : ∀ k, wkD T h 23 1 k = if k < 9 then T 23 1 (k + 1) else if k = 9 then 0 else T 23 1 k := fun k => by
    unfold wkD wkC
    rw [jup_g (by decide), jup_g (by decide), off_c, bk, bk]
  have k9 : wkD T h 4 1 9 = I 4 1 9 + 1 := by rw [← t4 9]; rfl
  have k10 : wkD T h 4 1 10 = I 4 1 10 := by rw [← t4 10]; rfl
  have k11 : wkD T h 4 1 11 = I 4 1 11 + h := by rw [← t4 11]; rfl
  have k12 : wkD T h 4 1 12 = I 4 1 12 + (I 4 1 7 - h) := by rw [← t4 12, ← t4 7]; rfl
  have k13 : wkD T h 4 1 13 = I 4 1 13 + T 23 1 0 := by rw [← t4 13]; rfl
  have k14 : wkD T h 4 1 14 = I 4 1 14 := by rw [← t4 14]; rfl
  have k15 : wkD T h 4 1 15 = I 4 1 15 := by rw [← t4 15]; rfl
  have tl : ∀ k, k < 10 → T 23 1 k = (eatV 10 (I 4 1 7) (lrd (vC m I 1)) 0).2 k := fun k hk => by rw [r3, x1.2 k (by omega) (by omega)]
  have ot : ∀ g x j, ¬ (g = 23 ∧ x = 1) → ¬ (g = 4 ∧ x = 1) → wkD T h g x j = I g x j := fun g x j a b => by
    unfold wkD wkC
    rw [jup_of (fun z => b ⟨z.1, z.2.1⟩), jup_of (fun z => b ⟨z.1, z.2.1⟩), off_o a]
    unfold wkB wkA
    rw [jup_of (fun z => b ⟨z.1, z.2.1⟩), jup_of (fun z => b ⟨z.1, z.2.1⟩), r4 g x j a]
  have o4 : ∀ j, ¬ (9 ≤ j ∧ j ≤ 15) → wkD T h 4 1 j = I 4 1 j := fun j a => by
    unfold wkD wkC
    rw [jup_of (fun z => a (by omega)), jup_of (fun z => a (by omega)), off_o (by decide)]
    unfold wkB wkA
    rw [jup_of (fun z => a (by omega)), jup_of (fun z => a (by omega)), t4]
  refine ⟨_, u, ?_, ?_, k15, funext (fun e => ot 22 1 e (by decide) (by decide)), fun g x j hp => ?_⟩
  · show wkB T h 23 1 0 = _
    rw [bk, tl 0 (by decide)]
  · funext k
    unfold stW
    by_cases c0 : k = 0
    · subst c0; rw [if_pos rfl]; exact k9
    rw [if_neg c0]
    by_cases c2 : k = 2
    · subst c2; rw [if_pos rfl, x1.1, ← r2]; exact k11
    rw [if_neg c2]
    by_cases c3 : k = 3
    · subst c3; rw [if_pos rfl, x1.1, ← hs]; exact k12
    rw [if_neg c3]
    by_cases c4 : k = 4
    · subst c4; rw [if_pos rfl, ← tl 0 (by decide)]; exact k13
    rw [if_neg c4]
    by_cases c6 : 6 ≤ k ∧ k < 15
    · rw [if_pos c6, ← tl _ (by omega)]
      obtain ⟨j, rfl⟩ : ∃ j, k = 6 + j := ⟨k - 6, by omega⟩
      rw [vC_l (by omega)]
      show wkD T h 23 1 j = _
      rw [lk, if_pos (by omega), show 6 + j - 5 = j + 1 by omega]
    rw [if_neg c6]
    by_cases c15 : k = 15
    · subst c15
      rw [if_pos rfl]
      show wkD T h 23 1 9 = 0
      rw [lk, if_neg (by decide), if_pos rfl]
    rw [if_neg c15]
    by_cases c1 : k = 1
    · subst c1; exact k10
    by_cases c5 : k = 5
    · subst c5; exact k14
    unfold vC
    rw [if_neg (show ¬ k < 6 by omega), if_neg (show ¬ k < 6 by omega), if_neg (show ¬ k < 16 by omega), if_neg (show ¬ k < 16 by omega)]
    show (if k < 22 then (if k - 16 < m then wkD T h 19 1 (k - 16) else 0) else if k < 28 then (if k - 22 < m then wkD T h 20 1 (k - 22) else 0) else 0) = _
    rw [ot 19 1 _ (by decide) (by decide), ot 20 1 _ (by decide) (by decide)]
  · show wkD T h g x j = _
    by_cases a : g = 4 ∧ x = 1
    · obtain ⟨rfl, rfl⟩ := a
      exact o4 j (fun z => hp ⟨rfl, Or.inr (Or.inr (Or.inr (Or.inr ⟨rfl, z⟩)))⟩)
    · exact ot g x j (fun z => hp ⟨z.2, Or.inl z.1⟩) a
noncomputable def pfQ (I : jI) (x : Int32) : jI := jup (jup I 22 1 (I 4 1 15).toNatClampNeg x) 4 1 15 (I 4 1 15 + 1)
theorem pfQ_v {m : Nat} {I : jI} {x : Int32} (hm : m ≤ 6) : vC m (pfQ I x) 1 = vC m I 1 := by
  unfold pfQ
  refine vC_ext hm (fun j a b => ?_) (fun j _ => ?_) (fun j _ => ?_) (fun j _ => ?_)
  · rw [jup_c, if_neg (by omega), jup_g (by decide)]
  · rw [jup_g (by decide), jup_g (by decide)]
  · rw [jup_g (by decide), jup_g (by decide)]
  · rw [jup_g (by decide), jup_g (by decide)]
theorem pfQ_o {I : jI} {x : Int32} {g h j : Nat} (hp : ¬ pfR g h j) : pfQ I x g h j = I g h j := by
  unfold pfQ
  rw [jup_of (fun z => hp ⟨z.2.1, Or.inr (Or.inr (Or.inr (Or.inr ⟨z.1, by omega, by omega⟩)))⟩), jup_of (fun z => hp ⟨z.2.1, Or.inr (Or.inl z.1)⟩)]
theorem pfQ_l {I : jI} {x : Int32} {e : Nat} : pfQ I x 22 1 e = if e = (I 4 1 15).toNatClampNeg then x else I 22 1 e := by
  unfold pfQ
  rw [jup_g (by decide), jup_c]
/-- what perform leaves, at house 1 -/
noncomputable def pfF (m : Nat) (dd i v : Int32) (I I' : jI) : Prop := vC m I' 1 = stp (I 18 1) (I 21 1) (I 4 1 7) dd i v (vC m I 1) ∧ I' 4 1 15 = I 4 1 15 + 1 ∧ (∀ e, I' 22 1 e = if e = (I 4 1 15).toNatClampNeg then dd * 1000 + i * 100 + v else I 22 1 e) ∧ ∀ g h j, ¬ pfR g h j → I' g h j = I g h j
theorem buy_c {m : Nat} {Q : jI} {i n : Int32} (hm : m ≤ 6) (hi : i.toNatClampNeg < m) (hk : (kpsS (Q 18 1 i.toNatClampNeg) (Q 21 1 i.toNatClampNeg)).toNatClampNeg < 10) : ∃ r, d45 1 i n Q = some r ∧ r.1 = kost (Q 18 1 i.toNatClampNeg) n (vC m Q 1 (22 + i.toNatClampNeg)) (vC m Q 1 5) ∧ vC m r.2 1 = stB (Q 18 1) (Q 21 1) i.toNatClampNeg n (vC m Q 1) ∧ r.2 4 1 15 = Q 4 1 15 ∧ r.2 22 1 = Q 22 1 ∧ ∀ g x j, ¬ pfR g x j → r.2 g x j = Q g x j := by
  have e : d45 1 i n Q = some (kost (Q 18 1 i.toNatClampNeg) n (Q 20 1 i.toNatClampNeg) (Q 4 1 14), jup (jup Q 4 1 (9 + 1) (Q 4 1 10 + kost (Q 18 1 i.toNatClampNeg) n (Q 20 1 i.toNatClampNeg) (Q 4 1 14))) 23 1 (kpsS (Q 18 1 i.toNatClampNeg) (Q 21 1 i.toNatClampNeg)).toNatClampNeg (Q 23 1 (kpsS (Q 18 1 i.toNatClampNeg) (Q 21 1 i.toNatClampNeg)).toNatClampNeg + n * gotS (Q 18 1 i.toNatClampNeg) (Q 19 1 i.toNatClampNeg))) := by
    unfold d45 d35 d12 d37 d36
    rw [cost_c, kps_c, got_c]
    rfl
  refine ⟨_, e, ?_, ?_, rfl, rfl, fun g x j hp => ?_⟩
  · rw [vC_p hi hm]
    rfl
  · show vC m (jup (jup Q 4 1 (9 + 1) (Q 4 1 10 + kost (Q 18 1 i.toNatClampNeg) n (Q 20 1 i.toNatClampNeg) (Q 4 1 14))) 23 1 (kpsS (Q 18 1 i.toNatClampNeg) (Q 21 1 i.toNatClampNeg)).toNatClampNeg (Q 23 1 (kpsS (Q 18 1 i.toNatClampNeg) (Q 21 1 i.toNatClampNeg)).toNatClampNeg + n * gotS (Q 18 1 i.toNatClampNeg) (Q 19 1 i.toNatClampNeg))) 1 = _
    rw [vC_23 hk, vC_4 (by decide)]
    unfold stB
    rw [vC_p hi hm, vC_g hi hm, vC_l hk]
    rfl
  · show jup (jup Q 4 1 (9 + 1) (Q 4 1 10 + kost (Q 18 1 i.toNatClampNeg) n (Q 20 1 i.toNatClampNeg) (Q 4 1 14))) 23 1 (kpsS (Q 18 1 i.toNatClampNeg) (Q 21 1 i.toNatClampNeg)).toNatClampNeg (Q 23 1 (kpsS (Q 18 1 i.toNatClampNeg) (Q 21 1 i.toNatClampNeg)).toNatClampNeg + n * gotS (Q 18 1 i.toNatClampNeg) (Q 19 1 i.toNatClampNeg)) g x j = _
    rw [jup_of (fun z => hp ⟨z.2.1, Or.inl z.1⟩), jup_of (fun z => hp ⟨z.2.1, Or.inr (Or.inr (Or.inr (Or.inr ⟨z.1, by omega, by omega⟩)))⟩)]
theorem perf_c {m : Nat} {I : jI} {dd i v : Int32} (hd : 0 ≤ (I 4 1 15).toInt) (h21 : dd = 0 → 0 ≤ (I 21 1 i.toNatClampNeg).toInt ∧ (I 21 1 i.toNatClampNeg).toInt ≤ 9) (hm : m ≤ 6) (hD : (I 4 1 15).toInt ≤ 39) (hi : dd = 0 ∨ dd = 2 ∨ dd = 3 → i.toNatClampNeg < m) (hw : dd = 1 → 0 ≤ (I 4 1 7).toInt ∧ ∀ k, k < 10 → 0 ≤ (I 23 1 k).toInt) : ∃ r, d44 1 dd i v I = some r ∧ r.1 = anS (I 18 1) (I 4 1 7) dd i v (vC m I 1) ∧ pfF m dd i v I r.2 := by
  have c1 : (1 : Int32).toInt = 1 := rfl
  have c40 : (40 : Int32).toInt = 40 := rfl
  have q : ¬ d32 1 1 I = 0 := by
    unfold d32
    rw [if_neg (show ¬ (40 : Int32) < I 4 1 15 + 1 by rw [lt_t, i32_add (by omega), c40, c1]; omega)]
    decide
  have qv := pfQ_v (I := I) (x := dd * 1000 + i * 100 + v) hm
  have main : ∀ r : Int32 × jI, r.1 = anS (I 18 1) (I 4 1 7) dd i v (vC m I 1) → vC m r.2 1 = stp (I 18 1) (I 21 1) (I 4 1 7) dd i v (vC m I 1) → r.2 4 1 15 = pfQ I (dd * 1000 + i * 100 + v) 4 1 15 → r.2 22 1 = pfQ I (dd * 1000 + i * 100 + v) 22 1 → (∀ g h j, ¬ pfR g h j → r.2 g h j = pfQ I (dd * 1000 + i * 100 + v) g h j) → r.1 = anS (I 18 1) (I 4 1 7) dd i v (vC m I 1) ∧ pfF m dd i v I r.2 := by
    intro r a b c d e
    refine ⟨a, b, ?_, fun x => ?_, fun g h j hp => ?_⟩
    · rw [c]; rfl
    · rw [d, pfQ_l]
    · rw [e g h j hp, pfQ_o hp]
  have Qe : jup (jup I 22 1 (Int32.toNatClampNeg (I 4 1 15)) (((dd * 1000) + (i * 100)) + v)) 4 1 15 (((jup I 22 1 (Int32.toNatClampNeg (I 4 1 15)) (((dd * 1000) + (i * 100)) + v)) 4 1 15) + 1) = pfQ I (dd * 1000 + i * 100 + v) := rfl
  unfold d44
  rw [if_neg q, Qe]
  have a18 : pfQ I (dd * 1000 + i * 100 + v) 18 = I 18 := (jup_g (by decide)).trans (jup_g (by decide))
  have a19 : pfQ I (dd * 1000 + i * 100 + v) 19 = I 19 := (jup_g (by decide)).trans (jup_g (by decide))
  have a20 : pfQ I (dd * 1000 + i * 100 + v) 20 = I 20 := (jup_g (by decide)).trans (jup_g (by decide))
  have a21 : pfQ I (dd * 1000 + i * 100 + v) 21 = I 21 := (jup_g (by decide)).trans (jup_g (by decide))
  have a23 : pfQ I (dd * 1000 + i * 100 + v) 23 = I 23 := (jup_g (by decide)).trans (jup_g (by decide))
  have a7 : pfQ I (dd * 1000 + i * 100 + v) 4 1 7 = I 4 1 7 := rfl
  generalize pfQ I (dd * 1000 + i * 100 + v) = Q at *
  by_cases h0 : dd = 0
  · rw [if_pos h0]
    have hi0 := hi (Or.inl h0)
    have hk := kps_b (k := I 18 1 i.toNatClampNeg) (w := I 21 1 i.toNatClampNeg) (h21 h0)
    obtain ⟨r, r1, r2, r3, r4, r5, r6⟩ := buy_c (Q := Q) (n := v) hm hi0 (by rw [a18, a21]; exact hk)
    rw [r1]
    refine ⟨_, rfl, main _ ?_ ?_ r4 r5 r6⟩
    · unfold anS
      rw [if_pos h0, ← qv, ← a18]
      exact r2
    · unfold stp
      rw [if_pos h0, ← qv, ← a18, ← a21]
      exact r3
  rw [if_neg h0]
  by_cases h1 : dd = 1
  · rw [if_pos h1]
    obtain ⟨w1, w2⟩ := hw h1
    obtain ⟨r, r1, r2, r3, r4, r5, r6⟩ := week_c (m := m) (I := Q) (by rw [a7]; exact w1) (by rw [a23]; exact w2)
    rw [r1]
    refine ⟨_, rfl, main _ ?_ ?_ r4 r5 r6⟩
    · unfold anS
      rw [if_neg h0, if_pos h1, ← qv, ← a7]
      exact r2
    · unfold stp
      rw [if_neg h0, if_pos h1, ← qv, ← a7]
      exact r3
  rw [if_neg h1]
  by_cases h2 : dd = 2
  · rw [if_pos h2]
    have hi2 := hi (Or.inr (Or.inl h2))
    refine ⟨_, rfl, main _ ?_ ?_ rfl rfl (fun g h j hp => jup_of (fun z => hp ⟨z.2.1, Or.inr (Or.inr (Or.inl z.1))⟩))⟩
    · unfold anS
      rw [if_neg h0, if_neg h1, if_pos h2, vC_g hi2 hm, ← a19]
      exact jup_at
    · unfold stp
      rw [if_neg h0, if_neg h1, if_pos h2, ← qv, vC_g hi2 hm]
      exact vC_19 hi2 hm
  rw [if_neg h2]
  by_cases h3 : dd = 3
  · rw [if_pos h3]
    have hi3 := hi (Or.inr (Or.inr h3))
    refine ⟨_, rfl, main _ ?_ ?_ rfl rfl (fun g h j hp => jup_of (fun z => hp ⟨z.2.1, Or.inr (Or.inr (Or.inr (Or.inl z.1)))⟩))⟩
    · unfold anS
      rw [if_neg h0, if_neg h1, if_neg h2, if_pos h3, vC_p hi3 hm, ← a20]
    · unfold stp
      rw [if_neg h0, if_neg h1, if_neg h2, if_pos h3, ← qv]
      exact vC_20 hi3 hm
  rw [if_neg h3]
  by_cases h4 : v = 1
  · rw [if_pos h4]
    refine ⟨_, rfl, main _ ?_ ?_ rfl rfl (fun g h j hp => jup_of (fun z => hp ⟨z.2.1, Or.inr (Or.inr (Or.inr (Or.inr ⟨z.1, by omega, by omega⟩)))⟩))⟩
    · unfold anS
      rw [if_neg h0, if_neg h1, if_neg h2, if_neg h3]
    · unfold stp
      rw [if_neg h0, if_neg h1, if_neg h2, if_neg h3, if_pos h4, ← qv]
      exact vC_4 (j := 5) (by decide)
  · rw [if_neg h4]
    refine ⟨_, rfl, main _ ?_ ?_ rfl rfl (fun g h j hp => jup_of (fun z => hp ⟨z.2.1, Or.inr (Or.inr (Or.inr (Or.inr ⟨z.1, by omega, by omega⟩)))⟩))⟩
    · unfold anS
      rw [if_neg h0, if_neg h1, if_neg h2, if_neg h3]
    · unfold stp
      rw [if_neg h0, if_neg h1, if_neg h2, if_neg h3, if_neg h4, ← qv]
      exact vC_4 (j := 5) (by decide)
