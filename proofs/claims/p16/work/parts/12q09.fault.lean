/-! the whole reading, fault -/
theorem sign_c {t : Int32} {n : Int} : ∀ (F : Nat) (x : Int32) (S : jI), (S 3 0 2).toInt = n → n ≤ 60 → 0 ≤ x.toInt → x.toInt ≤ n → n - x.toInt < (F : Int) → ∃ S', d59_19 t F x S = some S' ∧ (∀ g, ¬ g = 17 → S' g = S g) ∧ ∀ j : Nat, S' 17 0 j = if x.toInt ≤ (j : Int) ∧ (j : Int) < n then S 30 t.toNatClampNeg j else S 17 0 j
  | 0, x, S, _, _, _, h1, h2 => by exfalso; simp at h2; omega
  | F + 1, x, S, hn, h60, h0, h1, h2 => by
    have nx := cl_t h0
    rw [d59_19]
    by_cases q : S 3 0 2 ≤ x
    · rw [if_pos q]
      rw [le_t, hn] at q
      exact ⟨S, rfl, fun _ _ => rfl, fun j => by rw [if_neg (fun z => by omega)]⟩
    · rw [if_neg q]
      rw [le_t, hn] at q
      have e := i32_inc (x := x) (by omega)
      obtain ⟨S', e1, e2, e3⟩ := sign_c (t := t) (n := n) F (x + 1) (jup S 17 0 x.toNatClampNeg (d18g2 t x S)) hn h60 (by omega) (by omega) (by omega)
      refine ⟨S', e1, fun g hg => (e2 g hg).trans (jup_g hg), fun j => ?_⟩
      rw [e3, e]
      have e4 : jup S 17 0 x.toNatClampNeg (d18g2 t x S) 30 t.toNatClampNeg j = S 30 t.toNatClampNeg j := jup_of (fun z => absurd z.1 (by decide))
      rw [e4]
      by_cases c : x.toInt ≤ (j : Int) ∧ (j : Int) < n
      · rw [if_pos c]
        by_cases c2 : x.toInt + 1 ≤ (j : Int) ∧ (j : Int) < n
        · rw [if_pos c2]
        · rw [if_neg c2]
          have ej : j = x.toNatClampNeg := by omega
          subst ej
          exact jup_at
      · rw [if_neg c, if_neg (fun z => c ⟨by omega, z.2⟩)]
        exact jup_of (fun z => c ⟨by omega, by omega⟩)
theorem ms_0 {X : jI} {v w : Int32} : jup (jup (jup X 31 0 16 0) 31 0 17 v) 31 0 21 w = ms (jup (jup X 31 0 17 v) 31 0 21 w) 0 := by
  show jup (jup (ms X 0) 31 0 17 v) 31 0 21 w = _
  rw [ms_up _ _ (by decide), ms_up _ _ (by decide)]
theorem packet_f {I : jI} {p q : Int32} (h : ¬ q = -9) : d63 (cs I p q) = some (cs I p q) := by
  refine d63_f h (v := 0) ?_
  unfold d64
  rw [go_f h, if_pos rfl, fh_f h]
  rfl
theorem ct_f {I : jI} {p q : Int32} (h : ¬ q = -9) {F : Nat} {x : Int32} : ctail (F + 1) x (cs I p q) = some (q, cs I p q) := by
  unfold ctail
  rw [ct_end (Or.inl (go_f h))]
  dsimp only [Option.bind_some]
  rw [go_f h, if_pos rfl]
  rfl
theorem mt_f {J : jI} {q : Int32} {F : Nat} : mtail (F + 1) 0 (ms J q) = some (q, ms J q) := by
  unfold mtail
  rw [mt_end]
  dsimp only [Option.bind_some]
  rw [if_pos rfl]
  rfl
theorem read_eq {I J : jI} {t : Int32} (ht : 0 ≤ t.toInt ∧ t.toInt ≤ 3) (hl : J 37 0 t.toNatClampNeg = I 16 0 t.toNatClampNeg) (hb : ∀ j, j < 60 → J 38 0 (60 * t.toNatClampNeg + j) = I 30 t.toNatClampNeg j) (hn : 0 ≤ (I 16 0 t.toNatClampNeg).toInt ∧ (I 16 0 t.toNatClampNeg).toInt ≤ 60) : ∃ (v : Int32) (I' J' : jI), d58 t I = some (v, I') ∧ d148 t J = some (v, J') ∧ rdR I' J' v := by
  generalize hN : (I 16 0 t.toNatClampNeg).toInt = n at hn
  have s2 : (jup (jup I 4 5 6 0) 3 0 2 (I 16 0 t.toNatClampNeg)) 3 0 2 = I 16 0 t.toNatClampNeg := jup_at
  obtain ⟨S, e1, e2, e3⟩ := sign_c (t := t) (n := n) 70 0 (jup (jup I 4 5 6 0) 3 0 2 (I 16 0 t.toNatClampNeg)) (by rw [s2]; exact hN) hn.2 (by decide) hn.1 (by show n - 0 < 70; omega)
  have S3 : S 3 0 2 = I 16 0 t.toNatClampNeg := by rw [e2 3 (by decide)]; exact s2
  have S4 : S 4 5 6 = 0 := by rw [e2 4 (by decide)]; exact (congrFun (congrFun (jup_g (by decide)) 5) 6).trans jup_at
  generalize hJ' : jup (jup (jup J 31 0 15 (60 * t)) 31 0 17 (J 37 0 t.toNatClampNeg)) 31 0 21 0 = J'
  have j15 : J' 31 0 15 = 60 * t := by rw [← hJ']; rfl
  have j17 : J' 31 0 17 = J 37 0 t.toNatClampNeg := by rw [← hJ']; rfl
  have j21 : J' 31 0 21 = 0 := by rw [← hJ']; rfl
  have j38 : J' 38 = J 38 := by rw [← hJ']; exact ((jup_g (by decide)).trans (jup_g (by decide))).trans (jup_g (by decide))
  have nt := cl_t ht.1
  have rd : rdS S J' n := by
    refine ⟨hn, by rw [S3]; exact hN, by rw [j17, hl]; exact hN, t, ht, j15, fun p p0 p1 => ?_⟩
    have np := cl_t p0
    rw [j38, hb _ (by omega), e3, if_pos (by show (0 : Int) ≤ _ ∧ _; omega)]
    exact ((jup_of (fun z => absurd z.1 (by decide))).trans (jup_of (fun z => absurd z.1 (by decide)))).symm
  have hc : d58 t I = (d61 (cs S 0 (-9))).bind fun r1 => (d62 r1).bind fun r2 => (d63 r2).bind fun r3 => ctail 70 1 r3 := by
    unfold d58 d59 d17g2
    have : (jup I 4 5 6 0) 16 0 t.toNatClampNeg = I 16 0 t.toNatClampNeg := rfl
    rw [this, e1]
    dsimp only [Option.bind_some]
    show ((d61 (cs S 0 (-9))).bind fun r2 => some r2).bind _ = _
    cases d61 (cs S 0 (-9)) <;> rfl
  have hm : d148 t J = (d145 (ms J' 0)).bind fun r1 => if r1.1 = 0 then mtail 70 r1.1 r1.2 else (d142 r1.2).bind fun r5 => mtail 70 r1.1 r5 := by
    unfold d148
    rw [ms_0]
    have : (jup (jup J 31 0 15 (60 * t)) 31 0 16 0) 37 0 t.toNatClampNeg = J 37 0 t.toNatClampNeg := rfl
    rw [this, hJ']
    rfl
  obtain ⟨q, q1, q2, q3, q4⟩ := skip_c rd (-9) 0 (by decide) hn.1
  have q1 : 0 ≤ q.toInt := q1
  rw [hc, hm, q3]
  dsimp only [Option.bind_some]
  rcases needs_eq rd q1 q2 q4 with ⟨a, b, z, z', a1, b1, z1, c1, c2, c3⟩ | ⟨z, y, I', J2, y1, z1, c1, c2⟩
  · rw [c1, c2]
    dsimp only [Option.bind_some]
    rw [if_neg (by decide), c3]
    dsimp only [Option.bind_some]
    have rd2 := nx_rd (a := a) (b := b) (c := a) (e := b) rd
    have rp : RP (nx_ S a b) (nxm J' a b) 0 := by
      refine ⟨?_, ?_, fun i hi => absurd hi (Nat.not_lt_zero i)⟩
      · show (S 4 5 6).toInt = _; rw [S4]; rfl
      · show (J' 31 0 21).toInt = _; rw [j21]; rfl
    have rn : RN (nx_ S a b) (nxm J' a b) := ⟨rfl, rfl, a1, b1⟩
    have e16 : (ms (nxm J' a b) z) 31 0 16 = z := rfl
    have e17 : (ms (nxm J' a b) z) 31 0 17 = (nxm J' a b) 31 0 17 := rfl
    have e21 : (ms (nxm J' a b) z) 31 0 21 = 0 := j21
    have hI := rd2.2.1
    have hJ := rd2.2.2.1
    by_cases hz : z.toInt < n
    · have f2 : mtail 70 1 (ms (nxm J' a b) z) = (d147 (ms (nxm J' a b) z)).bind fun r2 => if r2.1 = 0 then mtail 69 r2.1 r2.2 else (d142 r2.2).bind fun r3 => mtail 69 r2.1 r3 := by
        unfold mtail
        rw [d148_41, if_neg (show ¬ (1 : Int32) = 0 by decide), e16, e17, if_neg (show ¬ (nxm J' a b) 31 0 17 ≤ z by rw [le_t, hJ]; omega)]
        cases d147 (ms (nxm J' a b) z) with
        | none => rfl
        | some r =>
          dsimp only [Option.bind_some]
          by_cases w : r.1 = 0
          · rw [if_pos w, if_pos w]
          · rw [if_neg w, if_neg w]
            cases d142 r.2 <;> rfl
      rw [f2]
      rcases packet_eq rd2 (m := 0) (by decide) rp.1 rp.2.1 z1.1 hz with ⟨k, g, w, e, y, k1, k2, k3, k4, k5, k6, y', k7, k8⟩ | ⟨y, k5, k6, k7⟩
      · rw [k6, k7]
        dsimp only [Option.bind_some]
        rw [if_neg (by decide), k8]
        dsimp only [Option.bind_some]
        exact loop_eq 5 1 70 69 1 y _ _ (by decide) (by decide) (by decide) (by decide) (by decide) (pk_rd rd2) (RP_add rp (by decide) k1 k2 k3 k4) (RN_add rn) k5.1 k5.2
      · rw [k6, k7]
        dsimp only [Option.bind_some]
        rw [if_pos rfl, ct_f (ne9 k5.1), mt_f]
        exact ⟨y, _, _, rfl, rfl, Or.inr k5.1⟩
    · have k1 := d63_f (ne9 z1.1) (kind_n rd2 hz)
      rw [k1]
      dsimp only [Option.bind_some]
      rw [ct_f (ne9 z1.1)]
      unfold mtail
      rw [d148_41, if_neg (show ¬ (1 : Int32) = 0 by decide), e16, e17, if_pos (show (nxm J' a b) 31 0 17 ≤ z by rw [le_t, hJ]; omega)]
      dsimp only [Option.bind_some]
      rw [if_neg (show ¬ (1 : Int32) = 0 by decide), if_pos (show (ms (nxm J' a b) z) 31 0 21 ≤ 0 by rw [e21]; decide)]
      exact ⟨z, _, _, rfl, rfl, Or.inr z1.1⟩
  · have ny := ne9 y1.1
    rw [c1, c2]
    dsimp only [Option.bind_some]
    rw [packet_f ny]
    dsimp only [Option.bind_some]
    rw [if_pos rfl, ct_f ny, mt_f]
    exact ⟨y, _, _, rfl, rfl, Or.inr y1.1⟩
theorem gi_tsz {I : jI} (h : gG aGI I) {t : Nat} (ht : t ≤ 3) : -1 ≤ (I 16 0 t).toInt ∧ (I 16 0 t).toInt ≤ 60 := h (16, (0, 0), (0, 3), (-1, 60)) (by decide) 0 t (by simp) (by simp) (by simp) (by simp; omega)
