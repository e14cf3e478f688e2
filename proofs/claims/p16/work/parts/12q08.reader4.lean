noncomputable def nx_ (I : jI) (a b : Int32) : jI := jup (jup I 4 5 7 a) 4 5 8 b
noncomputable def nxm (J : jI) (a b : Int32) : jI := jup (jup J 31 0 18 a) 31 0 19 b
theorem nx_rd {I J : jI} {n : Int} {a b c e : Int32} (h : rdS I J n) : rdS (nx_ I a b) (nxm J c e) n := rdS_up (rdS_up h (by decide) (by decide)) (by decide) (by decide)
theorem cs_nx {I : jI} {p q a : Int32} : jup (cs I p q) 4 5 7 a = cs (jup I 4 5 7 a) p q := cs_up I p q (by decide)
theorem cs_nx8 {I : jI} {p q a : Int32} : jup (cs I p q) 4 5 8 a = cs (jup I 4 5 8 a) p q := cs_up I p q (by decide)
theorem ms_nx {J : jI} {p a : Int32} : jup (ms J p) 31 0 18 a = ms (jup J 31 0 18 a) p := ms_up J p (by decide)
theorem ms_nx9 {J : jI} {p a : Int32} : jup (ms J p) 31 0 19 a = ms (jup J 31 0 19 a) p := ms_up J p (by decide)
/-- the NEED, the ROOM -/
theorem needs_eq {I J : jI} {n : Int} (h : rdS I J n) {p q : Int32} (q0 : 0 ≤ q.toInt) (q1 : q.toInt ≤ n) (hs : d142 (ms J p) = some (ms J q)) :
    (∃ a b z z' : Int32, (1 ≤ a.toInt ∧ a.toInt ≤ 9) ∧ (0 ≤ b.toInt ∧ b.toInt ≤ 99) ∧ (0 ≤ z.toInt ∧ z.toInt ≤ n) ∧ d62 (cs I q (-9)) = some (cs (nx_ I a b) z (-9)) ∧ d145 (ms J p) = some (1, ms (nxm J a b) z') ∧ d142 (ms (nxm J a b) z') = some (ms (nxm J a b) z)) ∨
    (∃ (z y : Int32) (I' J' : jI), (0 ≤ y.toInt ∧ y.toInt ≤ n) ∧ (0 ≤ z.toInt ∧ z.toInt ≤ n) ∧ d62 (cs I q (-9)) = some (cs I' z y) ∧ d145 (ms J p) = some (0, ms J' y)) := by
  have hn := h.1.2
  have hI := h.2.1
  have hJ := h.2.2.1
  unfold d145 d62
  rw [hs]
  dsimp only [Option.bind_some]
  have e16 : (ms J q) 31 0 16 = q := rfl
  have e17 : (ms J q) 31 0 17 = J 31 0 17 := rfl
  have e3 : (cs I q (-9)) 3 0 3 = q := rfl
  rw [go_c hI, e16, e17, e3, cs_q, cs_p, ms_p]
  by_cases hq : q.toInt < n
  · rw [if_pos hq, if_neg (by decide), if_neg (show ¬ q = J 31 0 17 from fun z => by rw [z, hJ] at hq; omega), ms_here h (q := -9) q0 hq, e3]
    have ei := inc_rng q0 hq hn
    by_cases hw : (cs I q (-9)) 17 0 q.toNatClampNeg = 110
    · rw [if_pos hw, if_pos hw]
      rcases fig_eq h (p := q + 1) (Or.inr rfl) (by omega) (by omega) with ⟨a, a1, a2, a3, a4, a5⟩ | ⟨a4, a5⟩
      · have a2 : 1 ≤ a.toInt := a2
        have ej := inc_rng (p := q + 1) (by omega) a1 hn
        rw [a4, a5]
        dsimp only [Option.bind_some]
        rw [ms_nx, cs_nx, if_neg (show ¬ (ms (jup J 31 0 18 a) (q + 1 + 1)) 31 0 18 = -9 from ne9 (p := a) (by omega))]
        have h1 : rdS (jup I 4 5 7 a) (jup J 31 0 18 a) n := rdS_up h (by decide) (by decide)
        rcases two_eq h1 (p := q + 1 + 1) (by omega) (by omega) with ⟨b, y, b1, b2, b3, b4, b5, b6⟩ | ⟨y, w, b1, b2, b5, b6⟩
        · rw [b5, b6]
          dsimp only [Option.bind_some]
          rw [ms_nx9, cs_nx8, if_neg (show ¬ (ms (jup (jup J 31 0 18 a) 31 0 19 b) y) 31 0 19 = -9 from ne9 (p := b) b3)]
          obtain ⟨z, z1, z2, z3, z4⟩ := skip_c (nx_rd (a := a) (b := b) (c := a) (e := b) h) (-9) y (by omega) (by omega)
          have z3 : d61 (cs (jup (jup I 4 5 7 a) 4 5 8 b) y (-9)) = some (cs (nx_ I a b) z (-9)) := z3
          rw [z3]
          exact Or.inl ⟨a, b, z, y, ⟨a2, a3⟩, ⟨b3, b4⟩, ⟨by omega, z2⟩, rfl, rfl, z4⟩
        · rw [b5, b6]
          dsimp only [Option.bind_some]
          rw [ms_nx9, cs_nx8, if_pos (show (ms (jup (jup J 31 0 18 a) 31 0 19 (-9)) y) 31 0 19 = -9 from rfl)]
          obtain ⟨z, z1, z2, z3, z4⟩ := skip_c (nx_rd (a := a) (b := w) (c := a) (e := w) h) y y b1 b2
          have z3 : d61 (cs (jup (jup I 4 5 7 a) 4 5 8 w) y y) = some (cs (nx_ I a w) z y) := z3
          rw [z3]
          exact Or.inr ⟨z, y, nx_ I a w, _, ⟨b1, b2⟩, ⟨by omega, z2⟩, rfl, rfl⟩
      · have nq : ¬ q + 1 = -9 := ne9 (by omega)
        rw [a4, a5]
        dsimp only [Option.bind_some]
        rw [ms_nx, cs_nx, if_pos (show (ms (jup J 31 0 18 (-9)) (q + 1)) 31 0 18 = -9 from rfl), ms_nx9, if_pos (show (ms (jup (jup J 31 0 18 (-9)) 31 0 19 (-9)) (q + 1)) 31 0 19 = -9 from rfl), two_f nq]
        dsimp only [Option.bind_some]
        rw [cs_nx8]
        obtain ⟨z, z1, z2, z3, z4⟩ := skip_c (nx_rd (a := 0) (b := 10 * 0 + 0) (c := 0) (e := 0) h) (q + 1) (q + 1) (by omega) (by omega)
        have z3 : d61 (cs (jup (jup I 4 5 7 0) 4 5 8 (10 * 0 + 0)) (q + 1) (q + 1)) = some (cs (nx_ I 0 (10 * 0 + 0)) z (q + 1)) := z3
        rw [z3]
        exact Or.inr ⟨z, q + 1, nx_ I 0 (10 * 0 + 0), _, ⟨by omega, by omega⟩, ⟨by omega, z2⟩, rfl, rfl⟩
    · rw [if_neg hw, if_neg hw]
      exact Or.inr ⟨q, q, I, J, ⟨q0, q1⟩, ⟨q0, q1⟩, rfl, rfl⟩
  · rw [if_neg hq, if_pos rfl, if_pos (show q = J 31 0 17 from eq_t.mpr (by rw [hJ]; omega))]
    exact Or.inr ⟨q, q, I, J, ⟨q0, q1⟩, ⟨q0, q1⟩, rfl, rfl⟩
noncomputable def ctail (F : Nat) (x : Int32) (S : jI) : Option (Int32 × jI) := (d58_16 F x S).bind fun r5 => if (d60 r5) = 0 then some ((r5 3 0 4), r5) else some (((jup r5 3 0 4 (r5 3 0 3)) 3 0 4), (jup r5 3 0 4 (r5 3 0 3)))
noncomputable def mtail (F : Nat) (y : Int32) (S : jI) : Option (Int32 × jI) := (d148_41 F y S).bind fun r4 => if r4.1 = 0 then some ((r4.2 31 0 16), r4.2) else if (r4.2 31 0 21) ≤ 0 then some ((r4.2 31 0 16), r4.2) else some ((-9), r4.2)
theorem ct_end {F : Nat} {x : Int32} {S : jI} (h : d60 S = 0 ∨ 6 ≤ x) : d58_16 (F + 1) x S = some S := by
  rw [d58_16]
  by_cases q : 6 ≤ x
  · rw [if_pos q]
  · rw [if_neg q]
    rcases h with h | h
    · rw [h, if_pos rfl]
    · exact absurd h q
theorem mt_end {F : Nat} {S : jI} : d148_41 (F + 1) 0 S = some (0, S) := by rw [d148_41, if_pos rfl]
/-- what the readers come to -/
noncomputable def rdR (I J : jI) (v : Int32) : Prop := (v = -9 ∧ ∃ m, 1 ≤ m ∧ m ≤ 6 ∧ RP I J m ∧ RN I J) ∨ 0 ≤ v.toInt
theorem loop_eq {n : Int} : ∀ (c m F F' : Nat) (x p : Int32) (I J : jI), c + m = 6 → 1 ≤ m → c < F → c + 1 < F' → x.toInt = (m : Int) → rdS I J n → RP I J m → RN I J → 0 ≤ p.toInt → p.toInt ≤ n → ∃ (v : Int32) (I' J' : jI), ctail F x (cs I p (-9)) = some (v, I') ∧ mtail F' 1 (ms J p) = some (v, J') ∧ rdR I' J' v := by
  intro c
  induction c with
  | zero =>
    intro m F F' x p I J hc hm hF hF' hx h hp hr p0 p1
    obtain ⟨F, rfl⟩ : ∃ k, F = k + 1 := ⟨F - 1, by omega⟩
    obtain ⟨F', rfl⟩ : ∃ k, F' = k + 2 := ⟨F' - 2, by omega⟩
    have c6 : (6 : Int32).toInt = 6 := rfl
    have hI := h.2.1
    have hJ := h.2.2.1
    unfold ctail mtail
    rw [ct_end (Or.inr (le_t.mpr (by rw [c6]; omega)))]
    dsimp only [Option.bind_some]
    rw [go_c hI]
    rw [d148_41, if_neg (show ¬ (1 : Int32) = 0 by decide)]
    have e16 : (ms J p) 31 0 16 = p := rfl
    have e17 : (ms J p) 31 0 17 = J 31 0 17 := rfl
    have e21 : (ms J p) 31 0 21 = J 31 0 21 := rfl
    rw [e16, e17]
    by_cases hq : p.toInt < n
    · rw [if_pos hq, if_neg (show ¬ (1 : Int32) = 0 by decide), if_neg (show ¬ J 31 0 17 ≤ p by rw [le_t, hJ]; omega), cs_q]
      have e7 : d147 (ms J p) = some (0, ms J p) := by
        unfold d147
        by_cases k : d146 (d141 (ms J p)) (ms J p) = -9
        · rw [if_pos k]
        · rw [if_neg k, e21, if_pos (eq_t.mpr (by rw [hp.2.1, c6]; omega))]
      rw [e7]
      dsimp only [Option.bind_some]
      rw [if_pos rfl, mt_end]
      dsimp only [Option.bind_some]
      rw [if_pos rfl]
      exact ⟨p, _, _, rfl, rfl, Or.inr p0⟩
    · rw [if_neg hq, if_pos rfl, if_pos (show J 31 0 17 ≤ p by rw [le_t, hJ]; omega)]
      dsimp only [Option.bind_some]
      have nm : ¬ J 31 0 21 ≤ 0 := by rw [le_t, hp.2.1]; show ¬ (m : Int) ≤ 0; omega
      rw [if_neg (show ¬ (1 : Int32) = 0 by decide), if_neg (show ¬ (ms J p) 31 0 21 ≤ 0 from nm)]
      exact ⟨-9, _, _, rfl, rfl, Or.inl ⟨rfl, m, hm, by omega, hp, hr⟩⟩
  | succ c ih =>
    intro m F F' x p I J hc hm hF hF' hx h hp hr p0 p1
    obtain ⟨F, rfl⟩ : ∃ k, F = k + 2 := ⟨F - 2, by omega⟩
    obtain ⟨F', rfl⟩ : ∃ k, F' = k + 2 := ⟨F' - 2, by omega⟩
    have c6 : (6 : Int32).toInt = 6 := rfl
    have hI := h.2.1
    have hJ := h.2.2.1
    have e16 : (ms J p) 31 0 16 = p := rfl
    have e17 : (ms J p) 31 0 17 = J 31 0 17 := rfl
    have e21 : (ms J p) 31 0 21 = J 31 0 21 := rfl
    by_cases hq : p.toInt < n
    · have f1 : ctail (F + 2) x (cs I p (-9)) = (d63 (cs I p (-9))).bind fun r4 => ctail (F + 1) (x + 1) r4 := by
        unfold ctail
        rw [d58_16, if_neg (by rw [le_t, c6]; omega), go_c hI, if_pos hq, if_neg (by decide)]
        cases d63 (cs I p (-9)) <;> rfl
      have f2 : mtail (F' + 2) 1 (ms J p) = (d147 (ms J p)).bind fun r2 => if r2.1 = 0 then mtail (F' + 1) r2.1 r2.2 else (d142 r2.2).bind fun r3 => mtail (F' + 1) r2.1 r3 := by
        unfold mtail
        rw [d148_41, if_neg (by decide), e16, e17, if_neg (by rw [le_t, hJ]; omega)]
        cases d147 (ms J p) with
        | none => rfl
        | some r =>
          dsimp only [Option.bind_some]
          by_cases q : r.1 = 0
          · rw [if_pos q, if_pos q]
          · rw [if_neg q, if_neg q]
            cases d142 r.2 <;> rfl
      rw [f1, f2]
      rcases packet_eq h (m := m) (by omega) hp.1 hp.2.1 p0 hq with ⟨k, g, w, e, z, k1, k2, k3, k4, k5, k6, z', k7, k8⟩ | ⟨z, k5, k6, k7⟩
      · rw [k6, k7]
        dsimp only [Option.bind_some]
        rw [if_neg (by decide), k8]
        dsimp only [Option.bind_some]
        exact ih (m + 1) (F + 1) (F' + 1) (x + 1) z (pk I k g w e) (pkm J k g w e) (by omega) (by omega) (by omega) (by omega) (by rw [i32_inc (by omega)]; omega) (pk_rd h) (RP_add hp (by omega) k1 k2 k3 k4) (RN_add hr) k5.1 k5.2
      · rw [k6, k7]
        dsimp only [Option.bind_some]
        rw [if_pos rfl]
        unfold ctail mtail
        rw [ct_end (Or.inl (go_f (ne9 k5.1))), mt_end]
        dsimp only [Option.bind_some]
        rw [go_f (ne9 k5.1), if_pos rfl, if_pos rfl]
        exact ⟨z, _, _, rfl, rfl, Or.inr k5.1⟩
    · unfold ctail mtail
      rw [ct_end (Or.inl (by rw [go_c hI, if_neg hq]))]
      dsimp only [Option.bind_some]
      rw [go_c hI, if_neg hq, if_pos rfl, d148_41, if_neg (show ¬ (1 : Int32) = 0 by decide), e16, e17, if_pos (show J 31 0 17 ≤ p by rw [le_t, hJ]; omega)]
      dsimp only [Option.bind_some]
      have nm : ¬ J 31 0 21 ≤ 0 := by rw [le_t, hp.2.1]; show ¬ (m : Int) ≤ 0; omega
      rw [if_neg (show ¬ (1 : Int32) = 0 by decide), if_neg (show ¬ (ms J p) 31 0 21 ≤ 0 from nm)]
      exact ⟨-9, _, _, rfl, rfl, Or.inl ⟨rfl, m, hm, by omega, hp, hr⟩⟩
