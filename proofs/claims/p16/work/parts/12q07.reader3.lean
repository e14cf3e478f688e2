/-- a PACKET more -/
noncomputable def pk (I : jI) (k g w e : Int32) : jI := jup (jup (jup (jup (jup I 18 5 (I 4 5 6).toNatClampNeg k) 19 5 (I 4 5 6).toNatClampNeg g) 20 5 (I 4 5 6).toNatClampNeg w) 21 5 (I 4 5 6).toNatClampNeg e) 4 5 6 (I 4 5 6 + 1)
noncomputable def pkm (J : jI) (k g w e : Int32) : jI := jup (jup (jup (jup (jup J 40 0 (4 * (J 31 0 21).toNatClampNeg) k) 40 0 (4 * (J 31 0 21).toNatClampNeg + 1) g) 40 0 (4 * (J 31 0 21).toNatClampNeg + 2) w) 40 0 (4 * (J 31 0 21).toNatClampNeg + 3) e) 31 0 21 (J 31 0 21 + 1)
theorem pk_rd {I J : jI} {n : Int} {k g w e : Int32} (h : rdS I J n) : rdS (pk I k g w e) (pkm J k g w e) n := by
  unfold pk pkm
  exact rdS_up (rdS_up (rdS_up (rdS_up (rdS_up h (by decide) ⟨fun z => absurd z.1 (by decide), by decide⟩) (by decide) ⟨fun z => absurd z.1 (by decide), by decide⟩) (by decide) ⟨fun z => absurd z.1 (by decide), by decide⟩) (by decide) ⟨fun z => absurd z.1 (by decide), by decide⟩) (by decide) (by decide)
theorem add_c {I : jI} {p q k g w e : Int32} (h : (I 4 5 6).toInt < 6) : d48 5 k g w e (cs I p q) = some (cs (pk I k g w e) p q) := by
  unfold d48
  have c6 : (6 : Int32).toInt = 6 := rfl
  have n6 : ¬ (6 : Int32) ≤ I 4 5 6 := by rw [le_t, c6]; omega
  rw [if_neg (show ¬ (6 : Int32) ≤ cs I p q 4 5 6 from n6)]
  show some (jup (jup (jup (jup (jup (cs I p q) 18 5 (I 4 5 6).toNatClampNeg k) 19 5 (I 4 5 6).toNatClampNeg g) 20 5 (I 4 5 6).toNatClampNeg w) 21 5 (I 4 5 6).toNatClampNeg e) 4 5 6 (I 4 5 6 + 1)) = _
  rw [cs_up _ _ _ (by decide), cs_up _ _ _ (by decide), cs_up _ _ _ (by decide), cs_up _ _ _ (by decide), cs_up _ _ _ (by decide)]
  rfl
theorem ix4 {m c : Int32} (h0 : 0 ≤ m.toInt) (h5 : m.toInt ≤ 6) (g0 : 0 ≤ c.toInt) (g : c.toInt ≤ 3) : Int32.toNatClampNeg (4 * m + c) = 4 * m.toNatClampNeg + c.toNatClampNeg := by
  have k : (4 : Int32).toInt = 4 := rfl
  have e1 : (4 * m).toInt = 4 * m.toInt := by rw [i32_mul (by rw [k]; omega), k]
  have e2 : (4 * m + c).toInt = 4 * m.toInt + c.toInt := by rw [i32_add (by rw [e1]; omega), e1]
  have n0 := cl_t h0
  have n1 := cl_t g0
  have n2 := cl_t (x := 4 * m + c) (by omega)
  omega
theorem ix4z {m : Int32} (h0 : 0 ≤ m.toInt) (h5 : m.toInt ≤ 6) : Int32.toNatClampNeg (4 * m) = 4 * m.toNatClampNeg := by
  have k : (4 : Int32).toInt = 4 := rfl
  have e1 : (4 * m).toInt = 4 * m.toInt := by rw [i32_mul (by rw [k]; omega), k]
  have n0 := cl_t h0
  have n2 := cl_t (x := 4 * m) (by omega)
  omega
theorem add_m {J : jI} {p k g w e : Int32} (h0 : 0 ≤ (J 31 0 21).toInt) (h5 : (J 31 0 21).toInt ≤ 6) : jup (jup (jup (jup (jup (ms J p) 40 0 (Int32.toNatClampNeg (4 * (J 31 0 21))) k) 40 0 (Int32.toNatClampNeg (4 * (J 31 0 21) + 1)) g) 40 0 (Int32.toNatClampNeg (4 * (J 31 0 21) + 2)) w) 40 0 (Int32.toNatClampNeg (4 * (J 31 0 21) + 3)) e) 31 0 21 (J 31 0 21 + 1) = ms (pkm J k g w e) p := by
  rw [ix4z h0 h5, ix4 h0 h5 (c := 1) (by decide) (by decide), ix4 h0 h5 (c := 2) (by decide) (by decide), ix4 h0 h5 (c := 3) (by decide) (by decide)]
  rw [ms_up _ _ (fun z => absurd z.1 (by decide)), ms_up _ _ (fun z => absurd z.1 (by decide)), ms_up _ _ (fun z => absurd z.1 (by decide)), ms_up _ _ (fun z => absurd z.1 (by decide)), ms_up _ _ (by decide)]
  rfl
/-- the PACKETS read so far -/
noncomputable def RP (I J : jI) (m : Nat) : Prop := (I 4 5 6).toInt = (m : Int) ∧ (J 31 0 21).toInt = (m : Int) ∧ ∀ i, i < m → (I 18 5 i = J 40 0 (4 * i) ∧ I 19 5 i = J 40 0 (4 * i + 1) ∧ I 20 5 i = J 40 0 (4 * i + 2) ∧ I 21 5 i = J 40 0 (4 * i + 3)) ∧ (0 ≤ (I 18 5 i).toInt ∧ (I 18 5 i).toInt ≤ 5) ∧ (1 ≤ (I 19 5 i).toInt ∧ (I 19 5 i).toInt ≤ 9) ∧ (0 ≤ (I 20 5 i).toInt ∧ (I 20 5 i).toInt ≤ 99) ∧ (1 ≤ (I 21 5 i).toInt ∧ (I 21 5 i).toInt ≤ 9)
noncomputable def RN (I J : jI) : Prop := I 4 5 7 = J 31 0 18 ∧ I 4 5 8 = J 31 0 19 ∧ (1 ≤ (I 4 5 7).toInt ∧ (I 4 5 7).toInt ≤ 9) ∧ (0 ≤ (I 4 5 8).toInt ∧ (I 4 5 8).toInt ≤ 99)
theorem RP_add {I J : jI} {m : Nat} {k g w e : Int32} (h : RP I J m) (hm : m < 6) (hk : 0 ≤ k.toInt ∧ k.toInt ≤ 5) (hg : 1 ≤ g.toInt ∧ g.toInt ≤ 9) (hw : 0 ≤ w.toInt ∧ w.toInt ≤ 99) (he : 1 ≤ e.toInt ∧ e.toInt ≤ 9) : RP (pk I k g w e) (pkm J k g w e) (m + 1) := by
  obtain ⟨a, b, c⟩ := h
  have na : (I 4 5 6).toNatClampNeg = m := by have := cl_t (x := I 4 5 6) (by omega); omega
  have nb : (J 31 0 21).toNatClampNeg = m := by have := cl_t (x := J 31 0 21) (by omega); omega
  have ia := i32_inc (x := I 4 5 6) (by omega)
  have ib := i32_inc (x := J 31 0 21) (by omega)
  unfold pk pkm
  rw [na, nb]
  have z18 : ∀ i, jup (jup (jup (jup (jup I 18 5 m k) 19 5 m g) 20 5 m w) 21 5 m e) 4 5 6 (I 4 5 6 + 1) 18 5 i = if i = m then k else I 18 5 i := fun i => by
    by_cases q : i = m
    · subst q; rw [if_pos rfl]; exact jup_at
    · rw [if_neg q]; exact jup_of (fun z => q z.2.2)
  have z19 : ∀ i, jup (jup (jup (jup (jup I 18 5 m k) 19 5 m g) 20 5 m w) 21 5 m e) 4 5 6 (I 4 5 6 + 1) 19 5 i = if i = m then g else I 19 5 i := fun i => by
    by_cases q : i = m
    · subst q; rw [if_pos rfl]; exact jup_at
    · rw [if_neg q]; exact jup_of (fun z => q z.2.2)
  have z20 : ∀ i, jup (jup (jup (jup (jup I 18 5 m k) 19 5 m g) 20 5 m w) 21 5 m e) 4 5 6 (I 4 5 6 + 1) 20 5 i = if i = m then w else I 20 5 i := fun i => by
    by_cases q : i = m
    · subst q; rw [if_pos rfl]; exact jup_at
    · rw [if_neg q]; exact jup_of (fun z => q z.2.2)
  have z21 : ∀ i, jup (jup (jup (jup (jup I 18 5 m k) 19 5 m g) 20 5 m w) 21 5 m e) 4 5 6 (I 4 5 6 + 1) 21 5 i = if i = m then e else I 21 5 i := fun i => by
    by_cases q : i = m
    · subst q; rw [if_pos rfl]; exact jup_at
    · rw [if_neg q]; exact jup_of (fun z => q z.2.2)
  have z40 : ∀ i, jup (jup (jup (jup (jup J 40 0 (4 * m) k) 40 0 (4 * m + 1) g) 40 0 (4 * m + 2) w) 40 0 (4 * m + 3) e) 31 0 21 (J 31 0 21 + 1) 40 0 i = if i = 4 * m + 3 then e else if i = 4 * m + 2 then w else if i = 4 * m + 1 then g else if i = 4 * m then k else J 40 0 i := fun i => by
    show jup (jup (jup (jup J 40 0 (4 * m) k) 40 0 (4 * m + 1) g) 40 0 (4 * m + 2) w) 40 0 (4 * m + 3) e 40 0 i = _
    simp [jup]
  refine ⟨?_, ?_, fun i hi => ?_⟩
  · show (I 4 5 6 + 1).toInt = _; omega
  · show (J 31 0 21 + 1).toInt = _; omega
  · rw [z18, z19, z20, z21, z40, z40, z40, z40]
    by_cases q : i = m
    · subst q
      rw [if_pos rfl, if_pos rfl, if_pos rfl, if_pos rfl]
      rw [if_neg (by omega : ¬ 4 * i = 4 * i + 3), if_neg (by omega : ¬ 4 * i = 4 * i + 2), if_neg (by omega : ¬ 4 * i = 4 * i + 1), if_pos rfl]
      rw [if_neg (by omega : ¬ 4 * i + 1 = 4 * i + 3), if_neg (by omega : ¬ 4 * i + 1 = 4 * i + 2), if_pos rfl]
      rw [if_neg (by omega : ¬ 4 * i + 2 = 4 * i + 3), if_pos rfl, if_pos rfl]
      exact ⟨⟨rfl, rfl, rfl, rfl⟩, hk, hg, hw, he⟩
    · rw [if_neg q, if_neg q, if_neg q, if_neg q]
      have : i < m := by omega
      have w0 : ∀ d' : Nat, d' ≤ 3 → ¬ 4 * i = 4 * m + d' := fun d' hd' => by omega
      have w1 : ∀ d' : Nat, d' ≤ 3 → ¬ 4 * i + 1 = 4 * m + d' := fun d' hd' => by omega
      have w2 : ∀ d' : Nat, d' ≤ 3 → ¬ 4 * i + 2 = 4 * m + d' := fun d' hd' => by omega
      have w3 : ∀ d' : Nat, d' ≤ 3 → ¬ 4 * i + 3 = 4 * m + d' := fun d' hd' => by omega
      rw [if_neg (w0 3 (by omega)), if_neg (w0 2 (by omega)), if_neg (w0 1 (by omega)), if_neg (by omega : ¬ 4 * i = 4 * m)]
      rw [if_neg (w1 3 (by omega)), if_neg (w1 2 (by omega)), if_neg (w1 1 (by omega)), if_neg (by omega : ¬ 4 * i + 1 = 4 * m)]
      rw [if_neg (w2 3 (by omega)), if_neg (w2 2 (by omega)), if_neg (w2 1 (by omega)), if_neg (by omega : ¬ 4 * i + 2 = 4 * m)]
      rw [if_neg (w3 3 (by omega)), if_neg (w3 2 (by omega)), if_neg (w3 1 (by omega)), if_neg (by omega : ¬ 4 * i + 3 = 4 * m)]
      exact c i this
theorem RN_add {I J : jI} {k g w e : Int32} (h : RN I J) : RN (pk I k g w e) (pkm J k g w e) := h
theorem d63_f {I : jI} {p q : Int32} (h : ¬ q = -9) {S : jI} {v : Int32} (e : d64 S = some (v, cs I p q)) : d63 S = some (cs I p q) := by
  unfold d63
  rw [e]
  dsimp only [Option.bind_some]
  rw [fg_f h]
  dsimp only [Option.bind_some]
  rw [two_f h]
  dsimp only [Option.bind_some]
  rw [fg_f h]
  dsimp only [Option.bind_some]
  exact if_neg (show ¬ (cs I p q) 3 0 4 = -9 from h)
/-- a PACKET -/
theorem packet_eq {I J : jI} {n : Int} (h : rdS I J n) {p : Int32} {m : Nat} (hm : m < 6) (hI : (I 4 5 6).toInt = (m : Int)) (hJ : (J 31 0 21).toInt = (m : Int)) (p0 : 0 ≤ p.toInt) (p1 : p.toInt < n) :
    (∃ k g w e z : Int32, (0 ≤ k.toInt ∧ k.toInt ≤ 5) ∧ (1 ≤ g.toInt ∧ g.toInt ≤ 9) ∧ (0 ≤ w.toInt ∧ w.toInt ≤ 99) ∧ (1 ≤ e.toInt ∧ e.toInt ≤ 9) ∧ (0 ≤ z.toInt ∧ z.toInt ≤ n) ∧ d63 (cs I p (-9)) = some (cs (pk I k g w e) z (-9)) ∧ ∃ z', d147 (ms J p) = some (1, ms (pkm J k g w e) z') ∧ d142 (ms (pkm J k g w e) z') = some (ms (pkm J k g w e) z)) ∨
    (∃ z : Int32, (0 ≤ z.toInt ∧ z.toInt ≤ n) ∧ d63 (cs I p (-9)) = some (cs I z z) ∧ d147 (ms J p) = some (0, ms J z)) := by
  have hn := h.1.2
  have ei := inc_rng p0 p1 hn
  have e21 : (ms J p) 31 0 21 = J 31 0 21 := rfl
  have e16 : (ms J p) 31 0 16 = p := rfl
  have c6 : (6 : Int32).toInt = 6 := rfl
  have n6 : ¬ J 31 0 21 = 6 := fun z => by rw [z, c6] at hJ; omega
  unfold d147
  rw [e21, e16, ms_p]
  rcases kind_eq h (ms J p) p0 p1 with ⟨κ, k0, k5, k1, k2⟩ | ⟨k1, k2⟩
  · rw [k2, if_neg (ne9 k0), if_neg n6]
    rcases fig_eq h (p := p + 1) (Or.inr rfl) (by omega) (by omega) with ⟨g, a1, a2, a3, a4, a5⟩ | ⟨a4, a5⟩
    · have a2 : 1 ≤ g.toInt := a2
      have ej := inc_rng (p := p + 1) (by omega) a1 hn
      rw [a5]
      dsimp only [Option.bind_some]
      rw [if_neg (ne9 (by omega))]
      rcases two_eq h (p := p + 1 + 1) (by omega) (by omega) with ⟨w, q, b1, b2, b3, b4, b5, b6⟩ | ⟨q, w, b1, b2, b5, b6⟩
      · rw [b6]
        dsimp only [Option.bind_some]
        rw [if_neg (ne9 b3)]
        rcases fig_eq h (p := q) (Or.inr rfl) (by omega) (by omega) with ⟨e, f1, f2, f3, f4, f5⟩ | ⟨f4, f5⟩
        · have f2 : 1 ≤ e.toInt := f2
          have ek := inc_rng (p := q) (by omega) f1 hn
          rw [f5]
          dsimp only [Option.bind_some]
          rw [if_neg (ne9 (by omega))]
          obtain ⟨z, z1, z2, z3, z4⟩ := skip_c (pk_rd (k := κ) (g := g) (w := w) (e := e) h) (-9) (q + 1) (by omega) (by omega)
          refine Or.inl ⟨κ, g, w, e, z, ⟨k0, k5⟩, ⟨a2, a3⟩, ⟨b3, b4⟩, ⟨f2, f3⟩, ⟨by omega, z2⟩, ?_, q + 1, ?_, z4⟩
          · unfold d63
            rw [k1]
            dsimp only [Option.bind_some]
            rw [a4]
            dsimp only [Option.bind_some]
            rw [b5]
            dsimp only [Option.bind_some]
            rw [f4]
            dsimp only [Option.bind_some]
            rw [if_pos (show (cs I (q + 1) (-9)) 3 0 4 = -9 from rfl), add_c (by omega)]
            dsimp only [Option.bind_some]
            rw [z3]
            rfl
          · have := add_m (J := J) (p := q + 1) (k := κ) (g := g) (w := w) (e := e) (by omega) (by omega)
            rw [← this]
            rfl
        · rw [f5]
          dsimp only [Option.bind_some]
          rw [if_pos rfl]
          refine Or.inr ⟨q, ⟨by omega, by omega⟩, ?_, rfl⟩
          unfold d63
          rw [k1]
          dsimp only [Option.bind_some]
          rw [a4]
          dsimp only [Option.bind_some]
          rw [b5]
          dsimp only [Option.bind_some]
          rw [f4]
          dsimp only [Option.bind_some]
          exact if_neg (show ¬ (cs I q q) 3 0 4 = -9 from ne9 (p := q) (by omega))
      · rw [b6]
        dsimp only [Option.bind_some]
        rw [if_pos rfl]
        refine Or.inr ⟨q, ⟨b1, b2⟩, ?_, rfl⟩
        unfold d63
        rw [k1]
        dsimp only [Option.bind_some]
        rw [a4]
        dsimp only [Option.bind_some]
        rw [b5]
        dsimp only [Option.bind_some]
        rw [fg_f (ne9 b1)]
        dsimp only [Option.bind_some]
        exact if_neg (show ¬ (cs I q q) 3 0 4 = -9 from ne9 b1)
    · rw [a5]
      dsimp only [Option.bind_some]
      rw [if_pos rfl]
      refine Or.inr ⟨p + 1, ⟨by omega, by omega⟩, ?_, rfl⟩
      have nq : ¬ p + 1 = -9 := ne9 (by omega)
      unfold d63
      rw [k1]
      dsimp only [Option.bind_some]
      rw [a4]
      dsimp only [Option.bind_some]
      rw [two_f nq]
      dsimp only [Option.bind_some]
      rw [fg_f nq]
      dsimp only [Option.bind_some]
      exact if_neg (show ¬ (cs I (p + 1) (p + 1)) 3 0 4 = -9 from nq)
  · rw [k2, if_pos rfl]
    exact Or.inr ⟨p, ⟨p0, by omega⟩, d63_f (ne9 p0) k1, rfl⟩
