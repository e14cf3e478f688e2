/-! house: the same answers -/
theorem ta_hit {a0 a1 : Nat} {I : jI} {j : Nat} (h : 6 ≤ j ∧ j < 16) : jcpy (d29 a0 a1 I) 22 a1 22 a0 (Int32.toNatClampNeg 0) (Int32.toNatClampNeg 0) (Int32.toNatClampNeg 40) 4 a0 j = I 4 a1 j := by
  unfold jcpy
  rw [if_neg (fun z => absurd z.1 (by decide))]
  unfold d29
  rw [if_pos ⟨rfl, Or.inl ⟨rfl, h⟩⟩]
theorem house_eq {I J : jI} (t : Int32) (hG : gG aGI I) (h : RT I) (h37 : J 37 = I 37) (h38 : J 38 = I 38) : ∃ r r', d77 t I = some r ∧ d150 t J = some r' ∧ r.1 = r'.1 := by
  unfold d77 d150
  rw [names_t, isText_t]
  by_cases h1 : 0 ≤ t.toInt ∧ t.toInt ≤ 3
  · have hb : ¬ (if 0 ≤ t.toInt ∧ t.toInt ≤ 3 then (1 : Int32) else 0) = 0 := by rw [b01]; exact fun z => z h1
    rw [if_neg hb, if_neg hb, h37]
    have nt := cl_t h1.1
    have hs := gi_tsz hG (t := t.toNatClampNeg) (by omega)
    have et : I 37 0 t.toNatClampNeg = I 16 0 t.toNatClampNeg := h.1 _ (by omega)
    rw [et]
    unfold d16g2
    have cm : (-1 : Int32).toInt = -1 := rfl
    by_cases h2 : I 16 0 t.toNatClampNeg = -1
    · have h2' : (I 16 0 t.toNatClampNeg).toInt = -1 := by rw [h2]; rfl
      rw [if_pos h2, if_pos rfl, if_neg (by rw [le0_t]; omega)]
      exact ⟨_, _, rfl, rfl, rfl⟩
    · have h2' : ¬ (I 16 0 t.toNatClampNeg).toInt = -1 := fun z => h2 (eq_t.mpr (by rw [z, cm]))
      rw [if_neg h2, if_neg (by decide), if_pos (by rw [le0_t]; omega)]
      obtain ⟨v, I', J', a1, a2, a3⟩ := read_eq (I := I) (J := J) h1 (by rw [h37]; exact et) (fun j hj => by rw [h38]; exact h.2 _ j (by omega) hj) ⟨by omega, hs.2⟩
      rw [a1, a2]
      dsimp only [Option.bind_some]
      rcases a3 with ⟨rfl, m, m1, m6, rp, rn⟩ | a3
      · rw [if_pos rfl, if_pos rfl]
        unfold d28
        dsimp only [Option.bind_some]
        obtain ⟨T, t1, t2, -⟩ := unk_c 70 0 (jcpy (d29 1 0 (jcpy (d29 0 5 I') 22 5 22 0 (Int32.toNatClampNeg 0) (Int32.toNatClampNeg 0) (Int32.toNatClampNeg 40))) 22 0 22 1 (Int32.toNatClampNeg 0) (Int32.toNatClampNeg 0) (Int32.toNatClampNeg 40)) (by decide) (by decide) (by decide)
        rw [t1]
        obtain ⟨U, u1, u2, -⟩ := z39_m 1200 0 J' (by decide) (by decide) (by decide)
        rw [u1]
        dsimp only [Option.bind_some]
        have u31 : U 31 = J' 31 := u2 31 (by decide)
        have s3 : (jup (jup (jup U 31 0 1 (U 31 0 18)) 31 0 2 ((jup U 31 0 1 (U 31 0 18)) 31 0 19)) 31 0 3 ((jup (jup U 31 0 1 (U 31 0 18)) 31 0 2 ((jup U 31 0 1 (U 31 0 18)) 31 0 19)) 31 0 21)) 31 0 3 = J' 31 0 21 := by
          rw [← u31]; rfl
        obtain ⟨V, v1, v2, -⟩ := h85_m m6 1200 0 (jup (jup (jup U 31 0 1 (U 31 0 18)) 31 0 2 ((jup U 31 0 1 (U 31 0 18)) 31 0 19)) 31 0 3 ((jup (jup U 31 0 1 (U 31 0 18)) 31 0 2 ((jup U 31 0 1 (U 31 0 18)) 31 0 19)) 31 0 21)) (by rw [s3]; exact rp.2.1) (by decide) (by show (0 : Int) ≤ _; omega) (by show (m : Int) - 0 < 1200; omega)
        rw [v1]
        dsimp only [Option.bind_some]
        obtain ⟨X, x1, x2, -⟩ := h169_m 1200 1 V (by decide) (by decide) (by decide)
        rw [x1]
        refine ⟨_, _, rfl, rfl, ?_⟩
        show T 4 1 6 = X 31 0 3
        rw [t2 4 (by decide), ta_hit (by decide), ta_hit (by decide), x2 31 (by decide), v2 31 (by decide) (by decide) (by decide), s3]
        exact eq_t.mpr (rp.1.trans rp.2.1.symm)
      · rw [if_neg (ne9 a3), if_neg (ne9 a3)]
        exact ⟨_, _, rfl, rfl, rfl⟩
  · have hb : (if 0 ≤ t.toInt ∧ t.toInt ≤ 3 then (1 : Int32) else 0) = 0 := by rw [b01]; exact h1
    rw [if_pos hb, if_pos hb]
    exact ⟨_, _, rfl, rfl, rfl⟩
