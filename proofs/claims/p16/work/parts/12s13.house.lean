/-! house, fault: the relation -/
theorem bind3 {A B C E : Type} (a : Option A) (f : A → Option B) (g : B → Option C) (h : C → E) : (a.bind fun x => (f x).bind fun y => (g y).bind fun z => some (h z)) = ((a.bind fun x => (f x).bind fun y => g y).bind fun z => some (h z)) := by
  cases a with
  | none => rfl
  | some x =>
    show ((f x).bind fun y => (g y).bind fun z => some (h z)) = (((f x).bind fun y => g y).bind fun z => some (h z))
    cases f x with
    | none => rfl
    | some y => rfl
theorem read_gR {t : Int32} {I : jI} {r : Int32 × jI} (hG : gG aGI I) (ht : 0 ≤ t.toInt ∧ t.toInt ≤ 3) (e : d58 t I = some r) : gG aGI r.2 ∧ gR cK77.2.2.1 I (fun _ _ _ => 0) r.2 (fun _ _ _ => 0) := by
  have u := use_tr (L := fun _ _ _ => 0) (L' := fun _ _ _ => 0) cT77 (as := [.inr (3, 0), .inr (2, 0), .inl (.inl t)]) ⟨⟨rfl, rfl, by simp, by simp⟩, ⟨rfl, rfl, by simp, by simp⟩, ⟨rfl, ht.1, ht.2⟩, trivial⟩ hG (fun d k hk => D58 e hk)
  exact ⟨u.1, u.2.1⟩
theorem readm_gR {t : Int32} {J : jI} {r : Int32 × jI} (hG : gG aGI J) (ht : 0 ≤ t.toInt ∧ t.toInt ≤ 3) (hl : 0 ≤ (J 37 0 t.toNatClampNeg).toInt) (e : d148 t J = some r) : gR (rdW ++ mfW) J (fun _ _ _ => 0) r.2 (fun _ _ _ => 0) := by
  have e' : d149 t J = some r := by
    unfold d149
    rw [isText_t, if_pos ht, if_neg one0, if_pos (le0_t.mpr hl), e]
    rfl
  have u := use_tr (L := fun _ _ _ => 0) (L' := fun _ _ _ => 0) hK_mfault (as := [.inr (31, 0), .inl (.inl t)]) ⟨⟨rfl, rfl, by simp, by simp⟩, ⟨rfl, (i32_rng _).1, (i32_rng _).2⟩, trivial⟩ hG (fun d k hk => D149 e' hk)
  exact u.2.1
theorem RD_rd {I I' J J' : jI} {L L' L2 L2' : jL} {W W2 : List aR} (hG : gG aGI I) (q : RD2 I J) (hw : rApart W rdC = true) (h : gR W I L I' L') (hw2 : rApart W2 rdM = true) (h2 : gR W2 J L2 J' L2') : RD2 I' J' := RD_cells hG q (fun g i j z => (h g i j (rApart_of hw z)).1) (fun g i j z => (h2 g i j (rApart_of hw2 z)).1)
theorem RD_new {I' J' T X : jI} {m : Nat} (m1 : 1 ≤ m) (m6 : m ≤ 6) (rp_ : RP I' J' m) (rn : RN I' J') (hC : hoC I' T) (hM : hoM J' X m) (z1 : ∀ j, 9 ≤ j → j < 15 → I' 4 5 j = 0) (z2 : ∀ j, j < 10 → I' 23 5 j = 0) (z3 : I' 4 5 15 = 0) : RD2 T X := by
  obtain ⟨p1, p2, p3⟩ := rp_
  obtain ⟨n1, n2, n3, n4⟩ := rn
  obtain ⟨cx, c6_, c2, cg⟩ := hC
  obtain ⟨⟨x1, x2, x3⟩, xi, xz, xk, xg⟩ := hM
  have eP : mP T = m := by
    have h6 : T 4 0 6 = I' 4 5 6 := (cx 0 (by decide)).1 6 (by decide) (by decide)
    have := cl_t (x := T 4 0 6) (by rw [h6]; omega)
    unfold mP
    rw [h6] at this ⊢
    omega
  have t4 : ∀ x j, x ≤ 1 → 6 ≤ j → j < 16 → T 4 x j = I' 4 5 j := fun x j hx a b => (cx x hx).1 j a b
  have tg : ∀ x g j, x ≤ 1 → 18 ≤ g → g < 22 → j < 6 → T g x j = I' g 5 j := fun x g j hx a b c => (cx x hx).2.1 g j a b c
  have t23 : ∀ x j, x ≤ 1 → j < 10 → T 23 x j = I' 23 5 j := fun x j hx a => (cx x hx).2.2.1 j a
  have d0 : dN T 1 = 0 := by
    unfold dN
    rw [t4 1 15 (by decide) (by decide) (by decide), z3]
    rfl
  have v0 : vC m T 1 = vC m T 0 := vC_ext m6 (fun j a b => by rw [t4 1 j (by decide) (by omega) (by omega), t4 0 j (by decide) (by omega) (by omega)]) (fun j a => by rw [t23 1 j (by decide) a, t23 0 j (by decide) a]) (fun j a => by rw [tg 1 19 j (by decide) (by decide) (by decide) a, tg 0 19 j (by decide) (by decide) (by decide) a]) (fun j a => by rw [tg 1 20 j (by decide) (by decide) (by decide) a, tg 0 20 j (by decide) (by decide) (by decide) a])
  have vf : ∀ k, k < 6 → vC m T 0 k = 0 := fun k hk => by rw [vC_f hk, t4 0 _ (by decide) (by omega) (by omega), z1 _ (by omega) (by omega)]
  have vl : ∀ k, k < 10 → vC m T 0 (6 + k) = 0 := fun k hk => by rw [vC_l hk, t23 0 k (by decide) hk, z2 k hk]
  have vg : ∀ i, i < m → vC m T 0 (16 + i) = I' 19 5 i := fun i hi => by rw [vC_g hi m6, tg 0 19 i (by decide) (by decide) (by decide) (by omega)]
  have vp : ∀ i, i < m → vC m T 0 (22 + i) = I' 20 5 i := fun i hi => by rw [vC_p hi m6, tg 0 20 i (by decide) (by decide) (by decide) (by omega)]
  have lk : lOK m 0 (vC m T 0) := by
    refine ⟨fun k hk => by rw [vl k hk]; decide, ?_, fun i hi => ?_, by rw [vf 3 (by decide)]; decide, by rw [vf 3 (by decide)]; decide⟩
    · refine Int.le_trans (smI_le 10 (lrd (vC m T 0)) (fun _ => 0) 0 (fun j _ b => ?_)) (by decide)
      show (vC m T 0 (6 + j)).toInt ≤ _
      rw [vl j (by omega)]
      exact Int.le_refl _
    · obtain ⟨-, -, q1, q2, -⟩ := p3 i hi
      rw [vg i hi, vp i hi]
      exact ⟨q1, q2⟩
  have vm : vM m X 1 = vC m T 0 := by
    funext k
    by_cases c : vK m k
    · rw [vM_k c]
      by_cases c6 : k < 6
      · rw [vf k c6, xz _ (by omega)]
      by_cases c16 : k < 16
      · obtain ⟨j, rfl⟩ : ∃ j, k = 6 + j := ⟨k - 6, by omega⟩
        rw [vl j (by omega), xz _ (by omega)]
      by_cases c22 : k < 22
      · obtain ⟨j, rfl⟩ : ∃ j, k = 16 + j := ⟨k - 16, by omega⟩
        have hj : j < m := by rcases c with c | c | c <;> omega
        rw [vg j hj, show 1 + (16 + j) = 17 + j by omega, (xi j hj).2.1, (p3 j hj).1.2.1]
      · obtain ⟨j, rfl⟩ : ∃ j, k = 22 + j := ⟨k - 22, by omega⟩
        have hj : j < m := by rcases c with c | c | c <;> omega
        rw [vp j hj, show 1 + (22 + j) = 23 + j by omega, (xi j hj).2.2, (p3 j hj).1.2.2.1]
    · rw [vM_n c, vC_n c]
  have r0 : rp m T 1 0 = vC m T 0 := rfl
  refine ⟨⟨fun j a b => ?_, fun j a => ?_⟩, ⟨?_, ?_, ?_⟩, fun i hi => ⟨?_, ?_⟩, fun _ => ⟨?_, fun i hi => ?_⟩, ?_, ?_, fun k hk => ⟨fun _ => ?_, fun z => absurd (c6_ k hk) z⟩⟩
  · rw [c2 4 5 j (by decide) (by decide)]; exact z1 j a b
  · rw [c2 23 5 j (by decide) (by decide)]; exact z2 j a
  · rw [x3, t4 0 6 (by decide) (by decide) (by decide)]; exact eq_t.mpr (p2.trans p1.symm)
  · rw [x1, t4 0 7 (by decide) (by decide) (by decide)]; exact n1.symm
  · rw [x2, t4 0 8 (by decide) (by decide) (by decide)]; exact n2.symm
  · rw [eP] at hi; rw [(xi i hi).1.1, tg 0 18 i (by decide) (by decide) (by decide) (by omega)]; exact (p3 i hi).1.1.symm
  · rw [eP] at hi; rw [(xi i hi).1.2, tg 0 21 i (by decide) (by decide) (by decide) (by omega)]; exact (p3 i hi).1.2.2.2.symm
  · rw [t4 0 7 (by decide) (by decide) (by decide), t4 0 8 (by decide) (by decide) (by decide)]; exact ⟨n3, n4⟩
  · rw [eP] at hi
    obtain ⟨-, q1, -, -, q4⟩ := p3 i hi
    rw [tg 0 18 i (by decide) (by decide) (by decide) (by omega), tg 0 21 i (by decide) (by decide) (by decide) (by omega)]
    exact ⟨q1, q4⟩
  · rw [t4 0 7 (by decide) (by decide) (by decide)]; omega
  · rw [eP]
    refine ⟨⟨fun j a b => ?_, fun i hi => ⟨?_, ?_⟩⟩, ?_, fun d hd => ?_, fun d hd => ?_, fun d hd => ?_, ?_, ?_⟩
    · rw [t4 1 j (by decide) a (by omega), t4 0 j (by decide) a (by omega)]
    · rw [tg 1 18 i (by decide) (by decide) (by decide) hi, tg 0 18 i (by decide) (by decide) (by decide) hi]
    · rw [tg 1 21 i (by decide) (by decide) (by decide) hi, tg 0 21 i (by decide) (by decide) (by decide) hi]
    · rw [xz 0 (by decide), t4 1 15 (by decide) (by decide) (by decide), z3]
    · rw [d0] at hd; exact absurd hd (Nat.not_lt_zero d)
    · rw [d0] at hd
      have : d = 0 := by omega
      subst this
      rw [r0]; exact lk
    · rw [d0] at hd; exact absurd hd (Nat.not_lt_zero d)
    · rw [d0, r0]; exact vm
    · rw [d0, r0]; exact v0
  · have : k = 0 ∨ k = 1 ∨ k = 2 := by omega
    rcases this with rfl | rfl | rfl
    · exact xk.1
    · exact xk.2.1
    · exact xk.2.2
theorem house_eq2 {I J : jI} (t : Int32) (hG : gG aGI I) (hGJ : gG aGI J) (hJ : jJ I) (h : RT I) (h37 : J 37 = I 37) (h38 : J 38 = I 38) (q : RD2 I J) : ∃ r r', d77 t I = some r ∧ d150 t J = some r' ∧ r.1 = r'.1 ∧ RD2 r.2 r'.2 := by
  unfold d77 d150
  rw [names_t, isText_t]
  by_cases h1 : 0 ≤ t.toInt ∧ t.toInt ≤ 3
  · have hb : ¬ (if 0 ≤ t.toInt ∧ t.toInt ≤ 3 then (1 : Int32) else 0) = 0 := by rw [b01]; exact fun z => z h1
    rw [if_neg hb, if_neg hb, h37]
    have nt := cl_t h1.1
    have hs := gi_tsz hG (t := t.toNatClampNeg) (by omega)
    have et : I 37 0 t.toNatClampNeg = I 16 0 t.toNatClampNeg := h.1 _ (by omega)
    rw [et]
    unfold d16g2
    have cm : (-1 : Int32).toInt = -1 := rfl
    by_cases h2 : I 16 0 t.toNatClampNeg = -1
    · have h2' : (I 16 0 t.toNatClampNeg).toInt = -1 := by rw [h2]; rfl
      rw [if_pos h2, if_pos rfl, if_neg (by rw [le0_t]; omega)]
      exact ⟨_, _, rfl, rfl, rfl, RD_find hG q⟩
    · have h2' : ¬ (I 16 0 t.toNatClampNeg).toInt = -1 := fun z => h2 (eq_t.mpr (by rw [z, cm]))
      rw [if_neg h2, if_neg (by decide), if_pos (by rw [le0_t]; omega)]
      obtain ⟨v, I', J', a1, a2, a3⟩ := read_eq (I := I) (J := J) h1 (by rw [h37]; exact et) (fun j hj => by rw [h38]; exact h.2 _ j (by omega) hj) ⟨by omega, hs.2⟩
      obtain ⟨g1, g2⟩ := read_gR hG h1 a1
      have g3 := readm_gR hGJ h1 (by rw [h37, et]; omega) a2
      have rr : RD2 I' J' := RD_rd hG q (by decide) g2 (by decide) g3
      rw [a1, a2]
      dsimp only [Option.bind_some]
      rcases a3 with ⟨rfl, m, m1, m6, rp, rn⟩ | a3
      · rw [if_pos rfl, if_pos rfl]
        obtain ⟨T, t1, t2⟩ := hoC_of (I' := I')
        obtain ⟨X, x1, x2⟩ := hoM_of (J' := J') m6 rp.2.1
        have eC := bind3 (d28 0 5 I') (fun r2 => d28 1 0 r2) (fun r3 => d77_77 70 0 r3) (fun r4 => (r4 4 1 6, r4))
        rw [t1] at eC
        have eM := bind3 (d150_39 1200 0 J') (fun r2 => d150_85 1200 0 (hoN r2)) (fun r3 => d150_169 1200 1 r3) (fun r4 => (r4 31 0 3, r4))
        rw [x1] at eM
        have z15 : I' 4 5 15 = 0 := by
          have g2' : gR cK77.2.2.1 I (fun _ _ _ => 0) I' (fun _ _ _ => 0) := g2
          rw [(g2' 4 5 15 (rApart_of (W' := rdC) (by decide) ⟨(4, (5, 5), (9, 15)), by decide, rfl, by simp, by simp, by simp, by simp⟩)).1]
          exact hJ.2.1
        have rn2 := RD_new m1 m6 rp rn t2 x2 rr.1.1 rr.1.2 z15
        refine ⟨(T 4 1 6, T), (X 31 0 3, X), eC, eM, ?_, rn2⟩
        show T 4 1 6 = X 31 0 3
        rw [(t2.1 1 (by decide)).1 6 (by decide) (by decide), x2.1.2.2]
        exact eq_t.mpr (rp.1.trans rp.2.1.symm)
      · rw [if_neg (ne9 a3), if_neg (ne9 a3)]
        exact ⟨_, _, rfl, rfl, rfl, rr⟩
  · have hb : (if 0 ≤ t.toInt ∧ t.toInt ≤ 3 then (1 : Int32) else 0) = 0 := by rw [b01]; exact h1
    rw [if_pos hb, if_pos hb]
    exact ⟨_, _, rfl, rfl, rfl, q⟩
