/-- X8_pass, loop at 7 -/
noncomputable def d167_7 (y1 : Int32) : Nat → Int32 → Int32 → jI → Option (Int32 × jI)
  | 0, _, _, _ => none
  | F + 1, x2, x3, I =>
    if 10 ≤ x3 then
      some (x2, I)
    else
      if x2 ≤ (I 32 0 (Int32.toNatClampNeg ((y1 + 7) + x3))) then
        d167_7 y1 F (x2 - x2) (x3 + 1) (jup I 32 0 (Int32.toNatClampNeg ((y1 + 7) + x3)) ((I 32 0 (Int32.toNatClampNeg ((y1 + 7) + x3))) - x2))
      else
        d167_7 y1 F (x2 - (I 32 0 (Int32.toNatClampNeg ((y1 + 7) + x3)))) (x3 + 1) (jup I 32 0 (Int32.toNatClampNeg ((y1 + 7) + x3)) ((I 32 0 (Int32.toNatClampNeg ((y1 + 7) + x3))) - (I 32 0 (Int32.toNatClampNeg ((y1 + 7) + x3)))))
set_option maxHeartbeats 4000000 in
set_option maxRecDepth 20000 in
theorem L167_7 {d n : Nat} {k : jK} {y1 : Int32} {L : jL} : ∀ (F : Nat) (x2 : Int32) (x3 : Int32) (I : jI) (e4 : Option jV) (r : Int32 × jI), d167_7 y1 F x2 x3 I = some r → (∀ (f3 f4 : Option jV), pn (jPM d) k none (jco 167) n (72, [some (.inr (31, 0)), some (.inl (.inl y1)), some (.inl (.inl r.1)), f3, f4], [], r.2, L)) → pn (jPM d) k none (jco 167) n (7, [some (.inr (31, 0)), some (.inl (.inl y1)), some (.inl (.inl x2)), some (.inl (.inl x3)), e4], [], I, L) := by
  intro F
  induction F with
  | zero => intro x2 x3 I e4 r h hx; cases h
  | succ F ih =>
    intro x2 x3 I e4 r h hx
    rw [d167_7] at h
    refine pn_go [7, 72, 126] 400 ?_
    conv => whnf
    refine ⟨fun cz1 => ?_, fun cz1 => ?_⟩
    · replace h := (if_pos cz1).symm.trans h
      conv => whnf
      cases h
      exact hx _ _
    · replace h := (if_neg cz1).symm.trans h
      conv => whnf
      intro _
      conv => whnf
      refine ⟨fun cz2 => ?_, fun cz2 => ?_⟩
      · replace h := (if_pos cz2).symm.trans h
        conv => whnf
        intro _
        conv => whnf
        intro _
        conv => whnf
        exact ih _ _ _ _ r h hx
      · replace h := (if_neg cz2).symm.trans h
        conv => whnf
        intro _
        conv => whnf
        intro _
        conv => whnf
        intro _
        conv => whnf
        exact ih _ _ _ _ r h hx
/-- X8_pass, loop at 126 -/
noncomputable def d167_126 (y1 : Int32) (y3 : Int32) : Nat → Int32 → jI → Option (jI)
  | 0, _, _ => none
  | F + 1, x4, I =>
    if 9 ≤ x4 then
      some I
    else
      d167_126 y1 y3 F (x4 + 1) (jup I 32 0 (Int32.toNatClampNeg ((y1 + 7) + x4)) (I 32 0 (Int32.toNatClampNeg (((y1 + 7) + x4) + 1))))
set_option maxHeartbeats 4000000 in
set_option maxRecDepth 20000 in
theorem L167_126 {d n : Nat} {k : jK} {y1 : Int32} {y3 : Int32} {L : jL} : ∀ (F : Nat) (x4 : Int32) (I : jI) (e2 : Option jV) (r : jI), d167_126 y1 y3 F x4 I = some r → (∀ (f2 f4 : Option jV), pn (jPM d) k none (jco 167) n (165, [some (.inr (31, 0)), some (.inl (.inl y1)), f2, some (.inl (.inl y3)), f4], [], r, L)) → pn (jPM d) k none (jco 167) n (126, [some (.inr (31, 0)), some (.inl (.inl y1)), e2, some (.inl (.inl y3)), some (.inl (.inl x4))], [], I, L) := by
  intro F
  induction F with
  | zero => intro x4 I e2 r h hx; cases h
  | succ F ih =>
    intro x4 I e2 r h hx
    rw [d167_126] at h
    refine pn_go [7, 126, 165] 400 ?_
    conv => whnf
    refine ⟨fun cz1 => ?_, fun cz1 => ?_⟩
    · replace h := (if_pos cz1).symm.trans h
      conv => whnf
      cases h
      exact hx _ _
    · replace h := (if_neg cz1).symm.trans h
      conv => whnf
      intro _
      conv => whnf
      intro _
      conv => whnf
      exact ih _ _ _ r h hx
/-- X8_pass -/
noncomputable def d167 (a1 : Int32) (I : jI) : Option (Int32 × jI) :=
  (d167_7 a1 70 (I 31 0 1) 0 I).bind fun r1 =>
  (d167_126 a1 ((jup (jup r1.2 32 0 (Int32.toNatClampNeg (a1 + 3)) ((r1.2 32 0 (Int32.toNatClampNeg (a1 + 3))) + ((r1.2 31 0 1) - r1.1))) 32 0 (Int32.toNatClampNeg (a1 + 4)) (((jup r1.2 32 0 (Int32.toNatClampNeg (a1 + 3)) ((r1.2 32 0 (Int32.toNatClampNeg (a1 + 3))) + ((r1.2 31 0 1) - r1.1))) 32 0 (Int32.toNatClampNeg (a1 + 4))) + r1.1)) 32 0 (Int32.toNatClampNeg (a1 + 7))) 70 0 (jup (jup (jup r1.2 32 0 (Int32.toNatClampNeg (a1 + 3)) ((r1.2 32 0 (Int32.toNatClampNeg (a1 + 3))) + ((r1.2 31 0 1) - r1.1))) 32 0 (Int32.toNatClampNeg (a1 + 4)) (((jup r1.2 32 0 (Int32.toNatClampNeg (a1 + 3)) ((r1.2 32 0 (Int32.toNatClampNeg (a1 + 3))) + ((r1.2 31 0 1) - r1.1))) 32 0 (Int32.toNatClampNeg (a1 + 4))) + r1.1)) 32 0 (Int32.toNatClampNeg (a1 + 5)) (((jup (jup r1.2 32 0 (Int32.toNatClampNeg (a1 + 3)) ((r1.2 32 0 (Int32.toNatClampNeg (a1 + 3))) + ((r1.2 31 0 1) - r1.1))) 32 0 (Int32.toNatClampNeg (a1 + 4)) (((jup r1.2 32 0 (Int32.toNatClampNeg (a1 + 3)) ((r1.2 32 0 (Int32.toNatClampNeg (a1 + 3))) + ((r1.2 31 0 1) - r1.1))) 32 0 (Int32.toNatClampNeg (a1 + 4))) + r1.1)) 32 0 (Int32.toNatClampNeg (a1 + 5))) + ((jup (jup r1.2 32 0 (Int32.toNatClampNeg (a1 + 3)) ((r1.2 32 0 (Int32.toNatClampNeg (a1 + 3))) + ((r1.2 31 0 1) - r1.1))) 32 0 (Int32.toNatClampNeg (a1 + 4)) (((jup r1.2 32 0 (Int32.toNatClampNeg (a1 + 3)) ((r1.2 32 0 (Int32.toNatClampNeg (a1 + 3))) + ((r1.2 31 0 1) - r1.1))) 32 0 (Int32.toNatClampNeg (a1 + 4))) + r1.1)) 32 0 (Int32.toNatClampNeg (a1 + 7)))))).bind fun r2 =>
  some (((jup (jup r1.2 32 0 (Int32.toNatClampNeg (a1 + 3)) ((r1.2 32 0 (Int32.toNatClampNeg (a1 + 3))) + ((r1.2 31 0 1) - r1.1))) 32 0 (Int32.toNatClampNeg (a1 + 4)) (((jup r1.2 32 0 (Int32.toNatClampNeg (a1 + 3)) ((r1.2 32 0 (Int32.toNatClampNeg (a1 + 3))) + ((r1.2 31 0 1) - r1.1))) 32 0 (Int32.toNatClampNeg (a1 + 4))) + r1.1)) 32 0 (Int32.toNatClampNeg (a1 + 7))), (jup (jup r2 32 0 (Int32.toNatClampNeg ((a1 + 7) + 9)) 0) 32 0 (Int32.toNatClampNeg (a1 + 1)) (((jup r2 32 0 (Int32.toNatClampNeg ((a1 + 7) + 9)) 0) 32 0 (Int32.toNatClampNeg (a1 + 1))) + 1)))
set_option maxHeartbeats 4000000 in
set_option maxRecDepth 20000 in
theorem D167 {d : Nat} {k : jK} {a1 : Int32} {I : jI} {L : jL} {r : Int32 × jI} (h : d167 a1 I = some r) (hk : k (some (.inl (.inl r.1))) (r.2, L)) : jPM d 167 [.inr (31, 0), .inl (.inl a1)] (I, L) k := by
  refine pM (fun d n => ?_)
  unfold d167 at h
  refine pn_go [7, 126] 400 ?_
  conv => whnf
  obtain ⟨r1, hz1, h⟩ := obind h
  refine L167_7 _ _ _ _ _ _ hz1 (fun e3_r1 e4_r1 => ?_)
  refine pn_go [7, 126] 400 ?_
  conv => whnf
  intro _
  conv => whnf
  intro _
  conv => whnf
  intro _
  conv => whnf
  intro _
  conv => whnf
  intro _
  conv => whnf
  intro _
  conv => whnf
  intro _
  conv => whnf
  obtain ⟨r2, hz2, h⟩ := obind h
  refine L167_126 _ _ _ _ _ hz2 (fun e2_r2 e4_r2 => ?_)
  refine pn_go [7, 126] 400 ?_
  conv => whnf
  intro _
  conv => whnf
  intro _
  conv => whnf
  intro _
  conv => whnf
  cases h
  exact hk
/-- X8_week -/
noncomputable def d168 (I : jI) : Option (Int32 × jI) :=
  if (I 31 0 3) = 0 then
    some ((-4), I)
  else
    if (I 32 0 (Int32.toNatClampNeg 0)) = 40 then
      some ((-2), I)
    else
      (d163 I).bind fun r1 =>
      (d167 0 r1).bind fun r2 =>
      some (r2.1, r2.2)
set_option maxHeartbeats 4000000 in
set_option maxRecDepth 20000 in
theorem D168 {d : Nat} {k : jK} {I : jI} {L : jL} {r : Int32 × jI} (h : d168 I = some r) (hk : k (some (.inl (.inl r.1))) (r.2, L)) : jPM d 168 [.inr (31, 0)] (I, L) k := by
  refine pM (fun d n => ?_)
  unfold d168 at h
  refine pn_go [] 400 ?_
  conv => whnf
  refine ⟨fun cz1 => ?_, fun cz1 => ?_⟩
  · replace h := (if_neg cz1).symm.trans h
    conv => whnf
    intro _
    conv => whnf
    refine ⟨fun cz2 => ?_, fun cz2 => ?_⟩
    · replace h := (if_neg cz2).symm.trans h
      conv => whnf
      obtain ⟨r1, hz3, h⟩ := obind h
      refine D163 hz3 ?_
      conv => whnf
      obtain ⟨r2, hz4, h⟩ := obind h
      refine D167 hz4 ?_
      conv => whnf
      cases h
      exact hk
    · replace h := (if_pos cz2).symm.trans h
      conv => whnf
      cases h
      exact hk
  · replace h := (if_pos cz1).symm.trans h
    conv => whnf
    cases h
    exact hk
/-- X8_shrink -/
noncomputable def d169 (a1 : Int32) (I : jI) : Option (Int32 × jI) :=
  if (d151 a1 I) = 0 then
    some ((-1), I)
  else
    if (I 32 0 (Int32.toNatClampNeg (17 + a1))) = 1 then
      some ((-4), I)
    else
      if (I 32 0 (Int32.toNatClampNeg 0)) = 40 then
        some ((-2), I)
      else
        (d163 I).bind fun r1 =>
        some (((jup r1 32 0 (Int32.toNatClampNeg (17 + a1)) ((r1 32 0 (Int32.toNatClampNeg (17 + a1))) - 1)) 32 0 (Int32.toNatClampNeg (17 + a1))), (jup r1 32 0 (Int32.toNatClampNeg (17 + a1)) ((r1 32 0 (Int32.toNatClampNeg (17 + a1))) - 1)))
set_option maxHeartbeats 4000000 in
set_option maxRecDepth 20000 in
theorem D169 {d : Nat} {k : jK} {a1 : Int32} {I : jI} {L : jL} {r : Int32 × jI} (h : d169 a1 I = some r) (hk : k (some (.inl (.inl r.1))) (r.2, L)) : jPM d 169 [.inr (31, 0), .inl (.inl a1)] (I, L) k := by
  refine pM (fun d n => ?_)
  unfold d169 at h
  refine pn_go [] 400 ?_
  conv => whnf
  refine D151 rfl ?_
  conv => whnf
  refine ⟨fun cz1 => ?_, fun cz1 => ?_⟩
  · replace h := (if_neg cz1).symm.trans h
    conv => whnf
    intro _
    conv => whnf
    refine ⟨fun cz2 => ?_, fun cz2 => ?_⟩
    · replace h := (if_neg cz2).symm.trans h
      conv => whnf
      intro _
      conv => whnf
      refine ⟨fun cz3 => ?_, fun cz3 => ?_⟩
      · replace h := (if_neg cz3).symm.trans h
        conv => whnf
        obtain ⟨r1, hz4, h⟩ := obind h
        refine D163 hz4 ?_
        conv => whnf
        intro _
        conv => whnf
        intro _
        conv => whnf
        intro _
        conv => whnf
        cases h
        exact hk
      · replace h := (if_pos cz3).symm.trans h
        conv => whnf
        cases h
        exact hk
    · replace h := (if_pos cz2).symm.trans h
      conv => whnf
      cases h
      exact hk
  · replace h := (if_pos cz1).symm.trans h
    conv => whnf
    cases h
    exact hk
/-- X8_becomes -/
noncomputable def d170 (a1 : Int32) (a2 : Int32) (I : jI) : Option (Int32 × jI) :=
  if (I 32 0 (Int32.toNatClampNeg a1)) = a2 then
    some ((-4), I)
  else
    if (I 32 0 (Int32.toNatClampNeg 0)) = 40 then
      some ((-2), I)
    else
      (d163 I).bind fun r1 =>
      some ((r1 32 0 (Int32.toNatClampNeg a1)), (jup r1 32 0 (Int32.toNatClampNeg a1) a2))
set_option maxHeartbeats 4000000 in
set_option maxRecDepth 20000 in
theorem D170 {d : Nat} {k : jK} {a1 : Int32} {a2 : Int32} {I : jI} {L : jL} {r : Int32 × jI} (h : d170 a1 a2 I = some r) (hk : k (some (.inl (.inl r.1))) (r.2, L)) : jPM d 170 [.inr (31, 0), .inl (.inl a1), .inl (.inl a2)] (I, L) k := by
  refine pM (fun d n => ?_)
  unfold d170 at h
  refine pn_go [] 400 ?_
  conv => whnf
  intro _
  conv => whnf
  refine ⟨fun cz1 => ?_, fun cz1 => ?_⟩
  · replace h := (if_neg cz1).symm.trans h
    conv => whnf
    intro _
    conv => whnf
    refine ⟨fun cz2 => ?_, fun cz2 => ?_⟩
    · replace h := (if_neg cz2).symm.trans h
      conv => whnf
      obtain ⟨r1, hz3, h⟩ := obind h
      refine D163 hz3 ?_
      conv => whnf
      intro _
      conv => whnf
      intro _
      conv => whnf
      cases h
      exact hk
    · replace h := (if_pos cz2).symm.trans h
      conv => whnf
      cases h
      exact hk
  · replace h := (if_pos cz1).symm.trans h
    conv => whnf
    cases h
    exact hk
/-- X8_price -/
noncomputable def d171 (a1 : Int32) (a2 : Int32) (I : jI) : Option (Int32 × jI) :=
  if (d151 a1 I) = 0 then
    some ((-1), I)
  else
    if (d124 (Int32.toInt64 a2) 0 99 I) = 0 then
      some ((-1), I)
    else
      (d170 (23 + a1) a2 I).bind fun r1 =>
      some (r1.1, r1.2)
set_option maxHeartbeats 4000000 in
set_option maxRecDepth 20000 in
theorem D171 {d : Nat} {k : jK} {a1 : Int32} {a2 : Int32} {I : jI} {L : jL} {r : Int32 × jI} (h : d171 a1 a2 I = some r) (hk : k (some (.inl (.inl r.1))) (r.2, L)) : jPM d 171 [.inr (31, 0), .inl (.inl a1), .inl (.inl a2)] (I, L) k := by
  refine pM (fun d n => ?_)
  unfold d171 at h
  refine pn_go [] 400 ?_
  conv => whnf
  refine D151 rfl ?_
  conv => whnf
  refine ⟨fun cz1 => ?_, fun cz1 => ?_⟩
  · replace h := (if_pos cz1).symm.trans h
    conv => whnf
    cases h
    exact hk
  · replace h := (if_neg cz1).symm.trans h
    conv => whnf
    refine D124 rfl ?_
    conv => whnf
    refine ⟨fun cz2 => ?_, fun cz2 => ?_⟩
    · replace h := (if_pos cz2).symm.trans h
      conv => whnf
      cases h
      exact hk
    · replace h := (if_neg cz2).symm.trans h
      conv => whnf
      obtain ⟨r1, hz3, h⟩ := obind h
      refine D170 hz3 ?_
      conv => whnf
      cases h
      exact hk
/-- X8_card -/
noncomputable def d172 (a1 : Int32) (I : jI) : Option (Int32 × jI) :=
  if (d124 (Int32.toInt64 a1) 0 1 I) = 0 then
    some ((-1), I)
  else
    if (I 31 0 3) = 0 then
      some ((-4), I)
    else
      (d170 6 a1 I).bind fun r1 =>
      if 0 ≤ r1.1 then
        some (a1, r1.2)
      else
        some (r1.1, r1.2)
set_option maxHeartbeats 4000000 in
set_option maxRecDepth 20000 in
theorem D172 {d : Nat} {k : jK} {a1 : Int32} {I : jI} {L : jL} {r : Int32 × jI} (h : d172 a1 I = some r) (hk : k (some (.inl (.inl r.1))) (r.2, L)) : jPM d 172 [.inr (31, 0), .inl (.inl a1)] (I, L) k := by
  refine pM (fun d n => ?_)
  unfold d172 at h
  refine pn_go [] 400 ?_
  conv => whnf
  refine D124 rfl ?_
  conv => whnf
  refine ⟨fun cz1 => ?_, fun cz1 => ?_⟩
  · replace h := (if_neg cz1).symm.trans h
    conv => whnf
    refine ⟨fun cz2 => ?_, fun cz2 => ?_⟩
    · replace h := (if_neg cz2).symm.trans h
      conv => whnf
      obtain ⟨r1, hz3, h⟩ := obind h
      refine D170 hz3 ?_
      conv => whnf
      refine ⟨fun cz4 => ?_, fun cz4 => ?_⟩
      · replace h := (if_pos cz4).symm.trans h
        conv => whnf
        cases h
        exact hk
      · replace h := (if_neg cz4).symm.trans h
        conv => whnf
        cases h
        exact hk
    · replace h := (if_pos cz2).symm.trans h
      conv => whnf
      cases h
      exact hk
  · replace h := (if_pos cz1).symm.trans h
    conv => whnf
    cases h
    exact hk
/-- X8_undo, loop at 29 -/
noncomputable def d173_29 (y1 : Int32) (y2 : Int32) : Nat → Int32 → jI → Option (jI)
  | 0, _, _ => none
  | F + 1, x3, I =>
    if 28 ≤ x3 then
      some I
    else
      if y2 ≤ 0 then
        some I
      else
        d173_29 y1 y2 F (x3 + 1) (jup I 32 0 (Int32.toNatClampNeg (1 + x3)) (I 32 0 (Int32.toNatClampNeg ((29 + (28 * y1)) + x3))))
set_option maxHeartbeats 4000000 in
set_option maxRecDepth 20000 in
theorem L173_29 {d n : Nat} {k : jK} {y1 : Int32} {y2 : Int32} {L : jL} : ∀ (F : Nat) (x3 : Int32) (I : jI) (r : jI), d173_29 y1 y2 F x3 I = some r → (∀ (f3 : Option jV), pn (jPM d) k none (jco 173) n (67, [some (.inr (31, 0)), some (.inl (.inl y1)), some (.inl (.inl y2)), f3], [], r, L)) → pn (jPM d) k none (jco 173) n (29, [some (.inr (31, 0)), some (.inl (.inl y1)), some (.inl (.inl y2)), some (.inl (.inl x3))], [], I, L) := by
  intro F
  induction F with
  | zero => intro x3 I r h hx; cases h
  | succ F ih =>
    intro x3 I r h hx
    rw [d173_29] at h
    refine pn_go [29, 67] 400 ?_
    conv => whnf
    refine ⟨fun cz1 => ?_, fun cz1 => ?_⟩
    · replace h := (if_pos cz1).symm.trans h
      conv => whnf
      cases h
      exact hx _
    · replace h := (if_neg cz1).symm.trans h
      conv => whnf
      refine ⟨fun cz2 => ?_, fun cz2 => ?_⟩
      · replace h := (if_pos cz2).symm.trans h
        conv => whnf
        cases h
        exact hx _
      · replace h := (if_neg cz2).symm.trans h
        conv => whnf
        intro _
        conv => whnf
        intro _
        conv => whnf
        exact ih _ _ r h hx
/-- X8_undo -/
noncomputable def d173 (a1 : Int32) (I : jI) : Option (Int32 × jI) :=
  if (d124 (Int32.toInt64 a1) 0 (Int32.toInt64 (I 32 0 (Int32.toNatClampNeg 0))) I) = 0 then
    some ((-1), I)
  else
    (d173_29 a1 ((I 32 0 (Int32.toNatClampNeg 0)) - a1) 70 0 I).bind fun r1 =>
    some (((I 32 0 (Int32.toNatClampNeg 0)) - a1), (jup r1 32 0 (Int32.toNatClampNeg 0) a1))
set_option maxHeartbeats 4000000 in
set_option maxRecDepth 20000 in
theorem D173 {d : Nat} {k : jK} {a1 : Int32} {I : jI} {L : jL} {r : Int32 × jI} (h : d173 a1 I = some r) (hk : k (some (.inl (.inl r.1))) (r.2, L)) : jPM d 173 [.inr (31, 0), .inl (.inl a1)] (I, L) k := by
  refine pM (fun d n => ?_)
  unfold d173 at h
  refine pn_go [29] 400 ?_
  conv => whnf
  intro _
  conv => whnf
  refine D124 rfl ?_
  conv => whnf
  refine ⟨fun cz1 => ?_, fun cz1 => ?_⟩
  · replace h := (if_neg cz1).symm.trans h
    conv => whnf
    intro _
    conv => whnf
    obtain ⟨r1, hz2, h⟩ := obind h
    refine L173_29 _ _ _ _ hz2 (fun e3_r1 => ?_)
    refine pn_go [29] 400 ?_
    conv => whnf
    intro _
    conv => whnf
    cases h
    exact hk
  · replace h := (if_pos cz1).symm.trans h
    conv => whnf
    cases h
    exact hk
/-- X8_copyHouse, loop at 2 -/
noncomputable def d174_2 (y1 : Int32) (y2 : Int32) : Nat → Int32 → jI → Option (jI)
  | 0, _, _ => none
  | F + 1, x3, I =>
    if 1149 ≤ x3 then
      some I
    else
      d174_2 y1 y2 F (x3 + 1) (jup I 32 0 (Int32.toNatClampNeg (y2 + x3)) (I 32 0 (Int32.toNatClampNeg (y1 + x3))))
set_option maxHeartbeats 4000000 in
set_option maxRecDepth 20000 in
theorem L174_2 {d n : Nat} {k : jK} {y1 : Int32} {y2 : Int32} {L : jL} : ∀ (F : Nat) (x3 : Int32) (I : jI) (r : jI), d174_2 y1 y2 F x3 I = some r → (∀ (f3 : Option jV), pn (jPM d) k none (jco 174) n (31, [some (.inr (31, 0)), some (.inl (.inl y1)), some (.inl (.inl y2)), f3], [], r, L)) → pn (jPM d) k none (jco 174) n (2, [some (.inr (31, 0)), some (.inl (.inl y1)), some (.inl (.inl y2)), some (.inl (.inl x3))], [], I, L) := by
  intro F
  induction F with
  | zero => intro x3 I r h hx; cases h
  | succ F ih =>
    intro x3 I r h hx
    rw [d174_2] at h
    refine pn_go [2, 31] 400 ?_
    conv => whnf
    refine ⟨fun cz1 => ?_, fun cz1 => ?_⟩
    · replace h := (if_pos cz1).symm.trans h
      conv => whnf
      cases h
      exact hx _
    · replace h := (if_neg cz1).symm.trans h
      conv => whnf
      intro _
      conv => whnf
      intro _
      conv => whnf
      exact ih _ _ r h hx
/-- X8_copyHouse -/
noncomputable def d174 (a1 : Int32) (a2 : Int32) (I : jI) : Option (jI) :=
  (d174_2 a1 a2 1200 0 I).bind fun r1 =>
  some r1
set_option maxHeartbeats 4000000 in
set_option maxRecDepth 20000 in
theorem D174 {d : Nat} {k : jK} {a1 : Int32} {a2 : Int32} {I : jI} {L : jL} {r : jI} (h : d174 a1 a2 I = some r) (hk : k none (r, L)) : jPM d 174 [.inr (31, 0), .inl (.inl a1), .inl (.inl a2)] (I, L) k := by
  refine pM (fun d n => ?_)
  unfold d174 at h
  refine pn_go [2] 400 ?_
  conv => whnf
  obtain ⟨r1, hz1, h⟩ := obind h
  refine L174_2 _ _ _ _ hz1 (fun e3_r1 => ?_)
  refine pn_go [2] 400 ?_
  conv => whnf
  cases h
  exact hk
/-- X8_keep -/
noncomputable def d175 (a1 : Int32) (I : jI) : Option (Int32 × jI) :=
  if (d124 (Int32.toInt64 a1) 0 2 I) = 0 then
    some ((-1), I)
  else
    if (I 31 0 3) = 0 then
      some ((-4), I)
    else
      (d174 0 (1149 * (1 + a1)) I).bind fun r1 =>
      some ((r1 32 0 (Int32.toNatClampNeg 0)), r1)
set_option maxHeartbeats 4000000 in
set_option maxRecDepth 20000 in
theorem D175 {d : Nat} {k : jK} {a1 : Int32} {I : jI} {L : jL} {r : Int32 × jI} (h : d175 a1 I = some r) (hk : k (some (.inl (.inl r.1))) (r.2, L)) : jPM d 175 [.inr (31, 0), .inl (.inl a1)] (I, L) k := by
  refine pM (fun d n => ?_)
  unfold d175 at h
  refine pn_go [] 400 ?_
  conv => whnf
  refine D124 rfl ?_
  conv => whnf
  refine ⟨fun cz1 => ?_, fun cz1 => ?_⟩
  · replace h := (if_neg cz1).symm.trans h
    conv => whnf
    refine ⟨fun cz2 => ?_, fun cz2 => ?_⟩
    · replace h := (if_neg cz2).symm.trans h
      conv => whnf
      obtain ⟨r1, hz3, h⟩ := obind h
      refine D174 hz3 ?_
      conv => whnf
      intro _
      conv => whnf
      cases h
      exact hk
    · replace h := (if_pos cz2).symm.trans h
      conv => whnf
      cases h
      exact hk
  · replace h := (if_pos cz1).symm.trans h
    conv => whnf
    cases h
    exact hk
