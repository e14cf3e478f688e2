/-- X8_got -/
noncomputable def d155 (a1 : Int32) (a2 : Int32) (I : jI) : Int32 :=
  (d154 (I 33 0 (Int32.toNatClampNeg a2)) (I 32 0 (Int32.toNatClampNeg ((a1 + 17) + a2))) I)
set_option maxHeartbeats 4000000 in
set_option maxRecDepth 20000 in
theorem D155 {d : Nat} {k : jK} {a1 : Int32} {a2 : Int32} {I : jI} {L : jL} {r : Int32} (h : d155 a1 a2 I = r) (hk : k (some (.inl (.inl r))) (I, L)) : jPM d 155 [.inr (31, 0), .inl (.inl a1), .inl (.inl a2)] (I, L) k := by
  refine pM (fun d n => ?_)
  unfold d155 at h
  refine pn_go [] 400 ?_
  conv => whnf
  intro _
  conv => whnf
  intro _
  conv => whnf
  refine D154 rfl ?_
  conv => whnf
  subst h
  exact hk
/-- X8_keepsOf -/
noncomputable def d156 (a1 : Int32) (I : jI) : Int32 :=
  if (I 33 0 (Int32.toNatClampNeg a1)) = 5 then
    ((I 34 0 (Int32.toNatClampNeg a1)) / 2)
  else
    (I 34 0 (Int32.toNatClampNeg a1))
set_option maxHeartbeats 4000000 in
set_option maxRecDepth 20000 in
theorem D156 {d : Nat} {k : jK} {a1 : Int32} {I : jI} {L : jL} {r : Int32} (h : d156 a1 I = r) (hk : k (some (.inl (.inl r))) (I, L)) : jPM d 156 [.inr (31, 0), .inl (.inl a1)] (I, L) k := by
  refine pM (fun d n => ?_)
  unfold d156 at h
  refine pn_go [] 400 ?_
  conv => whnf
  intro _
  conv => whnf
  refine ⟨fun cz1 => ?_, fun cz1 => ?_⟩
  · replace h := (if_neg cz1).symm.trans h
    conv => whnf
    intro _
    conv => whnf
    subst h
    exact hk
  · replace h := (if_pos cz1).symm.trans h
    conv => whnf
    intro _
    conv => whnf
    intro _
    conv => whnf
    subst h
    exact hk
/-- X8_inLarder, loop at 4 -/
noncomputable def d162_4 (y1 : Int32) (I : jI) : Nat → Int32 → Int32 → Option (Int32)
  | 0, _, _ => none
  | F + 1, x2, x3 =>
    if 10 ≤ x3 then
      some x2
    else
      d162_4 y1 I F (x2 + (I 32 0 (Int32.toNatClampNeg ((y1 + 7) + x3)))) (x3 + 1)
set_option maxHeartbeats 4000000 in
set_option maxRecDepth 20000 in
theorem L162_4 {d n : Nat} {k : jK} {y1 : Int32} {I : jI} {L : jL} : ∀ (F : Nat) (x2 : Int32) (x3 : Int32) (r : Int32), d162_4 y1 I F x2 x3 = some r → (∀ (f3 : Option jV), pn (jPM d) k none (jco 162) n (30, [some (.inr (31, 0)), some (.inl (.inl y1)), some (.inl (.inl r)), f3], [], I, L)) → pn (jPM d) k none (jco 162) n (4, [some (.inr (31, 0)), some (.inl (.inl y1)), some (.inl (.inl x2)), some (.inl (.inl x3))], [], I, L) := by
  intro F
  induction F with
  | zero => intro x2 x3 r h hx; cases h
  | succ F ih =>
    intro x2 x3 r h hx
    rw [d162_4] at h
    refine pn_go [4, 30] 400 ?_
    conv => whnf
    refine ⟨fun cz1 => ?_, fun cz1 => ?_⟩
    · replace h := (if_pos cz1).symm.trans h
      conv => whnf
      cases h
      exact hx _
    · replace h := (if_neg cz1).symm.trans h
      conv => whnf
      intro _
      conv => whnf
      exact ih _ _ r h hx
/-- X8_inLarder -/
noncomputable def d162 (a1 : Int32) (I : jI) : Option (Int32) :=
  (d162_4 a1 I 70 0 0).bind fun r1 =>
  some r1
set_option maxHeartbeats 4000000 in
set_option maxRecDepth 20000 in
theorem D162 {d : Nat} {k : jK} {a1 : Int32} {I : jI} {L : jL} {r : Int32} (h : d162 a1 I = some r) (hk : k (some (.inl (.inl r))) (I, L)) : jPM d 162 [.inr (31, 0), .inl (.inl a1)] (I, L) k := by
  refine pM (fun d n => ?_)
  unfold d162 at h
  refine pn_go [4] 400 ?_
  conv => whnf
  obtain ⟨r1, hz1, h⟩ := obind h
  refine L162_4 _ _ _ _ hz1 (fun e3_r1 => ?_)
  refine pn_go [4] 400 ?_
  conv => whnf
  cases h
  exact hk
/-- X8_keepPast, loop at 2 -/
noncomputable def d163_2 : Nat → Int32 → jI → Option (jI)
  | 0, _, _ => none
  | F + 1, x1, I =>
    if 28 ≤ x1 then
      some I
    else
      d163_2 F (x1 + 1) (jup I 32 0 (Int32.toNatClampNeg ((29 + (28 * (I 32 0 (Int32.toNatClampNeg 0)))) + x1)) (I 32 0 (Int32.toNatClampNeg (1 + x1))))
set_option maxHeartbeats 4000000 in
set_option maxRecDepth 20000 in
theorem L163_2 {d n : Nat} {k : jK} {L : jL} : ∀ (F : Nat) (x1 : Int32) (I : jI) (r : jI), d163_2 F x1 I = some r → (∀ (f1 : Option jV), pn (jPM d) k none (jco 163) n (41, [some (.inr (31, 0)), f1], [], r, L)) → pn (jPM d) k none (jco 163) n (2, [some (.inr (31, 0)), some (.inl (.inl x1))], [], I, L) := by
  intro F
  induction F with
  | zero => intro x1 I r h hx; cases h
  | succ F ih =>
    intro x1 I r h hx
    rw [d163_2] at h
    refine pn_go [2, 41] 400 ?_
    conv => whnf
    refine ⟨fun cz1 => ?_, fun cz1 => ?_⟩
    · replace h := (if_pos cz1).symm.trans h
      conv => whnf
      cases h
      exact hx _
    · replace h := (if_neg cz1).symm.trans h
      conv => whnf
      intro _
      conv => whnf
      intro _
      conv => whnf
      intro _
      conv => whnf
      exact ih _ _ r h hx
/-- X8_keepPast -/
noncomputable def d163 (I : jI) : Option (jI) :=
  (d163_2 70 0 I).bind fun r1 =>
  some (jup r1 32 0 (Int32.toNatClampNeg 0) ((r1 32 0 (Int32.toNatClampNeg 0)) + 1))
set_option maxHeartbeats 4000000 in
set_option maxRecDepth 20000 in
theorem D163 {d : Nat} {k : jK} {I : jI} {L : jL} {r : jI} (h : d163 I = some r) (hk : k none (r, L)) : jPM d 163 [.inr (31, 0)] (I, L) k := by
  refine pM (fun d n => ?_)
  unfold d163 at h
  refine pn_go [2] 400 ?_
  conv => whnf
  obtain ⟨r1, hz1, h⟩ := obind h
  refine L163_2 _ _ _ _ hz1 (fun e1_r1 => ?_)
  refine pn_go [2] 400 ?_
  conv => whnf
  intro _
  conv => whnf
  intro _
  conv => whnf
  cases h
  exact hk
/-- X8_hasRoom -/
noncomputable def d164 (a1 : Int32) (a2 : Int32) (a3 : Int32) (I : jI) : Option (Int32) :=
  (d162 a1 I).bind fun r1 =>
  if (I 31 0 2) < (r1 + (a3 * (d155 a1 a2 I))) then
    some 0
  else
    some 1
set_option maxHeartbeats 4000000 in
set_option maxRecDepth 20000 in
theorem D164 {d : Nat} {k : jK} {a1 : Int32} {a2 : Int32} {a3 : Int32} {I : jI} {L : jL} {r : Int32} (h : d164 a1 a2 a3 I = some r) (hk : k (some (.inl (.inl r))) (I, L)) : jPM d 164 [.inr (31, 0), .inl (.inl a1), .inl (.inl a2), .inl (.inl a3)] (I, L) k := by
  refine pM (fun d n => ?_)
  unfold d164 at h
  refine pn_go [] 400 ?_
  conv => whnf
  obtain ⟨r1, hz1, h⟩ := obind h
  refine D162 hz1 ?_
  conv => whnf
  refine D155 rfl ?_
  conv => whnf
  refine ⟨fun cz2 => ?_, fun cz2 => ?_⟩
  · replace h := (if_pos cz2).symm.trans h
    conv => whnf
    cases h
    exact fun _ => hk
  · replace h := (if_neg cz2).symm.trans h
    conv => whnf
    cases h
    exact fun _ => hk
/-- X8_buysAt -/
noncomputable def d165 (a1 : Int32) (a2 : Int32) (a3 : Int32) (I : jI) : Int32 × jI :=
  ((d153 a1 a2 a3 I), (jup (jup I 32 0 (Int32.toNatClampNeg (a1 + 2)) ((I 32 0 (Int32.toNatClampNeg (a1 + 2))) + (d153 a1 a2 a3 I))) 32 0 (Int32.toNatClampNeg ((a1 + 7) + (d156 a2 (jup I 32 0 (Int32.toNatClampNeg (a1 + 2)) ((I 32 0 (Int32.toNatClampNeg (a1 + 2))) + (d153 a1 a2 a3 I)))))) (((jup I 32 0 (Int32.toNatClampNeg (a1 + 2)) ((I 32 0 (Int32.toNatClampNeg (a1 + 2))) + (d153 a1 a2 a3 I))) 32 0 (Int32.toNatClampNeg ((a1 + 7) + (d156 a2 (jup I 32 0 (Int32.toNatClampNeg (a1 + 2)) ((I 32 0 (Int32.toNatClampNeg (a1 + 2))) + (d153 a1 a2 a3 I))))))) + (a3 * (d155 a1 a2 (jup I 32 0 (Int32.toNatClampNeg (a1 + 2)) ((I 32 0 (Int32.toNatClampNeg (a1 + 2))) + (d153 a1 a2 a3 I))))))))
set_option maxHeartbeats 4000000 in
set_option maxRecDepth 20000 in
theorem D165 {d : Nat} {k : jK} {a1 : Int32} {a2 : Int32} {a3 : Int32} {I : jI} {L : jL} {r : Int32 × jI} (h : d165 a1 a2 a3 I = r) (hk : k (some (.inl (.inl r.1))) (r.2, L)) : jPM d 165 [.inr (31, 0), .inl (.inl a1), .inl (.inl a2), .inl (.inl a3)] (I, L) k := by
  refine pM (fun d n => ?_)
  unfold d165 at h
  refine pn_go [] 400 ?_
  conv => whnf
  refine D153 rfl ?_
  conv => whnf
  intro _
  conv => whnf
  intro _
  conv => whnf
  refine D156 rfl ?_
  conv => whnf
  intro _
  conv => whnf
  refine D155 rfl ?_
  conv => whnf
  intro _
  conv => whnf
  subst h
  exact hk
/-- X8_buy -/
noncomputable def d166 (a1 : Int32) (a2 : Int32) (I : jI) : Option (Int32 × jI) :=
  if (d151 a1 I) = 0 then
    some ((-1), I)
  else
    if (d124 (Int32.toInt64 a2) 1 3 I) = 0 then
      some ((-1), I)
    else
      (d164 0 a1 a2 I).bind fun r1 =>
      if r1 = 0 then
        some ((-6), I)
      else
        if (I 32 0 (Int32.toNatClampNeg 0)) = 40 then
          some ((-2), I)
        else
          (d163 I).bind fun r2 =>
          some (((d165 0 a1 a2 r2).1), ((d165 0 a1 a2 r2).2))
set_option maxHeartbeats 4000000 in
set_option maxRecDepth 20000 in
theorem D166 {d : Nat} {k : jK} {a1 : Int32} {a2 : Int32} {I : jI} {L : jL} {r : Int32 × jI} (h : d166 a1 a2 I = some r) (hk : k (some (.inl (.inl r.1))) (r.2, L)) : jPM d 166 [.inr (31, 0), .inl (.inl a1), .inl (.inl a2)] (I, L) k := by
  refine pM (fun d n => ?_)
  unfold d166 at h
  refine pn_go [] 400 ?_
  conv => whnf
  refine D151 rfl ?_
  conv => whnf
  refine ⟨fun cz1 => ?_, fun cz1 => ?_⟩
  · replace h := (if_pos cz1).symm.trans h
    conv => whnf
    cases h
    exact hk
  · replace h := (if_neg cz1).symm.trans h
    conv => whnf
    refine D124 rfl ?_
    conv => whnf
    refine ⟨fun cz2 => ?_, fun cz2 => ?_⟩
    · replace h := (if_neg cz2).symm.trans h
      conv => whnf
      obtain ⟨r1, hz3, h⟩ := obind h
      refine D164 hz3 ?_
      conv => whnf
      refine ⟨fun cz4 => ?_, fun cz4 => ?_⟩
      · replace h := (if_neg cz4).symm.trans h
        conv => whnf
        intro _
        conv => whnf
        refine ⟨fun cz5 => ?_, fun cz5 => ?_⟩
        · replace h := (if_neg cz5).symm.trans h
          conv => whnf
          obtain ⟨r2, hz6, h⟩ := obind h
          refine D163 hz6 ?_
          conv => whnf
          refine D165 rfl ?_
          conv => whnf
          cases h
          exact hk
        · replace h := (if_pos cz5).symm.trans h
          conv => whnf
          cases h
          exact hk
      · replace h := (if_pos cz4).symm.trans h
        conv => whnf
        cases h
        exact hk
    · replace h := (if_pos cz2).symm.trans h
      conv => whnf
      cases h
      exact hk
