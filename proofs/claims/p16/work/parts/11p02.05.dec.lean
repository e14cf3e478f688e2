/-- X7_week -/
noncomputable def d82 (I : jI) : Option (Int32 × jI) :=
  if (I 4 1 6) = 0 then
    some ((-4), I)
  else
    (d44 1 1 0 0 I).bind fun r1 =>
    some (r1.1, r1.2)
set_option maxHeartbeats 4000000 in
set_option maxRecDepth 20000 in
theorem D82 {d : Nat} {k : jK} {I : jI} {L : jL} {r : Int32 × jI} (h : d82 I = some r) (hk : k (some (.inl (.inl r.1))) (r.2, L)) : jPM d 82 [.inr (0, 0)] (I, L) k := by
  refine pM (fun d n => ?_)
  unfold d82 at h
  refine pn_go [] 400 ?_
  conv => whnf
  refine ⟨fun cz1 => ?_, fun cz1 => ?_⟩
  · replace h := (if_neg cz1).symm.trans h
    conv => whnf
    obtain ⟨r1, hz2, h⟩ := obind h
    refine D44 hz2 ?_
    conv => whnf
    cases h
    exact hk
  · replace h := (if_pos cz1).symm.trans h
    conv => whnf
    cases h
    exact hk
/-- X1_canShrink -/
noncomputable def d34 (a0 : Nat) (a1 : Int32) (I : jI) : Int32 :=
  if (I 19 a0 (Int32.toNatClampNeg a1)) ≤ 1 then
    0
  else
    1
set_option maxHeartbeats 4000000 in
set_option maxRecDepth 20000 in
theorem D34 {d : Nat} {k : jK} {a0 : Nat} {a1 : Int32} {I : jI} {L : jL} {r : Int32} (h : d34 a0 a1 I = r) (hk : k (some (.inl (.inl r))) (I, L)) : jPM d 34 [.inr (4, a0), .inl (.inl a1)] (I, L) k := by
  refine pM (fun d n => ?_)
  unfold d34 at h
  refine pn_go [] 400 ?_
  conv => whnf
  intro _
  conv => whnf
  refine ⟨fun cz1 => ?_, fun cz1 => ?_⟩
  · replace h := (if_pos cz1).symm.trans h
    conv => whnf
    subst h
    exact fun _ => hk
  · replace h := (if_neg cz1).symm.trans h
    conv => whnf
    subst h
    exact fun _ => hk
/-- X7_shrink -/
noncomputable def d83 (a1 : Int32) (I : jI) : Option (Int32 × jI) :=
  if (d31 1 a1 I) = 0 then
    some ((-1), I)
  else
    if (d34 1 a1 I) = 0 then
      some ((-4), I)
    else
      (d44 1 2 a1 0 I).bind fun r1 =>
      some (r1.1, r1.2)
set_option maxHeartbeats 4000000 in
set_option maxRecDepth 20000 in
theorem D83 {d : Nat} {k : jK} {a1 : Int32} {I : jI} {L : jL} {r : Int32 × jI} (h : d83 a1 I = some r) (hk : k (some (.inl (.inl r.1))) (r.2, L)) : jPM d 83 [.inr (0, 0), .inl (.inl a1)] (I, L) k := by
  refine pM (fun d n => ?_)
  unfold d83 at h
  refine pn_go [] 400 ?_
  conv => whnf
  refine D31 rfl ?_
  conv => whnf
  refine ⟨fun cz1 => ?_, fun cz1 => ?_⟩
  · replace h := (if_neg cz1).symm.trans h
    conv => whnf
    refine D34 rfl ?_
    conv => whnf
    refine ⟨fun cz2 => ?_, fun cz2 => ?_⟩
    · replace h := (if_neg cz2).symm.trans h
      conv => whnf
      obtain ⟨r1, hz3, h⟩ := obind h
      refine D44 hz3 ?_
      conv => whnf
      cases h
      exact hk
    · replace h := (if_pos cz2).symm.trans h
      conv => whnf
      cases h
      exact hk
  · replace h := (if_pos cz1).symm.trans h
    conv => whnf
    cases h
    exact hk
/-- X7_price -/
noncomputable def d84 (a1 : Int32) (a2 : Int32) (I : jI) : Option (Int32 × jI) :=
  if (d31 1 a1 I) = 0 then
    some ((-1), I)
  else
    if a2 < 0 then
      some ((-1), I)
    else
      if a2 ≤ 99 then
        if (I 20 1 (Int32.toNatClampNeg a1)) = a2 then
          some ((-4), I)
        else
          (d44 1 3 a1 a2 I).bind fun r1 =>
          some (r1.1, r1.2)
      else
        some ((-1), I)
set_option maxHeartbeats 4000000 in
set_option maxRecDepth 20000 in
theorem D84 {d : Nat} {k : jK} {a1 : Int32} {a2 : Int32} {I : jI} {L : jL} {r : Int32 × jI} (h : d84 a1 a2 I = some r) (hk : k (some (.inl (.inl r.1))) (r.2, L)) : jPM d 84 [.inr (0, 0), .inl (.inl a1), .inl (.inl a2)] (I, L) k := by
  refine pM (fun d n => ?_)
  unfold d84 at h
  refine pn_go [] 400 ?_
  conv => whnf
  refine D31 rfl ?_
  conv => whnf
  refine ⟨fun cz1 => ?_, fun cz1 => ?_⟩
  · replace h := (if_pos cz1).symm.trans h
    conv => whnf
    cases h
    exact hk
  · replace h := (if_neg cz1).symm.trans h
    conv => whnf
    refine ⟨fun cz2 => ?_, fun cz2 => ?_⟩
    · replace h := (if_pos cz2).symm.trans h
      conv => whnf
      cases h
      exact hk
    · replace h := (if_neg cz2).symm.trans h
      conv => whnf
      refine ⟨fun cz3 => ?_, fun cz3 => ?_⟩
      · replace h := (if_pos cz3).symm.trans h
        conv => whnf
        intro _
        conv => whnf
        refine ⟨fun cz4 => ?_, fun cz4 => ?_⟩
        · replace h := (if_neg cz4).symm.trans h
          conv => whnf
          obtain ⟨r1, hz5, h⟩ := obind h
          refine D44 hz5 ?_
          conv => whnf
          cases h
          exact hk
        · replace h := (if_pos cz4).symm.trans h
          conv => whnf
          cases h
          exact hk
      · replace h := (if_neg cz3).symm.trans h
        conv => whnf
        cases h
        exact hk
/-- X7_card -/
noncomputable def d85 (a1 : Int32) (I : jI) : Option (Int32 × jI) :=
  if a1 = 0 then
    if (I 4 1 6) = 0 then
      some ((-4), I)
    else
      if a1 = 1 then
        if (I 4 1 14) = 1 then
          some ((-4), I)
        else
          (d44 1 4 0 a1 I).bind fun r2 =>
          some (r2.1, r2.2)
      else
        if (I 4 1 14) = 0 then
          some ((-4), I)
        else
          (d44 1 4 0 a1 I).bind fun r1 =>
          some (r1.1, r1.2)
  else
    if a1 = 1 then
      if (I 4 1 6) = 0 then
        some ((-4), I)
      else
        if a1 = 1 then
          if (I 4 1 14) = 1 then
            some ((-4), I)
          else
            (d44 1 4 0 a1 I).bind fun r4 =>
            some (r4.1, r4.2)
        else
          if (I 4 1 14) = 0 then
            some ((-4), I)
          else
            (d44 1 4 0 a1 I).bind fun r3 =>
            some (r3.1, r3.2)
    else
      some ((-1), I)
set_option maxHeartbeats 4000000 in
set_option maxRecDepth 20000 in
theorem D85 {d : Nat} {k : jK} {a1 : Int32} {I : jI} {L : jL} {r : Int32 × jI} (h : d85 a1 I = some r) (hk : k (some (.inl (.inl r.1))) (r.2, L)) : jPM d 85 [.inr (0, 0), .inl (.inl a1)] (I, L) k := by
  refine pM (fun d n => ?_)
  unfold d85 at h
  refine pn_go [] 400 ?_
  conv => whnf
  refine ⟨fun cz1 => ?_, fun cz1 => ?_⟩
  · replace h := (if_pos cz1).symm.trans h
    conv => whnf
    refine ⟨fun cz2 => ?_, fun cz2 => ?_⟩
    · replace h := (if_pos cz2).symm.trans h
      conv => whnf
      cases h
      exact hk
    · replace h := (if_neg cz2).symm.trans h
      conv => whnf
      refine ⟨fun cz3 => ?_, fun cz3 => ?_⟩
      · replace h := (if_neg cz3).symm.trans h
        conv => whnf
        refine ⟨fun cz4 => ?_, fun cz4 => ?_⟩
        · replace h := (if_neg cz4).symm.trans h
          conv => whnf
          obtain ⟨r1, hz5, h⟩ := obind h
          refine D44 hz5 ?_
          conv => whnf
          cases h
          exact hk
        · replace h := (if_pos cz4).symm.trans h
          conv => whnf
          cases h
          exact hk
      · replace h := (if_pos cz3).symm.trans h
        conv => whnf
        refine ⟨fun cz6 => ?_, fun cz6 => ?_⟩
        · replace h := (if_neg cz6).symm.trans h
          conv => whnf
          obtain ⟨r2, hz7, h⟩ := obind h
          refine D44 hz7 ?_
          conv => whnf
          cases h
          exact hk
        · replace h := (if_pos cz6).symm.trans h
          conv => whnf
          cases h
          exact hk
  · replace h := (if_neg cz1).symm.trans h
    conv => whnf
    refine ⟨fun cz8 => ?_, fun cz8 => ?_⟩
    · replace h := (if_pos cz8).symm.trans h
      conv => whnf
      refine ⟨fun cz9 => ?_, fun cz9 => ?_⟩
      · replace h := (if_pos cz9).symm.trans h
        conv => whnf
        cases h
        exact hk
      · replace h := (if_neg cz9).symm.trans h
        conv => whnf
        refine ⟨fun cz10 => ?_, fun cz10 => ?_⟩
        · replace h := (if_neg cz10).symm.trans h
          conv => whnf
          refine ⟨fun cz11 => ?_, fun cz11 => ?_⟩
          · replace h := (if_neg cz11).symm.trans h
            conv => whnf
            obtain ⟨r3, hz12, h⟩ := obind h
            refine D44 hz12 ?_
            conv => whnf
            cases h
            exact hk
          · replace h := (if_pos cz11).symm.trans h
            conv => whnf
            cases h
            exact hk
        · replace h := (if_pos cz10).symm.trans h
          conv => whnf
          refine ⟨fun cz13 => ?_, fun cz13 => ?_⟩
          · replace h := (if_neg cz13).symm.trans h
            conv => whnf
            obtain ⟨r4, hz14, h⟩ := obind h
            refine D44 hz14 ?_
            conv => whnf
            cases h
            exact hk
          · replace h := (if_pos cz13).symm.trans h
            conv => whnf
            cases h
            exact hk
    · replace h := (if_neg cz8).symm.trans h
      conv => whnf
      cases h
      exact hk
/-- X1_doAgain, loop at 7 -/
noncomputable def d30_7 (y0 : Nat) (y2 : Int32) : Nat → Int32 → jI → Option (jI)
  | 0, _, _ => none
  | F + 1, x3, I =>
    if y2 ≤ x3 then
      some I
    else
      if 40 ≤ x3 then
        some I
      else
        (d44 y0 ((I 22 y0 (Int32.toNatClampNeg x3)) / 1000) (((I 22 y0 (Int32.toNatClampNeg x3)) / 100) - ((I 22 y0 (Int32.toNatClampNeg x3)) / 100) / 10 * 10) ((I 22 y0 (Int32.toNatClampNeg x3)) - (I 22 y0 (Int32.toNatClampNeg x3)) / 100 * 100) I).bind fun r1 =>
        d30_7 y0 y2 F (x3 + 1) r1.2
set_option maxHeartbeats 4000000 in
set_option maxRecDepth 20000 in
theorem L30_7 {d n : Nat} {k : jK} {y0 : Nat} {y2 : Int32} {L : jL} : ∀ (F : Nat) (x3 : Int32) (I : jI) (e1 : Option jV) (r : jI), d30_7 y0 y2 F x3 I = some r → (∀ (f1 f3 : Option jV), pn (jPM d) k none (jco 30) n (60, [some (.inr (4, y0)), f1, some (.inl (.inl y2)), f3], [], r, L)) → pn (jPM d) k none (jco 30) n (7, [some (.inr (4, y0)), e1, some (.inl (.inl y2)), some (.inl (.inl x3))], [], I, L) := by
  intro F
  induction F with
  | zero => intro x3 I e1 r h hx; cases h
  | succ F ih =>
    intro x3 I e1 r h hx
    rw [d30_7] at h
    refine pn_go [7, 60] 400 ?_
    conv => whnf
    refine ⟨fun cz1 => ?_, fun cz1 => ?_⟩
    · replace h := (if_pos cz1).symm.trans h
      conv => whnf
      cases h
      exact hx _ _
    · replace h := (if_neg cz1).symm.trans h
      conv => whnf
      refine ⟨fun cz2 => ?_, fun cz2 => ?_⟩
      · replace h := (if_pos cz2).symm.trans h
        conv => whnf
        cases h
        exact hx _ _
      · replace h := (if_neg cz2).symm.trans h
        conv => whnf
        intro _
        conv => whnf
        intro _
        conv => whnf
        intro _
        conv => whnf
        intro _
        conv => whnf
        intro _
        conv => whnf
        intro _
        conv => whnf
        intro _
        conv => whnf
        obtain ⟨r1, hz3, h⟩ := obind h
        refine D44 hz3 ?_
        conv => whnf
        exact ih _ _ _ r h hx
/-- X1_doAgain -/
noncomputable def d30 (a0 : Nat) (a1 : Nat) (a2 : Int32) (I : jI) : Option (jI) :=
  (d30_7 a0 a2 70 0 (d29 a0 a1 I)).bind fun r2 =>
  some r2
set_option maxHeartbeats 4000000 in
set_option maxRecDepth 20000 in
theorem D30 {d : Nat} {k : jK} {a0 : Nat} {a1 : Nat} {a2 : Int32} {I : jI} {L : jL} {r : jI} (h : d30 a0 a1 a2 I = some r) (hk : k none (r, L)) : jPM d 30 [.inr (4, a0), .inr (4, a1), .inl (.inl a2)] (I, L) k := by
  refine pM (fun d n => ?_)
  unfold d30 at h
  refine pn_go [7] 400 ?_
  conv => whnf
  refine D29 rfl ?_
  conv => whnf
  obtain ⟨r2, hz1, h⟩ := obind h
  refine L30_7 _ _ _ _ _ hz1 (fun e1_r2 e3_r2 => ?_)
  refine pn_go [7] 400 ?_
  conv => whnf
  cases h
  exact hk
/-- X7_undo -/
noncomputable def d86 (a1 : Int32) (I : jI) : Option (Int32 × jI) :=
  if a1 < 0 then
    some ((-1), I)
  else
    if a1 < (I 4 1 15) then
      (d30 1 0 a1 I).bind fun r1 =>
      some (((I 4 1 15) - a1), r1)
    else
      some ((-1), I)
set_option maxHeartbeats 4000000 in
set_option maxRecDepth 20000 in
theorem D86 {d : Nat} {k : jK} {a1 : Int32} {I : jI} {L : jL} {r : Int32 × jI} (h : d86 a1 I = some r) (hk : k (some (.inl (.inl r.1))) (r.2, L)) : jPM d 86 [.inr (0, 0), .inl (.inl a1)] (I, L) k := by
  refine pM (fun d n => ?_)
  unfold d86 at h
  refine pn_go [] 400 ?_
  conv => whnf
  refine ⟨fun cz1 => ?_, fun cz1 => ?_⟩
  · replace h := (if_pos cz1).symm.trans h
    conv => whnf
    cases h
    exact hk
  · replace h := (if_neg cz1).symm.trans h
    conv => whnf
    refine ⟨fun cz2 => ?_, fun cz2 => ?_⟩
    · replace h := (if_pos cz2).symm.trans h
      conv => whnf
      obtain ⟨r1, hz3, h⟩ := obind h
      refine D30 hz3 ?_
      conv => whnf
      cases h
      exact hk
    · replace h := (if_neg cz2).symm.trans h
      conv => whnf
      cases h
      exact hk
/-- X7_keep -/
noncomputable def d87 (a1 : Int32) (I : jI) : Option (Int32 × jI) :=
  if a1 < 0 then
    some ((-1), I)
  else
    if a1 < 3 then
      if (I 4 1 6) = 0 then
        some ((-4), I)
      else
        (d28 (2 + (Int32.toNatClampNeg a1)) 1 I).bind fun r1 =>
        some (((jup r1 6 0 (Int32.toNatClampNeg a1) (vp_nar .boolean 1)) 4 1 15), (jup r1 6 0 (Int32.toNatClampNeg a1) (vp_nar .boolean 1)))
    else
      some ((-1), I)
set_option maxHeartbeats 4000000 in
set_option maxRecDepth 20000 in
theorem D87 {d : Nat} {k : jK} {a1 : Int32} {I : jI} {L : jL} {r : Int32 × jI} (h : d87 a1 I = some r) (hk : k (some (.inl (.inl r.1))) (r.2, L)) : jPM d 87 [.inr (0, 0), .inl (.inl a1)] (I, L) k := by
  refine pM (fun d n => ?_)
  unfold d87 at h
  refine pn_go [] 400 ?_
  conv => whnf
  refine ⟨fun cz1 => ?_, fun cz1 => ?_⟩
  · replace h := (if_pos cz1).symm.trans h
    conv => whnf
    cases h
    exact hk
  · replace h := (if_neg cz1).symm.trans h
    conv => whnf
    refine ⟨fun cz2 => ?_, fun cz2 => ?_⟩
    · replace h := (if_pos cz2).symm.trans h
      conv => whnf
      refine ⟨fun cz3 => ?_, fun cz3 => ?_⟩
      · replace h := (if_neg cz3).symm.trans h
        conv => whnf
        intro _
        conv => whnf
        obtain ⟨r1, hz4, h⟩ := obind h
        refine D28 hz4 ?_
        conv => whnf
        intro _
        conv => whnf
        cases h
        exact hk
      · replace h := (if_pos cz3).symm.trans h
        conv => whnf
        cases h
        exact hk
    · replace h := (if_neg cz2).symm.trans h
      conv => whnf
      cases h
      exact hk
/-- X7_on -/
noncomputable def d88 (a1 : Int32) (I : jI) : Option (Int32 × jI) :=
  if a1 < 0 then
    some ((-1), I)
  else
    if a1 < 3 then
      if (I 6 0 (Int32.toNatClampNeg a1)) = 0 then
        some (((d113 1 I).1), ((d113 1 I).2))
      else
        (d28 1 (2 + (Int32.toNatClampNeg a1)) I).bind fun r1 =>
        some ((r1 4 1 15), r1)
    else
      some ((-1), I)
set_option maxHeartbeats 4000000 in
set_option maxRecDepth 20000 in
theorem D88 {d : Nat} {k : jK} {a1 : Int32} {I : jI} {L : jL} {r : Int32 × jI} (h : d88 a1 I = some r) (hk : k (some (.inl (.inl r.1))) (r.2, L)) : jPM d 88 [.inr (0, 0), .inl (.inl a1)] (I, L) k := by
  refine pM (fun d n => ?_)
  unfold d88 at h
  refine pn_go [] 400 ?_
  conv => whnf
  refine ⟨fun cz1 => ?_, fun cz1 => ?_⟩
  · replace h := (if_pos cz1).symm.trans h
    conv => whnf
    cases h
    exact hk
  · replace h := (if_neg cz1).symm.trans h
    conv => whnf
    refine ⟨fun cz2 => ?_, fun cz2 => ?_⟩
    · replace h := (if_pos cz2).symm.trans h
      conv => whnf
      intro _
      conv => whnf
      refine ⟨fun cz3 => ?_, fun cz3 => ?_⟩
      · replace h := (if_neg cz3).symm.trans h
        conv => whnf
        intro _
        conv => whnf
        obtain ⟨r1, hz4, h⟩ := obind h
        refine D28 hz4 ?_
        conv => whnf
        cases h
        exact hk
      · replace h := (if_pos cz3).symm.trans h
        conv => whnf
        refine D113 rfl ?_
        conv => whnf
        cases h
        exact hk
    · replace h := (if_neg cz2).symm.trans h
      conv => whnf
      cases h
      exact hk
