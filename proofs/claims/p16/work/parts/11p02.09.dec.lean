/-- X1_performLot -/
noncomputable def d47 (a0 : Nat) (a1 : Int64) (I : jI) : Option (jI) :=
  if (I 4 a0 6) = 0 then
    some I
  else
    if 1 < (Int64.toInt32 ((a1 / 8) - (a1 / 8) / 4 * 4)) then
      if (Int64.toInt32 ((a1 / 8) - (a1 / 8) / 4 * 4)) = 3 then
        if (d34 a0 (Int64.toInt32 (a1 - a1 / (Int32.toInt64 (I 4 a0 6)) * (Int32.toInt64 (I 4 a0 6)))) I) = 0 then
          (d44 a0 1 0 0 I).bind fun r2 =>
          some r2.2
        else
          (d44 a0 2 (Int64.toInt32 (a1 - a1 / (Int32.toInt64 (I 4 a0 6)) * (Int32.toInt64 (I 4 a0 6)))) 0 I).bind fun r3 =>
          some r3.2
      else
        (d44 a0 1 0 0 I).bind fun r1 =>
        some r1.2
    else
      (d33 a0 (Int64.toInt32 (a1 - a1 / (Int32.toInt64 (I 4 a0 6)) * (Int32.toInt64 (I 4 a0 6)))) 1 I).bind fun r4 =>
      if r4 = 0 then
        if (Int64.toInt32 ((a1 / 8) - (a1 / 8) / 4 * 4)) = 3 then
          if (d34 a0 (Int64.toInt32 (a1 - a1 / (Int32.toInt64 (I 4 a0 6)) * (Int32.toInt64 (I 4 a0 6)))) I) = 0 then
            (d44 a0 1 0 0 I).bind fun r6 =>
            some r6.2
          else
            (d44 a0 2 (Int64.toInt32 (a1 - a1 / (Int32.toInt64 (I 4 a0 6)) * (Int32.toInt64 (I 4 a0 6)))) 0 I).bind fun r7 =>
            some r7.2
        else
          (d44 a0 1 0 0 I).bind fun r5 =>
          some r5.2
      else
        (d44 a0 0 (Int64.toInt32 (a1 - a1 / (Int32.toInt64 (I 4 a0 6)) * (Int32.toInt64 (I 4 a0 6)))) 1 I).bind fun r8 =>
        some r8.2
set_option maxHeartbeats 4000000 in
set_option maxRecDepth 20000 in
theorem D47 {d : Nat} {k : jK} {a0 : Nat} {a1 : Int64} {I : jI} {L : jL} {r : jI} (h : d47 a0 a1 I = some r) (hk : k none (r, L)) : jPM d 47 [.inr (4, a0), .inl (.inr a1)] (I, L) k := by
  refine pM (fun d n => ?_)
  unfold d47 at h
  refine pn_go [] 400 ?_
  conv => whnf
  refine ⟨fun cz1 => ?_, fun cz1 => ?_⟩
  · replace h := (if_neg cz1).symm.trans h
    conv => whnf
    intro _
    conv => whnf
    intro _
    conv => whnf
    intro _
    conv => whnf
    refine ⟨fun cz2 => ?_, fun cz2 => ?_⟩
    · replace h := (if_pos cz2).symm.trans h
      conv => whnf
      refine ⟨fun cz3 => ?_, fun cz3 => ?_⟩
      · replace h := (if_neg cz3).symm.trans h
        conv => whnf
        obtain ⟨r1, hz4, h⟩ := obind h
        refine D44 hz4 ?_
        conv => whnf
        cases h
        exact hk
      · replace h := (if_pos cz3).symm.trans h
        conv => whnf
        refine D34 rfl ?_
        conv => whnf
        refine ⟨fun cz5 => ?_, fun cz5 => ?_⟩
        · replace h := (if_pos cz5).symm.trans h
          conv => whnf
          obtain ⟨r2, hz6, h⟩ := obind h
          refine D44 hz6 ?_
          conv => whnf
          cases h
          exact hk
        · replace h := (if_neg cz5).symm.trans h
          conv => whnf
          obtain ⟨r3, hz7, h⟩ := obind h
          refine D44 hz7 ?_
          conv => whnf
          cases h
          exact hk
    · replace h := (if_neg cz2).symm.trans h
      conv => whnf
      obtain ⟨r4, hz8, h⟩ := obind h
      refine D33 hz8 ?_
      conv => whnf
      refine ⟨fun cz9 => ?_, fun cz9 => ?_⟩
      · replace h := (if_pos cz9).symm.trans h
        conv => whnf
        refine ⟨fun cz10 => ?_, fun cz10 => ?_⟩
        · replace h := (if_neg cz10).symm.trans h
          conv => whnf
          obtain ⟨r5, hz11, h⟩ := obind h
          refine D44 hz11 ?_
          conv => whnf
          cases h
          exact hk
        · replace h := (if_pos cz10).symm.trans h
          conv => whnf
          refine D34 rfl ?_
          conv => whnf
          refine ⟨fun cz12 => ?_, fun cz12 => ?_⟩
          · replace h := (if_pos cz12).symm.trans h
            conv => whnf
            obtain ⟨r6, hz13, h⟩ := obind h
            refine D44 hz13 ?_
            conv => whnf
            cases h
            exact hk
          · replace h := (if_neg cz12).symm.trans h
            conv => whnf
            obtain ⟨r7, hz14, h⟩ := obind h
            refine D44 hz14 ?_
            conv => whnf
            cases h
            exact hk
      · replace h := (if_neg cz9).symm.trans h
        conv => whnf
        obtain ⟨r8, hz15, h⟩ := obind h
        refine D44 hz15 ?_
        conv => whnf
        cases h
        exact hk
  · replace h := (if_pos cz1).symm.trans h
    conv => whnf
    cases h
    exact hk
/-- X7_lots, loop at 60 -/
noncomputable def d105_60 (y1 : Int32) : Nat → Int64 → Int32 → jI → Option (jI)
  | 0, _, _, _ => none
  | F + 1, x3, x5, I =>
    if y1 ≤ x5 then
      some I
    else
      (d47 1 ((x3 * 48271) - (x3 * 48271) / 2147483647 * 2147483647) I).bind fun r1 =>
      d105_60 y1 F ((x3 * 48271) - (x3 * 48271) / 2147483647 * 2147483647) (x5 + 1) r1
set_option maxHeartbeats 4000000 in
set_option maxRecDepth 20000 in
theorem L105_60 {d n : Nat} {k : jK} {y1 : Int32} {L : jL} : ∀ (F : Nat) (x3 : Int64) (x5 : Int32) (I : jI) (e2 : Option jV) (r : jI), d105_60 y1 F x3 x5 I = some r → (∀ (f2 f3 f4 f5 : Option jV), pn (jPM d) k none (jco 105) n (90, [some (.inr (0, 0)), some (.inl (.inl y1)), f2, f3, f4, f5], [], r, L)) → pn (jPM d) k none (jco 105) n (60, [some (.inr (0, 0)), some (.inl (.inl y1)), e2, some (.inl (.inr x3)), none, some (.inl (.inl x5))], [], I, L) := by
  intro F
  induction F with
  | zero => intro x3 x5 I e2 r h hx; cases h
  | succ F ih =>
    intro x3 x5 I e2 r h hx
    rw [d105_60] at h
    refine pn_go [60, 90] 400 ?_
    conv => whnf
    refine ⟨fun cz1 => ?_, fun cz1 => ?_⟩
    · replace h := (if_pos cz1).symm.trans h
      conv => whnf
      cases h
      exact hx _ _ _ _
    · replace h := (if_neg cz1).symm.trans h
      conv => whnf
      intro _
      conv => whnf
      obtain ⟨r1, hz2, h⟩ := obind h
      refine D47 hz2 ?_
      conv => whnf
      exact ih _ _ _ _ r h hx
/-- X7_lots -/
noncomputable def d105 (a1 : Int32) (a2 : Int32) (I : jI) : Option (Int32 × jI) :=
  if a1 < 1 then
    some ((-1), I)
  else
    if 20 < a1 then
      some ((-1), I)
    else
      if a2 < 1 then
        some ((-1), I)
      else
        if (lg_cmp (Int32.toInt64 a2) 2147483647) < 0 then
          if (I 4 1 6) = 0 then
            some ((-4), I)
          else
            if (d32 1 a1 I) = 0 then
              some ((-2), I)
            else
              (d105_60 a1 70 (Int32.toInt64 a2) 0 I).bind fun r2 =>
              (d10 1 r2).bind fun r3 =>
              some (r3, r2)
        else
          some ((-1), I)
set_option maxHeartbeats 4000000 in
set_option maxRecDepth 20000 in
theorem D105 {d : Nat} {k : jK} {a1 : Int32} {a2 : Int32} {I : jI} {L : jL} {r : Int32 × jI} (h : d105 a1 a2 I = some r) (hk : k (some (.inl (.inl r.1))) (r.2, L)) : jPM d 105 [.inr (0, 0), .inl (.inl a1), .inl (.inl a2)] (I, L) k := by
  refine pM (fun d n => ?_)
  unfold d105 at h
  refine pn_go [60] 400 ?_
  conv => whnf
  refine ⟨fun cz1 => ?_, fun cz1 => ?_⟩
  · replace h := (if_pos cz1).symm.trans h
    conv => whnf
    cases h
    exact hk
  · replace h := (if_neg cz1).symm.trans h
    conv => whnf
    refine ⟨fun cz2 => ?_, fun cz2 => ?_⟩
    · replace h := (if_pos cz2).symm.trans h
      conv => whnf
      cases h
      exact hk
    · replace h := (if_neg cz2).symm.trans h
      conv => whnf
      refine ⟨fun cz3 => ?_, fun cz3 => ?_⟩
      · replace h := (if_pos cz3).symm.trans h
        conv => whnf
        cases h
        exact hk
      · replace h := (if_neg cz3).symm.trans h
        conv => whnf
        refine ⟨fun cz4 => ?_, fun cz4 => ?_⟩
        · replace h := (if_pos cz4).symm.trans h
          conv => whnf
          refine ⟨fun cz5 => ?_, fun cz5 => ?_⟩
          · replace h := (if_neg cz5).symm.trans h
            conv => whnf
            refine D32 rfl ?_
            conv => whnf
            refine ⟨fun cz6 => ?_, fun cz6 => ?_⟩
            · replace h := (if_neg cz6).symm.trans h
              conv => whnf
              obtain ⟨r2, hz7, h⟩ := obind h
              refine L105_60 _ _ _ _ _ _ hz7 (fun e2_r2 e3_r2 e4_r2 e5_r2 => ?_)
              refine pn_go [60] 400 ?_
              conv => whnf
              obtain ⟨r3, hz8, h⟩ := obind h
              refine D10 hz8 ?_
              conv => whnf
              cases h
              exact hk
            · replace h := (if_pos cz6).symm.trans h
              conv => whnf
              cases h
              exact hk
          · replace h := (if_pos cz5).symm.trans h
            conv => whnf
            cases h
            exact hk
        · replace h := (if_neg cz4).symm.trans h
          conv => whnf
          cases h
          exact hk
