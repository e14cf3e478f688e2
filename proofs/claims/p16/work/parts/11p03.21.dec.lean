/-- X8_lots, loop at 58 -/
noncomputable def d207_58 (y1 : Int32) : Nat → Int64 → Int32 → jI → Option (jI)
  | 0, _, _, _ => none
  | F + 1, x3, x5, I =>
    if y1 ≤ x5 then
      some I
    else
      (d163 I).bind fun r1 =>
      if 2 ≤ (Int64.toInt32 ((((x3 * 48271) - (x3 * 48271) / 2147483647 * 2147483647) / 8) - (((x3 * 48271) - (x3 * 48271) / 2147483647 * 2147483647) / 8) / 4 * 4)) then
        if (Int64.toInt32 ((((x3 * 48271) - (x3 * 48271) / 2147483647 * 2147483647) / 8) - (((x3 * 48271) - (x3 * 48271) / 2147483647 * 2147483647) / 8) / 4 * 4)) = 3 then
          if (r1 32 0 (Int32.toNatClampNeg (17 + (Int64.toInt32 (((x3 * 48271) - (x3 * 48271) / 2147483647 * 2147483647) - ((x3 * 48271) - (x3 * 48271) / 2147483647 * 2147483647) / (Int32.toInt64 (I 31 0 3)) * (Int32.toInt64 (I 31 0 3))))))) ≤ 1 then
            (d167 0 r1).bind fun r3 =>
            d207_58 y1 F ((x3 * 48271) - (x3 * 48271) / 2147483647 * 2147483647) (x5 + 1) r3.2
          else
            d207_58 y1 F ((x3 * 48271) - (x3 * 48271) / 2147483647 * 2147483647) (x5 + 1) (jup r1 32 0 (Int32.toNatClampNeg (17 + (Int64.toInt32 (((x3 * 48271) - (x3 * 48271) / 2147483647 * 2147483647) - ((x3 * 48271) - (x3 * 48271) / 2147483647 * 2147483647) / (Int32.toInt64 (I 31 0 3)) * (Int32.toInt64 (I 31 0 3)))))) ((r1 32 0 (Int32.toNatClampNeg (17 + (Int64.toInt32 (((x3 * 48271) - (x3 * 48271) / 2147483647 * 2147483647) - ((x3 * 48271) - (x3 * 48271) / 2147483647 * 2147483647) / (Int32.toInt64 (I 31 0 3)) * (Int32.toInt64 (I 31 0 3))))))) - 1))
        else
          (d167 0 r1).bind fun r2 =>
          d207_58 y1 F ((x3 * 48271) - (x3 * 48271) / 2147483647 * 2147483647) (x5 + 1) r2.2
      else
        (d164 0 (Int64.toInt32 (((x3 * 48271) - (x3 * 48271) / 2147483647 * 2147483647) - ((x3 * 48271) - (x3 * 48271) / 2147483647 * 2147483647) / (Int32.toInt64 (I 31 0 3)) * (Int32.toInt64 (I 31 0 3)))) 1 r1).bind fun r4 =>
        if r4 = 0 then
          if (Int64.toInt32 ((((x3 * 48271) - (x3 * 48271) / 2147483647 * 2147483647) / 8) - (((x3 * 48271) - (x3 * 48271) / 2147483647 * 2147483647) / 8) / 4 * 4)) = 3 then
            if (r1 32 0 (Int32.toNatClampNeg (17 + (Int64.toInt32 (((x3 * 48271) - (x3 * 48271) / 2147483647 * 2147483647) - ((x3 * 48271) - (x3 * 48271) / 2147483647 * 2147483647) / (Int32.toInt64 (I 31 0 3)) * (Int32.toInt64 (I 31 0 3))))))) ≤ 1 then
              (d167 0 r1).bind fun r6 =>
              d207_58 y1 F ((x3 * 48271) - (x3 * 48271) / 2147483647 * 2147483647) (x5 + 1) r6.2
            else
              d207_58 y1 F ((x3 * 48271) - (x3 * 48271) / 2147483647 * 2147483647) (x5 + 1) (jup r1 32 0 (Int32.toNatClampNeg (17 + (Int64.toInt32 (((x3 * 48271) - (x3 * 48271) / 2147483647 * 2147483647) - ((x3 * 48271) - (x3 * 48271) / 2147483647 * 2147483647) / (Int32.toInt64 (I 31 0 3)) * (Int32.toInt64 (I 31 0 3)))))) ((r1 32 0 (Int32.toNatClampNeg (17 + (Int64.toInt32 (((x3 * 48271) - (x3 * 48271) / 2147483647 * 2147483647) - ((x3 * 48271) - (x3 * 48271) / 2147483647 * 2147483647) / (Int32.toInt64 (I 31 0 3)) * (Int32.toInt64 (I 31 0 3))))))) - 1))
          else
            (d167 0 r1).bind fun r5 =>
            d207_58 y1 F ((x3 * 48271) - (x3 * 48271) / 2147483647 * 2147483647) (x5 + 1) r5.2
        else
          d207_58 y1 F ((x3 * 48271) - (x3 * 48271) / 2147483647 * 2147483647) (x5 + 1) ((d165 0 (Int64.toInt32 (((x3 * 48271) - (x3 * 48271) / 2147483647 * 2147483647) - ((x3 * 48271) - (x3 * 48271) / 2147483647 * 2147483647) / (Int32.toInt64 (I 31 0 3)) * (Int32.toInt64 (I 31 0 3)))) 1 r1).2)
set_option maxHeartbeats 4000000 in
set_option maxRecDepth 20000 in
theorem L207_58 {d n : Nat} {k : jK} {y1 : Int32} {L : jL} : ∀ (F : Nat) (x3 : Int64) (x5 : Int32) (I : jI) (e2 e6 e7 : Option jV) (r : jI), d207_58 y1 F x3 x5 I = some r → (∀ (f2 f3 f4 f5 f6 f7 : Option jV), pn (jPM d) k none (jco 207) n (178, [some (.inr (31, 0)), some (.inl (.inl y1)), f2, f3, f4, f5, f6, f7], [], r, L)) → pn (jPM d) k none (jco 207) n (58, [some (.inr (31, 0)), some (.inl (.inl y1)), e2, some (.inl (.inr x3)), none, some (.inl (.inl x5)), e6, e7], [], I, L) := by
  intro F
  induction F with
  | zero => intro x3 x5 I e2 e6 e7 r h hx; cases h
  | succ F ih =>
    intro x3 x5 I e2 e6 e7 r h hx
    rw [d207_58] at h
    refine pn_go [58, 178] 400 ?_
    conv => whnf
    refine ⟨fun cz1 => ?_, fun cz1 => ?_⟩
    · replace h := (if_pos cz1).symm.trans h
      conv => whnf
      cases h
      exact hx _ _ _ _ _ _
    · replace h := (if_neg cz1).symm.trans h
      conv => whnf
      intro _
      conv => whnf
      intro _
      conv => whnf
      intro _
      conv => whnf
      intro _
      conv => whnf
      obtain ⟨r1, hz2, h⟩ := obind h
      refine D163 hz2 ?_
      conv => whnf
      refine ⟨fun cz3 => ?_, fun cz3 => ?_⟩
      · replace h := (if_pos cz3).symm.trans h
        conv => whnf
        refine ⟨fun cz4 => ?_, fun cz4 => ?_⟩
        · replace h := (if_neg cz4).symm.trans h
          conv => whnf
          obtain ⟨r2, hz5, h⟩ := obind h
          refine D167 hz5 ?_
          conv => whnf
          exact ih _ _ _ _ _ _ r h hx
        · replace h := (if_pos cz4).symm.trans h
          conv => whnf
          intro _
          conv => whnf
          refine ⟨fun cz6 => ?_, fun cz6 => ?_⟩
          · replace h := (if_pos cz6).symm.trans h
            conv => whnf
            obtain ⟨r3, hz7, h⟩ := obind h
            refine D167 hz7 ?_
            conv => whnf
            exact ih _ _ _ _ _ _ r h hx
          · replace h := (if_neg cz6).symm.trans h
            conv => whnf
            intro _
            conv => whnf
            intro _
            conv => whnf
            exact ih _ _ _ _ _ _ r h hx
      · replace h := (if_neg cz3).symm.trans h
        conv => whnf
        obtain ⟨r4, hz8, h⟩ := obind h
        refine D164 hz8 ?_
        conv => whnf
        refine ⟨fun cz9 => ?_, fun cz9 => ?_⟩
        · replace h := (if_pos cz9).symm.trans h
          conv => whnf
          refine ⟨fun cz10 => ?_, fun cz10 => ?_⟩
          · replace h := (if_neg cz10).symm.trans h
            conv => whnf
            obtain ⟨r5, hz11, h⟩ := obind h
            refine D167 hz11 ?_
            conv => whnf
            exact ih _ _ _ _ _ _ r h hx
          · replace h := (if_pos cz10).symm.trans h
            conv => whnf
            intro _
            conv => whnf
            refine ⟨fun cz12 => ?_, fun cz12 => ?_⟩
            · replace h := (if_pos cz12).symm.trans h
              conv => whnf
              obtain ⟨r6, hz13, h⟩ := obind h
              refine D167 hz13 ?_
              conv => whnf
              exact ih _ _ _ _ _ _ r h hx
            · replace h := (if_neg cz12).symm.trans h
              conv => whnf
              intro _
              conv => whnf
              intro _
              conv => whnf
              exact ih _ _ _ _ _ _ r h hx
        · replace h := (if_neg cz9).symm.trans h
          conv => whnf
          refine D165 rfl ?_
          conv => whnf
          exact ih _ _ _ _ _ _ r h hx
/-- X8_lots -/
noncomputable def d207 (a1 : Int32) (a2 : Int32) (I : jI) : Option (Int32 × jI) :=
  if (d124 (Int32.toInt64 a1) 1 20 I) = 0 then
    some ((-1), I)
  else
    if (d124 (Int32.toInt64 a2) 1 2147483646 I) = 0 then
      some ((-1), I)
    else
      if (I 31 0 3) = 0 then
        some ((-4), I)
      else
        if ((I 32 0 (Int32.toNatClampNeg 0)) + a1) ≤ 40 then
          (d207_58 a1 70 (Int32.toInt64 a2) 0 I).bind fun r7 =>
          (d162 0 r7).bind fun r8 =>
          some (r8, r7)
        else
          some ((-2), I)
set_option maxHeartbeats 4000000 in
set_option maxRecDepth 20000 in
theorem D207 {d : Nat} {k : jK} {a1 : Int32} {a2 : Int32} {I : jI} {L : jL} {r : Int32 × jI} (h : d207 a1 a2 I = some r) (hk : k (some (.inl (.inl r.1))) (r.2, L)) : jPM d 207 [.inr (31, 0), .inl (.inl a1), .inl (.inl a2)] (I, L) k := by
  refine pM (fun d n => ?_)
  unfold d207 at h
  refine pn_go [58] 400 ?_
  conv => whnf
  refine D124 rfl ?_
  conv => whnf
  refine ⟨fun cz1 => ?_, fun cz1 => ?_⟩
  · replace h := (if_pos cz1).symm.trans h
    conv => whnf
    cases h
    exact hk
  · replace h := (if_neg cz1).symm.trans h
    conv => whnf
    refine D124 rfl ?_
    conv => whnf
    refine ⟨fun cz2 => ?_, fun cz2 => ?_⟩
    · replace h := (if_neg cz2).symm.trans h
      conv => whnf
      refine ⟨fun cz3 => ?_, fun cz3 => ?_⟩
      · replace h := (if_neg cz3).symm.trans h
        conv => whnf
        intro _
        conv => whnf
        refine ⟨fun cz4 => ?_, fun cz4 => ?_⟩
        · replace h := (if_pos cz4).symm.trans h
          conv => whnf
          obtain ⟨r7, hz5, h⟩ := obind h
          refine L207_58 _ _ _ _ _ _ _ _ hz5 (fun e2_r7 e3_r7 e4_r7 e5_r7 e6_r7 e7_r7 => ?_)
          refine pn_go [58] 400 ?_
          conv => whnf
          obtain ⟨r8, hz6, h⟩ := obind h
          refine D162 hz6 ?_
          conv => whnf
          cases h
          exact hk
        · replace h := (if_neg cz4).symm.trans h
          conv => whnf
          cases h
          exact hk
      · replace h := (if_pos cz3).symm.trans h
        conv => whnf
        cases h
        exact hk
    · replace h := (if_pos cz2).symm.trans h
      conv => whnf
      cases h
      exact hk
