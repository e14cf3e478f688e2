/-- X7_prices, loop at 50 -/
def d100_50 (y1 : Int32) (y2 : Int32) (I : jI) : Nat → Int32 → Int32 → Int32 → Option (Int32 × Int32)
  | 0, _, _, _ => none
  | F + 1, x4, x5, x6 =>
    if 99 < x6 then
      some (x4, x5)
    else
      (d119 y2 (I 18 1 (Int32.toNatClampNeg y1)) x6 I).bind fun r2 =>
      if r2 = 0 then
        d100_50 y1 y2 I F x4 x5 (x6 + 1)
      else
        if x5 = (-9) then
          d100_50 y1 y2 I F (x4 + 1) x6 (x6 + 1)
        else
          d100_50 y1 y2 I F (x4 + 1) x5 (x6 + 1)
set_option maxHeartbeats 4000000 in
set_option maxRecDepth 20000 in
theorem L100_50 {d n : Nat} {k : jK} {y1 : Int32} {y2 : Int32} {I : jI} {L : jL} : ∀ (F : Nat) (x4 : Int32) (x5 : Int32) (x6 : Int32) (e3 : Option jV) (r : Int32 × Int32), d100_50 y1 y2 I F x4 x5 x6 = some r → (∀ (f3 f6 : Option jV), pn (jPM d) k none (jco 100) n (101, [some (.inr (0, 0)), some (.inl (.inl y1)), some (.inl (.inl y2)), f3, some (.inl (.inl r.1)), some (.inl (.inl r.2)), f6], [], I, L)) → pn (jPM d) k none (jco 100) n (50, [some (.inr (0, 0)), some (.inl (.inl y1)), some (.inl (.inl y2)), e3, some (.inl (.inl x4)), some (.inl (.inl x5)), some (.inl (.inl x6))], [], I, L) := by
  intro F
  induction F with
  | zero => intro x4 x5 x6 e3 r h hx; cases h
  | succ F ih =>
    intro x4 x5 x6 e3 r h hx
    rw [d100_50] at h
    refine pn_go [50, 101] 400 ?_
    conv => whnf
    refine ⟨fun cz1 => ?_, fun cz1 => ?_⟩
    · replace h := (if_pos cz1).symm.trans h
      conv => whnf
      cases h
      exact hx _ _
    · replace h := (if_neg cz1).symm.trans h
      conv => whnf
      intro _
      conv => whnf
      obtain ⟨r2, hz2, h⟩ := obind h
      refine D119 hz2 ?_
      conv => whnf
      refine ⟨fun cz3 => ?_, fun cz3 => ?_⟩
      · replace h := (if_pos cz3).symm.trans h
        conv => whnf
        exact ih _ _ _ _ r h hx
      · replace h := (if_neg cz3).symm.trans h
        conv => whnf
        refine ⟨fun cz4 => ?_, fun cz4 => ?_⟩
        · replace h := (if_neg cz4).symm.trans h
          conv => whnf
          exact ih _ _ _ _ r h hx
        · replace h := (if_pos cz4).symm.trans h
          conv => whnf
          exact ih _ _ _ _ r h hx
/-- X7_prices -/
def d100 (a1 : Int32) (a2 : Int32) (I : jI) : Option (Int32 × jI) :=
  if (d31 1 a1 I) = 0 then
    some ((-1), I)
  else
    if (d15g1 a2 I) = 0 then
      some ((-1), I)
    else
      (d118 a2 I).bind fun r1 =>
      if r1 = 0 then
        (d100_50 a1 a2 I 120 0 (-9) 0).bind fun r3 =>
        some (r3.1, (jup I 0 0 14 r3.2))
      else
        some (((d113 r1 I).1), ((d113 r1 I).2))
set_option maxHeartbeats 4000000 in
set_option maxRecDepth 20000 in
theorem D100 {d : Nat} {k : jK} {a1 : Int32} {a2 : Int32} {I : jI} {L : jL} {r : Int32 × jI} (h : d100 a1 a2 I = some r) (hk : k (some (.inl (.inl r.1))) (r.2, L)) : jPM d 100 [.inr (0, 0), .inl (.inl a1), .inl (.inl a2)] (I, L) k := by
  refine pM (fun d n => ?_)
  unfold d100 at h
  refine pn_go [50] 400 ?_
  conv => whnf
  refine D31 rfl ?_
  conv => whnf
  refine ⟨fun cz1 => ?_, fun cz1 => ?_⟩
  · replace h := (if_pos cz1).symm.trans h
    conv => whnf
    cases h
    exact hk
  · replace h := (if_neg cz1).symm.trans h
    conv => whnf
    refine D15g1 rfl ?_
    conv => whnf
    refine ⟨fun cz2 => ?_, fun cz2 => ?_⟩
    · replace h := (if_neg cz2).symm.trans h
      conv => whnf
      obtain ⟨r1, hz3, h⟩ := obind h
      refine D118 hz3 ?_
      conv => whnf
      refine ⟨fun cz4 => ?_, fun cz4 => ?_⟩
      · replace h := (if_pos cz4).symm.trans h
        conv => whnf
        obtain ⟨r3, hz5, h⟩ := obind h
        refine L100_50 _ _ _ _ _ _ hz5 (fun e3_r3 e6_r3 => ?_)
        refine pn_go [50] 400 ?_
        conv => whnf
        cases h
        exact hk
      · replace h := (if_neg cz4).symm.trans h
        conv => whnf
        refine D113 rfl ?_
        conv => whnf
        cases h
        exact hk
    · replace h := (if_pos cz2).symm.trans h
      conv => whnf
      cases h
      exact hk
/-- X7_grams, loop at 41 -/
def d101_41 (y1 : Int32) (y2 : Int32) (y3 : Int32) (I : jI) : Nat → Int32 → Int32 → Option (Int32)
  | 0, _, _ => none
  | F + 1, x4, x5 =>
    if 9 < x5 then
      some x4
    else
      if (y2 * (d7 (I 18 1 (Int32.toNatClampNeg y1)) x5 I)) = y3 then
        d101_41 y1 y2 y3 I F (x4 ||| (1 <<< (x5 &&& 31))) (x5 + 1)
      else
        d101_41 y1 y2 y3 I F x4 (x5 + 1)
set_option maxHeartbeats 4000000 in
set_option maxRecDepth 20000 in
theorem L101_41 {d n : Nat} {k : jK} {y1 : Int32} {y2 : Int32} {y3 : Int32} {I : jI} {L : jL} : ∀ (F : Nat) (x4 : Int32) (x5 : Int32) (r : Int32), d101_41 y1 y2 y3 I F x4 x5 = some r → (∀ (f5 : Option jV), pn (jPM d) k none (jco 101) n (83, [some (.inr (0, 0)), some (.inl (.inl y1)), some (.inl (.inl y2)), some (.inl (.inl y3)), some (.inl (.inl r)), f5], [], I, L)) → pn (jPM d) k none (jco 101) n (41, [some (.inr (0, 0)), some (.inl (.inl y1)), some (.inl (.inl y2)), some (.inl (.inl y3)), some (.inl (.inl x4)), some (.inl (.inl x5))], [], I, L) := by
  intro F
  induction F with
  | zero => intro x4 x5 r h hx; cases h
  | succ F ih =>
    intro x4 x5 r h hx
    rw [d101_41] at h
    refine pn_go [41, 83] 400 ?_
    conv => whnf
    refine ⟨fun cz1 => ?_, fun cz1 => ?_⟩
    · replace h := (if_pos cz1).symm.trans h
      conv => whnf
      cases h
      exact hx _
    · replace h := (if_neg cz1).symm.trans h
      conv => whnf
      intro _
      conv => whnf
      refine D7 rfl ?_
      conv => whnf
      refine ⟨fun cz2 => ?_, fun cz2 => ?_⟩
      · replace h := (if_neg cz2).symm.trans h
        conv => whnf
        exact ih _ _ r h hx
      · replace h := (if_pos cz2).symm.trans h
        conv => whnf
        exact ih _ _ r h hx
/-- X7_grams -/
def d101 (a1 : Int32) (a2 : Int32) (a3 : Int32) (I : jI) : Option (Int32) :=
  if (d31 1 a1 I) = 0 then
    some (-1)
  else
    if a2 < 1 then
      some (-1)
    else
      if 40 < a2 then
        some (-1)
      else
        if a3 < 0 then
          some (-1)
        else
          if a3 ≤ 360 then
            (d101_41 a1 a2 a3 I 70 0 1).bind fun r1 =>
            some r1
          else
            some (-1)
set_option maxHeartbeats 4000000 in
set_option maxRecDepth 20000 in
theorem D101 {d : Nat} {k : jK} {a1 : Int32} {a2 : Int32} {a3 : Int32} {I : jI} {L : jL} {r : Int32} (h : d101 a1 a2 a3 I = some r) (hk : k (some (.inl (.inl r))) (I, L)) : jPM d 101 [.inr (0, 0), .inl (.inl a1), .inl (.inl a2), .inl (.inl a3)] (I, L) k := by
  refine pM (fun d n => ?_)
  unfold d101 at h
  refine pn_go [41] 400 ?_
  conv => whnf
  refine D31 rfl ?_
  conv => whnf
  refine ⟨fun cz1 => ?_, fun cz1 => ?_⟩
  · replace h := (if_pos cz1).symm.trans h
    conv => whnf
    cases h
    exact hk
  · replace h := (if_neg cz1).symm.trans h
    conv => whnf
    refine ⟨fun cz2 => ?_, fun cz2 => ?_⟩
    · replace h := (if_pos cz2).symm.trans h
      conv => whnf
      cases h
      exact hk
    · replace h := (if_neg cz2).symm.trans h
      conv => whnf
      refine ⟨fun cz3 => ?_, fun cz3 => ?_⟩
      · replace h := (if_pos cz3).symm.trans h
        conv => whnf
        cases h
        exact hk
      · replace h := (if_neg cz3).symm.trans h
        conv => whnf
        refine ⟨fun cz4 => ?_, fun cz4 => ?_⟩
        · replace h := (if_pos cz4).symm.trans h
          conv => whnf
          cases h
          exact hk
        · replace h := (if_neg cz4).symm.trans h
          conv => whnf
          refine ⟨fun cz5 => ?_, fun cz5 => ?_⟩
          · replace h := (if_pos cz5).symm.trans h
            conv => whnf
            obtain ⟨r1, hz6, h⟩ := obind h
            refine L101_41 _ _ _ _ hz6 (fun e5_r1 => ?_)
            refine pn_go [41] 400 ?_
            conv => whnf
            cases h
            exact hk
          · replace h := (if_neg cz5).symm.trans h
            conv => whnf
            cases h
            exact hk
/-- X7_shop, loop at 26 -/
def d102_26 (y1 : Int32) : Nat → Int32 → jI → Option (jI)
  | 0, _, _ => none
  | F + 1, x2, I =>
    if (I 4 1 6) ≤ x2 then
      some I
    else
      d102_26 y1 F (x2 + 1) (jup I 10 0 (Int32.toNatClampNeg x2) (I 20 1 (Int32.toNatClampNeg x2)))
set_option maxHeartbeats 4000000 in
set_option maxRecDepth 20000 in
theorem L102_26 {d n : Nat} {k : jK} {y1 : Int32} {L : jL} : ∀ (F : Nat) (x2 : Int32) (I : jI) (r : jI), d102_26 y1 F x2 I = some r → (∀ (f2 : Option jV), pn (jPM d) k none (jco 102) n (58, [some (.inr (0, 0)), some (.inl (.inl y1)), f2], [], r, L)) → pn (jPM d) k none (jco 102) n (26, [some (.inr (0, 0)), some (.inl (.inl y1)), some (.inl (.inl x2))], [], I, L) := by
  intro F
  induction F with
  | zero => intro x2 I r h hx; cases h
  | succ F ih =>
    intro x2 I r h hx
    rw [d102_26] at h
    refine pn_go [26, 58] 400 ?_
    conv => whnf
    refine ⟨fun cz1 => ?_, fun cz1 => ?_⟩
    · replace h := (if_pos cz1).symm.trans h
      conv => whnf
      cases h
      exact hx _
    · replace h := (if_neg cz1).symm.trans h
      conv => whnf
      intro _
      conv => whnf
      intro _
      conv => whnf
      exact ih _ _ r h hx
/-- X7_shop -/
def d102 (a1 : Int32) (I : jI) : Option (Int32 × jI) :=
  if a1 < 0 then
    some ((-1), I)
  else
    if a1 ≤ 2 then
      if (I 4 1 6) = 0 then
        some ((-4), I)
      else
        (d102_26 a1 70 0 I).bind fun r1 =>
        (d120r 4 1 a1 r1).bind fun r2 =>
        some (1, (jup r2.2 0 0 14 r2.1))
    else
      some ((-1), I)
set_option maxHeartbeats 4000000 in
set_option maxRecDepth 20000 in
theorem D102 {d : Nat} {k : jK} {a1 : Int32} {I : jI} {L : jL} {r : Int32 × jI} (h : d102 a1 I = some r) (hk : k (some (.inl (.inl r.1))) (r.2, L)) : jPM d 102 [.inr (0, 0), .inl (.inl a1)] (I, L) k := by
  refine pM (fun d n => ?_)
  unfold d102 at h
  refine pn_go [26] 400 ?_
  conv => whnf
  refine ⟨fun cz1 => ?_, fun cz1 => ?_⟩
  · replace h := (if_pos cz1).symm.trans h
    conv => whnf
    cases h
    exact hk
  · replace h := (if_neg cz1).symm.trans h
    conv => whnf
    refine ⟨fun cz2 => ?_, fun cz2 => ?_⟩
    · replace h := (if_pos cz2).symm.trans h
      conv => whnf
      refine ⟨fun cz3 => ?_, fun cz3 => ?_⟩
      · replace h := (if_neg cz3).symm.trans h
        conv => whnf
        obtain ⟨r1, hz4, h⟩ := obind h
        refine L102_26 _ _ _ _ hz4 (fun e2_r1 => ?_)
        refine pn_go [26] 400 ?_
        conv => whnf
        obtain ⟨r2, hz5, h⟩ := obind h
        refine D120r 4 hz5 ?_
        conv => whnf
        cases h
        exact hk
      · replace h := (if_pos cz3).symm.trans h
        conv => whnf
        cases h
        exact hk
    · replace h := (if_neg cz2).symm.trans h
      conv => whnf
      cases h
      exact hk
/-- J7_fill_d0a16, loop at 6 -/
def d1g11_6 (y1 : Int64) (y4 : Int32) (I : jI) : Nat → Int32 → jL → Option (jL)
  | 0, _, _ => none
  | F + 1, x3, L =>
    if y4 ≤ x3 then
      some L
    else
      d1g11_6 y1 y4 I F (x3 + 1) (jupL L 11 0 (Int32.toNatClampNeg x3) y1)
set_option maxHeartbeats 4000000 in
set_option maxRecDepth 20000 in
theorem L1g11_6 {d n : Nat} {k : jK} {y1 : Int64} {y4 : Int32} {I : jI} : ∀ (F : Nat) (x3 : Int32) (L : jL) (r : jL), d1g11_6 y1 y4 I F x3 L = some r → (∀ (f3 : Option jV), pn (jPM d) k none (jco 1) n (22, [some (.inr (11, 0)), some (.inl (.inr y1)), none, f3, some (.inl (.inl y4))], [], I, r)) → pn (jPM d) k none (jco 1) n (6, [some (.inr (11, 0)), some (.inl (.inr y1)), none, some (.inl (.inl x3)), some (.inl (.inl y4))], [], I, L) := by
  intro F
  induction F with
  | zero => intro x3 L r h hx; cases h
  | succ F ih =>
    intro x3 L r h hx
    rw [d1g11_6] at h
    refine pn_go [6, 22] 400 ?_
    conv => whnf
    refine ⟨fun cz1 => ?_, fun cz1 => ?_⟩
    · replace h := (if_pos cz1).symm.trans h
      conv => whnf
      cases h
      exact hx _
    · replace h := (if_neg cz1).symm.trans h
      conv => whnf
      intro _
      conv => whnf
      exact ih _ _ r h hx
/-- J7_fill_d0a16 -/
def d1g11 (a1 : Int64) (I : jI) (L : jL) : Option (jL) :=
  (d1g11_6 a1 (nI 55) I 70 0 L).bind fun r1 =>
  some r1
set_option maxHeartbeats 4000000 in
set_option maxRecDepth 20000 in
theorem D1g11 {d : Nat} {k : jK} {a1 : Int64} {I : jI} {L : jL} {r : jL} (h : d1g11 a1 I L = some r) (hk : k none (I, r)) : jPM d 1 [.inr (11, 0), .inl (.inr a1)] (I, L) k := by
  refine pM (fun d n => ?_)
  unfold d1g11 at h
  refine pn_go [6] 400 ?_
  conv => whnf
  obtain ⟨r1, hz1, h⟩ := obind h
  refine L1g11_6 _ _ _ _ hz1 (fun e3_r1 => ?_)
  refine pn_go [6] 400 ?_
  conv => whnf
  cases h
  exact hk
/-- X7_weighWays, loop at 53 -/
def d122_53 (y1 : Int32) (y2 : Int64) (y4 : Int32) (y5 : Int32) (I : jI) : Nat → Int32 → jL → Option (jL)
  | 0, _, _ => none
  | F + 1, x6, L =>
    if x6 < 0 then
      some L
    else
      if x6 < y5 then
        d122_53 y1 y2 y4 y5 I F (x6 + (-1)) (jupL L 11 0 (Int32.toNatClampNeg x6) (((L 11 0 (Int32.toNatClampNeg x6)) * (Int32.toInt64 y1)) + (0 * (Int32.toInt64 (12 - y1)))))
      else
        d122_53 y1 y2 y4 y5 I F (x6 + (-1)) (jupL L 11 0 (Int32.toNatClampNeg x6) (((L 11 0 (Int32.toNatClampNeg x6)) * (Int32.toInt64 y1)) + ((L 11 0 (Int32.toNatClampNeg (x6 - y5))) * (Int32.toInt64 (12 - y1)))))
set_option maxHeartbeats 4000000 in
set_option maxRecDepth 20000 in
theorem L122_53 {d n : Nat} {k : jK} {y1 : Int32} {y2 : Int64} {y4 : Int32} {y5 : Int32} {I : jI} : ∀ (F : Nat) (x6 : Int32) (L : jL) (e7 e8 : Option jV) (r : jL), d122_53 y1 y2 y4 y5 I F x6 L = some r → (∀ (f6 f7 f8 : Option jV), pn (jPM d) k none (jco 122) n (113, [some (.inr (0, 0)), some (.inl (.inl y1)), some (.inl (.inr y2)), none, some (.inl (.inl y4)), some (.inl (.inl y5)), f6, f7, f8], [], I, r)) → pn (jPM d) k none (jco 122) n (53, [some (.inr (0, 0)), some (.inl (.inl y1)), some (.inl (.inr y2)), none, some (.inl (.inl y4)), some (.inl (.inl y5)), some (.inl (.inl x6)), e7, e8], [], I, L) := by
  intro F
  induction F with
  | zero => intro x6 L e7 e8 r h hx; cases h
  | succ F ih =>
    intro x6 L e7 e8 r h hx
    rw [d122_53] at h
    refine pn_go [20, 53, 113] 400 ?_
    conv => whnf
    refine ⟨fun cz1 => ?_, fun cz1 => ?_⟩
    · replace h := (if_pos cz1).symm.trans h
      conv => whnf
      cases h
      exact hx _ _ _
    · replace h := (if_neg cz1).symm.trans h
      conv => whnf
      refine ⟨fun cz2 => ?_, fun cz2 => ?_⟩
      · replace h := (if_pos cz2).symm.trans h
        conv => whnf
        intro _
        conv => whnf
        intro _
        conv => whnf
        exact ih _ _ _ _ r h hx
      · replace h := (if_neg cz2).symm.trans h
        conv => whnf
        intro _
        conv => whnf
        intro _
        conv => whnf
        intro _
        conv => whnf
        exact ih _ _ _ _ r h hx
/-- X7_weighWays, loop at 20 -/
def d122_20 (y1 : Int32) (I : jI) : Nat → Int64 → Int32 → jL → Option (Int64 × jL)
  | 0, _, _, _ => none
  | F + 1, x2, x4, L =>
    if (I 4 1 6) ≤ x4 then
      some (x2, L)
    else
      (d122_53 y1 (x2 * 12) x4 (d36 1 x4 I) I 70 54 L).bind fun r2 =>
      d122_20 y1 I F (x2 * 12) (x4 + 1) r2
set_option maxHeartbeats 4000000 in
set_option maxRecDepth 20000 in
theorem L122_20 {d n : Nat} {k : jK} {y1 : Int32} {I : jI} : ∀ (F : Nat) (x2 : Int64) (x4 : Int32) (L : jL) (e5 e6 e7 e8 : Option jV) (r : Int64 × jL), d122_20 y1 I F x2 x4 L = some r → (∀ (f4 f5 f6 f7 f8 : Option jV), pn (jPM d) k none (jco 122) n (119, [some (.inr (0, 0)), some (.inl (.inl y1)), some (.inl (.inr r.1)), none, f4, f5, f6, f7, f8], [], I, r.2)) → pn (jPM d) k none (jco 122) n (20, [some (.inr (0, 0)), some (.inl (.inl y1)), some (.inl (.inr x2)), none, some (.inl (.inl x4)), e5, e6, e7, e8], [], I, L) := by
  intro F
  induction F with
  | zero => intro x2 x4 L e5 e6 e7 e8 r h hx; cases h
  | succ F ih =>
    intro x2 x4 L e5 e6 e7 e8 r h hx
    rw [d122_20] at h
    refine pn_go [20, 53, 119] 400 ?_
    conv => whnf
    refine ⟨fun cz1 => ?_, fun cz1 => ?_⟩
    · replace h := (if_pos cz1).symm.trans h
      conv => whnf
      cases h
      exact hx _ _ _ _ _
    · replace h := (if_neg cz1).symm.trans h
      conv => whnf
      refine D36 rfl ?_
      conv => whnf
      obtain ⟨r2, hz2, h⟩ := obind h
      refine L122_53 _ _ _ _ _ _ hz2 (fun e6_r2 e7_r2 e8_r2 => ?_)
      refine pn_go [20, 53, 119] 400 ?_
      conv => whnf
      exact ih _ _ _ _ _ _ _ r h hx
/-- X7_weighWays -/
def d122 (a1 : Int32) (I : jI) (L : jL) : Option (Int64 × jL) :=
  (d1g11 0 I L).bind fun r1 =>
  (d122_20 a1 I 70 1 0 (jupL r1 11 0 (Int32.toNatClampNeg 0) 1)).bind fun r3 =>
  some (r3.1, r3.2)
set_option maxHeartbeats 4000000 in
set_option maxRecDepth 20000 in
theorem D122 {d : Nat} {k : jK} {a1 : Int32} {I : jI} {L : jL} {r : Int64 × jL} (h : d122 a1 I L = some r) (hk : k (some (.inl (.inr r.1))) (I, r.2)) : jPM d 122 [.inr (0, 0), .inl (.inl a1)] (I, L) k := by
  refine pM (fun d n => ?_)
  unfold d122 at h
  refine pn_go [20, 53] 400 ?_
  conv => whnf
  obtain ⟨r1, hz1, h⟩ := obind h
  refine D1g11 hz1 ?_
  conv => whnf
  intro _
  conv => whnf
  obtain ⟨r3, hz2, h⟩ := obind h
  refine L122_20 _ _ _ _ _ _ _ _ _ hz2 (fun e4_r3 e5_r3 e6_r3 e7_r3 e8_r3 => ?_)
  refine pn_go [20, 53] 400 ?_
  conv => whnf
  cases h
  exact hk
/-- X7_odds, loop at 47 -/
def d103_47 (y3 : Int64) (I : jI) (L : jL) : Nat → Int64 → Int32 → Option (Int64)
  | 0, _, _ => none
  | F + 1, x5, x7 =>
    if 54 < x7 then
      some x5
    else
      d103_47 y3 I L F (x5 + (L 11 0 (Int32.toNatClampNeg x7))) (x7 + 1)
set_option maxHeartbeats 4000000 in
set_option maxRecDepth 20000 in
theorem L103_47 {d n : Nat} {k : jK} {y3 : Int64} {I : jI} {L : jL} : ∀ (F : Nat) (x5 : Int64) (x7 : Int32) (e1 e2 : Option jV) (r : Int64), d103_47 y3 I L F x5 x7 = some r → (∀ (f1 f2 f7 : Option jV), pn (jPM d) k none (jco 103) n (72, [some (.inr (0, 0)), f1, f2, some (.inl (.inr y3)), none, some (.inl (.inr r)), none, f7], [], I, L)) → pn (jPM d) k none (jco 103) n (47, [some (.inr (0, 0)), e1, e2, some (.inl (.inr y3)), none, some (.inl (.inr x5)), none, some (.inl (.inl x7))], [], I, L) := by
  intro F
  induction F with
  | zero => intro x5 x7 e1 e2 r h hx; cases h
  | succ F ih =>
    intro x5 x7 e1 e2 r h hx
    rw [d103_47] at h
    refine pn_go [47, 72] 400 ?_
    conv => whnf
    refine ⟨fun cz1 => ?_, fun cz1 => ?_⟩
    · replace h := (if_pos cz1).symm.trans h
      conv => whnf
      cases h
      exact hx _ _ _
    · replace h := (if_neg cz1).symm.trans h
      conv => whnf
      intro _
      conv => whnf
      exact ih _ _ _ _ r h hx
/-- X7_odds -/
def d103 (a1 : Int32) (a2 : Int32) (I : jI) (L : jL) : Option (Int32 × jL) :=
  if a1 < 0 then
    some ((-1), L)
  else
    if 54 < a1 then
      some ((-1), L)
    else
      if a2 < 0 then
        some ((-1), L)
      else
        if a2 ≤ 12 then
          if (I 4 1 6) = 0 then
            some ((-4), L)
          else
            (d122 a2 I L).bind fun r1 =>
            (d103_47 r1.1 I r1.2 70 0 a1).bind fun r2 =>
            (d116 r2 r1.1 I r1.2).bind fun r3 =>
            some (1, r3)
        else
          some ((-1), L)
set_option maxHeartbeats 4000000 in
set_option maxRecDepth 20000 in
theorem D103 {d : Nat} {k : jK} {a1 : Int32} {a2 : Int32} {I : jI} {L : jL} {r : Int32 × jL} (h : d103 a1 a2 I L = some r) (hk : k (some (.inl (.inl r.1))) (I, r.2)) : jPM d 103 [.inr (0, 0), .inl (.inl a1), .inl (.inl a2)] (I, L) k := by
  refine pM (fun d n => ?_)
  unfold d103 at h
  refine pn_go [47] 400 ?_
  conv => whnf
  refine ⟨fun cz1 => ?_, fun cz1 => ?_⟩
  · replace h := (if_pos cz1).symm.trans h
    conv => whnf
    cases h
    exact hk
  · replace h := (if_neg cz1).symm.trans h
    conv => whnf
    refine ⟨fun cz2 => ?_, fun cz2 => ?_⟩
    · replace h := (if_pos cz2).symm.trans h
      conv => whnf
      cases h
      exact hk
    · replace h := (if_neg cz2).symm.trans h
      conv => whnf
      refine ⟨fun cz3 => ?_, fun cz3 => ?_⟩
      · replace h := (if_pos cz3).symm.trans h
        conv => whnf
        cases h
        exact hk
      · replace h := (if_neg cz3).symm.trans h
        conv => whnf
        refine ⟨fun cz4 => ?_, fun cz4 => ?_⟩
        · replace h := (if_pos cz4).symm.trans h
          conv => whnf
          refine ⟨fun cz5 => ?_, fun cz5 => ?_⟩
          · replace h := (if_neg cz5).symm.trans h
            conv => whnf
            obtain ⟨r1, hz6, h⟩ := obind h
            refine D122 hz6 ?_
            conv => whnf
            obtain ⟨r2, hz7, h⟩ := obind h
            refine L103_47 _ _ _ _ _ _ hz7 (fun e1_r2 e2_r2 e7_r2 => ?_)
            refine pn_go [47] 400 ?_
            conv => whnf
            obtain ⟨r3, hz8, h⟩ := obind h
            refine D116 hz8 ?_
            conv => whnf
            cases h
            exact hk
          · replace h := (if_pos cz5).symm.trans h
            conv => whnf
            cases h
            exact hk
        · replace h := (if_neg cz4).symm.trans h
          conv => whnf
          cases h
          exact hk
