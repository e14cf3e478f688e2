/-- X8_noPairs, loop at 50 -/
def d193_50 (y1 : Int32) (I : jI) : Nat → Int32 → Int32 → Option (Int32)
  | 0, _, _ => none
  | F + 1, x2, x3 =>
    if ((40 * y1) + (I 35 0 (Int32.toNatClampNeg y1))) ≤ x3 then
      some x2
    else
      if x2 = 0 then
        d193_50 y1 I F 0 (x3 + 2)
      else
        if (d124 (Int32.toInt64 (I 36 0 (Int32.toNatClampNeg x3))) 0 20 I) = 0 then
          d193_50 y1 I F 0 (x3 + 2)
        else
          if (I 36 0 (Int32.toNatClampNeg (x3 + 1))) < 0 then
            d193_50 y1 I F 0 (x3 + 2)
          else
            d193_50 y1 I F 1 (x3 + 2)
set_option maxHeartbeats 4000000 in
set_option maxRecDepth 20000 in
theorem L193_50 {d n : Nat} {k : jK} {y1 : Int32} {I : jI} {L : jL} : ∀ (F : Nat) (x2 : Int32) (x3 : Int32) (r : Int32), d193_50 y1 I F x2 x3 = some r → (∀ (f3 : Option jV), pn (jPM d) k none (jco 193) n (109, [some (.inr (31, 0)), some (.inl (.inl y1)), some (.inl (.inl r)), f3], [], I, L)) → pn (jPM d) k none (jco 193) n (50, [some (.inr (31, 0)), some (.inl (.inl y1)), some (.inl (.inl x2)), some (.inl (.inl x3))], [], I, L) := by
  intro F
  induction F with
  | zero => intro x2 x3 r h hx; cases h
  | succ F ih =>
    intro x2 x3 r h hx
    rw [d193_50] at h
    refine pn_go [50, 109] 400 ?_
    conv => whnf
    intro _
    conv => whnf
    refine ⟨fun cz1 => ?_, fun cz1 => ?_⟩
    · replace h := (if_pos cz1).symm.trans h
      conv => whnf
      cases h
      exact hx _
    · replace h := (if_neg cz1).symm.trans h
      conv => whnf
      refine ⟨fun cz2 => ?_, fun cz2 => ?_⟩
      · replace h := (if_pos cz2).symm.trans h
        conv => whnf
        exact ih _ _ r h hx
      · replace h := (if_neg cz2).symm.trans h
        conv => whnf
        intro _
        conv => whnf
        refine D124 rfl ?_
        conv => whnf
        refine ⟨fun cz3 => ?_, fun cz3 => ?_⟩
        · replace h := (if_pos cz3).symm.trans h
          conv => whnf
          exact ih _ _ r h hx
        · replace h := (if_neg cz3).symm.trans h
          conv => whnf
          intro _
          conv => whnf
          refine ⟨fun cz4 => ?_, fun cz4 => ?_⟩
          · replace h := (if_pos cz4).symm.trans h
            conv => whnf
            exact ih _ _ r h hx
          · replace h := (if_neg cz4).symm.trans h
            conv => whnf
            exact ih _ _ r h hx
/-- X8_noPairs -/
def d193 (a1 : Int32) (I : jI) : Option (Int32 × jI) :=
  if 0 ≤ (I 35 0 (Int32.toNatClampNeg a1)) then
    if ((I 35 0 (Int32.toNatClampNeg a1)) - (I 35 0 (Int32.toNatClampNeg a1)) / 2 * 2) = 0 then
      if (I 35 0 (Int32.toNatClampNeg a1)) ≤ 12 then
        (d193_50 a1 I 70 1 (40 * a1)).bind fun r1 =>
        if r1 = 0 then
          some (((d126 3 I).1), ((d126 3 I).2))
        else
          some (0, I)
      else
        some (((d126 5 I).1), ((d126 5 I).2))
    else
      some (((d126 5 I).1), ((d126 5 I).2))
  else
    some (((d126 1 I).1), ((d126 1 I).2))
set_option maxHeartbeats 4000000 in
set_option maxRecDepth 20000 in
theorem D193 {d : Nat} {k : jK} {a1 : Int32} {I : jI} {L : jL} {r : Int32 × jI} (h : d193 a1 I = some r) (hk : k (some (.inl (.inl r.1))) (r.2, L)) : jPM d 193 [.inr (31, 0), .inl (.inl a1)] (I, L) k := by
  refine pM (fun d n => ?_)
  unfold d193 at h
  refine pn_go [50] 400 ?_
  conv => whnf
  intro _
  conv => whnf
  refine ⟨fun cz1 => ?_, fun cz1 => ?_⟩
  · replace h := (if_pos cz1).symm.trans h
    conv => whnf
    intro _
    conv => whnf
    intro _
    conv => whnf
    refine ⟨fun cz2 => ?_, fun cz2 => ?_⟩
    · replace h := (if_neg cz2).symm.trans h
      conv => whnf
      refine D126 rfl ?_
      conv => whnf
      cases h
      exact hk
    · replace h := (if_pos cz2).symm.trans h
      conv => whnf
      intro _
      conv => whnf
      refine ⟨fun cz3 => ?_, fun cz3 => ?_⟩
      · replace h := (if_pos cz3).symm.trans h
        conv => whnf
        obtain ⟨r1, hz4, h⟩ := obind h
        refine L193_50 _ _ _ _ hz4 (fun e3_r1 => ?_)
        refine pn_go [50] 400 ?_
        conv => whnf
        refine ⟨fun cz5 => ?_, fun cz5 => ?_⟩
        · replace h := (if_pos cz5).symm.trans h
          conv => whnf
          refine D126 rfl ?_
          conv => whnf
          cases h
          exact hk
        · replace h := (if_neg cz5).symm.trans h
          conv => whnf
          cases h
          exact hk
      · replace h := (if_neg cz3).symm.trans h
        conv => whnf
        refine D126 rfl ?_
        conv => whnf
        cases h
        exact hk
  · replace h := (if_neg cz1).symm.trans h
    conv => whnf
    refine D126 rfl ?_
    conv => whnf
    cases h
    exact hk
/-- X8_isSo, loop at 9 -/
def d194_9 (y1 : Int32) (y2 : Int32) (y3 : Int32) (I : jI) : Nat → Int32 → Int32 → Option (Int32)
  | 0, _, _ => none
  | F + 1, x4, x5 =>
    if ((40 * y1) + (I 35 0 (Int32.toNatClampNeg y1))) ≤ x5 then
      some x4
    else
      if x4 = 0 then
        d194_9 y1 y2 y3 I F 0 (x5 + 2)
      else
        if (d152 y2 y3 (I 36 0 (Int32.toNatClampNeg x5)) (I 32 0 (Int32.toNatClampNeg 6)) I) = (I 36 0 (Int32.toNatClampNeg (x5 + 1))) then
          d194_9 y1 y2 y3 I F 1 (x5 + 2)
        else
          d194_9 y1 y2 y3 I F 0 (x5 + 2)
set_option maxHeartbeats 4000000 in
set_option maxRecDepth 20000 in
theorem L194_9 {d n : Nat} {k : jK} {y1 : Int32} {y2 : Int32} {y3 : Int32} {I : jI} {L : jL} : ∀ (F : Nat) (x4 : Int32) (x5 : Int32) (r : Int32), d194_9 y1 y2 y3 I F x4 x5 = some r → (∀ (f5 : Option jV), pn (jPM d) k none (jco 194) n (74, [some (.inr (31, 0)), some (.inl (.inl y1)), some (.inl (.inl y2)), some (.inl (.inl y3)), some (.inl (.inl r)), f5], [], I, L)) → pn (jPM d) k none (jco 194) n (9, [some (.inr (31, 0)), some (.inl (.inl y1)), some (.inl (.inl y2)), some (.inl (.inl y3)), some (.inl (.inl x4)), some (.inl (.inl x5))], [], I, L) := by
  intro F
  induction F with
  | zero => intro x4 x5 r h hx; cases h
  | succ F ih =>
    intro x4 x5 r h hx
    rw [d194_9] at h
    refine pn_go [9, 74] 400 ?_
    conv => whnf
    intro _
    conv => whnf
    refine ⟨fun cz1 => ?_, fun cz1 => ?_⟩
    · replace h := (if_pos cz1).symm.trans h
      conv => whnf
      cases h
      exact hx _
    · replace h := (if_neg cz1).symm.trans h
      conv => whnf
      refine ⟨fun cz2 => ?_, fun cz2 => ?_⟩
      · replace h := (if_pos cz2).symm.trans h
        conv => whnf
        exact ih _ _ r h hx
      · replace h := (if_neg cz2).symm.trans h
        conv => whnf
        intro _
        conv => whnf
        intro _
        conv => whnf
        refine D152 rfl ?_
        conv => whnf
        intro _
        conv => whnf
        refine ⟨fun cz3 => ?_, fun cz3 => ?_⟩
        · replace h := (if_neg cz3).symm.trans h
          conv => whnf
          exact ih _ _ r h hx
        · replace h := (if_pos cz3).symm.trans h
          conv => whnf
          exact ih _ _ r h hx
/-- X8_isSo -/
def d194 (a1 : Int32) (a2 : Int32) (a3 : Int32) (I : jI) : Option (Int32) :=
  (d194_9 a1 a2 a3 I 70 1 (40 * a1)).bind fun r1 =>
  some r1
set_option maxHeartbeats 4000000 in
set_option maxRecDepth 20000 in
theorem D194 {d : Nat} {k : jK} {a1 : Int32} {a2 : Int32} {a3 : Int32} {I : jI} {L : jL} {r : Int32} (h : d194 a1 a2 a3 I = some r) (hk : k (some (.inl (.inl r))) (I, L)) : jPM d 194 [.inr (31, 0), .inl (.inl a1), .inl (.inl a2), .inl (.inl a3)] (I, L) k := by
  refine pM (fun d n => ?_)
  unfold d194 at h
  refine pn_go [9] 400 ?_
  conv => whnf
  obtain ⟨r1, hz1, h⟩ := obind h
  refine L194_9 _ _ _ _ hz1 (fun e5_r1 => ?_)
  refine pn_go [9] 400 ?_
  conv => whnf
  cases h
  exact fun _ => hk
/-- X8_kinds, loop at 35 -/
def d195_35 (y1 : Int32) (y2 : Int32) (I : jI) : Nat → Int32 → Int32 → Option (Int32)
  | 0, _, _ => none
  | F + 1, x4, x5 =>
    if 6 ≤ x5 then
      some x4
    else
      (d194 y2 x5 (I 32 0 (Int32.toNatClampNeg (23 + y1))) I).bind fun r2 =>
      if r2 = 0 then
        d195_35 y1 y2 I F (x4 ||| 0) (x5 + 1)
      else
        d195_35 y1 y2 I F (x4 ||| (1 <<< (x5 &&& 31))) (x5 + 1)
set_option maxHeartbeats 4000000 in
set_option maxRecDepth 20000 in
theorem L195_35 {d n : Nat} {k : jK} {y1 : Int32} {y2 : Int32} {I : jI} {L : jL} : ∀ (F : Nat) (x4 : Int32) (x5 : Int32) (e3 : Option jV) (r : Int32), d195_35 y1 y2 I F x4 x5 = some r → (∀ (f3 f5 : Option jV), pn (jPM d) k none (jco 195) n (80, [some (.inr (31, 0)), some (.inl (.inl y1)), some (.inl (.inl y2)), f3, some (.inl (.inl r)), f5], [], I, L)) → pn (jPM d) k none (jco 195) n (35, [some (.inr (31, 0)), some (.inl (.inl y1)), some (.inl (.inl y2)), e3, some (.inl (.inl x4)), some (.inl (.inl x5))], [], I, L) := by
  intro F
  induction F with
  | zero => intro x4 x5 e3 r h hx; cases h
  | succ F ih =>
    intro x4 x5 e3 r h hx
    rw [d195_35] at h
    refine pn_go [35, 80] 400 ?_
    conv => whnf
    refine ⟨fun cz1 => ?_, fun cz1 => ?_⟩
    · replace h := (if_pos cz1).symm.trans h
      conv => whnf
      cases h
      exact hx _ _
    · replace h := (if_neg cz1).symm.trans h
      conv => whnf
      intro _
      conv => whnf
      obtain ⟨r2, hz2, h⟩ := obind h
      refine D194 hz2 ?_
      conv => whnf
      refine ⟨fun cz3 => ?_, fun cz3 => ?_⟩
      · replace h := (if_pos cz3).symm.trans h
        conv => whnf
        exact ih _ _ _ r h hx
      · replace h := (if_neg cz3).symm.trans h
        conv => whnf
        exact ih _ _ _ r h hx
/-- X8_kinds -/
def d195 (a1 : Int32) (a2 : Int32) (I : jI) : Option (Int32 × jI) :=
  if (d151 a1 I) = 0 then
    some ((-1), I)
  else
    if (d128 a2 I) = 0 then
      some ((-1), I)
    else
      (d193 a2 I).bind fun r1 =>
      if r1.1 = 0 then
        (d195_35 a1 a2 r1.2 70 0 0).bind fun r3 =>
        some (r3, r1.2)
      else
        some (r1.1, r1.2)
set_option maxHeartbeats 4000000 in
set_option maxRecDepth 20000 in
theorem D195 {d : Nat} {k : jK} {a1 : Int32} {a2 : Int32} {I : jI} {L : jL} {r : Int32 × jI} (h : d195 a1 a2 I = some r) (hk : k (some (.inl (.inl r.1))) (r.2, L)) : jPM d 195 [.inr (31, 0), .inl (.inl a1), .inl (.inl a2)] (I, L) k := by
  refine pM (fun d n => ?_)
  unfold d195 at h
  refine pn_go [35] 400 ?_
  conv => whnf
  refine D151 rfl ?_
  conv => whnf
  refine ⟨fun cz1 => ?_, fun cz1 => ?_⟩
  · replace h := (if_pos cz1).symm.trans h
    conv => whnf
    cases h
    exact hk
  · replace h := (if_neg cz1).symm.trans h
    conv => whnf
    refine D128 rfl ?_
    conv => whnf
    refine ⟨fun cz2 => ?_, fun cz2 => ?_⟩
    · replace h := (if_neg cz2).symm.trans h
      conv => whnf
      obtain ⟨r1, hz3, h⟩ := obind h
      refine D193 hz3 ?_
      conv => whnf
      refine ⟨fun cz4 => ?_, fun cz4 => ?_⟩
      · replace h := (if_pos cz4).symm.trans h
        conv => whnf
        obtain ⟨r3, hz5, h⟩ := obind h
        refine L195_35 _ _ _ _ _ hz5 (fun e3_r3 e5_r3 => ?_)
        refine pn_go [35] 400 ?_
        conv => whnf
        cases h
        exact hk
      · replace h := (if_neg cz4).symm.trans h
        conv => whnf
        cases h
        exact hk
    · replace h := (if_pos cz2).symm.trans h
      conv => whnf
      cases h
      exact hk
/-- X8_prices, loop at 42 -/
def d196_42 (y1 : Int32) (y2 : Int32) : Nat → Int32 → Int32 → jI → Option (Int32 × jI)
  | 0, _, _, _ => none
  | F + 1, x4, x5, I =>
    if x5 < 0 then
      some (x4, I)
    else
      (d194 y2 (I 33 0 (Int32.toNatClampNeg y1)) x5 I).bind fun r2 =>
      if r2 = 0 then
        if r2 = 0 then
          d196_42 y1 y2 F (x4 + 0) (x5 + (-1)) (jup I 31 0 10 (I 31 0 10))
        else
          d196_42 y1 y2 F (x4 + 0) (x5 + (-1)) (jup I 31 0 10 x5)
      else
        if r2 = 0 then
          d196_42 y1 y2 F (x4 + 1) (x5 + (-1)) (jup I 31 0 10 (I 31 0 10))
        else
          d196_42 y1 y2 F (x4 + 1) (x5 + (-1)) (jup I 31 0 10 x5)
set_option maxHeartbeats 4000000 in
set_option maxRecDepth 20000 in
theorem L196_42 {d n : Nat} {k : jK} {y1 : Int32} {y2 : Int32} {L : jL} : ∀ (F : Nat) (x4 : Int32) (x5 : Int32) (I : jI) (e3 e6 : Option jV) (r : Int32 × jI), d196_42 y1 y2 F x4 x5 I = some r → (∀ (f3 f5 f6 : Option jV), pn (jPM d) k none (jco 196) n (101, [some (.inr (31, 0)), some (.inl (.inl y1)), some (.inl (.inl y2)), f3, some (.inl (.inl r.1)), f5, f6], [], r.2, L)) → pn (jPM d) k none (jco 196) n (42, [some (.inr (31, 0)), some (.inl (.inl y1)), some (.inl (.inl y2)), e3, some (.inl (.inl x4)), some (.inl (.inl x5)), e6], [], I, L) := by
  intro F
  induction F with
  | zero => intro x4 x5 I e3 e6 r h hx; cases h
  | succ F ih =>
    intro x4 x5 I e3 e6 r h hx
    rw [d196_42] at h
    refine pn_go [42, 101] 400 ?_
    conv => whnf
    refine ⟨fun cz1 => ?_, fun cz1 => ?_⟩
    · replace h := (if_pos cz1).symm.trans h
      conv => whnf
      cases h
      exact hx _ _ _
    · replace h := (if_neg cz1).symm.trans h
      conv => whnf
      intro _
      conv => whnf
      obtain ⟨r2, hz2, h⟩ := obind h
      refine D194 hz2 ?_
      conv => whnf
      refine ⟨fun cz3 => ?_, fun cz3 => ?_⟩
      · replace h := (if_pos cz3).symm.trans h
        conv => whnf
        refine ⟨fun cz4 => ?_, fun cz4 => ?_⟩
        · replace h := (if_pos cz4).symm.trans h
          conv => whnf
          exact ih _ _ _ _ _ r h hx
        · replace h := (if_neg cz4).symm.trans h
          conv => whnf
          exact ih _ _ _ _ _ r h hx
      · replace h := (if_neg cz3).symm.trans h
        conv => whnf
        refine ⟨fun cz5 => ?_, fun cz5 => ?_⟩
        · replace h := (if_pos cz5).symm.trans h
          conv => whnf
          exact ih _ _ _ _ _ r h hx
        · replace h := (if_neg cz5).symm.trans h
          conv => whnf
          exact ih _ _ _ _ _ r h hx
/-- X8_prices -/
def d196 (a1 : Int32) (a2 : Int32) (I : jI) : Option (Int32 × jI) :=
  if (d151 a1 I) = 0 then
    some ((-1), I)
  else
    if (d128 a2 I) = 0 then
      some ((-1), I)
    else
      (d193 a2 I).bind fun r1 =>
      if r1.1 = 0 then
        (d196_42 a1 a2 120 0 99 (jup r1.2 31 0 10 (-9))).bind fun r3 =>
        some (r3.1, r3.2)
      else
        some (r1.1, r1.2)
set_option maxHeartbeats 4000000 in
set_option maxRecDepth 20000 in
theorem D196 {d : Nat} {k : jK} {a1 : Int32} {a2 : Int32} {I : jI} {L : jL} {r : Int32 × jI} (h : d196 a1 a2 I = some r) (hk : k (some (.inl (.inl r.1))) (r.2, L)) : jPM d 196 [.inr (31, 0), .inl (.inl a1), .inl (.inl a2)] (I, L) k := by
  refine pM (fun d n => ?_)
  unfold d196 at h
  refine pn_go [42] 400 ?_
  conv => whnf
  refine D151 rfl ?_
  conv => whnf
  refine ⟨fun cz1 => ?_, fun cz1 => ?_⟩
  · replace h := (if_pos cz1).symm.trans h
    conv => whnf
    cases h
    exact hk
  · replace h := (if_neg cz1).symm.trans h
    conv => whnf
    refine D128 rfl ?_
    conv => whnf
    refine ⟨fun cz2 => ?_, fun cz2 => ?_⟩
    · replace h := (if_neg cz2).symm.trans h
      conv => whnf
      obtain ⟨r1, hz3, h⟩ := obind h
      refine D193 hz3 ?_
      conv => whnf
      refine ⟨fun cz4 => ?_, fun cz4 => ?_⟩
      · replace h := (if_pos cz4).symm.trans h
        conv => whnf
        obtain ⟨r3, hz5, h⟩ := obind h
        refine L196_42 _ _ _ _ _ _ _ hz5 (fun e3_r3 e5_r3 e6_r3 => ?_)
        refine pn_go [42] 400 ?_
        conv => whnf
        cases h
        exact hk
      · replace h := (if_neg cz4).symm.trans h
        conv => whnf
        cases h
        exact hk
    · replace h := (if_pos cz2).symm.trans h
      conv => whnf
      cases h
      exact hk
/-- X8_grams, loop at 40 -/
def d197_40 (y1 : Int32) (y2 : Int32) (y3 : Int32) (I : jI) : Nat → Int32 → Int32 → Option (Int32)
  | 0, _, _ => none
  | F + 1, x4, x5 =>
    if 10 ≤ x5 then
      some x4
    else
      if (y2 * (d154 (I 33 0 (Int32.toNatClampNeg y1)) x5 I)) = y3 then
        d197_40 y1 y2 y3 I F (x4 ||| (1 <<< (x5 &&& 31))) (x5 + 1)
      else
        d197_40 y1 y2 y3 I F (x4 ||| 0) (x5 + 1)
set_option maxHeartbeats 4000000 in
set_option maxRecDepth 20000 in
theorem L197_40 {d n : Nat} {k : jK} {y1 : Int32} {y2 : Int32} {y3 : Int32} {I : jI} {L : jL} : ∀ (F : Nat) (x4 : Int32) (x5 : Int32) (r : Int32), d197_40 y1 y2 y3 I F x4 x5 = some r → (∀ (f5 : Option jV), pn (jPM d) k none (jco 197) n (83, [some (.inr (31, 0)), some (.inl (.inl y1)), some (.inl (.inl y2)), some (.inl (.inl y3)), some (.inl (.inl r)), f5], [], I, L)) → pn (jPM d) k none (jco 197) n (40, [some (.inr (31, 0)), some (.inl (.inl y1)), some (.inl (.inl y2)), some (.inl (.inl y3)), some (.inl (.inl x4)), some (.inl (.inl x5))], [], I, L) := by
  intro F
  induction F with
  | zero => intro x4 x5 r h hx; cases h
  | succ F ih =>
    intro x4 x5 r h hx
    rw [d197_40] at h
    refine pn_go [40, 83] 400 ?_
    conv => whnf
    refine ⟨fun cz1 => ?_, fun cz1 => ?_⟩
    · replace h := (if_pos cz1).symm.trans h
      conv => whnf
      cases h
      exact hx _
    · replace h := (if_neg cz1).symm.trans h
      conv => whnf
      intro _
      conv => whnf
      refine D154 rfl ?_
      conv => whnf
      refine ⟨fun cz2 => ?_, fun cz2 => ?_⟩
      · replace h := (if_neg cz2).symm.trans h
        conv => whnf
        exact ih _ _ r h hx
      · replace h := (if_pos cz2).symm.trans h
        conv => whnf
        exact ih _ _ r h hx
/-- X8_grams -/
def d197 (a1 : Int32) (a2 : Int32) (a3 : Int32) (I : jI) : Option (Int32) :=
  if (d151 a1 I) = 0 then
    some (-1)
  else
    if (d124 (Int32.toInt64 a2) 1 40 I) = 0 then
      some (-1)
    else
      if (d124 (Int32.toInt64 a3) 0 360 I) = 0 then
        some (-1)
      else
        (d197_40 a1 a2 a3 I 70 0 1).bind fun r1 =>
        some r1
set_option maxHeartbeats 4000000 in
set_option maxRecDepth 20000 in
theorem D197 {d : Nat} {k : jK} {a1 : Int32} {a2 : Int32} {a3 : Int32} {I : jI} {L : jL} {r : Int32} (h : d197 a1 a2 a3 I = some r) (hk : k (some (.inl (.inl r))) (I, L)) : jPM d 197 [.inr (31, 0), .inl (.inl a1), .inl (.inl a2), .inl (.inl a3)] (I, L) k := by
  refine pM (fun d n => ?_)
  unfold d197 at h
  refine pn_go [40] 400 ?_
  conv => whnf
  refine D151 rfl ?_
  conv => whnf
  refine ⟨fun cz1 => ?_, fun cz1 => ?_⟩
  · replace h := (if_pos cz1).symm.trans h
    conv => whnf
    cases h
    exact hk
  · replace h := (if_neg cz1).symm.trans h
    conv => whnf
    refine D124 rfl ?_
    conv => whnf
    refine ⟨fun cz2 => ?_, fun cz2 => ?_⟩
    · replace h := (if_pos cz2).symm.trans h
      conv => whnf
      cases h
      exact hk
    · replace h := (if_neg cz2).symm.trans h
      conv => whnf
      refine D124 rfl ?_
      conv => whnf
      refine ⟨fun cz3 => ?_, fun cz3 => ?_⟩
      · replace h := (if_neg cz3).symm.trans h
        conv => whnf
        obtain ⟨r1, hz4, h⟩ := obind h
        refine L197_40 _ _ _ _ hz4 (fun e5_r1 => ?_)
        refine pn_go [40] 400 ?_
        conv => whnf
        cases h
        exact hk
      · replace h := (if_pos cz3).symm.trans h
        conv => whnf
        cases h
        exact hk
