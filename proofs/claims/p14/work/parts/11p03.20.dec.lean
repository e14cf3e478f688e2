/-- X8_worthAt -/
def d198 (a1 : Int32) (a2 : Int32) (I : jI) : Int32 :=
  ((d152 (I 33 0 (Int32.toNatClampNeg a2)) (I 41 0 (Int32.toNatClampNeg ((6 * a1) + a2))) 1 (I 32 0 (Int32.toNatClampNeg 6)) I) - (5 * (d155 0 a2 I)))
set_option maxHeartbeats 4000000 in
set_option maxRecDepth 20000 in
theorem D198 {d : Nat} {k : jK} {a1 : Int32} {a2 : Int32} {I : jI} {L : jL} {r : Int32} (h : d198 a1 a2 I = r) (hk : k (some (.inl (.inl r))) (I, L)) : jPM d 198 [.inr (31, 0), .inl (.inl a1), .inl (.inl a2)] (I, L) k := by
  refine pM (fun d n => ?_)
  unfold d198 at h
  refine pn_go [] 400 ?_
  conv => whnf
  intro _
  conv => whnf
  intro _
  conv => whnf
  intro _
  conv => whnf
  refine D152 rfl ?_
  conv => whnf
  refine D155 rfl ?_
  conv => whnf
  subst h
  exact hk
/-- X8_layShop, loop at 2 -/
def d199_2 (y1 : Int32) (y2 : Int32) : Nat → Int32 → jI → Option (jI)
  | 0, _, _ => none
  | F + 1, x3, I =>
    if (I 31 0 3) ≤ x3 then
      some I
    else
      if x3 = y2 then
        if ((I 41 0 (Int32.toNatClampNeg ((6 * y1) + x3))) + 7) ≤ 99 then
          d199_2 y1 y2 F (x3 + 1) (jup I 41 0 (Int32.toNatClampNeg (((6 * y1) + 6) + x3)) ((I 41 0 (Int32.toNatClampNeg ((6 * y1) + x3))) + 7))
        else
          d199_2 y1 y2 F (x3 + 1) (jup I 41 0 (Int32.toNatClampNeg (((6 * y1) + 6) + x3)) 99)
      else
        if ((I 41 0 (Int32.toNatClampNeg ((6 * y1) + x3))) + 0) ≤ 99 then
          d199_2 y1 y2 F (x3 + 1) (jup I 41 0 (Int32.toNatClampNeg (((6 * y1) + 6) + x3)) ((I 41 0 (Int32.toNatClampNeg ((6 * y1) + x3))) + 0))
        else
          d199_2 y1 y2 F (x3 + 1) (jup I 41 0 (Int32.toNatClampNeg (((6 * y1) + 6) + x3)) 99)
set_option maxHeartbeats 4000000 in
set_option maxRecDepth 20000 in
theorem L199_2 {d n : Nat} {k : jK} {y1 : Int32} {y2 : Int32} {L : jL} : ∀ (F : Nat) (x3 : Int32) (I : jI) (e4 : Option jV) (r : jI), d199_2 y1 y2 F x3 I = some r → (∀ (f3 f4 : Option jV), pn (jPM d) k none (jco 199) n (69, [some (.inr (31, 0)), some (.inl (.inl y1)), some (.inl (.inl y2)), f3, f4], [], r, L)) → pn (jPM d) k none (jco 199) n (2, [some (.inr (31, 0)), some (.inl (.inl y1)), some (.inl (.inl y2)), some (.inl (.inl x3)), e4], [], I, L) := by
  intro F
  induction F with
  | zero => intro x3 I e4 r h hx; cases h
  | succ F ih =>
    intro x3 I e4 r h hx
    rw [d199_2] at h
    refine pn_go [2, 69] 400 ?_
    conv => whnf
    refine ⟨fun cz1 => ?_, fun cz1 => ?_⟩
    · replace h := (if_pos cz1).symm.trans h
      conv => whnf
      cases h
      exact hx _ _
    · replace h := (if_neg cz1).symm.trans h
      conv => whnf
      intro _
      conv => whnf
      refine ⟨fun cz2 => ?_, fun cz2 => ?_⟩
      · replace h := (if_neg cz2).symm.trans h
        conv => whnf
        refine ⟨fun cz3 => ?_, fun cz3 => ?_⟩
        · replace h := (if_pos cz3).symm.trans h
          conv => whnf
          intro _
          conv => whnf
          exact ih _ _ _ r h hx
        · replace h := (if_neg cz3).symm.trans h
          conv => whnf
          intro _
          conv => whnf
          exact ih _ _ _ r h hx
      · replace h := (if_pos cz2).symm.trans h
        conv => whnf
        refine ⟨fun cz4 => ?_, fun cz4 => ?_⟩
        · replace h := (if_pos cz4).symm.trans h
          conv => whnf
          intro _
          conv => whnf
          exact ih _ _ _ r h hx
        · replace h := (if_neg cz4).symm.trans h
          conv => whnf
          intro _
          conv => whnf
          exact ih _ _ _ r h hx
/-- X8_layShop -/
def d199 (a1 : Int32) (a2 : Int32) (I : jI) : Option (jI) :=
  (d199_2 a1 a2 70 0 I).bind fun r1 =>
  some r1
set_option maxHeartbeats 4000000 in
set_option maxRecDepth 20000 in
theorem D199 {d : Nat} {k : jK} {a1 : Int32} {a2 : Int32} {I : jI} {L : jL} {r : jI} (h : d199 a1 a2 I = some r) (hk : k none (r, L)) : jPM d 199 [.inr (31, 0), .inl (.inl a1), .inl (.inl a2)] (I, L) k := by
  refine pM (fun d n => ?_)
  unfold d199 at h
  refine pn_go [2] 400 ?_
  conv => whnf
  obtain ⟨r1, hz1, h⟩ := obind h
  refine L199_2 _ _ _ _ _ hz1 (fun e3_r1 e4_r1 => ?_)
  refine pn_go [2] 400 ?_
  conv => whnf
  cases h
  exact hk
/-- X8_leastWorth, loop at 9 -/
def d200_9 (y1 : Int32) (I : jI) : Nat → Int32 → Int32 → Option (Int32)
  | 0, _, _ => none
  | F + 1, x2, x3 =>
    if (I 31 0 3) ≤ x3 then
      some x2
    else
      if x2 ≤ (d198 y1 x3 I) then
        d200_9 y1 I F x2 (x3 + 1)
      else
        d200_9 y1 I F (d198 y1 x3 I) (x3 + 1)
set_option maxHeartbeats 4000000 in
set_option maxRecDepth 20000 in
theorem L200_9 {d n : Nat} {k : jK} {y1 : Int32} {I : jI} {L : jL} : ∀ (F : Nat) (x2 : Int32) (x3 : Int32) (r : Int32), d200_9 y1 I F x2 x3 = some r → (∀ (f3 : Option jV), pn (jPM d) k none (jco 200) n (44, [some (.inr (31, 0)), some (.inl (.inl y1)), some (.inl (.inl r)), f3], [], I, L)) → pn (jPM d) k none (jco 200) n (9, [some (.inr (31, 0)), some (.inl (.inl y1)), some (.inl (.inl x2)), some (.inl (.inl x3))], [], I, L) := by
  intro F
  induction F with
  | zero => intro x2 x3 r h hx; cases h
  | succ F ih =>
    intro x2 x3 r h hx
    rw [d200_9] at h
    refine pn_go [9, 44] 400 ?_
    conv => whnf
    refine ⟨fun cz1 => ?_, fun cz1 => ?_⟩
    · replace h := (if_pos cz1).symm.trans h
      conv => whnf
      cases h
      exact hx _
    · replace h := (if_neg cz1).symm.trans h
      conv => whnf
      refine D198 rfl ?_
      conv => whnf
      refine ⟨fun cz2 => ?_, fun cz2 => ?_⟩
      · replace h := (if_pos cz2).symm.trans h
        conv => whnf
        exact ih _ _ r h hx
      · replace h := (if_neg cz2).symm.trans h
        conv => whnf
        refine D198 rfl ?_
        conv => whnf
        exact ih _ _ r h hx
/-- X8_leastWorth -/
def d200 (a1 : Int32) (I : jI) : Option (Int32) :=
  (d200_9 a1 I 70 (d198 a1 0 I) 1).bind fun r1 =>
  some r1
set_option maxHeartbeats 4000000 in
set_option maxRecDepth 20000 in
theorem D200 {d : Nat} {k : jK} {a1 : Int32} {I : jI} {L : jL} {r : Int32} (h : d200 a1 I = some r) (hk : k (some (.inl (.inl r))) (I, L)) : jPM d 200 [.inr (31, 0), .inl (.inl a1)] (I, L) k := by
  refine pM (fun d n => ?_)
  unfold d200 at h
  refine pn_go [9] 400 ?_
  conv => whnf
  refine D198 rfl ?_
  conv => whnf
  obtain ⟨r1, hz1, h⟩ := obind h
  refine L200_9 _ _ _ _ hz1 (fun e3_r1 => ?_)
  refine pn_go [9] 400 ?_
  conv => whnf
  cases h
  exact hk
/-- X8_lastShop, loop at 5 -/
def d201_5 (y1 : Int32) : Nat → Int32 → Int32 → jI → Option (Int32 × jI)
  | 0, _, _, _ => none
  | F + 1, x2, x3, I =>
    if (I 31 0 3) < x3 then
      some (x2, I)
    else
      (d199 y1 x3 I).bind fun r1 =>
      (d200 (y1 + 1) r1).bind fun r2 =>
      if r2 ≤ x2 then
        d201_5 y1 F x2 (x3 + 1) r1
      else
        d201_5 y1 F r2 (x3 + 1) r1
set_option maxHeartbeats 4000000 in
set_option maxRecDepth 20000 in
theorem L201_5 {d n : Nat} {k : jK} {y1 : Int32} {L : jL} : ∀ (F : Nat) (x2 : Int32) (x3 : Int32) (I : jI) (e4 : Option jV) (r : Int32 × jI), d201_5 y1 F x2 x3 I = some r → (∀ (f3 f4 : Option jV), pn (jPM d) k none (jco 201) n (47, [some (.inr (31, 0)), some (.inl (.inl y1)), some (.inl (.inl r.1)), f3, f4], [], r.2, L)) → pn (jPM d) k none (jco 201) n (5, [some (.inr (31, 0)), some (.inl (.inl y1)), some (.inl (.inl x2)), some (.inl (.inl x3)), e4], [], I, L) := by
  intro F
  induction F with
  | zero => intro x2 x3 I e4 r h hx; cases h
  | succ F ih =>
    intro x2 x3 I e4 r h hx
    rw [d201_5] at h
    refine pn_go [5, 47] 400 ?_
    conv => whnf
    refine ⟨fun cz1 => ?_, fun cz1 => ?_⟩
    · replace h := (if_pos cz1).symm.trans h
      conv => whnf
      cases h
      exact hx _ _
    · replace h := (if_neg cz1).symm.trans h
      conv => whnf
      obtain ⟨r1, hz2, h⟩ := obind h
      refine D199 hz2 ?_
      conv => whnf
      obtain ⟨r2, hz3, h⟩ := obind h
      refine D200 hz3 ?_
      conv => whnf
      refine ⟨fun cz4 => ?_, fun cz4 => ?_⟩
      · replace h := (if_pos cz4).symm.trans h
        conv => whnf
        exact ih _ _ _ _ r h hx
      · replace h := (if_neg cz4).symm.trans h
        conv => whnf
        exact ih _ _ _ _ r h hx
/-- X8_lastShop -/
def d201 (a1 : Int32) (I : jI) : Option (Int32 × jI) :=
  (d201_5 a1 70 (-99999) 0 I).bind fun r3 =>
  some (r3.1, r3.2)
set_option maxHeartbeats 4000000 in
set_option maxRecDepth 20000 in
theorem D201 {d : Nat} {k : jK} {a1 : Int32} {I : jI} {L : jL} {r : Int32 × jI} (h : d201 a1 I = some r) (hk : k (some (.inl (.inl r.1))) (r.2, L)) : jPM d 201 [.inr (31, 0), .inl (.inl a1)] (I, L) k := by
  refine pM (fun d n => ?_)
  unfold d201 at h
  refine pn_go [5] 400 ?_
  conv => whnf
  obtain ⟨r3, hz1, h⟩ := obind h
  refine L201_5 _ _ _ _ _ _ hz1 (fun e3_r3 e4_r3 => ?_)
  refine pn_go [5] 400 ?_
  conv => whnf
  cases h
  exact hk
/-- X8_firstShop, loop at 5 -/
def d202_5 : Nat → Int32 → Int32 → jI → Option (Int32 × jI)
  | 0, _, _, _ => none
  | F + 1, x1, x2, I =>
    if (I 31 0 3) < x2 then
      some (x1, I)
    else
      (d199 0 x2 I).bind fun r1 =>
      (d200 1 r1).bind fun r2 =>
      (d201 1 r1).bind fun r3 =>
      if (r2 + r3.1) ≤ x1 then
        d202_5 F x1 (x2 + 1) r3.2
      else
        d202_5 F (r2 + r3.1) (x2 + 1) r3.2
set_option maxHeartbeats 4000000 in
set_option maxRecDepth 20000 in
theorem L202_5 {d n : Nat} {k : jK} {L : jL} : ∀ (F : Nat) (x1 : Int32) (x2 : Int32) (I : jI) (e3 : Option jV) (r : Int32 × jI), d202_5 F x1 x2 I = some r → (∀ (f2 f3 : Option jV), pn (jPM d) k none (jco 202) n (48, [some (.inr (31, 0)), some (.inl (.inl r.1)), f2, f3], [], r.2, L)) → pn (jPM d) k none (jco 202) n (5, [some (.inr (31, 0)), some (.inl (.inl x1)), some (.inl (.inl x2)), e3], [], I, L) := by
  intro F
  induction F with
  | zero => intro x1 x2 I e3 r h hx; cases h
  | succ F ih =>
    intro x1 x2 I e3 r h hx
    rw [d202_5] at h
    refine pn_go [5, 48] 400 ?_
    conv => whnf
    refine ⟨fun cz1 => ?_, fun cz1 => ?_⟩
    · replace h := (if_pos cz1).symm.trans h
      conv => whnf
      cases h
      exact hx _ _
    · replace h := (if_neg cz1).symm.trans h
      conv => whnf
      obtain ⟨r1, hz2, h⟩ := obind h
      refine D199 hz2 ?_
      conv => whnf
      obtain ⟨r2, hz3, h⟩ := obind h
      refine D200 hz3 ?_
      conv => whnf
      obtain ⟨r3, hz4, h⟩ := obind h
      refine D201 hz4 ?_
      conv => whnf
      refine ⟨fun cz5 => ?_, fun cz5 => ?_⟩
      · replace h := (if_pos cz5).symm.trans h
        conv => whnf
        exact ih _ _ _ _ r h hx
      · replace h := (if_neg cz5).symm.trans h
        conv => whnf
        exact ih _ _ _ _ r h hx
/-- X8_firstShop -/
def d202 (I : jI) : Option (Int32 × jI) :=
  (d202_5 70 (-99999) 0 I).bind fun r4 =>
  some (r4.1, r4.2)
set_option maxHeartbeats 4000000 in
set_option maxRecDepth 20000 in
theorem D202 {d : Nat} {k : jK} {I : jI} {L : jL} {r : Int32 × jI} (h : d202 I = some r) (hk : k (some (.inl (.inl r.1))) (r.2, L)) : jPM d 202 [.inr (31, 0)] (I, L) k := by
  refine pM (fun d n => ?_)
  unfold d202 at h
  refine pn_go [5] 400 ?_
  conv => whnf
  obtain ⟨r4, hz1, h⟩ := obind h
  refine L202_5 _ _ _ _ _ _ hz1 (fun e2_r4 e3_r4 => ?_)
  refine pn_go [5] 400 ?_
  conv => whnf
  cases h
  exact hk
/-- X8_shop, loop at 26 -/
def d203_26 (y1 : Int32) : Nat → Int32 → jI → Option (jI)
  | 0, _, _ => none
  | F + 1, x2, I =>
    if (I 31 0 3) ≤ x2 then
      some I
    else
      d203_26 y1 F (x2 + 1) (jup I 41 0 (Int32.toNatClampNeg x2) (I 32 0 (Int32.toNatClampNeg (23 + x2))))
set_option maxHeartbeats 4000000 in
set_option maxRecDepth 20000 in
theorem L203_26 {d n : Nat} {k : jK} {y1 : Int32} {L : jL} : ∀ (F : Nat) (x2 : Int32) (I : jI) (r : jI), d203_26 y1 F x2 I = some r → (∀ (f2 : Option jV), pn (jPM d) k none (jco 203) n (55, [some (.inr (31, 0)), some (.inl (.inl y1)), f2], [], r, L)) → pn (jPM d) k none (jco 203) n (26, [some (.inr (31, 0)), some (.inl (.inl y1)), some (.inl (.inl x2))], [], I, L) := by
  intro F
  induction F with
  | zero => intro x2 I r h hx; cases h
  | succ F ih =>
    intro x2 I r h hx
    rw [d203_26] at h
    refine pn_go [26, 55] 400 ?_
    conv => whnf
    refine ⟨fun cz1 => ?_, fun cz1 => ?_⟩
    · replace h := (if_pos cz1).symm.trans h
      conv => whnf
      cases h
      exact hx _
    · replace h := (if_neg cz1).symm.trans h
      conv => whnf
      intro _
      conv => whnf
      intro _
      conv => whnf
      exact ih _ _ r h hx
/-- X8_shop -/
def d203 (a1 : Int32) (I : jI) : Option (Int32 × jI) :=
  if (d124 (Int32.toInt64 a1) 0 2 I) = 0 then
    some ((-1), I)
  else
    if (I 31 0 3) = 0 then
      some ((-4), I)
    else
      (d203_26 a1 70 0 I).bind fun r1 =>
      if a1 = 0 then
        some (1, (jup r1 31 0 10 0))
      else
        if a1 = 1 then
          (d201 0 r1).bind fun r3 =>
          some (1, (jup r3.2 31 0 10 r3.1))
        else
          (d202 r1).bind fun r2 =>
          some (1, (jup r2.2 31 0 10 r2.1))
set_option maxHeartbeats 4000000 in
set_option maxRecDepth 20000 in
theorem D203 {d : Nat} {k : jK} {a1 : Int32} {I : jI} {L : jL} {r : Int32 × jI} (h : d203 a1 I = some r) (hk : k (some (.inl (.inl r.1))) (r.2, L)) : jPM d 203 [.inr (31, 0), .inl (.inl a1)] (I, L) k := by
  refine pM (fun d n => ?_)
  unfold d203 at h
  refine pn_go [26] 400 ?_
  conv => whnf
  refine D124 rfl ?_
  conv => whnf
  refine ⟨fun cz1 => ?_, fun cz1 => ?_⟩
  · replace h := (if_neg cz1).symm.trans h
    conv => whnf
    refine ⟨fun cz2 => ?_, fun cz2 => ?_⟩
    · replace h := (if_neg cz2).symm.trans h
      conv => whnf
      obtain ⟨r1, hz3, h⟩ := obind h
      refine L203_26 _ _ _ _ hz3 (fun e2_r1 => ?_)
      refine pn_go [26] 400 ?_
      conv => whnf
      refine ⟨fun cz4 => ?_, fun cz4 => ?_⟩
      · replace h := (if_neg cz4).symm.trans h
        conv => whnf
        refine ⟨fun cz5 => ?_, fun cz5 => ?_⟩
        · replace h := (if_neg cz5).symm.trans h
          conv => whnf
          obtain ⟨r2, hz6, h⟩ := obind h
          refine D202 hz6 ?_
          conv => whnf
          cases h
          exact hk
        · replace h := (if_pos cz5).symm.trans h
          conv => whnf
          obtain ⟨r3, hz7, h⟩ := obind h
          refine D201 hz7 ?_
          conv => whnf
          cases h
          exact hk
      · replace h := (if_pos cz4).symm.trans h
        conv => whnf
        cases h
        exact hk
    · replace h := (if_pos cz2).symm.trans h
      conv => whnf
      cases h
      exact hk
  · replace h := (if_pos cz1).symm.trans h
    conv => whnf
    cases h
    exact hk
/-- X8_tellThere, loop at 32 -/
def d204_32 (y1 : Int32) (y2 : Int32) (y3 : Int32) (y4 : Int64) (y6 : Int64) (y8 : Int32) (I : jI) : Nat → Int64 → Int32 → Int32 → Int32 → Option (Int64 × Int32 × Int32)
  | 0, _, _, _, _ => none
  | F + 1, x9, x11, x12, x13 =>
    if (I 31 0 3) ≤ x13 then
      some (x9, x11, x12)
    else
      if (d125 y8 x13 I) = 0 then
        if (d125 y8 x13 I) = 0 then
          if (d125 y8 x13 I) = 0 then
            d204_32 y1 y2 y3 y4 y6 y8 I F (x9 * (Int32.toInt64 (12 - y2))) (x11 + (d155 0 x13 I)) (x12 + (d153 0 x13 1 I)) (x13 + 1)
          else
            d204_32 y1 y2 y3 y4 y6 y8 I F (x9 * (Int32.toInt64 (12 - y2))) (x11 + (d155 0 x13 I)) (x12 + 0) (x13 + 1)
        else
          if (d125 y8 x13 I) = 0 then
            d204_32 y1 y2 y3 y4 y6 y8 I F (x9 * (Int32.toInt64 (12 - y2))) (x11 + 0) (x12 + (d153 0 x13 1 I)) (x13 + 1)
          else
            d204_32 y1 y2 y3 y4 y6 y8 I F (x9 * (Int32.toInt64 (12 - y2))) (x11 + 0) (x12 + 0) (x13 + 1)
      else
        if (d125 y8 x13 I) = 0 then
          if (d125 y8 x13 I) = 0 then
            d204_32 y1 y2 y3 y4 y6 y8 I F (x9 * (Int32.toInt64 y2)) (x11 + (d155 0 x13 I)) (x12 + (d153 0 x13 1 I)) (x13 + 1)
          else
            d204_32 y1 y2 y3 y4 y6 y8 I F (x9 * (Int32.toInt64 y2)) (x11 + (d155 0 x13 I)) (x12 + 0) (x13 + 1)
        else
          if (d125 y8 x13 I) = 0 then
            d204_32 y1 y2 y3 y4 y6 y8 I F (x9 * (Int32.toInt64 y2)) (x11 + 0) (x12 + (d153 0 x13 1 I)) (x13 + 1)
          else
            d204_32 y1 y2 y3 y4 y6 y8 I F (x9 * (Int32.toInt64 y2)) (x11 + 0) (x12 + 0) (x13 + 1)
set_option maxHeartbeats 4000000 in
set_option maxRecDepth 20000 in
theorem L204_32 {d n : Nat} {k : jK} {y1 : Int32} {y2 : Int32} {y3 : Int32} {y4 : Int64} {y6 : Int64} {y8 : Int32} {I : jI} {L : jL} : ∀ (F : Nat) (x9 : Int64) (x11 : Int32) (x12 : Int32) (x13 : Int32) (r : Int64 × Int32 × Int32), d204_32 y1 y2 y3 y4 y6 y8 I F x9 x11 x12 x13 = some r → (∀ (f13 : Option jV), pn (jPM d) k none (jco 204) n (125, [some (.inr (31, 0)), some (.inl (.inl y1)), some (.inl (.inl y2)), some (.inl (.inl y3)), some (.inl (.inr y4)), none, some (.inl (.inr y6)), none, some (.inl (.inl y8)), some (.inl (.inr r.1)), none, some (.inl (.inl r.2.1)), some (.inl (.inl r.2.2)), f13], [], I, L)) → pn (jPM d) k none (jco 204) n (32, [some (.inr (31, 0)), some (.inl (.inl y1)), some (.inl (.inl y2)), some (.inl (.inl y3)), some (.inl (.inr y4)), none, some (.inl (.inr y6)), none, some (.inl (.inl y8)), some (.inl (.inr x9)), none, some (.inl (.inl x11)), some (.inl (.inl x12)), some (.inl (.inl x13))], [], I, L) := by
  intro F
  induction F with
  | zero => intro x9 x11 x12 x13 r h hx; cases h
  | succ F ih =>
    intro x9 x11 x12 x13 r h hx
    rw [d204_32] at h
    refine pn_go [9, 32, 125] 400 ?_
    conv => whnf
    refine ⟨fun cz1 => ?_, fun cz1 => ?_⟩
    · replace h := (if_pos cz1).symm.trans h
      conv => whnf
      cases h
      exact hx _
    · replace h := (if_neg cz1).symm.trans h
      conv => whnf
      refine D125 rfl ?_
      conv => whnf
      refine ⟨fun cz2 => ?_, fun cz2 => ?_⟩
      · replace h := (if_pos cz2).symm.trans h
        conv => whnf
        refine D125 rfl ?_
        conv => whnf
        refine ⟨fun cz3 => ?_, fun cz3 => ?_⟩
        · replace h := (if_pos cz3).symm.trans h
          conv => whnf
          refine D155 rfl ?_
          conv => whnf
          refine D125 rfl ?_
          conv => whnf
          refine ⟨fun cz4 => ?_, fun cz4 => ?_⟩
          · replace h := (if_pos cz4).symm.trans h
            conv => whnf
            refine D153 rfl ?_
            conv => whnf
            exact ih _ _ _ _ r h hx
          · replace h := (if_neg cz4).symm.trans h
            conv => whnf
            exact ih _ _ _ _ r h hx
        · replace h := (if_neg cz3).symm.trans h
          conv => whnf
          refine D125 rfl ?_
          conv => whnf
          refine ⟨fun cz5 => ?_, fun cz5 => ?_⟩
          · replace h := (if_pos cz5).symm.trans h
            conv => whnf
            refine D153 rfl ?_
            conv => whnf
            exact ih _ _ _ _ r h hx
          · replace h := (if_neg cz5).symm.trans h
            conv => whnf
            exact ih _ _ _ _ r h hx
      · replace h := (if_neg cz2).symm.trans h
        conv => whnf
        refine D125 rfl ?_
        conv => whnf
        refine ⟨fun cz6 => ?_, fun cz6 => ?_⟩
        · replace h := (if_pos cz6).symm.trans h
          conv => whnf
          refine D155 rfl ?_
          conv => whnf
          refine D125 rfl ?_
          conv => whnf
          refine ⟨fun cz7 => ?_, fun cz7 => ?_⟩
          · replace h := (if_pos cz7).symm.trans h
            conv => whnf
            refine D153 rfl ?_
            conv => whnf
            exact ih _ _ _ _ r h hx
          · replace h := (if_neg cz7).symm.trans h
            conv => whnf
            exact ih _ _ _ _ r h hx
        · replace h := (if_neg cz6).symm.trans h
          conv => whnf
          refine D125 rfl ?_
          conv => whnf
          refine ⟨fun cz8 => ?_, fun cz8 => ?_⟩
          · replace h := (if_pos cz8).symm.trans h
            conv => whnf
            refine D153 rfl ?_
            conv => whnf
            exact ih _ _ _ _ r h hx
          · replace h := (if_neg cz8).symm.trans h
            conv => whnf
            exact ih _ _ _ _ r h hx
/-- X8_tellThere, loop at 9 -/
def d204_9 (y1 : Int32) (y2 : Int32) (y3 : Int32) (I : jI) : Nat → Int64 → Int64 → Int32 → Option (Int64 × Int64)
  | 0, _, _, _ => none
  | F + 1, x4, x6, x8 =>
    if (1 <<< ((I 31 0 3) &&& 31)) ≤ x8 then
      some (x4, x6)
    else
      (d204_32 y1 y2 y3 x4 x6 x8 I 80 1 0 0 0).bind fun r1 =>
      if y3 = 0 then
        if r1.2.1 < y1 then
          d204_9 y1 y2 y3 I F (x4 + 0) (x6 + r1.1) (x8 + 1)
        else
          d204_9 y1 y2 y3 I F (x4 + r1.1) (x6 + r1.1) (x8 + 1)
      else
        d204_9 y1 y2 y3 I F (x4 + (r1.1 * (Int32.toInt64 r1.2.2))) (x6 + r1.1) (x8 + 1)
set_option maxHeartbeats 4000000 in
set_option maxRecDepth 20000 in
theorem L204_9 {d n : Nat} {k : jK} {y1 : Int32} {y2 : Int32} {y3 : Int32} {I : jI} {L : jL} : ∀ (F : Nat) (x4 : Int64) (x6 : Int64) (x8 : Int32) (e9 e10 e11 e12 e13 : Option jV) (r : Int64 × Int64), d204_9 y1 y2 y3 I F x4 x6 x8 = some r → (∀ (f8 f9 f10 f11 f12 f13 : Option jV), pn (jPM d) k none (jco 204) n (168, [some (.inr (31, 0)), some (.inl (.inl y1)), some (.inl (.inl y2)), some (.inl (.inl y3)), some (.inl (.inr r.1)), none, some (.inl (.inr r.2)), none, f8, f9, f10, f11, f12, f13], [], I, L)) → pn (jPM d) k none (jco 204) n (9, [some (.inr (31, 0)), some (.inl (.inl y1)), some (.inl (.inl y2)), some (.inl (.inl y3)), some (.inl (.inr x4)), none, some (.inl (.inr x6)), none, some (.inl (.inl x8)), e9, e10, e11, e12, e13], [], I, L) := by
  intro F
  induction F with
  | zero => intro x4 x6 x8 e9 e10 e11 e12 e13 r h hx; cases h
  | succ F ih =>
    intro x4 x6 x8 e9 e10 e11 e12 e13 r h hx
    rw [d204_9] at h
    refine pn_go [9, 32, 168] 400 ?_
    conv => whnf
    refine ⟨fun cz1 => ?_, fun cz1 => ?_⟩
    · replace h := (if_pos cz1).symm.trans h
      conv => whnf
      cases h
      exact hx _ _ _ _ _ _
    · replace h := (if_neg cz1).symm.trans h
      conv => whnf
      obtain ⟨r1, hz2, h⟩ := obind h
      refine L204_32 _ _ _ _ _ _ hz2 (fun e13_r1 => ?_)
      refine pn_go [9, 32, 168] 400 ?_
      conv => whnf
      refine ⟨fun cz3 => ?_, fun cz3 => ?_⟩
      · replace h := (if_pos cz3).symm.trans h
        conv => whnf
        refine ⟨fun cz4 => ?_, fun cz4 => ?_⟩
        · replace h := (if_pos cz4).symm.trans h
          conv => whnf
          exact ih _ _ _ _ _ _ _ _ r h hx
        · replace h := (if_neg cz4).symm.trans h
          conv => whnf
          exact ih _ _ _ _ _ _ _ _ r h hx
      · replace h := (if_neg cz3).symm.trans h
        conv => whnf
        exact ih _ _ _ _ _ _ _ _ r h hx
/-- X8_tellThere -/
def d204 (a1 : Int32) (a2 : Int32) (a3 : Int32) (I : jI) (L : jL) : Option (Int32 × jL) :=
  (d204_9 a1 a2 a3 I 80 0 0 0).bind fun r2 =>
  (d178 r2.1 r2.2 I L).bind fun r3 =>
  some (r3.1, r3.2)
set_option maxHeartbeats 4000000 in
set_option maxRecDepth 20000 in
theorem D204 {d : Nat} {k : jK} {a1 : Int32} {a2 : Int32} {a3 : Int32} {I : jI} {L : jL} {r : Int32 × jL} (h : d204 a1 a2 a3 I L = some r) (hk : k (some (.inl (.inl r.1))) (I, r.2)) : jPM d 204 [.inr (31, 0), .inl (.inl a1), .inl (.inl a2), .inl (.inl a3)] (I, L) k := by
  refine pM (fun d n => ?_)
  unfold d204 at h
  refine pn_go [9, 32] 400 ?_
  conv => whnf
  obtain ⟨r2, hz1, h⟩ := obind h
  refine L204_9 _ _ _ _ _ _ _ _ _ _ hz1 (fun e8_r2 e9_r2 e10_r2 e11_r2 e12_r2 e13_r2 => ?_)
  refine pn_go [9, 32] 400 ?_
  conv => whnf
  obtain ⟨r3, hz2, h⟩ := obind h
  refine D178 hz2 ?_
  conv => whnf
  cases h
  exact hk
