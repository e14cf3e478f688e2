/-- X8_power, loop at 4 -/
def d183_4 (y0 : Int32) (y1 : Int32) (I : jI) : Nat → Int32 → Int32 → Option (Int32)
  | 0, _, _ => none
  | F + 1, x2, x3 =>
    if y1 ≤ x3 then
      some x2
    else
      d183_4 y0 y1 I F (x2 * y0) (x3 + 1)
set_option maxHeartbeats 4000000 in
set_option maxRecDepth 20000 in
theorem L183_4 {d n : Nat} {k : jK} {y0 : Int32} {y1 : Int32} {I : jI} {L : jL} : ∀ (F : Nat) (x2 : Int32) (x3 : Int32) (r : Int32), d183_4 y0 y1 I F x2 x3 = some r → (∀ (f3 : Option jV), pn (jPM d) k none (jco 183) n (19, [some (.inl (.inl y0)), some (.inl (.inl y1)), some (.inl (.inl r)), f3], [], I, L)) → pn (jPM d) k none (jco 183) n (4, [some (.inl (.inl y0)), some (.inl (.inl y1)), some (.inl (.inl x2)), some (.inl (.inl x3))], [], I, L) := by
  intro F
  induction F with
  | zero => intro x2 x3 r h hx; cases h
  | succ F ih =>
    intro x2 x3 r h hx
    rw [d183_4] at h
    refine pn_go [4, 19] 400 ?_
    conv => whnf
    refine ⟨fun cz1 => ?_, fun cz1 => ?_⟩
    · replace h := (if_pos cz1).symm.trans h
      conv => whnf
      cases h
      exact hx _
    · replace h := (if_neg cz1).symm.trans h
      conv => whnf
      exact ih _ _ r h hx
/-- X8_power -/
def d183 (a0 : Int32) (a1 : Int32) (I : jI) : Option (Int32) :=
  (d183_4 a0 a1 I 70 1 0).bind fun r1 =>
  some r1
set_option maxHeartbeats 4000000 in
set_option maxRecDepth 20000 in
theorem D183 {d : Nat} {k : jK} {a0 : Int32} {a1 : Int32} {I : jI} {L : jL} {r : Int32} (h : d183 a0 a1 I = some r) (hk : k (some (.inl (.inl r))) (I, L)) : jPM d 183 [.inl (.inl a0), .inl (.inl a1)] (I, L) k := by
  refine pM (fun d n => ?_)
  unfold d183 at h
  refine pn_go [4] 400 ?_
  conv => whnf
  obtain ⟨r1, hz1, h⟩ := obind h
  refine L183_4 _ _ _ _ hz1 (fun e3_r1 => ?_)
  refine pn_go [4] 400 ?_
  conv => whnf
  cases h
  exact hk
/-- X8_least, loop at 63 -/
def d184_63 (y1 : Int32) (y2 : Int32) (y3 : Int32) (y4 : Int32) (y5 : Int32) (I : jI) : Nat → Int32 → Int32 → Int32 → Option (Int32 × Int32)
  | 0, _, _, _ => none
  | F + 1, x6, x7, x8 =>
    if (I 31 0 3) ≤ x8 then
      some (x6, x7)
    else
      d184_63 y1 y2 y3 y4 y5 I F (x6 + (d153 0 x8 ((y5 >>> ((2 * (((I 31 0 3) - 1) - x8)) &&& 31)) &&& 3) I)) (x7 + (((y5 >>> ((2 * (((I 31 0 3) - 1) - x8)) &&& 31)) &&& 3) * (d155 0 x8 I))) (x8 + 1)
set_option maxHeartbeats 4000000 in
set_option maxRecDepth 20000 in
theorem L184_63 {d n : Nat} {k : jK} {y1 : Int32} {y2 : Int32} {y3 : Int32} {y4 : Int32} {y5 : Int32} {I : jI} {L : jL} : ∀ (F : Nat) (x6 : Int32) (x7 : Int32) (x8 : Int32) (e9 : Option jV) (r : Int32 × Int32), d184_63 y1 y2 y3 y4 y5 I F x6 x7 x8 = some r → (∀ (f8 f9 : Option jV), pn (jPM d) k none (jco 184) n (125, [some (.inr (31, 0)), some (.inl (.inl y1)), some (.inl (.inl y2)), some (.inl (.inl y3)), some (.inl (.inl y4)), some (.inl (.inl y5)), some (.inl (.inl r.1)), some (.inl (.inl r.2)), f8, f9], [], I, L)) → pn (jPM d) k none (jco 184) n (63, [some (.inr (31, 0)), some (.inl (.inl y1)), some (.inl (.inl y2)), some (.inl (.inl y3)), some (.inl (.inl y4)), some (.inl (.inl y5)), some (.inl (.inl x6)), some (.inl (.inl x7)), some (.inl (.inl x8)), e9], [], I, L) := by
  intro F
  induction F with
  | zero => intro x6 x7 x8 e9 r h hx; cases h
  | succ F ih =>
    intro x6 x7 x8 e9 r h hx
    rw [d184_63] at h
    refine pn_go [41, 63, 125, 172] 400 ?_
    conv => whnf
    refine ⟨fun cz1 => ?_, fun cz1 => ?_⟩
    · replace h := (if_pos cz1).symm.trans h
      conv => whnf
      cases h
      exact hx _ _
    · replace h := (if_neg cz1).symm.trans h
      conv => whnf
      refine D153 rfl ?_
      conv => whnf
      refine D155 rfl ?_
      conv => whnf
      exact ih _ _ _ _ r h hx
/-- X8_least, loop at 41 -/
def d184_41 (y1 : Int32) (y2 : Int32) (I : jI) : Nat → Int32 → Int32 → Int32 → Option (Int32 × Int32)
  | 0, _, _, _ => none
  | F + 1, x3, x4, x5 =>
    (d183 4 (I 31 0 3) I).bind fun r1 =>
    if r1 ≤ x5 then
      some (x3, x4)
    else
      (d184_63 y1 y2 x3 x4 x5 I 5000 0 0 0).bind fun r2 =>
      if r2.2 < y1 then
        d184_41 y1 y2 I F x3 x4 (x5 + 1)
      else
        if x3 ≤ r2.1 then
          d184_41 y1 y2 I F x3 x4 (x5 + 1)
        else
          d184_41 y1 y2 I F r2.1 x5 (x5 + 1)
set_option maxHeartbeats 4000000 in
set_option maxRecDepth 20000 in
theorem L184_41 {d n : Nat} {k : jK} {y1 : Int32} {y2 : Int32} {I : jI} {L : jL} : ∀ (F : Nat) (x3 : Int32) (x4 : Int32) (x5 : Int32) (e6 e7 e8 e9 : Option jV) (r : Int32 × Int32), d184_41 y1 y2 I F x3 x4 x5 = some r → (∀ (f5 f6 f7 f8 f9 : Option jV), pn (jPM d) k none (jco 184) n (150, [some (.inr (31, 0)), some (.inl (.inl y1)), some (.inl (.inl y2)), some (.inl (.inl r.1)), some (.inl (.inl r.2)), f5, f6, f7, f8, f9], [], I, L)) → pn (jPM d) k none (jco 184) n (41, [some (.inr (31, 0)), some (.inl (.inl y1)), some (.inl (.inl y2)), some (.inl (.inl x3)), some (.inl (.inl x4)), some (.inl (.inl x5)), e6, e7, e8, e9], [], I, L) := by
  intro F
  induction F with
  | zero => intro x3 x4 x5 e6 e7 e8 e9 r h hx; cases h
  | succ F ih =>
    intro x3 x4 x5 e6 e7 e8 e9 r h hx
    rw [d184_41] at h
    refine pn_go [41, 63, 150, 172] 400 ?_
    conv => whnf
    obtain ⟨r1, hz1, h⟩ := obind h
    refine D183 hz1 ?_
    conv => whnf
    refine ⟨fun cz2 => ?_, fun cz2 => ?_⟩
    · replace h := (if_pos cz2).symm.trans h
      conv => whnf
      cases h
      exact hx _ _ _ _ _
    · replace h := (if_neg cz2).symm.trans h
      conv => whnf
      obtain ⟨r2, hz3, h⟩ := obind h
      refine L184_63 _ _ _ _ _ _ hz3 (fun e8_r2 e9_r2 => ?_)
      refine pn_go [41, 63, 150, 172] 400 ?_
      conv => whnf
      refine ⟨fun cz4 => ?_, fun cz4 => ?_⟩
      · replace h := (if_pos cz4).symm.trans h
        conv => whnf
        exact ih _ _ _ _ _ _ _ r h hx
      · replace h := (if_neg cz4).symm.trans h
        conv => whnf
        refine ⟨fun cz5 => ?_, fun cz5 => ?_⟩
        · replace h := (if_pos cz5).symm.trans h
          conv => whnf
          exact ih _ _ _ _ _ _ _ r h hx
        · replace h := (if_neg cz5).symm.trans h
          conv => whnf
          exact ih _ _ _ _ _ _ _ r h hx
/-- X8_least, loop at 172 -/
def d184_172 (y2 : Int32) (y3 : Int32) (y4 : Int32) : Nat → Int32 → jI → Option (jI)
  | 0, _, _ => none
  | F + 1, x5, I =>
    if (I 31 0 3) ≤ x5 then
      some I
    else
      d184_172 y2 y3 y4 F (x5 + 1) (jup I 36 0 (Int32.toNatClampNeg ((40 * y2) + x5)) ((y4 >>> ((2 * (((I 31 0 3) - 1) - x5)) &&& 31)) &&& 3))
set_option maxHeartbeats 4000000 in
set_option maxRecDepth 20000 in
theorem L184_172 {d n : Nat} {k : jK} {y2 : Int32} {y3 : Int32} {y4 : Int32} {L : jL} : ∀ (F : Nat) (x5 : Int32) (I : jI) (e1 e6 e7 e8 e9 : Option jV) (r : jI), d184_172 y2 y3 y4 F x5 I = some r → (∀ (f1 f5 f6 f7 f8 f9 : Option jV), pn (jPM d) k none (jco 184) n (215, [some (.inr (31, 0)), f1, some (.inl (.inl y2)), some (.inl (.inl y3)), some (.inl (.inl y4)), f5, f6, f7, f8, f9], [], r, L)) → pn (jPM d) k none (jco 184) n (172, [some (.inr (31, 0)), e1, some (.inl (.inl y2)), some (.inl (.inl y3)), some (.inl (.inl y4)), some (.inl (.inl x5)), e6, e7, e8, e9], [], I, L) := by
  intro F
  induction F with
  | zero => intro x5 I e1 e6 e7 e8 e9 r h hx; cases h
  | succ F ih =>
    intro x5 I e1 e6 e7 e8 e9 r h hx
    rw [d184_172] at h
    refine pn_go [41, 63, 172, 215] 400 ?_
    conv => whnf
    refine ⟨fun cz1 => ?_, fun cz1 => ?_⟩
    · replace h := (if_pos cz1).symm.trans h
      conv => whnf
      cases h
      exact hx _ _ _ _ _ _
    · replace h := (if_neg cz1).symm.trans h
      conv => whnf
      intro _
      conv => whnf
      exact ih _ _ _ _ _ _ _ r h hx
/-- X8_least -/
def d184 (a1 : Int32) (a2 : Int32) (I : jI) : Option (Int32 × jI) :=
  if (d124 (Int32.toInt64 a1) 0 30 I) = 0 then
    some ((-1), I)
  else
    if (d128 a2 I) = 0 then
      some ((-1), I)
    else
      if (I 31 0 3) = 0 then
        some ((-4), I)
      else
        (d184_41 a1 a2 I 5000 99999 (-9) 0).bind fun r3 =>
        if r3.2 = (-9) then
          some ((-9), I)
        else
          (d131 a2 (I 31 0 3) I).bind fun r4 =>
          (d184_172 a2 r3.1 r3.2 5000 0 r4).bind fun r5 =>
          some (r3.1, r5)
set_option maxHeartbeats 4000000 in
set_option maxRecDepth 20000 in
theorem D184 {d : Nat} {k : jK} {a1 : Int32} {a2 : Int32} {I : jI} {L : jL} {r : Int32 × jI} (h : d184 a1 a2 I = some r) (hk : k (some (.inl (.inl r.1))) (r.2, L)) : jPM d 184 [.inr (31, 0), .inl (.inl a1), .inl (.inl a2)] (I, L) k := by
  refine pM (fun d n => ?_)
  unfold d184 at h
  refine pn_go [41, 63, 172] 400 ?_
  conv => whnf
  refine D124 rfl ?_
  conv => whnf
  refine ⟨fun cz1 => ?_, fun cz1 => ?_⟩
  · replace h := (if_pos cz1).symm.trans h
    conv => whnf
    cases h
    exact hk
  · replace h := (if_neg cz1).symm.trans h
    conv => whnf
    refine D128 rfl ?_
    conv => whnf
    refine ⟨fun cz2 => ?_, fun cz2 => ?_⟩
    · replace h := (if_neg cz2).symm.trans h
      conv => whnf
      refine ⟨fun cz3 => ?_, fun cz3 => ?_⟩
      · replace h := (if_neg cz3).symm.trans h
        conv => whnf
        obtain ⟨r3, hz4, h⟩ := obind h
        refine L184_41 _ _ _ _ _ _ _ _ _ hz4 (fun e5_r3 e6_r3 e7_r3 e8_r3 e9_r3 => ?_)
        refine pn_go [41, 63, 172] 400 ?_
        conv => whnf
        refine ⟨fun cz5 => ?_, fun cz5 => ?_⟩
        · replace h := (if_neg cz5).symm.trans h
          conv => whnf
          obtain ⟨r4, hz6, h⟩ := obind h
          refine D131 hz6 ?_
          conv => whnf
          obtain ⟨r5, hz7, h⟩ := obind h
          refine L184_172 _ _ _ _ _ _ _ _ _ hz7 (fun e1_r5 e5_r5 e6_r5 e7_r5 e8_r5 e9_r5 => ?_)
          refine pn_go [41, 63, 172] 400 ?_
          conv => whnf
          cases h
          exact hk
        · replace h := (if_pos cz5).symm.trans h
          conv => whnf
          cases h
          exact hk
      · replace h := (if_pos cz3).symm.trans h
        conv => whnf
        cases h
        exact hk
    · replace h := (if_pos cz2).symm.trans h
      conv => whnf
      cases h
      exact hk
/-- X8_layTried, loop at 2 -/
def d185_2 : Nat → Int32 → jI → Option (jI)
  | 0, _, _ => none
  | F + 1, x1, I =>
    if 29 ≤ x1 then
      some I
    else
      d185_2 F (x1 + 1) (jup I 32 0 (Int32.toNatClampNeg (4596 + x1)) (I 32 0 (Int32.toNatClampNeg x1)))
set_option maxHeartbeats 4000000 in
set_option maxRecDepth 20000 in
theorem L185_2 {d n : Nat} {k : jK} {L : jL} : ∀ (F : Nat) (x1 : Int32) (I : jI) (r : jI), d185_2 F x1 I = some r → (∀ (f1 : Option jV), pn (jPM d) k none (jco 185) n (30, [some (.inr (31, 0)), f1], [], r, L)) → pn (jPM d) k none (jco 185) n (2, [some (.inr (31, 0)), some (.inl (.inl x1))], [], I, L) := by
  intro F
  induction F with
  | zero => intro x1 I r h hx; cases h
  | succ F ih =>
    intro x1 I r h hx
    rw [d185_2] at h
    refine pn_go [2, 30] 400 ?_
    conv => whnf
    refine ⟨fun cz1 => ?_, fun cz1 => ?_⟩
    · replace h := (if_pos cz1).symm.trans h
      conv => whnf
      cases h
      exact hx _
    · replace h := (if_neg cz1).symm.trans h
      conv => whnf
      intro _
      conv => whnf
      intro _
      conv => whnf
      exact ih _ _ r h hx
/-- X8_layTried -/
def d185 (I : jI) : Option (jI) :=
  (d185_2 70 0 I).bind fun r1 =>
  some r1
set_option maxHeartbeats 4000000 in
set_option maxRecDepth 20000 in
theorem D185 {d : Nat} {k : jK} {I : jI} {L : jL} {r : jI} (h : d185 I = some r) (hk : k none (r, L)) : jPM d 185 [.inr (31, 0)] (I, L) k := by
  refine pM (fun d n => ?_)
  unfold d185 at h
  refine pn_go [2] 400 ?_
  conv => whnf
  obtain ⟨r1, hz1, h⟩ := obind h
  refine L185_2 _ _ _ _ hz1 (fun e1_r1 => ?_)
  refine pn_go [2] 400 ?_
  conv => whnf
  cases h
  exact hk
/-- X8_chosen -/
def d186 (a1 : Int32) (a2 : Int32) (a3 : Int32) (I : jI) : Option (Int32) :=
  (d183 ((I 31 0 3) + 1) ((a2 - 1) - a3) I).bind fun r1 =>
  some (((a1 / r1) - (a1 / r1) / ((I 31 0 3) + 1) * ((I 31 0 3) + 1)) - 1)
set_option maxHeartbeats 4000000 in
set_option maxRecDepth 20000 in
theorem D186 {d : Nat} {k : jK} {a1 : Int32} {a2 : Int32} {a3 : Int32} {I : jI} {L : jL} {r : Int32} (h : d186 a1 a2 a3 I = some r) (hk : k (some (.inl (.inl r))) (I, L)) : jPM d 186 [.inr (31, 0), .inl (.inl a1), .inl (.inl a2), .inl (.inl a3)] (I, L) k := by
  refine pM (fun d n => ?_)
  unfold d186 at h
  refine pn_go [] 400 ?_
  conv => whnf
  obtain ⟨r1, hz1, h⟩ := obind h
  refine D183 hz1 ?_
  conv => whnf
  intro _
  conv => whnf
  intro _
  conv => whnf
  cases h
  exact hk
/-- X8_isWell, loop at 6 -/
def d187_6 (y1 : Int32) (y2 : Int32) : Nat → Int32 → jI → Option ((Int32 × jI) ⊕ (jI))
  | 0, _, _ => none
  | F + 1, x3, I =>
    if y2 ≤ x3 then
      some (.inr I)
    else
      (d186 y1 y2 x3 I).bind fun r2 =>
      if r2 < 0 then
        (d167 4596 I).bind fun r3 =>
        d187_6 y1 y2 F (x3 + 1) r3.2
      else
        (d164 4596 r2 1 I).bind fun r4 =>
        if r4 = 0 then
          some (.inl (0, I))
        else
          (d167 4596 ((d165 4596 r2 1 I).2)).bind fun r5 =>
          d187_6 y1 y2 F (x3 + 1) r5.2
set_option maxHeartbeats 4000000 in
set_option maxRecDepth 20000 in
theorem L187_6 {d n : Nat} {k : jK} {y1 : Int32} {y2 : Int32} {L : jL} : ∀ (F : Nat) (x3 : Int32) (I : jI) (e4 : Option jV) (r : (Int32 × jI) ⊕ (jI)), d187_6 y1 y2 F x3 I = some r → ((∀ q, r = .inl q → k (some (.inl (.inl q.1))) (q.2, L)) ∧ (∀ q, r = .inr q → ∀ (f3 f4 : Option jV), pn (jPM d) k none (jco 187) n (65, [some (.inr (31, 0)), some (.inl (.inl y1)), some (.inl (.inl y2)), f3, f4], [], q, L))) → pn (jPM d) k none (jco 187) n (6, [some (.inr (31, 0)), some (.inl (.inl y1)), some (.inl (.inl y2)), some (.inl (.inl x3)), e4], [], I, L) := by
  intro F
  induction F with
  | zero => intro x3 I e4 r h hx; cases h
  | succ F ih =>
    intro x3 I e4 r h hx
    rw [d187_6] at h
    refine pn_go [6, 65] 400 ?_
    conv => whnf
    refine ⟨fun cz1 => ?_, fun cz1 => ?_⟩
    · replace h := (if_pos cz1).symm.trans h
      conv => whnf
      cases h
      exact hx.2 _ rfl _ _
    · replace h := (if_neg cz1).symm.trans h
      conv => whnf
      obtain ⟨r2, hz2, h⟩ := obind h
      refine D186 hz2 ?_
      conv => whnf
      refine ⟨fun cz3 => ?_, fun cz3 => ?_⟩
      · replace h := (if_pos cz3).symm.trans h
        conv => whnf
        obtain ⟨r3, hz4, h⟩ := obind h
        refine D167 hz4 ?_
        conv => whnf
        exact ih _ _ _ r h hx
      · replace h := (if_neg cz3).symm.trans h
        conv => whnf
        obtain ⟨r4, hz5, h⟩ := obind h
        refine D164 hz5 ?_
        conv => whnf
        refine ⟨fun cz6 => ?_, fun cz6 => ?_⟩
        · replace h := (if_neg cz6).symm.trans h
          conv => whnf
          refine D165 rfl ?_
          conv => whnf
          obtain ⟨r5, hz7, h⟩ := obind h
          refine D167 hz7 ?_
          conv => whnf
          exact ih _ _ _ r h hx
        · replace h := (if_pos cz6).symm.trans h
          conv => whnf
          cases h
          exact fun _ => hx.1 _ rfl
/-- X8_isWell -/
def d187 (a1 : Int32) (a2 : Int32) (I : jI) : Option (Int32 × jI) :=
  (d185 I).bind fun r1 =>
  (d187_6 a1 a2 70 0 r1).bind fun r6 => match r6 with
  | .inl q7 => some q7
  | .inr q7 =>
    if (q7 32 0 (Int32.toNatClampNeg 4600)) = (q7 32 0 (Int32.toNatClampNeg 4)) then
      some (1, q7)
    else
      some (0, q7)
set_option maxHeartbeats 4000000 in
set_option maxRecDepth 20000 in
theorem D187 {d : Nat} {k : jK} {a1 : Int32} {a2 : Int32} {I : jI} {L : jL} {r : Int32 × jI} (h : d187 a1 a2 I = some r) (hk : k (some (.inl (.inl r.1))) (r.2, L)) : jPM d 187 [.inr (31, 0), .inl (.inl a1), .inl (.inl a2)] (I, L) k := by
  refine pM (fun d n => ?_)
  unfold d187 at h
  refine pn_go [6] 400 ?_
  conv => whnf
  obtain ⟨r1, hz1, h⟩ := obind h
  refine D185 hz1 ?_
  conv => whnf
  obtain ⟨r6, hz2, h⟩ := obind h
  rcases r6 with q7 | q7
  · dsimp only at h
    refine L187_6 _ _ _ _ _ hz2 ⟨fun q e => ?_, fun q e => by cases e⟩
    cases e
    cases h
    exact hk
  · dsimp only at h
    refine L187_6 _ _ _ _ _ hz2 ⟨fun q e => (by cases e), fun q e e3_r6 e4_r6 => ?_⟩
    cases e
    refine pn_go [6] 400 ?_
    conv => whnf
    intro _
    conv => whnf
    intro _
    conv => whnf
    refine ⟨fun cz3 => ?_, fun cz3 => ?_⟩
    · replace h := (if_neg cz3).symm.trans h
      conv => whnf
      cases h
      exact fun _ => hk
    · replace h := (if_pos cz3).symm.trans h
      conv => whnf
      cases h
      exact fun _ => hk
/-- X8_weeks, loop at 41 -/
def d188_41 (y1 : Int32) (y2 : Int32) : Nat → Int32 → Int32 → Int32 → jI → Option (Int32 × Int32 × jI)
  | 0, _, _, _, _ => none
  | F + 1, x3, x4, x5, I =>
    (d183 ((I 31 0 3) + 1) y1 I).bind fun r1 =>
    if r1 ≤ x5 then
      some (x3, x4, I)
    else
      (d187 x5 y1 I).bind fun r2 =>
      if r2.1 = 0 then
        d188_41 y1 y2 F x3 x4 (x5 + 1) r2.2
      else
        if x3 ≤ ((r2.2 32 0 (Int32.toNatClampNeg 4598)) - (r2.2 32 0 (Int32.toNatClampNeg 2))) then
          d188_41 y1 y2 F x3 x4 (x5 + 1) r2.2
        else
          d188_41 y1 y2 F ((r2.2 32 0 (Int32.toNatClampNeg 4598)) - (r2.2 32 0 (Int32.toNatClampNeg 2))) x5 (x5 + 1) r2.2
set_option maxHeartbeats 4000000 in
set_option maxRecDepth 20000 in
theorem L188_41 {d n : Nat} {k : jK} {y1 : Int32} {y2 : Int32} {L : jL} : ∀ (F : Nat) (x3 : Int32) (x4 : Int32) (x5 : Int32) (I : jI) (e6 : Option jV) (r : Int32 × Int32 × jI), d188_41 y1 y2 F x3 x4 x5 I = some r → (∀ (f5 f6 : Option jV), pn (jPM d) k none (jco 188) n (111, [some (.inr (31, 0)), some (.inl (.inl y1)), some (.inl (.inl y2)), some (.inl (.inl r.1)), some (.inl (.inl r.2.1)), f5, f6], [], r.2.2, L)) → pn (jPM d) k none (jco 188) n (41, [some (.inr (31, 0)), some (.inl (.inl y1)), some (.inl (.inl y2)), some (.inl (.inl x3)), some (.inl (.inl x4)), some (.inl (.inl x5)), e6], [], I, L) := by
  intro F
  induction F with
  | zero => intro x3 x4 x5 I e6 r h hx; cases h
  | succ F ih =>
    intro x3 x4 x5 I e6 r h hx
    rw [d188_41] at h
    refine pn_go [41, 111, 130] 400 ?_
    conv => whnf
    obtain ⟨r1, hz1, h⟩ := obind h
    refine D183 hz1 ?_
    conv => whnf
    refine ⟨fun cz2 => ?_, fun cz2 => ?_⟩
    · replace h := (if_pos cz2).symm.trans h
      conv => whnf
      cases h
      exact hx _ _
    · replace h := (if_neg cz2).symm.trans h
      conv => whnf
      obtain ⟨r2, hz3, h⟩ := obind h
      refine D187 hz3 ?_
      conv => whnf
      refine ⟨fun cz4 => ?_, fun cz4 => ?_⟩
      · replace h := (if_pos cz4).symm.trans h
        conv => whnf
        exact ih _ _ _ _ _ r h hx
      · replace h := (if_neg cz4).symm.trans h
        conv => whnf
        intro _
        conv => whnf
        intro _
        conv => whnf
        refine ⟨fun cz5 => ?_, fun cz5 => ?_⟩
        · replace h := (if_pos cz5).symm.trans h
          conv => whnf
          exact ih _ _ _ _ _ r h hx
        · replace h := (if_neg cz5).symm.trans h
          conv => whnf
          intro _
          conv => whnf
          intro _
          conv => whnf
          exact ih _ _ _ _ _ r h hx
/-- X8_weeks, loop at 130 -/
def d188_130 (y1 : Int32) (y2 : Int32) (y3 : Int32) (y4 : Int32) : Nat → Int32 → jI → Option (jI)
  | 0, _, _ => none
  | F + 1, x5, I =>
    if y1 ≤ x5 then
      some I
    else
      (d186 y4 y1 x5 I).bind fun r5 =>
      if 0 ≤ r5 then
        d188_130 y1 y2 y3 y4 F (x5 + 1) (jup I 36 0 (Int32.toNatClampNeg ((40 * y2) + x5)) r5)
      else
        d188_130 y1 y2 y3 y4 F (x5 + 1) (jup I 36 0 (Int32.toNatClampNeg ((40 * y2) + x5)) (-9))
set_option maxHeartbeats 4000000 in
set_option maxRecDepth 20000 in
theorem L188_130 {d n : Nat} {k : jK} {y1 : Int32} {y2 : Int32} {y3 : Int32} {y4 : Int32} {L : jL} : ∀ (F : Nat) (x5 : Int32) (I : jI) (e6 : Option jV) (r : jI), d188_130 y1 y2 y3 y4 F x5 I = some r → (∀ (f5 f6 : Option jV), pn (jPM d) k none (jco 188) n (177, [some (.inr (31, 0)), some (.inl (.inl y1)), some (.inl (.inl y2)), some (.inl (.inl y3)), some (.inl (.inl y4)), f5, f6], [], r, L)) → pn (jPM d) k none (jco 188) n (130, [some (.inr (31, 0)), some (.inl (.inl y1)), some (.inl (.inl y2)), some (.inl (.inl y3)), some (.inl (.inl y4)), some (.inl (.inl x5)), e6], [], I, L) := by
  intro F
  induction F with
  | zero => intro x5 I e6 r h hx; cases h
  | succ F ih =>
    intro x5 I e6 r h hx
    rw [d188_130] at h
    refine pn_go [41, 130, 177] 400 ?_
    conv => whnf
    refine ⟨fun cz1 => ?_, fun cz1 => ?_⟩
    · replace h := (if_pos cz1).symm.trans h
      conv => whnf
      cases h
      exact hx _ _
    · replace h := (if_neg cz1).symm.trans h
      conv => whnf
      obtain ⟨r5, hz2, h⟩ := obind h
      refine D186 hz2 ?_
      conv => whnf
      refine ⟨fun cz3 => ?_, fun cz3 => ?_⟩
      · replace h := (if_pos cz3).symm.trans h
        conv => whnf
        intro _
        conv => whnf
        exact ih _ _ _ r h hx
      · replace h := (if_neg cz3).symm.trans h
        conv => whnf
        intro _
        conv => whnf
        exact ih _ _ _ r h hx
/-- X8_weeks -/
def d188 (a1 : Int32) (a2 : Int32) (I : jI) : Option (Int32 × jI) :=
  if (d124 (Int32.toInt64 a1) 0 3 I) = 0 then
    some ((-1), I)
  else
    if (d128 a2 I) = 0 then
      some ((-1), I)
    else
      if (I 31 0 3) = 0 then
        some ((-4), I)
      else
        (d188_41 a1 a2 400 99999 (-9) 0 I).bind fun r3 =>
        if r3.2.1 = (-9) then
          some ((-9), r3.2.2)
        else
          (d131 a2 a1 r3.2.2).bind fun r4 =>
          (d188_130 a1 a2 r3.1 r3.2.1 400 0 r4).bind fun r6 =>
          some (r3.1, r6)
set_option maxHeartbeats 4000000 in
set_option maxRecDepth 20000 in
theorem D188 {d : Nat} {k : jK} {a1 : Int32} {a2 : Int32} {I : jI} {L : jL} {r : Int32 × jI} (h : d188 a1 a2 I = some r) (hk : k (some (.inl (.inl r.1))) (r.2, L)) : jPM d 188 [.inr (31, 0), .inl (.inl a1), .inl (.inl a2)] (I, L) k := by
  refine pM (fun d n => ?_)
  unfold d188 at h
  refine pn_go [41, 130] 400 ?_
  conv => whnf
  refine D124 rfl ?_
  conv => whnf
  refine ⟨fun cz1 => ?_, fun cz1 => ?_⟩
  · replace h := (if_pos cz1).symm.trans h
    conv => whnf
    cases h
    exact hk
  · replace h := (if_neg cz1).symm.trans h
    conv => whnf
    refine D128 rfl ?_
    conv => whnf
    refine ⟨fun cz2 => ?_, fun cz2 => ?_⟩
    · replace h := (if_neg cz2).symm.trans h
      conv => whnf
      refine ⟨fun cz3 => ?_, fun cz3 => ?_⟩
      · replace h := (if_neg cz3).symm.trans h
        conv => whnf
        obtain ⟨r3, hz4, h⟩ := obind h
        refine L188_41 _ _ _ _ _ _ _ hz4 (fun e5_r3 e6_r3 => ?_)
        refine pn_go [41, 130] 400 ?_
        conv => whnf
        refine ⟨fun cz5 => ?_, fun cz5 => ?_⟩
        · replace h := (if_neg cz5).symm.trans h
          conv => whnf
          obtain ⟨r4, hz6, h⟩ := obind h
          refine D131 hz6 ?_
          conv => whnf
          obtain ⟨r6, hz7, h⟩ := obind h
          refine L188_130 _ _ _ _ _ hz7 (fun e5_r6 e6_r6 => ?_)
          refine pn_go [41, 130] 400 ?_
          conv => whnf
          cases h
          exact hk
        · replace h := (if_pos cz5).symm.trans h
          conv => whnf
          cases h
          exact hk
      · replace h := (if_pos cz3).symm.trans h
        conv => whnf
        cases h
        exact hk
    · replace h := (if_pos cz2).symm.trans h
      conv => whnf
      cases h
      exact hk
