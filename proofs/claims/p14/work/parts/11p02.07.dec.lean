/-- X4_search -/
def d54 (a1 : Nat) (a2 : Int32) (I : jI) : Option (jI) :=
  (d55r 6 a1 0 0 0 (d11 (7 + (Int32.toNatClampNeg 0)) a1 (jup (jup (jup I 9 0 3 (if 3 < a2 then 3 else a2)) 9 0 4 1000000) 9 0 5 1000000))).bind fun r1 =>
  some r1
set_option maxHeartbeats 4000000 in
set_option maxRecDepth 20000 in
theorem D54 {d : Nat} {k : jK} {a1 : Nat} {a2 : Int32} {I : jI} {L : jL} {r : jI} (h : d54 a1 a2 I = some r) (hk : k none (r, L)) : jPM d 54 [.inr (9, 0), .inr (4, a1), .inl (.inl a2)] (I, L) k := by
  refine pM (fun d n => ?_)
  unfold d54 at h
  refine pn_go [] 400 ?_
  conv => whnf
  intro _
  conv => whnf
  refine D11 rfl ?_
  conv => whnf
  obtain ⟨r1, hz1, h⟩ := obind h
  refine D55r 6 hz1 ?_
  conv => whnf
  cases h
  exact hk
/-- X7_weeks, loop at 74 -/
def d94_74 (y1 : Int32) (y2 : Int32) : Nat → Int32 → jI → Option (jI)
  | 0, _, _ => none
  | F + 1, x3, I =>
    if y1 ≤ x3 then
      some I
    else
      d94_74 y1 y2 F (x3 + 1) (d19g1 y2 x3 (I 28 0 (Int32.toNatClampNeg x3)) I)
set_option maxHeartbeats 4000000 in
set_option maxRecDepth 20000 in
theorem L94_74 {d n : Nat} {k : jK} {y1 : Int32} {y2 : Int32} {L : jL} : ∀ (F : Nat) (x3 : Int32) (I : jI) (r : jI), d94_74 y1 y2 F x3 I = some r → (∀ (f3 : Option jV), pn (jPM d) k none (jco 94) n (103, [some (.inr (0, 0)), some (.inl (.inl y1)), some (.inl (.inl y2)), f3], [], r, L)) → pn (jPM d) k none (jco 94) n (74, [some (.inr (0, 0)), some (.inl (.inl y1)), some (.inl (.inl y2)), some (.inl (.inl x3))], [], I, L) := by
  intro F
  induction F with
  | zero => intro x3 I r h hx; cases h
  | succ F ih =>
    intro x3 I r h hx
    rw [d94_74] at h
    refine pn_go [74, 103] 400 ?_
    conv => whnf
    refine ⟨fun cz1 => ?_, fun cz1 => ?_⟩
    · replace h := (if_pos cz1).symm.trans h
      conv => whnf
      cases h
      exact hx _
    · replace h := (if_neg cz1).symm.trans h
      conv => whnf
      intro _
      conv => whnf
      refine D19g1 rfl ?_
      conv => whnf
      exact ih _ _ r h hx
/-- X7_weeks -/
def d94 (a1 : Int32) (a2 : Int32) (I : jI) : Option (Int32 × jI) :=
  if a1 < 0 then
    some ((-1), I)
  else
    if 3 < a1 then
      some ((-1), I)
    else
      if (d15g1 a2 I) = 0 then
        some ((-1), I)
      else
        if (I 4 1 6) = 0 then
          some ((-4), I)
        else
          (d54 1 a1 I).bind fun r1 =>
          if (r1 9 0 4) < 1000000 then
            (d20g1 a2 a1 0 r1).bind fun r2 =>
            (d94_74 a1 a2 70 0 r2).bind fun r3 =>
            some ((r3 9 0 4), r3)
          else
            some ((-9), r1)
set_option maxHeartbeats 4000000 in
set_option maxRecDepth 20000 in
theorem D94 {d : Nat} {k : jK} {a1 : Int32} {a2 : Int32} {I : jI} {L : jL} {r : Int32 × jI} (h : d94 a1 a2 I = some r) (hk : k (some (.inl (.inl r.1))) (r.2, L)) : jPM d 94 [.inr (0, 0), .inl (.inl a1), .inl (.inl a2)] (I, L) k := by
  refine pM (fun d n => ?_)
  unfold d94 at h
  refine pn_go [74] 400 ?_
  conv => whnf
  refine ⟨fun cz1 => ?_, fun cz1 => ?_⟩
  · replace h := (if_pos cz1).symm.trans h
    conv => whnf
    cases h
    exact hk
  · replace h := (if_neg cz1).symm.trans h
    conv => whnf
    refine ⟨fun cz2 => ?_, fun cz2 => ?_⟩
    · replace h := (if_pos cz2).symm.trans h
      conv => whnf
      cases h
      exact hk
    · replace h := (if_neg cz2).symm.trans h
      conv => whnf
      refine D15g1 rfl ?_
      conv => whnf
      refine ⟨fun cz3 => ?_, fun cz3 => ?_⟩
      · replace h := (if_neg cz3).symm.trans h
        conv => whnf
        refine ⟨fun cz4 => ?_, fun cz4 => ?_⟩
        · replace h := (if_neg cz4).symm.trans h
          conv => whnf
          obtain ⟨r1, hz5, h⟩ := obind h
          refine D54 hz5 ?_
          conv => whnf
          refine ⟨fun cz6 => ?_, fun cz6 => ?_⟩
          · replace h := (if_pos cz6).symm.trans h
            conv => whnf
            obtain ⟨r2, hz7, h⟩ := obind h
            refine D20g1 hz7 ?_
            conv => whnf
            obtain ⟨r3, hz8, h⟩ := obind h
            refine L94_74 _ _ _ _ hz8 (fun e3_r3 => ?_)
            refine pn_go [74] 400 ?_
            conv => whnf
            cases h
            exact hk
          · replace h := (if_neg cz6).symm.trans h
            conv => whnf
            cases h
            exact hk
        · replace h := (if_pos cz4).symm.trans h
          conv => whnf
          cases h
          exact hk
      · replace h := (if_pos cz3).symm.trans h
        conv => whnf
        cases h
        exact hk
/-- X7_waste -/
def d95 (a1 : Int32) (I : jI) : Option (Int32 × jI) :=
  if a1 < 0 then
    some ((-1), I)
  else
    if a1 ≤ 3 then
      if (I 4 1 6) = 0 then
        some ((-4), I)
      else
        (d54 1 a1 I).bind fun r1 =>
        if (r1 9 0 5) < 1000000 then
          some ((r1 9 0 5), r1)
        else
          some ((-9), r1)
    else
      some ((-1), I)
set_option maxHeartbeats 4000000 in
set_option maxRecDepth 20000 in
theorem D95 {d : Nat} {k : jK} {a1 : Int32} {I : jI} {L : jL} {r : Int32 × jI} (h : d95 a1 I = some r) (hk : k (some (.inl (.inl r.1))) (r.2, L)) : jPM d 95 [.inr (0, 0), .inl (.inl a1)] (I, L) k := by
  refine pM (fun d n => ?_)
  unfold d95 at h
  refine pn_go [] 400 ?_
  conv => whnf
  refine ⟨fun cz1 => ?_, fun cz1 => ?_⟩
  · replace h := (if_pos cz1).symm.trans h
    conv => whnf
    cases h
    exact hk
  · replace h := (if_neg cz1).symm.trans h
    conv => whnf
    refine ⟨fun cz2 => ?_, fun cz2 => ?_⟩
    · replace h := (if_pos cz2).symm.trans h
      conv => whnf
      refine ⟨fun cz3 => ?_, fun cz3 => ?_⟩
      · replace h := (if_neg cz3).symm.trans h
        conv => whnf
        obtain ⟨r1, hz4, h⟩ := obind h
        refine D54 hz4 ?_
        conv => whnf
        refine ⟨fun cz5 => ?_, fun cz5 => ?_⟩
        · replace h := (if_pos cz5).symm.trans h
          conv => whnf
          cases h
          exact hk
        · replace h := (if_neg cz5).symm.trans h
          conv => whnf
          cases h
          exact hk
      · replace h := (if_pos cz3).symm.trans h
        conv => whnf
        cases h
        exact hk
    · replace h := (if_neg cz2).symm.trans h
      conv => whnf
      cases h
      exact hk
/-- X7_off, loop at 43 -/
def d96_43 (y1 : Int32) : Nat → Int32 → Int32 → jI → Option (Int32 × jI)
  | 0, _, _, _ => none
  | F + 1, x2, x3, I =>
    if y1 ≤ x3 then
      some (x2, I)
    else
      (d13 6 (I 4 1 7) I).bind fun r1 =>
      d96_43 y1 F (x2 + ((d14 6 r1.2).1)) (x3 + 1) ((d14 6 r1.2).2)
set_option maxHeartbeats 4000000 in
set_option maxRecDepth 20000 in
theorem L96_43 {d n : Nat} {k : jK} {y1 : Int32} {L : jL} : ∀ (F : Nat) (x2 : Int32) (x3 : Int32) (I : jI) (r : Int32 × jI), d96_43 y1 F x2 x3 I = some r → (∀ (f3 : Option jV), pn (jPM d) k none (jco 96) n (79, [some (.inr (0, 0)), some (.inl (.inl y1)), some (.inl (.inl r.1)), f3], [], r.2, L)) → pn (jPM d) k none (jco 96) n (43, [some (.inr (0, 0)), some (.inl (.inl y1)), some (.inl (.inl x2)), some (.inl (.inl x3))], [], I, L) := by
  intro F
  induction F with
  | zero => intro x2 x3 I r h hx; cases h
  | succ F ih =>
    intro x2 x3 I r h hx
    rw [d96_43] at h
    refine pn_go [43, 79] 400 ?_
    conv => whnf
    refine ⟨fun cz1 => ?_, fun cz1 => ?_⟩
    · replace h := (if_pos cz1).symm.trans h
      conv => whnf
      cases h
      exact hx _
    · replace h := (if_neg cz1).symm.trans h
      conv => whnf
      obtain ⟨r1, hz2, h⟩ := obind h
      refine D13 hz2 ?_
      conv => whnf
      refine D14 rfl ?_
      conv => whnf
      exact ih _ _ _ r h hx
/-- X7_off -/
def d96 (a1 : Int32) (I : jI) : Option (Int32 × jI) :=
  if a1 < 0 then
    some ((-1), I)
  else
    if a1 ≤ 20 then
      if (I 4 1 6) = 0 then
        some ((-4), I)
      else
        (d96_43 a1 70 0 0 (d11 6 1 I)).bind fun r2 =>
        some (r2.1, r2.2)
    else
      some ((-1), I)
set_option maxHeartbeats 4000000 in
set_option maxRecDepth 20000 in
theorem D96 {d : Nat} {k : jK} {a1 : Int32} {I : jI} {L : jL} {r : Int32 × jI} (h : d96 a1 I = some r) (hk : k (some (.inl (.inl r.1))) (r.2, L)) : jPM d 96 [.inr (0, 0), .inl (.inl a1)] (I, L) k := by
  refine pM (fun d n => ?_)
  unfold d96 at h
  refine pn_go [43] 400 ?_
  conv => whnf
  refine ⟨fun cz1 => ?_, fun cz1 => ?_⟩
  · replace h := (if_pos cz1).symm.trans h
    conv => whnf
    cases h
    exact hk
  · replace h := (if_neg cz1).symm.trans h
    conv => whnf
    refine ⟨fun cz2 => ?_, fun cz2 => ?_⟩
    · replace h := (if_pos cz2).symm.trans h
      conv => whnf
      refine ⟨fun cz3 => ?_, fun cz3 => ?_⟩
      · replace h := (if_neg cz3).symm.trans h
        conv => whnf
        refine D11 rfl ?_
        conv => whnf
        obtain ⟨r2, hz4, h⟩ := obind h
        refine L96_43 _ _ _ _ _ hz4 (fun e3_r2 => ?_)
        refine pn_go [43] 400 ?_
        conv => whnf
        cases h
        exact hk
      · replace h := (if_pos cz3).symm.trans h
        conv => whnf
        cases h
        exact hk
    · replace h := (if_neg cz2).symm.trans h
      conv => whnf
      cases h
      exact hk
/-- X7_lasts, loop at 29 -/
def d97_29 : Nat → Int32 → jI → Option (Int32 × jI)
  | 0, _, _ => none
  | F + 1, x1, I =>
    if 30 ≤ x1 then
      some (x1, I)
    else
      (d13 6 (I 4 1 7) I).bind fun r1 =>
      if r1.1 = (r1.2 4 1 7) then
        d97_29 F (x1 + 1) ((d14 6 r1.2).2)
      else
        some (x1, r1.2)
set_option maxHeartbeats 4000000 in
set_option maxRecDepth 20000 in
theorem L97_29 {d n : Nat} {k : jK} {L : jL} : ∀ (F : Nat) (x1 : Int32) (I : jI) (r : Int32 × jI), d97_29 F x1 I = some r → (pn (jPM d) k none (jco 97) n (73, [some (.inr (0, 0)), some (.inl (.inl r.1))], [], r.2, L)) → pn (jPM d) k none (jco 97) n (29, [some (.inr (0, 0)), some (.inl (.inl x1))], [], I, L) := by
  intro F
  induction F with
  | zero => intro x1 I r h hx; cases h
  | succ F ih =>
    intro x1 I r h hx
    rw [d97_29] at h
    refine pn_go [29, 73] 400 ?_
    conv => whnf
    refine ⟨fun cz1 => ?_, fun cz1 => ?_⟩
    · replace h := (if_pos cz1).symm.trans h
      conv => whnf
      cases h
      exact hx
    · replace h := (if_neg cz1).symm.trans h
      conv => whnf
      obtain ⟨r1, hz2, h⟩ := obind h
      refine D13 hz2 ?_
      conv => whnf
      refine ⟨fun cz3 => ?_, fun cz3 => ?_⟩
      · replace h := (if_neg cz3).symm.trans h
        conv => whnf
        cases h
        exact hx
      · replace h := (if_pos cz3).symm.trans h
        conv => whnf
        refine D14 rfl ?_
        conv => whnf
        exact ih _ _ r h hx
/-- X7_lasts -/
def d97 (I : jI) : Option (Int32 × jI) :=
  if (I 4 1 6) = 0 then
    some ((-4), I)
  else
    (d97_29 70 0 (d11 6 1 I)).bind fun r2 =>
    some (r2.1, r2.2)
set_option maxHeartbeats 4000000 in
set_option maxRecDepth 20000 in
theorem D97 {d : Nat} {k : jK} {I : jI} {L : jL} {r : Int32 × jI} (h : d97 I = some r) (hk : k (some (.inl (.inl r.1))) (r.2, L)) : jPM d 97 [.inr (0, 0)] (I, L) k := by
  refine pM (fun d n => ?_)
  unfold d97 at h
  refine pn_go [29] 400 ?_
  conv => whnf
  refine ⟨fun cz1 => ?_, fun cz1 => ?_⟩
  · replace h := (if_neg cz1).symm.trans h
    conv => whnf
    refine D11 rfl ?_
    conv => whnf
    obtain ⟨r2, hz2, h⟩ := obind h
    refine L97_29 _ _ _ _ hz2 ?_
    refine pn_go [29] 400 ?_
    conv => whnf
    cases h
    exact hk
  · replace h := (if_pos cz1).symm.trans h
    conv => whnf
    cases h
    exact hk
/-- X7_looks, loop at 50 -/
def d98_50 (y1 : Int32) (y2 : Int32) (I : jI) : Nat → Int32 → Int32 → Int32 → Int32 → Option (Int32 × Int32)
  | 0, _, _, _, _ => none
  | F + 1, x3, x4, x5, x6 =>
    if (I 4 1 6) ≤ x6 then
      some (x3, x4)
    else
      if (d36 1 x6 I) < y2 then
        if x4 ≤ (x5 + (y1 * (x6 + 1))) then
          d98_50 y1 y2 I F x3 x4 x5 (x6 + 1)
        else
          d98_50 y1 y2 I F (x6 + 1) (x5 + (y1 * (x6 + 1))) x5 (x6 + 1)
      else
        if x4 ≤ ((if (d35 1 x6 1 I) < x5 then (d35 1 x6 1 I) else x5) + (y1 * (x6 + 1))) then
          d98_50 y1 y2 I F x3 x4 (if (d35 1 x6 1 I) < x5 then (d35 1 x6 1 I) else x5) (x6 + 1)
        else
          d98_50 y1 y2 I F (x6 + 1) ((if (d35 1 x6 1 I) < x5 then (d35 1 x6 1 I) else x5) + (y1 * (x6 + 1))) (if (d35 1 x6 1 I) < x5 then (d35 1 x6 1 I) else x5) (x6 + 1)
set_option maxHeartbeats 4000000 in
set_option maxRecDepth 20000 in
theorem L98_50 {d n : Nat} {k : jK} {y1 : Int32} {y2 : Int32} {I : jI} {L : jL} : ∀ (F : Nat) (x3 : Int32) (x4 : Int32) (x5 : Int32) (x6 : Int32) (r : Int32 × Int32), d98_50 y1 y2 I F x3 x4 x5 x6 = some r → (∀ (f5 f6 : Option jV), pn (jPM d) k none (jco 98) n (128, [some (.inr (0, 0)), some (.inl (.inl y1)), some (.inl (.inl y2)), some (.inl (.inl r.1)), some (.inl (.inl r.2)), f5, f6], [], I, L)) → pn (jPM d) k none (jco 98) n (50, [some (.inr (0, 0)), some (.inl (.inl y1)), some (.inl (.inl y2)), some (.inl (.inl x3)), some (.inl (.inl x4)), some (.inl (.inl x5)), some (.inl (.inl x6))], [], I, L) := by
  intro F
  induction F with
  | zero => intro x3 x4 x5 x6 r h hx; cases h
  | succ F ih =>
    intro x3 x4 x5 x6 r h hx
    rw [d98_50] at h
    refine pn_go [50, 128] 400 ?_
    conv => whnf
    refine ⟨fun cz1 => ?_, fun cz1 => ?_⟩
    · replace h := (if_pos cz1).symm.trans h
      conv => whnf
      cases h
      exact hx _ _
    · replace h := (if_neg cz1).symm.trans h
      conv => whnf
      refine D36 rfl ?_
      conv => whnf
      refine ⟨fun cz2 => ?_, fun cz2 => ?_⟩
      · replace h := (if_pos cz2).symm.trans h
        conv => whnf
        refine ⟨fun cz3 => ?_, fun cz3 => ?_⟩
        · replace h := (if_pos cz3).symm.trans h
          conv => whnf
          exact ih _ _ _ _ r h hx
        · replace h := (if_neg cz3).symm.trans h
          conv => whnf
          exact ih _ _ _ _ r h hx
      · replace h := (if_neg cz2).symm.trans h
        conv => whnf
        refine D35 rfl ?_
        conv => whnf
        refine ⟨fun cz4 => ?_, fun cz4 => ?_⟩
        · replace h := (if_pos cz4).symm.trans h
          conv => whnf
          exact ih _ _ _ _ r h hx
        · replace h := (if_neg cz4).symm.trans h
          conv => whnf
          exact ih _ _ _ _ r h hx
/-- X7_looks -/
def d98 (a1 : Int32) (a2 : Int32) (I : jI) : Option (Int32 × jI) :=
  if a1 < 0 then
    some ((-1), I)
  else
    if 9 < a1 then
      some ((-1), I)
    else
      if a2 < 1 then
        some ((-1), I)
      else
        if a2 ≤ 9 then
          if (I 4 1 6) = 0 then
            some ((-4), I)
          else
            (d98_50 a1 a2 I 70 (-9) 1000000 1000000 0).bind fun r1 =>
            if r1.1 = (-9) then
              some (r1.1, I)
            else
              some (r1.1, (jup I 0 0 14 r1.2))
        else
          some ((-1), I)
set_option maxHeartbeats 4000000 in
set_option maxRecDepth 20000 in
theorem D98 {d : Nat} {k : jK} {a1 : Int32} {a2 : Int32} {I : jI} {L : jL} {r : Int32 × jI} (h : d98 a1 a2 I = some r) (hk : k (some (.inl (.inl r.1))) (r.2, L)) : jPM d 98 [.inr (0, 0), .inl (.inl a1), .inl (.inl a2)] (I, L) k := by
  refine pM (fun d n => ?_)
  unfold d98 at h
  refine pn_go [50] 400 ?_
  conv => whnf
  refine ⟨fun cz1 => ?_, fun cz1 => ?_⟩
  · replace h := (if_pos cz1).symm.trans h
    conv => whnf
    cases h
    exact hk
  · replace h := (if_neg cz1).symm.trans h
    conv => whnf
    refine ⟨fun cz2 => ?_, fun cz2 => ?_⟩
    · replace h := (if_pos cz2).symm.trans h
      conv => whnf
      cases h
      exact hk
    · replace h := (if_neg cz2).symm.trans h
      conv => whnf
      refine ⟨fun cz3 => ?_, fun cz3 => ?_⟩
      · replace h := (if_pos cz3).symm.trans h
        conv => whnf
        cases h
        exact hk
      · replace h := (if_neg cz3).symm.trans h
        conv => whnf
        refine ⟨fun cz4 => ?_, fun cz4 => ?_⟩
        · replace h := (if_pos cz4).symm.trans h
          conv => whnf
          refine ⟨fun cz5 => ?_, fun cz5 => ?_⟩
          · replace h := (if_neg cz5).symm.trans h
            conv => whnf
            obtain ⟨r1, hz6, h⟩ := obind h
            refine L98_50 _ _ _ _ _ _ hz6 (fun e5_r1 e6_r1 => ?_)
            refine pn_go [50] 400 ?_
            conv => whnf
            refine ⟨fun cz7 => ?_, fun cz7 => ?_⟩
            · replace h := (if_pos cz7).symm.trans h
              conv => whnf
              cases h
              exact hk
            · replace h := (if_neg cz7).symm.trans h
              conv => whnf
              cases h
              exact hk
          · replace h := (if_pos cz5).symm.trans h
            conv => whnf
            cases h
            exact hk
        · replace h := (if_neg cz4).symm.trans h
          conv => whnf
          cases h
          exact hk
/-- X7_troubleOfPairs, loop at 38 -/
def d118_38 (y1 : Int32) (y2 : Int32) (I : jI) : Nat → Int32 → Option ((Int32) ⊕ (Unit))
  | 0, _ => none
  | F + 1, x3 =>
    if y2 ≤ (x3 + 1) then
      some (.inr ())
    else
      if (d18g1 y1 x3 I) < 0 then
        some (.inl 3)
      else
        if 20 < (d18g1 y1 x3 I) then
          some (.inl 3)
        else
          if 0 ≤ (d18g1 y1 (x3 + 1) I) then
            d118_38 y1 y2 I F (x3 + 2)
          else
            some (.inl 3)
set_option maxHeartbeats 4000000 in
set_option maxRecDepth 20000 in
theorem L118_38 {d n : Nat} {k : jK} {y1 : Int32} {y2 : Int32} {I : jI} {L : jL} : ∀ (F : Nat) (x3 : Int32) (e4 : Option jV) (r : (Int32) ⊕ (Unit)), d118_38 y1 y2 I F x3 = some r → ((∀ q, r = .inl q → k (some (.inl (.inl q))) (I, L)) ∧ (∀ q, r = .inr q → ∀ (f3 f4 : Option jV), pn (jPM d) k none (jco 118) n (90, [some (.inr (0, 0)), some (.inl (.inl y1)), some (.inl (.inl y2)), f3, f4], [], I, L))) → pn (jPM d) k none (jco 118) n (38, [some (.inr (0, 0)), some (.inl (.inl y1)), some (.inl (.inl y2)), some (.inl (.inl x3)), e4], [], I, L) := by
  intro F
  induction F with
  | zero => intro x3 e4 r h hx; cases h
  | succ F ih =>
    intro x3 e4 r h hx
    rw [d118_38] at h
    refine pn_go [38, 90] 400 ?_
    conv => whnf
    refine ⟨fun cz1 => ?_, fun cz1 => ?_⟩
    · replace h := (if_pos cz1).symm.trans h
      conv => whnf
      cases h
      exact hx.2 _ rfl _ _
    · replace h := (if_neg cz1).symm.trans h
      conv => whnf
      refine D18g1 rfl ?_
      conv => whnf
      refine ⟨fun cz2 => ?_, fun cz2 => ?_⟩
      · replace h := (if_pos cz2).symm.trans h
        conv => whnf
        cases h
        exact hx.1 _ rfl
      · replace h := (if_neg cz2).symm.trans h
        conv => whnf
        refine ⟨fun cz3 => ?_, fun cz3 => ?_⟩
        · replace h := (if_pos cz3).symm.trans h
          conv => whnf
          cases h
          exact hx.1 _ rfl
        · replace h := (if_neg cz3).symm.trans h
          conv => whnf
          refine D18g1 rfl ?_
          conv => whnf
          refine ⟨fun cz4 => ?_, fun cz4 => ?_⟩
          · replace h := (if_pos cz4).symm.trans h
            conv => whnf
            exact ih _ _ r h hx
          · replace h := (if_neg cz4).symm.trans h
            conv => whnf
            cases h
            exact hx.1 _ rfl
/-- X7_troubleOfPairs -/
def d118 (a1 : Int32) (I : jI) : Option (Int32) :=
  if (d16g1 a1 I) = 0 then
    some 1
  else
    if 12 < (d17g1 a1 I) then
      some 5
    else
      if ((d17g1 a1 I) - (d17g1 a1 I) / 2 * 2) = 0 then
        (d118_38 a1 (d17g1 a1 I) I 70 0).bind fun r1 => match r1 with
        | .inl q2 => some q2
        | .inr q2 =>
          some 0
      else
        some 5
set_option maxHeartbeats 4000000 in
set_option maxRecDepth 20000 in
theorem D118 {d : Nat} {k : jK} {a1 : Int32} {I : jI} {L : jL} {r : Int32} (h : d118 a1 I = some r) (hk : k (some (.inl (.inl r))) (I, L)) : jPM d 118 [.inr (0, 0), .inl (.inl a1)] (I, L) k := by
  refine pM (fun d n => ?_)
  unfold d118 at h
  refine pn_go [38] 400 ?_
  conv => whnf
  refine D16g1 rfl ?_
  conv => whnf
  refine ⟨fun cz1 => ?_, fun cz1 => ?_⟩
  · replace h := (if_neg cz1).symm.trans h
    conv => whnf
    refine D17g1 rfl ?_
    conv => whnf
    refine ⟨fun cz2 => ?_, fun cz2 => ?_⟩
    · replace h := (if_pos cz2).symm.trans h
      conv => whnf
      cases h
      exact hk
    · replace h := (if_neg cz2).symm.trans h
      conv => whnf
      intro _
      conv => whnf
      refine ⟨fun cz3 => ?_, fun cz3 => ?_⟩
      · replace h := (if_pos cz3).symm.trans h
        conv => whnf
        obtain ⟨r1, hz4, h⟩ := obind h
        rcases r1 with q2 | q2
        · dsimp only at h
          refine L118_38 _ _ _ _ hz4 ⟨fun q e => ?_, fun q e => by cases e⟩
          cases e
          cases h
          exact hk
        · dsimp only at h
          refine L118_38 _ _ _ _ hz4 ⟨fun q e => (by cases e), fun q e e3_r1 e4_r1 => ?_⟩
          cases e
          refine pn_go [38] 400 ?_
          conv => whnf
          cases h
          exact hk
      · replace h := (if_neg cz3).symm.trans h
        conv => whnf
        cases h
        exact hk
  · replace h := (if_pos cz1).symm.trans h
    conv => whnf
    cases h
    exact hk
/-- X7_fitsPairs, loop at 3 -/
def d119_3 (y1 : Int32) (y2 : Int32) (y3 : Int32) (I : jI) : Nat → Int32 → Option ((Int32) ⊕ (Unit))
  | 0, _ => none
  | F + 1, x4 =>
    if (d17g1 y1 I) ≤ (x4 + 1) then
      some (.inr ())
    else
      if (d5 y2 (d18g1 y1 x4 I) y3 (I 4 1 14) I) = (d18g1 y1 (x4 + 1) I) then
        d119_3 y1 y2 y3 I F (x4 + 2)
      else
        some (.inl 0)
set_option maxHeartbeats 4000000 in
set_option maxRecDepth 20000 in
theorem L119_3 {d n : Nat} {k : jK} {y1 : Int32} {y2 : Int32} {y3 : Int32} {I : jI} {L : jL} : ∀ (F : Nat) (x4 : Int32) (r : (Int32) ⊕ (Unit)), d119_3 y1 y2 y3 I F x4 = some r → ((∀ q, r = .inl q → k (some (.inl (.inl q))) (I, L)) ∧ (∀ q, r = .inr q → ∀ (f4 : Option jV), pn (jPM d) k none (jco 119) n (63, [some (.inr (0, 0)), some (.inl (.inl y1)), some (.inl (.inl y2)), some (.inl (.inl y3)), f4], [], I, L))) → pn (jPM d) k none (jco 119) n (3, [some (.inr (0, 0)), some (.inl (.inl y1)), some (.inl (.inl y2)), some (.inl (.inl y3)), some (.inl (.inl x4))], [], I, L) := by
  intro F
  induction F with
  | zero => intro x4 r h hx; cases h
  | succ F ih =>
    intro x4 r h hx
    rw [d119_3] at h
    refine pn_go [3, 63] 400 ?_
    conv => whnf
    refine D17g1 rfl ?_
    conv => whnf
    refine ⟨fun cz1 => ?_, fun cz1 => ?_⟩
    · replace h := (if_pos cz1).symm.trans h
      conv => whnf
      cases h
      exact hx.2 _ rfl _
    · replace h := (if_neg cz1).symm.trans h
      conv => whnf
      refine D18g1 rfl ?_
      conv => whnf
      refine D5 rfl ?_
      conv => whnf
      refine D18g1 rfl ?_
      conv => whnf
      refine ⟨fun cz2 => ?_, fun cz2 => ?_⟩
      · replace h := (if_pos cz2).symm.trans h
        conv => whnf
        exact ih _ r h hx
      · replace h := (if_neg cz2).symm.trans h
        conv => whnf
        cases h
        exact fun _ => hx.1 _ rfl
/-- X7_fitsPairs -/
def d119 (a1 : Int32) (a2 : Int32) (a3 : Int32) (I : jI) : Option (Int32) :=
  (d119_3 a1 a2 a3 I 70 0).bind fun r1 => match r1 with
  | .inl q2 => some q2
  | .inr q2 =>
    some 1
set_option maxHeartbeats 4000000 in
set_option maxRecDepth 20000 in
theorem D119 {d : Nat} {k : jK} {a1 : Int32} {a2 : Int32} {a3 : Int32} {I : jI} {L : jL} {r : Int32} (h : d119 a1 a2 a3 I = some r) (hk : k (some (.inl (.inl r))) (I, L)) : jPM d 119 [.inr (0, 0), .inl (.inl a1), .inl (.inl a2), .inl (.inl a3)] (I, L) k := by
  refine pM (fun d n => ?_)
  unfold d119 at h
  refine pn_go [3] 400 ?_
  conv => whnf
  obtain ⟨r1, hz1, h⟩ := obind h
  rcases r1 with q2 | q2
  · dsimp only at h
    refine L119_3 _ _ _ hz1 ⟨fun q e => ?_, fun q e => by cases e⟩
    cases e
    cases h
    exact hk
  · dsimp only at h
    refine L119_3 _ _ _ hz1 ⟨fun q e => (by cases e), fun q e e4_r1 => ?_⟩
    cases e
    refine pn_go [3] 400 ?_
    conv => whnf
    cases h
    exact fun _ => hk
/-- X7_kinds, loop at 46 -/
def d99_46 (y1 : Int32) (y2 : Int32) (I : jI) : Nat → Int32 → Int32 → Option (Int32)
  | 0, _, _ => none
  | F + 1, x4, x5 =>
    if 6 ≤ x5 then
      some x4
    else
      (d119 y2 x5 (I 20 1 (Int32.toNatClampNeg y1)) I).bind fun r2 =>
      if r2 = 0 then
        d99_46 y1 y2 I F x4 (x5 + 1)
      else
        d99_46 y1 y2 I F (x4 ||| (1 <<< (x5 &&& 31))) (x5 + 1)
set_option maxHeartbeats 4000000 in
set_option maxRecDepth 20000 in
theorem L99_46 {d n : Nat} {k : jK} {y1 : Int32} {y2 : Int32} {I : jI} {L : jL} : ∀ (F : Nat) (x4 : Int32) (x5 : Int32) (e3 : Option jV) (r : Int32), d99_46 y1 y2 I F x4 x5 = some r → (∀ (f3 f5 : Option jV), pn (jPM d) k none (jco 99) n (87, [some (.inr (0, 0)), some (.inl (.inl y1)), some (.inl (.inl y2)), f3, some (.inl (.inl r)), f5], [], I, L)) → pn (jPM d) k none (jco 99) n (46, [some (.inr (0, 0)), some (.inl (.inl y1)), some (.inl (.inl y2)), e3, some (.inl (.inl x4)), some (.inl (.inl x5))], [], I, L) := by
  intro F
  induction F with
  | zero => intro x4 x5 e3 r h hx; cases h
  | succ F ih =>
    intro x4 x5 e3 r h hx
    rw [d99_46] at h
    refine pn_go [46, 87] 400 ?_
    conv => whnf
    refine ⟨fun cz1 => ?_, fun cz1 => ?_⟩
    · replace h := (if_pos cz1).symm.trans h
      conv => whnf
      cases h
      exact hx _ _
    · replace h := (if_neg cz1).symm.trans h
      conv => whnf
      intro _
      conv => whnf
      obtain ⟨r2, hz2, h⟩ := obind h
      refine D119 hz2 ?_
      conv => whnf
      refine ⟨fun cz3 => ?_, fun cz3 => ?_⟩
      · replace h := (if_pos cz3).symm.trans h
        conv => whnf
        exact ih _ _ _ r h hx
      · replace h := (if_neg cz3).symm.trans h
        conv => whnf
        exact ih _ _ _ r h hx
/-- X7_kinds -/
def d99 (a1 : Int32) (a2 : Int32) (I : jI) : Option (Int32 × jI) :=
  if (d31 1 a1 I) = 0 then
    some ((-1), I)
  else
    if (d15g1 a2 I) = 0 then
      some ((-1), I)
    else
      (d118 a2 I).bind fun r1 =>
      if r1 = 0 then
        (d99_46 a1 a2 I 70 0 0).bind fun r3 =>
        some (r3, I)
      else
        some (((d113 r1 I).1), ((d113 r1 I).2))
set_option maxHeartbeats 4000000 in
set_option maxRecDepth 20000 in
theorem D99 {d : Nat} {k : jK} {a1 : Int32} {a2 : Int32} {I : jI} {L : jL} {r : Int32 × jI} (h : d99 a1 a2 I = some r) (hk : k (some (.inl (.inl r.1))) (r.2, L)) : jPM d 99 [.inr (0, 0), .inl (.inl a1), .inl (.inl a2)] (I, L) k := by
  refine pM (fun d n => ?_)
  unfold d99 at h
  refine pn_go [46] 400 ?_
  conv => whnf
  refine D31 rfl ?_
  conv => whnf
  refine ⟨fun cz1 => ?_, fun cz1 => ?_⟩
  · replace h := (if_pos cz1).symm.trans h
    conv => whnf
    cases h
    exact hk
  · replace h := (if_neg cz1).symm.trans h
    conv => whnf
    refine D15g1 rfl ?_
    conv => whnf
    refine ⟨fun cz2 => ?_, fun cz2 => ?_⟩
    · replace h := (if_neg cz2).symm.trans h
      conv => whnf
      obtain ⟨r1, hz3, h⟩ := obind h
      refine D118 hz3 ?_
      conv => whnf
      refine ⟨fun cz4 => ?_, fun cz4 => ?_⟩
      · replace h := (if_pos cz4).symm.trans h
        conv => whnf
        obtain ⟨r3, hz5, h⟩ := obind h
        refine L99_46 _ _ _ _ _ hz5 (fun e3_r3 e5_r3 => ?_)
        refine pn_go [46] 400 ?_
        conv => whnf
        cases h
        exact hk
      · replace h := (if_neg cz4).symm.trans h
        conv => whnf
        refine D113 rfl ?_
        conv => whnf
        cases h
        exact hk
    · replace h := (if_pos cz2).symm.trans h
      conv => whnf
      cases h
      exact hk
