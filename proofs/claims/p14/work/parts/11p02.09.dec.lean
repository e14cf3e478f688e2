/-- X7_mid, loop at 30 -/
def d104_30 (y1 : Int32) (I : jI) : Nat → Int64 → Int32 → Option (Int64)
  | 0, _, _ => none
  | F + 1, x2, x4 =>
    if (I 4 1 6) ≤ x4 then
      some x2
    else
      d104_30 y1 I F (x2 + (Int32.toInt64 (d35 1 x4 1 I))) (x4 + 1)
set_option maxHeartbeats 4000000 in
set_option maxRecDepth 20000 in
theorem L104_30 {d n : Nat} {k : jK} {y1 : Int32} {I : jI} {L : jL} : ∀ (F : Nat) (x2 : Int64) (x4 : Int32) (r : Int64), d104_30 y1 I F x2 x4 = some r → (∀ (f4 : Option jV), pn (jPM d) k none (jco 104) n (62, [some (.inr (0, 0)), some (.inl (.inl y1)), some (.inl (.inr r)), none, f4], [], I, L)) → pn (jPM d) k none (jco 104) n (30, [some (.inr (0, 0)), some (.inl (.inl y1)), some (.inl (.inr x2)), none, some (.inl (.inl x4))], [], I, L) := by
  intro F
  induction F with
  | zero => intro x2 x4 r h hx; cases h
  | succ F ih =>
    intro x2 x4 r h hx
    rw [d104_30] at h
    refine pn_go [30, 62] 400 ?_
    conv => whnf
    refine ⟨fun cz1 => ?_, fun cz1 => ?_⟩
    · replace h := (if_pos cz1).symm.trans h
      conv => whnf
      cases h
      exact hx _
    · replace h := (if_neg cz1).symm.trans h
      conv => whnf
      refine D35 rfl ?_
      conv => whnf
      exact ih _ _ r h hx
/-- X7_mid -/
def d104 (a1 : Int32) (I : jI) (L : jL) : Option (Int32 × jL) :=
  if a1 < 0 then
    some ((-1), L)
  else
    if a1 ≤ 12 then
      if (I 4 1 6) = 0 then
        some ((-4), L)
      else
        (d104_30 a1 I 70 0 0).bind fun r1 =>
        (d116 (r1 * (Int32.toInt64 (12 - a1))) 12 I L).bind fun r2 =>
        some (1, r2)
    else
      some ((-1), L)
set_option maxHeartbeats 4000000 in
set_option maxRecDepth 20000 in
theorem D104 {d : Nat} {k : jK} {a1 : Int32} {I : jI} {L : jL} {r : Int32 × jL} (h : d104 a1 I L = some r) (hk : k (some (.inl (.inl r.1))) (I, r.2)) : jPM d 104 [.inr (0, 0), .inl (.inl a1)] (I, L) k := by
  refine pM (fun d n => ?_)
  unfold d104 at h
  refine pn_go [30] 400 ?_
  conv => whnf
  refine ⟨fun cz1 => ?_, fun cz1 => ?_⟩
  · replace h := (if_pos cz1).symm.trans h
    conv => whnf
    cases h
    exact hk
  · replace h := (if_neg cz1).symm.trans h
    conv => whnf
    refine ⟨fun cz2 => ?_, fun cz2 => ?_⟩
    · replace h := (if_pos cz2).symm.trans h
      conv => whnf
      refine ⟨fun cz3 => ?_, fun cz3 => ?_⟩
      · replace h := (if_neg cz3).symm.trans h
        conv => whnf
        obtain ⟨r1, hz4, h⟩ := obind h
        refine L104_30 _ _ _ _ hz4 (fun e4_r1 => ?_)
        refine pn_go [30] 400 ?_
        conv => whnf
        obtain ⟨r2, hz5, h⟩ := obind h
        refine D116 hz5 ?_
        conv => whnf
        cases h
        exact hk
      · replace h := (if_pos cz3).symm.trans h
        conv => whnf
        cases h
        exact hk
    · replace h := (if_neg cz2).symm.trans h
      conv => whnf
      cases h
      exact hk
/-- X1_performLot -/
def d47 (a0 : Nat) (a1 : Int64) (I : jI) : Option (jI) :=
  if (I 4 a0 6) = 0 then
    some I
  else
    if 1 < (Int64.toInt32 ((a1 / 8) - (a1 / 8) / 4 * 4)) then
      if (Int64.toInt32 ((a1 / 8) - (a1 / 8) / 4 * 4)) = 3 then
        if (d34 a0 (Int64.toInt32 (a1 - a1 / (Int32.toInt64 (I 4 a0 6)) * (Int32.toInt64 (I 4 a0 6)))) I) = 0 then
          (d44 a0 1 0 0 I).bind fun r2 =>
          some r2.2
        else
          (d44 a0 2 (Int64.toInt32 (a1 - a1 / (Int32.toInt64 (I 4 a0 6)) * (Int32.toInt64 (I 4 a0 6)))) 0 I).bind fun r3 =>
          some r3.2
      else
        (d44 a0 1 0 0 I).bind fun r1 =>
        some r1.2
    else
      (d33 a0 (Int64.toInt32 (a1 - a1 / (Int32.toInt64 (I 4 a0 6)) * (Int32.toInt64 (I 4 a0 6)))) 1 I).bind fun r4 =>
      if r4 = 0 then
        if (Int64.toInt32 ((a1 / 8) - (a1 / 8) / 4 * 4)) = 3 then
          if (d34 a0 (Int64.toInt32 (a1 - a1 / (Int32.toInt64 (I 4 a0 6)) * (Int32.toInt64 (I 4 a0 6)))) I) = 0 then
            (d44 a0 1 0 0 I).bind fun r6 =>
            some r6.2
          else
            (d44 a0 2 (Int64.toInt32 (a1 - a1 / (Int32.toInt64 (I 4 a0 6)) * (Int32.toInt64 (I 4 a0 6)))) 0 I).bind fun r7 =>
            some r7.2
        else
          (d44 a0 1 0 0 I).bind fun r5 =>
          some r5.2
      else
        (d44 a0 0 (Int64.toInt32 (a1 - a1 / (Int32.toInt64 (I 4 a0 6)) * (Int32.toInt64 (I 4 a0 6)))) 1 I).bind fun r8 =>
        some r8.2
set_option maxHeartbeats 4000000 in
set_option maxRecDepth 20000 in
theorem D47 {d : Nat} {k : jK} {a0 : Nat} {a1 : Int64} {I : jI} {L : jL} {r : jI} (h : d47 a0 a1 I = some r) (hk : k none (r, L)) : jPM d 47 [.inr (4, a0), .inl (.inr a1)] (I, L) k := by
  refine pM (fun d n => ?_)
  unfold d47 at h
  refine pn_go [] 400 ?_
  conv => whnf
  refine ⟨fun cz1 => ?_, fun cz1 => ?_⟩
  · replace h := (if_neg cz1).symm.trans h
    conv => whnf
    intro _
    conv => whnf
    intro _
    conv => whnf
    intro _
    conv => whnf
    refine ⟨fun cz2 => ?_, fun cz2 => ?_⟩
    · replace h := (if_pos cz2).symm.trans h
      conv => whnf
      refine ⟨fun cz3 => ?_, fun cz3 => ?_⟩
      · replace h := (if_neg cz3).symm.trans h
        conv => whnf
        obtain ⟨r1, hz4, h⟩ := obind h
        refine D44 hz4 ?_
        conv => whnf
        cases h
        exact hk
      · replace h := (if_pos cz3).symm.trans h
        conv => whnf
        refine D34 rfl ?_
        conv => whnf
        refine ⟨fun cz5 => ?_, fun cz5 => ?_⟩
        · replace h := (if_pos cz5).symm.trans h
          conv => whnf
          obtain ⟨r2, hz6, h⟩ := obind h
          refine D44 hz6 ?_
          conv => whnf
          cases h
          exact hk
        · replace h := (if_neg cz5).symm.trans h
          conv => whnf
          obtain ⟨r3, hz7, h⟩ := obind h
          refine D44 hz7 ?_
          conv => whnf
          cases h
          exact hk
    · replace h := (if_neg cz2).symm.trans h
      conv => whnf
      obtain ⟨r4, hz8, h⟩ := obind h
      refine D33 hz8 ?_
      conv => whnf
      refine ⟨fun cz9 => ?_, fun cz9 => ?_⟩
      · replace h := (if_pos cz9).symm.trans h
        conv => whnf
        refine ⟨fun cz10 => ?_, fun cz10 => ?_⟩
        · replace h := (if_neg cz10).symm.trans h
          conv => whnf
          obtain ⟨r5, hz11, h⟩ := obind h
          refine D44 hz11 ?_
          conv => whnf
          cases h
          exact hk
        · replace h := (if_pos cz10).symm.trans h
          conv => whnf
          refine D34 rfl ?_
          conv => whnf
          refine ⟨fun cz12 => ?_, fun cz12 => ?_⟩
          · replace h := (if_pos cz12).symm.trans h
            conv => whnf
            obtain ⟨r6, hz13, h⟩ := obind h
            refine D44 hz13 ?_
            conv => whnf
            cases h
            exact hk
          · replace h := (if_neg cz12).symm.trans h
            conv => whnf
            obtain ⟨r7, hz14, h⟩ := obind h
            refine D44 hz14 ?_
            conv => whnf
            cases h
            exact hk
      · replace h := (if_neg cz9).symm.trans h
        conv => whnf
        obtain ⟨r8, hz15, h⟩ := obind h
        refine D44 hz15 ?_
        conv => whnf
        cases h
        exact hk
  · replace h := (if_pos cz1).symm.trans h
    conv => whnf
    cases h
    exact hk
/-- X7_lots, loop at 60 -/
def d105_60 (y1 : Int32) : Nat → Int64 → Int32 → jI → Option (jI)
  | 0, _, _, _ => none
  | F + 1, x3, x5, I =>
    if y1 ≤ x5 then
      some I
    else
      (d47 1 ((x3 * 48271) - (x3 * 48271) / 2147483647 * 2147483647) I).bind fun r1 =>
      d105_60 y1 F ((x3 * 48271) - (x3 * 48271) / 2147483647 * 2147483647) (x5 + 1) r1
set_option maxHeartbeats 4000000 in
set_option maxRecDepth 20000 in
theorem L105_60 {d n : Nat} {k : jK} {y1 : Int32} {L : jL} : ∀ (F : Nat) (x3 : Int64) (x5 : Int32) (I : jI) (e2 : Option jV) (r : jI), d105_60 y1 F x3 x5 I = some r → (∀ (f2 f3 f4 f5 : Option jV), pn (jPM d) k none (jco 105) n (90, [some (.inr (0, 0)), some (.inl (.inl y1)), f2, f3, f4, f5], [], r, L)) → pn (jPM d) k none (jco 105) n (60, [some (.inr (0, 0)), some (.inl (.inl y1)), e2, some (.inl (.inr x3)), none, some (.inl (.inl x5))], [], I, L) := by
  intro F
  induction F with
  | zero => intro x3 x5 I e2 r h hx; cases h
  | succ F ih =>
    intro x3 x5 I e2 r h hx
    rw [d105_60] at h
    refine pn_go [60, 90] 400 ?_
    conv => whnf
    refine ⟨fun cz1 => ?_, fun cz1 => ?_⟩
    · replace h := (if_pos cz1).symm.trans h
      conv => whnf
      cases h
      exact hx _ _ _ _
    · replace h := (if_neg cz1).symm.trans h
      conv => whnf
      intro _
      conv => whnf
      obtain ⟨r1, hz2, h⟩ := obind h
      refine D47 hz2 ?_
      conv => whnf
      exact ih _ _ _ _ r h hx
/-- X7_lots -/
def d105 (a1 : Int32) (a2 : Int32) (I : jI) : Option (Int32 × jI) :=
  if a1 < 1 then
    some ((-1), I)
  else
    if 20 < a1 then
      some ((-1), I)
    else
      if a2 < 1 then
        some ((-1), I)
      else
        if (lg_cmp (Int32.toInt64 a2) 2147483647) < 0 then
          if (I 4 1 6) = 0 then
            some ((-4), I)
          else
            if (d32 1 a1 I) = 0 then
              some ((-2), I)
            else
              (d105_60 a1 70 (Int32.toInt64 a2) 0 I).bind fun r2 =>
              (d10 1 r2).bind fun r3 =>
              some (r3, r2)
        else
          some ((-1), I)
set_option maxHeartbeats 4000000 in
set_option maxRecDepth 20000 in
theorem D105 {d : Nat} {k : jK} {a1 : Int32} {a2 : Int32} {I : jI} {L : jL} {r : Int32 × jI} (h : d105 a1 a2 I = some r) (hk : k (some (.inl (.inl r.1))) (r.2, L)) : jPM d 105 [.inr (0, 0), .inl (.inl a1), .inl (.inl a2)] (I, L) k := by
  refine pM (fun d n => ?_)
  unfold d105 at h
  refine pn_go [60] 400 ?_
  conv => whnf
  refine ⟨fun cz1 => ?_, fun cz1 => ?_⟩
  · replace h := (if_pos cz1).symm.trans h
    conv => whnf
    cases h
    exact hk
  · replace h := (if_neg cz1).symm.trans h
    conv => whnf
    refine ⟨fun cz2 => ?_, fun cz2 => ?_⟩
    · replace h := (if_pos cz2).symm.trans h
      conv => whnf
      cases h
      exact hk
    · replace h := (if_neg cz2).symm.trans h
      conv => whnf
      refine ⟨fun cz3 => ?_, fun cz3 => ?_⟩
      · replace h := (if_pos cz3).symm.trans h
        conv => whnf
        cases h
        exact hk
      · replace h := (if_neg cz3).symm.trans h
        conv => whnf
        refine ⟨fun cz4 => ?_, fun cz4 => ?_⟩
        · replace h := (if_pos cz4).symm.trans h
          conv => whnf
          refine ⟨fun cz5 => ?_, fun cz5 => ?_⟩
          · replace h := (if_neg cz5).symm.trans h
            conv => whnf
            refine D32 rfl ?_
            conv => whnf
            refine ⟨fun cz6 => ?_, fun cz6 => ?_⟩
            · replace h := (if_neg cz6).symm.trans h
              conv => whnf
              obtain ⟨r2, hz7, h⟩ := obind h
              refine L105_60 _ _ _ _ _ _ hz7 (fun e2_r2 e3_r2 e4_r2 e5_r2 => ?_)
              refine pn_go [60] 400 ?_
              conv => whnf
              obtain ⟨r3, hz8, h⟩ := obind h
              refine D10 hz8 ?_
              conv => whnf
              cases h
              exact hk
            · replace h := (if_pos cz6).symm.trans h
              conv => whnf
              cases h
              exact hk
          · replace h := (if_pos cz5).symm.trans h
            conv => whnf
            cases h
            exact hk
        · replace h := (if_neg cz4).symm.trans h
          conv => whnf
          cases h
          exact hk
/-- X7_asked -/
def d106 (I : jI) : Int32 :=
  (I 0 0 14)
set_option maxHeartbeats 4000000 in
set_option maxRecDepth 20000 in
theorem D106 {d : Nat} {k : jK} {I : jI} {L : jL} {r : Int32} (h : d106 I = r) (hk : k (some (.inl (.inl r))) (I, L)) : jPM d 106 [.inr (0, 0)] (I, L) k := by
  refine pM (fun d n => ?_)
  unfold d106 at h
  refine pn_go [] 400 ?_
  conv => whnf
  subst h
  exact hk
/-- X7_upper -/
def d107 (I : jI) (L : jL) : Int64 :=
  (L 0 0 15)
set_option maxHeartbeats 4000000 in
set_option maxRecDepth 20000 in
theorem D107 {d : Nat} {k : jK} {I : jI} {L : jL} {r : Int64} (h : d107 I L = r) (hk : k (some (.inl (.inr r))) (I, L)) : jPM d 107 [.inr (0, 0)] (I, L) k := by
  refine pM (fun d n => ?_)
  unfold d107 at h
  refine pn_go [] 400 ?_
  conv => whnf
  subst h
  exact hk
/-- X7_lower -/
def d108 (I : jI) (L : jL) : Int64 :=
  (L 0 0 16)
set_option maxHeartbeats 4000000 in
set_option maxRecDepth 20000 in
theorem D108 {d : Nat} {k : jK} {I : jI} {L : jL} {r : Int64} (h : d108 I L = r) (hk : k (some (.inl (.inr r))) (I, L)) : jPM d 108 [.inr (0, 0)] (I, L) k := by
  refine pM (fun d n => ?_)
  unfold d108 at h
  refine pn_go [] 400 ?_
  conv => whnf
  subst h
  exact hk
/-- X6_there, loop at 4 -/
def d26g1_4 (I : jI) : Nat → Int32 → Int32 → Option (Int32)
  | 0, _, _ => none
  | F + 1, x1, x2 =>
    if (nI 6) ≤ x2 then
      some x1
    else
      if (d16g1 x2 I) = 0 then
        d26g1_4 I F (x1 + 0) (x2 + 1)
      else
        d26g1_4 I F (x1 + 1) (x2 + 1)
set_option maxHeartbeats 4000000 in
set_option maxRecDepth 20000 in
theorem L26g1_4 {d n : Nat} {k : jK} {I : jI} {L : jL} : ∀ (F : Nat) (x1 : Int32) (x2 : Int32) (r : Int32), d26g1_4 I F x1 x2 = some r → (∀ (f2 : Option jV), pn (jPM d) k none (jco 26) n (35, [some (.inr (1, 0)), some (.inl (.inl r)), f2], [], I, L)) → pn (jPM d) k none (jco 26) n (4, [some (.inr (1, 0)), some (.inl (.inl x1)), some (.inl (.inl x2))], [], I, L) := by
  intro F
  induction F with
  | zero => intro x1 x2 r h hx; cases h
  | succ F ih =>
    intro x1 x2 r h hx
    rw [d26g1_4] at h
    refine pn_go [4, 35] 400 ?_
    conv => whnf
    refine ⟨fun cz1 => ?_, fun cz1 => ?_⟩
    · replace h := (if_pos cz1).symm.trans h
      conv => whnf
      cases h
      exact hx _
    · replace h := (if_neg cz1).symm.trans h
      conv => whnf
      refine D16g1 rfl ?_
      conv => whnf
      refine ⟨fun cz2 => ?_, fun cz2 => ?_⟩
      · replace h := (if_pos cz2).symm.trans h
        conv => whnf
        exact ih _ _ r h hx
      · replace h := (if_neg cz2).symm.trans h
        conv => whnf
        exact ih _ _ r h hx
/-- X6_there -/
def d26g1 (I : jI) : Option (Int32) :=
  (d26g1_4 I 70 0 0).bind fun r1 =>
  some r1
set_option maxHeartbeats 4000000 in
set_option maxRecDepth 20000 in
theorem D26g1 {d : Nat} {k : jK} {I : jI} {L : jL} {r : Int32} (h : d26g1 I = some r) (hk : k (some (.inl (.inl r))) (I, L)) : jPM d 26 [.inr (1, 0)] (I, L) k := by
  refine pM (fun d n => ?_)
  unfold d26g1 at h
  refine pn_go [4] 400 ?_
  conv => whnf
  obtain ⟨r1, hz1, h⟩ := obind h
  refine L26g1_4 _ _ _ _ hz1 (fun e2_r1 => ?_)
  refine pn_go [4] 400 ?_
  conv => whnf
  cases h
  exact hk
/-- X6_there, loop at 4 -/
def d26g2_4 (I : jI) : Nat → Int32 → Int32 → Option (Int32)
  | 0, _, _ => none
  | F + 1, x1, x2 =>
    if (nI 4) ≤ x2 then
      some x1
    else
      if (d16g2 x2 I) = 0 then
        d26g2_4 I F (x1 + 0) (x2 + 1)
      else
        d26g2_4 I F (x1 + 1) (x2 + 1)
set_option maxHeartbeats 4000000 in
set_option maxRecDepth 20000 in
theorem L26g2_4 {d n : Nat} {k : jK} {I : jI} {L : jL} : ∀ (F : Nat) (x1 : Int32) (x2 : Int32) (r : Int32), d26g2_4 I F x1 x2 = some r → (∀ (f2 : Option jV), pn (jPM d) k none (jco 26) n (35, [some (.inr (2, 0)), some (.inl (.inl r)), f2], [], I, L)) → pn (jPM d) k none (jco 26) n (4, [some (.inr (2, 0)), some (.inl (.inl x1)), some (.inl (.inl x2))], [], I, L) := by
  intro F
  induction F with
  | zero => intro x1 x2 r h hx; cases h
  | succ F ih =>
    intro x1 x2 r h hx
    rw [d26g2_4] at h
    refine pn_go [4, 35] 400 ?_
    conv => whnf
    refine ⟨fun cz1 => ?_, fun cz1 => ?_⟩
    · replace h := (if_pos cz1).symm.trans h
      conv => whnf
      cases h
      exact hx _
    · replace h := (if_neg cz1).symm.trans h
      conv => whnf
      refine D16g2 rfl ?_
      conv => whnf
      refine ⟨fun cz2 => ?_, fun cz2 => ?_⟩
      · replace h := (if_pos cz2).symm.trans h
        conv => whnf
        exact ih _ _ r h hx
      · replace h := (if_neg cz2).symm.trans h
        conv => whnf
        exact ih _ _ r h hx
/-- X6_there -/
def d26g2 (I : jI) : Option (Int32) :=
  (d26g2_4 I 70 0 0).bind fun r1 =>
  some r1
set_option maxHeartbeats 4000000 in
set_option maxRecDepth 20000 in
theorem D26g2 {d : Nat} {k : jK} {I : jI} {L : jL} {r : Int32} (h : d26g2 I = some r) (hk : k (some (.inl (.inl r))) (I, L)) : jPM d 26 [.inr (2, 0)] (I, L) k := by
  refine pM (fun d n => ?_)
  unfold d26g2 at h
  refine pn_go [4] 400 ?_
  conv => whnf
  obtain ⟨r1, hz1, h⟩ := obind h
  refine L26g2_4 _ _ _ _ hz1 (fun e2_r1 => ?_)
  refine pn_go [4] 400 ?_
  conv => whnf
  cases h
  exact hk
/-- X7_keptHouses, loop at 4 -/
def d115_4 (I : jI) : Nat → Int32 → Int32 → Option (Int32)
  | 0, _, _ => none
  | F + 1, x1, x2 =>
    if 3 ≤ x2 then
      some x1
    else
      if (I 6 0 (Int32.toNatClampNeg x2)) = 0 then
        d115_4 I F (x1 + 0) (x2 + 1)
      else
        d115_4 I F (x1 + 1) (x2 + 1)
set_option maxHeartbeats 4000000 in
set_option maxRecDepth 20000 in
theorem L115_4 {d n : Nat} {k : jK} {I : jI} {L : jL} : ∀ (F : Nat) (x1 : Int32) (x2 : Int32) (r : Int32), d115_4 I F x1 x2 = some r → (∀ (f2 : Option jV), pn (jPM d) k none (jco 115) n (32, [some (.inr (0, 0)), some (.inl (.inl r)), f2], [], I, L)) → pn (jPM d) k none (jco 115) n (4, [some (.inr (0, 0)), some (.inl (.inl x1)), some (.inl (.inl x2))], [], I, L) := by
  intro F
  induction F with
  | zero => intro x1 x2 r h hx; cases h
  | succ F ih =>
    intro x1 x2 r h hx
    rw [d115_4] at h
    refine pn_go [4, 32] 400 ?_
    conv => whnf
    refine ⟨fun cz1 => ?_, fun cz1 => ?_⟩
    · replace h := (if_pos cz1).symm.trans h
      conv => whnf
      cases h
      exact hx _
    · replace h := (if_neg cz1).symm.trans h
      conv => whnf
      intro _
      conv => whnf
      refine ⟨fun cz2 => ?_, fun cz2 => ?_⟩
      · replace h := (if_pos cz2).symm.trans h
        conv => whnf
        exact ih _ _ r h hx
      · replace h := (if_neg cz2).symm.trans h
        conv => whnf
        exact ih _ _ r h hx
/-- X7_keptHouses -/
def d115 (I : jI) : Option (Int32) :=
  (d115_4 I 70 0 0).bind fun r1 =>
  some r1
set_option maxHeartbeats 4000000 in
set_option maxRecDepth 20000 in
theorem D115 {d : Nat} {k : jK} {I : jI} {L : jL} {r : Int32} (h : d115 I = some r) (hk : k (some (.inl (.inl r))) (I, L)) : jPM d 115 [.inr (0, 0)] (I, L) k := by
  refine pM (fun d n => ?_)
  unfold d115 at h
  refine pn_go [4] 400 ?_
  conv => whnf
  obtain ⟨r1, hz1, h⟩ := obind h
  refine L115_4 _ _ _ _ hz1 (fun e2_r1 => ?_)
  refine pn_go [4] 400 ?_
  conv => whnf
  cases h
  exact hk
/-- X1_packetsOf, loop at 4 -/
def d43_4 (y0 : Nat) (y1 : Int32) (I : jI) : Nat → Int32 → Int32 → Option (Int32)
  | 0, _, _ => none
  | F + 1, x2, x3 =>
    if (I 4 y0 6) ≤ x3 then
      some x2
    else
      if (d3 (I 18 y0 (Int32.toNatClampNeg x3)) y1 I) = 0 then
        d43_4 y0 y1 I F (x2 + 0) (x3 + 1)
      else
        d43_4 y0 y1 I F (x2 + 1) (x3 + 1)
set_option maxHeartbeats 4000000 in
set_option maxRecDepth 20000 in
theorem L43_4 {d n : Nat} {k : jK} {y0 : Nat} {y1 : Int32} {I : jI} {L : jL} : ∀ (F : Nat) (x2 : Int32) (x3 : Int32) (r : Int32), d43_4 y0 y1 I F x2 x3 = some r → (∀ (f3 : Option jV), pn (jPM d) k none (jco 43) n (39, [some (.inr (4, y0)), some (.inl (.inl y1)), some (.inl (.inl r)), f3], [], I, L)) → pn (jPM d) k none (jco 43) n (4, [some (.inr (4, y0)), some (.inl (.inl y1)), some (.inl (.inl x2)), some (.inl (.inl x3))], [], I, L) := by
  intro F
  induction F with
  | zero => intro x2 x3 r h hx; cases h
  | succ F ih =>
    intro x2 x3 r h hx
    rw [d43_4] at h
    refine pn_go [4, 39] 400 ?_
    conv => whnf
    refine ⟨fun cz1 => ?_, fun cz1 => ?_⟩
    · replace h := (if_pos cz1).symm.trans h
      conv => whnf
      cases h
      exact hx _
    · replace h := (if_neg cz1).symm.trans h
      conv => whnf
      intro _
      conv => whnf
      refine D3 rfl ?_
      conv => whnf
      refine ⟨fun cz2 => ?_, fun cz2 => ?_⟩
      · replace h := (if_pos cz2).symm.trans h
        conv => whnf
        exact ih _ _ r h hx
      · replace h := (if_neg cz2).symm.trans h
        conv => whnf
        exact ih _ _ r h hx
/-- X1_packetsOf -/
def d43 (a0 : Nat) (a1 : Int32) (I : jI) : Option (Int32) :=
  (d43_4 a0 a1 I 70 0 0).bind fun r1 =>
  some r1
set_option maxHeartbeats 4000000 in
set_option maxRecDepth 20000 in
theorem D43 {d : Nat} {k : jK} {a0 : Nat} {a1 : Int32} {I : jI} {L : jL} {r : Int32} (h : d43 a0 a1 I = some r) (hk : k (some (.inl (.inl r))) (I, L)) : jPM d 43 [.inr (4, a0), .inl (.inl a1)] (I, L) k := by
  refine pM (fun d n => ?_)
  unfold d43 at h
  refine pn_go [4] 400 ?_
  conv => whnf
  obtain ⟨r1, hz1, h⟩ := obind h
  refine L43_4 _ _ _ _ hz1 (fun e3_r1 => ?_)
  refine pn_go [4] 400 ?_
  conv => whnf
  cases h
  exact hk
/-- X1_counted -/
def d42 (a0 : Nat) (a1 : Int32) (I : jI) : Option (Int32) :=
  if a1 = 0 then
    some (I 4 a0 6)
  else
    if a1 = 1 then
      some (I 4 a0 9)
    else
      if a1 = 2 then
        some (I 4 a0 15)
      else
        if a1 = 3 then
          some (I 4 a0 10)
        else
          if a1 = 4 then
            (d10 a0 I).bind fun r1 =>
            some r1
          else
            if a1 = 5 then
              some (I 4 a0 11)
            else
              if a1 = 6 then
                some (I 4 a0 12)
              else
                if a1 = 7 then
                  some (I 4 a0 13)
                else
                  if a1 = 8 then
                    if (I 4 a0 14) = 0 then
                      some 0
                    else
                      some 1
                  else
                    if a1 = 9 then
                      (d43 a0 1 I).bind fun r2 =>
                      some r2
                    else
                      if a1 = 10 then
                        (d43 a0 2 I).bind fun r3 =>
                        some r3
                      else
                        if a1 = 11 then
                          some (I 4 a0 8)
                        else
                          if a1 = 12 then
                            some (I 4 a0 8)
                          else
                            if a1 = 13 then
                              some (I 4 a0 8)
                            else
                              if a1 = 14 then
                                some (I 4 a0 7)
                              else
                                some (I 4 a0 8)
set_option maxHeartbeats 4000000 in
set_option maxRecDepth 20000 in
theorem D42 {d : Nat} {k : jK} {a0 : Nat} {a1 : Int32} {I : jI} {L : jL} {r : Int32} (h : d42 a0 a1 I = some r) (hk : k (some (.inl (.inl r))) (I, L)) : jPM d 42 [.inr (4, a0), .inl (.inl a1)] (I, L) k := by
  refine pM (fun d n => ?_)
  unfold d42 at h
  refine pn_go [] 400 ?_
  conv => whnf
  refine And.intro (fun cz1 => ?_) (fun cz1 => ?_)
  · replace h := (if_pos cz1).symm.trans h
    conv => whnf
    cases h
    exact hk
  replace h := (if_neg cz1).symm.trans h
  refine jsw_cons (fun cz2 => ?_) (fun cz2 => ?_)
  · replace h := (if_pos cz2).symm.trans h
    conv => whnf
    cases h
    exact hk
  replace h := (if_neg cz2).symm.trans h
  refine jsw_cons (fun cz3 => ?_) (fun cz3 => ?_)
  · replace h := (if_pos cz3).symm.trans h
    conv => whnf
    cases h
    exact hk
  replace h := (if_neg cz3).symm.trans h
  refine jsw_cons (fun cz4 => ?_) (fun cz4 => ?_)
  · replace h := (if_pos cz4).symm.trans h
    conv => whnf
    cases h
    exact hk
  replace h := (if_neg cz4).symm.trans h
  refine jsw_cons (fun cz5 => ?_) (fun cz5 => ?_)
  · replace h := (if_pos cz5).symm.trans h
    conv => whnf
    obtain ⟨r1, hz6, h⟩ := obind h
    refine D10 hz6 ?_
    conv => whnf
    cases h
    exact hk
  replace h := (if_neg cz5).symm.trans h
  refine jsw_cons (fun cz7 => ?_) (fun cz7 => ?_)
  · replace h := (if_pos cz7).symm.trans h
    conv => whnf
    cases h
    exact hk
  replace h := (if_neg cz7).symm.trans h
  refine jsw_cons (fun cz8 => ?_) (fun cz8 => ?_)
  · replace h := (if_pos cz8).symm.trans h
    conv => whnf
    cases h
    exact hk
  replace h := (if_neg cz8).symm.trans h
  refine jsw_cons (fun cz9 => ?_) (fun cz9 => ?_)
  · replace h := (if_pos cz9).symm.trans h
    conv => whnf
    cases h
    exact hk
  replace h := (if_neg cz9).symm.trans h
  refine jsw_cons (fun cz10 => ?_) (fun cz10 => ?_)
  · replace h := (if_pos cz10).symm.trans h
    conv => whnf
    refine ⟨fun cz11 => ?_, fun cz11 => ?_⟩
    · replace h := (if_pos cz11).symm.trans h
      conv => whnf
      cases h
      exact hk
    · replace h := (if_neg cz11).symm.trans h
      conv => whnf
      cases h
      exact hk
  replace h := (if_neg cz10).symm.trans h
  refine jsw_cons (fun cz12 => ?_) (fun cz12 => ?_)
  · replace h := (if_pos cz12).symm.trans h
    conv => whnf
    obtain ⟨r2, hz13, h⟩ := obind h
    refine D43 hz13 ?_
    conv => whnf
    cases h
    exact hk
  replace h := (if_neg cz12).symm.trans h
  refine jsw_cons (fun cz14 => ?_) (fun cz14 => ?_)
  · replace h := (if_pos cz14).symm.trans h
    conv => whnf
    obtain ⟨r3, hz15, h⟩ := obind h
    refine D43 hz15 ?_
    conv => whnf
    cases h
    exact hk
  replace h := (if_neg cz14).symm.trans h
  refine jsw_cons (fun cz16 => ?_) (fun cz16 => ?_)
  · replace h := (if_pos cz16).symm.trans h
    conv => whnf
    cases h
    exact hk
  replace h := (if_neg cz16).symm.trans h
  refine jsw_cons (fun cz17 => ?_) (fun cz17 => ?_)
  · replace h := (if_pos cz17).symm.trans h
    conv => whnf
    cases h
    exact hk
  replace h := (if_neg cz17).symm.trans h
  refine jsw_cons (fun cz18 => ?_) (fun cz18 => ?_)
  · replace h := (if_pos cz18).symm.trans h
    conv => whnf
    cases h
    exact hk
  replace h := (if_neg cz18).symm.trans h
  refine jsw_cons (fun cz19 => ?_) (fun cz19 => ?_)
  · replace h := (if_pos cz19).symm.trans h
    conv => whnf
    cases h
    exact hk
  replace h := (if_neg cz19).symm.trans h
  refine jsw_nil ?_
  conv => whnf
  cases h
  exact hk
/-- X7_counted -/
def d114 (a1 : Int32) (I : jI) : Option (Int32) :=
  if a1 = 11 then
    (d26g1 I).bind fun r1 =>
    some r1
  else
    if a1 = 12 then
      (d26g2 I).bind fun r2 =>
      some r2
    else
      if a1 = 13 then
        (d115 I).bind fun r3 =>
        some r3
      else
        (d42 1 a1 I).bind fun r4 =>
        some r4
set_option maxHeartbeats 4000000 in
set_option maxRecDepth 20000 in
theorem D114 {d : Nat} {k : jK} {a1 : Int32} {I : jI} {L : jL} {r : Int32} (h : d114 a1 I = some r) (hk : k (some (.inl (.inl r))) (I, L)) : jPM d 114 [.inr (0, 0), .inl (.inl a1)] (I, L) k := by
  refine pM (fun d n => ?_)
  unfold d114 at h
  refine pn_go [] 400 ?_
  conv => whnf
  refine And.intro (fun cz1 => ?_) (fun cz1 => ?_)
  · replace h := (if_pos cz1).symm.trans h
    conv => whnf
    obtain ⟨r1, hz2, h⟩ := obind h
    refine D26g1 hz2 ?_
    conv => whnf
    cases h
    exact hk
  replace h := (if_neg cz1).symm.trans h
  refine jsw_cons (fun cz3 => ?_) (fun cz3 => ?_)
  · replace h := (if_pos cz3).symm.trans h
    conv => whnf
    obtain ⟨r2, hz4, h⟩ := obind h
    refine D26g2 hz4 ?_
    conv => whnf
    cases h
    exact hk
  replace h := (if_neg cz3).symm.trans h
  refine jsw_cons (fun cz5 => ?_) (fun cz5 => ?_)
  · replace h := (if_pos cz5).symm.trans h
    conv => whnf
    obtain ⟨r3, hz6, h⟩ := obind h
    refine D115 hz6 ?_
    conv => whnf
    cases h
    exact hk
  replace h := (if_neg cz5).symm.trans h
  refine jsw_nil ?_
  conv => whnf
  obtain ⟨r4, hz7, h⟩ := obind h
  refine D42 hz7 ?_
  conv => whnf
  cases h
  exact hk
/-- X7_count -/
def d109 (a1 : Int32) (I : jI) : Option (Int32) :=
  if a1 < 0 then
    some (-1)
  else
    if a1 < 16 then
      (d114 a1 I).bind fun r1 =>
      some r1
    else
      some (-1)
set_option maxHeartbeats 4000000 in
set_option maxRecDepth 20000 in
theorem D109 {d : Nat} {k : jK} {a1 : Int32} {I : jI} {L : jL} {r : Int32} (h : d109 a1 I = some r) (hk : k (some (.inl (.inl r))) (I, L)) : jPM d 109 [.inr (0, 0), .inl (.inl a1)] (I, L) k := by
  refine pM (fun d n => ?_)
  unfold d109 at h
  refine pn_go [] 400 ?_
  conv => whnf
  refine ⟨fun cz1 => ?_, fun cz1 => ?_⟩
  · replace h := (if_pos cz1).symm.trans h
    conv => whnf
    cases h
    exact hk
  · replace h := (if_neg cz1).symm.trans h
    conv => whnf
    refine ⟨fun cz2 => ?_, fun cz2 => ?_⟩
    · replace h := (if_pos cz2).symm.trans h
      conv => whnf
      obtain ⟨r1, hz3, h⟩ := obind h
      refine D114 hz3 ?_
      conv => whnf
      cases h
      exact hk
    · replace h := (if_neg cz2).symm.trans h
      conv => whnf
      cases h
      exact hk
