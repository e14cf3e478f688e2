/-- X7_finding -/
def d110 (I : jI) : Int32 :=
  (I 0 0 13)
set_option maxHeartbeats 4000000 in
set_option maxRecDepth 20000 in
theorem D110 {d : Nat} {k : jK} {I : jI} {L : jL} {r : Int32} (h : d110 I = r) (hk : k (some (.inl (.inl r))) (I, L)) : jPM d 110 [.inr (0, 0)] (I, L) k := by
  refine pM (fun d n => ?_)
  unfold d110 at h
  refine pn_go [] 400 ?_
  conv => whnf
  subst h
  exact hk
/-- X7_findings -/
def d111 (a1 : Int32) (I : jI) : Int32 :=
  if a1 < 1 then
    (-1)
  else
    if a1 ≤ 5 then
      (I 12 0 (Int32.toNatClampNeg a1))
    else
      (-1)
set_option maxHeartbeats 4000000 in
set_option maxRecDepth 20000 in
theorem D111 {d : Nat} {k : jK} {a1 : Int32} {I : jI} {L : jL} {r : Int32} (h : d111 a1 I = r) (hk : k (some (.inl (.inl r))) (I, L)) : jPM d 111 [.inr (0, 0), .inl (.inl a1)] (I, L) k := by
  refine pM (fun d n => ?_)
  unfold d111 at h
  refine pn_go [] 400 ?_
  conv => whnf
  refine ⟨fun cz1 => ?_, fun cz1 => ?_⟩
  · replace h := (if_pos cz1).symm.trans h
    conv => whnf
    subst h
    exact hk
  · replace h := (if_neg cz1).symm.trans h
    conv => whnf
    refine ⟨fun cz2 => ?_, fun cz2 => ?_⟩
    · replace h := (if_pos cz2).symm.trans h
      conv => whnf
      intro _
      conv => whnf
      subst h
      exact hk
    · replace h := (if_neg cz2).symm.trans h
      conv => whnf
      subst h
      exact hk
/-- X7_digest, loop at 6 -/
def d112_6 (I : jI) : Nat → Int64 → Int32 → Option (Int64)
  | 0, _, _ => none
  | F + 1, x1, x3 =>
    if 16 ≤ x3 then
      some x1
    else
      (d114 x3 I).bind fun r1 =>
      d112_6 I F ((31 * x1) + (Int32.toInt64 r1)) (x3 + 1)
set_option maxHeartbeats 4000000 in
set_option maxRecDepth 20000 in
theorem L112_6 {d n : Nat} {k : jK} {I : jI} {L : jL} : ∀ (F : Nat) (x1 : Int64) (x3 : Int32) (e4 : Option jV) (r : Int64), d112_6 I F x1 x3 = some r → (∀ (f3 f4 : Option jV), pn (jPM d) k none (jco 112) n (31, [some (.inr (0, 0)), some (.inl (.inr r)), none, f3, f4], [], I, L)) → pn (jPM d) k none (jco 112) n (6, [some (.inr (0, 0)), some (.inl (.inr x1)), none, some (.inl (.inl x3)), e4], [], I, L) := by
  intro F
  induction F with
  | zero => intro x1 x3 e4 r h hx; cases h
  | succ F ih =>
    intro x1 x3 e4 r h hx
    rw [d112_6] at h
    refine pn_go [6, 31, 33, 66, 80, 119] 400 ?_
    conv => whnf
    refine ⟨fun cz1 => ?_, fun cz1 => ?_⟩
    · replace h := (if_pos cz1).symm.trans h
      conv => whnf
      cases h
      exact hx _ _
    · replace h := (if_neg cz1).symm.trans h
      conv => whnf
      obtain ⟨r1, hz2, h⟩ := obind h
      refine D114 hz2 ?_
      conv => whnf
      exact ih _ _ _ r h hx
/-- X7_digest, loop at 33 -/
def d112_33 (I : jI) : Nat → Int64 → Int32 → Option (Int64)
  | 0, _, _ => none
  | F + 1, x1, x3 =>
    if 10 ≤ x3 then
      some x1
    else
      d112_33 I F ((31 * x1) + (Int32.toInt64 (d9 1 x3 I))) (x3 + 1)
set_option maxHeartbeats 4000000 in
set_option maxRecDepth 20000 in
theorem L112_33 {d n : Nat} {k : jK} {I : jI} {L : jL} : ∀ (F : Nat) (x1 : Int64) (x3 : Int32) (e4 : Option jV) (r : Int64), d112_33 I F x1 x3 = some r → (∀ (f3 f4 : Option jV), pn (jPM d) k none (jco 112) n (64, [some (.inr (0, 0)), some (.inl (.inr r)), none, f3, f4], [], I, L)) → pn (jPM d) k none (jco 112) n (33, [some (.inr (0, 0)), some (.inl (.inr x1)), none, some (.inl (.inl x3)), e4], [], I, L) := by
  intro F
  induction F with
  | zero => intro x1 x3 e4 r h hx; cases h
  | succ F ih =>
    intro x1 x3 e4 r h hx
    rw [d112_33] at h
    refine pn_go [6, 33, 64, 66, 80, 119] 400 ?_
    conv => whnf
    refine ⟨fun cz1 => ?_, fun cz1 => ?_⟩
    · replace h := (if_pos cz1).symm.trans h
      conv => whnf
      cases h
      exact hx _ _
    · replace h := (if_neg cz1).symm.trans h
      conv => whnf
      refine D9 rfl ?_
      conv => whnf
      exact ih _ _ _ r h hx
/-- X7_digest, loop at 80 -/
def d112_80 (y3 : Int32) (I : jI) : Nat → Int64 → Int32 → Option (Int64)
  | 0, _, _ => none
  | F + 1, x1, x4 =>
    if 6 ≤ x4 then
      some x1
    else
      d112_80 y3 I F ((31 * x1) + (Int32.toInt64 (d40 1 y3 x4 I))) (x4 + 1)
set_option maxHeartbeats 4000000 in
set_option maxRecDepth 20000 in
theorem L112_80 {d n : Nat} {k : jK} {y3 : Int32} {I : jI} {L : jL} : ∀ (F : Nat) (x1 : Int64) (x4 : Int32) (r : Int64), d112_80 y3 I F x1 x4 = some r → (∀ (f4 : Option jV), pn (jPM d) k none (jco 112) n (111, [some (.inr (0, 0)), some (.inl (.inr r)), none, some (.inl (.inl y3)), f4], [], I, L)) → pn (jPM d) k none (jco 112) n (80, [some (.inr (0, 0)), some (.inl (.inr x1)), none, some (.inl (.inl y3)), some (.inl (.inl x4))], [], I, L) := by
  intro F
  induction F with
  | zero => intro x1 x4 r h hx; cases h
  | succ F ih =>
    intro x1 x4 r h hx
    rw [d112_80] at h
    refine pn_go [6, 33, 66, 80, 111, 119] 400 ?_
    conv => whnf
    refine ⟨fun cz1 => ?_, fun cz1 => ?_⟩
    · replace h := (if_pos cz1).symm.trans h
      conv => whnf
      cases h
      exact hx _
    · replace h := (if_neg cz1).symm.trans h
      conv => whnf
      refine D40 rfl ?_
      conv => whnf
      exact ih _ _ r h hx
/-- X7_digest, loop at 66 -/
def d112_66 (I : jI) : Nat → Int64 → Int32 → Option (Int64)
  | 0, _, _ => none
  | F + 1, x1, x3 =>
    if (I 4 1 6) ≤ x3 then
      some x1
    else
      (d112_80 x3 I 70 x1 0).bind fun r4 =>
      d112_66 I F r4 (x3 + 1)
set_option maxHeartbeats 4000000 in
set_option maxRecDepth 20000 in
theorem L112_66 {d n : Nat} {k : jK} {I : jI} {L : jL} : ∀ (F : Nat) (x1 : Int64) (x3 : Int32) (e4 : Option jV) (r : Int64), d112_66 I F x1 x3 = some r → (∀ (f3 f4 : Option jV), pn (jPM d) k none (jco 112) n (117, [some (.inr (0, 0)), some (.inl (.inr r)), none, f3, f4], [], I, L)) → pn (jPM d) k none (jco 112) n (66, [some (.inr (0, 0)), some (.inl (.inr x1)), none, some (.inl (.inl x3)), e4], [], I, L) := by
  intro F
  induction F with
  | zero => intro x1 x3 e4 r h hx; cases h
  | succ F ih =>
    intro x1 x3 e4 r h hx
    rw [d112_66] at h
    refine pn_go [6, 33, 66, 80, 117, 119] 400 ?_
    conv => whnf
    refine ⟨fun cz1 => ?_, fun cz1 => ?_⟩
    · replace h := (if_pos cz1).symm.trans h
      conv => whnf
      cases h
      exact hx _ _
    · replace h := (if_neg cz1).symm.trans h
      conv => whnf
      obtain ⟨r4, hz2, h⟩ := obind h
      refine L112_80 _ _ _ _ hz2 (fun e4_r4 => ?_)
      refine pn_go [6, 33, 66, 80, 117, 119] 400 ?_
      conv => whnf
      exact ih _ _ _ r h hx
/-- X7_digest, loop at 119 -/
def d112_119 (I : jI) : Nat → Int64 → Int32 → Option (Int64)
  | 0, _, _ => none
  | F + 1, x1, x3 =>
    if 3 ≤ x3 then
      some x1
    else
      if (I 6 0 (Int32.toNatClampNeg x3)) = 0 then
        d112_119 I F ((31 * x1) + (Int32.toInt64 (-1))) (x3 + 1)
      else
        d112_119 I F ((31 * x1) + (Int32.toInt64 (I 4 (2 + (Int32.toNatClampNeg x3)) 15))) (x3 + 1)
set_option maxHeartbeats 4000000 in
set_option maxRecDepth 20000 in
theorem L112_119 {d n : Nat} {k : jK} {I : jI} {L : jL} : ∀ (F : Nat) (x1 : Int64) (x3 : Int32) (e4 : Option jV) (r : Int64), d112_119 I F x1 x3 = some r → (∀ (f3 f4 : Option jV), pn (jPM d) k none (jco 112) n (160, [some (.inr (0, 0)), some (.inl (.inr r)), none, f3, f4], [], I, L)) → pn (jPM d) k none (jco 112) n (119, [some (.inr (0, 0)), some (.inl (.inr x1)), none, some (.inl (.inl x3)), e4], [], I, L) := by
  intro F
  induction F with
  | zero => intro x1 x3 e4 r h hx; cases h
  | succ F ih =>
    intro x1 x3 e4 r h hx
    rw [d112_119] at h
    refine pn_go [6, 33, 66, 80, 119, 160] 400 ?_
    conv => whnf
    refine ⟨fun cz1 => ?_, fun cz1 => ?_⟩
    · replace h := (if_pos cz1).symm.trans h
      conv => whnf
      cases h
      exact hx _ _
    · replace h := (if_neg cz1).symm.trans h
      conv => whnf
      intro _
      conv => whnf
      refine ⟨fun cz2 => ?_, fun cz2 => ?_⟩
      · replace h := (if_pos cz2).symm.trans h
        conv => whnf
        exact ih _ _ _ r h hx
      · replace h := (if_neg cz2).symm.trans h
        conv => whnf
        intro _
        conv => whnf
        exact ih _ _ _ r h hx
/-- X6_mixInto, loop at 33 -/
def d27g1_33 (y5 : Int32) (I : jI) : Nat → Int64 → Int32 → Option (Int64)
  | 0, _, _ => none
  | F + 1, x3, x6 =>
    if (I 14 0 (Int32.toNatClampNeg y5)) ≤ x6 then
      some x3
    else
      d27g1_33 y5 I F ((31 * x3) + (Int32.toInt64 (I 29 (Int32.toNatClampNeg y5) (Int32.toNatClampNeg x6)))) (x6 + 1)
set_option maxHeartbeats 4000000 in
set_option maxRecDepth 20000 in
theorem L27g1_33 {d n : Nat} {k : jK} {y5 : Int32} {I : jI} {L : jL} : ∀ (F : Nat) (x3 : Int64) (x6 : Int32) (e1 e2 : Option jV) (r : Int64), d27g1_33 y5 I F x3 x6 = some r → (∀ (f1 f2 f6 : Option jV), pn (jPM d) k none (jco 27) n (69, [some (.inr (1, 0)), f1, f2, some (.inl (.inr r)), none, some (.inl (.inl y5)), f6], [], I, L)) → pn (jPM d) k none (jco 27) n (33, [some (.inr (1, 0)), e1, e2, some (.inl (.inr x3)), none, some (.inl (.inl y5)), some (.inl (.inl x6))], [], I, L) := by
  intro F
  induction F with
  | zero => intro x3 x6 e1 e2 r h hx; cases h
  | succ F ih =>
    intro x3 x6 e1 e2 r h hx
    rw [d27g1_33] at h
    refine pn_go [5, 33, 69] 400 ?_
    conv => whnf
    intro _
    conv => whnf
    refine ⟨fun cz1 => ?_, fun cz1 => ?_⟩
    · replace h := (if_pos cz1).symm.trans h
      conv => whnf
      cases h
      exact hx _ _ _
    · replace h := (if_neg cz1).symm.trans h
      conv => whnf
      intro _
      conv => whnf
      intro _
      conv => whnf
      exact ih _ _ _ _ r h hx
/-- X6_mixInto, loop at 5 -/
def d27g1_5 (I : jI) : Nat → Int64 → Int32 → Option (Int64)
  | 0, _, _ => none
  | F + 1, x3, x5 =>
    if (nI 6) ≤ x5 then
      some x3
    else
      (d27g1_33 x5 I 70 ((31 * x3) + (Int32.toInt64 (I 14 0 (Int32.toNatClampNeg x5)))) 0).bind fun r1 =>
      d27g1_5 I F r1 (x5 + 1)
set_option maxHeartbeats 4000000 in
set_option maxRecDepth 20000 in
theorem L27g1_5 {d n : Nat} {k : jK} {I : jI} {L : jL} : ∀ (F : Nat) (x3 : Int64) (x5 : Int32) (e1 e2 e6 : Option jV) (r : Int64), d27g1_5 I F x3 x5 = some r → (∀ (f1 f2 f5 f6 : Option jV), pn (jPM d) k none (jco 27) n (75, [some (.inr (1, 0)), f1, f2, some (.inl (.inr r)), none, f5, f6], [], I, L)) → pn (jPM d) k none (jco 27) n (5, [some (.inr (1, 0)), e1, e2, some (.inl (.inr x3)), none, some (.inl (.inl x5)), e6], [], I, L) := by
  intro F
  induction F with
  | zero => intro x3 x5 e1 e2 e6 r h hx; cases h
  | succ F ih =>
    intro x3 x5 e1 e2 e6 r h hx
    rw [d27g1_5] at h
    refine pn_go [5, 33, 75] 400 ?_
    conv => whnf
    refine ⟨fun cz1 => ?_, fun cz1 => ?_⟩
    · replace h := (if_pos cz1).symm.trans h
      conv => whnf
      cases h
      exact hx _ _ _ _
    · replace h := (if_neg cz1).symm.trans h
      conv => whnf
      intro _
      conv => whnf
      obtain ⟨r1, hz2, h⟩ := obind h
      refine L27g1_33 _ _ _ _ _ _ hz2 (fun e1_r1 e2_r1 e6_r1 => ?_)
      refine pn_go [5, 33, 75] 400 ?_
      conv => whnf
      exact ih _ _ _ _ _ r h hx
/-- X6_mixInto -/
def d27g1 (a1 : Int64) (I : jI) : Option (Int64) :=
  (d27g1_5 I 70 a1 0).bind fun r2 =>
  some r2
set_option maxHeartbeats 4000000 in
set_option maxRecDepth 20000 in
theorem D27g1 {d : Nat} {k : jK} {a1 : Int64} {I : jI} {L : jL} {r : Int64} (h : d27g1 a1 I = some r) (hk : k (some (.inl (.inr r))) (I, L)) : jPM d 27 [.inr (1, 0), .inl (.inr a1)] (I, L) k := by
  refine pM (fun d n => ?_)
  unfold d27g1 at h
  refine pn_go [5, 33] 400 ?_
  conv => whnf
  obtain ⟨r2, hz1, h⟩ := obind h
  refine L27g1_5 _ _ _ _ _ _ _ hz1 (fun e1_r2 e2_r2 e5_r2 e6_r2 => ?_)
  refine pn_go [5, 33] 400 ?_
  conv => whnf
  cases h
  exact hk
/-- X6_mixInto, loop at 33 -/
def d27g2_33 (y5 : Int32) (I : jI) : Nat → Int64 → Int32 → Option (Int64)
  | 0, _, _ => none
  | F + 1, x3, x6 =>
    if (I 16 0 (Int32.toNatClampNeg y5)) ≤ x6 then
      some x3
    else
      d27g2_33 y5 I F ((31 * x3) + (Int32.toInt64 (I 30 (Int32.toNatClampNeg y5) (Int32.toNatClampNeg x6)))) (x6 + 1)
set_option maxHeartbeats 4000000 in
set_option maxRecDepth 20000 in
theorem L27g2_33 {d n : Nat} {k : jK} {y5 : Int32} {I : jI} {L : jL} : ∀ (F : Nat) (x3 : Int64) (x6 : Int32) (e1 e2 : Option jV) (r : Int64), d27g2_33 y5 I F x3 x6 = some r → (∀ (f1 f2 f6 : Option jV), pn (jPM d) k none (jco 27) n (69, [some (.inr (2, 0)), f1, f2, some (.inl (.inr r)), none, some (.inl (.inl y5)), f6], [], I, L)) → pn (jPM d) k none (jco 27) n (33, [some (.inr (2, 0)), e1, e2, some (.inl (.inr x3)), none, some (.inl (.inl y5)), some (.inl (.inl x6))], [], I, L) := by
  intro F
  induction F with
  | zero => intro x3 x6 e1 e2 r h hx; cases h
  | succ F ih =>
    intro x3 x6 e1 e2 r h hx
    rw [d27g2_33] at h
    refine pn_go [5, 33, 69] 400 ?_
    conv => whnf
    intro _
    conv => whnf
    refine ⟨fun cz1 => ?_, fun cz1 => ?_⟩
    · replace h := (if_pos cz1).symm.trans h
      conv => whnf
      cases h
      exact hx _ _ _
    · replace h := (if_neg cz1).symm.trans h
      conv => whnf
      intro _
      conv => whnf
      intro _
      conv => whnf
      exact ih _ _ _ _ r h hx
/-- X6_mixInto, loop at 5 -/
def d27g2_5 (I : jI) : Nat → Int64 → Int32 → Option (Int64)
  | 0, _, _ => none
  | F + 1, x3, x5 =>
    if (nI 4) ≤ x5 then
      some x3
    else
      (d27g2_33 x5 I 70 ((31 * x3) + (Int32.toInt64 (I 16 0 (Int32.toNatClampNeg x5)))) 0).bind fun r1 =>
      d27g2_5 I F r1 (x5 + 1)
set_option maxHeartbeats 4000000 in
set_option maxRecDepth 20000 in
theorem L27g2_5 {d n : Nat} {k : jK} {I : jI} {L : jL} : ∀ (F : Nat) (x3 : Int64) (x5 : Int32) (e1 e2 e6 : Option jV) (r : Int64), d27g2_5 I F x3 x5 = some r → (∀ (f1 f2 f5 f6 : Option jV), pn (jPM d) k none (jco 27) n (75, [some (.inr (2, 0)), f1, f2, some (.inl (.inr r)), none, f5, f6], [], I, L)) → pn (jPM d) k none (jco 27) n (5, [some (.inr (2, 0)), e1, e2, some (.inl (.inr x3)), none, some (.inl (.inl x5)), e6], [], I, L) := by
  intro F
  induction F with
  | zero => intro x3 x5 e1 e2 e6 r h hx; cases h
  | succ F ih =>
    intro x3 x5 e1 e2 e6 r h hx
    rw [d27g2_5] at h
    refine pn_go [5, 33, 75] 400 ?_
    conv => whnf
    refine ⟨fun cz1 => ?_, fun cz1 => ?_⟩
    · replace h := (if_pos cz1).symm.trans h
      conv => whnf
      cases h
      exact hx _ _ _ _
    · replace h := (if_neg cz1).symm.trans h
      conv => whnf
      intro _
      conv => whnf
      obtain ⟨r1, hz2, h⟩ := obind h
      refine L27g2_33 _ _ _ _ _ _ hz2 (fun e1_r1 e2_r1 e6_r1 => ?_)
      refine pn_go [5, 33, 75] 400 ?_
      conv => whnf
      exact ih _ _ _ _ _ r h hx
/-- X6_mixInto -/
def d27g2 (a1 : Int64) (I : jI) : Option (Int64) :=
  (d27g2_5 I 70 a1 0).bind fun r2 =>
  some r2
set_option maxHeartbeats 4000000 in
set_option maxRecDepth 20000 in
theorem D27g2 {d : Nat} {k : jK} {a1 : Int64} {I : jI} {L : jL} {r : Int64} (h : d27g2 a1 I = some r) (hk : k (some (.inl (.inr r))) (I, L)) : jPM d 27 [.inr (2, 0), .inl (.inr a1)] (I, L) k := by
  refine pM (fun d n => ?_)
  unfold d27g2 at h
  refine pn_go [5, 33] 400 ?_
  conv => whnf
  obtain ⟨r2, hz1, h⟩ := obind h
  refine L27g2_5 _ _ _ _ _ _ _ hz1 (fun e1_r2 e2_r2 e5_r2 e6_r2 => ?_)
  refine pn_go [5, 33] 400 ?_
  conv => whnf
  cases h
  exact hk
/-- X7_digest -/
def d112 (I : jI) : Option (Int64) :=
  (d112_6 I 70 17 0).bind fun r2 =>
  (d112_33 I 70 r2 0).bind fun r3 =>
  (d112_66 I 70 r3 0).bind fun r5 =>
  (d112_119 I 70 r5 0).bind fun r6 =>
  (d27g1 r6 I).bind fun r7 =>
  (d27g2 r7 I).bind fun r8 =>
  some r8
set_option maxHeartbeats 4000000 in
set_option maxRecDepth 20000 in
theorem D112 {d : Nat} {k : jK} {I : jI} {L : jL} {r : Int64} (h : d112 I = some r) (hk : k (some (.inl (.inr r))) (I, L)) : jPM d 112 [.inr (0, 0)] (I, L) k := by
  refine pM (fun d n => ?_)
  unfold d112 at h
  refine pn_go [6, 33, 66, 80, 119] 400 ?_
  conv => whnf
  obtain ⟨r2, hz1, h⟩ := obind h
  refine L112_6 _ _ _ _ _ hz1 (fun e3_r2 e4_r2 => ?_)
  refine pn_go [6, 33, 66, 80, 119] 400 ?_
  conv => whnf
  obtain ⟨r3, hz2, h⟩ := obind h
  refine L112_33 _ _ _ _ _ hz2 (fun e3_r3 e4_r3 => ?_)
  refine pn_go [6, 33, 66, 80, 119] 400 ?_
  conv => whnf
  obtain ⟨r5, hz3, h⟩ := obind h
  refine L112_66 _ _ _ _ _ hz3 (fun e3_r5 e4_r5 => ?_)
  refine pn_go [6, 33, 66, 80, 119] 400 ?_
  conv => whnf
  obtain ⟨r6, hz4, h⟩ := obind h
  refine L112_119 _ _ _ _ _ hz4 (fun e3_r6 e4_r6 => ?_)
  refine pn_go [6, 33, 66, 80, 119] 400 ?_
  conv => whnf
  obtain ⟨r7, hz5, h⟩ := obind h
  refine D27g1 hz5 ?_
  conv => whnf
  obtain ⟨r8, hz6, h⟩ := obind h
  refine D27g2 hz6 ?_
  conv => whnf
  cases h
  exact hk
