/-- X2_costByCard -/
def d6 (a0 : Int32) (a1 : Int32) (I : jI) : Int32 :=
  if a1 = 0 then
    a0
  else
    ((a0 * 3) / 4)
set_option maxHeartbeats 4000000 in
set_option maxRecDepth 20000 in
theorem D6 {d : Nat} {k : jK} {a0 : Int32} {a1 : Int32} {I : jI} {L : jL} {r : Int32} (h : d6 a0 a1 I = r) (hk : k (some (.inl (.inl r))) (I, L)) : jPM d 6 [.inl (.inl a0), .inl (.inl a1)] (I, L) k := by
  refine pM (fun d n => ?_)
  unfold d6 at h
  refine pn_go [] 400 ?_
  conv => whnf
  refine ⟨fun cz1 => ?_, fun cz1 => ?_⟩
  · replace h := (if_pos cz1).symm.trans h
    conv => whnf
    subst h
    exact hk
  · replace h := (if_neg cz1).symm.trans h
    conv => whnf
    intro _
    conv => whnf
    subst h
    exact hk
/-- X2_cost -/
def d5 (a0 : Int32) (a1 : Int32) (a2 : Int32) (a3 : Int32) (I : jI) : Int32 :=
  if a0 = 1 then
    (d6 (a1 * a2) a3 I)
  else
    if a0 = 2 then
      ((a1 - (a1 / 3)) * a2)
    else
      if a0 = 3 then
        ((a1 * a2) / 2)
      else
        if a0 = 4 then
          (if 0 < ((d6 (a1 * a2) a3 I) - a1) then ((d6 (a1 * a2) a3 I) - a1) else 0)
        else
          if a0 = 5 then
            ((a1 - (a1 / 3)) * a2)
          else
            (a1 * a2)
set_option maxHeartbeats 4000000 in
set_option maxRecDepth 20000 in
theorem D5 {d : Nat} {k : jK} {a0 : Int32} {a1 : Int32} {a2 : Int32} {a3 : Int32} {I : jI} {L : jL} {r : Int32} (h : d5 a0 a1 a2 a3 I = r) (hk : k (some (.inl (.inl r))) (I, L)) : jPM d 5 [.inl (.inl a0), .inl (.inl a1), .inl (.inl a2), .inl (.inl a3)] (I, L) k := by
  refine pM (fun d n => ?_)
  unfold d5 at h
  refine pn_go [] 400 ?_
  conv => whnf
  refine And.intro (fun cz1 => ?_) (fun cz1 => ?_)
  · replace h := (if_pos cz1).symm.trans h
    conv => whnf
    refine D6 rfl ?_
    conv => whnf
    subst h
    exact hk
  replace h := (if_neg cz1).symm.trans h
  refine jsw_cons (fun cz2 => ?_) (fun cz2 => ?_)
  · replace h := (if_pos cz2).symm.trans h
    conv => whnf
    intro _
    conv => whnf
    subst h
    exact hk
  replace h := (if_neg cz2).symm.trans h
  refine jsw_cons (fun cz3 => ?_) (fun cz3 => ?_)
  · replace h := (if_pos cz3).symm.trans h
    conv => whnf
    intro _
    conv => whnf
    subst h
    exact hk
  replace h := (if_neg cz3).symm.trans h
  refine jsw_cons (fun cz4 => ?_) (fun cz4 => ?_)
  · replace h := (if_pos cz4).symm.trans h
    conv => whnf
    refine D6 rfl ?_
    conv => whnf
    subst h
    exact hk
  replace h := (if_neg cz4).symm.trans h
  refine jsw_cons (fun cz5 => ?_) (fun cz5 => ?_)
  · replace h := (if_pos cz5).symm.trans h
    conv => whnf
    intro _
    conv => whnf
    subst h
    exact hk
  replace h := (if_neg cz5).symm.trans h
  refine jsw_nil ?_
  conv => whnf
  subst h
  exact hk
/-- X2_got -/
def d7 (a0 : Int32) (a1 : Int32) (I : jI) : Int32 :=
  if a0 = 3 then
    (a1 / 2)
  else
    a1
set_option maxHeartbeats 4000000 in
set_option maxRecDepth 20000 in
theorem D7 {d : Nat} {k : jK} {a0 : Int32} {a1 : Int32} {I : jI} {L : jL} {r : Int32} (h : d7 a0 a1 I = r) (hk : k (some (.inl (.inl r))) (I, L)) : jPM d 7 [.inl (.inl a0), .inl (.inl a1)] (I, L) k := by
  refine pM (fun d n => ?_)
  unfold d7 at h
  refine pn_go [] 400 ?_
  conv => whnf
  refine ⟨fun cz1 => ?_, fun cz1 => ?_⟩
  · replace h := (if_neg cz1).symm.trans h
    conv => whnf
    subst h
    exact hk
  · replace h := (if_pos cz1).symm.trans h
    conv => whnf
    intro _
    conv => whnf
    subst h
    exact hk
/-- X1_getsBy -/
def d36 (a0 : Nat) (a1 : Int32) (I : jI) : Int32 :=
  (d7 (I 18 a0 (Int32.toNatClampNeg a1)) (I 19 a0 (Int32.toNatClampNeg a1)) I)
set_option maxHeartbeats 4000000 in
set_option maxRecDepth 20000 in
theorem D36 {d : Nat} {k : jK} {a0 : Nat} {a1 : Int32} {I : jI} {L : jL} {r : Int32} (h : d36 a0 a1 I = r) (hk : k (some (.inl (.inl r))) (I, L)) : jPM d 36 [.inr (4, a0), .inl (.inl a1)] (I, L) k := by
  refine pM (fun d n => ?_)
  unfold d36 at h
  refine pn_go [] 400 ?_
  conv => whnf
  intro _
  conv => whnf
  intro _
  conv => whnf
  refine D7 rfl ?_
  conv => whnf
  subst h
  exact hk
/-- X7_buyerPays, loop at 5 -/
def d121_5 (y0 : Nat) (I : jI) : Nat → Int32 → Int32 → Option (Int32)
  | 0, _, _ => none
  | F + 1, x2, x3 =>
    if (I 4 y0 6) ≤ x3 then
      some x2
    else
      d121_5 y0 I F (if ((d5 (I 18 y0 (Int32.toNatClampNeg x3)) 1 (I 10 0 (Int32.toNatClampNeg x3)) (I 4 y0 14) I) - (5 * (d36 y0 x3 I))) < x2 then ((d5 (I 18 y0 (Int32.toNatClampNeg x3)) 1 (I 10 0 (Int32.toNatClampNeg x3)) (I 4 y0 14) I) - (5 * (d36 y0 x3 I))) else x2) (x3 + 1)
set_option maxHeartbeats 4000000 in
set_option maxRecDepth 20000 in
theorem L121_5 {d n : Nat} {k : jK} {y0 : Nat} {I : jI} {L : jL} : ∀ (F : Nat) (x2 : Int32) (x3 : Int32) (e4 : Option jV) (r : Int32), d121_5 y0 I F x2 x3 = some r → (∀ (f3 f4 : Option jV), pn (jPM d) k none (jco 121) n (53, [some (.inr (4, y0)), some (.inr (10, 0)), some (.inl (.inl r)), f3, f4], [], I, L)) → pn (jPM d) k none (jco 121) n (5, [some (.inr (4, y0)), some (.inr (10, 0)), some (.inl (.inl x2)), some (.inl (.inl x3)), e4], [], I, L) := by
  intro F
  induction F with
  | zero => intro x2 x3 e4 r h hx; cases h
  | succ F ih =>
    intro x2 x3 e4 r h hx
    rw [d121_5] at h
    refine pn_go [5, 53] 400 ?_
    conv => whnf
    refine ⟨fun cz1 => ?_, fun cz1 => ?_⟩
    · replace h := (if_pos cz1).symm.trans h
      conv => whnf
      cases h
      exact hx _ _
    · replace h := (if_neg cz1).symm.trans h
      conv => whnf
      intro _
      conv => whnf
      intro _
      conv => whnf
      refine D5 rfl ?_
      conv => whnf
      refine D36 rfl ?_
      conv => whnf
      exact ih _ _ _ r h hx
/-- X7_buyerPays -/
def d121 (a0 : Nat) (I : jI) : Option (Int32) :=
  (d121_5 a0 I 70 1000000 0).bind fun r1 =>
  some r1
set_option maxHeartbeats 4000000 in
set_option maxRecDepth 20000 in
theorem D121 {d : Nat} {k : jK} {a0 : Nat} {I : jI} {L : jL} {r : Int32} (h : d121 a0 I = some r) (hk : k (some (.inl (.inl r))) (I, L)) : jPM d 121 [.inr (4, a0), .inr (10, 0)] (I, L) k := by
  refine pM (fun d n => ?_)
  unfold d121 at h
  refine pn_go [5] 400 ?_
  conv => whnf
  obtain ⟨r1, hz1, h⟩ := obind h
  refine L121_5 _ _ _ _ _ hz1 (fun e3_r1 e4_r1 => ?_)
  refine pn_go [5] 400 ?_
  conv => whnf
  cases h
  exact hk
/-- X7_shopTakes, loop at 24 -/
def d120_24 (rc : Nat → Int32 → jI → Option (Int32 × jI)) (y0 : Nat) (y2 : Int32) : Nat → Int32 → Int32 → jI → Option (Int32 × jI)
  | 0, _, _, _ => none
  | F + 1, x3, x4, I =>
    if (I 4 y0 6) ≤ x4 then
      some (x3, I)
    else
      (d121 y0 (jup I 10 0 (Int32.toNatClampNeg x4) (if ((I 10 0 (Int32.toNatClampNeg x4)) + 7) < 99 then ((I 10 0 (Int32.toNatClampNeg x4)) + 7) else 99))).bind fun r3 =>
      (rc y0 (y2 - 1) (jup I 10 0 (Int32.toNatClampNeg x4) (if ((I 10 0 (Int32.toNatClampNeg x4)) + 7) < 99 then ((I 10 0 (Int32.toNatClampNeg x4)) + 7) else 99))).bind fun r4 =>
      d120_24 rc y0 y2 F (if x3 < (r3 + r4.1) then (r3 + r4.1) else x3) (x4 + 1) (jup r4.2 10 0 (Int32.toNatClampNeg x4) (I 10 0 (Int32.toNatClampNeg x4)))
set_option maxHeartbeats 4000000 in
set_option maxRecDepth 20000 in
theorem L120_24 {d n : Nat} {k : jK} (rc : Nat → Int32 → jI → Option (Int32 × jI)) (hrc : ∀ {d : Nat} {k : jK} {a0 : Nat} {a2 : Int32} {I : jI} {L : jL} {r : Int32 × jI}, rc a0 a2 I = some r → k (some (.inl (.inl r.1))) (r.2, L) → jPM d 120 [.inr (4, a0), .inr (10, 0), .inl (.inl a2)] (I, L) k) {y0 : Nat} {y2 : Int32} {L : jL} : ∀ (F : Nat) (x3 : Int32) (x4 : Int32) (I : jI) (e5 : Option jV) (r : Int32 × jI), d120_24 rc y0 y2 F x3 x4 I = some r → (∀ (f4 f5 : Option jV), pn (jPM d) k none (jco 120) n (84, [some (.inr (4, y0)), some (.inr (10, 0)), some (.inl (.inl y2)), some (.inl (.inl r.1)), f4, f5], [], r.2, L)) → pn (jPM d) k none (jco 120) n (24, [some (.inr (4, y0)), some (.inr (10, 0)), some (.inl (.inl y2)), some (.inl (.inl x3)), some (.inl (.inl x4)), e5], [], I, L) := by
  intro F
  induction F with
  | zero => intro x3 x4 I e5 r h hx; cases h
  | succ F ih =>
    intro x3 x4 I e5 r h hx
    rw [d120_24] at h
    refine pn_go [24, 84] 400 ?_
    conv => whnf
    refine ⟨fun cz1 => ?_, fun cz1 => ?_⟩
    · replace h := (if_pos cz1).symm.trans h
      conv => whnf
      cases h
      exact hx _ _
    · replace h := (if_neg cz1).symm.trans h
      conv => whnf
      intro _
      conv => whnf
      intro _
      conv => whnf
      obtain ⟨r3, hz2, h⟩ := obind h
      refine D121 hz2 ?_
      conv => whnf
      obtain ⟨r4, hz3, h⟩ := obind h
      refine hrc hz3 ?_
      conv => whnf
      intro _
      conv => whnf
      exact ih _ _ _ _ r h hx
/-- X7_shopTakes -/
def d120 (rc : Nat → Int32 → jI → Option (Int32 × jI)) (a0 : Nat) (a2 : Int32) (I : jI) : Option (Int32 × jI) :=
  if 0 < a2 then
    (d121 a0 I).bind fun r1 =>
    (rc a0 (a2 - 1) I).bind fun r2 =>
    (d120_24 rc a0 a2 70 (r1 + r2.1) 0 r2.2).bind fun r5 =>
    some (r5.1, r5.2)
  else
    some (0, I)
set_option maxHeartbeats 4000000 in
set_option maxRecDepth 20000 in
theorem D120 {d : Nat} {k : jK} (rc : Nat → Int32 → jI → Option (Int32 × jI)) (hrc : ∀ {d : Nat} {k : jK} {a0 : Nat} {a2 : Int32} {I : jI} {L : jL} {r : Int32 × jI}, rc a0 a2 I = some r → k (some (.inl (.inl r.1))) (r.2, L) → jPM d 120 [.inr (4, a0), .inr (10, 0), .inl (.inl a2)] (I, L) k) {a0 : Nat} {a2 : Int32} {I : jI} {L : jL} {r : Int32 × jI} (h : d120 rc a0 a2 I = some r) (hk : k (some (.inl (.inl r.1))) (r.2, L)) : jPM d 120 [.inr (4, a0), .inr (10, 0), .inl (.inl a2)] (I, L) k := by
  refine pM (fun d n => ?_)
  unfold d120 at h
  refine pn_go [24] 400 ?_
  conv => whnf
  refine ⟨fun cz1 => ?_, fun cz1 => ?_⟩
  · replace h := (if_pos cz1).symm.trans h
    conv => whnf
    obtain ⟨r1, hz2, h⟩ := obind h
    refine D121 hz2 ?_
    conv => whnf
    obtain ⟨r2, hz3, h⟩ := obind h
    refine hrc hz3 ?_
    conv => whnf
    obtain ⟨r5, hz4, h⟩ := obind h
    refine L120_24 rc @hrc _ _ _ _ _ _ hz4 (fun e4_r5 e5_r5 => ?_)
    refine pn_go [24] 400 ?_
    conv => whnf
    cases h
    exact hk
  · replace h := (if_neg cz1).symm.trans h
    conv => whnf
    cases h
    exact hk
def d120r : Nat → Nat → Int32 → jI → Option (Int32 × jI)
  | 0, _, _, _ => none
  | F + 1, a0, a2, I => d120 (d120r F) a0 a2 I
theorem D120r : ∀ (F : Nat), ∀ {d : Nat} {k : jK} {a0 : Nat} {a2 : Int32} {I : jI} {L : jL} {r : Int32 × jI}, d120r F a0 a2 I = some r → k (some (.inl (.inl r.1))) (r.2, L) → jPM d 120 [.inr (4, a0), .inr (10, 0), .inl (.inl a2)] (I, L) k
  | 0 => fun h _ => by cases h
  | F + 1 => fun h hk => D120 (d120r F) (D120r F) h hk
/-- X3_eat, loop at 4 -/
def d13_4 (y0 : Nat) (y1 : Int32) : Nat → Int32 → Int32 → jI → Option (Int32 × jI)
  | 0, _, _, _ => none
  | F + 1, x2, x3, I =>
    if 10 ≤ x3 then
      some (x2, I)
    else
      if x2 ≤ 0 then
        some (x2, I)
      else
        d13_4 y0 y1 F (x2 - (if (I 23 y0 (Int32.toNatClampNeg x3)) < x2 then (I 23 y0 (Int32.toNatClampNeg x3)) else x2)) (x3 + 1) (jup I 23 y0 (Int32.toNatClampNeg x3) ((I 23 y0 (Int32.toNatClampNeg x3)) - (if (I 23 y0 (Int32.toNatClampNeg x3)) < x2 then (I 23 y0 (Int32.toNatClampNeg x3)) else x2)))
set_option maxHeartbeats 4000000 in
set_option maxRecDepth 20000 in
theorem L13_4 {d n : Nat} {k : jK} {y0 : Nat} {y1 : Int32} {L : jL} : ∀ (F : Nat) (x2 : Int32) (x3 : Int32) (I : jI) (e4 : Option jV) (r : Int32 × jI), d13_4 y0 y1 F x2 x3 I = some r → (∀ (f3 f4 : Option jV), pn (jPM d) k none (jco 13) n (48, [some (.inr (7, y0)), some (.inl (.inl y1)), some (.inl (.inl r.1)), f3, f4], [], r.2, L)) → pn (jPM d) k none (jco 13) n (4, [some (.inr (7, y0)), some (.inl (.inl y1)), some (.inl (.inl x2)), some (.inl (.inl x3)), e4], [], I, L) := by
  intro F
  induction F with
  | zero => intro x2 x3 I e4 r h hx; cases h
  | succ F ih =>
    intro x2 x3 I e4 r h hx
    rw [d13_4] at h
    refine pn_go [4, 48] 400 ?_
    conv => whnf
    refine ⟨fun cz1 => ?_, fun cz1 => ?_⟩
    · replace h := (if_pos cz1).symm.trans h
      conv => whnf
      cases h
      exact hx _ _
    · replace h := (if_neg cz1).symm.trans h
      conv => whnf
      refine ⟨fun cz2 => ?_, fun cz2 => ?_⟩
      · replace h := (if_pos cz2).symm.trans h
        conv => whnf
        cases h
        exact hx _ _
      · replace h := (if_neg cz2).symm.trans h
        conv => whnf
        intro _
        conv => whnf
        intro _
        conv => whnf
        intro _
        conv => whnf
        exact ih _ _ _ _ r h hx
/-- X3_eat -/
def d13 (a0 : Nat) (a1 : Int32) (I : jI) : Option (Int32 × jI) :=
  (d13_4 a0 a1 70 a1 0 I).bind fun r1 =>
  some ((a1 - r1.1), r1.2)
set_option maxHeartbeats 4000000 in
set_option maxRecDepth 20000 in
theorem D13 {d : Nat} {k : jK} {a0 : Nat} {a1 : Int32} {I : jI} {L : jL} {r : Int32 × jI} (h : d13 a0 a1 I = some r) (hk : k (some (.inl (.inl r.1))) (r.2, L)) : jPM d 13 [.inr (7, a0), .inl (.inl a1)] (I, L) k := by
  refine pM (fun d n => ?_)
  unfold d13 at h
  refine pn_go [4] 400 ?_
  conv => whnf
  obtain ⟨r1, hz1, h⟩ := obind h
  refine L13_4 _ _ _ _ _ _ hz1 (fun e3_r1 e4_r1 => ?_)
  refine pn_go [4] 400 ?_
  conv => whnf
  cases h
  exact hk
/-- X3_goOff -/
def d14 (a0 : Nat) (I : jI) : Int32 × jI :=
  ((I 23 a0 (Int32.toNatClampNeg 0)), (jup (jcpy I 23 a0 23 a0 (Int32.toNatClampNeg 1) (Int32.toNatClampNeg 0) (Int32.toNatClampNeg 9)) 23 a0 (Int32.toNatClampNeg 9) 0))
set_option maxHeartbeats 4000000 in
set_option maxRecDepth 20000 in
theorem D14 {d : Nat} {k : jK} {a0 : Nat} {I : jI} {L : jL} {r : Int32 × jI} (h : d14 a0 I = r) (hk : k (some (.inl (.inl r.1))) (r.2, L)) : jPM d 14 [.inr (7, a0)] (I, L) k := by
  refine pM (fun d n => ?_)
  unfold d14 at h
  refine pn_go [] 400 ?_
  conv => whnf
  intro _
  conv => whnf
  intro _
  conv => whnf
  intro _
  conv => whnf
  subst h
  exact hk
/-- X3_all, loop at 4 -/
def d10_4 (y0 : Nat) (I : jI) : Nat → Int32 → Int32 → Option (Int32)
  | 0, _, _ => none
  | F + 1, x1, x2 =>
    if 10 ≤ x2 then
      some x1
    else
      d10_4 y0 I F (x1 + (I 23 y0 (Int32.toNatClampNeg x2))) (x2 + 1)
set_option maxHeartbeats 4000000 in
set_option maxRecDepth 20000 in
theorem L10_4 {d n : Nat} {k : jK} {y0 : Nat} {I : jI} {L : jL} : ∀ (F : Nat) (x1 : Int32) (x2 : Int32) (r : Int32), d10_4 y0 I F x1 x2 = some r → (∀ (f2 : Option jV), pn (jPM d) k none (jco 10) n (25, [some (.inr (7, y0)), some (.inl (.inl r)), f2], [], I, L)) → pn (jPM d) k none (jco 10) n (4, [some (.inr (7, y0)), some (.inl (.inl x1)), some (.inl (.inl x2))], [], I, L) := by
  intro F
  induction F with
  | zero => intro x1 x2 r h hx; cases h
  | succ F ih =>
    intro x1 x2 r h hx
    rw [d10_4] at h
    refine pn_go [4, 25] 400 ?_
    conv => whnf
    refine ⟨fun cz1 => ?_, fun cz1 => ?_⟩
    · replace h := (if_pos cz1).symm.trans h
      conv => whnf
      cases h
      exact hx _
    · replace h := (if_neg cz1).symm.trans h
      conv => whnf
      intro _
      conv => whnf
      exact ih _ _ r h hx
/-- X3_all -/
def d10 (a0 : Nat) (I : jI) : Option (Int32) :=
  (d10_4 a0 I 70 0 0).bind fun r1 =>
  some r1
set_option maxHeartbeats 4000000 in
set_option maxRecDepth 20000 in
theorem D10 {d : Nat} {k : jK} {a0 : Nat} {I : jI} {L : jL} {r : Int32} (h : d10 a0 I = some r) (hk : k (some (.inl (.inl r))) (I, L)) : jPM d 10 [.inr (7, a0)] (I, L) k := by
  refine pM (fun d n => ?_)
  unfold d10 at h
  refine pn_go [4] 400 ?_
  conv => whnf
  obtain ⟨r1, hz1, h⟩ := obind h
  refine L10_4 _ _ _ _ hz1 (fun e2_r1 => ?_)
  refine pn_go [4] 400 ?_
  conv => whnf
  cases h
  exact hk
/-- X2_keeping -/
def d8 (a0 : Int32) (a1 : Int32) (I : jI) : Int32 :=
  if a0 = 5 then
    (a1 / 2)
  else
    a1
set_option maxHeartbeats 4000000 in
set_option maxRecDepth 20000 in
theorem D8 {d : Nat} {k : jK} {a0 : Int32} {a1 : Int32} {I : jI} {L : jL} {r : Int32} (h : d8 a0 a1 I = r) (hk : k (some (.inl (.inl r))) (I, L)) : jPM d 8 [.inl (.inl a0), .inl (.inl a1)] (I, L) k := by
  refine pM (fun d n => ?_)
  unfold d8 at h
  refine pn_go [] 400 ?_
  conv => whnf
  refine ⟨fun cz1 => ?_, fun cz1 => ?_⟩
  · replace h := (if_neg cz1).symm.trans h
    conv => whnf
    subst h
    exact hk
  · replace h := (if_pos cz1).symm.trans h
    conv => whnf
    intro _
    conv => whnf
    subst h
    exact hk
/-- X1_keepsFor -/
def d37 (a0 : Nat) (a1 : Int32) (I : jI) : Int32 :=
  (d8 (I 18 a0 (Int32.toNatClampNeg a1)) (I 21 a0 (Int32.toNatClampNeg a1)) I)
set_option maxHeartbeats 4000000 in
set_option maxRecDepth 20000 in
theorem D37 {d : Nat} {k : jK} {a0 : Nat} {a1 : Int32} {I : jI} {L : jL} {r : Int32} (h : d37 a0 a1 I = r) (hk : k (some (.inl (.inl r))) (I, L)) : jPM d 37 [.inr (4, a0), .inl (.inl a1)] (I, L) k := by
  refine pM (fun d n => ?_)
  unfold d37 at h
  refine pn_go [] 400 ?_
  conv => whnf
  intro _
  conv => whnf
  intro _
  conv => whnf
  refine D8 rfl ?_
  conv => whnf
  subst h
  exact hk
/-- X3_add -/
def d12 (a0 : Nat) (a1 : Int32) (a2 : Int32) (I : jI) : jI :=
  (jup I 23 a0 (Int32.toNatClampNeg a1) ((I 23 a0 (Int32.toNatClampNeg a1)) + a2))
set_option maxHeartbeats 4000000 in
set_option maxRecDepth 20000 in
theorem D12 {d : Nat} {k : jK} {a0 : Nat} {a1 : Int32} {a2 : Int32} {I : jI} {L : jL} {r : jI} (h : d12 a0 a1 a2 I = r) (hk : k none (r, L)) : jPM d 12 [.inr (7, a0), .inl (.inl a1), .inl (.inl a2)] (I, L) k := by
  refine pM (fun d n => ?_)
  unfold d12 at h
  refine pn_go [] 400 ?_
  conv => whnf
  intro _
  conv => whnf
  intro _
  conv => whnf
  subst h
  exact hk
/-- X1_costOf -/
def d35 (a0 : Nat) (a1 : Int32) (a2 : Int32) (I : jI) : Int32 :=
  (d5 (I 18 a0 (Int32.toNatClampNeg a1)) a2 (I 20 a0 (Int32.toNatClampNeg a1)) (I 4 a0 14) I)
set_option maxHeartbeats 4000000 in
set_option maxRecDepth 20000 in
theorem D35 {d : Nat} {k : jK} {a0 : Nat} {a1 : Int32} {a2 : Int32} {I : jI} {L : jL} {r : Int32} (h : d35 a0 a1 a2 I = r) (hk : k (some (.inl (.inl r))) (I, L)) : jPM d 35 [.inr (4, a0), .inl (.inl a1), .inl (.inl a2)] (I, L) k := by
  refine pM (fun d n => ?_)
  unfold d35 at h
  refine pn_go [] 400 ?_
  conv => whnf
  intro _
  conv => whnf
  intro _
  conv => whnf
  refine D5 rfl ?_
  conv => whnf
  subst h
  exact hk
/-- X4_liveWeek -/
def d56 (rc : Nat → Int32 → Int32 → Int32 → jI → Option (jI)) (a1 : Nat) (a2 : Int32) (a3 : Int32) (a4 : Int32) (a5 : Int32) (I : jI) : Option (jI) :=
  if a3 = (-9) then
    (d13 (7 + (Int32.toNatClampNeg (a2 + 1))) ((d11 (7 + (Int32.toNatClampNeg (a2 + 1))) (7 + (Int32.toNatClampNeg a2)) I) 4 a1 7) (d11 (7 + (Int32.toNatClampNeg (a2 + 1))) (7 + (Int32.toNatClampNeg a2)) I)).bind fun r1 =>
    if r1.1 = (r1.2 4 a1 7) then
      (rc a1 (a2 + 1) (a4 + 0) (a5 + ((d14 (7 + (Int32.toNatClampNeg (a2 + 1))) (jup r1.2 27 0 (Int32.toNatClampNeg a2) a3)).1)) ((d14 (7 + (Int32.toNatClampNeg (a2 + 1))) (jup r1.2 27 0 (Int32.toNatClampNeg a2) a3)).2)).bind fun r2 =>
      some r2
    else
      some r1.2
  else
    (d10 (7 + (Int32.toNatClampNeg (a2 + 1))) (d11 (7 + (Int32.toNatClampNeg (a2 + 1))) (7 + (Int32.toNatClampNeg a2)) I)).bind fun r3 =>
    if (r3 + (d36 a1 a3 (d11 (7 + (Int32.toNatClampNeg (a2 + 1))) (7 + (Int32.toNatClampNeg a2)) I))) ≤ ((d11 (7 + (Int32.toNatClampNeg (a2 + 1))) (7 + (Int32.toNatClampNeg a2)) I) 4 a1 8) then
      (d13 (7 + (Int32.toNatClampNeg (a2 + 1))) ((d12 (7 + (Int32.toNatClampNeg (a2 + 1))) (d37 a1 a3 (d11 (7 + (Int32.toNatClampNeg (a2 + 1))) (7 + (Int32.toNatClampNeg a2)) I)) (d36 a1 a3 (d11 (7 + (Int32.toNatClampNeg (a2 + 1))) (7 + (Int32.toNatClampNeg a2)) I)) (d11 (7 + (Int32.toNatClampNeg (a2 + 1))) (7 + (Int32.toNatClampNeg a2)) I)) 4 a1 7) (d12 (7 + (Int32.toNatClampNeg (a2 + 1))) (d37 a1 a3 (d11 (7 + (Int32.toNatClampNeg (a2 + 1))) (7 + (Int32.toNatClampNeg a2)) I)) (d36 a1 a3 (d11 (7 + (Int32.toNatClampNeg (a2 + 1))) (7 + (Int32.toNatClampNeg a2)) I)) (d11 (7 + (Int32.toNatClampNeg (a2 + 1))) (7 + (Int32.toNatClampNeg a2)) I))).bind fun r4 =>
      if r4.1 = (r4.2 4 a1 7) then
        (rc a1 (a2 + 1) (a4 + (d35 a1 a3 1 (d12 (7 + (Int32.toNatClampNeg (a2 + 1))) (d37 a1 a3 (d11 (7 + (Int32.toNatClampNeg (a2 + 1))) (7 + (Int32.toNatClampNeg a2)) I)) (d36 a1 a3 (d11 (7 + (Int32.toNatClampNeg (a2 + 1))) (7 + (Int32.toNatClampNeg a2)) I)) (d11 (7 + (Int32.toNatClampNeg (a2 + 1))) (7 + (Int32.toNatClampNeg a2)) I)))) (a5 + ((d14 (7 + (Int32.toNatClampNeg (a2 + 1))) (jup r4.2 27 0 (Int32.toNatClampNeg a2) a3)).1)) ((d14 (7 + (Int32.toNatClampNeg (a2 + 1))) (jup r4.2 27 0 (Int32.toNatClampNeg a2) a3)).2)).bind fun r5 =>
        some r5
      else
        some r4.2
    else
      some (d11 (7 + (Int32.toNatClampNeg (a2 + 1))) (7 + (Int32.toNatClampNeg a2)) I)
set_option maxHeartbeats 4000000 in
set_option maxRecDepth 20000 in
theorem D56 {d : Nat} {k : jK} (rc : Nat → Int32 → Int32 → Int32 → jI → Option (jI)) (hrc : ∀ {d : Nat} {k : jK} {a1 : Nat} {a2 : Int32} {a3 : Int32} {a4 : Int32} {I : jI} {L : jL} {r : jI}, rc a1 a2 a3 a4 I = some r → k none (r, L) → jPM d 55 [.inr (9, 0), .inr (4, a1), .inl (.inl a2), .inl (.inl a3), .inl (.inl a4)] (I, L) k) {a1 : Nat} {a2 : Int32} {a3 : Int32} {a4 : Int32} {a5 : Int32} {I : jI} {L : jL} {r : jI} (h : d56 rc a1 a2 a3 a4 a5 I = some r) (hk : k none (r, L)) : jPM d 56 [.inr (9, 0), .inr (4, a1), .inl (.inl a2), .inl (.inl a3), .inl (.inl a4), .inl (.inl a5)] (I, L) k := by
  refine pM (fun d n => ?_)
  unfold d56 at h
  refine pn_go [] 400 ?_
  conv => whnf
  intro _
  conv => whnf
  intro _
  conv => whnf
  refine D11 rfl ?_
  conv => whnf
  refine ⟨fun cz1 => ?_, fun cz1 => ?_⟩
  · replace h := (if_pos cz1).symm.trans h
    conv => whnf
    obtain ⟨r1, hz2, h⟩ := obind h
    refine D13 hz2 ?_
    conv => whnf
    refine ⟨fun cz3 => ?_, fun cz3 => ?_⟩
    · replace h := (if_neg cz3).symm.trans h
      conv => whnf
      cases h
      exact hk
    · replace h := (if_pos cz3).symm.trans h
      conv => whnf
      intro _
      conv => whnf
      refine D14 rfl ?_
      conv => whnf
      obtain ⟨r2, hz4, h⟩ := obind h
      refine hrc hz4 ?_
      conv => whnf
      cases h
      exact hk
  · replace h := (if_neg cz1).symm.trans h
    conv => whnf
    refine D36 rfl ?_
    conv => whnf
    obtain ⟨r3, hz5, h⟩ := obind h
    refine D10 hz5 ?_
    conv => whnf
    refine ⟨fun cz6 => ?_, fun cz6 => ?_⟩
    · replace h := (if_pos cz6).symm.trans h
      conv => whnf
      refine D37 rfl ?_
      conv => whnf
      refine D12 rfl ?_
      conv => whnf
      refine D35 rfl ?_
      conv => whnf
      obtain ⟨r4, hz7, h⟩ := obind h
      refine D13 hz7 ?_
      conv => whnf
      refine ⟨fun cz8 => ?_, fun cz8 => ?_⟩
      · replace h := (if_neg cz8).symm.trans h
        conv => whnf
        cases h
        exact hk
      · replace h := (if_pos cz8).symm.trans h
        conv => whnf
        intro _
        conv => whnf
        refine D14 rfl ?_
        conv => whnf
        obtain ⟨r5, hz9, h⟩ := obind h
        refine hrc hz9 ?_
        conv => whnf
        cases h
        exact hk
    · replace h := (if_neg cz6).symm.trans h
      conv => whnf
      cases h
      exact hk
/-- X4_goOn, loop at 30 -/
def d55_30 (rc : Nat → Int32 → Int32 → Int32 → jI → Option (jI)) (y1 : Nat) (y2 : Int32) (y3 : Int32) (y4 : Int32) : Nat → Int32 → jI → Option (jI)
  | 0, _, _ => none
  | F + 1, x5, I =>
    if (I 4 y1 6) ≤ x5 then
      some I
    else
      (d56 rc y1 y2 x5 y3 y4 I).bind fun r2 =>
      d55_30 rc y1 y2 y3 y4 F (x5 + 1) r2
set_option maxHeartbeats 4000000 in
set_option maxRecDepth 20000 in
theorem L55_30 {d n : Nat} {k : jK} (rc : Nat → Int32 → Int32 → Int32 → jI → Option (jI)) (hrc : ∀ {d : Nat} {k : jK} {a1 : Nat} {a2 : Int32} {a3 : Int32} {a4 : Int32} {I : jI} {L : jL} {r : jI}, rc a1 a2 a3 a4 I = some r → k none (r, L) → jPM d 55 [.inr (9, 0), .inr (4, a1), .inl (.inl a2), .inl (.inl a3), .inl (.inl a4)] (I, L) k) {y1 : Nat} {y2 : Int32} {y3 : Int32} {y4 : Int32} {L : jL} : ∀ (F : Nat) (x5 : Int32) (I : jI) (r : jI), d55_30 rc y1 y2 y3 y4 F x5 I = some r → (∀ (f5 : Option jV), pn (jPM d) k none (jco 55) n (56, [some (.inr (9, 0)), some (.inr (4, y1)), some (.inl (.inl y2)), some (.inl (.inl y3)), some (.inl (.inl y4)), f5], [], r, L)) → pn (jPM d) k none (jco 55) n (30, [some (.inr (9, 0)), some (.inr (4, y1)), some (.inl (.inl y2)), some (.inl (.inl y3)), some (.inl (.inl y4)), some (.inl (.inl x5))], [], I, L) := by
  intro F
  induction F with
  | zero => intro x5 I r h hx; cases h
  | succ F ih =>
    intro x5 I r h hx
    rw [d55_30] at h
    refine pn_go [30, 56] 400 ?_
    conv => whnf
    refine ⟨fun cz1 => ?_, fun cz1 => ?_⟩
    · replace h := (if_pos cz1).symm.trans h
      conv => whnf
      cases h
      exact hx _
    · replace h := (if_neg cz1).symm.trans h
      conv => whnf
      obtain ⟨r2, hz2, h⟩ := obind h
      refine D56 rc @hrc hz2 ?_
      conv => whnf
      exact ih _ _ r h hx
/-- X4_weigh -/
def d57 (a1 : Int32) (a2 : Int32) (I : jI) : Option (jI) :=
  if ((jup I 9 0 5 (if a2 < (I 9 0 5) then a2 else (I 9 0 5))) 9 0 4) ≤ a1 then
    some (jup I 9 0 5 (if a2 < (I 9 0 5) then a2 else (I 9 0 5)))
  else
    some (jcpy (jup (jup I 9 0 5 (if a2 < (I 9 0 5) then a2 else (I 9 0 5))) 9 0 4 a1) 27 0 28 0 (Int32.toNatClampNeg 0) (Int32.toNatClampNeg 0) (Int32.toNatClampNeg ((jup (jup I 9 0 5 (if a2 < (I 9 0 5) then a2 else (I 9 0 5))) 9 0 4 a1) 9 0 3)))
set_option maxHeartbeats 4000000 in
set_option maxRecDepth 20000 in
theorem D57 {d : Nat} {k : jK} {a1 : Int32} {a2 : Int32} {I : jI} {L : jL} {r : jI} (h : d57 a1 a2 I = some r) (hk : k none (r, L)) : jPM d 57 [.inr (9, 0), .inl (.inl a1), .inl (.inl a2)] (I, L) k := by
  refine pM (fun d n => ?_)
  unfold d57 at h
  refine pn_go [] 400 ?_
  conv => whnf
  refine ⟨fun cz1 => ?_, fun cz1 => ?_⟩
  · replace h := (if_pos cz1).symm.trans h
    conv => whnf
    cases h
    exact hk
  · replace h := (if_neg cz1).symm.trans h
    conv => whnf
    intro _
    conv => whnf
    cases h
    exact hk
/-- X4_goOn -/
def d55 (rc : Nat → Int32 → Int32 → Int32 → jI → Option (jI)) (a1 : Nat) (a2 : Int32) (a3 : Int32) (a4 : Int32) (I : jI) : Option (jI) :=
  if a2 < (I 9 0 3) then
    (d56 rc a1 a2 (-9) a3 a4 I).bind fun r1 =>
    (d55_30 rc a1 a2 a3 a4 70 0 r1).bind fun r3 =>
    some r3
  else
    (d57 a3 a4 I).bind fun r4 =>
    some r4
set_option maxHeartbeats 4000000 in
set_option maxRecDepth 20000 in
theorem D55 {d : Nat} {k : jK} (rc : Nat → Int32 → Int32 → Int32 → jI → Option (jI)) (hrc : ∀ {d : Nat} {k : jK} {a1 : Nat} {a2 : Int32} {a3 : Int32} {a4 : Int32} {I : jI} {L : jL} {r : jI}, rc a1 a2 a3 a4 I = some r → k none (r, L) → jPM d 55 [.inr (9, 0), .inr (4, a1), .inl (.inl a2), .inl (.inl a3), .inl (.inl a4)] (I, L) k) {a1 : Nat} {a2 : Int32} {a3 : Int32} {a4 : Int32} {I : jI} {L : jL} {r : jI} (h : d55 rc a1 a2 a3 a4 I = some r) (hk : k none (r, L)) : jPM d 55 [.inr (9, 0), .inr (4, a1), .inl (.inl a2), .inl (.inl a3), .inl (.inl a4)] (I, L) k := by
  refine pM (fun d n => ?_)
  unfold d55 at h
  refine pn_go [30] 400 ?_
  conv => whnf
  refine ⟨fun cz1 => ?_, fun cz1 => ?_⟩
  · replace h := (if_pos cz1).symm.trans h
    conv => whnf
    obtain ⟨r1, hz2, h⟩ := obind h
    refine D56 rc @hrc hz2 ?_
    conv => whnf
    obtain ⟨r3, hz3, h⟩ := obind h
    refine L55_30 rc @hrc _ _ _ _ hz3 (fun e5_r3 => ?_)
    refine pn_go [30] 400 ?_
    conv => whnf
    cases h
    exact hk
  · replace h := (if_neg cz1).symm.trans h
    conv => whnf
    obtain ⟨r4, hz4, h⟩ := obind h
    refine D57 hz4 ?_
    conv => whnf
    cases h
    exact hk
def d55r : Nat → Nat → Int32 → Int32 → Int32 → jI → Option (jI)
  | 0, _, _, _, _, _ => none
  | F + 1, a1, a2, a3, a4, I => d55 (d55r F) a1 a2 a3 a4 I
theorem D55r : ∀ (F : Nat), ∀ {d : Nat} {k : jK} {a1 : Nat} {a2 : Int32} {a3 : Int32} {a4 : Int32} {I : jI} {L : jL} {r : jI}, d55r F a1 a2 a3 a4 I = some r → k none (r, L) → jPM d 55 [.inr (9, 0), .inr (4, a1), .inl (.inl a2), .inl (.inl a3), .inl (.inl a4)] (I, L) k
  | 0 => fun h _ => by cases h
  | F + 1 => fun h hk => D55 (d55r F) (D55r F) h hk
