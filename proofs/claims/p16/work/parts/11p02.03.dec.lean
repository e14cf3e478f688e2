/-- X6_names -/
noncomputable def d15g2 (a1 : Int32) (I : jI) : Int32 :=
  if a1 < 0 then
    0
  else
    if (nI 4) ≤ a1 then
      0
    else
      1
set_option maxHeartbeats 4000000 in
set_option maxRecDepth 20000 in
theorem D15g2 {d : Nat} {k : jK} {a1 : Int32} {I : jI} {L : jL} {r : Int32} (h : d15g2 a1 I = r) (hk : k (some (.inl (.inl r))) (I, L)) : jPM d 15 [.inr (2, 0), .inl (.inl a1)] (I, L) k := by
  refine pM (fun d n => ?_)
  unfold d15g2 at h
  refine pn_go [] 400 ?_
  conv => whnf
  refine ⟨fun cz1 => ?_, fun cz1 => ?_⟩
  · replace h := (if_pos cz1).symm.trans h
    conv => whnf
    subst h
    exact fun _ => hk
  · replace h := (if_neg cz1).symm.trans h
    conv => whnf
    refine ⟨fun cz2 => ?_, fun cz2 => ?_⟩
    · replace h := (if_pos cz2).symm.trans h
      conv => whnf
      subst h
      exact fun _ => hk
    · replace h := (if_neg cz2).symm.trans h
      conv => whnf
      subst h
      exact fun _ => hk
/-- J7_fill_53178, loop at 5 -/
noncomputable def d2g30_5 (y0 : Nat) (y1 : Int32) (y3 : Int32) : Nat → Int32 → jI → Option (jI)
  | 0, _, _ => none
  | F + 1, x2, I =>
    if y3 ≤ x2 then
      some I
    else
      d2g30_5 y0 y1 y3 F (x2 + 1) (jup I 30 y0 (Int32.toNatClampNeg x2) y1)
set_option maxHeartbeats 4000000 in
set_option maxRecDepth 20000 in
theorem L2g30_5 {d n : Nat} {k : jK} {y0 : Nat} {y1 : Int32} {y3 : Int32} {L : jL} : ∀ (F : Nat) (x2 : Int32) (I : jI) (r : jI), d2g30_5 y0 y1 y3 F x2 I = some r → (∀ (f2 : Option jV), pn (jPM d) k none (jco 2) n (20, [some (.inr (30, y0)), some (.inl (.inl y1)), f2, some (.inl (.inl y3))], [], r, L)) → pn (jPM d) k none (jco 2) n (5, [some (.inr (30, y0)), some (.inl (.inl y1)), some (.inl (.inl x2)), some (.inl (.inl y3))], [], I, L) := by
  intro F
  induction F with
  | zero => intro x2 I r h hx; cases h
  | succ F ih =>
    intro x2 I r h hx
    rw [d2g30_5] at h
    refine pn_go [5, 20] 400 ?_
    conv => whnf
    refine ⟨fun cz1 => ?_, fun cz1 => ?_⟩
    · replace h := (if_pos cz1).symm.trans h
      conv => whnf
      cases h
      exact hx _
    · replace h := (if_neg cz1).symm.trans h
      conv => whnf
      intro _
      conv => whnf
      exact ih _ _ r h hx
/-- J7_fill_53178 -/
noncomputable def d2g30 (a0 : Nat) (a1 : Int32) (I : jI) : Option (jI) :=
  (d2g30_5 a0 a1 (nI 60) 70 0 I).bind fun r1 =>
  some r1
set_option maxHeartbeats 4000000 in
set_option maxRecDepth 20000 in
theorem D2g30 {d : Nat} {k : jK} {a0 : Nat} {a1 : Int32} {I : jI} {L : jL} {r : jI} (h : d2g30 a0 a1 I = some r) (hk : k none (r, L)) : jPM d 2 [.inr (30, a0), .inl (.inl a1)] (I, L) k := by
  refine pM (fun d n => ?_)
  unfold d2g30 at h
  refine pn_go [5] 400 ?_
  conv => whnf
  obtain ⟨r1, hz1, h⟩ := obind h
  refine L2g30_5 _ _ _ _ hz1 (fun e2_r1 => ?_)
  refine pn_go [5] 400 ?_
  conv => whnf
  cases h
  exact hk
/-- X6_makeAnew -/
noncomputable def d20g2 (a1 : Int32) (a2 : Int32) (a3 : Int32) (I : jI) : Option (jI) :=
  (d2g30 (Int32.toNatClampNeg a1) a3 I).bind fun r1 =>
  some (jup r1 16 0 (Int32.toNatClampNeg a1) a2)
set_option maxHeartbeats 4000000 in
set_option maxRecDepth 20000 in
theorem D20g2 {d : Nat} {k : jK} {a1 : Int32} {a2 : Int32} {a3 : Int32} {I : jI} {L : jL} {r : jI} (h : d20g2 a1 a2 a3 I = some r) (hk : k none (r, L)) : jPM d 20 [.inr (2, 0), .inl (.inl a1), .inl (.inl a2), .inl (.inl a3)] (I, L) k := by
  refine pM (fun d n => ?_)
  unfold d20g2 at h
  refine pn_go [] 400 ?_
  conv => whnf
  intro _
  conv => whnf
  obtain ⟨r1, hz1, h⟩ := obind h
  refine D2g30 hz1 ?_
  conv => whnf
  intro _
  conv => whnf
  cases h
  exact hk
/-- X7_text -/
noncomputable def d74 (a1 : Int32) (a2 : Int32) (I : jI) : Option (Int32 × jI) :=
  if (d15g2 a1 I) = 0 then
    some ((-1), I)
  else
    if a2 ≤ 60 then
      if 0 ≤ a2 then
        (d20g2 a1 a2 32 I).bind fun r1 =>
        some (a2, r1)
      else
        some (((d113 5 I).1), ((d113 5 I).2))
    else
      some ((-1), I)
set_option maxHeartbeats 4000000 in
set_option maxRecDepth 20000 in
theorem D74 {d : Nat} {k : jK} {a1 : Int32} {a2 : Int32} {I : jI} {L : jL} {r : Int32 × jI} (h : d74 a1 a2 I = some r) (hk : k (some (.inl (.inl r.1))) (r.2, L)) : jPM d 74 [.inr (0, 0), .inl (.inl a1), .inl (.inl a2)] (I, L) k := by
  refine pM (fun d n => ?_)
  unfold d74 at h
  refine pn_go [] 400 ?_
  conv => whnf
  refine D15g2 rfl ?_
  conv => whnf
  refine ⟨fun cz1 => ?_, fun cz1 => ?_⟩
  · replace h := (if_pos cz1).symm.trans h
    conv => whnf
    cases h
    exact hk
  · replace h := (if_neg cz1).symm.trans h
    conv => whnf
    refine ⟨fun cz2 => ?_, fun cz2 => ?_⟩
    · replace h := (if_pos cz2).symm.trans h
      conv => whnf
      refine ⟨fun cz3 => ?_, fun cz3 => ?_⟩
      · replace h := (if_pos cz3).symm.trans h
        conv => whnf
        obtain ⟨r1, hz4, h⟩ := obind h
        refine D20g2 hz4 ?_
        conv => whnf
        cases h
        exact hk
      · replace h := (if_neg cz3).symm.trans h
        conv => whnf
        refine D113 rfl ?_
        conv => whnf
        cases h
        exact hk
    · replace h := (if_neg cz2).symm.trans h
      conv => whnf
      cases h
      exact hk
/-- X6_isThere -/
noncomputable def d16g2 (a1 : Int32) (I : jI) : Int32 :=
  if (I 16 0 (Int32.toNatClampNeg a1)) = (-1) then
    0
  else
    1
set_option maxHeartbeats 4000000 in
set_option maxRecDepth 20000 in
theorem D16g2 {d : Nat} {k : jK} {a1 : Int32} {I : jI} {L : jL} {r : Int32} (h : d16g2 a1 I = r) (hk : k (some (.inl (.inl r))) (I, L)) : jPM d 16 [.inr (2, 0), .inl (.inl a1)] (I, L) k := by
  refine pM (fun d n => ?_)
  unfold d16g2 at h
  refine pn_go [] 400 ?_
  conv => whnf
  intro _
  conv => whnf
  refine ⟨fun cz1 => ?_, fun cz1 => ?_⟩
  · replace h := (if_pos cz1).symm.trans h
    conv => whnf
    subst h
    exact fun _ => hk
  · replace h := (if_neg cz1).symm.trans h
    conv => whnf
    subst h
    exact fun _ => hk
/-- X6_troubleAt -/
noncomputable def d22g2 (a1 : Int32) (a2 : Int32) (I : jI) : Int32 :=
  if (d16g2 a1 I) = 0 then
    1
  else
    if a2 < 0 then
      2
    else
      if a2 < (I 16 0 (Int32.toNatClampNeg a1)) then
        0
      else
        2
set_option maxHeartbeats 4000000 in
set_option maxRecDepth 20000 in
theorem D22g2 {d : Nat} {k : jK} {a1 : Int32} {a2 : Int32} {I : jI} {L : jL} {r : Int32} (h : d22g2 a1 a2 I = r) (hk : k (some (.inl (.inl r))) (I, L)) : jPM d 22 [.inr (2, 0), .inl (.inl a1), .inl (.inl a2)] (I, L) k := by
  refine pM (fun d n => ?_)
  unfold d22g2 at h
  refine pn_go [] 400 ?_
  conv => whnf
  refine D16g2 rfl ?_
  conv => whnf
  refine ⟨fun cz1 => ?_, fun cz1 => ?_⟩
  · replace h := (if_neg cz1).symm.trans h
    conv => whnf
    refine ⟨fun cz2 => ?_, fun cz2 => ?_⟩
    · replace h := (if_pos cz2).symm.trans h
      conv => whnf
      subst h
      exact hk
    · replace h := (if_neg cz2).symm.trans h
      conv => whnf
      intro _
      conv => whnf
      refine ⟨fun cz3 => ?_, fun cz3 => ?_⟩
      · replace h := (if_pos cz3).symm.trans h
        conv => whnf
        subst h
        exact hk
      · replace h := (if_neg cz3).symm.trans h
        conv => whnf
        subst h
        exact hk
  · replace h := (if_pos cz1).symm.trans h
    conv => whnf
    subst h
    exact hk
/-- X6_get -/
noncomputable def d18g2 (a1 : Int32) (a2 : Int32) (I : jI) : Int32 :=
  (I 30 (Int32.toNatClampNeg a1) (Int32.toNatClampNeg a2))
set_option maxHeartbeats 4000000 in
set_option maxRecDepth 20000 in
theorem D18g2 {d : Nat} {k : jK} {a1 : Int32} {a2 : Int32} {I : jI} {L : jL} {r : Int32} (h : d18g2 a1 a2 I = r) (hk : k (some (.inl (.inl r))) (I, L)) : jPM d 18 [.inr (2, 0), .inl (.inl a1), .inl (.inl a2)] (I, L) k := by
  refine pM (fun d n => ?_)
  unfold d18g2 at h
  refine pn_go [] 400 ?_
  conv => whnf
  intro _
  conv => whnf
  intro _
  conv => whnf
  subst h
  exact hk
/-- X6_set -/
noncomputable def d19g2 (a1 : Int32) (a2 : Int32) (a3 : Int32) (I : jI) : jI :=
  (jup I 30 (Int32.toNatClampNeg a1) (Int32.toNatClampNeg a2) a3)
set_option maxHeartbeats 4000000 in
set_option maxRecDepth 20000 in
theorem D19g2 {d : Nat} {k : jK} {a1 : Int32} {a2 : Int32} {a3 : Int32} {I : jI} {L : jL} {r : jI} (h : d19g2 a1 a2 a3 I = r) (hk : k none (r, L)) : jPM d 19 [.inr (2, 0), .inl (.inl a1), .inl (.inl a2), .inl (.inl a3)] (I, L) k := by
  refine pM (fun d n => ?_)
  unfold d19g2 at h
  refine pn_go [] 400 ?_
  conv => whnf
  intro _
  conv => whnf
  intro _
  conv => whnf
  subst h
  exact hk
/-- X7_put -/
noncomputable def d75 (a1 : Int32) (a2 : Int32) (a3 : Int32) (I : jI) : Option (Int32 × jI) :=
  if (d15g2 a1 I) = 0 then
    some ((-1), I)
  else
    if (d22g2 a1 a2 I) = 0 then
      some (((d18g2 a1 a2 I) + 1000), (d19g2 a1 a2 ((Int32.toInt8 a3).toInt32) I))
    else
      some (((d113 (d22g2 a1 a2 I) I).1), ((d113 (d22g2 a1 a2 I) I).2))
set_option maxHeartbeats 4000000 in
set_option maxRecDepth 20000 in
theorem D75 {d : Nat} {k : jK} {a1 : Int32} {a2 : Int32} {a3 : Int32} {I : jI} {L : jL} {r : Int32 × jI} (h : d75 a1 a2 a3 I = some r) (hk : k (some (.inl (.inl r.1))) (r.2, L)) : jPM d 75 [.inr (0, 0), .inl (.inl a1), .inl (.inl a2), .inl (.inl a3)] (I, L) k := by
  refine pM (fun d n => ?_)
  unfold d75 at h
  refine pn_go [] 400 ?_
  conv => whnf
  refine D15g2 rfl ?_
  conv => whnf
  refine ⟨fun cz1 => ?_, fun cz1 => ?_⟩
  · replace h := (if_neg cz1).symm.trans h
    conv => whnf
    refine D22g2 rfl ?_
    conv => whnf
    refine ⟨fun cz2 => ?_, fun cz2 => ?_⟩
    · replace h := (if_pos cz2).symm.trans h
      conv => whnf
      refine D18g2 rfl ?_
      conv => whnf
      refine D19g2 rfl ?_
      conv => whnf
      cases h
      exact hk
    · replace h := (if_neg cz2).symm.trans h
      conv => whnf
      refine D113 rfl ?_
      conv => whnf
      cases h
      exact hk
  · replace h := (if_pos cz1).symm.trans h
    conv => whnf
    cases h
    exact hk
/-- X6_sizeOf -/
noncomputable def d17g2 (a1 : Int32) (I : jI) : Int32 :=
  (I 16 0 (Int32.toNatClampNeg a1))
set_option maxHeartbeats 4000000 in
set_option maxRecDepth 20000 in
theorem D17g2 {d : Nat} {k : jK} {a1 : Int32} {I : jI} {L : jL} {r : Int32} (h : d17g2 a1 I = r) (hk : k (some (.inl (.inl r))) (I, L)) : jPM d 17 [.inr (2, 0), .inl (.inl a1)] (I, L) k := by
  refine pM (fun d n => ?_)
  unfold d17g2 at h
  refine pn_go [] 400 ?_
  conv => whnf
  intro _
  conv => whnf
  subst h
  exact hk
/-- X5_begin, loop at 19 -/
noncomputable def d59_19 (y2 : Int32) : Nat → Int32 → jI → Option (jI)
  | 0, _, _ => none
  | F + 1, x3, I =>
    if (I 3 0 2) ≤ x3 then
      some I
    else
      d59_19 y2 F (x3 + 1) (jup I 17 0 (Int32.toNatClampNeg x3) (d18g2 y2 x3 I))
set_option maxHeartbeats 4000000 in
set_option maxRecDepth 20000 in
theorem L59_19 {d n : Nat} {k : jK} {y2 : Int32} {L : jL} : ∀ (F : Nat) (x3 : Int32) (I : jI) (r : jI), d59_19 y2 F x3 I = some r → (∀ (f3 : Option jV), pn (jPM d) k none (jco 59) n (45, [some (.inr (3, 0)), some (.inr (2, 0)), some (.inl (.inl y2)), f3], [], r, L)) → pn (jPM d) k none (jco 59) n (19, [some (.inr (3, 0)), some (.inr (2, 0)), some (.inl (.inl y2)), some (.inl (.inl x3))], [], I, L) := by
  intro F
  induction F with
  | zero => intro x3 I r h hx; cases h
  | succ F ih =>
    intro x3 I r h hx
    rw [d59_19] at h
    refine pn_go [19, 45] 400 ?_
    conv => whnf
    refine ⟨fun cz1 => ?_, fun cz1 => ?_⟩
    · replace h := (if_pos cz1).symm.trans h
      conv => whnf
      cases h
      exact hx _
    · replace h := (if_neg cz1).symm.trans h
      conv => whnf
      refine D18g2 rfl ?_
      conv => whnf
      intro _
      conv => whnf
      exact ih _ _ r h hx
/-- X5_skipBlanks, loop at 0 -/
noncomputable def d61_0 : Nat → jI → Option (jI)
  | 0, _ => none
  | F + 1, I =>
    if (I 3 0 2) ≤ (I 3 0 3) then
      some I
    else
      if (I 17 0 (Int32.toNatClampNeg (I 3 0 3))) = 32 then
        d61_0 F (jup I 3 0 3 ((I 3 0 3) + 1))
      else
        some I
set_option maxHeartbeats 4000000 in
set_option maxRecDepth 20000 in
theorem L61_0 {d n : Nat} {k : jK} {L : jL} : ∀ (F : Nat) (I : jI) (r : jI), d61_0 F I = some r → (pn (jPM d) k none (jco 61) n (38, [some (.inr (3, 0))], [], r, L)) → pn (jPM d) k none (jco 61) n (0, [some (.inr (3, 0))], [], I, L) := by
  intro F
  induction F with
  | zero => intro I r h hx; cases h
  | succ F ih =>
    intro I r h hx
    rw [d61_0] at h
    refine pn_go [0, 38] 400 ?_
    conv => whnf
    refine ⟨fun cz1 => ?_, fun cz1 => ?_⟩
    · replace h := (if_pos cz1).symm.trans h
      conv => whnf
      cases h
      exact hx
    · replace h := (if_neg cz1).symm.trans h
      conv => whnf
      intro _
      conv => whnf
      refine ⟨fun cz2 => ?_, fun cz2 => ?_⟩
      · replace h := (if_neg cz2).symm.trans h
        conv => whnf
        cases h
        exact hx
      · replace h := (if_pos cz2).symm.trans h
        conv => whnf
        exact ih _ r h hx
/-- X5_skipBlanks -/
noncomputable def d61 (I : jI) : Option (jI) :=
  (d61_0 70 I).bind fun r1 =>
  some r1
set_option maxHeartbeats 4000000 in
set_option maxRecDepth 20000 in
theorem D61 {d : Nat} {k : jK} {I : jI} {L : jL} {r : jI} (h : d61 I = some r) (hk : k none (r, L)) : jPM d 61 [.inr (3, 0)] (I, L) k := by
  refine pM (fun d n => ?_)
  unfold d61 at h
  obtain ⟨r1, hz1, h⟩ := obind h
  refine L61_0 _ _ _ hz1 ?_
  refine pn_go [0] 400 ?_
  conv => whnf
  cases h
  exact hk
/-- X5_begin -/
noncomputable def d59 (a2 : Int32) (I : jI) : Option (jI) :=
  (d59_19 a2 70 0 (jup (jup I 4 5 6 0) 3 0 2 (d17g2 a2 (jup I 4 5 6 0)))).bind fun r1 =>
  (d61 (jup (jup r1 3 0 3 0) 3 0 4 (-9))).bind fun r2 =>
  some r2
set_option maxHeartbeats 4000000 in
set_option maxRecDepth 20000 in
theorem D59 {d : Nat} {k : jK} {a2 : Int32} {I : jI} {L : jL} {r : jI} (h : d59 a2 I = some r) (hk : k none (r, L)) : jPM d 59 [.inr (3, 0), .inr (2, 0), .inl (.inl a2)] (I, L) k := by
  refine pM (fun d n => ?_)
  unfold d59 at h
  refine pn_go [19] 400 ?_
  conv => whnf
  refine D17g2 rfl ?_
  conv => whnf
  obtain ⟨r1, hz1, h⟩ := obind h
  refine L59_19 _ _ _ _ hz1 (fun e3_r1 => ?_)
  refine pn_go [19] 400 ?_
  conv => whnf
  obtain ⟨r2, hz2, h⟩ := obind h
  refine D61 hz2 ?_
  conv => whnf
  cases h
  exact hk
/-- X5_goesOn -/
noncomputable def d60 (I : jI) : Int32 :=
  if (I 3 0 4) = (-9) then
    if (I 3 0 2) ≤ (I 3 0 3) then
      0
    else
      1
  else
    0
set_option maxHeartbeats 4000000 in
set_option maxRecDepth 20000 in
theorem D60 {d : Nat} {k : jK} {I : jI} {L : jL} {r : Int32} (h : d60 I = r) (hk : k (some (.inl (.inl r))) (I, L)) : jPM d 60 [.inr (3, 0)] (I, L) k := by
  refine pM (fun d n => ?_)
  unfold d60 at h
  refine pn_go [] 400 ?_
  conv => whnf
  refine ⟨fun cz1 => ?_, fun cz1 => ?_⟩
  · replace h := (if_neg cz1).symm.trans h
    conv => whnf
    subst h
    exact fun _ => hk
  · replace h := (if_pos cz1).symm.trans h
    conv => whnf
    refine ⟨fun cz2 => ?_, fun cz2 => ?_⟩
    · replace h := (if_pos cz2).symm.trans h
      conv => whnf
      subst h
      exact fun _ => hk
    · replace h := (if_neg cz2).symm.trans h
      conv => whnf
      subst h
      exact fun _ => hk
/-- X5_faultHere -/
noncomputable def d67 (I : jI) : Option (jI) :=
  if (I 3 0 4) = (-9) then
    some (jup I 3 0 4 (I 3 0 3))
  else
    some I
set_option maxHeartbeats 4000000 in
set_option maxRecDepth 20000 in
theorem D67 {d : Nat} {k : jK} {I : jI} {L : jL} {r : jI} (h : d67 I = some r) (hk : k none (r, L)) : jPM d 67 [.inr (3, 0)] (I, L) k := by
  refine pM (fun d n => ?_)
  unfold d67 at h
  refine pn_go [] 400 ?_
  conv => whnf
  refine ⟨fun cz1 => ?_, fun cz1 => ?_⟩
  · replace h := (if_neg cz1).symm.trans h
    conv => whnf
    cases h
    exact hk
  · replace h := (if_pos cz1).symm.trans h
    conv => whnf
    cases h
    exact hk
/-- X5_readFigure -/
noncomputable def d66 (a1 : Int32) (I : jI) : Option (Int32 × jI) :=
  if (d60 I) = 0 then
    (d67 I).bind fun r1 =>
    some (0, r1)
  else
    if ((I 17 0 (Int32.toNatClampNeg (I 3 0 3))) - 48) < a1 then
      (d67 I).bind fun r2 =>
      some (0, r2)
    else
      if 9 < ((I 17 0 (Int32.toNatClampNeg (I 3 0 3))) - 48) then
        (d67 I).bind fun r3 =>
        some (0, r3)
      else
        some (((I 17 0 (Int32.toNatClampNeg (I 3 0 3))) - 48), (jup I 3 0 3 ((I 3 0 3) + 1)))
set_option maxHeartbeats 4000000 in
set_option maxRecDepth 20000 in
theorem D66 {d : Nat} {k : jK} {a1 : Int32} {I : jI} {L : jL} {r : Int32 × jI} (h : d66 a1 I = some r) (hk : k (some (.inl (.inl r.1))) (r.2, L)) : jPM d 66 [.inr (3, 0), .inl (.inl a1)] (I, L) k := by
  refine pM (fun d n => ?_)
  unfold d66 at h
  refine pn_go [] 400 ?_
  conv => whnf
  refine D60 rfl ?_
  conv => whnf
  refine ⟨fun cz1 => ?_, fun cz1 => ?_⟩
  · replace h := (if_pos cz1).symm.trans h
    conv => whnf
    obtain ⟨r1, hz2, h⟩ := obind h
    refine D67 hz2 ?_
    conv => whnf
    cases h
    exact hk
  · replace h := (if_neg cz1).symm.trans h
    conv => whnf
    intro _
    conv => whnf
    refine ⟨fun cz3 => ?_, fun cz3 => ?_⟩
    · replace h := (if_pos cz3).symm.trans h
      conv => whnf
      obtain ⟨r2, hz4, h⟩ := obind h
      refine D67 hz4 ?_
      conv => whnf
      cases h
      exact hk
    · replace h := (if_neg cz3).symm.trans h
      conv => whnf
      refine ⟨fun cz5 => ?_, fun cz5 => ?_⟩
      · replace h := (if_pos cz5).symm.trans h
        conv => whnf
        obtain ⟨r3, hz6, h⟩ := obind h
        refine D67 hz6 ?_
        conv => whnf
        cases h
        exact hk
      · replace h := (if_neg cz5).symm.trans h
        conv => whnf
        cases h
        exact hk
/-- X5_readTwoFigures -/
noncomputable def d65 (I : jI) : Option (Int32 × jI) :=
  (d66 0 I).bind fun r1 =>
  (d66 0 r1.2).bind fun r2 =>
  some (((10 * r1.1) + r2.1), r2.2)
set_option maxHeartbeats 4000000 in
set_option maxRecDepth 20000 in
theorem D65 {d : Nat} {k : jK} {I : jI} {L : jL} {r : Int32 × jI} (h : d65 I = some r) (hk : k (some (.inl (.inl r.1))) (r.2, L)) : jPM d 65 [.inr (3, 0)] (I, L) k := by
  refine pM (fun d n => ?_)
  unfold d65 at h
  refine pn_go [] 400 ?_
  conv => whnf
  obtain ⟨r1, hz1, h⟩ := obind h
  refine D66 hz1 ?_
  conv => whnf
  obtain ⟨r2, hz2, h⟩ := obind h
  refine D66 hz2 ?_
  conv => whnf
  cases h
  exact hk
/-- X5_readNeeds -/
noncomputable def d62 (I : jI) : Option (jI) :=
  if (d60 I) = 0 then
    some (jup I 3 0 4 (I 3 0 3))
  else
    if (I 17 0 (Int32.toNatClampNeg (I 3 0 3))) = 110 then
      (d66 1 (jup I 3 0 3 ((I 3 0 3) + 1))).bind fun r1 =>
      (d65 (jup r1.2 4 5 7 r1.1)).bind fun r2 =>
      (d61 (jup r2.2 4 5 8 r2.1)).bind fun r3 =>
      some r3
    else
      some (jup I 3 0 4 (I 3 0 3))
set_option maxHeartbeats 4000000 in
set_option maxRecDepth 20000 in
theorem D62 {d : Nat} {k : jK} {I : jI} {L : jL} {r : jI} (h : d62 I = some r) (hk : k none (r, L)) : jPM d 62 [.inr (3, 0)] (I, L) k := by
  refine pM (fun d n => ?_)
  unfold d62 at h
  refine pn_go [] 400 ?_
  conv => whnf
  refine D60 rfl ?_
  conv => whnf
  refine ⟨fun cz1 => ?_, fun cz1 => ?_⟩
  · replace h := (if_pos cz1).symm.trans h
    conv => whnf
    cases h
    exact hk
  · replace h := (if_neg cz1).symm.trans h
    conv => whnf
    intro _
    conv => whnf
    refine ⟨fun cz2 => ?_, fun cz2 => ?_⟩
    · replace h := (if_pos cz2).symm.trans h
      conv => whnf
      obtain ⟨r1, hz3, h⟩ := obind h
      refine D66 hz3 ?_
      conv => whnf
      obtain ⟨r2, hz4, h⟩ := obind h
      refine D65 hz4 ?_
      conv => whnf
      obtain ⟨r3, hz5, h⟩ := obind h
      refine D61 hz5 ?_
      conv => whnf
      cases h
      exact hk
    · replace h := (if_neg cz2).symm.trans h
      conv => whnf
      cases h
      exact hk
/-- X5_readKind, loop at 9 -/
noncomputable def d64_9 : Nat → Int32 → jI → Option ((Int32 × jI) ⊕ (jI))
  | 0, _, _ => none
  | F + 1, x1, I =>
    if 6 ≤ x1 then
      some (.inr I)
    else
      if (I 17 0 (Int32.toNatClampNeg (I 3 0 3))) = (jletters (Int32.toNatClampNeg x1)) then
        some (.inl (x1, (jup I 3 0 3 ((I 3 0 3) + 1))))
      else
        d64_9 F (x1 + 1) I
set_option maxHeartbeats 4000000 in
set_option maxRecDepth 20000 in
theorem L64_9 {d n : Nat} {k : jK} {L : jL} : ∀ (F : Nat) (x1 : Int32) (I : jI) (r : (Int32 × jI) ⊕ (jI)), d64_9 F x1 I = some r → ((∀ q, r = .inl q → k (some (.inl (.inl q.1))) (q.2, L)) ∧ (∀ q, r = .inr q → ∀ (f1 : Option jV), pn (jPM d) k none (jco 64) n (50, [some (.inr (3, 0)), f1], [], q, L))) → pn (jPM d) k none (jco 64) n (9, [some (.inr (3, 0)), some (.inl (.inl x1))], [], I, L) := by
  intro F
  induction F with
  | zero => intro x1 I r h hx; cases h
  | succ F ih =>
    intro x1 I r h hx
    rw [d64_9] at h
    refine pn_go [9, 50] 400 ?_
    conv => whnf
    refine ⟨fun cz1 => ?_, fun cz1 => ?_⟩
    · replace h := (if_pos cz1).symm.trans h
      conv => whnf
      cases h
      exact hx.2 _ rfl _
    · replace h := (if_neg cz1).symm.trans h
      conv => whnf
      intro _
      conv => whnf
      intro _
      conv => whnf
      refine ⟨fun cz2 => ?_, fun cz2 => ?_⟩
      · replace h := (if_neg cz2).symm.trans h
        conv => whnf
        exact ih _ _ r h hx
      · replace h := (if_pos cz2).symm.trans h
        conv => whnf
        cases h
        exact hx.1 _ rfl
/-- X5_readKind -/
noncomputable def d64 (I : jI) : Option (Int32 × jI) :=
  if (d60 I) = 0 then
    (d67 I).bind fun r1 =>
    some (0, r1)
  else
    (d64_9 70 0 I).bind fun r2 => match r2 with
    | .inl q3 => some q3
    | .inr q3 =>
      (d67 q3).bind fun r4 =>
      some (0, r4)
set_option maxHeartbeats 4000000 in
set_option maxRecDepth 20000 in
theorem D64 {d : Nat} {k : jK} {I : jI} {L : jL} {r : Int32 × jI} (h : d64 I = some r) (hk : k (some (.inl (.inl r.1))) (r.2, L)) : jPM d 64 [.inr (3, 0)] (I, L) k := by
  refine pM (fun d n => ?_)
  unfold d64 at h
  refine pn_go [9] 400 ?_
  conv => whnf
  refine D60 rfl ?_
  conv => whnf
  refine ⟨fun cz1 => ?_, fun cz1 => ?_⟩
  · replace h := (if_pos cz1).symm.trans h
    conv => whnf
    obtain ⟨r1, hz2, h⟩ := obind h
    refine D67 hz2 ?_
    conv => whnf
    cases h
    exact hk
  · replace h := (if_neg cz1).symm.trans h
    conv => whnf
    obtain ⟨r2, hz3, h⟩ := obind h
    rcases r2 with q3 | q3
    · dsimp only at h
      refine L64_9 _ _ _ _ hz3 ⟨fun q e => ?_, fun q e => by cases e⟩
      cases e
      cases h
      exact hk
    · dsimp only at h
      refine L64_9 _ _ _ _ hz3 ⟨fun q e => (by cases e), fun q e e1_r2 => ?_⟩
      cases e
      refine pn_go [9] 400 ?_
      conv => whnf
      obtain ⟨r4, hz4, h⟩ := obind h
      refine D67 hz4 ?_
      conv => whnf
      cases h
      exact hk
/-- X1_addPacket -/
noncomputable def d48 (a0 : Nat) (a1 : Int32) (a2 : Int32) (a3 : Int32) (a4 : Int32) (I : jI) : Option (jI) :=
  if 6 ≤ (I 4 a0 6) then
    some I
  else
    some (jup (jup (jup (jup (jup I 18 a0 (Int32.toNatClampNeg (I 4 a0 6)) a1) 19 a0 (Int32.toNatClampNeg ((jup I 18 a0 (Int32.toNatClampNeg (I 4 a0 6)) a1) 4 a0 6)) a2) 20 a0 (Int32.toNatClampNeg ((jup (jup I 18 a0 (Int32.toNatClampNeg (I 4 a0 6)) a1) 19 a0 (Int32.toNatClampNeg ((jup I 18 a0 (Int32.toNatClampNeg (I 4 a0 6)) a1) 4 a0 6)) a2) 4 a0 6)) a3) 21 a0 (Int32.toNatClampNeg ((jup (jup (jup I 18 a0 (Int32.toNatClampNeg (I 4 a0 6)) a1) 19 a0 (Int32.toNatClampNeg ((jup I 18 a0 (Int32.toNatClampNeg (I 4 a0 6)) a1) 4 a0 6)) a2) 20 a0 (Int32.toNatClampNeg ((jup (jup I 18 a0 (Int32.toNatClampNeg (I 4 a0 6)) a1) 19 a0 (Int32.toNatClampNeg ((jup I 18 a0 (Int32.toNatClampNeg (I 4 a0 6)) a1) 4 a0 6)) a2) 4 a0 6)) a3) 4 a0 6)) a4) 4 a0 6 (((jup (jup (jup (jup I 18 a0 (Int32.toNatClampNeg (I 4 a0 6)) a1) 19 a0 (Int32.toNatClampNeg ((jup I 18 a0 (Int32.toNatClampNeg (I 4 a0 6)) a1) 4 a0 6)) a2) 20 a0 (Int32.toNatClampNeg ((jup (jup I 18 a0 (Int32.toNatClampNeg (I 4 a0 6)) a1) 19 a0 (Int32.toNatClampNeg ((jup I 18 a0 (Int32.toNatClampNeg (I 4 a0 6)) a1) 4 a0 6)) a2) 4 a0 6)) a3) 21 a0 (Int32.toNatClampNeg ((jup (jup (jup I 18 a0 (Int32.toNatClampNeg (I 4 a0 6)) a1) 19 a0 (Int32.toNatClampNeg ((jup I 18 a0 (Int32.toNatClampNeg (I 4 a0 6)) a1) 4 a0 6)) a2) 20 a0 (Int32.toNatClampNeg ((jup (jup I 18 a0 (Int32.toNatClampNeg (I 4 a0 6)) a1) 19 a0 (Int32.toNatClampNeg ((jup I 18 a0 (Int32.toNatClampNeg (I 4 a0 6)) a1) 4 a0 6)) a2) 4 a0 6)) a3) 4 a0 6)) a4) 4 a0 6) + 1))
set_option maxHeartbeats 4000000 in
set_option maxRecDepth 20000 in
theorem D48 {d : Nat} {k : jK} {a0 : Nat} {a1 : Int32} {a2 : Int32} {a3 : Int32} {a4 : Int32} {I : jI} {L : jL} {r : jI} (h : d48 a0 a1 a2 a3 a4 I = some r) (hk : k none (r, L)) : jPM d 48 [.inr (4, a0), .inl (.inl a1), .inl (.inl a2), .inl (.inl a3), .inl (.inl a4)] (I, L) k := by
  refine pM (fun d n => ?_)
  unfold d48 at h
  refine pn_go [] 400 ?_
  conv => whnf
  refine ⟨fun cz1 => ?_, fun cz1 => ?_⟩
  · replace h := (if_pos cz1).symm.trans h
    conv => whnf
    cases h
    exact hk
  · replace h := (if_neg cz1).symm.trans h
    conv => whnf
    intro _
    conv => whnf
    intro _
    conv => whnf
    intro _
    conv => whnf
    intro _
    conv => whnf
    cases h
    exact hk
/-- X5_readPacket -/
noncomputable def d63 (I : jI) : Option (jI) :=
  (d64 I).bind fun r1 =>
  (d66 1 r1.2).bind fun r2 =>
  (d65 r2.2).bind fun r3 =>
  (d66 1 r3.2).bind fun r4 =>
  if (r4.2 3 0 4) = (-9) then
    (d48 5 r1.1 r2.1 r3.1 r4.1 r4.2).bind fun r5 =>
    (d61 r5).bind fun r6 =>
    some r6
  else
    some r4.2
set_option maxHeartbeats 4000000 in
set_option maxRecDepth 20000 in
theorem D63 {d : Nat} {k : jK} {I : jI} {L : jL} {r : jI} (h : d63 I = some r) (hk : k none (r, L)) : jPM d 63 [.inr (3, 0)] (I, L) k := by
  refine pM (fun d n => ?_)
  unfold d63 at h
  refine pn_go [] 400 ?_
  conv => whnf
  obtain ⟨r1, hz1, h⟩ := obind h
  refine D64 hz1 ?_
  conv => whnf
  obtain ⟨r2, hz2, h⟩ := obind h
  refine D66 hz2 ?_
  conv => whnf
  obtain ⟨r3, hz3, h⟩ := obind h
  refine D65 hz3 ?_
  conv => whnf
  obtain ⟨r4, hz4, h⟩ := obind h
  refine D66 hz4 ?_
  conv => whnf
  refine ⟨fun cz5 => ?_, fun cz5 => ?_⟩
  · replace h := (if_neg cz5).symm.trans h
    conv => whnf
    cases h
    exact hk
  · replace h := (if_pos cz5).symm.trans h
    conv => whnf
    obtain ⟨r5, hz6, h⟩ := obind h
    refine D48 hz6 ?_
    conv => whnf
    obtain ⟨r6, hz7, h⟩ := obind h
    refine D61 hz7 ?_
    conv => whnf
    cases h
    exact hk
/-- X5_read, loop at 16 -/
noncomputable def d58_16 : Nat → Int32 → jI → Option (jI)
  | 0, _, _ => none
  | F + 1, x3, I =>
    if 6 ≤ x3 then
      some I
    else
      if (d60 I) = 0 then
        some I
      else
        (d63 I).bind fun r4 =>
        d58_16 F (x3 + 1) r4
set_option maxHeartbeats 4000000 in
set_option maxRecDepth 20000 in
theorem L58_16 {d n : Nat} {k : jK} {L : jL} : ∀ (F : Nat) (x3 : Int32) (I : jI) (e1 e2 : Option jV) (r : jI), d58_16 F x3 I = some r → (∀ (f1 f2 f3 : Option jV), pn (jPM d) k none (jco 58) n (39, [some (.inr (3, 0)), f1, f2, f3], [], r, L)) → pn (jPM d) k none (jco 58) n (16, [some (.inr (3, 0)), e1, e2, some (.inl (.inl x3))], [], I, L) := by
  intro F
  induction F with
  | zero => intro x3 I e1 e2 r h hx; cases h
  | succ F ih =>
    intro x3 I e1 e2 r h hx
    rw [d58_16] at h
    refine pn_go [16, 39] 400 ?_
    conv => whnf
    refine ⟨fun cz1 => ?_, fun cz1 => ?_⟩
    · replace h := (if_pos cz1).symm.trans h
      conv => whnf
      cases h
      exact hx _ _ _
    · replace h := (if_neg cz1).symm.trans h
      conv => whnf
      refine D60 rfl ?_
      conv => whnf
      refine ⟨fun cz2 => ?_, fun cz2 => ?_⟩
      · replace h := (if_pos cz2).symm.trans h
        conv => whnf
        cases h
        exact hx _ _ _
      · replace h := (if_neg cz2).symm.trans h
        conv => whnf
        obtain ⟨r4, hz3, h⟩ := obind h
        refine D63 hz3 ?_
        conv => whnf
        exact ih _ _ _ _ r h hx
/-- X5_read -/
noncomputable def d58 (a2 : Int32) (I : jI) : Option (Int32 × jI) :=
  (d59 a2 I).bind fun r1 =>
  (d62 r1).bind fun r2 =>
  (d63 r2).bind fun r3 =>
  (d58_16 70 1 r3).bind fun r5 =>
  if (d60 r5) = 0 then
    some ((r5 3 0 4), r5)
  else
    some (((jup r5 3 0 4 (r5 3 0 3)) 3 0 4), (jup r5 3 0 4 (r5 3 0 3)))
set_option maxHeartbeats 4000000 in
set_option maxRecDepth 20000 in
theorem D58 {d : Nat} {k : jK} {a2 : Int32} {I : jI} {L : jL} {r : Int32 × jI} (h : d58 a2 I = some r) (hk : k (some (.inl (.inl r.1))) (r.2, L)) : jPM d 58 [.inr (3, 0), .inr (2, 0), .inl (.inl a2)] (I, L) k := by
  refine pM (fun d n => ?_)
  unfold d58 at h
  refine pn_go [16] 400 ?_
  conv => whnf
  obtain ⟨r1, hz1, h⟩ := obind h
  refine D59 hz1 ?_
  conv => whnf
  obtain ⟨r2, hz2, h⟩ := obind h
  refine D62 hz2 ?_
  conv => whnf
  obtain ⟨r3, hz3, h⟩ := obind h
  refine D63 hz3 ?_
  conv => whnf
  obtain ⟨r5, hz4, h⟩ := obind h
  refine L58_16 _ _ _ _ _ _ hz4 (fun e1_r5 e2_r5 e3_r5 => ?_)
  refine pn_go [16] 400 ?_
  conv => whnf
  refine D60 rfl ?_
  conv => whnf
  refine ⟨fun cz5 => ?_, fun cz5 => ?_⟩
  · replace h := (if_pos cz5).symm.trans h
    conv => whnf
    cases h
    exact hk
  · replace h := (if_neg cz5).symm.trans h
    conv => whnf
    cases h
    exact hk
