/-- X6_names -/
def d15g1 (a1 : Int32) (I : jI) : Int32 :=
  if a1 < 0 then
    0
  else
    if (nI 6) ≤ a1 then
      0
    else
      1
set_option maxHeartbeats 4000000 in
set_option maxRecDepth 20000 in
theorem D15g1 {d : Nat} {k : jK} {a1 : Int32} {I : jI} {L : jL} {r : Int32} (h : d15g1 a1 I = r) (hk : k (some (.inl (.inl r))) (I, L)) : jPM d 15 [.inr (1, 0), .inl (.inl a1)] (I, L) k := by
  refine pM (fun d n => ?_)
  unfold d15g1 at h
  refine pn_go [] 400 ?_
  conv => whnf
  refine ⟨fun cz1 => ?_, fun cz1 => ?_⟩
  · replace h := (if_pos cz1).symm.trans h
    conv => whnf
    subst h
    exact fun _ => hk
  · replace h := (if_neg cz1).symm.trans h
    conv => whnf
    refine ⟨fun cz2 => ?_, fun cz2 => ?_⟩
    · replace h := (if_pos cz2).symm.trans h
      conv => whnf
      subst h
      exact fun _ => hk
    · replace h := (if_neg cz2).symm.trans h
      conv => whnf
      subst h
      exact fun _ => hk
/-- J7_fill_53178, loop at 5 -/
def d2g29_5 (y0 : Nat) (y1 : Int32) (y3 : Int32) : Nat → Int32 → jI → Option (jI)
  | 0, _, _ => none
  | F + 1, x2, I =>
    if y3 ≤ x2 then
      some I
    else
      d2g29_5 y0 y1 y3 F (x2 + 1) (jup I 29 y0 (Int32.toNatClampNeg x2) y1)
set_option maxHeartbeats 4000000 in
set_option maxRecDepth 20000 in
theorem L2g29_5 {d n : Nat} {k : jK} {y0 : Nat} {y1 : Int32} {y3 : Int32} {L : jL} : ∀ (F : Nat) (x2 : Int32) (I : jI) (r : jI), d2g29_5 y0 y1 y3 F x2 I = some r → (∀ (f2 : Option jV), pn (jPM d) k none (jco 2) n (20, [some (.inr (29, y0)), some (.inl (.inl y1)), f2, some (.inl (.inl y3))], [], r, L)) → pn (jPM d) k none (jco 2) n (5, [some (.inr (29, y0)), some (.inl (.inl y1)), some (.inl (.inl x2)), some (.inl (.inl y3))], [], I, L) := by
  intro F
  induction F with
  | zero => intro x2 I r h hx; cases h
  | succ F ih =>
    intro x2 I r h hx
    rw [d2g29_5] at h
    refine pn_go [5, 20] 400 ?_
    conv => whnf
    refine ⟨fun cz1 => ?_, fun cz1 => ?_⟩
    · replace h := (if_pos cz1).symm.trans h
      conv => whnf
      cases h
      exact hx _
    · replace h := (if_neg cz1).symm.trans h
      conv => whnf
      intro _
      conv => whnf
      exact ih _ _ r h hx
/-- J7_fill_53178 -/
def d2g29 (a0 : Nat) (a1 : Int32) (I : jI) : Option (jI) :=
  (d2g29_5 a0 a1 (nI 40) 70 0 I).bind fun r1 =>
  some r1
set_option maxHeartbeats 4000000 in
set_option maxRecDepth 20000 in
theorem D2g29 {d : Nat} {k : jK} {a0 : Nat} {a1 : Int32} {I : jI} {L : jL} {r : jI} (h : d2g29 a0 a1 I = some r) (hk : k none (r, L)) : jPM d 2 [.inr (29, a0), .inl (.inl a1)] (I, L) k := by
  refine pM (fun d n => ?_)
  unfold d2g29 at h
  refine pn_go [5] 400 ?_
  conv => whnf
  obtain ⟨r1, hz1, h⟩ := obind h
  refine L2g29_5 _ _ _ _ hz1 (fun e2_r1 => ?_)
  refine pn_go [5] 400 ?_
  conv => whnf
  cases h
  exact hk
/-- X6_makeAnew -/
def d20g1 (a1 : Int32) (a2 : Int32) (a3 : Int32) (I : jI) : Option (jI) :=
  (d2g29 (Int32.toNatClampNeg a1) a3 I).bind fun r1 =>
  some (jup r1 14 0 (Int32.toNatClampNeg a1) a2)
set_option maxHeartbeats 4000000 in
set_option maxRecDepth 20000 in
theorem D20g1 {d : Nat} {k : jK} {a1 : Int32} {a2 : Int32} {a3 : Int32} {I : jI} {L : jL} {r : jI} (h : d20g1 a1 a2 a3 I = some r) (hk : k none (r, L)) : jPM d 20 [.inr (1, 0), .inl (.inl a1), .inl (.inl a2), .inl (.inl a3)] (I, L) k := by
  refine pM (fun d n => ?_)
  unfold d20g1 at h
  refine pn_go [] 400 ?_
  conv => whnf
  intro _
  conv => whnf
  obtain ⟨r1, hz1, h⟩ := obind h
  refine D2g29 hz1 ?_
  conv => whnf
  intro _
  conv => whnf
  cases h
  exact hk
/-- X7_find -/
def d113 (a1 : Int32) (I : jI) : Int32 × jI :=
  ((-3), (jup (jup I 0 0 13 a1) 12 0 (Int32.toNatClampNeg a1) (((jup I 0 0 13 a1) 12 0 (Int32.toNatClampNeg a1)) + 1)))
set_option maxHeartbeats 4000000 in
set_option maxRecDepth 20000 in
theorem D113 {d : Nat} {k : jK} {a1 : Int32} {I : jI} {L : jL} {r : Int32 × jI} (h : d113 a1 I = r) (hk : k (some (.inl (.inl r.1))) (r.2, L)) : jPM d 113 [.inr (0, 0), .inl (.inl a1)] (I, L) k := by
  refine pM (fun d n => ?_)
  unfold d113 at h
  refine pn_go [] 400 ?_
  conv => whnf
  intro _
  conv => whnf
  intro _
  conv => whnf
  subst h
  exact hk
/-- X7_row -/
def d68 (a1 : Int32) (a2 : Int32) (I : jI) : Option (Int32 × jI) :=
  if (d15g1 a1 I) = 0 then
    some ((-1), I)
  else
    if a2 ≤ 40 then
      if 0 ≤ a2 then
        (d20g1 a1 a2 0 I).bind fun r1 =>
        some (a2, r1)
      else
        some (((d113 5 I).1), ((d113 5 I).2))
    else
      some ((-1), I)
set_option maxHeartbeats 4000000 in
set_option maxRecDepth 20000 in
theorem D68 {d : Nat} {k : jK} {a1 : Int32} {a2 : Int32} {I : jI} {L : jL} {r : Int32 × jI} (h : d68 a1 a2 I = some r) (hk : k (some (.inl (.inl r.1))) (r.2, L)) : jPM d 68 [.inr (0, 0), .inl (.inl a1), .inl (.inl a2)] (I, L) k := by
  refine pM (fun d n => ?_)
  unfold d68 at h
  refine pn_go [] 400 ?_
  conv => whnf
  refine D15g1 rfl ?_
  conv => whnf
  refine ⟨fun cz1 => ?_, fun cz1 => ?_⟩
  · replace h := (if_pos cz1).symm.trans h
    conv => whnf
    cases h
    exact hk
  · replace h := (if_neg cz1).symm.trans h
    conv => whnf
    refine ⟨fun cz2 => ?_, fun cz2 => ?_⟩
    · replace h := (if_pos cz2).symm.trans h
      conv => whnf
      refine ⟨fun cz3 => ?_, fun cz3 => ?_⟩
      · replace h := (if_pos cz3).symm.trans h
        conv => whnf
        obtain ⟨r1, hz4, h⟩ := obind h
        refine D20g1 hz4 ?_
        conv => whnf
        cases h
        exact hk
      · replace h := (if_neg cz3).symm.trans h
        conv => whnf
        refine D113 rfl ?_
        conv => whnf
        cases h
        exact hk
    · replace h := (if_neg cz2).symm.trans h
      conv => whnf
      cases h
      exact hk
/-- X6_isThere -/
def d16g1 (a1 : Int32) (I : jI) : Int32 :=
  if (I 14 0 (Int32.toNatClampNeg a1)) = (-1) then
    0
  else
    1
set_option maxHeartbeats 4000000 in
set_option maxRecDepth 20000 in
theorem D16g1 {d : Nat} {k : jK} {a1 : Int32} {I : jI} {L : jL} {r : Int32} (h : d16g1 a1 I = r) (hk : k (some (.inl (.inl r))) (I, L)) : jPM d 16 [.inr (1, 0), .inl (.inl a1)] (I, L) k := by
  refine pM (fun d n => ?_)
  unfold d16g1 at h
  refine pn_go [] 400 ?_
  conv => whnf
  intro _
  conv => whnf
  refine ⟨fun cz1 => ?_, fun cz1 => ?_⟩
  · replace h := (if_pos cz1).symm.trans h
    conv => whnf
    subst h
    exact fun _ => hk
  · replace h := (if_neg cz1).symm.trans h
    conv => whnf
    subst h
    exact fun _ => hk
/-- X6_troubleAt -/
def d22g1 (a1 : Int32) (a2 : Int32) (I : jI) : Int32 :=
  if (d16g1 a1 I) = 0 then
    1
  else
    if a2 < 0 then
      2
    else
      if a2 < (I 14 0 (Int32.toNatClampNeg a1)) then
        0
      else
        2
set_option maxHeartbeats 4000000 in
set_option maxRecDepth 20000 in
theorem D22g1 {d : Nat} {k : jK} {a1 : Int32} {a2 : Int32} {I : jI} {L : jL} {r : Int32} (h : d22g1 a1 a2 I = r) (hk : k (some (.inl (.inl r))) (I, L)) : jPM d 22 [.inr (1, 0), .inl (.inl a1), .inl (.inl a2)] (I, L) k := by
  refine pM (fun d n => ?_)
  unfold d22g1 at h
  refine pn_go [] 400 ?_
  conv => whnf
  refine D16g1 rfl ?_
  conv => whnf
  refine ⟨fun cz1 => ?_, fun cz1 => ?_⟩
  · replace h := (if_neg cz1).symm.trans h
    conv => whnf
    refine ⟨fun cz2 => ?_, fun cz2 => ?_⟩
    · replace h := (if_pos cz2).symm.trans h
      conv => whnf
      subst h
      exact hk
    · replace h := (if_neg cz2).symm.trans h
      conv => whnf
      intro _
      conv => whnf
      refine ⟨fun cz3 => ?_, fun cz3 => ?_⟩
      · replace h := (if_pos cz3).symm.trans h
        conv => whnf
        subst h
        exact hk
      · replace h := (if_neg cz3).symm.trans h
        conv => whnf
        subst h
        exact hk
  · replace h := (if_pos cz1).symm.trans h
    conv => whnf
    subst h
    exact hk
/-- X6_get -/
def d18g1 (a1 : Int32) (a2 : Int32) (I : jI) : Int32 :=
  (I 29 (Int32.toNatClampNeg a1) (Int32.toNatClampNeg a2))
set_option maxHeartbeats 4000000 in
set_option maxRecDepth 20000 in
theorem D18g1 {d : Nat} {k : jK} {a1 : Int32} {a2 : Int32} {I : jI} {L : jL} {r : Int32} (h : d18g1 a1 a2 I = r) (hk : k (some (.inl (.inl r))) (I, L)) : jPM d 18 [.inr (1, 0), .inl (.inl a1), .inl (.inl a2)] (I, L) k := by
  refine pM (fun d n => ?_)
  unfold d18g1 at h
  refine pn_go [] 400 ?_
  conv => whnf
  intro _
  conv => whnf
  intro _
  conv => whnf
  subst h
  exact hk
/-- X6_set -/
def d19g1 (a1 : Int32) (a2 : Int32) (a3 : Int32) (I : jI) : jI :=
  (jup I 29 (Int32.toNatClampNeg a1) (Int32.toNatClampNeg a2) a3)
set_option maxHeartbeats 4000000 in
set_option maxRecDepth 20000 in
theorem D19g1 {d : Nat} {k : jK} {a1 : Int32} {a2 : Int32} {a3 : Int32} {I : jI} {L : jL} {r : jI} (h : d19g1 a1 a2 a3 I = r) (hk : k none (r, L)) : jPM d 19 [.inr (1, 0), .inl (.inl a1), .inl (.inl a2), .inl (.inl a3)] (I, L) k := by
  refine pM (fun d n => ?_)
  unfold d19g1 at h
  refine pn_go [] 400 ?_
  conv => whnf
  intro _
  conv => whnf
  intro _
  conv => whnf
  subst h
  exact hk
/-- X7_lay -/
def d69 (a1 : Int32) (a2 : Int32) (a3 : Int32) (I : jI) : Option (Int32 × jI) :=
  if (d15g1 a1 I) = 0 then
    some ((-1), I)
  else
    if (d22g1 a1 a2 I) = 0 then
      some (1, (d19g1 a1 a2 a3 (jup I 0 0 14 (d18g1 a1 a2 I))))
    else
      some (((d113 (d22g1 a1 a2 I) I).1), ((d113 (d22g1 a1 a2 I) I).2))
set_option maxHeartbeats 4000000 in
set_option maxRecDepth 20000 in
theorem D69 {d : Nat} {k : jK} {a1 : Int32} {a2 : Int32} {a3 : Int32} {I : jI} {L : jL} {r : Int32 × jI} (h : d69 a1 a2 a3 I = some r) (hk : k (some (.inl (.inl r.1))) (r.2, L)) : jPM d 69 [.inr (0, 0), .inl (.inl a1), .inl (.inl a2), .inl (.inl a3)] (I, L) k := by
  refine pM (fun d n => ?_)
  unfold d69 at h
  refine pn_go [] 400 ?_
  conv => whnf
  refine D15g1 rfl ?_
  conv => whnf
  refine ⟨fun cz1 => ?_, fun cz1 => ?_⟩
  · replace h := (if_neg cz1).symm.trans h
    conv => whnf
    refine D22g1 rfl ?_
    conv => whnf
    refine ⟨fun cz2 => ?_, fun cz2 => ?_⟩
    · replace h := (if_pos cz2).symm.trans h
      conv => whnf
      refine D18g1 rfl ?_
      conv => whnf
      refine D19g1 rfl ?_
      conv => whnf
      cases h
      exact hk
    · replace h := (if_neg cz2).symm.trans h
      conv => whnf
      refine D113 rfl ?_
      conv => whnf
      cases h
      exact hk
  · replace h := (if_pos cz1).symm.trans h
    conv => whnf
    cases h
    exact hk
/-- X7_at -/
def d70 (a1 : Int32) (a2 : Int32) (I : jI) : Option (Int32 × jI) :=
  if (d15g1 a1 I) = 0 then
    some ((-1), I)
  else
    if (d22g1 a1 a2 I) = 0 then
      some (1, (jup I 0 0 14 (d18g1 a1 a2 I)))
    else
      some (((d113 (d22g1 a1 a2 I) I).1), ((d113 (d22g1 a1 a2 I) I).2))
set_option maxHeartbeats 4000000 in
set_option maxRecDepth 20000 in
theorem D70 {d : Nat} {k : jK} {a1 : Int32} {a2 : Int32} {I : jI} {L : jL} {r : Int32 × jI} (h : d70 a1 a2 I = some r) (hk : k (some (.inl (.inl r.1))) (r.2, L)) : jPM d 70 [.inr (0, 0), .inl (.inl a1), .inl (.inl a2)] (I, L) k := by
  refine pM (fun d n => ?_)
  unfold d70 at h
  refine pn_go [] 400 ?_
  conv => whnf
  refine D15g1 rfl ?_
  conv => whnf
  refine ⟨fun cz1 => ?_, fun cz1 => ?_⟩
  · replace h := (if_neg cz1).symm.trans h
    conv => whnf
    refine D22g1 rfl ?_
    conv => whnf
    refine ⟨fun cz2 => ?_, fun cz2 => ?_⟩
    · replace h := (if_pos cz2).symm.trans h
      conv => whnf
      refine D18g1 rfl ?_
      conv => whnf
      cases h
      exact hk
    · replace h := (if_neg cz2).symm.trans h
      conv => whnf
      refine D113 rfl ?_
      conv => whnf
      cases h
      exact hk
  · replace h := (if_pos cz1).symm.trans h
    conv => whnf
    cases h
    exact hk
/-- X6_remove -/
def d21g1 (a1 : Int32) (I : jI) : jI :=
  (jup I 14 0 (Int32.toNatClampNeg a1) (-1))
set_option maxHeartbeats 4000000 in
set_option maxRecDepth 20000 in
theorem D21g1 {d : Nat} {k : jK} {a1 : Int32} {I : jI} {L : jL} {r : jI} (h : d21g1 a1 I = r) (hk : k none (r, L)) : jPM d 21 [.inr (1, 0), .inl (.inl a1)] (I, L) k := by
  refine pM (fun d n => ?_)
  unfold d21g1 at h
  refine pn_go [] 400 ?_
  conv => whnf
  intro _
  conv => whnf
  subst h
  exact hk
/-- X7_tear -/
def d71 (a1 : Int32) (I : jI) : Option (Int32 × jI) :=
  if (d15g1 a1 I) = 0 then
    some ((-1), I)
  else
    if (d16g1 a1 I) = 0 then
      some (((d113 1 I).1), ((d113 1 I).2))
    else
      some (1, (d21g1 a1 I))
set_option maxHeartbeats 4000000 in
set_option maxRecDepth 20000 in
theorem D71 {d : Nat} {k : jK} {a1 : Int32} {I : jI} {L : jL} {r : Int32 × jI} (h : d71 a1 I = some r) (hk : k (some (.inl (.inl r.1))) (r.2, L)) : jPM d 71 [.inr (0, 0), .inl (.inl a1)] (I, L) k := by
  refine pM (fun d n => ?_)
  unfold d71 at h
  refine pn_go [] 400 ?_
  conv => whnf
  refine D15g1 rfl ?_
  conv => whnf
  refine ⟨fun cz1 => ?_, fun cz1 => ?_⟩
  · replace h := (if_neg cz1).symm.trans h
    conv => whnf
    refine D16g1 rfl ?_
    conv => whnf
    refine ⟨fun cz2 => ?_, fun cz2 => ?_⟩
    · replace h := (if_neg cz2).symm.trans h
      conv => whnf
      refine D21g1 rfl ?_
      conv => whnf
      cases h
      exact hk
    · replace h := (if_pos cz2).symm.trans h
      conv => whnf
      refine D113 rfl ?_
      conv => whnf
      cases h
      exact hk
  · replace h := (if_pos cz1).symm.trans h
    conv => whnf
    cases h
    exact hk
/-- X6_hasPlaces -/
def d23g1 (a1 : Int32) (a2 : Int32) (a3 : Int32) (I : jI) : Int32 :=
  if a2 < 0 then
    0
  else
    if (I 14 0 (Int32.toNatClampNeg a1)) < a2 then
      0
    else
      if ((I 14 0 (Int32.toNatClampNeg a1)) - a2) < a3 then
        0
      else
        1
set_option maxHeartbeats 4000000 in
set_option maxRecDepth 20000 in
theorem D23g1 {d : Nat} {k : jK} {a1 : Int32} {a2 : Int32} {a3 : Int32} {I : jI} {L : jL} {r : Int32} (h : d23g1 a1 a2 a3 I = r) (hk : k (some (.inl (.inl r))) (I, L)) : jPM d 23 [.inr (1, 0), .inl (.inl a1), .inl (.inl a2), .inl (.inl a3)] (I, L) k := by
  refine pM (fun d n => ?_)
  unfold d23g1 at h
  refine pn_go [] 400 ?_
  conv => whnf
  refine ⟨fun cz1 => ?_, fun cz1 => ?_⟩
  · replace h := (if_pos cz1).symm.trans h
    conv => whnf
    subst h
    exact fun _ => hk
  · replace h := (if_neg cz1).symm.trans h
    conv => whnf
    intro _
    conv => whnf
    refine ⟨fun cz2 => ?_, fun cz2 => ?_⟩
    · replace h := (if_pos cz2).symm.trans h
      conv => whnf
      subst h
      exact fun _ => hk
    · replace h := (if_neg cz2).symm.trans h
      conv => whnf
      intro _
      conv => whnf
      refine ⟨fun cz3 => ?_, fun cz3 => ?_⟩
      · replace h := (if_pos cz3).symm.trans h
        conv => whnf
        subst h
        exact fun _ => hk
      · replace h := (if_neg cz3).symm.trans h
        conv => whnf
        subst h
        exact fun _ => hk
/-- X6_move -/
def d24g1 (a1 : Int32) (a2 : Int32) (a3 : Int32) (a4 : Int32) (a5 : Int32) (I : jI) : jI :=
  (jcpy I 29 (Int32.toNatClampNeg a1) 29 (Int32.toNatClampNeg a3) (Int32.toNatClampNeg a2) (Int32.toNatClampNeg a4) (Int32.toNatClampNeg a5))
set_option maxHeartbeats 4000000 in
set_option maxRecDepth 20000 in
theorem D24g1 {d : Nat} {k : jK} {a1 : Int32} {a2 : Int32} {a3 : Int32} {a4 : Int32} {a5 : Int32} {I : jI} {L : jL} {r : jI} (h : d24g1 a1 a2 a3 a4 a5 I = r) (hk : k none (r, L)) : jPM d 24 [.inr (1, 0), .inl (.inl a1), .inl (.inl a2), .inl (.inl a3), .inl (.inl a4), .inl (.inl a5)] (I, L) k := by
  refine pM (fun d n => ?_)
  unfold d24g1 at h
  refine pn_go [] 400 ?_
  conv => whnf
  intro _
  conv => whnf
  intro _
  conv => whnf
  intro _
  conv => whnf
  subst h
  exact hk
/-- X7_copy -/
def d72 (a1 : Int32) (a2 : Int32) (a3 : Int32) (a4 : Int32) (a5 : Int32) (I : jI) : Option (Int32 × jI) :=
  if (d15g1 a1 I) = 0 then
    some ((-1), I)
  else
    if (d15g1 a3 I) = 0 then
      some ((-1), I)
    else
      if 0 ≤ a5 then
        if (d16g1 a1 I) = 0 then
          some (((d113 1 I).1), ((d113 1 I).2))
        else
          if (d16g1 a3 I) = 0 then
            some (((d113 1 I).1), ((d113 1 I).2))
          else
            if (d23g1 a1 a2 a5 I) = 0 then
              some (((d113 2 I).1), ((d113 2 I).2))
            else
              if (d23g1 a3 a4 a5 I) = 0 then
                some (((d113 2 I).1), ((d113 2 I).2))
              else
                some (1, (d24g1 a1 a2 a3 a4 a5 I))
      else
        some (((d113 5 I).1), ((d113 5 I).2))
set_option maxHeartbeats 4000000 in
set_option maxRecDepth 20000 in
theorem D72 {d : Nat} {k : jK} {a1 : Int32} {a2 : Int32} {a3 : Int32} {a4 : Int32} {a5 : Int32} {I : jI} {L : jL} {r : Int32 × jI} (h : d72 a1 a2 a3 a4 a5 I = some r) (hk : k (some (.inl (.inl r.1))) (r.2, L)) : jPM d 72 [.inr (0, 0), .inl (.inl a1), .inl (.inl a2), .inl (.inl a3), .inl (.inl a4), .inl (.inl a5)] (I, L) k := by
  refine pM (fun d n => ?_)
  unfold d72 at h
  refine pn_go [] 400 ?_
  conv => whnf
  refine D15g1 rfl ?_
  conv => whnf
  refine ⟨fun cz1 => ?_, fun cz1 => ?_⟩
  · replace h := (if_pos cz1).symm.trans h
    conv => whnf
    cases h
    exact hk
  · replace h := (if_neg cz1).symm.trans h
    conv => whnf
    refine D15g1 rfl ?_
    conv => whnf
    refine ⟨fun cz2 => ?_, fun cz2 => ?_⟩
    · replace h := (if_neg cz2).symm.trans h
      conv => whnf
      refine ⟨fun cz3 => ?_, fun cz3 => ?_⟩
      · replace h := (if_pos cz3).symm.trans h
        conv => whnf
        refine D16g1 rfl ?_
        conv => whnf
        refine ⟨fun cz4 => ?_, fun cz4 => ?_⟩
        · replace h := (if_pos cz4).symm.trans h
          conv => whnf
          refine D113 rfl ?_
          conv => whnf
          cases h
          exact hk
        · replace h := (if_neg cz4).symm.trans h
          conv => whnf
          refine D16g1 rfl ?_
          conv => whnf
          refine ⟨fun cz5 => ?_, fun cz5 => ?_⟩
          · replace h := (if_neg cz5).symm.trans h
            conv => whnf
            refine D23g1 rfl ?_
            conv => whnf
            refine ⟨fun cz6 => ?_, fun cz6 => ?_⟩
            · replace h := (if_pos cz6).symm.trans h
              conv => whnf
              refine D113 rfl ?_
              conv => whnf
              cases h
              exact hk
            · replace h := (if_neg cz6).symm.trans h
              conv => whnf
              refine D23g1 rfl ?_
              conv => whnf
              refine ⟨fun cz7 => ?_, fun cz7 => ?_⟩
              · replace h := (if_neg cz7).symm.trans h
                conv => whnf
                refine D24g1 rfl ?_
                conv => whnf
                cases h
                exact hk
              · replace h := (if_pos cz7).symm.trans h
                conv => whnf
                refine D113 rfl ?_
                conv => whnf
                cases h
                exact hk
          · replace h := (if_pos cz5).symm.trans h
            conv => whnf
            refine D113 rfl ?_
            conv => whnf
            cases h
            exact hk
      · replace h := (if_neg cz3).symm.trans h
        conv => whnf
        refine D113 rfl ?_
        conv => whnf
        cases h
        exact hk
    · replace h := (if_pos cz2).symm.trans h
      conv => whnf
      cases h
      exact hk
