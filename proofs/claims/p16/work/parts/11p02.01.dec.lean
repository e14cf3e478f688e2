/-- X2_costByCard -/
noncomputable def d6 (a0 : Int32) (a1 : Int32) (I : jI) : Int32 :=
  if a1 = 0 then
    a0
  else
    ((a0 * 3) / 4)
set_option maxHeartbeats 4000000 in
set_option maxRecDepth 20000 in
theorem D6 {d : Nat} {k : jK} {a0 : Int32} {a1 : Int32} {I : jI} {L : jL} {r : Int32} (h : d6 a0 a1 I = r) (hk : k (some (.inl (.inl r))) (I, L)) : jPM d 6 [.inl (.inl a0), .inl (.inl a1)] (I, L) k := by
  refine pM (fun d n => ?_)
  unfold d6 at h
  refine pn_go [] 400 ?_
  conv => whnf
  refine ⟨fun cz1 => ?_, fun cz1 => ?_⟩
  · replace h := (if_pos cz1).symm.trans h
    conv => whnf
    subst h
    exact hk
  · replace h := (if_neg cz1).symm.trans h
    conv => whnf
    intro _
    conv => whnf
    subst h
    exact hk
/-- X2_cost -/
noncomputable def d5 (a0 : Int32) (a1 : Int32) (a2 : Int32) (a3 : Int32) (I : jI) : Int32 :=
  if a0 = 1 then
    (d6 (a1 * a2) a3 I)
  else
    if a0 = 2 then
      ((a1 - (a1 / 3)) * a2)
    else
      if a0 = 3 then
        ((a1 * a2) / 2)
      else
        if a0 = 4 then
          (if 0 < ((d6 (a1 * a2) a3 I) - a1) then ((d6 (a1 * a2) a3 I) - a1) else 0)
        else
          if a0 = 5 then
            ((a1 - (a1 / 3)) * a2)
          else
            (a1 * a2)
set_option maxHeartbeats 4000000 in
set_option maxRecDepth 20000 in
theorem D5 {d : Nat} {k : jK} {a0 : Int32} {a1 : Int32} {a2 : Int32} {a3 : Int32} {I : jI} {L : jL} {r : Int32} (h : d5 a0 a1 a2 a3 I = r) (hk : k (some (.inl (.inl r))) (I, L)) : jPM d 5 [.inl (.inl a0), .inl (.inl a1), .inl (.inl a2), .inl (.inl a3)] (I, L) k := by
  refine pM (fun d n => ?_)
  unfold d5 at h
  refine pn_go [] 400 ?_
  conv => whnf
  refine And.intro (fun cz1 => ?_) (fun cz1 => ?_)
  · replace h := (if_pos cz1).symm.trans h
    conv => whnf
    refine D6 rfl ?_
    conv => whnf
    subst h
    exact hk
  replace h := (if_neg cz1).symm.trans h
  refine jsw_cons (fun cz2 => ?_) (fun cz2 => ?_)
  · replace h := (if_pos cz2).symm.trans h
    conv => whnf
    intro _
    conv => whnf
    subst h
    exact hk
  replace h := (if_neg cz2).symm.trans h
  refine jsw_cons (fun cz3 => ?_) (fun cz3 => ?_)
  · replace h := (if_pos cz3).symm.trans h
    conv => whnf
    intro _
    conv => whnf
    subst h
    exact hk
  replace h := (if_neg cz3).symm.trans h
  refine jsw_cons (fun cz4 => ?_) (fun cz4 => ?_)
  · replace h := (if_pos cz4).symm.trans h
    conv => whnf
    refine D6 rfl ?_
    conv => whnf
    subst h
    exact hk
  replace h := (if_neg cz4).symm.trans h
  refine jsw_cons (fun cz5 => ?_) (fun cz5 => ?_)
  · replace h := (if_pos cz5).symm.trans h
    conv => whnf
    intro _
    conv => whnf
    subst h
    exact hk
  replace h := (if_neg cz5).symm.trans h
  refine jsw_nil ?_
  conv => whnf
  subst h
  exact hk
/-- X2_got -/
noncomputable def d7 (a0 : Int32) (a1 : Int32) (I : jI) : Int32 :=
  if a0 = 3 then
    (a1 / 2)
  else
    a1
set_option maxHeartbeats 4000000 in
set_option maxRecDepth 20000 in
theorem D7 {d : Nat} {k : jK} {a0 : Int32} {a1 : Int32} {I : jI} {L : jL} {r : Int32} (h : d7 a0 a1 I = r) (hk : k (some (.inl (.inl r))) (I, L)) : jPM d 7 [.inl (.inl a0), .inl (.inl a1)] (I, L) k := by
  refine pM (fun d n => ?_)
  unfold d7 at h
  refine pn_go [] 400 ?_
  conv => whnf
  refine ⟨fun cz1 => ?_, fun cz1 => ?_⟩
  · replace h := (if_neg cz1).symm.trans h
    conv => whnf
    subst h
    exact hk
  · replace h := (if_pos cz1).symm.trans h
    conv => whnf
    intro _
    conv => whnf
    subst h
    exact hk
/-- X1_getsBy -/
noncomputable def d36 (a0 : Nat) (a1 : Int32) (I : jI) : Int32 :=
  (d7 (I 18 a0 (Int32.toNatClampNeg a1)) (I 19 a0 (Int32.toNatClampNeg a1)) I)
set_option maxHeartbeats 4000000 in
set_option maxRecDepth 20000 in
theorem D36 {d : Nat} {k : jK} {a0 : Nat} {a1 : Int32} {I : jI} {L : jL} {r : Int32} (h : d36 a0 a1 I = r) (hk : k (some (.inl (.inl r))) (I, L)) : jPM d 36 [.inr (4, a0), .inl (.inl a1)] (I, L) k := by
  refine pM (fun d n => ?_)
  unfold d36 at h
  refine pn_go [] 400 ?_
  conv => whnf
  intro _
  conv => whnf
  intro _
  conv => whnf
  refine D7 rfl ?_
  conv => whnf
  subst h
  exact hk
/-- X3_eat, loop at 4 -/
noncomputable def d13_4 (y0 : Nat) (y1 : Int32) : Nat → Int32 → Int32 → jI → Option (Int32 × jI)
  | 0, _, _, _ => none
  | F + 1, x2, x3, I =>
    if 10 ≤ x3 then
      some (x2, I)
    else
      if x2 ≤ 0 then
        some (x2, I)
      else
        d13_4 y0 y1 F (x2 - (if (I 23 y0 (Int32.toNatClampNeg x3)) < x2 then (I 23 y0 (Int32.toNatClampNeg x3)) else x2)) (x3 + 1) (jup I 23 y0 (Int32.toNatClampNeg x3) ((I 23 y0 (Int32.toNatClampNeg x3)) - (if (I 23 y0 (Int32.toNatClampNeg x3)) < x2 then (I 23 y0 (Int32.toNatClampNeg x3)) else x2)))
set_option maxHeartbeats 4000000 in
set_option maxRecDepth 20000 in
theorem L13_4 {d n : Nat} {k : jK} {y0 : Nat} {y1 : Int32} {L : jL} : ∀ (F : Nat) (x2 : Int32) (x3 : Int32) (I : jI) (e4 : Option jV) (r : Int32 × jI), d13_4 y0 y1 F x2 x3 I = some r → (∀ (f3 f4 : Option jV), pn (jPM d) k none (jco 13) n (48, [some (.inr (7, y0)), some (.inl (.inl y1)), some (.inl (.inl r.1)), f3, f4], [], r.2, L)) → pn (jPM d) k none (jco 13) n (4, [some (.inr (7, y0)), some (.inl (.inl y1)), some (.inl (.inl x2)), some (.inl (.inl x3)), e4], [], I, L) := by
  intro F
  induction F with
  | zero => intro x2 x3 I e4 r h hx; cases h
  | succ F ih =>
    intro x2 x3 I e4 r h hx
    rw [d13_4] at h
    refine pn_go [4, 48] 400 ?_
    conv => whnf
    refine ⟨fun cz1 => ?_, fun cz1 => ?_⟩
    · replace h := (if_pos cz1).symm.trans h
      conv => whnf
      cases h
      exact hx _ _
    · replace h := (if_neg cz1).symm.trans h
      conv => whnf
      refine ⟨fun cz2 => ?_, fun cz2 => ?_⟩
      · replace h := (if_pos cz2).symm.trans h
        conv => whnf
        cases h
        exact hx _ _
      · replace h := (if_neg cz2).symm.trans h
        conv => whnf
        intro _
        conv => whnf
        intro _
        conv => whnf
        intro _
        conv => whnf
        exact ih _ _ _ _ r h hx
/-- X3_eat -/
noncomputable def d13 (a0 : Nat) (a1 : Int32) (I : jI) : Option (Int32 × jI) :=
  (d13_4 a0 a1 70 a1 0 I).bind fun r1 =>
  some ((a1 - r1.1), r1.2)
set_option maxHeartbeats 4000000 in
set_option maxRecDepth 20000 in
theorem D13 {d : Nat} {k : jK} {a0 : Nat} {a1 : Int32} {I : jI} {L : jL} {r : Int32 × jI} (h : d13 a0 a1 I = some r) (hk : k (some (.inl (.inl r.1))) (r.2, L)) : jPM d 13 [.inr (7, a0), .inl (.inl a1)] (I, L) k := by
  refine pM (fun d n => ?_)
  unfold d13 at h
  refine pn_go [4] 400 ?_
  conv => whnf
  obtain ⟨r1, hz1, h⟩ := obind h
  refine L13_4 _ _ _ _ _ _ hz1 (fun e3_r1 e4_r1 => ?_)
  refine pn_go [4] 400 ?_
  conv => whnf
  cases h
  exact hk
/-- X3_goOff -/
noncomputable def d14 (a0 : Nat) (I : jI) : Int32 × jI :=
  ((I 23 a0 (Int32.toNatClampNeg 0)), (jup (jcpy I 23 a0 23 a0 (Int32.toNatClampNeg 1) (Int32.toNatClampNeg 0) (Int32.toNatClampNeg 9)) 23 a0 (Int32.toNatClampNeg 9) 0))
set_option maxHeartbeats 4000000 in
set_option maxRecDepth 20000 in
theorem D14 {d : Nat} {k : jK} {a0 : Nat} {I : jI} {L : jL} {r : Int32 × jI} (h : d14 a0 I = r) (hk : k (some (.inl (.inl r.1))) (r.2, L)) : jPM d 14 [.inr (7, a0)] (I, L) k := by
  refine pM (fun d n => ?_)
  unfold d14 at h
  refine pn_go [] 400 ?_
  conv => whnf
  intro _
  conv => whnf
  intro _
  conv => whnf
  intro _
  conv => whnf
  subst h
  exact hk
/-- X3_all, loop at 4 -/
noncomputable def d10_4 (y0 : Nat) (I : jI) : Nat → Int32 → Int32 → Option (Int32)
  | 0, _, _ => none
  | F + 1, x1, x2 =>
    if 10 ≤ x2 then
      some x1
    else
      d10_4 y0 I F (x1 + (I 23 y0 (Int32.toNatClampNeg x2))) (x2 + 1)
set_option maxHeartbeats 4000000 in
set_option maxRecDepth 20000 in
theorem L10_4 {d n : Nat} {k : jK} {y0 : Nat} {I : jI} {L : jL} : ∀ (F : Nat) (x1 : Int32) (x2 : Int32) (r : Int32), d10_4 y0 I F x1 x2 = some r → (∀ (f2 : Option jV), pn (jPM d) k none (jco 10) n (25, [some (.inr (7, y0)), some (.inl (.inl r)), f2], [], I, L)) → pn (jPM d) k none (jco 10) n (4, [some (.inr (7, y0)), some (.inl (.inl x1)), some (.inl (.inl x2))], [], I, L) := by
  intro F
  induction F with
  | zero => intro x1 x2 r h hx; cases h
  | succ F ih =>
    intro x1 x2 r h hx
    rw [d10_4] at h
    refine pn_go [4, 25] 400 ?_
    conv => whnf
    refine ⟨fun cz1 => ?_, fun cz1 => ?_⟩
    · replace h := (if_pos cz1).symm.trans h
      conv => whnf
      cases h
      exact hx _
    · replace h := (if_neg cz1).symm.trans h
      conv => whnf
      intro _
      conv => whnf
      exact ih _ _ r h hx
/-- X3_all -/
noncomputable def d10 (a0 : Nat) (I : jI) : Option (Int32) :=
  (d10_4 a0 I 70 0 0).bind fun r1 =>
  some r1
set_option maxHeartbeats 4000000 in
set_option maxRecDepth 20000 in
theorem D10 {d : Nat} {k : jK} {a0 : Nat} {I : jI} {L : jL} {r : Int32} (h : d10 a0 I = some r) (hk : k (some (.inl (.inl r))) (I, L)) : jPM d 10 [.inr (7, a0)] (I, L) k := by
  refine pM (fun d n => ?_)
  unfold d10 at h
  refine pn_go [4] 400 ?_
  conv => whnf
  obtain ⟨r1, hz1, h⟩ := obind h
  refine L10_4 _ _ _ _ hz1 (fun e2_r1 => ?_)
  refine pn_go [4] 400 ?_
  conv => whnf
  cases h
  exact hk
/-- X2_keeping -/
noncomputable def d8 (a0 : Int32) (a1 : Int32) (I : jI) : Int32 :=
  if a0 = 5 then
    (a1 / 2)
  else
    a1
set_option maxHeartbeats 4000000 in
set_option maxRecDepth 20000 in
theorem D8 {d : Nat} {k : jK} {a0 : Int32} {a1 : Int32} {I : jI} {L : jL} {r : Int32} (h : d8 a0 a1 I = r) (hk : k (some (.inl (.inl r))) (I, L)) : jPM d 8 [.inl (.inl a0), .inl (.inl a1)] (I, L) k := by
  refine pM (fun d n => ?_)
  unfold d8 at h
  refine pn_go [] 400 ?_
  conv => whnf
  refine ⟨fun cz1 => ?_, fun cz1 => ?_⟩
  · replace h := (if_neg cz1).symm.trans h
    conv => whnf
    subst h
    exact hk
  · replace h := (if_pos cz1).symm.trans h
    conv => whnf
    intro _
    conv => whnf
    subst h
    exact hk
/-- X1_keepsFor -/
noncomputable def d37 (a0 : Nat) (a1 : Int32) (I : jI) : Int32 :=
  (d8 (I 18 a0 (Int32.toNatClampNeg a1)) (I 21 a0 (Int32.toNatClampNeg a1)) I)
set_option maxHeartbeats 4000000 in
set_option maxRecDepth 20000 in
theorem D37 {d : Nat} {k : jK} {a0 : Nat} {a1 : Int32} {I : jI} {L : jL} {r : Int32} (h : d37 a0 a1 I = r) (hk : k (some (.inl (.inl r))) (I, L)) : jPM d 37 [.inr (4, a0), .inl (.inl a1)] (I, L) k := by
  refine pM (fun d n => ?_)
  unfold d37 at h
  refine pn_go [] 400 ?_
  conv => whnf
  intro _
  conv => whnf
  intro _
  conv => whnf
  refine D8 rfl ?_
  conv => whnf
  subst h
  exact hk
/-- X3_add -/
noncomputable def d12 (a0 : Nat) (a1 : Int32) (a2 : Int32) (I : jI) : jI :=
  (jup I 23 a0 (Int32.toNatClampNeg a1) ((I 23 a0 (Int32.toNatClampNeg a1)) + a2))
set_option maxHeartbeats 4000000 in
set_option maxRecDepth 20000 in
theorem D12 {d : Nat} {k : jK} {a0 : Nat} {a1 : Int32} {a2 : Int32} {I : jI} {L : jL} {r : jI} (h : d12 a0 a1 a2 I = r) (hk : k none (r, L)) : jPM d 12 [.inr (7, a0), .inl (.inl a1), .inl (.inl a2)] (I, L) k := by
  refine pM (fun d n => ?_)
  unfold d12 at h
  refine pn_go [] 400 ?_
  conv => whnf
  intro _
  conv => whnf
  intro _
  conv => whnf
  subst h
  exact hk
/-- X1_costOf -/
noncomputable def d35 (a0 : Nat) (a1 : Int32) (a2 : Int32) (I : jI) : Int32 :=
  (d5 (I 18 a0 (Int32.toNatClampNeg a1)) a2 (I 20 a0 (Int32.toNatClampNeg a1)) (I 4 a0 14) I)
set_option maxHeartbeats 4000000 in
set_option maxRecDepth 20000 in
theorem D35 {d : Nat} {k : jK} {a0 : Nat} {a1 : Int32} {a2 : Int32} {I : jI} {L : jL} {r : Int32} (h : d35 a0 a1 a2 I = r) (hk : k (some (.inl (.inl r))) (I, L)) : jPM d 35 [.inr (4, a0), .inl (.inl a1), .inl (.inl a2)] (I, L) k := by
  refine pM (fun d n => ?_)
  unfold d35 at h
  refine pn_go [] 400 ?_
  conv => whnf
  intro _
  conv => whnf
  intro _
  conv => whnf
  refine D5 rfl ?_
  conv => whnf
  subst h
  exact hk
