section
/-- X8_some -/
noncomputable def d123 (a0 : Int32) (I : jI) : Int32 :=
  if 0 ≤ a0 then
    a0
  else
    0
set_option maxHeartbeats 4000000 in
set_option maxRecDepth 20000 in
theorem D123 {d : Nat} {k : jK} {a0 : Int32} {I : jI} {L : jL} {r : Int32} (h : d123 a0 I = r) (hk : k (some (.inl (.inl r))) (I, L)) : jPM d 123 [.inl (.inl a0)] (I, L) k := by
  refine pM (fun d n => ?_)
  unfold d123 at h
  refine pn_go [] 400 ?_
  conv => whnf
  refine ⟨fun cz1 => ?_, fun cz1 => ?_⟩
  · replace h := (if_pos cz1).symm.trans h
    conv => whnf
    subst h
    exact hk
  · replace h := (if_neg cz1).symm.trans h
    conv => whnf
    subst h
    exact hk
/-- X8_in -/
noncomputable def d124 (a0 : Int64) (a1 : Int64) (a2 : Int64) (I : jI) : Int32 :=
  if (lg_cmp a0 a1) < 0 then
    0
  else
    if 0 < (lg_cmp a0 a2) then
      0
    else
      1
set_option maxHeartbeats 4000000 in
set_option maxRecDepth 20000 in
theorem D124 {d : Nat} {k : jK} {a0 : Int64} {a1 : Int64} {a2 : Int64} {I : jI} {L : jL} {r : Int32} (h : d124 a0 a1 a2 I = r) (hk : k (some (.inl (.inl r))) (I, L)) : jPM d 124 [.inl (.inr a0), .inl (.inr a1), .inl (.inr a2)] (I, L) k := by
  refine pM (fun d n => ?_)
  unfold d124 at h
  refine pn_go [] 400 ?_
  conv => whnf
  refine ⟨fun cz1 => ?_, fun cz1 => ?_⟩
  · replace h := (if_pos cz1).symm.trans h
    conv => whnf
    subst h
    exact fun _ => hk
  · replace h := (if_neg cz1).symm.trans h
    conv => whnf
    refine ⟨fun cz2 => ?_, fun cz2 => ?_⟩
    · replace h := (if_pos cz2).symm.trans h
      conv => whnf
      subst h
      exact fun _ => hk
    · replace h := (if_neg cz2).symm.trans h
      conv => whnf
      subst h
      exact fun _ => hk
/-- X8_find -/
noncomputable def d126 (a1 : Int32) (I : jI) : Int32 × jI :=
  ((-3), (jup (jup I 31 0 13 a1) 39 0 (Int32.toNatClampNeg a1) (((jup I 31 0 13 a1) 39 0 (Int32.toNatClampNeg a1)) + 1)))
set_option maxHeartbeats 4000000 in
set_option maxRecDepth 20000 in
theorem D126 {d : Nat} {k : jK} {a1 : Int32} {I : jI} {L : jL} {r : Int32 × jI} (h : d126 a1 I = r) (hk : k (some (.inl (.inl r.1))) (r.2, L)) : jPM d 126 [.inr (31, 0), .inl (.inl a1)] (I, L) k := by
  refine pM (fun d n => ?_)
  unfold d126 at h
  refine pn_go [] 400 ?_
  conv => whnf
  intro _
  conv => whnf
  intro _
  conv => whnf
  subst h
  exact hk
/-- X8_tell -/
noncomputable def d127 (a1 : Int32) (I : jI) : Int32 × jI :=
  (1, (jup I 31 0 10 a1))
set_option maxHeartbeats 4000000 in
set_option maxRecDepth 20000 in
theorem D127 {d : Nat} {k : jK} {a1 : Int32} {I : jI} {L : jL} {r : Int32 × jI} (h : d127 a1 I = r) (hk : k (some (.inl (.inl r.1))) (r.2, L)) : jPM d 127 [.inr (31, 0), .inl (.inl a1)] (I, L) k := by
  refine pM (fun d n => ?_)
  unfold d127 at h
  refine pn_go [] 400 ?_
  conv => whnf
  subst h
  exact hk
/-- X8_isRow -/
noncomputable def d128 (a0 : Int32) (I : jI) : Int32 :=
  (d124 (Int32.toInt64 a0) 0 5 I)
set_option maxHeartbeats 4000000 in
set_option maxRecDepth 20000 in
theorem D128 {d : Nat} {k : jK} {a0 : Int32} {I : jI} {L : jL} {r : Int32} (h : d128 a0 I = r) (hk : k (some (.inl (.inl r))) (I, L)) : jPM d 128 [.inl (.inl a0)] (I, L) k := by
  refine pM (fun d n => ?_)
  unfold d128 at h
  refine pn_go [] 400 ?_
  conv => whnf
  refine D124 rfl ?_
  conv => whnf
  subst h
  exact fun _ => hk
/-- X8_isText -/
noncomputable def d129 (a0 : Int32) (I : jI) : Int32 :=
  (d124 (Int32.toInt64 a0) 0 3 I)
set_option maxHeartbeats 4000000 in
set_option maxRecDepth 20000 in
theorem D129 {d : Nat} {k : jK} {a0 : Int32} {I : jI} {L : jL} {r : Int32} (h : d129 a0 I = r) (hk : k (some (.inl (.inl r))) (I, L)) : jPM d 129 [.inl (.inl a0)] (I, L) k := by
  refine pM (fun d n => ?_)
  unfold d129 at h
  refine pn_go [] 400 ?_
  conv => whnf
  refine D124 rfl ?_
  conv => whnf
  subst h
  exact fun _ => hk
/-- X8_makeRow, loop at 9 -/
noncomputable def d131_9 (y1 : Int32) : Nat → Int32 → jI → Option (jI)
  | 0, _, _ => none
  | F + 1, x3, I =>
    if 40 ≤ x3 then
      some I
    else
      d131_9 y1 F (x3 + 1) (jup I 36 0 (Int32.toNatClampNeg ((40 * y1) + x3)) 0)
set_option maxHeartbeats 4000000 in
set_option maxRecDepth 20000 in
theorem L131_9 {d n : Nat} {k : jK} {y1 : Int32} {L : jL} : ∀ (F : Nat) (x3 : Int32) (I : jI) (e2 : Option jV) (r : jI), d131_9 y1 F x3 I = some r → (∀ (f2 f3 : Option jV), pn (jPM d) k none (jco 131) n (33, [some (.inr (31, 0)), some (.inl (.inl y1)), f2, f3], [], r, L)) → pn (jPM d) k none (jco 131) n (9, [some (.inr (31, 0)), some (.inl (.inl y1)), e2, some (.inl (.inl x3))], [], I, L) := by
  intro F
  induction F with
  | zero => intro x3 I e2 r h hx; cases h
  | succ F ih =>
    intro x3 I e2 r h hx
    rw [d131_9] at h
    refine pn_go [9, 33] 400 ?_
    conv => whnf
    refine ⟨fun cz1 => ?_, fun cz1 => ?_⟩
    · replace h := (if_pos cz1).symm.trans h
      conv => whnf
      cases h
      exact hx _ _
    · replace h := (if_neg cz1).symm.trans h
      conv => whnf
      intro _
      conv => whnf
      exact ih _ _ _ r h hx
/-- X8_makeRow -/
noncomputable def d131 (a1 : Int32) (a2 : Int32) (I : jI) : Option (jI) :=
  (d131_9 a1 70 0 (jup I 35 0 (Int32.toNatClampNeg a1) a2)).bind fun r1 =>
  some r1
set_option maxHeartbeats 4000000 in
set_option maxRecDepth 20000 in
theorem D131 {d : Nat} {k : jK} {a1 : Int32} {a2 : Int32} {I : jI} {L : jL} {r : jI} (h : d131 a1 a2 I = some r) (hk : k none (r, L)) : jPM d 131 [.inr (31, 0), .inl (.inl a1), .inl (.inl a2)] (I, L) k := by
  refine pM (fun d n => ?_)
  unfold d131 at h
  refine pn_go [9] 400 ?_
  conv => whnf
  intro _
  conv => whnf
  obtain ⟨r1, hz1, h⟩ := obind h
  refine L131_9 _ _ _ _ _ hz1 (fun e2_r1 e3_r1 => ?_)
  refine pn_go [9] 400 ?_
  conv => whnf
  cases h
  exact hk
/-- X8_row -/
noncomputable def d130 (a1 : Int32) (a2 : Int32) (I : jI) : Option (Int32 × jI) :=
  if (d128 a1 I) = 0 then
    some ((-1), I)
  else
    if a2 ≤ 40 then
      if 0 ≤ a2 then
        (d131 a1 a2 I).bind fun r1 =>
        some (a2, r1)
      else
        some (((d126 5 I).1), ((d126 5 I).2))
    else
      some ((-1), I)
set_option maxHeartbeats 4000000 in
set_option maxRecDepth 20000 in
theorem D130 {d : Nat} {k : jK} {a1 : Int32} {a2 : Int32} {I : jI} {L : jL} {r : Int32 × jI} (h : d130 a1 a2 I = some r) (hk : k (some (.inl (.inl r.1))) (r.2, L)) : jPM d 130 [.inr (31, 0), .inl (.inl a1), .inl (.inl a2)] (I, L) k := by
  refine pM (fun d n => ?_)
  unfold d130 at h
  refine pn_go [] 400 ?_
  conv => whnf
  refine D128 rfl ?_
  conv => whnf
  refine ⟨fun cz1 => ?_, fun cz1 => ?_⟩
  · replace h := (if_pos cz1).symm.trans h
    conv => whnf
    cases h
    exact hk
  · replace h := (if_neg cz1).symm.trans h
    conv => whnf
    refine ⟨fun cz2 => ?_, fun cz2 => ?_⟩
    · replace h := (if_pos cz2).symm.trans h
      conv => whnf
      refine ⟨fun cz3 => ?_, fun cz3 => ?_⟩
      · replace h := (if_pos cz3).symm.trans h
        conv => whnf
        obtain ⟨r1, hz4, h⟩ := obind h
        refine D131 hz4 ?_
        conv => whnf
        cases h
        exact hk
      · replace h := (if_neg cz3).symm.trans h
        conv => whnf
        refine D126 rfl ?_
        conv => whnf
        cases h
        exact hk
    · replace h := (if_neg cz2).symm.trans h
      conv => whnf
      cases h
      exact hk
/-- X8_refused -/
noncomputable def d132 (a1 : Int32) (a2 : Int32) (I : jI) : Option (Int32 × jI) :=
  if (d128 a1 I) = 0 then
    some ((-1), I)
  else
    if 0 ≤ (I 35 0 (Int32.toNatClampNeg a1)) then
      if (d124 (Int32.toInt64 a2) 0 (Int32.toInt64 ((I 35 0 (Int32.toNatClampNeg a1)) - 1)) I) = 0 then
        some (((d126 2 I).1), ((d126 2 I).2))
      else
        some (0, I)
    else
      some (((d126 1 I).1), ((d126 1 I).2))
set_option maxHeartbeats 4000000 in
set_option maxRecDepth 20000 in
theorem D132 {d : Nat} {k : jK} {a1 : Int32} {a2 : Int32} {I : jI} {L : jL} {r : Int32 × jI} (h : d132 a1 a2 I = some r) (hk : k (some (.inl (.inl r.1))) (r.2, L)) : jPM d 132 [.inr (31, 0), .inl (.inl a1), .inl (.inl a2)] (I, L) k := by
  refine pM (fun d n => ?_)
  unfold d132 at h
  refine pn_go [] 400 ?_
  conv => whnf
  refine D128 rfl ?_
  conv => whnf
  refine ⟨fun cz1 => ?_, fun cz1 => ?_⟩
  · replace h := (if_neg cz1).symm.trans h
    conv => whnf
    intro _
    conv => whnf
    refine ⟨fun cz2 => ?_, fun cz2 => ?_⟩
    · replace h := (if_pos cz2).symm.trans h
      conv => whnf
      intro _
      conv => whnf
      refine D124 rfl ?_
      conv => whnf
      refine ⟨fun cz3 => ?_, fun cz3 => ?_⟩
      · replace h := (if_pos cz3).symm.trans h
        conv => whnf
        refine D126 rfl ?_
        conv => whnf
        cases h
        exact hk
      · replace h := (if_neg cz3).symm.trans h
        conv => whnf
        cases h
        exact hk
    · replace h := (if_neg cz2).symm.trans h
      conv => whnf
      refine D126 rfl ?_
      conv => whnf
      cases h
      exact hk
  · replace h := (if_pos cz1).symm.trans h
    conv => whnf
    cases h
    exact hk
/-- X8_lay -/
noncomputable def d133 (a1 : Int32) (a2 : Int32) (a3 : Int32) (I : jI) : Option (Int32 × jI) :=
  (d132 a1 a2 I).bind fun r1 =>
  if r1.1 = 0 then
    some (((d127 (r1.2 36 0 (Int32.toNatClampNeg ((40 * a1) + a2))) (jup r1.2 36 0 (Int32.toNatClampNeg ((40 * a1) + a2)) a3)).1), ((d127 (r1.2 36 0 (Int32.toNatClampNeg ((40 * a1) + a2))) (jup r1.2 36 0 (Int32.toNatClampNeg ((40 * a1) + a2)) a3)).2))
  else
    some (r1.1, r1.2)
set_option maxHeartbeats 4000000 in
set_option maxRecDepth 20000 in
theorem D133 {d : Nat} {k : jK} {a1 : Int32} {a2 : Int32} {a3 : Int32} {I : jI} {L : jL} {r : Int32 × jI} (h : d133 a1 a2 a3 I = some r) (hk : k (some (.inl (.inl r.1))) (r.2, L)) : jPM d 133 [.inr (31, 0), .inl (.inl a1), .inl (.inl a2), .inl (.inl a3)] (I, L) k := by
  refine pM (fun d n => ?_)
  unfold d133 at h
  refine pn_go [] 400 ?_
  conv => whnf
  obtain ⟨r1, hz1, h⟩ := obind h
  refine D132 hz1 ?_
  conv => whnf
  refine ⟨fun cz2 => ?_, fun cz2 => ?_⟩
  · replace h := (if_pos cz2).symm.trans h
    conv => whnf
    intro _
    conv => whnf
    intro _
    conv => whnf
    refine D127 rfl ?_
    conv => whnf
    cases h
    exact hk
  · replace h := (if_neg cz2).symm.trans h
    conv => whnf
    cases h
    exact hk
/-- X8_at -/
noncomputable def d134 (a1 : Int32) (a2 : Int32) (I : jI) : Option (Int32 × jI) :=
  (d132 a1 a2 I).bind fun r1 =>
  if r1.1 = 0 then
    some (((d127 (r1.2 36 0 (Int32.toNatClampNeg ((40 * a1) + a2))) r1.2).1), ((d127 (r1.2 36 0 (Int32.toNatClampNeg ((40 * a1) + a2))) r1.2).2))
  else
    some (r1.1, r1.2)
set_option maxHeartbeats 4000000 in
set_option maxRecDepth 20000 in
theorem D134 {d : Nat} {k : jK} {a1 : Int32} {a2 : Int32} {I : jI} {L : jL} {r : Int32 × jI} (h : d134 a1 a2 I = some r) (hk : k (some (.inl (.inl r.1))) (r.2, L)) : jPM d 134 [.inr (31, 0), .inl (.inl a1), .inl (.inl a2)] (I, L) k := by
  refine pM (fun d n => ?_)
  unfold d134 at h
  refine pn_go [] 400 ?_
  conv => whnf
  obtain ⟨r1, hz1, h⟩ := obind h
  refine D132 hz1 ?_
  conv => whnf
  refine ⟨fun cz2 => ?_, fun cz2 => ?_⟩
  · replace h := (if_pos cz2).symm.trans h
    conv => whnf
    intro _
    conv => whnf
    refine D127 rfl ?_
    conv => whnf
    cases h
    exact hk
  · replace h := (if_neg cz2).symm.trans h
    conv => whnf
    cases h
    exact hk
/-- X8_tear -/
noncomputable def d135 (a1 : Int32) (I : jI) : Option (Int32 × jI) :=
  if (d128 a1 I) = 0 then
    some ((-1), I)
  else
    if 0 ≤ (I 35 0 (Int32.toNatClampNeg a1)) then
      some (1, (jup I 35 0 (Int32.toNatClampNeg a1) (-1)))
    else
      some (((d126 1 I).1), ((d126 1 I).2))
set_option maxHeartbeats 4000000 in
set_option maxRecDepth 20000 in
theorem D135 {d : Nat} {k : jK} {a1 : Int32} {I : jI} {L : jL} {r : Int32 × jI} (h : d135 a1 I = some r) (hk : k (some (.inl (.inl r.1))) (r.2, L)) : jPM d 135 [.inr (31, 0), .inl (.inl a1)] (I, L) k := by
  refine pM (fun d n => ?_)
  unfold d135 at h
  refine pn_go [] 400 ?_
  conv => whnf
  refine D128 rfl ?_
  conv => whnf
  refine ⟨fun cz1 => ?_, fun cz1 => ?_⟩
  · replace h := (if_neg cz1).symm.trans h
    conv => whnf
    intro _
    conv => whnf
    refine ⟨fun cz2 => ?_, fun cz2 => ?_⟩
    · replace h := (if_pos cz2).symm.trans h
      conv => whnf
      intro _
      conv => whnf
      cases h
      exact hk
    · replace h := (if_neg cz2).symm.trans h
      conv => whnf
      refine D126 rfl ?_
      conv => whnf
      cases h
      exact hk
  · replace h := (if_pos cz1).symm.trans h
    conv => whnf
    cases h
    exact hk
/-- X8_isSpan -/
noncomputable def d136 (a1 : Int32) (a2 : Int32) (a3 : Int32) (I : jI) : Int32 :=
  if a2 < 0 then
    0
  else
    if 0 < (lg_cmp ((Int32.toInt64 a2) + (Int32.toInt64 a3)) (Int32.toInt64 (I 35 0 (Int32.toNatClampNeg a1)))) then
      0
    else
      1
set_option maxHeartbeats 4000000 in
set_option maxRecDepth 20000 in
theorem D136 {d : Nat} {k : jK} {a1 : Int32} {a2 : Int32} {a3 : Int32} {I : jI} {L : jL} {r : Int32} (h : d136 a1 a2 a3 I = r) (hk : k (some (.inl (.inl r))) (I, L)) : jPM d 136 [.inr (31, 0), .inl (.inl a1), .inl (.inl a2), .inl (.inl a3)] (I, L) k := by
  refine pM (fun d n => ?_)
  unfold d136 at h
  refine pn_go [] 400 ?_
  conv => whnf
  refine ⟨fun cz1 => ?_, fun cz1 => ?_⟩
  · replace h := (if_pos cz1).symm.trans h
    conv => whnf
    subst h
    exact fun _ => hk
  · replace h := (if_neg cz1).symm.trans h
    conv => whnf
    intro _
    conv => whnf
    refine ⟨fun cz2 => ?_, fun cz2 => ?_⟩
    · replace h := (if_pos cz2).symm.trans h
      conv => whnf
      subst h
      exact fun _ => hk
    · replace h := (if_neg cz2).symm.trans h
      conv => whnf
      subst h
      exact fun _ => hk
/-- X8_copy, loop at 96 -/
noncomputable def d137_96 (y1 : Int32) (y2 : Int32) (y3 : Int32) (y4 : Int32) (y5 : Int32) (y6 : Int32) : Nat → Int32 → jI → Option (jI)
  | 0, _, _ => none
  | F + 1, x7, I =>
    if y5 ≤ x7 then
      some I
    else
      if y6 = 0 then
        d137_96 y1 y2 y3 y4 y5 y6 F (x7 + 1) (jup I 36 0 (Int32.toNatClampNeg (((40 * y3) + y4) + x7)) (I 36 0 (Int32.toNatClampNeg (((40 * y1) + y2) + x7))))
      else
        d137_96 y1 y2 y3 y4 y5 y6 F (x7 + 1) (jup I 36 0 (Int32.toNatClampNeg (((40 * y3) + y4) + ((y5 - 1) - x7))) (I 36 0 (Int32.toNatClampNeg (((40 * y1) + y2) + ((y5 - 1) - x7)))))
set_option maxHeartbeats 4000000 in
set_option maxRecDepth 20000 in
theorem L137_96 {d n : Nat} {k : jK} {y1 : Int32} {y2 : Int32} {y3 : Int32} {y4 : Int32} {y5 : Int32} {y6 : Int32} {L : jL} : ∀ (F : Nat) (x7 : Int32) (I : jI) (e8 : Option jV) (r : jI), d137_96 y1 y2 y3 y4 y5 y6 F x7 I = some r → (∀ (f7 f8 : Option jV), pn (jPM d) k none (jco 137) n (157, [some (.inr (31, 0)), some (.inl (.inl y1)), some (.inl (.inl y2)), some (.inl (.inl y3)), some (.inl (.inl y4)), some (.inl (.inl y5)), some (.inl (.inl y6)), f7, f8], [], r, L)) → pn (jPM d) k none (jco 137) n (96, [some (.inr (31, 0)), some (.inl (.inl y1)), some (.inl (.inl y2)), some (.inl (.inl y3)), some (.inl (.inl y4)), some (.inl (.inl y5)), some (.inl (.inl y6)), some (.inl (.inl x7)), e8], [], I, L) := by
  intro F
  induction F with
  | zero => intro x7 I e8 r h hx; cases h
  | succ F ih =>
    intro x7 I e8 r h hx
    rw [d137_96] at h
    refine pn_go [96, 157] 400 ?_
    conv => whnf
    refine ⟨fun cz1 => ?_, fun cz1 => ?_⟩
    · replace h := (if_pos cz1).symm.trans h
      conv => whnf
      cases h
      exact hx _ _
    · replace h := (if_neg cz1).symm.trans h
      conv => whnf
      refine ⟨fun cz2 => ?_, fun cz2 => ?_⟩
      · replace h := (if_pos cz2).symm.trans h
        conv => whnf
        intro _
        conv => whnf
        intro _
        conv => whnf
        exact ih _ _ _ r h hx
      · replace h := (if_neg cz2).symm.trans h
        conv => whnf
        intro _
        conv => whnf
        intro _
        conv => whnf
        exact ih _ _ _ r h hx
/-- X8_copy -/
noncomputable def d137 (a1 : Int32) (a2 : Int32) (a3 : Int32) (a4 : Int32) (a5 : Int32) (I : jI) : Option (Int32 × jI) :=
  if (d128 a1 I) = 0 then
    some ((-1), I)
  else
    if (d128 a3 I) = 0 then
      some ((-1), I)
    else
      if 0 ≤ a5 then
        if (I 35 0 (Int32.toNatClampNeg a1)) < 0 then
          some (((d126 1 I).1), ((d126 1 I).2))
        else
          if 0 ≤ (I 35 0 (Int32.toNatClampNeg a3)) then
            if (d136 a1 a2 a5 I) = 0 then
              some (((d126 2 I).1), ((d126 2 I).2))
            else
              if (d136 a3 a4 a5 I) = 0 then
                some (((d126 2 I).1), ((d126 2 I).2))
              else
                if a4 ≤ a2 then
                  (d137_96 a1 a2 a3 a4 a5 0 70 0 I).bind fun r1 =>
                  some (1, r1)
                else
                  (d137_96 a1 a2 a3 a4 a5 1 70 0 I).bind fun r2 =>
                  some (1, r2)
          else
            some (((d126 1 I).1), ((d126 1 I).2))
      else
        some (((d126 5 I).1), ((d126 5 I).2))
set_option maxHeartbeats 4000000 in
set_option maxRecDepth 20000 in
theorem D137 {d : Nat} {k : jK} {a1 : Int32} {a2 : Int32} {a3 : Int32} {a4 : Int32} {a5 : Int32} {I : jI} {L : jL} {r : Int32 × jI} (h : d137 a1 a2 a3 a4 a5 I = some r) (hk : k (some (.inl (.inl r.1))) (r.2, L)) : jPM d 137 [.inr (31, 0), .inl (.inl a1), .inl (.inl a2), .inl (.inl a3), .inl (.inl a4), .inl (.inl a5)] (I, L) k := by
  refine pM (fun d n => ?_)
  unfold d137 at h
  refine pn_go [96] 400 ?_
  conv => whnf
  refine D128 rfl ?_
  conv => whnf
  refine ⟨fun cz1 => ?_, fun cz1 => ?_⟩
  · replace h := (if_pos cz1).symm.trans h
    conv => whnf
    cases h
    exact hk
  · replace h := (if_neg cz1).symm.trans h
    conv => whnf
    refine D128 rfl ?_
    conv => whnf
    refine ⟨fun cz2 => ?_, fun cz2 => ?_⟩
    · replace h := (if_neg cz2).symm.trans h
      conv => whnf
      refine ⟨fun cz3 => ?_, fun cz3 => ?_⟩
      · replace h := (if_pos cz3).symm.trans h
        conv => whnf
        intro _
        conv => whnf
        refine ⟨fun cz4 => ?_, fun cz4 => ?_⟩
        · replace h := (if_pos cz4).symm.trans h
          conv => whnf
          refine D126 rfl ?_
          conv => whnf
          cases h
          exact hk
        · replace h := (if_neg cz4).symm.trans h
          conv => whnf
          intro _
          conv => whnf
          refine ⟨fun cz5 => ?_, fun cz5 => ?_⟩
          · replace h := (if_pos cz5).symm.trans h
            conv => whnf
            refine D136 rfl ?_
            conv => whnf
            refine ⟨fun cz6 => ?_, fun cz6 => ?_⟩
            · replace h := (if_pos cz6).symm.trans h
              conv => whnf
              refine D126 rfl ?_
              conv => whnf
              cases h
              exact hk
            · replace h := (if_neg cz6).symm.trans h
              conv => whnf
              refine D136 rfl ?_
              conv => whnf
              refine ⟨fun cz7 => ?_, fun cz7 => ?_⟩
              · replace h := (if_neg cz7).symm.trans h
                conv => whnf
                refine ⟨fun cz8 => ?_, fun cz8 => ?_⟩
                · replace h := (if_pos cz8).symm.trans h
                  conv => whnf
                  obtain ⟨r1, hz9, h⟩ := obind h
                  refine L137_96 _ _ _ _ _ hz9 (fun e7_r1 e8_r1 => ?_)
                  refine pn_go [96] 400 ?_
                  conv => whnf
                  cases h
                  exact hk
                · replace h := (if_neg cz8).symm.trans h
                  conv => whnf
                  obtain ⟨r2, hz10, h⟩ := obind h
                  refine L137_96 _ _ _ _ _ hz10 (fun e7_r2 e8_r2 => ?_)
                  refine pn_go [96] 400 ?_
                  conv => whnf
                  cases h
                  exact hk
              · replace h := (if_pos cz7).symm.trans h
                conv => whnf
                refine D126 rfl ?_
                conv => whnf
                cases h
                exact hk
          · replace h := (if_neg cz5).symm.trans h
            conv => whnf
            refine D126 rfl ?_
            conv => whnf
            cases h
            exact hk
      · replace h := (if_neg cz3).symm.trans h
        conv => whnf
        refine D126 rfl ?_
        conv => whnf
        cases h
        exact hk
    · replace h := (if_pos cz2).symm.trans h
      conv => whnf
      cases h
      exact hk
end
section
/-- X8_mean, loop at 44 -/
noncomputable def d138_44 (y1 : Int32) (I : jI) : Nat → Int64 → Int32 → Option (Int64)
  | 0, _, _ => none
  | F + 1, x2, x4 =>
    if (I 35 0 (Int32.toNatClampNeg y1)) ≤ x4 then
      some x2
    else
      d138_44 y1 I F (x2 + (Int32.toInt64 (I 36 0 (Int32.toNatClampNeg ((40 * y1) + x4))))) (x4 + 1)
set_option maxHeartbeats 4000000 in
set_option maxRecDepth 20000 in
theorem L138_44 {d n : Nat} {k : jK} {y1 : Int32} {I : jI} {L : jL} : ∀ (F : Nat) (x2 : Int64) (x4 : Int32) (r : Int64), d138_44 y1 I F x2 x4 = some r → (∀ (f4 : Option jV), pn (jPM d) k none (jco 138) n (77, [some (.inr (31, 0)), some (.inl (.inl y1)), some (.inl (.inr r)), none, f4], [], I, L)) → pn (jPM d) k none (jco 138) n (44, [some (.inr (31, 0)), some (.inl (.inl y1)), some (.inl (.inr x2)), none, some (.inl (.inl x4))], [], I, L) := by
  intro F
  induction F with
  | zero => intro x2 x4 r h hx; cases h
  | succ F ih =>
    intro x2 x4 r h hx
    rw [d138_44] at h
    refine pn_go [44, 77] 400 ?_
    conv => whnf
    intro _
    conv => whnf
    refine ⟨fun cz1 => ?_, fun cz1 => ?_⟩
    · replace h := (if_pos cz1).symm.trans h
      conv => whnf
      cases h
      exact hx _
    · replace h := (if_neg cz1).symm.trans h
      conv => whnf
      intro _
      conv => whnf
      exact ih _ _ r h hx
/-- X8_mean -/
noncomputable def d138 (a1 : Int32) (I : jI) : Option (Int32 × jI) :=
  if (d128 a1 I) = 0 then
    some ((-1), I)
  else
    if 0 ≤ (I 35 0 (Int32.toNatClampNeg a1)) then
      if (I 35 0 (Int32.toNatClampNeg a1)) = 0 then
        some (((d126 4 I).1), ((d126 4 I).2))
      else
        (d138_44 a1 I 70 0 0).bind fun r1 =>
        some (((d127 (Int64.toInt32 (r1 / (Int32.toInt64 (I 35 0 (Int32.toNatClampNeg a1))))) I).1), ((d127 (Int64.toInt32 (r1 / (Int32.toInt64 (I 35 0 (Int32.toNatClampNeg a1))))) I).2))
    else
      some (((d126 1 I).1), ((d126 1 I).2))
set_option maxHeartbeats 4000000 in
set_option maxRecDepth 20000 in
theorem D138 {d : Nat} {k : jK} {a1 : Int32} {I : jI} {L : jL} {r : Int32 × jI} (h : d138 a1 I = some r) (hk : k (some (.inl (.inl r.1))) (r.2, L)) : jPM d 138 [.inr (31, 0), .inl (.inl a1)] (I, L) k := by
  refine pM (fun d n => ?_)
  unfold d138 at h
  refine pn_go [44] 400 ?_
  conv => whnf
  refine D128 rfl ?_
  conv => whnf
  refine ⟨fun cz1 => ?_, fun cz1 => ?_⟩
  · replace h := (if_neg cz1).symm.trans h
    conv => whnf
    intro _
    conv => whnf
    refine ⟨fun cz2 => ?_, fun cz2 => ?_⟩
    · replace h := (if_pos cz2).symm.trans h
      conv => whnf
      intro _
      conv => whnf
      refine ⟨fun cz3 => ?_, fun cz3 => ?_⟩
      · replace h := (if_neg cz3).symm.trans h
        conv => whnf
        obtain ⟨r1, hz4, h⟩ := obind h
        refine L138_44 _ _ _ _ hz4 (fun e4_r1 => ?_)
        refine pn_go [44] 400 ?_
        conv => whnf
        intro _
        conv => whnf
        intro _
        conv => whnf
        refine D127 rfl ?_
        conv => whnf
        cases h
        exact hk
      · replace h := (if_pos cz3).symm.trans h
        conv => whnf
        refine D126 rfl ?_
        conv => whnf
        cases h
        exact hk
    · replace h := (if_neg cz2).symm.trans h
      conv => whnf
      refine D126 rfl ?_
      conv => whnf
      cases h
      exact hk
  · replace h := (if_pos cz1).symm.trans h
    conv => whnf
    cases h
    exact hk
/-- X8_text, loop at 34 -/
noncomputable def d139_34 (y1 : Int32) (y2 : Int32) : Nat → Int32 → jI → Option (jI)
  | 0, _, _ => none
  | F + 1, x3, I =>
    if 60 ≤ x3 then
      some I
    else
      d139_34 y1 y2 F (x3 + 1) (jup I 38 0 (Int32.toNatClampNeg ((60 * y1) + x3)) 32)
set_option maxHeartbeats 4000000 in
set_option maxRecDepth 20000 in
theorem L139_34 {d n : Nat} {k : jK} {y1 : Int32} {y2 : Int32} {L : jL} : ∀ (F : Nat) (x3 : Int32) (I : jI) (r : jI), d139_34 y1 y2 F x3 I = some r → (∀ (f3 : Option jV), pn (jPM d) k none (jco 139) n (59, [some (.inr (31, 0)), some (.inl (.inl y1)), some (.inl (.inl y2)), f3], [], r, L)) → pn (jPM d) k none (jco 139) n (34, [some (.inr (31, 0)), some (.inl (.inl y1)), some (.inl (.inl y2)), some (.inl (.inl x3))], [], I, L) := by
  intro F
  induction F with
  | zero => intro x3 I r h hx; cases h
  | succ F ih =>
    intro x3 I r h hx
    rw [d139_34] at h
    refine pn_go [34, 59] 400 ?_
    conv => whnf
    refine ⟨fun cz1 => ?_, fun cz1 => ?_⟩
    · replace h := (if_pos cz1).symm.trans h
      conv => whnf
      cases h
      exact hx _
    · replace h := (if_neg cz1).symm.trans h
      conv => whnf
      intro _
      conv => whnf
      exact ih _ _ r h hx
/-- X8_text -/
noncomputable def d139 (a1 : Int32) (a2 : Int32) (I : jI) : Option (Int32 × jI) :=
  if (d129 a1 I) = 0 then
    some ((-1), I)
  else
    if a2 ≤ 60 then
      if 0 ≤ a2 then
        (d139_34 a1 a2 70 0 (jup I 37 0 (Int32.toNatClampNeg a1) a2)).bind fun r1 =>
        some (a2, r1)
      else
        some (((d126 5 I).1), ((d126 5 I).2))
    else
      some ((-1), I)
set_option maxHeartbeats 4000000 in
set_option maxRecDepth 20000 in
theorem D139 {d : Nat} {k : jK} {a1 : Int32} {a2 : Int32} {I : jI} {L : jL} {r : Int32 × jI} (h : d139 a1 a2 I = some r) (hk : k (some (.inl (.inl r.1))) (r.2, L)) : jPM d 139 [.inr (31, 0), .inl (.inl a1), .inl (.inl a2)] (I, L) k := by
  refine pM (fun d n => ?_)
  unfold d139 at h
  refine pn_go [34] 400 ?_
  conv => whnf
  refine D129 rfl ?_
  conv => whnf
  refine ⟨fun cz1 => ?_, fun cz1 => ?_⟩
  · replace h := (if_pos cz1).symm.trans h
    conv => whnf
    cases h
    exact hk
  · replace h := (if_neg cz1).symm.trans h
    conv => whnf
    refine ⟨fun cz2 => ?_, fun cz2 => ?_⟩
    · replace h := (if_pos cz2).symm.trans h
      conv => whnf
      refine ⟨fun cz3 => ?_, fun cz3 => ?_⟩
      · replace h := (if_pos cz3).symm.trans h
        conv => whnf
        intro _
        conv => whnf
        obtain ⟨r1, hz4, h⟩ := obind h
        refine L139_34 _ _ _ _ hz4 (fun e3_r1 => ?_)
        refine pn_go [34] 400 ?_
        conv => whnf
        cases h
        exact hk
      · replace h := (if_neg cz3).symm.trans h
        conv => whnf
        refine D126 rfl ?_
        conv => whnf
        cases h
        exact hk
    · replace h := (if_neg cz2).symm.trans h
      conv => whnf
      cases h
      exact hk
/-- X8_put -/
noncomputable def d140 (a1 : Int32) (a2 : Int32) (a3 : Int32) (I : jI) : Option (Int32 × jI) :=
  if (d129 a1 I) = 0 then
    some ((-1), I)
  else
    if 0 ≤ (I 37 0 (Int32.toNatClampNeg a1)) then
      if (d124 (Int32.toInt64 a2) 0 (Int32.toInt64 ((I 37 0 (Int32.toNatClampNeg a1)) - 1)) I) = 0 then
        some (((d126 2 I).1), ((d126 2 I).2))
      else
        some (((I 38 0 (Int32.toNatClampNeg ((60 * a1) + a2))) + 1000), (jup I 38 0 (Int32.toNatClampNeg ((60 * a1) + a2)) (Int32.toInt8 a3).toInt32))
    else
      some (((d126 1 I).1), ((d126 1 I).2))
set_option maxHeartbeats 4000000 in
set_option maxRecDepth 20000 in
theorem D140 {d : Nat} {k : jK} {a1 : Int32} {a2 : Int32} {a3 : Int32} {I : jI} {L : jL} {r : Int32 × jI} (h : d140 a1 a2 a3 I = some r) (hk : k (some (.inl (.inl r.1))) (r.2, L)) : jPM d 140 [.inr (31, 0), .inl (.inl a1), .inl (.inl a2), .inl (.inl a3)] (I, L) k := by
  refine pM (fun d n => ?_)
  unfold d140 at h
  refine pn_go [] 400 ?_
  conv => whnf
  refine D129 rfl ?_
  conv => whnf
  refine ⟨fun cz1 => ?_, fun cz1 => ?_⟩
  · replace h := (if_neg cz1).symm.trans h
    conv => whnf
    intro _
    conv => whnf
    refine ⟨fun cz2 => ?_, fun cz2 => ?_⟩
    · replace h := (if_pos cz2).symm.trans h
      conv => whnf
      intro _
      conv => whnf
      refine D124 rfl ?_
      conv => whnf
      refine ⟨fun cz3 => ?_, fun cz3 => ?_⟩
      · replace h := (if_neg cz3).symm.trans h
        conv => whnf
        intro _
        conv => whnf
        intro _
        conv => whnf
        cases h
        exact hk
      · replace h := (if_pos cz3).symm.trans h
        conv => whnf
        refine D126 rfl ?_
        conv => whnf
        cases h
        exact hk
    · replace h := (if_neg cz2).symm.trans h
      conv => whnf
      refine D126 rfl ?_
      conv => whnf
      cases h
      exact hk
  · replace h := (if_pos cz1).symm.trans h
    conv => whnf
    cases h
    exact hk
/-- X8_here -/
noncomputable def d141 (I : jI) : Int32 :=
  (I 38 0 (Int32.toNatClampNeg ((I 31 0 15) + (I 31 0 16))))
set_option maxHeartbeats 4000000 in
set_option maxRecDepth 20000 in
theorem D141 {d : Nat} {k : jK} {I : jI} {L : jL} {r : Int32} (h : d141 I = r) (hk : k (some (.inl (.inl r))) (I, L)) : jPM d 141 [.inr (31, 0)] (I, L) k := by
  refine pM (fun d n => ?_)
  unfold d141 at h
  refine pn_go [] 400 ?_
  conv => whnf
  intro _
  conv => whnf
  subst h
  exact hk
/-- X8_skip, loop at 0 -/
noncomputable def d142_0 : Nat → jI → Option (jI)
  | 0, _ => none
  | F + 1, I =>
    if (I 31 0 17) ≤ (I 31 0 16) then
      some I
    else
      if (d141 I) = 32 then
        d142_0 F (jup I 31 0 16 ((I 31 0 16) + 1))
      else
        some I
set_option maxHeartbeats 4000000 in
set_option maxRecDepth 20000 in
theorem L142_0 {d n : Nat} {k : jK} {L : jL} : ∀ (F : Nat) (I : jI) (r : jI), d142_0 F I = some r → (pn (jPM d) k none (jco 142) n (33, [some (.inr (31, 0))], [], r, L)) → pn (jPM d) k none (jco 142) n (0, [some (.inr (31, 0))], [], I, L) := by
  intro F
  induction F with
  | zero => intro I r h hx; cases h
  | succ F ih =>
    intro I r h hx
    rw [d142_0] at h
    refine pn_go [0, 33] 400 ?_
    conv => whnf
    refine ⟨fun cz1 => ?_, fun cz1 => ?_⟩
    · replace h := (if_pos cz1).symm.trans h
      conv => whnf
      cases h
      exact hx
    · replace h := (if_neg cz1).symm.trans h
      conv => whnf
      refine D141 rfl ?_
      conv => whnf
      refine ⟨fun cz2 => ?_, fun cz2 => ?_⟩
      · replace h := (if_neg cz2).symm.trans h
        conv => whnf
        cases h
        exact hx
      · replace h := (if_pos cz2).symm.trans h
        conv => whnf
        exact ih _ r h hx
/-- X8_skip -/
noncomputable def d142 (I : jI) : Option (jI) :=
  (d142_0 70 I).bind fun r1 =>
  some r1
set_option maxHeartbeats 4000000 in
set_option maxRecDepth 20000 in
theorem D142 {d : Nat} {k : jK} {I : jI} {L : jL} {r : jI} (h : d142 I = some r) (hk : k none (r, L)) : jPM d 142 [.inr (31, 0)] (I, L) k := by
  refine pM (fun d n => ?_)
  unfold d142 at h
  obtain ⟨r1, hz1, h⟩ := obind h
  refine L142_0 _ _ _ hz1 ?_
  refine pn_go [0] 400 ?_
  conv => whnf
  cases h
  exact hk
/-- X8_figure -/
noncomputable def d143 (a1 : Int32) (a2 : Int32) (I : jI) : Option (Int32 × jI) :=
  if (I 31 0 16) = (I 31 0 17) then
    some ((-9), I)
  else
    if (d124 (Int32.toInt64 (d141 I)) (Int32.toInt64 (48 + a1)) (Int32.toInt64 (48 + a2)) I) = 0 then
      some ((-9), I)
    else
      some ((((jup I 31 0 16 ((I 31 0 16) + 1)) 38 0 (Int32.toNatClampNeg ((((jup I 31 0 16 ((I 31 0 16) + 1)) 31 0 15) + ((jup I 31 0 16 ((I 31 0 16) + 1)) 31 0 16)) - 1))) - 48), (jup I 31 0 16 ((I 31 0 16) + 1)))
set_option maxHeartbeats 4000000 in
set_option maxRecDepth 20000 in
theorem D143 {d : Nat} {k : jK} {a1 : Int32} {a2 : Int32} {I : jI} {L : jL} {r : Int32 × jI} (h : d143 a1 a2 I = some r) (hk : k (some (.inl (.inl r.1))) (r.2, L)) : jPM d 143 [.inr (31, 0), .inl (.inl a1), .inl (.inl a2)] (I, L) k := by
  refine pM (fun d n => ?_)
  unfold d143 at h
  refine pn_go [] 400 ?_
  conv => whnf
  refine ⟨fun cz1 => ?_, fun cz1 => ?_⟩
  · replace h := (if_pos cz1).symm.trans h
    conv => whnf
    cases h
    exact hk
  · replace h := (if_neg cz1).symm.trans h
    conv => whnf
    refine D141 rfl ?_
    conv => whnf
    refine D124 rfl ?_
    conv => whnf
    refine ⟨fun cz2 => ?_, fun cz2 => ?_⟩
    · replace h := (if_neg cz2).symm.trans h
      conv => whnf
      intro _
      conv => whnf
      cases h
      exact hk
    · replace h := (if_pos cz2).symm.trans h
      conv => whnf
      cases h
      exact hk
/-- X8_twoFigures -/
noncomputable def d144 (I : jI) : Option (Int32 × jI) :=
  (d143 0 9 I).bind fun r1 =>
  if r1.1 = (-9) then
    some ((-9), r1.2)
  else
    (d143 0 9 r1.2).bind fun r2 =>
    if r2.1 = (-9) then
      some ((-9), r2.2)
    else
      some (((10 * r1.1) + r2.1), r2.2)
set_option maxHeartbeats 4000000 in
set_option maxRecDepth 20000 in
theorem D144 {d : Nat} {k : jK} {I : jI} {L : jL} {r : Int32 × jI} (h : d144 I = some r) (hk : k (some (.inl (.inl r.1))) (r.2, L)) : jPM d 144 [.inr (31, 0)] (I, L) k := by
  refine pM (fun d n => ?_)
  unfold d144 at h
  refine pn_go [] 400 ?_
  conv => whnf
  obtain ⟨r1, hz1, h⟩ := obind h
  refine D143 hz1 ?_
  conv => whnf
  refine ⟨fun cz2 => ?_, fun cz2 => ?_⟩
  · replace h := (if_neg cz2).symm.trans h
    conv => whnf
    obtain ⟨r2, hz3, h⟩ := obind h
    refine D143 hz3 ?_
    conv => whnf
    refine ⟨fun cz4 => ?_, fun cz4 => ?_⟩
    · replace h := (if_neg cz4).symm.trans h
      conv => whnf
      cases h
      exact hk
    · replace h := (if_pos cz4).symm.trans h
      conv => whnf
      cases h
      exact hk
  · replace h := (if_pos cz2).symm.trans h
    conv => whnf
    refine ⟨fun z => absurd z (by decide), fun _ => ?_⟩
    conv => whnf
    cases h
    exact hk
/-- X8_readsNeed -/
noncomputable def d145 (I : jI) : Option (Int32 × jI) :=
  (d142 I).bind fun r1 =>
  if (r1 31 0 16) = (r1 31 0 17) then
    some (0, r1)
  else
    if (d141 r1) = 110 then
      (d143 1 9 (jup r1 31 0 16 ((r1 31 0 16) + 1))).bind fun r2 =>
      if ((jup r2.2 31 0 18 r2.1) 31 0 18) = (-9) then
        if ((jup (jup r2.2 31 0 18 r2.1) 31 0 19 (-9)) 31 0 19) = (-9) then
          some (0, (jup (jup r2.2 31 0 18 r2.1) 31 0 19 (-9)))
        else
          some (1, (jup (jup r2.2 31 0 18 r2.1) 31 0 19 (-9)))
      else
        (d144 (jup r2.2 31 0 18 r2.1)).bind fun r3 =>
        if ((jup r3.2 31 0 19 r3.1) 31 0 19) = (-9) then
          some (0, (jup r3.2 31 0 19 r3.1))
        else
          some (1, (jup r3.2 31 0 19 r3.1))
    else
      some (0, r1)
set_option maxHeartbeats 4000000 in
set_option maxRecDepth 20000 in
theorem D145 {d : Nat} {k : jK} {I : jI} {L : jL} {r : Int32 × jI} (h : d145 I = some r) (hk : k (some (.inl (.inl r.1))) (r.2, L)) : jPM d 145 [.inr (31, 0)] (I, L) k := by
  refine pM (fun d n => ?_)
  unfold d145 at h
  refine pn_go [] 400 ?_
  conv => whnf
  obtain ⟨r1, hz1, h⟩ := obind h
  refine D142 hz1 ?_
  conv => whnf
  refine ⟨fun cz2 => ?_, fun cz2 => ?_⟩
  · replace h := (if_pos cz2).symm.trans h
    conv => whnf
    cases h
    exact fun _ => hk
  · replace h := (if_neg cz2).symm.trans h
    conv => whnf
    refine D141 rfl ?_
    conv => whnf
    refine ⟨fun cz3 => ?_, fun cz3 => ?_⟩
    · replace h := (if_pos cz3).symm.trans h
      conv => whnf
      obtain ⟨r2, hz4, h⟩ := obind h
      refine D143 hz4 ?_
      conv => whnf
      refine ⟨fun cz5 => ?_, fun cz5 => ?_⟩
      · replace h := (if_neg cz5).symm.trans h
        conv => whnf
        obtain ⟨r3, hz6, h⟩ := obind h
        refine D144 hz6 ?_
        conv => whnf
        refine ⟨fun cz7 => ?_, fun cz7 => ?_⟩
        · replace h := (if_pos cz7).symm.trans h
          conv => whnf
          cases h
          exact fun _ => hk
        · replace h := (if_neg cz7).symm.trans h
          conv => whnf
          cases h
          exact fun _ => hk
      · replace h := (if_pos cz5).symm.trans h
        conv => whnf
        refine ⟨fun cz8 => ?_, fun cz8 => ?_⟩
        · replace h := (if_pos cz8).symm.trans h
          conv => whnf
          cases h
          exact fun _ => hk
        · replace h := (if_neg cz8).symm.trans h
          conv => whnf
          cases h
          exact fun _ => hk
    · replace h := (if_neg cz3).symm.trans h
      conv => whnf
      cases h
      exact fun _ => hk
/-- X8_kindOfLetter -/
noncomputable def d146 (a0 : Int32) (I : jI) : Int32 :=
  if a0 = 112 then
    0
  else
    if a0 = 99 then
      1
    else
      if a0 = 104 then
        2
      else
        if a0 = 115 then
          3
        else
          if a0 = 108 then
            4
          else
            if a0 = 121 then
              5
            else
              (-9)
set_option maxHeartbeats 4000000 in
set_option maxRecDepth 20000 in
theorem D146 {d : Nat} {k : jK} {a0 : Int32} {I : jI} {L : jL} {r : Int32} (h : d146 a0 I = r) (hk : k (some (.inl (.inl r))) (I, L)) : jPM d 146 [.inl (.inl a0)] (I, L) k := by
  refine pM (fun d n => ?_)
  unfold d146 at h
  refine pn_go [] 400 ?_
  conv => whnf
  refine ⟨fun cz1 => ?_, fun cz1 => ?_⟩
  · replace h := (if_neg cz1).symm.trans h
    conv => whnf
    refine ⟨fun cz2 => ?_, fun cz2 => ?_⟩
    · replace h := (if_neg cz2).symm.trans h
      conv => whnf
      refine ⟨fun cz3 => ?_, fun cz3 => ?_⟩
      · replace h := (if_neg cz3).symm.trans h
        conv => whnf
        refine ⟨fun cz4 => ?_, fun cz4 => ?_⟩
        · replace h := (if_neg cz4).symm.trans h
          conv => whnf
          refine ⟨fun cz5 => ?_, fun cz5 => ?_⟩
          · replace h := (if_neg cz5).symm.trans h
            conv => whnf
            refine ⟨fun cz6 => ?_, fun cz6 => ?_⟩
            · replace h := (if_neg cz6).symm.trans h
              conv => whnf
              subst h
              exact hk
            · replace h := (if_pos cz6).symm.trans h
              conv => whnf
              subst h
              exact hk
          · replace h := (if_pos cz5).symm.trans h
            conv => whnf
            subst h
            exact hk
        · replace h := (if_pos cz4).symm.trans h
          conv => whnf
          subst h
          exact hk
      · replace h := (if_pos cz3).symm.trans h
        conv => whnf
        subst h
        exact hk
    · replace h := (if_pos cz2).symm.trans h
      conv => whnf
      subst h
      exact hk
  · replace h := (if_pos cz1).symm.trans h
    conv => whnf
    subst h
    exact hk
/-- X8_readsPacket -/
noncomputable def d147 (I : jI) : Option (Int32 × jI) :=
  if (d146 (d141 I) I) = (-9) then
    some (0, I)
  else
    if (I 31 0 21) = 6 then
      some (0, I)
    else
      (d143 1 9 (jup I 31 0 16 ((I 31 0 16) + 1))).bind fun r1 =>
      if r1.1 = (-9) then
        some (0, r1.2)
      else
        (d144 r1.2).bind fun r2 =>
        if r2.1 = (-9) then
          some (0, r2.2)
        else
          (d143 1 9 r2.2).bind fun r3 =>
          if r3.1 = (-9) then
            some (0, r3.2)
          else
            some (1, (jup (jup (jup (jup (jup r3.2 40 0 (Int32.toNatClampNeg (4 * (I 31 0 21))) (d146 (d141 I) I)) 40 0 (Int32.toNatClampNeg ((4 * (I 31 0 21)) + 1)) r1.1) 40 0 (Int32.toNatClampNeg ((4 * (I 31 0 21)) + 2)) r2.1) 40 0 (Int32.toNatClampNeg ((4 * (I 31 0 21)) + 3)) r3.1) 31 0 21 (((jup (jup (jup (jup r3.2 40 0 (Int32.toNatClampNeg (4 * (I 31 0 21))) (d146 (d141 I) I)) 40 0 (Int32.toNatClampNeg ((4 * (I 31 0 21)) + 1)) r1.1) 40 0 (Int32.toNatClampNeg ((4 * (I 31 0 21)) + 2)) r2.1) 40 0 (Int32.toNatClampNeg ((4 * (I 31 0 21)) + 3)) r3.1) 31 0 21) + 1)))
set_option maxHeartbeats 4000000 in
set_option maxRecDepth 20000 in
theorem D147 {d : Nat} {k : jK} {I : jI} {L : jL} {r : Int32 × jI} (h : d147 I = some r) (hk : k (some (.inl (.inl r.1))) (r.2, L)) : jPM d 147 [.inr (31, 0)] (I, L) k := by
  refine pM (fun d n => ?_)
  unfold d147 at h
  refine pn_go [] 400 ?_
  conv => whnf
  refine D141 rfl ?_
  conv => whnf
  refine D146 rfl ?_
  conv => whnf
  refine ⟨fun cz1 => ?_, fun cz1 => ?_⟩
  · replace h := (if_pos cz1).symm.trans h
    conv => whnf
    cases h
    exact fun _ => hk
  · replace h := (if_neg cz1).symm.trans h
    conv => whnf
    refine ⟨fun cz2 => ?_, fun cz2 => ?_⟩
    · replace h := (if_neg cz2).symm.trans h
      conv => whnf
      obtain ⟨r1, hz3, h⟩ := obind h
      refine D143 hz3 ?_
      conv => whnf
      refine ⟨fun cz4 => ?_, fun cz4 => ?_⟩
      · replace h := (if_neg cz4).symm.trans h
        conv => whnf
        obtain ⟨r2, hz5, h⟩ := obind h
        refine D144 hz5 ?_
        conv => whnf
        refine ⟨fun cz6 => ?_, fun cz6 => ?_⟩
        · replace h := (if_neg cz6).symm.trans h
          conv => whnf
          obtain ⟨r3, hz7, h⟩ := obind h
          refine D143 hz7 ?_
          conv => whnf
          refine ⟨fun cz8 => ?_, fun cz8 => ?_⟩
          · replace h := (if_neg cz8).symm.trans h
            conv => whnf
            intro _
            conv => whnf
            intro _
            conv => whnf
            intro _
            conv => whnf
            intro _
            conv => whnf
            cases h
            exact fun _ => hk
          · replace h := (if_pos cz8).symm.trans h
            conv => whnf
            cases h
            exact fun _ => hk
        · replace h := (if_pos cz6).symm.trans h
          conv => whnf
          refine ⟨fun z => absurd z (by decide), fun _ => ?_⟩
          conv => whnf
          cases h
          exact fun _ => hk
      · replace h := (if_pos cz4).symm.trans h
        conv => whnf
        refine ⟨fun z => absurd z (by decide), fun _ => ?_⟩
        conv => whnf
        refine ⟨fun z => absurd z (by decide), fun _ => ?_⟩
        conv => whnf
        cases h
        exact fun _ => hk
    · replace h := (if_pos cz2).symm.trans h
      conv => whnf
      cases h
      exact fun _ => hk
end
section
/-- X8_faultOf, loop at 41 -/
noncomputable def d148_41 : Nat → Int32 → jI → Option (Int32 × jI)
  | 0, _, _ => none
  | F + 1, x2, I =>
    if x2 = 0 then
      some (x2, I)
    else
      if (I 31 0 17) ≤ (I 31 0 16) then
        some (x2, I)
      else
        (d147 I).bind fun r2 =>
        if r2.1 = 0 then
          d148_41 F r2.1 r2.2
        else
          (d142 r2.2).bind fun r3 =>
          d148_41 F r2.1 r3
set_option maxHeartbeats 4000000 in
set_option maxRecDepth 20000 in
theorem L148_41 {d n : Nat} {k : jK} {L : jL} : ∀ (F : Nat) (x2 : Int32) (I : jI) (e1 : Option jV) (r : Int32 × jI), d148_41 F x2 I = some r → (∀ (f1 : Option jV), pn (jPM d) k none (jco 148) n (72, [some (.inr (31, 0)), f1, some (.inl (.inl r.1))], [], r.2, L)) → pn (jPM d) k none (jco 148) n (41, [some (.inr (31, 0)), e1, some (.inl (.inl x2))], [], I, L) := by
  intro F
  induction F with
  | zero => intro x2 I e1 r h hx; cases h
  | succ F ih =>
    intro x2 I e1 r h hx
    rw [d148_41] at h
    refine pn_go [41, 72] 400 ?_
    conv => whnf
    refine ⟨fun cz1 => ?_, fun cz1 => ?_⟩
    · replace h := (if_pos cz1).symm.trans h
      conv => whnf
      cases h
      exact hx _
    · replace h := (if_neg cz1).symm.trans h
      conv => whnf
      refine ⟨fun cz2 => ?_, fun cz2 => ?_⟩
      · replace h := (if_pos cz2).symm.trans h
        conv => whnf
        cases h
        exact hx _
      · replace h := (if_neg cz2).symm.trans h
        conv => whnf
        obtain ⟨r2, hz3, h⟩ := obind h
        refine D147 hz3 ?_
        conv => whnf
        refine ⟨fun cz4 => ?_, fun cz4 => ?_⟩
        · replace h := (if_pos cz4).symm.trans h
          conv => whnf
          exact ih _ _ _ r h hx
        · replace h := (if_neg cz4).symm.trans h
          conv => whnf
          obtain ⟨r3, hz5, h⟩ := obind h
          refine D142 hz5 ?_
          conv => whnf
          exact ih _ _ _ r h hx
/-- X8_faultOf -/
noncomputable def d148 (a1 : Int32) (I : jI) : Option (Int32 × jI) :=
  (d145 (jup (jup (jup (jup I 31 0 15 (60 * a1)) 31 0 16 0) 31 0 17 ((jup (jup I 31 0 15 (60 * a1)) 31 0 16 0) 37 0 (Int32.toNatClampNeg a1))) 31 0 21 0)).bind fun r1 =>
  if r1.1 = 0 then
    (d148_41 70 r1.1 r1.2).bind fun r4 =>
    if r4.1 = 0 then
      some ((r4.2 31 0 16), r4.2)
    else
      if (r4.2 31 0 21) ≤ 0 then
        some ((r4.2 31 0 16), r4.2)
      else
        some ((-9), r4.2)
  else
    (d142 r1.2).bind fun r5 =>
    (d148_41 70 r1.1 r5).bind fun r6 =>
    if r6.1 = 0 then
      some ((r6.2 31 0 16), r6.2)
    else
      if (r6.2 31 0 21) ≤ 0 then
        some ((r6.2 31 0 16), r6.2)
      else
        some ((-9), r6.2)
set_option maxHeartbeats 4000000 in
set_option maxRecDepth 20000 in
theorem D148 {d : Nat} {k : jK} {a1 : Int32} {I : jI} {L : jL} {r : Int32 × jI} (h : d148 a1 I = some r) (hk : k (some (.inl (.inl r.1))) (r.2, L)) : jPM d 148 [.inr (31, 0), .inl (.inl a1)] (I, L) k := by
  refine pM (fun d n => ?_)
  unfold d148 at h
  refine pn_go [41] 400 ?_
  conv => whnf
  intro _
  conv => whnf
  obtain ⟨r1, hz1, h⟩ := obind h
  refine D145 hz1 ?_
  conv => whnf
  refine ⟨fun cz2 => ?_, fun cz2 => ?_⟩
  · replace h := (if_pos cz2).symm.trans h
    conv => whnf
    obtain ⟨r4, hz3, h⟩ := obind h
    refine L148_41 _ _ _ _ _ hz3 (fun e1_r4 => ?_)
    refine pn_go [41] 400 ?_
    conv => whnf
    refine ⟨fun cz4 => ?_, fun cz4 => ?_⟩
    · replace h := (if_pos cz4).symm.trans h
      conv => whnf
      cases h
      exact hk
    · replace h := (if_neg cz4).symm.trans h
      conv => whnf
      refine ⟨fun cz5 => ?_, fun cz5 => ?_⟩
      · replace h := (if_pos cz5).symm.trans h
        conv => whnf
        cases h
        exact hk
      · replace h := (if_neg cz5).symm.trans h
        conv => whnf
        cases h
        exact hk
  · replace h := (if_neg cz2).symm.trans h
    conv => whnf
    obtain ⟨r5, hz6, h⟩ := obind h
    refine D142 hz6 ?_
    conv => whnf
    obtain ⟨r6, hz7, h⟩ := obind h
    refine L148_41 _ _ _ _ _ hz7 (fun e1_r6 => ?_)
    refine pn_go [41] 400 ?_
    conv => whnf
    refine ⟨fun cz8 => ?_, fun cz8 => ?_⟩
    · replace h := (if_pos cz8).symm.trans h
      conv => whnf
      cases h
      exact hk
    · replace h := (if_neg cz8).symm.trans h
      conv => whnf
      refine ⟨fun cz9 => ?_, fun cz9 => ?_⟩
      · replace h := (if_pos cz9).symm.trans h
        conv => whnf
        cases h
        exact hk
      · replace h := (if_neg cz9).symm.trans h
        conv => whnf
        cases h
        exact hk
/-- X8_fault -/
noncomputable def d149 (a1 : Int32) (I : jI) : Option (Int32 × jI) :=
  if (d129 a1 I) = 0 then
    some ((-1), I)
  else
    if 0 ≤ (I 37 0 (Int32.toNatClampNeg a1)) then
      (d148 a1 I).bind fun r1 =>
      some (r1.1, r1.2)
    else
      some (((d126 1 I).1), ((d126 1 I).2))
set_option maxHeartbeats 4000000 in
set_option maxRecDepth 20000 in
theorem D149 {d : Nat} {k : jK} {a1 : Int32} {I : jI} {L : jL} {r : Int32 × jI} (h : d149 a1 I = some r) (hk : k (some (.inl (.inl r.1))) (r.2, L)) : jPM d 149 [.inr (31, 0), .inl (.inl a1)] (I, L) k := by
  refine pM (fun d n => ?_)
  unfold d149 at h
  refine pn_go [] 400 ?_
  conv => whnf
  refine D129 rfl ?_
  conv => whnf
  refine ⟨fun cz1 => ?_, fun cz1 => ?_⟩
  · replace h := (if_neg cz1).symm.trans h
    conv => whnf
    intro _
    conv => whnf
    refine ⟨fun cz2 => ?_, fun cz2 => ?_⟩
    · replace h := (if_pos cz2).symm.trans h
      conv => whnf
      obtain ⟨r1, hz3, h⟩ := obind h
      refine D148 hz3 ?_
      conv => whnf
      cases h
      exact hk
    · replace h := (if_neg cz2).symm.trans h
      conv => whnf
      refine D126 rfl ?_
      conv => whnf
      cases h
      exact hk
  · replace h := (if_pos cz1).symm.trans h
    conv => whnf
    cases h
    exact hk
/-- X8_house, loop at 39 -/
noncomputable def d150_39 : Nat → Int32 → jI → Option (jI)
  | 0, _, _ => none
  | F + 1, x2, I =>
    if 1149 ≤ x2 then
      some I
    else
      d150_39 F (x2 + 1) (jup I 32 0 (Int32.toNatClampNeg x2) 0)
set_option maxHeartbeats 4000000 in
set_option maxRecDepth 20000 in
theorem L150_39 {d n : Nat} {k : jK} {L : jL} : ∀ (F : Nat) (x2 : Int32) (I : jI) (e1 : Option jV) (r : jI), d150_39 F x2 I = some r → (∀ (f1 f2 : Option jV), pn (jPM d) k none (jco 150) n (59, [some (.inr (31, 0)), f1, f2], [], r, L)) → pn (jPM d) k none (jco 150) n (39, [some (.inr (31, 0)), e1, some (.inl (.inl x2))], [], I, L) := by
  intro F
  induction F with
  | zero => intro x2 I e1 r h hx; cases h
  | succ F ih =>
    intro x2 I e1 r h hx
    rw [d150_39] at h
    refine pn_go [39, 59, 85, 169] 400 ?_
    conv => whnf
    refine ⟨fun cz1 => ?_, fun cz1 => ?_⟩
    · replace h := (if_pos cz1).symm.trans h
      conv => whnf
      cases h
      exact hx _ _
    · replace h := (if_neg cz1).symm.trans h
      conv => whnf
      intro _
      conv => whnf
      exact ih _ _ _ r h hx
/-- X8_house, loop at 85 -/
noncomputable def d150_85 : Nat → Int32 → jI → Option (jI)
  | 0, _, _ => none
  | F + 1, x2, I =>
    if (I 31 0 3) ≤ x2 then
      some I
    else
      d150_85 F (x2 + 1) (jup (jup (jup (jup I 33 0 (Int32.toNatClampNeg x2) (I 40 0 (Int32.toNatClampNeg (4 * x2)))) 32 0 (Int32.toNatClampNeg (17 + x2)) ((jup I 33 0 (Int32.toNatClampNeg x2) (I 40 0 (Int32.toNatClampNeg (4 * x2)))) 40 0 (Int32.toNatClampNeg ((4 * x2) + 1)))) 32 0 (Int32.toNatClampNeg (23 + x2)) ((jup (jup I 33 0 (Int32.toNatClampNeg x2) (I 40 0 (Int32.toNatClampNeg (4 * x2)))) 32 0 (Int32.toNatClampNeg (17 + x2)) ((jup I 33 0 (Int32.toNatClampNeg x2) (I 40 0 (Int32.toNatClampNeg (4 * x2)))) 40 0 (Int32.toNatClampNeg ((4 * x2) + 1)))) 40 0 (Int32.toNatClampNeg ((4 * x2) + 2)))) 34 0 (Int32.toNatClampNeg x2) ((jup (jup (jup I 33 0 (Int32.toNatClampNeg x2) (I 40 0 (Int32.toNatClampNeg (4 * x2)))) 32 0 (Int32.toNatClampNeg (17 + x2)) ((jup I 33 0 (Int32.toNatClampNeg x2) (I 40 0 (Int32.toNatClampNeg (4 * x2)))) 40 0 (Int32.toNatClampNeg ((4 * x2) + 1)))) 32 0 (Int32.toNatClampNeg (23 + x2)) ((jup (jup I 33 0 (Int32.toNatClampNeg x2) (I 40 0 (Int32.toNatClampNeg (4 * x2)))) 32 0 (Int32.toNatClampNeg (17 + x2)) ((jup I 33 0 (Int32.toNatClampNeg x2) (I 40 0 (Int32.toNatClampNeg (4 * x2)))) 40 0 (Int32.toNatClampNeg ((4 * x2) + 1)))) 40 0 (Int32.toNatClampNeg ((4 * x2) + 2)))) 40 0 (Int32.toNatClampNeg ((4 * x2) + 3))))
set_option maxHeartbeats 4000000 in
set_option maxRecDepth 20000 in
theorem L150_85 {d n : Nat} {k : jK} {L : jL} : ∀ (F : Nat) (x2 : Int32) (I : jI) (e1 : Option jV) (r : jI), d150_85 F x2 I = some r → (∀ (f1 f2 : Option jV), pn (jPM d) k none (jco 150) n (167, [some (.inr (31, 0)), f1, f2], [], r, L)) → pn (jPM d) k none (jco 150) n (85, [some (.inr (31, 0)), e1, some (.inl (.inl x2))], [], I, L) := by
  intro F
  induction F with
  | zero => intro x2 I e1 r h hx; cases h
  | succ F ih =>
    intro x2 I e1 r h hx
    rw [d150_85] at h
    refine pn_go [39, 85, 167, 169] 400 ?_
    conv => whnf
    refine ⟨fun cz1 => ?_, fun cz1 => ?_⟩
    · replace h := (if_pos cz1).symm.trans h
      conv => whnf
      cases h
      exact hx _ _
    · replace h := (if_neg cz1).symm.trans h
      conv => whnf
      intro _
      conv => whnf
      intro _
      conv => whnf
      intro _
      conv => whnf
      intro _
      conv => whnf
      intro _
      conv => whnf
      intro _
      conv => whnf
      intro _
      conv => whnf
      intro _
      conv => whnf
      exact ih _ _ _ r h hx
/-- X8_house, loop at 169 -/
noncomputable def d150_169 : Nat → Int32 → jI → Option (jI)
  | 0, _, _ => none
  | F + 1, x2, I =>
    if 4 ≤ x2 then
      some I
    else
      d150_169 F (x2 + 1) (jup I 32 0 (Int32.toNatClampNeg ((1149 * x2) + 0)) (-1))
set_option maxHeartbeats 4000000 in
set_option maxRecDepth 20000 in
theorem L150_169 {d n : Nat} {k : jK} {L : jL} : ∀ (F : Nat) (x2 : Int32) (I : jI) (e1 : Option jV) (r : jI), d150_169 F x2 I = some r → (∀ (f1 f2 : Option jV), pn (jPM d) k none (jco 150) n (193, [some (.inr (31, 0)), f1, f2], [], r, L)) → pn (jPM d) k none (jco 150) n (169, [some (.inr (31, 0)), e1, some (.inl (.inl x2))], [], I, L) := by
  intro F
  induction F with
  | zero => intro x2 I e1 r h hx; cases h
  | succ F ih =>
    intro x2 I e1 r h hx
    rw [d150_169] at h
    refine pn_go [39, 85, 169, 193] 400 ?_
    conv => whnf
    refine ⟨fun cz1 => ?_, fun cz1 => ?_⟩
    · replace h := (if_pos cz1).symm.trans h
      conv => whnf
      cases h
      exact hx _ _
    · replace h := (if_neg cz1).symm.trans h
      conv => whnf
      intro _
      conv => whnf
      exact ih _ _ _ r h hx
/-- X8_house -/
noncomputable def d150 (a1 : Int32) (I : jI) : Option (Int32 × jI) :=
  if (d129 a1 I) = 0 then
    some ((-1), I)
  else
    if 0 ≤ (I 37 0 (Int32.toNatClampNeg a1)) then
      (d148 a1 I).bind fun r1 =>
      if r1.1 = (-9) then
        (d150_39 1200 0 r1.2).bind fun r2 =>
        (d150_85 1200 0 (jup (jup (jup r2 31 0 1 (r2 31 0 18)) 31 0 2 ((jup r2 31 0 1 (r2 31 0 18)) 31 0 19)) 31 0 3 ((jup (jup r2 31 0 1 (r2 31 0 18)) 31 0 2 ((jup r2 31 0 1 (r2 31 0 18)) 31 0 19)) 31 0 21))).bind fun r3 =>
        (d150_169 1200 1 r3).bind fun r4 =>
        some ((r4 31 0 3), r4)
      else
        some ((-4), r1.2)
    else
      some (((d126 1 I).1), ((d126 1 I).2))
set_option maxHeartbeats 4000000 in
set_option maxRecDepth 20000 in
theorem D150 {d : Nat} {k : jK} {a1 : Int32} {I : jI} {L : jL} {r : Int32 × jI} (h : d150 a1 I = some r) (hk : k (some (.inl (.inl r.1))) (r.2, L)) : jPM d 150 [.inr (31, 0), .inl (.inl a1)] (I, L) k := by
  refine pM (fun d n => ?_)
  unfold d150 at h
  refine pn_go [39, 85, 169] 400 ?_
  conv => whnf
  refine D129 rfl ?_
  conv => whnf
  refine ⟨fun cz1 => ?_, fun cz1 => ?_⟩
  · replace h := (if_neg cz1).symm.trans h
    conv => whnf
    intro _
    conv => whnf
    refine ⟨fun cz2 => ?_, fun cz2 => ?_⟩
    · replace h := (if_pos cz2).symm.trans h
      conv => whnf
      obtain ⟨r1, hz3, h⟩ := obind h
      refine D148 hz3 ?_
      conv => whnf
      refine ⟨fun cz4 => ?_, fun cz4 => ?_⟩
      · replace h := (if_pos cz4).symm.trans h
        conv => whnf
        obtain ⟨r2, hz5, h⟩ := obind h
        refine L150_39 _ _ _ _ _ hz5 (fun e1_r2 e2_r2 => ?_)
        refine pn_go [39, 85, 169] 400 ?_
        conv => whnf
        obtain ⟨r3, hz6, h⟩ := obind h
        refine L150_85 _ _ _ _ _ hz6 (fun e1_r3 e2_r3 => ?_)
        refine pn_go [39, 85, 169] 400 ?_
        conv => whnf
        obtain ⟨r4, hz7, h⟩ := obind h
        refine L150_169 _ _ _ _ _ hz7 (fun e1_r4 e2_r4 => ?_)
        refine pn_go [39, 85, 169] 400 ?_
        conv => whnf
        cases h
        exact hk
      · replace h := (if_neg cz4).symm.trans h
        conv => whnf
        cases h
        exact hk
    · replace h := (if_neg cz2).symm.trans h
      conv => whnf
      refine D126 rfl ?_
      conv => whnf
      cases h
      exact hk
  · replace h := (if_pos cz1).symm.trans h
    conv => whnf
    cases h
    exact hk
/-- X8_isPacket -/
noncomputable def d151 (a1 : Int32) (I : jI) : Int32 :=
  (d124 (Int32.toInt64 a1) 0 (Int32.toInt64 ((I 31 0 3) - 1)) I)
set_option maxHeartbeats 4000000 in
set_option maxRecDepth 20000 in
theorem D151 {d : Nat} {k : jK} {a1 : Int32} {I : jI} {L : jL} {r : Int32} (h : d151 a1 I = r) (hk : k (some (.inl (.inl r))) (I, L)) : jPM d 151 [.inr (31, 0), .inl (.inl a1)] (I, L) k := by
  refine pM (fun d n => ?_)
  unfold d151 at h
  refine pn_go [] 400 ?_
  conv => whnf
  refine D124 rfl ?_
  conv => whnf
  subst h
  exact fun _ => hk
/-- X8_costBy -/
noncomputable def d152 (a0 : Int32) (a1 : Int32) (a2 : Int32) (a3 : Int32) (I : jI) : Int32 :=
  if a3 = 1 then
    if a0 = 1 then
      ((3 * (a2 * a1)) / 4)
    else
      if a0 = 2 then
        ((a2 - (a2 / 3)) * a1)
      else
        if a0 = 3 then
          ((a2 * a1) / 2)
        else
          if a0 = 4 then
            (d123 (((3 * (a2 * a1)) / 4) - a2) I)
          else
            if a0 = 5 then
              ((a2 - (a2 / 3)) * a1)
            else
              (a2 * a1)
  else
    if a0 = 1 then
      (a2 * a1)
    else
      if a0 = 2 then
        ((a2 - (a2 / 3)) * a1)
      else
        if a0 = 3 then
          ((a2 * a1) / 2)
        else
          if a0 = 4 then
            (d123 ((a2 * a1) - a2) I)
          else
            if a0 = 5 then
              ((a2 - (a2 / 3)) * a1)
            else
              (a2 * a1)
set_option maxHeartbeats 4000000 in
set_option maxRecDepth 20000 in
theorem D152 {d : Nat} {k : jK} {a0 : Int32} {a1 : Int32} {a2 : Int32} {a3 : Int32} {I : jI} {L : jL} {r : Int32} (h : d152 a0 a1 a2 a3 I = r) (hk : k (some (.inl (.inl r))) (I, L)) : jPM d 152 [.inl (.inl a0), .inl (.inl a1), .inl (.inl a2), .inl (.inl a3)] (I, L) k := by
  refine pM (fun d n => ?_)
  unfold d152 at h
  refine pn_go [] 400 ?_
  conv => whnf
  refine ⟨fun cz1 => ?_, fun cz1 => ?_⟩
  · replace h := (if_neg cz1).symm.trans h
    conv => whnf
    refine And.intro (fun cz2 => ?_) (fun cz2 => ?_)
    · replace h := (if_pos cz2).symm.trans h
      conv => whnf
      subst h
      exact hk
    replace h := (if_neg cz2).symm.trans h
    refine jsw_cons (fun cz3 => ?_) (fun cz3 => ?_)
    · replace h := (if_pos cz3).symm.trans h
      conv => whnf
      intro _
      conv => whnf
      subst h
      exact hk
    replace h := (if_neg cz3).symm.trans h
    refine jsw_cons (fun cz4 => ?_) (fun cz4 => ?_)
    · replace h := (if_pos cz4).symm.trans h
      conv => whnf
      intro _
      conv => whnf
      subst h
      exact hk
    replace h := (if_neg cz4).symm.trans h
    refine jsw_cons (fun cz5 => ?_) (fun cz5 => ?_)
    · replace h := (if_pos cz5).symm.trans h
      conv => whnf
      refine D123 rfl ?_
      conv => whnf
      subst h
      exact hk
    replace h := (if_neg cz5).symm.trans h
    refine jsw_cons (fun cz6 => ?_) (fun cz6 => ?_)
    · replace h := (if_pos cz6).symm.trans h
      conv => whnf
      intro _
      conv => whnf
      subst h
      exact hk
    replace h := (if_neg cz6).symm.trans h
    refine jsw_nil ?_
    conv => whnf
    subst h
    exact hk
  · replace h := (if_pos cz1).symm.trans h
    conv => whnf
    intro _
    conv => whnf
    refine And.intro (fun cz7 => ?_) (fun cz7 => ?_)
    · replace h := (if_pos cz7).symm.trans h
      conv => whnf
      subst h
      exact hk
    replace h := (if_neg cz7).symm.trans h
    refine jsw_cons (fun cz8 => ?_) (fun cz8 => ?_)
    · replace h := (if_pos cz8).symm.trans h
      conv => whnf
      intro _
      conv => whnf
      subst h
      exact hk
    replace h := (if_neg cz8).symm.trans h
    refine jsw_cons (fun cz9 => ?_) (fun cz9 => ?_)
    · replace h := (if_pos cz9).symm.trans h
      conv => whnf
      intro _
      conv => whnf
      subst h
      exact hk
    replace h := (if_neg cz9).symm.trans h
    refine jsw_cons (fun cz10 => ?_) (fun cz10 => ?_)
    · replace h := (if_pos cz10).symm.trans h
      conv => whnf
      refine D123 rfl ?_
      conv => whnf
      subst h
      exact hk
    replace h := (if_neg cz10).symm.trans h
    refine jsw_cons (fun cz11 => ?_) (fun cz11 => ?_)
    · replace h := (if_pos cz11).symm.trans h
      conv => whnf
      intro _
      conv => whnf
      subst h
      exact hk
    replace h := (if_neg cz11).symm.trans h
    refine jsw_nil ?_
    conv => whnf
    subst h
    exact hk
/-- X8_costOf -/
noncomputable def d153 (a1 : Int32) (a2 : Int32) (a3 : Int32) (I : jI) : Int32 :=
  (d152 (I 33 0 (Int32.toNatClampNeg a2)) (I 32 0 (Int32.toNatClampNeg ((a1 + 23) + a2))) a3 (I 32 0 (Int32.toNatClampNeg (a1 + 6))) I)
set_option maxHeartbeats 4000000 in
set_option maxRecDepth 20000 in
theorem D153 {d : Nat} {k : jK} {a1 : Int32} {a2 : Int32} {a3 : Int32} {I : jI} {L : jL} {r : Int32} (h : d153 a1 a2 a3 I = r) (hk : k (some (.inl (.inl r))) (I, L)) : jPM d 153 [.inr (31, 0), .inl (.inl a1), .inl (.inl a2), .inl (.inl a3)] (I, L) k := by
  refine pM (fun d n => ?_)
  unfold d153 at h
  refine pn_go [] 400 ?_
  conv => whnf
  intro _
  conv => whnf
  intro _
  conv => whnf
  intro _
  conv => whnf
  refine D152 rfl ?_
  conv => whnf
  subst h
  exact hk
/-- X8_gotBy -/
noncomputable def d154 (a0 : Int32) (a1 : Int32) (I : jI) : Int32 :=
  if a0 = 3 then
    (a1 / 2)
  else
    a1
set_option maxHeartbeats 4000000 in
set_option maxRecDepth 20000 in
theorem D154 {d : Nat} {k : jK} {a0 : Int32} {a1 : Int32} {I : jI} {L : jL} {r : Int32} (h : d154 a0 a1 I = r) (hk : k (some (.inl (.inl r))) (I, L)) : jPM d 154 [.inl (.inl a0), .inl (.inl a1)] (I, L) k := by
  refine pM (fun d n => ?_)
  unfold d154 at h
  refine pn_go [] 400 ?_
  conv => whnf
  refine ⟨fun cz1 => ?_, fun cz1 => ?_⟩
  · replace h := (if_neg cz1).symm.trans h
    conv => whnf
    subst h
    exact hk
  · replace h := (if_pos cz1).symm.trans h
    conv => whnf
    intro _
    conv => whnf
    subst h
    exact hk
end
section
/-- X8_got -/
noncomputable def d155 (a1 : Int32) (a2 : Int32) (I : jI) : Int32 :=
  (d154 (I 33 0 (Int32.toNatClampNeg a2)) (I 32 0 (Int32.toNatClampNeg ((a1 + 17) + a2))) I)
set_option maxHeartbeats 4000000 in
set_option maxRecDepth 20000 in
theorem D155 {d : Nat} {k : jK} {a1 : Int32} {a2 : Int32} {I : jI} {L : jL} {r : Int32} (h : d155 a1 a2 I = r) (hk : k (some (.inl (.inl r))) (I, L)) : jPM d 155 [.inr (31, 0), .inl (.inl a1), .inl (.inl a2)] (I, L) k := by
  refine pM (fun d n => ?_)
  unfold d155 at h
  refine pn_go [] 400 ?_
  conv => whnf
  intro _
  conv => whnf
  intro _
  conv => whnf
  refine D154 rfl ?_
  conv => whnf
  subst h
  exact hk
/-- X8_keepsOf -/
noncomputable def d156 (a1 : Int32) (I : jI) : Int32 :=
  if (I 33 0 (Int32.toNatClampNeg a1)) = 5 then
    ((I 34 0 (Int32.toNatClampNeg a1)) / 2)
  else
    (I 34 0 (Int32.toNatClampNeg a1))
set_option maxHeartbeats 4000000 in
set_option maxRecDepth 20000 in
theorem D156 {d : Nat} {k : jK} {a1 : Int32} {I : jI} {L : jL} {r : Int32} (h : d156 a1 I = r) (hk : k (some (.inl (.inl r))) (I, L)) : jPM d 156 [.inr (31, 0), .inl (.inl a1)] (I, L) k := by
  refine pM (fun d n => ?_)
  unfold d156 at h
  refine pn_go [] 400 ?_
  conv => whnf
  intro _
  conv => whnf
  refine ⟨fun cz1 => ?_, fun cz1 => ?_⟩
  · replace h := (if_neg cz1).symm.trans h
    conv => whnf
    intro _
    conv => whnf
    subst h
    exact hk
  · replace h := (if_pos cz1).symm.trans h
    conv => whnf
    intro _
    conv => whnf
    intro _
    conv => whnf
    subst h
    exact hk
/-- X8_isOf -/
noncomputable def d159 (a1 : Int32) (a2 : Int32) (I : jI) : Int32 :=
  if (I 33 0 (Int32.toNatClampNeg a1)) = a2 then
    1
  else
    if a2 = 1 then
      if (I 33 0 (Int32.toNatClampNeg a1)) = 4 then
        1
      else
        if a2 = 2 then
          if (I 33 0 (Int32.toNatClampNeg a1)) = 5 then
            1
          else
            0
        else
          0
    else
      if a2 = 2 then
        if (I 33 0 (Int32.toNatClampNeg a1)) = 5 then
          1
        else
          0
      else
        0
set_option maxHeartbeats 4000000 in
set_option maxRecDepth 20000 in
theorem D159 {d : Nat} {k : jK} {a1 : Int32} {a2 : Int32} {I : jI} {L : jL} {r : Int32} (h : d159 a1 a2 I = r) (hk : k (some (.inl (.inl r))) (I, L)) : jPM d 159 [.inr (31, 0), .inl (.inl a1), .inl (.inl a2)] (I, L) k := by
  refine pM (fun d n => ?_)
  unfold d159 at h
  refine pn_go [] 400 ?_
  conv => whnf
  intro _
  conv => whnf
  refine ⟨fun cz1 => ?_, fun cz1 => ?_⟩
  · replace h := (if_pos cz1).symm.trans h
    conv => whnf
    subst h
    exact fun _ => hk
  · replace h := (if_neg cz1).symm.trans h
    conv => whnf
    refine ⟨fun cz2 => ?_, fun cz2 => ?_⟩
    · replace h := (if_neg cz2).symm.trans h
      conv => whnf
      refine ⟨fun cz3 => ?_, fun cz3 => ?_⟩
      · replace h := (if_neg cz3).symm.trans h
        conv => whnf
        subst h
        exact fun _ => hk
      · replace h := (if_pos cz3).symm.trans h
        conv => whnf
        refine ⟨fun cz4 => ?_, fun cz4 => ?_⟩
        · replace h := (if_neg cz4).symm.trans h
          conv => whnf
          subst h
          exact fun _ => hk
        · replace h := (if_pos cz4).symm.trans h
          conv => whnf
          subst h
          exact fun _ => hk
    · replace h := (if_pos cz2).symm.trans h
      conv => whnf
      refine ⟨fun cz5 => ?_, fun cz5 => ?_⟩
      · replace h := (if_pos cz5).symm.trans h
        conv => whnf
        subst h
        exact fun _ => hk
      · replace h := (if_neg cz5).symm.trans h
        conv => whnf
        refine ⟨fun cz6 => ?_, fun cz6 => ?_⟩
        · replace h := (if_neg cz6).symm.trans h
          conv => whnf
          subst h
          exact fun _ => hk
        · replace h := (if_pos cz6).symm.trans h
          conv => whnf
          refine ⟨fun cz7 => ?_, fun cz7 => ?_⟩
          · replace h := (if_neg cz7).symm.trans h
            conv => whnf
            subst h
            exact fun _ => hk
          · replace h := (if_pos cz7).symm.trans h
            conv => whnf
            subst h
            exact fun _ => hk
/-- X8_mark -/
noncomputable def d160 (a1 : Int32) (a2 : Int32) (I : jI) : Option (Int32 × jI) :=
  if (d151 a1 I) = 0 then
    some ((-1), I)
  else
    if (d124 (Int32.toInt64 a2) 1 5 I) = 0 then
      some ((-1), I)
    else
      if (d159 a1 a2 I) = 0 then
        some (((d126 3 I).1), ((d126 3 I).2))
      else
        if a2 = 1 then
          some (((d152 (I 33 0 (Int32.toNatClampNeg a1)) (I 32 0 (Int32.toNatClampNeg (23 + a1))) 1 0 I) - (d152 (I 33 0 (Int32.toNatClampNeg a1)) (I 32 0 (Int32.toNatClampNeg (23 + a1))) 1 1 I)), I)
        else
          if a2 = 2 then
            some (((3 * (d153 0 a1 1 I)) - (d153 0 a1 3 I)), I)
          else
            if a2 = 3 then
              some (((I 32 0 (Int32.toNatClampNeg (17 + a1))) - (d155 0 a1 I)), I)
            else
              if a2 = 4 then
                some (((d152 1 (I 32 0 (Int32.toNatClampNeg (23 + a1))) 1 (I 32 0 (Int32.toNatClampNeg 6)) I) - (d153 0 a1 1 I)), I)
              else
                some (((I 34 0 (Int32.toNatClampNeg a1)) - (d156 a1 I)), I)
set_option maxHeartbeats 4000000 in
set_option maxRecDepth 20000 in
theorem D160 {d : Nat} {k : jK} {a1 : Int32} {a2 : Int32} {I : jI} {L : jL} {r : Int32 × jI} (h : d160 a1 a2 I = some r) (hk : k (some (.inl (.inl r.1))) (r.2, L)) : jPM d 160 [.inr (31, 0), .inl (.inl a1), .inl (.inl a2)] (I, L) k := by
  refine pM (fun d n => ?_)
  unfold d160 at h
  refine pn_go [] 400 ?_
  conv => whnf
  refine D151 rfl ?_
  conv => whnf
  refine ⟨fun cz1 => ?_, fun cz1 => ?_⟩
  · replace h := (if_pos cz1).symm.trans h
    conv => whnf
    cases h
    exact hk
  · replace h := (if_neg cz1).symm.trans h
    conv => whnf
    refine D124 rfl ?_
    conv => whnf
    refine ⟨fun cz2 => ?_, fun cz2 => ?_⟩
    · replace h := (if_neg cz2).symm.trans h
      conv => whnf
      refine D159 rfl ?_
      conv => whnf
      refine ⟨fun cz3 => ?_, fun cz3 => ?_⟩
      · replace h := (if_neg cz3).symm.trans h
        conv => whnf
        intro _
        conv => whnf
        refine And.intro (fun cz4 => ?_) (fun cz4 => ?_)
        · replace h := (if_pos cz4).symm.trans h
          conv => whnf
          intro _
          conv => whnf
          refine D152 rfl ?_
          conv => whnf
          intro _
          conv => whnf
          refine D152 rfl ?_
          conv => whnf
          cases h
          exact hk
        replace h := (if_neg cz4).symm.trans h
        refine jsw_cons (fun cz5 => ?_) (fun cz5 => ?_)
        · replace h := (if_pos cz5).symm.trans h
          conv => whnf
          refine D153 rfl ?_
          conv => whnf
          refine D153 rfl ?_
          conv => whnf
          cases h
          exact hk
        replace h := (if_neg cz5).symm.trans h
        refine jsw_cons (fun cz6 => ?_) (fun cz6 => ?_)
        · replace h := (if_pos cz6).symm.trans h
          conv => whnf
          intro _
          conv => whnf
          refine D155 rfl ?_
          conv => whnf
          cases h
          exact hk
        replace h := (if_neg cz6).symm.trans h
        refine jsw_cons (fun cz7 => ?_) (fun cz7 => ?_)
        · replace h := (if_pos cz7).symm.trans h
          conv => whnf
          intro _
          conv => whnf
          refine D152 rfl ?_
          conv => whnf
          refine D153 rfl ?_
          conv => whnf
          cases h
          exact hk
        replace h := (if_neg cz7).symm.trans h
        refine jsw_nil ?_
        conv => whnf
        intro _
        conv => whnf
        refine D156 rfl ?_
        conv => whnf
        cases h
        exact hk
      · replace h := (if_pos cz3).symm.trans h
        conv => whnf
        refine D126 rfl ?_
        conv => whnf
        cases h
        exact hk
    · replace h := (if_pos cz2).symm.trans h
      conv => whnf
      cases h
      exact hk
/-- X8_inLarder, loop at 4 -/
noncomputable def d162_4 (y1 : Int32) (I : jI) : Nat → Int32 → Int32 → Option (Int32)
  | 0, _, _ => none
  | F + 1, x2, x3 =>
    if 10 ≤ x3 then
      some x2
    else
      d162_4 y1 I F (x2 + (I 32 0 (Int32.toNatClampNeg ((y1 + 7) + x3)))) (x3 + 1)
set_option maxHeartbeats 4000000 in
set_option maxRecDepth 20000 in
theorem L162_4 {d n : Nat} {k : jK} {y1 : Int32} {I : jI} {L : jL} : ∀ (F : Nat) (x2 : Int32) (x3 : Int32) (r : Int32), d162_4 y1 I F x2 x3 = some r → (∀ (f3 : Option jV), pn (jPM d) k none (jco 162) n (30, [some (.inr (31, 0)), some (.inl (.inl y1)), some (.inl (.inl r)), f3], [], I, L)) → pn (jPM d) k none (jco 162) n (4, [some (.inr (31, 0)), some (.inl (.inl y1)), some (.inl (.inl x2)), some (.inl (.inl x3))], [], I, L) := by
  intro F
  induction F with
  | zero => intro x2 x3 r h hx; cases h
  | succ F ih =>
    intro x2 x3 r h hx
    rw [d162_4] at h
    refine pn_go [4, 30] 400 ?_
    conv => whnf
    refine ⟨fun cz1 => ?_, fun cz1 => ?_⟩
    · replace h := (if_pos cz1).symm.trans h
      conv => whnf
      cases h
      exact hx _
    · replace h := (if_neg cz1).symm.trans h
      conv => whnf
      intro _
      conv => whnf
      exact ih _ _ r h hx
/-- X8_inLarder -/
noncomputable def d162 (a1 : Int32) (I : jI) : Option (Int32) :=
  (d162_4 a1 I 70 0 0).bind fun r1 =>
  some r1
set_option maxHeartbeats 4000000 in
set_option maxRecDepth 20000 in
theorem D162 {d : Nat} {k : jK} {a1 : Int32} {I : jI} {L : jL} {r : Int32} (h : d162 a1 I = some r) (hk : k (some (.inl (.inl r))) (I, L)) : jPM d 162 [.inr (31, 0), .inl (.inl a1)] (I, L) k := by
  refine pM (fun d n => ?_)
  unfold d162 at h
  refine pn_go [4] 400 ?_
  conv => whnf
  obtain ⟨r1, hz1, h⟩ := obind h
  refine L162_4 _ _ _ _ hz1 (fun e3_r1 => ?_)
  refine pn_go [4] 400 ?_
  conv => whnf
  cases h
  exact hk
/-- X8_keepPast, loop at 2 -/
noncomputable def d163_2 : Nat → Int32 → jI → Option (jI)
  | 0, _, _ => none
  | F + 1, x1, I =>
    if 28 ≤ x1 then
      some I
    else
      d163_2 F (x1 + 1) (jup I 32 0 (Int32.toNatClampNeg ((29 + (28 * (I 32 0 (Int32.toNatClampNeg 0)))) + x1)) (I 32 0 (Int32.toNatClampNeg (1 + x1))))
set_option maxHeartbeats 4000000 in
set_option maxRecDepth 20000 in
theorem L163_2 {d n : Nat} {k : jK} {L : jL} : ∀ (F : Nat) (x1 : Int32) (I : jI) (r : jI), d163_2 F x1 I = some r → (∀ (f1 : Option jV), pn (jPM d) k none (jco 163) n (41, [some (.inr (31, 0)), f1], [], r, L)) → pn (jPM d) k none (jco 163) n (2, [some (.inr (31, 0)), some (.inl (.inl x1))], [], I, L) := by
  intro F
  induction F with
  | zero => intro x1 I r h hx; cases h
  | succ F ih =>
    intro x1 I r h hx
    rw [d163_2] at h
    refine pn_go [2, 41] 400 ?_
    conv => whnf
    refine ⟨fun cz1 => ?_, fun cz1 => ?_⟩
    · replace h := (if_pos cz1).symm.trans h
      conv => whnf
      cases h
      exact hx _
    · replace h := (if_neg cz1).symm.trans h
      conv => whnf
      intro _
      conv => whnf
      intro _
      conv => whnf
      intro _
      conv => whnf
      exact ih _ _ r h hx
/-- X8_keepPast -/
noncomputable def d163 (I : jI) : Option (jI) :=
  (d163_2 70 0 I).bind fun r1 =>
  some (jup r1 32 0 (Int32.toNatClampNeg 0) ((r1 32 0 (Int32.toNatClampNeg 0)) + 1))
set_option maxHeartbeats 4000000 in
set_option maxRecDepth 20000 in
theorem D163 {d : Nat} {k : jK} {I : jI} {L : jL} {r : jI} (h : d163 I = some r) (hk : k none (r, L)) : jPM d 163 [.inr (31, 0)] (I, L) k := by
  refine pM (fun d n => ?_)
  unfold d163 at h
  refine pn_go [2] 400 ?_
  conv => whnf
  obtain ⟨r1, hz1, h⟩ := obind h
  refine L163_2 _ _ _ _ hz1 (fun e1_r1 => ?_)
  refine pn_go [2] 400 ?_
  conv => whnf
  intro _
  conv => whnf
  intro _
  conv => whnf
  cases h
  exact hk
/-- X8_hasRoom -/
noncomputable def d164 (a1 : Int32) (a2 : Int32) (a3 : Int32) (I : jI) : Option (Int32) :=
  (d162 a1 I).bind fun r1 =>
  if (I 31 0 2) < (r1 + (a3 * (d155 a1 a2 I))) then
    some 0
  else
    some 1
set_option maxHeartbeats 4000000 in
set_option maxRecDepth 20000 in
theorem D164 {d : Nat} {k : jK} {a1 : Int32} {a2 : Int32} {a3 : Int32} {I : jI} {L : jL} {r : Int32} (h : d164 a1 a2 a3 I = some r) (hk : k (some (.inl (.inl r))) (I, L)) : jPM d 164 [.inr (31, 0), .inl (.inl a1), .inl (.inl a2), .inl (.inl a3)] (I, L) k := by
  refine pM (fun d n => ?_)
  unfold d164 at h
  refine pn_go [] 400 ?_
  conv => whnf
  obtain ⟨r1, hz1, h⟩ := obind h
  refine D162 hz1 ?_
  conv => whnf
  refine D155 rfl ?_
  conv => whnf
  refine ⟨fun cz2 => ?_, fun cz2 => ?_⟩
  · replace h := (if_pos cz2).symm.trans h
    conv => whnf
    cases h
    exact fun _ => hk
  · replace h := (if_neg cz2).symm.trans h
    conv => whnf
    cases h
    exact fun _ => hk
/-- X8_buysAt -/
noncomputable def d165 (a1 : Int32) (a2 : Int32) (a3 : Int32) (I : jI) : Int32 × jI :=
  ((d153 a1 a2 a3 I), (jup (jup I 32 0 (Int32.toNatClampNeg (a1 + 2)) ((I 32 0 (Int32.toNatClampNeg (a1 + 2))) + (d153 a1 a2 a3 I))) 32 0 (Int32.toNatClampNeg ((a1 + 7) + (d156 a2 (jup I 32 0 (Int32.toNatClampNeg (a1 + 2)) ((I 32 0 (Int32.toNatClampNeg (a1 + 2))) + (d153 a1 a2 a3 I)))))) (((jup I 32 0 (Int32.toNatClampNeg (a1 + 2)) ((I 32 0 (Int32.toNatClampNeg (a1 + 2))) + (d153 a1 a2 a3 I))) 32 0 (Int32.toNatClampNeg ((a1 + 7) + (d156 a2 (jup I 32 0 (Int32.toNatClampNeg (a1 + 2)) ((I 32 0 (Int32.toNatClampNeg (a1 + 2))) + (d153 a1 a2 a3 I))))))) + (a3 * (d155 a1 a2 (jup I 32 0 (Int32.toNatClampNeg (a1 + 2)) ((I 32 0 (Int32.toNatClampNeg (a1 + 2))) + (d153 a1 a2 a3 I))))))))
set_option maxHeartbeats 4000000 in
set_option maxRecDepth 20000 in
theorem D165 {d : Nat} {k : jK} {a1 : Int32} {a2 : Int32} {a3 : Int32} {I : jI} {L : jL} {r : Int32 × jI} (h : d165 a1 a2 a3 I = r) (hk : k (some (.inl (.inl r.1))) (r.2, L)) : jPM d 165 [.inr (31, 0), .inl (.inl a1), .inl (.inl a2), .inl (.inl a3)] (I, L) k := by
  refine pM (fun d n => ?_)
  unfold d165 at h
  refine pn_go [] 400 ?_
  conv => whnf
  refine D153 rfl ?_
  conv => whnf
  intro _
  conv => whnf
  intro _
  conv => whnf
  refine D156 rfl ?_
  conv => whnf
  intro _
  conv => whnf
  refine D155 rfl ?_
  conv => whnf
  intro _
  conv => whnf
  subst h
  exact hk
/-- X8_buy -/
noncomputable def d166 (a1 : Int32) (a2 : Int32) (I : jI) : Option (Int32 × jI) :=
  if (d151 a1 I) = 0 then
    some ((-1), I)
  else
    if (d124 (Int32.toInt64 a2) 1 3 I) = 0 then
      some ((-1), I)
    else
      (d164 0 a1 a2 I).bind fun r1 =>
      if r1 = 0 then
        some ((-6), I)
      else
        if (I 32 0 (Int32.toNatClampNeg 0)) = 40 then
          some ((-2), I)
        else
          (d163 I).bind fun r2 =>
          some (((d165 0 a1 a2 r2).1), ((d165 0 a1 a2 r2).2))
set_option maxHeartbeats 4000000 in
set_option maxRecDepth 20000 in
theorem D166 {d : Nat} {k : jK} {a1 : Int32} {a2 : Int32} {I : jI} {L : jL} {r : Int32 × jI} (h : d166 a1 a2 I = some r) (hk : k (some (.inl (.inl r.1))) (r.2, L)) : jPM d 166 [.inr (31, 0), .inl (.inl a1), .inl (.inl a2)] (I, L) k := by
  refine pM (fun d n => ?_)
  unfold d166 at h
  refine pn_go [] 400 ?_
  conv => whnf
  refine D151 rfl ?_
  conv => whnf
  refine ⟨fun cz1 => ?_, fun cz1 => ?_⟩
  · replace h := (if_pos cz1).symm.trans h
    conv => whnf
    cases h
    exact hk
  · replace h := (if_neg cz1).symm.trans h
    conv => whnf
    refine D124 rfl ?_
    conv => whnf
    refine ⟨fun cz2 => ?_, fun cz2 => ?_⟩
    · replace h := (if_neg cz2).symm.trans h
      conv => whnf
      obtain ⟨r1, hz3, h⟩ := obind h
      refine D164 hz3 ?_
      conv => whnf
      refine ⟨fun cz4 => ?_, fun cz4 => ?_⟩
      · replace h := (if_neg cz4).symm.trans h
        conv => whnf
        intro _
        conv => whnf
        refine ⟨fun cz5 => ?_, fun cz5 => ?_⟩
        · replace h := (if_neg cz5).symm.trans h
          conv => whnf
          obtain ⟨r2, hz6, h⟩ := obind h
          refine D163 hz6 ?_
          conv => whnf
          refine D165 rfl ?_
          conv => whnf
          cases h
          exact hk
        · replace h := (if_pos cz5).symm.trans h
          conv => whnf
          cases h
          exact hk
      · replace h := (if_pos cz4).symm.trans h
        conv => whnf
        cases h
        exact hk
    · replace h := (if_pos cz2).symm.trans h
      conv => whnf
      cases h
      exact hk
end
section
/-- X8_pass, loop at 7 -/
noncomputable def d167_7 (y1 : Int32) : Nat → Int32 → Int32 → jI → Option (Int32 × jI)
  | 0, _, _, _ => none
  | F + 1, x2, x3, I =>
    if 10 ≤ x3 then
      some (x2, I)
    else
      if x2 ≤ (I 32 0 (Int32.toNatClampNeg ((y1 + 7) + x3))) then
        d167_7 y1 F (x2 - x2) (x3 + 1) (jup I 32 0 (Int32.toNatClampNeg ((y1 + 7) + x3)) ((I 32 0 (Int32.toNatClampNeg ((y1 + 7) + x3))) - x2))
      else
        d167_7 y1 F (x2 - (I 32 0 (Int32.toNatClampNeg ((y1 + 7) + x3)))) (x3 + 1) (jup I 32 0 (Int32.toNatClampNeg ((y1 + 7) + x3)) ((I 32 0 (Int32.toNatClampNeg ((y1 + 7) + x3))) - (I 32 0 (Int32.toNatClampNeg ((y1 + 7) + x3)))))
set_option maxHeartbeats 4000000 in
set_option maxRecDepth 20000 in
theorem L167_7 {d n : Nat} {k : jK} {y1 : Int32} {L : jL} : ∀ (F : Nat) (x2 : Int32) (x3 : Int32) (I : jI) (e4 : Option jV) (r : Int32 × jI), d167_7 y1 F x2 x3 I = some r → (∀ (f3 f4 : Option jV), pn (jPM d) k none (jco 167) n (72, [some (.inr (31, 0)), some (.inl (.inl y1)), some (.inl (.inl r.1)), f3, f4], [], r.2, L)) → pn (jPM d) k none (jco 167) n (7, [some (.inr (31, 0)), some (.inl (.inl y1)), some (.inl (.inl x2)), some (.inl (.inl x3)), e4], [], I, L) := by
  intro F
  induction F with
  | zero => intro x2 x3 I e4 r h hx; cases h
  | succ F ih =>
    intro x2 x3 I e4 r h hx
    rw [d167_7] at h
    refine pn_go [7, 72, 126] 400 ?_
    conv => whnf
    refine ⟨fun cz1 => ?_, fun cz1 => ?_⟩
    · replace h := (if_pos cz1).symm.trans h
      conv => whnf
      cases h
      exact hx _ _
    · replace h := (if_neg cz1).symm.trans h
      conv => whnf
      intro _
      conv => whnf
      refine ⟨fun cz2 => ?_, fun cz2 => ?_⟩
      · replace h := (if_pos cz2).symm.trans h
        conv => whnf
        intro _
        conv => whnf
        intro _
        conv => whnf
        exact ih _ _ _ _ r h hx
      · replace h := (if_neg cz2).symm.trans h
        conv => whnf
        intro _
        conv => whnf
        intro _
        conv => whnf
        intro _
        conv => whnf
        exact ih _ _ _ _ r h hx
/-- X8_pass, loop at 126 -/
noncomputable def d167_126 (y1 : Int32) (y3 : Int32) : Nat → Int32 → jI → Option (jI)
  | 0, _, _ => none
  | F + 1, x4, I =>
    if 9 ≤ x4 then
      some I
    else
      d167_126 y1 y3 F (x4 + 1) (jup I 32 0 (Int32.toNatClampNeg ((y1 + 7) + x4)) (I 32 0 (Int32.toNatClampNeg (((y1 + 7) + x4) + 1))))
set_option maxHeartbeats 4000000 in
set_option maxRecDepth 20000 in
theorem L167_126 {d n : Nat} {k : jK} {y1 : Int32} {y3 : Int32} {L : jL} : ∀ (F : Nat) (x4 : Int32) (I : jI) (e2 : Option jV) (r : jI), d167_126 y1 y3 F x4 I = some r → (∀ (f2 f4 : Option jV), pn (jPM d) k none (jco 167) n (165, [some (.inr (31, 0)), some (.inl (.inl y1)), f2, some (.inl (.inl y3)), f4], [], r, L)) → pn (jPM d) k none (jco 167) n (126, [some (.inr (31, 0)), some (.inl (.inl y1)), e2, some (.inl (.inl y3)), some (.inl (.inl x4))], [], I, L) := by
  intro F
  induction F with
  | zero => intro x4 I e2 r h hx; cases h
  | succ F ih =>
    intro x4 I e2 r h hx
    rw [d167_126] at h
    refine pn_go [7, 126, 165] 400 ?_
    conv => whnf
    refine ⟨fun cz1 => ?_, fun cz1 => ?_⟩
    · replace h := (if_pos cz1).symm.trans h
      conv => whnf
      cases h
      exact hx _ _
    · replace h := (if_neg cz1).symm.trans h
      conv => whnf
      intro _
      conv => whnf
      intro _
      conv => whnf
      exact ih _ _ _ r h hx
/-- X8_pass -/
noncomputable def d167 (a1 : Int32) (I : jI) : Option (Int32 × jI) :=
  (d167_7 a1 70 (I 31 0 1) 0 I).bind fun r1 =>
  (d167_126 a1 ((jup (jup r1.2 32 0 (Int32.toNatClampNeg (a1 + 3)) ((r1.2 32 0 (Int32.toNatClampNeg (a1 + 3))) + ((r1.2 31 0 1) - r1.1))) 32 0 (Int32.toNatClampNeg (a1 + 4)) (((jup r1.2 32 0 (Int32.toNatClampNeg (a1 + 3)) ((r1.2 32 0 (Int32.toNatClampNeg (a1 + 3))) + ((r1.2 31 0 1) - r1.1))) 32 0 (Int32.toNatClampNeg (a1 + 4))) + r1.1)) 32 0 (Int32.toNatClampNeg (a1 + 7))) 70 0 (jup (jup (jup r1.2 32 0 (Int32.toNatClampNeg (a1 + 3)) ((r1.2 32 0 (Int32.toNatClampNeg (a1 + 3))) + ((r1.2 31 0 1) - r1.1))) 32 0 (Int32.toNatClampNeg (a1 + 4)) (((jup r1.2 32 0 (Int32.toNatClampNeg (a1 + 3)) ((r1.2 32 0 (Int32.toNatClampNeg (a1 + 3))) + ((r1.2 31 0 1) - r1.1))) 32 0 (Int32.toNatClampNeg (a1 + 4))) + r1.1)) 32 0 (Int32.toNatClampNeg (a1 + 5)) (((jup (jup r1.2 32 0 (Int32.toNatClampNeg (a1 + 3)) ((r1.2 32 0 (Int32.toNatClampNeg (a1 + 3))) + ((r1.2 31 0 1) - r1.1))) 32 0 (Int32.toNatClampNeg (a1 + 4)) (((jup r1.2 32 0 (Int32.toNatClampNeg (a1 + 3)) ((r1.2 32 0 (Int32.toNatClampNeg (a1 + 3))) + ((r1.2 31 0 1) - r1.1))) 32 0 (Int32.toNatClampNeg (a1 + 4))) + r1.1)) 32 0 (Int32.toNatClampNeg (a1 + 5))) + ((jup (jup r1.2 32 0 (Int32.toNatClampNeg (a1 + 3)) ((r1.2 32 0 (Int32.toNatClampNeg (a1 + 3))) + ((r1.2 31 0 1) - r1.1))) 32 0 (Int32.toNatClampNeg (a1 + 4)) (((jup r1.2 32 0 (Int32.toNatClampNeg (a1 + 3)) ((r1.2 32 0 (Int32.toNatClampNeg (a1 + 3))) + ((r1.2 31 0 1) - r1.1))) 32 0 (Int32.toNatClampNeg (a1 + 4))) + r1.1)) 32 0 (Int32.toNatClampNeg (a1 + 7)))))).bind fun r2 =>
  some (((jup (jup r1.2 32 0 (Int32.toNatClampNeg (a1 + 3)) ((r1.2 32 0 (Int32.toNatClampNeg (a1 + 3))) + ((r1.2 31 0 1) - r1.1))) 32 0 (Int32.toNatClampNeg (a1 + 4)) (((jup r1.2 32 0 (Int32.toNatClampNeg (a1 + 3)) ((r1.2 32 0 (Int32.toNatClampNeg (a1 + 3))) + ((r1.2 31 0 1) - r1.1))) 32 0 (Int32.toNatClampNeg (a1 + 4))) + r1.1)) 32 0 (Int32.toNatClampNeg (a1 + 7))), (jup (jup r2 32 0 (Int32.toNatClampNeg ((a1 + 7) + 9)) 0) 32 0 (Int32.toNatClampNeg (a1 + 1)) (((jup r2 32 0 (Int32.toNatClampNeg ((a1 + 7) + 9)) 0) 32 0 (Int32.toNatClampNeg (a1 + 1))) + 1)))
set_option maxHeartbeats 4000000 in
set_option maxRecDepth 20000 in
theorem D167 {d : Nat} {k : jK} {a1 : Int32} {I : jI} {L : jL} {r : Int32 × jI} (h : d167 a1 I = some r) (hk : k (some (.inl (.inl r.1))) (r.2, L)) : jPM d 167 [.inr (31, 0), .inl (.inl a1)] (I, L) k := by
  refine pM (fun d n => ?_)
  unfold d167 at h
  refine pn_go [7, 126] 400 ?_
  conv => whnf
  obtain ⟨r1, hz1, h⟩ := obind h
  refine L167_7 _ _ _ _ _ _ hz1 (fun e3_r1 e4_r1 => ?_)
  refine pn_go [7, 126] 400 ?_
  conv => whnf
  intro _
  conv => whnf
  intro _
  conv => whnf
  intro _
  conv => whnf
  intro _
  conv => whnf
  intro _
  conv => whnf
  intro _
  conv => whnf
  intro _
  conv => whnf
  obtain ⟨r2, hz2, h⟩ := obind h
  refine L167_126 _ _ _ _ _ hz2 (fun e2_r2 e4_r2 => ?_)
  refine pn_go [7, 126] 400 ?_
  conv => whnf
  intro _
  conv => whnf
  intro _
  conv => whnf
  intro _
  conv => whnf
  cases h
  exact hk
/-- X8_week -/
noncomputable def d168 (I : jI) : Option (Int32 × jI) :=
  if (I 31 0 3) = 0 then
    some ((-4), I)
  else
    if (I 32 0 (Int32.toNatClampNeg 0)) = 40 then
      some ((-2), I)
    else
      (d163 I).bind fun r1 =>
      (d167 0 r1).bind fun r2 =>
      some (r2.1, r2.2)
set_option maxHeartbeats 4000000 in
set_option maxRecDepth 20000 in
theorem D168 {d : Nat} {k : jK} {I : jI} {L : jL} {r : Int32 × jI} (h : d168 I = some r) (hk : k (some (.inl (.inl r.1))) (r.2, L)) : jPM d 168 [.inr (31, 0)] (I, L) k := by
  refine pM (fun d n => ?_)
  unfold d168 at h
  refine pn_go [] 400 ?_
  conv => whnf
  refine ⟨fun cz1 => ?_, fun cz1 => ?_⟩
  · replace h := (if_neg cz1).symm.trans h
    conv => whnf
    intro _
    conv => whnf
    refine ⟨fun cz2 => ?_, fun cz2 => ?_⟩
    · replace h := (if_neg cz2).symm.trans h
      conv => whnf
      obtain ⟨r1, hz3, h⟩ := obind h
      refine D163 hz3 ?_
      conv => whnf
      obtain ⟨r2, hz4, h⟩ := obind h
      refine D167 hz4 ?_
      conv => whnf
      cases h
      exact hk
    · replace h := (if_pos cz2).symm.trans h
      conv => whnf
      cases h
      exact hk
  · replace h := (if_pos cz1).symm.trans h
    conv => whnf
    cases h
    exact hk
/-- X8_shrink -/
noncomputable def d169 (a1 : Int32) (I : jI) : Option (Int32 × jI) :=
  if (d151 a1 I) = 0 then
    some ((-1), I)
  else
    if (I 32 0 (Int32.toNatClampNeg (17 + a1))) = 1 then
      some ((-4), I)
    else
      if (I 32 0 (Int32.toNatClampNeg 0)) = 40 then
        some ((-2), I)
      else
        (d163 I).bind fun r1 =>
        some (((jup r1 32 0 (Int32.toNatClampNeg (17 + a1)) ((r1 32 0 (Int32.toNatClampNeg (17 + a1))) - 1)) 32 0 (Int32.toNatClampNeg (17 + a1))), (jup r1 32 0 (Int32.toNatClampNeg (17 + a1)) ((r1 32 0 (Int32.toNatClampNeg (17 + a1))) - 1)))
set_option maxHeartbeats 4000000 in
set_option maxRecDepth 20000 in
theorem D169 {d : Nat} {k : jK} {a1 : Int32} {I : jI} {L : jL} {r : Int32 × jI} (h : d169 a1 I = some r) (hk : k (some (.inl (.inl r.1))) (r.2, L)) : jPM d 169 [.inr (31, 0), .inl (.inl a1)] (I, L) k := by
  refine pM (fun d n => ?_)
  unfold d169 at h
  refine pn_go [] 400 ?_
  conv => whnf
  refine D151 rfl ?_
  conv => whnf
  refine ⟨fun cz1 => ?_, fun cz1 => ?_⟩
  · replace h := (if_neg cz1).symm.trans h
    conv => whnf
    intro _
    conv => whnf
    refine ⟨fun cz2 => ?_, fun cz2 => ?_⟩
    · replace h := (if_neg cz2).symm.trans h
      conv => whnf
      intro _
      conv => whnf
      refine ⟨fun cz3 => ?_, fun cz3 => ?_⟩
      · replace h := (if_neg cz3).symm.trans h
        conv => whnf
        obtain ⟨r1, hz4, h⟩ := obind h
        refine D163 hz4 ?_
        conv => whnf
        intro _
        conv => whnf
        intro _
        conv => whnf
        intro _
        conv => whnf
        cases h
        exact hk
      · replace h := (if_pos cz3).symm.trans h
        conv => whnf
        cases h
        exact hk
    · replace h := (if_pos cz2).symm.trans h
      conv => whnf
      cases h
      exact hk
  · replace h := (if_pos cz1).symm.trans h
    conv => whnf
    cases h
    exact hk
/-- X8_becomes -/
noncomputable def d170 (a1 : Int32) (a2 : Int32) (I : jI) : Option (Int32 × jI) :=
  if (I 32 0 (Int32.toNatClampNeg a1)) = a2 then
    some ((-4), I)
  else
    if (I 32 0 (Int32.toNatClampNeg 0)) = 40 then
      some ((-2), I)
    else
      (d163 I).bind fun r1 =>
      some ((r1 32 0 (Int32.toNatClampNeg a1)), (jup r1 32 0 (Int32.toNatClampNeg a1) a2))
set_option maxHeartbeats 4000000 in
set_option maxRecDepth 20000 in
theorem D170 {d : Nat} {k : jK} {a1 : Int32} {a2 : Int32} {I : jI} {L : jL} {r : Int32 × jI} (h : d170 a1 a2 I = some r) (hk : k (some (.inl (.inl r.1))) (r.2, L)) : jPM d 170 [.inr (31, 0), .inl (.inl a1), .inl (.inl a2)] (I, L) k := by
  refine pM (fun d n => ?_)
  unfold d170 at h
  refine pn_go [] 400 ?_
  conv => whnf
  intro _
  conv => whnf
  refine ⟨fun cz1 => ?_, fun cz1 => ?_⟩
  · replace h := (if_neg cz1).symm.trans h
    conv => whnf
    intro _
    conv => whnf
    refine ⟨fun cz2 => ?_, fun cz2 => ?_⟩
    · replace h := (if_neg cz2).symm.trans h
      conv => whnf
      obtain ⟨r1, hz3, h⟩ := obind h
      refine D163 hz3 ?_
      conv => whnf
      intro _
      conv => whnf
      intro _
      conv => whnf
      cases h
      exact hk
    · replace h := (if_pos cz2).symm.trans h
      conv => whnf
      cases h
      exact hk
  · replace h := (if_pos cz1).symm.trans h
    conv => whnf
    cases h
    exact hk
/-- X8_price -/
noncomputable def d171 (a1 : Int32) (a2 : Int32) (I : jI) : Option (Int32 × jI) :=
  if (d151 a1 I) = 0 then
    some ((-1), I)
  else
    if (d124 (Int32.toInt64 a2) 0 99 I) = 0 then
      some ((-1), I)
    else
      (d170 (23 + a1) a2 I).bind fun r1 =>
      some (r1.1, r1.2)
set_option maxHeartbeats 4000000 in
set_option maxRecDepth 20000 in
theorem D171 {d : Nat} {k : jK} {a1 : Int32} {a2 : Int32} {I : jI} {L : jL} {r : Int32 × jI} (h : d171 a1 a2 I = some r) (hk : k (some (.inl (.inl r.1))) (r.2, L)) : jPM d 171 [.inr (31, 0), .inl (.inl a1), .inl (.inl a2)] (I, L) k := by
  refine pM (fun d n => ?_)
  unfold d171 at h
  refine pn_go [] 400 ?_
  conv => whnf
  refine D151 rfl ?_
  conv => whnf
  refine ⟨fun cz1 => ?_, fun cz1 => ?_⟩
  · replace h := (if_pos cz1).symm.trans h
    conv => whnf
    cases h
    exact hk
  · replace h := (if_neg cz1).symm.trans h
    conv => whnf
    refine D124 rfl ?_
    conv => whnf
    refine ⟨fun cz2 => ?_, fun cz2 => ?_⟩
    · replace h := (if_pos cz2).symm.trans h
      conv => whnf
      cases h
      exact hk
    · replace h := (if_neg cz2).symm.trans h
      conv => whnf
      obtain ⟨r1, hz3, h⟩ := obind h
      refine D170 hz3 ?_
      conv => whnf
      cases h
      exact hk
/-- X8_card -/
noncomputable def d172 (a1 : Int32) (I : jI) : Option (Int32 × jI) :=
  if (d124 (Int32.toInt64 a1) 0 1 I) = 0 then
    some ((-1), I)
  else
    if (I 31 0 3) = 0 then
      some ((-4), I)
    else
      (d170 6 a1 I).bind fun r1 =>
      if 0 ≤ r1.1 then
        some (a1, r1.2)
      else
        some (r1.1, r1.2)
set_option maxHeartbeats 4000000 in
set_option maxRecDepth 20000 in
theorem D172 {d : Nat} {k : jK} {a1 : Int32} {I : jI} {L : jL} {r : Int32 × jI} (h : d172 a1 I = some r) (hk : k (some (.inl (.inl r.1))) (r.2, L)) : jPM d 172 [.inr (31, 0), .inl (.inl a1)] (I, L) k := by
  refine pM (fun d n => ?_)
  unfold d172 at h
  refine pn_go [] 400 ?_
  conv => whnf
  refine D124 rfl ?_
  conv => whnf
  refine ⟨fun cz1 => ?_, fun cz1 => ?_⟩
  · replace h := (if_neg cz1).symm.trans h
    conv => whnf
    refine ⟨fun cz2 => ?_, fun cz2 => ?_⟩
    · replace h := (if_neg cz2).symm.trans h
      conv => whnf
      obtain ⟨r1, hz3, h⟩ := obind h
      refine D170 hz3 ?_
      conv => whnf
      refine ⟨fun cz4 => ?_, fun cz4 => ?_⟩
      · replace h := (if_pos cz4).symm.trans h
        conv => whnf
        cases h
        exact hk
      · replace h := (if_neg cz4).symm.trans h
        conv => whnf
        cases h
        exact hk
    · replace h := (if_pos cz2).symm.trans h
      conv => whnf
      cases h
      exact hk
  · replace h := (if_pos cz1).symm.trans h
    conv => whnf
    cases h
    exact hk
/-- X8_undo, loop at 29 -/
noncomputable def d173_29 (y1 : Int32) (y2 : Int32) : Nat → Int32 → jI → Option (jI)
  | 0, _, _ => none
  | F + 1, x3, I =>
    if 28 ≤ x3 then
      some I
    else
      if y2 ≤ 0 then
        some I
      else
        d173_29 y1 y2 F (x3 + 1) (jup I 32 0 (Int32.toNatClampNeg (1 + x3)) (I 32 0 (Int32.toNatClampNeg ((29 + (28 * y1)) + x3))))
set_option maxHeartbeats 4000000 in
set_option maxRecDepth 20000 in
theorem L173_29 {d n : Nat} {k : jK} {y1 : Int32} {y2 : Int32} {L : jL} : ∀ (F : Nat) (x3 : Int32) (I : jI) (r : jI), d173_29 y1 y2 F x3 I = some r → (∀ (f3 : Option jV), pn (jPM d) k none (jco 173) n (67, [some (.inr (31, 0)), some (.inl (.inl y1)), some (.inl (.inl y2)), f3], [], r, L)) → pn (jPM d) k none (jco 173) n (29, [some (.inr (31, 0)), some (.inl (.inl y1)), some (.inl (.inl y2)), some (.inl (.inl x3))], [], I, L) := by
  intro F
  induction F with
  | zero => intro x3 I r h hx; cases h
  | succ F ih =>
    intro x3 I r h hx
    rw [d173_29] at h
    refine pn_go [29, 67] 400 ?_
    conv => whnf
    refine ⟨fun cz1 => ?_, fun cz1 => ?_⟩
    · replace h := (if_pos cz1).symm.trans h
      conv => whnf
      cases h
      exact hx _
    · replace h := (if_neg cz1).symm.trans h
      conv => whnf
      refine ⟨fun cz2 => ?_, fun cz2 => ?_⟩
      · replace h := (if_pos cz2).symm.trans h
        conv => whnf
        cases h
        exact hx _
      · replace h := (if_neg cz2).symm.trans h
        conv => whnf
        intro _
        conv => whnf
        intro _
        conv => whnf
        exact ih _ _ r h hx
/-- X8_undo -/
noncomputable def d173 (a1 : Int32) (I : jI) : Option (Int32 × jI) :=
  if (d124 (Int32.toInt64 a1) 0 (Int32.toInt64 (I 32 0 (Int32.toNatClampNeg 0))) I) = 0 then
    some ((-1), I)
  else
    (d173_29 a1 ((I 32 0 (Int32.toNatClampNeg 0)) - a1) 70 0 I).bind fun r1 =>
    some (((I 32 0 (Int32.toNatClampNeg 0)) - a1), (jup r1 32 0 (Int32.toNatClampNeg 0) a1))
set_option maxHeartbeats 4000000 in
set_option maxRecDepth 20000 in
theorem D173 {d : Nat} {k : jK} {a1 : Int32} {I : jI} {L : jL} {r : Int32 × jI} (h : d173 a1 I = some r) (hk : k (some (.inl (.inl r.1))) (r.2, L)) : jPM d 173 [.inr (31, 0), .inl (.inl a1)] (I, L) k := by
  refine pM (fun d n => ?_)
  unfold d173 at h
  refine pn_go [29] 400 ?_
  conv => whnf
  intro _
  conv => whnf
  refine D124 rfl ?_
  conv => whnf
  refine ⟨fun cz1 => ?_, fun cz1 => ?_⟩
  · replace h := (if_neg cz1).symm.trans h
    conv => whnf
    intro _
    conv => whnf
    obtain ⟨r1, hz2, h⟩ := obind h
    refine L173_29 _ _ _ _ hz2 (fun e3_r1 => ?_)
    refine pn_go [29] 400 ?_
    conv => whnf
    intro _
    conv => whnf
    cases h
    exact hk
  · replace h := (if_pos cz1).symm.trans h
    conv => whnf
    cases h
    exact hk
/-- X8_copyHouse, loop at 2 -/
noncomputable def d174_2 (y1 : Int32) (y2 : Int32) : Nat → Int32 → jI → Option (jI)
  | 0, _, _ => none
  | F + 1, x3, I =>
    if 1149 ≤ x3 then
      some I
    else
      d174_2 y1 y2 F (x3 + 1) (jup I 32 0 (Int32.toNatClampNeg (y2 + x3)) (I 32 0 (Int32.toNatClampNeg (y1 + x3))))
set_option maxHeartbeats 4000000 in
set_option maxRecDepth 20000 in
theorem L174_2 {d n : Nat} {k : jK} {y1 : Int32} {y2 : Int32} {L : jL} : ∀ (F : Nat) (x3 : Int32) (I : jI) (r : jI), d174_2 y1 y2 F x3 I = some r → (∀ (f3 : Option jV), pn (jPM d) k none (jco 174) n (31, [some (.inr (31, 0)), some (.inl (.inl y1)), some (.inl (.inl y2)), f3], [], r, L)) → pn (jPM d) k none (jco 174) n (2, [some (.inr (31, 0)), some (.inl (.inl y1)), some (.inl (.inl y2)), some (.inl (.inl x3))], [], I, L) := by
  intro F
  induction F with
  | zero => intro x3 I r h hx; cases h
  | succ F ih =>
    intro x3 I r h hx
    rw [d174_2] at h
    refine pn_go [2, 31] 400 ?_
    conv => whnf
    refine ⟨fun cz1 => ?_, fun cz1 => ?_⟩
    · replace h := (if_pos cz1).symm.trans h
      conv => whnf
      cases h
      exact hx _
    · replace h := (if_neg cz1).symm.trans h
      conv => whnf
      intro _
      conv => whnf
      intro _
      conv => whnf
      exact ih _ _ r h hx
/-- X8_copyHouse -/
noncomputable def d174 (a1 : Int32) (a2 : Int32) (I : jI) : Option (jI) :=
  (d174_2 a1 a2 1200 0 I).bind fun r1 =>
  some r1
set_option maxHeartbeats 4000000 in
set_option maxRecDepth 20000 in
theorem D174 {d : Nat} {k : jK} {a1 : Int32} {a2 : Int32} {I : jI} {L : jL} {r : jI} (h : d174 a1 a2 I = some r) (hk : k none (r, L)) : jPM d 174 [.inr (31, 0), .inl (.inl a1), .inl (.inl a2)] (I, L) k := by
  refine pM (fun d n => ?_)
  unfold d174 at h
  refine pn_go [2] 400 ?_
  conv => whnf
  obtain ⟨r1, hz1, h⟩ := obind h
  refine L174_2 _ _ _ _ hz1 (fun e3_r1 => ?_)
  refine pn_go [2] 400 ?_
  conv => whnf
  cases h
  exact hk
/-- X8_keep -/
noncomputable def d175 (a1 : Int32) (I : jI) : Option (Int32 × jI) :=
  if (d124 (Int32.toInt64 a1) 0 2 I) = 0 then
    some ((-1), I)
  else
    if (I 31 0 3) = 0 then
      some ((-4), I)
    else
      (d174 0 (1149 * (1 + a1)) I).bind fun r1 =>
      some ((r1 32 0 (Int32.toNatClampNeg 0)), r1)
set_option maxHeartbeats 4000000 in
set_option maxRecDepth 20000 in
theorem D175 {d : Nat} {k : jK} {a1 : Int32} {I : jI} {L : jL} {r : Int32 × jI} (h : d175 a1 I = some r) (hk : k (some (.inl (.inl r.1))) (r.2, L)) : jPM d 175 [.inr (31, 0), .inl (.inl a1)] (I, L) k := by
  refine pM (fun d n => ?_)
  unfold d175 at h
  refine pn_go [] 400 ?_
  conv => whnf
  refine D124 rfl ?_
  conv => whnf
  refine ⟨fun cz1 => ?_, fun cz1 => ?_⟩
  · replace h := (if_neg cz1).symm.trans h
    conv => whnf
    refine ⟨fun cz2 => ?_, fun cz2 => ?_⟩
    · replace h := (if_neg cz2).symm.trans h
      conv => whnf
      obtain ⟨r1, hz3, h⟩ := obind h
      refine D174 hz3 ?_
      conv => whnf
      intro _
      conv => whnf
      cases h
      exact hk
    · replace h := (if_pos cz2).symm.trans h
      conv => whnf
      cases h
      exact hk
  · replace h := (if_pos cz1).symm.trans h
    conv => whnf
    cases h
    exact hk
end
section
/-- X8_on -/
noncomputable def d176 (a1 : Int32) (I : jI) : Option (Int32 × jI) :=
  if (d124 (Int32.toInt64 a1) 0 2 I) = 0 then
    some ((-1), I)
  else
    if 0 ≤ (I 32 0 (Int32.toNatClampNeg ((1149 * (1 + a1)) + 0))) then
      (d174 (1149 * (1 + a1)) 0 I).bind fun r1 =>
      some ((r1 32 0 (Int32.toNatClampNeg 0)), r1)
    else
      some (((d126 1 I).1), ((d126 1 I).2))
set_option maxHeartbeats 4000000 in
set_option maxRecDepth 20000 in
theorem D176 {d : Nat} {k : jK} {a1 : Int32} {I : jI} {L : jL} {r : Int32 × jI} (h : d176 a1 I = some r) (hk : k (some (.inl (.inl r.1))) (r.2, L)) : jPM d 176 [.inr (31, 0), .inl (.inl a1)] (I, L) k := by
  refine pM (fun d n => ?_)
  unfold d176 at h
  refine pn_go [] 400 ?_
  conv => whnf
  refine D124 rfl ?_
  conv => whnf
  refine ⟨fun cz1 => ?_, fun cz1 => ?_⟩
  · replace h := (if_neg cz1).symm.trans h
    conv => whnf
    intro _
    conv => whnf
    refine ⟨fun cz2 => ?_, fun cz2 => ?_⟩
    · replace h := (if_pos cz2).symm.trans h
      conv => whnf
      obtain ⟨r1, hz3, h⟩ := obind h
      refine D174 hz3 ?_
      conv => whnf
      intro _
      conv => whnf
      cases h
      exact hk
    · replace h := (if_neg cz2).symm.trans h
      conv => whnf
      refine D126 rfl ?_
      conv => whnf
      cases h
      exact hk
  · replace h := (if_pos cz1).symm.trans h
    conv => whnf
    cases h
    exact hk
end
section
/-- X8_power, loop at 4 -/
noncomputable def d183_4 (y0 : Int32) (y1 : Int32) (I : jI) : Nat → Int32 → Int32 → Option (Int32)
  | 0, _, _ => none
  | F + 1, x2, x3 =>
    if y1 ≤ x3 then
      some x2
    else
      d183_4 y0 y1 I F (x2 * y0) (x3 + 1)
set_option maxHeartbeats 4000000 in
set_option maxRecDepth 20000 in
theorem L183_4 {d n : Nat} {k : jK} {y0 : Int32} {y1 : Int32} {I : jI} {L : jL} : ∀ (F : Nat) (x2 : Int32) (x3 : Int32) (r : Int32), d183_4 y0 y1 I F x2 x3 = some r → (∀ (f3 : Option jV), pn (jPM d) k none (jco 183) n (19, [some (.inl (.inl y0)), some (.inl (.inl y1)), some (.inl (.inl r)), f3], [], I, L)) → pn (jPM d) k none (jco 183) n (4, [some (.inl (.inl y0)), some (.inl (.inl y1)), some (.inl (.inl x2)), some (.inl (.inl x3))], [], I, L) := by
  intro F
  induction F with
  | zero => intro x2 x3 r h hx; cases h
  | succ F ih =>
    intro x2 x3 r h hx
    rw [d183_4] at h
    refine pn_go [4, 19] 400 ?_
    conv => whnf
    refine ⟨fun cz1 => ?_, fun cz1 => ?_⟩
    · replace h := (if_pos cz1).symm.trans h
      conv => whnf
      cases h
      exact hx _
    · replace h := (if_neg cz1).symm.trans h
      conv => whnf
      exact ih _ _ r h hx
/-- X8_power -/
noncomputable def d183 (a0 : Int32) (a1 : Int32) (I : jI) : Option (Int32) :=
  (d183_4 a0 a1 I 70 1 0).bind fun r1 =>
  some r1
set_option maxHeartbeats 4000000 in
set_option maxRecDepth 20000 in
theorem D183 {d : Nat} {k : jK} {a0 : Int32} {a1 : Int32} {I : jI} {L : jL} {r : Int32} (h : d183 a0 a1 I = some r) (hk : k (some (.inl (.inl r))) (I, L)) : jPM d 183 [.inl (.inl a0), .inl (.inl a1)] (I, L) k := by
  refine pM (fun d n => ?_)
  unfold d183 at h
  refine pn_go [4] 400 ?_
  conv => whnf
  obtain ⟨r1, hz1, h⟩ := obind h
  refine L183_4 _ _ _ _ hz1 (fun e3_r1 => ?_)
  refine pn_go [4] 400 ?_
  conv => whnf
  cases h
  exact hk
/-- X8_least, loop at 63 -/
noncomputable def d184_63 (y1 : Int32) (y2 : Int32) (y3 : Int32) (y4 : Int32) (y5 : Int32) (I : jI) : Nat → Int32 → Int32 → Int32 → Option (Int32 × Int32)
  | 0, _, _, _ => none
  | F + 1, x6, x7, x8 =>
    if (I 31 0 3) ≤ x8 then
      some (x6, x7)
    else
      d184_63 y1 y2 y3 y4 y5 I F (x6 + (d153 0 x8 ((y5 >>> ((2 * (((I 31 0 3) - 1) - x8)) &&& 31)) &&& 3) I)) (x7 + (((y5 >>> ((2 * (((I 31 0 3) - 1) - x8)) &&& 31)) &&& 3) * (d155 0 x8 I))) (x8 + 1)
set_option maxHeartbeats 4000000 in
set_option maxRecDepth 20000 in
theorem L184_63 {d n : Nat} {k : jK} {y1 : Int32} {y2 : Int32} {y3 : Int32} {y4 : Int32} {y5 : Int32} {I : jI} {L : jL} : ∀ (F : Nat) (x6 : Int32) (x7 : Int32) (x8 : Int32) (e9 : Option jV) (r : Int32 × Int32), d184_63 y1 y2 y3 y4 y5 I F x6 x7 x8 = some r → (∀ (f8 f9 : Option jV), pn (jPM d) k none (jco 184) n (125, [some (.inr (31, 0)), some (.inl (.inl y1)), some (.inl (.inl y2)), some (.inl (.inl y3)), some (.inl (.inl y4)), some (.inl (.inl y5)), some (.inl (.inl r.1)), some (.inl (.inl r.2)), f8, f9], [], I, L)) → pn (jPM d) k none (jco 184) n (63, [some (.inr (31, 0)), some (.inl (.inl y1)), some (.inl (.inl y2)), some (.inl (.inl y3)), some (.inl (.inl y4)), some (.inl (.inl y5)), some (.inl (.inl x6)), some (.inl (.inl x7)), some (.inl (.inl x8)), e9], [], I, L) := by
  intro F
  induction F with
  | zero => intro x6 x7 x8 e9 r h hx; cases h
  | succ F ih =>
    intro x6 x7 x8 e9 r h hx
    rw [d184_63] at h
    refine pn_go [41, 63, 125, 172] 400 ?_
    conv => whnf
    refine ⟨fun cz1 => ?_, fun cz1 => ?_⟩
    · replace h := (if_pos cz1).symm.trans h
      conv => whnf
      cases h
      exact hx _ _
    · replace h := (if_neg cz1).symm.trans h
      conv => whnf
      refine D153 rfl ?_
      conv => whnf
      refine D155 rfl ?_
      conv => whnf
      exact ih _ _ _ _ r h hx
/-- X8_least, loop at 41 -/
noncomputable def d184_41 (y1 : Int32) (y2 : Int32) (I : jI) : Nat → Int32 → Int32 → Int32 → Option (Int32 × Int32)
  | 0, _, _, _ => none
  | F + 1, x3, x4, x5 =>
    (d183 4 (I 31 0 3) I).bind fun r1 =>
    if r1 ≤ x5 then
      some (x3, x4)
    else
      (d184_63 y1 y2 x3 x4 x5 I 5000 0 0 0).bind fun r2 =>
      if r2.2 < y1 then
        d184_41 y1 y2 I F x3 x4 (x5 + 1)
      else
        if x3 ≤ r2.1 then
          d184_41 y1 y2 I F x3 x4 (x5 + 1)
        else
          d184_41 y1 y2 I F r2.1 x5 (x5 + 1)
set_option maxHeartbeats 4000000 in
set_option maxRecDepth 20000 in
theorem L184_41 {d n : Nat} {k : jK} {y1 : Int32} {y2 : Int32} {I : jI} {L : jL} : ∀ (F : Nat) (x3 : Int32) (x4 : Int32) (x5 : Int32) (e6 e7 e8 e9 : Option jV) (r : Int32 × Int32), d184_41 y1 y2 I F x3 x4 x5 = some r → (∀ (f5 f6 f7 f8 f9 : Option jV), pn (jPM d) k none (jco 184) n (150, [some (.inr (31, 0)), some (.inl (.inl y1)), some (.inl (.inl y2)), some (.inl (.inl r.1)), some (.inl (.inl r.2)), f5, f6, f7, f8, f9], [], I, L)) → pn (jPM d) k none (jco 184) n (41, [some (.inr (31, 0)), some (.inl (.inl y1)), some (.inl (.inl y2)), some (.inl (.inl x3)), some (.inl (.inl x4)), some (.inl (.inl x5)), e6, e7, e8, e9], [], I, L) := by
  intro F
  induction F with
  | zero => intro x3 x4 x5 e6 e7 e8 e9 r h hx; cases h
  | succ F ih =>
    intro x3 x4 x5 e6 e7 e8 e9 r h hx
    rw [d184_41] at h
    refine pn_go [41, 63, 150, 172] 400 ?_
    conv => whnf
    obtain ⟨r1, hz1, h⟩ := obind h
    refine D183 hz1 ?_
    conv => whnf
    refine ⟨fun cz2 => ?_, fun cz2 => ?_⟩
    · replace h := (if_pos cz2).symm.trans h
      conv => whnf
      cases h
      exact hx _ _ _ _ _
    · replace h := (if_neg cz2).symm.trans h
      conv => whnf
      obtain ⟨r2, hz3, h⟩ := obind h
      refine L184_63 _ _ _ _ _ _ hz3 (fun e8_r2 e9_r2 => ?_)
      refine pn_go [41, 63, 150, 172] 400 ?_
      conv => whnf
      refine ⟨fun cz4 => ?_, fun cz4 => ?_⟩
      · replace h := (if_pos cz4).symm.trans h
        conv => whnf
        exact ih _ _ _ _ _ _ _ r h hx
      · replace h := (if_neg cz4).symm.trans h
        conv => whnf
        refine ⟨fun cz5 => ?_, fun cz5 => ?_⟩
        · replace h := (if_pos cz5).symm.trans h
          conv => whnf
          exact ih _ _ _ _ _ _ _ r h hx
        · replace h := (if_neg cz5).symm.trans h
          conv => whnf
          exact ih _ _ _ _ _ _ _ r h hx
/-- X8_least, loop at 172 -/
noncomputable def d184_172 (y2 : Int32) (y3 : Int32) (y4 : Int32) : Nat → Int32 → jI → Option (jI)
  | 0, _, _ => none
  | F + 1, x5, I =>
    if (I 31 0 3) ≤ x5 then
      some I
    else
      d184_172 y2 y3 y4 F (x5 + 1) (jup I 36 0 (Int32.toNatClampNeg ((40 * y2) + x5)) ((y4 >>> ((2 * (((I 31 0 3) - 1) - x5)) &&& 31)) &&& 3))
set_option maxHeartbeats 4000000 in
set_option maxRecDepth 20000 in
theorem L184_172 {d n : Nat} {k : jK} {y2 : Int32} {y3 : Int32} {y4 : Int32} {L : jL} : ∀ (F : Nat) (x5 : Int32) (I : jI) (e1 e6 e7 e8 e9 : Option jV) (r : jI), d184_172 y2 y3 y4 F x5 I = some r → (∀ (f1 f5 f6 f7 f8 f9 : Option jV), pn (jPM d) k none (jco 184) n (215, [some (.inr (31, 0)), f1, some (.inl (.inl y2)), some (.inl (.inl y3)), some (.inl (.inl y4)), f5, f6, f7, f8, f9], [], r, L)) → pn (jPM d) k none (jco 184) n (172, [some (.inr (31, 0)), e1, some (.inl (.inl y2)), some (.inl (.inl y3)), some (.inl (.inl y4)), some (.inl (.inl x5)), e6, e7, e8, e9], [], I, L) := by
  intro F
  induction F with
  | zero => intro x5 I e1 e6 e7 e8 e9 r h hx; cases h
  | succ F ih =>
    intro x5 I e1 e6 e7 e8 e9 r h hx
    rw [d184_172] at h
    refine pn_go [41, 63, 172, 215] 400 ?_
    conv => whnf
    refine ⟨fun cz1 => ?_, fun cz1 => ?_⟩
    · replace h := (if_pos cz1).symm.trans h
      conv => whnf
      cases h
      exact hx _ _ _ _ _ _
    · replace h := (if_neg cz1).symm.trans h
      conv => whnf
      intro _
      conv => whnf
      exact ih _ _ _ _ _ _ _ r h hx
/-- X8_least -/
noncomputable def d184 (a1 : Int32) (a2 : Int32) (I : jI) : Option (Int32 × jI) :=
  if (d124 (Int32.toInt64 a1) 0 30 I) = 0 then
    some ((-1), I)
  else
    if (d128 a2 I) = 0 then
      some ((-1), I)
    else
      if (I 31 0 3) = 0 then
        some ((-4), I)
      else
        (d184_41 a1 a2 I 5000 99999 (-9) 0).bind fun r3 =>
        if r3.2 = (-9) then
          some ((-9), I)
        else
          (d131 a2 (I 31 0 3) I).bind fun r4 =>
          (d184_172 a2 r3.1 r3.2 5000 0 r4).bind fun r5 =>
          some (r3.1, r5)
set_option maxHeartbeats 4000000 in
set_option maxRecDepth 20000 in
theorem D184 {d : Nat} {k : jK} {a1 : Int32} {a2 : Int32} {I : jI} {L : jL} {r : Int32 × jI} (h : d184 a1 a2 I = some r) (hk : k (some (.inl (.inl r.1))) (r.2, L)) : jPM d 184 [.inr (31, 0), .inl (.inl a1), .inl (.inl a2)] (I, L) k := by
  refine pM (fun d n => ?_)
  unfold d184 at h
  refine pn_go [41, 63, 172] 400 ?_
  conv => whnf
  refine D124 rfl ?_
  conv => whnf
  refine ⟨fun cz1 => ?_, fun cz1 => ?_⟩
  · replace h := (if_pos cz1).symm.trans h
    conv => whnf
    cases h
    exact hk
  · replace h := (if_neg cz1).symm.trans h
    conv => whnf
    refine D128 rfl ?_
    conv => whnf
    refine ⟨fun cz2 => ?_, fun cz2 => ?_⟩
    · replace h := (if_neg cz2).symm.trans h
      conv => whnf
      refine ⟨fun cz3 => ?_, fun cz3 => ?_⟩
      · replace h := (if_neg cz3).symm.trans h
        conv => whnf
        obtain ⟨r3, hz4, h⟩ := obind h
        refine L184_41 _ _ _ _ _ _ _ _ _ hz4 (fun e5_r3 e6_r3 e7_r3 e8_r3 e9_r3 => ?_)
        refine pn_go [41, 63, 172] 400 ?_
        conv => whnf
        refine ⟨fun cz5 => ?_, fun cz5 => ?_⟩
        · replace h := (if_neg cz5).symm.trans h
          conv => whnf
          obtain ⟨r4, hz6, h⟩ := obind h
          refine D131 hz6 ?_
          conv => whnf
          obtain ⟨r5, hz7, h⟩ := obind h
          refine L184_172 _ _ _ _ _ _ _ _ _ hz7 (fun e1_r5 e5_r5 e6_r5 e7_r5 e8_r5 e9_r5 => ?_)
          refine pn_go [41, 63, 172] 400 ?_
          conv => whnf
          cases h
          exact hk
        · replace h := (if_pos cz5).symm.trans h
          conv => whnf
          cases h
          exact hk
      · replace h := (if_pos cz3).symm.trans h
        conv => whnf
        cases h
        exact hk
    · replace h := (if_pos cz2).symm.trans h
      conv => whnf
      cases h
      exact hk
/-- X8_layTried, loop at 2 -/
noncomputable def d185_2 : Nat → Int32 → jI → Option (jI)
  | 0, _, _ => none
  | F + 1, x1, I =>
    if 29 ≤ x1 then
      some I
    else
      d185_2 F (x1 + 1) (jup I 32 0 (Int32.toNatClampNeg (4596 + x1)) (I 32 0 (Int32.toNatClampNeg x1)))
set_option maxHeartbeats 4000000 in
set_option maxRecDepth 20000 in
theorem L185_2 {d n : Nat} {k : jK} {L : jL} : ∀ (F : Nat) (x1 : Int32) (I : jI) (r : jI), d185_2 F x1 I = some r → (∀ (f1 : Option jV), pn (jPM d) k none (jco 185) n (30, [some (.inr (31, 0)), f1], [], r, L)) → pn (jPM d) k none (jco 185) n (2, [some (.inr (31, 0)), some (.inl (.inl x1))], [], I, L) := by
  intro F
  induction F with
  | zero => intro x1 I r h hx; cases h
  | succ F ih =>
    intro x1 I r h hx
    rw [d185_2] at h
    refine pn_go [2, 30] 400 ?_
    conv => whnf
    refine ⟨fun cz1 => ?_, fun cz1 => ?_⟩
    · replace h := (if_pos cz1).symm.trans h
      conv => whnf
      cases h
      exact hx _
    · replace h := (if_neg cz1).symm.trans h
      conv => whnf
      intro _
      conv => whnf
      intro _
      conv => whnf
      exact ih _ _ r h hx
/-- X8_layTried -/
noncomputable def d185 (I : jI) : Option (jI) :=
  (d185_2 70 0 I).bind fun r1 =>
  some r1
set_option maxHeartbeats 4000000 in
set_option maxRecDepth 20000 in
theorem D185 {d : Nat} {k : jK} {I : jI} {L : jL} {r : jI} (h : d185 I = some r) (hk : k none (r, L)) : jPM d 185 [.inr (31, 0)] (I, L) k := by
  refine pM (fun d n => ?_)
  unfold d185 at h
  refine pn_go [2] 400 ?_
  conv => whnf
  obtain ⟨r1, hz1, h⟩ := obind h
  refine L185_2 _ _ _ _ hz1 (fun e1_r1 => ?_)
  refine pn_go [2] 400 ?_
  conv => whnf
  cases h
  exact hk
/-- X8_chosen -/
noncomputable def d186 (a1 : Int32) (a2 : Int32) (a3 : Int32) (I : jI) : Option (Int32) :=
  (d183 ((I 31 0 3) + 1) ((a2 - 1) - a3) I).bind fun r1 =>
  some (((a1 / r1) - (a1 / r1) / ((I 31 0 3) + 1) * ((I 31 0 3) + 1)) - 1)
set_option maxHeartbeats 4000000 in
set_option maxRecDepth 20000 in
theorem D186 {d : Nat} {k : jK} {a1 : Int32} {a2 : Int32} {a3 : Int32} {I : jI} {L : jL} {r : Int32} (h : d186 a1 a2 a3 I = some r) (hk : k (some (.inl (.inl r))) (I, L)) : jPM d 186 [.inr (31, 0), .inl (.inl a1), .inl (.inl a2), .inl (.inl a3)] (I, L) k := by
  refine pM (fun d n => ?_)
  unfold d186 at h
  refine pn_go [] 400 ?_
  conv => whnf
  obtain ⟨r1, hz1, h⟩ := obind h
  refine D183 hz1 ?_
  conv => whnf
  intro _
  conv => whnf
  intro _
  conv => whnf
  cases h
  exact hk
/-- X8_isWell, loop at 6 -/
noncomputable def d187_6 (y1 : Int32) (y2 : Int32) : Nat → Int32 → jI → Option ((Int32 × jI) ⊕ (jI))
  | 0, _, _ => none
  | F + 1, x3, I =>
    if y2 ≤ x3 then
      some (.inr I)
    else
      (d186 y1 y2 x3 I).bind fun r2 =>
      if r2 < 0 then
        (d167 4596 I).bind fun r3 =>
        d187_6 y1 y2 F (x3 + 1) r3.2
      else
        (d164 4596 r2 1 I).bind fun r4 =>
        if r4 = 0 then
          some (.inl (0, I))
        else
          (d167 4596 ((d165 4596 r2 1 I).2)).bind fun r5 =>
          d187_6 y1 y2 F (x3 + 1) r5.2
set_option maxHeartbeats 4000000 in
set_option maxRecDepth 20000 in
theorem L187_6 {d n : Nat} {k : jK} {y1 : Int32} {y2 : Int32} {L : jL} : ∀ (F : Nat) (x3 : Int32) (I : jI) (e4 : Option jV) (r : (Int32 × jI) ⊕ (jI)), d187_6 y1 y2 F x3 I = some r → ((∀ q, r = .inl q → k (some (.inl (.inl q.1))) (q.2, L)) ∧ (∀ q, r = .inr q → ∀ (f3 f4 : Option jV), pn (jPM d) k none (jco 187) n (65, [some (.inr (31, 0)), some (.inl (.inl y1)), some (.inl (.inl y2)), f3, f4], [], q, L))) → pn (jPM d) k none (jco 187) n (6, [some (.inr (31, 0)), some (.inl (.inl y1)), some (.inl (.inl y2)), some (.inl (.inl x3)), e4], [], I, L) := by
  intro F
  induction F with
  | zero => intro x3 I e4 r h hx; cases h
  | succ F ih =>
    intro x3 I e4 r h hx
    rw [d187_6] at h
    refine pn_go [6, 65] 400 ?_
    conv => whnf
    refine ⟨fun cz1 => ?_, fun cz1 => ?_⟩
    · replace h := (if_pos cz1).symm.trans h
      conv => whnf
      cases h
      exact hx.2 _ rfl _ _
    · replace h := (if_neg cz1).symm.trans h
      conv => whnf
      obtain ⟨r2, hz2, h⟩ := obind h
      refine D186 hz2 ?_
      conv => whnf
      refine ⟨fun cz3 => ?_, fun cz3 => ?_⟩
      · replace h := (if_pos cz3).symm.trans h
        conv => whnf
        obtain ⟨r3, hz4, h⟩ := obind h
        refine D167 hz4 ?_
        conv => whnf
        exact ih _ _ _ r h hx
      · replace h := (if_neg cz3).symm.trans h
        conv => whnf
        obtain ⟨r4, hz5, h⟩ := obind h
        refine D164 hz5 ?_
        conv => whnf
        refine ⟨fun cz6 => ?_, fun cz6 => ?_⟩
        · replace h := (if_neg cz6).symm.trans h
          conv => whnf
          refine D165 rfl ?_
          conv => whnf
          obtain ⟨r5, hz7, h⟩ := obind h
          refine D167 hz7 ?_
          conv => whnf
          exact ih _ _ _ r h hx
        · replace h := (if_pos cz6).symm.trans h
          conv => whnf
          cases h
          exact fun _ => hx.1 _ rfl
/-- X8_isWell -/
noncomputable def d187 (a1 : Int32) (a2 : Int32) (I : jI) : Option (Int32 × jI) :=
  (d185 I).bind fun r1 =>
  (d187_6 a1 a2 70 0 r1).bind fun r6 => match r6 with
  | .inl q7 => some q7
  | .inr q7 =>
    if (q7 32 0 (Int32.toNatClampNeg 4600)) = (q7 32 0 (Int32.toNatClampNeg 4)) then
      some (1, q7)
    else
      some (0, q7)
set_option maxHeartbeats 4000000 in
set_option maxRecDepth 20000 in
theorem D187 {d : Nat} {k : jK} {a1 : Int32} {a2 : Int32} {I : jI} {L : jL} {r : Int32 × jI} (h : d187 a1 a2 I = some r) (hk : k (some (.inl (.inl r.1))) (r.2, L)) : jPM d 187 [.inr (31, 0), .inl (.inl a1), .inl (.inl a2)] (I, L) k := by
  refine pM (fun d n => ?_)
  unfold d187 at h
  refine pn_go [6] 400 ?_
  conv => whnf
  obtain ⟨r1, hz1, h⟩ := obind h
  refine D185 hz1 ?_
  conv => whnf
  obtain ⟨r6, hz2, h⟩ := obind h
  rcases r6 with q7 | q7
  · dsimp only at h
    refine L187_6 _ _ _ _ _ hz2 ⟨fun q e => ?_, fun q e => by cases e⟩
    cases e
    cases h
    exact hk
  · dsimp only at h
    refine L187_6 _ _ _ _ _ hz2 ⟨fun q e => (by cases e), fun q e e3_r6 e4_r6 => ?_⟩
    cases e
    refine pn_go [6] 400 ?_
    conv => whnf
    intro _
    conv => whnf
    intro _
    conv => whnf
    refine ⟨fun cz3 => ?_, fun cz3 => ?_⟩
    · replace h := (if_neg cz3).symm.trans h
      conv => whnf
      cases h
      exact fun _ => hk
    · replace h := (if_pos cz3).symm.trans h
      conv => whnf
      cases h
      exact fun _ => hk
/-- X8_weeks, loop at 41 -/
noncomputable def d188_41 (y1 : Int32) (y2 : Int32) : Nat → Int32 → Int32 → Int32 → jI → Option (Int32 × Int32 × jI)
  | 0, _, _, _, _ => none
  | F + 1, x3, x4, x5, I =>
    (d183 ((I 31 0 3) + 1) y1 I).bind fun r1 =>
    if r1 ≤ x5 then
      some (x3, x4, I)
    else
      (d187 x5 y1 I).bind fun r2 =>
      if r2.1 = 0 then
        d188_41 y1 y2 F x3 x4 (x5 + 1) r2.2
      else
        if x3 ≤ ((r2.2 32 0 (Int32.toNatClampNeg 4598)) - (r2.2 32 0 (Int32.toNatClampNeg 2))) then
          d188_41 y1 y2 F x3 x4 (x5 + 1) r2.2
        else
          d188_41 y1 y2 F ((r2.2 32 0 (Int32.toNatClampNeg 4598)) - (r2.2 32 0 (Int32.toNatClampNeg 2))) x5 (x5 + 1) r2.2
set_option maxHeartbeats 4000000 in
set_option maxRecDepth 20000 in
theorem L188_41 {d n : Nat} {k : jK} {y1 : Int32} {y2 : Int32} {L : jL} : ∀ (F : Nat) (x3 : Int32) (x4 : Int32) (x5 : Int32) (I : jI) (e6 : Option jV) (r : Int32 × Int32 × jI), d188_41 y1 y2 F x3 x4 x5 I = some r → (∀ (f5 f6 : Option jV), pn (jPM d) k none (jco 188) n (111, [some (.inr (31, 0)), some (.inl (.inl y1)), some (.inl (.inl y2)), some (.inl (.inl r.1)), some (.inl (.inl r.2.1)), f5, f6], [], r.2.2, L)) → pn (jPM d) k none (jco 188) n (41, [some (.inr (31, 0)), some (.inl (.inl y1)), some (.inl (.inl y2)), some (.inl (.inl x3)), some (.inl (.inl x4)), some (.inl (.inl x5)), e6], [], I, L) := by
  intro F
  induction F with
  | zero => intro x3 x4 x5 I e6 r h hx; cases h
  | succ F ih =>
    intro x3 x4 x5 I e6 r h hx
    rw [d188_41] at h
    refine pn_go [41, 111, 130] 400 ?_
    conv => whnf
    obtain ⟨r1, hz1, h⟩ := obind h
    refine D183 hz1 ?_
    conv => whnf
    refine ⟨fun cz2 => ?_, fun cz2 => ?_⟩
    · replace h := (if_pos cz2).symm.trans h
      conv => whnf
      cases h
      exact hx _ _
    · replace h := (if_neg cz2).symm.trans h
      conv => whnf
      obtain ⟨r2, hz3, h⟩ := obind h
      refine D187 hz3 ?_
      conv => whnf
      refine ⟨fun cz4 => ?_, fun cz4 => ?_⟩
      · replace h := (if_pos cz4).symm.trans h
        conv => whnf
        exact ih _ _ _ _ _ r h hx
      · replace h := (if_neg cz4).symm.trans h
        conv => whnf
        intro _
        conv => whnf
        intro _
        conv => whnf
        refine ⟨fun cz5 => ?_, fun cz5 => ?_⟩
        · replace h := (if_pos cz5).symm.trans h
          conv => whnf
          exact ih _ _ _ _ _ r h hx
        · replace h := (if_neg cz5).symm.trans h
          conv => whnf
          intro _
          conv => whnf
          intro _
          conv => whnf
          exact ih _ _ _ _ _ r h hx
/-- X8_weeks, loop at 130 -/
noncomputable def d188_130 (y1 : Int32) (y2 : Int32) (y3 : Int32) (y4 : Int32) : Nat → Int32 → jI → Option (jI)
  | 0, _, _ => none
  | F + 1, x5, I =>
    if y1 ≤ x5 then
      some I
    else
      (d186 y4 y1 x5 I).bind fun r5 =>
      if 0 ≤ r5 then
        d188_130 y1 y2 y3 y4 F (x5 + 1) (jup I 36 0 (Int32.toNatClampNeg ((40 * y2) + x5)) r5)
      else
        d188_130 y1 y2 y3 y4 F (x5 + 1) (jup I 36 0 (Int32.toNatClampNeg ((40 * y2) + x5)) (-9))
set_option maxHeartbeats 4000000 in
set_option maxRecDepth 20000 in
theorem L188_130 {d n : Nat} {k : jK} {y1 : Int32} {y2 : Int32} {y3 : Int32} {y4 : Int32} {L : jL} : ∀ (F : Nat) (x5 : Int32) (I : jI) (e6 : Option jV) (r : jI), d188_130 y1 y2 y3 y4 F x5 I = some r → (∀ (f5 f6 : Option jV), pn (jPM d) k none (jco 188) n (177, [some (.inr (31, 0)), some (.inl (.inl y1)), some (.inl (.inl y2)), some (.inl (.inl y3)), some (.inl (.inl y4)), f5, f6], [], r, L)) → pn (jPM d) k none (jco 188) n (130, [some (.inr (31, 0)), some (.inl (.inl y1)), some (.inl (.inl y2)), some (.inl (.inl y3)), some (.inl (.inl y4)), some (.inl (.inl x5)), e6], [], I, L) := by
  intro F
  induction F with
  | zero => intro x5 I e6 r h hx; cases h
  | succ F ih =>
    intro x5 I e6 r h hx
    rw [d188_130] at h
    refine pn_go [41, 130, 177] 400 ?_
    conv => whnf
    refine ⟨fun cz1 => ?_, fun cz1 => ?_⟩
    · replace h := (if_pos cz1).symm.trans h
      conv => whnf
      cases h
      exact hx _ _
    · replace h := (if_neg cz1).symm.trans h
      conv => whnf
      obtain ⟨r5, hz2, h⟩ := obind h
      refine D186 hz2 ?_
      conv => whnf
      refine ⟨fun cz3 => ?_, fun cz3 => ?_⟩
      · replace h := (if_pos cz3).symm.trans h
        conv => whnf
        intro _
        conv => whnf
        exact ih _ _ _ r h hx
      · replace h := (if_neg cz3).symm.trans h
        conv => whnf
        intro _
        conv => whnf
        exact ih _ _ _ r h hx
/-- X8_weeks -/
noncomputable def d188 (a1 : Int32) (a2 : Int32) (I : jI) : Option (Int32 × jI) :=
  if (d124 (Int32.toInt64 a1) 0 3 I) = 0 then
    some ((-1), I)
  else
    if (d128 a2 I) = 0 then
      some ((-1), I)
    else
      if (I 31 0 3) = 0 then
        some ((-4), I)
      else
        (d188_41 a1 a2 400 99999 (-9) 0 I).bind fun r3 =>
        if r3.2.1 = (-9) then
          some ((-9), r3.2.2)
        else
          (d131 a2 a1 r3.2.2).bind fun r4 =>
          (d188_130 a1 a2 r3.1 r3.2.1 400 0 r4).bind fun r6 =>
          some (r3.1, r6)
set_option maxHeartbeats 4000000 in
set_option maxRecDepth 20000 in
theorem D188 {d : Nat} {k : jK} {a1 : Int32} {a2 : Int32} {I : jI} {L : jL} {r : Int32 × jI} (h : d188 a1 a2 I = some r) (hk : k (some (.inl (.inl r.1))) (r.2, L)) : jPM d 188 [.inr (31, 0), .inl (.inl a1), .inl (.inl a2)] (I, L) k := by
  refine pM (fun d n => ?_)
  unfold d188 at h
  refine pn_go [41, 130] 400 ?_
  conv => whnf
  refine D124 rfl ?_
  conv => whnf
  refine ⟨fun cz1 => ?_, fun cz1 => ?_⟩
  · replace h := (if_pos cz1).symm.trans h
    conv => whnf
    cases h
    exact hk
  · replace h := (if_neg cz1).symm.trans h
    conv => whnf
    refine D128 rfl ?_
    conv => whnf
    refine ⟨fun cz2 => ?_, fun cz2 => ?_⟩
    · replace h := (if_neg cz2).symm.trans h
      conv => whnf
      refine ⟨fun cz3 => ?_, fun cz3 => ?_⟩
      · replace h := (if_neg cz3).symm.trans h
        conv => whnf
        obtain ⟨r3, hz4, h⟩ := obind h
        refine L188_41 _ _ _ _ _ _ _ hz4 (fun e5_r3 e6_r3 => ?_)
        refine pn_go [41, 130] 400 ?_
        conv => whnf
        refine ⟨fun cz5 => ?_, fun cz5 => ?_⟩
        · replace h := (if_neg cz5).symm.trans h
          conv => whnf
          obtain ⟨r4, hz6, h⟩ := obind h
          refine D131 hz6 ?_
          conv => whnf
          obtain ⟨r6, hz7, h⟩ := obind h
          refine L188_130 _ _ _ _ _ hz7 (fun e5_r6 e6_r6 => ?_)
          refine pn_go [41, 130] 400 ?_
          conv => whnf
          cases h
          exact hk
        · replace h := (if_pos cz5).symm.trans h
          conv => whnf
          cases h
          exact hk
      · replace h := (if_pos cz3).symm.trans h
        conv => whnf
        cases h
        exact hk
    · replace h := (if_pos cz2).symm.trans h
      conv => whnf
      cases h
      exact hk
end
section
/-- X8_noPairs, loop at 50 -/
noncomputable def d193_50 (y1 : Int32) (I : jI) : Nat → Int32 → Int32 → Option (Int32)
  | 0, _, _ => none
  | F + 1, x2, x3 =>
    if ((40 * y1) + (I 35 0 (Int32.toNatClampNeg y1))) ≤ x3 then
      some x2
    else
      if x2 = 0 then
        d193_50 y1 I F 0 (x3 + 2)
      else
        if (d124 (Int32.toInt64 (I 36 0 (Int32.toNatClampNeg x3))) 0 20 I) = 0 then
          d193_50 y1 I F 0 (x3 + 2)
        else
          if (I 36 0 (Int32.toNatClampNeg (x3 + 1))) < 0 then
            d193_50 y1 I F 0 (x3 + 2)
          else
            d193_50 y1 I F 1 (x3 + 2)
set_option maxHeartbeats 4000000 in
set_option maxRecDepth 20000 in
theorem L193_50 {d n : Nat} {k : jK} {y1 : Int32} {I : jI} {L : jL} : ∀ (F : Nat) (x2 : Int32) (x3 : Int32) (r : Int32), d193_50 y1 I F x2 x3 = some r → (∀ (f3 : Option jV), pn (jPM d) k none (jco 193) n (109, [some (.inr (31, 0)), some (.inl (.inl y1)), some (.inl (.inl r)), f3], [], I, L)) → pn (jPM d) k none (jco 193) n (50, [some (.inr (31, 0)), some (.inl (.inl y1)), some (.inl (.inl x2)), some (.inl (.inl x3))], [], I, L) := by
  intro F
  induction F with
  | zero => intro x2 x3 r h hx; cases h
  | succ F ih =>
    intro x2 x3 r h hx
    rw [d193_50] at h
    refine pn_go [50, 109] 400 ?_
    conv => whnf
    intro _
    conv => whnf
    refine ⟨fun cz1 => ?_, fun cz1 => ?_⟩
    · replace h := (if_pos cz1).symm.trans h
      conv => whnf
      cases h
      exact hx _
    · replace h := (if_neg cz1).symm.trans h
      conv => whnf
      refine ⟨fun cz2 => ?_, fun cz2 => ?_⟩
      · replace h := (if_pos cz2).symm.trans h
        conv => whnf
        exact ih _ _ r h hx
      · replace h := (if_neg cz2).symm.trans h
        conv => whnf
        intro _
        conv => whnf
        refine D124 rfl ?_
        conv => whnf
        refine ⟨fun cz3 => ?_, fun cz3 => ?_⟩
        · replace h := (if_pos cz3).symm.trans h
          conv => whnf
          exact ih _ _ r h hx
        · replace h := (if_neg cz3).symm.trans h
          conv => whnf
          intro _
          conv => whnf
          refine ⟨fun cz4 => ?_, fun cz4 => ?_⟩
          · replace h := (if_pos cz4).symm.trans h
            conv => whnf
            exact ih _ _ r h hx
          · replace h := (if_neg cz4).symm.trans h
            conv => whnf
            exact ih _ _ r h hx
/-- X8_noPairs -/
noncomputable def d193 (a1 : Int32) (I : jI) : Option (Int32 × jI) :=
  if 0 ≤ (I 35 0 (Int32.toNatClampNeg a1)) then
    if ((I 35 0 (Int32.toNatClampNeg a1)) - (I 35 0 (Int32.toNatClampNeg a1)) / 2 * 2) = 0 then
      if (I 35 0 (Int32.toNatClampNeg a1)) ≤ 12 then
        (d193_50 a1 I 70 1 (40 * a1)).bind fun r1 =>
        if r1 = 0 then
          some (((d126 3 I).1), ((d126 3 I).2))
        else
          some (0, I)
      else
        some (((d126 5 I).1), ((d126 5 I).2))
    else
      some (((d126 5 I).1), ((d126 5 I).2))
  else
    some (((d126 1 I).1), ((d126 1 I).2))
set_option maxHeartbeats 4000000 in
set_option maxRecDepth 20000 in
theorem D193 {d : Nat} {k : jK} {a1 : Int32} {I : jI} {L : jL} {r : Int32 × jI} (h : d193 a1 I = some r) (hk : k (some (.inl (.inl r.1))) (r.2, L)) : jPM d 193 [.inr (31, 0), .inl (.inl a1)] (I, L) k := by
  refine pM (fun d n => ?_)
  unfold d193 at h
  refine pn_go [50] 400 ?_
  conv => whnf
  intro _
  conv => whnf
  refine ⟨fun cz1 => ?_, fun cz1 => ?_⟩
  · replace h := (if_pos cz1).symm.trans h
    conv => whnf
    intro _
    conv => whnf
    intro _
    conv => whnf
    refine ⟨fun cz2 => ?_, fun cz2 => ?_⟩
    · replace h := (if_neg cz2).symm.trans h
      conv => whnf
      refine D126 rfl ?_
      conv => whnf
      cases h
      exact hk
    · replace h := (if_pos cz2).symm.trans h
      conv => whnf
      intro _
      conv => whnf
      refine ⟨fun cz3 => ?_, fun cz3 => ?_⟩
      · replace h := (if_pos cz3).symm.trans h
        conv => whnf
        obtain ⟨r1, hz4, h⟩ := obind h
        refine L193_50 _ _ _ _ hz4 (fun e3_r1 => ?_)
        refine pn_go [50] 400 ?_
        conv => whnf
        refine ⟨fun cz5 => ?_, fun cz5 => ?_⟩
        · replace h := (if_pos cz5).symm.trans h
          conv => whnf
          refine D126 rfl ?_
          conv => whnf
          cases h
          exact hk
        · replace h := (if_neg cz5).symm.trans h
          conv => whnf
          cases h
          exact hk
      · replace h := (if_neg cz3).symm.trans h
        conv => whnf
        refine D126 rfl ?_
        conv => whnf
        cases h
        exact hk
  · replace h := (if_neg cz1).symm.trans h
    conv => whnf
    refine D126 rfl ?_
    conv => whnf
    cases h
    exact hk
/-- X8_isSo, loop at 9 -/
noncomputable def d194_9 (y1 : Int32) (y2 : Int32) (y3 : Int32) (I : jI) : Nat → Int32 → Int32 → Option (Int32)
  | 0, _, _ => none
  | F + 1, x4, x5 =>
    if ((40 * y1) + (I 35 0 (Int32.toNatClampNeg y1))) ≤ x5 then
      some x4
    else
      if x4 = 0 then
        d194_9 y1 y2 y3 I F 0 (x5 + 2)
      else
        if (d152 y2 y3 (I 36 0 (Int32.toNatClampNeg x5)) (I 32 0 (Int32.toNatClampNeg 6)) I) = (I 36 0 (Int32.toNatClampNeg (x5 + 1))) then
          d194_9 y1 y2 y3 I F 1 (x5 + 2)
        else
          d194_9 y1 y2 y3 I F 0 (x5 + 2)
set_option maxHeartbeats 4000000 in
set_option maxRecDepth 20000 in
theorem L194_9 {d n : Nat} {k : jK} {y1 : Int32} {y2 : Int32} {y3 : Int32} {I : jI} {L : jL} : ∀ (F : Nat) (x4 : Int32) (x5 : Int32) (r : Int32), d194_9 y1 y2 y3 I F x4 x5 = some r → (∀ (f5 : Option jV), pn (jPM d) k none (jco 194) n (74, [some (.inr (31, 0)), some (.inl (.inl y1)), some (.inl (.inl y2)), some (.inl (.inl y3)), some (.inl (.inl r)), f5], [], I, L)) → pn (jPM d) k none (jco 194) n (9, [some (.inr (31, 0)), some (.inl (.inl y1)), some (.inl (.inl y2)), some (.inl (.inl y3)), some (.inl (.inl x4)), some (.inl (.inl x5))], [], I, L) := by
  intro F
  induction F with
  | zero => intro x4 x5 r h hx; cases h
  | succ F ih =>
    intro x4 x5 r h hx
    rw [d194_9] at h
    refine pn_go [9, 74] 400 ?_
    conv => whnf
    intro _
    conv => whnf
    refine ⟨fun cz1 => ?_, fun cz1 => ?_⟩
    · replace h := (if_pos cz1).symm.trans h
      conv => whnf
      cases h
      exact hx _
    · replace h := (if_neg cz1).symm.trans h
      conv => whnf
      refine ⟨fun cz2 => ?_, fun cz2 => ?_⟩
      · replace h := (if_pos cz2).symm.trans h
        conv => whnf
        exact ih _ _ r h hx
      · replace h := (if_neg cz2).symm.trans h
        conv => whnf
        intro _
        conv => whnf
        intro _
        conv => whnf
        refine D152 rfl ?_
        conv => whnf
        intro _
        conv => whnf
        refine ⟨fun cz3 => ?_, fun cz3 => ?_⟩
        · replace h := (if_neg cz3).symm.trans h
          conv => whnf
          exact ih _ _ r h hx
        · replace h := (if_pos cz3).symm.trans h
          conv => whnf
          exact ih _ _ r h hx
/-- X8_isSo -/
noncomputable def d194 (a1 : Int32) (a2 : Int32) (a3 : Int32) (I : jI) : Option (Int32) :=
  (d194_9 a1 a2 a3 I 70 1 (40 * a1)).bind fun r1 =>
  some r1
set_option maxHeartbeats 4000000 in
set_option maxRecDepth 20000 in
theorem D194 {d : Nat} {k : jK} {a1 : Int32} {a2 : Int32} {a3 : Int32} {I : jI} {L : jL} {r : Int32} (h : d194 a1 a2 a3 I = some r) (hk : k (some (.inl (.inl r))) (I, L)) : jPM d 194 [.inr (31, 0), .inl (.inl a1), .inl (.inl a2), .inl (.inl a3)] (I, L) k := by
  refine pM (fun d n => ?_)
  unfold d194 at h
  refine pn_go [9] 400 ?_
  conv => whnf
  obtain ⟨r1, hz1, h⟩ := obind h
  refine L194_9 _ _ _ _ hz1 (fun e5_r1 => ?_)
  refine pn_go [9] 400 ?_
  conv => whnf
  cases h
  exact fun _ => hk
/-- X8_kinds, loop at 35 -/
noncomputable def d195_35 (y1 : Int32) (y2 : Int32) (I : jI) : Nat → Int32 → Int32 → Option (Int32)
  | 0, _, _ => none
  | F + 1, x4, x5 =>
    if 6 ≤ x5 then
      some x4
    else
      (d194 y2 x5 (I 32 0 (Int32.toNatClampNeg (23 + y1))) I).bind fun r2 =>
      if r2 = 0 then
        d195_35 y1 y2 I F (x4 ||| 0) (x5 + 1)
      else
        d195_35 y1 y2 I F (x4 ||| (1 <<< (x5 &&& 31))) (x5 + 1)
set_option maxHeartbeats 4000000 in
set_option maxRecDepth 20000 in
theorem L195_35 {d n : Nat} {k : jK} {y1 : Int32} {y2 : Int32} {I : jI} {L : jL} : ∀ (F : Nat) (x4 : Int32) (x5 : Int32) (e3 : Option jV) (r : Int32), d195_35 y1 y2 I F x4 x5 = some r → (∀ (f3 f5 : Option jV), pn (jPM d) k none (jco 195) n (80, [some (.inr (31, 0)), some (.inl (.inl y1)), some (.inl (.inl y2)), f3, some (.inl (.inl r)), f5], [], I, L)) → pn (jPM d) k none (jco 195) n (35, [some (.inr (31, 0)), some (.inl (.inl y1)), some (.inl (.inl y2)), e3, some (.inl (.inl x4)), some (.inl (.inl x5))], [], I, L) := by
  intro F
  induction F with
  | zero => intro x4 x5 e3 r h hx; cases h
  | succ F ih =>
    intro x4 x5 e3 r h hx
    rw [d195_35] at h
    refine pn_go [35, 80] 400 ?_
    conv => whnf
    refine ⟨fun cz1 => ?_, fun cz1 => ?_⟩
    · replace h := (if_pos cz1).symm.trans h
      conv => whnf
      cases h
      exact hx _ _
    · replace h := (if_neg cz1).symm.trans h
      conv => whnf
      intro _
      conv => whnf
      obtain ⟨r2, hz2, h⟩ := obind h
      refine D194 hz2 ?_
      conv => whnf
      refine ⟨fun cz3 => ?_, fun cz3 => ?_⟩
      · replace h := (if_pos cz3).symm.trans h
        conv => whnf
        exact ih _ _ _ r h hx
      · replace h := (if_neg cz3).symm.trans h
        conv => whnf
        exact ih _ _ _ r h hx
/-- X8_kinds -/
noncomputable def d195 (a1 : Int32) (a2 : Int32) (I : jI) : Option (Int32 × jI) :=
  if (d151 a1 I) = 0 then
    some ((-1), I)
  else
    if (d128 a2 I) = 0 then
      some ((-1), I)
    else
      (d193 a2 I).bind fun r1 =>
      if r1.1 = 0 then
        (d195_35 a1 a2 r1.2 70 0 0).bind fun r3 =>
        some (r3, r1.2)
      else
        some (r1.1, r1.2)
set_option maxHeartbeats 4000000 in
set_option maxRecDepth 20000 in
theorem D195 {d : Nat} {k : jK} {a1 : Int32} {a2 : Int32} {I : jI} {L : jL} {r : Int32 × jI} (h : d195 a1 a2 I = some r) (hk : k (some (.inl (.inl r.1))) (r.2, L)) : jPM d 195 [.inr (31, 0), .inl (.inl a1), .inl (.inl a2)] (I, L) k := by
  refine pM (fun d n => ?_)
  unfold d195 at h
  refine pn_go [35] 400 ?_
  conv => whnf
  refine D151 rfl ?_
  conv => whnf
  refine ⟨fun cz1 => ?_, fun cz1 => ?_⟩
  · replace h := (if_pos cz1).symm.trans h
    conv => whnf
    cases h
    exact hk
  · replace h := (if_neg cz1).symm.trans h
    conv => whnf
    refine D128 rfl ?_
    conv => whnf
    refine ⟨fun cz2 => ?_, fun cz2 => ?_⟩
    · replace h := (if_neg cz2).symm.trans h
      conv => whnf
      obtain ⟨r1, hz3, h⟩ := obind h
      refine D193 hz3 ?_
      conv => whnf
      refine ⟨fun cz4 => ?_, fun cz4 => ?_⟩
      · replace h := (if_pos cz4).symm.trans h
        conv => whnf
        obtain ⟨r3, hz5, h⟩ := obind h
        refine L195_35 _ _ _ _ _ hz5 (fun e3_r3 e5_r3 => ?_)
        refine pn_go [35] 400 ?_
        conv => whnf
        cases h
        exact hk
      · replace h := (if_neg cz4).symm.trans h
        conv => whnf
        cases h
        exact hk
    · replace h := (if_pos cz2).symm.trans h
      conv => whnf
      cases h
      exact hk
/-- X8_prices, loop at 42 -/
noncomputable def d196_42 (y1 : Int32) (y2 : Int32) : Nat → Int32 → Int32 → jI → Option (Int32 × jI)
  | 0, _, _, _ => none
  | F + 1, x4, x5, I =>
    if x5 < 0 then
      some (x4, I)
    else
      (d194 y2 (I 33 0 (Int32.toNatClampNeg y1)) x5 I).bind fun r2 =>
      if r2 = 0 then
        if r2 = 0 then
          d196_42 y1 y2 F (x4 + 0) (x5 + (-1)) (jup I 31 0 10 (I 31 0 10))
        else
          d196_42 y1 y2 F (x4 + 0) (x5 + (-1)) (jup I 31 0 10 x5)
      else
        if r2 = 0 then
          d196_42 y1 y2 F (x4 + 1) (x5 + (-1)) (jup I 31 0 10 (I 31 0 10))
        else
          d196_42 y1 y2 F (x4 + 1) (x5 + (-1)) (jup I 31 0 10 x5)
set_option maxHeartbeats 4000000 in
set_option maxRecDepth 20000 in
theorem L196_42 {d n : Nat} {k : jK} {y1 : Int32} {y2 : Int32} {L : jL} : ∀ (F : Nat) (x4 : Int32) (x5 : Int32) (I : jI) (e3 e6 : Option jV) (r : Int32 × jI), d196_42 y1 y2 F x4 x5 I = some r → (∀ (f3 f5 f6 : Option jV), pn (jPM d) k none (jco 196) n (101, [some (.inr (31, 0)), some (.inl (.inl y1)), some (.inl (.inl y2)), f3, some (.inl (.inl r.1)), f5, f6], [], r.2, L)) → pn (jPM d) k none (jco 196) n (42, [some (.inr (31, 0)), some (.inl (.inl y1)), some (.inl (.inl y2)), e3, some (.inl (.inl x4)), some (.inl (.inl x5)), e6], [], I, L) := by
  intro F
  induction F with
  | zero => intro x4 x5 I e3 e6 r h hx; cases h
  | succ F ih =>
    intro x4 x5 I e3 e6 r h hx
    rw [d196_42] at h
    refine pn_go [42, 101] 400 ?_
    conv => whnf
    refine ⟨fun cz1 => ?_, fun cz1 => ?_⟩
    · replace h := (if_pos cz1).symm.trans h
      conv => whnf
      cases h
      exact hx _ _ _
    · replace h := (if_neg cz1).symm.trans h
      conv => whnf
      intro _
      conv => whnf
      obtain ⟨r2, hz2, h⟩ := obind h
      refine D194 hz2 ?_
      conv => whnf
      refine ⟨fun cz3 => ?_, fun cz3 => ?_⟩
      · replace h := (if_pos cz3).symm.trans h
        conv => whnf
        refine ⟨fun cz4 => ?_, fun cz4 => ?_⟩
        · replace h := (if_pos cz4).symm.trans h
          conv => whnf
          exact ih _ _ _ _ _ r h hx
        · replace h := (if_neg cz4).symm.trans h
          conv => whnf
          exact ih _ _ _ _ _ r h hx
      · replace h := (if_neg cz3).symm.trans h
        conv => whnf
        refine ⟨fun cz5 => ?_, fun cz5 => ?_⟩
        · replace h := (if_pos cz5).symm.trans h
          conv => whnf
          exact ih _ _ _ _ _ r h hx
        · replace h := (if_neg cz5).symm.trans h
          conv => whnf
          exact ih _ _ _ _ _ r h hx
/-- X8_prices -/
noncomputable def d196 (a1 : Int32) (a2 : Int32) (I : jI) : Option (Int32 × jI) :=
  if (d151 a1 I) = 0 then
    some ((-1), I)
  else
    if (d128 a2 I) = 0 then
      some ((-1), I)
    else
      (d193 a2 I).bind fun r1 =>
      if r1.1 = 0 then
        (d196_42 a1 a2 120 0 99 (jup r1.2 31 0 10 (-9))).bind fun r3 =>
        some (r3.1, r3.2)
      else
        some (r1.1, r1.2)
set_option maxHeartbeats 4000000 in
set_option maxRecDepth 20000 in
theorem D196 {d : Nat} {k : jK} {a1 : Int32} {a2 : Int32} {I : jI} {L : jL} {r : Int32 × jI} (h : d196 a1 a2 I = some r) (hk : k (some (.inl (.inl r.1))) (r.2, L)) : jPM d 196 [.inr (31, 0), .inl (.inl a1), .inl (.inl a2)] (I, L) k := by
  refine pM (fun d n => ?_)
  unfold d196 at h
  refine pn_go [42] 400 ?_
  conv => whnf
  refine D151 rfl ?_
  conv => whnf
  refine ⟨fun cz1 => ?_, fun cz1 => ?_⟩
  · replace h := (if_pos cz1).symm.trans h
    conv => whnf
    cases h
    exact hk
  · replace h := (if_neg cz1).symm.trans h
    conv => whnf
    refine D128 rfl ?_
    conv => whnf
    refine ⟨fun cz2 => ?_, fun cz2 => ?_⟩
    · replace h := (if_neg cz2).symm.trans h
      conv => whnf
      obtain ⟨r1, hz3, h⟩ := obind h
      refine D193 hz3 ?_
      conv => whnf
      refine ⟨fun cz4 => ?_, fun cz4 => ?_⟩
      · replace h := (if_pos cz4).symm.trans h
        conv => whnf
        obtain ⟨r3, hz5, h⟩ := obind h
        refine L196_42 _ _ _ _ _ _ _ hz5 (fun e3_r3 e5_r3 e6_r3 => ?_)
        refine pn_go [42] 400 ?_
        conv => whnf
        cases h
        exact hk
      · replace h := (if_neg cz4).symm.trans h
        conv => whnf
        cases h
        exact hk
    · replace h := (if_pos cz2).symm.trans h
      conv => whnf
      cases h
      exact hk
end
section
/-- X8_lots, loop at 58 -/
noncomputable def d207_58 (y1 : Int32) : Nat → Int64 → Int32 → jI → Option (jI)
  | 0, _, _, _ => none
  | F + 1, x3, x5, I =>
    if y1 ≤ x5 then
      some I
    else
      (d163 I).bind fun r1 =>
      if 2 ≤ (Int64.toInt32 ((((x3 * 48271) - (x3 * 48271) / 2147483647 * 2147483647) / 8) - (((x3 * 48271) - (x3 * 48271) / 2147483647 * 2147483647) / 8) / 4 * 4)) then
        if (Int64.toInt32 ((((x3 * 48271) - (x3 * 48271) / 2147483647 * 2147483647) / 8) - (((x3 * 48271) - (x3 * 48271) / 2147483647 * 2147483647) / 8) / 4 * 4)) = 3 then
          if (r1 32 0 (Int32.toNatClampNeg (17 + (Int64.toInt32 (((x3 * 48271) - (x3 * 48271) / 2147483647 * 2147483647) - ((x3 * 48271) - (x3 * 48271) / 2147483647 * 2147483647) / (Int32.toInt64 (I 31 0 3)) * (Int32.toInt64 (I 31 0 3))))))) ≤ 1 then
            (d167 0 r1).bind fun r3 =>
            d207_58 y1 F ((x3 * 48271) - (x3 * 48271) / 2147483647 * 2147483647) (x5 + 1) r3.2
          else
            d207_58 y1 F ((x3 * 48271) - (x3 * 48271) / 2147483647 * 2147483647) (x5 + 1) (jup r1 32 0 (Int32.toNatClampNeg (17 + (Int64.toInt32 (((x3 * 48271) - (x3 * 48271) / 2147483647 * 2147483647) - ((x3 * 48271) - (x3 * 48271) / 2147483647 * 2147483647) / (Int32.toInt64 (I 31 0 3)) * (Int32.toInt64 (I 31 0 3)))))) ((r1 32 0 (Int32.toNatClampNeg (17 + (Int64.toInt32 (((x3 * 48271) - (x3 * 48271) / 2147483647 * 2147483647) - ((x3 * 48271) - (x3 * 48271) / 2147483647 * 2147483647) / (Int32.toInt64 (I 31 0 3)) * (Int32.toInt64 (I 31 0 3))))))) - 1))
        else
          (d167 0 r1).bind fun r2 =>
          d207_58 y1 F ((x3 * 48271) - (x3 * 48271) / 2147483647 * 2147483647) (x5 + 1) r2.2
      else
        (d164 0 (Int64.toInt32 (((x3 * 48271) - (x3 * 48271) / 2147483647 * 2147483647) - ((x3 * 48271) - (x3 * 48271) / 2147483647 * 2147483647) / (Int32.toInt64 (I 31 0 3)) * (Int32.toInt64 (I 31 0 3)))) 1 r1).bind fun r4 =>
        if r4 = 0 then
          if (Int64.toInt32 ((((x3 * 48271) - (x3 * 48271) / 2147483647 * 2147483647) / 8) - (((x3 * 48271) - (x3 * 48271) / 2147483647 * 2147483647) / 8) / 4 * 4)) = 3 then
            if (r1 32 0 (Int32.toNatClampNeg (17 + (Int64.toInt32 (((x3 * 48271) - (x3 * 48271) / 2147483647 * 2147483647) - ((x3 * 48271) - (x3 * 48271) / 2147483647 * 2147483647) / (Int32.toInt64 (I 31 0 3)) * (Int32.toInt64 (I 31 0 3))))))) ≤ 1 then
              (d167 0 r1).bind fun r6 =>
              d207_58 y1 F ((x3 * 48271) - (x3 * 48271) / 2147483647 * 2147483647) (x5 + 1) r6.2
            else
              d207_58 y1 F ((x3 * 48271) - (x3 * 48271) / 2147483647 * 2147483647) (x5 + 1) (jup r1 32 0 (Int32.toNatClampNeg (17 + (Int64.toInt32 (((x3 * 48271) - (x3 * 48271) / 2147483647 * 2147483647) - ((x3 * 48271) - (x3 * 48271) / 2147483647 * 2147483647) / (Int32.toInt64 (I 31 0 3)) * (Int32.toInt64 (I 31 0 3)))))) ((r1 32 0 (Int32.toNatClampNeg (17 + (Int64.toInt32 (((x3 * 48271) - (x3 * 48271) / 2147483647 * 2147483647) - ((x3 * 48271) - (x3 * 48271) / 2147483647 * 2147483647) / (Int32.toInt64 (I 31 0 3)) * (Int32.toInt64 (I 31 0 3))))))) - 1))
          else
            (d167 0 r1).bind fun r5 =>
            d207_58 y1 F ((x3 * 48271) - (x3 * 48271) / 2147483647 * 2147483647) (x5 + 1) r5.2
        else
          d207_58 y1 F ((x3 * 48271) - (x3 * 48271) / 2147483647 * 2147483647) (x5 + 1) ((d165 0 (Int64.toInt32 (((x3 * 48271) - (x3 * 48271) / 2147483647 * 2147483647) - ((x3 * 48271) - (x3 * 48271) / 2147483647 * 2147483647) / (Int32.toInt64 (I 31 0 3)) * (Int32.toInt64 (I 31 0 3)))) 1 r1).2)
set_option maxHeartbeats 4000000 in
set_option maxRecDepth 20000 in
theorem L207_58 {d n : Nat} {k : jK} {y1 : Int32} {L : jL} : ∀ (F : Nat) (x3 : Int64) (x5 : Int32) (I : jI) (e2 e6 e7 : Option jV) (r : jI), d207_58 y1 F x3 x5 I = some r → (∀ (f2 f3 f4 f5 f6 f7 : Option jV), pn (jPM d) k none (jco 207) n (178, [some (.inr (31, 0)), some (.inl (.inl y1)), f2, f3, f4, f5, f6, f7], [], r, L)) → pn (jPM d) k none (jco 207) n (58, [some (.inr (31, 0)), some (.inl (.inl y1)), e2, some (.inl (.inr x3)), none, some (.inl (.inl x5)), e6, e7], [], I, L) := by
  intro F
  induction F with
  | zero => intro x3 x5 I e2 e6 e7 r h hx; cases h
  | succ F ih =>
    intro x3 x5 I e2 e6 e7 r h hx
    rw [d207_58] at h
    refine pn_go [58, 178] 400 ?_
    conv => whnf
    refine ⟨fun cz1 => ?_, fun cz1 => ?_⟩
    · replace h := (if_pos cz1).symm.trans h
      conv => whnf
      cases h
      exact hx _ _ _ _ _ _
    · replace h := (if_neg cz1).symm.trans h
      conv => whnf
      intro _
      conv => whnf
      intro _
      conv => whnf
      intro _
      conv => whnf
      intro _
      conv => whnf
      obtain ⟨r1, hz2, h⟩ := obind h
      refine D163 hz2 ?_
      conv => whnf
      refine ⟨fun cz3 => ?_, fun cz3 => ?_⟩
      · replace h := (if_pos cz3).symm.trans h
        conv => whnf
        refine ⟨fun cz4 => ?_, fun cz4 => ?_⟩
        · replace h := (if_neg cz4).symm.trans h
          conv => whnf
          obtain ⟨r2, hz5, h⟩ := obind h
          refine D167 hz5 ?_
          conv => whnf
          exact ih _ _ _ _ _ _ r h hx
        · replace h := (if_pos cz4).symm.trans h
          conv => whnf
          intro _
          conv => whnf
          refine ⟨fun cz6 => ?_, fun cz6 => ?_⟩
          · replace h := (if_pos cz6).symm.trans h
            conv => whnf
            obtain ⟨r3, hz7, h⟩ := obind h
            refine D167 hz7 ?_
            conv => whnf
            exact ih _ _ _ _ _ _ r h hx
          · replace h := (if_neg cz6).symm.trans h
            conv => whnf
            intro _
            conv => whnf
            intro _
            conv => whnf
            exact ih _ _ _ _ _ _ r h hx
      · replace h := (if_neg cz3).symm.trans h
        conv => whnf
        obtain ⟨r4, hz8, h⟩ := obind h
        refine D164 hz8 ?_
        conv => whnf
        refine ⟨fun cz9 => ?_, fun cz9 => ?_⟩
        · replace h := (if_pos cz9).symm.trans h
          conv => whnf
          refine ⟨fun cz10 => ?_, fun cz10 => ?_⟩
          · replace h := (if_neg cz10).symm.trans h
            conv => whnf
            obtain ⟨r5, hz11, h⟩ := obind h
            refine D167 hz11 ?_
            conv => whnf
            exact ih _ _ _ _ _ _ r h hx
          · replace h := (if_pos cz10).symm.trans h
            conv => whnf
            intro _
            conv => whnf
            refine ⟨fun cz12 => ?_, fun cz12 => ?_⟩
            · replace h := (if_pos cz12).symm.trans h
              conv => whnf
              obtain ⟨r6, hz13, h⟩ := obind h
              refine D167 hz13 ?_
              conv => whnf
              exact ih _ _ _ _ _ _ r h hx
            · replace h := (if_neg cz12).symm.trans h
              conv => whnf
              intro _
              conv => whnf
              intro _
              conv => whnf
              exact ih _ _ _ _ _ _ r h hx
        · replace h := (if_neg cz9).symm.trans h
          conv => whnf
          refine D165 rfl ?_
          conv => whnf
          exact ih _ _ _ _ _ _ r h hx
/-- X8_lots -/
noncomputable def d207 (a1 : Int32) (a2 : Int32) (I : jI) : Option (Int32 × jI) :=
  if (d124 (Int32.toInt64 a1) 1 20 I) = 0 then
    some ((-1), I)
  else
    if (d124 (Int32.toInt64 a2) 1 2147483646 I) = 0 then
      some ((-1), I)
    else
      if (I 31 0 3) = 0 then
        some ((-4), I)
      else
        if ((I 32 0 (Int32.toNatClampNeg 0)) + a1) ≤ 40 then
          (d207_58 a1 70 (Int32.toInt64 a2) 0 I).bind fun r7 =>
          (d162 0 r7).bind fun r8 =>
          some (r8, r7)
        else
          some ((-2), I)
set_option maxHeartbeats 4000000 in
set_option maxRecDepth 20000 in
theorem D207 {d : Nat} {k : jK} {a1 : Int32} {a2 : Int32} {I : jI} {L : jL} {r : Int32 × jI} (h : d207 a1 a2 I = some r) (hk : k (some (.inl (.inl r.1))) (r.2, L)) : jPM d 207 [.inr (31, 0), .inl (.inl a1), .inl (.inl a2)] (I, L) k := by
  refine pM (fun d n => ?_)
  unfold d207 at h
  refine pn_go [58] 400 ?_
  conv => whnf
  refine D124 rfl ?_
  conv => whnf
  refine ⟨fun cz1 => ?_, fun cz1 => ?_⟩
  · replace h := (if_pos cz1).symm.trans h
    conv => whnf
    cases h
    exact hk
  · replace h := (if_neg cz1).symm.trans h
    conv => whnf
    refine D124 rfl ?_
    conv => whnf
    refine ⟨fun cz2 => ?_, fun cz2 => ?_⟩
    · replace h := (if_neg cz2).symm.trans h
      conv => whnf
      refine ⟨fun cz3 => ?_, fun cz3 => ?_⟩
      · replace h := (if_neg cz3).symm.trans h
        conv => whnf
        intro _
        conv => whnf
        refine ⟨fun cz4 => ?_, fun cz4 => ?_⟩
        · replace h := (if_pos cz4).symm.trans h
          conv => whnf
          obtain ⟨r7, hz5, h⟩ := obind h
          refine L207_58 _ _ _ _ _ _ _ _ hz5 (fun e2_r7 e3_r7 e4_r7 e5_r7 e6_r7 e7_r7 => ?_)
          refine pn_go [58] 400 ?_
          conv => whnf
          obtain ⟨r8, hz6, h⟩ := obind h
          refine D162 hz6 ?_
          conv => whnf
          cases h
          exact hk
        · replace h := (if_neg cz4).symm.trans h
          conv => whnf
          cases h
          exact hk
      · replace h := (if_pos cz3).symm.trans h
        conv => whnf
        cases h
        exact hk
    · replace h := (if_pos cz2).symm.trans h
      conv => whnf
      cases h
      exact hk
end
section
/-- X8_findings -/
noncomputable def d216 (a1 : Int32) (I : jI) : Int32 :=
  if (d124 (Int32.toInt64 a1) 1 5 I) = 0 then
    (-1)
  else
    (I 39 0 (Int32.toNatClampNeg a1))
set_option maxHeartbeats 4000000 in
set_option maxRecDepth 20000 in
theorem D216 {d : Nat} {k : jK} {a1 : Int32} {I : jI} {L : jL} {r : Int32} (h : d216 a1 I = r) (hk : k (some (.inl (.inl r))) (I, L)) : jPM d 216 [.inr (31, 0), .inl (.inl a1)] (I, L) k := by
  refine pM (fun d n => ?_)
  unfold d216 at h
  refine pn_go [] 400 ?_
  conv => whnf
  refine D124 rfl ?_
  conv => whnf
  refine ⟨fun cz1 => ?_, fun cz1 => ?_⟩
  · replace h := (if_pos cz1).symm.trans h
    conv => whnf
    subst h
    exact hk
  · replace h := (if_neg cz1).symm.trans h
    conv => whnf
    intro _
    conv => whnf
    subst h
    exact hk
end
