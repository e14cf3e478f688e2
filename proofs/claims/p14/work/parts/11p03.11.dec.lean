/-- X8_some -/
def d123 (a0 : Int32) (I : jI) : Int32 :=
  if 0 ≤ a0 then
    a0
  else
    0
set_option maxHeartbeats 4000000 in
set_option maxRecDepth 20000 in
theorem D123 {d : Nat} {k : jK} {a0 : Int32} {I : jI} {L : jL} {r : Int32} (h : d123 a0 I = r) (hk : k (some (.inl (.inl r))) (I, L)) : jPM d 123 [.inl (.inl a0)] (I, L) k := by
  refine pM (fun d n => ?_)
  unfold d123 at h
  refine pn_go [] 400 ?_
  conv => whnf
  refine ⟨fun cz1 => ?_, fun cz1 => ?_⟩
  · replace h := (if_pos cz1).symm.trans h
    conv => whnf
    subst h
    exact hk
  · replace h := (if_neg cz1).symm.trans h
    conv => whnf
    subst h
    exact hk
/-- X8_in -/
def d124 (a0 : Int64) (a1 : Int64) (a2 : Int64) (I : jI) : Int32 :=
  if (lg_cmp a0 a1) < 0 then
    0
  else
    if 0 < (lg_cmp a0 a2) then
      0
    else
      1
set_option maxHeartbeats 4000000 in
set_option maxRecDepth 20000 in
theorem D124 {d : Nat} {k : jK} {a0 : Int64} {a1 : Int64} {a2 : Int64} {I : jI} {L : jL} {r : Int32} (h : d124 a0 a1 a2 I = r) (hk : k (some (.inl (.inl r))) (I, L)) : jPM d 124 [.inl (.inr a0), .inl (.inr a1), .inl (.inr a2)] (I, L) k := by
  refine pM (fun d n => ?_)
  unfold d124 at h
  refine pn_go [] 400 ?_
  conv => whnf
  refine ⟨fun cz1 => ?_, fun cz1 => ?_⟩
  · replace h := (if_pos cz1).symm.trans h
    conv => whnf
    subst h
    exact fun _ => hk
  · replace h := (if_neg cz1).symm.trans h
    conv => whnf
    refine ⟨fun cz2 => ?_, fun cz2 => ?_⟩
    · replace h := (if_pos cz2).symm.trans h
      conv => whnf
      subst h
      exact fun _ => hk
    · replace h := (if_neg cz2).symm.trans h
      conv => whnf
      subst h
      exact fun _ => hk
/-- X8_has -/
def d125 (a0 : Int32) (a1 : Int32) (I : jI) : Int32 :=
  if ((a0 >>> (a1 &&& 31)) &&& 1) = 1 then
    1
  else
    0
set_option maxHeartbeats 4000000 in
set_option maxRecDepth 20000 in
theorem D125 {d : Nat} {k : jK} {a0 : Int32} {a1 : Int32} {I : jI} {L : jL} {r : Int32} (h : d125 a0 a1 I = r) (hk : k (some (.inl (.inl r))) (I, L)) : jPM d 125 [.inl (.inl a0), .inl (.inl a1)] (I, L) k := by
  refine pM (fun d n => ?_)
  unfold d125 at h
  refine pn_go [] 400 ?_
  conv => whnf
  refine ⟨fun cz1 => ?_, fun cz1 => ?_⟩
  · replace h := (if_neg cz1).symm.trans h
    conv => whnf
    subst h
    exact fun _ => hk
  · replace h := (if_pos cz1).symm.trans h
    conv => whnf
    subst h
    exact fun _ => hk
/-- X8_find -/
def d126 (a1 : Int32) (I : jI) : Int32 × jI :=
  ((-3), (jup (jup I 31 0 13 a1) 39 0 (Int32.toNatClampNeg a1) (((jup I 31 0 13 a1) 39 0 (Int32.toNatClampNeg a1)) + 1)))
set_option maxHeartbeats 4000000 in
set_option maxRecDepth 20000 in
theorem D126 {d : Nat} {k : jK} {a1 : Int32} {I : jI} {L : jL} {r : Int32 × jI} (h : d126 a1 I = r) (hk : k (some (.inl (.inl r.1))) (r.2, L)) : jPM d 126 [.inr (31, 0), .inl (.inl a1)] (I, L) k := by
  refine pM (fun d n => ?_)
  unfold d126 at h
  refine pn_go [] 400 ?_
  conv => whnf
  intro _
  conv => whnf
  intro _
  conv => whnf
  subst h
  exact hk
/-- X8_tell -/
def d127 (a1 : Int32) (I : jI) : Int32 × jI :=
  (1, (jup I 31 0 10 a1))
set_option maxHeartbeats 4000000 in
set_option maxRecDepth 20000 in
theorem D127 {d : Nat} {k : jK} {a1 : Int32} {I : jI} {L : jL} {r : Int32 × jI} (h : d127 a1 I = r) (hk : k (some (.inl (.inl r.1))) (r.2, L)) : jPM d 127 [.inr (31, 0), .inl (.inl a1)] (I, L) k := by
  refine pM (fun d n => ?_)
  unfold d127 at h
  refine pn_go [] 400 ?_
  conv => whnf
  subst h
  exact hk
/-- X8_isRow -/
def d128 (a0 : Int32) (I : jI) : Int32 :=
  (d124 (Int32.toInt64 a0) 0 5 I)
set_option maxHeartbeats 4000000 in
set_option maxRecDepth 20000 in
theorem D128 {d : Nat} {k : jK} {a0 : Int32} {I : jI} {L : jL} {r : Int32} (h : d128 a0 I = r) (hk : k (some (.inl (.inl r))) (I, L)) : jPM d 128 [.inl (.inl a0)] (I, L) k := by
  refine pM (fun d n => ?_)
  unfold d128 at h
  refine pn_go [] 400 ?_
  conv => whnf
  refine D124 rfl ?_
  conv => whnf
  subst h
  exact fun _ => hk
/-- X8_isText -/
def d129 (a0 : Int32) (I : jI) : Int32 :=
  (d124 (Int32.toInt64 a0) 0 3 I)
set_option maxHeartbeats 4000000 in
set_option maxRecDepth 20000 in
theorem D129 {d : Nat} {k : jK} {a0 : Int32} {I : jI} {L : jL} {r : Int32} (h : d129 a0 I = r) (hk : k (some (.inl (.inl r))) (I, L)) : jPM d 129 [.inl (.inl a0)] (I, L) k := by
  refine pM (fun d n => ?_)
  unfold d129 at h
  refine pn_go [] 400 ?_
  conv => whnf
  refine D124 rfl ?_
  conv => whnf
  subst h
  exact fun _ => hk
/-- X8_makeRow, loop at 9 -/
def d131_9 (y1 : Int32) : Nat → Int32 → jI → Option (jI)
  | 0, _, _ => none
  | F + 1, x3, I =>
    if 40 ≤ x3 then
      some I
    else
      d131_9 y1 F (x3 + 1) (jup I 36 0 (Int32.toNatClampNeg ((40 * y1) + x3)) 0)
set_option maxHeartbeats 4000000 in
set_option maxRecDepth 20000 in
theorem L131_9 {d n : Nat} {k : jK} {y1 : Int32} {L : jL} : ∀ (F : Nat) (x3 : Int32) (I : jI) (e2 : Option jV) (r : jI), d131_9 y1 F x3 I = some r → (∀ (f2 f3 : Option jV), pn (jPM d) k none (jco 131) n (33, [some (.inr (31, 0)), some (.inl (.inl y1)), f2, f3], [], r, L)) → pn (jPM d) k none (jco 131) n (9, [some (.inr (31, 0)), some (.inl (.inl y1)), e2, some (.inl (.inl x3))], [], I, L) := by
  intro F
  induction F with
  | zero => intro x3 I e2 r h hx; cases h
  | succ F ih =>
    intro x3 I e2 r h hx
    rw [d131_9] at h
    refine pn_go [9, 33] 400 ?_
    conv => whnf
    refine ⟨fun cz1 => ?_, fun cz1 => ?_⟩
    · replace h := (if_pos cz1).symm.trans h
      conv => whnf
      cases h
      exact hx _ _
    · replace h := (if_neg cz1).symm.trans h
      conv => whnf
      intro _
      conv => whnf
      exact ih _ _ _ r h hx
/-- X8_makeRow -/
def d131 (a1 : Int32) (a2 : Int32) (I : jI) : Option (jI) :=
  (d131_9 a1 70 0 (jup I 35 0 (Int32.toNatClampNeg a1) a2)).bind fun r1 =>
  some r1
set_option maxHeartbeats 4000000 in
set_option maxRecDepth 20000 in
theorem D131 {d : Nat} {k : jK} {a1 : Int32} {a2 : Int32} {I : jI} {L : jL} {r : jI} (h : d131 a1 a2 I = some r) (hk : k none (r, L)) : jPM d 131 [.inr (31, 0), .inl (.inl a1), .inl (.inl a2)] (I, L) k := by
  refine pM (fun d n => ?_)
  unfold d131 at h
  refine pn_go [9] 400 ?_
  conv => whnf
  intro _
  conv => whnf
  obtain ⟨r1, hz1, h⟩ := obind h
  refine L131_9 _ _ _ _ _ hz1 (fun e2_r1 e3_r1 => ?_)
  refine pn_go [9] 400 ?_
  conv => whnf
  cases h
  exact hk
/-- X8_row -/
def d130 (a1 : Int32) (a2 : Int32) (I : jI) : Option (Int32 × jI) :=
  if (d128 a1 I) = 0 then
    some ((-1), I)
  else
    if a2 ≤ 40 then
      if 0 ≤ a2 then
        (d131 a1 a2 I).bind fun r1 =>
        some (a2, r1)
      else
        some (((d126 5 I).1), ((d126 5 I).2))
    else
      some ((-1), I)
set_option maxHeartbeats 4000000 in
set_option maxRecDepth 20000 in
theorem D130 {d : Nat} {k : jK} {a1 : Int32} {a2 : Int32} {I : jI} {L : jL} {r : Int32 × jI} (h : d130 a1 a2 I = some r) (hk : k (some (.inl (.inl r.1))) (r.2, L)) : jPM d 130 [.inr (31, 0), .inl (.inl a1), .inl (.inl a2)] (I, L) k := by
  refine pM (fun d n => ?_)
  unfold d130 at h
  refine pn_go [] 400 ?_
  conv => whnf
  refine D128 rfl ?_
  conv => whnf
  refine ⟨fun cz1 => ?_, fun cz1 => ?_⟩
  · replace h := (if_pos cz1).symm.trans h
    conv => whnf
    cases h
    exact hk
  · replace h := (if_neg cz1).symm.trans h
    conv => whnf
    refine ⟨fun cz2 => ?_, fun cz2 => ?_⟩
    · replace h := (if_pos cz2).symm.trans h
      conv => whnf
      refine ⟨fun cz3 => ?_, fun cz3 => ?_⟩
      · replace h := (if_pos cz3).symm.trans h
        conv => whnf
        obtain ⟨r1, hz4, h⟩ := obind h
        refine D131 hz4 ?_
        conv => whnf
        cases h
        exact hk
      · replace h := (if_neg cz3).symm.trans h
        conv => whnf
        refine D126 rfl ?_
        conv => whnf
        cases h
        exact hk
    · replace h := (if_neg cz2).symm.trans h
      conv => whnf
      cases h
      exact hk
/-- X8_refused -/
def d132 (a1 : Int32) (a2 : Int32) (I : jI) : Option (Int32 × jI) :=
  if (d128 a1 I) = 0 then
    some ((-1), I)
  else
    if 0 ≤ (I 35 0 (Int32.toNatClampNeg a1)) then
      if (d124 (Int32.toInt64 a2) 0 (Int32.toInt64 ((I 35 0 (Int32.toNatClampNeg a1)) - 1)) I) = 0 then
        some (((d126 2 I).1), ((d126 2 I).2))
      else
        some (0, I)
    else
      some (((d126 1 I).1), ((d126 1 I).2))
set_option maxHeartbeats 4000000 in
set_option maxRecDepth 20000 in
theorem D132 {d : Nat} {k : jK} {a1 : Int32} {a2 : Int32} {I : jI} {L : jL} {r : Int32 × jI} (h : d132 a1 a2 I = some r) (hk : k (some (.inl (.inl r.1))) (r.2, L)) : jPM d 132 [.inr (31, 0), .inl (.inl a1), .inl (.inl a2)] (I, L) k := by
  refine pM (fun d n => ?_)
  unfold d132 at h
  refine pn_go [] 400 ?_
  conv => whnf
  refine D128 rfl ?_
  conv => whnf
  refine ⟨fun cz1 => ?_, fun cz1 => ?_⟩
  · replace h := (if_neg cz1).symm.trans h
    conv => whnf
    intro _
    conv => whnf
    refine ⟨fun cz2 => ?_, fun cz2 => ?_⟩
    · replace h := (if_pos cz2).symm.trans h
      conv => whnf
      intro _
      conv => whnf
      refine D124 rfl ?_
      conv => whnf
      refine ⟨fun cz3 => ?_, fun cz3 => ?_⟩
      · replace h := (if_pos cz3).symm.trans h
        conv => whnf
        refine D126 rfl ?_
        conv => whnf
        cases h
        exact hk
      · replace h := (if_neg cz3).symm.trans h
        conv => whnf
        cases h
        exact hk
    · replace h := (if_neg cz2).symm.trans h
      conv => whnf
      refine D126 rfl ?_
      conv => whnf
      cases h
      exact hk
  · replace h := (if_pos cz1).symm.trans h
    conv => whnf
    cases h
    exact hk
/-- X8_lay -/
def d133 (a1 : Int32) (a2 : Int32) (a3 : Int32) (I : jI) : Option (Int32 × jI) :=
  (d132 a1 a2 I).bind fun r1 =>
  if r1.1 = 0 then
    some (((d127 (r1.2 36 0 (Int32.toNatClampNeg ((40 * a1) + a2))) (jup r1.2 36 0 (Int32.toNatClampNeg ((40 * a1) + a2)) a3)).1), ((d127 (r1.2 36 0 (Int32.toNatClampNeg ((40 * a1) + a2))) (jup r1.2 36 0 (Int32.toNatClampNeg ((40 * a1) + a2)) a3)).2))
  else
    some (r1.1, r1.2)
set_option maxHeartbeats 4000000 in
set_option maxRecDepth 20000 in
theorem D133 {d : Nat} {k : jK} {a1 : Int32} {a2 : Int32} {a3 : Int32} {I : jI} {L : jL} {r : Int32 × jI} (h : d133 a1 a2 a3 I = some r) (hk : k (some (.inl (.inl r.1))) (r.2, L)) : jPM d 133 [.inr (31, 0), .inl (.inl a1), .inl (.inl a2), .inl (.inl a3)] (I, L) k := by
  refine pM (fun d n => ?_)
  unfold d133 at h
  refine pn_go [] 400 ?_
  conv => whnf
  obtain ⟨r1, hz1, h⟩ := obind h
  refine D132 hz1 ?_
  conv => whnf
  refine ⟨fun cz2 => ?_, fun cz2 => ?_⟩
  · replace h := (if_pos cz2).symm.trans h
    conv => whnf
    intro _
    conv => whnf
    intro _
    conv => whnf
    refine D127 rfl ?_
    conv => whnf
    cases h
    exact hk
  · replace h := (if_neg cz2).symm.trans h
    conv => whnf
    cases h
    exact hk
/-- X8_at -/
def d134 (a1 : Int32) (a2 : Int32) (I : jI) : Option (Int32 × jI) :=
  (d132 a1 a2 I).bind fun r1 =>
  if r1.1 = 0 then
    some (((d127 (r1.2 36 0 (Int32.toNatClampNeg ((40 * a1) + a2))) r1.2).1), ((d127 (r1.2 36 0 (Int32.toNatClampNeg ((40 * a1) + a2))) r1.2).2))
  else
    some (r1.1, r1.2)
set_option maxHeartbeats 4000000 in
set_option maxRecDepth 20000 in
theorem D134 {d : Nat} {k : jK} {a1 : Int32} {a2 : Int32} {I : jI} {L : jL} {r : Int32 × jI} (h : d134 a1 a2 I = some r) (hk : k (some (.inl (.inl r.1))) (r.2, L)) : jPM d 134 [.inr (31, 0), .inl (.inl a1), .inl (.inl a2)] (I, L) k := by
  refine pM (fun d n => ?_)
  unfold d134 at h
  refine pn_go [] 400 ?_
  conv => whnf
  obtain ⟨r1, hz1, h⟩ := obind h
  refine D132 hz1 ?_
  conv => whnf
  refine ⟨fun cz2 => ?_, fun cz2 => ?_⟩
  · replace h := (if_pos cz2).symm.trans h
    conv => whnf
    intro _
    conv => whnf
    refine D127 rfl ?_
    conv => whnf
    cases h
    exact hk
  · replace h := (if_neg cz2).symm.trans h
    conv => whnf
    cases h
    exact hk
/-- X8_tear -/
def d135 (a1 : Int32) (I : jI) : Option (Int32 × jI) :=
  if (d128 a1 I) = 0 then
    some ((-1), I)
  else
    if 0 ≤ (I 35 0 (Int32.toNatClampNeg a1)) then
      some (1, (jup I 35 0 (Int32.toNatClampNeg a1) (-1)))
    else
      some (((d126 1 I).1), ((d126 1 I).2))
set_option maxHeartbeats 4000000 in
set_option maxRecDepth 20000 in
theorem D135 {d : Nat} {k : jK} {a1 : Int32} {I : jI} {L : jL} {r : Int32 × jI} (h : d135 a1 I = some r) (hk : k (some (.inl (.inl r.1))) (r.2, L)) : jPM d 135 [.inr (31, 0), .inl (.inl a1)] (I, L) k := by
  refine pM (fun d n => ?_)
  unfold d135 at h
  refine pn_go [] 400 ?_
  conv => whnf
  refine D128 rfl ?_
  conv => whnf
  refine ⟨fun cz1 => ?_, fun cz1 => ?_⟩
  · replace h := (if_neg cz1).symm.trans h
    conv => whnf
    intro _
    conv => whnf
    refine ⟨fun cz2 => ?_, fun cz2 => ?_⟩
    · replace h := (if_pos cz2).symm.trans h
      conv => whnf
      intro _
      conv => whnf
      cases h
      exact hk
    · replace h := (if_neg cz2).symm.trans h
      conv => whnf
      refine D126 rfl ?_
      conv => whnf
      cases h
      exact hk
  · replace h := (if_pos cz1).symm.trans h
    conv => whnf
    cases h
    exact hk
/-- X8_isSpan -/
def d136 (a1 : Int32) (a2 : Int32) (a3 : Int32) (I : jI) : Int32 :=
  if a2 < 0 then
    0
  else
    if 0 < (lg_cmp ((Int32.toInt64 a2) + (Int32.toInt64 a3)) (Int32.toInt64 (I 35 0 (Int32.toNatClampNeg a1)))) then
      0
    else
      1
set_option maxHeartbeats 4000000 in
set_option maxRecDepth 20000 in
theorem D136 {d : Nat} {k : jK} {a1 : Int32} {a2 : Int32} {a3 : Int32} {I : jI} {L : jL} {r : Int32} (h : d136 a1 a2 a3 I = r) (hk : k (some (.inl (.inl r))) (I, L)) : jPM d 136 [.inr (31, 0), .inl (.inl a1), .inl (.inl a2), .inl (.inl a3)] (I, L) k := by
  refine pM (fun d n => ?_)
  unfold d136 at h
  refine pn_go [] 400 ?_
  conv => whnf
  refine ⟨fun cz1 => ?_, fun cz1 => ?_⟩
  · replace h := (if_pos cz1).symm.trans h
    conv => whnf
    subst h
    exact fun _ => hk
  · replace h := (if_neg cz1).symm.trans h
    conv => whnf
    intro _
    conv => whnf
    refine ⟨fun cz2 => ?_, fun cz2 => ?_⟩
    · replace h := (if_pos cz2).symm.trans h
      conv => whnf
      subst h
      exact fun _ => hk
    · replace h := (if_neg cz2).symm.trans h
      conv => whnf
      subst h
      exact fun _ => hk
/-- X8_copy, loop at 96 -/
def d137_96 (y1 : Int32) (y2 : Int32) (y3 : Int32) (y4 : Int32) (y5 : Int32) (y6 : Int32) : Nat → Int32 → jI → Option (jI)
  | 0, _, _ => none
  | F + 1, x7, I =>
    if y5 ≤ x7 then
      some I
    else
      if y6 = 0 then
        d137_96 y1 y2 y3 y4 y5 y6 F (x7 + 1) (jup I 36 0 (Int32.toNatClampNeg (((40 * y3) + y4) + x7)) (I 36 0 (Int32.toNatClampNeg (((40 * y1) + y2) + x7))))
      else
        d137_96 y1 y2 y3 y4 y5 y6 F (x7 + 1) (jup I 36 0 (Int32.toNatClampNeg (((40 * y3) + y4) + ((y5 - 1) - x7))) (I 36 0 (Int32.toNatClampNeg (((40 * y1) + y2) + ((y5 - 1) - x7)))))
set_option maxHeartbeats 4000000 in
set_option maxRecDepth 20000 in
theorem L137_96 {d n : Nat} {k : jK} {y1 : Int32} {y2 : Int32} {y3 : Int32} {y4 : Int32} {y5 : Int32} {y6 : Int32} {L : jL} : ∀ (F : Nat) (x7 : Int32) (I : jI) (e8 : Option jV) (r : jI), d137_96 y1 y2 y3 y4 y5 y6 F x7 I = some r → (∀ (f7 f8 : Option jV), pn (jPM d) k none (jco 137) n (157, [some (.inr (31, 0)), some (.inl (.inl y1)), some (.inl (.inl y2)), some (.inl (.inl y3)), some (.inl (.inl y4)), some (.inl (.inl y5)), some (.inl (.inl y6)), f7, f8], [], r, L)) → pn (jPM d) k none (jco 137) n (96, [some (.inr (31, 0)), some (.inl (.inl y1)), some (.inl (.inl y2)), some (.inl (.inl y3)), some (.inl (.inl y4)), some (.inl (.inl y5)), some (.inl (.inl y6)), some (.inl (.inl x7)), e8], [], I, L) := by
  intro F
  induction F with
  | zero => intro x7 I e8 r h hx; cases h
  | succ F ih =>
    intro x7 I e8 r h hx
    rw [d137_96] at h
    refine pn_go [96, 157] 400 ?_
    conv => whnf
    refine ⟨fun cz1 => ?_, fun cz1 => ?_⟩
    · replace h := (if_pos cz1).symm.trans h
      conv => whnf
      cases h
      exact hx _ _
    · replace h := (if_neg cz1).symm.trans h
      conv => whnf
      refine ⟨fun cz2 => ?_, fun cz2 => ?_⟩
      · replace h := (if_pos cz2).symm.trans h
        conv => whnf
        intro _
        conv => whnf
        intro _
        conv => whnf
        exact ih _ _ _ r h hx
      · replace h := (if_neg cz2).symm.trans h
        conv => whnf
        intro _
        conv => whnf
        intro _
        conv => whnf
        exact ih _ _ _ r h hx
/-- X8_copy -/
def d137 (a1 : Int32) (a2 : Int32) (a3 : Int32) (a4 : Int32) (a5 : Int32) (I : jI) : Option (Int32 × jI) :=
  if (d128 a1 I) = 0 then
    some ((-1), I)
  else
    if (d128 a3 I) = 0 then
      some ((-1), I)
    else
      if 0 ≤ a5 then
        if (I 35 0 (Int32.toNatClampNeg a1)) < 0 then
          some (((d126 1 I).1), ((d126 1 I).2))
        else
          if 0 ≤ (I 35 0 (Int32.toNatClampNeg a3)) then
            if (d136 a1 a2 a5 I) = 0 then
              some (((d126 2 I).1), ((d126 2 I).2))
            else
              if (d136 a3 a4 a5 I) = 0 then
                some (((d126 2 I).1), ((d126 2 I).2))
              else
                if a4 ≤ a2 then
                  (d137_96 a1 a2 a3 a4 a5 0 70 0 I).bind fun r1 =>
                  some (1, r1)
                else
                  (d137_96 a1 a2 a3 a4 a5 1 70 0 I).bind fun r2 =>
                  some (1, r2)
          else
            some (((d126 1 I).1), ((d126 1 I).2))
      else
        some (((d126 5 I).1), ((d126 5 I).2))
set_option maxHeartbeats 4000000 in
set_option maxRecDepth 20000 in
theorem D137 {d : Nat} {k : jK} {a1 : Int32} {a2 : Int32} {a3 : Int32} {a4 : Int32} {a5 : Int32} {I : jI} {L : jL} {r : Int32 × jI} (h : d137 a1 a2 a3 a4 a5 I = some r) (hk : k (some (.inl (.inl r.1))) (r.2, L)) : jPM d 137 [.inr (31, 0), .inl (.inl a1), .inl (.inl a2), .inl (.inl a3), .inl (.inl a4), .inl (.inl a5)] (I, L) k := by
  refine pM (fun d n => ?_)
  unfold d137 at h
  refine pn_go [96] 400 ?_
  conv => whnf
  refine D128 rfl ?_
  conv => whnf
  refine ⟨fun cz1 => ?_, fun cz1 => ?_⟩
  · replace h := (if_pos cz1).symm.trans h
    conv => whnf
    cases h
    exact hk
  · replace h := (if_neg cz1).symm.trans h
    conv => whnf
    refine D128 rfl ?_
    conv => whnf
    refine ⟨fun cz2 => ?_, fun cz2 => ?_⟩
    · replace h := (if_neg cz2).symm.trans h
      conv => whnf
      refine ⟨fun cz3 => ?_, fun cz3 => ?_⟩
      · replace h := (if_pos cz3).symm.trans h
        conv => whnf
        intro _
        conv => whnf
        refine ⟨fun cz4 => ?_, fun cz4 => ?_⟩
        · replace h := (if_pos cz4).symm.trans h
          conv => whnf
          refine D126 rfl ?_
          conv => whnf
          cases h
          exact hk
        · replace h := (if_neg cz4).symm.trans h
          conv => whnf
          intro _
          conv => whnf
          refine ⟨fun cz5 => ?_, fun cz5 => ?_⟩
          · replace h := (if_pos cz5).symm.trans h
            conv => whnf
            refine D136 rfl ?_
            conv => whnf
            refine ⟨fun cz6 => ?_, fun cz6 => ?_⟩
            · replace h := (if_pos cz6).symm.trans h
              conv => whnf
              refine D126 rfl ?_
              conv => whnf
              cases h
              exact hk
            · replace h := (if_neg cz6).symm.trans h
              conv => whnf
              refine D136 rfl ?_
              conv => whnf
              refine ⟨fun cz7 => ?_, fun cz7 => ?_⟩
              · replace h := (if_neg cz7).symm.trans h
                conv => whnf
                refine ⟨fun cz8 => ?_, fun cz8 => ?_⟩
                · replace h := (if_pos cz8).symm.trans h
                  conv => whnf
                  obtain ⟨r1, hz9, h⟩ := obind h
                  refine L137_96 _ _ _ _ _ hz9 (fun e7_r1 e8_r1 => ?_)
                  refine pn_go [96] 400 ?_
                  conv => whnf
                  cases h
                  exact hk
                · replace h := (if_neg cz8).symm.trans h
                  conv => whnf
                  obtain ⟨r2, hz10, h⟩ := obind h
                  refine L137_96 _ _ _ _ _ hz10 (fun e7_r2 e8_r2 => ?_)
                  refine pn_go [96] 400 ?_
                  conv => whnf
                  cases h
                  exact hk
              · replace h := (if_pos cz7).symm.trans h
                conv => whnf
                refine D126 rfl ?_
                conv => whnf
                cases h
                exact hk
          · replace h := (if_neg cz5).symm.trans h
            conv => whnf
            refine D126 rfl ?_
            conv => whnf
            cases h
            exact hk
      · replace h := (if_neg cz3).symm.trans h
        conv => whnf
        refine D126 rfl ?_
        conv => whnf
        cases h
        exact hk
    · replace h := (if_pos cz2).symm.trans h
      conv => whnf
      cases h
      exact hk
