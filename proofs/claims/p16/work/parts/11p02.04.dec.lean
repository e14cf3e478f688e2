/-- X1_takeAll -/
noncomputable def d28 (a0 : Nat) (a1 : Nat) (I : jI) : Option (jI) :=
  some (jcpy (d29 a0 a1 I) 22 a1 22 a0 (Int32.toNatClampNeg 0) (Int32.toNatClampNeg 0) (Int32.toNatClampNeg 40))
set_option maxHeartbeats 4000000 in
set_option maxRecDepth 20000 in
theorem D28 {d : Nat} {k : jK} {a0 : Nat} {a1 : Nat} {I : jI} {L : jL} {r : jI} (h : d28 a0 a1 I = some r) (hk : k none (r, L)) : jPM d 28 [.inr (4, a0), .inr (4, a1)] (I, L) k := by
  refine pM (fun d n => ?_)
  unfold d28 at h
  refine pn_go [] 400 ?_
  conv => whnf
  refine D29 rfl ?_
  conv => whnf
  intro _
  conv => whnf
  cases h
  exact hk
/-- X7_house, loop at 77 -/
noncomputable def d77_77 : Nat → Int32 → jI → Option (jI)
  | 0, _, _ => none
  | F + 1, x2, I =>
    if 3 ≤ x2 then
      some I
    else
      d77_77 F (x2 + 1) (jup I 6 0 (Int32.toNatClampNeg x2) (vp_nar .boolean 0))
set_option maxHeartbeats 4000000 in
set_option maxRecDepth 20000 in
theorem L77_77 {d n : Nat} {k : jK} {L : jL} : ∀ (F : Nat) (x2 : Int32) (I : jI) (e1 : Option jV) (r : jI), d77_77 F x2 I = some r → (∀ (f1 f2 : Option jV), pn (jPM d) k none (jco 77) n (95, [some (.inr (0, 0)), f1, f2], [], r, L)) → pn (jPM d) k none (jco 77) n (77, [some (.inr (0, 0)), e1, some (.inl (.inl x2))], [], I, L) := by
  intro F
  induction F with
  | zero => intro x2 I e1 r h hx; cases h
  | succ F ih =>
    intro x2 I e1 r h hx
    rw [d77_77] at h
    refine pn_go [77, 95] 400 ?_
    conv => whnf
    refine ⟨fun cz1 => ?_, fun cz1 => ?_⟩
    · replace h := (if_pos cz1).symm.trans h
      conv => whnf
      cases h
      exact hx _ _
    · replace h := (if_neg cz1).symm.trans h
      conv => whnf
      intro _
      conv => whnf
      exact ih _ _ _ r h hx
/-- X7_house -/
noncomputable def d77 (a1 : Int32) (I : jI) : Option (Int32 × jI) :=
  if (d15g2 a1 I) = 0 then
    some ((-1), I)
  else
    if (d16g2 a1 I) = 0 then
      some (((d113 1 I).1), ((d113 1 I).2))
    else
      (d58 a1 I).bind fun r1 =>
      if r1.1 = (-9) then
        (d28 0 5 r1.2).bind fun r2 =>
        (d28 1 0 r2).bind fun r3 =>
        (d77_77 70 0 r3).bind fun r4 =>
        some ((r4 4 1 6), r4)
      else
        some ((-4), r1.2)
set_option maxHeartbeats 4000000 in
set_option maxRecDepth 20000 in
theorem D77 {d : Nat} {k : jK} {a1 : Int32} {I : jI} {L : jL} {r : Int32 × jI} (h : d77 a1 I = some r) (hk : k (some (.inl (.inl r.1))) (r.2, L)) : jPM d 77 [.inr (0, 0), .inl (.inl a1)] (I, L) k := by
  refine pM (fun d n => ?_)
  unfold d77 at h
  refine pn_go [77] 400 ?_
  conv => whnf
  refine D15g2 rfl ?_
  conv => whnf
  refine ⟨fun cz1 => ?_, fun cz1 => ?_⟩
  · replace h := (if_neg cz1).symm.trans h
    conv => whnf
    refine D16g2 rfl ?_
    conv => whnf
    refine ⟨fun cz2 => ?_, fun cz2 => ?_⟩
    · replace h := (if_neg cz2).symm.trans h
      conv => whnf
      obtain ⟨r1, hz3, h⟩ := obind h
      refine D58 hz3 ?_
      conv => whnf
      refine ⟨fun cz4 => ?_, fun cz4 => ?_⟩
      · replace h := (if_pos cz4).symm.trans h
        conv => whnf
        obtain ⟨r2, hz5, h⟩ := obind h
        refine D28 hz5 ?_
        conv => whnf
        obtain ⟨r3, hz6, h⟩ := obind h
        refine D28 hz6 ?_
        conv => whnf
        obtain ⟨r4, hz7, h⟩ := obind h
        refine L77_77 _ _ _ _ _ hz7 (fun e1_r4 e2_r4 => ?_)
        refine pn_go [77] 400 ?_
        conv => whnf
        cases h
        exact hk
      · replace h := (if_neg cz4).symm.trans h
        conv => whnf
        cases h
        exact hk
    · replace h := (if_pos cz2).symm.trans h
      conv => whnf
      refine D113 rfl ?_
      conv => whnf
      cases h
      exact hk
  · replace h := (if_pos cz1).symm.trans h
    conv => whnf
    cases h
    exact hk
/-- X1_has -/
noncomputable def d31 (a0 : Nat) (a1 : Int32) (I : jI) : Int32 :=
  if a1 < 0 then
    0
  else
    if (I 4 a0 6) ≤ a1 then
      0
    else
      1
set_option maxHeartbeats 4000000 in
set_option maxRecDepth 20000 in
theorem D31 {d : Nat} {k : jK} {a0 : Nat} {a1 : Int32} {I : jI} {L : jL} {r : Int32} (h : d31 a0 a1 I = r) (hk : k (some (.inl (.inl r))) (I, L)) : jPM d 31 [.inr (4, a0), .inl (.inl a1)] (I, L) k := by
  refine pM (fun d n => ?_)
  unfold d31 at h
  refine pn_go [] 400 ?_
  conv => whnf
  refine ⟨fun cz1 => ?_, fun cz1 => ?_⟩
  · replace h := (if_pos cz1).symm.trans h
    conv => whnf
    subst h
    exact fun _ => hk
  · replace h := (if_neg cz1).symm.trans h
    conv => whnf
    refine ⟨fun cz2 => ?_, fun cz2 => ?_⟩
    · replace h := (if_pos cz2).symm.trans h
      conv => whnf
      subst h
      exact fun _ => hk
    · replace h := (if_neg cz2).symm.trans h
      conv => whnf
      subst h
      exact fun _ => hk
/-- X1_tell -/
noncomputable def d40 (a0 : Nat) (a1 : Int32) (a2 : Int32) (I : jI) : Int32 :=
  if a2 = 0 then
    (I 18 a0 (Int32.toNatClampNeg a1))
  else
    if a2 = 1 then
      (I 19 a0 (Int32.toNatClampNeg a1))
    else
      if a2 = 2 then
        (I 20 a0 (Int32.toNatClampNeg a1))
      else
        if a2 = 3 then
          (d37 a0 a1 I)
        else
          if a2 = 4 then
            (d35 a0 a1 1 I)
          else
            (d36 a0 a1 I)
/-- X2_parent -/
noncomputable def d4 (a0 : Int32) (I : jI) : Int32 :=
  if a0 = 4 then
    1
  else
    if a0 = 5 then
      2
    else
      0
/-- X2_isA -/
noncomputable def d3 (a0 : Int32) (a1 : Int32) (I : jI) : Int32 :=
  if a0 = a1 then
    1
  else
    if (d4 a0 I) = a1 then
      1
    else
      0
/-- X1_hasRoomFor -/
noncomputable def d33 (a0 : Nat) (a1 : Int32) (a2 : Int32) (I : jI) : Option (Int32) :=
  (d10 a0 I).bind fun r1 =>
  if (I 4 a0 8) < (r1 + (a2 * (d36 a0 a1 I))) then
    some 0
  else
    some 1
set_option maxHeartbeats 4000000 in
set_option maxRecDepth 20000 in
theorem D33 {d : Nat} {k : jK} {a0 : Nat} {a1 : Int32} {a2 : Int32} {I : jI} {L : jL} {r : Int32} (h : d33 a0 a1 a2 I = some r) (hk : k (some (.inl (.inl r))) (I, L)) : jPM d 33 [.inr (4, a0), .inl (.inl a1), .inl (.inl a2)] (I, L) k := by
  refine pM (fun d n => ?_)
  unfold d33 at h
  refine pn_go [] 400 ?_
  conv => whnf
  obtain ⟨r1, hz1, h⟩ := obind h
  refine D10 hz1 ?_
  conv => whnf
  refine D36 rfl ?_
  conv => whnf
  refine ⟨fun cz2 => ?_, fun cz2 => ?_⟩
  · replace h := (if_pos cz2).symm.trans h
    conv => whnf
    cases h
    exact fun _ => hk
  · replace h := (if_neg cz2).symm.trans h
    conv => whnf
    cases h
    exact fun _ => hk
/-- X1_hasDeedsFor -/
noncomputable def d32 (a0 : Nat) (a1 : Int32) (I : jI) : Int32 :=
  if 40 < ((I 4 a0 15) + a1) then
    0
  else
    1
set_option maxHeartbeats 4000000 in
set_option maxRecDepth 20000 in
theorem D32 {d : Nat} {k : jK} {a0 : Nat} {a1 : Int32} {I : jI} {L : jL} {r : Int32} (h : d32 a0 a1 I = r) (hk : k (some (.inl (.inl r))) (I, L)) : jPM d 32 [.inr (4, a0), .inl (.inl a1)] (I, L) k := by
  refine pM (fun d n => ?_)
  unfold d32 at h
  refine pn_go [] 400 ?_
  conv => whnf
  refine ⟨fun cz1 => ?_, fun cz1 => ?_⟩
  · replace h := (if_pos cz1).symm.trans h
    conv => whnf
    subst h
    exact fun _ => hk
  · replace h := (if_neg cz1).symm.trans h
    conv => whnf
    subst h
    exact fun _ => hk
/-- X1_bringHome -/
noncomputable def d45 (a0 : Nat) (a1 : Int32) (a2 : Int32) (I : jI) : Option (Int32 × jI) :=
  some ((d35 a0 a1 a2 I), (d12 a0 (d37 a0 a1 (jup I 4 a0 10 ((I 4 a0 10) + (d35 a0 a1 a2 I)))) (a2 * (d36 a0 a1 (jup I 4 a0 10 ((I 4 a0 10) + (d35 a0 a1 a2 I))))) (jup I 4 a0 10 ((I 4 a0 10) + (d35 a0 a1 a2 I)))))
set_option maxHeartbeats 4000000 in
set_option maxRecDepth 20000 in
theorem D45 {d : Nat} {k : jK} {a0 : Nat} {a1 : Int32} {a2 : Int32} {I : jI} {L : jL} {r : Int32 × jI} (h : d45 a0 a1 a2 I = some r) (hk : k (some (.inl (.inl r.1))) (r.2, L)) : jPM d 45 [.inr (4, a0), .inl (.inl a1), .inl (.inl a2)] (I, L) k := by
  refine pM (fun d n => ?_)
  unfold d45 at h
  refine pn_go [] 400 ?_
  conv => whnf
  refine D35 rfl ?_
  conv => whnf
  refine D37 rfl ?_
  conv => whnf
  refine D36 rfl ?_
  conv => whnf
  refine D12 rfl ?_
  conv => whnf
  cases h
  exact hk
/-- X1_passWeek -/
noncomputable def d46 (a0 : Nat) (I : jI) : Option (Int32 × jI) :=
  (d13 a0 (I 4 a0 7) I).bind fun r1 =>
  some (((d14 a0 (jup (jup r1.2 4 a0 11 ((r1.2 4 a0 11) + r1.1)) 4 a0 12 (((jup r1.2 4 a0 11 ((r1.2 4 a0 11) + r1.1)) 4 a0 12) + (((jup r1.2 4 a0 11 ((r1.2 4 a0 11) + r1.1)) 4 a0 7) - r1.1)))).1), (jup (jup ((d14 a0 (jup (jup r1.2 4 a0 11 ((r1.2 4 a0 11) + r1.1)) 4 a0 12 (((jup r1.2 4 a0 11 ((r1.2 4 a0 11) + r1.1)) 4 a0 12) + (((jup r1.2 4 a0 11 ((r1.2 4 a0 11) + r1.1)) 4 a0 7) - r1.1)))).2) 4 a0 13 ((((d14 a0 (jup (jup r1.2 4 a0 11 ((r1.2 4 a0 11) + r1.1)) 4 a0 12 (((jup r1.2 4 a0 11 ((r1.2 4 a0 11) + r1.1)) 4 a0 12) + (((jup r1.2 4 a0 11 ((r1.2 4 a0 11) + r1.1)) 4 a0 7) - r1.1)))).2) 4 a0 13) + ((d14 a0 (jup (jup r1.2 4 a0 11 ((r1.2 4 a0 11) + r1.1)) 4 a0 12 (((jup r1.2 4 a0 11 ((r1.2 4 a0 11) + r1.1)) 4 a0 12) + (((jup r1.2 4 a0 11 ((r1.2 4 a0 11) + r1.1)) 4 a0 7) - r1.1)))).1))) 4 a0 9 (((jup ((d14 a0 (jup (jup r1.2 4 a0 11 ((r1.2 4 a0 11) + r1.1)) 4 a0 12 (((jup r1.2 4 a0 11 ((r1.2 4 a0 11) + r1.1)) 4 a0 12) + (((jup r1.2 4 a0 11 ((r1.2 4 a0 11) + r1.1)) 4 a0 7) - r1.1)))).2) 4 a0 13 ((((d14 a0 (jup (jup r1.2 4 a0 11 ((r1.2 4 a0 11) + r1.1)) 4 a0 12 (((jup r1.2 4 a0 11 ((r1.2 4 a0 11) + r1.1)) 4 a0 12) + (((jup r1.2 4 a0 11 ((r1.2 4 a0 11) + r1.1)) 4 a0 7) - r1.1)))).2) 4 a0 13) + ((d14 a0 (jup (jup r1.2 4 a0 11 ((r1.2 4 a0 11) + r1.1)) 4 a0 12 (((jup r1.2 4 a0 11 ((r1.2 4 a0 11) + r1.1)) 4 a0 12) + (((jup r1.2 4 a0 11 ((r1.2 4 a0 11) + r1.1)) 4 a0 7) - r1.1)))).1))) 4 a0 9) + 1)))
set_option maxHeartbeats 4000000 in
set_option maxRecDepth 20000 in
theorem D46 {d : Nat} {k : jK} {a0 : Nat} {I : jI} {L : jL} {r : Int32 × jI} (h : d46 a0 I = some r) (hk : k (some (.inl (.inl r.1))) (r.2, L)) : jPM d 46 [.inr (4, a0)] (I, L) k := by
  refine pM (fun d n => ?_)
  unfold d46 at h
  refine pn_go [] 400 ?_
  conv => whnf
  obtain ⟨r1, hz1, h⟩ := obind h
  refine D13 hz1 ?_
  conv => whnf
  refine D14 rfl ?_
  conv => whnf
  cases h
  exact hk
/-- X1_perform -/
noncomputable def d44 (a0 : Nat) (a1 : Int32) (a2 : Int32) (a3 : Int32) (I : jI) : Option (Int32 × jI) :=
  if (d32 a0 1 I) = 0 then
    some ((-2), I)
  else
    if a1 = 0 then
      (d45 a0 a2 a3 (jup (jup I 22 a0 (Int32.toNatClampNeg (I 4 a0 15)) (((a1 * 1000) + (a2 * 100)) + a3)) 4 a0 15 (((jup I 22 a0 (Int32.toNatClampNeg (I 4 a0 15)) (((a1 * 1000) + (a2 * 100)) + a3)) 4 a0 15) + 1))).bind fun r1 =>
      some (r1.1, r1.2)
    else
      if a1 = 1 then
        (d46 a0 (jup (jup I 22 a0 (Int32.toNatClampNeg (I 4 a0 15)) (((a1 * 1000) + (a2 * 100)) + a3)) 4 a0 15 (((jup I 22 a0 (Int32.toNatClampNeg (I 4 a0 15)) (((a1 * 1000) + (a2 * 100)) + a3)) 4 a0 15) + 1))).bind fun r2 =>
        some (r2.1, r2.2)
      else
        if a1 = 2 then
          some (((jup (jup (jup I 22 a0 (Int32.toNatClampNeg (I 4 a0 15)) (((a1 * 1000) + (a2 * 100)) + a3)) 4 a0 15 (((jup I 22 a0 (Int32.toNatClampNeg (I 4 a0 15)) (((a1 * 1000) + (a2 * 100)) + a3)) 4 a0 15) + 1)) 19 a0 (Int32.toNatClampNeg a2) (((jup (jup I 22 a0 (Int32.toNatClampNeg (I 4 a0 15)) (((a1 * 1000) + (a2 * 100)) + a3)) 4 a0 15 (((jup I 22 a0 (Int32.toNatClampNeg (I 4 a0 15)) (((a1 * 1000) + (a2 * 100)) + a3)) 4 a0 15) + 1)) 19 a0 (Int32.toNatClampNeg a2)) - 1)) 19 a0 (Int32.toNatClampNeg a2)), (jup (jup (jup I 22 a0 (Int32.toNatClampNeg (I 4 a0 15)) (((a1 * 1000) + (a2 * 100)) + a3)) 4 a0 15 (((jup I 22 a0 (Int32.toNatClampNeg (I 4 a0 15)) (((a1 * 1000) + (a2 * 100)) + a3)) 4 a0 15) + 1)) 19 a0 (Int32.toNatClampNeg a2) (((jup (jup I 22 a0 (Int32.toNatClampNeg (I 4 a0 15)) (((a1 * 1000) + (a2 * 100)) + a3)) 4 a0 15 (((jup I 22 a0 (Int32.toNatClampNeg (I 4 a0 15)) (((a1 * 1000) + (a2 * 100)) + a3)) 4 a0 15) + 1)) 19 a0 (Int32.toNatClampNeg a2)) - 1)))
        else
          if a1 = 3 then
            some (((jup (jup I 22 a0 (Int32.toNatClampNeg (I 4 a0 15)) (((a1 * 1000) + (a2 * 100)) + a3)) 4 a0 15 (((jup I 22 a0 (Int32.toNatClampNeg (I 4 a0 15)) (((a1 * 1000) + (a2 * 100)) + a3)) 4 a0 15) + 1)) 20 a0 (Int32.toNatClampNeg a2)), (jup (jup (jup I 22 a0 (Int32.toNatClampNeg (I 4 a0 15)) (((a1 * 1000) + (a2 * 100)) + a3)) 4 a0 15 (((jup I 22 a0 (Int32.toNatClampNeg (I 4 a0 15)) (((a1 * 1000) + (a2 * 100)) + a3)) 4 a0 15) + 1)) 20 a0 (Int32.toNatClampNeg a2) a3))
          else
            if a3 = 1 then
              some (a3, (jup (jup (jup I 22 a0 (Int32.toNatClampNeg (I 4 a0 15)) (((a1 * 1000) + (a2 * 100)) + a3)) 4 a0 15 (((jup I 22 a0 (Int32.toNatClampNeg (I 4 a0 15)) (((a1 * 1000) + (a2 * 100)) + a3)) 4 a0 15) + 1)) 4 a0 14 1))
            else
              some (a3, (jup (jup (jup I 22 a0 (Int32.toNatClampNeg (I 4 a0 15)) (((a1 * 1000) + (a2 * 100)) + a3)) 4 a0 15 (((jup I 22 a0 (Int32.toNatClampNeg (I 4 a0 15)) (((a1 * 1000) + (a2 * 100)) + a3)) 4 a0 15) + 1)) 4 a0 14 0))
set_option maxHeartbeats 4000000 in
set_option maxRecDepth 20000 in
theorem D44 {d : Nat} {k : jK} {a0 : Nat} {a1 : Int32} {a2 : Int32} {a3 : Int32} {I : jI} {L : jL} {r : Int32 × jI} (h : d44 a0 a1 a2 a3 I = some r) (hk : k (some (.inl (.inl r.1))) (r.2, L)) : jPM d 44 [.inr (4, a0), .inl (.inl a1), .inl (.inl a2), .inl (.inl a3)] (I, L) k := by
  refine pM (fun d n => ?_)
  unfold d44 at h
  refine pn_go [] 400 ?_
  conv => whnf
  refine D32 rfl ?_
  conv => whnf
  refine ⟨fun cz1 => ?_, fun cz1 => ?_⟩
  · replace h := (if_neg cz1).symm.trans h
    conv => whnf
    intro _
    conv => whnf
    refine And.intro (fun cz2 => ?_) (fun cz2 => ?_)
    · replace h := (if_pos cz2).symm.trans h
      conv => whnf
      obtain ⟨r1, hz3, h⟩ := obind h
      refine D45 hz3 ?_
      conv => whnf
      cases h
      exact hk
    replace h := (if_neg cz2).symm.trans h
    refine jsw_cons (fun cz4 => ?_) (fun cz4 => ?_)
    · replace h := (if_pos cz4).symm.trans h
      conv => whnf
      obtain ⟨r2, hz5, h⟩ := obind h
      refine D46 hz5 ?_
      conv => whnf
      cases h
      exact hk
    replace h := (if_neg cz4).symm.trans h
    refine jsw_cons (fun cz6 => ?_) (fun cz6 => ?_)
    · replace h := (if_pos cz6).symm.trans h
      conv => whnf
      intro _
      conv => whnf
      intro _
      conv => whnf
      intro _
      conv => whnf
      cases h
      exact hk
    replace h := (if_neg cz6).symm.trans h
    refine jsw_cons (fun cz7 => ?_) (fun cz7 => ?_)
    · replace h := (if_pos cz7).symm.trans h
      conv => whnf
      intro _
      conv => whnf
      intro _
      conv => whnf
      cases h
      exact hk
    replace h := (if_neg cz7).symm.trans h
    refine jsw_nil ?_
    conv => whnf
    refine ⟨fun cz8 => ?_, fun cz8 => ?_⟩
    · replace h := (if_neg cz8).symm.trans h
      conv => whnf
      intro _
      conv => whnf
      cases h
      exact hk
    · replace h := (if_pos cz8).symm.trans h
      conv => whnf
      intro _
      conv => whnf
      cases h
      exact hk
  · replace h := (if_pos cz1).symm.trans h
    conv => whnf
    cases h
    exact hk
/-- X7_buy -/
noncomputable def d81 (a1 : Int32) (a2 : Int32) (I : jI) : Option (Int32 × jI) :=
  if (d31 1 a1 I) = 0 then
    some ((-1), I)
  else
    if a2 < 1 then
      some ((-1), I)
    else
      if a2 ≤ 3 then
        (d33 1 a1 a2 I).bind fun r1 =>
        if r1 = 0 then
          some ((-6), I)
        else
          (d44 1 0 a1 a2 I).bind fun r2 =>
          some (r2.1, r2.2)
      else
        some ((-1), I)
set_option maxHeartbeats 4000000 in
set_option maxRecDepth 20000 in
theorem D81 {d : Nat} {k : jK} {a1 : Int32} {a2 : Int32} {I : jI} {L : jL} {r : Int32 × jI} (h : d81 a1 a2 I = some r) (hk : k (some (.inl (.inl r.1))) (r.2, L)) : jPM d 81 [.inr (0, 0), .inl (.inl a1), .inl (.inl a2)] (I, L) k := by
  refine pM (fun d n => ?_)
  unfold d81 at h
  refine pn_go [] 400 ?_
  conv => whnf
  refine D31 rfl ?_
  conv => whnf
  refine ⟨fun cz1 => ?_, fun cz1 => ?_⟩
  · replace h := (if_pos cz1).symm.trans h
    conv => whnf
    cases h
    exact hk
  · replace h := (if_neg cz1).symm.trans h
    conv => whnf
    refine ⟨fun cz2 => ?_, fun cz2 => ?_⟩
    · replace h := (if_pos cz2).symm.trans h
      conv => whnf
      cases h
      exact hk
    · replace h := (if_neg cz2).symm.trans h
      conv => whnf
      refine ⟨fun cz3 => ?_, fun cz3 => ?_⟩
      · replace h := (if_pos cz3).symm.trans h
        conv => whnf
        obtain ⟨r1, hz4, h⟩ := obind h
        refine D33 hz4 ?_
        conv => whnf
        refine ⟨fun cz5 => ?_, fun cz5 => ?_⟩
        · replace h := (if_neg cz5).symm.trans h
          conv => whnf
          obtain ⟨r2, hz6, h⟩ := obind h
          refine D44 hz6 ?_
          conv => whnf
          cases h
          exact hk
        · replace h := (if_pos cz5).symm.trans h
          conv => whnf
          cases h
          exact hk
      · replace h := (if_neg cz3).symm.trans h
        conv => whnf
        cases h
        exact hk
