/-- X8_text, loop at 34 -/
noncomputable def d139_34 (y1 : Int32) (y2 : Int32) : Nat → Int32 → jI → Option (jI)
  | 0, _, _ => none
  | F + 1, x3, I =>
    if 60 ≤ x3 then
      some I
    else
      d139_34 y1 y2 F (x3 + 1) (jup I 38 0 (Int32.toNatClampNeg ((60 * y1) + x3)) 32)
set_option maxHeartbeats 4000000 in
set_option maxRecDepth 20000 in
theorem L139_34 {d n : Nat} {k : jK} {y1 : Int32} {y2 : Int32} {L : jL} : ∀ (F : Nat) (x3 : Int32) (I : jI) (r : jI), d139_34 y1 y2 F x3 I = some r → (∀ (f3 : Option jV), pn (jPM d) k none (jco 139) n (59, [some (.inr (31, 0)), some (.inl (.inl y1)), some (.inl (.inl y2)), f3], [], r, L)) → pn (jPM d) k none (jco 139) n (34, [some (.inr (31, 0)), some (.inl (.inl y1)), some (.inl (.inl y2)), some (.inl (.inl x3))], [], I, L) := by
  intro F
  induction F with
  | zero => intro x3 I r h hx; cases h
  | succ F ih =>
    intro x3 I r h hx
    rw [d139_34] at h
    refine pn_go [34, 59] 400 ?_
    conv => whnf
    refine ⟨fun cz1 => ?_, fun cz1 => ?_⟩
    · replace h := (if_pos cz1).symm.trans h
      conv => whnf
      cases h
      exact hx _
    · replace h := (if_neg cz1).symm.trans h
      conv => whnf
      intro _
      conv => whnf
      exact ih _ _ r h hx
/-- X8_text -/
noncomputable def d139 (a1 : Int32) (a2 : Int32) (I : jI) : Option (Int32 × jI) :=
  if (d129 a1 I) = 0 then
    some ((-1), I)
  else
    if a2 ≤ 60 then
      if 0 ≤ a2 then
        (d139_34 a1 a2 70 0 (jup I 37 0 (Int32.toNatClampNeg a1) a2)).bind fun r1 =>
        some (a2, r1)
      else
        some (((d126 5 I).1), ((d126 5 I).2))
    else
      some ((-1), I)
set_option maxHeartbeats 4000000 in
set_option maxRecDepth 20000 in
theorem D139 {d : Nat} {k : jK} {a1 : Int32} {a2 : Int32} {I : jI} {L : jL} {r : Int32 × jI} (h : d139 a1 a2 I = some r) (hk : k (some (.inl (.inl r.1))) (r.2, L)) : jPM d 139 [.inr (31, 0), .inl (.inl a1), .inl (.inl a2)] (I, L) k := by
  refine pM (fun d n => ?_)
  unfold d139 at h
  refine pn_go [34] 400 ?_
  conv => whnf
  refine D129 rfl ?_
  conv => whnf
  refine ⟨fun cz1 => ?_, fun cz1 => ?_⟩
  · replace h := (if_pos cz1).symm.trans h
    conv => whnf
    cases h
    exact hk
  · replace h := (if_neg cz1).symm.trans h
    conv => whnf
    refine ⟨fun cz2 => ?_, fun cz2 => ?_⟩
    · replace h := (if_pos cz2).symm.trans h
      conv => whnf
      refine ⟨fun cz3 => ?_, fun cz3 => ?_⟩
      · replace h := (if_pos cz3).symm.trans h
        conv => whnf
        intro _
        conv => whnf
        obtain ⟨r1, hz4, h⟩ := obind h
        refine L139_34 _ _ _ _ hz4 (fun e3_r1 => ?_)
        refine pn_go [34] 400 ?_
        conv => whnf
        cases h
        exact hk
      · replace h := (if_neg cz3).symm.trans h
        conv => whnf
        refine D126 rfl ?_
        conv => whnf
        cases h
        exact hk
    · replace h := (if_neg cz2).symm.trans h
      conv => whnf
      cases h
      exact hk
/-- X8_put -/
noncomputable def d140 (a1 : Int32) (a2 : Int32) (a3 : Int32) (I : jI) : Option (Int32 × jI) :=
  if (d129 a1 I) = 0 then
    some ((-1), I)
  else
    if 0 ≤ (I 37 0 (Int32.toNatClampNeg a1)) then
      if (d124 (Int32.toInt64 a2) 0 (Int32.toInt64 ((I 37 0 (Int32.toNatClampNeg a1)) - 1)) I) = 0 then
        some (((d126 2 I).1), ((d126 2 I).2))
      else
        some (((I 38 0 (Int32.toNatClampNeg ((60 * a1) + a2))) + 1000), (jup I 38 0 (Int32.toNatClampNeg ((60 * a1) + a2)) (Int32.toInt8 a3).toInt32))
    else
      some (((d126 1 I).1), ((d126 1 I).2))
set_option maxHeartbeats 4000000 in
set_option maxRecDepth 20000 in
theorem D140 {d : Nat} {k : jK} {a1 : Int32} {a2 : Int32} {a3 : Int32} {I : jI} {L : jL} {r : Int32 × jI} (h : d140 a1 a2 a3 I = some r) (hk : k (some (.inl (.inl r.1))) (r.2, L)) : jPM d 140 [.inr (31, 0), .inl (.inl a1), .inl (.inl a2), .inl (.inl a3)] (I, L) k := by
  refine pM (fun d n => ?_)
  unfold d140 at h
  refine pn_go [] 400 ?_
  conv => whnf
  refine D129 rfl ?_
  conv => whnf
  refine ⟨fun cz1 => ?_, fun cz1 => ?_⟩
  · replace h := (if_neg cz1).symm.trans h
    conv => whnf
    intro _
    conv => whnf
    refine ⟨fun cz2 => ?_, fun cz2 => ?_⟩
    · replace h := (if_pos cz2).symm.trans h
      conv => whnf
      intro _
      conv => whnf
      refine D124 rfl ?_
      conv => whnf
      refine ⟨fun cz3 => ?_, fun cz3 => ?_⟩
      · replace h := (if_neg cz3).symm.trans h
        conv => whnf
        intro _
        conv => whnf
        intro _
        conv => whnf
        cases h
        exact hk
      · replace h := (if_pos cz3).symm.trans h
        conv => whnf
        refine D126 rfl ?_
        conv => whnf
        cases h
        exact hk
    · replace h := (if_neg cz2).symm.trans h
      conv => whnf
      refine D126 rfl ?_
      conv => whnf
      cases h
      exact hk
  · replace h := (if_pos cz1).symm.trans h
    conv => whnf
    cases h
    exact hk
/-- X8_here -/
noncomputable def d141 (I : jI) : Int32 :=
  (I 38 0 (Int32.toNatClampNeg ((I 31 0 15) + (I 31 0 16))))
set_option maxHeartbeats 4000000 in
set_option maxRecDepth 20000 in
theorem D141 {d : Nat} {k : jK} {I : jI} {L : jL} {r : Int32} (h : d141 I = r) (hk : k (some (.inl (.inl r))) (I, L)) : jPM d 141 [.inr (31, 0)] (I, L) k := by
  refine pM (fun d n => ?_)
  unfold d141 at h
  refine pn_go [] 400 ?_
  conv => whnf
  intro _
  conv => whnf
  subst h
  exact hk
/-- X8_skip, loop at 0 -/
noncomputable def d142_0 : Nat → jI → Option (jI)
  | 0, _ => none
  | F + 1, I =>
    if (I 31 0 17) ≤ (I 31 0 16) then
      some I
    else
      if (d141 I) = 32 then
        d142_0 F (jup I 31 0 16 ((I 31 0 16) + 1))
      else
        some I
set_option maxHeartbeats 4000000 in
set_option maxRecDepth 20000 in
theorem L142_0 {d n : Nat} {k : jK} {L : jL} : ∀ (F : Nat) (I : jI) (r : jI), d142_0 F I = some r → (pn (jPM d) k none (jco 142) n (33, [some (.inr (31, 0))], [], r, L)) → pn (jPM d) k none (jco 142) n (0, [some (.inr (31, 0))], [], I, L) := by
  intro F
  induction F with
  | zero => intro I r h hx; cases h
  | succ F ih =>
    intro I r h hx
    rw [d142_0] at h
    refine pn_go [0, 33] 400 ?_
    conv => whnf
    refine ⟨fun cz1 => ?_, fun cz1 => ?_⟩
    · replace h := (if_pos cz1).symm.trans h
      conv => whnf
      cases h
      exact hx
    · replace h := (if_neg cz1).symm.trans h
      conv => whnf
      refine D141 rfl ?_
      conv => whnf
      refine ⟨fun cz2 => ?_, fun cz2 => ?_⟩
      · replace h := (if_neg cz2).symm.trans h
        conv => whnf
        cases h
        exact hx
      · replace h := (if_pos cz2).symm.trans h
        conv => whnf
        exact ih _ r h hx
/-- X8_skip -/
noncomputable def d142 (I : jI) : Option (jI) :=
  (d142_0 70 I).bind fun r1 =>
  some r1
set_option maxHeartbeats 4000000 in
set_option maxRecDepth 20000 in
theorem D142 {d : Nat} {k : jK} {I : jI} {L : jL} {r : jI} (h : d142 I = some r) (hk : k none (r, L)) : jPM d 142 [.inr (31, 0)] (I, L) k := by
  refine pM (fun d n => ?_)
  unfold d142 at h
  obtain ⟨r1, hz1, h⟩ := obind h
  refine L142_0 _ _ _ hz1 ?_
  refine pn_go [0] 400 ?_
  conv => whnf
  cases h
  exact hk
/-- X8_figure -/
noncomputable def d143 (a1 : Int32) (a2 : Int32) (I : jI) : Option (Int32 × jI) :=
  if (I 31 0 16) = (I 31 0 17) then
    some ((-9), I)
  else
    if (d124 (Int32.toInt64 (d141 I)) (Int32.toInt64 (48 + a1)) (Int32.toInt64 (48 + a2)) I) = 0 then
      some ((-9), I)
    else
      some ((((jup I 31 0 16 ((I 31 0 16) + 1)) 38 0 (Int32.toNatClampNeg ((((jup I 31 0 16 ((I 31 0 16) + 1)) 31 0 15) + ((jup I 31 0 16 ((I 31 0 16) + 1)) 31 0 16)) - 1))) - 48), (jup I 31 0 16 ((I 31 0 16) + 1)))
set_option maxHeartbeats 4000000 in
set_option maxRecDepth 20000 in
theorem D143 {d : Nat} {k : jK} {a1 : Int32} {a2 : Int32} {I : jI} {L : jL} {r : Int32 × jI} (h : d143 a1 a2 I = some r) (hk : k (some (.inl (.inl r.1))) (r.2, L)) : jPM d 143 [.inr (31, 0), .inl (.inl a1), .inl (.inl a2)] (I, L) k := by
  refine pM (fun d n => ?_)
  unfold d143 at h
  refine pn_go [] 400 ?_
  conv => whnf
  refine ⟨fun cz1 => ?_, fun cz1 => ?_⟩
  · replace h := (if_pos cz1).symm.trans h
    conv => whnf
    cases h
    exact hk
  · replace h := (if_neg cz1).symm.trans h
    conv => whnf
    refine D141 rfl ?_
    conv => whnf
    refine D124 rfl ?_
    conv => whnf
    refine ⟨fun cz2 => ?_, fun cz2 => ?_⟩
    · replace h := (if_neg cz2).symm.trans h
      conv => whnf
      intro _
      conv => whnf
      cases h
      exact hk
    · replace h := (if_pos cz2).symm.trans h
      conv => whnf
      cases h
      exact hk
/-- X8_twoFigures -/
noncomputable def d144 (I : jI) : Option (Int32 × jI) :=
  (d143 0 9 I).bind fun r1 =>
  if r1.1 = (-9) then
    some ((-9), r1.2)
  else
    (d143 0 9 r1.2).bind fun r2 =>
    if r2.1 = (-9) then
      some ((-9), r2.2)
    else
      some (((10 * r1.1) + r2.1), r2.2)
set_option maxHeartbeats 4000000 in
set_option maxRecDepth 20000 in
theorem D144 {d : Nat} {k : jK} {I : jI} {L : jL} {r : Int32 × jI} (h : d144 I = some r) (hk : k (some (.inl (.inl r.1))) (r.2, L)) : jPM d 144 [.inr (31, 0)] (I, L) k := by
  refine pM (fun d n => ?_)
  unfold d144 at h
  refine pn_go [] 400 ?_
  conv => whnf
  obtain ⟨r1, hz1, h⟩ := obind h
  refine D143 hz1 ?_
  conv => whnf
  refine ⟨fun cz2 => ?_, fun cz2 => ?_⟩
  · replace h := (if_neg cz2).symm.trans h
    conv => whnf
    obtain ⟨r2, hz3, h⟩ := obind h
    refine D143 hz3 ?_
    conv => whnf
    refine ⟨fun cz4 => ?_, fun cz4 => ?_⟩
    · replace h := (if_neg cz4).symm.trans h
      conv => whnf
      cases h
      exact hk
    · replace h := (if_pos cz4).symm.trans h
      conv => whnf
      cases h
      exact hk
  · replace h := (if_pos cz2).symm.trans h
    conv => whnf
    refine ⟨fun z => absurd z (by decide), fun _ => ?_⟩
    conv => whnf
    cases h
    exact hk
/-- X8_readsNeed -/
noncomputable def d145 (I : jI) : Option (Int32 × jI) :=
  (d142 I).bind fun r1 =>
  if (r1 31 0 16) = (r1 31 0 17) then
    some (0, r1)
  else
    if (d141 r1) = 110 then
      (d143 1 9 (jup r1 31 0 16 ((r1 31 0 16) + 1))).bind fun r2 =>
      if ((jup r2.2 31 0 18 r2.1) 31 0 18) = (-9) then
        if ((jup (jup r2.2 31 0 18 r2.1) 31 0 19 (-9)) 31 0 19) = (-9) then
          some (0, (jup (jup r2.2 31 0 18 r2.1) 31 0 19 (-9)))
        else
          some (1, (jup (jup r2.2 31 0 18 r2.1) 31 0 19 (-9)))
      else
        (d144 (jup r2.2 31 0 18 r2.1)).bind fun r3 =>
        if ((jup r3.2 31 0 19 r3.1) 31 0 19) = (-9) then
          some (0, (jup r3.2 31 0 19 r3.1))
        else
          some (1, (jup r3.2 31 0 19 r3.1))
    else
      some (0, r1)
set_option maxHeartbeats 4000000 in
set_option maxRecDepth 20000 in
theorem D145 {d : Nat} {k : jK} {I : jI} {L : jL} {r : Int32 × jI} (h : d145 I = some r) (hk : k (some (.inl (.inl r.1))) (r.2, L)) : jPM d 145 [.inr (31, 0)] (I, L) k := by
  refine pM (fun d n => ?_)
  unfold d145 at h
  refine pn_go [] 400 ?_
  conv => whnf
  obtain ⟨r1, hz1, h⟩ := obind h
  refine D142 hz1 ?_
  conv => whnf
  refine ⟨fun cz2 => ?_, fun cz2 => ?_⟩
  · replace h := (if_pos cz2).symm.trans h
    conv => whnf
    cases h
    exact fun _ => hk
  · replace h := (if_neg cz2).symm.trans h
    conv => whnf
    refine D141 rfl ?_
    conv => whnf
    refine ⟨fun cz3 => ?_, fun cz3 => ?_⟩
    · replace h := (if_pos cz3).symm.trans h
      conv => whnf
      obtain ⟨r2, hz4, h⟩ := obind h
      refine D143 hz4 ?_
      conv => whnf
      refine ⟨fun cz5 => ?_, fun cz5 => ?_⟩
      · replace h := (if_neg cz5).symm.trans h
        conv => whnf
        obtain ⟨r3, hz6, h⟩ := obind h
        refine D144 hz6 ?_
        conv => whnf
        refine ⟨fun cz7 => ?_, fun cz7 => ?_⟩
        · replace h := (if_pos cz7).symm.trans h
          conv => whnf
          cases h
          exact fun _ => hk
        · replace h := (if_neg cz7).symm.trans h
          conv => whnf
          cases h
          exact fun _ => hk
      · replace h := (if_pos cz5).symm.trans h
        conv => whnf
        refine ⟨fun cz8 => ?_, fun cz8 => ?_⟩
        · replace h := (if_pos cz8).symm.trans h
          conv => whnf
          cases h
          exact fun _ => hk
        · replace h := (if_neg cz8).symm.trans h
          conv => whnf
          cases h
          exact fun _ => hk
    · replace h := (if_neg cz3).symm.trans h
      conv => whnf
      cases h
      exact fun _ => hk
/-- X8_kindOfLetter -/
noncomputable def d146 (a0 : Int32) (I : jI) : Int32 :=
  if a0 = 112 then
    0
  else
    if a0 = 99 then
      1
    else
      if a0 = 104 then
        2
      else
        if a0 = 115 then
          3
        else
          if a0 = 108 then
            4
          else
            if a0 = 121 then
              5
            else
              (-9)
set_option maxHeartbeats 4000000 in
set_option maxRecDepth 20000 in
theorem D146 {d : Nat} {k : jK} {a0 : Int32} {I : jI} {L : jL} {r : Int32} (h : d146 a0 I = r) (hk : k (some (.inl (.inl r))) (I, L)) : jPM d 146 [.inl (.inl a0)] (I, L) k := by
  refine pM (fun d n => ?_)
  unfold d146 at h
  refine pn_go [] 400 ?_
  conv => whnf
  refine ⟨fun cz1 => ?_, fun cz1 => ?_⟩
  · replace h := (if_neg cz1).symm.trans h
    conv => whnf
    refine ⟨fun cz2 => ?_, fun cz2 => ?_⟩
    · replace h := (if_neg cz2).symm.trans h
      conv => whnf
      refine ⟨fun cz3 => ?_, fun cz3 => ?_⟩
      · replace h := (if_neg cz3).symm.trans h
        conv => whnf
        refine ⟨fun cz4 => ?_, fun cz4 => ?_⟩
        · replace h := (if_neg cz4).symm.trans h
          conv => whnf
          refine ⟨fun cz5 => ?_, fun cz5 => ?_⟩
          · replace h := (if_neg cz5).symm.trans h
            conv => whnf
            refine ⟨fun cz6 => ?_, fun cz6 => ?_⟩
            · replace h := (if_neg cz6).symm.trans h
              conv => whnf
              subst h
              exact hk
            · replace h := (if_pos cz6).symm.trans h
              conv => whnf
              subst h
              exact hk
          · replace h := (if_pos cz5).symm.trans h
            conv => whnf
            subst h
            exact hk
        · replace h := (if_pos cz4).symm.trans h
          conv => whnf
          subst h
          exact hk
      · replace h := (if_pos cz3).symm.trans h
        conv => whnf
        subst h
        exact hk
    · replace h := (if_pos cz2).symm.trans h
      conv => whnf
      subst h
      exact hk
  · replace h := (if_pos cz1).symm.trans h
    conv => whnf
    subst h
    exact hk
/-- X8_readsPacket -/
noncomputable def d147 (I : jI) : Option (Int32 × jI) :=
  if (d146 (d141 I) I) = (-9) then
    some (0, I)
  else
    if (I 31 0 21) = 6 then
      some (0, I)
    else
      (d143 1 9 (jup I 31 0 16 ((I 31 0 16) + 1))).bind fun r1 =>
      if r1.1 = (-9) then
        some (0, r1.2)
      else
        (d144 r1.2).bind fun r2 =>
        if r2.1 = (-9) then
          some (0, r2.2)
        else
          (d143 1 9 r2.2).bind fun r3 =>
          if r3.1 = (-9) then
            some (0, r3.2)
          else
            some (1, (jup (jup (jup (jup (jup r3.2 40 0 (Int32.toNatClampNeg (4 * (I 31 0 21))) (d146 (d141 I) I)) 40 0 (Int32.toNatClampNeg ((4 * (I 31 0 21)) + 1)) r1.1) 40 0 (Int32.toNatClampNeg ((4 * (I 31 0 21)) + 2)) r2.1) 40 0 (Int32.toNatClampNeg ((4 * (I 31 0 21)) + 3)) r3.1) 31 0 21 (((jup (jup (jup (jup r3.2 40 0 (Int32.toNatClampNeg (4 * (I 31 0 21))) (d146 (d141 I) I)) 40 0 (Int32.toNatClampNeg ((4 * (I 31 0 21)) + 1)) r1.1) 40 0 (Int32.toNatClampNeg ((4 * (I 31 0 21)) + 2)) r2.1) 40 0 (Int32.toNatClampNeg ((4 * (I 31 0 21)) + 3)) r3.1) 31 0 21) + 1)))
set_option maxHeartbeats 4000000 in
set_option maxRecDepth 20000 in
theorem D147 {d : Nat} {k : jK} {I : jI} {L : jL} {r : Int32 × jI} (h : d147 I = some r) (hk : k (some (.inl (.inl r.1))) (r.2, L)) : jPM d 147 [.inr (31, 0)] (I, L) k := by
  refine pM (fun d n => ?_)
  unfold d147 at h
  refine pn_go [] 400 ?_
  conv => whnf
  refine D141 rfl ?_
  conv => whnf
  refine D146 rfl ?_
  conv => whnf
  refine ⟨fun cz1 => ?_, fun cz1 => ?_⟩
  · replace h := (if_pos cz1).symm.trans h
    conv => whnf
    cases h
    exact fun _ => hk
  · replace h := (if_neg cz1).symm.trans h
    conv => whnf
    refine ⟨fun cz2 => ?_, fun cz2 => ?_⟩
    · replace h := (if_neg cz2).symm.trans h
      conv => whnf
      obtain ⟨r1, hz3, h⟩ := obind h
      refine D143 hz3 ?_
      conv => whnf
      refine ⟨fun cz4 => ?_, fun cz4 => ?_⟩
      · replace h := (if_neg cz4).symm.trans h
        conv => whnf
        obtain ⟨r2, hz5, h⟩ := obind h
        refine D144 hz5 ?_
        conv => whnf
        refine ⟨fun cz6 => ?_, fun cz6 => ?_⟩
        · replace h := (if_neg cz6).symm.trans h
          conv => whnf
          obtain ⟨r3, hz7, h⟩ := obind h
          refine D143 hz7 ?_
          conv => whnf
          refine ⟨fun cz8 => ?_, fun cz8 => ?_⟩
          · replace h := (if_neg cz8).symm.trans h
            conv => whnf
            intro _
            conv => whnf
            intro _
            conv => whnf
            intro _
            conv => whnf
            intro _
            conv => whnf
            cases h
            exact fun _ => hk
          · replace h := (if_pos cz8).symm.trans h
            conv => whnf
            cases h
            exact fun _ => hk
        · replace h := (if_pos cz6).symm.trans h
          conv => whnf
          refine ⟨fun z => absurd z (by decide), fun _ => ?_⟩
          conv => whnf
          cases h
          exact fun _ => hk
      · replace h := (if_pos cz4).symm.trans h
        conv => whnf
        refine ⟨fun z => absurd z (by decide), fun _ => ?_⟩
        conv => whnf
        refine ⟨fun z => absurd z (by decide), fun _ => ?_⟩
        conv => whnf
        cases h
        exact fun _ => hk
    · replace h := (if_pos cz2).symm.trans h
      conv => whnf
      cases h
      exact fun _ => hk
