/-- X8_faultOf, loop at 41 -/
noncomputable def d148_41 : Nat → Int32 → jI → Option (Int32 × jI)
  | 0, _, _ => none
  | F + 1, x2, I =>
    if x2 = 0 then
      some (x2, I)
    else
      if (I 31 0 17) ≤ (I 31 0 16) then
        some (x2, I)
      else
        (d147 I).bind fun r2 =>
        if r2.1 = 0 then
          d148_41 F r2.1 r2.2
        else
          (d142 r2.2).bind fun r3 =>
          d148_41 F r2.1 r3
set_option maxHeartbeats 4000000 in
set_option maxRecDepth 20000 in
theorem L148_41 {d n : Nat} {k : jK} {L : jL} : ∀ (F : Nat) (x2 : Int32) (I : jI) (e1 : Option jV) (r : Int32 × jI), d148_41 F x2 I = some r → (∀ (f1 : Option jV), pn (jPM d) k none (jco 148) n (72, [some (.inr (31, 0)), f1, some (.inl (.inl r.1))], [], r.2, L)) → pn (jPM d) k none (jco 148) n (41, [some (.inr (31, 0)), e1, some (.inl (.inl x2))], [], I, L) := by
  intro F
  induction F with
  | zero => intro x2 I e1 r h hx; cases h
  | succ F ih =>
    intro x2 I e1 r h hx
    rw [d148_41] at h
    refine pn_go [41, 72] 400 ?_
    conv => whnf
    refine ⟨fun cz1 => ?_, fun cz1 => ?_⟩
    · replace h := (if_pos cz1).symm.trans h
      conv => whnf
      cases h
      exact hx _
    · replace h := (if_neg cz1).symm.trans h
      conv => whnf
      refine ⟨fun cz2 => ?_, fun cz2 => ?_⟩
      · replace h := (if_pos cz2).symm.trans h
        conv => whnf
        cases h
        exact hx _
      · replace h := (if_neg cz2).symm.trans h
        conv => whnf
        obtain ⟨r2, hz3, h⟩ := obind h
        refine D147 hz3 ?_
        conv => whnf
        refine ⟨fun cz4 => ?_, fun cz4 => ?_⟩
        · replace h := (if_pos cz4).symm.trans h
          conv => whnf
          exact ih _ _ _ r h hx
        · replace h := (if_neg cz4).symm.trans h
          conv => whnf
          obtain ⟨r3, hz5, h⟩ := obind h
          refine D142 hz5 ?_
          conv => whnf
          exact ih _ _ _ r h hx
/-- X8_faultOf -/
noncomputable def d148 (a1 : Int32) (I : jI) : Option (Int32 × jI) :=
  (d145 (jup (jup (jup (jup I 31 0 15 (60 * a1)) 31 0 16 0) 31 0 17 ((jup (jup I 31 0 15 (60 * a1)) 31 0 16 0) 37 0 (Int32.toNatClampNeg a1))) 31 0 21 0)).bind fun r1 =>
  if r1.1 = 0 then
    (d148_41 70 r1.1 r1.2).bind fun r4 =>
    if r4.1 = 0 then
      some ((r4.2 31 0 16), r4.2)
    else
      if (r4.2 31 0 21) ≤ 0 then
        some ((r4.2 31 0 16), r4.2)
      else
        some ((-9), r4.2)
  else
    (d142 r1.2).bind fun r5 =>
    (d148_41 70 r1.1 r5).bind fun r6 =>
    if r6.1 = 0 then
      some ((r6.2 31 0 16), r6.2)
    else
      if (r6.2 31 0 21) ≤ 0 then
        some ((r6.2 31 0 16), r6.2)
      else
        some ((-9), r6.2)
set_option maxHeartbeats 4000000 in
set_option maxRecDepth 20000 in
theorem D148 {d : Nat} {k : jK} {a1 : Int32} {I : jI} {L : jL} {r : Int32 × jI} (h : d148 a1 I = some r) (hk : k (some (.inl (.inl r.1))) (r.2, L)) : jPM d 148 [.inr (31, 0), .inl (.inl a1)] (I, L) k := by
  refine pM (fun d n => ?_)
  unfold d148 at h
  refine pn_go [41] 400 ?_
  conv => whnf
  intro _
  conv => whnf
  obtain ⟨r1, hz1, h⟩ := obind h
  refine D145 hz1 ?_
  conv => whnf
  refine ⟨fun cz2 => ?_, fun cz2 => ?_⟩
  · replace h := (if_pos cz2).symm.trans h
    conv => whnf
    obtain ⟨r4, hz3, h⟩ := obind h
    refine L148_41 _ _ _ _ _ hz3 (fun e1_r4 => ?_)
    refine pn_go [41] 400 ?_
    conv => whnf
    refine ⟨fun cz4 => ?_, fun cz4 => ?_⟩
    · replace h := (if_pos cz4).symm.trans h
      conv => whnf
      cases h
      exact hk
    · replace h := (if_neg cz4).symm.trans h
      conv => whnf
      refine ⟨fun cz5 => ?_, fun cz5 => ?_⟩
      · replace h := (if_pos cz5).symm.trans h
        conv => whnf
        cases h
        exact hk
      · replace h := (if_neg cz5).symm.trans h
        conv => whnf
        cases h
        exact hk
  · replace h := (if_neg cz2).symm.trans h
    conv => whnf
    obtain ⟨r5, hz6, h⟩ := obind h
    refine D142 hz6 ?_
    conv => whnf
    obtain ⟨r6, hz7, h⟩ := obind h
    refine L148_41 _ _ _ _ _ hz7 (fun e1_r6 => ?_)
    refine pn_go [41] 400 ?_
    conv => whnf
    refine ⟨fun cz8 => ?_, fun cz8 => ?_⟩
    · replace h := (if_pos cz8).symm.trans h
      conv => whnf
      cases h
      exact hk
    · replace h := (if_neg cz8).symm.trans h
      conv => whnf
      refine ⟨fun cz9 => ?_, fun cz9 => ?_⟩
      · replace h := (if_pos cz9).symm.trans h
        conv => whnf
        cases h
        exact hk
      · replace h := (if_neg cz9).symm.trans h
        conv => whnf
        cases h
        exact hk
/-- X8_fault -/
noncomputable def d149 (a1 : Int32) (I : jI) : Option (Int32 × jI) :=
  if (d129 a1 I) = 0 then
    some ((-1), I)
  else
    if 0 ≤ (I 37 0 (Int32.toNatClampNeg a1)) then
      (d148 a1 I).bind fun r1 =>
      some (r1.1, r1.2)
    else
      some (((d126 1 I).1), ((d126 1 I).2))
set_option maxHeartbeats 4000000 in
set_option maxRecDepth 20000 in
theorem D149 {d : Nat} {k : jK} {a1 : Int32} {I : jI} {L : jL} {r : Int32 × jI} (h : d149 a1 I = some r) (hk : k (some (.inl (.inl r.1))) (r.2, L)) : jPM d 149 [.inr (31, 0), .inl (.inl a1)] (I, L) k := by
  refine pM (fun d n => ?_)
  unfold d149 at h
  refine pn_go [] 400 ?_
  conv => whnf
  refine D129 rfl ?_
  conv => whnf
  refine ⟨fun cz1 => ?_, fun cz1 => ?_⟩
  · replace h := (if_neg cz1).symm.trans h
    conv => whnf
    intro _
    conv => whnf
    refine ⟨fun cz2 => ?_, fun cz2 => ?_⟩
    · replace h := (if_pos cz2).symm.trans h
      conv => whnf
      obtain ⟨r1, hz3, h⟩ := obind h
      refine D148 hz3 ?_
      conv => whnf
      cases h
      exact hk
    · replace h := (if_neg cz2).symm.trans h
      conv => whnf
      refine D126 rfl ?_
      conv => whnf
      cases h
      exact hk
  · replace h := (if_pos cz1).symm.trans h
    conv => whnf
    cases h
    exact hk
/-- X8_house, loop at 39 -/
noncomputable def d150_39 : Nat → Int32 → jI → Option (jI)
  | 0, _, _ => none
  | F + 1, x2, I =>
    if 1149 ≤ x2 then
      some I
    else
      d150_39 F (x2 + 1) (jup I 32 0 (Int32.toNatClampNeg x2) 0)
set_option maxHeartbeats 4000000 in
set_option maxRecDepth 20000 in
theorem L150_39 {d n : Nat} {k : jK} {L : jL} : ∀ (F : Nat) (x2 : Int32) (I : jI) (e1 : Option jV) (r : jI), d150_39 F x2 I = some r → (∀ (f1 f2 : Option jV), pn (jPM d) k none (jco 150) n (59, [some (.inr (31, 0)), f1, f2], [], r, L)) → pn (jPM d) k none (jco 150) n (39, [some (.inr (31, 0)), e1, some (.inl (.inl x2))], [], I, L) := by
  intro F
  induction F with
  | zero => intro x2 I e1 r h hx; cases h
  | succ F ih =>
    intro x2 I e1 r h hx
    rw [d150_39] at h
    refine pn_go [39, 59, 85, 169] 400 ?_
    conv => whnf
    refine ⟨fun cz1 => ?_, fun cz1 => ?_⟩
    · replace h := (if_pos cz1).symm.trans h
      conv => whnf
      cases h
      exact hx _ _
    · replace h := (if_neg cz1).symm.trans h
      conv => whnf
      intro _
      conv => whnf
      exact ih _ _ _ r h hx
/-- X8_house, loop at 85 -/
noncomputable def d150_85 : Nat → Int32 → jI → Option (jI)
  | 0, _, _ => none
  | F + 1, x2, I =>
    if (I 31 0 3) ≤ x2 then
      some I
    else
      d150_85 F (x2 + 1) (jup (jup (jup (jup I 33 0 (Int32.toNatClampNeg x2) (I 40 0 (Int32.toNatClampNeg (4 * x2)))) 32 0 (Int32.toNatClampNeg (17 + x2)) ((jup I 33 0 (Int32.toNatClampNeg x2) (I 40 0 (Int32.toNatClampNeg (4 * x2)))) 40 0 (Int32.toNatClampNeg ((4 * x2) + 1)))) 32 0 (Int32.toNatClampNeg (23 + x2)) ((jup (jup I 33 0 (Int32.toNatClampNeg x2) (I 40 0 (Int32.toNatClampNeg (4 * x2)))) 32 0 (Int32.toNatClampNeg (17 + x2)) ((jup I 33 0 (Int32.toNatClampNeg x2) (I 40 0 (Int32.toNatClampNeg (4 * x2)))) 40 0 (Int32.toNatClampNeg ((4 * x2) + 1)))) 40 0 (Int32.toNatClampNeg ((4 * x2) + 2)))) 34 0 (Int32.toNatClampNeg x2) ((jup (jup (jup I 33 0 (Int32.toNatClampNeg x2) (I 40 0 (Int32.toNatClampNeg (4 * x2)))) 32 0 (Int32.toNatClampNeg (17 + x2)) ((jup I 33 0 (Int32.toNatClampNeg x2) (I 40 0 (Int32.toNatClampNeg (4 * x2)))) 40 0 (Int32.toNatClampNeg ((4 * x2) + 1)))) 32 0 (Int32.toNatClampNeg (23 + x2)) ((jup (jup I 33 0 (Int32.toNatClampNeg x2) (I 40 0 (Int32.toNatClampNeg (4 * x2)))) 32 0 (Int32.toNatClampNeg (17 + x2)) ((jup I 33 0 (Int32.toNatClampNeg x2) (I 40 0 (Int32.toNatClampNeg (4 * x2)))) 40 0 (Int32.toNatClampNeg ((4 * x2) + 1)))) 40 0 (Int32.toNatClampNeg ((4 * x2) + 2)))) 40 0 (Int32.toNatClampNeg ((4 * x2) + 3))))
set_option maxHeartbeats 4000000 in
set_option maxRecDepth 20000 in
theorem L150_85 {d n : Nat} {k : jK} {L : jL} : ∀ (F : Nat) (x2 : Int32) (I : jI) (e1 : Option jV) (r : jI), d150_85 F x2 I = some r → (∀ (f1 f2 : Option jV), pn (jPM d) k none (jco 150) n (167, [some (.inr (31, 0)), f1, f2], [], r, L)) → pn (jPM d) k none (jco 150) n (85, [some (.inr (31, 0)), e1, some (.inl (.inl x2))], [], I, L) := by
  intro F
  induction F with
  | zero => intro x2 I e1 r h hx; cases h
  | succ F ih =>
    intro x2 I e1 r h hx
    rw [d150_85] at h
    refine pn_go [39, 85, 167, 169] 400 ?_
    conv => whnf
    refine ⟨fun cz1 => ?_, fun cz1 => ?_⟩
    · replace h := (if_pos cz1).symm.trans h
      conv => whnf
      cases h
      exact hx _ _
    · replace h := (if_neg cz1).symm.trans h
      conv => whnf
      intro _
      conv => whnf
      intro _
      conv => whnf
      intro _
      conv => whnf
      intro _
      conv => whnf
      intro _
      conv => whnf
      intro _
      conv => whnf
      intro _
      conv => whnf
      intro _
      conv => whnf
      exact ih _ _ _ r h hx
/-- X8_house, loop at 169 -/
noncomputable def d150_169 : Nat → Int32 → jI → Option (jI)
  | 0, _, _ => none
  | F + 1, x2, I =>
    if 4 ≤ x2 then
      some I
    else
      d150_169 F (x2 + 1) (jup I 32 0 (Int32.toNatClampNeg ((1149 * x2) + 0)) (-1))
set_option maxHeartbeats 4000000 in
set_option maxRecDepth 20000 in
theorem L150_169 {d n : Nat} {k : jK} {L : jL} : ∀ (F : Nat) (x2 : Int32) (I : jI) (e1 : Option jV) (r : jI), d150_169 F x2 I = some r → (∀ (f1 f2 : Option jV), pn (jPM d) k none (jco 150) n (193, [some (.inr (31, 0)), f1, f2], [], r, L)) → pn (jPM d) k none (jco 150) n (169, [some (.inr (31, 0)), e1, some (.inl (.inl x2))], [], I, L) := by
  intro F
  induction F with
  | zero => intro x2 I e1 r h hx; cases h
  | succ F ih =>
    intro x2 I e1 r h hx
    rw [d150_169] at h
    refine pn_go [39, 85, 169, 193] 400 ?_
    conv => whnf
    refine ⟨fun cz1 => ?_, fun cz1 => ?_⟩
    · replace h := (if_pos cz1).symm.trans h
      conv => whnf
      cases h
      exact hx _ _
    · replace h := (if_neg cz1).symm.trans h
      conv => whnf
      intro _
      conv => whnf
      exact ih _ _ _ r h hx
/-- X8_house -/
noncomputable def d150 (a1 : Int32) (I : jI) : Option (Int32 × jI) :=
  if (d129 a1 I) = 0 then
    some ((-1), I)
  else
    if 0 ≤ (I 37 0 (Int32.toNatClampNeg a1)) then
      (d148 a1 I).bind fun r1 =>
      if r1.1 = (-9) then
        (d150_39 1200 0 r1.2).bind fun r2 =>
        (d150_85 1200 0 (jup (jup (jup r2 31 0 1 (r2 31 0 18)) 31 0 2 ((jup r2 31 0 1 (r2 31 0 18)) 31 0 19)) 31 0 3 ((jup (jup r2 31 0 1 (r2 31 0 18)) 31 0 2 ((jup r2 31 0 1 (r2 31 0 18)) 31 0 19)) 31 0 21))).bind fun r3 =>
        (d150_169 1200 1 r3).bind fun r4 =>
        some ((r4 31 0 3), r4)
      else
        some ((-4), r1.2)
    else
      some (((d126 1 I).1), ((d126 1 I).2))
set_option maxHeartbeats 4000000 in
set_option maxRecDepth 20000 in
theorem D150 {d : Nat} {k : jK} {a1 : Int32} {I : jI} {L : jL} {r : Int32 × jI} (h : d150 a1 I = some r) (hk : k (some (.inl (.inl r.1))) (r.2, L)) : jPM d 150 [.inr (31, 0), .inl (.inl a1)] (I, L) k := by
  refine pM (fun d n => ?_)
  unfold d150 at h
  refine pn_go [39, 85, 169] 400 ?_
  conv => whnf
  refine D129 rfl ?_
  conv => whnf
  refine ⟨fun cz1 => ?_, fun cz1 => ?_⟩
  · replace h := (if_neg cz1).symm.trans h
    conv => whnf
    intro _
    conv => whnf
    refine ⟨fun cz2 => ?_, fun cz2 => ?_⟩
    · replace h := (if_pos cz2).symm.trans h
      conv => whnf
      obtain ⟨r1, hz3, h⟩ := obind h
      refine D148 hz3 ?_
      conv => whnf
      refine ⟨fun cz4 => ?_, fun cz4 => ?_⟩
      · replace h := (if_pos cz4).symm.trans h
        conv => whnf
        obtain ⟨r2, hz5, h⟩ := obind h
        refine L150_39 _ _ _ _ _ hz5 (fun e1_r2 e2_r2 => ?_)
        refine pn_go [39, 85, 169] 400 ?_
        conv => whnf
        obtain ⟨r3, hz6, h⟩ := obind h
        refine L150_85 _ _ _ _ _ hz6 (fun e1_r3 e2_r3 => ?_)
        refine pn_go [39, 85, 169] 400 ?_
        conv => whnf
        obtain ⟨r4, hz7, h⟩ := obind h
        refine L150_169 _ _ _ _ _ hz7 (fun e1_r4 e2_r4 => ?_)
        refine pn_go [39, 85, 169] 400 ?_
        conv => whnf
        cases h
        exact hk
      · replace h := (if_neg cz4).symm.trans h
        conv => whnf
        cases h
        exact hk
    · replace h := (if_neg cz2).symm.trans h
      conv => whnf
      refine D126 rfl ?_
      conv => whnf
      cases h
      exact hk
  · replace h := (if_pos cz1).symm.trans h
    conv => whnf
    cases h
    exact hk
/-- X8_isPacket -/
noncomputable def d151 (a1 : Int32) (I : jI) : Int32 :=
  (d124 (Int32.toInt64 a1) 0 (Int32.toInt64 ((I 31 0 3) - 1)) I)
set_option maxHeartbeats 4000000 in
set_option maxRecDepth 20000 in
theorem D151 {d : Nat} {k : jK} {a1 : Int32} {I : jI} {L : jL} {r : Int32} (h : d151 a1 I = r) (hk : k (some (.inl (.inl r))) (I, L)) : jPM d 151 [.inr (31, 0), .inl (.inl a1)] (I, L) k := by
  refine pM (fun d n => ?_)
  unfold d151 at h
  refine pn_go [] 400 ?_
  conv => whnf
  refine D124 rfl ?_
  conv => whnf
  subst h
  exact fun _ => hk
/-- X8_costBy -/
noncomputable def d152 (a0 : Int32) (a1 : Int32) (a2 : Int32) (a3 : Int32) (I : jI) : Int32 :=
  if a3 = 1 then
    if a0 = 1 then
      ((3 * (a2 * a1)) / 4)
    else
      if a0 = 2 then
        ((a2 - (a2 / 3)) * a1)
      else
        if a0 = 3 then
          ((a2 * a1) / 2)
        else
          if a0 = 4 then
            (d123 (((3 * (a2 * a1)) / 4) - a2) I)
          else
            if a0 = 5 then
              ((a2 - (a2 / 3)) * a1)
            else
              (a2 * a1)
  else
    if a0 = 1 then
      (a2 * a1)
    else
      if a0 = 2 then
        ((a2 - (a2 / 3)) * a1)
      else
        if a0 = 3 then
          ((a2 * a1) / 2)
        else
          if a0 = 4 then
            (d123 ((a2 * a1) - a2) I)
          else
            if a0 = 5 then
              ((a2 - (a2 / 3)) * a1)
            else
              (a2 * a1)
set_option maxHeartbeats 4000000 in
set_option maxRecDepth 20000 in
theorem D152 {d : Nat} {k : jK} {a0 : Int32} {a1 : Int32} {a2 : Int32} {a3 : Int32} {I : jI} {L : jL} {r : Int32} (h : d152 a0 a1 a2 a3 I = r) (hk : k (some (.inl (.inl r))) (I, L)) : jPM d 152 [.inl (.inl a0), .inl (.inl a1), .inl (.inl a2), .inl (.inl a3)] (I, L) k := by
  refine pM (fun d n => ?_)
  unfold d152 at h
  refine pn_go [] 400 ?_
  conv => whnf
  refine ⟨fun cz1 => ?_, fun cz1 => ?_⟩
  · replace h := (if_neg cz1).symm.trans h
    conv => whnf
    refine And.intro (fun cz2 => ?_) (fun cz2 => ?_)
    · replace h := (if_pos cz2).symm.trans h
      conv => whnf
      subst h
      exact hk
    replace h := (if_neg cz2).symm.trans h
    refine jsw_cons (fun cz3 => ?_) (fun cz3 => ?_)
    · replace h := (if_pos cz3).symm.trans h
      conv => whnf
      intro _
      conv => whnf
      subst h
      exact hk
    replace h := (if_neg cz3).symm.trans h
    refine jsw_cons (fun cz4 => ?_) (fun cz4 => ?_)
    · replace h := (if_pos cz4).symm.trans h
      conv => whnf
      intro _
      conv => whnf
      subst h
      exact hk
    replace h := (if_neg cz4).symm.trans h
    refine jsw_cons (fun cz5 => ?_) (fun cz5 => ?_)
    · replace h := (if_pos cz5).symm.trans h
      conv => whnf
      refine D123 rfl ?_
      conv => whnf
      subst h
      exact hk
    replace h := (if_neg cz5).symm.trans h
    refine jsw_cons (fun cz6 => ?_) (fun cz6 => ?_)
    · replace h := (if_pos cz6).symm.trans h
      conv => whnf
      intro _
      conv => whnf
      subst h
      exact hk
    replace h := (if_neg cz6).symm.trans h
    refine jsw_nil ?_
    conv => whnf
    subst h
    exact hk
  · replace h := (if_pos cz1).symm.trans h
    conv => whnf
    intro _
    conv => whnf
    refine And.intro (fun cz7 => ?_) (fun cz7 => ?_)
    · replace h := (if_pos cz7).symm.trans h
      conv => whnf
      subst h
      exact hk
    replace h := (if_neg cz7).symm.trans h
    refine jsw_cons (fun cz8 => ?_) (fun cz8 => ?_)
    · replace h := (if_pos cz8).symm.trans h
      conv => whnf
      intro _
      conv => whnf
      subst h
      exact hk
    replace h := (if_neg cz8).symm.trans h
    refine jsw_cons (fun cz9 => ?_) (fun cz9 => ?_)
    · replace h := (if_pos cz9).symm.trans h
      conv => whnf
      intro _
      conv => whnf
      subst h
      exact hk
    replace h := (if_neg cz9).symm.trans h
    refine jsw_cons (fun cz10 => ?_) (fun cz10 => ?_)
    · replace h := (if_pos cz10).symm.trans h
      conv => whnf
      refine D123 rfl ?_
      conv => whnf
      subst h
      exact hk
    replace h := (if_neg cz10).symm.trans h
    refine jsw_cons (fun cz11 => ?_) (fun cz11 => ?_)
    · replace h := (if_pos cz11).symm.trans h
      conv => whnf
      intro _
      conv => whnf
      subst h
      exact hk
    replace h := (if_neg cz11).symm.trans h
    refine jsw_nil ?_
    conv => whnf
    subst h
    exact hk
/-- X8_costOf -/
noncomputable def d153 (a1 : Int32) (a2 : Int32) (a3 : Int32) (I : jI) : Int32 :=
  (d152 (I 33 0 (Int32.toNatClampNeg a2)) (I 32 0 (Int32.toNatClampNeg ((a1 + 23) + a2))) a3 (I 32 0 (Int32.toNatClampNeg (a1 + 6))) I)
set_option maxHeartbeats 4000000 in
set_option maxRecDepth 20000 in
theorem D153 {d : Nat} {k : jK} {a1 : Int32} {a2 : Int32} {a3 : Int32} {I : jI} {L : jL} {r : Int32} (h : d153 a1 a2 a3 I = r) (hk : k (some (.inl (.inl r))) (I, L)) : jPM d 153 [.inr (31, 0), .inl (.inl a1), .inl (.inl a2), .inl (.inl a3)] (I, L) k := by
  refine pM (fun d n => ?_)
  unfold d153 at h
  refine pn_go [] 400 ?_
  conv => whnf
  intro _
  conv => whnf
  intro _
  conv => whnf
  intro _
  conv => whnf
  refine D152 rfl ?_
  conv => whnf
  subst h
  exact hk
/-- X8_gotBy -/
noncomputable def d154 (a0 : Int32) (a1 : Int32) (I : jI) : Int32 :=
  if a0 = 3 then
    (a1 / 2)
  else
    a1
set_option maxHeartbeats 4000000 in
set_option maxRecDepth 20000 in
theorem D154 {d : Nat} {k : jK} {a0 : Int32} {a1 : Int32} {I : jI} {L : jL} {r : Int32} (h : d154 a0 a1 I = r) (hk : k (some (.inl (.inl r))) (I, L)) : jPM d 154 [.inl (.inl a0), .inl (.inl a1)] (I, L) k := by
  refine pM (fun d n => ?_)
  unfold d154 at h
  refine pn_go [] 400 ?_
  conv => whnf
  refine ⟨fun cz1 => ?_, fun cz1 => ?_⟩
  · replace h := (if_neg cz1).symm.trans h
    conv => whnf
    subst h
    exact hk
  · replace h := (if_pos cz1).symm.trans h
    conv => whnf
    intro _
    conv => whnf
    subst h
    exact hk
