/-- X8_countOf -/
noncomputable def d213 (a1 : Int32) (I : jI) : Option (Int32) :=
  if a1 = 0 then
    some (I 31 0 3)
  else
    if a1 = 1 then
      some (I 32 0 (Int32.toNatClampNeg 1))
    else
      if a1 = 2 then
        some (I 32 0 (Int32.toNatClampNeg 0))
      else
        if a1 = 3 then
          some (I 32 0 (Int32.toNatClampNeg 2))
        else
          if a1 = 4 then
            (d162 0 I).bind fun r1 =>
            some r1
          else
            if a1 = 5 then
              some (I 32 0 (Int32.toNatClampNeg 3))
            else
              if a1 = 6 then
                some (I 32 0 (Int32.toNatClampNeg 4))
              else
                if a1 = 7 then
                  some (I 32 0 (Int32.toNatClampNeg 5))
                else
                  if a1 = 8 then
                    some (I 32 0 (Int32.toNatClampNeg 6))
                  else
                    if a1 = 9 then
                      (d211 1 I).bind fun r2 =>
                      some r2
                    else
                      if a1 = 10 then
                        (d211 2 I).bind fun r3 =>
                        some r3
                      else
                        if a1 = 11 then
                          (d212 a1 I).bind fun r4 =>
                          some r4
                        else
                          if a1 = 12 then
                            (d212 a1 I).bind fun r5 =>
                            some r5
                          else
                            if a1 = 13 then
                              (d212 a1 I).bind fun r6 =>
                              some r6
                            else
                              if a1 = 14 then
                                some (I 31 0 1)
                              else
                                if a1 = 15 then
                                  some (I 31 0 2)
                                else
                                  (d212 a1 I).bind fun r7 =>
                                  some r7
set_option maxHeartbeats 4000000 in
set_option maxRecDepth 20000 in
theorem D213 {d : Nat} {k : jK} {a1 : Int32} {I : jI} {L : jL} {r : Int32} (h : d213 a1 I = some r) (hk : k (some (.inl (.inl r))) (I, L)) : jPM d 213 [.inr (31, 0), .inl (.inl a1)] (I, L) k := by
  refine pM (fun d n => ?_)
  unfold d213 at h
  refine pn_go [] 400 ?_
  conv => whnf
  refine And.intro (fun cz1 => ?_) (fun cz1 => ?_)
  · replace h := (if_pos cz1).symm.trans h
    conv => whnf
    cases h
    exact hk
  replace h := (if_neg cz1).symm.trans h
  refine jsw_cons (fun cz2 => ?_) (fun cz2 => ?_)
  · replace h := (if_pos cz2).symm.trans h
    conv => whnf
    intro _
    conv => whnf
    cases h
    exact hk
  replace h := (if_neg cz2).symm.trans h
  refine jsw_cons (fun cz3 => ?_) (fun cz3 => ?_)
  · replace h := (if_pos cz3).symm.trans h
    conv => whnf
    intro _
    conv => whnf
    cases h
    exact hk
  replace h := (if_neg cz3).symm.trans h
  refine jsw_cons (fun cz4 => ?_) (fun cz4 => ?_)
  · replace h := (if_pos cz4).symm.trans h
    conv => whnf
    intro _
    conv => whnf
    cases h
    exact hk
  replace h := (if_neg cz4).symm.trans h
  refine jsw_cons (fun cz5 => ?_) (fun cz5 => ?_)
  · replace h := (if_pos cz5).symm.trans h
    conv => whnf
    obtain ⟨r1, hz6, h⟩ := obind h
    refine D162 hz6 ?_
    conv => whnf
    cases h
    exact hk
  replace h := (if_neg cz5).symm.trans h
  refine jsw_cons (fun cz7 => ?_) (fun cz7 => ?_)
  · replace h := (if_pos cz7).symm.trans h
    conv => whnf
    intro _
    conv => whnf
    cases h
    exact hk
  replace h := (if_neg cz7).symm.trans h
  refine jsw_cons (fun cz8 => ?_) (fun cz8 => ?_)
  · replace h := (if_pos cz8).symm.trans h
    conv => whnf
    intro _
    conv => whnf
    cases h
    exact hk
  replace h := (if_neg cz8).symm.trans h
  refine jsw_cons (fun cz9 => ?_) (fun cz9 => ?_)
  · replace h := (if_pos cz9).symm.trans h
    conv => whnf
    intro _
    conv => whnf
    cases h
    exact hk
  replace h := (if_neg cz9).symm.trans h
  refine jsw_cons (fun cz10 => ?_) (fun cz10 => ?_)
  · replace h := (if_pos cz10).symm.trans h
    conv => whnf
    intro _
    conv => whnf
    cases h
    exact hk
  replace h := (if_neg cz10).symm.trans h
  refine jsw_cons (fun cz11 => ?_) (fun cz11 => ?_)
  · replace h := (if_pos cz11).symm.trans h
    conv => whnf
    obtain ⟨r2, hz12, h⟩ := obind h
    refine D211 hz12 ?_
    conv => whnf
    cases h
    exact hk
  replace h := (if_neg cz11).symm.trans h
  refine jsw_cons (fun cz13 => ?_) (fun cz13 => ?_)
  · replace h := (if_pos cz13).symm.trans h
    conv => whnf
    obtain ⟨r3, hz14, h⟩ := obind h
    refine D211 hz14 ?_
    conv => whnf
    cases h
    exact hk
  replace h := (if_neg cz13).symm.trans h
  refine jsw_cons (fun cz15 => ?_) (fun cz15 => ?_)
  · replace h := (if_pos cz15).symm.trans h
    conv => whnf
    obtain ⟨r4, hz16, h⟩ := obind h
    refine D212 hz16 ?_
    conv => whnf
    cases h
    exact hk
  replace h := (if_neg cz15).symm.trans h
  refine jsw_cons (fun cz17 => ?_) (fun cz17 => ?_)
  · replace h := (if_pos cz17).symm.trans h
    conv => whnf
    obtain ⟨r5, hz18, h⟩ := obind h
    refine D212 hz18 ?_
    conv => whnf
    cases h
    exact hk
  replace h := (if_neg cz17).symm.trans h
  refine jsw_cons (fun cz19 => ?_) (fun cz19 => ?_)
  · replace h := (if_pos cz19).symm.trans h
    conv => whnf
    obtain ⟨r6, hz20, h⟩ := obind h
    refine D212 hz20 ?_
    conv => whnf
    cases h
    exact hk
  replace h := (if_neg cz19).symm.trans h
  refine jsw_cons (fun cz21 => ?_) (fun cz21 => ?_)
  · replace h := (if_pos cz21).symm.trans h
    conv => whnf
    cases h
    exact hk
  replace h := (if_neg cz21).symm.trans h
  refine jsw_cons (fun cz22 => ?_) (fun cz22 => ?_)
  · replace h := (if_pos cz22).symm.trans h
    conv => whnf
    cases h
    exact hk
  replace h := (if_neg cz22).symm.trans h
  refine jsw_nil ?_
  conv => whnf
  obtain ⟨r7, hz23, h⟩ := obind h
  refine D212 hz23 ?_
  conv => whnf
  cases h
  exact hk
/-- X8_count -/
noncomputable def d214 (a1 : Int32) (I : jI) : Option (Int32) :=
  if (d124 (Int32.toInt64 a1) 0 15 I) = 0 then
    some (-1)
  else
    (d213 a1 I).bind fun r1 =>
    some r1
set_option maxHeartbeats 4000000 in
set_option maxRecDepth 20000 in
theorem D214 {d : Nat} {k : jK} {a1 : Int32} {I : jI} {L : jL} {r : Int32} (h : d214 a1 I = some r) (hk : k (some (.inl (.inl r))) (I, L)) : jPM d 214 [.inr (31, 0), .inl (.inl a1)] (I, L) k := by
  refine pM (fun d n => ?_)
  unfold d214 at h
  refine pn_go [] 400 ?_
  conv => whnf
  refine D124 rfl ?_
  conv => whnf
  refine ⟨fun cz1 => ?_, fun cz1 => ?_⟩
  · replace h := (if_pos cz1).symm.trans h
    conv => whnf
    cases h
    exact hk
  · replace h := (if_neg cz1).symm.trans h
    conv => whnf
    obtain ⟨r1, hz2, h⟩ := obind h
    refine D213 hz2 ?_
    conv => whnf
    cases h
    exact hk
/-- X8_finding -/
noncomputable def d215 (I : jI) : Int32 :=
  (I 31 0 13)
set_option maxHeartbeats 4000000 in
set_option maxRecDepth 20000 in
theorem D215 {d : Nat} {k : jK} {I : jI} {L : jL} {r : Int32} (h : d215 I = r) (hk : k (some (.inl (.inl r))) (I, L)) : jPM d 215 [.inr (31, 0)] (I, L) k := by
  refine pM (fun d n => ?_)
  unfold d215 at h
  refine pn_go [] 400 ?_
  conv => whnf
  subst h
  exact hk
/-- X8_findings -/
noncomputable def d216 (a1 : Int32) (I : jI) : Int32 :=
  if (d124 (Int32.toInt64 a1) 1 5 I) = 0 then
    (-1)
  else
    (I 39 0 (Int32.toNatClampNeg a1))
set_option maxHeartbeats 4000000 in
set_option maxRecDepth 20000 in
theorem D216 {d : Nat} {k : jK} {a1 : Int32} {I : jI} {L : jL} {r : Int32} (h : d216 a1 I = r) (hk : k (some (.inl (.inl r))) (I, L)) : jPM d 216 [.inr (31, 0), .inl (.inl a1)] (I, L) k := by
  refine pM (fun d n => ?_)
  unfold d216 at h
  refine pn_go [] 400 ?_
  conv => whnf
  refine D124 rfl ?_
  conv => whnf
  refine ⟨fun cz1 => ?_, fun cz1 => ?_⟩
  · replace h := (if_pos cz1).symm.trans h
    conv => whnf
    subst h
    exact hk
  · replace h := (if_neg cz1).symm.trans h
    conv => whnf
    intro _
    conv => whnf
    subst h
    exact hk
/-- X8_digest, loop at 6 -/
noncomputable def d217_6 (I : jI) : Nat → Int64 → Int32 → Option (Int64)
  | 0, _, _ => none
  | F + 1, x1, x3 =>
    if 16 ≤ x3 then
      some x1
    else
      (d213 x3 I).bind fun r1 =>
      d217_6 I F ((31 * x1) + (Int32.toInt64 r1)) (x3 + 1)
set_option maxHeartbeats 4000000 in
set_option maxRecDepth 20000 in
theorem L217_6 {d n : Nat} {k : jK} {I : jI} {L : jL} : ∀ (F : Nat) (x1 : Int64) (x3 : Int32) (e4 : Option jV) (r : Int64), d217_6 I F x1 x3 = some r → (∀ (f3 f4 : Option jV), pn (jPM d) k none (jco 217) n (31, [some (.inr (31, 0)), some (.inl (.inr r)), none, f3, f4], [], I, L)) → pn (jPM d) k none (jco 217) n (6, [some (.inr (31, 0)), some (.inl (.inr x1)), none, some (.inl (.inl x3)), e4], [], I, L) := by
  intro F
  induction F with
  | zero => intro x1 x3 e4 r h hx; cases h
  | succ F ih =>
    intro x1 x3 e4 r h hx
    rw [d217_6] at h
    refine pn_go [6, 31, 33, 64, 103, 136, 159, 204, 226] 400 ?_
    conv => whnf
    refine ⟨fun cz1 => ?_, fun cz1 => ?_⟩
    · replace h := (if_pos cz1).symm.trans h
      conv => whnf
      cases h
      exact hx _ _
    · replace h := (if_neg cz1).symm.trans h
      conv => whnf
      obtain ⟨r1, hz2, h⟩ := obind h
      refine D213 hz2 ?_
      conv => whnf
      exact ih _ _ _ r h hx
/-- X8_digest, loop at 33 -/
noncomputable def d217_33 (I : jI) : Nat → Int64 → Int32 → Option (Int64)
  | 0, _, _ => none
  | F + 1, x1, x3 =>
    if 10 ≤ x3 then
      some x1
    else
      d217_33 I F ((31 * x1) + (Int32.toInt64 (I 32 0 (Int32.toNatClampNeg (7 + x3))))) (x3 + 1)
set_option maxHeartbeats 4000000 in
set_option maxRecDepth 20000 in
theorem L217_33 {d n : Nat} {k : jK} {I : jI} {L : jL} : ∀ (F : Nat) (x1 : Int64) (x3 : Int32) (e4 : Option jV) (r : Int64), d217_33 I F x1 x3 = some r → (∀ (f3 f4 : Option jV), pn (jPM d) k none (jco 217) n (62, [some (.inr (31, 0)), some (.inl (.inr r)), none, f3, f4], [], I, L)) → pn (jPM d) k none (jco 217) n (33, [some (.inr (31, 0)), some (.inl (.inr x1)), none, some (.inl (.inl x3)), e4], [], I, L) := by
  intro F
  induction F with
  | zero => intro x1 x3 e4 r h hx; cases h
  | succ F ih =>
    intro x1 x3 e4 r h hx
    rw [d217_33] at h
    refine pn_go [6, 33, 62, 64, 103, 136, 159, 204, 226] 400 ?_
    conv => whnf
    refine ⟨fun cz1 => ?_, fun cz1 => ?_⟩
    · replace h := (if_pos cz1).symm.trans h
      conv => whnf
      cases h
      exact hx _ _
    · replace h := (if_neg cz1).symm.trans h
      conv => whnf
      intro _
      conv => whnf
      exact ih _ _ _ r h hx
/-- X8_digest, loop at 64 -/
noncomputable def d217_64 (I : jI) : Nat → Int64 → Int32 → Option (Int64)
  | 0, _, _ => none
  | F + 1, x1, x3 =>
    if (6 * (I 31 0 3)) ≤ x3 then
      some x1
    else
      d217_64 I F ((31 * x1) + (Int32.toInt64 (d157 (x3 / 6) (x3 - x3 / 6 * 6) I))) (x3 + 1)
set_option maxHeartbeats 4000000 in
set_option maxRecDepth 20000 in
theorem L217_64 {d n : Nat} {k : jK} {I : jI} {L : jL} : ∀ (F : Nat) (x1 : Int64) (x3 : Int32) (e4 : Option jV) (r : Int64), d217_64 I F x1 x3 = some r → (∀ (f3 f4 : Option jV), pn (jPM d) k none (jco 217) n (101, [some (.inr (31, 0)), some (.inl (.inr r)), none, f3, f4], [], I, L)) → pn (jPM d) k none (jco 217) n (64, [some (.inr (31, 0)), some (.inl (.inr x1)), none, some (.inl (.inl x3)), e4], [], I, L) := by
  intro F
  induction F with
  | zero => intro x1 x3 e4 r h hx; cases h
  | succ F ih =>
    intro x1 x3 e4 r h hx
    rw [d217_64] at h
    refine pn_go [6, 33, 64, 101, 103, 136, 159, 204, 226] 400 ?_
    conv => whnf
    refine ⟨fun cz1 => ?_, fun cz1 => ?_⟩
    · replace h := (if_pos cz1).symm.trans h
      conv => whnf
      cases h
      exact hx _ _
    · replace h := (if_neg cz1).symm.trans h
      conv => whnf
      intro _
      conv => whnf
      intro _
      conv => whnf
      refine D157 rfl ?_
      conv => whnf
      exact ih _ _ _ r h hx
/-- X8_digest, loop at 103 -/
noncomputable def d217_103 (I : jI) : Nat → Int64 → Int32 → Option (Int64)
  | 0, _, _ => none
  | F + 1, x1, x3 =>
    if 4 ≤ x3 then
      some x1
    else
      d217_103 I F ((31 * x1) + (Int32.toInt64 (I 32 0 (Int32.toNatClampNeg ((1149 * x3) + 0))))) (x3 + 1)
set_option maxHeartbeats 4000000 in
set_option maxRecDepth 20000 in
theorem L217_103 {d n : Nat} {k : jK} {I : jI} {L : jL} : ∀ (F : Nat) (x1 : Int64) (x3 : Int32) (e4 : Option jV) (r : Int64), d217_103 I F x1 x3 = some r → (∀ (f3 f4 : Option jV), pn (jPM d) k none (jco 217) n (134, [some (.inr (31, 0)), some (.inl (.inr r)), none, f3, f4], [], I, L)) → pn (jPM d) k none (jco 217) n (103, [some (.inr (31, 0)), some (.inl (.inr x1)), none, some (.inl (.inl x3)), e4], [], I, L) := by
  intro F
  induction F with
  | zero => intro x1 x3 e4 r h hx; cases h
  | succ F ih =>
    intro x1 x3 e4 r h hx
    rw [d217_103] at h
    refine pn_go [6, 33, 64, 103, 134, 136, 159, 204, 226] 400 ?_
    conv => whnf
    refine ⟨fun cz1 => ?_, fun cz1 => ?_⟩
    · replace h := (if_pos cz1).symm.trans h
      conv => whnf
      cases h
      exact hx _ _
    · replace h := (if_neg cz1).symm.trans h
      conv => whnf
      intro _
      conv => whnf
      exact ih _ _ _ r h hx
/-- X8_digest, loop at 159 -/
noncomputable def d217_159 (y3 : Int32) (I : jI) : Nat → Int64 → Int32 → Option (Int64)
  | 0, _, _ => none
  | F + 1, x1, x4 =>
    if (I 35 0 (Int32.toNatClampNeg y3)) ≤ x4 then
      some x1
    else
      d217_159 y3 I F ((31 * x1) + (Int32.toInt64 (I 36 0 (Int32.toNatClampNeg ((40 * y3) + x4))))) (x4 + 1)
set_option maxHeartbeats 4000000 in
set_option maxRecDepth 20000 in
theorem L217_159 {d n : Nat} {k : jK} {y3 : Int32} {I : jI} {L : jL} : ∀ (F : Nat) (x1 : Int64) (x4 : Int32) (r : Int64), d217_159 y3 I F x1 x4 = some r → (∀ (f4 : Option jV), pn (jPM d) k none (jco 217) n (196, [some (.inr (31, 0)), some (.inl (.inr r)), none, some (.inl (.inl y3)), f4], [], I, L)) → pn (jPM d) k none (jco 217) n (159, [some (.inr (31, 0)), some (.inl (.inr x1)), none, some (.inl (.inl y3)), some (.inl (.inl x4))], [], I, L) := by
  intro F
  induction F with
  | zero => intro x1 x4 r h hx; cases h
  | succ F ih =>
    intro x1 x4 r h hx
    rw [d217_159] at h
    refine pn_go [6, 33, 64, 103, 136, 159, 196, 204, 226] 400 ?_
    conv => whnf
    intro _
    conv => whnf
    refine ⟨fun cz1 => ?_, fun cz1 => ?_⟩
    · replace h := (if_pos cz1).symm.trans h
      conv => whnf
      cases h
      exact hx _
    · replace h := (if_neg cz1).symm.trans h
      conv => whnf
      intro _
      conv => whnf
      exact ih _ _ r h hx
/-- X8_digest, loop at 136 -/
noncomputable def d217_136 (I : jI) : Nat → Int64 → Int32 → Option (Int64)
  | 0, _, _ => none
  | F + 1, x1, x3 =>
    if 6 ≤ x3 then
      some x1
    else
      (d217_159 x3 I 70 ((31 * x1) + (Int32.toInt64 (I 35 0 (Int32.toNatClampNeg x3)))) 0).bind fun r6 =>
      d217_136 I F r6 (x3 + 1)
set_option maxHeartbeats 4000000 in
set_option maxRecDepth 20000 in
theorem L217_136 {d n : Nat} {k : jK} {I : jI} {L : jL} : ∀ (F : Nat) (x1 : Int64) (x3 : Int32) (e4 : Option jV) (r : Int64), d217_136 I F x1 x3 = some r → (∀ (f3 f4 : Option jV), pn (jPM d) k none (jco 217) n (202, [some (.inr (31, 0)), some (.inl (.inr r)), none, f3, f4], [], I, L)) → pn (jPM d) k none (jco 217) n (136, [some (.inr (31, 0)), some (.inl (.inr x1)), none, some (.inl (.inl x3)), e4], [], I, L) := by
  intro F
  induction F with
  | zero => intro x1 x3 e4 r h hx; cases h
  | succ F ih =>
    intro x1 x3 e4 r h hx
    rw [d217_136] at h
    refine pn_go [6, 33, 64, 103, 136, 159, 202, 204, 226] 400 ?_
    conv => whnf
    refine ⟨fun cz1 => ?_, fun cz1 => ?_⟩
    · replace h := (if_pos cz1).symm.trans h
      conv => whnf
      cases h
      exact hx _ _
    · replace h := (if_neg cz1).symm.trans h
      conv => whnf
      intro _
      conv => whnf
      obtain ⟨r6, hz2, h⟩ := obind h
      refine L217_159 _ _ _ _ hz2 (fun e4_r6 => ?_)
      refine pn_go [6, 33, 64, 103, 136, 159, 202, 204, 226] 400 ?_
      conv => whnf
      exact ih _ _ _ r h hx
/-- X8_digest, loop at 226 -/
noncomputable def d217_226 (y3 : Int32) (I : jI) : Nat → Int64 → Int32 → Option (Int64)
  | 0, _, _ => none
  | F + 1, x1, x4 =>
    if (I 37 0 (Int32.toNatClampNeg y3)) ≤ x4 then
      some x1
    else
      d217_226 y3 I F ((31 * x1) + (Int32.toInt64 (I 38 0 (Int32.toNatClampNeg ((60 * y3) + x4))))) (x4 + 1)
set_option maxHeartbeats 4000000 in
set_option maxRecDepth 20000 in
theorem L217_226 {d n : Nat} {k : jK} {y3 : Int32} {I : jI} {L : jL} : ∀ (F : Nat) (x1 : Int64) (x4 : Int32) (r : Int64), d217_226 y3 I F x1 x4 = some r → (∀ (f4 : Option jV), pn (jPM d) k none (jco 217) n (263, [some (.inr (31, 0)), some (.inl (.inr r)), none, some (.inl (.inl y3)), f4], [], I, L)) → pn (jPM d) k none (jco 217) n (226, [some (.inr (31, 0)), some (.inl (.inr x1)), none, some (.inl (.inl y3)), some (.inl (.inl x4))], [], I, L) := by
  intro F
  induction F with
  | zero => intro x1 x4 r h hx; cases h
  | succ F ih =>
    intro x1 x4 r h hx
    rw [d217_226] at h
    refine pn_go [6, 33, 64, 103, 136, 159, 204, 226, 263] 400 ?_
    conv => whnf
    intro _
    conv => whnf
    refine ⟨fun cz1 => ?_, fun cz1 => ?_⟩
    · replace h := (if_pos cz1).symm.trans h
      conv => whnf
      cases h
      exact hx _
    · replace h := (if_neg cz1).symm.trans h
      conv => whnf
      intro _
      conv => whnf
      exact ih _ _ r h hx
/-- X8_digest, loop at 204 -/
noncomputable def d217_204 (I : jI) : Nat → Int64 → Int32 → Option (Int64)
  | 0, _, _ => none
  | F + 1, x1, x3 =>
    if 4 ≤ x3 then
      some x1
    else
      (d217_226 x3 I 70 ((31 * x1) + (Int32.toInt64 (I 37 0 (Int32.toNatClampNeg x3)))) 0).bind fun r8 =>
      d217_204 I F r8 (x3 + 1)
set_option maxHeartbeats 4000000 in
set_option maxRecDepth 20000 in
theorem L217_204 {d n : Nat} {k : jK} {I : jI} {L : jL} : ∀ (F : Nat) (x1 : Int64) (x3 : Int32) (e4 : Option jV) (r : Int64), d217_204 I F x1 x3 = some r → (∀ (f3 f4 : Option jV), pn (jPM d) k none (jco 217) n (269, [some (.inr (31, 0)), some (.inl (.inr r)), none, f3, f4], [], I, L)) → pn (jPM d) k none (jco 217) n (204, [some (.inr (31, 0)), some (.inl (.inr x1)), none, some (.inl (.inl x3)), e4], [], I, L) := by
  intro F
  induction F with
  | zero => intro x1 x3 e4 r h hx; cases h
  | succ F ih =>
    intro x1 x3 e4 r h hx
    rw [d217_204] at h
    refine pn_go [6, 33, 64, 103, 136, 159, 204, 226, 269] 400 ?_
    conv => whnf
    refine ⟨fun cz1 => ?_, fun cz1 => ?_⟩
    · replace h := (if_pos cz1).symm.trans h
      conv => whnf
      cases h
      exact hx _ _
    · replace h := (if_neg cz1).symm.trans h
      conv => whnf
      intro _
      conv => whnf
      obtain ⟨r8, hz2, h⟩ := obind h
      refine L217_226 _ _ _ _ hz2 (fun e4_r8 => ?_)
      refine pn_go [6, 33, 64, 103, 136, 159, 204, 226, 269] 400 ?_
      conv => whnf
      exact ih _ _ _ r h hx
/-- X8_digest -/
noncomputable def d217 (I : jI) : Option (Int64) :=
  (d217_6 I 70 17 0).bind fun r2 =>
  (d217_33 I 70 r2 0).bind fun r3 =>
  (d217_64 I 70 r3 0).bind fun r4 =>
  (d217_103 I 70 r4 1).bind fun r5 =>
  (d217_136 I 70 r5 0).bind fun r7 =>
  (d217_204 I 70 r7 0).bind fun r9 =>
  some r9
set_option maxHeartbeats 4000000 in
set_option maxRecDepth 20000 in
theorem D217 {d : Nat} {k : jK} {I : jI} {L : jL} {r : Int64} (h : d217 I = some r) (hk : k (some (.inl (.inr r))) (I, L)) : jPM d 217 [.inr (31, 0)] (I, L) k := by
  refine pM (fun d n => ?_)
  unfold d217 at h
  refine pn_go [6, 33, 64, 103, 136, 159, 204, 226] 400 ?_
  conv => whnf
  obtain ⟨r2, hz1, h⟩ := obind h
  refine L217_6 _ _ _ _ _ hz1 (fun e3_r2 e4_r2 => ?_)
  refine pn_go [6, 33, 64, 103, 136, 159, 204, 226] 400 ?_
  conv => whnf
  obtain ⟨r3, hz2, h⟩ := obind h
  refine L217_33 _ _ _ _ _ hz2 (fun e3_r3 e4_r3 => ?_)
  refine pn_go [6, 33, 64, 103, 136, 159, 204, 226] 400 ?_
  conv => whnf
  obtain ⟨r4, hz3, h⟩ := obind h
  refine L217_64 _ _ _ _ _ hz3 (fun e3_r4 e4_r4 => ?_)
  refine pn_go [6, 33, 64, 103, 136, 159, 204, 226] 400 ?_
  conv => whnf
  obtain ⟨r5, hz4, h⟩ := obind h
  refine L217_103 _ _ _ _ _ hz4 (fun e3_r5 e4_r5 => ?_)
  refine pn_go [6, 33, 64, 103, 136, 159, 204, 226] 400 ?_
  conv => whnf
  obtain ⟨r7, hz5, h⟩ := obind h
  refine L217_136 _ _ _ _ _ hz5 (fun e3_r7 e4_r7 => ?_)
  refine pn_go [6, 33, 64, 103, 136, 159, 204, 226] 400 ?_
  conv => whnf
  obtain ⟨r9, hz6, h⟩ := obind h
  refine L217_204 _ _ _ _ _ hz6 (fun e3_r9 e4_r9 => ?_)
  refine pn_go [6, 33, 64, 103, 136, 159, 204, 226] 400 ?_
  conv => whnf
  cases h
  exact hk
