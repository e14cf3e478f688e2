/-- X8_waste, loop at 29 -/
def d189_29 (y1 : Int32) : Nat → Int32 → Int32 → jI → Option (Int32 × jI)
  | 0, _, _, _ => none
  | F + 1, x2, x3, I =>
    (d183 ((I 31 0 3) + 1) y1 I).bind fun r1 =>
    if r1 ≤ x3 then
      some (x2, I)
    else
      (d187 x3 y1 I).bind fun r2 =>
      if r2.1 = 0 then
        d189_29 y1 F x2 (x3 + 1) r2.2
      else
        if x2 ≤ ((r2.2 32 0 (Int32.toNatClampNeg 4601)) - (r2.2 32 0 (Int32.toNatClampNeg 5))) then
          d189_29 y1 F x2 (x3 + 1) r2.2
        else
          d189_29 y1 F ((r2.2 32 0 (Int32.toNatClampNeg 4601)) - (r2.2 32 0 (Int32.toNatClampNeg 5))) (x3 + 1) r2.2
set_option maxHeartbeats 4000000 in
set_option maxRecDepth 20000 in
theorem L189_29 {d n : Nat} {k : jK} {y1 : Int32} {L : jL} : ∀ (F : Nat) (x2 : Int32) (x3 : Int32) (I : jI) (r : Int32 × jI), d189_29 y1 F x2 x3 I = some r → (∀ (f3 : Option jV), pn (jPM d) k none (jco 189) n (93, [some (.inr (31, 0)), some (.inl (.inl y1)), some (.inl (.inl r.1)), f3], [], r.2, L)) → pn (jPM d) k none (jco 189) n (29, [some (.inr (31, 0)), some (.inl (.inl y1)), some (.inl (.inl x2)), some (.inl (.inl x3))], [], I, L) := by
  intro F
  induction F with
  | zero => intro x2 x3 I r h hx; cases h
  | succ F ih =>
    intro x2 x3 I r h hx
    rw [d189_29] at h
    refine pn_go [29, 93] 400 ?_
    conv => whnf
    obtain ⟨r1, hz1, h⟩ := obind h
    refine D183 hz1 ?_
    conv => whnf
    refine ⟨fun cz2 => ?_, fun cz2 => ?_⟩
    · replace h := (if_pos cz2).symm.trans h
      conv => whnf
      cases h
      exact hx _
    · replace h := (if_neg cz2).symm.trans h
      conv => whnf
      obtain ⟨r2, hz3, h⟩ := obind h
      refine D187 hz3 ?_
      conv => whnf
      refine ⟨fun cz4 => ?_, fun cz4 => ?_⟩
      · replace h := (if_pos cz4).symm.trans h
        conv => whnf
        exact ih _ _ _ r h hx
      · replace h := (if_neg cz4).symm.trans h
        conv => whnf
        intro _
        conv => whnf
        intro _
        conv => whnf
        refine ⟨fun cz5 => ?_, fun cz5 => ?_⟩
        · replace h := (if_pos cz5).symm.trans h
          conv => whnf
          exact ih _ _ _ r h hx
        · replace h := (if_neg cz5).symm.trans h
          conv => whnf
          intro _
          conv => whnf
          intro _
          conv => whnf
          exact ih _ _ _ r h hx
/-- X8_waste -/
def d189 (a1 : Int32) (I : jI) : Option (Int32 × jI) :=
  if (d124 (Int32.toInt64 a1) 0 3 I) = 0 then
    some ((-1), I)
  else
    if (I 31 0 3) = 0 then
      some ((-4), I)
    else
      (d189_29 a1 400 99999 0 I).bind fun r3 =>
      if r3.1 = 99999 then
        some ((-9), r3.2)
      else
        some (r3.1, r3.2)
set_option maxHeartbeats 4000000 in
set_option maxRecDepth 20000 in
theorem D189 {d : Nat} {k : jK} {a1 : Int32} {I : jI} {L : jL} {r : Int32 × jI} (h : d189 a1 I = some r) (hk : k (some (.inl (.inl r.1))) (r.2, L)) : jPM d 189 [.inr (31, 0), .inl (.inl a1)] (I, L) k := by
  refine pM (fun d n => ?_)
  unfold d189 at h
  refine pn_go [29] 400 ?_
  conv => whnf
  refine D124 rfl ?_
  conv => whnf
  refine ⟨fun cz1 => ?_, fun cz1 => ?_⟩
  · replace h := (if_neg cz1).symm.trans h
    conv => whnf
    refine ⟨fun cz2 => ?_, fun cz2 => ?_⟩
    · replace h := (if_neg cz2).symm.trans h
      conv => whnf
      obtain ⟨r3, hz3, h⟩ := obind h
      refine L189_29 _ _ _ _ _ hz3 (fun e3_r3 => ?_)
      refine pn_go [29] 400 ?_
      conv => whnf
      refine ⟨fun cz4 => ?_, fun cz4 => ?_⟩
      · replace h := (if_neg cz4).symm.trans h
        conv => whnf
        cases h
        exact hk
      · replace h := (if_pos cz4).symm.trans h
        conv => whnf
        cases h
        exact hk
    · replace h := (if_pos cz2).symm.trans h
      conv => whnf
      cases h
      exact hk
  · replace h := (if_pos cz1).symm.trans h
    conv => whnf
    cases h
    exact hk
/-- X8_off, loop at 32 -/
def d190_32 (y1 : Int32) : Nat → Int32 → Int32 → jI → Option (Int32 × jI)
  | 0, _, _, _ => none
  | F + 1, x2, x3, I =>
    if y1 ≤ x3 then
      some (x2, I)
    else
      (d167 4596 I).bind fun r2 =>
      d190_32 y1 F (x2 + r2.1) (x3 + 1) r2.2
set_option maxHeartbeats 4000000 in
set_option maxRecDepth 20000 in
theorem L190_32 {d n : Nat} {k : jK} {y1 : Int32} {L : jL} : ∀ (F : Nat) (x2 : Int32) (x3 : Int32) (I : jI) (r : Int32 × jI), d190_32 y1 F x2 x3 I = some r → (∀ (f3 : Option jV), pn (jPM d) k none (jco 190) n (53, [some (.inr (31, 0)), some (.inl (.inl y1)), some (.inl (.inl r.1)), f3], [], r.2, L)) → pn (jPM d) k none (jco 190) n (32, [some (.inr (31, 0)), some (.inl (.inl y1)), some (.inl (.inl x2)), some (.inl (.inl x3))], [], I, L) := by
  intro F
  induction F with
  | zero => intro x2 x3 I r h hx; cases h
  | succ F ih =>
    intro x2 x3 I r h hx
    rw [d190_32] at h
    refine pn_go [32, 53] 400 ?_
    conv => whnf
    refine ⟨fun cz1 => ?_, fun cz1 => ?_⟩
    · replace h := (if_pos cz1).symm.trans h
      conv => whnf
      cases h
      exact hx _
    · replace h := (if_neg cz1).symm.trans h
      conv => whnf
      obtain ⟨r2, hz2, h⟩ := obind h
      refine D167 hz2 ?_
      conv => whnf
      exact ih _ _ _ r h hx
/-- X8_off -/
def d190 (a1 : Int32) (I : jI) : Option (Int32 × jI) :=
  if (d124 (Int32.toInt64 a1) 0 20 I) = 0 then
    some ((-1), I)
  else
    if (I 31 0 3) = 0 then
      some ((-4), I)
    else
      (d185 I).bind fun r1 =>
      (d190_32 a1 70 0 0 r1).bind fun r3 =>
      some (r3.1, r3.2)
set_option maxHeartbeats 4000000 in
set_option maxRecDepth 20000 in
theorem D190 {d : Nat} {k : jK} {a1 : Int32} {I : jI} {L : jL} {r : Int32 × jI} (h : d190 a1 I = some r) (hk : k (some (.inl (.inl r.1))) (r.2, L)) : jPM d 190 [.inr (31, 0), .inl (.inl a1)] (I, L) k := by
  refine pM (fun d n => ?_)
  unfold d190 at h
  refine pn_go [32] 400 ?_
  conv => whnf
  refine D124 rfl ?_
  conv => whnf
  refine ⟨fun cz1 => ?_, fun cz1 => ?_⟩
  · replace h := (if_neg cz1).symm.trans h
    conv => whnf
    refine ⟨fun cz2 => ?_, fun cz2 => ?_⟩
    · replace h := (if_neg cz2).symm.trans h
      conv => whnf
      obtain ⟨r1, hz3, h⟩ := obind h
      refine D185 hz3 ?_
      conv => whnf
      obtain ⟨r3, hz4, h⟩ := obind h
      refine L190_32 _ _ _ _ _ hz4 (fun e3_r3 => ?_)
      refine pn_go [32] 400 ?_
      conv => whnf
      cases h
      exact hk
    · replace h := (if_pos cz2).symm.trans h
      conv => whnf
      cases h
      exact hk
  · replace h := (if_pos cz1).symm.trans h
    conv => whnf
    cases h
    exact hk
/-- X8_lasts, loop at 16 -/
def d191_16 : Nat → Int32 → jI → Option ((Int32 × jI) ⊕ (jI))
  | 0, _, _ => none
  | F + 1, x1, I =>
    if 30 ≤ x1 then
      some (.inr I)
    else
      (d167 4596 I).bind fun r2 =>
      if (r2.2 32 0 (Int32.toNatClampNeg 4600)) ≤ (r2.2 32 0 (Int32.toNatClampNeg 4)) then
        d191_16 F (x1 + 1) r2.2
      else
        some (.inl (x1, r2.2))
set_option maxHeartbeats 4000000 in
set_option maxRecDepth 20000 in
theorem L191_16 {d n : Nat} {k : jK} {L : jL} : ∀ (F : Nat) (x1 : Int32) (I : jI) (r : (Int32 × jI) ⊕ (jI)), d191_16 F x1 I = some r → ((∀ q, r = .inl q → k (some (.inl (.inl q.1))) (q.2, L)) ∧ (∀ q, r = .inr q → ∀ (f1 : Option jV), pn (jPM d) k none (jco 191) n (55, [some (.inr (31, 0)), f1], [], q, L))) → pn (jPM d) k none (jco 191) n (16, [some (.inr (31, 0)), some (.inl (.inl x1))], [], I, L) := by
  intro F
  induction F with
  | zero => intro x1 I r h hx; cases h
  | succ F ih =>
    intro x1 I r h hx
    rw [d191_16] at h
    refine pn_go [16, 55] 400 ?_
    conv => whnf
    refine ⟨fun cz1 => ?_, fun cz1 => ?_⟩
    · replace h := (if_pos cz1).symm.trans h
      conv => whnf
      cases h
      exact hx.2 _ rfl _
    · replace h := (if_neg cz1).symm.trans h
      conv => whnf
      obtain ⟨r2, hz2, h⟩ := obind h
      refine D167 hz2 ?_
      conv => whnf
      intro _
      conv => whnf
      intro _
      conv => whnf
      refine ⟨fun cz3 => ?_, fun cz3 => ?_⟩
      · replace h := (if_pos cz3).symm.trans h
        conv => whnf
        exact ih _ _ r h hx
      · replace h := (if_neg cz3).symm.trans h
        conv => whnf
        cases h
        exact hx.1 _ rfl
/-- X8_lasts -/
def d191 (I : jI) : Option (Int32 × jI) :=
  if (I 31 0 3) = 0 then
    some ((-4), I)
  else
    (d185 I).bind fun r1 =>
    (d191_16 70 0 r1).bind fun r3 => match r3 with
    | .inl q4 => some q4
    | .inr q4 =>
      some (30, q4)
set_option maxHeartbeats 4000000 in
set_option maxRecDepth 20000 in
theorem D191 {d : Nat} {k : jK} {I : jI} {L : jL} {r : Int32 × jI} (h : d191 I = some r) (hk : k (some (.inl (.inl r.1))) (r.2, L)) : jPM d 191 [.inr (31, 0)] (I, L) k := by
  refine pM (fun d n => ?_)
  unfold d191 at h
  refine pn_go [16] 400 ?_
  conv => whnf
  refine ⟨fun cz1 => ?_, fun cz1 => ?_⟩
  · replace h := (if_neg cz1).symm.trans h
    conv => whnf
    obtain ⟨r1, hz2, h⟩ := obind h
    refine D185 hz2 ?_
    conv => whnf
    obtain ⟨r3, hz3, h⟩ := obind h
    rcases r3 with q4 | q4
    · dsimp only at h
      refine L191_16 _ _ _ _ hz3 ⟨fun q e => ?_, fun q e => by cases e⟩
      cases e
      cases h
      exact hk
    · dsimp only at h
      refine L191_16 _ _ _ _ hz3 ⟨fun q e => (by cases e), fun q e e1_r3 => ?_⟩
      cases e
      refine pn_go [16] 400 ?_
      conv => whnf
      cases h
      exact hk
  · replace h := (if_pos cz1).symm.trans h
    conv => whnf
    cases h
    exact hk
/-- X8_looks, loop at 50 -/
def d192_50 (y1 : Int32) (y2 : Int32) (I : jI) : Nat → Int32 → Int32 → Int32 → Int32 → Option (Int32 × Int32)
  | 0, _, _, _, _ => none
  | F + 1, x3, x4, x5, x6 =>
    if (I 31 0 3) ≤ x6 then
      some (x3, x4)
    else
      if (d155 0 x6 I) < y2 then
        if 99999 ≤ x5 then
          if 99999 ≤ x5 then
            d192_50 y1 y2 I F x3 x4 x5 (x6 + 1)
          else
            if x3 ≤ ((y1 * (x6 + 1)) + x5) then
              d192_50 y1 y2 I F x3 x4 x5 (x6 + 1)
            else
              d192_50 y1 y2 I F ((y1 * (x6 + 1)) + x5) x4 x5 (x6 + 1)
        else
          if x3 ≤ ((y1 * (x6 + 1)) + x5) then
            if 99999 ≤ x5 then
              d192_50 y1 y2 I F x3 x4 x5 (x6 + 1)
            else
              if x3 ≤ ((y1 * (x6 + 1)) + x5) then
                d192_50 y1 y2 I F x3 x4 x5 (x6 + 1)
              else
                d192_50 y1 y2 I F ((y1 * (x6 + 1)) + x5) x4 x5 (x6 + 1)
          else
            if 99999 ≤ x5 then
              d192_50 y1 y2 I F x3 (x6 + 1) x5 (x6 + 1)
            else
              if x3 ≤ ((y1 * (x6 + 1)) + x5) then
                d192_50 y1 y2 I F x3 (x6 + 1) x5 (x6 + 1)
              else
                d192_50 y1 y2 I F ((y1 * (x6 + 1)) + x5) (x6 + 1) x5 (x6 + 1)
      else
        if x5 ≤ (d153 0 x6 1 I) then
          if 99999 ≤ x5 then
            if 99999 ≤ x5 then
              d192_50 y1 y2 I F x3 x4 x5 (x6 + 1)
            else
              if x3 ≤ ((y1 * (x6 + 1)) + x5) then
                d192_50 y1 y2 I F x3 x4 x5 (x6 + 1)
              else
                d192_50 y1 y2 I F ((y1 * (x6 + 1)) + x5) x4 x5 (x6 + 1)
          else
            if x3 ≤ ((y1 * (x6 + 1)) + x5) then
              if 99999 ≤ x5 then
                d192_50 y1 y2 I F x3 x4 x5 (x6 + 1)
              else
                if x3 ≤ ((y1 * (x6 + 1)) + x5) then
                  d192_50 y1 y2 I F x3 x4 x5 (x6 + 1)
                else
                  d192_50 y1 y2 I F ((y1 * (x6 + 1)) + x5) x4 x5 (x6 + 1)
            else
              if 99999 ≤ x5 then
                d192_50 y1 y2 I F x3 (x6 + 1) x5 (x6 + 1)
              else
                if x3 ≤ ((y1 * (x6 + 1)) + x5) then
                  d192_50 y1 y2 I F x3 (x6 + 1) x5 (x6 + 1)
                else
                  d192_50 y1 y2 I F ((y1 * (x6 + 1)) + x5) (x6 + 1) x5 (x6 + 1)
        else
          if 99999 ≤ (d153 0 x6 1 I) then
            if 99999 ≤ (d153 0 x6 1 I) then
              d192_50 y1 y2 I F x3 x4 (d153 0 x6 1 I) (x6 + 1)
            else
              if x3 ≤ ((y1 * (x6 + 1)) + (d153 0 x6 1 I)) then
                d192_50 y1 y2 I F x3 x4 (d153 0 x6 1 I) (x6 + 1)
              else
                d192_50 y1 y2 I F ((y1 * (x6 + 1)) + (d153 0 x6 1 I)) x4 (d153 0 x6 1 I) (x6 + 1)
          else
            if x3 ≤ ((y1 * (x6 + 1)) + (d153 0 x6 1 I)) then
              if 99999 ≤ (d153 0 x6 1 I) then
                d192_50 y1 y2 I F x3 x4 (d153 0 x6 1 I) (x6 + 1)
              else
                if x3 ≤ ((y1 * (x6 + 1)) + (d153 0 x6 1 I)) then
                  d192_50 y1 y2 I F x3 x4 (d153 0 x6 1 I) (x6 + 1)
                else
                  d192_50 y1 y2 I F ((y1 * (x6 + 1)) + (d153 0 x6 1 I)) x4 (d153 0 x6 1 I) (x6 + 1)
            else
              if 99999 ≤ (d153 0 x6 1 I) then
                d192_50 y1 y2 I F x3 (x6 + 1) (d153 0 x6 1 I) (x6 + 1)
              else
                if x3 ≤ ((y1 * (x6 + 1)) + (d153 0 x6 1 I)) then
                  d192_50 y1 y2 I F x3 (x6 + 1) (d153 0 x6 1 I) (x6 + 1)
                else
                  d192_50 y1 y2 I F ((y1 * (x6 + 1)) + (d153 0 x6 1 I)) (x6 + 1) (d153 0 x6 1 I) (x6 + 1)
set_option maxHeartbeats 4000000 in
set_option maxRecDepth 20000 in
theorem L192_50 {d n : Nat} {k : jK} {y1 : Int32} {y2 : Int32} {I : jI} {L : jL} : ∀ (F : Nat) (x3 : Int32) (x4 : Int32) (x5 : Int32) (x6 : Int32) (e7 e8 : Option jV) (r : Int32 × Int32), d192_50 y1 y2 I F x3 x4 x5 x6 = some r → (∀ (f5 f6 f7 f8 : Option jV), pn (jPM d) k none (jco 192) n (171, [some (.inr (31, 0)), some (.inl (.inl y1)), some (.inl (.inl y2)), some (.inl (.inl r.1)), some (.inl (.inl r.2)), f5, f6, f7, f8], [], I, L)) → pn (jPM d) k none (jco 192) n (50, [some (.inr (31, 0)), some (.inl (.inl y1)), some (.inl (.inl y2)), some (.inl (.inl x3)), some (.inl (.inl x4)), some (.inl (.inl x5)), some (.inl (.inl x6)), e7, e8], [], I, L) := by
  intro F
  induction F with
  | zero => intro x3 x4 x5 x6 e7 e8 r h hx; cases h
  | succ F ih =>
    intro x3 x4 x5 x6 e7 e8 r h hx
    rw [d192_50] at h
    refine pn_go [50, 171] 400 ?_
    conv => whnf
    refine ⟨fun cz1 => ?_, fun cz1 => ?_⟩
    · replace h := (if_pos cz1).symm.trans h
      conv => whnf
      cases h
      exact hx _ _ _ _
    · replace h := (if_neg cz1).symm.trans h
      conv => whnf
      refine D155 rfl ?_
      conv => whnf
      refine ⟨fun cz2 => ?_, fun cz2 => ?_⟩
      · replace h := (if_pos cz2).symm.trans h
        conv => whnf
        refine ⟨fun _ => ?_, fun z => absurd z (by decide)⟩
        conv => whnf
        refine ⟨fun cz3 => ?_, fun cz3 => ?_⟩
        · replace h := (if_pos cz3).symm.trans h
          conv => whnf
          refine ⟨fun cz4 => ?_, fun cz4 => ?_⟩
          · replace h := (if_pos cz4).symm.trans h
            conv => whnf
            exact ih _ _ _ _ _ _ r h hx
          · replace h := (if_neg cz4).symm.trans h
            conv => whnf
            refine ⟨fun cz5 => ?_, fun cz5 => ?_⟩
            · replace h := (if_pos cz5).symm.trans h
              conv => whnf
              exact ih _ _ _ _ _ _ r h hx
            · replace h := (if_neg cz5).symm.trans h
              conv => whnf
              exact ih _ _ _ _ _ _ r h hx
        · replace h := (if_neg cz3).symm.trans h
          conv => whnf
          refine ⟨fun cz6 => ?_, fun cz6 => ?_⟩
          · replace h := (if_pos cz6).symm.trans h
            conv => whnf
            refine ⟨fun cz7 => ?_, fun cz7 => ?_⟩
            · replace h := (if_pos cz7).symm.trans h
              conv => whnf
              exact ih _ _ _ _ _ _ r h hx
            · replace h := (if_neg cz7).symm.trans h
              conv => whnf
              refine ⟨fun cz8 => ?_, fun cz8 => ?_⟩
              · replace h := (if_pos cz8).symm.trans h
                conv => whnf
                exact ih _ _ _ _ _ _ r h hx
              · replace h := (if_neg cz8).symm.trans h
                conv => whnf
                exact ih _ _ _ _ _ _ r h hx
          · replace h := (if_neg cz6).symm.trans h
            conv => whnf
            refine ⟨fun cz9 => ?_, fun cz9 => ?_⟩
            · replace h := (if_pos cz9).symm.trans h
              conv => whnf
              exact ih _ _ _ _ _ _ r h hx
            · replace h := (if_neg cz9).symm.trans h
              conv => whnf
              refine ⟨fun cz10 => ?_, fun cz10 => ?_⟩
              · replace h := (if_pos cz10).symm.trans h
                conv => whnf
                exact ih _ _ _ _ _ _ r h hx
              · replace h := (if_neg cz10).symm.trans h
                conv => whnf
                exact ih _ _ _ _ _ _ r h hx
      · replace h := (if_neg cz2).symm.trans h
        conv => whnf
        refine D153 rfl ?_
        conv => whnf
        refine ⟨fun cz11 => ?_, fun cz11 => ?_⟩
        · replace h := (if_pos cz11).symm.trans h
          conv => whnf
          refine ⟨fun _ => ?_, fun z => absurd z (by decide)⟩
          conv => whnf
          refine ⟨fun cz12 => ?_, fun cz12 => ?_⟩
          · replace h := (if_pos cz12).symm.trans h
            conv => whnf
            refine ⟨fun cz13 => ?_, fun cz13 => ?_⟩
            · replace h := (if_pos cz13).symm.trans h
              conv => whnf
              exact ih _ _ _ _ _ _ r h hx
            · replace h := (if_neg cz13).symm.trans h
              conv => whnf
              refine ⟨fun cz14 => ?_, fun cz14 => ?_⟩
              · replace h := (if_pos cz14).symm.trans h
                conv => whnf
                exact ih _ _ _ _ _ _ r h hx
              · replace h := (if_neg cz14).symm.trans h
                conv => whnf
                exact ih _ _ _ _ _ _ r h hx
          · replace h := (if_neg cz12).symm.trans h
            conv => whnf
            refine ⟨fun cz15 => ?_, fun cz15 => ?_⟩
            · replace h := (if_pos cz15).symm.trans h
              conv => whnf
              refine ⟨fun cz16 => ?_, fun cz16 => ?_⟩
              · replace h := (if_pos cz16).symm.trans h
                conv => whnf
                exact ih _ _ _ _ _ _ r h hx
              · replace h := (if_neg cz16).symm.trans h
                conv => whnf
                refine ⟨fun cz17 => ?_, fun cz17 => ?_⟩
                · replace h := (if_pos cz17).symm.trans h
                  conv => whnf
                  exact ih _ _ _ _ _ _ r h hx
                · replace h := (if_neg cz17).symm.trans h
                  conv => whnf
                  exact ih _ _ _ _ _ _ r h hx
            · replace h := (if_neg cz15).symm.trans h
              conv => whnf
              refine ⟨fun cz18 => ?_, fun cz18 => ?_⟩
              · replace h := (if_pos cz18).symm.trans h
                conv => whnf
                exact ih _ _ _ _ _ _ r h hx
              · replace h := (if_neg cz18).symm.trans h
                conv => whnf
                refine ⟨fun cz19 => ?_, fun cz19 => ?_⟩
                · replace h := (if_pos cz19).symm.trans h
                  conv => whnf
                  exact ih _ _ _ _ _ _ r h hx
                · replace h := (if_neg cz19).symm.trans h
                  conv => whnf
                  exact ih _ _ _ _ _ _ r h hx
        · replace h := (if_neg cz11).symm.trans h
          conv => whnf
          refine ⟨fun z => absurd z (by decide), fun _ => ?_⟩
          conv => whnf
          refine D153 rfl ?_
          conv => whnf
          refine ⟨fun cz20 => ?_, fun cz20 => ?_⟩
          · replace h := (if_pos cz20).symm.trans h
            conv => whnf
            refine ⟨fun cz21 => ?_, fun cz21 => ?_⟩
            · replace h := (if_pos cz21).symm.trans h
              conv => whnf
              exact ih _ _ _ _ _ _ r h hx
            · replace h := (if_neg cz21).symm.trans h
              conv => whnf
              refine ⟨fun cz22 => ?_, fun cz22 => ?_⟩
              · replace h := (if_pos cz22).symm.trans h
                conv => whnf
                exact ih _ _ _ _ _ _ r h hx
              · replace h := (if_neg cz22).symm.trans h
                conv => whnf
                exact ih _ _ _ _ _ _ r h hx
          · replace h := (if_neg cz20).symm.trans h
            conv => whnf
            refine ⟨fun cz23 => ?_, fun cz23 => ?_⟩
            · replace h := (if_pos cz23).symm.trans h
              conv => whnf
              refine ⟨fun cz24 => ?_, fun cz24 => ?_⟩
              · replace h := (if_pos cz24).symm.trans h
                conv => whnf
                exact ih _ _ _ _ _ _ r h hx
              · replace h := (if_neg cz24).symm.trans h
                conv => whnf
                refine ⟨fun cz25 => ?_, fun cz25 => ?_⟩
                · replace h := (if_pos cz25).symm.trans h
                  conv => whnf
                  exact ih _ _ _ _ _ _ r h hx
                · replace h := (if_neg cz25).symm.trans h
                  conv => whnf
                  exact ih _ _ _ _ _ _ r h hx
            · replace h := (if_neg cz23).symm.trans h
              conv => whnf
              refine ⟨fun cz26 => ?_, fun cz26 => ?_⟩
              · replace h := (if_pos cz26).symm.trans h
                conv => whnf
                exact ih _ _ _ _ _ _ r h hx
              · replace h := (if_neg cz26).symm.trans h
                conv => whnf
                refine ⟨fun cz27 => ?_, fun cz27 => ?_⟩
                · replace h := (if_pos cz27).symm.trans h
                  conv => whnf
                  exact ih _ _ _ _ _ _ r h hx
                · replace h := (if_neg cz27).symm.trans h
                  conv => whnf
                  exact ih _ _ _ _ _ _ r h hx
/-- X8_looks -/
def d192 (a1 : Int32) (a2 : Int32) (I : jI) : Option (Int32 × jI) :=
  if (d124 (Int32.toInt64 a1) 0 9 I) = 0 then
    some ((-1), I)
  else
    if (d124 (Int32.toInt64 a2) 1 9 I) = 0 then
      some ((-1), I)
    else
      if (I 31 0 3) = 0 then
        some ((-4), I)
      else
        (d192_50 a1 a2 I 70 99999 (-9) 99999 0).bind fun r1 =>
        if r1.2 = (-9) then
          some ((-9), I)
        else
          some (r1.2, (jup I 31 0 10 r1.1))
set_option maxHeartbeats 4000000 in
set_option maxRecDepth 20000 in
theorem D192 {d : Nat} {k : jK} {a1 : Int32} {a2 : Int32} {I : jI} {L : jL} {r : Int32 × jI} (h : d192 a1 a2 I = some r) (hk : k (some (.inl (.inl r.1))) (r.2, L)) : jPM d 192 [.inr (31, 0), .inl (.inl a1), .inl (.inl a2)] (I, L) k := by
  refine pM (fun d n => ?_)
  unfold d192 at h
  refine pn_go [50] 400 ?_
  conv => whnf
  refine D124 rfl ?_
  conv => whnf
  refine ⟨fun cz1 => ?_, fun cz1 => ?_⟩
  · replace h := (if_pos cz1).symm.trans h
    conv => whnf
    cases h
    exact hk
  · replace h := (if_neg cz1).symm.trans h
    conv => whnf
    refine D124 rfl ?_
    conv => whnf
    refine ⟨fun cz2 => ?_, fun cz2 => ?_⟩
    · replace h := (if_neg cz2).symm.trans h
      conv => whnf
      refine ⟨fun cz3 => ?_, fun cz3 => ?_⟩
      · replace h := (if_neg cz3).symm.trans h
        conv => whnf
        obtain ⟨r1, hz4, h⟩ := obind h
        refine L192_50 _ _ _ _ _ _ _ _ hz4 (fun e5_r1 e6_r1 e7_r1 e8_r1 => ?_)
        refine pn_go [50] 400 ?_
        conv => whnf
        refine ⟨fun cz5 => ?_, fun cz5 => ?_⟩
        · replace h := (if_neg cz5).symm.trans h
          conv => whnf
          cases h
          exact hk
        · replace h := (if_pos cz5).symm.trans h
          conv => whnf
          cases h
          exact hk
      · replace h := (if_pos cz3).symm.trans h
        conv => whnf
        cases h
        exact hk
    · replace h := (if_pos cz2).symm.trans h
      conv => whnf
      cases h
      exact hk
