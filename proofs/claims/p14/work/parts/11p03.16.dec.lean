/-- X8_on -/
def d176 (a1 : Int32) (I : jI) : Option (Int32 × jI) :=
  if (d124 (Int32.toInt64 a1) 0 2 I) = 0 then
    some ((-1), I)
  else
    if 0 ≤ (I 32 0 (Int32.toNatClampNeg ((1149 * (1 + a1)) + 0))) then
      (d174 (1149 * (1 + a1)) 0 I).bind fun r1 =>
      some ((r1 32 0 (Int32.toNatClampNeg 0)), r1)
    else
      some (((d126 1 I).1), ((d126 1 I).2))
set_option maxHeartbeats 4000000 in
set_option maxRecDepth 20000 in
theorem D176 {d : Nat} {k : jK} {a1 : Int32} {I : jI} {L : jL} {r : Int32 × jI} (h : d176 a1 I = some r) (hk : k (some (.inl (.inl r.1))) (r.2, L)) : jPM d 176 [.inr (31, 0), .inl (.inl a1)] (I, L) k := by
  refine pM (fun d n => ?_)
  unfold d176 at h
  refine pn_go [] 400 ?_
  conv => whnf
  refine D124 rfl ?_
  conv => whnf
  refine ⟨fun cz1 => ?_, fun cz1 => ?_⟩
  · replace h := (if_neg cz1).symm.trans h
    conv => whnf
    intro _
    conv => whnf
    refine ⟨fun cz2 => ?_, fun cz2 => ?_⟩
    · replace h := (if_pos cz2).symm.trans h
      conv => whnf
      obtain ⟨r1, hz3, h⟩ := obind h
      refine D174 hz3 ?_
      conv => whnf
      intro _
      conv => whnf
      cases h
      exact hk
    · replace h := (if_neg cz2).symm.trans h
      conv => whnf
      refine D126 rfl ?_
      conv => whnf
      cases h
      exact hk
  · replace h := (if_pos cz1).symm.trans h
    conv => whnf
    cases h
    exact hk
/-- X8_costs -/
def d177 (a1 : Int32) (a2 : Int32) (I : jI) : Int32 :=
  if (d151 a1 I) = 0 then
    (-1)
  else
    if (d124 (Int32.toInt64 a2) 0 40 I) = 0 then
      (-1)
    else
      (d153 0 a1 a2 I)
set_option maxHeartbeats 4000000 in
set_option maxRecDepth 20000 in
theorem D177 {d : Nat} {k : jK} {a1 : Int32} {a2 : Int32} {I : jI} {L : jL} {r : Int32} (h : d177 a1 a2 I = r) (hk : k (some (.inl (.inl r))) (I, L)) : jPM d 177 [.inr (31, 0), .inl (.inl a1), .inl (.inl a2)] (I, L) k := by
  refine pM (fun d n => ?_)
  unfold d177 at h
  refine pn_go [] 400 ?_
  conv => whnf
  refine D151 rfl ?_
  conv => whnf
  refine ⟨fun cz1 => ?_, fun cz1 => ?_⟩
  · replace h := (if_pos cz1).symm.trans h
    conv => whnf
    subst h
    exact hk
  · replace h := (if_neg cz1).symm.trans h
    conv => whnf
    refine D124 rfl ?_
    conv => whnf
    refine ⟨fun cz2 => ?_, fun cz2 => ?_⟩
    · replace h := (if_pos cz2).symm.trans h
      conv => whnf
      subst h
      exact hk
    · replace h := (if_neg cz2).symm.trans h
      conv => whnf
      refine D153 rfl ?_
      conv => whnf
      subst h
      exact hk
/-- X8_tellParts, loop at 6 -/
def d178_6 (y1 : Int64) (y3 : Int64) (I : jI) : Nat → Int64 → Int64 → Option (Int64)
  | 0, _, _ => none
  | F + 1, x5, x7 =>
    if (lg_cmp x7 0) = 0 then
      some x5
    else
      d178_6 y1 y3 I F x7 (x5 - x5 / x7 * x7)
set_option maxHeartbeats 4000000 in
set_option maxRecDepth 20000 in
theorem L178_6 {d n : Nat} {k : jK} {y1 : Int64} {y3 : Int64} {I : jI} {L : jL} : ∀ (F : Nat) (x5 : Int64) (x7 : Int64) (e9 e10 : Option jV) (r : Int64), d178_6 y1 y3 I F x5 x7 = some r → (∀ (f7 f8 f9 f10 : Option jV), pn (jPM d) k none (jco 178) n (31, [some (.inr (31, 0)), some (.inl (.inr y1)), none, some (.inl (.inr y3)), none, some (.inl (.inr r)), none, f7, f8, f9, f10], [], I, L)) → pn (jPM d) k none (jco 178) n (6, [some (.inr (31, 0)), some (.inl (.inr y1)), none, some (.inl (.inr y3)), none, some (.inl (.inr x5)), none, some (.inl (.inr x7)), none, e9, e10], [], I, L) := by
  intro F
  induction F with
  | zero => intro x5 x7 e9 e10 r h hx; cases h
  | succ F ih =>
    intro x5 x7 e9 e10 r h hx
    rw [d178_6] at h
    refine pn_go [6, 31] 400 ?_
    conv => whnf
    refine ⟨fun cz1 => ?_, fun cz1 => ?_⟩
    · replace h := (if_pos cz1).symm.trans h
      conv => whnf
      cases h
      exact hx _ _ _ _
    · replace h := (if_neg cz1).symm.trans h
      conv => whnf
      intro _
      conv => whnf
      exact ih _ _ _ _ r h hx
/-- X8_tellParts -/
def d178 (a1 : Int64) (a2 : Int64) (I : jI) (L : jL) : Option (Int32 × jL) :=
  (d178_6 a1 a2 I 300 a1 a2).bind fun r1 =>
  some (1, (jupL (jupL L 31 0 11 (a1 / r1)) 31 0 12 (a2 / r1)))
set_option maxHeartbeats 4000000 in
set_option maxRecDepth 20000 in
theorem D178 {d : Nat} {k : jK} {a1 : Int64} {a2 : Int64} {I : jI} {L : jL} {r : Int32 × jL} (h : d178 a1 a2 I L = some r) (hk : k (some (.inl (.inl r.1))) (I, r.2)) : jPM d 178 [.inr (31, 0), .inl (.inr a1), .inl (.inr a2)] (I, L) k := by
  refine pM (fun d n => ?_)
  unfold d178 at h
  refine pn_go [6] 400 ?_
  conv => whnf
  obtain ⟨r1, hz1, h⟩ := obind h
  refine L178_6 _ _ _ _ _ _ hz1 (fun e7_r1 e8_r1 e9_r1 e10_r1 => ?_)
  refine pn_go [6] 400 ?_
  conv => whnf
  intro _
  conv => whnf
  intro _
  conv => whnf
  cases h
  exact hk
/-- X8_rate -/
def d179 (a1 : Int32) (I : jI) (L : jL) : Option (Int32 × jL) :=
  if (d151 a1 I) = 0 then
    some ((-1), L)
  else
    if (d155 0 a1 I) = 0 then
      some ((-4), L)
    else
      (d178 (Int32.toInt64 (d153 0 a1 1 I)) (Int32.toInt64 (d155 0 a1 I)) I L).bind fun r1 =>
      some (r1.1, r1.2)
set_option maxHeartbeats 4000000 in
set_option maxRecDepth 20000 in
theorem D179 {d : Nat} {k : jK} {a1 : Int32} {I : jI} {L : jL} {r : Int32 × jL} (h : d179 a1 I L = some r) (hk : k (some (.inl (.inl r.1))) (I, r.2)) : jPM d 179 [.inr (31, 0), .inl (.inl a1)] (I, L) k := by
  refine pM (fun d n => ?_)
  unfold d179 at h
  refine pn_go [] 400 ?_
  conv => whnf
  refine D151 rfl ?_
  conv => whnf
  refine ⟨fun cz1 => ?_, fun cz1 => ?_⟩
  · replace h := (if_neg cz1).symm.trans h
    conv => whnf
    refine D155 rfl ?_
    conv => whnf
    refine ⟨fun cz2 => ?_, fun cz2 => ?_⟩
    · replace h := (if_neg cz2).symm.trans h
      conv => whnf
      refine D153 rfl ?_
      conv => whnf
      refine D155 rfl ?_
      conv => whnf
      obtain ⟨r1, hz3, h⟩ := obind h
      refine D178 hz3 ?_
      conv => whnf
      cases h
      exact hk
    · replace h := (if_pos cz2).symm.trans h
      conv => whnf
      cases h
      exact hk
  · replace h := (if_pos cz1).symm.trans h
    conv => whnf
    cases h
    exact hk
/-- X8_rateTo -/
def d180 (a1 : Int32) (a2 : Int32) (I : jI) : Int32 :=
  (((d153 0 a1 1 I) * (d155 0 a2 I)) - ((d153 0 a2 1 I) * (d155 0 a1 I)))
set_option maxHeartbeats 4000000 in
set_option maxRecDepth 20000 in
theorem D180 {d : Nat} {k : jK} {a1 : Int32} {a2 : Int32} {I : jI} {L : jL} {r : Int32} (h : d180 a1 a2 I = r) (hk : k (some (.inl (.inl r))) (I, L)) : jPM d 180 [.inr (31, 0), .inl (.inl a1), .inl (.inl a2)] (I, L) k := by
  refine pM (fun d n => ?_)
  unfold d180 at h
  refine pn_go [] 400 ?_
  conv => whnf
  refine D153 rfl ?_
  conv => whnf
  refine D155 rfl ?_
  conv => whnf
  refine D153 rfl ?_
  conv => whnf
  refine D155 rfl ?_
  conv => whnf
  subst h
  exact hk
/-- X8_cheapest, loop at 15 -/
def d181_15 (I : jI) : Nat → Int32 → Int32 → Option (Int32)
  | 0, _, _ => none
  | F + 1, x1, x2 =>
    if (I 31 0 3) ≤ x2 then
      some x1
    else
      if (d155 0 x2 I) ≤ 0 then
        d181_15 I F x1 (x2 + 1)
      else
        if x1 = (-9) then
          d181_15 I F x2 (x2 + 1)
        else
          if 0 ≤ (d180 x2 x1 I) then
            d181_15 I F x1 (x2 + 1)
          else
            d181_15 I F x2 (x2 + 1)
set_option maxHeartbeats 4000000 in
set_option maxRecDepth 20000 in
theorem L181_15 {d n : Nat} {k : jK} {I : jI} {L : jL} : ∀ (F : Nat) (x1 : Int32) (x2 : Int32) (r : Int32), d181_15 I F x1 x2 = some r → (∀ (f2 : Option jV), pn (jPM d) k none (jco 181) n (59, [some (.inr (31, 0)), some (.inl (.inl r)), f2], [], I, L)) → pn (jPM d) k none (jco 181) n (15, [some (.inr (31, 0)), some (.inl (.inl x1)), some (.inl (.inl x2))], [], I, L) := by
  intro F
  induction F with
  | zero => intro x1 x2 r h hx; cases h
  | succ F ih =>
    intro x1 x2 r h hx
    rw [d181_15] at h
    refine pn_go [15, 59, 75] 400 ?_
    conv => whnf
    refine ⟨fun cz1 => ?_, fun cz1 => ?_⟩
    · replace h := (if_pos cz1).symm.trans h
      conv => whnf
      cases h
      exact hx _
    · replace h := (if_neg cz1).symm.trans h
      conv => whnf
      refine D155 rfl ?_
      conv => whnf
      refine ⟨fun cz2 => ?_, fun cz2 => ?_⟩
      · replace h := (if_pos cz2).symm.trans h
        conv => whnf
        exact ih _ _ r h hx
      · replace h := (if_neg cz2).symm.trans h
        conv => whnf
        refine ⟨fun cz3 => ?_, fun cz3 => ?_⟩
        · replace h := (if_pos cz3).symm.trans h
          conv => whnf
          exact ih _ _ r h hx
        · replace h := (if_neg cz3).symm.trans h
          conv => whnf
          refine D180 rfl ?_
          conv => whnf
          refine ⟨fun cz4 => ?_, fun cz4 => ?_⟩
          · replace h := (if_pos cz4).symm.trans h
            conv => whnf
            exact ih _ _ r h hx
          · replace h := (if_neg cz4).symm.trans h
            conv => whnf
            exact ih _ _ r h hx
/-- X8_cheapest, loop at 75 -/
def d181_75 (y1 : Int32) : Nat → Int32 → jI → Option (jI)
  | 0, _, _ => none
  | F + 1, x2, I =>
    if (I 31 0 3) ≤ x2 then
      some I
    else
      if (d155 0 x2 I) ≤ 0 then
        d181_75 y1 F (x2 + 1) (jup I 31 0 10 ((I 31 0 10) ||| 0))
      else
        if (d180 x2 y1 I) = 0 then
          d181_75 y1 F (x2 + 1) (jup I 31 0 10 ((I 31 0 10) ||| (1 <<< (x2 &&& 31))))
        else
          d181_75 y1 F (x2 + 1) (jup I 31 0 10 ((I 31 0 10) ||| 0))
set_option maxHeartbeats 4000000 in
set_option maxRecDepth 20000 in
theorem L181_75 {d n : Nat} {k : jK} {y1 : Int32} {L : jL} : ∀ (F : Nat) (x2 : Int32) (I : jI) (r : jI), d181_75 y1 F x2 I = some r → (∀ (f2 : Option jV), pn (jPM d) k none (jco 181) n (123, [some (.inr (31, 0)), some (.inl (.inl y1)), f2], [], r, L)) → pn (jPM d) k none (jco 181) n (75, [some (.inr (31, 0)), some (.inl (.inl y1)), some (.inl (.inl x2))], [], I, L) := by
  intro F
  induction F with
  | zero => intro x2 I r h hx; cases h
  | succ F ih =>
    intro x2 I r h hx
    rw [d181_75] at h
    refine pn_go [15, 75, 123] 400 ?_
    conv => whnf
    refine ⟨fun cz1 => ?_, fun cz1 => ?_⟩
    · replace h := (if_pos cz1).symm.trans h
      conv => whnf
      cases h
      exact hx _
    · replace h := (if_neg cz1).symm.trans h
      conv => whnf
      refine D155 rfl ?_
      conv => whnf
      refine ⟨fun cz2 => ?_, fun cz2 => ?_⟩
      · replace h := (if_pos cz2).symm.trans h
        conv => whnf
        exact ih _ _ r h hx
      · replace h := (if_neg cz2).symm.trans h
        conv => whnf
        refine D180 rfl ?_
        conv => whnf
        refine ⟨fun cz3 => ?_, fun cz3 => ?_⟩
        · replace h := (if_neg cz3).symm.trans h
          conv => whnf
          exact ih _ _ r h hx
        · replace h := (if_pos cz3).symm.trans h
          conv => whnf
          exact ih _ _ r h hx
/-- X8_cheapest -/
def d181 (I : jI) : Option (Int32 × jI) :=
  if (I 31 0 3) = 0 then
    some ((-4), I)
  else
    (d181_15 I 70 (-9) 0).bind fun r1 =>
    if r1 = (-9) then
      some ((-9), I)
    else
      (d181_75 r1 70 0 (jup I 31 0 10 0)).bind fun r2 =>
      some (r1, r2)
set_option maxHeartbeats 4000000 in
set_option maxRecDepth 20000 in
theorem D181 {d : Nat} {k : jK} {I : jI} {L : jL} {r : Int32 × jI} (h : d181 I = some r) (hk : k (some (.inl (.inl r.1))) (r.2, L)) : jPM d 181 [.inr (31, 0)] (I, L) k := by
  refine pM (fun d n => ?_)
  unfold d181 at h
  refine pn_go [15, 75] 400 ?_
  conv => whnf
  refine ⟨fun cz1 => ?_, fun cz1 => ?_⟩
  · replace h := (if_neg cz1).symm.trans h
    conv => whnf
    obtain ⟨r1, hz2, h⟩ := obind h
    refine L181_15 _ _ _ _ hz2 (fun e2_r1 => ?_)
    refine pn_go [15, 75] 400 ?_
    conv => whnf
    refine ⟨fun cz3 => ?_, fun cz3 => ?_⟩
    · replace h := (if_neg cz3).symm.trans h
      conv => whnf
      obtain ⟨r2, hz4, h⟩ := obind h
      refine L181_75 _ _ _ _ hz4 (fun e2_r2 => ?_)
      refine pn_go [15, 75] 400 ?_
      conv => whnf
      cases h
      exact hk
    · replace h := (if_pos cz3).symm.trans h
      conv => whnf
      cases h
      exact hk
  · replace h := (if_pos cz1).symm.trans h
    conv => whnf
    cases h
    exact hk
/-- X8_larger, loop at 22 -/
def d182_22 (y2 : Int32) : Nat → Int32 → Int32 → jI → Option (Int32 × jI)
  | 0, _, _, _ => none
  | F + 1, x1, x3, I =>
    if (I 31 0 3) ≤ x3 then
      some (x1, I)
    else
      if (d155 0 y2 I) ≤ 0 then
        d182_22 y2 F (x1 + 0) (x3 + 1) (jup I 31 0 10 (I 31 0 10))
      else
        if (d155 0 x3 I) ≤ 0 then
          d182_22 y2 F (x1 + 0) (x3 + 1) (jup I 31 0 10 (I 31 0 10))
        else
          if ((d155 0 y2 I) - (d155 0 x3 I)) ≤ 0 then
            if 0 ≤ ((d155 0 y2 I) - (d155 0 x3 I)) then
              d182_22 y2 F (x1 + 0) (x3 + 1) (jup I 31 0 10 (I 31 0 10))
            else
              if 0 ≤ (d180 y2 x3 I) then
                d182_22 y2 F (x1 + 0) (x3 + 1) (jup I 31 0 10 (I 31 0 10))
              else
                if x1 = 0 then
                  d182_22 y2 F (x1 + 1) (x3 + 1) (jup I 31 0 10 ((6 * y2) + x3))
                else
                  d182_22 y2 F (x1 + 1) (x3 + 1) (jup I 31 0 10 (I 31 0 10))
          else
            if (d180 y2 x3 I) ≤ 0 then
              d182_22 y2 F (x1 + 0) (x3 + 1) (jup I 31 0 10 (I 31 0 10))
            else
              if x1 = 0 then
                d182_22 y2 F (x1 + 1) (x3 + 1) (jup I 31 0 10 ((6 * y2) + x3))
              else
                d182_22 y2 F (x1 + 1) (x3 + 1) (jup I 31 0 10 (I 31 0 10))
set_option maxHeartbeats 4000000 in
set_option maxRecDepth 20000 in
theorem L182_22 {d n : Nat} {k : jK} {y2 : Int32} {L : jL} : ∀ (F : Nat) (x1 : Int32) (x3 : Int32) (I : jI) (e4 e5 : Option jV) (r : Int32 × jI), d182_22 y2 F x1 x3 I = some r → (∀ (f3 f4 f5 : Option jV), pn (jPM d) k none (jco 182) n (146, [some (.inr (31, 0)), some (.inl (.inl r.1)), some (.inl (.inl y2)), f3, f4, f5], [], r.2, L)) → pn (jPM d) k none (jco 182) n (22, [some (.inr (31, 0)), some (.inl (.inl x1)), some (.inl (.inl y2)), some (.inl (.inl x3)), e4, e5], [], I, L) := by
  intro F
  induction F with
  | zero => intro x1 x3 I e4 e5 r h hx; cases h
  | succ F ih =>
    intro x1 x3 I e4 e5 r h hx
    rw [d182_22] at h
    refine pn_go [10, 22, 146] 400 ?_
    conv => whnf
    refine ⟨fun cz1 => ?_, fun cz1 => ?_⟩
    · replace h := (if_pos cz1).symm.trans h
      conv => whnf
      cases h
      exact hx _ _ _
    · replace h := (if_neg cz1).symm.trans h
      conv => whnf
      refine D155 rfl ?_
      conv => whnf
      refine D155 rfl ?_
      conv => whnf
      refine D155 rfl ?_
      conv => whnf
      refine ⟨fun cz2 => ?_, fun cz2 => ?_⟩
      · replace h := (if_pos cz2).symm.trans h
        conv => whnf
        refine ⟨fun _ => ?_, fun z => absurd z (by decide)⟩
        conv => whnf
        refine ⟨fun _ => ?_, fun z => absurd z (by decide)⟩
        conv => whnf
        exact ih _ _ _ _ _ r h hx
      · replace h := (if_neg cz2).symm.trans h
        conv => whnf
        refine D155 rfl ?_
        conv => whnf
        refine ⟨fun cz3 => ?_, fun cz3 => ?_⟩
        · replace h := (if_pos cz3).symm.trans h
          conv => whnf
          refine ⟨fun _ => ?_, fun z => absurd z (by decide)⟩
          conv => whnf
          refine ⟨fun _ => ?_, fun z => absurd z (by decide)⟩
          conv => whnf
          exact ih _ _ _ _ _ r h hx
        · replace h := (if_neg cz3).symm.trans h
          conv => whnf
          refine ⟨fun cz4 => ?_, fun cz4 => ?_⟩
          · replace h := (if_pos cz4).symm.trans h
            conv => whnf
            refine ⟨fun cz5 => ?_, fun cz5 => ?_⟩
            · replace h := (if_pos cz5).symm.trans h
              conv => whnf
              refine ⟨fun _ => ?_, fun z => absurd z (by decide)⟩
              conv => whnf
              refine ⟨fun _ => ?_, fun z => absurd z (by decide)⟩
              conv => whnf
              exact ih _ _ _ _ _ r h hx
            · replace h := (if_neg cz5).symm.trans h
              conv => whnf
              refine D180 rfl ?_
              conv => whnf
              refine ⟨fun cz6 => ?_, fun cz6 => ?_⟩
              · replace h := (if_pos cz6).symm.trans h
                conv => whnf
                refine ⟨fun _ => ?_, fun z => absurd z (by decide)⟩
                conv => whnf
                refine ⟨fun _ => ?_, fun z => absurd z (by decide)⟩
                conv => whnf
                exact ih _ _ _ _ _ r h hx
              · replace h := (if_neg cz6).symm.trans h
                conv => whnf
                refine ⟨fun z => absurd z (by decide), fun _ => ?_⟩
                conv => whnf
                refine ⟨fun cz7 => ?_, fun cz7 => ?_⟩
                · replace h := (if_neg cz7).symm.trans h
                  conv => whnf
                  refine ⟨fun z => absurd z (by decide), fun _ => ?_⟩
                  conv => whnf
                  exact ih _ _ _ _ _ r h hx
                · replace h := (if_pos cz7).symm.trans h
                  conv => whnf
                  refine ⟨fun z => absurd z (by decide), fun _ => ?_⟩
                  conv => whnf
                  exact ih _ _ _ _ _ r h hx
          · replace h := (if_neg cz4).symm.trans h
            conv => whnf
            refine D180 rfl ?_
            conv => whnf
            refine ⟨fun cz8 => ?_, fun cz8 => ?_⟩
            · replace h := (if_pos cz8).symm.trans h
              conv => whnf
              refine ⟨fun _ => ?_, fun z => absurd z (by decide)⟩
              conv => whnf
              refine ⟨fun _ => ?_, fun z => absurd z (by decide)⟩
              conv => whnf
              exact ih _ _ _ _ _ r h hx
            · replace h := (if_neg cz8).symm.trans h
              conv => whnf
              refine ⟨fun z => absurd z (by decide), fun _ => ?_⟩
              conv => whnf
              refine ⟨fun cz9 => ?_, fun cz9 => ?_⟩
              · replace h := (if_neg cz9).symm.trans h
                conv => whnf
                refine ⟨fun z => absurd z (by decide), fun _ => ?_⟩
                conv => whnf
                exact ih _ _ _ _ _ r h hx
              · replace h := (if_pos cz9).symm.trans h
                conv => whnf
                refine ⟨fun z => absurd z (by decide), fun _ => ?_⟩
                conv => whnf
                exact ih _ _ _ _ _ r h hx
/-- X8_larger, loop at 10 -/
def d182_10 : Nat → Int32 → Int32 → jI → Option (Int32 × jI)
  | 0, _, _, _ => none
  | F + 1, x1, x2, I =>
    if (I 31 0 3) ≤ x2 then
      some (x1, I)
    else
      (d182_22 x2 70 x1 (x2 + 1) I).bind fun r1 =>
      d182_10 F r1.1 (x2 + 1) r1.2
set_option maxHeartbeats 4000000 in
set_option maxRecDepth 20000 in
theorem L182_10 {d n : Nat} {k : jK} {L : jL} : ∀ (F : Nat) (x1 : Int32) (x2 : Int32) (I : jI) (e3 e4 e5 : Option jV) (r : Int32 × jI), d182_10 F x1 x2 I = some r → (∀ (f2 f3 f4 f5 : Option jV), pn (jPM d) k none (jco 182) n (152, [some (.inr (31, 0)), some (.inl (.inl r.1)), f2, f3, f4, f5], [], r.2, L)) → pn (jPM d) k none (jco 182) n (10, [some (.inr (31, 0)), some (.inl (.inl x1)), some (.inl (.inl x2)), e3, e4, e5], [], I, L) := by
  intro F
  induction F with
  | zero => intro x1 x2 I e3 e4 e5 r h hx; cases h
  | succ F ih =>
    intro x1 x2 I e3 e4 e5 r h hx
    rw [d182_10] at h
    refine pn_go [10, 22, 152] 400 ?_
    conv => whnf
    refine ⟨fun cz1 => ?_, fun cz1 => ?_⟩
    · replace h := (if_pos cz1).symm.trans h
      conv => whnf
      cases h
      exact hx _ _ _ _
    · replace h := (if_neg cz1).symm.trans h
      conv => whnf
      obtain ⟨r1, hz2, h⟩ := obind h
      refine L182_22 _ _ _ _ _ _ _ hz2 (fun e3_r1 e4_r1 e5_r1 => ?_)
      refine pn_go [10, 22, 152] 400 ?_
      conv => whnf
      exact ih _ _ _ _ _ _ r h hx
/-- X8_larger -/
def d182 (I : jI) : Option (Int32 × jI) :=
  (d182_10 70 0 0 (jup I 31 0 10 (-9))).bind fun r2 =>
  some (r2.1, r2.2)
set_option maxHeartbeats 4000000 in
set_option maxRecDepth 20000 in
theorem D182 {d : Nat} {k : jK} {I : jI} {L : jL} {r : Int32 × jI} (h : d182 I = some r) (hk : k (some (.inl (.inl r.1))) (r.2, L)) : jPM d 182 [.inr (31, 0)] (I, L) k := by
  refine pM (fun d n => ?_)
  unfold d182 at h
  refine pn_go [10, 22] 400 ?_
  conv => whnf
  obtain ⟨r2, hz1, h⟩ := obind h
  refine L182_10 _ _ _ _ _ _ _ _ hz1 (fun e2_r2 e3_r2 e4_r2 e5_r2 => ?_)
  refine pn_go [10, 22] 400 ?_
  conv => whnf
  cases h
  exact hk
