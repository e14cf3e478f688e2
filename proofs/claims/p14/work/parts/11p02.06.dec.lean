/-- J6_compare_7cf53 -/
def d0 (a0 : Int32) (a1 : Int32) (I : jI) : Int32 :=
  if a1 ≤ a0 then
    if a0 = a1 then
      0
    else
      1
  else
    (-1)
set_option maxHeartbeats 4000000 in
set_option maxRecDepth 20000 in
theorem D0 {d : Nat} {k : jK} {a0 : Int32} {a1 : Int32} {I : jI} {L : jL} {r : Int32} (h : d0 a0 a1 I = r) (hk : k (some (.inl (.inl r))) (I, L)) : jPM d 0 [.inl (.inl a0), .inl (.inl a1)] (I, L) k := by
  refine pM (fun d n => ?_)
  unfold d0 at h
  refine pn_go [] 400 ?_
  conv => whnf
  refine ⟨fun cz1 => ?_, fun cz1 => ?_⟩
  · replace h := (if_pos cz1).symm.trans h
    conv => whnf
    refine ⟨fun cz2 => ?_, fun cz2 => ?_⟩
    · replace h := (if_neg cz2).symm.trans h
      conv => whnf
      subst h
      exact hk
    · replace h := (if_pos cz2).symm.trans h
      conv => whnf
      subst h
      exact hk
  · replace h := (if_neg cz1).symm.trans h
    conv => whnf
    subst h
    exact hk
/-- X1_compareRates -/
def d38 (a0 : Nat) (a1 : Int32) (a2 : Int32) (I : jI) : Int32 :=
  (d0 ((d35 a0 a1 1 I) * (d36 a0 a2 I)) ((d35 a0 a2 1 I) * (d36 a0 a1 I)) I)
set_option maxHeartbeats 4000000 in
set_option maxRecDepth 20000 in
theorem D38 {d : Nat} {k : jK} {a0 : Nat} {a1 : Int32} {a2 : Int32} {I : jI} {L : jL} {r : Int32} (h : d38 a0 a1 a2 I = r) (hk : k (some (.inl (.inl r))) (I, L)) : jPM d 38 [.inr (4, a0), .inl (.inl a1), .inl (.inl a2)] (I, L) k := by
  refine pM (fun d n => ?_)
  unfold d38 at h
  refine pn_go [] 400 ?_
  conv => whnf
  refine D35 rfl ?_
  conv => whnf
  refine D36 rfl ?_
  conv => whnf
  refine D35 rfl ?_
  conv => whnf
  refine D36 rfl ?_
  conv => whnf
  refine D0 rfl ?_
  conv => whnf
  subst h
  exact hk
/-- X7_cheapest, loop at 20 -/
def d91_20 (I : jI) : Nat → Int32 → Int32 → Int32 → Option (Int32 × Int32)
  | 0, _, _, _ => none
  | F + 1, x1, x2, x3 =>
    if (I 4 1 6) ≤ x3 then
      some (x1, x2)
    else
      if (d36 1 x3 I) = 0 then
        d91_20 I F x1 x2 (x3 + 1)
      else
        if x1 = (-9) then
          d91_20 I F x3 (1 <<< (x3 &&& 31)) (x3 + 1)
        else
          if 0 ≤ (d38 1 x3 x1 I) then
            if (d38 1 x3 x1 I) = 0 then
              d91_20 I F x1 (x2 ||| (1 <<< (x3 &&& 31))) (x3 + 1)
            else
              d91_20 I F x1 x2 (x3 + 1)
          else
            d91_20 I F x3 (1 <<< (x3 &&& 31)) (x3 + 1)
set_option maxHeartbeats 4000000 in
set_option maxRecDepth 20000 in
theorem L91_20 {d n : Nat} {k : jK} {I : jI} {L : jL} : ∀ (F : Nat) (x1 : Int32) (x2 : Int32) (x3 : Int32) (e4 : Option jV) (r : Int32 × Int32), d91_20 I F x1 x2 x3 = some r → (∀ (f3 f4 : Option jV), pn (jPM d) k none (jco 91) n (97, [some (.inr (0, 0)), some (.inl (.inl r.1)), some (.inl (.inl r.2)), f3, f4], [], I, L)) → pn (jPM d) k none (jco 91) n (20, [some (.inr (0, 0)), some (.inl (.inl x1)), some (.inl (.inl x2)), some (.inl (.inl x3)), e4], [], I, L) := by
  intro F
  induction F with
  | zero => intro x1 x2 x3 e4 r h hx; cases h
  | succ F ih =>
    intro x1 x2 x3 e4 r h hx
    rw [d91_20] at h
    refine pn_go [20, 97] 400 ?_
    conv => whnf
    refine ⟨fun cz1 => ?_, fun cz1 => ?_⟩
    · replace h := (if_pos cz1).symm.trans h
      conv => whnf
      cases h
      exact hx _ _
    · replace h := (if_neg cz1).symm.trans h
      conv => whnf
      refine D36 rfl ?_
      conv => whnf
      refine ⟨fun cz2 => ?_, fun cz2 => ?_⟩
      · replace h := (if_neg cz2).symm.trans h
        conv => whnf
        refine ⟨fun cz3 => ?_, fun cz3 => ?_⟩
        · replace h := (if_neg cz3).symm.trans h
          conv => whnf
          refine D38 rfl ?_
          conv => whnf
          refine ⟨fun cz4 => ?_, fun cz4 => ?_⟩
          · replace h := (if_pos cz4).symm.trans h
            conv => whnf
            refine ⟨fun cz5 => ?_, fun cz5 => ?_⟩
            · replace h := (if_neg cz5).symm.trans h
              conv => whnf
              exact ih _ _ _ _ r h hx
            · replace h := (if_pos cz5).symm.trans h
              conv => whnf
              exact ih _ _ _ _ r h hx
          · replace h := (if_neg cz4).symm.trans h
            conv => whnf
            exact ih _ _ _ _ r h hx
        · replace h := (if_pos cz3).symm.trans h
          conv => whnf
          refine ⟨fun z => absurd z (by decide), fun _ => ?_⟩
          conv => whnf
          exact ih _ _ _ _ r h hx
      · replace h := (if_pos cz2).symm.trans h
        conv => whnf
        exact ih _ _ _ _ r h hx
/-- X7_cheapest -/
def d91 (I : jI) : Option (Int32 × jI) :=
  if (I 4 1 6) = 0 then
    some ((-4), I)
  else
    (d91_20 I 70 (-9) 0 0).bind fun r1 =>
    if r1.1 = (-9) then
      some (r1.1, I)
    else
      some (r1.1, (jup I 0 0 14 r1.2))
set_option maxHeartbeats 4000000 in
set_option maxRecDepth 20000 in
theorem D91 {d : Nat} {k : jK} {I : jI} {L : jL} {r : Int32 × jI} (h : d91 I = some r) (hk : k (some (.inl (.inl r.1))) (r.2, L)) : jPM d 91 [.inr (0, 0)] (I, L) k := by
  refine pM (fun d n => ?_)
  unfold d91 at h
  refine pn_go [20] 400 ?_
  conv => whnf
  refine ⟨fun cz1 => ?_, fun cz1 => ?_⟩
  · replace h := (if_neg cz1).symm.trans h
    conv => whnf
    obtain ⟨r1, hz2, h⟩ := obind h
    refine L91_20 _ _ _ _ _ _ hz2 (fun e3_r1 e4_r1 => ?_)
    refine pn_go [20] 400 ?_
    conv => whnf
    refine ⟨fun cz3 => ?_, fun cz3 => ?_⟩
    · replace h := (if_pos cz3).symm.trans h
      conv => whnf
      cases h
      exact hk
    · replace h := (if_neg cz3).symm.trans h
      conv => whnf
      cases h
      exact hk
  · replace h := (if_pos cz1).symm.trans h
    conv => whnf
    cases h
    exact hk
/-- X1_isLargerOneDearer -/
def d39 (a0 : Nat) (a1 : Int32) (a2 : Int32) (I : jI) : Int32 :=
  if (d36 a0 a1 I) = 0 then
    0
  else
    if (d36 a0 a2 I) = 0 then
      0
    else
      if (d0 (d36 a0 a1 I) (d36 a0 a2 I) I) = 0 then
        0
      else
        if (d38 a0 a1 a2 I) = (d0 (d36 a0 a1 I) (d36 a0 a2 I) I) then
          1
        else
          0
set_option maxHeartbeats 4000000 in
set_option maxRecDepth 20000 in
theorem D39 {d : Nat} {k : jK} {a0 : Nat} {a1 : Int32} {a2 : Int32} {I : jI} {L : jL} {r : Int32} (h : d39 a0 a1 a2 I = r) (hk : k (some (.inl (.inl r))) (I, L)) : jPM d 39 [.inr (4, a0), .inl (.inl a1), .inl (.inl a2)] (I, L) k := by
  refine pM (fun d n => ?_)
  unfold d39 at h
  refine pn_go [] 400 ?_
  conv => whnf
  refine D36 rfl ?_
  conv => whnf
  refine D36 rfl ?_
  conv => whnf
  refine D0 rfl ?_
  conv => whnf
  refine D36 rfl ?_
  conv => whnf
  refine ⟨fun cz1 => ?_, fun cz1 => ?_⟩
  · replace h := (if_pos cz1).symm.trans h
    conv => whnf
    subst h
    exact fun _ => hk
  · replace h := (if_neg cz1).symm.trans h
    conv => whnf
    refine D36 rfl ?_
    conv => whnf
    refine ⟨fun cz2 => ?_, fun cz2 => ?_⟩
    · replace h := (if_pos cz2).symm.trans h
      conv => whnf
      subst h
      exact fun _ => hk
    · replace h := (if_neg cz2).symm.trans h
      conv => whnf
      refine ⟨fun cz3 => ?_, fun cz3 => ?_⟩
      · replace h := (if_neg cz3).symm.trans h
        conv => whnf
        refine D38 rfl ?_
        conv => whnf
        refine ⟨fun cz4 => ?_, fun cz4 => ?_⟩
        · replace h := (if_neg cz4).symm.trans h
          conv => whnf
          subst h
          exact fun _ => hk
        · replace h := (if_pos cz4).symm.trans h
          conv => whnf
          subst h
          exact fun _ => hk
      · replace h := (if_pos cz3).symm.trans h
        conv => whnf
        subst h
        exact fun _ => hk
/-- X7_larger, loop at 23 -/
def d92_23 (y3 : Int32) (I : jI) : Nat → Int32 → Int32 → Int32 → Option (Int32 × Int32)
  | 0, _, _, _ => none
  | F + 1, x1, x2, x4 =>
    if (I 4 1 6) ≤ x4 then
      some (x1, x2)
    else
      if (d39 1 y3 x4 I) = 0 then
        d92_23 y3 I F x1 x2 (x4 + 1)
      else
        if x2 = (-9) then
          d92_23 y3 I F (x1 + 1) ((6 * y3) + x4) (x4 + 1)
        else
          d92_23 y3 I F (x1 + 1) x2 (x4 + 1)
set_option maxHeartbeats 4000000 in
set_option maxRecDepth 20000 in
theorem L92_23 {d n : Nat} {k : jK} {y3 : Int32} {I : jI} {L : jL} : ∀ (F : Nat) (x1 : Int32) (x2 : Int32) (x4 : Int32) (r : Int32 × Int32), d92_23 y3 I F x1 x2 x4 = some r → (∀ (f4 : Option jV), pn (jPM d) k none (jco 92) n (75, [some (.inr (0, 0)), some (.inl (.inl r.1)), some (.inl (.inl r.2)), some (.inl (.inl y3)), f4], [], I, L)) → pn (jPM d) k none (jco 92) n (23, [some (.inr (0, 0)), some (.inl (.inl x1)), some (.inl (.inl x2)), some (.inl (.inl y3)), some (.inl (.inl x4))], [], I, L) := by
  intro F
  induction F with
  | zero => intro x1 x2 x4 r h hx; cases h
  | succ F ih =>
    intro x1 x2 x4 r h hx
    rw [d92_23] at h
    refine pn_go [7, 23, 75] 400 ?_
    conv => whnf
    refine ⟨fun cz1 => ?_, fun cz1 => ?_⟩
    · replace h := (if_pos cz1).symm.trans h
      conv => whnf
      cases h
      exact hx _
    · replace h := (if_neg cz1).symm.trans h
      conv => whnf
      refine D39 rfl ?_
      conv => whnf
      refine ⟨fun cz2 => ?_, fun cz2 => ?_⟩
      · replace h := (if_pos cz2).symm.trans h
        conv => whnf
        exact ih _ _ _ r h hx
      · replace h := (if_neg cz2).symm.trans h
        conv => whnf
        refine ⟨fun cz3 => ?_, fun cz3 => ?_⟩
        · replace h := (if_neg cz3).symm.trans h
          conv => whnf
          exact ih _ _ _ r h hx
        · replace h := (if_pos cz3).symm.trans h
          conv => whnf
          exact ih _ _ _ r h hx
/-- X7_larger, loop at 7 -/
def d92_7 (I : jI) : Nat → Int32 → Int32 → Int32 → Option (Int32 × Int32)
  | 0, _, _, _ => none
  | F + 1, x1, x2, x3 =>
    if (I 4 1 6) ≤ x3 then
      some (x1, x2)
    else
      (d92_23 x3 I 70 x1 x2 (x3 + 1)).bind fun r1 =>
      d92_7 I F r1.1 r1.2 (x3 + 1)
set_option maxHeartbeats 4000000 in
set_option maxRecDepth 20000 in
theorem L92_7 {d n : Nat} {k : jK} {I : jI} {L : jL} : ∀ (F : Nat) (x1 : Int32) (x2 : Int32) (x3 : Int32) (e4 : Option jV) (r : Int32 × Int32), d92_7 I F x1 x2 x3 = some r → (∀ (f3 f4 : Option jV), pn (jPM d) k none (jco 92) n (81, [some (.inr (0, 0)), some (.inl (.inl r.1)), some (.inl (.inl r.2)), f3, f4], [], I, L)) → pn (jPM d) k none (jco 92) n (7, [some (.inr (0, 0)), some (.inl (.inl x1)), some (.inl (.inl x2)), some (.inl (.inl x3)), e4], [], I, L) := by
  intro F
  induction F with
  | zero => intro x1 x2 x3 e4 r h hx; cases h
  | succ F ih =>
    intro x1 x2 x3 e4 r h hx
    rw [d92_7] at h
    refine pn_go [7, 23, 81] 400 ?_
    conv => whnf
    refine ⟨fun cz1 => ?_, fun cz1 => ?_⟩
    · replace h := (if_pos cz1).symm.trans h
      conv => whnf
      cases h
      exact hx _ _
    · replace h := (if_neg cz1).symm.trans h
      conv => whnf
      obtain ⟨r1, hz2, h⟩ := obind h
      refine L92_23 _ _ _ _ _ hz2 (fun e4_r1 => ?_)
      refine pn_go [7, 23, 81] 400 ?_
      conv => whnf
      exact ih _ _ _ _ r h hx
/-- X7_larger -/
def d92 (I : jI) : Option (Int32 × jI) :=
  (d92_7 I 70 0 (-9) 0).bind fun r2 =>
  some (r2.1, (jup I 0 0 14 r2.2))
set_option maxHeartbeats 4000000 in
set_option maxRecDepth 20000 in
theorem D92 {d : Nat} {k : jK} {I : jI} {L : jL} {r : Int32 × jI} (h : d92 I = some r) (hk : k (some (.inl (.inl r.1))) (r.2, L)) : jPM d 92 [.inr (0, 0)] (I, L) k := by
  refine pM (fun d n => ?_)
  unfold d92 at h
  refine pn_go [7, 23] 400 ?_
  conv => whnf
  obtain ⟨r2, hz1, h⟩ := obind h
  refine L92_7 _ _ _ _ _ _ hz1 (fun e3_r2 e4_r2 => ?_)
  refine pn_go [7, 23] 400 ?_
  conv => whnf
  cases h
  exact hk
/-- X0_fill, loop at 2 -/
def d49_2 (y1 : Nat) (y2 : Int32) : Nat → Int32 → jI → Option (jI)
  | 0, _, _ => none
  | F + 1, x3, I =>
    if y2 < x3 then
      some I
    else
      if x3 = 0 then
        d49_2 y1 y2 F (x3 + 1) (jup I 25 (Int32.toNatClampNeg (I 4 y1 6)) (Int32.toNatClampNeg x3) 0)
      else
        d49_2 y1 y2 F (x3 + 1) (jup I 25 (Int32.toNatClampNeg (I 4 y1 6)) (Int32.toNatClampNeg x3) 1000000)
set_option maxHeartbeats 4000000 in
set_option maxRecDepth 20000 in
theorem L49_2 {d n : Nat} {k : jK} {y1 : Nat} {y2 : Int32} {L : jL} : ∀ (F : Nat) (x3 : Int32) (I : jI) (e4 : Option jV) (r : jI), d49_2 y1 y2 F x3 I = some r → (∀ (f3 f4 : Option jV), pn (jPM d) k none (jco 49) n (34, [some (.inr (8, 0)), some (.inr (4, y1)), some (.inl (.inl y2)), f3, f4], [], r, L)) → pn (jPM d) k none (jco 49) n (2, [some (.inr (8, 0)), some (.inr (4, y1)), some (.inl (.inl y2)), some (.inl (.inl x3)), e4], [], I, L) := by
  intro F
  induction F with
  | zero => intro x3 I e4 r h hx; cases h
  | succ F ih =>
    intro x3 I e4 r h hx
    rw [d49_2] at h
    refine pn_go [2, 34, 41, 48] 400 ?_
    conv => whnf
    refine ⟨fun cz1 => ?_, fun cz1 => ?_⟩
    · replace h := (if_pos cz1).symm.trans h
      conv => whnf
      cases h
      exact hx _ _
    · replace h := (if_neg cz1).symm.trans h
      conv => whnf
      intro _
      conv => whnf
      refine ⟨fun cz2 => ?_, fun cz2 => ?_⟩
      · replace h := (if_neg cz2).symm.trans h
        conv => whnf
        intro _
        conv => whnf
        exact ih _ _ _ r h hx
      · replace h := (if_pos cz2).symm.trans h
        conv => whnf
        intro _
        conv => whnf
        exact ih _ _ _ r h hx
/-- X0_leftBehind -/
def d52 (a0 : Nat) (a1 : Int32) (a2 : Int32) (a3 : Int32) (I : jI) : Int32 :=
  (if 0 < (a3 - (a2 * (d36 a0 a1 I))) then (a3 - (a2 * (d36 a0 a1 I))) else 0)
set_option maxHeartbeats 4000000 in
set_option maxRecDepth 20000 in
theorem D52 {d : Nat} {k : jK} {a0 : Nat} {a1 : Int32} {a2 : Int32} {a3 : Int32} {I : jI} {L : jL} {r : Int32} (h : d52 a0 a1 a2 a3 I = r) (hk : k (some (.inl (.inl r))) (I, L)) : jPM d 52 [.inr (4, a0), .inl (.inl a1), .inl (.inl a2), .inl (.inl a3)] (I, L) k := by
  refine pM (fun d n => ?_)
  unfold d52 at h
  refine pn_go [] 400 ?_
  conv => whnf
  refine D36 rfl ?_
  conv => whnf
  subst h
  exact hk
/-- X0_penniesWith -/
def d51 (a1 : Nat) (a2 : Int32) (a3 : Int32) (a4 : Int32) (I : jI) : Int32 :=
  ((d35 a1 a2 a3 I) + (I 25 (Int32.toNatClampNeg (a2 + 1)) (Int32.toNatClampNeg (d52 a1 a2 a3 a4 I))))
set_option maxHeartbeats 4000000 in
set_option maxRecDepth 20000 in
theorem D51 {d : Nat} {k : jK} {a1 : Nat} {a2 : Int32} {a3 : Int32} {a4 : Int32} {I : jI} {L : jL} {r : Int32} (h : d51 a1 a2 a3 a4 I = r) (hk : k (some (.inl (.inl r))) (I, L)) : jPM d 51 [.inr (8, 0), .inr (4, a1), .inl (.inl a2), .inl (.inl a3), .inl (.inl a4)] (I, L) k := by
  refine pM (fun d n => ?_)
  unfold d51 at h
  refine pn_go [] 400 ?_
  conv => whnf
  refine D35 rfl ?_
  conv => whnf
  intro _
  conv => whnf
  refine D52 rfl ?_
  conv => whnf
  intro _
  conv => whnf
  subst h
  exact hk
/-- X0_leastFrom, loop at 7 -/
def d50_7 (y1 : Nat) (y2 : Int32) (y3 : Int32) (I : jI) : Nat → Int32 → Int32 → Option (Int32)
  | 0, _, _ => none
  | F + 1, x4, x5 =>
    if 3 < x5 then
      some x4
    else
      d50_7 y1 y2 y3 I F (if (d51 y1 y2 x5 y3 I) < x4 then (d51 y1 y2 x5 y3 I) else x4) (x5 + 1)
set_option maxHeartbeats 4000000 in
set_option maxRecDepth 20000 in
theorem L50_7 {d n : Nat} {k : jK} {y1 : Nat} {y2 : Int32} {y3 : Int32} {I : jI} {L : jL} : ∀ (F : Nat) (x4 : Int32) (x5 : Int32) (r : Int32), d50_7 y1 y2 y3 I F x4 x5 = some r → (∀ (f5 : Option jV), pn (jPM d) k none (jco 50) n (35, [some (.inr (8, 0)), some (.inr (4, y1)), some (.inl (.inl y2)), some (.inl (.inl y3)), some (.inl (.inl r)), f5], [], I, L)) → pn (jPM d) k none (jco 50) n (7, [some (.inr (8, 0)), some (.inr (4, y1)), some (.inl (.inl y2)), some (.inl (.inl y3)), some (.inl (.inl x4)), some (.inl (.inl x5))], [], I, L) := by
  intro F
  induction F with
  | zero => intro x4 x5 r h hx; cases h
  | succ F ih =>
    intro x4 x5 r h hx
    rw [d50_7] at h
    refine pn_go [7, 35] 400 ?_
    conv => whnf
    refine ⟨fun cz1 => ?_, fun cz1 => ?_⟩
    · replace h := (if_pos cz1).symm.trans h
      conv => whnf
      cases h
      exact hx _
    · replace h := (if_neg cz1).symm.trans h
      conv => whnf
      refine D51 rfl ?_
      conv => whnf
      exact ih _ _ r h hx
/-- X0_leastFrom -/
def d50 (a1 : Nat) (a2 : Int32) (a3 : Int32) (I : jI) : Option (Int32) :=
  (d50_7 a1 a2 a3 I 70 1000000 0).bind fun r1 =>
  some r1
set_option maxHeartbeats 4000000 in
set_option maxRecDepth 20000 in
theorem D50 {d : Nat} {k : jK} {a1 : Nat} {a2 : Int32} {a3 : Int32} {I : jI} {L : jL} {r : Int32} (h : d50 a1 a2 a3 I = some r) (hk : k (some (.inl (.inl r))) (I, L)) : jPM d 50 [.inr (8, 0), .inr (4, a1), .inl (.inl a2), .inl (.inl a3)] (I, L) k := by
  refine pM (fun d n => ?_)
  unfold d50 at h
  refine pn_go [7] 400 ?_
  conv => whnf
  obtain ⟨r1, hz1, h⟩ := obind h
  refine L50_7 _ _ _ _ hz1 (fun e5_r1 => ?_)
  refine pn_go [7] 400 ?_
  conv => whnf
  cases h
  exact hk
/-- X0_fill, loop at 48 -/
def d49_48 (y1 : Nat) (y2 : Int32) (y3 : Int32) : Nat → Int32 → jI → Option (jI)
  | 0, _, _ => none
  | F + 1, x4, I =>
    if y2 < x4 then
      some I
    else
      (d50 y1 y3 x4 I).bind fun r2 =>
      d49_48 y1 y2 y3 F (x4 + 1) (jup I 25 (Int32.toNatClampNeg y3) (Int32.toNatClampNeg x4) r2)
set_option maxHeartbeats 4000000 in
set_option maxRecDepth 20000 in
theorem L49_48 {d n : Nat} {k : jK} {y1 : Nat} {y2 : Int32} {y3 : Int32} {L : jL} : ∀ (F : Nat) (x4 : Int32) (I : jI) (r : jI), d49_48 y1 y2 y3 F x4 I = some r → (∀ (f4 : Option jV), pn (jPM d) k none (jco 49) n (77, [some (.inr (8, 0)), some (.inr (4, y1)), some (.inl (.inl y2)), some (.inl (.inl y3)), f4], [], r, L)) → pn (jPM d) k none (jco 49) n (48, [some (.inr (8, 0)), some (.inr (4, y1)), some (.inl (.inl y2)), some (.inl (.inl y3)), some (.inl (.inl x4))], [], I, L) := by
  intro F
  induction F with
  | zero => intro x4 I r h hx; cases h
  | succ F ih =>
    intro x4 I r h hx
    rw [d49_48] at h
    refine pn_go [2, 41, 48, 77] 400 ?_
    conv => whnf
    refine ⟨fun cz1 => ?_, fun cz1 => ?_⟩
    · replace h := (if_pos cz1).symm.trans h
      conv => whnf
      cases h
      exact hx _
    · replace h := (if_neg cz1).symm.trans h
      conv => whnf
      intro _
      conv => whnf
      obtain ⟨r2, hz2, h⟩ := obind h
      refine D50 hz2 ?_
      conv => whnf
      intro _
      conv => whnf
      exact ih _ _ r h hx
/-- X0_fill, loop at 41 -/
def d49_41 (y1 : Nat) (y2 : Int32) : Nat → Int32 → jI → Option (jI)
  | 0, _, _ => none
  | F + 1, x3, I =>
    if x3 < 0 then
      some I
    else
      (d49_48 y1 y2 x3 70 0 I).bind fun r3 =>
      d49_41 y1 y2 F (x3 + (-1)) r3
set_option maxHeartbeats 4000000 in
set_option maxRecDepth 20000 in
theorem L49_41 {d n : Nat} {k : jK} {y1 : Nat} {y2 : Int32} {L : jL} : ∀ (F : Nat) (x3 : Int32) (I : jI) (e4 : Option jV) (r : jI), d49_41 y1 y2 F x3 I = some r → (∀ (f3 f4 : Option jV), pn (jPM d) k none (jco 49) n (83, [some (.inr (8, 0)), some (.inr (4, y1)), some (.inl (.inl y2)), f3, f4], [], r, L)) → pn (jPM d) k none (jco 49) n (41, [some (.inr (8, 0)), some (.inr (4, y1)), some (.inl (.inl y2)), some (.inl (.inl x3)), e4], [], I, L) := by
  intro F
  induction F with
  | zero => intro x3 I e4 r h hx; cases h
  | succ F ih =>
    intro x3 I e4 r h hx
    rw [d49_41] at h
    refine pn_go [2, 41, 48, 83] 400 ?_
    conv => whnf
    refine ⟨fun cz1 => ?_, fun cz1 => ?_⟩
    · replace h := (if_pos cz1).symm.trans h
      conv => whnf
      cases h
      exact hx _ _
    · replace h := (if_neg cz1).symm.trans h
      conv => whnf
      obtain ⟨r3, hz2, h⟩ := obind h
      refine L49_48 _ _ _ _ hz2 (fun e4_r3 => ?_)
      refine pn_go [2, 41, 48, 83] 400 ?_
      conv => whnf
      exact ih _ _ _ r h hx
/-- X0_fill -/
def d49 (a1 : Nat) (a2 : Int32) (I : jI) : Option (Int32 × jI) :=
  (d49_2 a1 a2 70 0 I).bind fun r1 =>
  (d49_41 a1 a2 70 ((r1 4 a1 6) - 1) r1).bind fun r4 =>
  some ((r4 25 (Int32.toNatClampNeg 0) (Int32.toNatClampNeg a2)), r4)
set_option maxHeartbeats 4000000 in
set_option maxRecDepth 20000 in
theorem D49 {d : Nat} {k : jK} {a1 : Nat} {a2 : Int32} {I : jI} {L : jL} {r : Int32 × jI} (h : d49 a1 a2 I = some r) (hk : k (some (.inl (.inl r.1))) (r.2, L)) : jPM d 49 [.inr (8, 0), .inr (4, a1), .inl (.inl a2)] (I, L) k := by
  refine pM (fun d n => ?_)
  unfold d49 at h
  refine pn_go [2, 41, 48] 400 ?_
  conv => whnf
  obtain ⟨r1, hz1, h⟩ := obind h
  refine L49_2 _ _ _ _ _ hz1 (fun e3_r1 e4_r1 => ?_)
  refine pn_go [2, 41, 48] 400 ?_
  conv => whnf
  obtain ⟨r4, hz2, h⟩ := obind h
  refine L49_41 _ _ _ _ _ hz2 (fun e3_r4 e4_r4 => ?_)
  refine pn_go [2, 41, 48] 400 ?_
  conv => whnf
  intro _
  conv => whnf
  intro _
  conv => whnf
  cases h
  exact hk
/-- X0_firstNumber, loop at 3 -/
def d53_3 (y1 : Nat) (y2 : Int32) (y3 : Int32) (I : jI) : Nat → Int32 → Option (Int32)
  | 0, _ => none
  | F + 1, x4 =>
    if 3 ≤ x4 then
      some x4
    else
      if (d51 y1 y2 x4 y3 I) = (I 25 (Int32.toNatClampNeg y2) (Int32.toNatClampNeg y3)) then
        some x4
      else
        d53_3 y1 y2 y3 I F (x4 + 1)
set_option maxHeartbeats 4000000 in
set_option maxRecDepth 20000 in
theorem L53_3 {d n : Nat} {k : jK} {y1 : Nat} {y2 : Int32} {y3 : Int32} {I : jI} {L : jL} : ∀ (F : Nat) (x4 : Int32) (r : Int32), d53_3 y1 y2 y3 I F x4 = some r → (pn (jPM d) k none (jco 53) n (35, [some (.inr (8, 0)), some (.inr (4, y1)), some (.inl (.inl y2)), some (.inl (.inl y3)), some (.inl (.inl r))], [], I, L)) → pn (jPM d) k none (jco 53) n (3, [some (.inr (8, 0)), some (.inr (4, y1)), some (.inl (.inl y2)), some (.inl (.inl y3)), some (.inl (.inl x4))], [], I, L) := by
  intro F
  induction F with
  | zero => intro x4 r h hx; cases h
  | succ F ih =>
    intro x4 r h hx
    rw [d53_3] at h
    refine pn_go [3, 35] 400 ?_
    conv => whnf
    refine ⟨fun cz1 => ?_, fun cz1 => ?_⟩
    · replace h := (if_pos cz1).symm.trans h
      conv => whnf
      cases h
      exact hx
    · replace h := (if_neg cz1).symm.trans h
      conv => whnf
      refine D51 rfl ?_
      conv => whnf
      intro _
      conv => whnf
      intro _
      conv => whnf
      refine ⟨fun cz2 => ?_, fun cz2 => ?_⟩
      · replace h := (if_pos cz2).symm.trans h
        conv => whnf
        cases h
        exact hx
      · replace h := (if_neg cz2).symm.trans h
        conv => whnf
        exact ih _ r h hx
/-- X0_firstNumber -/
def d53 (a1 : Nat) (a2 : Int32) (a3 : Int32) (I : jI) : Option (Int32) :=
  (d53_3 a1 a2 a3 I 70 0).bind fun r1 =>
  some r1
set_option maxHeartbeats 4000000 in
set_option maxRecDepth 20000 in
theorem D53 {d : Nat} {k : jK} {a1 : Nat} {a2 : Int32} {a3 : Int32} {I : jI} {L : jL} {r : Int32} (h : d53 a1 a2 a3 I = some r) (hk : k (some (.inl (.inl r))) (I, L)) : jPM d 53 [.inr (8, 0), .inr (4, a1), .inl (.inl a2), .inl (.inl a3)] (I, L) k := by
  refine pM (fun d n => ?_)
  unfold d53 at h
  refine pn_go [3] 400 ?_
  conv => whnf
  obtain ⟨r1, hz1, h⟩ := obind h
  refine L53_3 _ _ _ hz1 ?_
  refine pn_go [3] 400 ?_
  conv => whnf
  cases h
  exact hk
/-- X7_least, loop at 80 -/
def d93_80 (y2 : Int32) (y3 : Int32) : Nat → Int32 → Int32 → jI → Option (jI)
  | 0, _, _, _ => none
  | F + 1, x4, x5, I =>
    if (I 4 1 6) ≤ x5 then
      some I
    else
      (d53 1 x5 x4 I).bind fun r3 =>
      d93_80 y2 y3 F (d52 1 x5 r3 x4 (d19g1 y2 x5 r3 I)) (x5 + 1) (d19g1 y2 x5 r3 I)
set_option maxHeartbeats 4000000 in
set_option maxRecDepth 20000 in
theorem L93_80 {d n : Nat} {k : jK} {y2 : Int32} {y3 : Int32} {L : jL} : ∀ (F : Nat) (x4 : Int32) (x5 : Int32) (I : jI) (e1 e6 : Option jV) (r : jI), d93_80 y2 y3 F x4 x5 I = some r → (∀ (f1 f4 f5 f6 : Option jV), pn (jPM d) k none (jco 93) n (142, [some (.inr (0, 0)), f1, some (.inl (.inl y2)), some (.inl (.inl y3)), f4, f5, f6], [], r, L)) → pn (jPM d) k none (jco 93) n (80, [some (.inr (0, 0)), e1, some (.inl (.inl y2)), some (.inl (.inl y3)), some (.inl (.inl x4)), some (.inl (.inl x5)), e6], [], I, L) := by
  intro F
  induction F with
  | zero => intro x4 x5 I e1 e6 r h hx; cases h
  | succ F ih =>
    intro x4 x5 I e1 e6 r h hx
    rw [d93_80] at h
    refine pn_go [80, 142] 400 ?_
    conv => whnf
    refine ⟨fun cz1 => ?_, fun cz1 => ?_⟩
    · replace h := (if_pos cz1).symm.trans h
      conv => whnf
      cases h
      exact hx _ _ _ _
    · replace h := (if_neg cz1).symm.trans h
      conv => whnf
      obtain ⟨r3, hz2, h⟩ := obind h
      refine D53 hz2 ?_
      conv => whnf
      refine D19g1 rfl ?_
      conv => whnf
      refine D52 rfl ?_
      conv => whnf
      exact ih _ _ _ _ _ r h hx
/-- X7_least -/
def d93 (a1 : Int32) (a2 : Int32) (I : jI) : Option (Int32 × jI) :=
  if a1 < 0 then
    some ((-1), I)
  else
    if 30 < a1 then
      some ((-1), I)
    else
      if (d15g1 a2 I) = 0 then
        some ((-1), I)
      else
        if (I 4 1 6) = 0 then
          some ((-4), I)
        else
          (d49 1 a1 I).bind fun r1 =>
          if r1.1 < 1000000 then
            (d20g1 a2 (r1.2 4 1 6) 0 r1.2).bind fun r2 =>
            (d93_80 a2 r1.1 70 a1 0 r2).bind fun r4 =>
            some (r1.1, r4)
          else
            some ((-9), r1.2)
set_option maxHeartbeats 4000000 in
set_option maxRecDepth 20000 in
theorem D93 {d : Nat} {k : jK} {a1 : Int32} {a2 : Int32} {I : jI} {L : jL} {r : Int32 × jI} (h : d93 a1 a2 I = some r) (hk : k (some (.inl (.inl r.1))) (r.2, L)) : jPM d 93 [.inr (0, 0), .inl (.inl a1), .inl (.inl a2)] (I, L) k := by
  refine pM (fun d n => ?_)
  unfold d93 at h
  refine pn_go [80] 400 ?_
  conv => whnf
  refine ⟨fun cz1 => ?_, fun cz1 => ?_⟩
  · replace h := (if_pos cz1).symm.trans h
    conv => whnf
    cases h
    exact hk
  · replace h := (if_neg cz1).symm.trans h
    conv => whnf
    refine ⟨fun cz2 => ?_, fun cz2 => ?_⟩
    · replace h := (if_pos cz2).symm.trans h
      conv => whnf
      cases h
      exact hk
    · replace h := (if_neg cz2).symm.trans h
      conv => whnf
      refine D15g1 rfl ?_
      conv => whnf
      refine ⟨fun cz3 => ?_, fun cz3 => ?_⟩
      · replace h := (if_neg cz3).symm.trans h
        conv => whnf
        refine ⟨fun cz4 => ?_, fun cz4 => ?_⟩
        · replace h := (if_neg cz4).symm.trans h
          conv => whnf
          obtain ⟨r1, hz5, h⟩ := obind h
          refine D49 hz5 ?_
          conv => whnf
          refine ⟨fun cz6 => ?_, fun cz6 => ?_⟩
          · replace h := (if_pos cz6).symm.trans h
            conv => whnf
            obtain ⟨r2, hz7, h⟩ := obind h
            refine D20g1 hz7 ?_
            conv => whnf
            obtain ⟨r4, hz8, h⟩ := obind h
            refine L93_80 _ _ _ _ _ _ _ hz8 (fun e1_r4 e4_r4 e5_r4 e6_r4 => ?_)
            refine pn_go [80] 400 ?_
            conv => whnf
            cases h
            exact hk
          · replace h := (if_neg cz6).symm.trans h
            conv => whnf
            cases h
            exact hk
        · replace h := (if_pos cz4).symm.trans h
          conv => whnf
          cases h
          exact hk
      · replace h := (if_pos cz3).symm.trans h
        conv => whnf
        cases h
        exact hk
