set_option maxHeartbeats 4000000 in
set_option maxRecDepth 20000 in
theorem FxL193_50 {d : Nat} {k : jK} {I0 : jI}  : ∀ (n : Nat), (∀ (v1 : Option jV) (v2 : Int32) (v3 : Option jV) (I : jI) (L : jL), fr [] I0 I → pn (jPM d) k none (jco 193) n (109, [some (.inr (31, 0)), v1, some (.inl (.inl v2)), v3], [], I, L)) → ∀ (v1 : Int32) (v2 : Int32) (v3 : Int32) (I : jI) (L : jL), fr [] I0 I → pn (jPM d) k none (jco 193) n (50, [some (.inr (31, 0)), some (.inl (.inl v1)), some (.inl (.inl v2)), some (.inl (.inl v3))], [], I, L) := by
  intro n
  induction n with
  | zero => intro _ v v v I L f0; trivial
  | succ n ih =>
    intro hx v1 v2 v3 I L f0
    refine pn_lp [50, 109] 400 ?_
    conv => whnf
    intro _
    conv => whnf
    refine ⟨fun _ => ?_, fun _ => ?_⟩
    · conv => whnf
      exact pn_dec n (hx _ _ _ _ _ f0)
    · conv => whnf
      refine ⟨fun _ => ?_, fun _ => ?_⟩
      · conv => whnf
        exact ih (fun q0 q1 q2 I L f => pn_dec n (hx q0 q1 q2 I L f)) _ _ _ _ _ f0
      · conv => whnf
        intro _
        conv => whnf
        refine Fx124 (fun x1 I1 L1 f1 => ?_)
        conv => whnf
        refine ⟨fun _ => ?_, fun _ => ?_⟩
        · conv => whnf
          exact ih (fun q0 q1 q2 I L f => pn_dec n (hx q0 q1 q2 I L f)) _ _ _ _ _ (fr_then (by decide) f0 f1)
        · conv => whnf
          intro _
          conv => whnf
          refine ⟨fun _ => ?_, fun _ => ?_⟩
          · conv => whnf
            exact ih (fun q0 q1 q2 I L f => pn_dec n (hx q0 q1 q2 I L f)) _ _ _ _ _ (fr_then (by decide) f0 f1)
          · conv => whnf
            exact ih (fun q0 q1 q2 I L f => pn_dec n (hx q0 q1 q2 I L f)) _ _ _ _ _ (fr_then (by decide) f0 f1)
set_option maxHeartbeats 4000000 in
set_option maxRecDepth 20000 in
theorem Fx193 {d : Nat} {k : jK} {a1 : Int32} {I : jI} {L : jL} (hk : ∀ (x : Int32) (I' : jI) (L' : jL), fr [39, 32013] I I' → k (some (.inl (.inl x))) (I', L')) : jPM d 193 [.inr (31, 0), .inl (.inl a1)] (I, L) k := by
  refine pM (fun d n => ?_)
  refine pn_go [50] 400 ?_
  conv => whnf
  intro _
  conv => whnf
  refine ⟨fun _ => ?_, fun _ => ?_⟩
  · conv => whnf
    intro _
    conv => whnf
    intro _
    conv => whnf
    refine ⟨fun _ => ?_, fun _ => ?_⟩
    · conv => whnf
      refine Fx126 (fun x1 I1 L1 f1 => ?_)
      conv => whnf
      exact hk _ _ _ (fr_then (by decide) fr_rf f1)
    · conv => whnf
      intro _
      conv => whnf
      refine ⟨fun _ => ?_, fun _ => ?_⟩
      · conv => whnf
        refine FxL193_50  _ (fun _ _ _ I2 L2 f2 => ?_) _ _ _ _ _ fr_rf
        refine pn_go [50] 400 ?_
        conv => whnf
        refine ⟨fun _ => ?_, fun _ => ?_⟩
        · conv => whnf
          refine Fx126 (fun x3 I3 L3 f3 => ?_)
          conv => whnf
          exact hk _ _ _ (fr_then (by decide) (fr_then (by decide) fr_rf f2) f3)
        · conv => whnf
          exact hk _ _ _ (fr_then (by decide) fr_rf f2)
      · conv => whnf
        refine Fx126 (fun x4 I4 L4 f4 => ?_)
        conv => whnf
        exact hk _ _ _ (fr_then (by decide) fr_rf f4)
  · conv => whnf
    refine Fx126 (fun x5 I5 L5 f5 => ?_)
    conv => whnf
    exact hk _ _ _ (fr_then (by decide) fr_rf f5)
set_option maxHeartbeats 4000000 in
set_option maxRecDepth 20000 in
theorem FxL194_9 {d : Nat} {k : jK} {I0 : jI}  : ∀ (n : Nat), (∀ (v0 : Option jV) (v1 : Option jV) (v2 : Option jV) (v3 : Option jV) (v4 : Int32) (v5 : Option jV) (I : jI) (L : jL), fr [] I0 I → pn (jPM d) k none (jco 194) n (74, [v0, v1, v2, v3, some (.inl (.inl v4)), v5], [], I, L)) → ∀ (v1 : Int32) (v2 : Int32) (v3 : Int32) (v4 : Int32) (v5 : Int32) (I : jI) (L : jL), fr [] I0 I → pn (jPM d) k none (jco 194) n (9, [some (.inr (31, 0)), some (.inl (.inl v1)), some (.inl (.inl v2)), some (.inl (.inl v3)), some (.inl (.inl v4)), some (.inl (.inl v5))], [], I, L) := by
  intro n
  induction n with
  | zero => intro _ v v v v v I L f0; trivial
  | succ n ih =>
    intro hx v1 v2 v3 v4 v5 I L f0
    refine pn_lp [9, 74] 400 ?_
    conv => whnf
    intro _
    conv => whnf
    refine ⟨fun _ => ?_, fun _ => ?_⟩
    · conv => whnf
      exact pn_dec n (hx _ _ _ _ _ _ _ _ f0)
    · conv => whnf
      refine ⟨fun _ => ?_, fun _ => ?_⟩
      · conv => whnf
        exact ih (fun q0 q1 q2 q3 q4 q5 I L f => pn_dec n (hx q0 q1 q2 q3 q4 q5 I L f)) _ _ _ _ _ _ _ f0
      · conv => whnf
        intro _
        conv => whnf
        intro _
        conv => whnf
        refine Fx152 (fun x1 I1 L1 f1 => ?_)
        conv => whnf
        intro _
        conv => whnf
        refine ⟨fun _ => ?_, fun _ => ?_⟩
        · conv => whnf
          exact ih (fun q0 q1 q2 q3 q4 q5 I L f => pn_dec n (hx q0 q1 q2 q3 q4 q5 I L f)) _ _ _ _ _ _ _ (fr_then (by decide) f0 f1)
        · conv => whnf
          exact ih (fun q0 q1 q2 q3 q4 q5 I L f => pn_dec n (hx q0 q1 q2 q3 q4 q5 I L f)) _ _ _ _ _ _ _ (fr_then (by decide) f0 f1)
set_option maxHeartbeats 4000000 in
set_option maxRecDepth 20000 in
theorem Fx194 {d : Nat} {k : jK} {a1 : Int32} {a2 : Int32} {a3 : Int32} {I : jI} {L : jL} (hk : ∀ (x : Int32) (I' : jI) (L' : jL), fr [] I I' → k (some (.inl (.inl x))) (I', L')) : jPM d 194 [.inr (31, 0), .inl (.inl a1), .inl (.inl a2), .inl (.inl a3)] (I, L) k := by
  refine pM (fun d n => ?_)
  refine pn_go [9] 400 ?_
  conv => whnf
  refine FxL194_9  _ (fun _ _ _ _ _ _ I1 L1 f1 => ?_) _ _ _ _ _ _ _ fr_rf
  refine pn_go [9] 400 ?_
  conv => whnf
  exact fun _ => hk _ _ _ (fr_then (by decide) fr_rf f1)
set_option maxHeartbeats 4000000 in
set_option maxRecDepth 20000 in
theorem FxL195_35 {d : Nat} {k : jK} {I0 : jI}  : ∀ (n : Nat), (∀ (v0 : Option jV) (v1 : Option jV) (v2 : Option jV) (v3 : Option jV) (v4 : Int32) (v5 : Option jV) (I : jI) (L : jL), fr [] I0 I → pn (jPM d) k none (jco 195) n (80, [v0, v1, v2, v3, some (.inl (.inl v4)), v5], [], I, L)) → ∀ (v1 : Int32) (v2 : Int32) (v3 : Option jV) (v4 : Int32) (v5 : Int32) (I : jI) (L : jL), fr [] I0 I → pn (jPM d) k none (jco 195) n (35, [some (.inr (31, 0)), some (.inl (.inl v1)), some (.inl (.inl v2)), v3, some (.inl (.inl v4)), some (.inl (.inl v5))], [], I, L) := by
  intro n
  induction n with
  | zero => intro _ v v v v v I L f0; trivial
  | succ n ih =>
    intro hx v1 v2 v3 v4 v5 I L f0
    refine pn_lp [35, 80] 400 ?_
    conv => whnf
    refine ⟨fun _ => ?_, fun _ => ?_⟩
    · conv => whnf
      exact pn_dec n (hx _ _ _ _ _ _ _ _ f0)
    · conv => whnf
      intro _
      conv => whnf
      refine Fx194 (fun x1 I1 L1 f1 => ?_)
      conv => whnf
      refine ⟨fun _ => ?_, fun _ => ?_⟩
      · conv => whnf
        exact ih (fun q0 q1 q2 q3 q4 q5 I L f => pn_dec n (hx q0 q1 q2 q3 q4 q5 I L f)) _ _ _ _ _ _ _ (fr_then (by decide) f0 f1)
      · conv => whnf
        exact ih (fun q0 q1 q2 q3 q4 q5 I L f => pn_dec n (hx q0 q1 q2 q3 q4 q5 I L f)) _ _ _ _ _ _ _ (fr_then (by decide) f0 f1)
set_option maxHeartbeats 4000000 in
set_option maxRecDepth 20000 in
theorem Fx195 {d : Nat} {k : jK} {a1 : Int32} {a2 : Int32} {I : jI} {L : jL} (hk : ∀ (x : Int32) (I' : jI) (L' : jL), fr [39, 32013] I I' → k (some (.inl (.inl x))) (I', L')) : jPM d 195 [.inr (31, 0), .inl (.inl a1), .inl (.inl a2)] (I, L) k := by
  refine pM (fun d n => ?_)
  refine pn_go [35] 400 ?_
  conv => whnf
  refine Fx151 (fun x1 I1 L1 f1 => ?_)
  conv => whnf
  refine ⟨fun _ => ?_, fun _ => ?_⟩
  · conv => whnf
    exact hk _ _ _ (fr_then (by decide) fr_rf f1)
  · conv => whnf
    refine Fx128 (fun x2 I2 L2 f2 => ?_)
    conv => whnf
    refine ⟨fun _ => ?_, fun _ => ?_⟩
    · conv => whnf
      refine Fx193 (fun x3 I3 L3 f3 => ?_)
      conv => whnf
      refine ⟨fun _ => ?_, fun _ => ?_⟩
      · conv => whnf
        refine FxL195_35  _ (fun _ _ _ _ _ _ I4 L4 f4 => ?_) _ _ _ _ _ _ _ fr_rf
        refine pn_go [35] 400 ?_
        conv => whnf
        exact hk _ _ _ (fr_then (by decide) (fr_then (by decide) (fr_then (by decide) (fr_then (by decide) fr_rf f1) f2) f3) f4)
      · conv => whnf
        exact hk _ _ _ (fr_then (by decide) (fr_then (by decide) (fr_then (by decide) fr_rf f1) f2) f3)
    · conv => whnf
      exact hk _ _ _ (fr_then (by decide) (fr_then (by decide) fr_rf f1) f2)
set_option maxHeartbeats 4000000 in
set_option maxRecDepth 20000 in
theorem FxL196_42 {d : Nat} {k : jK} {I0 : jI}  : ∀ (n : Nat), (∀ (v0 : Option jV) (v1 : Option jV) (v2 : Option jV) (v3 : Option jV) (v4 : Int32) (v5 : Option jV) (v6 : Option jV) (I : jI) (L : jL), fr [32010] I0 I → pn (jPM d) k none (jco 196) n (101, [v0, v1, v2, v3, some (.inl (.inl v4)), v5, v6], [], I, L)) → ∀ (v1 : Int32) (v2 : Int32) (v3 : Option jV) (v4 : Int32) (v5 : Int32) (v6 : Option jV) (I : jI) (L : jL), fr [32010] I0 I → pn (jPM d) k none (jco 196) n (42, [some (.inr (31, 0)), some (.inl (.inl v1)), some (.inl (.inl v2)), v3, some (.inl (.inl v4)), some (.inl (.inl v5)), v6], [], I, L) := by
  intro n
  induction n with
  | zero => intro _ v v v v v v I L f0; trivial
  | succ n ih =>
    intro hx v1 v2 v3 v4 v5 v6 I L f0
    refine pn_lp [42, 101] 400 ?_
    conv => whnf
    refine ⟨fun _ => ?_, fun _ => ?_⟩
    · conv => whnf
      exact pn_dec n (hx _ _ _ _ _ _ _ _ _ f0)
    · conv => whnf
      intro _
      conv => whnf
      refine Fx194 (fun x1 I1 L1 f1 => ?_)
      conv => whnf
      refine ⟨fun _ => ?_, fun _ => ?_⟩
      · conv => whnf
        refine ⟨fun _ => ?_, fun _ => ?_⟩
        · conv => whnf
          exact ih (fun q0 q1 q2 q3 q4 q5 q6 I L f => pn_dec n (hx q0 q1 q2 q3 q4 q5 q6 I L f)) _ _ _ _ _ _ _ _ (fr_up rfl (fr_then (by decide) f0 f1))
        · conv => whnf
          exact ih (fun q0 q1 q2 q3 q4 q5 q6 I L f => pn_dec n (hx q0 q1 q2 q3 q4 q5 q6 I L f)) _ _ _ _ _ _ _ _ (fr_up rfl (fr_then (by decide) f0 f1))
      · conv => whnf
        refine ⟨fun _ => ?_, fun _ => ?_⟩
        · conv => whnf
          exact ih (fun q0 q1 q2 q3 q4 q5 q6 I L f => pn_dec n (hx q0 q1 q2 q3 q4 q5 q6 I L f)) _ _ _ _ _ _ _ _ (fr_up rfl (fr_then (by decide) f0 f1))
        · conv => whnf
          exact ih (fun q0 q1 q2 q3 q4 q5 q6 I L f => pn_dec n (hx q0 q1 q2 q3 q4 q5 q6 I L f)) _ _ _ _ _ _ _ _ (fr_up rfl (fr_then (by decide) f0 f1))
set_option maxHeartbeats 4000000 in
set_option maxRecDepth 20000 in
theorem Fx196 {d : Nat} {k : jK} {a1 : Int32} {a2 : Int32} {I : jI} {L : jL} (hk : ∀ (x : Int32) (I' : jI) (L' : jL), fr [39, 32010, 32013] I I' → k (some (.inl (.inl x))) (I', L')) : jPM d 196 [.inr (31, 0), .inl (.inl a1), .inl (.inl a2)] (I, L) k := by
  refine pM (fun d n => ?_)
  refine pn_go [42] 400 ?_
  conv => whnf
  refine Fx151 (fun x1 I1 L1 f1 => ?_)
  conv => whnf
  refine ⟨fun _ => ?_, fun _ => ?_⟩
  · conv => whnf
    exact hk _ _ _ (fr_then (by decide) fr_rf f1)
  · conv => whnf
    refine Fx128 (fun x2 I2 L2 f2 => ?_)
    conv => whnf
    refine ⟨fun _ => ?_, fun _ => ?_⟩
    · conv => whnf
      refine Fx193 (fun x3 I3 L3 f3 => ?_)
      conv => whnf
      refine ⟨fun _ => ?_, fun _ => ?_⟩
      · conv => whnf
        refine FxL196_42  _ (fun _ _ _ _ _ _ _ I4 L4 f4 => ?_) _ _ _ _ _ _ _ _ fr_rf
        refine pn_go [42] 400 ?_
        conv => whnf
        exact hk _ _ _ (fr_then (by decide) (fr_up rfl (fr_then (by decide) (fr_then (by decide) (fr_then (by decide) fr_rf f1) f2) f3)) f4)
      · conv => whnf
        exact hk _ _ _ (fr_then (by decide) (fr_then (by decide) (fr_then (by decide) fr_rf f1) f2) f3)
    · conv => whnf
      exact hk _ _ _ (fr_then (by decide) (fr_then (by decide) fr_rf f1) f2)
set_option maxHeartbeats 4000000 in
set_option maxRecDepth 20000 in
theorem FxL197_40 {d : Nat} {k : jK} {I0 : jI}  : ∀ (n : Nat), (∀ (v0 : Option jV) (v1 : Option jV) (v2 : Option jV) (v3 : Option jV) (v4 : Int32) (v5 : Option jV) (I : jI) (L : jL), fr [] I0 I → pn (jPM d) k none (jco 197) n (83, [v0, v1, v2, v3, some (.inl (.inl v4)), v5], [], I, L)) → ∀ (v1 : Int32) (v2 : Int32) (v3 : Int32) (v4 : Int32) (v5 : Int32) (I : jI) (L : jL), fr [] I0 I → pn (jPM d) k none (jco 197) n (40, [some (.inr (31, 0)), some (.inl (.inl v1)), some (.inl (.inl v2)), some (.inl (.inl v3)), some (.inl (.inl v4)), some (.inl (.inl v5))], [], I, L) := by
  intro n
  induction n with
  | zero => intro _ v v v v v I L f0; trivial
  | succ n ih =>
    intro hx v1 v2 v3 v4 v5 I L f0
    refine pn_lp [40, 83] 400 ?_
    conv => whnf
    refine ⟨fun _ => ?_, fun _ => ?_⟩
    · conv => whnf
      exact pn_dec n (hx _ _ _ _ _ _ _ _ f0)
    · conv => whnf
      intro _
      conv => whnf
      refine Fx154 (fun x1 I1 L1 f1 => ?_)
      conv => whnf
      refine ⟨fun _ => ?_, fun _ => ?_⟩
      · conv => whnf
        exact ih (fun q0 q1 q2 q3 q4 q5 I L f => pn_dec n (hx q0 q1 q2 q3 q4 q5 I L f)) _ _ _ _ _ _ _ (fr_then (by decide) f0 f1)
      · conv => whnf
        exact ih (fun q0 q1 q2 q3 q4 q5 I L f => pn_dec n (hx q0 q1 q2 q3 q4 q5 I L f)) _ _ _ _ _ _ _ (fr_then (by decide) f0 f1)
set_option maxHeartbeats 4000000 in
set_option maxRecDepth 20000 in
theorem Fx197 {d : Nat} {k : jK} {a1 : Int32} {a2 : Int32} {a3 : Int32} {I : jI} {L : jL} (hk : ∀ (x : Int32) (I' : jI) (L' : jL), fr [] I I' → k (some (.inl (.inl x))) (I', L')) : jPM d 197 [.inr (31, 0), .inl (.inl a1), .inl (.inl a2), .inl (.inl a3)] (I, L) k := by
  refine pM (fun d n => ?_)
  refine pn_go [40] 400 ?_
  conv => whnf
  refine Fx151 (fun x1 I1 L1 f1 => ?_)
  conv => whnf
  refine ⟨fun _ => ?_, fun _ => ?_⟩
  · conv => whnf
    exact hk _ _ _ (fr_then (by decide) fr_rf f1)
  · conv => whnf
    refine Fx124 (fun x2 I2 L2 f2 => ?_)
    conv => whnf
    refine ⟨fun _ => ?_, fun _ => ?_⟩
    · conv => whnf
      exact hk _ _ _ (fr_then (by decide) (fr_then (by decide) fr_rf f1) f2)
    · conv => whnf
      refine Fx124 (fun x3 I3 L3 f3 => ?_)
      conv => whnf
      refine ⟨fun _ => ?_, fun _ => ?_⟩
      · conv => whnf
        refine FxL197_40  _ (fun _ _ _ _ _ _ I4 L4 f4 => ?_) _ _ _ _ _ _ _ fr_rf
        refine pn_go [40] 400 ?_
        conv => whnf
        exact hk _ _ _ (fr_then (by decide) (fr_then (by decide) (fr_then (by decide) (fr_then (by decide) fr_rf f1) f2) f3) f4)
      · conv => whnf
        exact hk _ _ _ (fr_then (by decide) (fr_then (by decide) (fr_then (by decide) fr_rf f1) f2) f3)
set_option maxHeartbeats 4000000 in
set_option maxRecDepth 20000 in
theorem Fx198 {d : Nat} {k : jK} {a1 : Int32} {a2 : Int32} {I : jI} {L : jL} (hk : ∀ (x : Int32) (I' : jI) (L' : jL), fr [] I I' → k (some (.inl (.inl x))) (I', L')) : jPM d 198 [.inr (31, 0), .inl (.inl a1), .inl (.inl a2)] (I, L) k := by
  refine pM (fun d n => ?_)
  refine pn_go [] 400 ?_
  conv => whnf
  intro _
  conv => whnf
  intro _
  conv => whnf
  intro _
  conv => whnf
  refine Fx152 (fun x1 I1 L1 f1 => ?_)
  conv => whnf
  refine Fx155 (fun x2 I2 L2 f2 => ?_)
  conv => whnf
  exact hk _ _ _ (fr_then (by decide) (fr_then (by decide) fr_rf f1) f2)
set_option maxHeartbeats 4000000 in
set_option maxRecDepth 20000 in
theorem FxL199_2 {d : Nat} {k : jK} {I0 : jI}  : ∀ (n : Nat), (∀ (v0 : Option jV) (v1 : Option jV) (v2 : Option jV) (v3 : Option jV) (v4 : Option jV) (I : jI) (L : jL), fr [41] I0 I → pn (jPM d) k none (jco 199) n (69, [v0, v1, v2, v3, v4], [], I, L)) → ∀ (v1 : Int32) (v2 : Int32) (v3 : Int32) (v4 : Option jV) (I : jI) (L : jL), fr [41] I0 I → pn (jPM d) k none (jco 199) n (2, [some (.inr (31, 0)), some (.inl (.inl v1)), some (.inl (.inl v2)), some (.inl (.inl v3)), v4], [], I, L) := by
  intro n
  induction n with
  | zero => intro _ v v v v I L f0; trivial
  | succ n ih =>
    intro hx v1 v2 v3 v4 I L f0
    refine pn_lp [2, 69] 400 ?_
    conv => whnf
    refine ⟨fun _ => ?_, fun _ => ?_⟩
    · conv => whnf
      exact pn_dec n (hx _ _ _ _ _ _ _ f0)
    · conv => whnf
      intro _
      conv => whnf
      refine ⟨fun _ => ?_, fun _ => ?_⟩
      · conv => whnf
        refine ⟨fun _ => ?_, fun _ => ?_⟩
        · conv => whnf
          intro _
          conv => whnf
          exact ih (fun q0 q1 q2 q3 q4 I L f => pn_dec n (hx q0 q1 q2 q3 q4 I L f)) _ _ _ _ _ _ (fr_up rfl f0)
        · conv => whnf
          intro _
          conv => whnf
          exact ih (fun q0 q1 q2 q3 q4 I L f => pn_dec n (hx q0 q1 q2 q3 q4 I L f)) _ _ _ _ _ _ (fr_up rfl f0)
      · conv => whnf
        refine ⟨fun _ => ?_, fun _ => ?_⟩
        · conv => whnf
          intro _
          conv => whnf
          exact ih (fun q0 q1 q2 q3 q4 I L f => pn_dec n (hx q0 q1 q2 q3 q4 I L f)) _ _ _ _ _ _ (fr_up rfl f0)
        · conv => whnf
          intro _
          conv => whnf
          exact ih (fun q0 q1 q2 q3 q4 I L f => pn_dec n (hx q0 q1 q2 q3 q4 I L f)) _ _ _ _ _ _ (fr_up rfl f0)
set_option maxHeartbeats 4000000 in
set_option maxRecDepth 20000 in
theorem Fx199 {d : Nat} {k : jK} {a1 : Int32} {a2 : Int32} {I : jI} {L : jL} (hk : ∀ (I' : jI) (L' : jL), fr [41] I I' → k none (I', L')) : jPM d 199 [.inr (31, 0), .inl (.inl a1), .inl (.inl a2)] (I, L) k := by
  refine pM (fun d n => ?_)
  refine pn_go [2] 400 ?_
  conv => whnf
  refine FxL199_2  _ (fun _ _ _ _ _ I1 L1 f1 => ?_) _ _ _ _ _ _ fr_rf
  refine pn_go [2] 400 ?_
  conv => whnf
  exact hk _ _ (fr_then (by decide) fr_rf f1)
set_option maxHeartbeats 4000000 in
set_option maxRecDepth 20000 in
theorem FxL200_9 {d : Nat} {k : jK} {I0 : jI}  : ∀ (n : Nat), (∀ (v0 : Option jV) (v1 : Option jV) (v2 : Int32) (v3 : Option jV) (I : jI) (L : jL), fr [] I0 I → pn (jPM d) k none (jco 200) n (44, [v0, v1, some (.inl (.inl v2)), v3], [], I, L)) → ∀ (v1 : Int32) (v2 : Int32) (v3 : Int32) (I : jI) (L : jL), fr [] I0 I → pn (jPM d) k none (jco 200) n (9, [some (.inr (31, 0)), some (.inl (.inl v1)), some (.inl (.inl v2)), some (.inl (.inl v3))], [], I, L) := by
  intro n
  induction n with
  | zero => intro _ v v v I L f0; trivial
  | succ n ih =>
    intro hx v1 v2 v3 I L f0
    refine pn_lp [9, 44] 400 ?_
    conv => whnf
    refine ⟨fun _ => ?_, fun _ => ?_⟩
    · conv => whnf
      exact pn_dec n (hx _ _ _ _ _ _ f0)
    · conv => whnf
      refine Fx198 (fun x1 I1 L1 f1 => ?_)
      conv => whnf
      refine ⟨fun _ => ?_, fun _ => ?_⟩
      · conv => whnf
        exact ih (fun q0 q1 q2 q3 I L f => pn_dec n (hx q0 q1 q2 q3 I L f)) _ _ _ _ _ (fr_then (by decide) f0 f1)
      · conv => whnf
        refine Fx198 (fun x2 I2 L2 f2 => ?_)
        conv => whnf
        exact ih (fun q0 q1 q2 q3 I L f => pn_dec n (hx q0 q1 q2 q3 I L f)) _ _ _ _ _ (fr_then (by decide) (fr_then (by decide) f0 f1) f2)
set_option maxHeartbeats 4000000 in
set_option maxRecDepth 20000 in
theorem Fx200 {d : Nat} {k : jK} {a1 : Int32} {I : jI} {L : jL} (hk : ∀ (x : Int32) (I' : jI) (L' : jL), fr [] I I' → k (some (.inl (.inl x))) (I', L')) : jPM d 200 [.inr (31, 0), .inl (.inl a1)] (I, L) k := by
  refine pM (fun d n => ?_)
  refine pn_go [9] 400 ?_
  conv => whnf
  refine Fx198 (fun x1 I1 L1 f1 => ?_)
  conv => whnf
  refine FxL200_9  _ (fun _ _ _ _ I2 L2 f2 => ?_) _ _ _ _ _ fr_rf
  refine pn_go [9] 400 ?_
  conv => whnf
  exact hk _ _ _ (fr_then (by decide) (fr_then (by decide) fr_rf f1) f2)
set_option maxHeartbeats 4000000 in
set_option maxRecDepth 20000 in
theorem FxL201_5 {d : Nat} {k : jK} {I0 : jI}  : ∀ (n : Nat), (∀ (v0 : Option jV) (v1 : Option jV) (v2 : Int32) (v3 : Option jV) (v4 : Option jV) (I : jI) (L : jL), fr [41] I0 I → pn (jPM d) k none (jco 201) n (47, [v0, v1, some (.inl (.inl v2)), v3, v4], [], I, L)) → ∀ (v1 : Int32) (v2 : Int32) (v3 : Int32) (v4 : Option jV) (I : jI) (L : jL), fr [41] I0 I → pn (jPM d) k none (jco 201) n (5, [some (.inr (31, 0)), some (.inl (.inl v1)), some (.inl (.inl v2)), some (.inl (.inl v3)), v4], [], I, L) := by
  intro n
  induction n with
  | zero => intro _ v v v v I L f0; trivial
  | succ n ih =>
    intro hx v1 v2 v3 v4 I L f0
    refine pn_lp [5, 47] 400 ?_
    conv => whnf
    refine ⟨fun _ => ?_, fun _ => ?_⟩
    · conv => whnf
      exact pn_dec n (hx _ _ _ _ _ _ _ f0)
    · conv => whnf
      refine Fx199 (fun I1 L1 f1 => ?_)
      conv => whnf
      refine Fx200 (fun x2 I2 L2 f2 => ?_)
      conv => whnf
      refine ⟨fun _ => ?_, fun _ => ?_⟩
      · conv => whnf
        exact ih (fun q0 q1 q2 q3 q4 I L f => pn_dec n (hx q0 q1 q2 q3 q4 I L f)) _ _ _ _ _ _ (fr_then (by decide) (fr_then (by decide) f0 f1) f2)
      · conv => whnf
        exact ih (fun q0 q1 q2 q3 q4 I L f => pn_dec n (hx q0 q1 q2 q3 q4 I L f)) _ _ _ _ _ _ (fr_then (by decide) (fr_then (by decide) f0 f1) f2)
set_option maxHeartbeats 4000000 in
set_option maxRecDepth 20000 in
theorem Fx201 {d : Nat} {k : jK} {a1 : Int32} {I : jI} {L : jL} (hk : ∀ (x : Int32) (I' : jI) (L' : jL), fr [41] I I' → k (some (.inl (.inl x))) (I', L')) : jPM d 201 [.inr (31, 0), .inl (.inl a1)] (I, L) k := by
  refine pM (fun d n => ?_)
  refine pn_go [5] 400 ?_
  conv => whnf
  refine FxL201_5  _ (fun _ _ _ _ _ I1 L1 f1 => ?_) _ _ _ _ _ _ fr_rf
  refine pn_go [5] 400 ?_
  conv => whnf
  exact hk _ _ _ (fr_then (by decide) fr_rf f1)
set_option maxHeartbeats 4000000 in
set_option maxRecDepth 20000 in
theorem FxL202_5 {d : Nat} {k : jK} {I0 : jI}  : ∀ (n : Nat), (∀ (v0 : Option jV) (v1 : Int32) (v2 : Option jV) (v3 : Option jV) (I : jI) (L : jL), fr [41] I0 I → pn (jPM d) k none (jco 202) n (48, [v0, some (.inl (.inl v1)), v2, v3], [], I, L)) → ∀ (v1 : Int32) (v2 : Int32) (v3 : Option jV) (I : jI) (L : jL), fr [41] I0 I → pn (jPM d) k none (jco 202) n (5, [some (.inr (31, 0)), some (.inl (.inl v1)), some (.inl (.inl v2)), v3], [], I, L) := by
  intro n
  induction n with
  | zero => intro _ v v v I L f0; trivial
  | succ n ih =>
    intro hx v1 v2 v3 I L f0
    refine pn_lp [5, 48] 400 ?_
    conv => whnf
    refine ⟨fun _ => ?_, fun _ => ?_⟩
    · conv => whnf
      exact pn_dec n (hx _ _ _ _ _ _ f0)
    · conv => whnf
      refine Fx199 (fun I1 L1 f1 => ?_)
      conv => whnf
      refine Fx200 (fun x2 I2 L2 f2 => ?_)
      conv => whnf
      refine Fx201 (fun x3 I3 L3 f3 => ?_)
      conv => whnf
      refine ⟨fun _ => ?_, fun _ => ?_⟩
      · conv => whnf
        exact ih (fun q0 q1 q2 q3 I L f => pn_dec n (hx q0 q1 q2 q3 I L f)) _ _ _ _ _ (fr_then (by decide) (fr_then (by decide) (fr_then (by decide) f0 f1) f2) f3)
      · conv => whnf
        exact ih (fun q0 q1 q2 q3 I L f => pn_dec n (hx q0 q1 q2 q3 I L f)) _ _ _ _ _ (fr_then (by decide) (fr_then (by decide) (fr_then (by decide) f0 f1) f2) f3)
set_option maxHeartbeats 4000000 in
set_option maxRecDepth 20000 in
theorem Fx202 {d : Nat} {k : jK} {I : jI} {L : jL} (hk : ∀ (x : Int32) (I' : jI) (L' : jL), fr [41] I I' → k (some (.inl (.inl x))) (I', L')) : jPM d 202 [.inr (31, 0)] (I, L) k := by
  refine pM (fun d n => ?_)
  refine pn_go [5] 400 ?_
  conv => whnf
  refine FxL202_5  _ (fun _ _ _ _ I1 L1 f1 => ?_) _ _ _ _ _ fr_rf
  refine pn_go [5] 400 ?_
  conv => whnf
  exact hk _ _ _ (fr_then (by decide) fr_rf f1)
