set_option maxHeartbeats 4000000 in
set_option maxRecDepth 20000 in
theorem Fx202 {d : Nat} {k : jK} {I : jI} {L : jL} (hk : ∀ (x : Int32) (I' : jI) (L' : jL), fr [41] I I' → k (some (.inl (.inl x))) (I', L')) : jPM d 202 [.inr (31, 0)] (I, L) k := by
  refine pM (fun d n => ?_)
  refine pn_go [5] 400 ?_
  conv => whnf
  refine FxL202_5  _ (fun _ _ _ _ I1 L1 f1 => ?_) _ _ _ _ _ fr_rf
  refine pn_go [5] 400 ?_
  conv => whnf
  exact hk _ _ _ (fr_then (by decide) fr_rf f1)
set_option maxHeartbeats 4000000 in
set_option maxRecDepth 20000 in
theorem FxL203_26 {d : Nat} {k : jK} {I0 : jI}  : ∀ (n : Nat), (∀ (v1 : Int32) (v2 : Option jV) (I : jI) (L : jL), fr [41] I0 I → pn (jPM d) k none (jco 203) n (55, [some (.inr (31, 0)), some (.inl (.inl v1)), v2], [], I, L)) → ∀ (v1 : Int32) (v2 : Int32) (I : jI) (L : jL), fr [41] I0 I → pn (jPM d) k none (jco 203) n (26, [some (.inr (31, 0)), some (.inl (.inl v1)), some (.inl (.inl v2))], [], I, L) := by
  intro n
  induction n with
  | zero => intro _ v v I L f0; trivial
  | succ n ih =>
    intro hx v1 v2 I L f0
    refine pn_lp [26, 55] 400 ?_
    conv => whnf
    refine ⟨fun _ => ?_, fun _ => ?_⟩
    · conv => whnf
      exact pn_dec n (hx _ _ _ _ f0)
    · conv => whnf
      intro _
      conv => whnf
      intro _
      conv => whnf
      exact ih (fun q0 q1 I L f => pn_dec n (hx q0 q1 I L f)) _ _ _ _ (fr_up rfl f0)
set_option maxHeartbeats 4000000 in
set_option maxRecDepth 20000 in
theorem Fx125 {d : Nat} {k : jK} {a0 : Int32} {a1 : Int32} {I : jI} {L : jL} (hk : ∀ (x : Int32) (I' : jI) (L' : jL), fr [] I I' → k (some (.inl (.inl x))) (I', L')) : jPM d 125 [.inl (.inl a0), .inl (.inl a1)] (I, L) k := by
  refine pM (fun d n => ?_)
  refine pn_go [] 400 ?_
  conv => whnf
  refine ⟨fun _ => ?_, fun _ => ?_⟩
  · conv => whnf
    exact fun _ => hk _ _ _ fr_rf
  · conv => whnf
    exact fun _ => hk _ _ _ fr_rf
set_option maxHeartbeats 4000000 in
set_option maxRecDepth 20000 in
theorem FxL204_32 {d : Nat} {k : jK} {I0 : jI}  : ∀ (n : Nat), (∀ (v1 : Int32) (v2 : Int32) (v3 : Int32) (v4 : Int64) (v6 : Int64) (v8 : Int32) (v9 : Int64) (v11 : Int32) (v12 : Int32) (v13 : Option jV) (I : jI) (L : jL), fr [] I0 I → pn (jPM d) k none (jco 204) n (125, [some (.inr (31, 0)), some (.inl (.inl v1)), some (.inl (.inl v2)), some (.inl (.inl v3)), some (.inl (.inr v4)), none, some (.inl (.inr v6)), none, some (.inl (.inl v8)), some (.inl (.inr v9)), none, some (.inl (.inl v11)), some (.inl (.inl v12)), v13], [], I, L)) → ∀ (v1 : Int32) (v2 : Int32) (v3 : Int32) (v4 : Int64) (v6 : Int64) (v8 : Int32) (v9 : Int64) (v11 : Int32) (v12 : Int32) (v13 : Int32) (I : jI) (L : jL), fr [] I0 I → pn (jPM d) k none (jco 204) n (32, [some (.inr (31, 0)), some (.inl (.inl v1)), some (.inl (.inl v2)), some (.inl (.inl v3)), some (.inl (.inr v4)), none, some (.inl (.inr v6)), none, some (.inl (.inl v8)), some (.inl (.inr v9)), none, some (.inl (.inl v11)), some (.inl (.inl v12)), some (.inl (.inl v13))], [], I, L) := by
  intro n
  induction n with
  | zero => intro _ v v v v v v v v v v I L f0; trivial
  | succ n ih =>
    intro hx v1 v2 v3 v4 v6 v8 v9 v11 v12 v13 I L f0
    refine pn_lp [9, 32, 125] 400 ?_
    conv => whnf
    refine ⟨fun _ => ?_, fun _ => ?_⟩
    · conv => whnf
      exact pn_dec n (hx _ _ _ _ _ _ _ _ _ _ _ _ f0)
    · conv => whnf
      refine Fx125 (fun x1 I1 L1 f1 => ?_)
      conv => whnf
      refine ⟨fun _ => ?_, fun _ => ?_⟩
      · conv => whnf
        refine Fx125 (fun x2 I2 L2 f2 => ?_)
        conv => whnf
        refine ⟨fun _ => ?_, fun _ => ?_⟩
        · conv => whnf
          refine Fx155 (fun x3 I3 L3 f3 => ?_)
          conv => whnf
          refine Fx125 (fun x4 I4 L4 f4 => ?_)
          conv => whnf
          refine ⟨fun _ => ?_, fun _ => ?_⟩
          · conv => whnf
            refine Fx153 (fun x5 I5 L5 f5 => ?_)
            conv => whnf
            exact ih (fun q0 q1 q2 q3 q4 q5 q6 q7 q8 q9 I L f => pn_dec n (hx q0 q1 q2 q3 q4 q5 q6 q7 q8 q9 I L f)) _ _ _ _ _ _ _ _ _ _ _ _ (fr_then (by decide) (fr_then (by decide) (fr_then (by decide) (fr_then (by decide) (fr_then (by decide) f0 f1) f2) f3) f4) f5)
          · conv => whnf
            exact ih (fun q0 q1 q2 q3 q4 q5 q6 q7 q8 q9 I L f => pn_dec n (hx q0 q1 q2 q3 q4 q5 q6 q7 q8 q9 I L f)) _ _ _ _ _ _ _ _ _ _ _ _ (fr_then (by decide) (fr_then (by decide) (fr_then (by decide) (fr_then (by decide) f0 f1) f2) f3) f4)
        · conv => whnf
          refine Fx125 (fun x6 I6 L6 f6 => ?_)
          conv => whnf
          refine ⟨fun _ => ?_, fun _ => ?_⟩
          · conv => whnf
            refine Fx153 (fun x7 I7 L7 f7 => ?_)
            conv => whnf
            exact ih (fun q0 q1 q2 q3 q4 q5 q6 q7 q8 q9 I L f => pn_dec n (hx q0 q1 q2 q3 q4 q5 q6 q7 q8 q9 I L f)) _ _ _ _ _ _ _ _ _ _ _ _ (fr_then (by decide) (fr_then (by decide) (fr_then (by decide) (fr_then (by decide) f0 f1) f2) f6) f7)
          · conv => whnf
            exact ih (fun q0 q1 q2 q3 q4 q5 q6 q7 q8 q9 I L f => pn_dec n (hx q0 q1 q2 q3 q4 q5 q6 q7 q8 q9 I L f)) _ _ _ _ _ _ _ _ _ _ _ _ (fr_then (by decide) (fr_then (by decide) (fr_then (by decide) f0 f1) f2) f6)
      · conv => whnf
        refine Fx125 (fun x8 I8 L8 f8 => ?_)
        conv => whnf
        refine ⟨fun _ => ?_, fun _ => ?_⟩
        · conv => whnf
          refine Fx155 (fun x9 I9 L9 f9 => ?_)
          conv => whnf
          refine Fx125 (fun x10 I10 L10 f10 => ?_)
          conv => whnf
          refine ⟨fun _ => ?_, fun _ => ?_⟩
          · conv => whnf
            refine Fx153 (fun x11 I11 L11 f11 => ?_)
            conv => whnf
            exact ih (fun q0 q1 q2 q3 q4 q5 q6 q7 q8 q9 I L f => pn_dec n (hx q0 q1 q2 q3 q4 q5 q6 q7 q8 q9 I L f)) _ _ _ _ _ _ _ _ _ _ _ _ (fr_then (by decide) (fr_then (by decide) (fr_then (by decide) (fr_then (by decide) (fr_then (by decide) f0 f1) f8) f9) f10) f11)
          · conv => whnf
            exact ih (fun q0 q1 q2 q3 q4 q5 q6 q7 q8 q9 I L f => pn_dec n (hx q0 q1 q2 q3 q4 q5 q6 q7 q8 q9 I L f)) _ _ _ _ _ _ _ _ _ _ _ _ (fr_then (by decide) (fr_then (by decide) (fr_then (by decide) (fr_then (by decide) f0 f1) f8) f9) f10)
        · conv => whnf
          refine Fx125 (fun x12 I12 L12 f12 => ?_)
          conv => whnf
          refine ⟨fun _ => ?_, fun _ => ?_⟩
          · conv => whnf
            refine Fx153 (fun x13 I13 L13 f13 => ?_)
            conv => whnf
            exact ih (fun q0 q1 q2 q3 q4 q5 q6 q7 q8 q9 I L f => pn_dec n (hx q0 q1 q2 q3 q4 q5 q6 q7 q8 q9 I L f)) _ _ _ _ _ _ _ _ _ _ _ _ (fr_then (by decide) (fr_then (by decide) (fr_then (by decide) (fr_then (by decide) f0 f1) f8) f12) f13)
          · conv => whnf
            exact ih (fun q0 q1 q2 q3 q4 q5 q6 q7 q8 q9 I L f => pn_dec n (hx q0 q1 q2 q3 q4 q5 q6 q7 q8 q9 I L f)) _ _ _ _ _ _ _ _ _ _ _ _ (fr_then (by decide) (fr_then (by decide) (fr_then (by decide) f0 f1) f8) f12)
set_option maxHeartbeats 4000000 in
set_option maxRecDepth 20000 in
theorem FxL204_9 {d : Nat} {k : jK} {I0 : jI}  : ∀ (n : Nat), (∀ (v1 : Option jV) (v2 : Option jV) (v3 : Option jV) (v4 : Int64) (v6 : Int64) (v8 : Option jV) (v9 : Option jV) (v10 : Option jV) (v11 : Option jV) (v12 : Option jV) (v13 : Option jV) (I : jI) (L : jL), fr [] I0 I → pn (jPM d) k none (jco 204) n (168, [some (.inr (31, 0)), v1, v2, v3, some (.inl (.inr v4)), none, some (.inl (.inr v6)), none, v8, v9, v10, v11, v12, v13], [], I, L)) → ∀ (v1 : Int32) (v2 : Int32) (v3 : Int32) (v4 : Int64) (v6 : Int64) (v8 : Int32) (v9 : Option jV) (v10 : Option jV) (v11 : Option jV) (v12 : Option jV) (v13 : Option jV) (I : jI) (L : jL), fr [] I0 I → pn (jPM d) k none (jco 204) n (9, [some (.inr (31, 0)), some (.inl (.inl v1)), some (.inl (.inl v2)), some (.inl (.inl v3)), some (.inl (.inr v4)), none, some (.inl (.inr v6)), none, some (.inl (.inl v8)), v9, v10, v11, v12, v13], [], I, L) := by
  intro n
  induction n with
  | zero => intro _ v v v v v v v v v v v I L f0; trivial
  | succ n ih =>
    intro hx v1 v2 v3 v4 v6 v8 v9 v10 v11 v12 v13 I L f0
    refine pn_lp [9, 32, 168] 400 ?_
    conv => whnf
    refine ⟨fun _ => ?_, fun _ => ?_⟩
    · conv => whnf
      exact pn_dec n (hx _ _ _ _ _ _ _ _ _ _ _ _ _ f0)
    · conv => whnf
      refine FxL204_32  _ (fun _ _ _ _ _ _ _ _ _ _ I1 L1 f1 => ?_) _ _ _ _ _ _ _ _ _ _ _ _ fr_rf
      refine pn_go [9, 32, 168] 400 ?_
      conv => whnf
      refine ⟨fun _ => ?_, fun _ => ?_⟩
      · conv => whnf
        refine ⟨fun _ => ?_, fun _ => ?_⟩
        · conv => whnf
          exact ih (fun q0 q1 q2 q3 q4 q5 q6 q7 q8 q9 q10 I L f => pn_dec n (hx q0 q1 q2 q3 q4 q5 q6 q7 q8 q9 q10 I L f)) _ _ _ _ _ _ _ _ _ _ _ _ _ (fr_then (by decide) f0 f1)
        · conv => whnf
          exact ih (fun q0 q1 q2 q3 q4 q5 q6 q7 q8 q9 q10 I L f => pn_dec n (hx q0 q1 q2 q3 q4 q5 q6 q7 q8 q9 q10 I L f)) _ _ _ _ _ _ _ _ _ _ _ _ _ (fr_then (by decide) f0 f1)
      · conv => whnf
        exact ih (fun q0 q1 q2 q3 q4 q5 q6 q7 q8 q9 q10 I L f => pn_dec n (hx q0 q1 q2 q3 q4 q5 q6 q7 q8 q9 q10 I L f)) _ _ _ _ _ _ _ _ _ _ _ _ _ (fr_then (by decide) f0 f1)
set_option maxHeartbeats 4000000 in
set_option maxRecDepth 20000 in
theorem FxL207_58 {d : Nat} {k : jK} {I0 : jI}  : ∀ (n : Nat), (∀ (v1 : Option jV) (v2 : Option jV) (v3 : Option jV) (v4 : Option jV) (v5 : Option jV) (v6 : Option jV) (v7 : Option jV) (I : jI) (L : jL), fr [32] I0 I → pn (jPM d) k none (jco 207) n (178, [some (.inr (31, 0)), v1, v2, v3, v4, v5, v6, v7], [], I, L)) → ∀ (v1 : Int32) (v2 : Option jV) (v3 : Int64) (v5 : Int32) (v6 : Option jV) (v7 : Option jV) (I : jI) (L : jL), fr [32] I0 I → pn (jPM d) k none (jco 207) n (58, [some (.inr (31, 0)), some (.inl (.inl v1)), v2, some (.inl (.inr v3)), none, some (.inl (.inl v5)), v6, v7], [], I, L) := by
  intro n
  induction n with
  | zero => intro _ v v v v v v I L f0; trivial
  | succ n ih =>
    intro hx v1 v2 v3 v5 v6 v7 I L f0
    refine pn_lp [58, 178] 400 ?_
    conv => whnf
    refine ⟨fun _ => ?_, fun _ => ?_⟩
    · conv => whnf
      exact pn_dec n (hx _ _ _ _ _ _ _ _ _ f0)
    · conv => whnf
      intro _
      conv => whnf
      intro _
      conv => whnf
      intro _
      conv => whnf
      intro _
      conv => whnf
      refine Fx163 (fun I1 L1 f1 => ?_)
      conv => whnf
      refine ⟨fun _ => ?_, fun _ => ?_⟩
      · conv => whnf
        refine ⟨fun _ => ?_, fun _ => ?_⟩
        · conv => whnf
          refine Fx167 (fun x2 I2 L2 f2 => ?_)
          conv => whnf
          exact ih (fun q0 q1 q2 q3 q4 q5 q6 I L f => pn_dec n (hx q0 q1 q2 q3 q4 q5 q6 I L f)) _ _ _ _ _ _ _ _ (fr_then (by decide) (fr_then (by decide) f0 f1) f2)
        · conv => whnf
          intro _
          conv => whnf
          refine ⟨fun _ => ?_, fun _ => ?_⟩
          · conv => whnf
            refine Fx167 (fun x3 I3 L3 f3 => ?_)
            conv => whnf
            exact ih (fun q0 q1 q2 q3 q4 q5 q6 I L f => pn_dec n (hx q0 q1 q2 q3 q4 q5 q6 I L f)) _ _ _ _ _ _ _ _ (fr_then (by decide) (fr_then (by decide) f0 f1) f3)
          · conv => whnf
            intro _
            conv => whnf
            intro _
            conv => whnf
            exact ih (fun q0 q1 q2 q3 q4 q5 q6 I L f => pn_dec n (hx q0 q1 q2 q3 q4 q5 q6 I L f)) _ _ _ _ _ _ _ _ (fr_up rfl (fr_then (by decide) f0 f1))
      · conv => whnf
        refine Fx164 (fun x4 I4 L4 f4 => ?_)
        conv => whnf
        refine ⟨fun _ => ?_, fun _ => ?_⟩
        · conv => whnf
          refine ⟨fun _ => ?_, fun _ => ?_⟩
          · conv => whnf
            refine Fx167 (fun x5 I5 L5 f5 => ?_)
            conv => whnf
            exact ih (fun q0 q1 q2 q3 q4 q5 q6 I L f => pn_dec n (hx q0 q1 q2 q3 q4 q5 q6 I L f)) _ _ _ _ _ _ _ _ (fr_then (by decide) (fr_then (by decide) (fr_then (by decide) f0 f1) f4) f5)
          · conv => whnf
            intro _
            conv => whnf
            refine ⟨fun _ => ?_, fun _ => ?_⟩
            · conv => whnf
              refine Fx167 (fun x6 I6 L6 f6 => ?_)
              conv => whnf
              exact ih (fun q0 q1 q2 q3 q4 q5 q6 I L f => pn_dec n (hx q0 q1 q2 q3 q4 q5 q6 I L f)) _ _ _ _ _ _ _ _ (fr_then (by decide) (fr_then (by decide) (fr_then (by decide) f0 f1) f4) f6)
            · conv => whnf
              intro _
              conv => whnf
              intro _
              conv => whnf
              exact ih (fun q0 q1 q2 q3 q4 q5 q6 I L f => pn_dec n (hx q0 q1 q2 q3 q4 q5 q6 I L f)) _ _ _ _ _ _ _ _ (fr_up rfl (fr_then (by decide) (fr_then (by decide) f0 f1) f4))
        · conv => whnf
          refine Fx165 (fun x7 I7 L7 f7 => ?_)
          conv => whnf
          exact ih (fun q0 q1 q2 q3 q4 q5 q6 I L f => pn_dec n (hx q0 q1 q2 q3 q4 q5 q6 I L f)) _ _ _ _ _ _ _ _ (fr_then (by decide) (fr_then (by decide) (fr_then (by decide) f0 f1) f4) f7)
set_option maxHeartbeats 4000000 in
set_option maxRecDepth 20000 in
theorem Fx207 {d : Nat} {k : jK} {a1 : Int32} {a2 : Int32} {I : jI} {L : jL} (hk : ∀ (x : Int32) (I' : jI) (L' : jL), fr [32] I I' → k (some (.inl (.inl x))) (I', L')) : jPM d 207 [.inr (31, 0), .inl (.inl a1), .inl (.inl a2)] (I, L) k := by
  refine pM (fun d n => ?_)
  refine pn_go [58] 400 ?_
  conv => whnf
  refine Fx124 (fun x1 I1 L1 f1 => ?_)
  conv => whnf
  refine ⟨fun _ => ?_, fun _ => ?_⟩
  · conv => whnf
    exact hk _ _ _ (fr_then (by decide) fr_rf f1)
  · conv => whnf
    refine Fx124 (fun x2 I2 L2 f2 => ?_)
    conv => whnf
    refine ⟨fun _ => ?_, fun _ => ?_⟩
    · conv => whnf
      refine ⟨fun _ => ?_, fun _ => ?_⟩
      · conv => whnf
        intro _
        conv => whnf
        refine ⟨fun _ => ?_, fun _ => ?_⟩
        · conv => whnf
          refine FxL207_58  _ (fun _ _ _ _ _ _ _ I3 L3 f3 => ?_) _ _ _ _ _ _ _ _ fr_rf
          refine pn_go [58] 400 ?_
          conv => whnf
          refine Fx162 (fun x4 I4 L4 f4 => ?_)
          conv => whnf
          exact hk _ _ _ (fr_then (by decide) (fr_then (by decide) (fr_then (by decide) (fr_then (by decide) fr_rf f1) f2) f3) f4)
        · conv => whnf
          exact hk _ _ _ (fr_then (by decide) (fr_then (by decide) fr_rf f1) f2)
      · conv => whnf
        exact hk _ _ _ (fr_then (by decide) (fr_then (by decide) fr_rf f1) f2)
    · conv => whnf
      exact hk _ _ _ (fr_then (by decide) (fr_then (by decide) fr_rf f1) f2)
