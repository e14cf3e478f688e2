set_option maxHeartbeats 4000000 in
set_option maxRecDepth 20000 in
theorem Fx87 {d : Nat} {k : jK} {a1 : Int32} {I : jI} {L : jL} (hk : ∀ (x : Int32) (I' : jI) (L' : jL), fr [6, 18, 19, 20, 21, 22, 23, 5006, 5007, 5008, 5009, 5010, 5011, 5012, 5013, 5014, 5015] I I' → k (some (.inl (.inl x))) (I', L')) : jPM d 87 [.inr (0, 0), .inl (.inl a1)] (I, L) k := by
  refine pM (fun d n => ?_)
  refine pn_go [] 400 ?_
  conv => whnf
  refine ⟨fun _ => ?_, fun _ => ?_⟩
  · conv => whnf
    exact hk _ _ _ fr_rf
  · conv => whnf
    refine ⟨fun _ => ?_, fun _ => ?_⟩
    · conv => whnf
      refine ⟨fun _ => ?_, fun _ => ?_⟩
      · conv => whnf
        intro _
        conv => whnf
        refine Fx28 (fun I1 L1 f1 => ?_)
        conv => whnf
        intro _
        conv => whnf
        exact hk _ _ _ (fr_up rfl (fr_then (by decide) fr_rf f1))
      · conv => whnf
        exact hk _ _ _ fr_rf
    · conv => whnf
      exact hk _ _ _ fr_rf
set_option maxHeartbeats 4000000 in
set_option maxRecDepth 20000 in
theorem Fx88 {d : Nat} {k : jK} {a1 : Int32} {I : jI} {L : jL} (hk : ∀ (x : Int32) (I' : jI) (L' : jL), fr [12, 18, 19, 20, 21, 22, 23, 1013, 5006, 5007, 5008, 5009, 5010, 5011, 5012, 5013, 5014, 5015] I I' → k (some (.inl (.inl x))) (I', L')) : jPM d 88 [.inr (0, 0), .inl (.inl a1)] (I, L) k := by
  refine pM (fun d n => ?_)
  refine pn_go [] 400 ?_
  conv => whnf
  refine ⟨fun _ => ?_, fun _ => ?_⟩
  · conv => whnf
    exact hk _ _ _ fr_rf
  · conv => whnf
    refine ⟨fun _ => ?_, fun _ => ?_⟩
    · conv => whnf
      intro _
      conv => whnf
      refine ⟨fun _ => ?_, fun _ => ?_⟩
      · conv => whnf
        intro _
        conv => whnf
        refine Fx28 (fun I1 L1 f1 => ?_)
        conv => whnf
        exact hk _ _ _ (fr_then (by decide) fr_rf f1)
      · conv => whnf
        refine Fx113 (fun x2 I2 L2 f2 => ?_)
        conv => whnf
        exact hk _ _ _ (fr_then (by decide) fr_rf f2)
    · conv => whnf
      exact hk _ _ _ fr_rf
set_option maxHeartbeats 4000000 in
set_option maxRecDepth 20000 in
theorem Fx89 {d : Nat} {k : jK} {a1 : Int32} {a2 : Int32} {I : jI} {L : jL} (hk : ∀ (x : Int32) (I' : jI) (L' : jL), fr [] I I' → k (some (.inl (.inl x))) (I', L')) : jPM d 89 [.inr (0, 0), .inl (.inl a1), .inl (.inl a2)] (I, L) k := by
  refine pM (fun d n => ?_)
  refine pn_go [] 400 ?_
  conv => whnf
  refine Fx31 (fun x1 I1 L1 f1 => ?_)
  conv => whnf
  refine ⟨fun _ => ?_, fun _ => ?_⟩
  · conv => whnf
    exact hk _ _ _ (fr_then (by decide) fr_rf f1)
  · conv => whnf
    refine ⟨fun _ => ?_, fun _ => ?_⟩
    · conv => whnf
      exact hk _ _ _ (fr_then (by decide) fr_rf f1)
    · conv => whnf
      refine ⟨fun _ => ?_, fun _ => ?_⟩
      · conv => whnf
        refine Fx35 (fun x2 I2 L2 f2 => ?_)
        conv => whnf
        exact hk _ _ _ (fr_then (by decide) (fr_then (by decide) fr_rf f1) f2)
      · conv => whnf
        exact hk _ _ _ (fr_then (by decide) fr_rf f1)
set_option maxHeartbeats 4000000 in
set_option maxRecDepth 20000 in
theorem FxL117_9 {d : Nat} {k : jK} {I0 : jI}  : ∀ (n : Nat), (∀ (v0 : Option jV) (v1 : Option jV) (v2 : Option jV) (v3 : Option jV) (v4 : Int64) (v6 : Option jV) (v7 : Option jV) (v8 : Option jV) (v9 : Option jV) (v10 : Option jV) (I : jI) (L : jL), fr [] I0 I → pn (jPM d) k none (jco 117) n (45, [v0, v1, v2, v3, some (.inl (.inr v4)), none, v6, v7, v8, v9, v10], [], I, L)) → ∀ (v0 : Option jV) (v1 : Option jV) (v2 : Option jV) (v3 : Option jV) (v4 : Int64) (v6 : Int64) (v8 : Int32) (v9 : Option jV) (v10 : Option jV) (I : jI) (L : jL), fr [] I0 I → pn (jPM d) k none (jco 117) n (9, [v0, v1, v2, v3, some (.inl (.inr v4)), none, some (.inl (.inr v6)), none, some (.inl (.inl v8)), v9, v10], [], I, L) := by
  intro n
  induction n with
  | zero => intro _ v v v v v v v v v I L f0; trivial
  | succ n ih =>
    intro hx v0 v1 v2 v3 v4 v6 v8 v9 v10 I L f0
    refine pn_lp [9, 45] 400 ?_
    conv => whnf
    refine ⟨fun _ => ?_, fun _ => ?_⟩
    · conv => whnf
      exact pn_dec n (hx _ _ _ _ _ _ _ _ _ _ _ _ f0)
    · conv => whnf
      refine ⟨fun _ => ?_, fun _ => ?_⟩
      · conv => whnf
        exact pn_dec n (hx _ _ _ _ _ _ _ _ _ _ _ _ f0)
      · conv => whnf
        intro _
        conv => whnf
        exact ih (fun q0 q1 q2 q3 q4 q5 q6 q7 q8 q9 I L f => pn_dec n (hx q0 q1 q2 q3 q4 q5 q6 q7 q8 q9 I L f)) _ _ _ _ _ _ _ _ _ _ _ f0
set_option maxHeartbeats 4000000 in
set_option maxRecDepth 20000 in
theorem Fx117 {d : Nat} {k : jK} {a0 : Int64} {a1 : Int64} {I : jI} {L : jL} (hk : ∀ (x : Int64) (I' : jI) (L' : jL), fr [] I I' → k (some (.inl (.inr x))) (I', L')) : jPM d 117 [.inl (.inr a0), .inl (.inr a1)] (I, L) k := by
  refine pM (fun d n => ?_)
  refine pn_go [9] 400 ?_
  conv => whnf
  refine FxL117_9  _ (fun _ _ _ _ _ _ _ _ _ _ I1 L1 f1 => ?_) _ _ _ _ _ _ _ _ _ _ _ fr_rf
  refine pn_go [9] 400 ?_
  conv => whnf
  exact hk _ _ _ (fr_then (by decide) fr_rf f1)
set_option maxHeartbeats 4000000 in
set_option maxRecDepth 20000 in
theorem Fx116 {d : Nat} {k : jK} {a1 : Int64} {a2 : Int64} {I : jI} {L : jL} (hk : ∀ (I' : jI) (L' : jL), fr [] I I' → k none (I', L')) : jPM d 116 [.inr (0, 0), .inl (.inr a1), .inl (.inr a2)] (I, L) k := by
  refine pM (fun d n => ?_)
  refine pn_go [] 400 ?_
  conv => whnf
  refine Fx117 (fun x1 I1 L1 f1 => ?_)
  conv => whnf
  refine ⟨fun _ => ?_, fun _ => ?_⟩
  · conv => whnf
    exact hk _ _ (fr_then (by decide) fr_rf f1)
  · conv => whnf
    intro _
    conv => whnf
    intro _
    conv => whnf
    exact hk _ _ (fr_then (by decide) fr_rf f1)
set_option maxHeartbeats 4000000 in
set_option maxRecDepth 20000 in
theorem Fx90 {d : Nat} {k : jK} {a1 : Int32} {I : jI} {L : jL} (hk : ∀ (x : Int32) (I' : jI) (L' : jL), fr [] I I' → k (some (.inl (.inl x))) (I', L')) : jPM d 90 [.inr (0, 0), .inl (.inl a1)] (I, L) k := by
  refine pM (fun d n => ?_)
  refine pn_go [] 400 ?_
  conv => whnf
  refine Fx31 (fun x1 I1 L1 f1 => ?_)
  conv => whnf
  refine ⟨fun _ => ?_, fun _ => ?_⟩
  · conv => whnf
    refine Fx36 (fun x2 I2 L2 f2 => ?_)
    conv => whnf
    refine ⟨fun _ => ?_, fun _ => ?_⟩
    · conv => whnf
      refine Fx35 (fun x3 I3 L3 f3 => ?_)
      conv => whnf
      refine Fx36 (fun x4 I4 L4 f4 => ?_)
      conv => whnf
      refine Fx116 (fun I5 L5 f5 => ?_)
      conv => whnf
      exact hk _ _ _ (fr_then (by decide) (fr_then (by decide) (fr_then (by decide) (fr_then (by decide) (fr_then (by decide) fr_rf f1) f2) f3) f4) f5)
    · conv => whnf
      exact hk _ _ _ (fr_then (by decide) (fr_then (by decide) fr_rf f1) f2)
  · conv => whnf
    exact hk _ _ _ (fr_then (by decide) fr_rf f1)
set_option maxHeartbeats 4000000 in
set_option maxRecDepth 20000 in
theorem Fx0 {d : Nat} {k : jK} {a0 : Int32} {a1 : Int32} {I : jI} {L : jL} (hk : ∀ (x : Int32) (I' : jI) (L' : jL), fr [] I I' → k (some (.inl (.inl x))) (I', L')) : jPM d 0 [.inl (.inl a0), .inl (.inl a1)] (I, L) k := by
  refine pM (fun d n => ?_)
  refine pn_go [] 400 ?_
  conv => whnf
  refine ⟨fun _ => ?_, fun _ => ?_⟩
  · conv => whnf
    refine ⟨fun _ => ?_, fun _ => ?_⟩
    · conv => whnf
      exact hk _ _ _ fr_rf
    · conv => whnf
      exact hk _ _ _ fr_rf
  · conv => whnf
    exact hk _ _ _ fr_rf
set_option maxHeartbeats 4000000 in
set_option maxRecDepth 20000 in
theorem Fx38 {d : Nat} {k : jK} {a0 : Nat} {a1 : Int32} {a2 : Int32} {I : jI} {L : jL} (hk : ∀ (x : Int32) (I' : jI) (L' : jL), fr [] I I' → k (some (.inl (.inl x))) (I', L')) : jPM d 38 [.inr (4, a0), .inl (.inl a1), .inl (.inl a2)] (I, L) k := by
  refine pM (fun d n => ?_)
  refine pn_go [] 400 ?_
  conv => whnf
  refine Fx35 (fun x1 I1 L1 f1 => ?_)
  conv => whnf
  refine Fx36 (fun x2 I2 L2 f2 => ?_)
  conv => whnf
  refine Fx35 (fun x3 I3 L3 f3 => ?_)
  conv => whnf
  refine Fx36 (fun x4 I4 L4 f4 => ?_)
  conv => whnf
  refine Fx0 (fun x5 I5 L5 f5 => ?_)
  conv => whnf
  exact hk _ _ _ (fr_then (by decide) (fr_then (by decide) (fr_then (by decide) (fr_then (by decide) (fr_then (by decide) fr_rf f1) f2) f3) f4) f5)
set_option maxHeartbeats 4000000 in
set_option maxRecDepth 20000 in
theorem FxL91_20 {d : Nat} {k : jK} {I0 : jI}  : ∀ (n : Nat), (∀ (v1 : Int32) (v2 : Int32) (v3 : Option jV) (v4 : Option jV) (I : jI) (L : jL), fr [] I0 I → pn (jPM d) k none (jco 91) n (97, [some (.inr (0, 0)), some (.inl (.inl v1)), some (.inl (.inl v2)), v3, v4], [], I, L)) → ∀ (v1 : Int32) (v2 : Int32) (v3 : Int32) (v4 : Option jV) (I : jI) (L : jL), fr [] I0 I → pn (jPM d) k none (jco 91) n (20, [some (.inr (0, 0)), some (.inl (.inl v1)), some (.inl (.inl v2)), some (.inl (.inl v3)), v4], [], I, L) := by
  intro n
  induction n with
  | zero => intro _ v v v v I L f0; trivial
  | succ n ih =>
    intro hx v1 v2 v3 v4 I L f0
    refine pn_lp [20, 97] 400 ?_
    conv => whnf
    refine ⟨fun _ => ?_, fun _ => ?_⟩
    · conv => whnf
      exact pn_dec n (hx _ _ _ _ _ _ f0)
    · conv => whnf
      refine Fx36 (fun x1 I1 L1 f1 => ?_)
      conv => whnf
      refine ⟨fun _ => ?_, fun _ => ?_⟩
      · conv => whnf
        refine ⟨fun _ => ?_, fun _ => ?_⟩
        · conv => whnf
          refine Fx38 (fun x2 I2 L2 f2 => ?_)
          conv => whnf
          refine ⟨fun _ => ?_, fun _ => ?_⟩
          · conv => whnf
            refine ⟨fun _ => ?_, fun _ => ?_⟩
            · conv => whnf
              exact ih (fun q0 q1 q2 q3 I L f => pn_dec n (hx q0 q1 q2 q3 I L f)) _ _ _ _ _ _ (fr_then (by decide) (fr_then (by decide) f0 f1) f2)
            · conv => whnf
              exact ih (fun q0 q1 q2 q3 I L f => pn_dec n (hx q0 q1 q2 q3 I L f)) _ _ _ _ _ _ (fr_then (by decide) (fr_then (by decide) f0 f1) f2)
          · conv => whnf
            exact ih (fun q0 q1 q2 q3 I L f => pn_dec n (hx q0 q1 q2 q3 I L f)) _ _ _ _ _ _ (fr_then (by decide) (fr_then (by decide) f0 f1) f2)
        · conv => whnf
          refine ⟨fun z => absurd z (by decide), fun _ => ?_⟩
          conv => whnf
          exact ih (fun q0 q1 q2 q3 I L f => pn_dec n (hx q0 q1 q2 q3 I L f)) _ _ _ _ _ _ (fr_then (by decide) f0 f1)
      · conv => whnf
        exact ih (fun q0 q1 q2 q3 I L f => pn_dec n (hx q0 q1 q2 q3 I L f)) _ _ _ _ _ _ (fr_then (by decide) f0 f1)
set_option maxHeartbeats 4000000 in
set_option maxRecDepth 20000 in
theorem Fx91 {d : Nat} {k : jK} {I : jI} {L : jL} (hk : ∀ (x : Int32) (I' : jI) (L' : jL), fr [1014] I I' → k (some (.inl (.inl x))) (I', L')) : jPM d 91 [.inr (0, 0)] (I, L) k := by
  refine pM (fun d n => ?_)
  refine pn_go [20] 400 ?_
  conv => whnf
  refine ⟨fun _ => ?_, fun _ => ?_⟩
  · conv => whnf
    refine FxL91_20  _ (fun _ _ _ _ I1 L1 f1 => ?_) _ _ _ _ _ _ fr_rf
    refine pn_go [20] 400 ?_
    conv => whnf
    refine ⟨fun _ => ?_, fun _ => ?_⟩
    · conv => whnf
      exact hk _ _ _ (fr_then (by decide) fr_rf f1)
    · conv => whnf
      exact hk _ _ _ (fr_up rfl (fr_then (by decide) fr_rf f1))
  · conv => whnf
    exact hk _ _ _ fr_rf
set_option maxHeartbeats 4000000 in
set_option maxRecDepth 20000 in
theorem Fx39 {d : Nat} {k : jK} {a0 : Nat} {a1 : Int32} {a2 : Int32} {I : jI} {L : jL} (hk : ∀ (x : Int32) (I' : jI) (L' : jL), fr [] I I' → k (some (.inl (.inl x))) (I', L')) : jPM d 39 [.inr (4, a0), .inl (.inl a1), .inl (.inl a2)] (I, L) k := by
  refine pM (fun d n => ?_)
  refine pn_go [] 400 ?_
  conv => whnf
  refine Fx36 (fun x1 I1 L1 f1 => ?_)
  conv => whnf
  refine Fx36 (fun x2 I2 L2 f2 => ?_)
  conv => whnf
  refine Fx0 (fun x3 I3 L3 f3 => ?_)
  conv => whnf
  refine Fx36 (fun x4 I4 L4 f4 => ?_)
  conv => whnf
  refine ⟨fun _ => ?_, fun _ => ?_⟩
  · conv => whnf
    exact fun _ => hk _ _ _ (fr_then (by decide) (fr_then (by decide) (fr_then (by decide) (fr_then (by decide) fr_rf f1) f2) f3) f4)
  · conv => whnf
    refine Fx36 (fun x5 I5 L5 f5 => ?_)
    conv => whnf
    refine ⟨fun _ => ?_, fun _ => ?_⟩
    · conv => whnf
      exact fun _ => hk _ _ _ (fr_then (by decide) (fr_then (by decide) (fr_then (by decide) (fr_then (by decide) (fr_then (by decide) fr_rf f1) f2) f3) f4) f5)
    · conv => whnf
      refine ⟨fun _ => ?_, fun _ => ?_⟩
      · conv => whnf
        refine Fx38 (fun x6 I6 L6 f6 => ?_)
        conv => whnf
        refine ⟨fun _ => ?_, fun _ => ?_⟩
        · conv => whnf
          exact fun _ => hk _ _ _ (fr_then (by decide) (fr_then (by decide) (fr_then (by decide) (fr_then (by decide) (fr_then (by decide) (fr_then (by decide) fr_rf f1) f2) f3) f4) f5) f6)
        · conv => whnf
          exact fun _ => hk _ _ _ (fr_then (by decide) (fr_then (by decide) (fr_then (by decide) (fr_then (by decide) (fr_then (by decide) (fr_then (by decide) fr_rf f1) f2) f3) f4) f5) f6)
      · conv => whnf
        exact fun _ => hk _ _ _ (fr_then (by decide) (fr_then (by decide) (fr_then (by decide) (fr_then (by decide) (fr_then (by decide) fr_rf f1) f2) f3) f4) f5)
set_option maxHeartbeats 4000000 in
set_option maxRecDepth 20000 in
theorem FxL92_23 {d : Nat} {k : jK} {I0 : jI}  : ∀ (n : Nat), (∀ (v1 : Int32) (v2 : Int32) (v3 : Int32) (v4 : Option jV) (I : jI) (L : jL), fr [] I0 I → pn (jPM d) k none (jco 92) n (75, [some (.inr (0, 0)), some (.inl (.inl v1)), some (.inl (.inl v2)), some (.inl (.inl v3)), v4], [], I, L)) → ∀ (v1 : Int32) (v2 : Int32) (v3 : Int32) (v4 : Int32) (I : jI) (L : jL), fr [] I0 I → pn (jPM d) k none (jco 92) n (23, [some (.inr (0, 0)), some (.inl (.inl v1)), some (.inl (.inl v2)), some (.inl (.inl v3)), some (.inl (.inl v4))], [], I, L) := by
  intro n
  induction n with
  | zero => intro _ v v v v I L f0; trivial
  | succ n ih =>
    intro hx v1 v2 v3 v4 I L f0
    refine pn_lp [7, 23, 75] 400 ?_
    conv => whnf
    refine ⟨fun _ => ?_, fun _ => ?_⟩
    · conv => whnf
      exact pn_dec n (hx _ _ _ _ _ _ f0)
    · conv => whnf
      refine Fx39 (fun x1 I1 L1 f1 => ?_)
      conv => whnf
      refine ⟨fun _ => ?_, fun _ => ?_⟩
      · conv => whnf
        exact ih (fun q0 q1 q2 q3 I L f => pn_dec n (hx q0 q1 q2 q3 I L f)) _ _ _ _ _ _ (fr_then (by decide) f0 f1)
      · conv => whnf
        refine ⟨fun _ => ?_, fun _ => ?_⟩
        · conv => whnf
          exact ih (fun q0 q1 q2 q3 I L f => pn_dec n (hx q0 q1 q2 q3 I L f)) _ _ _ _ _ _ (fr_then (by decide) f0 f1)
        · conv => whnf
          exact ih (fun q0 q1 q2 q3 I L f => pn_dec n (hx q0 q1 q2 q3 I L f)) _ _ _ _ _ _ (fr_then (by decide) f0 f1)
set_option maxHeartbeats 4000000 in
set_option maxRecDepth 20000 in
theorem FxL92_7 {d : Nat} {k : jK} {I0 : jI}  : ∀ (n : Nat), (∀ (v1 : Int32) (v2 : Int32) (v3 : Option jV) (v4 : Option jV) (I : jI) (L : jL), fr [] I0 I → pn (jPM d) k none (jco 92) n (81, [some (.inr (0, 0)), some (.inl (.inl v1)), some (.inl (.inl v2)), v3, v4], [], I, L)) → ∀ (v1 : Int32) (v2 : Int32) (v3 : Int32) (v4 : Option jV) (I : jI) (L : jL), fr [] I0 I → pn (jPM d) k none (jco 92) n (7, [some (.inr (0, 0)), some (.inl (.inl v1)), some (.inl (.inl v2)), some (.inl (.inl v3)), v4], [], I, L) := by
  intro n
  induction n with
  | zero => intro _ v v v v I L f0; trivial
  | succ n ih =>
    intro hx v1 v2 v3 v4 I L f0
    refine pn_lp [7, 23, 81] 400 ?_
    conv => whnf
    refine ⟨fun _ => ?_, fun _ => ?_⟩
    · conv => whnf
      exact pn_dec n (hx _ _ _ _ _ _ f0)
    · conv => whnf
      refine FxL92_23  _ (fun _ _ _ _ I1 L1 f1 => ?_) _ _ _ _ _ _ fr_rf
      refine pn_go [7, 23, 81] 400 ?_
      conv => whnf
      exact ih (fun q0 q1 q2 q3 I L f => pn_dec n (hx q0 q1 q2 q3 I L f)) _ _ _ _ _ _ (fr_then (by decide) f0 f1)
set_option maxHeartbeats 4000000 in
set_option maxRecDepth 20000 in
theorem Fx92 {d : Nat} {k : jK} {I : jI} {L : jL} (hk : ∀ (x : Int32) (I' : jI) (L' : jL), fr [1014] I I' → k (some (.inl (.inl x))) (I', L')) : jPM d 92 [.inr (0, 0)] (I, L) k := by
  refine pM (fun d n => ?_)
  refine pn_go [7, 23] 400 ?_
  conv => whnf
  refine FxL92_7  _ (fun _ _ _ _ I1 L1 f1 => ?_) _ _ _ _ _ _ fr_rf
  refine pn_go [7, 23] 400 ?_
  conv => whnf
  exact hk _ _ _ (fr_up rfl (fr_then (by decide) fr_rf f1))
set_option maxHeartbeats 4000000 in
set_option maxRecDepth 20000 in
theorem FxL49_2 {d : Nat} {k : jK} {y1 : Nat} {I0 : jI}  : ∀ (n : Nat), (∀ (v2 : Int32) (v3 : Option jV) (v4 : Option jV) (I : jI) (L : jL), fr [25] I0 I → pn (jPM d) k none (jco 49) n (34, [some (.inr (8, 0)), some (.inr (4, y1)), some (.inl (.inl v2)), v3, v4], [], I, L)) → ∀ (v2 : Int32) (v3 : Int32) (v4 : Option jV) (I : jI) (L : jL), fr [25] I0 I → pn (jPM d) k none (jco 49) n (2, [some (.inr (8, 0)), some (.inr (4, y1)), some (.inl (.inl v2)), some (.inl (.inl v3)), v4], [], I, L) := by
  intro n
  induction n with
  | zero => intro _ v v v I L f0; trivial
  | succ n ih =>
    intro hx v2 v3 v4 I L f0
    refine pn_lp [2, 34, 41, 48] 400 ?_
    conv => whnf
    refine ⟨fun _ => ?_, fun _ => ?_⟩
    · conv => whnf
      exact pn_dec n (hx _ _ _ _ _ f0)
    · conv => whnf
      intro _
      conv => whnf
      refine ⟨fun _ => ?_, fun _ => ?_⟩
      · conv => whnf
        intro _
        conv => whnf
        exact ih (fun q0 q1 q2 I L f => pn_dec n (hx q0 q1 q2 I L f)) _ _ _ _ _ (fr_up rfl f0)
      · conv => whnf
        intro _
        conv => whnf
        exact ih (fun q0 q1 q2 I L f => pn_dec n (hx q0 q1 q2 I L f)) _ _ _ _ _ (fr_up rfl f0)
set_option maxHeartbeats 4000000 in
set_option maxRecDepth 20000 in
theorem Fx52 {d : Nat} {k : jK} {a0 : Nat} {a1 : Int32} {a2 : Int32} {a3 : Int32} {I : jI} {L : jL} (hk : ∀ (x : Int32) (I' : jI) (L' : jL), fr [] I I' → k (some (.inl (.inl x))) (I', L')) : jPM d 52 [.inr (4, a0), .inl (.inl a1), .inl (.inl a2), .inl (.inl a3)] (I, L) k := by
  refine pM (fun d n => ?_)
  refine pn_go [] 400 ?_
  conv => whnf
  refine Fx36 (fun x1 I1 L1 f1 => ?_)
  conv => whnf
  exact hk _ _ _ (fr_then (by decide) fr_rf f1)
set_option maxHeartbeats 4000000 in
set_option maxRecDepth 20000 in
theorem Fx51 {d : Nat} {k : jK} {a1 : Nat} {a2 : Int32} {a3 : Int32} {a4 : Int32} {I : jI} {L : jL} (hk : ∀ (x : Int32) (I' : jI) (L' : jL), fr [] I I' → k (some (.inl (.inl x))) (I', L')) : jPM d 51 [.inr (8, 0), .inr (4, a1), .inl (.inl a2), .inl (.inl a3), .inl (.inl a4)] (I, L) k := by
  refine pM (fun d n => ?_)
  refine pn_go [] 400 ?_
  conv => whnf
  refine Fx35 (fun x1 I1 L1 f1 => ?_)
  conv => whnf
  intro _
  conv => whnf
  refine Fx52 (fun x2 I2 L2 f2 => ?_)
  conv => whnf
  intro _
  conv => whnf
  exact hk _ _ _ (fr_then (by decide) (fr_then (by decide) fr_rf f1) f2)
set_option maxHeartbeats 4000000 in
set_option maxRecDepth 20000 in
theorem FxL50_7 {d : Nat} {k : jK} {y1 : Nat} {I0 : jI}  : ∀ (n : Nat), (∀ (v0 : Option jV) (v1 : Option jV) (v2 : Option jV) (v3 : Option jV) (v4 : Int32) (v5 : Option jV) (I : jI) (L : jL), fr [] I0 I → pn (jPM d) k none (jco 50) n (35, [v0, v1, v2, v3, some (.inl (.inl v4)), v5], [], I, L)) → ∀ (v2 : Int32) (v3 : Int32) (v4 : Int32) (v5 : Int32) (I : jI) (L : jL), fr [] I0 I → pn (jPM d) k none (jco 50) n (7, [some (.inr (8, 0)), some (.inr (4, y1)), some (.inl (.inl v2)), some (.inl (.inl v3)), some (.inl (.inl v4)), some (.inl (.inl v5))], [], I, L) := by
  intro n
  induction n with
  | zero => intro _ v v v v I L f0; trivial
  | succ n ih =>
    intro hx v2 v3 v4 v5 I L f0
    refine pn_lp [7, 35] 400 ?_
    conv => whnf
    refine ⟨fun _ => ?_, fun _ => ?_⟩
    · conv => whnf
      exact pn_dec n (hx _ _ _ _ _ _ _ _ f0)
    · conv => whnf
      refine Fx51 (fun x1 I1 L1 f1 => ?_)
      conv => whnf
      exact ih (fun q0 q1 q2 q3 q4 q5 I L f => pn_dec n (hx q0 q1 q2 q3 q4 q5 I L f)) _ _ _ _ _ _ (fr_then (by decide) f0 f1)
set_option maxHeartbeats 4000000 in
set_option maxRecDepth 20000 in
theorem Fx50 {d : Nat} {k : jK} {a1 : Nat} {a2 : Int32} {a3 : Int32} {I : jI} {L : jL} (hk : ∀ (x : Int32) (I' : jI) (L' : jL), fr [] I I' → k (some (.inl (.inl x))) (I', L')) : jPM d 50 [.inr (8, 0), .inr (4, a1), .inl (.inl a2), .inl (.inl a3)] (I, L) k := by
  refine pM (fun d n => ?_)
  refine pn_go [7] 400 ?_
  conv => whnf
  refine FxL50_7  _ (fun _ _ _ _ _ _ I1 L1 f1 => ?_) _ _ _ _ _ _ fr_rf
  refine pn_go [7] 400 ?_
  conv => whnf
  exact hk _ _ _ (fr_then (by decide) fr_rf f1)
set_option maxHeartbeats 4000000 in
set_option maxRecDepth 20000 in
theorem FxL49_48 {d : Nat} {k : jK} {y1 : Nat} {I0 : jI}  : ∀ (n : Nat), (∀ (v2 : Int32) (v3 : Int32) (v4 : Option jV) (I : jI) (L : jL), fr [25] I0 I → pn (jPM d) k none (jco 49) n (77, [some (.inr (8, 0)), some (.inr (4, y1)), some (.inl (.inl v2)), some (.inl (.inl v3)), v4], [], I, L)) → ∀ (v2 : Int32) (v3 : Int32) (v4 : Int32) (I : jI) (L : jL), fr [25] I0 I → pn (jPM d) k none (jco 49) n (48, [some (.inr (8, 0)), some (.inr (4, y1)), some (.inl (.inl v2)), some (.inl (.inl v3)), some (.inl (.inl v4))], [], I, L) := by
  intro n
  induction n with
  | zero => intro _ v v v I L f0; trivial
  | succ n ih =>
    intro hx v2 v3 v4 I L f0
    refine pn_lp [2, 41, 48, 77] 400 ?_
    conv => whnf
    refine ⟨fun _ => ?_, fun _ => ?_⟩
    · conv => whnf
      exact pn_dec n (hx _ _ _ _ _ f0)
    · conv => whnf
      intro _
      conv => whnf
      refine Fx50 (fun x1 I1 L1 f1 => ?_)
      conv => whnf
      intro _
      conv => whnf
      exact ih (fun q0 q1 q2 I L f => pn_dec n (hx q0 q1 q2 I L f)) _ _ _ _ _ (fr_up rfl (fr_then (by decide) f0 f1))
set_option maxHeartbeats 4000000 in
set_option maxRecDepth 20000 in
theorem FxL49_41 {d : Nat} {k : jK} {y1 : Nat} {I0 : jI}  : ∀ (n : Nat), (∀ (v1 : Option jV) (v2 : Int32) (v3 : Option jV) (v4 : Option jV) (I : jI) (L : jL), fr [25] I0 I → pn (jPM d) k none (jco 49) n (83, [some (.inr (8, 0)), v1, some (.inl (.inl v2)), v3, v4], [], I, L)) → ∀ (v2 : Int32) (v3 : Int32) (v4 : Option jV) (I : jI) (L : jL), fr [25] I0 I → pn (jPM d) k none (jco 49) n (41, [some (.inr (8, 0)), some (.inr (4, y1)), some (.inl (.inl v2)), some (.inl (.inl v3)), v4], [], I, L) := by
  intro n
  induction n with
  | zero => intro _ v v v I L f0; trivial
  | succ n ih =>
    intro hx v2 v3 v4 I L f0
    refine pn_lp [2, 41, 48, 83] 400 ?_
    conv => whnf
    refine ⟨fun _ => ?_, fun _ => ?_⟩
    · conv => whnf
      exact pn_dec n (hx _ _ _ _ _ _ f0)
    · conv => whnf
      refine FxL49_48  _ (fun _ _ _ I1 L1 f1 => ?_) _ _ _ _ _ fr_rf
      refine pn_go [2, 41, 48, 83] 400 ?_
      conv => whnf
      exact ih (fun q0 q1 q2 q3 I L f => pn_dec n (hx q0 q1 q2 q3 I L f)) _ _ _ _ _ (fr_then (by decide) f0 f1)
set_option maxHeartbeats 4000000 in
set_option maxRecDepth 20000 in
theorem Fx49 {d : Nat} {k : jK} {a1 : Nat} {a2 : Int32} {I : jI} {L : jL} (hk : ∀ (x : Int32) (I' : jI) (L' : jL), fr [25] I I' → k (some (.inl (.inl x))) (I', L')) : jPM d 49 [.inr (8, 0), .inr (4, a1), .inl (.inl a2)] (I, L) k := by
  refine pM (fun d n => ?_)
  refine pn_go [2, 41, 48] 400 ?_
  conv => whnf
  refine FxL49_2  _ (fun _ _ _ I1 L1 f1 => ?_) _ _ _ _ _ fr_rf
  refine pn_go [2, 41, 48] 400 ?_
  conv => whnf
  refine FxL49_41  _ (fun _ _ _ _ I2 L2 f2 => ?_) _ _ _ _ _ fr_rf
  refine pn_go [2, 41, 48] 400 ?_
  conv => whnf
  intro _
  conv => whnf
  intro _
  conv => whnf
  exact hk _ _ _ (fr_then (by decide) (fr_then (by decide) fr_rf f1) f2)
set_option maxHeartbeats 4000000 in
set_option maxRecDepth 20000 in
theorem FxL53_3 {d : Nat} {k : jK} {y1 : Nat} {I0 : jI}  : ∀ (n : Nat), (∀ (v0 : Option jV) (v1 : Option jV) (v2 : Option jV) (v3 : Option jV) (v4 : Int32) (I : jI) (L : jL), fr [] I0 I → pn (jPM d) k none (jco 53) n (35, [v0, v1, v2, v3, some (.inl (.inl v4))], [], I, L)) → ∀ (v2 : Int32) (v3 : Int32) (v4 : Int32) (I : jI) (L : jL), fr [] I0 I → pn (jPM d) k none (jco 53) n (3, [some (.inr (8, 0)), some (.inr (4, y1)), some (.inl (.inl v2)), some (.inl (.inl v3)), some (.inl (.inl v4))], [], I, L) := by
  intro n
  induction n with
  | zero => intro _ v v v I L f0; trivial
  | succ n ih =>
    intro hx v2 v3 v4 I L f0
    refine pn_lp [3, 35] 400 ?_
    conv => whnf
    refine ⟨fun _ => ?_, fun _ => ?_⟩
    · conv => whnf
      exact pn_dec n (hx _ _ _ _ _ _ _ f0)
    · conv => whnf
      refine Fx51 (fun x1 I1 L1 f1 => ?_)
      conv => whnf
      intro _
      conv => whnf
      intro _
      conv => whnf
      refine ⟨fun _ => ?_, fun _ => ?_⟩
      · conv => whnf
        exact pn_dec n (hx _ _ _ _ _ _ _ (fr_then (by decide) f0 f1))
      · conv => whnf
        exact ih (fun q0 q1 q2 q3 q4 I L f => pn_dec n (hx q0 q1 q2 q3 q4 I L f)) _ _ _ _ _ (fr_then (by decide) f0 f1)
set_option maxHeartbeats 4000000 in
set_option maxRecDepth 20000 in
theorem Fx53 {d : Nat} {k : jK} {a1 : Nat} {a2 : Int32} {a3 : Int32} {I : jI} {L : jL} (hk : ∀ (x : Int32) (I' : jI) (L' : jL), fr [] I I' → k (some (.inl (.inl x))) (I', L')) : jPM d 53 [.inr (8, 0), .inr (4, a1), .inl (.inl a2), .inl (.inl a3)] (I, L) k := by
  refine pM (fun d n => ?_)
  refine pn_go [3] 400 ?_
  conv => whnf
  refine FxL53_3  _ (fun _ _ _ _ _ I1 L1 f1 => ?_) _ _ _ _ _ fr_rf
  refine pn_go [3] 400 ?_
  conv => whnf
  exact hk _ _ _ (fr_then (by decide) fr_rf f1)
set_option maxHeartbeats 4000000 in
set_option maxRecDepth 20000 in
theorem FxL93_80 {d : Nat} {k : jK} {I0 : jI}  : ∀ (n : Nat), (∀ (v0 : Option jV) (v1 : Option jV) (v2 : Option jV) (v3 : Int32) (v4 : Option jV) (v5 : Option jV) (v6 : Option jV) (I : jI) (L : jL), fr [29] I0 I → pn (jPM d) k none (jco 93) n (142, [v0, v1, v2, some (.inl (.inl v3)), v4, v5, v6], [], I, L)) → ∀ (v1 : Option jV) (v2 : Int32) (v3 : Int32) (v4 : Int32) (v5 : Int32) (v6 : Option jV) (I : jI) (L : jL), fr [29] I0 I → pn (jPM d) k none (jco 93) n (80, [some (.inr (0, 0)), v1, some (.inl (.inl v2)), some (.inl (.inl v3)), some (.inl (.inl v4)), some (.inl (.inl v5)), v6], [], I, L) := by
  intro n
  induction n with
  | zero => intro _ v v v v v v I L f0; trivial
  | succ n ih =>
    intro hx v1 v2 v3 v4 v5 v6 I L f0
    refine pn_lp [80, 142] 400 ?_
    conv => whnf
    refine ⟨fun _ => ?_, fun _ => ?_⟩
    · conv => whnf
      exact pn_dec n (hx _ _ _ _ _ _ _ _ _ f0)
    · conv => whnf
      refine Fx53 (fun x1 I1 L1 f1 => ?_)
      conv => whnf
      refine Fx19g1 (fun I2 L2 f2 => ?_)
      conv => whnf
      refine Fx52 (fun x3 I3 L3 f3 => ?_)
      conv => whnf
      exact ih (fun q0 q1 q2 q3 q4 q5 q6 I L f => pn_dec n (hx q0 q1 q2 q3 q4 q5 q6 I L f)) _ _ _ _ _ _ _ _ (fr_then (by decide) (fr_then (by decide) (fr_then (by decide) f0 f1) f2) f3)
set_option maxHeartbeats 4000000 in
set_option maxRecDepth 20000 in
theorem Fx93 {d : Nat} {k : jK} {a1 : Int32} {a2 : Int32} {I : jI} {L : jL} (hk : ∀ (x : Int32) (I' : jI) (L' : jL), fr [14, 25, 29] I I' → k (some (.inl (.inl x))) (I', L')) : jPM d 93 [.inr (0, 0), .inl (.inl a1), .inl (.inl a2)] (I, L) k := by
  refine pM (fun d n => ?_)
  refine pn_go [80] 400 ?_
  conv => whnf
  refine ⟨fun _ => ?_, fun _ => ?_⟩
  · conv => whnf
    exact hk _ _ _ fr_rf
  · conv => whnf
    refine ⟨fun _ => ?_, fun _ => ?_⟩
    · conv => whnf
      exact hk _ _ _ fr_rf
    · conv => whnf
      refine Fx15g1 (fun x1 I1 L1 f1 => ?_)
      conv => whnf
      refine ⟨fun _ => ?_, fun _ => ?_⟩
      · conv => whnf
        refine ⟨fun _ => ?_, fun _ => ?_⟩
        · conv => whnf
          refine Fx49 (fun x2 I2 L2 f2 => ?_)
          conv => whnf
          refine ⟨fun _ => ?_, fun _ => ?_⟩
          · conv => whnf
            refine Fx20g1 (fun I3 L3 f3 => ?_)
            conv => whnf
            refine FxL93_80  _ (fun _ _ _ _ _ _ _ I4 L4 f4 => ?_) _ _ _ _ _ _ _ _ fr_rf
            refine pn_go [80] 400 ?_
            conv => whnf
            exact hk _ _ _ (fr_then (by decide) (fr_then (by decide) (fr_then (by decide) (fr_then (by decide) fr_rf f1) f2) f3) f4)
          · conv => whnf
            exact hk _ _ _ (fr_then (by decide) (fr_then (by decide) fr_rf f1) f2)
        · conv => whnf
          exact hk _ _ _ (fr_then (by decide) fr_rf f1)
      · conv => whnf
        exact hk _ _ _ (fr_then (by decide) fr_rf f1)
