set_option maxHeartbeats 4000000 in
set_option maxRecDepth 20000 in
theorem Fx124 {d : Nat} {k : jK} {a0 : Int64} {a1 : Int64} {a2 : Int64} {I : jI} {L : jL} (hk : ∀ (x : Int32) (I' : jI) (L' : jL), fr [] I I' → k (some (.inl (.inl x))) (I', L')) : jPM d 124 [.inl (.inr a0), .inl (.inr a1), .inl (.inr a2)] (I, L) k := by
  refine pM (fun d n => ?_)
  refine pn_go [] 400 ?_
  conv => whnf
  refine ⟨fun _ => ?_, fun _ => ?_⟩
  · conv => whnf
    exact fun _ => hk _ _ _ fr_rf
  · conv => whnf
    refine ⟨fun _ => ?_, fun _ => ?_⟩
    · conv => whnf
      exact fun _ => hk _ _ _ fr_rf
    · conv => whnf
      exact fun _ => hk _ _ _ fr_rf
set_option maxHeartbeats 4000000 in
set_option maxRecDepth 20000 in
theorem Fx128 {d : Nat} {k : jK} {a0 : Int32} {I : jI} {L : jL} (hk : ∀ (x : Int32) (I' : jI) (L' : jL), fr [] I I' → k (some (.inl (.inl x))) (I', L')) : jPM d 128 [.inl (.inl a0)] (I, L) k := by
  refine pM (fun d n => ?_)
  refine pn_go [] 400 ?_
  conv => whnf
  refine Fx124 (fun x1 I1 L1 f1 => ?_)
  conv => whnf
  exact fun _ => hk _ _ _ (fr_then (by decide) fr_rf f1)
set_option maxHeartbeats 4000000 in
set_option maxRecDepth 20000 in
theorem FxL131_9 {d : Nat} {k : jK} {I0 : jI}  : ∀ (n : Nat), (∀ (v0 : Option jV) (v1 : Option jV) (v2 : Option jV) (v3 : Option jV) (I : jI) (L : jL), fr [36] I0 I → pn (jPM d) k none (jco 131) n (33, [v0, v1, v2, v3], [], I, L)) → ∀ (v1 : Int32) (v2 : Option jV) (v3 : Int32) (I : jI) (L : jL), fr [36] I0 I → pn (jPM d) k none (jco 131) n (9, [some (.inr (31, 0)), some (.inl (.inl v1)), v2, some (.inl (.inl v3))], [], I, L) := by
  intro n
  induction n with
  | zero => intro _ v v v I L f0; trivial
  | succ n ih =>
    intro hx v1 v2 v3 I L f0
    refine pn_lp [9, 33] 400 ?_
    conv => whnf
    refine ⟨fun _ => ?_, fun _ => ?_⟩
    · conv => whnf
      exact pn_dec n (hx _ _ _ _ _ _ f0)
    · conv => whnf
      intro _
      conv => whnf
      exact ih (fun q0 q1 q2 q3 I L f => pn_dec n (hx q0 q1 q2 q3 I L f)) _ _ _ _ _ (fr_up rfl f0)
set_option maxHeartbeats 4000000 in
set_option maxRecDepth 20000 in
theorem Fx131 {d : Nat} {k : jK} {a1 : Int32} {a2 : Int32} {I : jI} {L : jL} (hk : ∀ (I' : jI) (L' : jL), fr [35, 36] I I' → k none (I', L')) : jPM d 131 [.inr (31, 0), .inl (.inl a1), .inl (.inl a2)] (I, L) k := by
  refine pM (fun d n => ?_)
  refine pn_go [9] 400 ?_
  conv => whnf
  intro _
  conv => whnf
  refine FxL131_9  _ (fun _ _ _ _ I1 L1 f1 => ?_) _ _ _ _ _ fr_rf
  refine pn_go [9] 400 ?_
  conv => whnf
  exact hk _ _ (fr_then (by decide) (fr_up rfl fr_rf) f1)
set_option maxHeartbeats 4000000 in
set_option maxRecDepth 20000 in
theorem Fx126 {d : Nat} {k : jK} {a1 : Int32} {I : jI} {L : jL} (hk : ∀ (x : Int32) (I' : jI) (L' : jL), fr [39, 32013] I I' → k (some (.inl (.inl x))) (I', L')) : jPM d 126 [.inr (31, 0), .inl (.inl a1)] (I, L) k := by
  refine pM (fun d n => ?_)
  refine pn_go [] 400 ?_
  conv => whnf
  intro _
  conv => whnf
  intro _
  conv => whnf
  exact hk _ _ _ (fr_up rfl (fr_up rfl fr_rf))
set_option maxHeartbeats 4000000 in
set_option maxRecDepth 20000 in
theorem Fx130 {d : Nat} {k : jK} {a1 : Int32} {a2 : Int32} {I : jI} {L : jL} (hk : ∀ (x : Int32) (I' : jI) (L' : jL), fr [35, 36, 39, 32013] I I' → k (some (.inl (.inl x))) (I', L')) : jPM d 130 [.inr (31, 0), .inl (.inl a1), .inl (.inl a2)] (I, L) k := by
  refine pM (fun d n => ?_)
  refine pn_go [] 400 ?_
  conv => whnf
  refine Fx128 (fun x1 I1 L1 f1 => ?_)
  conv => whnf
  refine ⟨fun _ => ?_, fun _ => ?_⟩
  · conv => whnf
    exact hk _ _ _ (fr_then (by decide) fr_rf f1)
  · conv => whnf
    refine ⟨fun _ => ?_, fun _ => ?_⟩
    · conv => whnf
      refine ⟨fun _ => ?_, fun _ => ?_⟩
      · conv => whnf
        refine Fx131 (fun I2 L2 f2 => ?_)
        conv => whnf
        exact hk _ _ _ (fr_then (by decide) (fr_then (by decide) fr_rf f1) f2)
      · conv => whnf
        refine Fx126 (fun x3 I3 L3 f3 => ?_)
        conv => whnf
        exact hk _ _ _ (fr_then (by decide) (fr_then (by decide) fr_rf f1) f3)
    · conv => whnf
      exact hk _ _ _ (fr_then (by decide) fr_rf f1)
set_option maxHeartbeats 4000000 in
set_option maxRecDepth 20000 in
theorem Fx132 {d : Nat} {k : jK} {a1 : Int32} {a2 : Int32} {I : jI} {L : jL} (hk : ∀ (x : Int32) (I' : jI) (L' : jL), fr [39, 32013] I I' → k (some (.inl (.inl x))) (I', L')) : jPM d 132 [.inr (31, 0), .inl (.inl a1), .inl (.inl a2)] (I, L) k := by
  refine pM (fun d n => ?_)
  refine pn_go [] 400 ?_
  conv => whnf
  refine Fx128 (fun x1 I1 L1 f1 => ?_)
  conv => whnf
  refine ⟨fun _ => ?_, fun _ => ?_⟩
  · conv => whnf
    intro _
    conv => whnf
    refine ⟨fun _ => ?_, fun _ => ?_⟩
    · conv => whnf
      intro _
      conv => whnf
      refine Fx124 (fun x2 I2 L2 f2 => ?_)
      conv => whnf
      refine ⟨fun _ => ?_, fun _ => ?_⟩
      · conv => whnf
        refine Fx126 (fun x3 I3 L3 f3 => ?_)
        conv => whnf
        exact hk _ _ _ (fr_then (by decide) (fr_then (by decide) (fr_then (by decide) fr_rf f1) f2) f3)
      · conv => whnf
        exact hk _ _ _ (fr_then (by decide) (fr_then (by decide) fr_rf f1) f2)
    · conv => whnf
      refine Fx126 (fun x4 I4 L4 f4 => ?_)
      conv => whnf
      exact hk _ _ _ (fr_then (by decide) (fr_then (by decide) fr_rf f1) f4)
  · conv => whnf
    exact hk _ _ _ (fr_then (by decide) fr_rf f1)
set_option maxHeartbeats 4000000 in
set_option maxRecDepth 20000 in
theorem Fx127 {d : Nat} {k : jK} {a1 : Int32} {I : jI} {L : jL} (hk : ∀ (x : Int32) (I' : jI) (L' : jL), fr [32010] I I' → k (some (.inl (.inl x))) (I', L')) : jPM d 127 [.inr (31, 0), .inl (.inl a1)] (I, L) k := by
  refine pM (fun d n => ?_)
  refine pn_go [] 400 ?_
  conv => whnf
  exact hk _ _ _ (fr_up rfl fr_rf)
set_option maxHeartbeats 4000000 in
set_option maxRecDepth 20000 in
theorem Fx133 {d : Nat} {k : jK} {a1 : Int32} {a2 : Int32} {a3 : Int32} {I : jI} {L : jL} (hk : ∀ (x : Int32) (I' : jI) (L' : jL), fr [36, 39, 32010, 32013] I I' → k (some (.inl (.inl x))) (I', L')) : jPM d 133 [.inr (31, 0), .inl (.inl a1), .inl (.inl a2), .inl (.inl a3)] (I, L) k := by
  refine pM (fun d n => ?_)
  refine pn_go [] 400 ?_
  conv => whnf
  refine Fx132 (fun x1 I1 L1 f1 => ?_)
  conv => whnf
  refine ⟨fun _ => ?_, fun _ => ?_⟩
  · conv => whnf
    intro _
    conv => whnf
    intro _
    conv => whnf
    refine Fx127 (fun x2 I2 L2 f2 => ?_)
    conv => whnf
    exact hk _ _ _ (fr_then (by decide) (fr_up rfl (fr_then (by decide) fr_rf f1)) f2)
  · conv => whnf
    exact hk _ _ _ (fr_then (by decide) fr_rf f1)
set_option maxHeartbeats 4000000 in
set_option maxRecDepth 20000 in
theorem Fx134 {d : Nat} {k : jK} {a1 : Int32} {a2 : Int32} {I : jI} {L : jL} (hk : ∀ (x : Int32) (I' : jI) (L' : jL), fr [39, 32010, 32013] I I' → k (some (.inl (.inl x))) (I', L')) : jPM d 134 [.inr (31, 0), .inl (.inl a1), .inl (.inl a2)] (I, L) k := by
  refine pM (fun d n => ?_)
  refine pn_go [] 400 ?_
  conv => whnf
  refine Fx132 (fun x1 I1 L1 f1 => ?_)
  conv => whnf
  refine ⟨fun _ => ?_, fun _ => ?_⟩
  · conv => whnf
    intro _
    conv => whnf
    refine Fx127 (fun x2 I2 L2 f2 => ?_)
    conv => whnf
    exact hk _ _ _ (fr_then (by decide) (fr_then (by decide) fr_rf f1) f2)
  · conv => whnf
    exact hk _ _ _ (fr_then (by decide) fr_rf f1)
set_option maxHeartbeats 4000000 in
set_option maxRecDepth 20000 in
theorem Fx135 {d : Nat} {k : jK} {a1 : Int32} {I : jI} {L : jL} (hk : ∀ (x : Int32) (I' : jI) (L' : jL), fr [35, 39, 32013] I I' → k (some (.inl (.inl x))) (I', L')) : jPM d 135 [.inr (31, 0), .inl (.inl a1)] (I, L) k := by
  refine pM (fun d n => ?_)
  refine pn_go [] 400 ?_
  conv => whnf
  refine Fx128 (fun x1 I1 L1 f1 => ?_)
  conv => whnf
  refine ⟨fun _ => ?_, fun _ => ?_⟩
  · conv => whnf
    intro _
    conv => whnf
    refine ⟨fun _ => ?_, fun _ => ?_⟩
    · conv => whnf
      intro _
      conv => whnf
      exact hk _ _ _ (fr_up rfl (fr_then (by decide) fr_rf f1))
    · conv => whnf
      refine Fx126 (fun x2 I2 L2 f2 => ?_)
      conv => whnf
      exact hk _ _ _ (fr_then (by decide) (fr_then (by decide) fr_rf f1) f2)
  · conv => whnf
    exact hk _ _ _ (fr_then (by decide) fr_rf f1)
set_option maxHeartbeats 4000000 in
set_option maxRecDepth 20000 in
theorem Fx136 {d : Nat} {k : jK} {a1 : Int32} {a2 : Int32} {a3 : Int32} {I : jI} {L : jL} (hk : ∀ (x : Int32) (I' : jI) (L' : jL), fr [] I I' → k (some (.inl (.inl x))) (I', L')) : jPM d 136 [.inr (31, 0), .inl (.inl a1), .inl (.inl a2), .inl (.inl a3)] (I, L) k := by
  refine pM (fun d n => ?_)
  refine pn_go [] 400 ?_
  conv => whnf
  refine ⟨fun _ => ?_, fun _ => ?_⟩
  · conv => whnf
    exact fun _ => hk _ _ _ fr_rf
  · conv => whnf
    intro _
    conv => whnf
    refine ⟨fun _ => ?_, fun _ => ?_⟩
    · conv => whnf
      exact fun _ => hk _ _ _ fr_rf
    · conv => whnf
      exact fun _ => hk _ _ _ fr_rf
set_option maxHeartbeats 4000000 in
set_option maxRecDepth 20000 in
theorem FxL137_96 {d : Nat} {k : jK} {I0 : jI}  : ∀ (n : Nat), (∀ (v0 : Option jV) (v1 : Option jV) (v2 : Option jV) (v3 : Option jV) (v4 : Option jV) (v5 : Option jV) (v6 : Option jV) (v7 : Option jV) (v8 : Option jV) (I : jI) (L : jL), fr [36] I0 I → pn (jPM d) k none (jco 137) n (157, [v0, v1, v2, v3, v4, v5, v6, v7, v8], [], I, L)) → ∀ (v1 : Int32) (v2 : Int32) (v3 : Int32) (v4 : Int32) (v5 : Int32) (v6 : Int32) (v7 : Int32) (v8 : Option jV) (I : jI) (L : jL), fr [36] I0 I → pn (jPM d) k none (jco 137) n (96, [some (.inr (31, 0)), some (.inl (.inl v1)), some (.inl (.inl v2)), some (.inl (.inl v3)), some (.inl (.inl v4)), some (.inl (.inl v5)), some (.inl (.inl v6)), some (.inl (.inl v7)), v8], [], I, L) := by
  intro n
  induction n with
  | zero => intro _ v v v v v v v v I L f0; trivial
  | succ n ih =>
    intro hx v1 v2 v3 v4 v5 v6 v7 v8 I L f0
    refine pn_lp [96, 157] 400 ?_
    conv => whnf
    refine ⟨fun _ => ?_, fun _ => ?_⟩
    · conv => whnf
      exact pn_dec n (hx _ _ _ _ _ _ _ _ _ _ _ f0)
    · conv => whnf
      refine ⟨fun _ => ?_, fun _ => ?_⟩
      · conv => whnf
        intro _
        conv => whnf
        intro _
        conv => whnf
        exact ih (fun q0 q1 q2 q3 q4 q5 q6 q7 q8 I L f => pn_dec n (hx q0 q1 q2 q3 q4 q5 q6 q7 q8 I L f)) _ _ _ _ _ _ _ _ _ _ (fr_up rfl f0)
      · conv => whnf
        intro _
        conv => whnf
        intro _
        conv => whnf
        exact ih (fun q0 q1 q2 q3 q4 q5 q6 q7 q8 I L f => pn_dec n (hx q0 q1 q2 q3 q4 q5 q6 q7 q8 I L f)) _ _ _ _ _ _ _ _ _ _ (fr_up rfl f0)
set_option maxHeartbeats 4000000 in
set_option maxRecDepth 20000 in
theorem Fx137 {d : Nat} {k : jK} {a1 : Int32} {a2 : Int32} {a3 : Int32} {a4 : Int32} {a5 : Int32} {I : jI} {L : jL} (hk : ∀ (x : Int32) (I' : jI) (L' : jL), fr [36, 39, 32013] I I' → k (some (.inl (.inl x))) (I', L')) : jPM d 137 [.inr (31, 0), .inl (.inl a1), .inl (.inl a2), .inl (.inl a3), .inl (.inl a4), .inl (.inl a5)] (I, L) k := by
  refine pM (fun d n => ?_)
  refine pn_go [96] 400 ?_
  conv => whnf
  refine Fx128 (fun x1 I1 L1 f1 => ?_)
  conv => whnf
  refine ⟨fun _ => ?_, fun _ => ?_⟩
  · conv => whnf
    exact hk _ _ _ (fr_then (by decide) fr_rf f1)
  · conv => whnf
    refine Fx128 (fun x2 I2 L2 f2 => ?_)
    conv => whnf
    refine ⟨fun _ => ?_, fun _ => ?_⟩
    · conv => whnf
      refine ⟨fun _ => ?_, fun _ => ?_⟩
      · conv => whnf
        intro _
        conv => whnf
        refine ⟨fun _ => ?_, fun _ => ?_⟩
        · conv => whnf
          refine Fx126 (fun x3 I3 L3 f3 => ?_)
          conv => whnf
          exact hk _ _ _ (fr_then (by decide) (fr_then (by decide) (fr_then (by decide) fr_rf f1) f2) f3)
        · conv => whnf
          intro _
          conv => whnf
          refine ⟨fun _ => ?_, fun _ => ?_⟩
          · conv => whnf
            refine Fx136 (fun x4 I4 L4 f4 => ?_)
            conv => whnf
            refine ⟨fun _ => ?_, fun _ => ?_⟩
            · conv => whnf
              refine Fx126 (fun x5 I5 L5 f5 => ?_)
              conv => whnf
              exact hk _ _ _ (fr_then (by decide) (fr_then (by decide) (fr_then (by decide) (fr_then (by decide) fr_rf f1) f2) f4) f5)
            · conv => whnf
              refine Fx136 (fun x6 I6 L6 f6 => ?_)
              conv => whnf
              refine ⟨fun _ => ?_, fun _ => ?_⟩
              · conv => whnf
                refine ⟨fun _ => ?_, fun _ => ?_⟩
                · conv => whnf
                  refine FxL137_96  _ (fun _ _ _ _ _ _ _ _ _ I7 L7 f7 => ?_) _ _ _ _ _ _ _ _ _ _ fr_rf
                  refine pn_go [96] 400 ?_
                  conv => whnf
                  exact hk _ _ _ (fr_then (by decide) (fr_then (by decide) (fr_then (by decide) (fr_then (by decide) (fr_then (by decide) fr_rf f1) f2) f4) f6) f7)
                · conv => whnf
                  refine FxL137_96  _ (fun _ _ _ _ _ _ _ _ _ I8 L8 f8 => ?_) _ _ _ _ _ _ _ _ _ _ fr_rf
                  refine pn_go [96] 400 ?_
                  conv => whnf
                  exact hk _ _ _ (fr_then (by decide) (fr_then (by decide) (fr_then (by decide) (fr_then (by decide) (fr_then (by decide) fr_rf f1) f2) f4) f6) f8)
              · conv => whnf
                refine Fx126 (fun x9 I9 L9 f9 => ?_)
                conv => whnf
                exact hk _ _ _ (fr_then (by decide) (fr_then (by decide) (fr_then (by decide) (fr_then (by decide) (fr_then (by decide) fr_rf f1) f2) f4) f6) f9)
          · conv => whnf
            refine Fx126 (fun x10 I10 L10 f10 => ?_)
            conv => whnf
            exact hk _ _ _ (fr_then (by decide) (fr_then (by decide) (fr_then (by decide) fr_rf f1) f2) f10)
      · conv => whnf
        refine Fx126 (fun x11 I11 L11 f11 => ?_)
        conv => whnf
        exact hk _ _ _ (fr_then (by decide) (fr_then (by decide) (fr_then (by decide) fr_rf f1) f2) f11)
    · conv => whnf
      exact hk _ _ _ (fr_then (by decide) (fr_then (by decide) fr_rf f1) f2)
set_option maxHeartbeats 4000000 in
set_option maxRecDepth 20000 in
theorem FxL138_44 {d : Nat} {k : jK} {I0 : jI}  : ∀ (n : Nat), (∀ (v1 : Int32) (v2 : Int64) (v4 : Option jV) (I : jI) (L : jL), fr [] I0 I → pn (jPM d) k none (jco 138) n (77, [some (.inr (31, 0)), some (.inl (.inl v1)), some (.inl (.inr v2)), none, v4], [], I, L)) → ∀ (v1 : Int32) (v2 : Int64) (v4 : Int32) (I : jI) (L : jL), fr [] I0 I → pn (jPM d) k none (jco 138) n (44, [some (.inr (31, 0)), some (.inl (.inl v1)), some (.inl (.inr v2)), none, some (.inl (.inl v4))], [], I, L) := by
  intro n
  induction n with
  | zero => intro _ v v v I L f0; trivial
  | succ n ih =>
    intro hx v1 v2 v4 I L f0
    refine pn_lp [44, 77] 400 ?_
    conv => whnf
    intro _
    conv => whnf
    refine ⟨fun _ => ?_, fun _ => ?_⟩
    · conv => whnf
      exact pn_dec n (hx _ _ _ _ _ f0)
    · conv => whnf
      intro _
      conv => whnf
      exact ih (fun q0 q1 q2 I L f => pn_dec n (hx q0 q1 q2 I L f)) _ _ _ _ _ f0
set_option maxHeartbeats 4000000 in
set_option maxRecDepth 20000 in
theorem Fx138 {d : Nat} {k : jK} {a1 : Int32} {I : jI} {L : jL} (hk : ∀ (x : Int32) (I' : jI) (L' : jL), fr [39, 32010, 32013] I I' → k (some (.inl (.inl x))) (I', L')) : jPM d 138 [.inr (31, 0), .inl (.inl a1)] (I, L) k := by
  refine pM (fun d n => ?_)
  refine pn_go [44] 400 ?_
  conv => whnf
  refine Fx128 (fun x1 I1 L1 f1 => ?_)
  conv => whnf
  refine ⟨fun _ => ?_, fun _ => ?_⟩
  · conv => whnf
    intro _
    conv => whnf
    refine ⟨fun _ => ?_, fun _ => ?_⟩
    · conv => whnf
      intro _
      conv => whnf
      refine ⟨fun _ => ?_, fun _ => ?_⟩
      · conv => whnf
        refine FxL138_44  _ (fun _ _ _ I2 L2 f2 => ?_) _ _ _ _ _ fr_rf
        refine pn_go [44] 400 ?_
        conv => whnf
        intro _
        conv => whnf
        intro _
        conv => whnf
        refine Fx127 (fun x3 I3 L3 f3 => ?_)
        conv => whnf
        exact hk _ _ _ (fr_then (by decide) (fr_then (by decide) (fr_then (by decide) fr_rf f1) f2) f3)
      · conv => whnf
        refine Fx126 (fun x4 I4 L4 f4 => ?_)
        conv => whnf
        exact hk _ _ _ (fr_then (by decide) (fr_then (by decide) fr_rf f1) f4)
    · conv => whnf
      refine Fx126 (fun x5 I5 L5 f5 => ?_)
      conv => whnf
      exact hk _ _ _ (fr_then (by decide) (fr_then (by decide) fr_rf f1) f5)
  · conv => whnf
    exact hk _ _ _ (fr_then (by decide) fr_rf f1)
set_option maxHeartbeats 4000000 in
set_option maxRecDepth 20000 in
theorem Fx129 {d : Nat} {k : jK} {a0 : Int32} {I : jI} {L : jL} (hk : ∀ (x : Int32) (I' : jI) (L' : jL), fr [] I I' → k (some (.inl (.inl x))) (I', L')) : jPM d 129 [.inl (.inl a0)] (I, L) k := by
  refine pM (fun d n => ?_)
  refine pn_go [] 400 ?_
  conv => whnf
  refine Fx124 (fun x1 I1 L1 f1 => ?_)
  conv => whnf
  exact fun _ => hk _ _ _ (fr_then (by decide) fr_rf f1)
set_option maxHeartbeats 4000000 in
set_option maxRecDepth 20000 in
theorem FxL139_34 {d : Nat} {k : jK} {I0 : jI}  : ∀ (n : Nat), (∀ (v0 : Option jV) (v1 : Option jV) (v2 : Int32) (v3 : Option jV) (I : jI) (L : jL), fr [38] I0 I → pn (jPM d) k none (jco 139) n (59, [v0, v1, some (.inl (.inl v2)), v3], [], I, L)) → ∀ (v1 : Int32) (v2 : Int32) (v3 : Int32) (I : jI) (L : jL), fr [38] I0 I → pn (jPM d) k none (jco 139) n (34, [some (.inr (31, 0)), some (.inl (.inl v1)), some (.inl (.inl v2)), some (.inl (.inl v3))], [], I, L) := by
  intro n
  induction n with
  | zero => intro _ v v v I L f0; trivial
  | succ n ih =>
    intro hx v1 v2 v3 I L f0
    refine pn_lp [34, 59] 400 ?_
    conv => whnf
    refine ⟨fun _ => ?_, fun _ => ?_⟩
    · conv => whnf
      exact pn_dec n (hx _ _ _ _ _ _ f0)
    · conv => whnf
      intro _
      conv => whnf
      exact ih (fun q0 q1 q2 q3 I L f => pn_dec n (hx q0 q1 q2 q3 I L f)) _ _ _ _ _ (fr_up rfl f0)
set_option maxHeartbeats 4000000 in
set_option maxRecDepth 20000 in
theorem Fx139 {d : Nat} {k : jK} {a1 : Int32} {a2 : Int32} {I : jI} {L : jL} (hk : ∀ (x : Int32) (I' : jI) (L' : jL), fr [37, 38, 39, 32013] I I' → k (some (.inl (.inl x))) (I', L')) : jPM d 139 [.inr (31, 0), .inl (.inl a1), .inl (.inl a2)] (I, L) k := by
  refine pM (fun d n => ?_)
  refine pn_go [34] 400 ?_
  conv => whnf
  refine Fx129 (fun x1 I1 L1 f1 => ?_)
  conv => whnf
  refine ⟨fun _ => ?_, fun _ => ?_⟩
  · conv => whnf
    exact hk _ _ _ (fr_then (by decide) fr_rf f1)
  · conv => whnf
    refine ⟨fun _ => ?_, fun _ => ?_⟩
    · conv => whnf
      refine ⟨fun _ => ?_, fun _ => ?_⟩
      · conv => whnf
        intro _
        conv => whnf
        refine FxL139_34  _ (fun _ _ _ _ I2 L2 f2 => ?_) _ _ _ _ _ fr_rf
        refine pn_go [34] 400 ?_
        conv => whnf
        exact hk _ _ _ (fr_then (by decide) (fr_up rfl (fr_then (by decide) fr_rf f1)) f2)
      · conv => whnf
        refine Fx126 (fun x3 I3 L3 f3 => ?_)
        conv => whnf
        exact hk _ _ _ (fr_then (by decide) (fr_then (by decide) fr_rf f1) f3)
    · conv => whnf
      exact hk _ _ _ (fr_then (by decide) fr_rf f1)
set_option maxHeartbeats 4000000 in
set_option maxRecDepth 20000 in
theorem Fx140 {d : Nat} {k : jK} {a1 : Int32} {a2 : Int32} {a3 : Int32} {I : jI} {L : jL} (hk : ∀ (x : Int32) (I' : jI) (L' : jL), fr [38, 39, 32013] I I' → k (some (.inl (.inl x))) (I', L')) : jPM d 140 [.inr (31, 0), .inl (.inl a1), .inl (.inl a2), .inl (.inl a3)] (I, L) k := by
  refine pM (fun d n => ?_)
  refine pn_go [] 400 ?_
  conv => whnf
  refine Fx129 (fun x1 I1 L1 f1 => ?_)
  conv => whnf
  refine ⟨fun _ => ?_, fun _ => ?_⟩
  · conv => whnf
    intro _
    conv => whnf
    refine ⟨fun _ => ?_, fun _ => ?_⟩
    · conv => whnf
      intro _
      conv => whnf
      refine Fx124 (fun x2 I2 L2 f2 => ?_)
      conv => whnf
      refine ⟨fun _ => ?_, fun _ => ?_⟩
      · conv => whnf
        intro _
        conv => whnf
        intro _
        conv => whnf
        exact hk _ _ _ (fr_up rfl (fr_then (by decide) (fr_then (by decide) fr_rf f1) f2))
      · conv => whnf
        refine Fx126 (fun x3 I3 L3 f3 => ?_)
        conv => whnf
        exact hk _ _ _ (fr_then (by decide) (fr_then (by decide) (fr_then (by decide) fr_rf f1) f2) f3)
    · conv => whnf
      refine Fx126 (fun x4 I4 L4 f4 => ?_)
      conv => whnf
      exact hk _ _ _ (fr_then (by decide) (fr_then (by decide) fr_rf f1) f4)
  · conv => whnf
    exact hk _ _ _ (fr_then (by decide) fr_rf f1)
set_option maxHeartbeats 4000000 in
set_option maxRecDepth 20000 in
theorem Fx141 {d : Nat} {k : jK} {I : jI} {L : jL} (hk : ∀ (x : Int32) (I' : jI) (L' : jL), fr [] I I' → k (some (.inl (.inl x))) (I', L')) : jPM d 141 [.inr (31, 0)] (I, L) k := by
  refine pM (fun d n => ?_)
  refine pn_go [] 400 ?_
  conv => whnf
  intro _
  conv => whnf
  exact hk _ _ _ fr_rf
set_option maxHeartbeats 4000000 in
set_option maxRecDepth 20000 in
theorem FxL142_0 {d : Nat} {k : jK} {I0 : jI}  : ∀ (n : Nat), (∀ (v0 : Option jV) (I : jI) (L : jL), fr [32016] I0 I → pn (jPM d) k none (jco 142) n (33, [v0], [], I, L)) → ∀ (I : jI) (L : jL), fr [32016] I0 I → pn (jPM d) k none (jco 142) n (0, [some (.inr (31, 0))], [], I, L) := by
  intro n
  induction n with
  | zero => intro _  I L f0; trivial
  | succ n ih =>
    intro hx  I L f0
    refine pn_lp [0, 33] 400 ?_
    conv => whnf
    refine ⟨fun _ => ?_, fun _ => ?_⟩
    · conv => whnf
      exact pn_dec n (hx _ _ _ f0)
    · conv => whnf
      refine Fx141 (fun x1 I1 L1 f1 => ?_)
      conv => whnf
      refine ⟨fun _ => ?_, fun _ => ?_⟩
      · conv => whnf
        exact pn_dec n (hx _ _ _ (fr_then (by decide) f0 f1))
      · conv => whnf
        exact ih (fun q0 I L f => pn_dec n (hx q0 I L f)) _ _ (fr_up rfl (fr_then (by decide) f0 f1))
set_option maxHeartbeats 4000000 in
set_option maxRecDepth 20000 in
theorem Fx142 {d : Nat} {k : jK} {I : jI} {L : jL} (hk : ∀ (I' : jI) (L' : jL), fr [32016] I I' → k none (I', L')) : jPM d 142 [.inr (31, 0)] (I, L) k := by
  refine pM (fun d n => ?_)
  refine FxL142_0  _ (fun _ I1 L1 f1 => ?_) _ _ fr_rf
  refine pn_go [0] 400 ?_
  conv => whnf
  exact hk _ _ (fr_then (by decide) fr_rf f1)
set_option maxHeartbeats 4000000 in
set_option maxRecDepth 20000 in
theorem Fx143 {d : Nat} {k : jK} {a1 : Int32} {a2 : Int32} {I : jI} {L : jL} (hk : ∀ (x : Int32) (I' : jI) (L' : jL), fr [32016] I I' → k (some (.inl (.inl x))) (I', L')) : jPM d 143 [.inr (31, 0), .inl (.inl a1), .inl (.inl a2)] (I, L) k := by
  refine pM (fun d n => ?_)
  refine pn_go [] 400 ?_
  conv => whnf
  refine ⟨fun _ => ?_, fun _ => ?_⟩
  · conv => whnf
    exact hk _ _ _ fr_rf
  · conv => whnf
    refine Fx141 (fun x1 I1 L1 f1 => ?_)
    conv => whnf
    refine Fx124 (fun x2 I2 L2 f2 => ?_)
    conv => whnf
    refine ⟨fun _ => ?_, fun _ => ?_⟩
    · conv => whnf
      intro _
      conv => whnf
      exact hk _ _ _ (fr_up rfl (fr_then (by decide) (fr_then (by decide) fr_rf f1) f2))
    · conv => whnf
      exact hk _ _ _ (fr_then (by decide) (fr_then (by decide) fr_rf f1) f2)
