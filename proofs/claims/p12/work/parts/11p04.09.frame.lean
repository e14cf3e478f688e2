set_option maxHeartbeats 4000000 in
set_option maxRecDepth 20000 in
theorem Fx177 {d : Nat} {k : jK} {a1 : Int32} {a2 : Int32} {I : jI} {L : jL} (hk : ∀ (x : Int32) (I' : jI) (L' : jL), fr [] I I' → k (some (.inl (.inl x))) (I', L')) : jPM d 177 [.inr (31, 0), .inl (.inl a1), .inl (.inl a2)] (I, L) k := by
  refine pM (fun d n => ?_)
  refine pn_go [] 400 ?_
  conv => whnf
  refine Fx151 (fun x1 I1 L1 f1 => ?_)
  conv => whnf
  refine ⟨fun _ => ?_, fun _ => ?_⟩
  · conv => whnf
    exact hk _ _ _ (fr_then (by decide) fr_rf f1)
  · conv => whnf
    refine Fx124 (fun x2 I2 L2 f2 => ?_)
    conv => whnf
    refine ⟨fun _ => ?_, fun _ => ?_⟩
    · conv => whnf
      exact hk _ _ _ (fr_then (by decide) (fr_then (by decide) fr_rf f1) f2)
    · conv => whnf
      refine Fx153 (fun x3 I3 L3 f3 => ?_)
      conv => whnf
      exact hk _ _ _ (fr_then (by decide) (fr_then (by decide) (fr_then (by decide) fr_rf f1) f2) f3)
set_option maxHeartbeats 4000000 in
set_option maxRecDepth 20000 in
theorem FxL178_6 {d : Nat} {k : jK} {I0 : jI}  : ∀ (n : Nat), (∀ (v1 : Int64) (v3 : Int64) (v5 : Int64) (v7 : Option jV) (v8 : Option jV) (v9 : Option jV) (v10 : Option jV) (I : jI) (L : jL), fr [] I0 I → pn (jPM d) k none (jco 178) n (31, [some (.inr (31, 0)), some (.inl (.inr v1)), none, some (.inl (.inr v3)), none, some (.inl (.inr v5)), none, v7, v8, v9, v10], [], I, L)) → ∀ (v1 : Int64) (v3 : Int64) (v5 : Int64) (v7 : Int64) (v9 : Option jV) (v10 : Option jV) (I : jI) (L : jL), fr [] I0 I → pn (jPM d) k none (jco 178) n (6, [some (.inr (31, 0)), some (.inl (.inr v1)), none, some (.inl (.inr v3)), none, some (.inl (.inr v5)), none, some (.inl (.inr v7)), none, v9, v10], [], I, L) := by
  intro n
  induction n with
  | zero => intro _ v v v v v v I L f0; trivial
  | succ n ih =>
    intro hx v1 v3 v5 v7 v9 v10 I L f0
    refine pn_lp [6, 31] 400 ?_
    conv => whnf
    refine ⟨fun _ => ?_, fun _ => ?_⟩
    · conv => whnf
      exact pn_dec n (hx _ _ _ _ _ _ _ _ _ f0)
    · conv => whnf
      intro _
      conv => whnf
      exact ih (fun q0 q1 q2 q3 q4 q5 q6 I L f => pn_dec n (hx q0 q1 q2 q3 q4 q5 q6 I L f)) _ _ _ _ _ _ _ _ f0
set_option maxHeartbeats 4000000 in
set_option maxRecDepth 20000 in
theorem Fx178 {d : Nat} {k : jK} {a1 : Int64} {a2 : Int64} {I : jI} {L : jL} (hk : ∀ (x : Int32) (I' : jI) (L' : jL), fr [] I I' → k (some (.inl (.inl x))) (I', L')) : jPM d 178 [.inr (31, 0), .inl (.inr a1), .inl (.inr a2)] (I, L) k := by
  refine pM (fun d n => ?_)
  refine pn_go [6] 400 ?_
  conv => whnf
  refine FxL178_6  _ (fun _ _ _ _ _ _ _ I1 L1 f1 => ?_) _ _ _ _ _ _ _ _ fr_rf
  refine pn_go [6] 400 ?_
  conv => whnf
  intro _
  conv => whnf
  intro _
  conv => whnf
  exact hk _ _ _ (fr_then (by decide) fr_rf f1)
set_option maxHeartbeats 4000000 in
set_option maxRecDepth 20000 in
theorem Fx179 {d : Nat} {k : jK} {a1 : Int32} {I : jI} {L : jL} (hk : ∀ (x : Int32) (I' : jI) (L' : jL), fr [] I I' → k (some (.inl (.inl x))) (I', L')) : jPM d 179 [.inr (31, 0), .inl (.inl a1)] (I, L) k := by
  refine pM (fun d n => ?_)
  refine pn_go [] 400 ?_
  conv => whnf
  refine Fx151 (fun x1 I1 L1 f1 => ?_)
  conv => whnf
  refine ⟨fun _ => ?_, fun _ => ?_⟩
  · conv => whnf
    refine Fx155 (fun x2 I2 L2 f2 => ?_)
    conv => whnf
    refine ⟨fun _ => ?_, fun _ => ?_⟩
    · conv => whnf
      refine Fx153 (fun x3 I3 L3 f3 => ?_)
      conv => whnf
      refine Fx155 (fun x4 I4 L4 f4 => ?_)
      conv => whnf
      refine Fx178 (fun x5 I5 L5 f5 => ?_)
      conv => whnf
      exact hk _ _ _ (fr_then (by decide) (fr_then (by decide) (fr_then (by decide) (fr_then (by decide) (fr_then (by decide) fr_rf f1) f2) f3) f4) f5)
    · conv => whnf
      exact hk _ _ _ (fr_then (by decide) (fr_then (by decide) fr_rf f1) f2)
  · conv => whnf
    exact hk _ _ _ (fr_then (by decide) fr_rf f1)
set_option maxHeartbeats 4000000 in
set_option maxRecDepth 20000 in
theorem Fx180 {d : Nat} {k : jK} {a1 : Int32} {a2 : Int32} {I : jI} {L : jL} (hk : ∀ (x : Int32) (I' : jI) (L' : jL), fr [] I I' → k (some (.inl (.inl x))) (I', L')) : jPM d 180 [.inr (31, 0), .inl (.inl a1), .inl (.inl a2)] (I, L) k := by
  refine pM (fun d n => ?_)
  refine pn_go [] 400 ?_
  conv => whnf
  refine Fx153 (fun x1 I1 L1 f1 => ?_)
  conv => whnf
  refine Fx155 (fun x2 I2 L2 f2 => ?_)
  conv => whnf
  refine Fx153 (fun x3 I3 L3 f3 => ?_)
  conv => whnf
  refine Fx155 (fun x4 I4 L4 f4 => ?_)
  conv => whnf
  exact hk _ _ _ (fr_then (by decide) (fr_then (by decide) (fr_then (by decide) (fr_then (by decide) fr_rf f1) f2) f3) f4)
set_option maxHeartbeats 4000000 in
set_option maxRecDepth 20000 in
theorem FxL181_15 {d : Nat} {k : jK} {I0 : jI}  : ∀ (n : Nat), (∀ (v1 : Int32) (v2 : Option jV) (I : jI) (L : jL), fr [] I0 I → pn (jPM d) k none (jco 181) n (59, [some (.inr (31, 0)), some (.inl (.inl v1)), v2], [], I, L)) → ∀ (v1 : Int32) (v2 : Int32) (I : jI) (L : jL), fr [] I0 I → pn (jPM d) k none (jco 181) n (15, [some (.inr (31, 0)), some (.inl (.inl v1)), some (.inl (.inl v2))], [], I, L) := by
  intro n
  induction n with
  | zero => intro _ v v I L f0; trivial
  | succ n ih =>
    intro hx v1 v2 I L f0
    refine pn_lp [15, 59, 75] 400 ?_
    conv => whnf
    refine ⟨fun _ => ?_, fun _ => ?_⟩
    · conv => whnf
      exact pn_dec n (hx _ _ _ _ f0)
    · conv => whnf
      refine Fx155 (fun x1 I1 L1 f1 => ?_)
      conv => whnf
      refine ⟨fun _ => ?_, fun _ => ?_⟩
      · conv => whnf
        exact ih (fun q0 q1 I L f => pn_dec n (hx q0 q1 I L f)) _ _ _ _ (fr_then (by decide) f0 f1)
      · conv => whnf
        refine ⟨fun _ => ?_, fun _ => ?_⟩
        · conv => whnf
          exact ih (fun q0 q1 I L f => pn_dec n (hx q0 q1 I L f)) _ _ _ _ (fr_then (by decide) f0 f1)
        · conv => whnf
          refine Fx180 (fun x2 I2 L2 f2 => ?_)
          conv => whnf
          refine ⟨fun _ => ?_, fun _ => ?_⟩
          · conv => whnf
            exact ih (fun q0 q1 I L f => pn_dec n (hx q0 q1 I L f)) _ _ _ _ (fr_then (by decide) (fr_then (by decide) f0 f1) f2)
          · conv => whnf
            exact ih (fun q0 q1 I L f => pn_dec n (hx q0 q1 I L f)) _ _ _ _ (fr_then (by decide) (fr_then (by decide) f0 f1) f2)
set_option maxHeartbeats 4000000 in
set_option maxRecDepth 20000 in
theorem FxL181_75 {d : Nat} {k : jK} {I0 : jI}  : ∀ (n : Nat), (∀ (v0 : Option jV) (v1 : Int32) (v2 : Option jV) (I : jI) (L : jL), fr [32010] I0 I → pn (jPM d) k none (jco 181) n (123, [v0, some (.inl (.inl v1)), v2], [], I, L)) → ∀ (v1 : Int32) (v2 : Int32) (I : jI) (L : jL), fr [32010] I0 I → pn (jPM d) k none (jco 181) n (75, [some (.inr (31, 0)), some (.inl (.inl v1)), some (.inl (.inl v2))], [], I, L) := by
  intro n
  induction n with
  | zero => intro _ v v I L f0; trivial
  | succ n ih =>
    intro hx v1 v2 I L f0
    refine pn_lp [15, 75, 123] 400 ?_
    conv => whnf
    refine ⟨fun _ => ?_, fun _ => ?_⟩
    · conv => whnf
      exact pn_dec n (hx _ _ _ _ _ f0)
    · conv => whnf
      refine Fx155 (fun x1 I1 L1 f1 => ?_)
      conv => whnf
      refine ⟨fun _ => ?_, fun _ => ?_⟩
      · conv => whnf
        exact ih (fun q0 q1 q2 I L f => pn_dec n (hx q0 q1 q2 I L f)) _ _ _ _ (fr_up rfl (fr_then (by decide) f0 f1))
      · conv => whnf
        refine Fx180 (fun x2 I2 L2 f2 => ?_)
        conv => whnf
        refine ⟨fun _ => ?_, fun _ => ?_⟩
        · conv => whnf
          exact ih (fun q0 q1 q2 I L f => pn_dec n (hx q0 q1 q2 I L f)) _ _ _ _ (fr_up rfl (fr_then (by decide) (fr_then (by decide) f0 f1) f2))
        · conv => whnf
          exact ih (fun q0 q1 q2 I L f => pn_dec n (hx q0 q1 q2 I L f)) _ _ _ _ (fr_up rfl (fr_then (by decide) (fr_then (by decide) f0 f1) f2))
set_option maxHeartbeats 4000000 in
set_option maxRecDepth 20000 in
theorem Fx181 {d : Nat} {k : jK} {I : jI} {L : jL} (hk : ∀ (x : Int32) (I' : jI) (L' : jL), fr [32010] I I' → k (some (.inl (.inl x))) (I', L')) : jPM d 181 [.inr (31, 0)] (I, L) k := by
  refine pM (fun d n => ?_)
  refine pn_go [15, 75] 400 ?_
  conv => whnf
  refine ⟨fun _ => ?_, fun _ => ?_⟩
  · conv => whnf
    refine FxL181_15  _ (fun _ _ I1 L1 f1 => ?_) _ _ _ _ fr_rf
    refine pn_go [15, 75] 400 ?_
    conv => whnf
    refine ⟨fun _ => ?_, fun _ => ?_⟩
    · conv => whnf
      refine FxL181_75  _ (fun _ _ _ I2 L2 f2 => ?_) _ _ _ _ fr_rf
      refine pn_go [15, 75] 400 ?_
      conv => whnf
      exact hk _ _ _ (fr_then (by decide) (fr_up rfl (fr_then (by decide) fr_rf f1)) f2)
    · conv => whnf
      exact hk _ _ _ (fr_then (by decide) fr_rf f1)
  · conv => whnf
    exact hk _ _ _ fr_rf
set_option maxHeartbeats 4000000 in
set_option maxRecDepth 20000 in
theorem FxL182_22 {d : Nat} {k : jK} {I0 : jI}  : ∀ (n : Nat), (∀ (v1 : Int32) (v2 : Int32) (v3 : Option jV) (v4 : Option jV) (v5 : Option jV) (I : jI) (L : jL), fr [32010] I0 I → pn (jPM d) k none (jco 182) n (146, [some (.inr (31, 0)), some (.inl (.inl v1)), some (.inl (.inl v2)), v3, v4, v5], [], I, L)) → ∀ (v1 : Int32) (v2 : Int32) (v3 : Int32) (v4 : Option jV) (v5 : Option jV) (I : jI) (L : jL), fr [32010] I0 I → pn (jPM d) k none (jco 182) n (22, [some (.inr (31, 0)), some (.inl (.inl v1)), some (.inl (.inl v2)), some (.inl (.inl v3)), v4, v5], [], I, L) := by
  intro n
  induction n with
  | zero => intro _ v v v v v I L f0; trivial
  | succ n ih =>
    intro hx v1 v2 v3 v4 v5 I L f0
    refine pn_lp [10, 22, 146] 400 ?_
    conv => whnf
    refine ⟨fun _ => ?_, fun _ => ?_⟩
    · conv => whnf
      exact pn_dec n (hx _ _ _ _ _ _ _ f0)
    · conv => whnf
      refine Fx155 (fun x1 I1 L1 f1 => ?_)
      conv => whnf
      refine Fx155 (fun x2 I2 L2 f2 => ?_)
      conv => whnf
      refine Fx155 (fun x3 I3 L3 f3 => ?_)
      conv => whnf
      refine ⟨fun _ => ?_, fun _ => ?_⟩
      · conv => whnf
        refine ⟨fun _ => ?_, fun z => absurd z (by decide)⟩
        conv => whnf
        refine ⟨fun _ => ?_, fun z => absurd z (by decide)⟩
        conv => whnf
        exact ih (fun q0 q1 q2 q3 q4 I L f => pn_dec n (hx q0 q1 q2 q3 q4 I L f)) _ _ _ _ _ _ _ (fr_up rfl (fr_then (by decide) (fr_then (by decide) (fr_then (by decide) f0 f1) f2) f3))
      · conv => whnf
        refine Fx155 (fun x4 I4 L4 f4 => ?_)
        conv => whnf
        refine ⟨fun _ => ?_, fun _ => ?_⟩
        · conv => whnf
          refine ⟨fun _ => ?_, fun z => absurd z (by decide)⟩
          conv => whnf
          refine ⟨fun _ => ?_, fun z => absurd z (by decide)⟩
          conv => whnf
          exact ih (fun q0 q1 q2 q3 q4 I L f => pn_dec n (hx q0 q1 q2 q3 q4 I L f)) _ _ _ _ _ _ _ (fr_up rfl (fr_then (by decide) (fr_then (by decide) (fr_then (by decide) (fr_then (by decide) f0 f1) f2) f3) f4))
        · conv => whnf
          refine ⟨fun _ => ?_, fun _ => ?_⟩
          · conv => whnf
            refine ⟨fun _ => ?_, fun _ => ?_⟩
            · conv => whnf
              refine ⟨fun _ => ?_, fun z => absurd z (by decide)⟩
              conv => whnf
              refine ⟨fun _ => ?_, fun z => absurd z (by decide)⟩
              conv => whnf
              exact ih (fun q0 q1 q2 q3 q4 I L f => pn_dec n (hx q0 q1 q2 q3 q4 I L f)) _ _ _ _ _ _ _ (fr_up rfl (fr_then (by decide) (fr_then (by decide) (fr_then (by decide) (fr_then (by decide) f0 f1) f2) f3) f4))
            · conv => whnf
              refine Fx180 (fun x5 I5 L5 f5 => ?_)
              conv => whnf
              refine ⟨fun _ => ?_, fun _ => ?_⟩
              · conv => whnf
                refine ⟨fun _ => ?_, fun z => absurd z (by decide)⟩
                conv => whnf
                refine ⟨fun _ => ?_, fun z => absurd z (by decide)⟩
                conv => whnf
                exact ih (fun q0 q1 q2 q3 q4 I L f => pn_dec n (hx q0 q1 q2 q3 q4 I L f)) _ _ _ _ _ _ _ (fr_up rfl (fr_then (by decide) (fr_then (by decide) (fr_then (by decide) (fr_then (by decide) (fr_then (by decide) f0 f1) f2) f3) f4) f5))
              · conv => whnf
                refine ⟨fun z => absurd z (by decide), fun _ => ?_⟩
                conv => whnf
                refine ⟨fun _ => ?_, fun _ => ?_⟩
                · conv => whnf
                  refine ⟨fun z => absurd z (by decide), fun _ => ?_⟩
                  conv => whnf
                  exact ih (fun q0 q1 q2 q3 q4 I L f => pn_dec n (hx q0 q1 q2 q3 q4 I L f)) _ _ _ _ _ _ _ (fr_up rfl (fr_then (by decide) (fr_then (by decide) (fr_then (by decide) (fr_then (by decide) (fr_then (by decide) f0 f1) f2) f3) f4) f5))
                · conv => whnf
                  refine ⟨fun z => absurd z (by decide), fun _ => ?_⟩
                  conv => whnf
                  exact ih (fun q0 q1 q2 q3 q4 I L f => pn_dec n (hx q0 q1 q2 q3 q4 I L f)) _ _ _ _ _ _ _ (fr_up rfl (fr_then (by decide) (fr_then (by decide) (fr_then (by decide) (fr_then (by decide) (fr_then (by decide) f0 f1) f2) f3) f4) f5))
          · conv => whnf
            refine Fx180 (fun x6 I6 L6 f6 => ?_)
            conv => whnf
            refine ⟨fun _ => ?_, fun _ => ?_⟩
            · conv => whnf
              refine ⟨fun _ => ?_, fun z => absurd z (by decide)⟩
              conv => whnf
              refine ⟨fun _ => ?_, fun z => absurd z (by decide)⟩
              conv => whnf
              exact ih (fun q0 q1 q2 q3 q4 I L f => pn_dec n (hx q0 q1 q2 q3 q4 I L f)) _ _ _ _ _ _ _ (fr_up rfl (fr_then (by decide) (fr_then (by decide) (fr_then (by decide) (fr_then (by decide) (fr_then (by decide) f0 f1) f2) f3) f4) f6))
            · conv => whnf
              refine ⟨fun z => absurd z (by decide), fun _ => ?_⟩
              conv => whnf
              refine ⟨fun _ => ?_, fun _ => ?_⟩
              · conv => whnf
                refine ⟨fun z => absurd z (by decide), fun _ => ?_⟩
                conv => whnf
                exact ih (fun q0 q1 q2 q3 q4 I L f => pn_dec n (hx q0 q1 q2 q3 q4 I L f)) _ _ _ _ _ _ _ (fr_up rfl (fr_then (by decide) (fr_then (by decide) (fr_then (by decide) (fr_then (by decide) (fr_then (by decide) f0 f1) f2) f3) f4) f6))
              · conv => whnf
                refine ⟨fun z => absurd z (by decide), fun _ => ?_⟩
                conv => whnf
                exact ih (fun q0 q1 q2 q3 q4 I L f => pn_dec n (hx q0 q1 q2 q3 q4 I L f)) _ _ _ _ _ _ _ (fr_up rfl (fr_then (by decide) (fr_then (by decide) (fr_then (by decide) (fr_then (by decide) (fr_then (by decide) f0 f1) f2) f3) f4) f6))
set_option maxHeartbeats 4000000 in
set_option maxRecDepth 20000 in
theorem FxL182_10 {d : Nat} {k : jK} {I0 : jI}  : ∀ (n : Nat), (∀ (v0 : Option jV) (v1 : Int32) (v2 : Option jV) (v3 : Option jV) (v4 : Option jV) (v5 : Option jV) (I : jI) (L : jL), fr [32010] I0 I → pn (jPM d) k none (jco 182) n (152, [v0, some (.inl (.inl v1)), v2, v3, v4, v5], [], I, L)) → ∀ (v1 : Int32) (v2 : Int32) (v3 : Option jV) (v4 : Option jV) (v5 : Option jV) (I : jI) (L : jL), fr [32010] I0 I → pn (jPM d) k none (jco 182) n (10, [some (.inr (31, 0)), some (.inl (.inl v1)), some (.inl (.inl v2)), v3, v4, v5], [], I, L) := by
  intro n
  induction n with
  | zero => intro _ v v v v v I L f0; trivial
  | succ n ih =>
    intro hx v1 v2 v3 v4 v5 I L f0
    refine pn_lp [10, 22, 152] 400 ?_
    conv => whnf
    refine ⟨fun _ => ?_, fun _ => ?_⟩
    · conv => whnf
      exact pn_dec n (hx _ _ _ _ _ _ _ _ f0)
    · conv => whnf
      refine FxL182_22  _ (fun _ _ _ _ _ I1 L1 f1 => ?_) _ _ _ _ _ _ _ fr_rf
      refine pn_go [10, 22, 152] 400 ?_
      conv => whnf
      exact ih (fun q0 q1 q2 q3 q4 q5 I L f => pn_dec n (hx q0 q1 q2 q3 q4 q5 I L f)) _ _ _ _ _ _ _ (fr_then (by decide) f0 f1)
set_option maxHeartbeats 4000000 in
set_option maxRecDepth 20000 in
theorem Fx182 {d : Nat} {k : jK} {I : jI} {L : jL} (hk : ∀ (x : Int32) (I' : jI) (L' : jL), fr [32010] I I' → k (some (.inl (.inl x))) (I', L')) : jPM d 182 [.inr (31, 0)] (I, L) k := by
  refine pM (fun d n => ?_)
  refine pn_go [10, 22] 400 ?_
  conv => whnf
  refine FxL182_10  _ (fun _ _ _ _ _ _ I1 L1 f1 => ?_) _ _ _ _ _ _ _ fr_rf
  refine pn_go [10, 22] 400 ?_
  conv => whnf
  exact hk _ _ _ (fr_then (by decide) (fr_up rfl fr_rf) f1)
set_option maxHeartbeats 4000000 in
set_option maxRecDepth 20000 in
theorem FxL183_4 {d : Nat} {k : jK} {I0 : jI}  : ∀ (n : Nat), (∀ (v0 : Option jV) (v1 : Option jV) (v2 : Int32) (v3 : Option jV) (I : jI) (L : jL), fr [] I0 I → pn (jPM d) k none (jco 183) n (19, [v0, v1, some (.inl (.inl v2)), v3], [], I, L)) → ∀ (v0 : Int32) (v1 : Int32) (v2 : Int32) (v3 : Int32) (I : jI) (L : jL), fr [] I0 I → pn (jPM d) k none (jco 183) n (4, [some (.inl (.inl v0)), some (.inl (.inl v1)), some (.inl (.inl v2)), some (.inl (.inl v3))], [], I, L) := by
  intro n
  induction n with
  | zero => intro _ v v v v I L f0; trivial
  | succ n ih =>
    intro hx v0 v1 v2 v3 I L f0
    refine pn_lp [4, 19] 400 ?_
    conv => whnf
    refine ⟨fun _ => ?_, fun _ => ?_⟩
    · conv => whnf
      exact pn_dec n (hx _ _ _ _ _ _ f0)
    · conv => whnf
      exact ih (fun q0 q1 q2 q3 I L f => pn_dec n (hx q0 q1 q2 q3 I L f)) _ _ _ _ _ _ f0
set_option maxHeartbeats 4000000 in
set_option maxRecDepth 20000 in
theorem Fx183 {d : Nat} {k : jK} {a0 : Int32} {a1 : Int32} {I : jI} {L : jL} (hk : ∀ (x : Int32) (I' : jI) (L' : jL), fr [] I I' → k (some (.inl (.inl x))) (I', L')) : jPM d 183 [.inl (.inl a0), .inl (.inl a1)] (I, L) k := by
  refine pM (fun d n => ?_)
  refine pn_go [4] 400 ?_
  conv => whnf
  refine FxL183_4  _ (fun _ _ _ _ I1 L1 f1 => ?_) _ _ _ _ _ _ fr_rf
  refine pn_go [4] 400 ?_
  conv => whnf
  exact hk _ _ _ (fr_then (by decide) fr_rf f1)
set_option maxHeartbeats 4000000 in
set_option maxRecDepth 20000 in
theorem FxL184_63 {d : Nat} {k : jK} {I0 : jI}  : ∀ (n : Nat), (∀ (v1 : Int32) (v2 : Int32) (v3 : Int32) (v4 : Int32) (v5 : Int32) (v6 : Int32) (v7 : Int32) (v8 : Option jV) (v9 : Option jV) (I : jI) (L : jL), fr [] I0 I → pn (jPM d) k none (jco 184) n (125, [some (.inr (31, 0)), some (.inl (.inl v1)), some (.inl (.inl v2)), some (.inl (.inl v3)), some (.inl (.inl v4)), some (.inl (.inl v5)), some (.inl (.inl v6)), some (.inl (.inl v7)), v8, v9], [], I, L)) → ∀ (v1 : Int32) (v2 : Int32) (v3 : Int32) (v4 : Int32) (v5 : Int32) (v6 : Int32) (v7 : Int32) (v8 : Int32) (v9 : Option jV) (I : jI) (L : jL), fr [] I0 I → pn (jPM d) k none (jco 184) n (63, [some (.inr (31, 0)), some (.inl (.inl v1)), some (.inl (.inl v2)), some (.inl (.inl v3)), some (.inl (.inl v4)), some (.inl (.inl v5)), some (.inl (.inl v6)), some (.inl (.inl v7)), some (.inl (.inl v8)), v9], [], I, L) := by
  intro n
  induction n with
  | zero => intro _ v v v v v v v v v I L f0; trivial
  | succ n ih =>
    intro hx v1 v2 v3 v4 v5 v6 v7 v8 v9 I L f0
    refine pn_lp [41, 63, 125, 172] 400 ?_
    conv => whnf
    refine ⟨fun _ => ?_, fun _ => ?_⟩
    · conv => whnf
      exact pn_dec n (hx _ _ _ _ _ _ _ _ _ _ _ f0)
    · conv => whnf
      refine Fx153 (fun x1 I1 L1 f1 => ?_)
      conv => whnf
      refine Fx155 (fun x2 I2 L2 f2 => ?_)
      conv => whnf
      exact ih (fun q0 q1 q2 q3 q4 q5 q6 q7 q8 I L f => pn_dec n (hx q0 q1 q2 q3 q4 q5 q6 q7 q8 I L f)) _ _ _ _ _ _ _ _ _ _ _ (fr_then (by decide) (fr_then (by decide) f0 f1) f2)
set_option maxHeartbeats 4000000 in
set_option maxRecDepth 20000 in
theorem FxL184_41 {d : Nat} {k : jK} {I0 : jI}  : ∀ (n : Nat), (∀ (v1 : Option jV) (v2 : Int32) (v3 : Int32) (v4 : Int32) (v5 : Option jV) (v6 : Option jV) (v7 : Option jV) (v8 : Option jV) (v9 : Option jV) (I : jI) (L : jL), fr [] I0 I → pn (jPM d) k none (jco 184) n (150, [some (.inr (31, 0)), v1, some (.inl (.inl v2)), some (.inl (.inl v3)), some (.inl (.inl v4)), v5, v6, v7, v8, v9], [], I, L)) → ∀ (v1 : Int32) (v2 : Int32) (v3 : Int32) (v4 : Int32) (v5 : Int32) (v6 : Option jV) (v7 : Option jV) (v8 : Option jV) (v9 : Option jV) (I : jI) (L : jL), fr [] I0 I → pn (jPM d) k none (jco 184) n (41, [some (.inr (31, 0)), some (.inl (.inl v1)), some (.inl (.inl v2)), some (.inl (.inl v3)), some (.inl (.inl v4)), some (.inl (.inl v5)), v6, v7, v8, v9], [], I, L) := by
  intro n
  induction n with
  | zero => intro _ v v v v v v v v v I L f0; trivial
  | succ n ih =>
    intro hx v1 v2 v3 v4 v5 v6 v7 v8 v9 I L f0
    refine pn_lp [41, 63, 150, 172] 400 ?_
    conv => whnf
    refine Fx183 (fun x1 I1 L1 f1 => ?_)
    conv => whnf
    refine ⟨fun _ => ?_, fun _ => ?_⟩
    · conv => whnf
      exact pn_dec n (hx _ _ _ _ _ _ _ _ _ _ _ (fr_then (by decide) f0 f1))
    · conv => whnf
      refine FxL184_63  _ (fun _ _ _ _ _ _ _ _ _ I2 L2 f2 => ?_) _ _ _ _ _ _ _ _ _ _ _ fr_rf
      refine pn_go [41, 63, 150, 172] 400 ?_
      conv => whnf
      refine ⟨fun _ => ?_, fun _ => ?_⟩
      · conv => whnf
        exact ih (fun q0 q1 q2 q3 q4 q5 q6 q7 q8 I L f => pn_dec n (hx q0 q1 q2 q3 q4 q5 q6 q7 q8 I L f)) _ _ _ _ _ _ _ _ _ _ _ (fr_then (by decide) (fr_then (by decide) f0 f1) f2)
      · conv => whnf
        refine ⟨fun _ => ?_, fun _ => ?_⟩
        · conv => whnf
          exact ih (fun q0 q1 q2 q3 q4 q5 q6 q7 q8 I L f => pn_dec n (hx q0 q1 q2 q3 q4 q5 q6 q7 q8 I L f)) _ _ _ _ _ _ _ _ _ _ _ (fr_then (by decide) (fr_then (by decide) f0 f1) f2)
        · conv => whnf
          exact ih (fun q0 q1 q2 q3 q4 q5 q6 q7 q8 I L f => pn_dec n (hx q0 q1 q2 q3 q4 q5 q6 q7 q8 I L f)) _ _ _ _ _ _ _ _ _ _ _ (fr_then (by decide) (fr_then (by decide) f0 f1) f2)
set_option maxHeartbeats 4000000 in
set_option maxRecDepth 20000 in
theorem FxL184_172 {d : Nat} {k : jK} {I0 : jI}  : ∀ (n : Nat), (∀ (v0 : Option jV) (v1 : Option jV) (v2 : Option jV) (v3 : Int32) (v4 : Option jV) (v5 : Option jV) (v6 : Option jV) (v7 : Option jV) (v8 : Option jV) (v9 : Option jV) (I : jI) (L : jL), fr [36] I0 I → pn (jPM d) k none (jco 184) n (215, [v0, v1, v2, some (.inl (.inl v3)), v4, v5, v6, v7, v8, v9], [], I, L)) → ∀ (v1 : Option jV) (v2 : Int32) (v3 : Int32) (v4 : Int32) (v5 : Int32) (v6 : Option jV) (v7 : Option jV) (v8 : Option jV) (v9 : Option jV) (I : jI) (L : jL), fr [36] I0 I → pn (jPM d) k none (jco 184) n (172, [some (.inr (31, 0)), v1, some (.inl (.inl v2)), some (.inl (.inl v3)), some (.inl (.inl v4)), some (.inl (.inl v5)), v6, v7, v8, v9], [], I, L) := by
  intro n
  induction n with
  | zero => intro _ v v v v v v v v v I L f0; trivial
  | succ n ih =>
    intro hx v1 v2 v3 v4 v5 v6 v7 v8 v9 I L f0
    refine pn_lp [41, 63, 172, 215] 400 ?_
    conv => whnf
    refine ⟨fun _ => ?_, fun _ => ?_⟩
    · conv => whnf
      exact pn_dec n (hx _ _ _ _ _ _ _ _ _ _ _ _ f0)
    · conv => whnf
      intro _
      conv => whnf
      exact ih (fun q0 q1 q2 q3 q4 q5 q6 q7 q8 q9 I L f => pn_dec n (hx q0 q1 q2 q3 q4 q5 q6 q7 q8 q9 I L f)) _ _ _ _ _ _ _ _ _ _ _ (fr_up rfl f0)
set_option maxHeartbeats 4000000 in
set_option maxRecDepth 20000 in
theorem Fx184 {d : Nat} {k : jK} {a1 : Int32} {a2 : Int32} {I : jI} {L : jL} (hk : ∀ (x : Int32) (I' : jI) (L' : jL), fr [35, 36] I I' → k (some (.inl (.inl x))) (I', L')) : jPM d 184 [.inr (31, 0), .inl (.inl a1), .inl (.inl a2)] (I, L) k := by
  refine pM (fun d n => ?_)
  refine pn_go [41, 63, 172] 400 ?_
  conv => whnf
  refine Fx124 (fun x1 I1 L1 f1 => ?_)
  conv => whnf
  refine ⟨fun _ => ?_, fun _ => ?_⟩
  · conv => whnf
    exact hk _ _ _ (fr_then (by decide) fr_rf f1)
  · conv => whnf
    refine Fx128 (fun x2 I2 L2 f2 => ?_)
    conv => whnf
    refine ⟨fun _ => ?_, fun _ => ?_⟩
    · conv => whnf
      refine ⟨fun _ => ?_, fun _ => ?_⟩
      · conv => whnf
        refine FxL184_41  _ (fun _ _ _ _ _ _ _ _ _ I3 L3 f3 => ?_) _ _ _ _ _ _ _ _ _ _ _ fr_rf
        refine pn_go [41, 63, 172] 400 ?_
        conv => whnf
        refine ⟨fun _ => ?_, fun _ => ?_⟩
        · conv => whnf
          refine Fx131 (fun I4 L4 f4 => ?_)
          conv => whnf
          refine FxL184_172  _ (fun _ _ _ _ _ _ _ _ _ _ I5 L5 f5 => ?_) _ _ _ _ _ _ _ _ _ _ _ fr_rf
          refine pn_go [41, 63, 172] 400 ?_
          conv => whnf
          exact hk _ _ _ (fr_then (by decide) (fr_then (by decide) (fr_then (by decide) (fr_then (by decide) (fr_then (by decide) fr_rf f1) f2) f3) f4) f5)
        · conv => whnf
          exact hk _ _ _ (fr_then (by decide) (fr_then (by decide) (fr_then (by decide) fr_rf f1) f2) f3)
      · conv => whnf
        exact hk _ _ _ (fr_then (by decide) (fr_then (by decide) fr_rf f1) f2)
    · conv => whnf
      exact hk _ _ _ (fr_then (by decide) (fr_then (by decide) fr_rf f1) f2)
