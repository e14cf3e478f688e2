set_option maxHeartbeats 4000000 in
set_option maxRecDepth 20000 in
theorem Fx11 {d : Nat} {k : jK} {a0 : Nat} {a1 : Nat} {I : jI} {L : jL} (hk : ∀ (I' : jI) (L' : jL), fr [23] I I' → k none (I', L')) : jPM d 11 [.inr (7, a0), .inr (7, a1)] (I, L) k := by
  refine pM (fun d n => ?_)
  refine pn_go [] 400 ?_
  conv => whnf
  intro _
  conv => whnf
  exact hk _ _ (fr_cp (fun _ => rfl) fr_rf)
set_option maxHeartbeats 4000000 in
set_option maxRecDepth 20000 in
theorem FxL96_43 {d : Nat} {k : jK} {I0 : jI}  : ∀ (n : Nat), (∀ (v0 : Option jV) (v1 : Option jV) (v2 : Int32) (v3 : Option jV) (I : jI) (L : jL), fr [23] I0 I → pn (jPM d) k none (jco 96) n (79, [v0, v1, some (.inl (.inl v2)), v3], [], I, L)) → ∀ (v1 : Int32) (v2 : Int32) (v3 : Int32) (I : jI) (L : jL), fr [23] I0 I → pn (jPM d) k none (jco 96) n (43, [some (.inr (0, 0)), some (.inl (.inl v1)), some (.inl (.inl v2)), some (.inl (.inl v3))], [], I, L) := by
  intro n
  induction n with
  | zero => intro _ v v v I L f0; trivial
  | succ n ih =>
    intro hx v1 v2 v3 I L f0
    refine pn_lp [43, 79] 400 ?_
    conv => whnf
    refine ⟨fun _ => ?_, fun _ => ?_⟩
    · conv => whnf
      exact pn_dec n (hx _ _ _ _ _ _ f0)
    · conv => whnf
      refine Fx13 (fun x1 I1 L1 f1 => ?_)
      conv => whnf
      refine Fx14 (fun x2 I2 L2 f2 => ?_)
      conv => whnf
      exact ih (fun q0 q1 q2 q3 I L f => pn_dec n (hx q0 q1 q2 q3 I L f)) _ _ _ _ _ (fr_then (by decide) (fr_then (by decide) f0 f1) f2)
set_option maxHeartbeats 4000000 in
set_option maxRecDepth 20000 in
theorem Fx96 {d : Nat} {k : jK} {a1 : Int32} {I : jI} {L : jL} (hk : ∀ (x : Int32) (I' : jI) (L' : jL), fr [23] I I' → k (some (.inl (.inl x))) (I', L')) : jPM d 96 [.inr (0, 0), .inl (.inl a1)] (I, L) k := by
  refine pM (fun d n => ?_)
  refine pn_go [43] 400 ?_
  conv => whnf
  refine ⟨fun _ => ?_, fun _ => ?_⟩
  · conv => whnf
    exact hk _ _ _ fr_rf
  · conv => whnf
    refine ⟨fun _ => ?_, fun _ => ?_⟩
    · conv => whnf
      refine ⟨fun _ => ?_, fun _ => ?_⟩
      · conv => whnf
        refine Fx11 (fun I1 L1 f1 => ?_)
        conv => whnf
        refine FxL96_43  _ (fun _ _ _ _ I2 L2 f2 => ?_) _ _ _ _ _ fr_rf
        refine pn_go [43] 400 ?_
        conv => whnf
        exact hk _ _ _ (fr_then (by decide) (fr_then (by decide) fr_rf f1) f2)
      · conv => whnf
        exact hk _ _ _ fr_rf
    · conv => whnf
      exact hk _ _ _ fr_rf
set_option maxHeartbeats 4000000 in
set_option maxRecDepth 20000 in
theorem FxL97_29 {d : Nat} {k : jK} {I0 : jI}  : ∀ (n : Nat), (∀ (v0 : Option jV) (v1 : Int32) (I : jI) (L : jL), fr [23] I0 I → pn (jPM d) k none (jco 97) n (73, [v0, some (.inl (.inl v1))], [], I, L)) → ∀ (v1 : Int32) (I : jI) (L : jL), fr [23] I0 I → pn (jPM d) k none (jco 97) n (29, [some (.inr (0, 0)), some (.inl (.inl v1))], [], I, L) := by
  intro n
  induction n with
  | zero => intro _ v I L f0; trivial
  | succ n ih =>
    intro hx v1 I L f0
    refine pn_lp [29, 73] 400 ?_
    conv => whnf
    refine ⟨fun _ => ?_, fun _ => ?_⟩
    · conv => whnf
      exact pn_dec n (hx _ _ _ _ f0)
    · conv => whnf
      refine Fx13 (fun x1 I1 L1 f1 => ?_)
      conv => whnf
      refine ⟨fun _ => ?_, fun _ => ?_⟩
      · conv => whnf
        exact pn_dec n (hx _ _ _ _ (fr_then (by decide) f0 f1))
      · conv => whnf
        refine Fx14 (fun x2 I2 L2 f2 => ?_)
        conv => whnf
        exact ih (fun q0 q1 I L f => pn_dec n (hx q0 q1 I L f)) _ _ _ (fr_then (by decide) (fr_then (by decide) f0 f1) f2)
set_option maxHeartbeats 4000000 in
set_option maxRecDepth 20000 in
theorem Fx97 {d : Nat} {k : jK} {I : jI} {L : jL} (hk : ∀ (x : Int32) (I' : jI) (L' : jL), fr [23] I I' → k (some (.inl (.inl x))) (I', L')) : jPM d 97 [.inr (0, 0)] (I, L) k := by
  refine pM (fun d n => ?_)
  refine pn_go [29] 400 ?_
  conv => whnf
  refine ⟨fun _ => ?_, fun _ => ?_⟩
  · conv => whnf
    refine Fx11 (fun I1 L1 f1 => ?_)
    conv => whnf
    refine FxL97_29  _ (fun _ _ I2 L2 f2 => ?_) _ _ _ fr_rf
    refine pn_go [29] 400 ?_
    conv => whnf
    exact hk _ _ _ (fr_then (by decide) (fr_then (by decide) fr_rf f1) f2)
  · conv => whnf
    exact hk _ _ _ fr_rf
set_option maxHeartbeats 4000000 in
set_option maxRecDepth 20000 in
theorem FxL98_50 {d : Nat} {k : jK} {I0 : jI}  : ∀ (n : Nat), (∀ (v1 : Option jV) (v2 : Option jV) (v3 : Int32) (v4 : Int32) (v5 : Option jV) (v6 : Option jV) (I : jI) (L : jL), fr [] I0 I → pn (jPM d) k none (jco 98) n (128, [some (.inr (0, 0)), v1, v2, some (.inl (.inl v3)), some (.inl (.inl v4)), v5, v6], [], I, L)) → ∀ (v1 : Int32) (v2 : Int32) (v3 : Int32) (v4 : Int32) (v5 : Int32) (v6 : Int32) (I : jI) (L : jL), fr [] I0 I → pn (jPM d) k none (jco 98) n (50, [some (.inr (0, 0)), some (.inl (.inl v1)), some (.inl (.inl v2)), some (.inl (.inl v3)), some (.inl (.inl v4)), some (.inl (.inl v5)), some (.inl (.inl v6))], [], I, L) := by
  intro n
  induction n with
  | zero => intro _ v v v v v v I L f0; trivial
  | succ n ih =>
    intro hx v1 v2 v3 v4 v5 v6 I L f0
    refine pn_lp [50, 128] 400 ?_
    conv => whnf
    refine ⟨fun _ => ?_, fun _ => ?_⟩
    · conv => whnf
      exact pn_dec n (hx _ _ _ _ _ _ _ _ f0)
    · conv => whnf
      refine Fx36 (fun x1 I1 L1 f1 => ?_)
      conv => whnf
      refine ⟨fun _ => ?_, fun _ => ?_⟩
      · conv => whnf
        refine ⟨fun _ => ?_, fun _ => ?_⟩
        · conv => whnf
          exact ih (fun q0 q1 q2 q3 q4 q5 I L f => pn_dec n (hx q0 q1 q2 q3 q4 q5 I L f)) _ _ _ _ _ _ _ _ (fr_then (by decide) f0 f1)
        · conv => whnf
          exact ih (fun q0 q1 q2 q3 q4 q5 I L f => pn_dec n (hx q0 q1 q2 q3 q4 q5 I L f)) _ _ _ _ _ _ _ _ (fr_then (by decide) f0 f1)
      · conv => whnf
        refine Fx35 (fun x2 I2 L2 f2 => ?_)
        conv => whnf
        refine ⟨fun _ => ?_, fun _ => ?_⟩
        · conv => whnf
          exact ih (fun q0 q1 q2 q3 q4 q5 I L f => pn_dec n (hx q0 q1 q2 q3 q4 q5 I L f)) _ _ _ _ _ _ _ _ (fr_then (by decide) (fr_then (by decide) f0 f1) f2)
        · conv => whnf
          exact ih (fun q0 q1 q2 q3 q4 q5 I L f => pn_dec n (hx q0 q1 q2 q3 q4 q5 I L f)) _ _ _ _ _ _ _ _ (fr_then (by decide) (fr_then (by decide) f0 f1) f2)
set_option maxHeartbeats 4000000 in
set_option maxRecDepth 20000 in
theorem Fx98 {d : Nat} {k : jK} {a1 : Int32} {a2 : Int32} {I : jI} {L : jL} (hk : ∀ (x : Int32) (I' : jI) (L' : jL), fr [1014] I I' → k (some (.inl (.inl x))) (I', L')) : jPM d 98 [.inr (0, 0), .inl (.inl a1), .inl (.inl a2)] (I, L) k := by
  refine pM (fun d n => ?_)
  refine pn_go [50] 400 ?_
  conv => whnf
  refine ⟨fun _ => ?_, fun _ => ?_⟩
  · conv => whnf
    exact hk _ _ _ fr_rf
  · conv => whnf
    refine ⟨fun _ => ?_, fun _ => ?_⟩
    · conv => whnf
      exact hk _ _ _ fr_rf
    · conv => whnf
      refine ⟨fun _ => ?_, fun _ => ?_⟩
      · conv => whnf
        exact hk _ _ _ fr_rf
      · conv => whnf
        refine ⟨fun _ => ?_, fun _ => ?_⟩
        · conv => whnf
          refine ⟨fun _ => ?_, fun _ => ?_⟩
          · conv => whnf
            refine FxL98_50  _ (fun _ _ _ _ _ _ I1 L1 f1 => ?_) _ _ _ _ _ _ _ _ fr_rf
            refine pn_go [50] 400 ?_
            conv => whnf
            refine ⟨fun _ => ?_, fun _ => ?_⟩
            · conv => whnf
              exact hk _ _ _ (fr_then (by decide) fr_rf f1)
            · conv => whnf
              exact hk _ _ _ (fr_up rfl (fr_then (by decide) fr_rf f1))
          · conv => whnf
            exact hk _ _ _ fr_rf
        · conv => whnf
          exact hk _ _ _ fr_rf
set_option maxHeartbeats 4000000 in
set_option maxRecDepth 20000 in
theorem FxL118_38 {d : Nat} {k : jK} {I0 : jI} (hk : ∀ (x : Int32) (I' : jI) (L' : jL), fr [] I0 I' → k (some (.inl (.inl x))) (I', L')) : ∀ (n : Nat), (∀ (v0 : Option jV) (v1 : Option jV) (v2 : Option jV) (v3 : Option jV) (v4 : Option jV) (I : jI) (L : jL), fr [] I0 I → pn (jPM d) k none (jco 118) n (90, [v0, v1, v2, v3, v4], [], I, L)) → ∀ (v1 : Int32) (v2 : Int32) (v3 : Int32) (v4 : Option jV) (I : jI) (L : jL), fr [] I0 I → pn (jPM d) k none (jco 118) n (38, [some (.inr (0, 0)), some (.inl (.inl v1)), some (.inl (.inl v2)), some (.inl (.inl v3)), v4], [], I, L) := by
  intro n
  induction n with
  | zero => intro _ v v v v I L f0; trivial
  | succ n ih =>
    intro hx v1 v2 v3 v4 I L f0
    refine pn_lp [38, 90] 400 ?_
    conv => whnf
    refine ⟨fun _ => ?_, fun _ => ?_⟩
    · conv => whnf
      exact pn_dec n (hx _ _ _ _ _ _ _ f0)
    · conv => whnf
      refine Fx18g1 (fun x1 I1 L1 f1 => ?_)
      conv => whnf
      refine ⟨fun _ => ?_, fun _ => ?_⟩
      · conv => whnf
        exact hk _ _ _ (fr_then (by decide) f0 f1)
      · conv => whnf
        refine ⟨fun _ => ?_, fun _ => ?_⟩
        · conv => whnf
          exact hk _ _ _ (fr_then (by decide) f0 f1)
        · conv => whnf
          refine Fx18g1 (fun x2 I2 L2 f2 => ?_)
          conv => whnf
          refine ⟨fun _ => ?_, fun _ => ?_⟩
          · conv => whnf
            exact ih (fun q0 q1 q2 q3 q4 I L f => pn_dec n (hx q0 q1 q2 q3 q4 I L f)) _ _ _ _ _ _ (fr_then (by decide) (fr_then (by decide) f0 f1) f2)
          · conv => whnf
            exact hk _ _ _ (fr_then (by decide) (fr_then (by decide) f0 f1) f2)
set_option maxHeartbeats 4000000 in
set_option maxRecDepth 20000 in
theorem Fx118 {d : Nat} {k : jK} {a1 : Int32} {I : jI} {L : jL} (hk : ∀ (x : Int32) (I' : jI) (L' : jL), fr [] I I' → k (some (.inl (.inl x))) (I', L')) : jPM d 118 [.inr (0, 0), .inl (.inl a1)] (I, L) k := by
  refine pM (fun d n => ?_)
  refine pn_go [38] 400 ?_
  conv => whnf
  refine Fx16g1 (fun x1 I1 L1 f1 => ?_)
  conv => whnf
  refine ⟨fun _ => ?_, fun _ => ?_⟩
  · conv => whnf
    refine Fx17g1 (fun x2 I2 L2 f2 => ?_)
    conv => whnf
    refine ⟨fun _ => ?_, fun _ => ?_⟩
    · conv => whnf
      exact hk _ _ _ (fr_then (by decide) (fr_then (by decide) fr_rf f1) f2)
    · conv => whnf
      intro _
      conv => whnf
      refine ⟨fun _ => ?_, fun _ => ?_⟩
      · conv => whnf
        refine FxL118_38 (fun x3 I3 L3 f3 => hk x3 I3 L3 (fr_then (by decide) (fr_then (by decide) (fr_then (by decide) fr_rf f1) f2) f3)) _ (fun _ _ _ _ _ I3 L3 f3 => ?_) _ _ _ _ _ _ fr_rf
        refine pn_go [38] 400 ?_
        conv => whnf
        exact hk _ _ _ (fr_then (by decide) (fr_then (by decide) (fr_then (by decide) fr_rf f1) f2) f3)
      · conv => whnf
        exact hk _ _ _ (fr_then (by decide) (fr_then (by decide) fr_rf f1) f2)
  · conv => whnf
    exact hk _ _ _ (fr_then (by decide) fr_rf f1)
set_option maxHeartbeats 4000000 in
set_option maxRecDepth 20000 in
theorem FxL119_3 {d : Nat} {k : jK} {I0 : jI} (hk : ∀ (x : Int32) (I' : jI) (L' : jL), fr [] I0 I' → k (some (.inl (.inl x))) (I', L')) : ∀ (n : Nat), (∀ (v0 : Option jV) (v1 : Option jV) (v2 : Option jV) (v3 : Option jV) (v4 : Option jV) (I : jI) (L : jL), fr [] I0 I → pn (jPM d) k none (jco 119) n (63, [v0, v1, v2, v3, v4], [], I, L)) → ∀ (v1 : Int32) (v2 : Int32) (v3 : Int32) (v4 : Int32) (I : jI) (L : jL), fr [] I0 I → pn (jPM d) k none (jco 119) n (3, [some (.inr (0, 0)), some (.inl (.inl v1)), some (.inl (.inl v2)), some (.inl (.inl v3)), some (.inl (.inl v4))], [], I, L) := by
  intro n
  induction n with
  | zero => intro _ v v v v I L f0; trivial
  | succ n ih =>
    intro hx v1 v2 v3 v4 I L f0
    refine pn_lp [3, 63] 400 ?_
    conv => whnf
    refine Fx17g1 (fun x1 I1 L1 f1 => ?_)
    conv => whnf
    refine ⟨fun _ => ?_, fun _ => ?_⟩
    · conv => whnf
      exact pn_dec n (hx _ _ _ _ _ _ _ (fr_then (by decide) f0 f1))
    · conv => whnf
      refine Fx18g1 (fun x2 I2 L2 f2 => ?_)
      conv => whnf
      refine Fx5 (fun x3 I3 L3 f3 => ?_)
      conv => whnf
      refine Fx18g1 (fun x4 I4 L4 f4 => ?_)
      conv => whnf
      refine ⟨fun _ => ?_, fun _ => ?_⟩
      · conv => whnf
        exact ih (fun q0 q1 q2 q3 q4 I L f => pn_dec n (hx q0 q1 q2 q3 q4 I L f)) _ _ _ _ _ _ (fr_then (by decide) (fr_then (by decide) (fr_then (by decide) (fr_then (by decide) f0 f1) f2) f3) f4)
      · conv => whnf
        exact fun _ => hk _ _ _ (fr_then (by decide) (fr_then (by decide) (fr_then (by decide) (fr_then (by decide) f0 f1) f2) f3) f4)
set_option maxHeartbeats 4000000 in
set_option maxRecDepth 20000 in
theorem Fx119 {d : Nat} {k : jK} {a1 : Int32} {a2 : Int32} {a3 : Int32} {I : jI} {L : jL} (hk : ∀ (x : Int32) (I' : jI) (L' : jL), fr [] I I' → k (some (.inl (.inl x))) (I', L')) : jPM d 119 [.inr (0, 0), .inl (.inl a1), .inl (.inl a2), .inl (.inl a3)] (I, L) k := by
  refine pM (fun d n => ?_)
  refine pn_go [3] 400 ?_
  conv => whnf
  refine FxL119_3 (fun x1 I1 L1 f1 => hk x1 I1 L1 (fr_then (by decide) fr_rf f1)) _ (fun _ _ _ _ _ I1 L1 f1 => ?_) _ _ _ _ _ _ fr_rf
  refine pn_go [3] 400 ?_
  conv => whnf
  exact fun _ => hk _ _ _ (fr_then (by decide) fr_rf f1)
set_option maxHeartbeats 4000000 in
set_option maxRecDepth 20000 in
theorem FxL99_46 {d : Nat} {k : jK} {I0 : jI}  : ∀ (n : Nat), (∀ (v0 : Option jV) (v1 : Option jV) (v2 : Option jV) (v3 : Option jV) (v4 : Int32) (v5 : Option jV) (I : jI) (L : jL), fr [] I0 I → pn (jPM d) k none (jco 99) n (87, [v0, v1, v2, v3, some (.inl (.inl v4)), v5], [], I, L)) → ∀ (v1 : Int32) (v2 : Int32) (v3 : Option jV) (v4 : Int32) (v5 : Int32) (I : jI) (L : jL), fr [] I0 I → pn (jPM d) k none (jco 99) n (46, [some (.inr (0, 0)), some (.inl (.inl v1)), some (.inl (.inl v2)), v3, some (.inl (.inl v4)), some (.inl (.inl v5))], [], I, L) := by
  intro n
  induction n with
  | zero => intro _ v v v v v I L f0; trivial
  | succ n ih =>
    intro hx v1 v2 v3 v4 v5 I L f0
    refine pn_lp [46, 87] 400 ?_
    conv => whnf
    refine ⟨fun _ => ?_, fun _ => ?_⟩
    · conv => whnf
      exact pn_dec n (hx _ _ _ _ _ _ _ _ f0)
    · conv => whnf
      intro _
      conv => whnf
      refine Fx119 (fun x1 I1 L1 f1 => ?_)
      conv => whnf
      refine ⟨fun _ => ?_, fun _ => ?_⟩
      · conv => whnf
        exact ih (fun q0 q1 q2 q3 q4 q5 I L f => pn_dec n (hx q0 q1 q2 q3 q4 q5 I L f)) _ _ _ _ _ _ _ (fr_then (by decide) f0 f1)
      · conv => whnf
        exact ih (fun q0 q1 q2 q3 q4 q5 I L f => pn_dec n (hx q0 q1 q2 q3 q4 q5 I L f)) _ _ _ _ _ _ _ (fr_then (by decide) f0 f1)
set_option maxHeartbeats 4000000 in
set_option maxRecDepth 20000 in
theorem Fx99 {d : Nat} {k : jK} {a1 : Int32} {a2 : Int32} {I : jI} {L : jL} (hk : ∀ (x : Int32) (I' : jI) (L' : jL), fr [12, 1013] I I' → k (some (.inl (.inl x))) (I', L')) : jPM d 99 [.inr (0, 0), .inl (.inl a1), .inl (.inl a2)] (I, L) k := by
  refine pM (fun d n => ?_)
  refine pn_go [46] 400 ?_
  conv => whnf
  refine Fx31 (fun x1 I1 L1 f1 => ?_)
  conv => whnf
  refine ⟨fun _ => ?_, fun _ => ?_⟩
  · conv => whnf
    exact hk _ _ _ (fr_then (by decide) fr_rf f1)
  · conv => whnf
    refine Fx15g1 (fun x2 I2 L2 f2 => ?_)
    conv => whnf
    refine ⟨fun _ => ?_, fun _ => ?_⟩
    · conv => whnf
      refine Fx118 (fun x3 I3 L3 f3 => ?_)
      conv => whnf
      refine ⟨fun _ => ?_, fun _ => ?_⟩
      · conv => whnf
        refine FxL99_46  _ (fun _ _ _ _ _ _ I4 L4 f4 => ?_) _ _ _ _ _ _ _ fr_rf
        refine pn_go [46] 400 ?_
        conv => whnf
        exact hk _ _ _ (fr_then (by decide) (fr_then (by decide) (fr_then (by decide) (fr_then (by decide) fr_rf f1) f2) f3) f4)
      · conv => whnf
        refine Fx113 (fun x5 I5 L5 f5 => ?_)
        conv => whnf
        exact hk _ _ _ (fr_then (by decide) (fr_then (by decide) (fr_then (by decide) (fr_then (by decide) fr_rf f1) f2) f3) f5)
    · conv => whnf
      exact hk _ _ _ (fr_then (by decide) (fr_then (by decide) fr_rf f1) f2)
set_option maxHeartbeats 4000000 in
set_option maxRecDepth 20000 in
theorem FxL100_50 {d : Nat} {k : jK} {I0 : jI}  : ∀ (n : Nat), (∀ (v1 : Option jV) (v2 : Option jV) (v3 : Option jV) (v4 : Int32) (v5 : Int32) (v6 : Option jV) (I : jI) (L : jL), fr [] I0 I → pn (jPM d) k none (jco 100) n (101, [some (.inr (0, 0)), v1, v2, v3, some (.inl (.inl v4)), some (.inl (.inl v5)), v6], [], I, L)) → ∀ (v1 : Int32) (v2 : Int32) (v3 : Option jV) (v4 : Int32) (v5 : Int32) (v6 : Int32) (I : jI) (L : jL), fr [] I0 I → pn (jPM d) k none (jco 100) n (50, [some (.inr (0, 0)), some (.inl (.inl v1)), some (.inl (.inl v2)), v3, some (.inl (.inl v4)), some (.inl (.inl v5)), some (.inl (.inl v6))], [], I, L) := by
  intro n
  induction n with
  | zero => intro _ v v v v v v I L f0; trivial
  | succ n ih =>
    intro hx v1 v2 v3 v4 v5 v6 I L f0
    refine pn_lp [50, 101] 400 ?_
    conv => whnf
    refine ⟨fun _ => ?_, fun _ => ?_⟩
    · conv => whnf
      exact pn_dec n (hx _ _ _ _ _ _ _ _ f0)
    · conv => whnf
      intro _
      conv => whnf
      refine Fx119 (fun x1 I1 L1 f1 => ?_)
      conv => whnf
      refine ⟨fun _ => ?_, fun _ => ?_⟩
      · conv => whnf
        exact ih (fun q0 q1 q2 q3 q4 q5 I L f => pn_dec n (hx q0 q1 q2 q3 q4 q5 I L f)) _ _ _ _ _ _ _ _ (fr_then (by decide) f0 f1)
      · conv => whnf
        refine ⟨fun _ => ?_, fun _ => ?_⟩
        · conv => whnf
          exact ih (fun q0 q1 q2 q3 q4 q5 I L f => pn_dec n (hx q0 q1 q2 q3 q4 q5 I L f)) _ _ _ _ _ _ _ _ (fr_then (by decide) f0 f1)
        · conv => whnf
          exact ih (fun q0 q1 q2 q3 q4 q5 I L f => pn_dec n (hx q0 q1 q2 q3 q4 q5 I L f)) _ _ _ _ _ _ _ _ (fr_then (by decide) f0 f1)
set_option maxHeartbeats 4000000 in
set_option maxRecDepth 20000 in
theorem Fx100 {d : Nat} {k : jK} {a1 : Int32} {a2 : Int32} {I : jI} {L : jL} (hk : ∀ (x : Int32) (I' : jI) (L' : jL), fr [12, 1013, 1014] I I' → k (some (.inl (.inl x))) (I', L')) : jPM d 100 [.inr (0, 0), .inl (.inl a1), .inl (.inl a2)] (I, L) k := by
  refine pM (fun d n => ?_)
  refine pn_go [50] 400 ?_
  conv => whnf
  refine Fx31 (fun x1 I1 L1 f1 => ?_)
  conv => whnf
  refine ⟨fun _ => ?_, fun _ => ?_⟩
  · conv => whnf
    exact hk _ _ _ (fr_then (by decide) fr_rf f1)
  · conv => whnf
    refine Fx15g1 (fun x2 I2 L2 f2 => ?_)
    conv => whnf
    refine ⟨fun _ => ?_, fun _ => ?_⟩
    · conv => whnf
      refine Fx118 (fun x3 I3 L3 f3 => ?_)
      conv => whnf
      refine ⟨fun _ => ?_, fun _ => ?_⟩
      · conv => whnf
        refine FxL100_50  _ (fun _ _ _ _ _ _ I4 L4 f4 => ?_) _ _ _ _ _ _ _ _ fr_rf
        refine pn_go [50] 400 ?_
        conv => whnf
        exact hk _ _ _ (fr_up rfl (fr_then (by decide) (fr_then (by decide) (fr_then (by decide) (fr_then (by decide) fr_rf f1) f2) f3) f4))
      · conv => whnf
        refine Fx113 (fun x5 I5 L5 f5 => ?_)
        conv => whnf
        exact hk _ _ _ (fr_then (by decide) (fr_then (by decide) (fr_then (by decide) (fr_then (by decide) fr_rf f1) f2) f3) f5)
    · conv => whnf
      exact hk _ _ _ (fr_then (by decide) (fr_then (by decide) fr_rf f1) f2)
set_option maxHeartbeats 4000000 in
set_option maxRecDepth 20000 in
theorem FxL101_41 {d : Nat} {k : jK} {I0 : jI}  : ∀ (n : Nat), (∀ (v0 : Option jV) (v1 : Option jV) (v2 : Option jV) (v3 : Option jV) (v4 : Int32) (v5 : Option jV) (I : jI) (L : jL), fr [] I0 I → pn (jPM d) k none (jco 101) n (83, [v0, v1, v2, v3, some (.inl (.inl v4)), v5], [], I, L)) → ∀ (v1 : Int32) (v2 : Int32) (v3 : Int32) (v4 : Int32) (v5 : Int32) (I : jI) (L : jL), fr [] I0 I → pn (jPM d) k none (jco 101) n (41, [some (.inr (0, 0)), some (.inl (.inl v1)), some (.inl (.inl v2)), some (.inl (.inl v3)), some (.inl (.inl v4)), some (.inl (.inl v5))], [], I, L) := by
  intro n
  induction n with
  | zero => intro _ v v v v v I L f0; trivial
  | succ n ih =>
    intro hx v1 v2 v3 v4 v5 I L f0
    refine pn_lp [41, 83] 400 ?_
    conv => whnf
    refine ⟨fun _ => ?_, fun _ => ?_⟩
    · conv => whnf
      exact pn_dec n (hx _ _ _ _ _ _ _ _ f0)
    · conv => whnf
      intro _
      conv => whnf
      refine Fx7 (fun x1 I1 L1 f1 => ?_)
      conv => whnf
      refine ⟨fun _ => ?_, fun _ => ?_⟩
      · conv => whnf
        exact ih (fun q0 q1 q2 q3 q4 q5 I L f => pn_dec n (hx q0 q1 q2 q3 q4 q5 I L f)) _ _ _ _ _ _ _ (fr_then (by decide) f0 f1)
      · conv => whnf
        exact ih (fun q0 q1 q2 q3 q4 q5 I L f => pn_dec n (hx q0 q1 q2 q3 q4 q5 I L f)) _ _ _ _ _ _ _ (fr_then (by decide) f0 f1)
set_option maxHeartbeats 4000000 in
set_option maxRecDepth 20000 in
theorem Fx101 {d : Nat} {k : jK} {a1 : Int32} {a2 : Int32} {a3 : Int32} {I : jI} {L : jL} (hk : ∀ (x : Int32) (I' : jI) (L' : jL), fr [] I I' → k (some (.inl (.inl x))) (I', L')) : jPM d 101 [.inr (0, 0), .inl (.inl a1), .inl (.inl a2), .inl (.inl a3)] (I, L) k := by
  refine pM (fun d n => ?_)
  refine pn_go [41] 400 ?_
  conv => whnf
  refine Fx31 (fun x1 I1 L1 f1 => ?_)
  conv => whnf
  refine ⟨fun _ => ?_, fun _ => ?_⟩
  · conv => whnf
    exact hk _ _ _ (fr_then (by decide) fr_rf f1)
  · conv => whnf
    refine ⟨fun _ => ?_, fun _ => ?_⟩
    · conv => whnf
      exact hk _ _ _ (fr_then (by decide) fr_rf f1)
    · conv => whnf
      refine ⟨fun _ => ?_, fun _ => ?_⟩
      · conv => whnf
        exact hk _ _ _ (fr_then (by decide) fr_rf f1)
      · conv => whnf
        refine ⟨fun _ => ?_, fun _ => ?_⟩
        · conv => whnf
          exact hk _ _ _ (fr_then (by decide) fr_rf f1)
        · conv => whnf
          refine ⟨fun _ => ?_, fun _ => ?_⟩
          · conv => whnf
            refine FxL101_41  _ (fun _ _ _ _ _ _ I2 L2 f2 => ?_) _ _ _ _ _ _ _ fr_rf
            refine pn_go [41] 400 ?_
            conv => whnf
            exact hk _ _ _ (fr_then (by decide) (fr_then (by decide) fr_rf f1) f2)
          · conv => whnf
            exact hk _ _ _ (fr_then (by decide) fr_rf f1)
set_option maxHeartbeats 4000000 in
set_option maxRecDepth 20000 in
theorem FxL1g11_6 {d : Nat} {k : jK} {I0 : jI}  : ∀ (n : Nat), (∀ (v0 : Option jV) (v1 : Option jV) (v2 : Option jV) (v3 : Option jV) (v4 : Option jV) (I : jI) (L : jL), fr [] I0 I → pn (jPM d) k none (jco 1) n (22, [v0, v1, v2, v3, v4], [], I, L)) → ∀ (v1 : Int64) (v3 : Int32) (v4 : Int32) (I : jI) (L : jL), fr [] I0 I → pn (jPM d) k none (jco 1) n (6, [some (.inr (11, 0)), some (.inl (.inr v1)), none, some (.inl (.inl v3)), some (.inl (.inl v4))], [], I, L) := by
  intro n
  induction n with
  | zero => intro _ v v v I L f0; trivial
  | succ n ih =>
    intro hx v1 v3 v4 I L f0
    refine pn_lp [6, 22] 400 ?_
    conv => whnf
    refine ⟨fun _ => ?_, fun _ => ?_⟩
    · conv => whnf
      exact pn_dec n (hx _ _ _ _ _ _ _ f0)
    · conv => whnf
      intro _
      conv => whnf
      exact ih (fun q0 q1 q2 q3 q4 I L f => pn_dec n (hx q0 q1 q2 q3 q4 I L f)) _ _ _ _ _ f0
set_option maxHeartbeats 4000000 in
set_option maxRecDepth 20000 in
theorem Fx1g11 {d : Nat} {k : jK} {a1 : Int64} {I : jI} {L : jL} (hk : ∀ (I' : jI) (L' : jL), fr [] I I' → k none (I', L')) : jPM d 1 [.inr (11, 0), .inl (.inr a1)] (I, L) k := by
  refine pM (fun d n => ?_)
  refine pn_go [6] 400 ?_
  conv => whnf
  refine FxL1g11_6  _ (fun _ _ _ _ _ I1 L1 f1 => ?_) _ _ _ _ _ fr_rf
  refine pn_go [6] 400 ?_
  conv => whnf
  exact hk _ _ (fr_then (by decide) fr_rf f1)
set_option maxHeartbeats 4000000 in
set_option maxRecDepth 20000 in
theorem FxL122_53 {d : Nat} {k : jK} {I0 : jI}  : ∀ (n : Nat), (∀ (v1 : Int32) (v2 : Int64) (v4 : Int32) (v5 : Option jV) (v6 : Option jV) (v7 : Option jV) (v8 : Option jV) (I : jI) (L : jL), fr [] I0 I → pn (jPM d) k none (jco 122) n (113, [some (.inr (0, 0)), some (.inl (.inl v1)), some (.inl (.inr v2)), none, some (.inl (.inl v4)), v5, v6, v7, v8], [], I, L)) → ∀ (v1 : Int32) (v2 : Int64) (v4 : Int32) (v5 : Int32) (v6 : Int32) (v7 : Option jV) (v8 : Option jV) (I : jI) (L : jL), fr [] I0 I → pn (jPM d) k none (jco 122) n (53, [some (.inr (0, 0)), some (.inl (.inl v1)), some (.inl (.inr v2)), none, some (.inl (.inl v4)), some (.inl (.inl v5)), some (.inl (.inl v6)), v7, v8], [], I, L) := by
  intro n
  induction n with
  | zero => intro _ v v v v v v v I L f0; trivial
  | succ n ih =>
    intro hx v1 v2 v4 v5 v6 v7 v8 I L f0
    refine pn_lp [20, 53, 113] 400 ?_
    conv => whnf
    refine ⟨fun _ => ?_, fun _ => ?_⟩
    · conv => whnf
      exact pn_dec n (hx _ _ _ _ _ _ _ _ _ f0)
    · conv => whnf
      refine ⟨fun _ => ?_, fun _ => ?_⟩
      · conv => whnf
        intro _
        conv => whnf
        intro _
        conv => whnf
        exact ih (fun q0 q1 q2 q3 q4 q5 q6 I L f => pn_dec n (hx q0 q1 q2 q3 q4 q5 q6 I L f)) _ _ _ _ _ _ _ _ _ f0
      · conv => whnf
        intro _
        conv => whnf
        intro _
        conv => whnf
        intro _
        conv => whnf
        exact ih (fun q0 q1 q2 q3 q4 q5 q6 I L f => pn_dec n (hx q0 q1 q2 q3 q4 q5 q6 I L f)) _ _ _ _ _ _ _ _ _ f0
set_option maxHeartbeats 4000000 in
set_option maxRecDepth 20000 in
theorem FxL122_20 {d : Nat} {k : jK} {I0 : jI}  : ∀ (n : Nat), (∀ (v0 : Option jV) (v1 : Option jV) (v2 : Int64) (v4 : Option jV) (v5 : Option jV) (v6 : Option jV) (v7 : Option jV) (v8 : Option jV) (I : jI) (L : jL), fr [] I0 I → pn (jPM d) k none (jco 122) n (119, [v0, v1, some (.inl (.inr v2)), none, v4, v5, v6, v7, v8], [], I, L)) → ∀ (v1 : Int32) (v2 : Int64) (v4 : Int32) (v5 : Option jV) (v6 : Option jV) (v7 : Option jV) (v8 : Option jV) (I : jI) (L : jL), fr [] I0 I → pn (jPM d) k none (jco 122) n (20, [some (.inr (0, 0)), some (.inl (.inl v1)), some (.inl (.inr v2)), none, some (.inl (.inl v4)), v5, v6, v7, v8], [], I, L) := by
  intro n
  induction n with
  | zero => intro _ v v v v v v v I L f0; trivial
  | succ n ih =>
    intro hx v1 v2 v4 v5 v6 v7 v8 I L f0
    refine pn_lp [20, 53, 119] 400 ?_
    conv => whnf
    refine ⟨fun _ => ?_, fun _ => ?_⟩
    · conv => whnf
      exact pn_dec n (hx _ _ _ _ _ _ _ _ _ _ f0)
    · conv => whnf
      refine Fx36 (fun x1 I1 L1 f1 => ?_)
      conv => whnf
      refine FxL122_53  _ (fun _ _ _ _ _ _ _ I2 L2 f2 => ?_) _ _ _ _ _ _ _ _ _ fr_rf
      refine pn_go [20, 53, 119] 400 ?_
      conv => whnf
      exact ih (fun q0 q1 q2 q3 q4 q5 q6 q7 I L f => pn_dec n (hx q0 q1 q2 q3 q4 q5 q6 q7 I L f)) _ _ _ _ _ _ _ _ _ (fr_then (by decide) (fr_then (by decide) f0 f1) f2)
set_option maxHeartbeats 4000000 in
set_option maxRecDepth 20000 in
theorem Fx122 {d : Nat} {k : jK} {a1 : Int32} {I : jI} {L : jL} (hk : ∀ (x : Int64) (I' : jI) (L' : jL), fr [] I I' → k (some (.inl (.inr x))) (I', L')) : jPM d 122 [.inr (0, 0), .inl (.inl a1)] (I, L) k := by
  refine pM (fun d n => ?_)
  refine pn_go [20, 53] 400 ?_
  conv => whnf
  refine Fx1g11 (fun I1 L1 f1 => ?_)
  conv => whnf
  intro _
  conv => whnf
  refine FxL122_20  _ (fun _ _ _ _ _ _ _ _ I2 L2 f2 => ?_) _ _ _ _ _ _ _ _ _ fr_rf
  refine pn_go [20, 53] 400 ?_
  conv => whnf
  exact hk _ _ _ (fr_then (by decide) (fr_then (by decide) fr_rf f1) f2)
set_option maxHeartbeats 4000000 in
set_option maxRecDepth 20000 in
theorem FxL103_47 {d : Nat} {k : jK} {I0 : jI}  : ∀ (n : Nat), (∀ (v1 : Option jV) (v2 : Option jV) (v3 : Int64) (v5 : Int64) (v7 : Option jV) (I : jI) (L : jL), fr [] I0 I → pn (jPM d) k none (jco 103) n (72, [some (.inr (0, 0)), v1, v2, some (.inl (.inr v3)), none, some (.inl (.inr v5)), none, v7], [], I, L)) → ∀ (v1 : Option jV) (v2 : Option jV) (v3 : Int64) (v5 : Int64) (v7 : Int32) (I : jI) (L : jL), fr [] I0 I → pn (jPM d) k none (jco 103) n (47, [some (.inr (0, 0)), v1, v2, some (.inl (.inr v3)), none, some (.inl (.inr v5)), none, some (.inl (.inl v7))], [], I, L) := by
  intro n
  induction n with
  | zero => intro _ v v v v v I L f0; trivial
  | succ n ih =>
    intro hx v1 v2 v3 v5 v7 I L f0
    refine pn_lp [47, 72] 400 ?_
    conv => whnf
    refine ⟨fun _ => ?_, fun _ => ?_⟩
    · conv => whnf
      exact pn_dec n (hx _ _ _ _ _ _ _ f0)
    · conv => whnf
      intro _
      conv => whnf
      exact ih (fun q0 q1 q2 q3 q4 I L f => pn_dec n (hx q0 q1 q2 q3 q4 I L f)) _ _ _ _ _ _ _ f0
set_option maxHeartbeats 4000000 in
set_option maxRecDepth 20000 in
theorem Fx103 {d : Nat} {k : jK} {a1 : Int32} {a2 : Int32} {I : jI} {L : jL} (hk : ∀ (x : Int32) (I' : jI) (L' : jL), fr [] I I' → k (some (.inl (.inl x))) (I', L')) : jPM d 103 [.inr (0, 0), .inl (.inl a1), .inl (.inl a2)] (I, L) k := by
  refine pM (fun d n => ?_)
  refine pn_go [47] 400 ?_
  conv => whnf
  refine ⟨fun _ => ?_, fun _ => ?_⟩
  · conv => whnf
    exact hk _ _ _ fr_rf
  · conv => whnf
    refine ⟨fun _ => ?_, fun _ => ?_⟩
    · conv => whnf
      exact hk _ _ _ fr_rf
    · conv => whnf
      refine ⟨fun _ => ?_, fun _ => ?_⟩
      · conv => whnf
        exact hk _ _ _ fr_rf
      · conv => whnf
        refine ⟨fun _ => ?_, fun _ => ?_⟩
        · conv => whnf
          refine ⟨fun _ => ?_, fun _ => ?_⟩
          · conv => whnf
            refine Fx122 (fun x1 I1 L1 f1 => ?_)
            conv => whnf
            refine FxL103_47  _ (fun _ _ _ _ _ I2 L2 f2 => ?_) _ _ _ _ _ _ _ fr_rf
            refine pn_go [47] 400 ?_
            conv => whnf
            refine Fx116 (fun I3 L3 f3 => ?_)
            conv => whnf
            exact hk _ _ _ (fr_then (by decide) (fr_then (by decide) (fr_then (by decide) fr_rf f1) f2) f3)
          · conv => whnf
            exact hk _ _ _ fr_rf
        · conv => whnf
          exact hk _ _ _ fr_rf
