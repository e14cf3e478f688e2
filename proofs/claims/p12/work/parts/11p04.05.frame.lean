set_option maxHeartbeats 4000000 in
set_option maxRecDepth 20000 in
theorem FxL104_30 {d : Nat} {k : jK} {I0 : jI}  : ∀ (n : Nat), (∀ (v1 : Int32) (v2 : Int64) (v4 : Option jV) (I : jI) (L : jL), fr [] I0 I → pn (jPM d) k none (jco 104) n (62, [some (.inr (0, 0)), some (.inl (.inl v1)), some (.inl (.inr v2)), none, v4], [], I, L)) → ∀ (v1 : Int32) (v2 : Int64) (v4 : Int32) (I : jI) (L : jL), fr [] I0 I → pn (jPM d) k none (jco 104) n (30, [some (.inr (0, 0)), some (.inl (.inl v1)), some (.inl (.inr v2)), none, some (.inl (.inl v4))], [], I, L) := by
  intro n
  induction n with
  | zero => intro _ v v v I L f0; trivial
  | succ n ih =>
    intro hx v1 v2 v4 I L f0
    refine pn_lp [30, 62] 400 ?_
    conv => whnf
    refine ⟨fun _ => ?_, fun _ => ?_⟩
    · conv => whnf
      exact pn_dec n (hx _ _ _ _ _ f0)
    · conv => whnf
      refine Fx35 (fun x1 I1 L1 f1 => ?_)
      conv => whnf
      exact ih (fun q0 q1 q2 I L f => pn_dec n (hx q0 q1 q2 I L f)) _ _ _ _ _ (fr_then (by decide) f0 f1)
set_option maxHeartbeats 4000000 in
set_option maxRecDepth 20000 in
theorem Fx104 {d : Nat} {k : jK} {a1 : Int32} {I : jI} {L : jL} (hk : ∀ (x : Int32) (I' : jI) (L' : jL), fr [] I I' → k (some (.inl (.inl x))) (I', L')) : jPM d 104 [.inr (0, 0), .inl (.inl a1)] (I, L) k := by
  refine pM (fun d n => ?_)
  refine pn_go [30] 400 ?_
  conv => whnf
  refine ⟨fun _ => ?_, fun _ => ?_⟩
  · conv => whnf
    exact hk _ _ _ fr_rf
  · conv => whnf
    refine ⟨fun _ => ?_, fun _ => ?_⟩
    · conv => whnf
      refine ⟨fun _ => ?_, fun _ => ?_⟩
      · conv => whnf
        refine FxL104_30  _ (fun _ _ _ I1 L1 f1 => ?_) _ _ _ _ _ fr_rf
        refine pn_go [30] 400 ?_
        conv => whnf
        refine Fx116 (fun I2 L2 f2 => ?_)
        conv => whnf
        exact hk _ _ _ (fr_then (by decide) (fr_then (by decide) fr_rf f1) f2)
      · conv => whnf
        exact hk _ _ _ fr_rf
    · conv => whnf
      exact hk _ _ _ fr_rf
set_option maxHeartbeats 4000000 in
set_option maxRecDepth 20000 in
theorem Fx47 {d : Nat} {k : jK} {a0 : Nat} {a1 : Int64} {I : jI} {L : jL} (hk : ∀ (I' : jI) (L' : jL), fr [19, 20, 22, 23, 5009, 5010, 5011, 5012, 5013, 5014, 5015] I I' → k none (I', L')) : jPM d 47 [.inr (4, a0), .inl (.inr a1)] (I, L) k := by
  refine pM (fun d n => ?_)
  refine pn_go [] 400 ?_
  conv => whnf
  refine ⟨fun _ => ?_, fun _ => ?_⟩
  · conv => whnf
    intro _
    conv => whnf
    intro _
    conv => whnf
    intro _
    conv => whnf
    refine ⟨fun _ => ?_, fun _ => ?_⟩
    · conv => whnf
      refine ⟨fun _ => ?_, fun _ => ?_⟩
      · conv => whnf
        refine Fx44 (fun x1 I1 L1 f1 => ?_)
        conv => whnf
        exact hk _ _ (fr_then (by decide) fr_rf f1)
      · conv => whnf
        refine Fx34 (fun x2 I2 L2 f2 => ?_)
        conv => whnf
        refine ⟨fun _ => ?_, fun _ => ?_⟩
        · conv => whnf
          refine Fx44 (fun x3 I3 L3 f3 => ?_)
          conv => whnf
          exact hk _ _ (fr_then (by decide) (fr_then (by decide) fr_rf f2) f3)
        · conv => whnf
          refine Fx44 (fun x4 I4 L4 f4 => ?_)
          conv => whnf
          exact hk _ _ (fr_then (by decide) (fr_then (by decide) fr_rf f2) f4)
    · conv => whnf
      refine Fx33 (fun x5 I5 L5 f5 => ?_)
      conv => whnf
      refine ⟨fun _ => ?_, fun _ => ?_⟩
      · conv => whnf
        refine ⟨fun _ => ?_, fun _ => ?_⟩
        · conv => whnf
          refine Fx44 (fun x6 I6 L6 f6 => ?_)
          conv => whnf
          exact hk _ _ (fr_then (by decide) (fr_then (by decide) fr_rf f5) f6)
        · conv => whnf
          refine Fx34 (fun x7 I7 L7 f7 => ?_)
          conv => whnf
          refine ⟨fun _ => ?_, fun _ => ?_⟩
          · conv => whnf
            refine Fx44 (fun x8 I8 L8 f8 => ?_)
            conv => whnf
            exact hk _ _ (fr_then (by decide) (fr_then (by decide) (fr_then (by decide) fr_rf f5) f7) f8)
          · conv => whnf
            refine Fx44 (fun x9 I9 L9 f9 => ?_)
            conv => whnf
            exact hk _ _ (fr_then (by decide) (fr_then (by decide) (fr_then (by decide) fr_rf f5) f7) f9)
      · conv => whnf
        refine Fx44 (fun x10 I10 L10 f10 => ?_)
        conv => whnf
        exact hk _ _ (fr_then (by decide) (fr_then (by decide) fr_rf f5) f10)
  · conv => whnf
    exact hk _ _ fr_rf
set_option maxHeartbeats 4000000 in
set_option maxRecDepth 20000 in
theorem FxL105_60 {d : Nat} {k : jK} {I0 : jI}  : ∀ (n : Nat), (∀ (v1 : Option jV) (v2 : Option jV) (v3 : Option jV) (v4 : Option jV) (v5 : Option jV) (I : jI) (L : jL), fr [19, 20, 22, 23, 5009, 5010, 5011, 5012, 5013, 5014, 5015] I0 I → pn (jPM d) k none (jco 105) n (90, [some (.inr (0, 0)), v1, v2, v3, v4, v5], [], I, L)) → ∀ (v1 : Int32) (v2 : Option jV) (v3 : Int64) (v5 : Int32) (I : jI) (L : jL), fr [19, 20, 22, 23, 5009, 5010, 5011, 5012, 5013, 5014, 5015] I0 I → pn (jPM d) k none (jco 105) n (60, [some (.inr (0, 0)), some (.inl (.inl v1)), v2, some (.inl (.inr v3)), none, some (.inl (.inl v5))], [], I, L) := by
  intro n
  induction n with
  | zero => intro _ v v v v I L f0; trivial
  | succ n ih =>
    intro hx v1 v2 v3 v5 I L f0
    refine pn_lp [60, 90] 400 ?_
    conv => whnf
    refine ⟨fun _ => ?_, fun _ => ?_⟩
    · conv => whnf
      exact pn_dec n (hx _ _ _ _ _ _ _ f0)
    · conv => whnf
      intro _
      conv => whnf
      refine Fx47 (fun I1 L1 f1 => ?_)
      conv => whnf
      exact ih (fun q0 q1 q2 q3 q4 I L f => pn_dec n (hx q0 q1 q2 q3 q4 I L f)) _ _ _ _ _ _ (fr_then (by decide) f0 f1)
set_option maxHeartbeats 4000000 in
set_option maxRecDepth 20000 in
theorem Fx105 {d : Nat} {k : jK} {a1 : Int32} {a2 : Int32} {I : jI} {L : jL} (hk : ∀ (x : Int32) (I' : jI) (L' : jL), fr [19, 20, 22, 23, 5009, 5010, 5011, 5012, 5013, 5014, 5015] I I' → k (some (.inl (.inl x))) (I', L')) : jPM d 105 [.inr (0, 0), .inl (.inl a1), .inl (.inl a2)] (I, L) k := by
  refine pM (fun d n => ?_)
  refine pn_go [60] 400 ?_
  conv => whnf
  refine ⟨fun _ => ?_, fun _ => ?_⟩
  · conv => whnf
    exact hk _ _ _ fr_rf
  · conv => whnf
    refine ⟨fun _ => ?_, fun _ => ?_⟩
    · conv => whnf
      exact hk _ _ _ fr_rf
    · conv => whnf
      refine ⟨fun _ => ?_, fun _ => ?_⟩
      · conv => whnf
        exact hk _ _ _ fr_rf
      · conv => whnf
        refine ⟨fun _ => ?_, fun _ => ?_⟩
        · conv => whnf
          refine ⟨fun _ => ?_, fun _ => ?_⟩
          · conv => whnf
            refine Fx32 (fun x1 I1 L1 f1 => ?_)
            conv => whnf
            refine ⟨fun _ => ?_, fun _ => ?_⟩
            · conv => whnf
              refine FxL105_60  _ (fun _ _ _ _ _ I2 L2 f2 => ?_) _ _ _ _ _ _ fr_rf
              refine pn_go [60] 400 ?_
              conv => whnf
              refine Fx10 (fun x3 I3 L3 f3 => ?_)
              conv => whnf
              exact hk _ _ _ (fr_then (by decide) (fr_then (by decide) (fr_then (by decide) fr_rf f1) f2) f3)
            · conv => whnf
              exact hk _ _ _ (fr_then (by decide) fr_rf f1)
          · conv => whnf
            exact hk _ _ _ fr_rf
        · conv => whnf
          exact hk _ _ _ fr_rf
set_option maxHeartbeats 4000000 in
set_option maxRecDepth 20000 in
theorem Fx106 {d : Nat} {k : jK} {I : jI} {L : jL} (hk : ∀ (x : Int32) (I' : jI) (L' : jL), fr [] I I' → k (some (.inl (.inl x))) (I', L')) : jPM d 106 [.inr (0, 0)] (I, L) k := by
  refine pM (fun d n => ?_)
  refine pn_go [] 400 ?_
  conv => whnf
  exact hk _ _ _ fr_rf
set_option maxHeartbeats 4000000 in
set_option maxRecDepth 20000 in
theorem Fx107 {d : Nat} {k : jK} {I : jI} {L : jL} (hk : ∀ (x : Int64) (I' : jI) (L' : jL), fr [] I I' → k (some (.inl (.inr x))) (I', L')) : jPM d 107 [.inr (0, 0)] (I, L) k := by
  refine pM (fun d n => ?_)
  refine pn_go [] 400 ?_
  conv => whnf
  exact hk _ _ _ fr_rf
set_option maxHeartbeats 4000000 in
set_option maxRecDepth 20000 in
theorem Fx108 {d : Nat} {k : jK} {I : jI} {L : jL} (hk : ∀ (x : Int64) (I' : jI) (L' : jL), fr [] I I' → k (some (.inl (.inr x))) (I', L')) : jPM d 108 [.inr (0, 0)] (I, L) k := by
  refine pM (fun d n => ?_)
  refine pn_go [] 400 ?_
  conv => whnf
  exact hk _ _ _ fr_rf
set_option maxHeartbeats 4000000 in
set_option maxRecDepth 20000 in
theorem FxL26g1_4 {d : Nat} {k : jK} {I0 : jI}  : ∀ (n : Nat), (∀ (v0 : Option jV) (v1 : Int32) (v2 : Option jV) (I : jI) (L : jL), fr [] I0 I → pn (jPM d) k none (jco 26) n (35, [v0, some (.inl (.inl v1)), v2], [], I, L)) → ∀ (v1 : Int32) (v2 : Int32) (I : jI) (L : jL), fr [] I0 I → pn (jPM d) k none (jco 26) n (4, [some (.inr (1, 0)), some (.inl (.inl v1)), some (.inl (.inl v2))], [], I, L) := by
  intro n
  induction n with
  | zero => intro _ v v I L f0; trivial
  | succ n ih =>
    intro hx v1 v2 I L f0
    refine pn_lp [4, 35] 400 ?_
    conv => whnf
    refine ⟨fun _ => ?_, fun _ => ?_⟩
    · conv => whnf
      exact pn_dec n (hx _ _ _ _ _ f0)
    · conv => whnf
      refine Fx16g1 (fun x1 I1 L1 f1 => ?_)
      conv => whnf
      refine ⟨fun _ => ?_, fun _ => ?_⟩
      · conv => whnf
        exact ih (fun q0 q1 q2 I L f => pn_dec n (hx q0 q1 q2 I L f)) _ _ _ _ (fr_then (by decide) f0 f1)
      · conv => whnf
        exact ih (fun q0 q1 q2 I L f => pn_dec n (hx q0 q1 q2 I L f)) _ _ _ _ (fr_then (by decide) f0 f1)
set_option maxHeartbeats 4000000 in
set_option maxRecDepth 20000 in
theorem Fx26g1 {d : Nat} {k : jK} {I : jI} {L : jL} (hk : ∀ (x : Int32) (I' : jI) (L' : jL), fr [] I I' → k (some (.inl (.inl x))) (I', L')) : jPM d 26 [.inr (1, 0)] (I, L) k := by
  refine pM (fun d n => ?_)
  refine pn_go [4] 400 ?_
  conv => whnf
  refine FxL26g1_4  _ (fun _ _ _ I1 L1 f1 => ?_) _ _ _ _ fr_rf
  refine pn_go [4] 400 ?_
  conv => whnf
  exact hk _ _ _ (fr_then (by decide) fr_rf f1)
set_option maxHeartbeats 4000000 in
set_option maxRecDepth 20000 in
theorem FxL26g2_4 {d : Nat} {k : jK} {I0 : jI}  : ∀ (n : Nat), (∀ (v0 : Option jV) (v1 : Int32) (v2 : Option jV) (I : jI) (L : jL), fr [] I0 I → pn (jPM d) k none (jco 26) n (35, [v0, some (.inl (.inl v1)), v2], [], I, L)) → ∀ (v1 : Int32) (v2 : Int32) (I : jI) (L : jL), fr [] I0 I → pn (jPM d) k none (jco 26) n (4, [some (.inr (2, 0)), some (.inl (.inl v1)), some (.inl (.inl v2))], [], I, L) := by
  intro n
  induction n with
  | zero => intro _ v v I L f0; trivial
  | succ n ih =>
    intro hx v1 v2 I L f0
    refine pn_lp [4, 35] 400 ?_
    conv => whnf
    refine ⟨fun _ => ?_, fun _ => ?_⟩
    · conv => whnf
      exact pn_dec n (hx _ _ _ _ _ f0)
    · conv => whnf
      refine Fx16g2 (fun x1 I1 L1 f1 => ?_)
      conv => whnf
      refine ⟨fun _ => ?_, fun _ => ?_⟩
      · conv => whnf
        exact ih (fun q0 q1 q2 I L f => pn_dec n (hx q0 q1 q2 I L f)) _ _ _ _ (fr_then (by decide) f0 f1)
      · conv => whnf
        exact ih (fun q0 q1 q2 I L f => pn_dec n (hx q0 q1 q2 I L f)) _ _ _ _ (fr_then (by decide) f0 f1)
set_option maxHeartbeats 4000000 in
set_option maxRecDepth 20000 in
theorem Fx26g2 {d : Nat} {k : jK} {I : jI} {L : jL} (hk : ∀ (x : Int32) (I' : jI) (L' : jL), fr [] I I' → k (some (.inl (.inl x))) (I', L')) : jPM d 26 [.inr (2, 0)] (I, L) k := by
  refine pM (fun d n => ?_)
  refine pn_go [4] 400 ?_
  conv => whnf
  refine FxL26g2_4  _ (fun _ _ _ I1 L1 f1 => ?_) _ _ _ _ fr_rf
  refine pn_go [4] 400 ?_
  conv => whnf
  exact hk _ _ _ (fr_then (by decide) fr_rf f1)
set_option maxHeartbeats 4000000 in
set_option maxRecDepth 20000 in
theorem FxL115_4 {d : Nat} {k : jK} {I0 : jI}  : ∀ (n : Nat), (∀ (v0 : Option jV) (v1 : Int32) (v2 : Option jV) (I : jI) (L : jL), fr [] I0 I → pn (jPM d) k none (jco 115) n (32, [v0, some (.inl (.inl v1)), v2], [], I, L)) → ∀ (v1 : Int32) (v2 : Int32) (I : jI) (L : jL), fr [] I0 I → pn (jPM d) k none (jco 115) n (4, [some (.inr (0, 0)), some (.inl (.inl v1)), some (.inl (.inl v2))], [], I, L) := by
  intro n
  induction n with
  | zero => intro _ v v I L f0; trivial
  | succ n ih =>
    intro hx v1 v2 I L f0
    refine pn_lp [4, 32] 400 ?_
    conv => whnf
    refine ⟨fun _ => ?_, fun _ => ?_⟩
    · conv => whnf
      exact pn_dec n (hx _ _ _ _ _ f0)
    · conv => whnf
      intro _
      conv => whnf
      refine ⟨fun _ => ?_, fun _ => ?_⟩
      · conv => whnf
        exact ih (fun q0 q1 q2 I L f => pn_dec n (hx q0 q1 q2 I L f)) _ _ _ _ f0
      · conv => whnf
        exact ih (fun q0 q1 q2 I L f => pn_dec n (hx q0 q1 q2 I L f)) _ _ _ _ f0
set_option maxHeartbeats 4000000 in
set_option maxRecDepth 20000 in
theorem Fx115 {d : Nat} {k : jK} {I : jI} {L : jL} (hk : ∀ (x : Int32) (I' : jI) (L' : jL), fr [] I I' → k (some (.inl (.inl x))) (I', L')) : jPM d 115 [.inr (0, 0)] (I, L) k := by
  refine pM (fun d n => ?_)
  refine pn_go [4] 400 ?_
  conv => whnf
  refine FxL115_4  _ (fun _ _ _ I1 L1 f1 => ?_) _ _ _ _ fr_rf
  refine pn_go [4] 400 ?_
  conv => whnf
  exact hk _ _ _ (fr_then (by decide) fr_rf f1)
set_option maxHeartbeats 4000000 in
set_option maxRecDepth 20000 in
theorem FxL43_4 {d : Nat} {k : jK} {y0 : Nat} {I0 : jI}  : ∀ (n : Nat), (∀ (v0 : Option jV) (v1 : Option jV) (v2 : Int32) (v3 : Option jV) (I : jI) (L : jL), fr [] I0 I → pn (jPM d) k none (jco 43) n (39, [v0, v1, some (.inl (.inl v2)), v3], [], I, L)) → ∀ (v1 : Int32) (v2 : Int32) (v3 : Int32) (I : jI) (L : jL), fr [] I0 I → pn (jPM d) k none (jco 43) n (4, [some (.inr (4, y0)), some (.inl (.inl v1)), some (.inl (.inl v2)), some (.inl (.inl v3))], [], I, L) := by
  intro n
  induction n with
  | zero => intro _ v v v I L f0; trivial
  | succ n ih =>
    intro hx v1 v2 v3 I L f0
    refine pn_lp [4, 39] 400 ?_
    conv => whnf
    refine ⟨fun _ => ?_, fun _ => ?_⟩
    · conv => whnf
      exact pn_dec n (hx _ _ _ _ _ _ f0)
    · conv => whnf
      intro _
      conv => whnf
      refine Fx3 (fun x1 I1 L1 f1 => ?_)
      conv => whnf
      refine ⟨fun _ => ?_, fun _ => ?_⟩
      · conv => whnf
        exact ih (fun q0 q1 q2 q3 I L f => pn_dec n (hx q0 q1 q2 q3 I L f)) _ _ _ _ _ (fr_then (by decide) f0 f1)
      · conv => whnf
        exact ih (fun q0 q1 q2 q3 I L f => pn_dec n (hx q0 q1 q2 q3 I L f)) _ _ _ _ _ (fr_then (by decide) f0 f1)
set_option maxHeartbeats 4000000 in
set_option maxRecDepth 20000 in
theorem Fx43 {d : Nat} {k : jK} {a0 : Nat} {a1 : Int32} {I : jI} {L : jL} (hk : ∀ (x : Int32) (I' : jI) (L' : jL), fr [] I I' → k (some (.inl (.inl x))) (I', L')) : jPM d 43 [.inr (4, a0), .inl (.inl a1)] (I, L) k := by
  refine pM (fun d n => ?_)
  refine pn_go [4] 400 ?_
  conv => whnf
  refine FxL43_4  _ (fun _ _ _ _ I1 L1 f1 => ?_) _ _ _ _ _ fr_rf
  refine pn_go [4] 400 ?_
  conv => whnf
  exact hk _ _ _ (fr_then (by decide) fr_rf f1)
set_option maxHeartbeats 4000000 in
set_option maxRecDepth 20000 in
theorem Fx42 {d : Nat} {k : jK} {a0 : Nat} {a1 : Int32} {I : jI} {L : jL} (hk : ∀ (x : Int32) (I' : jI) (L' : jL), fr [] I I' → k (some (.inl (.inl x))) (I', L')) : jPM d 42 [.inr (4, a0), .inl (.inl a1)] (I, L) k := by
  refine pM (fun d n => ?_)
  refine pn_go [] 400 ?_
  conv => whnf
  refine And.intro (fun _ => ?_) (fun _ => ?_)
  · conv => whnf
    exact hk _ _ _ fr_rf
  refine jsw_cons (fun _ => ?_) (fun _ => ?_)
  · conv => whnf
    exact hk _ _ _ fr_rf
  refine jsw_cons (fun _ => ?_) (fun _ => ?_)
  · conv => whnf
    exact hk _ _ _ fr_rf
  refine jsw_cons (fun _ => ?_) (fun _ => ?_)
  · conv => whnf
    exact hk _ _ _ fr_rf
  refine jsw_cons (fun _ => ?_) (fun _ => ?_)
  · conv => whnf
    refine Fx10 (fun x1 I1 L1 f1 => ?_)
    conv => whnf
    exact hk _ _ _ (fr_then (by decide) fr_rf f1)
  refine jsw_cons (fun _ => ?_) (fun _ => ?_)
  · conv => whnf
    exact hk _ _ _ fr_rf
  refine jsw_cons (fun _ => ?_) (fun _ => ?_)
  · conv => whnf
    exact hk _ _ _ fr_rf
  refine jsw_cons (fun _ => ?_) (fun _ => ?_)
  · conv => whnf
    exact hk _ _ _ fr_rf
  refine jsw_cons (fun _ => ?_) (fun _ => ?_)
  · conv => whnf
    refine ⟨fun _ => ?_, fun _ => ?_⟩
    · conv => whnf
      exact hk _ _ _ fr_rf
    · conv => whnf
      exact hk _ _ _ fr_rf
  refine jsw_cons (fun _ => ?_) (fun _ => ?_)
  · conv => whnf
    refine Fx43 (fun x2 I2 L2 f2 => ?_)
    conv => whnf
    exact hk _ _ _ (fr_then (by decide) fr_rf f2)
  refine jsw_cons (fun _ => ?_) (fun _ => ?_)
  · conv => whnf
    refine Fx43 (fun x3 I3 L3 f3 => ?_)
    conv => whnf
    exact hk _ _ _ (fr_then (by decide) fr_rf f3)
  refine jsw_cons (fun _ => ?_) (fun _ => ?_)
  · conv => whnf
    exact hk _ _ _ fr_rf
  refine jsw_cons (fun _ => ?_) (fun _ => ?_)
  · conv => whnf
    exact hk _ _ _ fr_rf
  refine jsw_cons (fun _ => ?_) (fun _ => ?_)
  · conv => whnf
    exact hk _ _ _ fr_rf
  refine jsw_cons (fun _ => ?_) (fun _ => ?_)
  · conv => whnf
    exact hk _ _ _ fr_rf
  refine jsw_nil ?_
  conv => whnf
  exact hk _ _ _ fr_rf
set_option maxHeartbeats 4000000 in
set_option maxRecDepth 20000 in
theorem Fx114 {d : Nat} {k : jK} {a1 : Int32} {I : jI} {L : jL} (hk : ∀ (x : Int32) (I' : jI) (L' : jL), fr [] I I' → k (some (.inl (.inl x))) (I', L')) : jPM d 114 [.inr (0, 0), .inl (.inl a1)] (I, L) k := by
  refine pM (fun d n => ?_)
  refine pn_go [] 400 ?_
  conv => whnf
  refine And.intro (fun _ => ?_) (fun _ => ?_)
  · conv => whnf
    refine Fx26g1 (fun x1 I1 L1 f1 => ?_)
    conv => whnf
    exact hk _ _ _ (fr_then (by decide) fr_rf f1)
  refine jsw_cons (fun _ => ?_) (fun _ => ?_)
  · conv => whnf
    refine Fx26g2 (fun x2 I2 L2 f2 => ?_)
    conv => whnf
    exact hk _ _ _ (fr_then (by decide) fr_rf f2)
  refine jsw_cons (fun _ => ?_) (fun _ => ?_)
  · conv => whnf
    refine Fx115 (fun x3 I3 L3 f3 => ?_)
    conv => whnf
    exact hk _ _ _ (fr_then (by decide) fr_rf f3)
  refine jsw_nil ?_
  conv => whnf
  refine Fx42 (fun x4 I4 L4 f4 => ?_)
  conv => whnf
  exact hk _ _ _ (fr_then (by decide) fr_rf f4)
set_option maxHeartbeats 4000000 in
set_option maxRecDepth 20000 in
theorem Fx109 {d : Nat} {k : jK} {a1 : Int32} {I : jI} {L : jL} (hk : ∀ (x : Int32) (I' : jI) (L' : jL), fr [] I I' → k (some (.inl (.inl x))) (I', L')) : jPM d 109 [.inr (0, 0), .inl (.inl a1)] (I, L) k := by
  refine pM (fun d n => ?_)
  refine pn_go [] 400 ?_
  conv => whnf
  refine ⟨fun _ => ?_, fun _ => ?_⟩
  · conv => whnf
    exact hk _ _ _ fr_rf
  · conv => whnf
    refine ⟨fun _ => ?_, fun _ => ?_⟩
    · conv => whnf
      refine Fx114 (fun x1 I1 L1 f1 => ?_)
      conv => whnf
      exact hk _ _ _ (fr_then (by decide) fr_rf f1)
    · conv => whnf
      exact hk _ _ _ fr_rf
set_option maxHeartbeats 4000000 in
set_option maxRecDepth 20000 in
theorem Fx110 {d : Nat} {k : jK} {I : jI} {L : jL} (hk : ∀ (x : Int32) (I' : jI) (L' : jL), fr [] I I' → k (some (.inl (.inl x))) (I', L')) : jPM d 110 [.inr (0, 0)] (I, L) k := by
  refine pM (fun d n => ?_)
  refine pn_go [] 400 ?_
  conv => whnf
  exact hk _ _ _ fr_rf
set_option maxHeartbeats 4000000 in
set_option maxRecDepth 20000 in
theorem Fx111 {d : Nat} {k : jK} {a1 : Int32} {I : jI} {L : jL} (hk : ∀ (x : Int32) (I' : jI) (L' : jL), fr [] I I' → k (some (.inl (.inl x))) (I', L')) : jPM d 111 [.inr (0, 0), .inl (.inl a1)] (I, L) k := by
  refine pM (fun d n => ?_)
  refine pn_go [] 400 ?_
  conv => whnf
  refine ⟨fun _ => ?_, fun _ => ?_⟩
  · conv => whnf
    exact hk _ _ _ fr_rf
  · conv => whnf
    refine ⟨fun _ => ?_, fun _ => ?_⟩
    · conv => whnf
      intro _
      conv => whnf
      exact hk _ _ _ fr_rf
    · conv => whnf
      exact hk _ _ _ fr_rf
set_option maxHeartbeats 4000000 in
set_option maxRecDepth 20000 in
theorem FxL112_6 {d : Nat} {k : jK} {I0 : jI}  : ∀ (n : Nat), (∀ (v1 : Int64) (v3 : Option jV) (v4 : Option jV) (I : jI) (L : jL), fr [] I0 I → pn (jPM d) k none (jco 112) n (31, [some (.inr (0, 0)), some (.inl (.inr v1)), none, v3, v4], [], I, L)) → ∀ (v1 : Int64) (v3 : Int32) (v4 : Option jV) (I : jI) (L : jL), fr [] I0 I → pn (jPM d) k none (jco 112) n (6, [some (.inr (0, 0)), some (.inl (.inr v1)), none, some (.inl (.inl v3)), v4], [], I, L) := by
  intro n
  induction n with
  | zero => intro _ v v v I L f0; trivial
  | succ n ih =>
    intro hx v1 v3 v4 I L f0
    refine pn_lp [6, 31, 33, 66, 80, 119] 400 ?_
    conv => whnf
    refine ⟨fun _ => ?_, fun _ => ?_⟩
    · conv => whnf
      exact pn_dec n (hx _ _ _ _ _ f0)
    · conv => whnf
      refine Fx114 (fun x1 I1 L1 f1 => ?_)
      conv => whnf
      exact ih (fun q0 q1 q2 I L f => pn_dec n (hx q0 q1 q2 I L f)) _ _ _ _ _ (fr_then (by decide) f0 f1)
set_option maxHeartbeats 4000000 in
set_option maxRecDepth 20000 in
theorem FxL112_33 {d : Nat} {k : jK} {I0 : jI}  : ∀ (n : Nat), (∀ (v1 : Int64) (v3 : Option jV) (v4 : Option jV) (I : jI) (L : jL), fr [] I0 I → pn (jPM d) k none (jco 112) n (64, [some (.inr (0, 0)), some (.inl (.inr v1)), none, v3, v4], [], I, L)) → ∀ (v1 : Int64) (v3 : Int32) (v4 : Option jV) (I : jI) (L : jL), fr [] I0 I → pn (jPM d) k none (jco 112) n (33, [some (.inr (0, 0)), some (.inl (.inr v1)), none, some (.inl (.inl v3)), v4], [], I, L) := by
  intro n
  induction n with
  | zero => intro _ v v v I L f0; trivial
  | succ n ih =>
    intro hx v1 v3 v4 I L f0
    refine pn_lp [6, 33, 64, 66, 80, 119] 400 ?_
    conv => whnf
    refine ⟨fun _ => ?_, fun _ => ?_⟩
    · conv => whnf
      exact pn_dec n (hx _ _ _ _ _ f0)
    · conv => whnf
      refine Fx9 (fun x1 I1 L1 f1 => ?_)
      conv => whnf
      exact ih (fun q0 q1 q2 I L f => pn_dec n (hx q0 q1 q2 I L f)) _ _ _ _ _ (fr_then (by decide) f0 f1)
set_option maxHeartbeats 4000000 in
set_option maxRecDepth 20000 in
theorem FxL112_80 {d : Nat} {k : jK} {I0 : jI}  : ∀ (n : Nat), (∀ (v1 : Int64) (v3 : Int32) (v4 : Option jV) (I : jI) (L : jL), fr [] I0 I → pn (jPM d) k none (jco 112) n (111, [some (.inr (0, 0)), some (.inl (.inr v1)), none, some (.inl (.inl v3)), v4], [], I, L)) → ∀ (v1 : Int64) (v3 : Int32) (v4 : Int32) (I : jI) (L : jL), fr [] I0 I → pn (jPM d) k none (jco 112) n (80, [some (.inr (0, 0)), some (.inl (.inr v1)), none, some (.inl (.inl v3)), some (.inl (.inl v4))], [], I, L) := by
  intro n
  induction n with
  | zero => intro _ v v v I L f0; trivial
  | succ n ih =>
    intro hx v1 v3 v4 I L f0
    refine pn_lp [6, 33, 66, 80, 111, 119] 400 ?_
    conv => whnf
    refine ⟨fun _ => ?_, fun _ => ?_⟩
    · conv => whnf
      exact pn_dec n (hx _ _ _ _ _ f0)
    · conv => whnf
      refine Fx40 (fun x1 I1 L1 f1 => ?_)
      conv => whnf
      exact ih (fun q0 q1 q2 I L f => pn_dec n (hx q0 q1 q2 I L f)) _ _ _ _ _ (fr_then (by decide) f0 f1)
set_option maxHeartbeats 4000000 in
set_option maxRecDepth 20000 in
theorem FxL112_66 {d : Nat} {k : jK} {I0 : jI}  : ∀ (n : Nat), (∀ (v1 : Int64) (v3 : Option jV) (v4 : Option jV) (I : jI) (L : jL), fr [] I0 I → pn (jPM d) k none (jco 112) n (117, [some (.inr (0, 0)), some (.inl (.inr v1)), none, v3, v4], [], I, L)) → ∀ (v1 : Int64) (v3 : Int32) (v4 : Option jV) (I : jI) (L : jL), fr [] I0 I → pn (jPM d) k none (jco 112) n (66, [some (.inr (0, 0)), some (.inl (.inr v1)), none, some (.inl (.inl v3)), v4], [], I, L) := by
  intro n
  induction n with
  | zero => intro _ v v v I L f0; trivial
  | succ n ih =>
    intro hx v1 v3 v4 I L f0
    refine pn_lp [6, 33, 66, 80, 117, 119] 400 ?_
    conv => whnf
    refine ⟨fun _ => ?_, fun _ => ?_⟩
    · conv => whnf
      exact pn_dec n (hx _ _ _ _ _ f0)
    · conv => whnf
      refine FxL112_80  _ (fun _ _ _ I1 L1 f1 => ?_) _ _ _ _ _ fr_rf
      refine pn_go [6, 33, 66, 80, 117, 119] 400 ?_
      conv => whnf
      exact ih (fun q0 q1 q2 I L f => pn_dec n (hx q0 q1 q2 I L f)) _ _ _ _ _ (fr_then (by decide) f0 f1)
set_option maxHeartbeats 4000000 in
set_option maxRecDepth 20000 in
theorem FxL112_119 {d : Nat} {k : jK} {I0 : jI}  : ∀ (n : Nat), (∀ (v1 : Int64) (v3 : Option jV) (v4 : Option jV) (I : jI) (L : jL), fr [] I0 I → pn (jPM d) k none (jco 112) n (160, [some (.inr (0, 0)), some (.inl (.inr v1)), none, v3, v4], [], I, L)) → ∀ (v1 : Int64) (v3 : Int32) (v4 : Option jV) (I : jI) (L : jL), fr [] I0 I → pn (jPM d) k none (jco 112) n (119, [some (.inr (0, 0)), some (.inl (.inr v1)), none, some (.inl (.inl v3)), v4], [], I, L) := by
  intro n
  induction n with
  | zero => intro _ v v v I L f0; trivial
  | succ n ih =>
    intro hx v1 v3 v4 I L f0
    refine pn_lp [6, 33, 66, 80, 119, 160] 400 ?_
    conv => whnf
    refine ⟨fun _ => ?_, fun _ => ?_⟩
    · conv => whnf
      exact pn_dec n (hx _ _ _ _ _ f0)
    · conv => whnf
      intro _
      conv => whnf
      refine ⟨fun _ => ?_, fun _ => ?_⟩
      · conv => whnf
        exact ih (fun q0 q1 q2 I L f => pn_dec n (hx q0 q1 q2 I L f)) _ _ _ _ _ f0
      · conv => whnf
        intro _
        conv => whnf
        exact ih (fun q0 q1 q2 I L f => pn_dec n (hx q0 q1 q2 I L f)) _ _ _ _ _ f0
set_option maxHeartbeats 4000000 in
set_option maxRecDepth 20000 in
theorem FxL27g1_33 {d : Nat} {k : jK} {I0 : jI}  : ∀ (n : Nat), (∀ (v1 : Option jV) (v2 : Option jV) (v3 : Int64) (v5 : Int32) (v6 : Option jV) (I : jI) (L : jL), fr [] I0 I → pn (jPM d) k none (jco 27) n (69, [some (.inr (1, 0)), v1, v2, some (.inl (.inr v3)), none, some (.inl (.inl v5)), v6], [], I, L)) → ∀ (v1 : Option jV) (v2 : Option jV) (v3 : Int64) (v5 : Int32) (v6 : Int32) (I : jI) (L : jL), fr [] I0 I → pn (jPM d) k none (jco 27) n (33, [some (.inr (1, 0)), v1, v2, some (.inl (.inr v3)), none, some (.inl (.inl v5)), some (.inl (.inl v6))], [], I, L) := by
  intro n
  induction n with
  | zero => intro _ v v v v v I L f0; trivial
  | succ n ih =>
    intro hx v1 v2 v3 v5 v6 I L f0
    refine pn_lp [5, 33, 69] 400 ?_
    conv => whnf
    intro _
    conv => whnf
    refine ⟨fun _ => ?_, fun _ => ?_⟩
    · conv => whnf
      exact pn_dec n (hx _ _ _ _ _ _ _ f0)
    · conv => whnf
      intro _
      conv => whnf
      intro _
      conv => whnf
      exact ih (fun q0 q1 q2 q3 q4 I L f => pn_dec n (hx q0 q1 q2 q3 q4 I L f)) _ _ _ _ _ _ _ f0
set_option maxHeartbeats 4000000 in
set_option maxRecDepth 20000 in
theorem FxL27g1_5 {d : Nat} {k : jK} {I0 : jI}  : ∀ (n : Nat), (∀ (v0 : Option jV) (v1 : Option jV) (v2 : Option jV) (v3 : Int64) (v5 : Option jV) (v6 : Option jV) (I : jI) (L : jL), fr [] I0 I → pn (jPM d) k none (jco 27) n (75, [v0, v1, v2, some (.inl (.inr v3)), none, v5, v6], [], I, L)) → ∀ (v1 : Option jV) (v2 : Option jV) (v3 : Int64) (v5 : Int32) (v6 : Option jV) (I : jI) (L : jL), fr [] I0 I → pn (jPM d) k none (jco 27) n (5, [some (.inr (1, 0)), v1, v2, some (.inl (.inr v3)), none, some (.inl (.inl v5)), v6], [], I, L) := by
  intro n
  induction n with
  | zero => intro _ v v v v v I L f0; trivial
  | succ n ih =>
    intro hx v1 v2 v3 v5 v6 I L f0
    refine pn_lp [5, 33, 75] 400 ?_
    conv => whnf
    refine ⟨fun _ => ?_, fun _ => ?_⟩
    · conv => whnf
      exact pn_dec n (hx _ _ _ _ _ _ _ _ f0)
    · conv => whnf
      intro _
      conv => whnf
      refine FxL27g1_33  _ (fun _ _ _ _ _ I1 L1 f1 => ?_) _ _ _ _ _ _ _ fr_rf
      refine pn_go [5, 33, 75] 400 ?_
      conv => whnf
      exact ih (fun q0 q1 q2 q3 q4 q5 I L f => pn_dec n (hx q0 q1 q2 q3 q4 q5 I L f)) _ _ _ _ _ _ _ (fr_then (by decide) f0 f1)
set_option maxHeartbeats 4000000 in
set_option maxRecDepth 20000 in
theorem Fx27g1 {d : Nat} {k : jK} {a1 : Int64} {I : jI} {L : jL} (hk : ∀ (x : Int64) (I' : jI) (L' : jL), fr [] I I' → k (some (.inl (.inr x))) (I', L')) : jPM d 27 [.inr (1, 0), .inl (.inr a1)] (I, L) k := by
  refine pM (fun d n => ?_)
  refine pn_go [5, 33] 400 ?_
  conv => whnf
  refine FxL27g1_5  _ (fun _ _ _ _ _ _ I1 L1 f1 => ?_) _ _ _ _ _ _ _ fr_rf
  refine pn_go [5, 33] 400 ?_
  conv => whnf
  exact hk _ _ _ (fr_then (by decide) fr_rf f1)
set_option maxHeartbeats 4000000 in
set_option maxRecDepth 20000 in
theorem FxL27g2_33 {d : Nat} {k : jK} {I0 : jI}  : ∀ (n : Nat), (∀ (v1 : Option jV) (v2 : Option jV) (v3 : Int64) (v5 : Int32) (v6 : Option jV) (I : jI) (L : jL), fr [] I0 I → pn (jPM d) k none (jco 27) n (69, [some (.inr (2, 0)), v1, v2, some (.inl (.inr v3)), none, some (.inl (.inl v5)), v6], [], I, L)) → ∀ (v1 : Option jV) (v2 : Option jV) (v3 : Int64) (v5 : Int32) (v6 : Int32) (I : jI) (L : jL), fr [] I0 I → pn (jPM d) k none (jco 27) n (33, [some (.inr (2, 0)), v1, v2, some (.inl (.inr v3)), none, some (.inl (.inl v5)), some (.inl (.inl v6))], [], I, L) := by
  intro n
  induction n with
  | zero => intro _ v v v v v I L f0; trivial
  | succ n ih =>
    intro hx v1 v2 v3 v5 v6 I L f0
    refine pn_lp [5, 33, 69] 400 ?_
    conv => whnf
    intro _
    conv => whnf
    refine ⟨fun _ => ?_, fun _ => ?_⟩
    · conv => whnf
      exact pn_dec n (hx _ _ _ _ _ _ _ f0)
    · conv => whnf
      intro _
      conv => whnf
      intro _
      conv => whnf
      exact ih (fun q0 q1 q2 q3 q4 I L f => pn_dec n (hx q0 q1 q2 q3 q4 I L f)) _ _ _ _ _ _ _ f0
set_option maxHeartbeats 4000000 in
set_option maxRecDepth 20000 in
theorem FxL27g2_5 {d : Nat} {k : jK} {I0 : jI}  : ∀ (n : Nat), (∀ (v0 : Option jV) (v1 : Option jV) (v2 : Option jV) (v3 : Int64) (v5 : Option jV) (v6 : Option jV) (I : jI) (L : jL), fr [] I0 I → pn (jPM d) k none (jco 27) n (75, [v0, v1, v2, some (.inl (.inr v3)), none, v5, v6], [], I, L)) → ∀ (v1 : Option jV) (v2 : Option jV) (v3 : Int64) (v5 : Int32) (v6 : Option jV) (I : jI) (L : jL), fr [] I0 I → pn (jPM d) k none (jco 27) n (5, [some (.inr (2, 0)), v1, v2, some (.inl (.inr v3)), none, some (.inl (.inl v5)), v6], [], I, L) := by
  intro n
  induction n with
  | zero => intro _ v v v v v I L f0; trivial
  | succ n ih =>
    intro hx v1 v2 v3 v5 v6 I L f0
    refine pn_lp [5, 33, 75] 400 ?_
    conv => whnf
    refine ⟨fun _ => ?_, fun _ => ?_⟩
    · conv => whnf
      exact pn_dec n (hx _ _ _ _ _ _ _ _ f0)
    · conv => whnf
      intro _
      conv => whnf
      refine FxL27g2_33  _ (fun _ _ _ _ _ I1 L1 f1 => ?_) _ _ _ _ _ _ _ fr_rf
      refine pn_go [5, 33, 75] 400 ?_
      conv => whnf
      exact ih (fun q0 q1 q2 q3 q4 q5 I L f => pn_dec n (hx q0 q1 q2 q3 q4 q5 I L f)) _ _ _ _ _ _ _ (fr_then (by decide) f0 f1)
set_option maxHeartbeats 4000000 in
set_option maxRecDepth 20000 in
theorem Fx27g2 {d : Nat} {k : jK} {a1 : Int64} {I : jI} {L : jL} (hk : ∀ (x : Int64) (I' : jI) (L' : jL), fr [] I I' → k (some (.inl (.inr x))) (I', L')) : jPM d 27 [.inr (2, 0), .inl (.inr a1)] (I, L) k := by
  refine pM (fun d n => ?_)
  refine pn_go [5, 33] 400 ?_
  conv => whnf
  refine FxL27g2_5  _ (fun _ _ _ _ _ _ I1 L1 f1 => ?_) _ _ _ _ _ _ _ fr_rf
  refine pn_go [5, 33] 400 ?_
  conv => whnf
  exact hk _ _ _ (fr_then (by decide) fr_rf f1)
set_option maxHeartbeats 4000000 in
set_option maxRecDepth 20000 in
theorem Fx112 {d : Nat} {k : jK} {I : jI} {L : jL} (hk : ∀ (x : Int64) (I' : jI) (L' : jL), fr [] I I' → k (some (.inl (.inr x))) (I', L')) : jPM d 112 [.inr (0, 0)] (I, L) k := by
  refine pM (fun d n => ?_)
  refine pn_go [6, 33, 66, 80, 119] 400 ?_
  conv => whnf
  refine FxL112_6  _ (fun _ _ _ I1 L1 f1 => ?_) _ _ _ _ _ fr_rf
  refine pn_go [6, 33, 66, 80, 119] 400 ?_
  conv => whnf
  refine FxL112_33  _ (fun _ _ _ I2 L2 f2 => ?_) _ _ _ _ _ fr_rf
  refine pn_go [6, 33, 66, 80, 119] 400 ?_
  conv => whnf
  refine FxL112_66  _ (fun _ _ _ I3 L3 f3 => ?_) _ _ _ _ _ fr_rf
  refine pn_go [6, 33, 66, 80, 119] 400 ?_
  conv => whnf
  refine FxL112_119  _ (fun _ _ _ I4 L4 f4 => ?_) _ _ _ _ _ fr_rf
  refine pn_go [6, 33, 66, 80, 119] 400 ?_
  conv => whnf
  refine Fx27g1 (fun x5 I5 L5 f5 => ?_)
  conv => whnf
  refine Fx27g2 (fun x6 I6 L6 f6 => ?_)
  conv => whnf
  exact hk _ _ _ (fr_then (by decide) (fr_then (by decide) (fr_then (by decide) (fr_then (by decide) (fr_then (by decide) (fr_then (by decide) fr_rf f1) f2) f3) f4) f5) f6)
