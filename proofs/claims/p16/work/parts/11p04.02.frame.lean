set_option maxHeartbeats 4000000 in
set_option maxRecDepth 20000 in
theorem Fx47 {d : Nat} {k : jK} {a0 : Nat} {a1 : Int64} {I : jI} {L : jL} (hk : ∀ (I' : jI) (L' : jL), fr [19, 20, 22, 23, 5009, 5010, 5011, 5012, 5013, 5014, 5015] I I' → k none (I', L')) : jPM d 47 [.inr (4, a0), .inl (.inr a1)] (I, L) k := by
  refine pM (fun d n => ?_)
  refine pn_go [] 400 ?_
  conv => whnf
  refine ⟨fun _ => ?_, fun _ => ?_⟩
  · conv => whnf
    intro _
    conv => whnf
    intro _
    conv => whnf
    intro _
    conv => whnf
    refine ⟨fun _ => ?_, fun _ => ?_⟩
    · conv => whnf
      refine ⟨fun _ => ?_, fun _ => ?_⟩
      · conv => whnf
        refine Fx44 (fun x1 I1 L1 f1 => ?_)
        conv => whnf
        exact hk _ _ (fr_then (by decide) fr_rf f1)
      · conv => whnf
        refine Fx34 (fun x2 I2 L2 f2 => ?_)
        conv => whnf
        refine ⟨fun _ => ?_, fun _ => ?_⟩
        · conv => whnf
          refine Fx44 (fun x3 I3 L3 f3 => ?_)
          conv => whnf
          exact hk _ _ (fr_then (by decide) (fr_then (by decide) fr_rf f2) f3)
        · conv => whnf
          refine Fx44 (fun x4 I4 L4 f4 => ?_)
          conv => whnf
          exact hk _ _ (fr_then (by decide) (fr_then (by decide) fr_rf f2) f4)
    · conv => whnf
      refine Fx33 (fun x5 I5 L5 f5 => ?_)
      conv => whnf
      refine ⟨fun _ => ?_, fun _ => ?_⟩
      · conv => whnf
        refine ⟨fun _ => ?_, fun _ => ?_⟩
        · conv => whnf
          refine Fx44 (fun x6 I6 L6 f6 => ?_)
          conv => whnf
          exact hk _ _ (fr_then (by decide) (fr_then (by decide) fr_rf f5) f6)
        · conv => whnf
          refine Fx34 (fun x7 I7 L7 f7 => ?_)
          conv => whnf
          refine ⟨fun _ => ?_, fun _ => ?_⟩
          · conv => whnf
            refine Fx44 (fun x8 I8 L8 f8 => ?_)
            conv => whnf
            exact hk _ _ (fr_then (by decide) (fr_then (by decide) (fr_then (by decide) fr_rf f5) f7) f8)
          · conv => whnf
            refine Fx44 (fun x9 I9 L9 f9 => ?_)
            conv => whnf
            exact hk _ _ (fr_then (by decide) (fr_then (by decide) (fr_then (by decide) fr_rf f5) f7) f9)
      · conv => whnf
        refine Fx44 (fun x10 I10 L10 f10 => ?_)
        conv => whnf
        exact hk _ _ (fr_then (by decide) (fr_then (by decide) fr_rf f5) f10)
  · conv => whnf
    exact hk _ _ fr_rf
set_option maxHeartbeats 4000000 in
set_option maxRecDepth 20000 in
theorem FxL105_60 {d : Nat} {k : jK} {I0 : jI}  : ∀ (n : Nat), (∀ (v1 : Option jV) (v2 : Option jV) (v3 : Option jV) (v4 : Option jV) (v5 : Option jV) (I : jI) (L : jL), fr [19, 20, 22, 23, 5009, 5010, 5011, 5012, 5013, 5014, 5015] I0 I → pn (jPM d) k none (jco 105) n (90, [some (.inr (0, 0)), v1, v2, v3, v4, v5], [], I, L)) → ∀ (v1 : Int32) (v2 : Option jV) (v3 : Int64) (v5 : Int32) (I : jI) (L : jL), fr [19, 20, 22, 23, 5009, 5010, 5011, 5012, 5013, 5014, 5015] I0 I → pn (jPM d) k none (jco 105) n (60, [some (.inr (0, 0)), some (.inl (.inl v1)), v2, some (.inl (.inr v3)), none, some (.inl (.inl v5))], [], I, L) := by
  intro n
  induction n with
  | zero => intro _ v v v v I L f0; trivial
  | succ n ih =>
    intro hx v1 v2 v3 v5 I L f0
    refine pn_lp [60, 90] 400 ?_
    conv => whnf
    refine ⟨fun _ => ?_, fun _ => ?_⟩
    · conv => whnf
      exact pn_dec n (hx _ _ _ _ _ _ _ f0)
    · conv => whnf
      intro _
      conv => whnf
      refine Fx47 (fun I1 L1 f1 => ?_)
      conv => whnf
      exact ih (fun q0 q1 q2 q3 q4 I L f => pn_dec n (hx q0 q1 q2 q3 q4 I L f)) _ _ _ _ _ _ (fr_then (by decide) f0 f1)
set_option maxHeartbeats 4000000 in
set_option maxRecDepth 20000 in
theorem Fx105 {d : Nat} {k : jK} {a1 : Int32} {a2 : Int32} {I : jI} {L : jL} (hk : ∀ (x : Int32) (I' : jI) (L' : jL), fr [19, 20, 22, 23, 5009, 5010, 5011, 5012, 5013, 5014, 5015] I I' → k (some (.inl (.inl x))) (I', L')) : jPM d 105 [.inr (0, 0), .inl (.inl a1), .inl (.inl a2)] (I, L) k := by
  refine pM (fun d n => ?_)
  refine pn_go [60] 400 ?_
  conv => whnf
  refine ⟨fun _ => ?_, fun _ => ?_⟩
  · conv => whnf
    exact hk _ _ _ fr_rf
  · conv => whnf
    refine ⟨fun _ => ?_, fun _ => ?_⟩
    · conv => whnf
      exact hk _ _ _ fr_rf
    · conv => whnf
      refine ⟨fun _ => ?_, fun _ => ?_⟩
      · conv => whnf
        exact hk _ _ _ fr_rf
      · conv => whnf
        refine ⟨fun _ => ?_, fun _ => ?_⟩
        · conv => whnf
          refine ⟨fun _ => ?_, fun _ => ?_⟩
          · conv => whnf
            refine Fx32 (fun x1 I1 L1 f1 => ?_)
            conv => whnf
            refine ⟨fun _ => ?_, fun _ => ?_⟩
            · conv => whnf
              refine FxL105_60  _ (fun _ _ _ _ _ I2 L2 f2 => ?_) _ _ _ _ _ _ fr_rf
              refine pn_go [60] 400 ?_
              conv => whnf
              refine Fx10 (fun x3 I3 L3 f3 => ?_)
              conv => whnf
              exact hk _ _ _ (fr_then (by decide) (fr_then (by decide) (fr_then (by decide) fr_rf f1) f2) f3)
            · conv => whnf
              exact hk _ _ _ (fr_then (by decide) fr_rf f1)
          · conv => whnf
            exact hk _ _ _ fr_rf
        · conv => whnf
          exact hk _ _ _ fr_rf
set_option maxHeartbeats 4000000 in
set_option maxRecDepth 20000 in
theorem Fx124 {d : Nat} {k : jK} {a0 : Int64} {a1 : Int64} {a2 : Int64} {I : jI} {L : jL} (hk : ∀ (x : Int32) (I' : jI) (L' : jL), fr [] I I' → k (some (.inl (.inl x))) (I', L')) : jPM d 124 [.inl (.inr a0), .inl (.inr a1), .inl (.inr a2)] (I, L) k := by
  refine pM (fun d n => ?_)
  refine pn_go [] 400 ?_
  conv => whnf
  refine ⟨fun _ => ?_, fun _ => ?_⟩
  · conv => whnf
    exact fun _ => hk _ _ _ fr_rf
  · conv => whnf
    refine ⟨fun _ => ?_, fun _ => ?_⟩
    · conv => whnf
      exact fun _ => hk _ _ _ fr_rf
    · conv => whnf
      exact fun _ => hk _ _ _ fr_rf
set_option maxHeartbeats 4000000 in
set_option maxRecDepth 20000 in
theorem Fx126 {d : Nat} {k : jK} {a1 : Int32} {I : jI} {L : jL} (hk : ∀ (x : Int32) (I' : jI) (L' : jL), fr [39, 32013] I I' → k (some (.inl (.inl x))) (I', L')) : jPM d 126 [.inr (31, 0), .inl (.inl a1)] (I, L) k := by
  refine pM (fun d n => ?_)
  refine pn_go [] 400 ?_
  conv => whnf
  intro _
  conv => whnf
  intro _
  conv => whnf
  exact hk _ _ _ (fr_up rfl (fr_up rfl fr_rf))
set_option maxHeartbeats 4000000 in
set_option maxRecDepth 20000 in
theorem Fx129 {d : Nat} {k : jK} {a0 : Int32} {I : jI} {L : jL} (hk : ∀ (x : Int32) (I' : jI) (L' : jL), fr [] I I' → k (some (.inl (.inl x))) (I', L')) : jPM d 129 [.inl (.inl a0)] (I, L) k := by
  refine pM (fun d n => ?_)
  refine pn_go [] 400 ?_
  conv => whnf
  refine Fx124 (fun x1 I1 L1 f1 => ?_)
  conv => whnf
  exact fun _ => hk _ _ _ (fr_then (by decide) fr_rf f1)
set_option maxHeartbeats 4000000 in
set_option maxRecDepth 20000 in
theorem FxL139_34 {d : Nat} {k : jK} {I0 : jI}  : ∀ (n : Nat), (∀ (v0 : Option jV) (v1 : Option jV) (v2 : Int32) (v3 : Option jV) (I : jI) (L : jL), fr [38] I0 I → pn (jPM d) k none (jco 139) n (59, [v0, v1, some (.inl (.inl v2)), v3], [], I, L)) → ∀ (v1 : Int32) (v2 : Int32) (v3 : Int32) (I : jI) (L : jL), fr [38] I0 I → pn (jPM d) k none (jco 139) n (34, [some (.inr (31, 0)), some (.inl (.inl v1)), some (.inl (.inl v2)), some (.inl (.inl v3))], [], I, L) := by
  intro n
  induction n with
  | zero => intro _ v v v I L f0; trivial
  | succ n ih =>
    intro hx v1 v2 v3 I L f0
    refine pn_lp [34, 59] 400 ?_
    conv => whnf
    refine ⟨fun _ => ?_, fun _ => ?_⟩
    · conv => whnf
      exact pn_dec n (hx _ _ _ _ _ _ f0)
    · conv => whnf
      intro _
      conv => whnf
      exact ih (fun q0 q1 q2 q3 I L f => pn_dec n (hx q0 q1 q2 q3 I L f)) _ _ _ _ _ (fr_up rfl f0)
set_option maxHeartbeats 4000000 in
set_option maxRecDepth 20000 in
theorem Fx139 {d : Nat} {k : jK} {a1 : Int32} {a2 : Int32} {I : jI} {L : jL} (hk : ∀ (x : Int32) (I' : jI) (L' : jL), fr [37, 38, 39, 32013] I I' → k (some (.inl (.inl x))) (I', L')) : jPM d 139 [.inr (31, 0), .inl (.inl a1), .inl (.inl a2)] (I, L) k := by
  refine pM (fun d n => ?_)
  refine pn_go [34] 400 ?_
  conv => whnf
  refine Fx129 (fun x1 I1 L1 f1 => ?_)
  conv => whnf
  refine ⟨fun _ => ?_, fun _ => ?_⟩
  · conv => whnf
    exact hk _ _ _ (fr_then (by decide) fr_rf f1)
  · conv => whnf
    refine ⟨fun _ => ?_, fun _ => ?_⟩
    · conv => whnf
      refine ⟨fun _ => ?_, fun _ => ?_⟩
      · conv => whnf
        intro _
        conv => whnf
        refine FxL139_34  _ (fun _ _ _ _ I2 L2 f2 => ?_) _ _ _ _ _ fr_rf
        refine pn_go [34] 400 ?_
        conv => whnf
        exact hk _ _ _ (fr_then (by decide) (fr_up rfl (fr_then (by decide) fr_rf f1)) f2)
      · conv => whnf
        refine Fx126 (fun x3 I3 L3 f3 => ?_)
        conv => whnf
        exact hk _ _ _ (fr_then (by decide) (fr_then (by decide) fr_rf f1) f3)
    · conv => whnf
      exact hk _ _ _ (fr_then (by decide) fr_rf f1)
set_option maxHeartbeats 4000000 in
set_option maxRecDepth 20000 in
theorem Fx140 {d : Nat} {k : jK} {a1 : Int32} {a2 : Int32} {a3 : Int32} {I : jI} {L : jL} (hk : ∀ (x : Int32) (I' : jI) (L' : jL), fr [38, 39, 32013] I I' → k (some (.inl (.inl x))) (I', L')) : jPM d 140 [.inr (31, 0), .inl (.inl a1), .inl (.inl a2), .inl (.inl a3)] (I, L) k := by
  refine pM (fun d n => ?_)
  refine pn_go [] 400 ?_
  conv => whnf
  refine Fx129 (fun x1 I1 L1 f1 => ?_)
  conv => whnf
  refine ⟨fun _ => ?_, fun _ => ?_⟩
  · conv => whnf
    intro _
    conv => whnf
    refine ⟨fun _ => ?_, fun _ => ?_⟩
    · conv => whnf
      intro _
      conv => whnf
      refine Fx124 (fun x2 I2 L2 f2 => ?_)
      conv => whnf
      refine ⟨fun _ => ?_, fun _ => ?_⟩
      · conv => whnf
        intro _
        conv => whnf
        intro _
        conv => whnf
        exact hk _ _ _ (fr_up rfl (fr_then (by decide) (fr_then (by decide) fr_rf f1) f2))
      · conv => whnf
        refine Fx126 (fun x3 I3 L3 f3 => ?_)
        conv => whnf
        exact hk _ _ _ (fr_then (by decide) (fr_then (by decide) (fr_then (by decide) fr_rf f1) f2) f3)
    · conv => whnf
      refine Fx126 (fun x4 I4 L4 f4 => ?_)
      conv => whnf
      exact hk _ _ _ (fr_then (by decide) (fr_then (by decide) fr_rf f1) f4)
  · conv => whnf
    exact hk _ _ _ (fr_then (by decide) fr_rf f1)
set_option maxHeartbeats 4000000 in
set_option maxRecDepth 20000 in
theorem Fx141 {d : Nat} {k : jK} {I : jI} {L : jL} (hk : ∀ (x : Int32) (I' : jI) (L' : jL), fr [] I I' → k (some (.inl (.inl x))) (I', L')) : jPM d 141 [.inr (31, 0)] (I, L) k := by
  refine pM (fun d n => ?_)
  refine pn_go [] 400 ?_
  conv => whnf
  intro _
  conv => whnf
  exact hk _ _ _ fr_rf
set_option maxHeartbeats 4000000 in
set_option maxRecDepth 20000 in
theorem FxL142_0 {d : Nat} {k : jK} {I0 : jI}  : ∀ (n : Nat), (∀ (v0 : Option jV) (I : jI) (L : jL), fr [32016] I0 I → pn (jPM d) k none (jco 142) n (33, [v0], [], I, L)) → ∀ (I : jI) (L : jL), fr [32016] I0 I → pn (jPM d) k none (jco 142) n (0, [some (.inr (31, 0))], [], I, L) := by
  intro n
  induction n with
  | zero => intro _  I L f0; trivial
  | succ n ih =>
    intro hx  I L f0
    refine pn_lp [0, 33] 400 ?_
    conv => whnf
    refine ⟨fun _ => ?_, fun _ => ?_⟩
    · conv => whnf
      exact pn_dec n (hx _ _ _ f0)
    · conv => whnf
      refine Fx141 (fun x1 I1 L1 f1 => ?_)
      conv => whnf
      refine ⟨fun _ => ?_, fun _ => ?_⟩
      · conv => whnf
        exact pn_dec n (hx _ _ _ (fr_then (by decide) f0 f1))
      · conv => whnf
        exact ih (fun q0 I L f => pn_dec n (hx q0 I L f)) _ _ (fr_up rfl (fr_then (by decide) f0 f1))
set_option maxHeartbeats 4000000 in
set_option maxRecDepth 20000 in
theorem Fx142 {d : Nat} {k : jK} {I : jI} {L : jL} (hk : ∀ (I' : jI) (L' : jL), fr [32016] I I' → k none (I', L')) : jPM d 142 [.inr (31, 0)] (I, L) k := by
  refine pM (fun d n => ?_)
  refine FxL142_0  _ (fun _ I1 L1 f1 => ?_) _ _ fr_rf
  refine pn_go [0] 400 ?_
  conv => whnf
  exact hk _ _ (fr_then (by decide) fr_rf f1)
set_option maxHeartbeats 4000000 in
set_option maxRecDepth 20000 in
theorem Fx143 {d : Nat} {k : jK} {a1 : Int32} {a2 : Int32} {I : jI} {L : jL} (hk : ∀ (x : Int32) (I' : jI) (L' : jL), fr [32016] I I' → k (some (.inl (.inl x))) (I', L')) : jPM d 143 [.inr (31, 0), .inl (.inl a1), .inl (.inl a2)] (I, L) k := by
  refine pM (fun d n => ?_)
  refine pn_go [] 400 ?_
  conv => whnf
  refine ⟨fun _ => ?_, fun _ => ?_⟩
  · conv => whnf
    exact hk _ _ _ fr_rf
  · conv => whnf
    refine Fx141 (fun x1 I1 L1 f1 => ?_)
    conv => whnf
    refine Fx124 (fun x2 I2 L2 f2 => ?_)
    conv => whnf
    refine ⟨fun _ => ?_, fun _ => ?_⟩
    · conv => whnf
      intro _
      conv => whnf
      exact hk _ _ _ (fr_up rfl (fr_then (by decide) (fr_then (by decide) fr_rf f1) f2))
    · conv => whnf
      exact hk _ _ _ (fr_then (by decide) (fr_then (by decide) fr_rf f1) f2)
set_option maxHeartbeats 4000000 in
set_option maxRecDepth 20000 in
theorem Fx144 {d : Nat} {k : jK} {I : jI} {L : jL} (hk : ∀ (x : Int32) (I' : jI) (L' : jL), fr [32016] I I' → k (some (.inl (.inl x))) (I', L')) : jPM d 144 [.inr (31, 0)] (I, L) k := by
  refine pM (fun d n => ?_)
  refine pn_go [] 400 ?_
  conv => whnf
  refine Fx143 (fun x1 I1 L1 f1 => ?_)
  conv => whnf
  refine ⟨fun _ => ?_, fun _ => ?_⟩
  · conv => whnf
    refine Fx143 (fun x2 I2 L2 f2 => ?_)
    conv => whnf
    refine ⟨fun _ => ?_, fun _ => ?_⟩
    · conv => whnf
      exact hk _ _ _ (fr_then (by decide) (fr_then (by decide) fr_rf f1) f2)
    · conv => whnf
      exact hk _ _ _ (fr_then (by decide) (fr_then (by decide) fr_rf f1) f2)
  · conv => whnf
    refine ⟨fun z => absurd z (by decide), fun _ => ?_⟩
    conv => whnf
    exact hk _ _ _ (fr_then (by decide) fr_rf f1)
set_option maxHeartbeats 4000000 in
set_option maxRecDepth 20000 in
theorem Fx145 {d : Nat} {k : jK} {I : jI} {L : jL} (hk : ∀ (x : Int32) (I' : jI) (L' : jL), fr [32016, 32018, 32019] I I' → k (some (.inl (.inl x))) (I', L')) : jPM d 145 [.inr (31, 0)] (I, L) k := by
  refine pM (fun d n => ?_)
  refine pn_go [] 400 ?_
  conv => whnf
  refine Fx142 (fun I1 L1 f1 => ?_)
  conv => whnf
  refine ⟨fun _ => ?_, fun _ => ?_⟩
  · conv => whnf
    exact fun _ => hk _ _ _ (fr_then (by decide) fr_rf f1)
  · conv => whnf
    refine Fx141 (fun x2 I2 L2 f2 => ?_)
    conv => whnf
    refine ⟨fun _ => ?_, fun _ => ?_⟩
    · conv => whnf
      refine Fx143 (fun x3 I3 L3 f3 => ?_)
      conv => whnf
      refine ⟨fun _ => ?_, fun _ => ?_⟩
      · conv => whnf
        refine Fx144 (fun x4 I4 L4 f4 => ?_)
        conv => whnf
        refine ⟨fun _ => ?_, fun _ => ?_⟩
        · conv => whnf
          exact fun _ => hk _ _ _ (fr_up rfl (fr_then (by decide) (fr_up rfl (fr_then (by decide) (fr_up rfl (fr_then (by decide) (fr_then (by decide) fr_rf f1) f2)) f3)) f4))
        · conv => whnf
          exact fun _ => hk _ _ _ (fr_up rfl (fr_then (by decide) (fr_up rfl (fr_then (by decide) (fr_up rfl (fr_then (by decide) (fr_then (by decide) fr_rf f1) f2)) f3)) f4))
      · conv => whnf
        refine ⟨fun _ => ?_, fun _ => ?_⟩
        · conv => whnf
          exact fun _ => hk _ _ _ (fr_up rfl (fr_up rfl (fr_then (by decide) (fr_up rfl (fr_then (by decide) (fr_then (by decide) fr_rf f1) f2)) f3)))
        · conv => whnf
          exact fun _ => hk _ _ _ (fr_up rfl (fr_up rfl (fr_then (by decide) (fr_up rfl (fr_then (by decide) (fr_then (by decide) fr_rf f1) f2)) f3)))
    · conv => whnf
      exact fun _ => hk _ _ _ (fr_then (by decide) (fr_then (by decide) fr_rf f1) f2)
set_option maxHeartbeats 4000000 in
set_option maxRecDepth 20000 in
theorem Fx146 {d : Nat} {k : jK} {a0 : Int32} {I : jI} {L : jL} (hk : ∀ (x : Int32) (I' : jI) (L' : jL), fr [] I I' → k (some (.inl (.inl x))) (I', L')) : jPM d 146 [.inl (.inl a0)] (I, L) k := by
  refine pM (fun d n => ?_)
  refine pn_go [] 400 ?_
  conv => whnf
  refine ⟨fun _ => ?_, fun _ => ?_⟩
  · conv => whnf
    refine ⟨fun _ => ?_, fun _ => ?_⟩
    · conv => whnf
      refine ⟨fun _ => ?_, fun _ => ?_⟩
      · conv => whnf
        refine ⟨fun _ => ?_, fun _ => ?_⟩
        · conv => whnf
          refine ⟨fun _ => ?_, fun _ => ?_⟩
          · conv => whnf
            refine ⟨fun _ => ?_, fun _ => ?_⟩
            · conv => whnf
              exact hk _ _ _ fr_rf
            · conv => whnf
              exact hk _ _ _ fr_rf
          · conv => whnf
            exact hk _ _ _ fr_rf
        · conv => whnf
          exact hk _ _ _ fr_rf
      · conv => whnf
        exact hk _ _ _ fr_rf
    · conv => whnf
      exact hk _ _ _ fr_rf
  · conv => whnf
    exact hk _ _ _ fr_rf
set_option maxHeartbeats 4000000 in
set_option maxRecDepth 20000 in
theorem Fx147 {d : Nat} {k : jK} {I : jI} {L : jL} (hk : ∀ (x : Int32) (I' : jI) (L' : jL), fr [40, 32016, 32021] I I' → k (some (.inl (.inl x))) (I', L')) : jPM d 147 [.inr (31, 0)] (I, L) k := by
  refine pM (fun d n => ?_)
  refine pn_go [] 400 ?_
  conv => whnf
  refine Fx141 (fun x1 I1 L1 f1 => ?_)
  conv => whnf
  refine Fx146 (fun x2 I2 L2 f2 => ?_)
  conv => whnf
  refine ⟨fun _ => ?_, fun _ => ?_⟩
  · conv => whnf
    exact fun _ => hk _ _ _ (fr_then (by decide) (fr_then (by decide) fr_rf f1) f2)
  · conv => whnf
    refine ⟨fun _ => ?_, fun _ => ?_⟩
    · conv => whnf
      refine Fx143 (fun x3 I3 L3 f3 => ?_)
      conv => whnf
      refine ⟨fun _ => ?_, fun _ => ?_⟩
      · conv => whnf
        refine Fx144 (fun x4 I4 L4 f4 => ?_)
        conv => whnf
        refine ⟨fun _ => ?_, fun _ => ?_⟩
        · conv => whnf
          refine Fx143 (fun x5 I5 L5 f5 => ?_)
          conv => whnf
          refine ⟨fun _ => ?_, fun _ => ?_⟩
          · conv => whnf
            intro _
            conv => whnf
            intro _
            conv => whnf
            intro _
            conv => whnf
            intro _
            conv => whnf
            exact fun _ => hk _ _ _ (fr_up rfl (fr_up rfl (fr_up rfl (fr_up rfl (fr_up rfl (fr_then (by decide) (fr_then (by decide) (fr_then (by decide) (fr_up rfl (fr_then (by decide) (fr_then (by decide) fr_rf f1) f2)) f3) f4) f5))))))
          · conv => whnf
            exact fun _ => hk _ _ _ (fr_then (by decide) (fr_then (by decide) (fr_then (by decide) (fr_up rfl (fr_then (by decide) (fr_then (by decide) fr_rf f1) f2)) f3) f4) f5)
        · conv => whnf
          refine ⟨fun z => absurd z (by decide), fun _ => ?_⟩
          conv => whnf
          exact fun _ => hk _ _ _ (fr_then (by decide) (fr_then (by decide) (fr_up rfl (fr_then (by decide) (fr_then (by decide) fr_rf f1) f2)) f3) f4)
      · conv => whnf
        refine ⟨fun z => absurd z (by decide), fun _ => ?_⟩
        conv => whnf
        refine ⟨fun z => absurd z (by decide), fun _ => ?_⟩
        conv => whnf
        exact fun _ => hk _ _ _ (fr_then (by decide) (fr_up rfl (fr_then (by decide) (fr_then (by decide) fr_rf f1) f2)) f3)
    · conv => whnf
      exact fun _ => hk _ _ _ (fr_then (by decide) (fr_then (by decide) fr_rf f1) f2)
set_option maxHeartbeats 4000000 in
set_option maxRecDepth 20000 in
theorem FxL148_41 {d : Nat} {k : jK} {I0 : jI}  : ∀ (n : Nat), (∀ (v1 : Option jV) (v2 : Int32) (I : jI) (L : jL), fr [40, 32016, 32021] I0 I → pn (jPM d) k none (jco 148) n (72, [some (.inr (31, 0)), v1, some (.inl (.inl v2))], [], I, L)) → ∀ (v1 : Option jV) (v2 : Int32) (I : jI) (L : jL), fr [40, 32016, 32021] I0 I → pn (jPM d) k none (jco 148) n (41, [some (.inr (31, 0)), v1, some (.inl (.inl v2))], [], I, L) := by
  intro n
  induction n with
  | zero => intro _ v v I L f0; trivial
  | succ n ih =>
    intro hx v1 v2 I L f0
    refine pn_lp [41, 72] 400 ?_
    conv => whnf
    refine ⟨fun _ => ?_, fun _ => ?_⟩
    · conv => whnf
      exact pn_dec n (hx _ _ _ _ f0)
    · conv => whnf
      refine ⟨fun _ => ?_, fun _ => ?_⟩
      · conv => whnf
        exact pn_dec n (hx _ _ _ _ f0)
      · conv => whnf
        refine Fx147 (fun x1 I1 L1 f1 => ?_)
        conv => whnf
        refine ⟨fun _ => ?_, fun _ => ?_⟩
        · conv => whnf
          exact ih (fun q0 q1 I L f => pn_dec n (hx q0 q1 I L f)) _ _ _ _ (fr_then (by decide) f0 f1)
        · conv => whnf
          refine Fx142 (fun I2 L2 f2 => ?_)
          conv => whnf
          exact ih (fun q0 q1 I L f => pn_dec n (hx q0 q1 I L f)) _ _ _ _ (fr_then (by decide) (fr_then (by decide) f0 f1) f2)
set_option maxHeartbeats 4000000 in
set_option maxRecDepth 20000 in
theorem Fx148 {d : Nat} {k : jK} {a1 : Int32} {I : jI} {L : jL} (hk : ∀ (x : Int32) (I' : jI) (L' : jL), fr [40, 32015, 32016, 32017, 32018, 32019, 32021] I I' → k (some (.inl (.inl x))) (I', L')) : jPM d 148 [.inr (31, 0), .inl (.inl a1)] (I, L) k := by
  refine pM (fun d n => ?_)
  refine pn_go [41] 400 ?_
  conv => whnf
  intro _
  conv => whnf
  refine Fx145 (fun x1 I1 L1 f1 => ?_)
  conv => whnf
  refine ⟨fun _ => ?_, fun _ => ?_⟩
  · conv => whnf
    refine FxL148_41  _ (fun _ _ I2 L2 f2 => ?_) _ _ _ _ fr_rf
    refine pn_go [41] 400 ?_
    conv => whnf
    refine ⟨fun _ => ?_, fun _ => ?_⟩
    · conv => whnf
      exact hk _ _ _ (fr_then (by decide) (fr_then (by decide) (fr_up rfl (fr_up rfl (fr_up rfl (fr_up rfl fr_rf)))) f1) f2)
    · conv => whnf
      refine ⟨fun _ => ?_, fun _ => ?_⟩
      · conv => whnf
        exact hk _ _ _ (fr_then (by decide) (fr_then (by decide) (fr_up rfl (fr_up rfl (fr_up rfl (fr_up rfl fr_rf)))) f1) f2)
      · conv => whnf
        exact hk _ _ _ (fr_then (by decide) (fr_then (by decide) (fr_up rfl (fr_up rfl (fr_up rfl (fr_up rfl fr_rf)))) f1) f2)
  · conv => whnf
    refine Fx142 (fun I3 L3 f3 => ?_)
    conv => whnf
    refine FxL148_41  _ (fun _ _ I4 L4 f4 => ?_) _ _ _ _ fr_rf
    refine pn_go [41] 400 ?_
    conv => whnf
    refine ⟨fun _ => ?_, fun _ => ?_⟩
    · conv => whnf
      exact hk _ _ _ (fr_then (by decide) (fr_then (by decide) (fr_then (by decide) (fr_up rfl (fr_up rfl (fr_up rfl (fr_up rfl fr_rf)))) f1) f3) f4)
    · conv => whnf
      refine ⟨fun _ => ?_, fun _ => ?_⟩
      · conv => whnf
        exact hk _ _ _ (fr_then (by decide) (fr_then (by decide) (fr_then (by decide) (fr_up rfl (fr_up rfl (fr_up rfl (fr_up rfl fr_rf)))) f1) f3) f4)
      · conv => whnf
        exact hk _ _ _ (fr_then (by decide) (fr_then (by decide) (fr_then (by decide) (fr_up rfl (fr_up rfl (fr_up rfl (fr_up rfl fr_rf)))) f1) f3) f4)
set_option maxHeartbeats 4000000 in
set_option maxRecDepth 20000 in
theorem FxL150_39 {d : Nat} {k : jK} {I0 : jI}  : ∀ (n : Nat), (∀ (v1 : Option jV) (v2 : Option jV) (I : jI) (L : jL), fr [32] I0 I → pn (jPM d) k none (jco 150) n (59, [some (.inr (31, 0)), v1, v2], [], I, L)) → ∀ (v1 : Option jV) (v2 : Int32) (I : jI) (L : jL), fr [32] I0 I → pn (jPM d) k none (jco 150) n (39, [some (.inr (31, 0)), v1, some (.inl (.inl v2))], [], I, L) := by
  intro n
  induction n with
  | zero => intro _ v v I L f0; trivial
  | succ n ih =>
    intro hx v1 v2 I L f0
    refine pn_lp [39, 59, 85, 169] 400 ?_
    conv => whnf
    refine ⟨fun _ => ?_, fun _ => ?_⟩
    · conv => whnf
      exact pn_dec n (hx _ _ _ _ f0)
    · conv => whnf
      intro _
      conv => whnf
      exact ih (fun q0 q1 I L f => pn_dec n (hx q0 q1 I L f)) _ _ _ _ (fr_up rfl f0)
set_option maxHeartbeats 4000000 in
set_option maxRecDepth 20000 in
theorem FxL150_85 {d : Nat} {k : jK} {I0 : jI}  : ∀ (n : Nat), (∀ (v1 : Option jV) (v2 : Option jV) (I : jI) (L : jL), fr [32, 33, 34] I0 I → pn (jPM d) k none (jco 150) n (167, [some (.inr (31, 0)), v1, v2], [], I, L)) → ∀ (v1 : Option jV) (v2 : Int32) (I : jI) (L : jL), fr [32, 33, 34] I0 I → pn (jPM d) k none (jco 150) n (85, [some (.inr (31, 0)), v1, some (.inl (.inl v2))], [], I, L) := by
  intro n
  induction n with
  | zero => intro _ v v I L f0; trivial
  | succ n ih =>
    intro hx v1 v2 I L f0
    refine pn_lp [39, 85, 167, 169] 400 ?_
    conv => whnf
    refine ⟨fun _ => ?_, fun _ => ?_⟩
    · conv => whnf
      exact pn_dec n (hx _ _ _ _ f0)
    · conv => whnf
      intro _
      conv => whnf
      intro _
      conv => whnf
      intro _
      conv => whnf
      intro _
      conv => whnf
      intro _
      conv => whnf
      intro _
      conv => whnf
      intro _
      conv => whnf
      intro _
      conv => whnf
      exact ih (fun q0 q1 I L f => pn_dec n (hx q0 q1 I L f)) _ _ _ _ (fr_up rfl (fr_up rfl (fr_up rfl (fr_up rfl f0))))
set_option maxHeartbeats 4000000 in
set_option maxRecDepth 20000 in
theorem FxL150_169 {d : Nat} {k : jK} {I0 : jI}  : ∀ (n : Nat), (∀ (v1 : Option jV) (v2 : Option jV) (I : jI) (L : jL), fr [32] I0 I → pn (jPM d) k none (jco 150) n (193, [some (.inr (31, 0)), v1, v2], [], I, L)) → ∀ (v1 : Option jV) (v2 : Int32) (I : jI) (L : jL), fr [32] I0 I → pn (jPM d) k none (jco 150) n (169, [some (.inr (31, 0)), v1, some (.inl (.inl v2))], [], I, L) := by
  intro n
  induction n with
  | zero => intro _ v v I L f0; trivial
  | succ n ih =>
    intro hx v1 v2 I L f0
    refine pn_lp [39, 85, 169, 193] 400 ?_
    conv => whnf
    refine ⟨fun _ => ?_, fun _ => ?_⟩
    · conv => whnf
      exact pn_dec n (hx _ _ _ _ f0)
    · conv => whnf
      intro _
      conv => whnf
      exact ih (fun q0 q1 I L f => pn_dec n (hx q0 q1 I L f)) _ _ _ _ (fr_up rfl f0)
set_option maxHeartbeats 4000000 in
set_option maxRecDepth 20000 in
theorem Fx150 {d : Nat} {k : jK} {a1 : Int32} {I : jI} {L : jL} (hk : ∀ (x : Int32) (I' : jI) (L' : jL), fr [32, 33, 34, 39, 40, 32001, 32002, 32003, 32013, 32015, 32016, 32017, 32018, 32019, 32021] I I' → k (some (.inl (.inl x))) (I', L')) : jPM d 150 [.inr (31, 0), .inl (.inl a1)] (I, L) k := by
  refine pM (fun d n => ?_)
  refine pn_go [39, 85, 169] 400 ?_
  conv => whnf
  refine Fx129 (fun x1 I1 L1 f1 => ?_)
  conv => whnf
  refine ⟨fun _ => ?_, fun _ => ?_⟩
  · conv => whnf
    intro _
    conv => whnf
    refine ⟨fun _ => ?_, fun _ => ?_⟩
    · conv => whnf
      refine Fx148 (fun x2 I2 L2 f2 => ?_)
      conv => whnf
      refine ⟨fun _ => ?_, fun _ => ?_⟩
      · conv => whnf
        refine FxL150_39  _ (fun _ _ I3 L3 f3 => ?_) _ _ _ _ fr_rf
        refine pn_go [39, 85, 169] 400 ?_
        conv => whnf
        refine FxL150_85  _ (fun _ _ I4 L4 f4 => ?_) _ _ _ _ fr_rf
        refine pn_go [39, 85, 169] 400 ?_
        conv => whnf
        refine FxL150_169  _ (fun _ _ I5 L5 f5 => ?_) _ _ _ _ fr_rf
        refine pn_go [39, 85, 169] 400 ?_
        conv => whnf
        exact hk _ _ _ (fr_then (by decide) (fr_then (by decide) (fr_up rfl (fr_up rfl (fr_up rfl (fr_then (by decide) (fr_then (by decide) (fr_then (by decide) fr_rf f1) f2) f3)))) f4) f5)
      · conv => whnf
        exact hk _ _ _ (fr_then (by decide) (fr_then (by decide) fr_rf f1) f2)
    · conv => whnf
      refine Fx126 (fun x6 I6 L6 f6 => ?_)
      conv => whnf
      exact hk _ _ _ (fr_then (by decide) (fr_then (by decide) fr_rf f1) f6)
  · conv => whnf
    exact hk _ _ _ (fr_then (by decide) fr_rf f1)
set_option maxHeartbeats 4000000 in
set_option maxRecDepth 20000 in
theorem Fx151 {d : Nat} {k : jK} {a1 : Int32} {I : jI} {L : jL} (hk : ∀ (x : Int32) (I' : jI) (L' : jL), fr [] I I' → k (some (.inl (.inl x))) (I', L')) : jPM d 151 [.inr (31, 0), .inl (.inl a1)] (I, L) k := by
  refine pM (fun d n => ?_)
  refine pn_go [] 400 ?_
  conv => whnf
  refine Fx124 (fun x1 I1 L1 f1 => ?_)
  conv => whnf
  exact fun _ => hk _ _ _ (fr_then (by decide) fr_rf f1)
set_option maxHeartbeats 4000000 in
set_option maxRecDepth 20000 in
theorem Fx123 {d : Nat} {k : jK} {a0 : Int32} {I : jI} {L : jL} (hk : ∀ (x : Int32) (I' : jI) (L' : jL), fr [] I I' → k (some (.inl (.inl x))) (I', L')) : jPM d 123 [.inl (.inl a0)] (I, L) k := by
  refine pM (fun d n => ?_)
  refine pn_go [] 400 ?_
  conv => whnf
  refine ⟨fun _ => ?_, fun _ => ?_⟩
  · conv => whnf
    exact hk _ _ _ fr_rf
  · conv => whnf
    exact hk _ _ _ fr_rf
set_option maxHeartbeats 4000000 in
set_option maxRecDepth 20000 in
theorem Fx152 {d : Nat} {k : jK} {a0 : Int32} {a1 : Int32} {a2 : Int32} {a3 : Int32} {I : jI} {L : jL} (hk : ∀ (x : Int32) (I' : jI) (L' : jL), fr [] I I' → k (some (.inl (.inl x))) (I', L')) : jPM d 152 [.inl (.inl a0), .inl (.inl a1), .inl (.inl a2), .inl (.inl a3)] (I, L) k := by
  refine pM (fun d n => ?_)
  refine pn_go [] 400 ?_
  conv => whnf
  refine ⟨fun _ => ?_, fun _ => ?_⟩
  · conv => whnf
    refine And.intro (fun _ => ?_) (fun _ => ?_)
    · conv => whnf
      exact hk _ _ _ fr_rf
    refine jsw_cons (fun _ => ?_) (fun _ => ?_)
    · conv => whnf
      intro _
      conv => whnf
      exact hk _ _ _ fr_rf
    refine jsw_cons (fun _ => ?_) (fun _ => ?_)
    · conv => whnf
      intro _
      conv => whnf
      exact hk _ _ _ fr_rf
    refine jsw_cons (fun _ => ?_) (fun _ => ?_)
    · conv => whnf
      refine Fx123 (fun x1 I1 L1 f1 => ?_)
      conv => whnf
      exact hk _ _ _ (fr_then (by decide) fr_rf f1)
    refine jsw_cons (fun _ => ?_) (fun _ => ?_)
    · conv => whnf
      intro _
      conv => whnf
      exact hk _ _ _ fr_rf
    refine jsw_nil ?_
    conv => whnf
    exact hk _ _ _ fr_rf
  · conv => whnf
    intro _
    conv => whnf
    refine And.intro (fun _ => ?_) (fun _ => ?_)
    · conv => whnf
      exact hk _ _ _ fr_rf
    refine jsw_cons (fun _ => ?_) (fun _ => ?_)
    · conv => whnf
      intro _
      conv => whnf
      exact hk _ _ _ fr_rf
    refine jsw_cons (fun _ => ?_) (fun _ => ?_)
    · conv => whnf
      intro _
      conv => whnf
      exact hk _ _ _ fr_rf
    refine jsw_cons (fun _ => ?_) (fun _ => ?_)
    · conv => whnf
      refine Fx123 (fun x2 I2 L2 f2 => ?_)
      conv => whnf
      exact hk _ _ _ (fr_then (by decide) fr_rf f2)
    refine jsw_cons (fun _ => ?_) (fun _ => ?_)
    · conv => whnf
      intro _
      conv => whnf
      exact hk _ _ _ fr_rf
    refine jsw_nil ?_
    conv => whnf
    exact hk _ _ _ fr_rf
