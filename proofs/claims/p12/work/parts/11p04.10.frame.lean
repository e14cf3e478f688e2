set_option maxHeartbeats 4000000 in
set_option maxRecDepth 20000 in
theorem FxL185_2 {d : Nat} {k : jK} {I0 : jI}  : ∀ (n : Nat), (∀ (v0 : Option jV) (v1 : Option jV) (I : jI) (L : jL), fr [32] I0 I → pn (jPM d) k none (jco 185) n (30, [v0, v1], [], I, L)) → ∀ (v1 : Int32) (I : jI) (L : jL), fr [32] I0 I → pn (jPM d) k none (jco 185) n (2, [some (.inr (31, 0)), some (.inl (.inl v1))], [], I, L) := by
  intro n
  induction n with
  | zero => intro _ v I L f0; trivial
  | succ n ih =>
    intro hx v1 I L f0
    refine pn_lp [2, 30] 400 ?_
    conv => whnf
    refine ⟨fun _ => ?_, fun _ => ?_⟩
    · conv => whnf
      exact pn_dec n (hx _ _ _ _ f0)
    · conv => whnf
      intro _
      conv => whnf
      intro _
      conv => whnf
      exact ih (fun q0 q1 I L f => pn_dec n (hx q0 q1 I L f)) _ _ _ (fr_up rfl f0)
set_option maxHeartbeats 4000000 in
set_option maxRecDepth 20000 in
theorem Fx185 {d : Nat} {k : jK} {I : jI} {L : jL} (hk : ∀ (I' : jI) (L' : jL), fr [32] I I' → k none (I', L')) : jPM d 185 [.inr (31, 0)] (I, L) k := by
  refine pM (fun d n => ?_)
  refine pn_go [2] 400 ?_
  conv => whnf
  refine FxL185_2  _ (fun _ _ I1 L1 f1 => ?_) _ _ _ fr_rf
  refine pn_go [2] 400 ?_
  conv => whnf
  exact hk _ _ (fr_then (by decide) fr_rf f1)
set_option maxHeartbeats 4000000 in
set_option maxRecDepth 20000 in
theorem Fx186 {d : Nat} {k : jK} {a1 : Int32} {a2 : Int32} {a3 : Int32} {I : jI} {L : jL} (hk : ∀ (x : Int32) (I' : jI) (L' : jL), fr [] I I' → k (some (.inl (.inl x))) (I', L')) : jPM d 186 [.inr (31, 0), .inl (.inl a1), .inl (.inl a2), .inl (.inl a3)] (I, L) k := by
  refine pM (fun d n => ?_)
  refine pn_go [] 400 ?_
  conv => whnf
  refine Fx183 (fun x1 I1 L1 f1 => ?_)
  conv => whnf
  intro _
  conv => whnf
  intro _
  conv => whnf
  exact hk _ _ _ (fr_then (by decide) fr_rf f1)
set_option maxHeartbeats 4000000 in
set_option maxRecDepth 20000 in
theorem FxL187_6 {d : Nat} {k : jK} {I0 : jI} (hk : ∀ (x : Int32) (I' : jI) (L' : jL), fr [32] I0 I' → k (some (.inl (.inl x))) (I', L')) : ∀ (n : Nat), (∀ (v1 : Option jV) (v2 : Option jV) (v3 : Option jV) (v4 : Option jV) (I : jI) (L : jL), fr [32] I0 I → pn (jPM d) k none (jco 187) n (65, [some (.inr (31, 0)), v1, v2, v3, v4], [], I, L)) → ∀ (v1 : Int32) (v2 : Int32) (v3 : Int32) (v4 : Option jV) (I : jI) (L : jL), fr [32] I0 I → pn (jPM d) k none (jco 187) n (6, [some (.inr (31, 0)), some (.inl (.inl v1)), some (.inl (.inl v2)), some (.inl (.inl v3)), v4], [], I, L) := by
  intro n
  induction n with
  | zero => intro _ v v v v I L f0; trivial
  | succ n ih =>
    intro hx v1 v2 v3 v4 I L f0
    refine pn_lp [6, 65] 400 ?_
    conv => whnf
    refine ⟨fun _ => ?_, fun _ => ?_⟩
    · conv => whnf
      exact pn_dec n (hx _ _ _ _ _ _ f0)
    · conv => whnf
      refine Fx186 (fun x1 I1 L1 f1 => ?_)
      conv => whnf
      refine ⟨fun _ => ?_, fun _ => ?_⟩
      · conv => whnf
        refine Fx167 (fun x2 I2 L2 f2 => ?_)
        conv => whnf
        exact ih (fun q0 q1 q2 q3 I L f => pn_dec n (hx q0 q1 q2 q3 I L f)) _ _ _ _ _ _ (fr_then (by decide) (fr_then (by decide) f0 f1) f2)
      · conv => whnf
        refine Fx164 (fun x3 I3 L3 f3 => ?_)
        conv => whnf
        refine ⟨fun _ => ?_, fun _ => ?_⟩
        · conv => whnf
          refine Fx165 (fun x4 I4 L4 f4 => ?_)
          conv => whnf
          refine Fx167 (fun x5 I5 L5 f5 => ?_)
          conv => whnf
          exact ih (fun q0 q1 q2 q3 I L f => pn_dec n (hx q0 q1 q2 q3 I L f)) _ _ _ _ _ _ (fr_then (by decide) (fr_then (by decide) (fr_then (by decide) (fr_then (by decide) f0 f1) f3) f4) f5)
        · conv => whnf
          exact fun _ => hk _ _ _ (fr_then (by decide) (fr_then (by decide) f0 f1) f3)
set_option maxHeartbeats 4000000 in
set_option maxRecDepth 20000 in
theorem Fx187 {d : Nat} {k : jK} {a1 : Int32} {a2 : Int32} {I : jI} {L : jL} (hk : ∀ (x : Int32) (I' : jI) (L' : jL), fr [32] I I' → k (some (.inl (.inl x))) (I', L')) : jPM d 187 [.inr (31, 0), .inl (.inl a1), .inl (.inl a2)] (I, L) k := by
  refine pM (fun d n => ?_)
  refine pn_go [6] 400 ?_
  conv => whnf
  refine Fx185 (fun I1 L1 f1 => ?_)
  conv => whnf
  refine FxL187_6 (fun x2 I2 L2 f2 => hk x2 I2 L2 (fr_then (by decide) (fr_then (by decide) fr_rf f1) f2)) _ (fun _ _ _ _ I2 L2 f2 => ?_) _ _ _ _ _ _ fr_rf
  refine pn_go [6] 400 ?_
  conv => whnf
  intro _
  conv => whnf
  intro _
  conv => whnf
  refine ⟨fun _ => ?_, fun _ => ?_⟩
  · conv => whnf
    exact fun _ => hk _ _ _ (fr_then (by decide) (fr_then (by decide) fr_rf f1) f2)
  · conv => whnf
    exact fun _ => hk _ _ _ (fr_then (by decide) (fr_then (by decide) fr_rf f1) f2)
set_option maxHeartbeats 4000000 in
set_option maxRecDepth 20000 in
theorem FxL188_41 {d : Nat} {k : jK} {I0 : jI}  : ∀ (n : Nat), (∀ (v1 : Int32) (v2 : Int32) (v3 : Int32) (v4 : Int32) (v5 : Option jV) (v6 : Option jV) (I : jI) (L : jL), fr [32] I0 I → pn (jPM d) k none (jco 188) n (111, [some (.inr (31, 0)), some (.inl (.inl v1)), some (.inl (.inl v2)), some (.inl (.inl v3)), some (.inl (.inl v4)), v5, v6], [], I, L)) → ∀ (v1 : Int32) (v2 : Int32) (v3 : Int32) (v4 : Int32) (v5 : Int32) (v6 : Option jV) (I : jI) (L : jL), fr [32] I0 I → pn (jPM d) k none (jco 188) n (41, [some (.inr (31, 0)), some (.inl (.inl v1)), some (.inl (.inl v2)), some (.inl (.inl v3)), some (.inl (.inl v4)), some (.inl (.inl v5)), v6], [], I, L) := by
  intro n
  induction n with
  | zero => intro _ v v v v v v I L f0; trivial
  | succ n ih =>
    intro hx v1 v2 v3 v4 v5 v6 I L f0
    refine pn_lp [41, 111, 130] 400 ?_
    conv => whnf
    refine Fx183 (fun x1 I1 L1 f1 => ?_)
    conv => whnf
    refine ⟨fun _ => ?_, fun _ => ?_⟩
    · conv => whnf
      exact pn_dec n (hx _ _ _ _ _ _ _ _ (fr_then (by decide) f0 f1))
    · conv => whnf
      refine Fx187 (fun x2 I2 L2 f2 => ?_)
      conv => whnf
      refine ⟨fun _ => ?_, fun _ => ?_⟩
      · conv => whnf
        exact ih (fun q0 q1 q2 q3 q4 q5 I L f => pn_dec n (hx q0 q1 q2 q3 q4 q5 I L f)) _ _ _ _ _ _ _ _ (fr_then (by decide) (fr_then (by decide) f0 f1) f2)
      · conv => whnf
        intro _
        conv => whnf
        intro _
        conv => whnf
        refine ⟨fun _ => ?_, fun _ => ?_⟩
        · conv => whnf
          exact ih (fun q0 q1 q2 q3 q4 q5 I L f => pn_dec n (hx q0 q1 q2 q3 q4 q5 I L f)) _ _ _ _ _ _ _ _ (fr_then (by decide) (fr_then (by decide) f0 f1) f2)
        · conv => whnf
          intro _
          conv => whnf
          intro _
          conv => whnf
          exact ih (fun q0 q1 q2 q3 q4 q5 I L f => pn_dec n (hx q0 q1 q2 q3 q4 q5 I L f)) _ _ _ _ _ _ _ _ (fr_then (by decide) (fr_then (by decide) f0 f1) f2)
set_option maxHeartbeats 4000000 in
set_option maxRecDepth 20000 in
theorem FxL188_130 {d : Nat} {k : jK} {I0 : jI}  : ∀ (n : Nat), (∀ (v0 : Option jV) (v1 : Option jV) (v2 : Option jV) (v3 : Int32) (v4 : Option jV) (v5 : Option jV) (v6 : Option jV) (I : jI) (L : jL), fr [36] I0 I → pn (jPM d) k none (jco 188) n (177, [v0, v1, v2, some (.inl (.inl v3)), v4, v5, v6], [], I, L)) → ∀ (v1 : Int32) (v2 : Int32) (v3 : Int32) (v4 : Int32) (v5 : Int32) (v6 : Option jV) (I : jI) (L : jL), fr [36] I0 I → pn (jPM d) k none (jco 188) n (130, [some (.inr (31, 0)), some (.inl (.inl v1)), some (.inl (.inl v2)), some (.inl (.inl v3)), some (.inl (.inl v4)), some (.inl (.inl v5)), v6], [], I, L) := by
  intro n
  induction n with
  | zero => intro _ v v v v v v I L f0; trivial
  | succ n ih =>
    intro hx v1 v2 v3 v4 v5 v6 I L f0
    refine pn_lp [41, 130, 177] 400 ?_
    conv => whnf
    refine ⟨fun _ => ?_, fun _ => ?_⟩
    · conv => whnf
      exact pn_dec n (hx _ _ _ _ _ _ _ _ _ f0)
    · conv => whnf
      refine Fx186 (fun x1 I1 L1 f1 => ?_)
      conv => whnf
      refine ⟨fun _ => ?_, fun _ => ?_⟩
      · conv => whnf
        intro _
        conv => whnf
        exact ih (fun q0 q1 q2 q3 q4 q5 q6 I L f => pn_dec n (hx q0 q1 q2 q3 q4 q5 q6 I L f)) _ _ _ _ _ _ _ _ (fr_up rfl (fr_then (by decide) f0 f1))
      · conv => whnf
        intro _
        conv => whnf
        exact ih (fun q0 q1 q2 q3 q4 q5 q6 I L f => pn_dec n (hx q0 q1 q2 q3 q4 q5 q6 I L f)) _ _ _ _ _ _ _ _ (fr_up rfl (fr_then (by decide) f0 f1))
set_option maxHeartbeats 4000000 in
set_option maxRecDepth 20000 in
theorem Fx188 {d : Nat} {k : jK} {a1 : Int32} {a2 : Int32} {I : jI} {L : jL} (hk : ∀ (x : Int32) (I' : jI) (L' : jL), fr [32, 35, 36] I I' → k (some (.inl (.inl x))) (I', L')) : jPM d 188 [.inr (31, 0), .inl (.inl a1), .inl (.inl a2)] (I, L) k := by
  refine pM (fun d n => ?_)
  refine pn_go [41, 130] 400 ?_
  conv => whnf
  refine Fx124 (fun x1 I1 L1 f1 => ?_)
  conv => whnf
  refine ⟨fun _ => ?_, fun _ => ?_⟩
  · conv => whnf
    exact hk _ _ _ (fr_then (by decide) fr_rf f1)
  · conv => whnf
    refine Fx128 (fun x2 I2 L2 f2 => ?_)
    conv => whnf
    refine ⟨fun _ => ?_, fun _ => ?_⟩
    · conv => whnf
      refine ⟨fun _ => ?_, fun _ => ?_⟩
      · conv => whnf
        refine FxL188_41  _ (fun _ _ _ _ _ _ I3 L3 f3 => ?_) _ _ _ _ _ _ _ _ fr_rf
        refine pn_go [41, 130] 400 ?_
        conv => whnf
        refine ⟨fun _ => ?_, fun _ => ?_⟩
        · conv => whnf
          refine Fx131 (fun I4 L4 f4 => ?_)
          conv => whnf
          refine FxL188_130  _ (fun _ _ _ _ _ _ _ I5 L5 f5 => ?_) _ _ _ _ _ _ _ _ fr_rf
          refine pn_go [41, 130] 400 ?_
          conv => whnf
          exact hk _ _ _ (fr_then (by decide) (fr_then (by decide) (fr_then (by decide) (fr_then (by decide) (fr_then (by decide) fr_rf f1) f2) f3) f4) f5)
        · conv => whnf
          exact hk _ _ _ (fr_then (by decide) (fr_then (by decide) (fr_then (by decide) fr_rf f1) f2) f3)
      · conv => whnf
        exact hk _ _ _ (fr_then (by decide) (fr_then (by decide) fr_rf f1) f2)
    · conv => whnf
      exact hk _ _ _ (fr_then (by decide) (fr_then (by decide) fr_rf f1) f2)
set_option maxHeartbeats 4000000 in
set_option maxRecDepth 20000 in
theorem FxL189_29 {d : Nat} {k : jK} {I0 : jI}  : ∀ (n : Nat), (∀ (v0 : Option jV) (v1 : Option jV) (v2 : Int32) (v3 : Option jV) (I : jI) (L : jL), fr [32] I0 I → pn (jPM d) k none (jco 189) n (93, [v0, v1, some (.inl (.inl v2)), v3], [], I, L)) → ∀ (v1 : Int32) (v2 : Int32) (v3 : Int32) (I : jI) (L : jL), fr [32] I0 I → pn (jPM d) k none (jco 189) n (29, [some (.inr (31, 0)), some (.inl (.inl v1)), some (.inl (.inl v2)), some (.inl (.inl v3))], [], I, L) := by
  intro n
  induction n with
  | zero => intro _ v v v I L f0; trivial
  | succ n ih =>
    intro hx v1 v2 v3 I L f0
    refine pn_lp [29, 93] 400 ?_
    conv => whnf
    refine Fx183 (fun x1 I1 L1 f1 => ?_)
    conv => whnf
    refine ⟨fun _ => ?_, fun _ => ?_⟩
    · conv => whnf
      exact pn_dec n (hx _ _ _ _ _ _ (fr_then (by decide) f0 f1))
    · conv => whnf
      refine Fx187 (fun x2 I2 L2 f2 => ?_)
      conv => whnf
      refine ⟨fun _ => ?_, fun _ => ?_⟩
      · conv => whnf
        exact ih (fun q0 q1 q2 q3 I L f => pn_dec n (hx q0 q1 q2 q3 I L f)) _ _ _ _ _ (fr_then (by decide) (fr_then (by decide) f0 f1) f2)
      · conv => whnf
        intro _
        conv => whnf
        intro _
        conv => whnf
        refine ⟨fun _ => ?_, fun _ => ?_⟩
        · conv => whnf
          exact ih (fun q0 q1 q2 q3 I L f => pn_dec n (hx q0 q1 q2 q3 I L f)) _ _ _ _ _ (fr_then (by decide) (fr_then (by decide) f0 f1) f2)
        · conv => whnf
          intro _
          conv => whnf
          intro _
          conv => whnf
          exact ih (fun q0 q1 q2 q3 I L f => pn_dec n (hx q0 q1 q2 q3 I L f)) _ _ _ _ _ (fr_then (by decide) (fr_then (by decide) f0 f1) f2)
set_option maxHeartbeats 4000000 in
set_option maxRecDepth 20000 in
theorem Fx189 {d : Nat} {k : jK} {a1 : Int32} {I : jI} {L : jL} (hk : ∀ (x : Int32) (I' : jI) (L' : jL), fr [32] I I' → k (some (.inl (.inl x))) (I', L')) : jPM d 189 [.inr (31, 0), .inl (.inl a1)] (I, L) k := by
  refine pM (fun d n => ?_)
  refine pn_go [29] 400 ?_
  conv => whnf
  refine Fx124 (fun x1 I1 L1 f1 => ?_)
  conv => whnf
  refine ⟨fun _ => ?_, fun _ => ?_⟩
  · conv => whnf
    refine ⟨fun _ => ?_, fun _ => ?_⟩
    · conv => whnf
      refine FxL189_29  _ (fun _ _ _ _ I2 L2 f2 => ?_) _ _ _ _ _ fr_rf
      refine pn_go [29] 400 ?_
      conv => whnf
      refine ⟨fun _ => ?_, fun _ => ?_⟩
      · conv => whnf
        exact hk _ _ _ (fr_then (by decide) (fr_then (by decide) fr_rf f1) f2)
      · conv => whnf
        exact hk _ _ _ (fr_then (by decide) (fr_then (by decide) fr_rf f1) f2)
    · conv => whnf
      exact hk _ _ _ (fr_then (by decide) fr_rf f1)
  · conv => whnf
    exact hk _ _ _ (fr_then (by decide) fr_rf f1)
set_option maxHeartbeats 4000000 in
set_option maxRecDepth 20000 in
theorem FxL190_32 {d : Nat} {k : jK} {I0 : jI}  : ∀ (n : Nat), (∀ (v0 : Option jV) (v1 : Option jV) (v2 : Int32) (v3 : Option jV) (I : jI) (L : jL), fr [32] I0 I → pn (jPM d) k none (jco 190) n (53, [v0, v1, some (.inl (.inl v2)), v3], [], I, L)) → ∀ (v1 : Int32) (v2 : Int32) (v3 : Int32) (I : jI) (L : jL), fr [32] I0 I → pn (jPM d) k none (jco 190) n (32, [some (.inr (31, 0)), some (.inl (.inl v1)), some (.inl (.inl v2)), some (.inl (.inl v3))], [], I, L) := by
  intro n
  induction n with
  | zero => intro _ v v v I L f0; trivial
  | succ n ih =>
    intro hx v1 v2 v3 I L f0
    refine pn_lp [32, 53] 400 ?_
    conv => whnf
    refine ⟨fun _ => ?_, fun _ => ?_⟩
    · conv => whnf
      exact pn_dec n (hx _ _ _ _ _ _ f0)
    · conv => whnf
      refine Fx167 (fun x1 I1 L1 f1 => ?_)
      conv => whnf
      exact ih (fun q0 q1 q2 q3 I L f => pn_dec n (hx q0 q1 q2 q3 I L f)) _ _ _ _ _ (fr_then (by decide) f0 f1)
set_option maxHeartbeats 4000000 in
set_option maxRecDepth 20000 in
theorem Fx190 {d : Nat} {k : jK} {a1 : Int32} {I : jI} {L : jL} (hk : ∀ (x : Int32) (I' : jI) (L' : jL), fr [32] I I' → k (some (.inl (.inl x))) (I', L')) : jPM d 190 [.inr (31, 0), .inl (.inl a1)] (I, L) k := by
  refine pM (fun d n => ?_)
  refine pn_go [32] 400 ?_
  conv => whnf
  refine Fx124 (fun x1 I1 L1 f1 => ?_)
  conv => whnf
  refine ⟨fun _ => ?_, fun _ => ?_⟩
  · conv => whnf
    refine ⟨fun _ => ?_, fun _ => ?_⟩
    · conv => whnf
      refine Fx185 (fun I2 L2 f2 => ?_)
      conv => whnf
      refine FxL190_32  _ (fun _ _ _ _ I3 L3 f3 => ?_) _ _ _ _ _ fr_rf
      refine pn_go [32] 400 ?_
      conv => whnf
      exact hk _ _ _ (fr_then (by decide) (fr_then (by decide) (fr_then (by decide) fr_rf f1) f2) f3)
    · conv => whnf
      exact hk _ _ _ (fr_then (by decide) fr_rf f1)
  · conv => whnf
    exact hk _ _ _ (fr_then (by decide) fr_rf f1)
set_option maxHeartbeats 4000000 in
set_option maxRecDepth 20000 in
theorem FxL191_16 {d : Nat} {k : jK} {I0 : jI} (hk : ∀ (x : Int32) (I' : jI) (L' : jL), fr [32] I0 I' → k (some (.inl (.inl x))) (I', L')) : ∀ (n : Nat), (∀ (v0 : Option jV) (v1 : Option jV) (I : jI) (L : jL), fr [32] I0 I → pn (jPM d) k none (jco 191) n (55, [v0, v1], [], I, L)) → ∀ (v1 : Int32) (I : jI) (L : jL), fr [32] I0 I → pn (jPM d) k none (jco 191) n (16, [some (.inr (31, 0)), some (.inl (.inl v1))], [], I, L) := by
  intro n
  induction n with
  | zero => intro _ v I L f0; trivial
  | succ n ih =>
    intro hx v1 I L f0
    refine pn_lp [16, 55] 400 ?_
    conv => whnf
    refine ⟨fun _ => ?_, fun _ => ?_⟩
    · conv => whnf
      exact pn_dec n (hx _ _ _ _ f0)
    · conv => whnf
      refine Fx167 (fun x1 I1 L1 f1 => ?_)
      conv => whnf
      intro _
      conv => whnf
      intro _
      conv => whnf
      refine ⟨fun _ => ?_, fun _ => ?_⟩
      · conv => whnf
        exact ih (fun q0 q1 I L f => pn_dec n (hx q0 q1 I L f)) _ _ _ (fr_then (by decide) f0 f1)
      · conv => whnf
        exact hk _ _ _ (fr_then (by decide) f0 f1)
set_option maxHeartbeats 4000000 in
set_option maxRecDepth 20000 in
theorem Fx191 {d : Nat} {k : jK} {I : jI} {L : jL} (hk : ∀ (x : Int32) (I' : jI) (L' : jL), fr [32] I I' → k (some (.inl (.inl x))) (I', L')) : jPM d 191 [.inr (31, 0)] (I, L) k := by
  refine pM (fun d n => ?_)
  refine pn_go [16] 400 ?_
  conv => whnf
  refine ⟨fun _ => ?_, fun _ => ?_⟩
  · conv => whnf
    refine Fx185 (fun I1 L1 f1 => ?_)
    conv => whnf
    refine FxL191_16 (fun x2 I2 L2 f2 => hk x2 I2 L2 (fr_then (by decide) (fr_then (by decide) fr_rf f1) f2)) _ (fun _ _ I2 L2 f2 => ?_) _ _ _ fr_rf
    refine pn_go [16] 400 ?_
    conv => whnf
    exact hk _ _ _ (fr_then (by decide) (fr_then (by decide) fr_rf f1) f2)
  · conv => whnf
    exact hk _ _ _ fr_rf
set_option maxHeartbeats 4000000 in
set_option maxRecDepth 20000 in
theorem FxL192_50 {d : Nat} {k : jK} {I0 : jI}  : ∀ (n : Nat), (∀ (v1 : Option jV) (v2 : Option jV) (v3 : Int32) (v4 : Int32) (v5 : Option jV) (v6 : Option jV) (v7 : Option jV) (v8 : Option jV) (I : jI) (L : jL), fr [] I0 I → pn (jPM d) k none (jco 192) n (171, [some (.inr (31, 0)), v1, v2, some (.inl (.inl v3)), some (.inl (.inl v4)), v5, v6, v7, v8], [], I, L)) → ∀ (v1 : Int32) (v2 : Int32) (v3 : Int32) (v4 : Int32) (v5 : Int32) (v6 : Int32) (v7 : Option jV) (v8 : Option jV) (I : jI) (L : jL), fr [] I0 I → pn (jPM d) k none (jco 192) n (50, [some (.inr (31, 0)), some (.inl (.inl v1)), some (.inl (.inl v2)), some (.inl (.inl v3)), some (.inl (.inl v4)), some (.inl (.inl v5)), some (.inl (.inl v6)), v7, v8], [], I, L) := by
  intro n
  induction n with
  | zero => intro _ v v v v v v v v I L f0; trivial
  | succ n ih =>
    intro hx v1 v2 v3 v4 v5 v6 v7 v8 I L f0
    refine pn_lp [50, 171] 400 ?_
    conv => whnf
    refine ⟨fun _ => ?_, fun _ => ?_⟩
    · conv => whnf
      exact pn_dec n (hx _ _ _ _ _ _ _ _ _ _ f0)
    · conv => whnf
      refine Fx155 (fun x1 I1 L1 f1 => ?_)
      conv => whnf
      refine ⟨fun _ => ?_, fun _ => ?_⟩
      · conv => whnf
        refine ⟨fun _ => ?_, fun z => absurd z (by decide)⟩
        conv => whnf
        refine ⟨fun _ => ?_, fun _ => ?_⟩
        · conv => whnf
          refine ⟨fun _ => ?_, fun _ => ?_⟩
          · conv => whnf
            exact ih (fun q0 q1 q2 q3 q4 q5 q6 q7 I L f => pn_dec n (hx q0 q1 q2 q3 q4 q5 q6 q7 I L f)) _ _ _ _ _ _ _ _ _ _ (fr_then (by decide) f0 f1)
          · conv => whnf
            refine ⟨fun _ => ?_, fun _ => ?_⟩
            · conv => whnf
              exact ih (fun q0 q1 q2 q3 q4 q5 q6 q7 I L f => pn_dec n (hx q0 q1 q2 q3 q4 q5 q6 q7 I L f)) _ _ _ _ _ _ _ _ _ _ (fr_then (by decide) f0 f1)
            · conv => whnf
              exact ih (fun q0 q1 q2 q3 q4 q5 q6 q7 I L f => pn_dec n (hx q0 q1 q2 q3 q4 q5 q6 q7 I L f)) _ _ _ _ _ _ _ _ _ _ (fr_then (by decide) f0 f1)
        · conv => whnf
          refine ⟨fun _ => ?_, fun _ => ?_⟩
          · conv => whnf
            refine ⟨fun _ => ?_, fun _ => ?_⟩
            · conv => whnf
              exact ih (fun q0 q1 q2 q3 q4 q5 q6 q7 I L f => pn_dec n (hx q0 q1 q2 q3 q4 q5 q6 q7 I L f)) _ _ _ _ _ _ _ _ _ _ (fr_then (by decide) f0 f1)
            · conv => whnf
              refine ⟨fun _ => ?_, fun _ => ?_⟩
              · conv => whnf
                exact ih (fun q0 q1 q2 q3 q4 q5 q6 q7 I L f => pn_dec n (hx q0 q1 q2 q3 q4 q5 q6 q7 I L f)) _ _ _ _ _ _ _ _ _ _ (fr_then (by decide) f0 f1)
              · conv => whnf
                exact ih (fun q0 q1 q2 q3 q4 q5 q6 q7 I L f => pn_dec n (hx q0 q1 q2 q3 q4 q5 q6 q7 I L f)) _ _ _ _ _ _ _ _ _ _ (fr_then (by decide) f0 f1)
          · conv => whnf
            refine ⟨fun _ => ?_, fun _ => ?_⟩
            · conv => whnf
              exact ih (fun q0 q1 q2 q3 q4 q5 q6 q7 I L f => pn_dec n (hx q0 q1 q2 q3 q4 q5 q6 q7 I L f)) _ _ _ _ _ _ _ _ _ _ (fr_then (by decide) f0 f1)
            · conv => whnf
              refine ⟨fun _ => ?_, fun _ => ?_⟩
              · conv => whnf
                exact ih (fun q0 q1 q2 q3 q4 q5 q6 q7 I L f => pn_dec n (hx q0 q1 q2 q3 q4 q5 q6 q7 I L f)) _ _ _ _ _ _ _ _ _ _ (fr_then (by decide) f0 f1)
              · conv => whnf
                exact ih (fun q0 q1 q2 q3 q4 q5 q6 q7 I L f => pn_dec n (hx q0 q1 q2 q3 q4 q5 q6 q7 I L f)) _ _ _ _ _ _ _ _ _ _ (fr_then (by decide) f0 f1)
      · conv => whnf
        refine Fx153 (fun x2 I2 L2 f2 => ?_)
        conv => whnf
        refine ⟨fun _ => ?_, fun _ => ?_⟩
        · conv => whnf
          refine ⟨fun _ => ?_, fun z => absurd z (by decide)⟩
          conv => whnf
          refine ⟨fun _ => ?_, fun _ => ?_⟩
          · conv => whnf
            refine ⟨fun _ => ?_, fun _ => ?_⟩
            · conv => whnf
              exact ih (fun q0 q1 q2 q3 q4 q5 q6 q7 I L f => pn_dec n (hx q0 q1 q2 q3 q4 q5 q6 q7 I L f)) _ _ _ _ _ _ _ _ _ _ (fr_then (by decide) (fr_then (by decide) f0 f1) f2)
            · conv => whnf
              refine ⟨fun _ => ?_, fun _ => ?_⟩
              · conv => whnf
                exact ih (fun q0 q1 q2 q3 q4 q5 q6 q7 I L f => pn_dec n (hx q0 q1 q2 q3 q4 q5 q6 q7 I L f)) _ _ _ _ _ _ _ _ _ _ (fr_then (by decide) (fr_then (by decide) f0 f1) f2)
              · conv => whnf
                exact ih (fun q0 q1 q2 q3 q4 q5 q6 q7 I L f => pn_dec n (hx q0 q1 q2 q3 q4 q5 q6 q7 I L f)) _ _ _ _ _ _ _ _ _ _ (fr_then (by decide) (fr_then (by decide) f0 f1) f2)
          · conv => whnf
            refine ⟨fun _ => ?_, fun _ => ?_⟩
            · conv => whnf
              refine ⟨fun _ => ?_, fun _ => ?_⟩
              · conv => whnf
                exact ih (fun q0 q1 q2 q3 q4 q5 q6 q7 I L f => pn_dec n (hx q0 q1 q2 q3 q4 q5 q6 q7 I L f)) _ _ _ _ _ _ _ _ _ _ (fr_then (by decide) (fr_then (by decide) f0 f1) f2)
              · conv => whnf
                refine ⟨fun _ => ?_, fun _ => ?_⟩
                · conv => whnf
                  exact ih (fun q0 q1 q2 q3 q4 q5 q6 q7 I L f => pn_dec n (hx q0 q1 q2 q3 q4 q5 q6 q7 I L f)) _ _ _ _ _ _ _ _ _ _ (fr_then (by decide) (fr_then (by decide) f0 f1) f2)
                · conv => whnf
                  exact ih (fun q0 q1 q2 q3 q4 q5 q6 q7 I L f => pn_dec n (hx q0 q1 q2 q3 q4 q5 q6 q7 I L f)) _ _ _ _ _ _ _ _ _ _ (fr_then (by decide) (fr_then (by decide) f0 f1) f2)
            · conv => whnf
              refine ⟨fun _ => ?_, fun _ => ?_⟩
              · conv => whnf
                exact ih (fun q0 q1 q2 q3 q4 q5 q6 q7 I L f => pn_dec n (hx q0 q1 q2 q3 q4 q5 q6 q7 I L f)) _ _ _ _ _ _ _ _ _ _ (fr_then (by decide) (fr_then (by decide) f0 f1) f2)
              · conv => whnf
                refine ⟨fun _ => ?_, fun _ => ?_⟩
                · conv => whnf
                  exact ih (fun q0 q1 q2 q3 q4 q5 q6 q7 I L f => pn_dec n (hx q0 q1 q2 q3 q4 q5 q6 q7 I L f)) _ _ _ _ _ _ _ _ _ _ (fr_then (by decide) (fr_then (by decide) f0 f1) f2)
                · conv => whnf
                  exact ih (fun q0 q1 q2 q3 q4 q5 q6 q7 I L f => pn_dec n (hx q0 q1 q2 q3 q4 q5 q6 q7 I L f)) _ _ _ _ _ _ _ _ _ _ (fr_then (by decide) (fr_then (by decide) f0 f1) f2)
        · conv => whnf
          refine ⟨fun z => absurd z (by decide), fun _ => ?_⟩
          conv => whnf
          refine Fx153 (fun x3 I3 L3 f3 => ?_)
          conv => whnf
          refine ⟨fun _ => ?_, fun _ => ?_⟩
          · conv => whnf
            refine ⟨fun _ => ?_, fun _ => ?_⟩
            · conv => whnf
              exact ih (fun q0 q1 q2 q3 q4 q5 q6 q7 I L f => pn_dec n (hx q0 q1 q2 q3 q4 q5 q6 q7 I L f)) _ _ _ _ _ _ _ _ _ _ (fr_then (by decide) (fr_then (by decide) (fr_then (by decide) f0 f1) f2) f3)
            · conv => whnf
              refine ⟨fun _ => ?_, fun _ => ?_⟩
              · conv => whnf
                exact ih (fun q0 q1 q2 q3 q4 q5 q6 q7 I L f => pn_dec n (hx q0 q1 q2 q3 q4 q5 q6 q7 I L f)) _ _ _ _ _ _ _ _ _ _ (fr_then (by decide) (fr_then (by decide) (fr_then (by decide) f0 f1) f2) f3)
              · conv => whnf
                exact ih (fun q0 q1 q2 q3 q4 q5 q6 q7 I L f => pn_dec n (hx q0 q1 q2 q3 q4 q5 q6 q7 I L f)) _ _ _ _ _ _ _ _ _ _ (fr_then (by decide) (fr_then (by decide) (fr_then (by decide) f0 f1) f2) f3)
          · conv => whnf
            refine ⟨fun _ => ?_, fun _ => ?_⟩
            · conv => whnf
              refine ⟨fun _ => ?_, fun _ => ?_⟩
              · conv => whnf
                exact ih (fun q0 q1 q2 q3 q4 q5 q6 q7 I L f => pn_dec n (hx q0 q1 q2 q3 q4 q5 q6 q7 I L f)) _ _ _ _ _ _ _ _ _ _ (fr_then (by decide) (fr_then (by decide) (fr_then (by decide) f0 f1) f2) f3)
              · conv => whnf
                refine ⟨fun _ => ?_, fun _ => ?_⟩
                · conv => whnf
                  exact ih (fun q0 q1 q2 q3 q4 q5 q6 q7 I L f => pn_dec n (hx q0 q1 q2 q3 q4 q5 q6 q7 I L f)) _ _ _ _ _ _ _ _ _ _ (fr_then (by decide) (fr_then (by decide) (fr_then (by decide) f0 f1) f2) f3)
                · conv => whnf
                  exact ih (fun q0 q1 q2 q3 q4 q5 q6 q7 I L f => pn_dec n (hx q0 q1 q2 q3 q4 q5 q6 q7 I L f)) _ _ _ _ _ _ _ _ _ _ (fr_then (by decide) (fr_then (by decide) (fr_then (by decide) f0 f1) f2) f3)
            · conv => whnf
              refine ⟨fun _ => ?_, fun _ => ?_⟩
              · conv => whnf
                exact ih (fun q0 q1 q2 q3 q4 q5 q6 q7 I L f => pn_dec n (hx q0 q1 q2 q3 q4 q5 q6 q7 I L f)) _ _ _ _ _ _ _ _ _ _ (fr_then (by decide) (fr_then (by decide) (fr_then (by decide) f0 f1) f2) f3)
              · conv => whnf
                refine ⟨fun _ => ?_, fun _ => ?_⟩
                · conv => whnf
                  exact ih (fun q0 q1 q2 q3 q4 q5 q6 q7 I L f => pn_dec n (hx q0 q1 q2 q3 q4 q5 q6 q7 I L f)) _ _ _ _ _ _ _ _ _ _ (fr_then (by decide) (fr_then (by decide) (fr_then (by decide) f0 f1) f2) f3)
                · conv => whnf
                  exact ih (fun q0 q1 q2 q3 q4 q5 q6 q7 I L f => pn_dec n (hx q0 q1 q2 q3 q4 q5 q6 q7 I L f)) _ _ _ _ _ _ _ _ _ _ (fr_then (by decide) (fr_then (by decide) (fr_then (by decide) f0 f1) f2) f3)
set_option maxHeartbeats 4000000 in
set_option maxRecDepth 20000 in
theorem Fx192 {d : Nat} {k : jK} {a1 : Int32} {a2 : Int32} {I : jI} {L : jL} (hk : ∀ (x : Int32) (I' : jI) (L' : jL), fr [32010] I I' → k (some (.inl (.inl x))) (I', L')) : jPM d 192 [.inr (31, 0), .inl (.inl a1), .inl (.inl a2)] (I, L) k := by
  refine pM (fun d n => ?_)
  refine pn_go [50] 400 ?_
  conv => whnf
  refine Fx124 (fun x1 I1 L1 f1 => ?_)
  conv => whnf
  refine ⟨fun _ => ?_, fun _ => ?_⟩
  · conv => whnf
    exact hk _ _ _ (fr_then (by decide) fr_rf f1)
  · conv => whnf
    refine Fx124 (fun x2 I2 L2 f2 => ?_)
    conv => whnf
    refine ⟨fun _ => ?_, fun _ => ?_⟩
    · conv => whnf
      refine ⟨fun _ => ?_, fun _ => ?_⟩
      · conv => whnf
        refine FxL192_50  _ (fun _ _ _ _ _ _ _ _ I3 L3 f3 => ?_) _ _ _ _ _ _ _ _ _ _ fr_rf
        refine pn_go [50] 400 ?_
        conv => whnf
        refine ⟨fun _ => ?_, fun _ => ?_⟩
        · conv => whnf
          exact hk _ _ _ (fr_up rfl (fr_then (by decide) (fr_then (by decide) (fr_then (by decide) fr_rf f1) f2) f3))
        · conv => whnf
          exact hk _ _ _ (fr_then (by decide) (fr_then (by decide) (fr_then (by decide) fr_rf f1) f2) f3)
      · conv => whnf
        exact hk _ _ _ (fr_then (by decide) (fr_then (by decide) fr_rf f1) f2)
    · conv => whnf
      exact hk _ _ _ (fr_then (by decide) (fr_then (by decide) fr_rf f1) f2)
