set_option maxHeartbeats 4000000 in
set_option maxRecDepth 20000 in
theorem FxL207_58 {d : Nat} {k : jK} {I0 : jI}  : ∀ (n : Nat), (∀ (v1 : Option jV) (v2 : Option jV) (v3 : Option jV) (v4 : Option jV) (v5 : Option jV) (v6 : Option jV) (v7 : Option jV) (I : jI) (L : jL), fr [32] I0 I → pn (jPM d) k none (jco 207) n (178, [some (.inr (31, 0)), v1, v2, v3, v4, v5, v6, v7], [], I, L)) → ∀ (v1 : Int32) (v2 : Option jV) (v3 : Int64) (v5 : Int32) (v6 : Option jV) (v7 : Option jV) (I : jI) (L : jL), fr [32] I0 I → pn (jPM d) k none (jco 207) n (58, [some (.inr (31, 0)), some (.inl (.inl v1)), v2, some (.inl (.inr v3)), none, some (.inl (.inl v5)), v6, v7], [], I, L) := by
  intro n
  induction n with
  | zero => intro _ v v v v v v I L f0; trivial
  | succ n ih =>
    intro hx v1 v2 v3 v5 v6 v7 I L f0
    refine pn_lp [58, 178] 400 ?_
    conv => whnf
    refine ⟨fun _ => ?_, fun _ => ?_⟩
    · conv => whnf
      exact pn_dec n (hx _ _ _ _ _ _ _ _ _ f0)
    · conv => whnf
      intro _
      conv => whnf
      intro _
      conv => whnf
      intro _
      conv => whnf
      intro _
      conv => whnf
      refine Fx163 (fun I1 L1 f1 => ?_)
      conv => whnf
      refine ⟨fun _ => ?_, fun _ => ?_⟩
      · conv => whnf
        refine ⟨fun _ => ?_, fun _ => ?_⟩
        · conv => whnf
          refine Fx167 (fun x2 I2 L2 f2 => ?_)
          conv => whnf
          exact ih (fun q0 q1 q2 q3 q4 q5 q6 I L f => pn_dec n (hx q0 q1 q2 q3 q4 q5 q6 I L f)) _ _ _ _ _ _ _ _ (fr_then (by decide) (fr_then (by decide) f0 f1) f2)
        · conv => whnf
          intro _
          conv => whnf
          refine ⟨fun _ => ?_, fun _ => ?_⟩
          · conv => whnf
            refine Fx167 (fun x3 I3 L3 f3 => ?_)
            conv => whnf
            exact ih (fun q0 q1 q2 q3 q4 q5 q6 I L f => pn_dec n (hx q0 q1 q2 q3 q4 q5 q6 I L f)) _ _ _ _ _ _ _ _ (fr_then (by decide) (fr_then (by decide) f0 f1) f3)
          · conv => whnf
            intro _
            conv => whnf
            intro _
            conv => whnf
            exact ih (fun q0 q1 q2 q3 q4 q5 q6 I L f => pn_dec n (hx q0 q1 q2 q3 q4 q5 q6 I L f)) _ _ _ _ _ _ _ _ (fr_up rfl (fr_then (by decide) f0 f1))
      · conv => whnf
        refine Fx164 (fun x4 I4 L4 f4 => ?_)
        conv => whnf
        refine ⟨fun _ => ?_, fun _ => ?_⟩
        · conv => whnf
          refine ⟨fun _ => ?_, fun _ => ?_⟩
          · conv => whnf
            refine Fx167 (fun x5 I5 L5 f5 => ?_)
            conv => whnf
            exact ih (fun q0 q1 q2 q3 q4 q5 q6 I L f => pn_dec n (hx q0 q1 q2 q3 q4 q5 q6 I L f)) _ _ _ _ _ _ _ _ (fr_then (by decide) (fr_then (by decide) (fr_then (by decide) f0 f1) f4) f5)
          · conv => whnf
            intro _
            conv => whnf
            refine ⟨fun _ => ?_, fun _ => ?_⟩
            · conv => whnf
              refine Fx167 (fun x6 I6 L6 f6 => ?_)
              conv => whnf
              exact ih (fun q0 q1 q2 q3 q4 q5 q6 I L f => pn_dec n (hx q0 q1 q2 q3 q4 q5 q6 I L f)) _ _ _ _ _ _ _ _ (fr_then (by decide) (fr_then (by decide) (fr_then (by decide) f0 f1) f4) f6)
            · conv => whnf
              intro _
              conv => whnf
              intro _
              conv => whnf
              exact ih (fun q0 q1 q2 q3 q4 q5 q6 I L f => pn_dec n (hx q0 q1 q2 q3 q4 q5 q6 I L f)) _ _ _ _ _ _ _ _ (fr_up rfl (fr_then (by decide) (fr_then (by decide) f0 f1) f4))
        · conv => whnf
          refine Fx165 (fun x7 I7 L7 f7 => ?_)
          conv => whnf
          exact ih (fun q0 q1 q2 q3 q4 q5 q6 I L f => pn_dec n (hx q0 q1 q2 q3 q4 q5 q6 I L f)) _ _ _ _ _ _ _ _ (fr_then (by decide) (fr_then (by decide) (fr_then (by decide) f0 f1) f4) f7)
set_option maxHeartbeats 4000000 in
set_option maxRecDepth 20000 in
theorem Fx207 {d : Nat} {k : jK} {a1 : Int32} {a2 : Int32} {I : jI} {L : jL} (hk : ∀ (x : Int32) (I' : jI) (L' : jL), fr [32] I I' → k (some (.inl (.inl x))) (I', L')) : jPM d 207 [.inr (31, 0), .inl (.inl a1), .inl (.inl a2)] (I, L) k := by
  refine pM (fun d n => ?_)
  refine pn_go [58] 400 ?_
  conv => whnf
  refine Fx124 (fun x1 I1 L1 f1 => ?_)
  conv => whnf
  refine ⟨fun _ => ?_, fun _ => ?_⟩
  · conv => whnf
    exact hk _ _ _ (fr_then (by decide) fr_rf f1)
  · conv => whnf
    refine Fx124 (fun x2 I2 L2 f2 => ?_)
    conv => whnf
    refine ⟨fun _ => ?_, fun _ => ?_⟩
    · conv => whnf
      refine ⟨fun _ => ?_, fun _ => ?_⟩
      · conv => whnf
        intro _
        conv => whnf
        refine ⟨fun _ => ?_, fun _ => ?_⟩
        · conv => whnf
          refine FxL207_58  _ (fun _ _ _ _ _ _ _ I3 L3 f3 => ?_) _ _ _ _ _ _ _ _ fr_rf
          refine pn_go [58] 400 ?_
          conv => whnf
          refine Fx162 (fun x4 I4 L4 f4 => ?_)
          conv => whnf
          exact hk _ _ _ (fr_then (by decide) (fr_then (by decide) (fr_then (by decide) (fr_then (by decide) fr_rf f1) f2) f3) f4)
        · conv => whnf
          exact hk _ _ _ (fr_then (by decide) (fr_then (by decide) fr_rf f1) f2)
      · conv => whnf
        exact hk _ _ _ (fr_then (by decide) (fr_then (by decide) fr_rf f1) f2)
    · conv => whnf
      exact hk _ _ _ (fr_then (by decide) (fr_then (by decide) fr_rf f1) f2)
