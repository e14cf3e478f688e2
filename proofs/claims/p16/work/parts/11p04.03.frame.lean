set_option maxHeartbeats 4000000 in
set_option maxRecDepth 20000 in
theorem Fx153 {d : Nat} {k : jK} {a1 : Int32} {a2 : Int32} {a3 : Int32} {I : jI} {L : jL} (hk : ∀ (x : Int32) (I' : jI) (L' : jL), fr [] I I' → k (some (.inl (.inl x))) (I', L')) : jPM d 153 [.inr (31, 0), .inl (.inl a1), .inl (.inl a2), .inl (.inl a3)] (I, L) k := by
  refine pM (fun d n => ?_)
  refine pn_go [] 400 ?_
  conv => whnf
  intro _
  conv => whnf
  intro _
  conv => whnf
  intro _
  conv => whnf
  refine Fx152 (fun x1 I1 L1 f1 => ?_)
  conv => whnf
  exact hk _ _ _ (fr_then (by decide) fr_rf f1)
set_option maxHeartbeats 4000000 in
set_option maxRecDepth 20000 in
theorem Fx154 {d : Nat} {k : jK} {a0 : Int32} {a1 : Int32} {I : jI} {L : jL} (hk : ∀ (x : Int32) (I' : jI) (L' : jL), fr [] I I' → k (some (.inl (.inl x))) (I', L')) : jPM d 154 [.inl (.inl a0), .inl (.inl a1)] (I, L) k := by
  refine pM (fun d n => ?_)
  refine pn_go [] 400 ?_
  conv => whnf
  refine ⟨fun _ => ?_, fun _ => ?_⟩
  · conv => whnf
    exact hk _ _ _ fr_rf
  · conv => whnf
    intro _
    conv => whnf
    exact hk _ _ _ fr_rf
set_option maxHeartbeats 4000000 in
set_option maxRecDepth 20000 in
theorem Fx155 {d : Nat} {k : jK} {a1 : Int32} {a2 : Int32} {I : jI} {L : jL} (hk : ∀ (x : Int32) (I' : jI) (L' : jL), fr [] I I' → k (some (.inl (.inl x))) (I', L')) : jPM d 155 [.inr (31, 0), .inl (.inl a1), .inl (.inl a2)] (I, L) k := by
  refine pM (fun d n => ?_)
  refine pn_go [] 400 ?_
  conv => whnf
  intro _
  conv => whnf
  intro _
  conv => whnf
  refine Fx154 (fun x1 I1 L1 f1 => ?_)
  conv => whnf
  exact hk _ _ _ (fr_then (by decide) fr_rf f1)
set_option maxHeartbeats 4000000 in
set_option maxRecDepth 20000 in
theorem Fx156 {d : Nat} {k : jK} {a1 : Int32} {I : jI} {L : jL} (hk : ∀ (x : Int32) (I' : jI) (L' : jL), fr [] I I' → k (some (.inl (.inl x))) (I', L')) : jPM d 156 [.inr (31, 0), .inl (.inl a1)] (I, L) k := by
  refine pM (fun d n => ?_)
  refine pn_go [] 400 ?_
  conv => whnf
  intro _
  conv => whnf
  refine ⟨fun _ => ?_, fun _ => ?_⟩
  · conv => whnf
    intro _
    conv => whnf
    exact hk _ _ _ fr_rf
  · conv => whnf
    intro _
    conv => whnf
    intro _
    conv => whnf
    exact hk _ _ _ fr_rf
set_option maxHeartbeats 4000000 in
set_option maxRecDepth 20000 in
theorem FxL162_4 {d : Nat} {k : jK} {I0 : jI}  : ∀ (n : Nat), (∀ (v0 : Option jV) (v1 : Option jV) (v2 : Int32) (v3 : Option jV) (I : jI) (L : jL), fr [] I0 I → pn (jPM d) k none (jco 162) n (30, [v0, v1, some (.inl (.inl v2)), v3], [], I, L)) → ∀ (v1 : Int32) (v2 : Int32) (v3 : Int32) (I : jI) (L : jL), fr [] I0 I → pn (jPM d) k none (jco 162) n (4, [some (.inr (31, 0)), some (.inl (.inl v1)), some (.inl (.inl v2)), some (.inl (.inl v3))], [], I, L) := by
  intro n
  induction n with
  | zero => intro _ v v v I L f0; trivial
  | succ n ih =>
    intro hx v1 v2 v3 I L f0
    refine pn_lp [4, 30] 400 ?_
    conv => whnf
    refine ⟨fun _ => ?_, fun _ => ?_⟩
    · conv => whnf
      exact pn_dec n (hx _ _ _ _ _ _ f0)
    · conv => whnf
      intro _
      conv => whnf
      exact ih (fun q0 q1 q2 q3 I L f => pn_dec n (hx q0 q1 q2 q3 I L f)) _ _ _ _ _ f0
set_option maxHeartbeats 4000000 in
set_option maxRecDepth 20000 in
theorem Fx162 {d : Nat} {k : jK} {a1 : Int32} {I : jI} {L : jL} (hk : ∀ (x : Int32) (I' : jI) (L' : jL), fr [] I I' → k (some (.inl (.inl x))) (I', L')) : jPM d 162 [.inr (31, 0), .inl (.inl a1)] (I, L) k := by
  refine pM (fun d n => ?_)
  refine pn_go [4] 400 ?_
  conv => whnf
  refine FxL162_4  _ (fun _ _ _ _ I1 L1 f1 => ?_) _ _ _ _ _ fr_rf
  refine pn_go [4] 400 ?_
  conv => whnf
  exact hk _ _ _ (fr_then (by decide) fr_rf f1)
set_option maxHeartbeats 4000000 in
set_option maxRecDepth 20000 in
theorem FxL163_2 {d : Nat} {k : jK} {I0 : jI}  : ∀ (n : Nat), (∀ (v1 : Option jV) (I : jI) (L : jL), fr [32] I0 I → pn (jPM d) k none (jco 163) n (41, [some (.inr (31, 0)), v1], [], I, L)) → ∀ (v1 : Int32) (I : jI) (L : jL), fr [32] I0 I → pn (jPM d) k none (jco 163) n (2, [some (.inr (31, 0)), some (.inl (.inl v1))], [], I, L) := by
  intro n
  induction n with
  | zero => intro _ v I L f0; trivial
  | succ n ih =>
    intro hx v1 I L f0
    refine pn_lp [2, 41] 400 ?_
    conv => whnf
    refine ⟨fun _ => ?_, fun _ => ?_⟩
    · conv => whnf
      exact pn_dec n (hx _ _ _ f0)
    · conv => whnf
      intro _
      conv => whnf
      intro _
      conv => whnf
      intro _
      conv => whnf
      exact ih (fun q0 I L f => pn_dec n (hx q0 I L f)) _ _ _ (fr_up rfl f0)
set_option maxHeartbeats 4000000 in
set_option maxRecDepth 20000 in
theorem Fx163 {d : Nat} {k : jK} {I : jI} {L : jL} (hk : ∀ (I' : jI) (L' : jL), fr [32] I I' → k none (I', L')) : jPM d 163 [.inr (31, 0)] (I, L) k := by
  refine pM (fun d n => ?_)
  refine pn_go [2] 400 ?_
  conv => whnf
  refine FxL163_2  _ (fun _ I1 L1 f1 => ?_) _ _ _ fr_rf
  refine pn_go [2] 400 ?_
  conv => whnf
  intro _
  conv => whnf
  intro _
  conv => whnf
  exact hk _ _ (fr_up rfl (fr_then (by decide) fr_rf f1))
set_option maxHeartbeats 4000000 in
set_option maxRecDepth 20000 in
theorem Fx164 {d : Nat} {k : jK} {a1 : Int32} {a2 : Int32} {a3 : Int32} {I : jI} {L : jL} (hk : ∀ (x : Int32) (I' : jI) (L' : jL), fr [] I I' → k (some (.inl (.inl x))) (I', L')) : jPM d 164 [.inr (31, 0), .inl (.inl a1), .inl (.inl a2), .inl (.inl a3)] (I, L) k := by
  refine pM (fun d n => ?_)
  refine pn_go [] 400 ?_
  conv => whnf
  refine Fx162 (fun x1 I1 L1 f1 => ?_)
  conv => whnf
  refine Fx155 (fun x2 I2 L2 f2 => ?_)
  conv => whnf
  refine ⟨fun _ => ?_, fun _ => ?_⟩
  · conv => whnf
    exact fun _ => hk _ _ _ (fr_then (by decide) (fr_then (by decide) fr_rf f1) f2)
  · conv => whnf
    exact fun _ => hk _ _ _ (fr_then (by decide) (fr_then (by decide) fr_rf f1) f2)
set_option maxHeartbeats 4000000 in
set_option maxRecDepth 20000 in
theorem Fx165 {d : Nat} {k : jK} {a1 : Int32} {a2 : Int32} {a3 : Int32} {I : jI} {L : jL} (hk : ∀ (x : Int32) (I' : jI) (L' : jL), fr [32] I I' → k (some (.inl (.inl x))) (I', L')) : jPM d 165 [.inr (31, 0), .inl (.inl a1), .inl (.inl a2), .inl (.inl a3)] (I, L) k := by
  refine pM (fun d n => ?_)
  refine pn_go [] 400 ?_
  conv => whnf
  refine Fx153 (fun x1 I1 L1 f1 => ?_)
  conv => whnf
  intro _
  conv => whnf
  intro _
  conv => whnf
  refine Fx156 (fun x2 I2 L2 f2 => ?_)
  conv => whnf
  intro _
  conv => whnf
  refine Fx155 (fun x3 I3 L3 f3 => ?_)
  conv => whnf
  intro _
  conv => whnf
  exact hk _ _ _ (fr_up rfl (fr_then (by decide) (fr_then (by decide) (fr_up rfl (fr_then (by decide) fr_rf f1)) f2) f3))
set_option maxHeartbeats 4000000 in
set_option maxRecDepth 20000 in
theorem Fx166 {d : Nat} {k : jK} {a1 : Int32} {a2 : Int32} {I : jI} {L : jL} (hk : ∀ (x : Int32) (I' : jI) (L' : jL), fr [32] I I' → k (some (.inl (.inl x))) (I', L')) : jPM d 166 [.inr (31, 0), .inl (.inl a1), .inl (.inl a2)] (I, L) k := by
  refine pM (fun d n => ?_)
  refine pn_go [] 400 ?_
  conv => whnf
  refine Fx151 (fun x1 I1 L1 f1 => ?_)
  conv => whnf
  refine ⟨fun _ => ?_, fun _ => ?_⟩
  · conv => whnf
    exact hk _ _ _ (fr_then (by decide) fr_rf f1)
  · conv => whnf
    refine Fx124 (fun x2 I2 L2 f2 => ?_)
    conv => whnf
    refine ⟨fun _ => ?_, fun _ => ?_⟩
    · conv => whnf
      refine Fx164 (fun x3 I3 L3 f3 => ?_)
      conv => whnf
      refine ⟨fun _ => ?_, fun _ => ?_⟩
      · conv => whnf
        intro _
        conv => whnf
        refine ⟨fun _ => ?_, fun _ => ?_⟩
        · conv => whnf
          refine Fx163 (fun I4 L4 f4 => ?_)
          conv => whnf
          refine Fx165 (fun x5 I5 L5 f5 => ?_)
          conv => whnf
          exact hk _ _ _ (fr_then (by decide) (fr_then (by decide) (fr_then (by decide) (fr_then (by decide) (fr_then (by decide) fr_rf f1) f2) f3) f4) f5)
        · conv => whnf
          exact hk _ _ _ (fr_then (by decide) (fr_then (by decide) (fr_then (by decide) fr_rf f1) f2) f3)
      · conv => whnf
        exact hk _ _ _ (fr_then (by decide) (fr_then (by decide) (fr_then (by decide) fr_rf f1) f2) f3)
    · conv => whnf
      exact hk _ _ _ (fr_then (by decide) (fr_then (by decide) fr_rf f1) f2)
set_option maxHeartbeats 4000000 in
set_option maxRecDepth 20000 in
theorem FxL167_7 {d : Nat} {k : jK} {I0 : jI}  : ∀ (n : Nat), (∀ (v1 : Int32) (v2 : Int32) (v3 : Option jV) (v4 : Option jV) (I : jI) (L : jL), fr [32] I0 I → pn (jPM d) k none (jco 167) n (72, [some (.inr (31, 0)), some (.inl (.inl v1)), some (.inl (.inl v2)), v3, v4], [], I, L)) → ∀ (v1 : Int32) (v2 : Int32) (v3 : Int32) (v4 : Option jV) (I : jI) (L : jL), fr [32] I0 I → pn (jPM d) k none (jco 167) n (7, [some (.inr (31, 0)), some (.inl (.inl v1)), some (.inl (.inl v2)), some (.inl (.inl v3)), v4], [], I, L) := by
  intro n
  induction n with
  | zero => intro _ v v v v I L f0; trivial
  | succ n ih =>
    intro hx v1 v2 v3 v4 I L f0
    refine pn_lp [7, 72, 126] 400 ?_
    conv => whnf
    refine ⟨fun _ => ?_, fun _ => ?_⟩
    · conv => whnf
      exact pn_dec n (hx _ _ _ _ _ _ f0)
    · conv => whnf
      intro _
      conv => whnf
      refine ⟨fun _ => ?_, fun _ => ?_⟩
      · conv => whnf
        intro _
        conv => whnf
        intro _
        conv => whnf
        exact ih (fun q0 q1 q2 q3 I L f => pn_dec n (hx q0 q1 q2 q3 I L f)) _ _ _ _ _ _ (fr_up rfl f0)
      · conv => whnf
        intro _
        conv => whnf
        intro _
        conv => whnf
        intro _
        conv => whnf
        exact ih (fun q0 q1 q2 q3 I L f => pn_dec n (hx q0 q1 q2 q3 I L f)) _ _ _ _ _ _ (fr_up rfl f0)
set_option maxHeartbeats 4000000 in
set_option maxRecDepth 20000 in
theorem FxL167_126 {d : Nat} {k : jK} {I0 : jI}  : ∀ (n : Nat), (∀ (v1 : Int32) (v2 : Option jV) (v3 : Int32) (v4 : Option jV) (I : jI) (L : jL), fr [32] I0 I → pn (jPM d) k none (jco 167) n (165, [some (.inr (31, 0)), some (.inl (.inl v1)), v2, some (.inl (.inl v3)), v4], [], I, L)) → ∀ (v1 : Int32) (v2 : Option jV) (v3 : Int32) (v4 : Int32) (I : jI) (L : jL), fr [32] I0 I → pn (jPM d) k none (jco 167) n (126, [some (.inr (31, 0)), some (.inl (.inl v1)), v2, some (.inl (.inl v3)), some (.inl (.inl v4))], [], I, L) := by
  intro n
  induction n with
  | zero => intro _ v v v v I L f0; trivial
  | succ n ih =>
    intro hx v1 v2 v3 v4 I L f0
    refine pn_lp [7, 126, 165] 400 ?_
    conv => whnf
    refine ⟨fun _ => ?_, fun _ => ?_⟩
    · conv => whnf
      exact pn_dec n (hx _ _ _ _ _ _ f0)
    · conv => whnf
      intro _
      conv => whnf
      intro _
      conv => whnf
      exact ih (fun q0 q1 q2 q3 I L f => pn_dec n (hx q0 q1 q2 q3 I L f)) _ _ _ _ _ _ (fr_up rfl f0)
set_option maxHeartbeats 4000000 in
set_option maxRecDepth 20000 in
theorem Fx167 {d : Nat} {k : jK} {a1 : Int32} {I : jI} {L : jL} (hk : ∀ (x : Int32) (I' : jI) (L' : jL), fr [32] I I' → k (some (.inl (.inl x))) (I', L')) : jPM d 167 [.inr (31, 0), .inl (.inl a1)] (I, L) k := by
  refine pM (fun d n => ?_)
  refine pn_go [7, 126] 400 ?_
  conv => whnf
  refine FxL167_7  _ (fun _ _ _ _ I1 L1 f1 => ?_) _ _ _ _ _ _ fr_rf
  refine pn_go [7, 126] 400 ?_
  conv => whnf
  intro _
  conv => whnf
  intro _
  conv => whnf
  intro _
  conv => whnf
  intro _
  conv => whnf
  intro _
  conv => whnf
  intro _
  conv => whnf
  intro _
  conv => whnf
  refine FxL167_126  _ (fun _ _ _ _ I2 L2 f2 => ?_) _ _ _ _ _ _ fr_rf
  refine pn_go [7, 126] 400 ?_
  conv => whnf
  intro _
  conv => whnf
  intro _
  conv => whnf
  intro _
  conv => whnf
  exact hk _ _ _ (fr_up rfl (fr_up rfl (fr_then (by decide) (fr_up rfl (fr_up rfl (fr_up rfl (fr_then (by decide) fr_rf f1)))) f2)))
set_option maxHeartbeats 4000000 in
set_option maxRecDepth 20000 in
theorem Fx168 {d : Nat} {k : jK} {I : jI} {L : jL} (hk : ∀ (x : Int32) (I' : jI) (L' : jL), fr [32] I I' → k (some (.inl (.inl x))) (I', L')) : jPM d 168 [.inr (31, 0)] (I, L) k := by
  refine pM (fun d n => ?_)
  refine pn_go [] 400 ?_
  conv => whnf
  refine ⟨fun _ => ?_, fun _ => ?_⟩
  · conv => whnf
    intro _
    conv => whnf
    refine ⟨fun _ => ?_, fun _ => ?_⟩
    · conv => whnf
      refine Fx163 (fun I1 L1 f1 => ?_)
      conv => whnf
      refine Fx167 (fun x2 I2 L2 f2 => ?_)
      conv => whnf
      exact hk _ _ _ (fr_then (by decide) (fr_then (by decide) fr_rf f1) f2)
    · conv => whnf
      exact hk _ _ _ fr_rf
  · conv => whnf
    exact hk _ _ _ fr_rf
set_option maxHeartbeats 4000000 in
set_option maxRecDepth 20000 in
theorem Fx169 {d : Nat} {k : jK} {a1 : Int32} {I : jI} {L : jL} (hk : ∀ (x : Int32) (I' : jI) (L' : jL), fr [32] I I' → k (some (.inl (.inl x))) (I', L')) : jPM d 169 [.inr (31, 0), .inl (.inl a1)] (I, L) k := by
  refine pM (fun d n => ?_)
  refine pn_go [] 400 ?_
  conv => whnf
  refine Fx151 (fun x1 I1 L1 f1 => ?_)
  conv => whnf
  refine ⟨fun _ => ?_, fun _ => ?_⟩
  · conv => whnf
    intro _
    conv => whnf
    refine ⟨fun _ => ?_, fun _ => ?_⟩
    · conv => whnf
      intro _
      conv => whnf
      refine ⟨fun _ => ?_, fun _ => ?_⟩
      · conv => whnf
        refine Fx163 (fun I2 L2 f2 => ?_)
        conv => whnf
        intro _
        conv => whnf
        intro _
        conv => whnf
        intro _
        conv => whnf
        exact hk _ _ _ (fr_up rfl (fr_then (by decide) (fr_then (by decide) fr_rf f1) f2))
      · conv => whnf
        exact hk _ _ _ (fr_then (by decide) fr_rf f1)
    · conv => whnf
      exact hk _ _ _ (fr_then (by decide) fr_rf f1)
  · conv => whnf
    exact hk _ _ _ (fr_then (by decide) fr_rf f1)
set_option maxHeartbeats 4000000 in
set_option maxRecDepth 20000 in
theorem Fx170 {d : Nat} {k : jK} {a1 : Int32} {a2 : Int32} {I : jI} {L : jL} (hk : ∀ (x : Int32) (I' : jI) (L' : jL), fr [32] I I' → k (some (.inl (.inl x))) (I', L')) : jPM d 170 [.inr (31, 0), .inl (.inl a1), .inl (.inl a2)] (I, L) k := by
  refine pM (fun d n => ?_)
  refine pn_go [] 400 ?_
  conv => whnf
  intro _
  conv => whnf
  refine ⟨fun _ => ?_, fun _ => ?_⟩
  · conv => whnf
    intro _
    conv => whnf
    refine ⟨fun _ => ?_, fun _ => ?_⟩
    · conv => whnf
      refine Fx163 (fun I1 L1 f1 => ?_)
      conv => whnf
      intro _
      conv => whnf
      intro _
      conv => whnf
      exact hk _ _ _ (fr_up rfl (fr_then (by decide) fr_rf f1))
    · conv => whnf
      exact hk _ _ _ fr_rf
  · conv => whnf
    exact hk _ _ _ fr_rf
set_option maxHeartbeats 4000000 in
set_option maxRecDepth 20000 in
theorem Fx171 {d : Nat} {k : jK} {a1 : Int32} {a2 : Int32} {I : jI} {L : jL} (hk : ∀ (x : Int32) (I' : jI) (L' : jL), fr [32] I I' → k (some (.inl (.inl x))) (I', L')) : jPM d 171 [.inr (31, 0), .inl (.inl a1), .inl (.inl a2)] (I, L) k := by
  refine pM (fun d n => ?_)
  refine pn_go [] 400 ?_
  conv => whnf
  refine Fx151 (fun x1 I1 L1 f1 => ?_)
  conv => whnf
  refine ⟨fun _ => ?_, fun _ => ?_⟩
  · conv => whnf
    exact hk _ _ _ (fr_then (by decide) fr_rf f1)
  · conv => whnf
    refine Fx124 (fun x2 I2 L2 f2 => ?_)
    conv => whnf
    refine ⟨fun _ => ?_, fun _ => ?_⟩
    · conv => whnf
      exact hk _ _ _ (fr_then (by decide) (fr_then (by decide) fr_rf f1) f2)
    · conv => whnf
      refine Fx170 (fun x3 I3 L3 f3 => ?_)
      conv => whnf
      exact hk _ _ _ (fr_then (by decide) (fr_then (by decide) (fr_then (by decide) fr_rf f1) f2) f3)
set_option maxHeartbeats 4000000 in
set_option maxRecDepth 20000 in
theorem Fx172 {d : Nat} {k : jK} {a1 : Int32} {I : jI} {L : jL} (hk : ∀ (x : Int32) (I' : jI) (L' : jL), fr [32] I I' → k (some (.inl (.inl x))) (I', L')) : jPM d 172 [.inr (31, 0), .inl (.inl a1)] (I, L) k := by
  refine pM (fun d n => ?_)
  refine pn_go [] 400 ?_
  conv => whnf
  refine Fx124 (fun x1 I1 L1 f1 => ?_)
  conv => whnf
  refine ⟨fun _ => ?_, fun _ => ?_⟩
  · conv => whnf
    refine ⟨fun _ => ?_, fun _ => ?_⟩
    · conv => whnf
      refine Fx170 (fun x2 I2 L2 f2 => ?_)
      conv => whnf
      refine ⟨fun _ => ?_, fun _ => ?_⟩
      · conv => whnf
        exact hk _ _ _ (fr_then (by decide) (fr_then (by decide) fr_rf f1) f2)
      · conv => whnf
        exact hk _ _ _ (fr_then (by decide) (fr_then (by decide) fr_rf f1) f2)
    · conv => whnf
      exact hk _ _ _ (fr_then (by decide) fr_rf f1)
  · conv => whnf
    exact hk _ _ _ (fr_then (by decide) fr_rf f1)
set_option maxHeartbeats 4000000 in
set_option maxRecDepth 20000 in
theorem FxL173_29 {d : Nat} {k : jK} {I0 : jI}  : ∀ (n : Nat), (∀ (v1 : Int32) (v2 : Int32) (v3 : Option jV) (I : jI) (L : jL), fr [32] I0 I → pn (jPM d) k none (jco 173) n (67, [some (.inr (31, 0)), some (.inl (.inl v1)), some (.inl (.inl v2)), v3], [], I, L)) → ∀ (v1 : Int32) (v2 : Int32) (v3 : Int32) (I : jI) (L : jL), fr [32] I0 I → pn (jPM d) k none (jco 173) n (29, [some (.inr (31, 0)), some (.inl (.inl v1)), some (.inl (.inl v2)), some (.inl (.inl v3))], [], I, L) := by
  intro n
  induction n with
  | zero => intro _ v v v I L f0; trivial
  | succ n ih =>
    intro hx v1 v2 v3 I L f0
    refine pn_lp [29, 67] 400 ?_
    conv => whnf
    refine ⟨fun _ => ?_, fun _ => ?_⟩
    · conv => whnf
      exact pn_dec n (hx _ _ _ _ _ f0)
    · conv => whnf
      refine ⟨fun _ => ?_, fun _ => ?_⟩
      · conv => whnf
        exact pn_dec n (hx _ _ _ _ _ f0)
      · conv => whnf
        intro _
        conv => whnf
        intro _
        conv => whnf
        exact ih (fun q0 q1 q2 I L f => pn_dec n (hx q0 q1 q2 I L f)) _ _ _ _ _ (fr_up rfl f0)
set_option maxHeartbeats 4000000 in
set_option maxRecDepth 20000 in
theorem Fx173 {d : Nat} {k : jK} {a1 : Int32} {I : jI} {L : jL} (hk : ∀ (x : Int32) (I' : jI) (L' : jL), fr [32] I I' → k (some (.inl (.inl x))) (I', L')) : jPM d 173 [.inr (31, 0), .inl (.inl a1)] (I, L) k := by
  refine pM (fun d n => ?_)
  refine pn_go [29] 400 ?_
  conv => whnf
  intro _
  conv => whnf
  refine Fx124 (fun x1 I1 L1 f1 => ?_)
  conv => whnf
  refine ⟨fun _ => ?_, fun _ => ?_⟩
  · conv => whnf
    intro _
    conv => whnf
    refine FxL173_29  _ (fun _ _ _ I2 L2 f2 => ?_) _ _ _ _ _ fr_rf
    refine pn_go [29] 400 ?_
    conv => whnf
    intro _
    conv => whnf
    exact hk _ _ _ (fr_up rfl (fr_then (by decide) (fr_then (by decide) fr_rf f1) f2))
  · conv => whnf
    exact hk _ _ _ (fr_then (by decide) fr_rf f1)
set_option maxHeartbeats 4000000 in
set_option maxRecDepth 20000 in
theorem FxL174_2 {d : Nat} {k : jK} {I0 : jI}  : ∀ (n : Nat), (∀ (v0 : Option jV) (v1 : Option jV) (v2 : Option jV) (v3 : Option jV) (I : jI) (L : jL), fr [32] I0 I → pn (jPM d) k none (jco 174) n (31, [v0, v1, v2, v3], [], I, L)) → ∀ (v1 : Int32) (v2 : Int32) (v3 : Int32) (I : jI) (L : jL), fr [32] I0 I → pn (jPM d) k none (jco 174) n (2, [some (.inr (31, 0)), some (.inl (.inl v1)), some (.inl (.inl v2)), some (.inl (.inl v3))], [], I, L) := by
  intro n
  induction n with
  | zero => intro _ v v v I L f0; trivial
  | succ n ih =>
    intro hx v1 v2 v3 I L f0
    refine pn_lp [2, 31] 400 ?_
    conv => whnf
    refine ⟨fun _ => ?_, fun _ => ?_⟩
    · conv => whnf
      exact pn_dec n (hx _ _ _ _ _ _ f0)
    · conv => whnf
      intro _
      conv => whnf
      intro _
      conv => whnf
      exact ih (fun q0 q1 q2 q3 I L f => pn_dec n (hx q0 q1 q2 q3 I L f)) _ _ _ _ _ (fr_up rfl f0)
set_option maxHeartbeats 4000000 in
set_option maxRecDepth 20000 in
theorem Fx174 {d : Nat} {k : jK} {a1 : Int32} {a2 : Int32} {I : jI} {L : jL} (hk : ∀ (I' : jI) (L' : jL), fr [32] I I' → k none (I', L')) : jPM d 174 [.inr (31, 0), .inl (.inl a1), .inl (.inl a2)] (I, L) k := by
  refine pM (fun d n => ?_)
  refine pn_go [2] 400 ?_
  conv => whnf
  refine FxL174_2  _ (fun _ _ _ _ I1 L1 f1 => ?_) _ _ _ _ _ fr_rf
  refine pn_go [2] 400 ?_
  conv => whnf
  exact hk _ _ (fr_then (by decide) fr_rf f1)
set_option maxHeartbeats 4000000 in
set_option maxRecDepth 20000 in
theorem Fx175 {d : Nat} {k : jK} {a1 : Int32} {I : jI} {L : jL} (hk : ∀ (x : Int32) (I' : jI) (L' : jL), fr [32] I I' → k (some (.inl (.inl x))) (I', L')) : jPM d 175 [.inr (31, 0), .inl (.inl a1)] (I, L) k := by
  refine pM (fun d n => ?_)
  refine pn_go [] 400 ?_
  conv => whnf
  refine Fx124 (fun x1 I1 L1 f1 => ?_)
  conv => whnf
  refine ⟨fun _ => ?_, fun _ => ?_⟩
  · conv => whnf
    refine ⟨fun _ => ?_, fun _ => ?_⟩
    · conv => whnf
      refine Fx174 (fun I2 L2 f2 => ?_)
      conv => whnf
      intro _
      conv => whnf
      exact hk _ _ _ (fr_then (by decide) (fr_then (by decide) fr_rf f1) f2)
    · conv => whnf
      exact hk _ _ _ (fr_then (by decide) fr_rf f1)
  · conv => whnf
    exact hk _ _ _ (fr_then (by decide) fr_rf f1)
set_option maxHeartbeats 4000000 in
set_option maxRecDepth 20000 in
theorem Fx176 {d : Nat} {k : jK} {a1 : Int32} {I : jI} {L : jL} (hk : ∀ (x : Int32) (I' : jI) (L' : jL), fr [32, 39, 32013] I I' → k (some (.inl (.inl x))) (I', L')) : jPM d 176 [.inr (31, 0), .inl (.inl a1)] (I, L) k := by
  refine pM (fun d n => ?_)
  refine pn_go [] 400 ?_
  conv => whnf
  refine Fx124 (fun x1 I1 L1 f1 => ?_)
  conv => whnf
  refine ⟨fun _ => ?_, fun _ => ?_⟩
  · conv => whnf
    intro _
    conv => whnf
    refine ⟨fun _ => ?_, fun _ => ?_⟩
    · conv => whnf
      refine Fx174 (fun I2 L2 f2 => ?_)
      conv => whnf
      intro _
      conv => whnf
      exact hk _ _ _ (fr_then (by decide) (fr_then (by decide) fr_rf f1) f2)
    · conv => whnf
      refine Fx126 (fun x3 I3 L3 f3 => ?_)
      conv => whnf
      exact hk _ _ _ (fr_then (by decide) (fr_then (by decide) fr_rf f1) f3)
  · conv => whnf
    exact hk _ _ _ (fr_then (by decide) fr_rf f1)
