set_option maxHeartbeats 4000000 in
set_option maxRecDepth 20000 in
theorem Fx213 {d : Nat} {k : jK} {a1 : Int32} {I : jI} {L : jL} (hk : ∀ (x : Int32) (I' : jI) (L' : jL), fr [] I I' → k (some (.inl (.inl x))) (I', L')) : jPM d 213 [.inr (31, 0), .inl (.inl a1)] (I, L) k := by
  refine pM (fun d n => ?_)
  refine pn_go [] 400 ?_
  conv => whnf
  refine And.intro (fun _ => ?_) (fun _ => ?_)
  · conv => whnf
    exact hk _ _ _ fr_rf
  refine jsw_cons (fun _ => ?_) (fun _ => ?_)
  · conv => whnf
    intro _
    conv => whnf
    exact hk _ _ _ fr_rf
  refine jsw_cons (fun _ => ?_) (fun _ => ?_)
  · conv => whnf
    intro _
    conv => whnf
    exact hk _ _ _ fr_rf
  refine jsw_cons (fun _ => ?_) (fun _ => ?_)
  · conv => whnf
    intro _
    conv => whnf
    exact hk _ _ _ fr_rf
  refine jsw_cons (fun _ => ?_) (fun _ => ?_)
  · conv => whnf
    refine Fx162 (fun x1 I1 L1 f1 => ?_)
    conv => whnf
    exact hk _ _ _ (fr_then (by decide) fr_rf f1)
  refine jsw_cons (fun _ => ?_) (fun _ => ?_)
  · conv => whnf
    intro _
    conv => whnf
    exact hk _ _ _ fr_rf
  refine jsw_cons (fun _ => ?_) (fun _ => ?_)
  · conv => whnf
    intro _
    conv => whnf
    exact hk _ _ _ fr_rf
  refine jsw_cons (fun _ => ?_) (fun _ => ?_)
  · conv => whnf
    intro _
    conv => whnf
    exact hk _ _ _ fr_rf
  refine jsw_cons (fun _ => ?_) (fun _ => ?_)
  · conv => whnf
    intro _
    conv => whnf
    exact hk _ _ _ fr_rf
  refine jsw_cons (fun _ => ?_) (fun _ => ?_)
  · conv => whnf
    refine Fx211 (fun x2 I2 L2 f2 => ?_)
    conv => whnf
    exact hk _ _ _ (fr_then (by decide) fr_rf f2)
  refine jsw_cons (fun _ => ?_) (fun _ => ?_)
  · conv => whnf
    refine Fx211 (fun x3 I3 L3 f3 => ?_)
    conv => whnf
    exact hk _ _ _ (fr_then (by decide) fr_rf f3)
  refine jsw_cons (fun _ => ?_) (fun _ => ?_)
  · conv => whnf
    refine Fx212 (fun x4 I4 L4 f4 => ?_)
    conv => whnf
    exact hk _ _ _ (fr_then (by decide) fr_rf f4)
  refine jsw_cons (fun _ => ?_) (fun _ => ?_)
  · conv => whnf
    refine Fx212 (fun x5 I5 L5 f5 => ?_)
    conv => whnf
    exact hk _ _ _ (fr_then (by decide) fr_rf f5)
  refine jsw_cons (fun _ => ?_) (fun _ => ?_)
  · conv => whnf
    refine Fx212 (fun x6 I6 L6 f6 => ?_)
    conv => whnf
    exact hk _ _ _ (fr_then (by decide) fr_rf f6)
  refine jsw_cons (fun _ => ?_) (fun _ => ?_)
  · conv => whnf
    exact hk _ _ _ fr_rf
  refine jsw_cons (fun _ => ?_) (fun _ => ?_)
  · conv => whnf
    exact hk _ _ _ fr_rf
  refine jsw_nil ?_
  conv => whnf
  refine Fx212 (fun x7 I7 L7 f7 => ?_)
  conv => whnf
  exact hk _ _ _ (fr_then (by decide) fr_rf f7)
set_option maxHeartbeats 4000000 in
set_option maxRecDepth 20000 in
theorem Fx214 {d : Nat} {k : jK} {a1 : Int32} {I : jI} {L : jL} (hk : ∀ (x : Int32) (I' : jI) (L' : jL), fr [] I I' → k (some (.inl (.inl x))) (I', L')) : jPM d 214 [.inr (31, 0), .inl (.inl a1)] (I, L) k := by
  refine pM (fun d n => ?_)
  refine pn_go [] 400 ?_
  conv => whnf
  refine Fx124 (fun x1 I1 L1 f1 => ?_)
  conv => whnf
  refine ⟨fun _ => ?_, fun _ => ?_⟩
  · conv => whnf
    exact hk _ _ _ (fr_then (by decide) fr_rf f1)
  · conv => whnf
    refine Fx213 (fun x2 I2 L2 f2 => ?_)
    conv => whnf
    exact hk _ _ _ (fr_then (by decide) (fr_then (by decide) fr_rf f1) f2)
set_option maxHeartbeats 4000000 in
set_option maxRecDepth 20000 in
theorem Fx215 {d : Nat} {k : jK} {I : jI} {L : jL} (hk : ∀ (x : Int32) (I' : jI) (L' : jL), fr [] I I' → k (some (.inl (.inl x))) (I', L')) : jPM d 215 [.inr (31, 0)] (I, L) k := by
  refine pM (fun d n => ?_)
  refine pn_go [] 400 ?_
  conv => whnf
  exact hk _ _ _ fr_rf
set_option maxHeartbeats 4000000 in
set_option maxRecDepth 20000 in
theorem Fx216 {d : Nat} {k : jK} {a1 : Int32} {I : jI} {L : jL} (hk : ∀ (x : Int32) (I' : jI) (L' : jL), fr [] I I' → k (some (.inl (.inl x))) (I', L')) : jPM d 216 [.inr (31, 0), .inl (.inl a1)] (I, L) k := by
  refine pM (fun d n => ?_)
  refine pn_go [] 400 ?_
  conv => whnf
  refine Fx124 (fun x1 I1 L1 f1 => ?_)
  conv => whnf
  refine ⟨fun _ => ?_, fun _ => ?_⟩
  · conv => whnf
    exact hk _ _ _ (fr_then (by decide) fr_rf f1)
  · conv => whnf
    intro _
    conv => whnf
    exact hk _ _ _ (fr_then (by decide) fr_rf f1)
set_option maxHeartbeats 4000000 in
set_option maxRecDepth 20000 in
theorem FxL217_6 {d : Nat} {k : jK} {I0 : jI}  : ∀ (n : Nat), (∀ (v1 : Int64) (v3 : Option jV) (v4 : Option jV) (I : jI) (L : jL), fr [] I0 I → pn (jPM d) k none (jco 217) n (31, [some (.inr (31, 0)), some (.inl (.inr v1)), none, v3, v4], [], I, L)) → ∀ (v1 : Int64) (v3 : Int32) (v4 : Option jV) (I : jI) (L : jL), fr [] I0 I → pn (jPM d) k none (jco 217) n (6, [some (.inr (31, 0)), some (.inl (.inr v1)), none, some (.inl (.inl v3)), v4], [], I, L) := by
  intro n
  induction n with
  | zero => intro _ v v v I L f0; trivial
  | succ n ih =>
    intro hx v1 v3 v4 I L f0
    refine pn_lp [6, 31, 33, 64, 103, 136, 159, 204, 226] 400 ?_
    conv => whnf
    refine ⟨fun _ => ?_, fun _ => ?_⟩
    · conv => whnf
      exact pn_dec n (hx _ _ _ _ _ f0)
    · conv => whnf
      refine Fx213 (fun x1 I1 L1 f1 => ?_)
      conv => whnf
      exact ih (fun q0 q1 q2 I L f => pn_dec n (hx q0 q1 q2 I L f)) _ _ _ _ _ (fr_then (by decide) f0 f1)
set_option maxHeartbeats 4000000 in
set_option maxRecDepth 20000 in
theorem FxL217_33 {d : Nat} {k : jK} {I0 : jI}  : ∀ (n : Nat), (∀ (v1 : Int64) (v3 : Option jV) (v4 : Option jV) (I : jI) (L : jL), fr [] I0 I → pn (jPM d) k none (jco 217) n (62, [some (.inr (31, 0)), some (.inl (.inr v1)), none, v3, v4], [], I, L)) → ∀ (v1 : Int64) (v3 : Int32) (v4 : Option jV) (I : jI) (L : jL), fr [] I0 I → pn (jPM d) k none (jco 217) n (33, [some (.inr (31, 0)), some (.inl (.inr v1)), none, some (.inl (.inl v3)), v4], [], I, L) := by
  intro n
  induction n with
  | zero => intro _ v v v I L f0; trivial
  | succ n ih =>
    intro hx v1 v3 v4 I L f0
    refine pn_lp [6, 33, 62, 64, 103, 136, 159, 204, 226] 400 ?_
    conv => whnf
    refine ⟨fun _ => ?_, fun _ => ?_⟩
    · conv => whnf
      exact pn_dec n (hx _ _ _ _ _ f0)
    · conv => whnf
      intro _
      conv => whnf
      exact ih (fun q0 q1 q2 I L f => pn_dec n (hx q0 q1 q2 I L f)) _ _ _ _ _ f0
set_option maxHeartbeats 4000000 in
set_option maxRecDepth 20000 in
theorem FxL217_64 {d : Nat} {k : jK} {I0 : jI}  : ∀ (n : Nat), (∀ (v1 : Int64) (v3 : Option jV) (v4 : Option jV) (I : jI) (L : jL), fr [] I0 I → pn (jPM d) k none (jco 217) n (101, [some (.inr (31, 0)), some (.inl (.inr v1)), none, v3, v4], [], I, L)) → ∀ (v1 : Int64) (v3 : Int32) (v4 : Option jV) (I : jI) (L : jL), fr [] I0 I → pn (jPM d) k none (jco 217) n (64, [some (.inr (31, 0)), some (.inl (.inr v1)), none, some (.inl (.inl v3)), v4], [], I, L) := by
  intro n
  induction n with
  | zero => intro _ v v v I L f0; trivial
  | succ n ih =>
    intro hx v1 v3 v4 I L f0
    refine pn_lp [6, 33, 64, 101, 103, 136, 159, 204, 226] 400 ?_
    conv => whnf
    refine ⟨fun _ => ?_, fun _ => ?_⟩
    · conv => whnf
      exact pn_dec n (hx _ _ _ _ _ f0)
    · conv => whnf
      intro _
      conv => whnf
      intro _
      conv => whnf
      refine Fx157 (fun x1 I1 L1 f1 => ?_)
      conv => whnf
      exact ih (fun q0 q1 q2 I L f => pn_dec n (hx q0 q1 q2 I L f)) _ _ _ _ _ (fr_then (by decide) f0 f1)
set_option maxHeartbeats 4000000 in
set_option maxRecDepth 20000 in
theorem FxL217_103 {d : Nat} {k : jK} {I0 : jI}  : ∀ (n : Nat), (∀ (v1 : Int64) (v3 : Option jV) (v4 : Option jV) (I : jI) (L : jL), fr [] I0 I → pn (jPM d) k none (jco 217) n (134, [some (.inr (31, 0)), some (.inl (.inr v1)), none, v3, v4], [], I, L)) → ∀ (v1 : Int64) (v3 : Int32) (v4 : Option jV) (I : jI) (L : jL), fr [] I0 I → pn (jPM d) k none (jco 217) n (103, [some (.inr (31, 0)), some (.inl (.inr v1)), none, some (.inl (.inl v3)), v4], [], I, L) := by
  intro n
  induction n with
  | zero => intro _ v v v I L f0; trivial
  | succ n ih =>
    intro hx v1 v3 v4 I L f0
    refine pn_lp [6, 33, 64, 103, 134, 136, 159, 204, 226] 400 ?_
    conv => whnf
    refine ⟨fun _ => ?_, fun _ => ?_⟩
    · conv => whnf
      exact pn_dec n (hx _ _ _ _ _ f0)
    · conv => whnf
      intro _
      conv => whnf
      exact ih (fun q0 q1 q2 I L f => pn_dec n (hx q0 q1 q2 I L f)) _ _ _ _ _ f0
set_option maxHeartbeats 4000000 in
set_option maxRecDepth 20000 in
theorem FxL217_159 {d : Nat} {k : jK} {I0 : jI}  : ∀ (n : Nat), (∀ (v1 : Int64) (v3 : Int32) (v4 : Option jV) (I : jI) (L : jL), fr [] I0 I → pn (jPM d) k none (jco 217) n (196, [some (.inr (31, 0)), some (.inl (.inr v1)), none, some (.inl (.inl v3)), v4], [], I, L)) → ∀ (v1 : Int64) (v3 : Int32) (v4 : Int32) (I : jI) (L : jL), fr [] I0 I → pn (jPM d) k none (jco 217) n (159, [some (.inr (31, 0)), some (.inl (.inr v1)), none, some (.inl (.inl v3)), some (.inl (.inl v4))], [], I, L) := by
  intro n
  induction n with
  | zero => intro _ v v v I L f0; trivial
  | succ n ih =>
    intro hx v1 v3 v4 I L f0
    refine pn_lp [6, 33, 64, 103, 136, 159, 196, 204, 226] 400 ?_
    conv => whnf
    intro _
    conv => whnf
    refine ⟨fun _ => ?_, fun _ => ?_⟩
    · conv => whnf
      exact pn_dec n (hx _ _ _ _ _ f0)
    · conv => whnf
      intro _
      conv => whnf
      exact ih (fun q0 q1 q2 I L f => pn_dec n (hx q0 q1 q2 I L f)) _ _ _ _ _ f0
set_option maxHeartbeats 4000000 in
set_option maxRecDepth 20000 in
theorem FxL217_136 {d : Nat} {k : jK} {I0 : jI}  : ∀ (n : Nat), (∀ (v1 : Int64) (v3 : Option jV) (v4 : Option jV) (I : jI) (L : jL), fr [] I0 I → pn (jPM d) k none (jco 217) n (202, [some (.inr (31, 0)), some (.inl (.inr v1)), none, v3, v4], [], I, L)) → ∀ (v1 : Int64) (v3 : Int32) (v4 : Option jV) (I : jI) (L : jL), fr [] I0 I → pn (jPM d) k none (jco 217) n (136, [some (.inr (31, 0)), some (.inl (.inr v1)), none, some (.inl (.inl v3)), v4], [], I, L) := by
  intro n
  induction n with
  | zero => intro _ v v v I L f0; trivial
  | succ n ih =>
    intro hx v1 v3 v4 I L f0
    refine pn_lp [6, 33, 64, 103, 136, 159, 202, 204, 226] 400 ?_
    conv => whnf
    refine ⟨fun _ => ?_, fun _ => ?_⟩
    · conv => whnf
      exact pn_dec n (hx _ _ _ _ _ f0)
    · conv => whnf
      intro _
      conv => whnf
      refine FxL217_159  _ (fun _ _ _ I1 L1 f1 => ?_) _ _ _ _ _ fr_rf
      refine pn_go [6, 33, 64, 103, 136, 159, 202, 204, 226] 400 ?_
      conv => whnf
      exact ih (fun q0 q1 q2 I L f => pn_dec n (hx q0 q1 q2 I L f)) _ _ _ _ _ (fr_then (by decide) f0 f1)
set_option maxHeartbeats 4000000 in
set_option maxRecDepth 20000 in
theorem FxL217_226 {d : Nat} {k : jK} {I0 : jI}  : ∀ (n : Nat), (∀ (v1 : Int64) (v3 : Int32) (v4 : Option jV) (I : jI) (L : jL), fr [] I0 I → pn (jPM d) k none (jco 217) n (263, [some (.inr (31, 0)), some (.inl (.inr v1)), none, some (.inl (.inl v3)), v4], [], I, L)) → ∀ (v1 : Int64) (v3 : Int32) (v4 : Int32) (I : jI) (L : jL), fr [] I0 I → pn (jPM d) k none (jco 217) n (226, [some (.inr (31, 0)), some (.inl (.inr v1)), none, some (.inl (.inl v3)), some (.inl (.inl v4))], [], I, L) := by
  intro n
  induction n with
  | zero => intro _ v v v I L f0; trivial
  | succ n ih =>
    intro hx v1 v3 v4 I L f0
    refine pn_lp [6, 33, 64, 103, 136, 159, 204, 226, 263] 400 ?_
    conv => whnf
    intro _
    conv => whnf
    refine ⟨fun _ => ?_, fun _ => ?_⟩
    · conv => whnf
      exact pn_dec n (hx _ _ _ _ _ f0)
    · conv => whnf
      intro _
      conv => whnf
      exact ih (fun q0 q1 q2 I L f => pn_dec n (hx q0 q1 q2 I L f)) _ _ _ _ _ f0
set_option maxHeartbeats 4000000 in
set_option maxRecDepth 20000 in
theorem FxL217_204 {d : Nat} {k : jK} {I0 : jI}  : ∀ (n : Nat), (∀ (v0 : Option jV) (v1 : Int64) (v3 : Option jV) (v4 : Option jV) (I : jI) (L : jL), fr [] I0 I → pn (jPM d) k none (jco 217) n (269, [v0, some (.inl (.inr v1)), none, v3, v4], [], I, L)) → ∀ (v1 : Int64) (v3 : Int32) (v4 : Option jV) (I : jI) (L : jL), fr [] I0 I → pn (jPM d) k none (jco 217) n (204, [some (.inr (31, 0)), some (.inl (.inr v1)), none, some (.inl (.inl v3)), v4], [], I, L) := by
  intro n
  induction n with
  | zero => intro _ v v v I L f0; trivial
  | succ n ih =>
    intro hx v1 v3 v4 I L f0
    refine pn_lp [6, 33, 64, 103, 136, 159, 204, 226, 269] 400 ?_
    conv => whnf
    refine ⟨fun _ => ?_, fun _ => ?_⟩
    · conv => whnf
      exact pn_dec n (hx _ _ _ _ _ _ f0)
    · conv => whnf
      intro _
      conv => whnf
      refine FxL217_226  _ (fun _ _ _ I1 L1 f1 => ?_) _ _ _ _ _ fr_rf
      refine pn_go [6, 33, 64, 103, 136, 159, 204, 226, 269] 400 ?_
      conv => whnf
      exact ih (fun q0 q1 q2 q3 I L f => pn_dec n (hx q0 q1 q2 q3 I L f)) _ _ _ _ _ (fr_then (by decide) f0 f1)
set_option maxHeartbeats 4000000 in
set_option maxRecDepth 20000 in
theorem Fx217 {d : Nat} {k : jK} {I : jI} {L : jL} (hk : ∀ (x : Int64) (I' : jI) (L' : jL), fr [] I I' → k (some (.inl (.inr x))) (I', L')) : jPM d 217 [.inr (31, 0)] (I, L) k := by
  refine pM (fun d n => ?_)
  refine pn_go [6, 33, 64, 103, 136, 159, 204, 226] 400 ?_
  conv => whnf
  refine FxL217_6  _ (fun _ _ _ I1 L1 f1 => ?_) _ _ _ _ _ fr_rf
  refine pn_go [6, 33, 64, 103, 136, 159, 204, 226] 400 ?_
  conv => whnf
  refine FxL217_33  _ (fun _ _ _ I2 L2 f2 => ?_) _ _ _ _ _ fr_rf
  refine pn_go [6, 33, 64, 103, 136, 159, 204, 226] 400 ?_
  conv => whnf
  refine FxL217_64  _ (fun _ _ _ I3 L3 f3 => ?_) _ _ _ _ _ fr_rf
  refine pn_go [6, 33, 64, 103, 136, 159, 204, 226] 400 ?_
  conv => whnf
  refine FxL217_103  _ (fun _ _ _ I4 L4 f4 => ?_) _ _ _ _ _ fr_rf
  refine pn_go [6, 33, 64, 103, 136, 159, 204, 226] 400 ?_
  conv => whnf
  refine FxL217_136  _ (fun _ _ _ I5 L5 f5 => ?_) _ _ _ _ _ fr_rf
  refine pn_go [6, 33, 64, 103, 136, 159, 204, 226] 400 ?_
  conv => whnf
  refine FxL217_204  _ (fun _ _ _ _ I6 L6 f6 => ?_) _ _ _ _ _ fr_rf
  refine pn_go [6, 33, 64, 103, 136, 159, 204, 226] 400 ?_
  conv => whnf
  exact hk _ _ _ (fr_then (by decide) (fr_then (by decide) (fr_then (by decide) (fr_then (by decide) (fr_then (by decide) (fr_then (by decide) fr_rf f1) f2) f3) f4) f5) f6)
