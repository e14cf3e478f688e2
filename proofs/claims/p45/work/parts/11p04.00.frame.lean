section
/-! printed by program: which cells a method leaves as they are (partially): arrays by group, fields one by one -/
noncomputable def jcd (g j : Nat) : Nat := match g with
  | 0 => 1000 + j
  | 3 => 4000 + j
  | 4 => 5000 + j
  | 9 => 10000 + j
  | 31 => 32000 + j
  | _ => g
noncomputable def fr (W : List Nat) (I I' : jI) : Prop := ∀ g i j, jel (jcd g j) W = false → I' g i j = I g i j
theorem fr_rf {W : List Nat} {I : jI} : fr W I I := fun _ _ _ _ => rfl
theorem fr_up {W : List Nat} {I I' : jI} {g0 i0 j0 : Nat} {v : Int32} (h0 : jel (jcd g0 j0) W = true) (h : fr W I I') : fr W I (jup I' g0 i0 j0 v) := fun g i j hg => by
  rw [← h g i j hg]
  unfold jup
  refine if_neg (fun q => ?_)
  rw [q.1, q.2.2, h0] at hg
  cases hg
theorem fr_cp {W : List Nat} {I I' : jI} {g0 i0 g1 i1 sp dp n : Nat} (h0 : ∀ j, jel (jcd g1 j) W = true) (h : fr W I I') : fr W I (jcpy I' g0 i0 g1 i1 sp dp n) := fun g i j hg => by
  rw [← h g i j hg]
  unfold jcpy
  refine if_neg (fun q => ?_)
  rw [q.1, h0] at hg
  cases hg
theorem jel_mem {g : Nat} : ∀ {W : List Nat}, jel g W = true → g ∈ W
  | [], h => by cases h
  | a :: t, h => by
    unfold jel at h
    split at h
    · rename_i e
      rw [Nat.eq_of_beq_eq_true e]
      exact List.mem_cons_self
    · exact List.mem_cons_of_mem _ (jel_mem h)
theorem fr_then {W W' : List Nat} {I I' I'' : jI} (hs : W'.all (fun g => jel g W) = true) (h : fr W I I') (h' : fr W' I' I'') : fr W I I'' := fun g i j hg => by
  rw [← h g i j hg]
  refine h' g i j ?_
  cases e : jel (jcd g j) W' with
  | false => rfl
  | true =>
    have := List.all_eq_true.mp hs _ (jel_mem e)
    rw [this] at hg
    cases hg
theorem fr_arr {W : List Nat} {I I' : jI} {g : Nat} (h : fr W I I') (hg : ∀ j, jcd g j = g) (hw : jel g W = false) : I' g = I g := by
  funext i j
  exact h g i j (by rw [hg]; exact hw)
set_option maxHeartbeats 4000000 in
set_option maxRecDepth 20000 in
theorem Fx113 {d : Nat} {k : jK} {a1 : Int32} {I : jI} {L : jL} (hk : ∀ (x : Int32) (I' : jI) (L' : jL), fr [12, 1013] I I' → k (some (.inl (.inl x))) (I', L')) : jPM d 113 [.inr (0, 0), .inl (.inl a1)] (I, L) k := by
  refine pM (fun d n => ?_)
  refine pn_go [] 400 ?_
  conv => whnf
  intro _
  conv => whnf
  intro _
  conv => whnf
  exact hk _ _ _ (fr_up rfl (fr_up rfl fr_rf))
set_option maxHeartbeats 4000000 in
set_option maxRecDepth 20000 in
theorem Fx15g2 {d : Nat} {k : jK} {a1 : Int32} {I : jI} {L : jL} (hk : ∀ (x : Int32) (I' : jI) (L' : jL), fr [] I I' → k (some (.inl (.inl x))) (I', L')) : jPM d 15 [.inr (2, 0), .inl (.inl a1)] (I, L) k := by
  refine pM (fun d n => ?_)
  refine pn_go [] 400 ?_
  conv => whnf
  refine ⟨fun _ => ?_, fun _ => ?_⟩
  · conv => whnf
    exact fun _ => hk _ _ _ fr_rf
  · conv => whnf
    refine ⟨fun _ => ?_, fun _ => ?_⟩
    · conv => whnf
      exact fun _ => hk _ _ _ fr_rf
    · conv => whnf
      exact fun _ => hk _ _ _ fr_rf
set_option maxHeartbeats 4000000 in
set_option maxRecDepth 20000 in
theorem FxL2g30_5 {d : Nat} {k : jK} {y0 : Nat} {I0 : jI}  : ∀ (n : Nat), (∀ (v0 : Option jV) (v1 : Option jV) (v2 : Option jV) (v3 : Option jV) (I : jI) (L : jL), fr [30] I0 I → pn (jPM d) k none (jco 2) n (20, [v0, v1, v2, v3], [], I, L)) → ∀ (v1 : Int32) (v2 : Int32) (v3 : Int32) (I : jI) (L : jL), fr [30] I0 I → pn (jPM d) k none (jco 2) n (5, [some (.inr (30, y0)), some (.inl (.inl v1)), some (.inl (.inl v2)), some (.inl (.inl v3))], [], I, L) := by
  intro n
  induction n with
  | zero => intro _ v v v I L f0; trivial
  | succ n ih =>
    intro hx v1 v2 v3 I L f0
    refine pn_lp [5, 20] 400 ?_
    conv => whnf
    refine ⟨fun _ => ?_, fun _ => ?_⟩
    · conv => whnf
      exact pn_dec n (hx _ _ _ _ _ _ f0)
    · conv => whnf
      intro _
      conv => whnf
      exact ih (fun q0 q1 q2 q3 I L f => pn_dec n (hx q0 q1 q2 q3 I L f)) _ _ _ _ _ (fr_up rfl f0)
set_option maxHeartbeats 4000000 in
set_option maxRecDepth 20000 in
theorem Fx2g30 {d : Nat} {k : jK} {a0 : Nat} {a1 : Int32} {I : jI} {L : jL} (hk : ∀ (I' : jI) (L' : jL), fr [30] I I' → k none (I', L')) : jPM d 2 [.inr (30, a0), .inl (.inl a1)] (I, L) k := by
  refine pM (fun d n => ?_)
  refine pn_go [5] 400 ?_
  conv => whnf
  refine FxL2g30_5  _ (fun _ _ _ _ I1 L1 f1 => ?_) _ _ _ _ _ fr_rf
  refine pn_go [5] 400 ?_
  conv => whnf
  exact hk _ _ (fr_then (by decide) fr_rf f1)
set_option maxHeartbeats 4000000 in
set_option maxRecDepth 20000 in
theorem Fx20g2 {d : Nat} {k : jK} {a1 : Int32} {a2 : Int32} {a3 : Int32} {I : jI} {L : jL} (hk : ∀ (I' : jI) (L' : jL), fr [16, 30] I I' → k none (I', L')) : jPM d 20 [.inr (2, 0), .inl (.inl a1), .inl (.inl a2), .inl (.inl a3)] (I, L) k := by
  refine pM (fun d n => ?_)
  refine pn_go [] 400 ?_
  conv => whnf
  intro _
  conv => whnf
  refine Fx2g30 (fun I1 L1 f1 => ?_)
  conv => whnf
  intro _
  conv => whnf
  exact hk _ _ (fr_up rfl (fr_then (by decide) fr_rf f1))
set_option maxHeartbeats 4000000 in
set_option maxRecDepth 20000 in
theorem Fx74 {d : Nat} {k : jK} {a1 : Int32} {a2 : Int32} {I : jI} {L : jL} (hk : ∀ (x : Int32) (I' : jI) (L' : jL), fr [12, 16, 30, 1013] I I' → k (some (.inl (.inl x))) (I', L')) : jPM d 74 [.inr (0, 0), .inl (.inl a1), .inl (.inl a2)] (I, L) k := by
  refine pM (fun d n => ?_)
  refine pn_go [] 400 ?_
  conv => whnf
  refine Fx15g2 (fun x1 I1 L1 f1 => ?_)
  conv => whnf
  refine ⟨fun _ => ?_, fun _ => ?_⟩
  · conv => whnf
    exact hk _ _ _ (fr_then (by decide) fr_rf f1)
  · conv => whnf
    refine ⟨fun _ => ?_, fun _ => ?_⟩
    · conv => whnf
      refine ⟨fun _ => ?_, fun _ => ?_⟩
      · conv => whnf
        refine Fx20g2 (fun I2 L2 f2 => ?_)
        conv => whnf
        exact hk _ _ _ (fr_then (by decide) (fr_then (by decide) fr_rf f1) f2)
      · conv => whnf
        refine Fx113 (fun x3 I3 L3 f3 => ?_)
        conv => whnf
        exact hk _ _ _ (fr_then (by decide) (fr_then (by decide) fr_rf f1) f3)
    · conv => whnf
      exact hk _ _ _ (fr_then (by decide) fr_rf f1)
set_option maxHeartbeats 4000000 in
set_option maxRecDepth 20000 in
theorem Fx16g2 {d : Nat} {k : jK} {a1 : Int32} {I : jI} {L : jL} (hk : ∀ (x : Int32) (I' : jI) (L' : jL), fr [] I I' → k (some (.inl (.inl x))) (I', L')) : jPM d 16 [.inr (2, 0), .inl (.inl a1)] (I, L) k := by
  refine pM (fun d n => ?_)
  refine pn_go [] 400 ?_
  conv => whnf
  intro _
  conv => whnf
  refine ⟨fun _ => ?_, fun _ => ?_⟩
  · conv => whnf
    exact fun _ => hk _ _ _ fr_rf
  · conv => whnf
    exact fun _ => hk _ _ _ fr_rf
set_option maxHeartbeats 4000000 in
set_option maxRecDepth 20000 in
theorem Fx22g2 {d : Nat} {k : jK} {a1 : Int32} {a2 : Int32} {I : jI} {L : jL} (hk : ∀ (x : Int32) (I' : jI) (L' : jL), fr [] I I' → k (some (.inl (.inl x))) (I', L')) : jPM d 22 [.inr (2, 0), .inl (.inl a1), .inl (.inl a2)] (I, L) k := by
  refine pM (fun d n => ?_)
  refine pn_go [] 400 ?_
  conv => whnf
  refine Fx16g2 (fun x1 I1 L1 f1 => ?_)
  conv => whnf
  refine ⟨fun _ => ?_, fun _ => ?_⟩
  · conv => whnf
    refine ⟨fun _ => ?_, fun _ => ?_⟩
    · conv => whnf
      exact hk _ _ _ (fr_then (by decide) fr_rf f1)
    · conv => whnf
      intro _
      conv => whnf
      refine ⟨fun _ => ?_, fun _ => ?_⟩
      · conv => whnf
        exact hk _ _ _ (fr_then (by decide) fr_rf f1)
      · conv => whnf
        exact hk _ _ _ (fr_then (by decide) fr_rf f1)
  · conv => whnf
    exact hk _ _ _ (fr_then (by decide) fr_rf f1)
set_option maxHeartbeats 4000000 in
set_option maxRecDepth 20000 in
theorem Fx18g2 {d : Nat} {k : jK} {a1 : Int32} {a2 : Int32} {I : jI} {L : jL} (hk : ∀ (x : Int32) (I' : jI) (L' : jL), fr [] I I' → k (some (.inl (.inl x))) (I', L')) : jPM d 18 [.inr (2, 0), .inl (.inl a1), .inl (.inl a2)] (I, L) k := by
  refine pM (fun d n => ?_)
  refine pn_go [] 400 ?_
  conv => whnf
  intro _
  conv => whnf
  intro _
  conv => whnf
  exact hk _ _ _ fr_rf
set_option maxHeartbeats 4000000 in
set_option maxRecDepth 20000 in
theorem Fx19g2 {d : Nat} {k : jK} {a1 : Int32} {a2 : Int32} {a3 : Int32} {I : jI} {L : jL} (hk : ∀ (I' : jI) (L' : jL), fr [30] I I' → k none (I', L')) : jPM d 19 [.inr (2, 0), .inl (.inl a1), .inl (.inl a2), .inl (.inl a3)] (I, L) k := by
  refine pM (fun d n => ?_)
  refine pn_go [] 400 ?_
  conv => whnf
  intro _
  conv => whnf
  intro _
  conv => whnf
  exact hk _ _ (fr_up rfl fr_rf)
set_option maxHeartbeats 4000000 in
set_option maxRecDepth 20000 in
theorem Fx75 {d : Nat} {k : jK} {a1 : Int32} {a2 : Int32} {a3 : Int32} {I : jI} {L : jL} (hk : ∀ (x : Int32) (I' : jI) (L' : jL), fr [12, 30, 1013] I I' → k (some (.inl (.inl x))) (I', L')) : jPM d 75 [.inr (0, 0), .inl (.inl a1), .inl (.inl a2), .inl (.inl a3)] (I, L) k := by
  refine pM (fun d n => ?_)
  refine pn_go [] 400 ?_
  conv => whnf
  refine Fx15g2 (fun x1 I1 L1 f1 => ?_)
  conv => whnf
  refine ⟨fun _ => ?_, fun _ => ?_⟩
  · conv => whnf
    refine Fx22g2 (fun x2 I2 L2 f2 => ?_)
    conv => whnf
    refine ⟨fun _ => ?_, fun _ => ?_⟩
    · conv => whnf
      refine Fx18g2 (fun x3 I3 L3 f3 => ?_)
      conv => whnf
      refine Fx19g2 (fun I4 L4 f4 => ?_)
      conv => whnf
      exact hk _ _ _ (fr_then (by decide) (fr_then (by decide) (fr_then (by decide) (fr_then (by decide) fr_rf f1) f2) f3) f4)
    · conv => whnf
      refine Fx113 (fun x5 I5 L5 f5 => ?_)
      conv => whnf
      exact hk _ _ _ (fr_then (by decide) (fr_then (by decide) (fr_then (by decide) fr_rf f1) f2) f5)
  · conv => whnf
    exact hk _ _ _ (fr_then (by decide) fr_rf f1)
set_option maxHeartbeats 4000000 in
set_option maxRecDepth 20000 in
theorem Fx17g2 {d : Nat} {k : jK} {a1 : Int32} {I : jI} {L : jL} (hk : ∀ (x : Int32) (I' : jI) (L' : jL), fr [] I I' → k (some (.inl (.inl x))) (I', L')) : jPM d 17 [.inr (2, 0), .inl (.inl a1)] (I, L) k := by
  refine pM (fun d n => ?_)
  refine pn_go [] 400 ?_
  conv => whnf
  intro _
  conv => whnf
  exact hk _ _ _ fr_rf
set_option maxHeartbeats 4000000 in
set_option maxRecDepth 20000 in
theorem FxL59_19 {d : Nat} {k : jK} {I0 : jI}  : ∀ (n : Nat), (∀ (v1 : Option jV) (v2 : Option jV) (v3 : Option jV) (I : jI) (L : jL), fr [17] I0 I → pn (jPM d) k none (jco 59) n (45, [some (.inr (3, 0)), v1, v2, v3], [], I, L)) → ∀ (v2 : Int32) (v3 : Int32) (I : jI) (L : jL), fr [17] I0 I → pn (jPM d) k none (jco 59) n (19, [some (.inr (3, 0)), some (.inr (2, 0)), some (.inl (.inl v2)), some (.inl (.inl v3))], [], I, L) := by
  intro n
  induction n with
  | zero => intro _ v v I L f0; trivial
  | succ n ih =>
    intro hx v2 v3 I L f0
    refine pn_lp [19, 45] 400 ?_
    conv => whnf
    refine ⟨fun _ => ?_, fun _ => ?_⟩
    · conv => whnf
      exact pn_dec n (hx _ _ _ _ _ f0)
    · conv => whnf
      refine Fx18g2 (fun x1 I1 L1 f1 => ?_)
      conv => whnf
      intro _
      conv => whnf
      exact ih (fun q0 q1 q2 I L f => pn_dec n (hx q0 q1 q2 I L f)) _ _ _ _ (fr_up rfl (fr_then (by decide) f0 f1))
set_option maxHeartbeats 4000000 in
set_option maxRecDepth 20000 in
theorem FxL61_0 {d : Nat} {k : jK} {I0 : jI}  : ∀ (n : Nat), (∀ (v0 : Option jV) (I : jI) (L : jL), fr [4003] I0 I → pn (jPM d) k none (jco 61) n (38, [v0], [], I, L)) → ∀ (I : jI) (L : jL), fr [4003] I0 I → pn (jPM d) k none (jco 61) n (0, [some (.inr (3, 0))], [], I, L) := by
  intro n
  induction n with
  | zero => intro _  I L f0; trivial
  | succ n ih =>
    intro hx  I L f0
    refine pn_lp [0, 38] 400 ?_
    conv => whnf
    refine ⟨fun _ => ?_, fun _ => ?_⟩
    · conv => whnf
      exact pn_dec n (hx _ _ _ f0)
    · conv => whnf
      intro _
      conv => whnf
      refine ⟨fun _ => ?_, fun _ => ?_⟩
      · conv => whnf
        exact pn_dec n (hx _ _ _ f0)
      · conv => whnf
        exact ih (fun q0 I L f => pn_dec n (hx q0 I L f)) _ _ (fr_up rfl f0)
set_option maxHeartbeats 4000000 in
set_option maxRecDepth 20000 in
theorem Fx61 {d : Nat} {k : jK} {I : jI} {L : jL} (hk : ∀ (I' : jI) (L' : jL), fr [4003] I I' → k none (I', L')) : jPM d 61 [.inr (3, 0)] (I, L) k := by
  refine pM (fun d n => ?_)
  refine FxL61_0  _ (fun _ I1 L1 f1 => ?_) _ _ fr_rf
  refine pn_go [0] 400 ?_
  conv => whnf
  exact hk _ _ (fr_then (by decide) fr_rf f1)
set_option maxHeartbeats 4000000 in
set_option maxRecDepth 20000 in
theorem Fx59 {d : Nat} {k : jK} {a2 : Int32} {I : jI} {L : jL} (hk : ∀ (I' : jI) (L' : jL), fr [17, 4002, 4003, 4004, 5006] I I' → k none (I', L')) : jPM d 59 [.inr (3, 0), .inr (2, 0), .inl (.inl a2)] (I, L) k := by
  refine pM (fun d n => ?_)
  refine pn_go [19] 400 ?_
  conv => whnf
  refine Fx17g2 (fun x1 I1 L1 f1 => ?_)
  conv => whnf
  refine FxL59_19  _ (fun _ _ _ I2 L2 f2 => ?_) _ _ _ _ fr_rf
  refine pn_go [19] 400 ?_
  conv => whnf
  refine Fx61 (fun I3 L3 f3 => ?_)
  conv => whnf
  exact hk _ _ (fr_then (by decide) (fr_up rfl (fr_up rfl (fr_then (by decide) (fr_up rfl (fr_then (by decide) (fr_up rfl fr_rf) f1)) f2))) f3)
set_option maxHeartbeats 4000000 in
set_option maxRecDepth 20000 in
theorem Fx60 {d : Nat} {k : jK} {I : jI} {L : jL} (hk : ∀ (x : Int32) (I' : jI) (L' : jL), fr [] I I' → k (some (.inl (.inl x))) (I', L')) : jPM d 60 [.inr (3, 0)] (I, L) k := by
  refine pM (fun d n => ?_)
  refine pn_go [] 400 ?_
  conv => whnf
  refine ⟨fun _ => ?_, fun _ => ?_⟩
  · conv => whnf
    exact fun _ => hk _ _ _ fr_rf
  · conv => whnf
    refine ⟨fun _ => ?_, fun _ => ?_⟩
    · conv => whnf
      exact fun _ => hk _ _ _ fr_rf
    · conv => whnf
      exact fun _ => hk _ _ _ fr_rf
set_option maxHeartbeats 4000000 in
set_option maxRecDepth 20000 in
theorem Fx67 {d : Nat} {k : jK} {I : jI} {L : jL} (hk : ∀ (I' : jI) (L' : jL), fr [4004] I I' → k none (I', L')) : jPM d 67 [.inr (3, 0)] (I, L) k := by
  refine pM (fun d n => ?_)
  refine pn_go [] 400 ?_
  conv => whnf
  refine ⟨fun _ => ?_, fun _ => ?_⟩
  · conv => whnf
    exact hk _ _ fr_rf
  · conv => whnf
    exact hk _ _ (fr_up rfl fr_rf)
set_option maxHeartbeats 4000000 in
set_option maxRecDepth 20000 in
theorem Fx66 {d : Nat} {k : jK} {a1 : Int32} {I : jI} {L : jL} (hk : ∀ (x : Int32) (I' : jI) (L' : jL), fr [4003, 4004] I I' → k (some (.inl (.inl x))) (I', L')) : jPM d 66 [.inr (3, 0), .inl (.inl a1)] (I, L) k := by
  refine pM (fun d n => ?_)
  refine pn_go [] 400 ?_
  conv => whnf
  refine Fx60 (fun x1 I1 L1 f1 => ?_)
  conv => whnf
  refine ⟨fun _ => ?_, fun _ => ?_⟩
  · conv => whnf
    refine Fx67 (fun I2 L2 f2 => ?_)
    conv => whnf
    exact hk _ _ _ (fr_then (by decide) (fr_then (by decide) fr_rf f1) f2)
  · conv => whnf
    intro _
    conv => whnf
    refine ⟨fun _ => ?_, fun _ => ?_⟩
    · conv => whnf
      refine Fx67 (fun I3 L3 f3 => ?_)
      conv => whnf
      exact hk _ _ _ (fr_then (by decide) (fr_then (by decide) fr_rf f1) f3)
    · conv => whnf
      refine ⟨fun _ => ?_, fun _ => ?_⟩
      · conv => whnf
        refine Fx67 (fun I4 L4 f4 => ?_)
        conv => whnf
        exact hk _ _ _ (fr_then (by decide) (fr_then (by decide) fr_rf f1) f4)
      · conv => whnf
        exact hk _ _ _ (fr_up rfl (fr_then (by decide) fr_rf f1))
set_option maxHeartbeats 4000000 in
set_option maxRecDepth 20000 in
theorem Fx65 {d : Nat} {k : jK} {I : jI} {L : jL} (hk : ∀ (x : Int32) (I' : jI) (L' : jL), fr [4003, 4004] I I' → k (some (.inl (.inl x))) (I', L')) : jPM d 65 [.inr (3, 0)] (I, L) k := by
  refine pM (fun d n => ?_)
  refine pn_go [] 400 ?_
  conv => whnf
  refine Fx66 (fun x1 I1 L1 f1 => ?_)
  conv => whnf
  refine Fx66 (fun x2 I2 L2 f2 => ?_)
  conv => whnf
  exact hk _ _ _ (fr_then (by decide) (fr_then (by decide) fr_rf f1) f2)
set_option maxHeartbeats 4000000 in
set_option maxRecDepth 20000 in
theorem Fx62 {d : Nat} {k : jK} {I : jI} {L : jL} (hk : ∀ (I' : jI) (L' : jL), fr [4003, 4004, 5007, 5008] I I' → k none (I', L')) : jPM d 62 [.inr (3, 0)] (I, L) k := by
  refine pM (fun d n => ?_)
  refine pn_go [] 400 ?_
  conv => whnf
  refine Fx60 (fun x1 I1 L1 f1 => ?_)
  conv => whnf
  refine ⟨fun _ => ?_, fun _ => ?_⟩
  · conv => whnf
    exact hk _ _ (fr_up rfl (fr_then (by decide) fr_rf f1))
  · conv => whnf
    intro _
    conv => whnf
    refine ⟨fun _ => ?_, fun _ => ?_⟩
    · conv => whnf
      refine Fx66 (fun x2 I2 L2 f2 => ?_)
      conv => whnf
      refine Fx65 (fun x3 I3 L3 f3 => ?_)
      conv => whnf
      refine Fx61 (fun I4 L4 f4 => ?_)
      conv => whnf
      exact hk _ _ (fr_then (by decide) (fr_up rfl (fr_then (by decide) (fr_up rfl (fr_then (by decide) (fr_up rfl (fr_then (by decide) fr_rf f1)) f2)) f3)) f4)
    · conv => whnf
      exact hk _ _ (fr_up rfl (fr_then (by decide) fr_rf f1))
set_option maxHeartbeats 4000000 in
set_option maxRecDepth 20000 in
theorem FxL64_9 {d : Nat} {k : jK} {I0 : jI} (hk : ∀ (x : Int32) (I' : jI) (L' : jL), fr [4003] I0 I' → k (some (.inl (.inl x))) (I', L')) : ∀ (n : Nat), (∀ (v1 : Option jV) (I : jI) (L : jL), fr [4003] I0 I → pn (jPM d) k none (jco 64) n (50, [some (.inr (3, 0)), v1], [], I, L)) → ∀ (v1 : Int32) (I : jI) (L : jL), fr [4003] I0 I → pn (jPM d) k none (jco 64) n (9, [some (.inr (3, 0)), some (.inl (.inl v1))], [], I, L) := by
  intro n
  induction n with
  | zero => intro _ v I L f0; trivial
  | succ n ih =>
    intro hx v1 I L f0
    refine pn_lp [9, 50] 400 ?_
    conv => whnf
    refine ⟨fun _ => ?_, fun _ => ?_⟩
    · conv => whnf
      exact pn_dec n (hx _ _ _ f0)
    · conv => whnf
      intro _
      conv => whnf
      intro _
      conv => whnf
      refine ⟨fun _ => ?_, fun _ => ?_⟩
      · conv => whnf
        exact ih (fun q0 I L f => pn_dec n (hx q0 I L f)) _ _ _ f0
      · conv => whnf
        exact hk _ _ _ (fr_up rfl f0)
set_option maxHeartbeats 4000000 in
set_option maxRecDepth 20000 in
theorem Fx64 {d : Nat} {k : jK} {I : jI} {L : jL} (hk : ∀ (x : Int32) (I' : jI) (L' : jL), fr [4003, 4004] I I' → k (some (.inl (.inl x))) (I', L')) : jPM d 64 [.inr (3, 0)] (I, L) k := by
  refine pM (fun d n => ?_)
  refine pn_go [9] 400 ?_
  conv => whnf
  refine Fx60 (fun x1 I1 L1 f1 => ?_)
  conv => whnf
  refine ⟨fun _ => ?_, fun _ => ?_⟩
  · conv => whnf
    refine Fx67 (fun I2 L2 f2 => ?_)
    conv => whnf
    exact hk _ _ _ (fr_then (by decide) (fr_then (by decide) fr_rf f1) f2)
  · conv => whnf
    refine FxL64_9 (fun x3 I3 L3 f3 => hk x3 I3 L3 (fr_then (by decide) (fr_then (by decide) fr_rf f1) f3)) _ (fun _ I3 L3 f3 => ?_) _ _ _ fr_rf
    refine pn_go [9] 400 ?_
    conv => whnf
    refine Fx67 (fun I4 L4 f4 => ?_)
    conv => whnf
    exact hk _ _ _ (fr_then (by decide) (fr_then (by decide) (fr_then (by decide) fr_rf f1) f3) f4)
set_option maxHeartbeats 4000000 in
set_option maxRecDepth 20000 in
theorem Fx48 {d : Nat} {k : jK} {a0 : Nat} {a1 : Int32} {a2 : Int32} {a3 : Int32} {a4 : Int32} {I : jI} {L : jL} (hk : ∀ (I' : jI) (L' : jL), fr [18, 19, 20, 21, 5006] I I' → k none (I', L')) : jPM d 48 [.inr (4, a0), .inl (.inl a1), .inl (.inl a2), .inl (.inl a3), .inl (.inl a4)] (I, L) k := by
  refine pM (fun d n => ?_)
  refine pn_go [] 400 ?_
  conv => whnf
  refine ⟨fun _ => ?_, fun _ => ?_⟩
  · conv => whnf
    exact hk _ _ fr_rf
  · conv => whnf
    intro _
    conv => whnf
    intro _
    conv => whnf
    intro _
    conv => whnf
    intro _
    conv => whnf
    exact hk _ _ (fr_up rfl (fr_up rfl (fr_up rfl (fr_up rfl (fr_up rfl fr_rf)))))
set_option maxHeartbeats 4000000 in
set_option maxRecDepth 20000 in
theorem Fx63 {d : Nat} {k : jK} {I : jI} {L : jL} (hk : ∀ (I' : jI) (L' : jL), fr [18, 19, 20, 21, 4003, 4004, 5006] I I' → k none (I', L')) : jPM d 63 [.inr (3, 0)] (I, L) k := by
  refine pM (fun d n => ?_)
  refine pn_go [] 400 ?_
  conv => whnf
  refine Fx64 (fun x1 I1 L1 f1 => ?_)
  conv => whnf
  refine Fx66 (fun x2 I2 L2 f2 => ?_)
  conv => whnf
  refine Fx65 (fun x3 I3 L3 f3 => ?_)
  conv => whnf
  refine Fx66 (fun x4 I4 L4 f4 => ?_)
  conv => whnf
  refine ⟨fun _ => ?_, fun _ => ?_⟩
  · conv => whnf
    exact hk _ _ (fr_then (by decide) (fr_then (by decide) (fr_then (by decide) (fr_then (by decide) fr_rf f1) f2) f3) f4)
  · conv => whnf
    refine Fx48 (fun I5 L5 f5 => ?_)
    conv => whnf
    refine Fx61 (fun I6 L6 f6 => ?_)
    conv => whnf
    exact hk _ _ (fr_then (by decide) (fr_then (by decide) (fr_then (by decide) (fr_then (by decide) (fr_then (by decide) (fr_then (by decide) fr_rf f1) f2) f3) f4) f5) f6)
set_option maxHeartbeats 4000000 in
set_option maxRecDepth 20000 in
theorem FxL58_16 {d : Nat} {k : jK} {I0 : jI}  : ∀ (n : Nat), (∀ (v1 : Option jV) (v2 : Option jV) (v3 : Option jV) (I : jI) (L : jL), fr [18, 19, 20, 21, 4003, 4004, 5006] I0 I → pn (jPM d) k none (jco 58) n (39, [some (.inr (3, 0)), v1, v2, v3], [], I, L)) → ∀ (v1 : Option jV) (v2 : Option jV) (v3 : Int32) (I : jI) (L : jL), fr [18, 19, 20, 21, 4003, 4004, 5006] I0 I → pn (jPM d) k none (jco 58) n (16, [some (.inr (3, 0)), v1, v2, some (.inl (.inl v3))], [], I, L) := by
  intro n
  induction n with
  | zero => intro _ v v v I L f0; trivial
  | succ n ih =>
    intro hx v1 v2 v3 I L f0
    refine pn_lp [16, 39] 400 ?_
    conv => whnf
    refine ⟨fun _ => ?_, fun _ => ?_⟩
    · conv => whnf
      exact pn_dec n (hx _ _ _ _ _ f0)
    · conv => whnf
      refine Fx60 (fun x1 I1 L1 f1 => ?_)
      conv => whnf
      refine ⟨fun _ => ?_, fun _ => ?_⟩
      · conv => whnf
        exact pn_dec n (hx _ _ _ _ _ (fr_then (by decide) f0 f1))
      · conv => whnf
        refine Fx63 (fun I2 L2 f2 => ?_)
        conv => whnf
        exact ih (fun q0 q1 q2 I L f => pn_dec n (hx q0 q1 q2 I L f)) _ _ _ _ _ (fr_then (by decide) (fr_then (by decide) f0 f1) f2)
set_option maxHeartbeats 4000000 in
set_option maxRecDepth 20000 in
theorem Fx58 {d : Nat} {k : jK} {a2 : Int32} {I : jI} {L : jL} (hk : ∀ (x : Int32) (I' : jI) (L' : jL), fr [17, 18, 19, 20, 21, 4002, 4003, 4004, 5006, 5007, 5008] I I' → k (some (.inl (.inl x))) (I', L')) : jPM d 58 [.inr (3, 0), .inr (2, 0), .inl (.inl a2)] (I, L) k := by
  refine pM (fun d n => ?_)
  refine pn_go [16] 400 ?_
  conv => whnf
  refine Fx59 (fun I1 L1 f1 => ?_)
  conv => whnf
  refine Fx62 (fun I2 L2 f2 => ?_)
  conv => whnf
  refine Fx63 (fun I3 L3 f3 => ?_)
  conv => whnf
  refine FxL58_16  _ (fun _ _ _ I4 L4 f4 => ?_) _ _ _ _ _ fr_rf
  refine pn_go [16] 400 ?_
  conv => whnf
  refine Fx60 (fun x5 I5 L5 f5 => ?_)
  conv => whnf
  refine ⟨fun _ => ?_, fun _ => ?_⟩
  · conv => whnf
    exact hk _ _ _ (fr_then (by decide) (fr_then (by decide) (fr_then (by decide) (fr_then (by decide) (fr_then (by decide) fr_rf f1) f2) f3) f4) f5)
  · conv => whnf
    exact hk _ _ _ (fr_up rfl (fr_then (by decide) (fr_then (by decide) (fr_then (by decide) (fr_then (by decide) (fr_then (by decide) fr_rf f1) f2) f3) f4) f5))
theorem Fx29 {d : Nat} {k : jK} {a0 a1 : Nat} {I : jI} {L : jL} (hk : ∀ (I' : jI) (L' : jL), fr [18, 19, 20, 21, 23, 5006, 5007, 5008, 5009, 5010, 5011, 5012, 5013, 5014, 5015] I I' → k none (I', L')) : jPM d 29 [.inr (4, a0), .inr (4, a1)] (I, L) k :=
  D29 rfl (hk _ L (fun g i j hg => by
    unfold d29
    refine if_neg (fun q => ?_)
    rcases q.2 with ⟨q1, q2, q3⟩ | ⟨q1, q2, q3⟩ | ⟨q1, q2⟩
    · subst q1
      have : j = 6 ∨ j = 7 ∨ j = 8 ∨ j = 9 ∨ j = 10 ∨ j = 11 ∨ j = 12 ∨ j = 13 ∨ j = 14 ∨ j = 15 := by omega
      rcases this with e | e | e | e | e | e | e | e | e | e <;> subst e <;> exact absurd hg (by decide)
    · have : g = 18 ∨ g = 19 ∨ g = 20 ∨ g = 21 := by omega
      rcases this with e | e | e | e <;> subst e <;> cases hg
    · subst q1; cases hg))
set_option maxHeartbeats 4000000 in
set_option maxRecDepth 20000 in
theorem Fx28 {d : Nat} {k : jK} {a0 : Nat} {a1 : Nat} {I : jI} {L : jL} (hk : ∀ (I' : jI) (L' : jL), fr [18, 19, 20, 21, 22, 23, 5006, 5007, 5008, 5009, 5010, 5011, 5012, 5013, 5014, 5015] I I' → k none (I', L')) : jPM d 28 [.inr (4, a0), .inr (4, a1)] (I, L) k := by
  refine pM (fun d n => ?_)
  refine pn_go [] 400 ?_
  conv => whnf
  refine Fx29 (fun I1 L1 f1 => ?_)
  conv => whnf
  intro _
  conv => whnf
  exact hk _ _ (fr_cp (fun _ => rfl) (fr_then (by decide) fr_rf f1))
set_option maxHeartbeats 4000000 in
set_option maxRecDepth 20000 in
theorem FxL77_77 {d : Nat} {k : jK} {I0 : jI}  : ∀ (n : Nat), (∀ (v1 : Option jV) (v2 : Option jV) (I : jI) (L : jL), fr [6] I0 I → pn (jPM d) k none (jco 77) n (95, [some (.inr (0, 0)), v1, v2], [], I, L)) → ∀ (v1 : Option jV) (v2 : Int32) (I : jI) (L : jL), fr [6] I0 I → pn (jPM d) k none (jco 77) n (77, [some (.inr (0, 0)), v1, some (.inl (.inl v2))], [], I, L) := by
  intro n
  induction n with
  | zero => intro _ v v I L f0; trivial
  | succ n ih =>
    intro hx v1 v2 I L f0
    refine pn_lp [77, 95] 400 ?_
    conv => whnf
    refine ⟨fun _ => ?_, fun _ => ?_⟩
    · conv => whnf
      exact pn_dec n (hx _ _ _ _ f0)
    · conv => whnf
      intro _
      conv => whnf
      exact ih (fun q0 q1 I L f => pn_dec n (hx q0 q1 I L f)) _ _ _ _ (fr_up rfl f0)
set_option maxHeartbeats 4000000 in
set_option maxRecDepth 20000 in
theorem Fx77 {d : Nat} {k : jK} {a1 : Int32} {I : jI} {L : jL} (hk : ∀ (x : Int32) (I' : jI) (L' : jL), fr [6, 12, 17, 18, 19, 20, 21, 22, 23, 1013, 4002, 4003, 4004, 5006, 5007, 5008, 5009, 5010, 5011, 5012, 5013, 5014, 5015] I I' → k (some (.inl (.inl x))) (I', L')) : jPM d 77 [.inr (0, 0), .inl (.inl a1)] (I, L) k := by
  refine pM (fun d n => ?_)
  refine pn_go [77] 400 ?_
  conv => whnf
  refine Fx15g2 (fun x1 I1 L1 f1 => ?_)
  conv => whnf
  refine ⟨fun _ => ?_, fun _ => ?_⟩
  · conv => whnf
    refine Fx16g2 (fun x2 I2 L2 f2 => ?_)
    conv => whnf
    refine ⟨fun _ => ?_, fun _ => ?_⟩
    · conv => whnf
      refine Fx58 (fun x3 I3 L3 f3 => ?_)
      conv => whnf
      refine ⟨fun _ => ?_, fun _ => ?_⟩
      · conv => whnf
        refine Fx28 (fun I4 L4 f4 => ?_)
        conv => whnf
        refine Fx28 (fun I5 L5 f5 => ?_)
        conv => whnf
        refine FxL77_77  _ (fun _ _ I6 L6 f6 => ?_) _ _ _ _ fr_rf
        refine pn_go [77] 400 ?_
        conv => whnf
        exact hk _ _ _ (fr_then (by decide) (fr_then (by decide) (fr_then (by decide) (fr_then (by decide) (fr_then (by decide) (fr_then (by decide) fr_rf f1) f2) f3) f4) f5) f6)
      · conv => whnf
        exact hk _ _ _ (fr_then (by decide) (fr_then (by decide) (fr_then (by decide) fr_rf f1) f2) f3)
    · conv => whnf
      refine Fx113 (fun x7 I7 L7 f7 => ?_)
      conv => whnf
      exact hk _ _ _ (fr_then (by decide) (fr_then (by decide) (fr_then (by decide) fr_rf f1) f2) f7)
  · conv => whnf
    exact hk _ _ _ (fr_then (by decide) fr_rf f1)
set_option maxHeartbeats 4000000 in
set_option maxRecDepth 20000 in
theorem Fx31 {d : Nat} {k : jK} {a0 : Nat} {a1 : Int32} {I : jI} {L : jL} (hk : ∀ (x : Int32) (I' : jI) (L' : jL), fr [] I I' → k (some (.inl (.inl x))) (I', L')) : jPM d 31 [.inr (4, a0), .inl (.inl a1)] (I, L) k := by
  refine pM (fun d n => ?_)
  refine pn_go [] 400 ?_
  conv => whnf
  refine ⟨fun _ => ?_, fun _ => ?_⟩
  · conv => whnf
    exact fun _ => hk _ _ _ fr_rf
  · conv => whnf
    refine ⟨fun _ => ?_, fun _ => ?_⟩
    · conv => whnf
      exact fun _ => hk _ _ _ fr_rf
    · conv => whnf
      exact fun _ => hk _ _ _ fr_rf
set_option maxHeartbeats 4000000 in
set_option maxRecDepth 20000 in
theorem Fx8 {d : Nat} {k : jK} {a0 : Int32} {a1 : Int32} {I : jI} {L : jL} (hk : ∀ (x : Int32) (I' : jI) (L' : jL), fr [] I I' → k (some (.inl (.inl x))) (I', L')) : jPM d 8 [.inl (.inl a0), .inl (.inl a1)] (I, L) k := by
  refine pM (fun d n => ?_)
  refine pn_go [] 400 ?_
  conv => whnf
  refine ⟨fun _ => ?_, fun _ => ?_⟩
  · conv => whnf
    exact hk _ _ _ fr_rf
  · conv => whnf
    intro _
    conv => whnf
    exact hk _ _ _ fr_rf
set_option maxHeartbeats 4000000 in
set_option maxRecDepth 20000 in
theorem Fx37 {d : Nat} {k : jK} {a0 : Nat} {a1 : Int32} {I : jI} {L : jL} (hk : ∀ (x : Int32) (I' : jI) (L' : jL), fr [] I I' → k (some (.inl (.inl x))) (I', L')) : jPM d 37 [.inr (4, a0), .inl (.inl a1)] (I, L) k := by
  refine pM (fun d n => ?_)
  refine pn_go [] 400 ?_
  conv => whnf
  intro _
  conv => whnf
  intro _
  conv => whnf
  refine Fx8 (fun x1 I1 L1 f1 => ?_)
  conv => whnf
  exact hk _ _ _ (fr_then (by decide) fr_rf f1)
set_option maxHeartbeats 4000000 in
set_option maxRecDepth 20000 in
theorem Fx6 {d : Nat} {k : jK} {a0 : Int32} {a1 : Int32} {I : jI} {L : jL} (hk : ∀ (x : Int32) (I' : jI) (L' : jL), fr [] I I' → k (some (.inl (.inl x))) (I', L')) : jPM d 6 [.inl (.inl a0), .inl (.inl a1)] (I, L) k := by
  refine pM (fun d n => ?_)
  refine pn_go [] 400 ?_
  conv => whnf
  refine ⟨fun _ => ?_, fun _ => ?_⟩
  · conv => whnf
    exact hk _ _ _ fr_rf
  · conv => whnf
    intro _
    conv => whnf
    exact hk _ _ _ fr_rf
set_option maxHeartbeats 4000000 in
set_option maxRecDepth 20000 in
theorem Fx5 {d : Nat} {k : jK} {a0 : Int32} {a1 : Int32} {a2 : Int32} {a3 : Int32} {I : jI} {L : jL} (hk : ∀ (x : Int32) (I' : jI) (L' : jL), fr [] I I' → k (some (.inl (.inl x))) (I', L')) : jPM d 5 [.inl (.inl a0), .inl (.inl a1), .inl (.inl a2), .inl (.inl a3)] (I, L) k := by
  refine pM (fun d n => ?_)
  refine pn_go [] 400 ?_
  conv => whnf
  refine And.intro (fun _ => ?_) (fun _ => ?_)
  · conv => whnf
    refine Fx6 (fun x1 I1 L1 f1 => ?_)
    conv => whnf
    exact hk _ _ _ (fr_then (by decide) fr_rf f1)
  refine jsw_cons (fun _ => ?_) (fun _ => ?_)
  · conv => whnf
    intro _
    conv => whnf
    exact hk _ _ _ fr_rf
  refine jsw_cons (fun _ => ?_) (fun _ => ?_)
  · conv => whnf
    intro _
    conv => whnf
    exact hk _ _ _ fr_rf
  refine jsw_cons (fun _ => ?_) (fun _ => ?_)
  · conv => whnf
    refine Fx6 (fun x2 I2 L2 f2 => ?_)
    conv => whnf
    exact hk _ _ _ (fr_then (by decide) fr_rf f2)
  refine jsw_cons (fun _ => ?_) (fun _ => ?_)
  · conv => whnf
    intro _
    conv => whnf
    exact hk _ _ _ fr_rf
  refine jsw_nil ?_
  conv => whnf
  exact hk _ _ _ fr_rf
end
section
set_option maxHeartbeats 4000000 in
set_option maxRecDepth 20000 in
theorem Fx35 {d : Nat} {k : jK} {a0 : Nat} {a1 : Int32} {a2 : Int32} {I : jI} {L : jL} (hk : ∀ (x : Int32) (I' : jI) (L' : jL), fr [] I I' → k (some (.inl (.inl x))) (I', L')) : jPM d 35 [.inr (4, a0), .inl (.inl a1), .inl (.inl a2)] (I, L) k := by
  refine pM (fun d n => ?_)
  refine pn_go [] 400 ?_
  conv => whnf
  intro _
  conv => whnf
  intro _
  conv => whnf
  refine Fx5 (fun x1 I1 L1 f1 => ?_)
  conv => whnf
  exact hk _ _ _ (fr_then (by decide) fr_rf f1)
set_option maxHeartbeats 4000000 in
set_option maxRecDepth 20000 in
theorem Fx7 {d : Nat} {k : jK} {a0 : Int32} {a1 : Int32} {I : jI} {L : jL} (hk : ∀ (x : Int32) (I' : jI) (L' : jL), fr [] I I' → k (some (.inl (.inl x))) (I', L')) : jPM d 7 [.inl (.inl a0), .inl (.inl a1)] (I, L) k := by
  refine pM (fun d n => ?_)
  refine pn_go [] 400 ?_
  conv => whnf
  refine ⟨fun _ => ?_, fun _ => ?_⟩
  · conv => whnf
    exact hk _ _ _ fr_rf
  · conv => whnf
    intro _
    conv => whnf
    exact hk _ _ _ fr_rf
set_option maxHeartbeats 4000000 in
set_option maxRecDepth 20000 in
theorem Fx36 {d : Nat} {k : jK} {a0 : Nat} {a1 : Int32} {I : jI} {L : jL} (hk : ∀ (x : Int32) (I' : jI) (L' : jL), fr [] I I' → k (some (.inl (.inl x))) (I', L')) : jPM d 36 [.inr (4, a0), .inl (.inl a1)] (I, L) k := by
  refine pM (fun d n => ?_)
  refine pn_go [] 400 ?_
  conv => whnf
  intro _
  conv => whnf
  intro _
  conv => whnf
  refine Fx7 (fun x1 I1 L1 f1 => ?_)
  conv => whnf
  exact hk _ _ _ (fr_then (by decide) fr_rf f1)
set_option maxHeartbeats 4000000 in
set_option maxRecDepth 20000 in
theorem FxL10_4 {d : Nat} {k : jK} {y0 : Nat} {I0 : jI}  : ∀ (n : Nat), (∀ (v0 : Option jV) (v1 : Int32) (v2 : Option jV) (I : jI) (L : jL), fr [] I0 I → pn (jPM d) k none (jco 10) n (25, [v0, some (.inl (.inl v1)), v2], [], I, L)) → ∀ (v1 : Int32) (v2 : Int32) (I : jI) (L : jL), fr [] I0 I → pn (jPM d) k none (jco 10) n (4, [some (.inr (7, y0)), some (.inl (.inl v1)), some (.inl (.inl v2))], [], I, L) := by
  intro n
  induction n with
  | zero => intro _ v v I L f0; trivial
  | succ n ih =>
    intro hx v1 v2 I L f0
    refine pn_lp [4, 25] 400 ?_
    conv => whnf
    refine ⟨fun _ => ?_, fun _ => ?_⟩
    · conv => whnf
      exact pn_dec n (hx _ _ _ _ _ f0)
    · conv => whnf
      intro _
      conv => whnf
      exact ih (fun q0 q1 q2 I L f => pn_dec n (hx q0 q1 q2 I L f)) _ _ _ _ f0
set_option maxHeartbeats 4000000 in
set_option maxRecDepth 20000 in
theorem Fx10 {d : Nat} {k : jK} {a0 : Nat} {I : jI} {L : jL} (hk : ∀ (x : Int32) (I' : jI) (L' : jL), fr [] I I' → k (some (.inl (.inl x))) (I', L')) : jPM d 10 [.inr (7, a0)] (I, L) k := by
  refine pM (fun d n => ?_)
  refine pn_go [4] 400 ?_
  conv => whnf
  refine FxL10_4  _ (fun _ _ _ I1 L1 f1 => ?_) _ _ _ _ fr_rf
  refine pn_go [4] 400 ?_
  conv => whnf
  exact hk _ _ _ (fr_then (by decide) fr_rf f1)
set_option maxHeartbeats 4000000 in
set_option maxRecDepth 20000 in
theorem Fx33 {d : Nat} {k : jK} {a0 : Nat} {a1 : Int32} {a2 : Int32} {I : jI} {L : jL} (hk : ∀ (x : Int32) (I' : jI) (L' : jL), fr [] I I' → k (some (.inl (.inl x))) (I', L')) : jPM d 33 [.inr (4, a0), .inl (.inl a1), .inl (.inl a2)] (I, L) k := by
  refine pM (fun d n => ?_)
  refine pn_go [] 400 ?_
  conv => whnf
  refine Fx10 (fun x1 I1 L1 f1 => ?_)
  conv => whnf
  refine Fx36 (fun x2 I2 L2 f2 => ?_)
  conv => whnf
  refine ⟨fun _ => ?_, fun _ => ?_⟩
  · conv => whnf
    exact fun _ => hk _ _ _ (fr_then (by decide) (fr_then (by decide) fr_rf f1) f2)
  · conv => whnf
    exact fun _ => hk _ _ _ (fr_then (by decide) (fr_then (by decide) fr_rf f1) f2)
set_option maxHeartbeats 4000000 in
set_option maxRecDepth 20000 in
theorem Fx32 {d : Nat} {k : jK} {a0 : Nat} {a1 : Int32} {I : jI} {L : jL} (hk : ∀ (x : Int32) (I' : jI) (L' : jL), fr [] I I' → k (some (.inl (.inl x))) (I', L')) : jPM d 32 [.inr (4, a0), .inl (.inl a1)] (I, L) k := by
  refine pM (fun d n => ?_)
  refine pn_go [] 400 ?_
  conv => whnf
  refine ⟨fun _ => ?_, fun _ => ?_⟩
  · conv => whnf
    exact fun _ => hk _ _ _ fr_rf
  · conv => whnf
    exact fun _ => hk _ _ _ fr_rf
set_option maxHeartbeats 4000000 in
set_option maxRecDepth 20000 in
theorem Fx12 {d : Nat} {k : jK} {a0 : Nat} {a1 : Int32} {a2 : Int32} {I : jI} {L : jL} (hk : ∀ (I' : jI) (L' : jL), fr [23] I I' → k none (I', L')) : jPM d 12 [.inr (7, a0), .inl (.inl a1), .inl (.inl a2)] (I, L) k := by
  refine pM (fun d n => ?_)
  refine pn_go [] 400 ?_
  conv => whnf
  intro _
  conv => whnf
  intro _
  conv => whnf
  exact hk _ _ (fr_up rfl fr_rf)
set_option maxHeartbeats 4000000 in
set_option maxRecDepth 20000 in
theorem Fx45 {d : Nat} {k : jK} {a0 : Nat} {a1 : Int32} {a2 : Int32} {I : jI} {L : jL} (hk : ∀ (x : Int32) (I' : jI) (L' : jL), fr [23, 5010] I I' → k (some (.inl (.inl x))) (I', L')) : jPM d 45 [.inr (4, a0), .inl (.inl a1), .inl (.inl a2)] (I, L) k := by
  refine pM (fun d n => ?_)
  refine pn_go [] 400 ?_
  conv => whnf
  refine Fx35 (fun x1 I1 L1 f1 => ?_)
  conv => whnf
  refine Fx37 (fun x2 I2 L2 f2 => ?_)
  conv => whnf
  refine Fx36 (fun x3 I3 L3 f3 => ?_)
  conv => whnf
  refine Fx12 (fun I4 L4 f4 => ?_)
  conv => whnf
  exact hk _ _ _ (fr_then (by decide) (fr_then (by decide) (fr_then (by decide) (fr_up rfl (fr_then (by decide) fr_rf f1)) f2) f3) f4)
set_option maxHeartbeats 4000000 in
set_option maxRecDepth 20000 in
theorem FxL13_4 {d : Nat} {k : jK} {y0 : Nat} {I0 : jI}  : ∀ (n : Nat), (∀ (v0 : Option jV) (v1 : Int32) (v2 : Int32) (v3 : Option jV) (v4 : Option jV) (I : jI) (L : jL), fr [23] I0 I → pn (jPM d) k none (jco 13) n (48, [v0, some (.inl (.inl v1)), some (.inl (.inl v2)), v3, v4], [], I, L)) → ∀ (v1 : Int32) (v2 : Int32) (v3 : Int32) (v4 : Option jV) (I : jI) (L : jL), fr [23] I0 I → pn (jPM d) k none (jco 13) n (4, [some (.inr (7, y0)), some (.inl (.inl v1)), some (.inl (.inl v2)), some (.inl (.inl v3)), v4], [], I, L) := by
  intro n
  induction n with
  | zero => intro _ v v v v I L f0; trivial
  | succ n ih =>
    intro hx v1 v2 v3 v4 I L f0
    refine pn_lp [4, 48] 400 ?_
    conv => whnf
    refine ⟨fun _ => ?_, fun _ => ?_⟩
    · conv => whnf
      exact pn_dec n (hx _ _ _ _ _ _ _ f0)
    · conv => whnf
      refine ⟨fun _ => ?_, fun _ => ?_⟩
      · conv => whnf
        exact pn_dec n (hx _ _ _ _ _ _ _ f0)
      · conv => whnf
        intro _
        conv => whnf
        intro _
        conv => whnf
        intro _
        conv => whnf
        exact ih (fun q0 q1 q2 q3 q4 I L f => pn_dec n (hx q0 q1 q2 q3 q4 I L f)) _ _ _ _ _ _ (fr_up rfl f0)
set_option maxHeartbeats 4000000 in
set_option maxRecDepth 20000 in
theorem Fx13 {d : Nat} {k : jK} {a0 : Nat} {a1 : Int32} {I : jI} {L : jL} (hk : ∀ (x : Int32) (I' : jI) (L' : jL), fr [23] I I' → k (some (.inl (.inl x))) (I', L')) : jPM d 13 [.inr (7, a0), .inl (.inl a1)] (I, L) k := by
  refine pM (fun d n => ?_)
  refine pn_go [4] 400 ?_
  conv => whnf
  refine FxL13_4  _ (fun _ _ _ _ _ I1 L1 f1 => ?_) _ _ _ _ _ _ fr_rf
  refine pn_go [4] 400 ?_
  conv => whnf
  exact hk _ _ _ (fr_then (by decide) fr_rf f1)
set_option maxHeartbeats 4000000 in
set_option maxRecDepth 20000 in
theorem Fx14 {d : Nat} {k : jK} {a0 : Nat} {I : jI} {L : jL} (hk : ∀ (x : Int32) (I' : jI) (L' : jL), fr [23] I I' → k (some (.inl (.inl x))) (I', L')) : jPM d 14 [.inr (7, a0)] (I, L) k := by
  refine pM (fun d n => ?_)
  refine pn_go [] 400 ?_
  conv => whnf
  intro _
  conv => whnf
  intro _
  conv => whnf
  intro _
  conv => whnf
  exact hk _ _ _ (fr_up rfl (fr_cp (fun _ => rfl) fr_rf))
set_option maxHeartbeats 4000000 in
set_option maxRecDepth 20000 in
theorem Fx46 {d : Nat} {k : jK} {a0 : Nat} {I : jI} {L : jL} (hk : ∀ (x : Int32) (I' : jI) (L' : jL), fr [23, 5009, 5011, 5012, 5013] I I' → k (some (.inl (.inl x))) (I', L')) : jPM d 46 [.inr (4, a0)] (I, L) k := by
  refine pM (fun d n => ?_)
  refine pn_go [] 400 ?_
  conv => whnf
  refine Fx13 (fun x1 I1 L1 f1 => ?_)
  conv => whnf
  refine Fx14 (fun x2 I2 L2 f2 => ?_)
  conv => whnf
  exact hk _ _ _ (fr_up rfl (fr_up rfl (fr_then (by decide) (fr_up rfl (fr_up rfl (fr_then (by decide) fr_rf f1))) f2)))
set_option maxHeartbeats 4000000 in
set_option maxRecDepth 20000 in
theorem Fx44 {d : Nat} {k : jK} {a0 : Nat} {a1 : Int32} {a2 : Int32} {a3 : Int32} {I : jI} {L : jL} (hk : ∀ (x : Int32) (I' : jI) (L' : jL), fr [19, 20, 22, 23, 5009, 5010, 5011, 5012, 5013, 5014, 5015] I I' → k (some (.inl (.inl x))) (I', L')) : jPM d 44 [.inr (4, a0), .inl (.inl a1), .inl (.inl a2), .inl (.inl a3)] (I, L) k := by
  refine pM (fun d n => ?_)
  refine pn_go [] 400 ?_
  conv => whnf
  refine Fx32 (fun x1 I1 L1 f1 => ?_)
  conv => whnf
  refine ⟨fun _ => ?_, fun _ => ?_⟩
  · conv => whnf
    intro _
    conv => whnf
    refine And.intro (fun _ => ?_) (fun _ => ?_)
    · conv => whnf
      refine Fx45 (fun x2 I2 L2 f2 => ?_)
      conv => whnf
      exact hk _ _ _ (fr_then (by decide) (fr_up rfl (fr_up rfl (fr_then (by decide) fr_rf f1))) f2)
    refine jsw_cons (fun _ => ?_) (fun _ => ?_)
    · conv => whnf
      refine Fx46 (fun x3 I3 L3 f3 => ?_)
      conv => whnf
      exact hk _ _ _ (fr_then (by decide) (fr_up rfl (fr_up rfl (fr_then (by decide) fr_rf f1))) f3)
    refine jsw_cons (fun _ => ?_) (fun _ => ?_)
    · conv => whnf
      intro _
      conv => whnf
      intro _
      conv => whnf
      intro _
      conv => whnf
      exact hk _ _ _ (fr_up rfl (fr_up rfl (fr_up rfl (fr_then (by decide) fr_rf f1))))
    refine jsw_cons (fun _ => ?_) (fun _ => ?_)
    · conv => whnf
      intro _
      conv => whnf
      intro _
      conv => whnf
      exact hk _ _ _ (fr_up rfl (fr_up rfl (fr_up rfl (fr_then (by decide) fr_rf f1))))
    refine jsw_nil ?_
    conv => whnf
    refine ⟨fun _ => ?_, fun _ => ?_⟩
    · conv => whnf
      intro _
      conv => whnf
      exact hk _ _ _ (fr_up rfl (fr_up rfl (fr_up rfl (fr_then (by decide) fr_rf f1))))
    · conv => whnf
      intro _
      conv => whnf
      exact hk _ _ _ (fr_up rfl (fr_up rfl (fr_up rfl (fr_then (by decide) fr_rf f1))))
  · conv => whnf
    exact hk _ _ _ (fr_then (by decide) fr_rf f1)
set_option maxHeartbeats 4000000 in
set_option maxRecDepth 20000 in
theorem Fx81 {d : Nat} {k : jK} {a1 : Int32} {a2 : Int32} {I : jI} {L : jL} (hk : ∀ (x : Int32) (I' : jI) (L' : jL), fr [19, 20, 22, 23, 5009, 5010, 5011, 5012, 5013, 5014, 5015] I I' → k (some (.inl (.inl x))) (I', L')) : jPM d 81 [.inr (0, 0), .inl (.inl a1), .inl (.inl a2)] (I, L) k := by
  refine pM (fun d n => ?_)
  refine pn_go [] 400 ?_
  conv => whnf
  refine Fx31 (fun x1 I1 L1 f1 => ?_)
  conv => whnf
  refine ⟨fun _ => ?_, fun _ => ?_⟩
  · conv => whnf
    exact hk _ _ _ (fr_then (by decide) fr_rf f1)
  · conv => whnf
    refine ⟨fun _ => ?_, fun _ => ?_⟩
    · conv => whnf
      exact hk _ _ _ (fr_then (by decide) fr_rf f1)
    · conv => whnf
      refine ⟨fun _ => ?_, fun _ => ?_⟩
      · conv => whnf
        refine Fx33 (fun x2 I2 L2 f2 => ?_)
        conv => whnf
        refine ⟨fun _ => ?_, fun _ => ?_⟩
        · conv => whnf
          refine Fx44 (fun x3 I3 L3 f3 => ?_)
          conv => whnf
          exact hk _ _ _ (fr_then (by decide) (fr_then (by decide) (fr_then (by decide) fr_rf f1) f2) f3)
        · conv => whnf
          exact hk _ _ _ (fr_then (by decide) (fr_then (by decide) fr_rf f1) f2)
      · conv => whnf
        exact hk _ _ _ (fr_then (by decide) fr_rf f1)
set_option maxHeartbeats 4000000 in
set_option maxRecDepth 20000 in
theorem Fx82 {d : Nat} {k : jK} {I : jI} {L : jL} (hk : ∀ (x : Int32) (I' : jI) (L' : jL), fr [19, 20, 22, 23, 5009, 5010, 5011, 5012, 5013, 5014, 5015] I I' → k (some (.inl (.inl x))) (I', L')) : jPM d 82 [.inr (0, 0)] (I, L) k := by
  refine pM (fun d n => ?_)
  refine pn_go [] 400 ?_
  conv => whnf
  refine ⟨fun _ => ?_, fun _ => ?_⟩
  · conv => whnf
    refine Fx44 (fun x1 I1 L1 f1 => ?_)
    conv => whnf
    exact hk _ _ _ (fr_then (by decide) fr_rf f1)
  · conv => whnf
    exact hk _ _ _ fr_rf
set_option maxHeartbeats 4000000 in
set_option maxRecDepth 20000 in
theorem Fx34 {d : Nat} {k : jK} {a0 : Nat} {a1 : Int32} {I : jI} {L : jL} (hk : ∀ (x : Int32) (I' : jI) (L' : jL), fr [] I I' → k (some (.inl (.inl x))) (I', L')) : jPM d 34 [.inr (4, a0), .inl (.inl a1)] (I, L) k := by
  refine pM (fun d n => ?_)
  refine pn_go [] 400 ?_
  conv => whnf
  intro _
  conv => whnf
  refine ⟨fun _ => ?_, fun _ => ?_⟩
  · conv => whnf
    exact fun _ => hk _ _ _ fr_rf
  · conv => whnf
    exact fun _ => hk _ _ _ fr_rf
set_option maxHeartbeats 4000000 in
set_option maxRecDepth 20000 in
theorem Fx83 {d : Nat} {k : jK} {a1 : Int32} {I : jI} {L : jL} (hk : ∀ (x : Int32) (I' : jI) (L' : jL), fr [19, 20, 22, 23, 5009, 5010, 5011, 5012, 5013, 5014, 5015] I I' → k (some (.inl (.inl x))) (I', L')) : jPM d 83 [.inr (0, 0), .inl (.inl a1)] (I, L) k := by
  refine pM (fun d n => ?_)
  refine pn_go [] 400 ?_
  conv => whnf
  refine Fx31 (fun x1 I1 L1 f1 => ?_)
  conv => whnf
  refine ⟨fun _ => ?_, fun _ => ?_⟩
  · conv => whnf
    refine Fx34 (fun x2 I2 L2 f2 => ?_)
    conv => whnf
    refine ⟨fun _ => ?_, fun _ => ?_⟩
    · conv => whnf
      refine Fx44 (fun x3 I3 L3 f3 => ?_)
      conv => whnf
      exact hk _ _ _ (fr_then (by decide) (fr_then (by decide) (fr_then (by decide) fr_rf f1) f2) f3)
    · conv => whnf
      exact hk _ _ _ (fr_then (by decide) (fr_then (by decide) fr_rf f1) f2)
  · conv => whnf
    exact hk _ _ _ (fr_then (by decide) fr_rf f1)
set_option maxHeartbeats 4000000 in
set_option maxRecDepth 20000 in
theorem Fx84 {d : Nat} {k : jK} {a1 : Int32} {a2 : Int32} {I : jI} {L : jL} (hk : ∀ (x : Int32) (I' : jI) (L' : jL), fr [19, 20, 22, 23, 5009, 5010, 5011, 5012, 5013, 5014, 5015] I I' → k (some (.inl (.inl x))) (I', L')) : jPM d 84 [.inr (0, 0), .inl (.inl a1), .inl (.inl a2)] (I, L) k := by
  refine pM (fun d n => ?_)
  refine pn_go [] 400 ?_
  conv => whnf
  refine Fx31 (fun x1 I1 L1 f1 => ?_)
  conv => whnf
  refine ⟨fun _ => ?_, fun _ => ?_⟩
  · conv => whnf
    exact hk _ _ _ (fr_then (by decide) fr_rf f1)
  · conv => whnf
    refine ⟨fun _ => ?_, fun _ => ?_⟩
    · conv => whnf
      exact hk _ _ _ (fr_then (by decide) fr_rf f1)
    · conv => whnf
      refine ⟨fun _ => ?_, fun _ => ?_⟩
      · conv => whnf
        intro _
        conv => whnf
        refine ⟨fun _ => ?_, fun _ => ?_⟩
        · conv => whnf
          refine Fx44 (fun x2 I2 L2 f2 => ?_)
          conv => whnf
          exact hk _ _ _ (fr_then (by decide) (fr_then (by decide) fr_rf f1) f2)
        · conv => whnf
          exact hk _ _ _ (fr_then (by decide) fr_rf f1)
      · conv => whnf
        exact hk _ _ _ (fr_then (by decide) fr_rf f1)
set_option maxHeartbeats 4000000 in
set_option maxRecDepth 20000 in
theorem Fx85 {d : Nat} {k : jK} {a1 : Int32} {I : jI} {L : jL} (hk : ∀ (x : Int32) (I' : jI) (L' : jL), fr [19, 20, 22, 23, 5009, 5010, 5011, 5012, 5013, 5014, 5015] I I' → k (some (.inl (.inl x))) (I', L')) : jPM d 85 [.inr (0, 0), .inl (.inl a1)] (I, L) k := by
  refine pM (fun d n => ?_)
  refine pn_go [] 400 ?_
  conv => whnf
  refine ⟨fun _ => ?_, fun _ => ?_⟩
  · conv => whnf
    refine ⟨fun _ => ?_, fun _ => ?_⟩
    · conv => whnf
      exact hk _ _ _ fr_rf
    · conv => whnf
      refine ⟨fun _ => ?_, fun _ => ?_⟩
      · conv => whnf
        refine ⟨fun _ => ?_, fun _ => ?_⟩
        · conv => whnf
          refine Fx44 (fun x1 I1 L1 f1 => ?_)
          conv => whnf
          exact hk _ _ _ (fr_then (by decide) fr_rf f1)
        · conv => whnf
          exact hk _ _ _ fr_rf
      · conv => whnf
        refine ⟨fun _ => ?_, fun _ => ?_⟩
        · conv => whnf
          refine Fx44 (fun x2 I2 L2 f2 => ?_)
          conv => whnf
          exact hk _ _ _ (fr_then (by decide) fr_rf f2)
        · conv => whnf
          exact hk _ _ _ fr_rf
  · conv => whnf
    refine ⟨fun _ => ?_, fun _ => ?_⟩
    · conv => whnf
      refine ⟨fun _ => ?_, fun _ => ?_⟩
      · conv => whnf
        exact hk _ _ _ fr_rf
      · conv => whnf
        refine ⟨fun _ => ?_, fun _ => ?_⟩
        · conv => whnf
          refine ⟨fun _ => ?_, fun _ => ?_⟩
          · conv => whnf
            refine Fx44 (fun x3 I3 L3 f3 => ?_)
            conv => whnf
            exact hk _ _ _ (fr_then (by decide) fr_rf f3)
          · conv => whnf
            exact hk _ _ _ fr_rf
        · conv => whnf
          refine ⟨fun _ => ?_, fun _ => ?_⟩
          · conv => whnf
            refine Fx44 (fun x4 I4 L4 f4 => ?_)
            conv => whnf
            exact hk _ _ _ (fr_then (by decide) fr_rf f4)
          · conv => whnf
            exact hk _ _ _ fr_rf
    · conv => whnf
      exact hk _ _ _ fr_rf
set_option maxHeartbeats 4000000 in
set_option maxRecDepth 20000 in
theorem FxL30_7 {d : Nat} {k : jK} {y0 : Nat} {I0 : jI}  : ∀ (n : Nat), (∀ (v0 : Option jV) (v1 : Option jV) (v2 : Option jV) (v3 : Option jV) (I : jI) (L : jL), fr [19, 20, 22, 23, 5009, 5010, 5011, 5012, 5013, 5014, 5015] I0 I → pn (jPM d) k none (jco 30) n (60, [v0, v1, v2, v3], [], I, L)) → ∀ (v1 : Option jV) (v2 : Int32) (v3 : Int32) (I : jI) (L : jL), fr [19, 20, 22, 23, 5009, 5010, 5011, 5012, 5013, 5014, 5015] I0 I → pn (jPM d) k none (jco 30) n (7, [some (.inr (4, y0)), v1, some (.inl (.inl v2)), some (.inl (.inl v3))], [], I, L) := by
  intro n
  induction n with
  | zero => intro _ v v v I L f0; trivial
  | succ n ih =>
    intro hx v1 v2 v3 I L f0
    refine pn_lp [7, 60] 400 ?_
    conv => whnf
    refine ⟨fun _ => ?_, fun _ => ?_⟩
    · conv => whnf
      exact pn_dec n (hx _ _ _ _ _ _ f0)
    · conv => whnf
      refine ⟨fun _ => ?_, fun _ => ?_⟩
      · conv => whnf
        exact pn_dec n (hx _ _ _ _ _ _ f0)
      · conv => whnf
        intro _
        conv => whnf
        intro _
        conv => whnf
        intro _
        conv => whnf
        intro _
        conv => whnf
        intro _
        conv => whnf
        intro _
        conv => whnf
        intro _
        conv => whnf
        refine Fx44 (fun x1 I1 L1 f1 => ?_)
        conv => whnf
        exact ih (fun q0 q1 q2 q3 I L f => pn_dec n (hx q0 q1 q2 q3 I L f)) _ _ _ _ _ (fr_then (by decide) f0 f1)
set_option maxHeartbeats 4000000 in
set_option maxRecDepth 20000 in
theorem Fx30 {d : Nat} {k : jK} {a0 : Nat} {a1 : Nat} {a2 : Int32} {I : jI} {L : jL} (hk : ∀ (I' : jI) (L' : jL), fr [18, 19, 20, 21, 22, 23, 5006, 5007, 5008, 5009, 5010, 5011, 5012, 5013, 5014, 5015] I I' → k none (I', L')) : jPM d 30 [.inr (4, a0), .inr (4, a1), .inl (.inl a2)] (I, L) k := by
  refine pM (fun d n => ?_)
  refine pn_go [7] 400 ?_
  conv => whnf
  refine Fx29 (fun I1 L1 f1 => ?_)
  conv => whnf
  refine FxL30_7  _ (fun _ _ _ _ I2 L2 f2 => ?_) _ _ _ _ _ fr_rf
  refine pn_go [7] 400 ?_
  conv => whnf
  exact hk _ _ (fr_then (by decide) (fr_then (by decide) fr_rf f1) f2)
set_option maxHeartbeats 4000000 in
set_option maxRecDepth 20000 in
theorem Fx86 {d : Nat} {k : jK} {a1 : Int32} {I : jI} {L : jL} (hk : ∀ (x : Int32) (I' : jI) (L' : jL), fr [18, 19, 20, 21, 22, 23, 5006, 5007, 5008, 5009, 5010, 5011, 5012, 5013, 5014, 5015] I I' → k (some (.inl (.inl x))) (I', L')) : jPM d 86 [.inr (0, 0), .inl (.inl a1)] (I, L) k := by
  refine pM (fun d n => ?_)
  refine pn_go [] 400 ?_
  conv => whnf
  refine ⟨fun _ => ?_, fun _ => ?_⟩
  · conv => whnf
    exact hk _ _ _ fr_rf
  · conv => whnf
    refine ⟨fun _ => ?_, fun _ => ?_⟩
    · conv => whnf
      refine Fx30 (fun I1 L1 f1 => ?_)
      conv => whnf
      exact hk _ _ _ (fr_then (by decide) fr_rf f1)
    · conv => whnf
      exact hk _ _ _ fr_rf
set_option maxHeartbeats 4000000 in
set_option maxRecDepth 20000 in
theorem Fx87 {d : Nat} {k : jK} {a1 : Int32} {I : jI} {L : jL} (hk : ∀ (x : Int32) (I' : jI) (L' : jL), fr [6, 18, 19, 20, 21, 22, 23, 5006, 5007, 5008, 5009, 5010, 5011, 5012, 5013, 5014, 5015] I I' → k (some (.inl (.inl x))) (I', L')) : jPM d 87 [.inr (0, 0), .inl (.inl a1)] (I, L) k := by
  refine pM (fun d n => ?_)
  refine pn_go [] 400 ?_
  conv => whnf
  refine ⟨fun _ => ?_, fun _ => ?_⟩
  · conv => whnf
    exact hk _ _ _ fr_rf
  · conv => whnf
    refine ⟨fun _ => ?_, fun _ => ?_⟩
    · conv => whnf
      refine ⟨fun _ => ?_, fun _ => ?_⟩
      · conv => whnf
        intro _
        conv => whnf
        refine Fx28 (fun I1 L1 f1 => ?_)
        conv => whnf
        intro _
        conv => whnf
        exact hk _ _ _ (fr_up rfl (fr_then (by decide) fr_rf f1))
      · conv => whnf
        exact hk _ _ _ fr_rf
    · conv => whnf
      exact hk _ _ _ fr_rf
set_option maxHeartbeats 4000000 in
set_option maxRecDepth 20000 in
theorem Fx88 {d : Nat} {k : jK} {a1 : Int32} {I : jI} {L : jL} (hk : ∀ (x : Int32) (I' : jI) (L' : jL), fr [12, 18, 19, 20, 21, 22, 23, 1013, 5006, 5007, 5008, 5009, 5010, 5011, 5012, 5013, 5014, 5015] I I' → k (some (.inl (.inl x))) (I', L')) : jPM d 88 [.inr (0, 0), .inl (.inl a1)] (I, L) k := by
  refine pM (fun d n => ?_)
  refine pn_go [] 400 ?_
  conv => whnf
  refine ⟨fun _ => ?_, fun _ => ?_⟩
  · conv => whnf
    exact hk _ _ _ fr_rf
  · conv => whnf
    refine ⟨fun _ => ?_, fun _ => ?_⟩
    · conv => whnf
      intro _
      conv => whnf
      refine ⟨fun _ => ?_, fun _ => ?_⟩
      · conv => whnf
        intro _
        conv => whnf
        refine Fx28 (fun I1 L1 f1 => ?_)
        conv => whnf
        exact hk _ _ _ (fr_then (by decide) fr_rf f1)
      · conv => whnf
        refine Fx113 (fun x2 I2 L2 f2 => ?_)
        conv => whnf
        exact hk _ _ _ (fr_then (by decide) fr_rf f2)
    · conv => whnf
      exact hk _ _ _ fr_rf
end
section
set_option maxHeartbeats 4000000 in
set_option maxRecDepth 20000 in
theorem Fx47 {d : Nat} {k : jK} {a0 : Nat} {a1 : Int64} {I : jI} {L : jL} (hk : ∀ (I' : jI) (L' : jL), fr [19, 20, 22, 23, 5009, 5010, 5011, 5012, 5013, 5014, 5015] I I' → k none (I', L')) : jPM d 47 [.inr (4, a0), .inl (.inr a1)] (I, L) k := by
  refine pM (fun d n => ?_)
  refine pn_go [] 400 ?_
  conv => whnf
  refine ⟨fun _ => ?_, fun _ => ?_⟩
  · conv => whnf
    intro _
    conv => whnf
    intro _
    conv => whnf
    intro _
    conv => whnf
    refine ⟨fun _ => ?_, fun _ => ?_⟩
    · conv => whnf
      refine ⟨fun _ => ?_, fun _ => ?_⟩
      · conv => whnf
        refine Fx44 (fun x1 I1 L1 f1 => ?_)
        conv => whnf
        exact hk _ _ (fr_then (by decide) fr_rf f1)
      · conv => whnf
        refine Fx34 (fun x2 I2 L2 f2 => ?_)
        conv => whnf
        refine ⟨fun _ => ?_, fun _ => ?_⟩
        · conv => whnf
          refine Fx44 (fun x3 I3 L3 f3 => ?_)
          conv => whnf
          exact hk _ _ (fr_then (by decide) (fr_then (by decide) fr_rf f2) f3)
        · conv => whnf
          refine Fx44 (fun x4 I4 L4 f4 => ?_)
          conv => whnf
          exact hk _ _ (fr_then (by decide) (fr_then (by decide) fr_rf f2) f4)
    · conv => whnf
      refine Fx33 (fun x5 I5 L5 f5 => ?_)
      conv => whnf
      refine ⟨fun _ => ?_, fun _ => ?_⟩
      · conv => whnf
        refine ⟨fun _ => ?_, fun _ => ?_⟩
        · conv => whnf
          refine Fx44 (fun x6 I6 L6 f6 => ?_)
          conv => whnf
          exact hk _ _ (fr_then (by decide) (fr_then (by decide) fr_rf f5) f6)
        · conv => whnf
          refine Fx34 (fun x7 I7 L7 f7 => ?_)
          conv => whnf
          refine ⟨fun _ => ?_, fun _ => ?_⟩
          · conv => whnf
            refine Fx44 (fun x8 I8 L8 f8 => ?_)
            conv => whnf
            exact hk _ _ (fr_then (by decide) (fr_then (by decide) (fr_then (by decide) fr_rf f5) f7) f8)
          · conv => whnf
            refine Fx44 (fun x9 I9 L9 f9 => ?_)
            conv => whnf
            exact hk _ _ (fr_then (by decide) (fr_then (by decide) (fr_then (by decide) fr_rf f5) f7) f9)
      · conv => whnf
        refine Fx44 (fun x10 I10 L10 f10 => ?_)
        conv => whnf
        exact hk _ _ (fr_then (by decide) (fr_then (by decide) fr_rf f5) f10)
  · conv => whnf
    exact hk _ _ fr_rf
set_option maxHeartbeats 4000000 in
set_option maxRecDepth 20000 in
theorem FxL105_60 {d : Nat} {k : jK} {I0 : jI}  : ∀ (n : Nat), (∀ (v1 : Option jV) (v2 : Option jV) (v3 : Option jV) (v4 : Option jV) (v5 : Option jV) (I : jI) (L : jL), fr [19, 20, 22, 23, 5009, 5010, 5011, 5012, 5013, 5014, 5015] I0 I → pn (jPM d) k none (jco 105) n (90, [some (.inr (0, 0)), v1, v2, v3, v4, v5], [], I, L)) → ∀ (v1 : Int32) (v2 : Option jV) (v3 : Int64) (v5 : Int32) (I : jI) (L : jL), fr [19, 20, 22, 23, 5009, 5010, 5011, 5012, 5013, 5014, 5015] I0 I → pn (jPM d) k none (jco 105) n (60, [some (.inr (0, 0)), some (.inl (.inl v1)), v2, some (.inl (.inr v3)), none, some (.inl (.inl v5))], [], I, L) := by
  intro n
  induction n with
  | zero => intro _ v v v v I L f0; trivial
  | succ n ih =>
    intro hx v1 v2 v3 v5 I L f0
    refine pn_lp [60, 90] 400 ?_
    conv => whnf
    refine ⟨fun _ => ?_, fun _ => ?_⟩
    · conv => whnf
      exact pn_dec n (hx _ _ _ _ _ _ _ f0)
    · conv => whnf
      intro _
      conv => whnf
      refine Fx47 (fun I1 L1 f1 => ?_)
      conv => whnf
      exact ih (fun q0 q1 q2 q3 q4 I L f => pn_dec n (hx q0 q1 q2 q3 q4 I L f)) _ _ _ _ _ _ (fr_then (by decide) f0 f1)
set_option maxHeartbeats 4000000 in
set_option maxRecDepth 20000 in
theorem Fx105 {d : Nat} {k : jK} {a1 : Int32} {a2 : Int32} {I : jI} {L : jL} (hk : ∀ (x : Int32) (I' : jI) (L' : jL), fr [19, 20, 22, 23, 5009, 5010, 5011, 5012, 5013, 5014, 5015] I I' → k (some (.inl (.inl x))) (I', L')) : jPM d 105 [.inr (0, 0), .inl (.inl a1), .inl (.inl a2)] (I, L) k := by
  refine pM (fun d n => ?_)
  refine pn_go [60] 400 ?_
  conv => whnf
  refine ⟨fun _ => ?_, fun _ => ?_⟩
  · conv => whnf
    exact hk _ _ _ fr_rf
  · conv => whnf
    refine ⟨fun _ => ?_, fun _ => ?_⟩
    · conv => whnf
      exact hk _ _ _ fr_rf
    · conv => whnf
      refine ⟨fun _ => ?_, fun _ => ?_⟩
      · conv => whnf
        exact hk _ _ _ fr_rf
      · conv => whnf
        refine ⟨fun _ => ?_, fun _ => ?_⟩
        · conv => whnf
          refine ⟨fun _ => ?_, fun _ => ?_⟩
          · conv => whnf
            refine Fx32 (fun x1 I1 L1 f1 => ?_)
            conv => whnf
            refine ⟨fun _ => ?_, fun _ => ?_⟩
            · conv => whnf
              refine FxL105_60  _ (fun _ _ _ _ _ I2 L2 f2 => ?_) _ _ _ _ _ _ fr_rf
              refine pn_go [60] 400 ?_
              conv => whnf
              refine Fx10 (fun x3 I3 L3 f3 => ?_)
              conv => whnf
              exact hk _ _ _ (fr_then (by decide) (fr_then (by decide) (fr_then (by decide) fr_rf f1) f2) f3)
            · conv => whnf
              exact hk _ _ _ (fr_then (by decide) fr_rf f1)
          · conv => whnf
            exact hk _ _ _ fr_rf
        · conv => whnf
          exact hk _ _ _ fr_rf
set_option maxHeartbeats 4000000 in
set_option maxRecDepth 20000 in
theorem Fx124 {d : Nat} {k : jK} {a0 : Int64} {a1 : Int64} {a2 : Int64} {I : jI} {L : jL} (hk : ∀ (x : Int32) (I' : jI) (L' : jL), fr [] I I' → k (some (.inl (.inl x))) (I', L')) : jPM d 124 [.inl (.inr a0), .inl (.inr a1), .inl (.inr a2)] (I, L) k := by
  refine pM (fun d n => ?_)
  refine pn_go [] 400 ?_
  conv => whnf
  refine ⟨fun _ => ?_, fun _ => ?_⟩
  · conv => whnf
    exact fun _ => hk _ _ _ fr_rf
  · conv => whnf
    refine ⟨fun _ => ?_, fun _ => ?_⟩
    · conv => whnf
      exact fun _ => hk _ _ _ fr_rf
    · conv => whnf
      exact fun _ => hk _ _ _ fr_rf
set_option maxHeartbeats 4000000 in
set_option maxRecDepth 20000 in
theorem Fx126 {d : Nat} {k : jK} {a1 : Int32} {I : jI} {L : jL} (hk : ∀ (x : Int32) (I' : jI) (L' : jL), fr [39, 32013] I I' → k (some (.inl (.inl x))) (I', L')) : jPM d 126 [.inr (31, 0), .inl (.inl a1)] (I, L) k := by
  refine pM (fun d n => ?_)
  refine pn_go [] 400 ?_
  conv => whnf
  intro _
  conv => whnf
  intro _
  conv => whnf
  exact hk _ _ _ (fr_up rfl (fr_up rfl fr_rf))
set_option maxHeartbeats 4000000 in
set_option maxRecDepth 20000 in
theorem Fx129 {d : Nat} {k : jK} {a0 : Int32} {I : jI} {L : jL} (hk : ∀ (x : Int32) (I' : jI) (L' : jL), fr [] I I' → k (some (.inl (.inl x))) (I', L')) : jPM d 129 [.inl (.inl a0)] (I, L) k := by
  refine pM (fun d n => ?_)
  refine pn_go [] 400 ?_
  conv => whnf
  refine Fx124 (fun x1 I1 L1 f1 => ?_)
  conv => whnf
  exact fun _ => hk _ _ _ (fr_then (by decide) fr_rf f1)
set_option maxHeartbeats 4000000 in
set_option maxRecDepth 20000 in
theorem FxL139_34 {d : Nat} {k : jK} {I0 : jI}  : ∀ (n : Nat), (∀ (v0 : Option jV) (v1 : Option jV) (v2 : Int32) (v3 : Option jV) (I : jI) (L : jL), fr [38] I0 I → pn (jPM d) k none (jco 139) n (59, [v0, v1, some (.inl (.inl v2)), v3], [], I, L)) → ∀ (v1 : Int32) (v2 : Int32) (v3 : Int32) (I : jI) (L : jL), fr [38] I0 I → pn (jPM d) k none (jco 139) n (34, [some (.inr (31, 0)), some (.inl (.inl v1)), some (.inl (.inl v2)), some (.inl (.inl v3))], [], I, L) := by
  intro n
  induction n with
  | zero => intro _ v v v I L f0; trivial
  | succ n ih =>
    intro hx v1 v2 v3 I L f0
    refine pn_lp [34, 59] 400 ?_
    conv => whnf
    refine ⟨fun _ => ?_, fun _ => ?_⟩
    · conv => whnf
      exact pn_dec n (hx _ _ _ _ _ _ f0)
    · conv => whnf
      intro _
      conv => whnf
      exact ih (fun q0 q1 q2 q3 I L f => pn_dec n (hx q0 q1 q2 q3 I L f)) _ _ _ _ _ (fr_up rfl f0)
set_option maxHeartbeats 4000000 in
set_option maxRecDepth 20000 in
theorem Fx139 {d : Nat} {k : jK} {a1 : Int32} {a2 : Int32} {I : jI} {L : jL} (hk : ∀ (x : Int32) (I' : jI) (L' : jL), fr [37, 38, 39, 32013] I I' → k (some (.inl (.inl x))) (I', L')) : jPM d 139 [.inr (31, 0), .inl (.inl a1), .inl (.inl a2)] (I, L) k := by
  refine pM (fun d n => ?_)
  refine pn_go [34] 400 ?_
  conv => whnf
  refine Fx129 (fun x1 I1 L1 f1 => ?_)
  conv => whnf
  refine ⟨fun _ => ?_, fun _ => ?_⟩
  · conv => whnf
    exact hk _ _ _ (fr_then (by decide) fr_rf f1)
  · conv => whnf
    refine ⟨fun _ => ?_, fun _ => ?_⟩
    · conv => whnf
      refine ⟨fun _ => ?_, fun _ => ?_⟩
      · conv => whnf
        intro _
        conv => whnf
        refine FxL139_34  _ (fun _ _ _ _ I2 L2 f2 => ?_) _ _ _ _ _ fr_rf
        refine pn_go [34] 400 ?_
        conv => whnf
        exact hk _ _ _ (fr_then (by decide) (fr_up rfl (fr_then (by decide) fr_rf f1)) f2)
      · conv => whnf
        refine Fx126 (fun x3 I3 L3 f3 => ?_)
        conv => whnf
        exact hk _ _ _ (fr_then (by decide) (fr_then (by decide) fr_rf f1) f3)
    · conv => whnf
      exact hk _ _ _ (fr_then (by decide) fr_rf f1)
set_option maxHeartbeats 4000000 in
set_option maxRecDepth 20000 in
theorem Fx140 {d : Nat} {k : jK} {a1 : Int32} {a2 : Int32} {a3 : Int32} {I : jI} {L : jL} (hk : ∀ (x : Int32) (I' : jI) (L' : jL), fr [38, 39, 32013] I I' → k (some (.inl (.inl x))) (I', L')) : jPM d 140 [.inr (31, 0), .inl (.inl a1), .inl (.inl a2), .inl (.inl a3)] (I, L) k := by
  refine pM (fun d n => ?_)
  refine pn_go [] 400 ?_
  conv => whnf
  refine Fx129 (fun x1 I1 L1 f1 => ?_)
  conv => whnf
  refine ⟨fun _ => ?_, fun _ => ?_⟩
  · conv => whnf
    intro _
    conv => whnf
    refine ⟨fun _ => ?_, fun _ => ?_⟩
    · conv => whnf
      intro _
      conv => whnf
      refine Fx124 (fun x2 I2 L2 f2 => ?_)
      conv => whnf
      refine ⟨fun _ => ?_, fun _ => ?_⟩
      · conv => whnf
        intro _
        conv => whnf
        intro _
        conv => whnf
        exact hk _ _ _ (fr_up rfl (fr_then (by decide) (fr_then (by decide) fr_rf f1) f2))
      · conv => whnf
        refine Fx126 (fun x3 I3 L3 f3 => ?_)
        conv => whnf
        exact hk _ _ _ (fr_then (by decide) (fr_then (by decide) (fr_then (by decide) fr_rf f1) f2) f3)
    · conv => whnf
      refine Fx126 (fun x4 I4 L4 f4 => ?_)
      conv => whnf
      exact hk _ _ _ (fr_then (by decide) (fr_then (by decide) fr_rf f1) f4)
  · conv => whnf
    exact hk _ _ _ (fr_then (by decide) fr_rf f1)
set_option maxHeartbeats 4000000 in
set_option maxRecDepth 20000 in
theorem Fx141 {d : Nat} {k : jK} {I : jI} {L : jL} (hk : ∀ (x : Int32) (I' : jI) (L' : jL), fr [] I I' → k (some (.inl (.inl x))) (I', L')) : jPM d 141 [.inr (31, 0)] (I, L) k := by
  refine pM (fun d n => ?_)
  refine pn_go [] 400 ?_
  conv => whnf
  intro _
  conv => whnf
  exact hk _ _ _ fr_rf
set_option maxHeartbeats 4000000 in
set_option maxRecDepth 20000 in
theorem FxL142_0 {d : Nat} {k : jK} {I0 : jI}  : ∀ (n : Nat), (∀ (v0 : Option jV) (I : jI) (L : jL), fr [32016] I0 I → pn (jPM d) k none (jco 142) n (33, [v0], [], I, L)) → ∀ (I : jI) (L : jL), fr [32016] I0 I → pn (jPM d) k none (jco 142) n (0, [some (.inr (31, 0))], [], I, L) := by
  intro n
  induction n with
  | zero => intro _  I L f0; trivial
  | succ n ih =>
    intro hx  I L f0
    refine pn_lp [0, 33] 400 ?_
    conv => whnf
    refine ⟨fun _ => ?_, fun _ => ?_⟩
    · conv => whnf
      exact pn_dec n (hx _ _ _ f0)
    · conv => whnf
      refine Fx141 (fun x1 I1 L1 f1 => ?_)
      conv => whnf
      refine ⟨fun _ => ?_, fun _ => ?_⟩
      · conv => whnf
        exact pn_dec n (hx _ _ _ (fr_then (by decide) f0 f1))
      · conv => whnf
        exact ih (fun q0 I L f => pn_dec n (hx q0 I L f)) _ _ (fr_up rfl (fr_then (by decide) f0 f1))
set_option maxHeartbeats 4000000 in
set_option maxRecDepth 20000 in
theorem Fx142 {d : Nat} {k : jK} {I : jI} {L : jL} (hk : ∀ (I' : jI) (L' : jL), fr [32016] I I' → k none (I', L')) : jPM d 142 [.inr (31, 0)] (I, L) k := by
  refine pM (fun d n => ?_)
  refine FxL142_0  _ (fun _ I1 L1 f1 => ?_) _ _ fr_rf
  refine pn_go [0] 400 ?_
  conv => whnf
  exact hk _ _ (fr_then (by decide) fr_rf f1)
set_option maxHeartbeats 4000000 in
set_option maxRecDepth 20000 in
theorem Fx143 {d : Nat} {k : jK} {a1 : Int32} {a2 : Int32} {I : jI} {L : jL} (hk : ∀ (x : Int32) (I' : jI) (L' : jL), fr [32016] I I' → k (some (.inl (.inl x))) (I', L')) : jPM d 143 [.inr (31, 0), .inl (.inl a1), .inl (.inl a2)] (I, L) k := by
  refine pM (fun d n => ?_)
  refine pn_go [] 400 ?_
  conv => whnf
  refine ⟨fun _ => ?_, fun _ => ?_⟩
  · conv => whnf
    exact hk _ _ _ fr_rf
  · conv => whnf
    refine Fx141 (fun x1 I1 L1 f1 => ?_)
    conv => whnf
    refine Fx124 (fun x2 I2 L2 f2 => ?_)
    conv => whnf
    refine ⟨fun _ => ?_, fun _ => ?_⟩
    · conv => whnf
      intro _
      conv => whnf
      exact hk _ _ _ (fr_up rfl (fr_then (by decide) (fr_then (by decide) fr_rf f1) f2))
    · conv => whnf
      exact hk _ _ _ (fr_then (by decide) (fr_then (by decide) fr_rf f1) f2)
set_option maxHeartbeats 4000000 in
set_option maxRecDepth 20000 in
theorem Fx144 {d : Nat} {k : jK} {I : jI} {L : jL} (hk : ∀ (x : Int32) (I' : jI) (L' : jL), fr [32016] I I' → k (some (.inl (.inl x))) (I', L')) : jPM d 144 [.inr (31, 0)] (I, L) k := by
  refine pM (fun d n => ?_)
  refine pn_go [] 400 ?_
  conv => whnf
  refine Fx143 (fun x1 I1 L1 f1 => ?_)
  conv => whnf
  refine ⟨fun _ => ?_, fun _ => ?_⟩
  · conv => whnf
    refine Fx143 (fun x2 I2 L2 f2 => ?_)
    conv => whnf
    refine ⟨fun _ => ?_, fun _ => ?_⟩
    · conv => whnf
      exact hk _ _ _ (fr_then (by decide) (fr_then (by decide) fr_rf f1) f2)
    · conv => whnf
      exact hk _ _ _ (fr_then (by decide) (fr_then (by decide) fr_rf f1) f2)
  · conv => whnf
    refine ⟨fun z => absurd z (by decide), fun _ => ?_⟩
    conv => whnf
    exact hk _ _ _ (fr_then (by decide) fr_rf f1)
set_option maxHeartbeats 4000000 in
set_option maxRecDepth 20000 in
theorem Fx145 {d : Nat} {k : jK} {I : jI} {L : jL} (hk : ∀ (x : Int32) (I' : jI) (L' : jL), fr [32016, 32018, 32019] I I' → k (some (.inl (.inl x))) (I', L')) : jPM d 145 [.inr (31, 0)] (I, L) k := by
  refine pM (fun d n => ?_)
  refine pn_go [] 400 ?_
  conv => whnf
  refine Fx142 (fun I1 L1 f1 => ?_)
  conv => whnf
  refine ⟨fun _ => ?_, fun _ => ?_⟩
  · conv => whnf
    exact fun _ => hk _ _ _ (fr_then (by decide) fr_rf f1)
  · conv => whnf
    refine Fx141 (fun x2 I2 L2 f2 => ?_)
    conv => whnf
    refine ⟨fun _ => ?_, fun _ => ?_⟩
    · conv => whnf
      refine Fx143 (fun x3 I3 L3 f3 => ?_)
      conv => whnf
      refine ⟨fun _ => ?_, fun _ => ?_⟩
      · conv => whnf
        refine Fx144 (fun x4 I4 L4 f4 => ?_)
        conv => whnf
        refine ⟨fun _ => ?_, fun _ => ?_⟩
        · conv => whnf
          exact fun _ => hk _ _ _ (fr_up rfl (fr_then (by decide) (fr_up rfl (fr_then (by decide) (fr_up rfl (fr_then (by decide) (fr_then (by decide) fr_rf f1) f2)) f3)) f4))
        · conv => whnf
          exact fun _ => hk _ _ _ (fr_up rfl (fr_then (by decide) (fr_up rfl (fr_then (by decide) (fr_up rfl (fr_then (by decide) (fr_then (by decide) fr_rf f1) f2)) f3)) f4))
      · conv => whnf
        refine ⟨fun _ => ?_, fun _ => ?_⟩
        · conv => whnf
          exact fun _ => hk _ _ _ (fr_up rfl (fr_up rfl (fr_then (by decide) (fr_up rfl (fr_then (by decide) (fr_then (by decide) fr_rf f1) f2)) f3)))
        · conv => whnf
          exact fun _ => hk _ _ _ (fr_up rfl (fr_up rfl (fr_then (by decide) (fr_up rfl (fr_then (by decide) (fr_then (by decide) fr_rf f1) f2)) f3)))
    · conv => whnf
      exact fun _ => hk _ _ _ (fr_then (by decide) (fr_then (by decide) fr_rf f1) f2)
set_option maxHeartbeats 4000000 in
set_option maxRecDepth 20000 in
theorem Fx146 {d : Nat} {k : jK} {a0 : Int32} {I : jI} {L : jL} (hk : ∀ (x : Int32) (I' : jI) (L' : jL), fr [] I I' → k (some (.inl (.inl x))) (I', L')) : jPM d 146 [.inl (.inl a0)] (I, L) k := by
  refine pM (fun d n => ?_)
  refine pn_go [] 400 ?_
  conv => whnf
  refine ⟨fun _ => ?_, fun _ => ?_⟩
  · conv => whnf
    refine ⟨fun _ => ?_, fun _ => ?_⟩
    · conv => whnf
      refine ⟨fun _ => ?_, fun _ => ?_⟩
      · conv => whnf
        refine ⟨fun _ => ?_, fun _ => ?_⟩
        · conv => whnf
          refine ⟨fun _ => ?_, fun _ => ?_⟩
          · conv => whnf
            refine ⟨fun _ => ?_, fun _ => ?_⟩
            · conv => whnf
              exact hk _ _ _ fr_rf
            · conv => whnf
              exact hk _ _ _ fr_rf
          · conv => whnf
            exact hk _ _ _ fr_rf
        · conv => whnf
          exact hk _ _ _ fr_rf
      · conv => whnf
        exact hk _ _ _ fr_rf
    · conv => whnf
      exact hk _ _ _ fr_rf
  · conv => whnf
    exact hk _ _ _ fr_rf
set_option maxHeartbeats 4000000 in
set_option maxRecDepth 20000 in
theorem Fx147 {d : Nat} {k : jK} {I : jI} {L : jL} (hk : ∀ (x : Int32) (I' : jI) (L' : jL), fr [40, 32016, 32021] I I' → k (some (.inl (.inl x))) (I', L')) : jPM d 147 [.inr (31, 0)] (I, L) k := by
  refine pM (fun d n => ?_)
  refine pn_go [] 400 ?_
  conv => whnf
  refine Fx141 (fun x1 I1 L1 f1 => ?_)
  conv => whnf
  refine Fx146 (fun x2 I2 L2 f2 => ?_)
  conv => whnf
  refine ⟨fun _ => ?_, fun _ => ?_⟩
  · conv => whnf
    exact fun _ => hk _ _ _ (fr_then (by decide) (fr_then (by decide) fr_rf f1) f2)
  · conv => whnf
    refine ⟨fun _ => ?_, fun _ => ?_⟩
    · conv => whnf
      refine Fx143 (fun x3 I3 L3 f3 => ?_)
      conv => whnf
      refine ⟨fun _ => ?_, fun _ => ?_⟩
      · conv => whnf
        refine Fx144 (fun x4 I4 L4 f4 => ?_)
        conv => whnf
        refine ⟨fun _ => ?_, fun _ => ?_⟩
        · conv => whnf
          refine Fx143 (fun x5 I5 L5 f5 => ?_)
          conv => whnf
          refine ⟨fun _ => ?_, fun _ => ?_⟩
          · conv => whnf
            intro _
            conv => whnf
            intro _
            conv => whnf
            intro _
            conv => whnf
            intro _
            conv => whnf
            exact fun _ => hk _ _ _ (fr_up rfl (fr_up rfl (fr_up rfl (fr_up rfl (fr_up rfl (fr_then (by decide) (fr_then (by decide) (fr_then (by decide) (fr_up rfl (fr_then (by decide) (fr_then (by decide) fr_rf f1) f2)) f3) f4) f5))))))
          · conv => whnf
            exact fun _ => hk _ _ _ (fr_then (by decide) (fr_then (by decide) (fr_then (by decide) (fr_up rfl (fr_then (by decide) (fr_then (by decide) fr_rf f1) f2)) f3) f4) f5)
        · conv => whnf
          refine ⟨fun z => absurd z (by decide), fun _ => ?_⟩
          conv => whnf
          exact fun _ => hk _ _ _ (fr_then (by decide) (fr_then (by decide) (fr_up rfl (fr_then (by decide) (fr_then (by decide) fr_rf f1) f2)) f3) f4)
      · conv => whnf
        refine ⟨fun z => absurd z (by decide), fun _ => ?_⟩
        conv => whnf
        refine ⟨fun z => absurd z (by decide), fun _ => ?_⟩
        conv => whnf
        exact fun _ => hk _ _ _ (fr_then (by decide) (fr_up rfl (fr_then (by decide) (fr_then (by decide) fr_rf f1) f2)) f3)
    · conv => whnf
      exact fun _ => hk _ _ _ (fr_then (by decide) (fr_then (by decide) fr_rf f1) f2)
set_option maxHeartbeats 4000000 in
set_option maxRecDepth 20000 in
theorem FxL148_41 {d : Nat} {k : jK} {I0 : jI}  : ∀ (n : Nat), (∀ (v1 : Option jV) (v2 : Int32) (I : jI) (L : jL), fr [40, 32016, 32021] I0 I → pn (jPM d) k none (jco 148) n (72, [some (.inr (31, 0)), v1, some (.inl (.inl v2))], [], I, L)) → ∀ (v1 : Option jV) (v2 : Int32) (I : jI) (L : jL), fr [40, 32016, 32021] I0 I → pn (jPM d) k none (jco 148) n (41, [some (.inr (31, 0)), v1, some (.inl (.inl v2))], [], I, L) := by
  intro n
  induction n with
  | zero => intro _ v v I L f0; trivial
  | succ n ih =>
    intro hx v1 v2 I L f0
    refine pn_lp [41, 72] 400 ?_
    conv => whnf
    refine ⟨fun _ => ?_, fun _ => ?_⟩
    · conv => whnf
      exact pn_dec n (hx _ _ _ _ f0)
    · conv => whnf
      refine ⟨fun _ => ?_, fun _ => ?_⟩
      · conv => whnf
        exact pn_dec n (hx _ _ _ _ f0)
      · conv => whnf
        refine Fx147 (fun x1 I1 L1 f1 => ?_)
        conv => whnf
        refine ⟨fun _ => ?_, fun _ => ?_⟩
        · conv => whnf
          exact ih (fun q0 q1 I L f => pn_dec n (hx q0 q1 I L f)) _ _ _ _ (fr_then (by decide) f0 f1)
        · conv => whnf
          refine Fx142 (fun I2 L2 f2 => ?_)
          conv => whnf
          exact ih (fun q0 q1 I L f => pn_dec n (hx q0 q1 I L f)) _ _ _ _ (fr_then (by decide) (fr_then (by decide) f0 f1) f2)
set_option maxHeartbeats 4000000 in
set_option maxRecDepth 20000 in
theorem Fx148 {d : Nat} {k : jK} {a1 : Int32} {I : jI} {L : jL} (hk : ∀ (x : Int32) (I' : jI) (L' : jL), fr [40, 32015, 32016, 32017, 32018, 32019, 32021] I I' → k (some (.inl (.inl x))) (I', L')) : jPM d 148 [.inr (31, 0), .inl (.inl a1)] (I, L) k := by
  refine pM (fun d n => ?_)
  refine pn_go [41] 400 ?_
  conv => whnf
  intro _
  conv => whnf
  refine Fx145 (fun x1 I1 L1 f1 => ?_)
  conv => whnf
  refine ⟨fun _ => ?_, fun _ => ?_⟩
  · conv => whnf
    refine FxL148_41  _ (fun _ _ I2 L2 f2 => ?_) _ _ _ _ fr_rf
    refine pn_go [41] 400 ?_
    conv => whnf
    refine ⟨fun _ => ?_, fun _ => ?_⟩
    · conv => whnf
      exact hk _ _ _ (fr_then (by decide) (fr_then (by decide) (fr_up rfl (fr_up rfl (fr_up rfl (fr_up rfl fr_rf)))) f1) f2)
    · conv => whnf
      refine ⟨fun _ => ?_, fun _ => ?_⟩
      · conv => whnf
        exact hk _ _ _ (fr_then (by decide) (fr_then (by decide) (fr_up rfl (fr_up rfl (fr_up rfl (fr_up rfl fr_rf)))) f1) f2)
      · conv => whnf
        exact hk _ _ _ (fr_then (by decide) (fr_then (by decide) (fr_up rfl (fr_up rfl (fr_up rfl (fr_up rfl fr_rf)))) f1) f2)
  · conv => whnf
    refine Fx142 (fun I3 L3 f3 => ?_)
    conv => whnf
    refine FxL148_41  _ (fun _ _ I4 L4 f4 => ?_) _ _ _ _ fr_rf
    refine pn_go [41] 400 ?_
    conv => whnf
    refine ⟨fun _ => ?_, fun _ => ?_⟩
    · conv => whnf
      exact hk _ _ _ (fr_then (by decide) (fr_then (by decide) (fr_then (by decide) (fr_up rfl (fr_up rfl (fr_up rfl (fr_up rfl fr_rf)))) f1) f3) f4)
    · conv => whnf
      refine ⟨fun _ => ?_, fun _ => ?_⟩
      · conv => whnf
        exact hk _ _ _ (fr_then (by decide) (fr_then (by decide) (fr_then (by decide) (fr_up rfl (fr_up rfl (fr_up rfl (fr_up rfl fr_rf)))) f1) f3) f4)
      · conv => whnf
        exact hk _ _ _ (fr_then (by decide) (fr_then (by decide) (fr_then (by decide) (fr_up rfl (fr_up rfl (fr_up rfl (fr_up rfl fr_rf)))) f1) f3) f4)
set_option maxHeartbeats 4000000 in
set_option maxRecDepth 20000 in
theorem FxL150_39 {d : Nat} {k : jK} {I0 : jI}  : ∀ (n : Nat), (∀ (v1 : Option jV) (v2 : Option jV) (I : jI) (L : jL), fr [32] I0 I → pn (jPM d) k none (jco 150) n (59, [some (.inr (31, 0)), v1, v2], [], I, L)) → ∀ (v1 : Option jV) (v2 : Int32) (I : jI) (L : jL), fr [32] I0 I → pn (jPM d) k none (jco 150) n (39, [some (.inr (31, 0)), v1, some (.inl (.inl v2))], [], I, L) := by
  intro n
  induction n with
  | zero => intro _ v v I L f0; trivial
  | succ n ih =>
    intro hx v1 v2 I L f0
    refine pn_lp [39, 59, 85, 169] 400 ?_
    conv => whnf
    refine ⟨fun _ => ?_, fun _ => ?_⟩
    · conv => whnf
      exact pn_dec n (hx _ _ _ _ f0)
    · conv => whnf
      intro _
      conv => whnf
      exact ih (fun q0 q1 I L f => pn_dec n (hx q0 q1 I L f)) _ _ _ _ (fr_up rfl f0)
set_option maxHeartbeats 4000000 in
set_option maxRecDepth 20000 in
theorem FxL150_85 {d : Nat} {k : jK} {I0 : jI}  : ∀ (n : Nat), (∀ (v1 : Option jV) (v2 : Option jV) (I : jI) (L : jL), fr [32, 33, 34] I0 I → pn (jPM d) k none (jco 150) n (167, [some (.inr (31, 0)), v1, v2], [], I, L)) → ∀ (v1 : Option jV) (v2 : Int32) (I : jI) (L : jL), fr [32, 33, 34] I0 I → pn (jPM d) k none (jco 150) n (85, [some (.inr (31, 0)), v1, some (.inl (.inl v2))], [], I, L) := by
  intro n
  induction n with
  | zero => intro _ v v I L f0; trivial
  | succ n ih =>
    intro hx v1 v2 I L f0
    refine pn_lp [39, 85, 167, 169] 400 ?_
    conv => whnf
    refine ⟨fun _ => ?_, fun _ => ?_⟩
    · conv => whnf
      exact pn_dec n (hx _ _ _ _ f0)
    · conv => whnf
      intro _
      conv => whnf
      intro _
      conv => whnf
      intro _
      conv => whnf
      intro _
      conv => whnf
      intro _
      conv => whnf
      intro _
      conv => whnf
      intro _
      conv => whnf
      intro _
      conv => whnf
      exact ih (fun q0 q1 I L f => pn_dec n (hx q0 q1 I L f)) _ _ _ _ (fr_up rfl (fr_up rfl (fr_up rfl (fr_up rfl f0))))
set_option maxHeartbeats 4000000 in
set_option maxRecDepth 20000 in
theorem FxL150_169 {d : Nat} {k : jK} {I0 : jI}  : ∀ (n : Nat), (∀ (v1 : Option jV) (v2 : Option jV) (I : jI) (L : jL), fr [32] I0 I → pn (jPM d) k none (jco 150) n (193, [some (.inr (31, 0)), v1, v2], [], I, L)) → ∀ (v1 : Option jV) (v2 : Int32) (I : jI) (L : jL), fr [32] I0 I → pn (jPM d) k none (jco 150) n (169, [some (.inr (31, 0)), v1, some (.inl (.inl v2))], [], I, L) := by
  intro n
  induction n with
  | zero => intro _ v v I L f0; trivial
  | succ n ih =>
    intro hx v1 v2 I L f0
    refine pn_lp [39, 85, 169, 193] 400 ?_
    conv => whnf
    refine ⟨fun _ => ?_, fun _ => ?_⟩
    · conv => whnf
      exact pn_dec n (hx _ _ _ _ f0)
    · conv => whnf
      intro _
      conv => whnf
      exact ih (fun q0 q1 I L f => pn_dec n (hx q0 q1 I L f)) _ _ _ _ (fr_up rfl f0)
set_option maxHeartbeats 4000000 in
set_option maxRecDepth 20000 in
theorem Fx150 {d : Nat} {k : jK} {a1 : Int32} {I : jI} {L : jL} (hk : ∀ (x : Int32) (I' : jI) (L' : jL), fr [32, 33, 34, 39, 40, 32001, 32002, 32003, 32013, 32015, 32016, 32017, 32018, 32019, 32021] I I' → k (some (.inl (.inl x))) (I', L')) : jPM d 150 [.inr (31, 0), .inl (.inl a1)] (I, L) k := by
  refine pM (fun d n => ?_)
  refine pn_go [39, 85, 169] 400 ?_
  conv => whnf
  refine Fx129 (fun x1 I1 L1 f1 => ?_)
  conv => whnf
  refine ⟨fun _ => ?_, fun _ => ?_⟩
  · conv => whnf
    intro _
    conv => whnf
    refine ⟨fun _ => ?_, fun _ => ?_⟩
    · conv => whnf
      refine Fx148 (fun x2 I2 L2 f2 => ?_)
      conv => whnf
      refine ⟨fun _ => ?_, fun _ => ?_⟩
      · conv => whnf
        refine FxL150_39  _ (fun _ _ I3 L3 f3 => ?_) _ _ _ _ fr_rf
        refine pn_go [39, 85, 169] 400 ?_
        conv => whnf
        refine FxL150_85  _ (fun _ _ I4 L4 f4 => ?_) _ _ _ _ fr_rf
        refine pn_go [39, 85, 169] 400 ?_
        conv => whnf
        refine FxL150_169  _ (fun _ _ I5 L5 f5 => ?_) _ _ _ _ fr_rf
        refine pn_go [39, 85, 169] 400 ?_
        conv => whnf
        exact hk _ _ _ (fr_then (by decide) (fr_then (by decide) (fr_up rfl (fr_up rfl (fr_up rfl (fr_then (by decide) (fr_then (by decide) (fr_then (by decide) fr_rf f1) f2) f3)))) f4) f5)
      · conv => whnf
        exact hk _ _ _ (fr_then (by decide) (fr_then (by decide) fr_rf f1) f2)
    · conv => whnf
      refine Fx126 (fun x6 I6 L6 f6 => ?_)
      conv => whnf
      exact hk _ _ _ (fr_then (by decide) (fr_then (by decide) fr_rf f1) f6)
  · conv => whnf
    exact hk _ _ _ (fr_then (by decide) fr_rf f1)
set_option maxHeartbeats 4000000 in
set_option maxRecDepth 20000 in
theorem Fx151 {d : Nat} {k : jK} {a1 : Int32} {I : jI} {L : jL} (hk : ∀ (x : Int32) (I' : jI) (L' : jL), fr [] I I' → k (some (.inl (.inl x))) (I', L')) : jPM d 151 [.inr (31, 0), .inl (.inl a1)] (I, L) k := by
  refine pM (fun d n => ?_)
  refine pn_go [] 400 ?_
  conv => whnf
  refine Fx124 (fun x1 I1 L1 f1 => ?_)
  conv => whnf
  exact fun _ => hk _ _ _ (fr_then (by decide) fr_rf f1)
set_option maxHeartbeats 4000000 in
set_option maxRecDepth 20000 in
theorem Fx123 {d : Nat} {k : jK} {a0 : Int32} {I : jI} {L : jL} (hk : ∀ (x : Int32) (I' : jI) (L' : jL), fr [] I I' → k (some (.inl (.inl x))) (I', L')) : jPM d 123 [.inl (.inl a0)] (I, L) k := by
  refine pM (fun d n => ?_)
  refine pn_go [] 400 ?_
  conv => whnf
  refine ⟨fun _ => ?_, fun _ => ?_⟩
  · conv => whnf
    exact hk _ _ _ fr_rf
  · conv => whnf
    exact hk _ _ _ fr_rf
set_option maxHeartbeats 4000000 in
set_option maxRecDepth 20000 in
theorem Fx152 {d : Nat} {k : jK} {a0 : Int32} {a1 : Int32} {a2 : Int32} {a3 : Int32} {I : jI} {L : jL} (hk : ∀ (x : Int32) (I' : jI) (L' : jL), fr [] I I' → k (some (.inl (.inl x))) (I', L')) : jPM d 152 [.inl (.inl a0), .inl (.inl a1), .inl (.inl a2), .inl (.inl a3)] (I, L) k := by
  refine pM (fun d n => ?_)
  refine pn_go [] 400 ?_
  conv => whnf
  refine ⟨fun _ => ?_, fun _ => ?_⟩
  · conv => whnf
    refine And.intro (fun _ => ?_) (fun _ => ?_)
    · conv => whnf
      exact hk _ _ _ fr_rf
    refine jsw_cons (fun _ => ?_) (fun _ => ?_)
    · conv => whnf
      intro _
      conv => whnf
      exact hk _ _ _ fr_rf
    refine jsw_cons (fun _ => ?_) (fun _ => ?_)
    · conv => whnf
      intro _
      conv => whnf
      exact hk _ _ _ fr_rf
    refine jsw_cons (fun _ => ?_) (fun _ => ?_)
    · conv => whnf
      refine Fx123 (fun x1 I1 L1 f1 => ?_)
      conv => whnf
      exact hk _ _ _ (fr_then (by decide) fr_rf f1)
    refine jsw_cons (fun _ => ?_) (fun _ => ?_)
    · conv => whnf
      intro _
      conv => whnf
      exact hk _ _ _ fr_rf
    refine jsw_nil ?_
    conv => whnf
    exact hk _ _ _ fr_rf
  · conv => whnf
    intro _
    conv => whnf
    refine And.intro (fun _ => ?_) (fun _ => ?_)
    · conv => whnf
      exact hk _ _ _ fr_rf
    refine jsw_cons (fun _ => ?_) (fun _ => ?_)
    · conv => whnf
      intro _
      conv => whnf
      exact hk _ _ _ fr_rf
    refine jsw_cons (fun _ => ?_) (fun _ => ?_)
    · conv => whnf
      intro _
      conv => whnf
      exact hk _ _ _ fr_rf
    refine jsw_cons (fun _ => ?_) (fun _ => ?_)
    · conv => whnf
      refine Fx123 (fun x2 I2 L2 f2 => ?_)
      conv => whnf
      exact hk _ _ _ (fr_then (by decide) fr_rf f2)
    refine jsw_cons (fun _ => ?_) (fun _ => ?_)
    · conv => whnf
      intro _
      conv => whnf
      exact hk _ _ _ fr_rf
    refine jsw_nil ?_
    conv => whnf
    exact hk _ _ _ fr_rf
end
section
set_option maxHeartbeats 4000000 in
set_option maxRecDepth 20000 in
theorem Fx153 {d : Nat} {k : jK} {a1 : Int32} {a2 : Int32} {a3 : Int32} {I : jI} {L : jL} (hk : ∀ (x : Int32) (I' : jI) (L' : jL), fr [] I I' → k (some (.inl (.inl x))) (I', L')) : jPM d 153 [.inr (31, 0), .inl (.inl a1), .inl (.inl a2), .inl (.inl a3)] (I, L) k := by
  refine pM (fun d n => ?_)
  refine pn_go [] 400 ?_
  conv => whnf
  intro _
  conv => whnf
  intro _
  conv => whnf
  intro _
  conv => whnf
  refine Fx152 (fun x1 I1 L1 f1 => ?_)
  conv => whnf
  exact hk _ _ _ (fr_then (by decide) fr_rf f1)
set_option maxHeartbeats 4000000 in
set_option maxRecDepth 20000 in
theorem Fx154 {d : Nat} {k : jK} {a0 : Int32} {a1 : Int32} {I : jI} {L : jL} (hk : ∀ (x : Int32) (I' : jI) (L' : jL), fr [] I I' → k (some (.inl (.inl x))) (I', L')) : jPM d 154 [.inl (.inl a0), .inl (.inl a1)] (I, L) k := by
  refine pM (fun d n => ?_)
  refine pn_go [] 400 ?_
  conv => whnf
  refine ⟨fun _ => ?_, fun _ => ?_⟩
  · conv => whnf
    exact hk _ _ _ fr_rf
  · conv => whnf
    intro _
    conv => whnf
    exact hk _ _ _ fr_rf
set_option maxHeartbeats 4000000 in
set_option maxRecDepth 20000 in
theorem Fx155 {d : Nat} {k : jK} {a1 : Int32} {a2 : Int32} {I : jI} {L : jL} (hk : ∀ (x : Int32) (I' : jI) (L' : jL), fr [] I I' → k (some (.inl (.inl x))) (I', L')) : jPM d 155 [.inr (31, 0), .inl (.inl a1), .inl (.inl a2)] (I, L) k := by
  refine pM (fun d n => ?_)
  refine pn_go [] 400 ?_
  conv => whnf
  intro _
  conv => whnf
  intro _
  conv => whnf
  refine Fx154 (fun x1 I1 L1 f1 => ?_)
  conv => whnf
  exact hk _ _ _ (fr_then (by decide) fr_rf f1)
set_option maxHeartbeats 4000000 in
set_option maxRecDepth 20000 in
theorem Fx156 {d : Nat} {k : jK} {a1 : Int32} {I : jI} {L : jL} (hk : ∀ (x : Int32) (I' : jI) (L' : jL), fr [] I I' → k (some (.inl (.inl x))) (I', L')) : jPM d 156 [.inr (31, 0), .inl (.inl a1)] (I, L) k := by
  refine pM (fun d n => ?_)
  refine pn_go [] 400 ?_
  conv => whnf
  intro _
  conv => whnf
  refine ⟨fun _ => ?_, fun _ => ?_⟩
  · conv => whnf
    intro _
    conv => whnf
    exact hk _ _ _ fr_rf
  · conv => whnf
    intro _
    conv => whnf
    intro _
    conv => whnf
    exact hk _ _ _ fr_rf
set_option maxHeartbeats 4000000 in
set_option maxRecDepth 20000 in
theorem FxL162_4 {d : Nat} {k : jK} {I0 : jI}  : ∀ (n : Nat), (∀ (v0 : Option jV) (v1 : Option jV) (v2 : Int32) (v3 : Option jV) (I : jI) (L : jL), fr [] I0 I → pn (jPM d) k none (jco 162) n (30, [v0, v1, some (.inl (.inl v2)), v3], [], I, L)) → ∀ (v1 : Int32) (v2 : Int32) (v3 : Int32) (I : jI) (L : jL), fr [] I0 I → pn (jPM d) k none (jco 162) n (4, [some (.inr (31, 0)), some (.inl (.inl v1)), some (.inl (.inl v2)), some (.inl (.inl v3))], [], I, L) := by
  intro n
  induction n with
  | zero => intro _ v v v I L f0; trivial
  | succ n ih =>
    intro hx v1 v2 v3 I L f0
    refine pn_lp [4, 30] 400 ?_
    conv => whnf
    refine ⟨fun _ => ?_, fun _ => ?_⟩
    · conv => whnf
      exact pn_dec n (hx _ _ _ _ _ _ f0)
    · conv => whnf
      intro _
      conv => whnf
      exact ih (fun q0 q1 q2 q3 I L f => pn_dec n (hx q0 q1 q2 q3 I L f)) _ _ _ _ _ f0
set_option maxHeartbeats 4000000 in
set_option maxRecDepth 20000 in
theorem Fx162 {d : Nat} {k : jK} {a1 : Int32} {I : jI} {L : jL} (hk : ∀ (x : Int32) (I' : jI) (L' : jL), fr [] I I' → k (some (.inl (.inl x))) (I', L')) : jPM d 162 [.inr (31, 0), .inl (.inl a1)] (I, L) k := by
  refine pM (fun d n => ?_)
  refine pn_go [4] 400 ?_
  conv => whnf
  refine FxL162_4  _ (fun _ _ _ _ I1 L1 f1 => ?_) _ _ _ _ _ fr_rf
  refine pn_go [4] 400 ?_
  conv => whnf
  exact hk _ _ _ (fr_then (by decide) fr_rf f1)
set_option maxHeartbeats 4000000 in
set_option maxRecDepth 20000 in
theorem FxL163_2 {d : Nat} {k : jK} {I0 : jI}  : ∀ (n : Nat), (∀ (v1 : Option jV) (I : jI) (L : jL), fr [32] I0 I → pn (jPM d) k none (jco 163) n (41, [some (.inr (31, 0)), v1], [], I, L)) → ∀ (v1 : Int32) (I : jI) (L : jL), fr [32] I0 I → pn (jPM d) k none (jco 163) n (2, [some (.inr (31, 0)), some (.inl (.inl v1))], [], I, L) := by
  intro n
  induction n with
  | zero => intro _ v I L f0; trivial
  | succ n ih =>
    intro hx v1 I L f0
    refine pn_lp [2, 41] 400 ?_
    conv => whnf
    refine ⟨fun _ => ?_, fun _ => ?_⟩
    · conv => whnf
      exact pn_dec n (hx _ _ _ f0)
    · conv => whnf
      intro _
      conv => whnf
      intro _
      conv => whnf
      intro _
      conv => whnf
      exact ih (fun q0 I L f => pn_dec n (hx q0 I L f)) _ _ _ (fr_up rfl f0)
set_option maxHeartbeats 4000000 in
set_option maxRecDepth 20000 in
theorem Fx163 {d : Nat} {k : jK} {I : jI} {L : jL} (hk : ∀ (I' : jI) (L' : jL), fr [32] I I' → k none (I', L')) : jPM d 163 [.inr (31, 0)] (I, L) k := by
  refine pM (fun d n => ?_)
  refine pn_go [2] 400 ?_
  conv => whnf
  refine FxL163_2  _ (fun _ I1 L1 f1 => ?_) _ _ _ fr_rf
  refine pn_go [2] 400 ?_
  conv => whnf
  intro _
  conv => whnf
  intro _
  conv => whnf
  exact hk _ _ (fr_up rfl (fr_then (by decide) fr_rf f1))
set_option maxHeartbeats 4000000 in
set_option maxRecDepth 20000 in
theorem Fx164 {d : Nat} {k : jK} {a1 : Int32} {a2 : Int32} {a3 : Int32} {I : jI} {L : jL} (hk : ∀ (x : Int32) (I' : jI) (L' : jL), fr [] I I' → k (some (.inl (.inl x))) (I', L')) : jPM d 164 [.inr (31, 0), .inl (.inl a1), .inl (.inl a2), .inl (.inl a3)] (I, L) k := by
  refine pM (fun d n => ?_)
  refine pn_go [] 400 ?_
  conv => whnf
  refine Fx162 (fun x1 I1 L1 f1 => ?_)
  conv => whnf
  refine Fx155 (fun x2 I2 L2 f2 => ?_)
  conv => whnf
  refine ⟨fun _ => ?_, fun _ => ?_⟩
  · conv => whnf
    exact fun _ => hk _ _ _ (fr_then (by decide) (fr_then (by decide) fr_rf f1) f2)
  · conv => whnf
    exact fun _ => hk _ _ _ (fr_then (by decide) (fr_then (by decide) fr_rf f1) f2)
set_option maxHeartbeats 4000000 in
set_option maxRecDepth 20000 in
theorem Fx165 {d : Nat} {k : jK} {a1 : Int32} {a2 : Int32} {a3 : Int32} {I : jI} {L : jL} (hk : ∀ (x : Int32) (I' : jI) (L' : jL), fr [32] I I' → k (some (.inl (.inl x))) (I', L')) : jPM d 165 [.inr (31, 0), .inl (.inl a1), .inl (.inl a2), .inl (.inl a3)] (I, L) k := by
  refine pM (fun d n => ?_)
  refine pn_go [] 400 ?_
  conv => whnf
  refine Fx153 (fun x1 I1 L1 f1 => ?_)
  conv => whnf
  intro _
  conv => whnf
  intro _
  conv => whnf
  refine Fx156 (fun x2 I2 L2 f2 => ?_)
  conv => whnf
  intro _
  conv => whnf
  refine Fx155 (fun x3 I3 L3 f3 => ?_)
  conv => whnf
  intro _
  conv => whnf
  exact hk _ _ _ (fr_up rfl (fr_then (by decide) (fr_then (by decide) (fr_up rfl (fr_then (by decide) fr_rf f1)) f2) f3))
set_option maxHeartbeats 4000000 in
set_option maxRecDepth 20000 in
theorem Fx166 {d : Nat} {k : jK} {a1 : Int32} {a2 : Int32} {I : jI} {L : jL} (hk : ∀ (x : Int32) (I' : jI) (L' : jL), fr [32] I I' → k (some (.inl (.inl x))) (I', L')) : jPM d 166 [.inr (31, 0), .inl (.inl a1), .inl (.inl a2)] (I, L) k := by
  refine pM (fun d n => ?_)
  refine pn_go [] 400 ?_
  conv => whnf
  refine Fx151 (fun x1 I1 L1 f1 => ?_)
  conv => whnf
  refine ⟨fun _ => ?_, fun _ => ?_⟩
  · conv => whnf
    exact hk _ _ _ (fr_then (by decide) fr_rf f1)
  · conv => whnf
    refine Fx124 (fun x2 I2 L2 f2 => ?_)
    conv => whnf
    refine ⟨fun _ => ?_, fun _ => ?_⟩
    · conv => whnf
      refine Fx164 (fun x3 I3 L3 f3 => ?_)
      conv => whnf
      refine ⟨fun _ => ?_, fun _ => ?_⟩
      · conv => whnf
        intro _
        conv => whnf
        refine ⟨fun _ => ?_, fun _ => ?_⟩
        · conv => whnf
          refine Fx163 (fun I4 L4 f4 => ?_)
          conv => whnf
          refine Fx165 (fun x5 I5 L5 f5 => ?_)
          conv => whnf
          exact hk _ _ _ (fr_then (by decide) (fr_then (by decide) (fr_then (by decide) (fr_then (by decide) (fr_then (by decide) fr_rf f1) f2) f3) f4) f5)
        · conv => whnf
          exact hk _ _ _ (fr_then (by decide) (fr_then (by decide) (fr_then (by decide) fr_rf f1) f2) f3)
      · conv => whnf
        exact hk _ _ _ (fr_then (by decide) (fr_then (by decide) (fr_then (by decide) fr_rf f1) f2) f3)
    · conv => whnf
      exact hk _ _ _ (fr_then (by decide) (fr_then (by decide) fr_rf f1) f2)
set_option maxHeartbeats 4000000 in
set_option maxRecDepth 20000 in
theorem FxL167_7 {d : Nat} {k : jK} {I0 : jI}  : ∀ (n : Nat), (∀ (v1 : Int32) (v2 : Int32) (v3 : Option jV) (v4 : Option jV) (I : jI) (L : jL), fr [32] I0 I → pn (jPM d) k none (jco 167) n (72, [some (.inr (31, 0)), some (.inl (.inl v1)), some (.inl (.inl v2)), v3, v4], [], I, L)) → ∀ (v1 : Int32) (v2 : Int32) (v3 : Int32) (v4 : Option jV) (I : jI) (L : jL), fr [32] I0 I → pn (jPM d) k none (jco 167) n (7, [some (.inr (31, 0)), some (.inl (.inl v1)), some (.inl (.inl v2)), some (.inl (.inl v3)), v4], [], I, L) := by
  intro n
  induction n with
  | zero => intro _ v v v v I L f0; trivial
  | succ n ih =>
    intro hx v1 v2 v3 v4 I L f0
    refine pn_lp [7, 72, 126] 400 ?_
    conv => whnf
    refine ⟨fun _ => ?_, fun _ => ?_⟩
    · conv => whnf
      exact pn_dec n (hx _ _ _ _ _ _ f0)
    · conv => whnf
      intro _
      conv => whnf
      refine ⟨fun _ => ?_, fun _ => ?_⟩
      · conv => whnf
        intro _
        conv => whnf
        intro _
        conv => whnf
        exact ih (fun q0 q1 q2 q3 I L f => pn_dec n (hx q0 q1 q2 q3 I L f)) _ _ _ _ _ _ (fr_up rfl f0)
      · conv => whnf
        intro _
        conv => whnf
        intro _
        conv => whnf
        intro _
        conv => whnf
        exact ih (fun q0 q1 q2 q3 I L f => pn_dec n (hx q0 q1 q2 q3 I L f)) _ _ _ _ _ _ (fr_up rfl f0)
set_option maxHeartbeats 4000000 in
set_option maxRecDepth 20000 in
theorem FxL167_126 {d : Nat} {k : jK} {I0 : jI}  : ∀ (n : Nat), (∀ (v1 : Int32) (v2 : Option jV) (v3 : Int32) (v4 : Option jV) (I : jI) (L : jL), fr [32] I0 I → pn (jPM d) k none (jco 167) n (165, [some (.inr (31, 0)), some (.inl (.inl v1)), v2, some (.inl (.inl v3)), v4], [], I, L)) → ∀ (v1 : Int32) (v2 : Option jV) (v3 : Int32) (v4 : Int32) (I : jI) (L : jL), fr [32] I0 I → pn (jPM d) k none (jco 167) n (126, [some (.inr (31, 0)), some (.inl (.inl v1)), v2, some (.inl (.inl v3)), some (.inl (.inl v4))], [], I, L) := by
  intro n
  induction n with
  | zero => intro _ v v v v I L f0; trivial
  | succ n ih =>
    intro hx v1 v2 v3 v4 I L f0
    refine pn_lp [7, 126, 165] 400 ?_
    conv => whnf
    refine ⟨fun _ => ?_, fun _ => ?_⟩
    · conv => whnf
      exact pn_dec n (hx _ _ _ _ _ _ f0)
    · conv => whnf
      intro _
      conv => whnf
      intro _
      conv => whnf
      exact ih (fun q0 q1 q2 q3 I L f => pn_dec n (hx q0 q1 q2 q3 I L f)) _ _ _ _ _ _ (fr_up rfl f0)
set_option maxHeartbeats 4000000 in
set_option maxRecDepth 20000 in
theorem Fx167 {d : Nat} {k : jK} {a1 : Int32} {I : jI} {L : jL} (hk : ∀ (x : Int32) (I' : jI) (L' : jL), fr [32] I I' → k (some (.inl (.inl x))) (I', L')) : jPM d 167 [.inr (31, 0), .inl (.inl a1)] (I, L) k := by
  refine pM (fun d n => ?_)
  refine pn_go [7, 126] 400 ?_
  conv => whnf
  refine FxL167_7  _ (fun _ _ _ _ I1 L1 f1 => ?_) _ _ _ _ _ _ fr_rf
  refine pn_go [7, 126] 400 ?_
  conv => whnf
  intro _
  conv => whnf
  intro _
  conv => whnf
  intro _
  conv => whnf
  intro _
  conv => whnf
  intro _
  conv => whnf
  intro _
  conv => whnf
  intro _
  conv => whnf
  refine FxL167_126  _ (fun _ _ _ _ I2 L2 f2 => ?_) _ _ _ _ _ _ fr_rf
  refine pn_go [7, 126] 400 ?_
  conv => whnf
  intro _
  conv => whnf
  intro _
  conv => whnf
  intro _
  conv => whnf
  exact hk _ _ _ (fr_up rfl (fr_up rfl (fr_then (by decide) (fr_up rfl (fr_up rfl (fr_up rfl (fr_then (by decide) fr_rf f1)))) f2)))
set_option maxHeartbeats 4000000 in
set_option maxRecDepth 20000 in
theorem Fx168 {d : Nat} {k : jK} {I : jI} {L : jL} (hk : ∀ (x : Int32) (I' : jI) (L' : jL), fr [32] I I' → k (some (.inl (.inl x))) (I', L')) : jPM d 168 [.inr (31, 0)] (I, L) k := by
  refine pM (fun d n => ?_)
  refine pn_go [] 400 ?_
  conv => whnf
  refine ⟨fun _ => ?_, fun _ => ?_⟩
  · conv => whnf
    intro _
    conv => whnf
    refine ⟨fun _ => ?_, fun _ => ?_⟩
    · conv => whnf
      refine Fx163 (fun I1 L1 f1 => ?_)
      conv => whnf
      refine Fx167 (fun x2 I2 L2 f2 => ?_)
      conv => whnf
      exact hk _ _ _ (fr_then (by decide) (fr_then (by decide) fr_rf f1) f2)
    · conv => whnf
      exact hk _ _ _ fr_rf
  · conv => whnf
    exact hk _ _ _ fr_rf
set_option maxHeartbeats 4000000 in
set_option maxRecDepth 20000 in
theorem Fx169 {d : Nat} {k : jK} {a1 : Int32} {I : jI} {L : jL} (hk : ∀ (x : Int32) (I' : jI) (L' : jL), fr [32] I I' → k (some (.inl (.inl x))) (I', L')) : jPM d 169 [.inr (31, 0), .inl (.inl a1)] (I, L) k := by
  refine pM (fun d n => ?_)
  refine pn_go [] 400 ?_
  conv => whnf
  refine Fx151 (fun x1 I1 L1 f1 => ?_)
  conv => whnf
  refine ⟨fun _ => ?_, fun _ => ?_⟩
  · conv => whnf
    intro _
    conv => whnf
    refine ⟨fun _ => ?_, fun _ => ?_⟩
    · conv => whnf
      intro _
      conv => whnf
      refine ⟨fun _ => ?_, fun _ => ?_⟩
      · conv => whnf
        refine Fx163 (fun I2 L2 f2 => ?_)
        conv => whnf
        intro _
        conv => whnf
        intro _
        conv => whnf
        intro _
        conv => whnf
        exact hk _ _ _ (fr_up rfl (fr_then (by decide) (fr_then (by decide) fr_rf f1) f2))
      · conv => whnf
        exact hk _ _ _ (fr_then (by decide) fr_rf f1)
    · conv => whnf
      exact hk _ _ _ (fr_then (by decide) fr_rf f1)
  · conv => whnf
    exact hk _ _ _ (fr_then (by decide) fr_rf f1)
set_option maxHeartbeats 4000000 in
set_option maxRecDepth 20000 in
theorem Fx170 {d : Nat} {k : jK} {a1 : Int32} {a2 : Int32} {I : jI} {L : jL} (hk : ∀ (x : Int32) (I' : jI) (L' : jL), fr [32] I I' → k (some (.inl (.inl x))) (I', L')) : jPM d 170 [.inr (31, 0), .inl (.inl a1), .inl (.inl a2)] (I, L) k := by
  refine pM (fun d n => ?_)
  refine pn_go [] 400 ?_
  conv => whnf
  intro _
  conv => whnf
  refine ⟨fun _ => ?_, fun _ => ?_⟩
  · conv => whnf
    intro _
    conv => whnf
    refine ⟨fun _ => ?_, fun _ => ?_⟩
    · conv => whnf
      refine Fx163 (fun I1 L1 f1 => ?_)
      conv => whnf
      intro _
      conv => whnf
      intro _
      conv => whnf
      exact hk _ _ _ (fr_up rfl (fr_then (by decide) fr_rf f1))
    · conv => whnf
      exact hk _ _ _ fr_rf
  · conv => whnf
    exact hk _ _ _ fr_rf
set_option maxHeartbeats 4000000 in
set_option maxRecDepth 20000 in
theorem Fx171 {d : Nat} {k : jK} {a1 : Int32} {a2 : Int32} {I : jI} {L : jL} (hk : ∀ (x : Int32) (I' : jI) (L' : jL), fr [32] I I' → k (some (.inl (.inl x))) (I', L')) : jPM d 171 [.inr (31, 0), .inl (.inl a1), .inl (.inl a2)] (I, L) k := by
  refine pM (fun d n => ?_)
  refine pn_go [] 400 ?_
  conv => whnf
  refine Fx151 (fun x1 I1 L1 f1 => ?_)
  conv => whnf
  refine ⟨fun _ => ?_, fun _ => ?_⟩
  · conv => whnf
    exact hk _ _ _ (fr_then (by decide) fr_rf f1)
  · conv => whnf
    refine Fx124 (fun x2 I2 L2 f2 => ?_)
    conv => whnf
    refine ⟨fun _ => ?_, fun _ => ?_⟩
    · conv => whnf
      exact hk _ _ _ (fr_then (by decide) (fr_then (by decide) fr_rf f1) f2)
    · conv => whnf
      refine Fx170 (fun x3 I3 L3 f3 => ?_)
      conv => whnf
      exact hk _ _ _ (fr_then (by decide) (fr_then (by decide) (fr_then (by decide) fr_rf f1) f2) f3)
set_option maxHeartbeats 4000000 in
set_option maxRecDepth 20000 in
theorem Fx172 {d : Nat} {k : jK} {a1 : Int32} {I : jI} {L : jL} (hk : ∀ (x : Int32) (I' : jI) (L' : jL), fr [32] I I' → k (some (.inl (.inl x))) (I', L')) : jPM d 172 [.inr (31, 0), .inl (.inl a1)] (I, L) k := by
  refine pM (fun d n => ?_)
  refine pn_go [] 400 ?_
  conv => whnf
  refine Fx124 (fun x1 I1 L1 f1 => ?_)
  conv => whnf
  refine ⟨fun _ => ?_, fun _ => ?_⟩
  · conv => whnf
    refine ⟨fun _ => ?_, fun _ => ?_⟩
    · conv => whnf
      refine Fx170 (fun x2 I2 L2 f2 => ?_)
      conv => whnf
      refine ⟨fun _ => ?_, fun _ => ?_⟩
      · conv => whnf
        exact hk _ _ _ (fr_then (by decide) (fr_then (by decide) fr_rf f1) f2)
      · conv => whnf
        exact hk _ _ _ (fr_then (by decide) (fr_then (by decide) fr_rf f1) f2)
    · conv => whnf
      exact hk _ _ _ (fr_then (by decide) fr_rf f1)
  · conv => whnf
    exact hk _ _ _ (fr_then (by decide) fr_rf f1)
set_option maxHeartbeats 4000000 in
set_option maxRecDepth 20000 in
theorem FxL173_29 {d : Nat} {k : jK} {I0 : jI}  : ∀ (n : Nat), (∀ (v1 : Int32) (v2 : Int32) (v3 : Option jV) (I : jI) (L : jL), fr [32] I0 I → pn (jPM d) k none (jco 173) n (67, [some (.inr (31, 0)), some (.inl (.inl v1)), some (.inl (.inl v2)), v3], [], I, L)) → ∀ (v1 : Int32) (v2 : Int32) (v3 : Int32) (I : jI) (L : jL), fr [32] I0 I → pn (jPM d) k none (jco 173) n (29, [some (.inr (31, 0)), some (.inl (.inl v1)), some (.inl (.inl v2)), some (.inl (.inl v3))], [], I, L) := by
  intro n
  induction n with
  | zero => intro _ v v v I L f0; trivial
  | succ n ih =>
    intro hx v1 v2 v3 I L f0
    refine pn_lp [29, 67] 400 ?_
    conv => whnf
    refine ⟨fun _ => ?_, fun _ => ?_⟩
    · conv => whnf
      exact pn_dec n (hx _ _ _ _ _ f0)
    · conv => whnf
      refine ⟨fun _ => ?_, fun _ => ?_⟩
      · conv => whnf
        exact pn_dec n (hx _ _ _ _ _ f0)
      · conv => whnf
        intro _
        conv => whnf
        intro _
        conv => whnf
        exact ih (fun q0 q1 q2 I L f => pn_dec n (hx q0 q1 q2 I L f)) _ _ _ _ _ (fr_up rfl f0)
set_option maxHeartbeats 4000000 in
set_option maxRecDepth 20000 in
theorem Fx173 {d : Nat} {k : jK} {a1 : Int32} {I : jI} {L : jL} (hk : ∀ (x : Int32) (I' : jI) (L' : jL), fr [32] I I' → k (some (.inl (.inl x))) (I', L')) : jPM d 173 [.inr (31, 0), .inl (.inl a1)] (I, L) k := by
  refine pM (fun d n => ?_)
  refine pn_go [29] 400 ?_
  conv => whnf
  intro _
  conv => whnf
  refine Fx124 (fun x1 I1 L1 f1 => ?_)
  conv => whnf
  refine ⟨fun _ => ?_, fun _ => ?_⟩
  · conv => whnf
    intro _
    conv => whnf
    refine FxL173_29  _ (fun _ _ _ I2 L2 f2 => ?_) _ _ _ _ _ fr_rf
    refine pn_go [29] 400 ?_
    conv => whnf
    intro _
    conv => whnf
    exact hk _ _ _ (fr_up rfl (fr_then (by decide) (fr_then (by decide) fr_rf f1) f2))
  · conv => whnf
    exact hk _ _ _ (fr_then (by decide) fr_rf f1)
set_option maxHeartbeats 4000000 in
set_option maxRecDepth 20000 in
theorem FxL174_2 {d : Nat} {k : jK} {I0 : jI}  : ∀ (n : Nat), (∀ (v0 : Option jV) (v1 : Option jV) (v2 : Option jV) (v3 : Option jV) (I : jI) (L : jL), fr [32] I0 I → pn (jPM d) k none (jco 174) n (31, [v0, v1, v2, v3], [], I, L)) → ∀ (v1 : Int32) (v2 : Int32) (v3 : Int32) (I : jI) (L : jL), fr [32] I0 I → pn (jPM d) k none (jco 174) n (2, [some (.inr (31, 0)), some (.inl (.inl v1)), some (.inl (.inl v2)), some (.inl (.inl v3))], [], I, L) := by
  intro n
  induction n with
  | zero => intro _ v v v I L f0; trivial
  | succ n ih =>
    intro hx v1 v2 v3 I L f0
    refine pn_lp [2, 31] 400 ?_
    conv => whnf
    refine ⟨fun _ => ?_, fun _ => ?_⟩
    · conv => whnf
      exact pn_dec n (hx _ _ _ _ _ _ f0)
    · conv => whnf
      intro _
      conv => whnf
      intro _
      conv => whnf
      exact ih (fun q0 q1 q2 q3 I L f => pn_dec n (hx q0 q1 q2 q3 I L f)) _ _ _ _ _ (fr_up rfl f0)
set_option maxHeartbeats 4000000 in
set_option maxRecDepth 20000 in
theorem Fx174 {d : Nat} {k : jK} {a1 : Int32} {a2 : Int32} {I : jI} {L : jL} (hk : ∀ (I' : jI) (L' : jL), fr [32] I I' → k none (I', L')) : jPM d 174 [.inr (31, 0), .inl (.inl a1), .inl (.inl a2)] (I, L) k := by
  refine pM (fun d n => ?_)
  refine pn_go [2] 400 ?_
  conv => whnf
  refine FxL174_2  _ (fun _ _ _ _ I1 L1 f1 => ?_) _ _ _ _ _ fr_rf
  refine pn_go [2] 400 ?_
  conv => whnf
  exact hk _ _ (fr_then (by decide) fr_rf f1)
set_option maxHeartbeats 4000000 in
set_option maxRecDepth 20000 in
theorem Fx175 {d : Nat} {k : jK} {a1 : Int32} {I : jI} {L : jL} (hk : ∀ (x : Int32) (I' : jI) (L' : jL), fr [32] I I' → k (some (.inl (.inl x))) (I', L')) : jPM d 175 [.inr (31, 0), .inl (.inl a1)] (I, L) k := by
  refine pM (fun d n => ?_)
  refine pn_go [] 400 ?_
  conv => whnf
  refine Fx124 (fun x1 I1 L1 f1 => ?_)
  conv => whnf
  refine ⟨fun _ => ?_, fun _ => ?_⟩
  · conv => whnf
    refine ⟨fun _ => ?_, fun _ => ?_⟩
    · conv => whnf
      refine Fx174 (fun I2 L2 f2 => ?_)
      conv => whnf
      intro _
      conv => whnf
      exact hk _ _ _ (fr_then (by decide) (fr_then (by decide) fr_rf f1) f2)
    · conv => whnf
      exact hk _ _ _ (fr_then (by decide) fr_rf f1)
  · conv => whnf
    exact hk _ _ _ (fr_then (by decide) fr_rf f1)
set_option maxHeartbeats 4000000 in
set_option maxRecDepth 20000 in
theorem Fx176 {d : Nat} {k : jK} {a1 : Int32} {I : jI} {L : jL} (hk : ∀ (x : Int32) (I' : jI) (L' : jL), fr [32, 39, 32013] I I' → k (some (.inl (.inl x))) (I', L')) : jPM d 176 [.inr (31, 0), .inl (.inl a1)] (I, L) k := by
  refine pM (fun d n => ?_)
  refine pn_go [] 400 ?_
  conv => whnf
  refine Fx124 (fun x1 I1 L1 f1 => ?_)
  conv => whnf
  refine ⟨fun _ => ?_, fun _ => ?_⟩
  · conv => whnf
    intro _
    conv => whnf
    refine ⟨fun _ => ?_, fun _ => ?_⟩
    · conv => whnf
      refine Fx174 (fun I2 L2 f2 => ?_)
      conv => whnf
      intro _
      conv => whnf
      exact hk _ _ _ (fr_then (by decide) (fr_then (by decide) fr_rf f1) f2)
    · conv => whnf
      refine Fx126 (fun x3 I3 L3 f3 => ?_)
      conv => whnf
      exact hk _ _ _ (fr_then (by decide) (fr_then (by decide) fr_rf f1) f3)
  · conv => whnf
    exact hk _ _ _ (fr_then (by decide) fr_rf f1)
end
section
set_option maxHeartbeats 4000000 in
set_option maxRecDepth 20000 in
theorem FxL207_58 {d : Nat} {k : jK} {I0 : jI}  : ∀ (n : Nat), (∀ (v1 : Option jV) (v2 : Option jV) (v3 : Option jV) (v4 : Option jV) (v5 : Option jV) (v6 : Option jV) (v7 : Option jV) (I : jI) (L : jL), fr [32] I0 I → pn (jPM d) k none (jco 207) n (178, [some (.inr (31, 0)), v1, v2, v3, v4, v5, v6, v7], [], I, L)) → ∀ (v1 : Int32) (v2 : Option jV) (v3 : Int64) (v5 : Int32) (v6 : Option jV) (v7 : Option jV) (I : jI) (L : jL), fr [32] I0 I → pn (jPM d) k none (jco 207) n (58, [some (.inr (31, 0)), some (.inl (.inl v1)), v2, some (.inl (.inr v3)), none, some (.inl (.inl v5)), v6, v7], [], I, L) := by
  intro n
  induction n with
  | zero => intro _ v v v v v v I L f0; trivial
  | succ n ih =>
    intro hx v1 v2 v3 v5 v6 v7 I L f0
    refine pn_lp [58, 178] 400 ?_
    conv => whnf
    refine ⟨fun _ => ?_, fun _ => ?_⟩
    · conv => whnf
      exact pn_dec n (hx _ _ _ _ _ _ _ _ _ f0)
    · conv => whnf
      intro _
      conv => whnf
      intro _
      conv => whnf
      intro _
      conv => whnf
      intro _
      conv => whnf
      refine Fx163 (fun I1 L1 f1 => ?_)
      conv => whnf
      refine ⟨fun _ => ?_, fun _ => ?_⟩
      · conv => whnf
        refine ⟨fun _ => ?_, fun _ => ?_⟩
        · conv => whnf
          refine Fx167 (fun x2 I2 L2 f2 => ?_)
          conv => whnf
          exact ih (fun q0 q1 q2 q3 q4 q5 q6 I L f => pn_dec n (hx q0 q1 q2 q3 q4 q5 q6 I L f)) _ _ _ _ _ _ _ _ (fr_then (by decide) (fr_then (by decide) f0 f1) f2)
        · conv => whnf
          intro _
          conv => whnf
          refine ⟨fun _ => ?_, fun _ => ?_⟩
          · conv => whnf
            refine Fx167 (fun x3 I3 L3 f3 => ?_)
            conv => whnf
            exact ih (fun q0 q1 q2 q3 q4 q5 q6 I L f => pn_dec n (hx q0 q1 q2 q3 q4 q5 q6 I L f)) _ _ _ _ _ _ _ _ (fr_then (by decide) (fr_then (by decide) f0 f1) f3)
          · conv => whnf
            intro _
            conv => whnf
            intro _
            conv => whnf
            exact ih (fun q0 q1 q2 q3 q4 q5 q6 I L f => pn_dec n (hx q0 q1 q2 q3 q4 q5 q6 I L f)) _ _ _ _ _ _ _ _ (fr_up rfl (fr_then (by decide) f0 f1))
      · conv => whnf
        refine Fx164 (fun x4 I4 L4 f4 => ?_)
        conv => whnf
        refine ⟨fun _ => ?_, fun _ => ?_⟩
        · conv => whnf
          refine ⟨fun _ => ?_, fun _ => ?_⟩
          · conv => whnf
            refine Fx167 (fun x5 I5 L5 f5 => ?_)
            conv => whnf
            exact ih (fun q0 q1 q2 q3 q4 q5 q6 I L f => pn_dec n (hx q0 q1 q2 q3 q4 q5 q6 I L f)) _ _ _ _ _ _ _ _ (fr_then (by decide) (fr_then (by decide) (fr_then (by decide) f0 f1) f4) f5)
          · conv => whnf
            intro _
            conv => whnf
            refine ⟨fun _ => ?_, fun _ => ?_⟩
            · conv => whnf
              refine Fx167 (fun x6 I6 L6 f6 => ?_)
              conv => whnf
              exact ih (fun q0 q1 q2 q3 q4 q5 q6 I L f => pn_dec n (hx q0 q1 q2 q3 q4 q5 q6 I L f)) _ _ _ _ _ _ _ _ (fr_then (by decide) (fr_then (by decide) (fr_then (by decide) f0 f1) f4) f6)
            · conv => whnf
              intro _
              conv => whnf
              intro _
              conv => whnf
              exact ih (fun q0 q1 q2 q3 q4 q5 q6 I L f => pn_dec n (hx q0 q1 q2 q3 q4 q5 q6 I L f)) _ _ _ _ _ _ _ _ (fr_up rfl (fr_then (by decide) (fr_then (by decide) f0 f1) f4))
        · conv => whnf
          refine Fx165 (fun x7 I7 L7 f7 => ?_)
          conv => whnf
          exact ih (fun q0 q1 q2 q3 q4 q5 q6 I L f => pn_dec n (hx q0 q1 q2 q3 q4 q5 q6 I L f)) _ _ _ _ _ _ _ _ (fr_then (by decide) (fr_then (by decide) (fr_then (by decide) f0 f1) f4) f7)
set_option maxHeartbeats 4000000 in
set_option maxRecDepth 20000 in
theorem Fx207 {d : Nat} {k : jK} {a1 : Int32} {a2 : Int32} {I : jI} {L : jL} (hk : ∀ (x : Int32) (I' : jI) (L' : jL), fr [32] I I' → k (some (.inl (.inl x))) (I', L')) : jPM d 207 [.inr (31, 0), .inl (.inl a1), .inl (.inl a2)] (I, L) k := by
  refine pM (fun d n => ?_)
  refine pn_go [58] 400 ?_
  conv => whnf
  refine Fx124 (fun x1 I1 L1 f1 => ?_)
  conv => whnf
  refine ⟨fun _ => ?_, fun _ => ?_⟩
  · conv => whnf
    exact hk _ _ _ (fr_then (by decide) fr_rf f1)
  · conv => whnf
    refine Fx124 (fun x2 I2 L2 f2 => ?_)
    conv => whnf
    refine ⟨fun _ => ?_, fun _ => ?_⟩
    · conv => whnf
      refine ⟨fun _ => ?_, fun _ => ?_⟩
      · conv => whnf
        intro _
        conv => whnf
        refine ⟨fun _ => ?_, fun _ => ?_⟩
        · conv => whnf
          refine FxL207_58  _ (fun _ _ _ _ _ _ _ I3 L3 f3 => ?_) _ _ _ _ _ _ _ _ fr_rf
          refine pn_go [58] 400 ?_
          conv => whnf
          refine Fx162 (fun x4 I4 L4 f4 => ?_)
          conv => whnf
          exact hk _ _ _ (fr_then (by decide) (fr_then (by decide) (fr_then (by decide) (fr_then (by decide) fr_rf f1) f2) f3) f4)
        · conv => whnf
          exact hk _ _ _ (fr_then (by decide) (fr_then (by decide) fr_rf f1) f2)
      · conv => whnf
        exact hk _ _ _ (fr_then (by decide) (fr_then (by decide) fr_rf f1) f2)
    · conv => whnf
      exact hk _ _ _ (fr_then (by decide) (fr_then (by decide) fr_rf f1) f2)
end
