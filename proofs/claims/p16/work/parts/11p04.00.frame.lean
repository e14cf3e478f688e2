/-! printed by program: which cells a method leaves as they are (partially): arrays by group, fields one by one -/
noncomputable def jcd (g j : Nat) : Nat := match g with
  | 0 => 1000 + j
  | 3 => 4000 + j
  | 4 => 5000 + j
  | 9 => 10000 + j
  | 31 => 32000 + j
  | _ => g
noncomputable def fr (W : List Nat) (I I' : jI) : Prop := ∀ g i j, jel (jcd g j) W = false → I' g i j = I g i j
theorem fr_rf {W : List Nat} {I : jI} : fr W I I := fun _ _ _ _ => rfl
theorem fr_up {W : List Nat} {I I' : jI} {g0 i0 j0 : Nat} {v : Int32} (h0 : jel (jcd g0 j0) W = true) (h : fr W I I') : fr W I (jup I' g0 i0 j0 v) := fun g i j hg => by
  rw [← h g i j hg]
  unfold jup
  refine if_neg (fun q => ?_)
  rw [q.1, q.2.2, h0] at hg
  cases hg
theorem fr_cp {W : List Nat} {I I' : jI} {g0 i0 g1 i1 sp dp n : Nat} (h0 : ∀ j, jel (jcd g1 j) W = true) (h : fr W I I') : fr W I (jcpy I' g0 i0 g1 i1 sp dp n) := fun g i j hg => by
  rw [← h g i j hg]
  unfold jcpy
  refine if_neg (fun q => ?_)
  rw [q.1, h0] at hg
  cases hg
theorem jel_mem {g : Nat} : ∀ {W : List Nat}, jel g W = true → g ∈ W
  | [], h => by cases h
  | a :: t, h => by
    unfold jel at h
    split at h
    · rename_i e
      rw [Nat.eq_of_beq_eq_true e]
      exact List.mem_cons_self
    · exact List.mem_cons_of_mem _ (jel_mem h)
theorem fr_then {W W' : List Nat} {I I' I'' : jI} (hs : W'.all (fun g => jel g W) = true) (h : fr W I I') (h' : fr W' I' I'') : fr W I I'' := fun g i j hg => by
  rw [← h g i j hg]
  refine h' g i j ?_
  cases e : jel (jcd g j) W' with
  | false => rfl
  | true =>
    have := List.all_eq_true.mp hs _ (jel_mem e)
    rw [this] at hg
    cases hg
theorem fr_arr {W : List Nat} {I I' : jI} {g : Nat} (h : fr W I I') (hg : ∀ j, jcd g j = g) (hw : jel g W = false) : I' g = I g := by
  funext i j
  exact h g i j (by rw [hg]; exact hw)
set_option maxHeartbeats 4000000 in
set_option maxRecDepth 20000 in
theorem Fx113 {d : Nat} {k : jK} {a1 : Int32} {I : jI} {L : jL} (hk : ∀ (x : Int32) (I' : jI) (L' : jL), fr [12, 1013] I I' → k (some (.inl (.inl x))) (I', L')) : jPM d 113 [.inr (0, 0), .inl (.inl a1)] (I, L) k := by
  refine pM (fun d n => ?_)
  refine pn_go [] 400 ?_
  conv => whnf
  intro _
  conv => whnf
  intro _
  conv => whnf
  exact hk _ _ _ (fr_up rfl (fr_up rfl fr_rf))
set_option maxHeartbeats 4000000 in
set_option maxRecDepth 20000 in
theorem Fx15g2 {d : Nat} {k : jK} {a1 : Int32} {I : jI} {L : jL} (hk : ∀ (x : Int32) (I' : jI) (L' : jL), fr [] I I' → k (some (.inl (.inl x))) (I', L')) : jPM d 15 [.inr (2, 0), .inl (.inl a1)] (I, L) k := by
  refine pM (fun d n => ?_)
  refine pn_go [] 400 ?_
  conv => whnf
  refine ⟨fun _ => ?_, fun _ => ?_⟩
  · conv => whnf
    exact fun _ => hk _ _ _ fr_rf
  · conv => whnf
    refine ⟨fun _ => ?_, fun _ => ?_⟩
    · conv => whnf
      exact fun _ => hk _ _ _ fr_rf
    · conv => whnf
      exact fun _ => hk _ _ _ fr_rf
set_option maxHeartbeats 4000000 in
set_option maxRecDepth 20000 in
theorem FxL2g30_5 {d : Nat} {k : jK} {y0 : Nat} {I0 : jI}  : ∀ (n : Nat), (∀ (v0 : Option jV) (v1 : Option jV) (v2 : Option jV) (v3 : Option jV) (I : jI) (L : jL), fr [30] I0 I → pn (jPM d) k none (jco 2) n (20, [v0, v1, v2, v3], [], I, L)) → ∀ (v1 : Int32) (v2 : Int32) (v3 : Int32) (I : jI) (L : jL), fr [30] I0 I → pn (jPM d) k none (jco 2) n (5, [some (.inr (30, y0)), some (.inl (.inl v1)), some (.inl (.inl v2)), some (.inl (.inl v3))], [], I, L) := by
  intro n
  induction n with
  | zero => intro _ v v v I L f0; trivial
  | succ n ih =>
    intro hx v1 v2 v3 I L f0
    refine pn_lp [5, 20] 400 ?_
    conv => whnf
    refine ⟨fun _ => ?_, fun _ => ?_⟩
    · conv => whnf
      exact pn_dec n (hx _ _ _ _ _ _ f0)
    · conv => whnf
      intro _
      conv => whnf
      exact ih (fun q0 q1 q2 q3 I L f => pn_dec n (hx q0 q1 q2 q3 I L f)) _ _ _ _ _ (fr_up rfl f0)
set_option maxHeartbeats 4000000 in
set_option maxRecDepth 20000 in
theorem Fx2g30 {d : Nat} {k : jK} {a0 : Nat} {a1 : Int32} {I : jI} {L : jL} (hk : ∀ (I' : jI) (L' : jL), fr [30] I I' → k none (I', L')) : jPM d 2 [.inr (30, a0), .inl (.inl a1)] (I, L) k := by
  refine pM (fun d n => ?_)
  refine pn_go [5] 400 ?_
  conv => whnf
  refine FxL2g30_5  _ (fun _ _ _ _ I1 L1 f1 => ?_) _ _ _ _ _ fr_rf
  refine pn_go [5] 400 ?_
  conv => whnf
  exact hk _ _ (fr_then (by decide) fr_rf f1)
set_option maxHeartbeats 4000000 in
set_option maxRecDepth 20000 in
theorem Fx20g2 {d : Nat} {k : jK} {a1 : Int32} {a2 : Int32} {a3 : Int32} {I : jI} {L : jL} (hk : ∀ (I' : jI) (L' : jL), fr [16, 30] I I' → k none (I', L')) : jPM d 20 [.inr (2, 0), .inl (.inl a1), .inl (.inl a2), .inl (.inl a3)] (I, L) k := by
  refine pM (fun d n => ?_)
  refine pn_go [] 400 ?_
  conv => whnf
  intro _
  conv => whnf
  refine Fx2g30 (fun I1 L1 f1 => ?_)
  conv => whnf
  intro _
  conv => whnf
  exact hk _ _ (fr_up rfl (fr_then (by decide) fr_rf f1))
set_option maxHeartbeats 4000000 in
set_option maxRecDepth 20000 in
theorem Fx74 {d : Nat} {k : jK} {a1 : Int32} {a2 : Int32} {I : jI} {L : jL} (hk : ∀ (x : Int32) (I' : jI) (L' : jL), fr [12, 16, 30, 1013] I I' → k (some (.inl (.inl x))) (I', L')) : jPM d 74 [.inr (0, 0), .inl (.inl a1), .inl (.inl a2)] (I, L) k := by
  refine pM (fun d n => ?_)
  refine pn_go [] 400 ?_
  conv => whnf
  refine Fx15g2 (fun x1 I1 L1 f1 => ?_)
  conv => whnf
  refine ⟨fun _ => ?_, fun _ => ?_⟩
  · conv => whnf
    exact hk _ _ _ (fr_then (by decide) fr_rf f1)
  · conv => whnf
    refine ⟨fun _ => ?_, fun _ => ?_⟩
    · conv => whnf
      refine ⟨fun _ => ?_, fun _ => ?_⟩
      · conv => whnf
        refine Fx20g2 (fun I2 L2 f2 => ?_)
        conv => whnf
        exact hk _ _ _ (fr_then (by decide) (fr_then (by decide) fr_rf f1) f2)
      · conv => whnf
        refine Fx113 (fun x3 I3 L3 f3 => ?_)
        conv => whnf
        exact hk _ _ _ (fr_then (by decide) (fr_then (by decide) fr_rf f1) f3)
    · conv => whnf
      exact hk _ _ _ (fr_then (by decide) fr_rf f1)
set_option maxHeartbeats 4000000 in
set_option maxRecDepth 20000 in
theorem Fx16g2 {d : Nat} {k : jK} {a1 : Int32} {I : jI} {L : jL} (hk : ∀ (x : Int32) (I' : jI) (L' : jL), fr [] I I' → k (some (.inl (.inl x))) (I', L')) : jPM d 16 [.inr (2, 0), .inl (.inl a1)] (I, L) k := by
  refine pM (fun d n => ?_)
  refine pn_go [] 400 ?_
  conv => whnf
  intro _
  conv => whnf
  refine ⟨fun _ => ?_, fun _ => ?_⟩
  · conv => whnf
    exact fun _ => hk _ _ _ fr_rf
  · conv => whnf
    exact fun _ => hk _ _ _ fr_rf
set_option maxHeartbeats 4000000 in
set_option maxRecDepth 20000 in
theorem Fx22g2 {d : Nat} {k : jK} {a1 : Int32} {a2 : Int32} {I : jI} {L : jL} (hk : ∀ (x : Int32) (I' : jI) (L' : jL), fr [] I I' → k (some (.inl (.inl x))) (I', L')) : jPM d 22 [.inr (2, 0), .inl (.inl a1), .inl (.inl a2)] (I, L) k := by
  refine pM (fun d n => ?_)
  refine pn_go [] 400 ?_
  conv => whnf
  refine Fx16g2 (fun x1 I1 L1 f1 => ?_)
  conv => whnf
  refine ⟨fun _ => ?_, fun _ => ?_⟩
  · conv => whnf
    refine ⟨fun _ => ?_, fun _ => ?_⟩
    · conv => whnf
      exact hk _ _ _ (fr_then (by decide) fr_rf f1)
    · conv => whnf
      intro _
      conv => whnf
      refine ⟨fun _ => ?_, fun _ => ?_⟩
      · conv => whnf
        exact hk _ _ _ (fr_then (by decide) fr_rf f1)
      · conv => whnf
        exact hk _ _ _ (fr_then (by decide) fr_rf f1)
  · conv => whnf
    exact hk _ _ _ (fr_then (by decide) fr_rf f1)
set_option maxHeartbeats 4000000 in
set_option maxRecDepth 20000 in
theorem Fx18g2 {d : Nat} {k : jK} {a1 : Int32} {a2 : Int32} {I : jI} {L : jL} (hk : ∀ (x : Int32) (I' : jI) (L' : jL), fr [] I I' → k (some (.inl (.inl x))) (I', L')) : jPM d 18 [.inr (2, 0), .inl (.inl a1), .inl (.inl a2)] (I, L) k := by
  refine pM (fun d n => ?_)
  refine pn_go [] 400 ?_
  conv => whnf
  intro _
  conv => whnf
  intro _
  conv => whnf
  exact hk _ _ _ fr_rf
set_option maxHeartbeats 4000000 in
set_option maxRecDepth 20000 in
theorem Fx19g2 {d : Nat} {k : jK} {a1 : Int32} {a2 : Int32} {a3 : Int32} {I : jI} {L : jL} (hk : ∀ (I' : jI) (L' : jL), fr [30] I I' → k none (I', L')) : jPM d 19 [.inr (2, 0), .inl (.inl a1), .inl (.inl a2), .inl (.inl a3)] (I, L) k := by
  refine pM (fun d n => ?_)
  refine pn_go [] 400 ?_
  conv => whnf
  intro _
  conv => whnf
  intro _
  conv => whnf
  exact hk _ _ (fr_up rfl fr_rf)
set_option maxHeartbeats 4000000 in
set_option maxRecDepth 20000 in
theorem Fx75 {d : Nat} {k : jK} {a1 : Int32} {a2 : Int32} {a3 : Int32} {I : jI} {L : jL} (hk : ∀ (x : Int32) (I' : jI) (L' : jL), fr [12, 30, 1013] I I' → k (some (.inl (.inl x))) (I', L')) : jPM d 75 [.inr (0, 0), .inl (.inl a1), .inl (.inl a2), .inl (.inl a3)] (I, L) k := by
  refine pM (fun d n => ?_)
  refine pn_go [] 400 ?_
  conv => whnf
  refine Fx15g2 (fun x1 I1 L1 f1 => ?_)
  conv => whnf
  refine ⟨fun _ => ?_, fun _ => ?_⟩
  · conv => whnf
    refine Fx22g2 (fun x2 I2 L2 f2 => ?_)
    conv => whnf
    refine ⟨fun _ => ?_, fun _ => ?_⟩
    · conv => whnf
      refine Fx18g2 (fun x3 I3 L3 f3 => ?_)
      conv => whnf
      refine Fx19g2 (fun I4 L4 f4 => ?_)
      conv => whnf
      exact hk _ _ _ (fr_then (by decide) (fr_then (by decide) (fr_then (by decide) (fr_then (by decide) fr_rf f1) f2) f3) f4)
    · conv => whnf
      refine Fx113 (fun x5 I5 L5 f5 => ?_)
      conv => whnf
      exact hk _ _ _ (fr_then (by decide) (fr_then (by decide) (fr_then (by decide) fr_rf f1) f2) f5)
  · conv => whnf
    exact hk _ _ _ (fr_then (by decide) fr_rf f1)
set_option maxHeartbeats 4000000 in
set_option maxRecDepth 20000 in
theorem Fx17g2 {d : Nat} {k : jK} {a1 : Int32} {I : jI} {L : jL} (hk : ∀ (x : Int32) (I' : jI) (L' : jL), fr [] I I' → k (some (.inl (.inl x))) (I', L')) : jPM d 17 [.inr (2, 0), .inl (.inl a1)] (I, L) k := by
  refine pM (fun d n => ?_)
  refine pn_go [] 400 ?_
  conv => whnf
  intro _
  conv => whnf
  exact hk _ _ _ fr_rf
set_option maxHeartbeats 4000000 in
set_option maxRecDepth 20000 in
theorem FxL59_19 {d : Nat} {k : jK} {I0 : jI}  : ∀ (n : Nat), (∀ (v1 : Option jV) (v2 : Option jV) (v3 : Option jV) (I : jI) (L : jL), fr [17] I0 I → pn (jPM d) k none (jco 59) n (45, [some (.inr (3, 0)), v1, v2, v3], [], I, L)) → ∀ (v2 : Int32) (v3 : Int32) (I : jI) (L : jL), fr [17] I0 I → pn (jPM d) k none (jco 59) n (19, [some (.inr (3, 0)), some (.inr (2, 0)), some (.inl (.inl v2)), some (.inl (.inl v3))], [], I, L) := by
  intro n
  induction n with
  | zero => intro _ v v I L f0; trivial
  | succ n ih =>
    intro hx v2 v3 I L f0
    refine pn_lp [19, 45] 400 ?_
    conv => whnf
    refine ⟨fun _ => ?_, fun _ => ?_⟩
    · conv => whnf
      exact pn_dec n (hx _ _ _ _ _ f0)
    · conv => whnf
      refine Fx18g2 (fun x1 I1 L1 f1 => ?_)
      conv => whnf
      intro _
      conv => whnf
      exact ih (fun q0 q1 q2 I L f => pn_dec n (hx q0 q1 q2 I L f)) _ _ _ _ (fr_up rfl (fr_then (by decide) f0 f1))
set_option maxHeartbeats 4000000 in
set_option maxRecDepth 20000 in
theorem FxL61_0 {d : Nat} {k : jK} {I0 : jI}  : ∀ (n : Nat), (∀ (v0 : Option jV) (I : jI) (L : jL), fr [4003] I0 I → pn (jPM d) k none (jco 61) n (38, [v0], [], I, L)) → ∀ (I : jI) (L : jL), fr [4003] I0 I → pn (jPM d) k none (jco 61) n (0, [some (.inr (3, 0))], [], I, L) := by
  intro n
  induction n with
  | zero => intro _  I L f0; trivial
  | succ n ih =>
    intro hx  I L f0
    refine pn_lp [0, 38] 400 ?_
    conv => whnf
    refine ⟨fun _ => ?_, fun _ => ?_⟩
    · conv => whnf
      exact pn_dec n (hx _ _ _ f0)
    · conv => whnf
      intro _
      conv => whnf
      refine ⟨fun _ => ?_, fun _ => ?_⟩
      · conv => whnf
        exact pn_dec n (hx _ _ _ f0)
      · conv => whnf
        exact ih (fun q0 I L f => pn_dec n (hx q0 I L f)) _ _ (fr_up rfl f0)
set_option maxHeartbeats 4000000 in
set_option maxRecDepth 20000 in
theorem Fx61 {d : Nat} {k : jK} {I : jI} {L : jL} (hk : ∀ (I' : jI) (L' : jL), fr [4003] I I' → k none (I', L')) : jPM d 61 [.inr (3, 0)] (I, L) k := by
  refine pM (fun d n => ?_)
  refine FxL61_0  _ (fun _ I1 L1 f1 => ?_) _ _ fr_rf
  refine pn_go [0] 400 ?_
  conv => whnf
  exact hk _ _ (fr_then (by decide) fr_rf f1)
set_option maxHeartbeats 4000000 in
set_option maxRecDepth 20000 in
theorem Fx59 {d : Nat} {k : jK} {a2 : Int32} {I : jI} {L : jL} (hk : ∀ (I' : jI) (L' : jL), fr [17, 4002, 4003, 4004, 5006] I I' → k none (I', L')) : jPM d 59 [.inr (3, 0), .inr (2, 0), .inl (.inl a2)] (I, L) k := by
  refine pM (fun d n => ?_)
  refine pn_go [19] 400 ?_
  conv => whnf
  refine Fx17g2 (fun x1 I1 L1 f1 => ?_)
  conv => whnf
  refine FxL59_19  _ (fun _ _ _ I2 L2 f2 => ?_) _ _ _ _ fr_rf
  refine pn_go [19] 400 ?_
  conv => whnf
  refine Fx61 (fun I3 L3 f3 => ?_)
  conv => whnf
  exact hk _ _ (fr_then (by decide) (fr_up rfl (fr_up rfl (fr_then (by decide) (fr_up rfl (fr_then (by decide) (fr_up rfl fr_rf) f1)) f2))) f3)
set_option maxHeartbeats 4000000 in
set_option maxRecDepth 20000 in
theorem Fx60 {d : Nat} {k : jK} {I : jI} {L : jL} (hk : ∀ (x : Int32) (I' : jI) (L' : jL), fr [] I I' → k (some (.inl (.inl x))) (I', L')) : jPM d 60 [.inr (3, 0)] (I, L) k := by
  refine pM (fun d n => ?_)
  refine pn_go [] 400 ?_
  conv => whnf
  refine ⟨fun _ => ?_, fun _ => ?_⟩
  · conv => whnf
    exact fun _ => hk _ _ _ fr_rf
  · conv => whnf
    refine ⟨fun _ => ?_, fun _ => ?_⟩
    · conv => whnf
      exact fun _ => hk _ _ _ fr_rf
    · conv => whnf
      exact fun _ => hk _ _ _ fr_rf
set_option maxHeartbeats 4000000 in
set_option maxRecDepth 20000 in
theorem Fx67 {d : Nat} {k : jK} {I : jI} {L : jL} (hk : ∀ (I' : jI) (L' : jL), fr [4004] I I' → k none (I', L')) : jPM d 67 [.inr (3, 0)] (I, L) k := by
  refine pM (fun d n => ?_)
  refine pn_go [] 400 ?_
  conv => whnf
  refine ⟨fun _ => ?_, fun _ => ?_⟩
  · conv => whnf
    exact hk _ _ fr_rf
  · conv => whnf
    exact hk _ _ (fr_up rfl fr_rf)
set_option maxHeartbeats 4000000 in
set_option maxRecDepth 20000 in
theorem Fx66 {d : Nat} {k : jK} {a1 : Int32} {I : jI} {L : jL} (hk : ∀ (x : Int32) (I' : jI) (L' : jL), fr [4003, 4004] I I' → k (some (.inl (.inl x))) (I', L')) : jPM d 66 [.inr (3, 0), .inl (.inl a1)] (I, L) k := by
  refine pM (fun d n => ?_)
  refine pn_go [] 400 ?_
  conv => whnf
  refine Fx60 (fun x1 I1 L1 f1 => ?_)
  conv => whnf
  refine ⟨fun _ => ?_, fun _ => ?_⟩
  · conv => whnf
    refine Fx67 (fun I2 L2 f2 => ?_)
    conv => whnf
    exact hk _ _ _ (fr_then (by decide) (fr_then (by decide) fr_rf f1) f2)
  · conv => whnf
    intro _
    conv => whnf
    refine ⟨fun _ => ?_, fun _ => ?_⟩
    · conv => whnf
      refine Fx67 (fun I3 L3 f3 => ?_)
      conv => whnf
      exact hk _ _ _ (fr_then (by decide) (fr_then (by decide) fr_rf f1) f3)
    · conv => whnf
      refine ⟨fun _ => ?_, fun _ => ?_⟩
      · conv => whnf
        refine Fx67 (fun I4 L4 f4 => ?_)
        conv => whnf
        exact hk _ _ _ (fr_then (by decide) (fr_then (by decide) fr_rf f1) f4)
      · conv => whnf
        exact hk _ _ _ (fr_up rfl (fr_then (by decide) fr_rf f1))
set_option maxHeartbeats 4000000 in
set_option maxRecDepth 20000 in
theorem Fx65 {d : Nat} {k : jK} {I : jI} {L : jL} (hk : ∀ (x : Int32) (I' : jI) (L' : jL), fr [4003, 4004] I I' → k (some (.inl (.inl x))) (I', L')) : jPM d 65 [.inr (3, 0)] (I, L) k := by
  refine pM (fun d n => ?_)
  refine pn_go [] 400 ?_
  conv => whnf
  refine Fx66 (fun x1 I1 L1 f1 => ?_)
  conv => whnf
  refine Fx66 (fun x2 I2 L2 f2 => ?_)
  conv => whnf
  exact hk _ _ _ (fr_then (by decide) (fr_then (by decide) fr_rf f1) f2)
set_option maxHeartbeats 4000000 in
set_option maxRecDepth 20000 in
theorem Fx62 {d : Nat} {k : jK} {I : jI} {L : jL} (hk : ∀ (I' : jI) (L' : jL), fr [4003, 4004, 5007, 5008] I I' → k none (I', L')) : jPM d 62 [.inr (3, 0)] (I, L) k := by
  refine pM (fun d n => ?_)
  refine pn_go [] 400 ?_
  conv => whnf
  refine Fx60 (fun x1 I1 L1 f1 => ?_)
  conv => whnf
  refine ⟨fun _ => ?_, fun _ => ?_⟩
  · conv => whnf
    exact hk _ _ (fr_up rfl (fr_then (by decide) fr_rf f1))
  · conv => whnf
    intro _
    conv => whnf
    refine ⟨fun _ => ?_, fun _ => ?_⟩
    · conv => whnf
      refine Fx66 (fun x2 I2 L2 f2 => ?_)
      conv => whnf
      refine Fx65 (fun x3 I3 L3 f3 => ?_)
      conv => whnf
      refine Fx61 (fun I4 L4 f4 => ?_)
      conv => whnf
      exact hk _ _ (fr_then (by decide) (fr_up rfl (fr_then (by decide) (fr_up rfl (fr_then (by decide) (fr_up rfl (fr_then (by decide) fr_rf f1)) f2)) f3)) f4)
    · conv => whnf
      exact hk _ _ (fr_up rfl (fr_then (by decide) fr_rf f1))
set_option maxHeartbeats 4000000 in
set_option maxRecDepth 20000 in
theorem FxL64_9 {d : Nat} {k : jK} {I0 : jI} (hk : ∀ (x : Int32) (I' : jI) (L' : jL), fr [4003] I0 I' → k (some (.inl (.inl x))) (I', L')) : ∀ (n : Nat), (∀ (v1 : Option jV) (I : jI) (L : jL), fr [4003] I0 I → pn (jPM d) k none (jco 64) n (50, [some (.inr (3, 0)), v1], [], I, L)) → ∀ (v1 : Int32) (I : jI) (L : jL), fr [4003] I0 I → pn (jPM d) k none (jco 64) n (9, [some (.inr (3, 0)), some (.inl (.inl v1))], [], I, L) := by
  intro n
  induction n with
  | zero => intro _ v I L f0; trivial
  | succ n ih =>
    intro hx v1 I L f0
    refine pn_lp [9, 50] 400 ?_
    conv => whnf
    refine ⟨fun _ => ?_, fun _ => ?_⟩
    · conv => whnf
      exact pn_dec n (hx _ _ _ f0)
    · conv => whnf
      intro _
      conv => whnf
      intro _
      conv => whnf
      refine ⟨fun _ => ?_, fun _ => ?_⟩
      · conv => whnf
        exact ih (fun q0 I L f => pn_dec n (hx q0 I L f)) _ _ _ f0
      · conv => whnf
        exact hk _ _ _ (fr_up rfl f0)
set_option maxHeartbeats 4000000 in
set_option maxRecDepth 20000 in
theorem Fx64 {d : Nat} {k : jK} {I : jI} {L : jL} (hk : ∀ (x : Int32) (I' : jI) (L' : jL), fr [4003, 4004] I I' → k (some (.inl (.inl x))) (I', L')) : jPM d 64 [.inr (3, 0)] (I, L) k := by
  refine pM (fun d n => ?_)
  refine pn_go [9] 400 ?_
  conv => whnf
  refine Fx60 (fun x1 I1 L1 f1 => ?_)
  conv => whnf
  refine ⟨fun _ => ?_, fun _ => ?_⟩
  · conv => whnf
    refine Fx67 (fun I2 L2 f2 => ?_)
    conv => whnf
    exact hk _ _ _ (fr_then (by decide) (fr_then (by decide) fr_rf f1) f2)
  · conv => whnf
    refine FxL64_9 (fun x3 I3 L3 f3 => hk x3 I3 L3 (fr_then (by decide) (fr_then (by decide) fr_rf f1) f3)) _ (fun _ I3 L3 f3 => ?_) _ _ _ fr_rf
    refine pn_go [9] 400 ?_
    conv => whnf
    refine Fx67 (fun I4 L4 f4 => ?_)
    conv => whnf
    exact hk _ _ _ (fr_then (by decide) (fr_then (by decide) (fr_then (by decide) fr_rf f1) f3) f4)
set_option maxHeartbeats 4000000 in
set_option maxRecDepth 20000 in
theorem Fx48 {d : Nat} {k : jK} {a0 : Nat} {a1 : Int32} {a2 : Int32} {a3 : Int32} {a4 : Int32} {I : jI} {L : jL} (hk : ∀ (I' : jI) (L' : jL), fr [18, 19, 20, 21, 5006] I I' → k none (I', L')) : jPM d 48 [.inr (4, a0), .inl (.inl a1), .inl (.inl a2), .inl (.inl a3), .inl (.inl a4)] (I, L) k := by
  refine pM (fun d n => ?_)
  refine pn_go [] 400 ?_
  conv => whnf
  refine ⟨fun _ => ?_, fun _ => ?_⟩
  · conv => whnf
    exact hk _ _ fr_rf
  · conv => whnf
    intro _
    conv => whnf
    intro _
    conv => whnf
    intro _
    conv => whnf
    intro _
    conv => whnf
    exact hk _ _ (fr_up rfl (fr_up rfl (fr_up rfl (fr_up rfl (fr_up rfl fr_rf)))))
set_option maxHeartbeats 4000000 in
set_option maxRecDepth 20000 in
theorem Fx63 {d : Nat} {k : jK} {I : jI} {L : jL} (hk : ∀ (I' : jI) (L' : jL), fr [18, 19, 20, 21, 4003, 4004, 5006] I I' → k none (I', L')) : jPM d 63 [.inr (3, 0)] (I, L) k := by
  refine pM (fun d n => ?_)
  refine pn_go [] 400 ?_
  conv => whnf
  refine Fx64 (fun x1 I1 L1 f1 => ?_)
  conv => whnf
  refine Fx66 (fun x2 I2 L2 f2 => ?_)
  conv => whnf
  refine Fx65 (fun x3 I3 L3 f3 => ?_)
  conv => whnf
  refine Fx66 (fun x4 I4 L4 f4 => ?_)
  conv => whnf
  refine ⟨fun _ => ?_, fun _ => ?_⟩
  · conv => whnf
    exact hk _ _ (fr_then (by decide) (fr_then (by decide) (fr_then (by decide) (fr_then (by decide) fr_rf f1) f2) f3) f4)
  · conv => whnf
    refine Fx48 (fun I5 L5 f5 => ?_)
    conv => whnf
    refine Fx61 (fun I6 L6 f6 => ?_)
    conv => whnf
    exact hk _ _ (fr_then (by decide) (fr_then (by decide) (fr_then (by decide) (fr_then (by decide) (fr_then (by decide) (fr_then (by decide) fr_rf f1) f2) f3) f4) f5) f6)
set_option maxHeartbeats 4000000 in
set_option maxRecDepth 20000 in
theorem FxL58_16 {d : Nat} {k : jK} {I0 : jI}  : ∀ (n : Nat), (∀ (v1 : Option jV) (v2 : Option jV) (v3 : Option jV) (I : jI) (L : jL), fr [18, 19, 20, 21, 4003, 4004, 5006] I0 I → pn (jPM d) k none (jco 58) n (39, [some (.inr (3, 0)), v1, v2, v3], [], I, L)) → ∀ (v1 : Option jV) (v2 : Option jV) (v3 : Int32) (I : jI) (L : jL), fr [18, 19, 20, 21, 4003, 4004, 5006] I0 I → pn (jPM d) k none (jco 58) n (16, [some (.inr (3, 0)), v1, v2, some (.inl (.inl v3))], [], I, L) := by
  intro n
  induction n with
  | zero => intro _ v v v I L f0; trivial
  | succ n ih =>
    intro hx v1 v2 v3 I L f0
    refine pn_lp [16, 39] 400 ?_
    conv => whnf
    refine ⟨fun _ => ?_, fun _ => ?_⟩
    · conv => whnf
      exact pn_dec n (hx _ _ _ _ _ f0)
    · conv => whnf
      refine Fx60 (fun x1 I1 L1 f1 => ?_)
      conv => whnf
      refine ⟨fun _ => ?_, fun _ => ?_⟩
      · conv => whnf
        exact pn_dec n (hx _ _ _ _ _ (fr_then (by decide) f0 f1))
      · conv => whnf
        refine Fx63 (fun I2 L2 f2 => ?_)
        conv => whnf
        exact ih (fun q0 q1 q2 I L f => pn_dec n (hx q0 q1 q2 I L f)) _ _ _ _ _ (fr_then (by decide) (fr_then (by decide) f0 f1) f2)
set_option maxHeartbeats 4000000 in
set_option maxRecDepth 20000 in
theorem Fx58 {d : Nat} {k : jK} {a2 : Int32} {I : jI} {L : jL} (hk : ∀ (x : Int32) (I' : jI) (L' : jL), fr [17, 18, 19, 20, 21, 4002, 4003, 4004, 5006, 5007, 5008] I I' → k (some (.inl (.inl x))) (I', L')) : jPM d 58 [.inr (3, 0), .inr (2, 0), .inl (.inl a2)] (I, L) k := by
  refine pM (fun d n => ?_)
  refine pn_go [16] 400 ?_
  conv => whnf
  refine Fx59 (fun I1 L1 f1 => ?_)
  conv => whnf
  refine Fx62 (fun I2 L2 f2 => ?_)
  conv => whnf
  refine Fx63 (fun I3 L3 f3 => ?_)
  conv => whnf
  refine FxL58_16  _ (fun _ _ _ I4 L4 f4 => ?_) _ _ _ _ _ fr_rf
  refine pn_go [16] 400 ?_
  conv => whnf
  refine Fx60 (fun x5 I5 L5 f5 => ?_)
  conv => whnf
  refine ⟨fun _ => ?_, fun _ => ?_⟩
  · conv => whnf
    exact hk _ _ _ (fr_then (by decide) (fr_then (by decide) (fr_then (by decide) (fr_then (by decide) (fr_then (by decide) fr_rf f1) f2) f3) f4) f5)
  · conv => whnf
    exact hk _ _ _ (fr_up rfl (fr_then (by decide) (fr_then (by decide) (fr_then (by decide) (fr_then (by decide) (fr_then (by decide) fr_rf f1) f2) f3) f4) f5))
theorem Fx29 {d : Nat} {k : jK} {a0 a1 : Nat} {I : jI} {L : jL} (hk : ∀ (I' : jI) (L' : jL), fr [18, 19, 20, 21, 23, 5006, 5007, 5008, 5009, 5010, 5011, 5012, 5013, 5014, 5015] I I' → k none (I', L')) : jPM d 29 [.inr (4, a0), .inr (4, a1)] (I, L) k :=
  D29 rfl (hk _ L (fun g i j hg => by
    unfold d29
    refine if_neg (fun q => ?_)
    rcases q.2 with ⟨q1, q2, q3⟩ | ⟨q1, q2, q3⟩ | ⟨q1, q2⟩
    · subst q1
      have : j = 6 ∨ j = 7 ∨ j = 8 ∨ j = 9 ∨ j = 10 ∨ j = 11 ∨ j = 12 ∨ j = 13 ∨ j = 14 ∨ j = 15 := by omega
      rcases this with e | e | e | e | e | e | e | e | e | e <;> subst e <;> exact absurd hg (by decide)
    · have : g = 18 ∨ g = 19 ∨ g = 20 ∨ g = 21 := by omega
      rcases this with e | e | e | e <;> subst e <;> cases hg
    · subst q1; cases hg))
set_option maxHeartbeats 4000000 in
set_option maxRecDepth 20000 in
theorem Fx28 {d : Nat} {k : jK} {a0 : Nat} {a1 : Nat} {I : jI} {L : jL} (hk : ∀ (I' : jI) (L' : jL), fr [18, 19, 20, 21, 22, 23, 5006, 5007, 5008, 5009, 5010, 5011, 5012, 5013, 5014, 5015] I I' → k none (I', L')) : jPM d 28 [.inr (4, a0), .inr (4, a1)] (I, L) k := by
  refine pM (fun d n => ?_)
  refine pn_go [] 400 ?_
  conv => whnf
  refine Fx29 (fun I1 L1 f1 => ?_)
  conv => whnf
  intro _
  conv => whnf
  exact hk _ _ (fr_cp (fun _ => rfl) (fr_then (by decide) fr_rf f1))
set_option maxHeartbeats 4000000 in
set_option maxRecDepth 20000 in
theorem FxL77_77 {d : Nat} {k : jK} {I0 : jI}  : ∀ (n : Nat), (∀ (v1 : Option jV) (v2 : Option jV) (I : jI) (L : jL), fr [6] I0 I → pn (jPM d) k none (jco 77) n (95, [some (.inr (0, 0)), v1, v2], [], I, L)) → ∀ (v1 : Option jV) (v2 : Int32) (I : jI) (L : jL), fr [6] I0 I → pn (jPM d) k none (jco 77) n (77, [some (.inr (0, 0)), v1, some (.inl (.inl v2))], [], I, L) := by
  intro n
  induction n with
  | zero => intro _ v v I L f0; trivial
  | succ n ih =>
    intro hx v1 v2 I L f0
    refine pn_lp [77, 95] 400 ?_
    conv => whnf
    refine ⟨fun _ => ?_, fun _ => ?_⟩
    · conv => whnf
      exact pn_dec n (hx _ _ _ _ f0)
    · conv => whnf
      intro _
      conv => whnf
      exact ih (fun q0 q1 I L f => pn_dec n (hx q0 q1 I L f)) _ _ _ _ (fr_up rfl f0)
set_option maxHeartbeats 4000000 in
set_option maxRecDepth 20000 in
theorem Fx77 {d : Nat} {k : jK} {a1 : Int32} {I : jI} {L : jL} (hk : ∀ (x : Int32) (I' : jI) (L' : jL), fr [6, 12, 17, 18, 19, 20, 21, 22, 23, 1013, 4002, 4003, 4004, 5006, 5007, 5008, 5009, 5010, 5011, 5012, 5013, 5014, 5015] I I' → k (some (.inl (.inl x))) (I', L')) : jPM d 77 [.inr (0, 0), .inl (.inl a1)] (I, L) k := by
  refine pM (fun d n => ?_)
  refine pn_go [77] 400 ?_
  conv => whnf
  refine Fx15g2 (fun x1 I1 L1 f1 => ?_)
  conv => whnf
  refine ⟨fun _ => ?_, fun _ => ?_⟩
  · conv => whnf
    refine Fx16g2 (fun x2 I2 L2 f2 => ?_)
    conv => whnf
    refine ⟨fun _ => ?_, fun _ => ?_⟩
    · conv => whnf
      refine Fx58 (fun x3 I3 L3 f3 => ?_)
      conv => whnf
      refine ⟨fun _ => ?_, fun _ => ?_⟩
      · conv => whnf
        refine Fx28 (fun I4 L4 f4 => ?_)
        conv => whnf
        refine Fx28 (fun I5 L5 f5 => ?_)
        conv => whnf
        refine FxL77_77  _ (fun _ _ I6 L6 f6 => ?_) _ _ _ _ fr_rf
        refine pn_go [77] 400 ?_
        conv => whnf
        exact hk _ _ _ (fr_then (by decide) (fr_then (by decide) (fr_then (by decide) (fr_then (by decide) (fr_then (by decide) (fr_then (by decide) fr_rf f1) f2) f3) f4) f5) f6)
      · conv => whnf
        exact hk _ _ _ (fr_then (by decide) (fr_then (by decide) (fr_then (by decide) fr_rf f1) f2) f3)
    · conv => whnf
      refine Fx113 (fun x7 I7 L7 f7 => ?_)
      conv => whnf
      exact hk _ _ _ (fr_then (by decide) (fr_then (by decide) (fr_then (by decide) fr_rf f1) f2) f7)
  · conv => whnf
    exact hk _ _ _ (fr_then (by decide) fr_rf f1)
set_option maxHeartbeats 4000000 in
set_option maxRecDepth 20000 in
theorem Fx31 {d : Nat} {k : jK} {a0 : Nat} {a1 : Int32} {I : jI} {L : jL} (hk : ∀ (x : Int32) (I' : jI) (L' : jL), fr [] I I' → k (some (.inl (.inl x))) (I', L')) : jPM d 31 [.inr (4, a0), .inl (.inl a1)] (I, L) k := by
  refine pM (fun d n => ?_)
  refine pn_go [] 400 ?_
  conv => whnf
  refine ⟨fun _ => ?_, fun _ => ?_⟩
  · conv => whnf
    exact fun _ => hk _ _ _ fr_rf
  · conv => whnf
    refine ⟨fun _ => ?_, fun _ => ?_⟩
    · conv => whnf
      exact fun _ => hk _ _ _ fr_rf
    · conv => whnf
      exact fun _ => hk _ _ _ fr_rf
set_option maxHeartbeats 4000000 in
set_option maxRecDepth 20000 in
theorem Fx8 {d : Nat} {k : jK} {a0 : Int32} {a1 : Int32} {I : jI} {L : jL} (hk : ∀ (x : Int32) (I' : jI) (L' : jL), fr [] I I' → k (some (.inl (.inl x))) (I', L')) : jPM d 8 [.inl (.inl a0), .inl (.inl a1)] (I, L) k := by
  refine pM (fun d n => ?_)
  refine pn_go [] 400 ?_
  conv => whnf
  refine ⟨fun _ => ?_, fun _ => ?_⟩
  · conv => whnf
    exact hk _ _ _ fr_rf
  · conv => whnf
    intro _
    conv => whnf
    exact hk _ _ _ fr_rf
set_option maxHeartbeats 4000000 in
set_option maxRecDepth 20000 in
theorem Fx37 {d : Nat} {k : jK} {a0 : Nat} {a1 : Int32} {I : jI} {L : jL} (hk : ∀ (x : Int32) (I' : jI) (L' : jL), fr [] I I' → k (some (.inl (.inl x))) (I', L')) : jPM d 37 [.inr (4, a0), .inl (.inl a1)] (I, L) k := by
  refine pM (fun d n => ?_)
  refine pn_go [] 400 ?_
  conv => whnf
  intro _
  conv => whnf
  intro _
  conv => whnf
  refine Fx8 (fun x1 I1 L1 f1 => ?_)
  conv => whnf
  exact hk _ _ _ (fr_then (by decide) fr_rf f1)
set_option maxHeartbeats 4000000 in
set_option maxRecDepth 20000 in
theorem Fx6 {d : Nat} {k : jK} {a0 : Int32} {a1 : Int32} {I : jI} {L : jL} (hk : ∀ (x : Int32) (I' : jI) (L' : jL), fr [] I I' → k (some (.inl (.inl x))) (I', L')) : jPM d 6 [.inl (.inl a0), .inl (.inl a1)] (I, L) k := by
  refine pM (fun d n => ?_)
  refine pn_go [] 400 ?_
  conv => whnf
  refine ⟨fun _ => ?_, fun _ => ?_⟩
  · conv => whnf
    exact hk _ _ _ fr_rf
  · conv => whnf
    intro _
    conv => whnf
    exact hk _ _ _ fr_rf
set_option maxHeartbeats 4000000 in
set_option maxRecDepth 20000 in
theorem Fx5 {d : Nat} {k : jK} {a0 : Int32} {a1 : Int32} {a2 : Int32} {a3 : Int32} {I : jI} {L : jL} (hk : ∀ (x : Int32) (I' : jI) (L' : jL), fr [] I I' → k (some (.inl (.inl x))) (I', L')) : jPM d 5 [.inl (.inl a0), .inl (.inl a1), .inl (.inl a2), .inl (.inl a3)] (I, L) k := by
  refine pM (fun d n => ?_)
  refine pn_go [] 400 ?_
  conv => whnf
  refine And.intro (fun _ => ?_) (fun _ => ?_)
  · conv => whnf
    refine Fx6 (fun x1 I1 L1 f1 => ?_)
    conv => whnf
    exact hk _ _ _ (fr_then (by decide) fr_rf f1)
  refine jsw_cons (fun _ => ?_) (fun _ => ?_)
  · conv => whnf
    intro _
    conv => whnf
    exact hk _ _ _ fr_rf
  refine jsw_cons (fun _ => ?_) (fun _ => ?_)
  · conv => whnf
    intro _
    conv => whnf
    exact hk _ _ _ fr_rf
  refine jsw_cons (fun _ => ?_) (fun _ => ?_)
  · conv => whnf
    refine Fx6 (fun x2 I2 L2 f2 => ?_)
    conv => whnf
    exact hk _ _ _ (fr_then (by decide) fr_rf f2)
  refine jsw_cons (fun _ => ?_) (fun _ => ?_)
  · conv => whnf
    intro _
    conv => whnf
    exact hk _ _ _ fr_rf
  refine jsw_nil ?_
  conv => whnf
  exact hk _ _ _ fr_rf
