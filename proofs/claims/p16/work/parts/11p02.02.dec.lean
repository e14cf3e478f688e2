/-- X7_find -/
noncomputable def d113 (a1 : Int32) (I : jI) : Int32 × jI :=
  ((-3), (jup (jup I 0 0 13 a1) 12 0 (Int32.toNatClampNeg a1) (((jup I 0 0 13 a1) 12 0 (Int32.toNatClampNeg a1)) + 1)))
set_option maxHeartbeats 4000000 in
set_option maxRecDepth 20000 in
theorem D113 {d : Nat} {k : jK} {a1 : Int32} {I : jI} {L : jL} {r : Int32 × jI} (h : d113 a1 I = r) (hk : k (some (.inl (.inl r.1))) (r.2, L)) : jPM d 113 [.inr (0, 0), .inl (.inl a1)] (I, L) k := by
  refine pM (fun d n => ?_)
  unfold d113 at h
  refine pn_go [] 400 ?_
  conv => whnf
  intro _
  conv => whnf
  intro _
  conv => whnf
  subst h
  exact hk
