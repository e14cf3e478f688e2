/-- X8_on -/
noncomputable def d176 (a1 : Int32) (I : jI) : Option (Int32 × jI) :=
  if (d124 (Int32.toInt64 a1) 0 2 I) = 0 then
    some ((-1), I)
  else
    if 0 ≤ (I 32 0 (Int32.toNatClampNeg ((1149 * (1 + a1)) + 0))) then
      (d174 (1149 * (1 + a1)) 0 I).bind fun r1 =>
      some ((r1 32 0 (Int32.toNatClampNeg 0)), r1)
    else
      some (((d126 1 I).1), ((d126 1 I).2))
set_option maxHeartbeats 4000000 in
set_option maxRecDepth 20000 in
theorem D176 {d : Nat} {k : jK} {a1 : Int32} {I : jI} {L : jL} {r : Int32 × jI} (h : d176 a1 I = some r) (hk : k (some (.inl (.inl r.1))) (r.2, L)) : jPM d 176 [.inr (31, 0), .inl (.inl a1)] (I, L) k := by
  refine pM (fun d n => ?_)
  unfold d176 at h
  refine pn_go [] 400 ?_
  conv => whnf
  refine D124 rfl ?_
  conv => whnf
  refine ⟨fun cz1 => ?_, fun cz1 => ?_⟩
  · replace h := (if_neg cz1).symm.trans h
    conv => whnf
    intro _
    conv => whnf
    refine ⟨fun cz2 => ?_, fun cz2 => ?_⟩
    · replace h := (if_pos cz2).symm.trans h
      conv => whnf
      obtain ⟨r1, hz3, h⟩ := obind h
      refine D174 hz3 ?_
      conv => whnf
      intro _
      conv => whnf
      cases h
      exact hk
    · replace h := (if_neg cz2).symm.trans h
      conv => whnf
      refine D126 rfl ?_
      conv => whnf
      cases h
      exact hk
  · replace h := (if_pos cz1).symm.trans h
    conv => whnf
    cases h
    exact hk
