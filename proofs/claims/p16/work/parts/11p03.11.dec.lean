/-- X8_some -/
noncomputable def d123 (a0 : Int32) (I : jI) : Int32 :=
  if 0 ≤ a0 then
    a0
  else
    0
set_option maxHeartbeats 4000000 in
set_option maxRecDepth 20000 in
theorem D123 {d : Nat} {k : jK} {a0 : Int32} {I : jI} {L : jL} {r : Int32} (h : d123 a0 I = r) (hk : k (some (.inl (.inl r))) (I, L)) : jPM d 123 [.inl (.inl a0)] (I, L) k := by
  refine pM (fun d n => ?_)
  unfold d123 at h
  refine pn_go [] 400 ?_
  conv => whnf
  refine ⟨fun cz1 => ?_, fun cz1 => ?_⟩
  · replace h := (if_pos cz1).symm.trans h
    conv => whnf
    subst h
    exact hk
  · replace h := (if_neg cz1).symm.trans h
    conv => whnf
    subst h
    exact hk
/-- X8_in -/
noncomputable def d124 (a0 : Int64) (a1 : Int64) (a2 : Int64) (I : jI) : Int32 :=
  if (lg_cmp a0 a1) < 0 then
    0
  else
    if 0 < (lg_cmp a0 a2) then
      0
    else
      1
set_option maxHeartbeats 4000000 in
set_option maxRecDepth 20000 in
theorem D124 {d : Nat} {k : jK} {a0 : Int64} {a1 : Int64} {a2 : Int64} {I : jI} {L : jL} {r : Int32} (h : d124 a0 a1 a2 I = r) (hk : k (some (.inl (.inl r))) (I, L)) : jPM d 124 [.inl (.inr a0), .inl (.inr a1), .inl (.inr a2)] (I, L) k := by
  refine pM (fun d n => ?_)
  unfold d124 at h
  refine pn_go [] 400 ?_
  conv => whnf
  refine ⟨fun cz1 => ?_, fun cz1 => ?_⟩
  · replace h := (if_pos cz1).symm.trans h
    conv => whnf
    subst h
    exact fun _ => hk
  · replace h := (if_neg cz1).symm.trans h
    conv => whnf
    refine ⟨fun cz2 => ?_, fun cz2 => ?_⟩
    · replace h := (if_pos cz2).symm.trans h
      conv => whnf
      subst h
      exact fun _ => hk
    · replace h := (if_neg cz2).symm.trans h
      conv => whnf
      subst h
      exact fun _ => hk
/-- X8_find -/
noncomputable def d126 (a1 : Int32) (I : jI) : Int32 × jI :=
  ((-3), (jup (jup I 31 0 13 a1) 39 0 (Int32.toNatClampNeg a1) (((jup I 31 0 13 a1) 39 0 (Int32.toNatClampNeg a1)) + 1)))
set_option maxHeartbeats 4000000 in
set_option maxRecDepth 20000 in
theorem D126 {d : Nat} {k : jK} {a1 : Int32} {I : jI} {L : jL} {r : Int32 × jI} (h : d126 a1 I = r) (hk : k (some (.inl (.inl r.1))) (r.2, L)) : jPM d 126 [.inr (31, 0), .inl (.inl a1)] (I, L) k := by
  refine pM (fun d n => ?_)
  unfold d126 at h
  refine pn_go [] 400 ?_
  conv => whnf
  intro _
  conv => whnf
  intro _
  conv => whnf
  subst h
  exact hk
/-- X8_isText -/
noncomputable def d129 (a0 : Int32) (I : jI) : Int32 :=
  (d124 (Int32.toInt64 a0) 0 3 I)
set_option maxHeartbeats 4000000 in
set_option maxRecDepth 20000 in
theorem D129 {d : Nat} {k : jK} {a0 : Int32} {I : jI} {L : jL} {r : Int32} (h : d129 a0 I = r) (hk : k (some (.inl (.inl r))) (I, L)) : jPM d 129 [.inl (.inl a0)] (I, L) k := by
  refine pM (fun d n => ?_)
  unfold d129 at h
  refine pn_go [] 400 ?_
  conv => whnf
  refine D124 rfl ?_
  conv => whnf
  subst h
  exact fun _ => hk
