theorem Pa95 {d : Nat} {a1 : Int32} {I : jI} {L : jL} {K : jK} (hG : gG aGI I) (q : RD2 I I) (hK : jPM d 95 [.inr (0, 0), .inl (.inl a1)] (I, L) K) : jPM d 95 [.inr (0, 0), .inl (.inl a1)] (I, L) (fun v σ => (∃ r, d95 a1 I = some r ∧ v = some (.inl (.inl r.1))) ∧ K v σ) := by
  obtain ⟨r, r', e, e', -⟩ := waste_an a1 hG q
  exact jPM_and (D95 e ⟨r, e, rfl⟩) hK
theorem Pa189 {d : Nat} {a1 : Int32} {I I1 : jI} {L : jL} {K : jK} (hG : gG aGI I) (q : RD2 I I1) (hK : jPM d 189 [.inr (31, 0), .inl (.inl a1)] (I1, L) K) : jPM d 189 [.inr (31, 0), .inl (.inl a1)] (I1, L) (fun v σ => (∃ r, d189 a1 I1 = some r ∧ v = some (.inl (.inl r.1))) ∧ K v σ) := by
  obtain ⟨r, r', e, e', -⟩ := waste_an a1 hG q
  exact jPM_and (D189 e' ⟨r', e', rfl⟩) hK
theorem Qa95 {a1 : Int32} {x1 x2 : Int32} {I I1 : jI} (hG : gG aGI I) (q : RD2 I I1) (q1 : (∃ r, d95 a1 I = some r ∧ (some (.inl (.inl x1)) : Option jV) = some (.inl (.inl r.1)))) (q2 : (∃ r, d189 a1 I1 = some r ∧ (some (.inl (.inl x2)) : Option jV) = some (.inl (.inl r.1)))) : x1 = x2 := by
  obtain ⟨r, r', e, e', k⟩ := waste_an a1 hG q
  obtain ⟨s, c1, c2⟩ := q1
  obtain ⟨s', b1, b2⟩ := q2
  rw [e] at c1
  rw [e'] at b1
  cases c1
  cases b1
  cases c2
  cases b2
  exact k
