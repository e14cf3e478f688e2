theorem RD_mid {W : List aR} {I I1 : jI} {L L1 : jL} (hw : rApart W rdM = true) (hG : gG aGI I) (q : RD2 I I) (h : gR W I L I1 L1) : RD2 I I1 := RD_cells hG q (fun _ _ _ _ => rfl) (fun g i j z => (h g i j (rApart_of hw z)).1)
theorem Pa78 {d : Nat} {a1 a2 : Int32} {I : jI} {L : jL} {K : jK} (hG : gG aGI I) (q : RD2 I I) (hK : jPM d 78 [.inr (0, 0), .inl (.inl a1), .inl (.inl a2)] (I, L) K) : jPM d 78 [.inr (0, 0), .inl (.inl a1), .inl (.inl a2)] (I, L) (fun v σ => (∃ r, d78 a1 a2 I = some r ∧ v = some (.inl (.inl r.1))) ∧ K v σ) := by
  obtain ⟨r, r', e, e', -⟩ := packet_an a1 a2 hG q
  exact jPM_and (D78 e ⟨r, e, rfl⟩) hK
theorem Pa158 {d : Nat} {a1 a2 : Int32} {I I1 : jI} {L : jL} {K : jK} (hG : gG aGI I) (q : RD2 I I1) (hK : jPM d 158 [.inr (31, 0), .inl (.inl a1), .inl (.inl a2)] (I1, L) K) : jPM d 158 [.inr (31, 0), .inl (.inl a1), .inl (.inl a2)] (I1, L) (fun v σ => (∃ r, d158 a1 a2 I1 = some r ∧ v = some (.inl (.inl r.1))) ∧ K v σ) := by
  obtain ⟨r, r', e, e', -⟩ := packet_an a1 a2 hG q
  exact jPM_and (D158 e' ⟨r', e', rfl⟩) hK
theorem Qa78 {a1 a2 : Int32} {x1 x2 : Int32} {I I1 : jI} (hG : gG aGI I) (q : RD2 I I1) (q1 : (∃ r, d78 a1 a2 I = some r ∧ (some (.inl (.inl x1)) : Option jV) = some (.inl (.inl r.1)))) (q2 : (∃ r, d158 a1 a2 I1 = some r ∧ (some (.inl (.inl x2)) : Option jV) = some (.inl (.inl r.1)))) : x1 = x2 := by
  obtain ⟨r, r', e, e', k⟩ := packet_an a1 a2 hG q
  obtain ⟨s, c1, c2⟩ := q1
  obtain ⟨s', b1, b2⟩ := q2
  rw [e] at c1
  rw [e'] at b1
  cases c1
  cases b1
  cases c2
  cases b2
  exact k
theorem Pa79 {d : Nat} {a1 a2 : Int32} {I : jI} {L : jL} {K : jK} (hG : gG aGI I) (q : RD2 I I) (hK : jPM d 79 [.inr (0, 0), .inl (.inl a1), .inl (.inl a2)] (I, L) K) : jPM d 79 [.inr (0, 0), .inl (.inl a1), .inl (.inl a2)] (I, L) (fun v σ => (∃ r, d79 a1 a2 I = some r ∧ v = some (.inl (.inl r.1))) ∧ K v σ) := by
  obtain ⟨r, r', e, e', -⟩ := mark_an a1 a2 hG q
  exact jPM_and (D79 e ⟨r, e, rfl⟩) hK
theorem Pa160 {d : Nat} {a1 a2 : Int32} {I I1 : jI} {L : jL} {K : jK} (hG : gG aGI I) (q : RD2 I I1) (hK : jPM d 160 [.inr (31, 0), .inl (.inl a1), .inl (.inl a2)] (I1, L) K) : jPM d 160 [.inr (31, 0), .inl (.inl a1), .inl (.inl a2)] (I1, L) (fun v σ => (∃ r, d160 a1 a2 I1 = some r ∧ v = some (.inl (.inl r.1))) ∧ K v σ) := by
  obtain ⟨r, r', e, e', -⟩ := mark_an a1 a2 hG q
  exact jPM_and (D160 e' ⟨r', e', rfl⟩) hK
theorem Qa79 {a1 a2 : Int32} {x1 x2 : Int32} {I I1 : jI} (hG : gG aGI I) (q : RD2 I I1) (q1 : (∃ r, d79 a1 a2 I = some r ∧ (some (.inl (.inl x1)) : Option jV) = some (.inl (.inl r.1)))) (q2 : (∃ r, d160 a1 a2 I1 = some r ∧ (some (.inl (.inl x2)) : Option jV) = some (.inl (.inl r.1)))) : x1 = x2 := by
  obtain ⟨r, r', e, e', k⟩ := mark_an a1 a2 hG q
  obtain ⟨s, c1, c2⟩ := q1
  obtain ⟨s', b1, b2⟩ := q2
  rw [e] at c1
  rw [e'] at b1
  cases c1
  cases b1
  cases c2
  cases b2
  exact k
theorem Pa80 {d : Nat} {a1 : Int32} {I : jI} {L : jL} {K : jK} (hG : gG aGI I) (q : RD2 I I) (hK : jPM d 80 [.inr (0, 0), .inl (.inl a1)] (I, L) K) : jPM d 80 [.inr (0, 0), .inl (.inl a1)] (I, L) (fun v σ => v = some (.inl (.inl (d80 a1 I))) ∧ K v σ) := by
  exact jPM_and (D80 rfl rfl) hK
theorem Pa161 {d : Nat} {a1 : Int32} {I I1 : jI} {L : jL} {K : jK} (hG : gG aGI I) (q : RD2 I I1) (hK : jPM d 161 [.inr (31, 0), .inl (.inl a1)] (I1, L) K) : jPM d 161 [.inr (31, 0), .inl (.inl a1)] (I1, L) (fun v σ => v = some (.inl (.inl (d161 a1 I1))) ∧ K v σ) := by
  exact jPM_and (D161 rfl rfl) hK
theorem Qa80 {a1 : Int32} {x1 x2 : Int32} {I I1 : jI} (hG : gG aGI I) (q : RD2 I I1) (q1 : (some (.inl (.inl x1)) : Option jV) = some (.inl (.inl (d80 a1 I)))) (q2 : (some (.inl (.inl x2)) : Option jV) = some (.inl (.inl (d161 a1 I1)))) : x1 = x2 := by
  cases q1
  cases q2
  exact larder_an a1 hG q
theorem Pa89 {d : Nat} {a1 a2 : Int32} {I : jI} {L : jL} {K : jK} (hG : gG aGI I) (q : RD2 I I) (hK : jPM d 89 [.inr (0, 0), .inl (.inl a1), .inl (.inl a2)] (I, L) K) : jPM d 89 [.inr (0, 0), .inl (.inl a1), .inl (.inl a2)] (I, L) (fun v σ => v = some (.inl (.inl (d89 a1 a2 I))) ∧ K v σ) := by
  exact jPM_and (D89 rfl rfl) hK
theorem Pa177 {d : Nat} {a1 a2 : Int32} {I I1 : jI} {L : jL} {K : jK} (hG : gG aGI I) (q : RD2 I I1) (hK : jPM d 177 [.inr (31, 0), .inl (.inl a1), .inl (.inl a2)] (I1, L) K) : jPM d 177 [.inr (31, 0), .inl (.inl a1), .inl (.inl a2)] (I1, L) (fun v σ => v = some (.inl (.inl (d177 a1 a2 I1))) ∧ K v σ) := by
  exact jPM_and (D177 rfl rfl) hK
theorem Qa89 {a1 a2 : Int32} {x1 x2 : Int32} {I I1 : jI} (hG : gG aGI I) (q : RD2 I I1) (q1 : (some (.inl (.inl x1)) : Option jV) = some (.inl (.inl (d89 a1 a2 I)))) (q2 : (some (.inl (.inl x2)) : Option jV) = some (.inl (.inl (d177 a1 a2 I1)))) : x1 = x2 := by
  cases q1
  cases q2
  exact costs_an a1 a2 hG q
theorem Pa90 {d : Nat} {a1 : Int32} {I : jI} {L : jL} {K : jK} (hG : gG aGI I) (q : RD2 I I) (hK : jPM d 90 [.inr (0, 0), .inl (.inl a1)] (I, L) K) : jPM d 90 [.inr (0, 0), .inl (.inl a1)] (I, L) (fun v σ => (∃ r, d90 a1 I L = some r ∧ v = some (.inl (.inl r.1))) ∧ K v σ) := by
  obtain ⟨r, r', e, e', -⟩ := rate_an L L a1 hG q
  exact jPM_and (D90 e ⟨r, e, rfl⟩) hK
theorem Pa179 {d : Nat} {a1 : Int32} {I I1 : jI} {L : jL} {K : jK} (hG : gG aGI I) (q : RD2 I I1) (hK : jPM d 179 [.inr (31, 0), .inl (.inl a1)] (I1, L) K) : jPM d 179 [.inr (31, 0), .inl (.inl a1)] (I1, L) (fun v σ => (∃ r, d179 a1 I1 L = some r ∧ v = some (.inl (.inl r.1))) ∧ K v σ) := by
  obtain ⟨r, r', e, e', -⟩ := rate_an L L a1 hG q
  exact jPM_and (D179 e' ⟨r', e', rfl⟩) hK
theorem Qa90 {a1 : Int32} {x1 x2 : Int32} {I I1 : jI} {L L1 : jL} (hG : gG aGI I) (q : RD2 I I1) (q1 : (∃ r, d90 a1 I L = some r ∧ (some (.inl (.inl x1)) : Option jV) = some (.inl (.inl r.1)))) (q2 : (∃ r, d179 a1 I1 L1 = some r ∧ (some (.inl (.inl x2)) : Option jV) = some (.inl (.inl r.1)))) : x1 = x2 := by
  obtain ⟨r, r', e, e', k⟩ := rate_an L L1 a1 hG q
  obtain ⟨s, c1, c2⟩ := q1
  obtain ⟨s', b1, b2⟩ := q2
  rw [e] at c1
  rw [e'] at b1
  cases c1
  cases b1
  cases c2
  cases b2
  exact k
theorem Pa91 {d : Nat} {I : jI} {L : jL} {K : jK} (hG : gG aGI I) (q : RD2 I I) (hK : jPM d 91 [.inr (0, 0)] (I, L) K) : jPM d 91 [.inr (0, 0)] (I, L) (fun v σ => (∃ r, d91 I = some r ∧ v = some (.inl (.inl r.1))) ∧ K v σ) := by
  obtain ⟨r, r', e, e', -⟩ := cheapest_an hG q
  exact jPM_and (D91 e ⟨r, e, rfl⟩) hK
theorem Pa181 {d : Nat} {I I1 : jI} {L : jL} {K : jK} (hG : gG aGI I) (q : RD2 I I1) (hK : jPM d 181 [.inr (31, 0)] (I1, L) K) : jPM d 181 [.inr (31, 0)] (I1, L) (fun v σ => (∃ r, d181 I1 = some r ∧ v = some (.inl (.inl r.1))) ∧ K v σ) := by
  obtain ⟨r, r', e, e', -⟩ := cheapest_an hG q
  exact jPM_and (D181 e' ⟨r', e', rfl⟩) hK
theorem Qa91 {x1 x2 : Int32} {I I1 : jI} (hG : gG aGI I) (q : RD2 I I1) (q1 : (∃ r, d91 I = some r ∧ (some (.inl (.inl x1)) : Option jV) = some (.inl (.inl r.1)))) (q2 : (∃ r, d181 I1 = some r ∧ (some (.inl (.inl x2)) : Option jV) = some (.inl (.inl r.1)))) : x1 = x2 := by
  obtain ⟨r, r', e, e', k⟩ := cheapest_an hG q
  obtain ⟨s, c1, c2⟩ := q1
  obtain ⟨s', b1, b2⟩ := q2
  rw [e] at c1
  rw [e'] at b1
  cases c1
  cases b1
  cases c2
  cases b2
  exact k
theorem Pa92 {d : Nat} {I : jI} {L : jL} {K : jK} (hG : gG aGI I) (q : RD2 I I) (hK : jPM d 92 [.inr (0, 0)] (I, L) K) : jPM d 92 [.inr (0, 0)] (I, L) (fun v σ => (∃ r, d92 I = some r ∧ v = some (.inl (.inl r.1))) ∧ K v σ) := by
  obtain ⟨r, r', e, e', -⟩ := larger_an hG q
  exact jPM_and (D92 e ⟨r, e, rfl⟩) hK
theorem Pa182 {d : Nat} {I I1 : jI} {L : jL} {K : jK} (hG : gG aGI I) (q : RD2 I I1) (hK : jPM d 182 [.inr (31, 0)] (I1, L) K) : jPM d 182 [.inr (31, 0)] (I1, L) (fun v σ => (∃ r, d182 I1 = some r ∧ v = some (.inl (.inl r.1))) ∧ K v σ) := by
  obtain ⟨r, r', e, e', -⟩ := larger_an hG q
  exact jPM_and (D182 e' ⟨r', e', rfl⟩) hK
theorem Qa92 {x1 x2 : Int32} {I I1 : jI} (hG : gG aGI I) (q : RD2 I I1) (q1 : (∃ r, d92 I = some r ∧ (some (.inl (.inl x1)) : Option jV) = some (.inl (.inl r.1)))) (q2 : (∃ r, d182 I1 = some r ∧ (some (.inl (.inl x2)) : Option jV) = some (.inl (.inl r.1)))) : x1 = x2 := by
  obtain ⟨r, r', e, e', k⟩ := larger_an hG q
  obtain ⟨s, c1, c2⟩ := q1
  obtain ⟨s', b1, b2⟩ := q2
  rw [e] at c1
  rw [e'] at b1
  cases c1
  cases b1
  cases c2
  cases b2
  exact k
theorem Pa96 {d : Nat} {a1 : Int32} {I : jI} {L : jL} {K : jK} (hG : gG aGI I) (q : RD2 I I) (hK : jPM d 96 [.inr (0, 0), .inl (.inl a1)] (I, L) K) : jPM d 96 [.inr (0, 0), .inl (.inl a1)] (I, L) (fun v σ => (∃ r, d96 a1 I = some r ∧ v = some (.inl (.inl r.1))) ∧ K v σ) := by
  obtain ⟨r, r', e, e', -⟩ := off_an a1 hG q
  exact jPM_and (D96 e ⟨r, e, rfl⟩) hK
theorem Pa190 {d : Nat} {a1 : Int32} {I I1 : jI} {L : jL} {K : jK} (hG : gG aGI I) (q : RD2 I I1) (hK : jPM d 190 [.inr (31, 0), .inl (.inl a1)] (I1, L) K) : jPM d 190 [.inr (31, 0), .inl (.inl a1)] (I1, L) (fun v σ => (∃ r, d190 a1 I1 = some r ∧ v = some (.inl (.inl r.1))) ∧ K v σ) := by
  obtain ⟨r, r', e, e', -⟩ := off_an a1 hG q
  exact jPM_and (D190 e' ⟨r', e', rfl⟩) hK
theorem Qa96 {a1 : Int32} {x1 x2 : Int32} {I I1 : jI} (hG : gG aGI I) (q : RD2 I I1) (q1 : (∃ r, d96 a1 I = some r ∧ (some (.inl (.inl x1)) : Option jV) = some (.inl (.inl r.1)))) (q2 : (∃ r, d190 a1 I1 = some r ∧ (some (.inl (.inl x2)) : Option jV) = some (.inl (.inl r.1)))) : x1 = x2 := by
  obtain ⟨r, r', e, e', k⟩ := off_an a1 hG q
  obtain ⟨s, c1, c2⟩ := q1
  obtain ⟨s', b1, b2⟩ := q2
  rw [e] at c1
  rw [e'] at b1
  cases c1
  cases b1
  cases c2
  cases b2
  exact k
theorem Pa97 {d : Nat} {I : jI} {L : jL} {K : jK} (hG : gG aGI I) (q : RD2 I I) (hK : jPM d 97 [.inr (0, 0)] (I, L) K) : jPM d 97 [.inr (0, 0)] (I, L) (fun v σ => (∃ r, d97 I = some r ∧ v = some (.inl (.inl r.1))) ∧ K v σ) := by
  obtain ⟨r, r', e, e', -⟩ := lasts_an hG q
  exact jPM_and (D97 e ⟨r, e, rfl⟩) hK
theorem Pa191 {d : Nat} {I I1 : jI} {L : jL} {K : jK} (hG : gG aGI I) (q : RD2 I I1) (hK : jPM d 191 [.inr (31, 0)] (I1, L) K) : jPM d 191 [.inr (31, 0)] (I1, L) (fun v σ => (∃ r, d191 I1 = some r ∧ v = some (.inl (.inl r.1))) ∧ K v σ) := by
  obtain ⟨r, r', e, e', -⟩ := lasts_an hG q
  exact jPM_and (D191 e' ⟨r', e', rfl⟩) hK
theorem Qa97 {x1 x2 : Int32} {I I1 : jI} (hG : gG aGI I) (q : RD2 I I1) (q1 : (∃ r, d97 I = some r ∧ (some (.inl (.inl x1)) : Option jV) = some (.inl (.inl r.1)))) (q2 : (∃ r, d191 I1 = some r ∧ (some (.inl (.inl x2)) : Option jV) = some (.inl (.inl r.1)))) : x1 = x2 := by
  obtain ⟨r, r', e, e', k⟩ := lasts_an hG q
  obtain ⟨s, c1, c2⟩ := q1
  obtain ⟨s', b1, b2⟩ := q2
  rw [e] at c1
  rw [e'] at b1
  cases c1
  cases b1
  cases c2
  cases b2
  exact k
theorem Pa101 {d : Nat} {a1 a2 a3 : Int32} {I : jI} {L : jL} {K : jK} (hG : gG aGI I) (q : RD2 I I) (hK : jPM d 101 [.inr (0, 0), .inl (.inl a1), .inl (.inl a2), .inl (.inl a3)] (I, L) K) : jPM d 101 [.inr (0, 0), .inl (.inl a1), .inl (.inl a2), .inl (.inl a3)] (I, L) (fun v σ => (∃ r, d101 a1 a2 a3 I = some r ∧ v = some (.inl (.inl r))) ∧ K v σ) := by
  obtain ⟨r, r', e, e', -⟩ := grams_an a1 a2 a3 hG q
  exact jPM_and (D101 e ⟨r, e, rfl⟩) hK
theorem Pa197 {d : Nat} {a1 a2 a3 : Int32} {I I1 : jI} {L : jL} {K : jK} (hG : gG aGI I) (q : RD2 I I1) (hK : jPM d 197 [.inr (31, 0), .inl (.inl a1), .inl (.inl a2), .inl (.inl a3)] (I1, L) K) : jPM d 197 [.inr (31, 0), .inl (.inl a1), .inl (.inl a2), .inl (.inl a3)] (I1, L) (fun v σ => (∃ r, d197 a1 a2 a3 I1 = some r ∧ v = some (.inl (.inl r))) ∧ K v σ) := by
  obtain ⟨r, r', e, e', -⟩ := grams_an a1 a2 a3 hG q
  exact jPM_and (D197 e' ⟨r', e', rfl⟩) hK
theorem Qa101 {a1 a2 a3 : Int32} {x1 x2 : Int32} {I I1 : jI} (hG : gG aGI I) (q : RD2 I I1) (q1 : (∃ r, d101 a1 a2 a3 I = some r ∧ (some (.inl (.inl x1)) : Option jV) = some (.inl (.inl r)))) (q2 : (∃ r, d197 a1 a2 a3 I1 = some r ∧ (some (.inl (.inl x2)) : Option jV) = some (.inl (.inl r)))) : x1 = x2 := by
  obtain ⟨r, r', e, e', k⟩ := grams_an a1 a2 a3 hG q
  obtain ⟨s, c1, c2⟩ := q1
  obtain ⟨s', b1, b2⟩ := q2
  rw [e] at c1
  rw [e'] at b1
  cases c1
  cases b1
  cases c2
  cases b2
  exact k
theorem Pa98 {d : Nat} {a1 a2 : Int32} {I : jI} {L : jL} {K : jK} (hG : gG aGI I) (q : RD2 I I) (hK : jPM d 98 [.inr (0, 0), .inl (.inl a1), .inl (.inl a2)] (I, L) K) : jPM d 98 [.inr (0, 0), .inl (.inl a1), .inl (.inl a2)] (I, L) (fun v σ => (∃ r, d98 a1 a2 I = some r ∧ v = some (.inl (.inl r.1))) ∧ K v σ) := by
  obtain ⟨r, r', e, e', -⟩ := looks_an a1 a2 hG q
  exact jPM_and (D98 e ⟨r, e, rfl⟩) hK
theorem Pa192 {d : Nat} {a1 a2 : Int32} {I I1 : jI} {L : jL} {K : jK} (hG : gG aGI I) (q : RD2 I I1) (hK : jPM d 192 [.inr (31, 0), .inl (.inl a1), .inl (.inl a2)] (I1, L) K) : jPM d 192 [.inr (31, 0), .inl (.inl a1), .inl (.inl a2)] (I1, L) (fun v σ => (∃ r, d192 a1 a2 I1 = some r ∧ v = some (.inl (.inl r.1))) ∧ K v σ) := by
  obtain ⟨r, r', e, e', -⟩ := looks_an a1 a2 hG q
  exact jPM_and (D192 e' ⟨r', e', rfl⟩) hK
theorem Qa98 {a1 a2 : Int32} {x1 x2 : Int32} {I I1 : jI} (hG : gG aGI I) (q : RD2 I I1) (q1 : (∃ r, d98 a1 a2 I = some r ∧ (some (.inl (.inl x1)) : Option jV) = some (.inl (.inl r.1)))) (q2 : (∃ r, d192 a1 a2 I1 = some r ∧ (some (.inl (.inl x2)) : Option jV) = some (.inl (.inl r.1)))) : x1 = x2 := by
  obtain ⟨r, r', e, e', k⟩ := looks_an a1 a2 hG q
  obtain ⟨s, c1, c2⟩ := q1
  obtain ⟨s', b1, b2⟩ := q2
  rw [e] at c1
  rw [e'] at b1
  cases c1
  cases b1
  cases c2
  cases b2
  exact k
theorem Pa102 {d : Nat} {a1 : Int32} {I : jI} {L : jL} {K : jK} (hG : gG aGI I) (q : RD2 I I) (hK : jPM d 102 [.inr (0, 0), .inl (.inl a1)] (I, L) K) : jPM d 102 [.inr (0, 0), .inl (.inl a1)] (I, L) (fun v σ => v = some (.inl (.inl (an102 a1 I))) ∧ K v σ) := by
  exact jPM_and (Vx102 hG (fun x I' L' _ e => by rw [e])) hK
theorem Pa203 {d : Nat} {a1 : Int32} {I I1 : jI} {L : jL} {K : jK} (hG : gG aGI I) (q : RD2 I I1) (hK : jPM d 203 [.inr (31, 0), .inl (.inl a1)] (I1, L) K) : jPM d 203 [.inr (31, 0), .inl (.inl a1)] (I1, L) (fun v σ => v = some (.inl (.inl (an203 a1 I1))) ∧ K v σ) := by
  exact jPM_and (Vx203 (fun x I' L' _ e => by rw [e])) hK
theorem Qa102 {a1 : Int32} {x1 x2 : Int32} {I I1 : jI} (hG : gG aGI I) (q : RD2 I I1) (q1 : (some (.inl (.inl x1)) : Option jV) = some (.inl (.inl (an102 a1 I)))) (q2 : (some (.inl (.inl x2)) : Option jV) = some (.inl (.inl (an203 a1 I1)))) : x1 = x2 := by
  cases q1
  cases q2
  exact shop_an a1 hG q
theorem Pa103 {d : Nat} {a1 a2 : Int32} {I : jI} {L : jL} {K : jK} (hG : gG aGI I) (q : RD2 I I) (hK : jPM d 103 [.inr (0, 0), .inl (.inl a1), .inl (.inl a2)] (I, L) K) : jPM d 103 [.inr (0, 0), .inl (.inl a1), .inl (.inl a2)] (I, L) (fun v σ => v = some (.inl (.inl (an103 a1 a2 I))) ∧ K v σ) := by
  exact jPM_and (Vx103 (fun x I' L' _ e => by rw [e])) hK
theorem Pa205 {d : Nat} {a1 a2 : Int32} {I I1 : jI} {L : jL} {K : jK} (hG : gG aGI I) (q : RD2 I I1) (hK : jPM d 205 [.inr (31, 0), .inl (.inl a1), .inl (.inl a2)] (I1, L) K) : jPM d 205 [.inr (31, 0), .inl (.inl a1), .inl (.inl a2)] (I1, L) (fun v σ => v = some (.inl (.inl (an205 a1 a2 I1))) ∧ K v σ) := by
  exact jPM_and (Vx205 (fun x I' L' _ e => by rw [e])) hK
theorem Qa103 {a1 a2 : Int32} {x1 x2 : Int32} {I I1 : jI} (hG : gG aGI I) (q : RD2 I I1) (q1 : (some (.inl (.inl x1)) : Option jV) = some (.inl (.inl (an103 a1 a2 I)))) (q2 : (some (.inl (.inl x2)) : Option jV) = some (.inl (.inl (an205 a1 a2 I1)))) : x1 = x2 := by
  cases q1
  cases q2
  exact odds_an a1 a2 hG q
theorem Pa104 {d : Nat} {a1 : Int32} {I : jI} {L : jL} {K : jK} (hG : gG aGI I) (q : RD2 I I) (hK : jPM d 104 [.inr (0, 0), .inl (.inl a1)] (I, L) K) : jPM d 104 [.inr (0, 0), .inl (.inl a1)] (I, L) (fun v σ => v = some (.inl (.inl (an104 a1 I))) ∧ K v σ) := by
  exact jPM_and (Vx104 (fun x I' L' _ e => by rw [e])) hK
theorem Pa206 {d : Nat} {a1 : Int32} {I I1 : jI} {L : jL} {K : jK} (hG : gG aGI I) (q : RD2 I I1) (hK : jPM d 206 [.inr (31, 0), .inl (.inl a1)] (I1, L) K) : jPM d 206 [.inr (31, 0), .inl (.inl a1)] (I1, L) (fun v σ => v = some (.inl (.inl (an206 a1 I1))) ∧ K v σ) := by
  exact jPM_and (Vx206 (fun x I' L' _ e => by rw [e])) hK
theorem Qa104 {a1 : Int32} {x1 x2 : Int32} {I I1 : jI} (hG : gG aGI I) (q : RD2 I I1) (q1 : (some (.inl (.inl x1)) : Option jV) = some (.inl (.inl (an104 a1 I)))) (q2 : (some (.inl (.inl x2)) : Option jV) = some (.inl (.inl (an206 a1 I1)))) : x1 = x2 := by
  cases q1
  cases q2
  exact mid_an a1 hG q
