/-! the calls that write what is asked -/
noncomputable def raC : List aR := [(0, (0, 0), (14, 14))]
noncomputable def raM : List aR := [(31, (0, 0), (10, 10))]
theorem RA_mid {W : List aR} {I I' : jI} {L L' : jL} (hw : rApart W raM = true) (q : RAs I I) (h : gR W I L I' L') : RAs I I' := by
  unfold RAs
  rw [(h 31 0 10 (rApart_of hw ⟨(31, (0, 0), (10, 10)), by decide, rfl, by decide, by decide, by decide, by decide⟩)).1]
  exact q
theorem RA_end {W : List aR} {I I' : jI} {L L' : jL} (hw : rApart W raC = true) (q : RAs I I') (h : gR W I L I' L') : RAs I' I' := by
  unfold RAs
  rw [(h 0 0 14 (rApart_of hw ⟨(0, (0, 0), (14, 14)), by decide, rfl, by decide, by decide, by decide, by decide⟩)).1]
  exact q
theorem RA_gR {W : List aR} {I I' : jI} {L L' : jL} (h1 : rApart W raC = true) (h2 : rApart W raM = true) (q : RAs I I) (h : gR W I L I' L') : RAs I' I' := RA_end h1 (RA_mid h2 q h) h
theorem RA_fr {W : List Nat} {I I' : jI} (q : RAs I I) (f : fr W I I') (hw : (jel 1014 W || jel 32010 W) = false) : RAs I' I' := by
  simp only [Bool.or_eq_false_iff] at hw
  unfold RAs
  rw [f 31 0 10 hw.2, f 0 0 14 hw.1]
  exact q
theorem Qz69 {a1 : Int32} {a2 : Int32} {a3 : Int32} {x1 x2 : Int32} {I I1 I2 : jI} (hG : gG aGI I) (q : RD2 I I1) (h : RR I I1) (hA : RAs I I1) (q1 : ∃ r, d69 a1 a2 a3 I = some r ∧ (some (.inl (.inl x1)) : Option jV) = some (.inl (.inl r.1)) ∧ I1 = r.2) (q2 : ∃ r, d133 a1 a2 a3 I1 = some r ∧ (some (.inl (.inl x2)) : Option jV) = some (.inl (.inl r.1)) ∧ I2 = r.2) : RAs I1 I2 := by
  obtain ⟨r, r', e, e', k⟩ := lay_as a1 a2 a3 hG h hA
  obtain ⟨s, c1, c2, c3⟩ := q1
  obtain ⟨s', b1, b2, b3⟩ := q2
  rw [e] at c1
  rw [e'] at b1
  cases c1
  cases b1
  rw [c3, b3]
  exact k
theorem Qz70 {a1 : Int32} {a2 : Int32} {x1 x2 : Int32} {I I1 I2 : jI} (hG : gG aGI I) (q : RD2 I I1) (h : RR I I1) (hA : RAs I I1) (q1 : ∃ r, d70 a1 a2 I = some r ∧ (some (.inl (.inl x1)) : Option jV) = some (.inl (.inl r.1)) ∧ I1 = r.2) (q2 : ∃ r, d134 a1 a2 I1 = some r ∧ (some (.inl (.inl x2)) : Option jV) = some (.inl (.inl r.1)) ∧ I2 = r.2) : RAs I1 I2 := by
  obtain ⟨r, r', e, e', k⟩ := at_as a1 a2 hG h hA
  obtain ⟨s, c1, c2, c3⟩ := q1
  obtain ⟨s', b1, b2, b3⟩ := q2
  rw [e] at c1
  rw [e'] at b1
  cases c1
  cases b1
  rw [c3, b3]
  exact k
theorem Qz73 {a1 : Int32} {x1 x2 : Int32} {I I1 I2 : jI} (hG : gG aGI I) (q : RD2 I I1) (h : RR I I1) (hA : RAs I I1) (q1 : ∃ r, d73 a1 I = some r ∧ (some (.inl (.inl x1)) : Option jV) = some (.inl (.inl r.1)) ∧ I1 = r.2) (q2 : ∃ r, d138 a1 I1 = some r ∧ (some (.inl (.inl x2)) : Option jV) = some (.inl (.inl r.1)) ∧ I2 = r.2) : RAs I1 I2 := by
  obtain ⟨r, r', e, e', k⟩ := mean_as a1 hG h hA
  obtain ⟨s, c1, c2, c3⟩ := q1
  obtain ⟨s', b1, b2, b3⟩ := q2
  rw [e] at c1
  rw [e'] at b1
  cases c1
  cases b1
  rw [c3, b3]
  exact k
theorem Qz100 {a1 : Int32} {a2 : Int32} {x1 x2 : Int32} {I I1 I2 : jI} (hG : gG aGI I) (q : RD2 I I1) (h : RR I I1) (hA : RAs I I1) (q1 : ∃ r, d100 a1 a2 I = some r ∧ (some (.inl (.inl x1)) : Option jV) = some (.inl (.inl r.1)) ∧ I1 = r.2) (q2 : ∃ r, d196 a1 a2 I1 = some r ∧ (some (.inl (.inl x2)) : Option jV) = some (.inl (.inl r.1)) ∧ I2 = r.2) : RAs I1 I2 := by
  obtain ⟨r, r', e, e', k⟩ := prices_as a1 a2 hG q h hA
  obtain ⟨s, c1, c2, c3⟩ := q1
  obtain ⟨s', b1, b2, b3⟩ := q2
  rw [e] at c1
  rw [e'] at b1
  cases c1
  cases b1
  rw [c3, b3]
  exact k
theorem Pz78 {d : Nat} {a1 : Int32} {a2 : Int32} {I : jI} {L : jL} {K : jK} (hG : gG aGI I) (q : RD2 I I) (h : RR I I) (hA : RAs I I) (hK : jPM d 78 [.inr (0, 0), .inl (.inl a1), .inl (.inl a2)] (I, L) K) : jPM d 78 [.inr (0, 0), .inl (.inl a1), .inl (.inl a2)] (I, L) (fun v σ => (∃ r, d78 a1 a2 I = some r ∧ v = some (.inl (.inl r.1)) ∧ σ.1 = r.2) ∧ K v σ) := by
  obtain ⟨r, r', e, e', -⟩ := packet_as a1 a2 hG q hA
  exact jPM_and (D78 e ⟨r, e, rfl, rfl⟩) hK
theorem Pz158 {d : Nat} {a1 : Int32} {a2 : Int32} {I I1 : jI} {L : jL} {K : jK} (hG : gG aGI I) (q : RD2 I I1) (h : RR I I1) (hA : RAs I I1) (hK : jPM d 158 [.inr (31, 0), .inl (.inl a1), .inl (.inl a2)] (I1, L) K) : jPM d 158 [.inr (31, 0), .inl (.inl a1), .inl (.inl a2)] (I1, L) (fun v σ => (∃ r, d158 a1 a2 I1 = some r ∧ v = some (.inl (.inl r.1)) ∧ σ.1 = r.2) ∧ K v σ) := by
  obtain ⟨r, r', e, e', -⟩ := packet_as a1 a2 hG q hA
  exact jPM_and (D158 e' ⟨r', e', rfl, rfl⟩) hK
theorem Qz78 {a1 : Int32} {a2 : Int32} {x1 x2 : Int32} {I I1 I2 : jI} (hG : gG aGI I) (q : RD2 I I1) (h : RR I I1) (hA : RAs I I1) (q1 : ∃ r, d78 a1 a2 I = some r ∧ (some (.inl (.inl x1)) : Option jV) = some (.inl (.inl r.1)) ∧ I1 = r.2) (q2 : ∃ r, d158 a1 a2 I1 = some r ∧ (some (.inl (.inl x2)) : Option jV) = some (.inl (.inl r.1)) ∧ I2 = r.2) : RAs I1 I2 := by
  obtain ⟨r, r', e, e', k⟩ := packet_as a1 a2 hG q hA
  obtain ⟨s, c1, c2, c3⟩ := q1
  obtain ⟨s', b1, b2, b3⟩ := q2
  rw [e] at c1
  rw [e'] at b1
  cases c1
  cases b1
  rw [c3, b3]
  exact k
theorem Pz91 {d : Nat} {I : jI} {L : jL} {K : jK} (hG : gG aGI I) (q : RD2 I I) (h : RR I I) (hA : RAs I I) (hK : jPM d 91 [.inr (0, 0)] (I, L) K) : jPM d 91 [.inr (0, 0)] (I, L) (fun v σ => (∃ r, d91 I = some r ∧ v = some (.inl (.inl r.1)) ∧ σ.1 = r.2) ∧ K v σ) := by
  obtain ⟨r, r', e, e', -⟩ := cheapest_as hG q hA
  exact jPM_and (D91 e ⟨r, e, rfl, rfl⟩) hK
theorem Pz181 {d : Nat} {I I1 : jI} {L : jL} {K : jK} (hG : gG aGI I) (q : RD2 I I1) (h : RR I I1) (hA : RAs I I1) (hK : jPM d 181 [.inr (31, 0)] (I1, L) K) : jPM d 181 [.inr (31, 0)] (I1, L) (fun v σ => (∃ r, d181 I1 = some r ∧ v = some (.inl (.inl r.1)) ∧ σ.1 = r.2) ∧ K v σ) := by
  obtain ⟨r, r', e, e', -⟩ := cheapest_as hG q hA
  exact jPM_and (D181 e' ⟨r', e', rfl, rfl⟩) hK
theorem Qz91 {x1 x2 : Int32} {I I1 I2 : jI} (hG : gG aGI I) (q : RD2 I I1) (h : RR I I1) (hA : RAs I I1) (q1 : ∃ r, d91 I = some r ∧ (some (.inl (.inl x1)) : Option jV) = some (.inl (.inl r.1)) ∧ I1 = r.2) (q2 : ∃ r, d181 I1 = some r ∧ (some (.inl (.inl x2)) : Option jV) = some (.inl (.inl r.1)) ∧ I2 = r.2) : RAs I1 I2 := by
  obtain ⟨r, r', e, e', k⟩ := cheapest_as hG q hA
  obtain ⟨s, c1, c2, c3⟩ := q1
  obtain ⟨s', b1, b2, b3⟩ := q2
  rw [e] at c1
  rw [e'] at b1
  cases c1
  cases b1
  rw [c3, b3]
  exact k
theorem Pz92 {d : Nat} {I : jI} {L : jL} {K : jK} (hG : gG aGI I) (q : RD2 I I) (h : RR I I) (hA : RAs I I) (hK : jPM d 92 [.inr (0, 0)] (I, L) K) : jPM d 92 [.inr (0, 0)] (I, L) (fun v σ => (∃ r, d92 I = some r ∧ v = some (.inl (.inl r.1)) ∧ σ.1 = r.2) ∧ K v σ) := by
  obtain ⟨r, r', e, e', -⟩ := larger_as hG q
  exact jPM_and (D92 e ⟨r, e, rfl, rfl⟩) hK
theorem Pz182 {d : Nat} {I I1 : jI} {L : jL} {K : jK} (hG : gG aGI I) (q : RD2 I I1) (h : RR I I1) (hA : RAs I I1) (hK : jPM d 182 [.inr (31, 0)] (I1, L) K) : jPM d 182 [.inr (31, 0)] (I1, L) (fun v σ => (∃ r, d182 I1 = some r ∧ v = some (.inl (.inl r.1)) ∧ σ.1 = r.2) ∧ K v σ) := by
  obtain ⟨r, r', e, e', -⟩ := larger_as hG q
  exact jPM_and (D182 e' ⟨r', e', rfl, rfl⟩) hK
theorem Qz92 {x1 x2 : Int32} {I I1 I2 : jI} (hG : gG aGI I) (q : RD2 I I1) (h : RR I I1) (hA : RAs I I1) (q1 : ∃ r, d92 I = some r ∧ (some (.inl (.inl x1)) : Option jV) = some (.inl (.inl r.1)) ∧ I1 = r.2) (q2 : ∃ r, d182 I1 = some r ∧ (some (.inl (.inl x2)) : Option jV) = some (.inl (.inl r.1)) ∧ I2 = r.2) : RAs I1 I2 := by
  obtain ⟨r, r', e, e', k⟩ := larger_as hG q
  obtain ⟨s, c1, c2, c3⟩ := q1
  obtain ⟨s', b1, b2, b3⟩ := q2
  rw [e] at c1
  rw [e'] at b1
  cases c1
  cases b1
  rw [c3, b3]
  exact k
theorem Pz98 {d : Nat} {a1 : Int32} {a2 : Int32} {I : jI} {L : jL} {K : jK} (hG : gG aGI I) (q : RD2 I I) (h : RR I I) (hA : RAs I I) (hK : jPM d 98 [.inr (0, 0), .inl (.inl a1), .inl (.inl a2)] (I, L) K) : jPM d 98 [.inr (0, 0), .inl (.inl a1), .inl (.inl a2)] (I, L) (fun v σ => (∃ r, d98 a1 a2 I = some r ∧ v = some (.inl (.inl r.1)) ∧ σ.1 = r.2) ∧ K v σ) := by
  obtain ⟨r, r', e, e', -⟩ := looks_as a1 a2 hG q hA
  exact jPM_and (D98 e ⟨r, e, rfl, rfl⟩) hK
theorem Pz192 {d : Nat} {a1 : Int32} {a2 : Int32} {I I1 : jI} {L : jL} {K : jK} (hG : gG aGI I) (q : RD2 I I1) (h : RR I I1) (hA : RAs I I1) (hK : jPM d 192 [.inr (31, 0), .inl (.inl a1), .inl (.inl a2)] (I1, L) K) : jPM d 192 [.inr (31, 0), .inl (.inl a1), .inl (.inl a2)] (I1, L) (fun v σ => (∃ r, d192 a1 a2 I1 = some r ∧ v = some (.inl (.inl r.1)) ∧ σ.1 = r.2) ∧ K v σ) := by
  obtain ⟨r, r', e, e', -⟩ := looks_as a1 a2 hG q hA
  exact jPM_and (D192 e' ⟨r', e', rfl, rfl⟩) hK
theorem Qz98 {a1 : Int32} {a2 : Int32} {x1 x2 : Int32} {I I1 I2 : jI} (hG : gG aGI I) (q : RD2 I I1) (h : RR I I1) (hA : RAs I I1) (q1 : ∃ r, d98 a1 a2 I = some r ∧ (some (.inl (.inl x1)) : Option jV) = some (.inl (.inl r.1)) ∧ I1 = r.2) (q2 : ∃ r, d192 a1 a2 I1 = some r ∧ (some (.inl (.inl x2)) : Option jV) = some (.inl (.inl r.1)) ∧ I2 = r.2) : RAs I1 I2 := by
  obtain ⟨r, r', e, e', k⟩ := looks_as a1 a2 hG q hA
  obtain ⟨s, c1, c2, c3⟩ := q1
  obtain ⟨s', b1, b2, b3⟩ := q2
  rw [e] at c1
  rw [e'] at b1
  cases c1
  cases b1
  rw [c3, b3]
  exact k
theorem Pz102 {d : Nat} {a1 : Int32} {I : jI} {L : jL} {K : jK} (hG : gG aGI I) (q : RD2 I I) (h : RR I I) (hA : RAs I I) (hK : jPM d 102 [.inr (0, 0), .inl (.inl a1)] (I, L) K) : jPM d 102 [.inr (0, 0), .inl (.inl a1)] (I, L) (fun v σ => (∃ r, d102 a1 I = some r ∧ v = some (.inl (.inl r.1)) ∧ σ.1 = r.2) ∧ K v σ) := by
  obtain ⟨r, r', e, e', -⟩ := shop_as a1 hG q hA
  exact jPM_and (D102 e ⟨r, e, rfl, rfl⟩) hK
theorem Pz203 {d : Nat} {a1 : Int32} {I I1 : jI} {L : jL} {K : jK} (hG : gG aGI I) (q : RD2 I I1) (h : RR I I1) (hA : RAs I I1) (hK : jPM d 203 [.inr (31, 0), .inl (.inl a1)] (I1, L) K) : jPM d 203 [.inr (31, 0), .inl (.inl a1)] (I1, L) (fun v σ => (∃ r, d203 a1 I1 = some r ∧ v = some (.inl (.inl r.1)) ∧ σ.1 = r.2) ∧ K v σ) := by
  obtain ⟨r, r', e, e', -⟩ := shop_as a1 hG q hA
  exact jPM_and (D203 e' ⟨r', e', rfl, rfl⟩) hK
theorem Qz102 {a1 : Int32} {x1 x2 : Int32} {I I1 I2 : jI} (hG : gG aGI I) (q : RD2 I I1) (h : RR I I1) (hA : RAs I I1) (q1 : ∃ r, d102 a1 I = some r ∧ (some (.inl (.inl x1)) : Option jV) = some (.inl (.inl r.1)) ∧ I1 = r.2) (q2 : ∃ r, d203 a1 I1 = some r ∧ (some (.inl (.inl x2)) : Option jV) = some (.inl (.inl r.1)) ∧ I2 = r.2) : RAs I1 I2 := by
  obtain ⟨r, r', e, e', k⟩ := shop_as a1 hG q hA
  obtain ⟨s, c1, c2, c3⟩ := q1
  obtain ⟨s', b1, b2, b3⟩ := q2
  rw [e] at c1
  rw [e'] at b1
  cases c1
  cases b1
  rw [c3, b3]
  exact k
theorem Pv106 {d : Nat} {I : jI} {L : jL} {K : jK} (hK : jPM d 106 [.inr (0, 0)] (I, L) K) : jPM d 106 [.inr (0, 0)] (I, L) (fun v σ => v = some (.inl (.inl (I 0 0 14))) ∧ K v σ) := jPM_and (D106 rfl rfl) hK
theorem Pv208 {d : Nat} {I : jI} {L : jL} {K : jK} (hK : jPM d 208 [.inr (31, 0)] (I, L) K) : jPM d 208 [.inr (31, 0)] (I, L) (fun v σ => v = some (.inl (.inl (I 31 0 10))) ∧ K v σ) := jPM_and (D208 rfl rfl) hK
theorem Qv106 {x1 x2 : Int32} {I I1 : jI} (h : RAs I I1) (q1 : (some (.inl (.inl x1)) : Option jV) = some (.inl (.inl (I 0 0 14)))) (q2 : (some (.inl (.inl x2)) : Option jV) = some (.inl (.inl (I1 31 0 10)))) : x1 = x2 := by
  cases q1
  cases q2
  exact h.symm
