/-! calls of the readers, as the law makes them -/
theorem P76 {d : Nat} {t : Int32} {I : jI} {L : jL} (hG : gG aGI I) (h : RT I) : jPM d 76 [.inr (0, 0), .inl (.inl t)] (I, L) (fun v σ => (∃ r, d76 t I = some r ∧ v = some (.inl (.inl r.1))) ∧ fr [12, 17, 18, 19, 20, 21, 1013, 4002, 4003, 4004, 5006, 5007, 5008] I σ.1) := by
  obtain ⟨r, r', e, -, -⟩ := fault_eq t hG h (J := I) rfl rfl
  exact jPM_and (D76 e ⟨r, e, rfl⟩) (Fx76 (fun _ I' L' f => f))
theorem P149 {d : Nat} {t : Int32} {I I1 : jI} {L : jL} (hG : gG aGI I) (h : RT I) (f : fr [12, 17, 18, 19, 20, 21, 1013, 4002, 4003, 4004, 5006, 5007, 5008] I I1) : jPM d 149 [.inr (31, 0), .inl (.inl t)] (I1, L) (fun v σ => (∃ r, d149 t I1 = some r ∧ v = some (.inl (.inl r.1))) ∧ fr [39, 40, 32013, 32015, 32016, 32017, 32018, 32019, 32021] I1 σ.1) := by
  obtain ⟨r, r', -, e, -⟩ := fault_eq t hG h (J := I1) (fr_arr f (fun _ => rfl) rfl) (fr_arr f (fun _ => rfl) rfl)
  exact jPM_and (D149 e ⟨r', e, rfl⟩) (Fx149 (fun _ I' L' f => f))
theorem ee_fault {t x1 x2 : Int32} {I I1 : jI} (hG : gG aGI I) (h : RT I) (f : fr [12, 17, 18, 19, 20, 21, 1013, 4002, 4003, 4004, 5006, 5007, 5008] I I1) (q1 : ∃ r, d76 t I = some r ∧ (some (.inl (.inl x1)) : Option jV) = some (.inl (.inl r.1))) (q2 : ∃ r, d149 t I1 = some r ∧ (some (.inl (.inl x2)) : Option jV) = some (.inl (.inl r.1))) : x1 = x2 := by
  obtain ⟨r, r', e, e', k⟩ := fault_eq t hG h (J := I1) (fr_arr f (fun _ => rfl) rfl) (fr_arr f (fun _ => rfl) rfl)
  obtain ⟨s, a1, a2⟩ := q1
  obtain ⟨s', b1, b2⟩ := q2
  rw [e] at a1
  rw [e'] at b1
  cases a1
  cases b1
  cases a2
  cases b2
  exact k
theorem P77 {d : Nat} {t : Int32} {I : jI} {L : jL} (hG : gG aGI I) (h : RT I) : jPM d 77 [.inr (0, 0), .inl (.inl t)] (I, L) (fun v σ => (∃ r, d77 t I = some r ∧ v = some (.inl (.inl r.1))) ∧ fr [6, 12, 17, 18, 19, 20, 21, 22, 23, 1013, 4002, 4003, 4004, 5006, 5007, 5008, 5009, 5010, 5011, 5012, 5013, 5014, 5015] I σ.1) := by
  obtain ⟨r, r', e, -, -⟩ := house_eq t hG h (J := I) rfl rfl
  exact jPM_and (D77 e ⟨r, e, rfl⟩) (Fx77 (fun _ I' L' f => f))
theorem P150 {d : Nat} {t : Int32} {I I1 : jI} {L : jL} (hG : gG aGI I) (h : RT I) (f : fr [6, 12, 17, 18, 19, 20, 21, 22, 23, 1013, 4002, 4003, 4004, 5006, 5007, 5008, 5009, 5010, 5011, 5012, 5013, 5014, 5015] I I1) : jPM d 150 [.inr (31, 0), .inl (.inl t)] (I1, L) (fun v σ => (∃ r, d150 t I1 = some r ∧ v = some (.inl (.inl r.1))) ∧ fr [32, 33, 34, 39, 40, 32001, 32002, 32003, 32013, 32015, 32016, 32017, 32018, 32019, 32021] I1 σ.1) := by
  obtain ⟨r, r', -, e, -⟩ := house_eq t hG h (J := I1) (fr_arr f (fun _ => rfl) rfl) (fr_arr f (fun _ => rfl) rfl)
  exact jPM_and (D150 e ⟨r', e, rfl⟩) (Fx150 (fun _ I' L' f => f))
theorem ee_house {t x1 x2 : Int32} {I I1 : jI} (hG : gG aGI I) (h : RT I) (f : fr [6, 12, 17, 18, 19, 20, 21, 22, 23, 1013, 4002, 4003, 4004, 5006, 5007, 5008, 5009, 5010, 5011, 5012, 5013, 5014, 5015] I I1) (q1 : ∃ r, d77 t I = some r ∧ (some (.inl (.inl x1)) : Option jV) = some (.inl (.inl r.1))) (q2 : ∃ r, d150 t I1 = some r ∧ (some (.inl (.inl x2)) : Option jV) = some (.inl (.inl r.1))) : x1 = x2 := by
  obtain ⟨r, r', e, e', k⟩ := house_eq t hG h (J := I1) (fr_arr f (fun _ => rfl) rfl) (fr_arr f (fun _ => rfl) rfl)
  obtain ⟨s, a1, a2⟩ := q1
  obtain ⟨s', b1, b2⟩ := q2
  rw [e] at a1
  rw [e'] at b1
  cases a1
  cases b1
  cases a2
  cases b2
  exact k
