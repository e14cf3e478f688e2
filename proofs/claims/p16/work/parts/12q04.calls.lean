/-! calls of TEXTS, as the law makes them -/
theorem P74 {d : Nat} {t n : Int32} {I : jI} {L : jL} : jPM d 74 [.inr (0, 0), .inl (.inl t), .inl (.inl n)] (I, L) (fun v σ => (v = some (.inl (.inl (eA 3 60 t n))) ∧ txC t n I σ.1) ∧ fr [12, 16, 30, 1013] I σ.1) := by
  obtain ⟨r, e, a, c⟩ := text_c t n I
  exact jPM_and (D74 e ⟨by rw [a], c⟩) (Fx74 (fun _ I' L' f => f))
theorem P139 {d : Nat} {t n : Int32} {I : jI} {L : jL} : jPM d 139 [.inr (31, 0), .inl (.inl t), .inl (.inl n)] (I, L) (fun v σ => (v = some (.inl (.inl (eA 3 60 t n))) ∧ txM t n I σ.1) ∧ fr [37, 38, 39, 32013] I σ.1) := by
  obtain ⟨r, e, a, c⟩ := text_m t n I
  exact jPM_and (D139 e ⟨by rw [a], c⟩) (Fx139 (fun _ I' L' f => f))
noncomputable def puS (g : Nat) (y : Int32) (t i x : Int32) (I : jI) (Q : Prop) : Prop := (¬ (0 ≤ t.toInt ∧ t.toInt ≤ 3) → x = -1) ∧ ((0 ≤ t.toInt ∧ t.toInt ≤ 3) → ¬ puOK I g t i → x = -3) ∧ (puOK I g t i → x = y + 1000) ∧ Q
theorem P75 {d : Nat} {t i w : Int32} {I : jI} {L : jL} : jPM d 75 [.inr (0, 0), .inl (.inl t), .inl (.inl i), .inl (.inl w)] (I, L) (fun v σ => (∃ x, v = some (.inl (.inl x)) ∧ puS 16 (I 30 t.toNatClampNeg i.toNatClampNeg) t i x I (puC t i w I σ.1)) ∧ fr [12, 30, 1013] I σ.1) := by
  obtain ⟨r, e, a⟩ := put_c t i w I
  exact jPM_and (D75 e ⟨r.1, rfl, a⟩) (Fx75 (fun _ I' L' f => f))
theorem P140 {d : Nat} {t i w : Int32} {I : jI} {L : jL} (hG : gG aGI I) : jPM d 140 [.inr (31, 0), .inl (.inl t), .inl (.inl i), .inl (.inl w)] (I, L) (fun v σ => (∃ x, v = some (.inl (.inl x)) ∧ puS 37 (I 38 0 (60 * t.toNatClampNeg + i.toNatClampNeg)) t i x I (puM t i w I σ.1)) ∧ fr [38, 39, 32013] I σ.1) := by
  obtain ⟨r, e, a⟩ := put_m t i w hG
  exact jPM_and (D140 e ⟨r.1, rfl, a⟩) (Fx140 (fun _ I' L' f => f))
