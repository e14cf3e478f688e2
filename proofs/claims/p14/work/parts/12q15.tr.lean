/-- what is shown partially holds of the function's result, where a contract says that there is an end -/
theorem use_trp {m : Nat} {c : aK} (h : aKP aGI m c) {as : List jV} {I I' : jI} {L L' : jL} {v : Option jV} (has : aAs c.1 as) (hG : gG aGI I) (hp : ∀ (d : Nat) (k : jK), k v (I', L') → jPM d m as (I, L) k) {K : jK} (hf : ∀ d, jPM d m as (I, L) K) : K v (I', L') := by
  have t := jWPM_comb c.2.2.2 m as (I, L) (fun _ _ => True) (fun w σ => (w = v ∧ σ = (I', L')) ∧ K w σ) (h c.2.2.2 (Nat.le_refl _) as I L has hG _ (fun _ _ _ _ _ _ => trivial)) (jPM_and (hp _ _ ⟨rfl, rfl⟩) (hf _))
  refine Classical.byContradiction (fun n => jWPM_no _ _ _ _ (jWPM_mono _ _ _ _ _ _ (fun w σ q => n ?_) t))
  obtain ⟨-, ⟨q2, q3⟩, q4⟩ := q
  subst q2
  subst q3
  exact q4
