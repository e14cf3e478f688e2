theorem s_RT : RT sI := by
  refine ⟨fun t ht => ?_, fun _ _ _ _ => rfl⟩
  have : t = 0 ∨ t = 1 ∨ t = 2 ∨ t = 3 := by omega
  rcases this with e | e | e | e <;> subst e <;> rfl
theorem s_lR : lR sI sL := s_RT
