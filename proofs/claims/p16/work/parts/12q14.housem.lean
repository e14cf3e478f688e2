/-- house of a good TEXT: the reference's cells -/
noncomputable def hoM (J' X : jI) (m : Nat) : Prop := (X 31 0 1 = J' 31 0 18 ∧ X 31 0 2 = J' 31 0 19 ∧ X 31 0 3 = J' 31 0 21) ∧ (∀ i, i < m → (X 33 0 i = J' 40 0 (4 * i) ∧ X 34 0 i = J' 40 0 (4 * i + 3)) ∧ X 32 0 (17 + i) = J' 40 0 (4 * i + 1) ∧ X 32 0 (23 + i) = J' 40 0 (4 * i + 2)) ∧ (∀ j, j < 17 → X 32 0 j = 0) ∧ (X 32 0 1149 = -1 ∧ X 32 0 2298 = -1 ∧ X 32 0 3447 = -1) ∧ ∀ g, ¬ g = 31 → ¬ g = 32 → ¬ g = 33 → ¬ g = 34 → X g = J' g
noncomputable def hoN (r2 : jI) : jI := jup (jup (jup r2 31 0 1 (r2 31 0 18)) 31 0 2 ((jup r2 31 0 1 (r2 31 0 18)) 31 0 19)) 31 0 3 ((jup (jup r2 31 0 1 (r2 31 0 18)) 31 0 2 ((jup r2 31 0 1 (r2 31 0 18)) 31 0 19)) 31 0 21)
theorem hoM_of {J' : jI} {m : Nat} (hm : m ≤ 6) (hj : (J' 31 0 21).toInt = (m : Int)) : ∃ X, ((d150_39 1200 0 J').bind fun r2 => (d150_85 1200 0 (hoN r2)).bind fun r3 => d150_169 1200 1 r3) = some X ∧ hoM J' X m := by
  obtain ⟨U, u1, u2, u3⟩ := z39_m 1200 0 J' (by decide) (by decide) (by decide)
  have z0 : (0 : Int32).toInt = 0 := rfl
  have z1 : (1 : Int32).toInt = 1 := rfl
  rw [z0] at u3
  have u31 : U 31 = J' 31 := u2 31 (by decide)
  have s1 : hoN U 31 0 1 = J' 31 0 18 := by rw [← u31]; rfl
  have s2 : hoN U 31 0 2 = J' 31 0 19 := by rw [← u31]; rfl
  have s3 : hoN U 31 0 3 = J' 31 0 21 := by rw [← u31]; rfl
  have sg : ∀ g, ¬ g = 31 → hoN U g = U g := fun g hg => ((jup_g hg).trans (jup_g hg)).trans (jup_g hg)
  obtain ⟨V, v1, v2, v3, v4, v5, v6⟩ := h85_m hm 1200 0 (hoN U) (by rw [s3]; exact hj) (by decide) (by rw [z0]; omega) (by rw [z0]; show (m : Int) - 0 < 1200; omega)
  rw [z0] at v3 v4 v5 v6
  obtain ⟨X, x1, x2, x3⟩ := h169_m 1200 1 V (by decide) (by decide) (by decide)
  rw [z1] at x3
  have v31 : V 31 = hoN U 31 := v2 31 (by decide) (by decide) (by decide)
  have x31 : X 31 = V 31 := x2 31 (by decide)
  have w40 : hoN U 40 = J' 40 := (sg 40 (by decide)).trans (u2 40 (by decide))
  have lo : ∀ j, j < 1149 → X 32 0 j = V 32 0 j := fun j h => by rw [x3, if_neg (fun z => by omega)]
  refine ⟨X, ?_, ⟨?_, ?_, ?_⟩, fun i hi => ⟨⟨?_, ?_⟩, ?_, ?_⟩, fun j h => ?_, ⟨?_, ?_, ?_⟩, fun g g1 g2 g3 g4 => ?_⟩
  · rw [u1]; dsimp only [Option.bind_some]; rw [v1]; exact x1
  · rw [x31, v31, s1]
  · rw [x31, v31, s2]
  · rw [x31, v31, s3]
  · rw [x2 33 (by decide), v3, if_pos ⟨by omega, hi⟩, w40]
  · rw [x2 34 (by decide), v4, if_pos ⟨by omega, hi⟩, w40]
  · rw [lo _ (by omega), (v5 i hi (by omega)).1, w40]
  · rw [lo _ (by omega), (v5 i hi (by omega)).2, w40]
  · rw [lo j (by omega), v6 j (fun i _ _ => ⟨by omega, by omega⟩), sg 32 (by decide), u3, if_pos (by omega)]
  · rw [x3, if_pos (Or.inl ⟨rfl, by decide⟩)]
  · rw [x3, if_pos (Or.inr (Or.inl ⟨rfl, by decide⟩))]
  · rw [x3, if_pos (Or.inr (Or.inr ⟨rfl, by decide⟩))]
  · rw [x2 g g2, v2 g g2 g3 g4, sg g g1, u2 g g2]
