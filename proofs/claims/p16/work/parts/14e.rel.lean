theorem s_RT : RT sI := by
  refine ⟨fun t ht => ?_, fun _ _ _ _ => rfl⟩
  have : t = 0 ∨ t = 1 ∨ t = 2 ∨ t = 3 := by omega
  rcases this with e | e | e | e <;> subst e <;> rfl
theorem s_32 {j : Nat} (h : j < 1149) : sI 32 0 j = 0 := by
  show (upd (upd (upd (fun _ => (0 : Int32)) 1149 (-1)) 2298 (-1)) 3447 (-1)) j = 0
  unfold upd
  rw [if_neg (by omega), if_neg (by omega), if_neg (by omega)]
theorem s_RD : RD2 sI sI := by
  have p0 : mP sI = 0 := rfl
  have d0 : ∀ h, dN sI h = 0 := fun _ => rfl
  have vc : vC 0 sI 1 = vC 0 sI 0 := rfl
  have vz : ∀ k, vC 0 sI 0 k = 0 := fun k => by
    by_cases c : k < 6
    · rw [vC_f c]; rfl
    · by_cases d : k < 16
      · obtain ⟨j, rfl⟩ : ∃ j, k = 6 + j := ⟨k - 6, by omega⟩
        rw [vC_l (by omega)]; rfl
      · exact vC_n (fun z => by rcases z with z | z | z <;> omega)
  have vm : vM 0 sI 1 = vC 0 sI 0 := by
    funext k
    rw [vz]
    by_cases c : vK 0 k
    · rw [vM_k c]
      have : k < 16 := by rcases c with c | c | c <;> omega
      exact s_32 (by omega)
    · exact vM_n c
  have lk : lOK 0 0 (vC 0 sI 0) := by
    refine ⟨fun k hk => by rw [vz]; decide, ?_, fun i hi => absurd hi (Nat.not_lt_zero i), by rw [vz]; decide, by rw [vz]; decide⟩
    refine Int.le_trans (smI_le 10 (lrd (vC 0 sI 0)) (fun _ => 0) 0 (fun j _ b => ?_)) (by decide)
    show (vC 0 sI 0 (6 + j)).toInt ≤ _
    rw [vz]
    exact Int.le_refl _
  refine ⟨⟨fun j _ _ => rfl, fun j _ => rfl⟩, ⟨rfl, rfl, rfl⟩, fun i hi => absurd hi (Nat.not_lt_zero i), fun hz => absurd hz (Nat.lt_irrefl 0), ⟨by decide, by decide⟩, ?_, fun k hk => ⟨fun _ => ?_, fun z => absurd rfl z⟩⟩
  · rw [p0]
    refine ⟨⟨fun _ _ _ => rfl, fun _ _ => ⟨rfl, rfl⟩⟩, rfl, fun d hd => absurd hd (Nat.not_lt_zero d), fun d hd => ?_, fun d hd => absurd hd (Nat.not_lt_zero d), ?_, ?_⟩
    · have : d = 0 := Nat.le_zero.mp hd
      subst this
      exact lk
    · exact vm
    · exact vc
  · have : k = 0 ∨ k = 1 ∨ k = 2 := by omega
    rcases this with rfl | rfl | rfl <;> rfl
theorem s_lR : lR sI sL := ⟨s_RT, s_RD⟩
