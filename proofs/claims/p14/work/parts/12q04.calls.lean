/-! calls of TEXTS, as the law makes them -/
theorem P74 {d : Nat} {t n : Int32} {I : jI} {L : jL} : jPM d 74 [.inr (0, 0), .inl (.inl t), .inl (.inl n)] (I, L) (fun v σ => (v = some (.inl (.inl (eA 3 60 t n))) ∧ txC t n I σ.1) ∧ fr [12, 16, 30, 1013] I σ.1) := by
  obtain ⟨r, e, a, c⟩ := text_c t n I
  exact jPM_and (D74 e ⟨by rw [a], c⟩) (Fx74 (fun _ I' L' f => f))
theorem P139 {d : Nat} {t n : Int32} {I : jI} {L : jL} : jPM d 139 [.inr (31, 0), .inl (.inl t), .inl (.inl n)] (I, L) (fun v σ => (v = some (.inl (.inl (eA 3 60 t n))) ∧ txM t n I σ.1) ∧ fr [37, 38, 39, 32013] I σ.1) := by
  obtain ⟨r, e, a, c⟩ := text_m t n I
  exact jPM_and (D139 e ⟨by rw [a], c⟩) (Fx139 (fun _ I' L' f => f))
def puS (g : Nat) (y : Int32) (t i x : Int32) (I : jI) (Q : Prop) : Prop := (¬ (0 ≤ t.toInt ∧ t.toInt ≤ 3) → x = -1) ∧ ((0 ≤ t.toInt ∧ t.toInt ≤ 3) → ¬ puOK I g t i → x = -3) ∧ (puOK I g t i → x = y + 1000) ∧ Q
theorem P75 {d : Nat} {t i w : Int32} {I : jI} {L : jL} : jPM d 75 [.inr (0, 0), .inl (.inl t), .inl (.inl i), .inl (.inl w)] (I, L) (fun v σ => (∃ x, v = some (.inl (.inl x)) ∧ puS 16 (I 30 t.toNatClampNeg i.toNatClampNeg) t i x I (puC t i w I σ.1)) ∧ fr [12, 30, 1013] I σ.1) := by
  obtain ⟨r, e, a⟩ := put_c t i w I
  exact jPM_and (D75 e ⟨r.1, rfl, a⟩) (Fx75 (fun _ I' L' f => f))
theorem P140 {d : Nat} {t i w : Int32} {I : jI} {L : jL} (hG : gG aGI I) : jPM d 140 [.inr (31, 0), .inl (.inl t), .inl (.inl i), .inl (.inl w)] (I, L) (fun v σ => (∃ x, v = some (.inl (.inl x)) ∧ puS 37 (I 38 0 (60 * t.toNatClampNeg + i.toNatClampNeg)) t i x I (puM t i w I σ.1)) ∧ fr [38, 39, 32013] I σ.1) := by
  obtain ⟨r, e, a⟩ := put_m t i w hG
  exact jPM_and (D140 e ⟨r.1, rfl, a⟩) (Fx140 (fun _ I' L' f => f))
theorem fr_of {W' : List aR} {W : List Nat} {I I' : jI} {L L' : jL} (hs : ∀ r ∈ W', ∀ j : Nat, r.2.2.1 ≤ (j : Int) → (j : Int) ≤ r.2.2.2 → jel (jcd r.1 j) W = true) (h : gR W' I L I' L') : fr W I I' := fun g i j hg => by
  refine (h g i j ?_).1
  rintro ⟨r, hr, e, -, -, e3, e4⟩
  have := hs r hr j e3 e4
  rw [e, hg] at this
  cases this
theorem Fx94 {d : Nat} {k : jK} {a1 a2 : Int32} {I : jI} {L : jL} (hG : gG aGI I) (hk : ∀ (x : Int32) (I' : jI) (L' : jL), fr [14, 23, 27, 28, 29, 10003, 10004, 10005] I I' → k (some (.inl (.inl x))) (I', L')) : jPM d 94 [.inr (0, 0), .inl (.inl a1), .inl (.inl a2)] (I, L) k := by
  refine pK cT108 ⟨⟨rfl, rfl, by simp, by simp⟩, ⟨rfl, (i32_rng _).1, (i32_rng _).2⟩, ⟨rfl, (i32_rng _).1, (i32_rng _).2⟩, trivial⟩ hG (fun v I' L' g r a => ?_)
  obtain ⟨x, rfl, -, -⟩ := a
  refine hk x I' L' (fr_of (fun r hr j h1 h2 => ?_) r)
  simp only [cK108, List.mem_cons, List.not_mem_nil, or_false] at hr
  rcases hr with rfl | rfl | rfl | rfl | rfl | rfl
  · have : j = 3 ∨ j = 4 ∨ j = 5 := by simp at h1 h2; omega
    rcases this with rfl | rfl | rfl <;> rfl
  · rfl
  · rfl
  · rfl
  · rfl
  · rfl
theorem Fx95 {d : Nat} {k : jK} {a1 : Int32} {I : jI} {L : jL} (hG : gG aGI I) (hk : ∀ (x : Int32) (I' : jI) (L' : jL), fr [23, 27, 28, 10003, 10004, 10005] I I' → k (some (.inl (.inl x))) (I', L')) : jPM d 95 [.inr (0, 0), .inl (.inl a1)] (I, L) k := by
  refine pK cT109 ⟨⟨rfl, rfl, by simp, by simp⟩, ⟨rfl, (i32_rng _).1, (i32_rng _).2⟩, trivial⟩ hG (fun v I' L' g r a => ?_)
  obtain ⟨x, rfl, -, -⟩ := a
  refine hk x I' L' (fr_of (fun r hr j h1 h2 => ?_) r)
  simp only [cK109, List.mem_cons, List.not_mem_nil, or_false] at hr
  rcases hr with rfl | rfl | rfl | rfl
  · have : j = 3 ∨ j = 4 ∨ j = 5 := by simp at h1 h2; omega
    rcases this with rfl | rfl | rfl <;> rfl
  · rfl
  · rfl
  · rfl
theorem Fx102 {d : Nat} {k : jK} {a1 : Int32} {I : jI} {L : jL} (hG : gG aGI I) (hk : ∀ (x : Int32) (I' : jI) (L' : jL), fr [10, 1014] I I' → k (some (.inl (.inl x))) (I', L')) : jPM d 102 [.inr (0, 0), .inl (.inl a1)] (I, L) k := by
  refine pK cT116 ⟨⟨rfl, rfl, by simp, by simp⟩, ⟨rfl, (i32_rng _).1, (i32_rng _).2⟩, trivial⟩ hG (fun v I' L' g r a => ?_)
  obtain ⟨x, rfl, -, -⟩ := a
  refine hk x I' L' (fr_of (fun r hr j h1 h2 => ?_) r)
  simp only [cK116, List.mem_cons, List.not_mem_nil, or_false] at hr
  rcases hr with rfl | rfl
  · obtain rfl : j = 14 := by simp at h1 h2; omega
    rfl
  · rfl
