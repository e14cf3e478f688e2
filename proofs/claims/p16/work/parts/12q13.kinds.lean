theorem ta_c {a0 a1 : Nat} {I : jI} {g i j : Nat} (h : ¬ g = 22) : jcpy (d29 a0 a1 I) 22 a1 22 a0 (Int32.toNatClampNeg 0) (Int32.toNatClampNeg 0) (Int32.toNatClampNeg 40) g i j = if i = a0 ∧ ((g = 4 ∧ 6 ≤ j ∧ j < 16) ∨ (18 ≤ g ∧ g < 22 ∧ j < 6) ∨ (g = 23 ∧ j < 10)) then I g a1 j else I g i j := by
  unfold jcpy
  rw [if_neg (fun z => h z.1)]
  rfl
theorem ta_l {a0 a1 : Nat} {I : jI} {i j : Nat} : jcpy (d29 a0 a1 I) 22 a1 22 a0 (Int32.toNatClampNeg 0) (Int32.toNatClampNeg 0) (Int32.toNatClampNeg 40) 22 i j = if i = a0 ∧ j < 40 then I 22 a1 j else I 22 i j := by
  have c0 : Int32.toNatClampNeg 0 = 0 := rfl
  have c40 : Int32.toNatClampNeg 40 = 40 := rfl
  have d22 : ∀ x y, d29 a0 a1 I 22 x y = I 22 x y := fun x y => if_neg (fun z => by have := z.2; omega)
  unfold jcpy
  rw [c0, c40, d22, d22]
  by_cases h : i = a0 ∧ j < 40
  · rw [if_pos h, if_pos ⟨rfl, h.1, by omega, by omega⟩, show 0 + (j - 0) = j by omega]
  · rw [if_neg h, if_neg (fun z => h ⟨z.2.1, by omega⟩)]
/-- house of a good TEXT: the class's cells -/
noncomputable def hoC (I' T : jI) : Prop := (∀ x, x ≤ 1 → (∀ j, 6 ≤ j → j < 16 → T 4 x j = I' 4 5 j) ∧ (∀ g j, 18 ≤ g → g < 22 → j < 6 → T g x j = I' g 5 j) ∧ (∀ j, j < 10 → T 23 x j = I' 23 5 j) ∧ (∀ j, j < 40 → T 22 x j = I' 22 5 j)) ∧ (∀ k, k < 3 → T 6 0 k = 0) ∧ (∀ g x j, 2 ≤ x → ¬ g = 6 → T g x j = I' g x j) ∧ ∀ g, ¬ g = 4 → ¬ g = 6 → ¬ (18 ≤ g ∧ g ≤ 23) → T g = I' g
theorem hoC_of {I' : jI} : ∃ T, ((d28 0 5 I').bind fun r2 => (d28 1 0 r2).bind fun r3 => d77_77 70 0 r3) = some T ∧ hoC I' T := by
  unfold d28
  dsimp only [Option.bind_some]
  obtain ⟨T, t1, t2, t3⟩ := unk_c 70 0 (jcpy (d29 1 0 (jcpy (d29 0 5 I') 22 5 22 0 (Int32.toNatClampNeg 0) (Int32.toNatClampNeg 0) (Int32.toNatClampNeg 40))) 22 0 22 1 (Int32.toNatClampNeg 0) (Int32.toNatClampNeg 0) (Int32.toNatClampNeg 40)) (by decide) (by decide) (by decide)
  refine ⟨T, t1, fun x hx => ⟨fun j a b => ?_, fun g j a b c => ?_, fun j a => ?_, fun j a => ?_⟩, fun k hk => ?_, fun g x j hx h6 => ?_, fun g h4 h6 h18 => ?_⟩
  · rw [t2 4 (by decide), ta_c (by decide)]
    have : x = 0 ∨ x = 1 := by omega
    rcases this with e | e <;> subst e
    · rw [if_neg (fun z => absurd z.1 (by decide)), ta_c (by decide), if_pos ⟨rfl, Or.inl ⟨rfl, a, b⟩⟩]
    · rw [if_pos ⟨rfl, Or.inl ⟨rfl, a, b⟩⟩, ta_c (by decide), if_pos ⟨rfl, Or.inl ⟨rfl, a, b⟩⟩]
  · rw [t2 g (by omega), ta_c (by omega)]
    have : x = 0 ∨ x = 1 := by omega
    rcases this with e | e <;> subst e
    · rw [if_neg (fun z => absurd z.1 (by decide)), ta_c (by omega), if_pos ⟨rfl, Or.inr (Or.inl ⟨a, b, c⟩)⟩]
    · rw [if_pos ⟨rfl, Or.inr (Or.inl ⟨a, b, c⟩)⟩, ta_c (by omega), if_pos ⟨rfl, Or.inr (Or.inl ⟨a, b, c⟩)⟩]
  · rw [t2 23 (by decide), ta_c (by decide)]
    have : x = 0 ∨ x = 1 := by omega
    rcases this with e | e <;> subst e
    · rw [if_neg (fun z => absurd z.1 (by decide)), ta_c (by decide), if_pos ⟨rfl, Or.inr (Or.inr ⟨rfl, a⟩)⟩]
    · rw [if_pos ⟨rfl, Or.inr (Or.inr ⟨rfl, a⟩)⟩, ta_c (by decide), if_pos ⟨rfl, Or.inr (Or.inr ⟨rfl, a⟩)⟩]
  · rw [t2 22 (by decide), ta_l]
    have : x = 0 ∨ x = 1 := by omega
    rcases this with e | e <;> subst e
    · rw [if_neg (fun z => absurd z.1 (by decide)), ta_l, if_pos ⟨rfl, a⟩]
    · rw [if_pos ⟨rfl, a⟩, ta_l, if_pos ⟨rfl, a⟩]
  · rw [t3, if_pos (by show (0 : Int) ≤ _ ∧ _; omega)]
  · rw [t2 g h6]
    by_cases h22 : g = 22
    · subst h22
      rw [ta_l, if_neg (fun z => by have := z.1; omega), ta_l, if_neg (fun z => by have := z.1; omega)]
    · rw [ta_c h22, if_neg (fun z => by have := z.1; omega), ta_c h22, if_neg (fun z => by have := z.1; omega)]
  · rw [t2 g h6]
    funext i j
    rw [ta_c (by omega), if_neg (fun z => by have := z.2; omega), ta_c (by omega), if_neg (fun z => by have := z.2; omega)]
