/-! N: how many PACKETS, KINDS, KEEPS, NEED, ROOM -/
def hsK (I : jI) (h : Nat) : Prop := (∀ j, 6 ≤ j → j ≤ 8 → I 4 h j = I 4 1 j) ∧ ∀ i, i < 6 → I 18 h i = I 18 1 i ∧ I 21 h i = I 21 1 i
def okK (I : jI) : Prop := ((1 ≤ (I 4 1 7).toInt ∧ (I 4 1 7).toInt ≤ 9) ∧ (0 ≤ (I 4 1 8).toInt ∧ (I 4 1 8).toInt ≤ 99)) ∧ ∀ i : Nat, (i : Int) < (I 4 1 6).toInt → (0 ≤ (I 18 1 i).toInt ∧ (I 18 1 i).toInt ≤ 5) ∧ (1 ≤ (I 21 1 i).toInt ∧ (I 21 1 i).toInt ≤ 9)
def RK (I : jI) : Prop := hsK I 0 ∧ (∀ k, k < 3 → ¬ I 6 0 k = 0 → hsK I (2 + k)) ∧ (I 31 0 3 = I 4 1 6 ∧ I 31 0 1 = I 4 1 7 ∧ I 31 0 2 = I 4 1 8) ∧ (∀ i : Nat, (i : Int) < (I 4 1 6).toInt → I 33 0 i = I 18 1 i ∧ I 34 0 i = I 21 1 i) ∧ (0 < (I 4 1 6).toInt → okK I)
theorem RK_cells {I I' : jI} (hG : gG aGI I) (h : RK I) (e4 : ∀ x j, x ≤ 4 → 6 ≤ j → j ≤ 8 → I' 4 x j = I 4 x j) (e18 : ∀ x i, x ≤ 4 → i < 6 → I' 18 x i = I 18 x i) (e21 : ∀ x i, x ≤ 4 → i < 6 → I' 21 x i = I 21 x i) (e6 : ∀ k, k < 3 → I' 6 0 k = I 6 0 k) (e31 : ∀ j, 1 ≤ j → j ≤ 3 → I' 31 0 j = I 31 0 j) (e33 : ∀ i, i < 6 → I' 33 0 i = I 33 0 i) (e34 : ∀ i, i < 6 → I' 34 0 i = I 34 0 i) : RK I' := by
  obtain ⟨h1, h2, ⟨h3, h4, h5⟩, h6, h7⟩ := h
  have hp := gi_packets hG
  have q6 := e4 1 6 (by decide) (by decide) (by decide)
  have q7 := e4 1 7 (by decide) (by decide) (by decide)
  have q8 := e4 1 8 (by decide) (by decide) (by decide)
  have key : ∀ x, x ≤ 4 → hsK I x → hsK I' x := fun x hx q => ⟨fun j a b => by rw [e4 x j hx a b, e4 1 j (by decide) a b]; exact q.1 j a b, fun i hi => by rw [e18 x i hx hi, e18 1 i (by decide) hi, e21 x i hx hi, e21 1 i (by decide) hi]; exact q.2 i hi⟩
  refine ⟨key 0 (by decide) h1, fun k hk q => key (2 + k) (by omega) (h2 k hk (by rw [← e6 k hk]; exact q)), ⟨?_, ?_, ?_⟩, fun i hi => ?_, fun hz => ?_⟩
  · rw [e31 3 (by decide) (by decide), q6]; exact h3
  · rw [e31 1 (by decide) (by decide), q7]; exact h4
  · rw [e31 2 (by decide) (by decide), q8]; exact h5
  · rw [q6] at hi
    rw [e33 i (by omega), e34 i (by omega), e18 1 i (by decide) (by omega), e21 1 i (by decide) (by omega)]
    exact h6 i hi
  · rw [q6] at hz
    obtain ⟨a, b⟩ := h7 hz
    refine ⟨by rw [q7, q8]; exact a, fun i hi => ?_⟩
    rw [q6] at hi
    rw [e18 1 i (by decide) (by omega), e21 1 i (by decide) (by omega)]
    exact b i hi
def kW : List Nat := [6, 18, 21, 33, 34, 5006, 5007, 5008, 32001, 32002, 32003]
theorem RK_fr {W : List Nat} {I I' : jI} (hG : gG aGI I) (h : RK I) (f : fr W I I') (hw : kW.all (fun c => !(jel c W)) = true) : RK I' := by
  have hw : ∀ c, c ∈ kW → jel c W = false := fun c hc => by
    have := List.all_eq_true.mp hw c hc
    cases e : jel c W with
    | false => rfl
    | true => rw [e] at this; cases this
  refine RK_cells hG h (fun x j _ a b => ?_) (fun x i _ _ => f 18 x i (hw 18 (by decide))) (fun x i _ _ => f 21 x i (hw 21 (by decide))) (fun k _ => f 6 0 k (hw 6 (by decide))) (fun j a b => ?_) (fun i _ => f 33 0 i (hw 33 (by decide))) (fun i _ => f 34 0 i (hw 34 (by decide)))
  · have : j = 6 ∨ j = 7 ∨ j = 8 := by omega
    rcases this with e | e | e <;> subst e
    · exact f 4 x 6 (hw 5006 (by decide))
    · exact f 4 x 7 (hw 5007 (by decide))
    · exact f 4 x 8 (hw 5008 (by decide))
  · have : j = 1 ∨ j = 2 ∨ j = 3 := by omega
    rcases this with e | e | e <;> subst e
    · exact f 31 0 1 (hw 32001 (by decide))
    · exact f 31 0 2 (hw 32002 (by decide))
    · exact f 31 0 3 (hw 32003 (by decide))
/-- the class's reader writes its own cells, and those of house 5, alone -/
theorem rd_rect {g x j : Nat} (hx : x ≤ 4) (h3 : ¬ g = 3) (h17 : ¬ g = 17) : ¬ gI cK77.2.2.1 g x j := by
  rintro ⟨r, hr, a, b, c, -, -⟩
  simp only [cK77, List.mem_cons, List.not_mem_nil, or_false] at hr
  rcases hr with rfl | rfl | rfl | rfl | rfl | rfl | rfl <;> simp at a b c <;> omega
theorem read_tr {t : Int32} {I : jI} {r : Int32 × jI} (hG : gG aGI I) (ht : 0 ≤ t.toInt ∧ t.toInt ≤ 3) (e : d58 t I = some r) : gG aGI r.2 ∧ ∀ g x j, x ≤ 4 → ¬ g = 3 → ¬ g = 17 → r.2 g x j = I g x j := by
  have u := use_tr (L := fun _ _ _ => 0) (L' := fun _ _ _ => 0) cT77 (as := [.inr (3, 0), .inr (2, 0), .inl (.inl t)]) ⟨⟨rfl, rfl, by simp, by simp⟩, ⟨rfl, rfl, by simp, by simp⟩, ⟨rfl, ht.1, ht.2⟩, trivial⟩ hG (fun d k hk => D58 e hk)
  exact ⟨u.1, fun g x j hx h3 h17 => (u.2.1 g x j (rd_rect hx h3 h17)).1⟩
theorem ta_c {a0 a1 : Nat} {I : jI} {g i j : Nat} (h : ¬ g = 22) : jcpy (d29 a0 a1 I) 22 a1 22 a0 (Int32.toNatClampNeg 0) (Int32.toNatClampNeg 0) (Int32.toNatClampNeg 40) g i j = if i = a0 ∧ ((g = 4 ∧ 6 ≤ j ∧ j < 16) ∨ (18 ≤ g ∧ g < 22 ∧ j < 6) ∨ (g = 23 ∧ j < 10)) then I g a1 j else I g i j := by
  unfold jcpy
  rw [if_neg (fun z => h z.1)]
  rfl
theorem ta_l {a0 a1 : Nat} {I : jI} {i j : Nat} : jcpy (d29 a0 a1 I) 22 a1 22 a0 (Int32.toNatClampNeg 0) (Int32.toNatClampNeg 0) (Int32.toNatClampNeg 40) 22 i j = if i = a0 ∧ j < 40 then I 22 a1 j else I 22 i j := by
  have c0 : Int32.toNatClampNeg 0 = 0 := rfl
  have c40 : Int32.toNatClampNeg 40 = 40 := rfl
  have d22 : ∀ x y, d29 a0 a1 I 22 x y = I 22 x y := fun x y => if_neg (fun z => by have := z.2; omega)
  unfold jcpy
  rw [c0, c40, d22, d22]
  by_cases h : i = a0 ∧ j < 40
  · rw [if_pos h, if_pos ⟨rfl, h.1, by omega, by omega⟩, show 0 + (j - 0) = j by omega]
  · rw [if_neg h, if_neg (fun z => h ⟨z.2.1, by omega⟩)]
/-- house of a good TEXT: the class's cells -/
def hoC (I' T : jI) : Prop := (∀ x, x ≤ 1 → (∀ j, 6 ≤ j → j < 16 → T 4 x j = I' 4 5 j) ∧ (∀ g j, 18 ≤ g → g < 22 → j < 6 → T g x j = I' g 5 j) ∧ (∀ j, j < 10 → T 23 x j = I' 23 5 j) ∧ (∀ j, j < 40 → T 22 x j = I' 22 5 j)) ∧ (∀ k, k < 3 → T 6 0 k = 0) ∧ (∀ g x j, 2 ≤ x → ¬ g = 6 → T g x j = I' g x j) ∧ ∀ g, ¬ g = 4 → ¬ g = 6 → ¬ (18 ≤ g ∧ g ≤ 23) → T g = I' g
theorem hoC_of {I' : jI} : ∃ T, ((d28 0 5 I').bind fun r2 => (d28 1 0 r2).bind fun r3 => d77_77 70 0 r3) = some T ∧ hoC I' T := by
  unfold d28
  dsimp only [Option.bind_some]
  obtain ⟨T, t1, t2, t3⟩ := unk_c 70 0 (jcpy (d29 1 0 (jcpy (d29 0 5 I') 22 5 22 0 (Int32.toNatClampNeg 0) (Int32.toNatClampNeg 0) (Int32.toNatClampNeg 40))) 22 0 22 1 (Int32.toNatClampNeg 0) (Int32.toNatClampNeg 0) (Int32.toNatClampNeg 40)) (by decide) (by decide) (by decide)
  refine ⟨T, t1, fun x hx => ⟨fun j a b => ?_, fun g j a b c => ?_, fun j a => ?_, fun j a => ?_⟩, fun k hk => ?_, fun g x j hx h6 => ?_, fun g h4 h6 h18 => ?_⟩
  · rw [t2 4 (by decide), ta_c (by decide)]
    have : x = 0 ∨ x = 1 := by omega
    rcases this with e | e <;> subst e
    · rw [if_neg (fun z => absurd z.1 (by decide)), ta_c (by decide), if_pos ⟨rfl, Or.inl ⟨rfl, a, b⟩⟩]
    · rw [if_pos ⟨rfl, Or.inl ⟨rfl, a, b⟩⟩, ta_c (by decide), if_pos ⟨rfl, Or.inl ⟨rfl, a, b⟩⟩]
  · rw [t2 g (by omega), ta_c (by omega)]
    have : x = 0 ∨ x = 1 := by omega
    rcases this with e | e <;> subst e
    · rw [if_neg (fun z => absurd z.1 (by decide)), ta_c (by omega), if_pos ⟨rfl, Or.inr (Or.inl ⟨a, b, c⟩)⟩]
    · rw [if_pos ⟨rfl, Or.inr (Or.inl ⟨a, b, c⟩)⟩, ta_c (by omega), if_pos ⟨rfl, Or.inr (Or.inl ⟨a, b, c⟩)⟩]
  · rw [t2 23 (by decide), ta_c (by decide)]
    have : x = 0 ∨ x = 1 := by omega
    rcases this with e | e <;> subst e
    · rw [if_neg (fun z => absurd z.1 (by decide)), ta_c (by decide), if_pos ⟨rfl, Or.inr (Or.inr ⟨rfl, a⟩)⟩]
    · rw [if_pos ⟨rfl, Or.inr (Or.inr ⟨rfl, a⟩)⟩, ta_c (by decide), if_pos ⟨rfl, Or.inr (Or.inr ⟨rfl, a⟩)⟩]
  · rw [t2 22 (by decide), ta_l]
    have : x = 0 ∨ x = 1 := by omega
    rcases this with e | e <;> subst e
    · rw [if_neg (fun z => absurd z.1 (by decide)), ta_l, if_pos ⟨rfl, a⟩]
    · rw [if_pos ⟨rfl, a⟩, ta_l, if_pos ⟨rfl, a⟩]
  · rw [t3, if_pos (by show (0 : Int) ≤ _ ∧ _; omega)]
  · rw [t2 g h6]
    by_cases h22 : g = 22
    · subst h22
      rw [ta_l, if_neg (fun z => by have := z.1; omega), ta_l, if_neg (fun z => by have := z.1; omega)]
    · rw [ta_c h22, if_neg (fun z => by have := z.1; omega), ta_c h22, if_neg (fun z => by have := z.1; omega)]
  · rw [t2 g h6]
    funext i j
    rw [ta_c (by omega), if_neg (fun z => by have := z.2; omega), ta_c (by omega), if_neg (fun z => by have := z.2; omega)]
