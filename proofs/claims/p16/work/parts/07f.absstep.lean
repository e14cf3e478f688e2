noncomputable def jow (own : Bool) (n z : Nat) : Nat := match own with
  | true => n + z
  | false => z
theorem arf_0 {ci : Nat} {fs : List jF} {k : Nat} {f : Nat → Nat × Nat} {g1 z : Nat} {own : Bool} (h : (jSh 0).2 = .inl (ci, fs)) (hf : fs[k]? = some (.inl f)) (ha : arf 0 k = some (g1, z, own)) : ∀ n, f n = (g1, jow own n z) := by
  cases h
  match k, hf, ha with
  | 0, hf, ha => cases hf; cases (show some ((1 : Nat), (0 : Nat), false) = some (g1, z, own) from ha); intro n; rfl
  | 1, hf, ha => cases hf; cases (show some ((2 : Nat), (0 : Nat), false) = some (g1, z, own) from ha); intro n; rfl
  | 2, hf, ha => cases hf; cases (show some ((3 : Nat), (0 : Nat), false) = some (g1, z, own) from ha); intro n; rfl
  | 3, hf, ha => cases hf; cases (show some ((4 : Nat), (0 : Nat), false) = some (g1, z, own) from ha); intro n; rfl
  | 4, hf, ha => cases hf; cases (show some ((4 : Nat), (1 : Nat), false) = some (g1, z, own) from ha); intro n; rfl
  | 5, hf, ha => cases hf; cases (show some ((5 : Nat), (0 : Nat), false) = some (g1, z, own) from ha); intro n; rfl
  | 6, hf, ha => cases hf; cases (show some ((6 : Nat), (0 : Nat), false) = some (g1, z, own) from ha); intro n; rfl
  | 7, hf, ha => cases hf; cases (show some ((7 : Nat), (6 : Nat), false) = some (g1, z, own) from ha); intro n; rfl
  | 8, hf, ha => cases hf; cases (show some ((8 : Nat), (0 : Nat), false) = some (g1, z, own) from ha); intro n; rfl
  | 9, hf, ha => cases hf; cases (show some ((9 : Nat), (0 : Nat), false) = some (g1, z, own) from ha); intro n; rfl
  | 10, hf, ha => cases hf; cases (show some ((10 : Nat), (0 : Nat), false) = some (g1, z, own) from ha); intro n; rfl
  | 11, hf, ha => cases hf; cases (show some ((11 : Nat), (0 : Nat), false) = some (g1, z, own) from ha); intro n; rfl
  | 12, hf, ha => cases hf; cases (show some ((12 : Nat), (0 : Nat), false) = some (g1, z, own) from ha); intro n; rfl
  | 13, hf, _ => cases hf
  | 14, hf, _ => cases hf
  | 15, hf, _ => cases hf
  | 16, hf, _ => cases hf
  | n + 17, hf, _ => simp at hf
theorem arf_1 {ci : Nat} {fs : List jF} {k : Nat} {f : Nat → Nat × Nat} {g1 z : Nat} {own : Bool} (h : (jSh 1).2 = .inl (ci, fs)) (hf : fs[k]? = some (.inl f)) (ha : arf 1 k = some (g1, z, own)) : ∀ n, f n = (g1, jow own n z) := by
  cases h
  match k, hf, ha with
  | 0, hf, ha => cases hf; cases (show some ((13 : Nat), (0 : Nat), false) = some (g1, z, own) from ha); intro n; rfl
  | 1, hf, ha => cases hf; cases (show some ((14 : Nat), (0 : Nat), false) = some (g1, z, own) from ha); intro n; rfl
  | n + 2, hf, _ => simp at hf
theorem arf_2 {ci : Nat} {fs : List jF} {k : Nat} {f : Nat → Nat × Nat} {g1 z : Nat} {own : Bool} (h : (jSh 2).2 = .inl (ci, fs)) (hf : fs[k]? = some (.inl f)) (ha : arf 2 k = some (g1, z, own)) : ∀ n, f n = (g1, jow own n z) := by
  cases h
  match k, hf, ha with
  | 0, hf, ha => cases hf; cases (show some ((15 : Nat), (0 : Nat), false) = some (g1, z, own) from ha); intro n; rfl
  | 1, hf, ha => cases hf; cases (show some ((16 : Nat), (0 : Nat), false) = some (g1, z, own) from ha); intro n; rfl
  | n + 2, hf, _ => simp at hf
theorem arf_3 {ci : Nat} {fs : List jF} {k : Nat} {f : Nat → Nat × Nat} {g1 z : Nat} {own : Bool} (h : (jSh 3).2 = .inl (ci, fs)) (hf : fs[k]? = some (.inl f)) (ha : arf 3 k = some (g1, z, own)) : ∀ n, f n = (g1, jow own n z) := by
  cases h
  match k, hf, ha with
  | 0, hf, ha => cases hf; cases (show some ((4 : Nat), (5 : Nat), false) = some (g1, z, own) from ha); intro n; rfl
  | 1, hf, ha => cases hf; cases (show some ((17 : Nat), (0 : Nat), false) = some (g1, z, own) from ha); intro n; rfl
  | 2, hf, _ => cases hf
  | 3, hf, _ => cases hf
  | 4, hf, _ => cases hf
  | n + 5, hf, _ => simp at hf
theorem arf_4 {ci : Nat} {fs : List jF} {k : Nat} {f : Nat → Nat × Nat} {g1 z : Nat} {own : Bool} (h : (jSh 4).2 = .inl (ci, fs)) (hf : fs[k]? = some (.inl f)) (ha : arf 4 k = some (g1, z, own)) : ∀ n, f n = (g1, jow own n z) := by
  cases h
  match k, hf, ha with
  | 0, hf, ha => cases hf; cases (show some ((18 : Nat), (0 : Nat), true) = some (g1, z, own) from ha); intro n; rfl
  | 1, hf, ha => cases hf; cases (show some ((19 : Nat), (0 : Nat), true) = some (g1, z, own) from ha); intro n; rfl
  | 2, hf, ha => cases hf; cases (show some ((20 : Nat), (0 : Nat), true) = some (g1, z, own) from ha); intro n; rfl
  | 3, hf, ha => cases hf; cases (show some ((21 : Nat), (0 : Nat), true) = some (g1, z, own) from ha); intro n; rfl
  | 4, hf, ha => cases hf; cases (show some ((7 : Nat), (0 : Nat), true) = some (g1, z, own) from ha); intro n; rfl
  | 5, hf, ha => cases hf; cases (show some ((22 : Nat), (0 : Nat), true) = some (g1, z, own) from ha); intro n; rfl
  | 6, hf, _ => cases hf
  | 7, hf, _ => cases hf
  | 8, hf, _ => cases hf
  | 9, hf, _ => cases hf
  | 10, hf, _ => cases hf
  | 11, hf, _ => cases hf
  | 12, hf, _ => cases hf
  | 13, hf, _ => cases hf
  | 14, hf, _ => cases hf
  | 15, hf, _ => cases hf
  | n + 16, hf, _ => simp at hf
theorem arf_7 {ci : Nat} {fs : List jF} {k : Nat} {f : Nat → Nat × Nat} {g1 z : Nat} {own : Bool} (h : (jSh 7).2 = .inl (ci, fs)) (hf : fs[k]? = some (.inl f)) (ha : arf 7 k = some (g1, z, own)) : ∀ n, f n = (g1, jow own n z) := by
  cases h
  match k, hf, ha with
  | 0, hf, ha => cases hf; cases (show some ((23 : Nat), (0 : Nat), true) = some (g1, z, own) from ha); intro n; rfl
  | n + 1, hf, _ => simp at hf
theorem arf_8 {ci : Nat} {fs : List jF} {k : Nat} {f : Nat → Nat × Nat} {g1 z : Nat} {own : Bool} (h : (jSh 8).2 = .inl (ci, fs)) (hf : fs[k]? = some (.inl f)) (ha : arf 8 k = some (g1, z, own)) : ∀ n, f n = (g1, jow own n z) := by
  cases h
  match k, hf, ha with
  | 0, hf, ha => cases hf; cases (show some ((24 : Nat), (0 : Nat), false) = some (g1, z, own) from ha); intro n; rfl
  | n + 1, hf, _ => simp at hf
theorem arf_9 {ci : Nat} {fs : List jF} {k : Nat} {f : Nat → Nat × Nat} {g1 z : Nat} {own : Bool} (h : (jSh 9).2 = .inl (ci, fs)) (hf : fs[k]? = some (.inl f)) (ha : arf 9 k = some (g1, z, own)) : ∀ n, f n = (g1, jow own n z) := by
  cases h
  match k, hf, ha with
  | 0, hf, ha => cases hf; cases (show some ((26 : Nat), (0 : Nat), false) = some (g1, z, own) from ha); intro n; rfl
  | 1, hf, ha => cases hf; cases (show some ((27 : Nat), (0 : Nat), false) = some (g1, z, own) from ha); intro n; rfl
  | 2, hf, ha => cases hf; cases (show some ((28 : Nat), (0 : Nat), false) = some (g1, z, own) from ha); intro n; rfl
  | 3, hf, _ => cases hf
  | 4, hf, _ => cases hf
  | 5, hf, _ => cases hf
  | n + 6, hf, _ => simp at hf
theorem arf_31 {ci : Nat} {fs : List jF} {k : Nat} {f : Nat → Nat × Nat} {g1 z : Nat} {own : Bool} (h : (jSh 31).2 = .inl (ci, fs)) (hf : fs[k]? = some (.inl f)) (ha : arf 31 k = some (g1, z, own)) : ∀ n, f n = (g1, jow own n z) := by
  cases h
  match k, hf, ha with
  | 0, hf, ha => cases hf; cases (show some ((32 : Nat), (0 : Nat), false) = some (g1, z, own) from ha); intro n; rfl
  | 1, hf, _ => cases hf
  | 2, hf, _ => cases hf
  | 3, hf, _ => cases hf
  | 4, hf, ha => cases hf; cases (show some ((33 : Nat), (0 : Nat), false) = some (g1, z, own) from ha); intro n; rfl
  | 5, hf, ha => cases hf; cases (show some ((34 : Nat), (0 : Nat), false) = some (g1, z, own) from ha); intro n; rfl
  | 6, hf, ha => cases hf; cases (show some ((35 : Nat), (0 : Nat), false) = some (g1, z, own) from ha); intro n; rfl
  | 7, hf, ha => cases hf; cases (show some ((36 : Nat), (0 : Nat), false) = some (g1, z, own) from ha); intro n; rfl
  | 8, hf, ha => cases hf; cases (show some ((37 : Nat), (0 : Nat), false) = some (g1, z, own) from ha); intro n; rfl
  | 9, hf, ha => cases hf; cases (show some ((38 : Nat), (0 : Nat), false) = some (g1, z, own) from ha); intro n; rfl
  | 10, hf, _ => cases hf
  | 11, hf, _ => cases hf
  | 12, hf, _ => cases hf
  | 13, hf, _ => cases hf
  | 14, hf, ha => cases hf; cases (show some ((39 : Nat), (0 : Nat), false) = some (g1, z, own) from ha); intro n; rfl
  | 15, hf, _ => cases hf
  | 16, hf, _ => cases hf
  | 17, hf, _ => cases hf
  | 18, hf, _ => cases hf
  | 19, hf, _ => cases hf
  | 20, hf, ha => cases hf; cases (show some ((40 : Nat), (0 : Nat), false) = some (g1, z, own) from ha); intro n; rfl
  | 21, hf, _ => cases hf
  | 22, hf, ha => cases hf; cases (show some ((41 : Nat), (0 : Nat), false) = some (g1, z, own) from ha); intro n; rfl
  | n + 23, hf, _ => simp at hf
theorem arf_ok {ci : Nat} {fs : List jF} {k : Nat} {f : Nat → Nat × Nat} {g1 z : Nat} {own : Bool} : ∀ (g : Nat), (jSh g).2 = .inl (ci, fs) → fs[k]? = some (.inl f) → arf g k = some (g1, z, own) → ∀ n, f n = (g1, jow own n z)
  | 0, h, hf, ha => arf_0 h hf ha
  | 1, h, hf, ha => arf_1 h hf ha
  | 2, h, hf, ha => arf_2 h hf ha
  | 3, h, hf, ha => arf_3 h hf ha
  | 4, h, hf, ha => arf_4 h hf ha
  | 5, h, _, _ => by cases h
  | 6, h, _, _ => by cases h
  | 7, h, hf, ha => arf_7 h hf ha
  | 8, h, hf, ha => arf_8 h hf ha
  | 9, h, hf, ha => arf_9 h hf ha
  | 10, h, _, _ => by cases h
  | 11, h, _, _ => by cases h
  | 12, h, _, _ => by cases h
  | 13, h, _, _ => by cases h
  | 14, h, _, _ => by cases h
  | 15, h, _, _ => by cases h
  | 16, h, _, _ => by cases h
  | 17, h, _, _ => by cases h
  | 18, h, _, _ => by cases h
  | 19, h, _, _ => by cases h
  | 20, h, _, _ => by cases h
  | 21, h, _, _ => by cases h
  | 22, h, _, _ => by cases h
  | 23, h, _, _ => by cases h
  | 24, h, _, _ => by cases h
  | 25, h, _, _ => by cases h
  | 26, h, _, _ => by cases h
  | 27, h, _, _ => by cases h
  | 28, h, _, _ => by cases h
  | 29, h, _, _ => by cases h
  | 30, h, _, _ => by cases h
  | 31, h, hf, ha => arf_31 h hf ha
  | 32, h, _, _ => by cases h
  | 33, h, _, _ => by cases h
  | 34, h, _, _ => by cases h
  | 35, h, _, _ => by cases h
  | 36, h, _, _ => by cases h
  | 37, h, _, _ => by cases h
  | 38, h, _, _ => by cases h
  | 39, h, _, _ => by cases h
  | 40, h, _, _ => by cases h
  | 41, h, _, _ => by cases h
  | g + 42, h, hf, _ => by rw [jSh_big (by omega)] at h; cases h; simp at hf
theorem ara_ok {t N : Nat} {f : Nat → Nat → Nat × Nat} {g1 z : Nat} : ∀ (g : Nat), (jSh g).2 = .inr (t, N, .inl f) → ara g = some (g1, z) → ∀ n j, f n j = (g1, j + z)
  | 0, h, _ => by cases h
  | 1, h, _ => by cases h
  | 2, h, _ => by cases h
  | 3, h, _ => by cases h
  | 4, h, _ => by cases h
  | 5, h, ha => by cases h; cases (show some ((4 : Nat), (2 : Nat)) = some (g1, z) from ha); intro n j; simp [Nat.add_comm]
  | 6, h, _ => by cases h
  | 7, h, _ => by cases h
  | 8, h, _ => by cases h
  | 9, h, _ => by cases h
  | 10, h, _ => by cases h
  | 11, h, _ => by cases h
  | 12, h, _ => by cases h
  | 13, h, ha => by cases h; cases (show some ((29 : Nat), (0 : Nat)) = some (g1, z) from ha); intro n j; simp [Nat.add_comm]
  | 14, h, _ => by cases h
  | 15, h, ha => by cases h; cases (show some ((30 : Nat), (0 : Nat)) = some (g1, z) from ha); intro n j; simp [Nat.add_comm]
  | 16, h, _ => by cases h
  | 17, h, _ => by cases h
  | 18, h, _ => by cases h
  | 19, h, _ => by cases h
  | 20, h, _ => by cases h
  | 21, h, _ => by cases h
  | 22, h, _ => by cases h
  | 23, h, _ => by cases h
  | 24, h, ha => by cases h; cases (show some ((25 : Nat), (0 : Nat)) = some (g1, z) from ha); intro n j; simp [Nat.add_comm]
  | 25, h, _ => by cases h
  | 26, h, ha => by cases h; cases (show some ((7 : Nat), (7 : Nat)) = some (g1, z) from ha); intro n j; simp [Nat.add_comm]
  | 27, h, _ => by cases h
  | 28, h, _ => by cases h
  | 29, h, _ => by cases h
  | 30, h, _ => by cases h
  | 31, h, _ => by cases h
  | 32, h, _ => by cases h
  | 33, h, _ => by cases h
  | 34, h, _ => by cases h
  | 35, h, _ => by cases h
  | 36, h, _ => by cases h
  | 37, h, _ => by cases h
  | 38, h, _ => by cases h
  | 39, h, _ => by cases h
  | 40, h, _ => by cases h
  | 41, h, _ => by cases h
  | g + 42, h, _ => by rw [jSh_big (by omega)] at h; cases h
theorem gS_cat {v : Nat → Int} {n : Nat} : ∀ {a : List aV} {x : List jV}, gS v n a x → acat a = jcat x
  | [], [], _ => rfl
  | [], x :: t, h => False.elim h
  | a :: s, [], h => False.elim h
  | a :: s, x :: t, h => by
    have h1 := gS_cat h.2
    have h2 : acat1 a = jcat1 x := by
      rcases a with ((_ | _) | _) | _ <;> rcases x with (_ | _) | _ <;> first | rfl | exact False.elim h.1
    show acat1 a + acat s = jcat1 x + jcat t
    omega
noncomputable def jshNc : Bool := (List.range 42).all (fun g => match (jSh g).2 with
  | .inr (_, N, _) => decide (N < 5000)
  | _ => true)
theorem jshNc_ok : jshNc = true := by decide +kernel
theorem jshN {t N : Nat} {z : (Nat → Nat → Nat × Nat) ⊕ Nat} (g : Nat) (h : (jSh g).2 = .inr (t, N, z)) : N < 5000 := by
  rcases Nat.lt_or_ge g 42 with q | q
  · have h1 := List.all_eq_true.mp jshNc_ok g (List.mem_range.mpr q)
    simp only [h] at h1
    exact of_decide_eq_true h1
  · rw [jSh_big q] at h; cases h
set_option maxHeartbeats 4000000 in
set_option maxRecDepth 100000 in
theorem astep_sound {gi : List aG} {W : List aR} {I0 : Nat → Nat → Nat → Int32} {L0 : Nat → Nat → Nat → Int64} {v : Nat → Int} {E : aE} {ls : List (Option aV)} {st : List aV} {ch : aH} {jl : List (Option jV)} {jt : List jV} {I : Nat → Nat → Nat → Int32} {L : Nat → Nat → Nat → Int64} {l : List (Nat × aS)} {K : jX → Prop} {call : jQ} {kk : jK} {i : Instr} {np rA rB : Nat} {rC : Int32} {rL : Int64} {rS : List (Int32 × Nat)} (hE : gE v E) (hL : gL v (alen E) ls jl) (hS : gS v (alen E) st jt) (hH : gH v (alen E) ch I) (hG : gG gi I) (hR : gR W I0 L0 I L) (h : astep gi W i np rA rB rC rL rS E ls st ch = some l) (hK : aKs gi W I0 L0 v E l K) : jstep call kk none i np rA rB rC rL rS jl jt I L K := by
  have hc0 : ∀ z : Int, vv v (0, z) = z := fun z => by unfold vv; rw [hE.1]; simp
  cases i
  all_goals first | (exfalso; revert h; show (none = some l) → False; intro h; cases h; done) | skip
  case iconst z =>
    dsimp only [astep] at h
    cases h
    exact hK _ (List.mem_singleton.mpr rfl) v jl _ I L gX.rf (Nat.le_refl _) ⟨hE, hL, ⟨⟨hE.2.1, (hc0 _).symm⟩, hS⟩, hH, hG, hR⟩
  case bipush z =>
    dsimp only [astep] at h
    cases h
    exact hK _ (List.mem_singleton.mpr rfl) v jl _ I L gX.rf (Nat.le_refl _) ⟨hE, hL, ⟨⟨hE.2.1, (hc0 _).symm⟩, hS⟩, hH, hG, hR⟩
  case sipush z =>
    dsimp only [astep] at h
    cases h
    exact hK _ (List.mem_singleton.mpr rfl) v jl _ I L gX.rf (Nat.le_refl _) ⟨hE, hL, ⟨⟨hE.2.1, (hc0 _).symm⟩, hS⟩, hH, hG, hR⟩
  case ldc z =>
    dsimp only [astep] at h
    cases h
    exact hK _ (List.mem_singleton.mpr rfl) v jl _ I L gX.rf (Nat.le_refl _) ⟨hE, hL, ⟨⟨hE.2.1, (hc0 _).symm⟩, hS⟩, hH, hG, hR⟩
  case lconst z =>
    dsimp only [astep] at h
    cases h
    exact hK _ (List.mem_singleton.mpr rfl) v jl _ I L gX.rf (Nat.le_refl _) ⟨hE, hL, ⟨⟨hE.2.1, (hc0 _).symm⟩, hS⟩, hH, hG, hR⟩
  case ldc2_w z =>
    dsimp only [astep] at h
    cases h
    exact hK _ (List.mem_singleton.mpr rfl) v jl _ I L gX.rf (Nat.le_refl _) ⟨hE, hL, ⟨⟨hE.2.1, (hc0 _).symm⟩, hS⟩, hH, hG, hR⟩
  case iload z =>
    dsimp only [astep] at h
    split at h
    · rename_i a hg
      cases h
      obtain ⟨y, hy, hv⟩ := gL_get hL hg
      obtain ⟨x, rfl⟩ := gV_ii hv
      dsimp only [jstep]
      rw [hy]
      exact hK _ (List.mem_singleton.mpr rfl) v jl _ I L gX.rf (Nat.le_refl _) ⟨hE, hL, ⟨hv, hS⟩, hH, hG, hR⟩
    · cases h
  case iload_n z =>
    dsimp only [astep] at h
    split at h
    · rename_i a hg
      cases h
      obtain ⟨y, hy, hv⟩ := gL_get hL hg
      obtain ⟨x, rfl⟩ := gV_ii hv
      dsimp only [jstep]
      rw [hy]
      exact hK _ (List.mem_singleton.mpr rfl) v jl _ I L gX.rf (Nat.le_refl _) ⟨hE, hL, ⟨hv, hS⟩, hH, hG, hR⟩
    · cases h
  case lload z =>
    dsimp only [astep] at h
    split at h
    · rename_i a hg
      cases h
      obtain ⟨y, hy, hv⟩ := gL_get hL hg
      obtain ⟨x, rfl, -, -⟩ := gV_l hv
      dsimp only [jstep]
      rw [hy]
      exact hK _ (List.mem_singleton.mpr rfl) v jl _ I L gX.rf (Nat.le_refl _) ⟨hE, hL, ⟨hv, hS⟩, hH, hG, hR⟩
    · cases h
  case lload_n z =>
    dsimp only [astep] at h
    split at h
    · rename_i a hg
      cases h
      obtain ⟨y, hy, hv⟩ := gL_get hL hg
      obtain ⟨x, rfl, -, -⟩ := gV_l hv
      dsimp only [jstep]
      rw [hy]
      exact hK _ (List.mem_singleton.mpr rfl) v jl _ I L gX.rf (Nat.le_refl _) ⟨hE, hL, ⟨hv, hS⟩, hH, hG, hR⟩
    · cases h
  case aload z =>
    dsimp only [astep] at h
    split at h
    · rename_i a hg
      obtain ⟨ga, aa⟩ := a
      cases h
      obtain ⟨y, hy, hv⟩ := gL_get hL hg
      obtain ⟨x, rfl, -, -⟩ := gV_r hv
      dsimp only [jstep]
      rw [hy]
      exact hK _ (List.mem_singleton.mpr rfl) v jl _ I L gX.rf (Nat.le_refl _) ⟨hE, hL, ⟨hv, hS⟩, hH, hG, hR⟩
    · cases h
  case aload_n z =>
    dsimp only [astep] at h
    split at h
    · rename_i a hg
      obtain ⟨ga, aa⟩ := a
      cases h
      obtain ⟨y, hy, hv⟩ := gL_get hL hg
      obtain ⟨x, rfl, -, -⟩ := gV_r hv
      dsimp only [jstep]
      rw [hy]
      exact hK _ (List.mem_singleton.mpr rfl) v jl _ I L gX.rf (Nat.le_refl _) ⟨hE, hL, ⟨hv, hS⟩, hH, hG, hR⟩
    · cases h
  case istore z =>
    dsimp only [astep] at h
    split at h
    · rename_i a t
      obtain ⟨y, jt1, rfl, hv, hS1⟩ := gS_c hS
      obtain ⟨x, rfl⟩ := gV_ii hv
      obtain ⟨h1, h2⟩ := asto_ok hE hL hS1 hH hG hR hv h hK
      dsimp only [jstep]
      rw [h1]
      exact h2
    · cases h
  case istore_n z =>
    dsimp only [astep] at h
    split at h
    · rename_i a t
      obtain ⟨y, jt1, rfl, hv, hS1⟩ := gS_c hS
      obtain ⟨x, rfl⟩ := gV_ii hv
      obtain ⟨h1, h2⟩ := asto_ok hE hL hS1 hH hG hR hv h hK
      dsimp only [jstep]
      rw [h1]
      exact h2
    · cases h
  case astore z =>
    dsimp only [astep] at h
    split at h
    · rename_i a t
      obtain ⟨ga, aa⟩ := a
      obtain ⟨y, jt1, rfl, hv, hS1⟩ := gS_c hS
      obtain ⟨x, rfl, -, -⟩ := gV_r hv
      obtain ⟨h1, h2⟩ := asto_ok hE hL hS1 hH hG hR hv h hK
      dsimp only [jstep]
      rw [h1]
      exact h2
    · cases h
  case astore_n z =>
    dsimp only [astep] at h
    split at h
    · rename_i a t
      obtain ⟨ga, aa⟩ := a
      obtain ⟨y, jt1, rfl, hv, hS1⟩ := gS_c hS
      obtain ⟨x, rfl, -, -⟩ := gV_r hv
      obtain ⟨h1, h2⟩ := asto_ok hE hL hS1 hH hG hR hv h hK
      dsimp only [jstep]
      rw [h1]
      exact h2
    · cases h
  case lstore z =>
    dsimp only [astep] at h
    split at h
    · rename_i a t
      obtain ⟨y, jt1, rfl, hv, hS1⟩ := gS_c hS
      obtain ⟨x, rfl, -, -⟩ := gV_l hv
      split at h
      · rename_i hb
        cases h
        dsimp only [jstep]
        rw [gL_len hL, hb]
        exact hK _ (List.mem_singleton.mpr rfl) v _ jt1 I L gX.rf (Nat.le_refl _) ⟨hE, gL_put (rA + 1) (gL_put rA (gL_kill rA hL) (fun u hu => by cases hu; exact ⟨_, rfl, hv⟩)) (fun u hu => by cases hu), hS1, hH, hG, hR⟩
      · cases h
    · cases h
  case lstore_n z =>
    dsimp only [astep] at h
    split at h
    · rename_i a t
      obtain ⟨y, jt1, rfl, hv, hS1⟩ := gS_c hS
      obtain ⟨x, rfl, -, -⟩ := gV_l hv
      split at h
      · rename_i hb
        cases h
        dsimp only [jstep]
        rw [gL_len hL, hb]
        exact hK _ (List.mem_singleton.mpr rfl) v _ jt1 I L gX.rf (Nat.le_refl _) ⟨hE, gL_put (rA + 1) (gL_put rA (gL_kill rA hL) (fun u hu => by cases hu; exact ⟨_, rfl, hv⟩)) (fun u hu => by cases hu), hS1, hH, hG, hR⟩
      · cases h
    · cases h
  case iinc z w =>
    dsimp only [astep] at h
    split at h
    · rename_i a hg
      obtain ⟨y, hy, hv⟩ := gL_get hL hg
      obtain ⟨x, rfl, hv1, hv2⟩ := gV_i hv
      split at h
      · rename_i b E1 hb
        obtain ⟨v1, g1, g2, g3, g4, g5⟩ := aadd_ok (x := x) (y := rC) hE hv2 (hc0 _).symm hb
        obtain ⟨h1, h2⟩ := asto_ok (w := .inl (.inl (.inl b))) (y := .inl (.inl (x + rC))) g2 (gL_x g1 g3 hL) (gS_x g1 g3 hS) (gH_x g1 g3 hH) hG hR ⟨g4, g5.symm⟩ h (fun y hy v2 jl2 jt2 I2 L2 x1 x2 x3 => hK y hy v2 jl2 jt2 I2 L2 (g1.tr x1 g3) (Nat.le_trans g3 x2) x3)
        dsimp only [jstep]
        rw [h1, hy]
        exact h2
      · cases h
    · cases h
  case iadd =>
    dsimp only [astep] at h
    split at h
    · rename_i b a t
      obtain ⟨y, jt1, rfl, hy, hS1⟩ := gS_c hS
      obtain ⟨x, jt2, rfl, hx, hS2⟩ := gS_c hS1
      obtain ⟨y, rfl, hy1, hy2⟩ := gV_i hy
      obtain ⟨x, rfl, hx1, hx2⟩ := gV_i hx
      exact apush_ok hL hS2 hH hG hR h (fun r hr => aadd_ok hE hx2 hy2 hr) hK
    · cases h
  case isub =>
    dsimp only [astep] at h
    split at h
    · rename_i b a t
      obtain ⟨y, jt1, rfl, hy, hS1⟩ := gS_c hS
      obtain ⟨x, jt2, rfl, hx, hS2⟩ := gS_c hS1
      obtain ⟨y, rfl, hy1, hy2⟩ := gV_i hy
      obtain ⟨x, rfl, hx1, hx2⟩ := gV_i hx
      exact apush_ok hL hS2 hH hG hR h (fun r hr => asub_ok hE hx2 hy2 hr) hK
    · cases h
  case imul =>
    dsimp only [astep] at h
    split at h
    · rename_i b a t
      obtain ⟨y, jt1, rfl, hy, hS1⟩ := gS_c hS
      obtain ⟨x, jt2, rfl, hx, hS2⟩ := gS_c hS1
      obtain ⟨y, rfl, hy1, hy2⟩ := gV_i hy
      obtain ⟨x, rfl, hx1, hx2⟩ := gV_i hx
      exact apush_ok hL hS2 hH hG hR h (fun r hr => abin2 hE hx2 hy2 hr) hK
    · cases h
  case iand =>
    dsimp only [astep] at h
    split at h
    · rename_i b a t
      obtain ⟨y, jt1, rfl, hy, hS1⟩ := gS_c hS
      obtain ⟨x, jt2, rfl, hx, hS2⟩ := gS_c hS1
      obtain ⟨y, rfl, hy1, hy2⟩ := gV_i hy
      obtain ⟨x, rfl, hx1, hx2⟩ := gV_i hx
      exact apush_ok hL hS2 hH hG hR h (fun r hr => abin5 hE hx2 hy2 hr) hK
    · cases h
  case ior =>
    dsimp only [astep] at h
    split at h
    · rename_i b a t
      obtain ⟨y, jt1, rfl, hy, hS1⟩ := gS_c hS
      obtain ⟨x, jt2, rfl, hx, hS2⟩ := gS_c hS1
      obtain ⟨y, rfl, hy1, hy2⟩ := gV_i hy
      obtain ⟨x, rfl, hx1, hx2⟩ := gV_i hx
      exact apush_ok hL hS2 hH hG hR h (fun r hr => abin6 hE hr) hK
    · cases h
  case ishl =>
    dsimp only [astep] at h
    split at h
    · rename_i b a t
      obtain ⟨y, jt1, rfl, hy, hS1⟩ := gS_c hS
      obtain ⟨x, jt2, rfl, hx, hS2⟩ := gS_c hS1
      obtain ⟨y, rfl, hy1, hy2⟩ := gV_i hy
      obtain ⟨x, rfl, hx1, hx2⟩ := gV_i hx
      exact apush_ok hL hS2 hH hG hR h (fun r hr => abin6 hE hr) hK
    · cases h
  case ishr =>
    dsimp only [astep] at h
    split at h
    · rename_i b a t
      obtain ⟨y, jt1, rfl, hy, hS1⟩ := gS_c hS
      obtain ⟨x, jt2, rfl, hx, hS2⟩ := gS_c hS1
      obtain ⟨y, rfl, hy1, hy2⟩ := gV_i hy
      obtain ⟨x, rfl, hx1, hx2⟩ := gV_i hx
      exact apush_ok hL hS2 hH hG hR h (fun r hr => abin6 hE hr) hK
    · cases h
  case idiv =>
    dsimp only [astep] at h
    split at h
    · rename_i b a t
      obtain ⟨y, jt1, rfl, hy, hS1⟩ := gS_c hS
      obtain ⟨x, jt2, rfl, hx, hS2⟩ := gS_c hS1
      obtain ⟨y, rfl, hy1, hy2⟩ := gV_i hy
      obtain ⟨x, rfl, hx1, hx2⟩ := gV_i hx
      have hne : ¬ y = 0 := by
        cases hr : abin 3 E a b with
        | none => rw [hr] at h; cases h
        | some r => exact (abin3 hE hx2 hy2 hr).1
      exact ⟨hne, apush_ok hL hS2 hH hG hR h (fun r hr => (abin3 hE hx2 hy2 hr).2) hK⟩
    · cases h
  case irem =>
    dsimp only [astep] at h
    split at h
    · rename_i b a t
      obtain ⟨y, jt1, rfl, hy, hS1⟩ := gS_c hS
      obtain ⟨x, jt2, rfl, hx, hS2⟩ := gS_c hS1
      obtain ⟨y, rfl, hy1, hy2⟩ := gV_i hy
      obtain ⟨x, rfl, hx1, hx2⟩ := gV_i hx
      have hne : ¬ y = 0 := by
        cases hr : abin 4 E a b with
        | none => rw [hr] at h; cases h
        | some r => exact (abin4 hE hx2 hy2 hr).1
      exact ⟨hne, apush_ok hL hS2 hH hG hR h (fun r hr => (abin4 hE hx2 hy2 hr).2) hK⟩
    · cases h
  case ladd =>
    dsimp only [astep] at h
    split at h
    · rename_i b a t
      obtain ⟨y, jt1, rfl, hy, hS1⟩ := gS_c hS
      obtain ⟨x, jt2, rfl, hx, hS2⟩ := gS_c hS1
      obtain ⟨y, rfl, hy1, hy2⟩ := gV_l hy
      obtain ⟨x, rfl, hx1, hx2⟩ := gV_l hx
      exact apushL_ok hL hS2 hH hG hR h (fun r hr => (abinL_ok hE hx2 hy2).1 hr) hK
    · cases h
  case lmul =>
    dsimp only [astep] at h
    split at h
    · rename_i b a t
      obtain ⟨y, jt1, rfl, hy, hS1⟩ := gS_c hS
      obtain ⟨x, jt2, rfl, hx, hS2⟩ := gS_c hS1
      obtain ⟨y, rfl, hy1, hy2⟩ := gV_l hy
      obtain ⟨x, rfl, hx1, hx2⟩ := gV_l hx
      exact apushL_ok hL hS2 hH hG hR h (fun r hr => (abinL_ok hE hx2 hy2).2.1 hr) hK
    · cases h
  case ldiv =>
    dsimp only [astep] at h
    split at h
    · rename_i b a t
      obtain ⟨y, jt1, rfl, hy, hS1⟩ := gS_c hS
      obtain ⟨x, jt2, rfl, hx, hS2⟩ := gS_c hS1
      obtain ⟨y, rfl, hy1, hy2⟩ := gV_l hy
      obtain ⟨x, rfl, hx1, hx2⟩ := gV_l hx
      have hne : ¬ y = 0 := by
        cases hr : abinL 3 E a b with
        | none => rw [hr] at h; cases h
        | some r => exact ((abinL_ok hE hx2 hy2).2.2.1 hr).1
      exact ⟨hne, apushL_ok hL hS2 hH hG hR h (fun r hr => ((abinL_ok hE hx2 hy2).2.2.1 hr).2) hK⟩
    · cases h
  case lrem =>
    dsimp only [astep] at h
    split at h
    · rename_i b a t
      obtain ⟨y, jt1, rfl, hy, hS1⟩ := gS_c hS
      obtain ⟨x, jt2, rfl, hx, hS2⟩ := gS_c hS1
      obtain ⟨y, rfl, hy1, hy2⟩ := gV_l hy
      obtain ⟨x, rfl, hx1, hx2⟩ := gV_l hx
      have hne : ¬ y = 0 := by
        cases hr : abinL 4 E a b with
        | none => rw [hr] at h; cases h
        | some r => exact ((abinL_ok hE hx2 hy2).2.2.2 hr).1
      exact ⟨hne, apushL_ok hL hS2 hH hG hR h (fun r hr => ((abinL_ok hE hx2 hy2).2.2.2 hr).2) hK⟩
    · cases h
  case lcmp =>
    dsimp only [astep] at h
    split at h
    · rename_i b a t
      obtain ⟨y, jt1, rfl, hy, hS1⟩ := gS_c hS
      obtain ⟨x, jt2, rfl, hx, hS2⟩ := gS_c hS1
      obtain ⟨y, rfl, hy1, hy2⟩ := gV_l hy
      obtain ⟨x, rfl, hx1, hx2⟩ := gV_l hx
      cases h
      exact hK _ (List.mem_singleton.mpr rfl) v jl _ I L gX.rf (Nat.le_refl _) ⟨hE, hL, ⟨⟨hx1, hy1, by rw [cmp_lg, hx2, hy2]⟩, hS2⟩, hH, hG, hR⟩
    · cases h
  case i2l =>
    dsimp only [astep] at h
    split at h
    · rename_i a t
      obtain ⟨y, jt1, rfl, hy, hS1⟩ := gS_c hS
      obtain ⟨y, rfl, hy1, hy2⟩ := gV_i hy
      cases h
      exact hK _ (List.mem_singleton.mpr rfl) v jl _ I L gX.rf (Nat.le_refl _) ⟨hE, hL, ⟨⟨hy1, by rw [Int32.toInt_toInt64]; exact hy2⟩, hS1⟩, hH, hG, hR⟩
    · cases h
  case l2i =>
    dsimp only [astep] at h
    split at h
    · rename_i a t
      obtain ⟨y, jt1, rfl, hy, hS1⟩ := gS_c hS
      obtain ⟨y, rfl, hy1, hy2⟩ := gV_l hy
      split at h
      · rename_i hb
        cases h
        have he : y.toInt32.toInt = y.toInt := by
              unfold aint at hb
              split at hb
              · rename_i q hq
                have h1 := aiv_ok hE hq
                simp only [Bool.and_eq_true, decide_eq_true_eq] at hb
                rw [Int64.toInt_toInt32, bm32 (by omega)]
              · cases hb
        exact hK _ (List.mem_singleton.mpr rfl) v jl _ I L gX.rf (Nat.le_refl _) ⟨hE, hL, ⟨⟨hy1, by rw [he]; exact hy2⟩, hS1⟩, hH, hG, hR⟩
      · cases h
        obtain ⟨v1, g1, g2, g3, g4, g5⟩ := gN_new (q := (-2147483648, 2147483647)) (z := y.toInt32.toInt) hE (i32_rng _)
        exact hK _ (List.mem_singleton.mpr rfl) v1 jl _ I L g1 g3 ⟨g2, gL_x g1 g3 hL, ⟨⟨g4, g5.symm⟩, gS_x g1 g3 hS1⟩, gH_x g1 g3 hH, hG, hR⟩
    · cases h
  case i2b =>
    dsimp only [astep] at h
    split at h
    · rename_i a t
      obtain ⟨y, jt1, rfl, hy, hS1⟩ := gS_c hS
      obtain ⟨y, rfl, hy1, hy2⟩ := gV_i hy
      cases h
      have hb : -128 ≤ y.toInt8.toInt32.toInt ∧ y.toInt8.toInt32.toInt ≤ 127 := by
        rw [Int8.toInt_toInt32]
        have h1 := Int8.le_toInt y.toInt8
        have h2 := Int8.toInt_lt y.toInt8
        omega
      obtain ⟨v1, g1, g2, g3, g4, g5⟩ := gN_new (q := (-128, 127)) (z := y.toInt8.toInt32.toInt) hE hb
      exact hK _ (List.mem_singleton.mpr rfl) v1 jl _ I L g1 g3 ⟨g2, gL_x g1 g3 hL, ⟨⟨g4, g5.symm⟩, gS_x g1 g3 hS1⟩, gH_x g1 g3 hH, hG, hR⟩
    · cases h
  case dup =>
    dsimp only [astep] at h
    split at h
    · rename_i a t
      obtain ⟨y, jt1, rfl, hy, hS1⟩ := gS_c hS
      obtain ⟨x, rfl⟩ := gV_ii hy
      cases h
      exact hK _ (List.mem_singleton.mpr rfl) v jl _ I L gX.rf (Nat.le_refl _) ⟨hE, hL, ⟨hy, hy, hS1⟩, hH, hG, hR⟩
    · rename_i a t
      obtain ⟨ga, aa⟩ := a
      obtain ⟨y, jt1, rfl, hy, hS1⟩ := gS_c hS
      obtain ⟨x, rfl, -, -⟩ := gV_r hy
      cases h
      exact hK _ (List.mem_singleton.mpr rfl) v jl _ I L gX.rf (Nat.le_refl _) ⟨hE, hL, ⟨hy, hy, hS1⟩, hH, hG, hR⟩
    · cases h
  case dup2 =>
    dsimp only [astep] at h
    split at h
    · rename_i a b t
      obtain ⟨gb, ab⟩ := b
      obtain ⟨y, jt1, rfl, hy, hS1⟩ := gS_c hS
      obtain ⟨x, rfl⟩ := gV_ii hy
      obtain ⟨z, jt2, rfl, hz, hS2⟩ := gS_c hS1
      obtain ⟨w, rfl, -, -⟩ := gV_r hz
      cases h
      exact hK _ (List.mem_singleton.mpr rfl) v jl _ I L gX.rf (Nat.le_refl _) ⟨hE, hL, ⟨hy, hz, hy, hz, hS2⟩, hH, hG, hR⟩
    · cases h
  case pop =>
    dsimp only [astep] at h
    split at h
    · rename_i a t
      obtain ⟨y, jt1, rfl, hy, hS1⟩ := gS_c hS
      obtain ⟨x, rfl⟩ := gV_ii hy
      cases h
      exact hK _ (List.mem_singleton.mpr rfl) v jl _ I L gX.rf (Nat.le_refl _) ⟨hE, hL, hS1, hH, hG, hR⟩
    · cases h
  case pop2 =>
    dsimp only [astep] at h
    split at h
    · rename_i a t
      obtain ⟨y, jt1, rfl, hy, hS1⟩ := gS_c hS
      obtain ⟨x, rfl, -, -⟩ := gV_l hy
      cases h
      exact hK _ (List.mem_singleton.mpr rfl) v jl _ I L gX.rf (Nat.le_refl _) ⟨hE, hL, hS1, hH, hG, hR⟩
    · cases h
  case goto o =>
    dsimp only [astep] at h
    cases h
    exact hK _ (List.mem_singleton.mpr rfl) v jl _ I L gX.rf (Nat.le_refl _) ⟨hE, hL, hS, hH, hG, hR⟩
  case ifCond z o =>
    dsimp only [astep] at h
    split at h
    · rename_i a t
      obtain ⟨y, jt1, rfl, hy, hS1⟩ := gS_c hS
      obtain ⟨x, rfl, hy1, hy2⟩ := gV_i hy
      have hh := aif_ok hE hL hS1 hH hG hR h hK
      rw [← hy2, hc0 0, show (0 : Int) = (0 : Int32).toInt from rfl] at hh
      simp only [hop_i] at hh
      cases z
      · exact hh
      · exact ⟨hh.1, fun q => hh.2 (fun w => w q)⟩
      · exact hh
      · exact hh
      · exact hh
      · exact hh
    · rename_i a b t
      obtain ⟨y, jt1, rfl, hy, hS1⟩ := gS_c hS
      obtain ⟨x, rfl, hy2⟩ := gV_q hy
      have hh := aif_ok hE hL hS1 hH hG hR h hK
      simp only [hop_q] at hh
      simp only at hy2
      rw [← hy2] at hh
      cases z
      · exact hh
      · exact ⟨hh.1, fun q => hh.2 (fun w => w q)⟩
      · exact hh
      · exact hh
      · exact hh
      · exact hh
    · cases h
  case if_icmp z o =>
    dsimp only [astep] at h
    split at h
    · rename_i b a t
      obtain ⟨y, jt1, rfl, hy, hS1⟩ := gS_c hS
      obtain ⟨x, jt2, rfl, hx, hS2⟩ := gS_c hS1
      obtain ⟨y, rfl, hy1, hy2⟩ := gV_i hy
      obtain ⟨x, rfl, hx1, hx2⟩ := gV_i hx
      have hh := aif_ok hE hL hS2 hH hG hR h hK
      rw [← hx2, ← hy2] at hh
      simp only [hop_i] at hh
      cases z
      · exact hh
      · exact ⟨hh.1, fun q => hh.2 (fun w => w q)⟩
      · exact hh
      · exact hh
      · exact hh
      · exact hh
    · cases h
  case tableswitch a1 a2 a3 a4 =>
    dsimp only [astep] at h
    split at h
    · rename_i a t
      obtain ⟨y, jt1, rfl, hy, hS1⟩ := gS_c hS
      obtain ⟨x, rfl, hy1, hy2⟩ := gV_i hy
      cases h
      exact asw_ok hL hS1 hH hG hR hy2 rS E hE rfl hK
    · cases h
  case lookupswitch a1 a2 =>
    dsimp only [astep] at h
    split at h
    · rename_i a t
      obtain ⟨y, jt1, rfl, hy, hS1⟩ := gS_c hS
      obtain ⟨x, rfl, hy1, hy2⟩ := gV_i hy
      cases h
      exact asw_ok hL hS1 hH hG hR hy2 rS E hE rfl hK
    · cases h
  case getfield idx =>
    dsimp only [astep] at h
    split at h
    · rename_i g n t
      obtain ⟨ym, jt1, rfl, hym, hS1⟩ := gS_c hS
      obtain ⟨m, rfl, hm1, hm2⟩ := gV_r hym
      split at h
      · rename_i ci fs hsh
        dsimp only [jstep]
        rw [hsh]
        split at h
        · rename_i f hci hf
          split at h
          · rename_i g1 z own ha
            cases h
            dsimp only
            rw [hci, hf]
            try dsimp only
            have hfm := arf_ok g hsh hf ha m
            rw [hfm]
            refine hK _ (List.mem_singleton.mpr rfl) v jl _ I L gX.rf (Nat.le_refl _) ⟨hE, hL, ⟨?_, hS1⟩, hH, hG, hR⟩
            cases own
            · exact ⟨hE.2.1, rfl, (hc0 _).symm⟩
            · refine ⟨hm1, rfl, ?_⟩
              show ((m + z : Nat) : Int) = _
              unfold vv at hm2 ⊢
              simp only [if_true]
              push_cast
              omega
          · cases h
        · rename_i hci hf
          cases h
          dsimp only
          rw [hci, hf]
          try dsimp only
          obtain ⟨v1, g1, g2, g3, g4, g5⟩ := gN_new (q := (-9223372036854775808, 9223372036854775807)) (z := (L g m rA).toInt) hE (i64_rng _)
          exact hK _ (List.mem_singleton.mpr rfl) v1 jl _ I L g1 g3 ⟨g2, gL_x g1 g3 hL, ⟨⟨g4, g5.symm⟩, gS_x g1 g3 hS1⟩, gH_x g1 g3 hH, hG, hR⟩
        · rename_i f hne hci hf
          split at h
          · rename_i a E1 ch1 ha
            cases h
            dsimp only
            rw [hci, hf]
            obtain ⟨v1, g1, g2, g3, g4, g5, g6⟩ := ard_ok (i := m) (j := rA) hE hH hG hm2 (hc0 _).symm ha
            split
            · rename_i q1 q2; cases q2
            · rename_i q1 q2; cases q2; exact absurd rfl hne
            · rename_i q1 q2 q3; cases q3
              exact hK _ (List.mem_singleton.mpr rfl) v1 jl _ I L g1 g3 ⟨g2, gL_x g1 g3 hL, ⟨⟨g4, g5⟩, gS_x g1 g3 hS1⟩, g6, hG, hR⟩
            · rename_i q1 q2 q3; exact (q3 _ rfl rfl).elim
          · cases h
        · cases h
      · cases h
    · cases h
  case putfield idx =>
    dsimp only [astep] at h
    split at h
    · rename_i a g n t
      obtain ⟨yx, jt0, rfl, hyx, hS0⟩ := gS_c hS
      obtain ⟨x, rfl, hx1, hx2⟩ := gV_i hyx
      obtain ⟨ym, jt1, rfl, hym, hS1⟩ := gS_c hS0
      obtain ⟨m, rfl, hm1, hm2⟩ := gV_r hym
      split at h
      · rename_i ci fs hsh
        dsimp only [jstep]
        rw [hsh]
        split at h
        · rename_i hci hf
          split at h
          · rename_i ch1 ha
            cases h
            dsimp only
            rw [hci, hf]
            obtain ⟨g1, g2, g3⟩ := awrt_ok (i := m) (j := rA) (x := x) hE hH hG hR hm2 (hc0 _).symm hx2 ha
            exact hK _ (List.mem_singleton.mpr rfl) v jl _ _ L gX.rf (Nat.le_refl _) ⟨hE, hL, hS1, g1, g2, g3⟩
          · cases h
        · rename_i hci hf
          split at h
          · rename_i ch1 hbo ha
            cases h
            dsimp only
            rw [hci, hf]
            obtain ⟨g1, g2, g3⟩ := awrt_ok (i := m) (j := rA) (x := x) hE hH hG hR hm2 (hc0 _).symm hx2 ha
            exact ⟨abool_ok hE hx2 hbo, hK _ (List.mem_singleton.mpr rfl) v jl _ _ L gX.rf (Nat.le_refl _) ⟨hE, hL, hS1, g1, g2, g3⟩⟩
          · cases h
        · cases h
      · cases h
    · rename_i a g n t
      obtain ⟨yx, jt0, rfl, hyx, hS0⟩ := gS_c hS
      obtain ⟨x, rfl, hx1, hx2⟩ := gV_l hyx
      obtain ⟨ym, jt1, rfl, hym, hS1⟩ := gS_c hS0
      obtain ⟨m, rfl, hm1, hm2⟩ := gV_r hym
      split at h
      · rename_i ci fs hsh
        dsimp only [jstep]
        rw [hsh]
        split at h
        · rename_i hci hf hw
          cases h
          dsimp only
          rw [hci, hf]
          exact hK _ (List.mem_singleton.mpr rfl) v jl _ I _ gX.rf (Nat.le_refl _) ⟨hE, hL, hS1, hH, hG, awrL_ok (i := m) (j := rA) hE hR hm2 (hc0 _).symm hw⟩
        · cases h
      · cases h
    · cases h
  case getstatic idx =>
    dsimp only [astep] at h
    cases h
    exact hK _ (List.mem_singleton.mpr rfl) v jl _ I L gX.rf (Nat.le_refl _) ⟨hE, hL, ⟨⟨hE.2.1, rfl, (hc0 _).symm⟩, hS⟩, hH, hG, hR⟩
  case iaload =>
    dsimp only [astep] at h
    split at h
    · rename_i j g n t
      obtain ⟨yx, jt0, rfl, hyx, hS0⟩ := gS_c hS
      obtain ⟨x, rfl, hx1, hx2⟩ := gV_i hyx
      obtain ⟨ym, jt1, rfl, hym, hS1⟩ := gS_c hS0
      obtain ⟨m, rfl, hm1, hm2⟩ := gV_r hym
      split at h
      · split at h
        · rename_i hg hv
          cases h
          have hg := Nat.eq_of_beq_eq_true hg
          subst hg
          dsimp only [jstep]
          obtain ⟨k1, k2⟩ := avin_ok hE hx2 hv
          have hlet : 99 ≤ (jletters x.toNatClampNeg).toInt ∧ (jletters x.toNatClampNeg).toInt ≤ 121 := by
            unfold jletters
            split <;> decide
          obtain ⟨v1, g1, g2, g3, g4, g5⟩ := gN_new (q := (99, 121)) (z := (jletters x.toNatClampNeg).toInt) hE hlet
          exact ⟨k1, hK _ (List.mem_singleton.mpr rfl) v1 jl _ I L g1 g3 ⟨g2, gL_x g1 g3 hL, ⟨⟨g4, g5.symm⟩, gS_x g1 g3 hS1⟩, gH_x g1 g3 hH, hG, hR⟩⟩
        · cases h
      · rename_i hge
        have hro : jro none g = none := by
          have hg : ¬ 900 ≤ g := fun q => by rw [Nat.ble_eq_true_of_le q] at hge; cases hge
          unfold jro
          cases h1 : Nat.beq g 900 with
          | true => have := Nat.eq_of_beq_eq_true h1; omega
          | false =>
            cases h2 : Nat.beq g 901 with
            | true => rfl
            | false => rfl
        split at h
        · rename_i N hsh
          split at h
          · rename_i a E1 ch1 hv ha
            cases h
            obtain ⟨k1, k2⟩ := avin_ok hE hx2 hv
            obtain ⟨v1, g1, g2, g3, g4, g5, g6⟩ := ard_ok (i := m) (j := x.toNatClampNeg) hE hH hG hm2 k2 ha
            dsimp only [jstep]
            rw [hro, hsh]
            exact ⟨k1, hK _ (List.mem_singleton.mpr rfl) v1 jl _ I L g1 g3 ⟨g2, gL_x g1 g3 hL, ⟨⟨g4, g5⟩, gS_x g1 g3 hS1⟩, g6, hG, hR⟩⟩
          · cases h
        · cases h
    · cases h
  case baload =>
    dsimp only [astep] at h
    split at h
    · rename_i j g n t
      obtain ⟨yx, jt0, rfl, hyx, hS0⟩ := gS_c hS
      obtain ⟨x, rfl, hx1, hx2⟩ := gV_i hyx
      obtain ⟨ym, jt1, rfl, hym, hS1⟩ := gS_c hS0
      obtain ⟨m, rfl, hm1, hm2⟩ := gV_r hym
      split at h
      · rename_i N hsh
        split at h
        · rename_i a E1 ch1 hv ha
          cases h
          obtain ⟨k1, k2⟩ := avin_ok hE hx2 hv
          obtain ⟨v1, g1, g2, g3, g4, g5, g6⟩ := ard_ok (i := m) (j := x.toNatClampNeg) hE hH hG hm2 k2 ha
          dsimp only [jstep]
          rw [hsh]
          exact ⟨k1, hK _ (List.mem_singleton.mpr rfl) v1 jl _ I L g1 g3 ⟨g2, gL_x g1 g3 hL, ⟨⟨g4, g5⟩, gS_x g1 g3 hS1⟩, g6, hG, hR⟩⟩
        · cases h
      · cases h
    · cases h
  case laload =>
    dsimp only [astep] at h
    split at h
    · rename_i j g n t
      obtain ⟨yx, jt0, rfl, hyx, hS0⟩ := gS_c hS
      obtain ⟨x, rfl, hx1, hx2⟩ := gV_i hyx
      obtain ⟨ym, jt1, rfl, hym, hS1⟩ := gS_c hS0
      obtain ⟨m, rfl, hm1, hm2⟩ := gV_r hym
      split at h
      · rename_i N hsh
        split at h
        · rename_i hv
          cases h
          obtain ⟨k1, k2⟩ := avin_ok hE hx2 hv
          obtain ⟨v1, g1, g2, g3, g4, g5⟩ := gN_new (q := (-9223372036854775808, 9223372036854775807)) (z := (L g m x.toNatClampNeg).toInt) hE (i64_rng _)
          dsimp only [jstep]
          rw [hsh]
          exact ⟨k1, hK _ (List.mem_singleton.mpr rfl) v1 jl _ I L g1 g3 ⟨g2, gL_x g1 g3 hL, ⟨⟨g4, g5.symm⟩, gS_x g1 g3 hS1⟩, gH_x g1 g3 hH, hG, hR⟩⟩
        · cases h
      · cases h
    · cases h
  case aaload =>
    dsimp only [astep] at h
    split at h
    · rename_i j g n t
      obtain ⟨yx, jt0, rfl, hyx, hS0⟩ := gS_c hS
      obtain ⟨x, rfl, hx1, hx2⟩ := gV_i hyx
      obtain ⟨ym, jt1, rfl, hym, hS1⟩ := gS_c hS0
      obtain ⟨m, rfl, hm1, hm2⟩ := gV_r hym
      split at h
      · rename_i N f g1 z hsh ha
        split at h
        · rename_i hv
          cases h
          obtain ⟨k1, k2⟩ := avin_ok hE hx2 hv
          dsimp only [jstep]
          rw [hsh]
          refine ⟨k1, ?_⟩
          rw [ara_ok g hsh ha]
          refine hK _ (List.mem_singleton.mpr rfl) v jl _ I L gX.rf (Nat.le_refl _) ⟨hE, hL, ⟨⟨hx1, rfl, ?_⟩, hS1⟩, hH, hG, hR⟩
          show ((x.toNatClampNeg + z : Nat) : Int) = _
          unfold vv at k2 ⊢
          push_cast
          try simp only
          omega
        · cases h
      · cases h
    · cases h
  case iastore =>
    dsimp only [astep] at h
    split at h
    · rename_i a j g n t
      obtain ⟨yw, jta, rfl, hyw, hSa⟩ := gS_c hS
      obtain ⟨w, rfl, hw1, hw2⟩ := gV_i hyw
      obtain ⟨yx, jt0, rfl, hyx, hS0⟩ := gS_c hSa
      obtain ⟨x, rfl, hx1, hx2⟩ := gV_i hyx
      obtain ⟨ym, jt1, rfl, hym, hS1⟩ := gS_c hS0
      obtain ⟨m, rfl, hm1, hm2⟩ := gV_r hym
      split at h
      · rename_i N hsh
        split at h
        · rename_i ch1 hv ha
          cases h
          obtain ⟨k1, k2⟩ := avin_ok hE hx2 hv
          obtain ⟨g1, g2, g3⟩ := awrt_ok (i := m) (j := x.toNatClampNeg) (x := w) hE hH hG hR hm2 k2 hw2 ha
          dsimp only [jstep]
          rw [hsh]
          exact ⟨k1, hK _ (List.mem_singleton.mpr rfl) v jl _ _ L gX.rf (Nat.le_refl _) ⟨hE, hL, hS1, g1, g2, g3⟩⟩
        · cases h
      · cases h
    · cases h
  case bastore =>
    dsimp only [astep] at h
    split at h
    · rename_i a j g n t
      obtain ⟨yw, jta, rfl, hyw, hSa⟩ := gS_c hS
      obtain ⟨w, rfl, hw1, hw2⟩ := gV_i hyw
      obtain ⟨yx, jt0, rfl, hyx, hS0⟩ := gS_c hSa
      obtain ⟨x, rfl, hx1, hx2⟩ := gV_i hyx
      obtain ⟨ym, jt1, rfl, hym, hS1⟩ := gS_c hS0
      obtain ⟨m, rfl, hm1, hm2⟩ := gV_r hym
      split at h
      · rename_i N hsh
        split at h
        · rename_i ch1 hv hbo ha
          cases h
          obtain ⟨k1, k2⟩ := avin_ok hE hx2 hv
          have hnar : vp_nar .boolean w = w := by
            rcases abool_ok hE hw2 hbo with rfl | rfl <;> rfl
          obtain ⟨g1, g2, g3⟩ := awrt_ok (i := m) (j := x.toNatClampNeg) (x := w) hE hH hG hR hm2 k2 hw2 ha
          dsimp only [jstep]
          rw [hsh]
          rw [hnar]
          exact ⟨k1, hK _ (List.mem_singleton.mpr rfl) v jl _ _ L gX.rf (Nat.le_refl _) ⟨hE, hL, hS1, g1, g2, g3⟩⟩
        · cases h
      · cases h
    · cases h
  case lastore =>
    dsimp only [astep] at h
    split at h
    · rename_i a j g n t
      obtain ⟨yw, jta, rfl, hyw, hSa⟩ := gS_c hS
      obtain ⟨w, rfl, hw1, hw2⟩ := gV_l hyw
      obtain ⟨yx, jt0, rfl, hyx, hS0⟩ := gS_c hSa
      obtain ⟨x, rfl, hx1, hx2⟩ := gV_i hyx
      obtain ⟨ym, jt1, rfl, hym, hS1⟩ := gS_c hS0
      obtain ⟨m, rfl, hm1, hm2⟩ := gV_r hym
      split at h
      · rename_i N hsh
        split at h
        · rename_i hv ha
          cases h
          obtain ⟨k1, k2⟩ := avin_ok hE hx2 hv
          dsimp only [jstep]
          rw [hsh]
          exact ⟨k1, hK _ (List.mem_singleton.mpr rfl) v jl _ I _ gX.rf (Nat.le_refl _) ⟨hE, hL, hS1, hH, hG, awrL_ok (i := m) (j := x.toNatClampNeg) hE hR hm2 k2 ha⟩⟩
        · cases h
      · cases h
    · cases h
  case arraylength =>
    dsimp only [astep] at h
    split at h
    · rename_i g n t
      obtain ⟨ym, jt1, rfl, hym, hS1⟩ := gS_c hS
      obtain ⟨m, rfl, hm1, hm2⟩ := gV_r hym
      split at h
      · rename_i N z hge hsh
        cases h
        have hro : jro none g = none := by
          have hg : ¬ 900 ≤ g := fun q => by rw [Nat.ble_eq_true_of_le q] at hge; cases hge
          unfold jro
          cases h1 : Nat.beq g 900 with
          | true => have := Nat.eq_of_beq_eq_true h1; omega
          | false =>
            cases h2 : Nat.beq g 901 with
            | true => rfl
            | false => rfl
        dsimp only [jstep]
        rw [hro, hsh]
        have hN : (nI N).toInt = (N : Int) := nI_toInt (by
          have h9 := jshN g hsh
          omega)
        exact hK _ (List.mem_singleton.mpr rfl) v jl _ I L gX.rf (Nat.le_refl _) ⟨hE, hL, ⟨⟨hE.2.1, by rw [hN, hc0]⟩, hS1⟩, hH, hG, hR⟩
      · cases h
    · cases h
  case invokestatic idx =>
    dsimp only [astep] at h
    split at h
    · rename_i h999
      split at h
      · rename_i z dp g9 n9 sp g n t
        obtain ⟨yw, jta, rfl, hyw, hSa⟩ := gS_c hS
        obtain ⟨w, rfl, hw1, hw2⟩ := gV_i hyw
        obtain ⟨yy, jtb1, rfl, hyy, hSb⟩ := gS_c hSa
        obtain ⟨y, rfl, hy1, hy2⟩ := gV_i hyy
        obtain ⟨ym9, jtc, rfl, hym9, hSc⟩ := gS_c hSb
        obtain ⟨m9, rfl, hm91, hm92⟩ := gV_r hym9
        obtain ⟨yx, jtd, rfl, hyx, hSd⟩ := gS_c hSc
        obtain ⟨x, rfl, hx1, hx2⟩ := gV_i hyx
        obtain ⟨ym, jt1, rfl, hym, hS1⟩ := gS_c hSd
        obtain ⟨m, rfl, hm1, hm2⟩ := gV_r hym
        split at h
        · rename_i N N9 hsh hsh9 hca
          split at h
          · rename_i pz pd ps pn pm hz hd hs hn hm
            split at h
            · rename_i hc
              cases h
              obtain ⟨⟨c1, c2, c3⟩, ⟨c4, c5⟩, c6, c7⟩ := hc
              have b1 := aiv_ok hE hz
              have b2 := aiv_ok hE hd
              have b3 := aiv_ok hE hs
              have b4 := aiv_ok hE hn
              have b5 := aiv_ok hE hm
              have t1 : (w.toNatClampNeg : Int) = w.toInt := by show ((w.toInt.toNat : Nat) : Int) = _; omega
              have t2 : (y.toNatClampNeg : Int) = y.toInt := by show ((y.toInt.toNat : Nat) : Int) = _; omega
              have t3 : (x.toNatClampNeg : Int) = x.toInt := by show ((x.toInt.toNat : Nat) : Int) = _; omega
              have n0 : ∀ q : Int32, 0 ≤ q.toInt → ¬ q < 0 := fun q hq hl => by have := Int32.lt_iff_toInt_lt.mp hl; simp at this; omega
              obtain ⟨g1, g2, g3⟩ := copy_ok (g := g) (g' := g9) (a := m) (b := m9) (sp := x.toNatClampNeg) (dp := y.toNatClampNeg) (z := w.toNatClampNeg) (pn := pn) (pm := pm) (ps := (ps.1, ps.2 + pz.2 - 1)) (pd := (pd.1, pd.2 + pz.2 - 1)) hH hG hR (by omega) (by omega) (fun q hq => by simp only; omega) (fun q hq => by simp only; omega) c6 c7
              dsimp only [jstep]
              rw [h999]
              dsimp only
              rw [hsh, hsh9, show Nat.ble (jcat jt1) 8 = true by rw [← gS_cat hS1]; exact hca]
              exact ⟨⟨n0 x (by omega), n0 y (by omega), n0 w (by omega), by omega, by omega⟩, hK _ (List.mem_singleton.mpr rfl) v jl _ _ L gX.rf (Nat.le_refl _) ⟨hE, hL, hS1, g1, g2, g3⟩⟩
            · cases h
          · cases h
        · cases h
      · cases h
    · rename_i h999
      split at h
      · rename_i b a t
        obtain ⟨y, jt1, rfl, hy, hS1⟩ := gS_c hS
        obtain ⟨x, jt2, rfl, hx, hS2⟩ := gS_c hS1
        obtain ⟨y, rfl, hy1, hy2⟩ := gV_i hy
        obtain ⟨x, rfl, hx1, hx2⟩ := gV_i hx
        split at h
        · rename_i p q hp hq hca
          have b1 := aiv_ok hE hp
          have b2 := aiv_ok hE hq
          have hcb : Nat.ble (jcat jt2) 8 = true := by rw [← gS_cat hS2]; exact hca
          split at h
          · rename_i h998
            cases h
            dsimp only [jstep]
            rw [h999, h998]
            dsimp only
            rw [hcb]
            have hb : min p.1 q.1 ≤ (if y < x then y else x).toInt ∧ (if y < x then y else x).toInt ≤ min p.2 q.2 := by
              split
              · rename_i hl; have := Int32.lt_iff_toInt_lt.mp hl; omega
              · rename_i hl; have h9 : ¬ y.toInt < x.toInt := fun e => hl (Int32.lt_iff_toInt_lt.mpr e); omega
            obtain ⟨v1, g1, g2, g3, g4, g5⟩ := gN_new (q := (min p.1 q.1, min p.2 q.2)) (z := (if y < x then y else x).toInt) hE hb
            exact hK _ (List.mem_singleton.mpr rfl) v1 jl _ I L g1 g3 ⟨g2, gL_x g1 g3 hL, ⟨⟨g4, g5.symm⟩, gS_x g1 g3 hS2⟩, gH_x g1 g3 hH, hG, hR⟩
          · rename_i h998
            split at h
            · rename_i h997
              cases h
              dsimp only [jstep]
              rw [h999, h998]
              dsimp only
              rw [h997]
              dsimp only
              rw [hcb]
              have hb : max p.1 q.1 ≤ (if x < y then y else x).toInt ∧ (if x < y then y else x).toInt ≤ max p.2 q.2 := by
                split
                · rename_i hl; have := Int32.lt_iff_toInt_lt.mp hl; omega
                · rename_i hl; have h9 : ¬ x.toInt < y.toInt := fun e => hl (Int32.lt_iff_toInt_lt.mpr e); omega
              obtain ⟨v1, g1, g2, g3, g4, g5⟩ := gN_new (q := (max p.1 q.1, max p.2 q.2)) (z := (if x < y then y else x).toInt) hE hb
              exact hK _ (List.mem_singleton.mpr rfl) v1 jl _ I L g1 g3 ⟨g2, gL_x g1 g3 hL, ⟨⟨g4, g5.symm⟩, gS_x g1 g3 hS2⟩, gH_x g1 g3 hH, hG, hR⟩
            · cases h
        · cases h
      · cases h
