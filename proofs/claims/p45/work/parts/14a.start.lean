section
/-! the start: what the constructors leave -/
noncomputable def sI : Nat → Nat → Nat → Int32 := fun g _ => match g with
  | 3 => fun k => (match k with | 4 => (-9) | _ => 0)
  | 9 => fun k => (match k with | 4 => 1000000 | 5 => 1000000 | _ => 0)
  | 14 => fun j => if j < 6 then (-1) else 0
  | 16 => fun j => if j < 4 then (-1) else 0
  | 32 => (upd (upd (upd (fun _ => 0) 1149 (-1)) 2298 (-1)) 3447 (-1))
  | 35 => (upd (upd (upd (upd (upd (upd (fun _ => 0) 0 (-1)) 1 (-1)) 2 (-1)) 3 (-1)) 4 (-1)) 5 (-1))
  | 37 => (upd (upd (upd (upd (fun _ => 0) 0 (-1)) 1 (-1)) 2 (-1)) 3 (-1))
  | _ => fun _ => 0
noncomputable def sL : Nat → Nat → Nat → Int64 := fun g _ => match g with
  | 0 => fun k => (match k with | 16 => 1 | _ => 0)
  | 31 => fun k => (match k with | 12 => 1 | _ => 0)
  | _ => fun _ => 0
noncomputable def sR (q1 q2 t b : Nat) (a1 a2 : Nat → Nat) : Nat → Nat → Nat := fun g i => match g with
  | 0 => q1
  | 1 => a1 0
  | 2 => a1 1
  | 3 => a1 2
  | 4 => ([a1 3, a1 4, a1 13, a1 14, a1 15, a1 30] : List Nat).getD i 0
  | 5 => a1 5
  | 6 => a1 6
  | 7 => ([a1 44, a1 54, a1 64, a1 74, a1 84, a1 36, a1 7, a1 98, a1 99, a1 100, a1 101] : List Nat).getD i 0
  | 8 => a1 8
  | 9 => a1 9
  | 10 => a1 10
  | 11 => a1 11
  | 12 => a1 12
  | 13 => a1 20
  | 14 => a1 21
  | 15 => a1 25
  | 16 => a1 26
  | 17 => a1 31
  | 18 => ([a1 40, a1 50, a1 60, a1 70, a1 80, a1 32] : List Nat).getD i 0
  | 19 => ([a1 41, a1 51, a1 61, a1 71, a1 81, a1 33] : List Nat).getD i 0
  | 20 => ([a1 42, a1 52, a1 62, a1 72, a1 82, a1 34] : List Nat).getD i 0
  | 21 => ([a1 43, a1 53, a1 63, a1 73, a1 83, a1 35] : List Nat).getD i 0
  | 22 => ([a1 46, a1 56, a1 66, a1 76, a1 86, a1 38] : List Nat).getD i 0
  | 23 => ([a1 45, a1 55, a1 65, a1 75, a1 85, a1 37, a1 90, a1 102, a1 103, a1 104, a1 105] : List Nat).getD i 0
  | 24 => a1 92
  | 25 => a1 92 + 1 + i
  | 26 => a1 95
  | 27 => a1 96
  | 28 => a1 97
  | 29 => a1 20 + 1 + i
  | 30 => a1 25 + 1 + i
  | 31 => q2
  | 32 => a2 0
  | 33 => a2 1
  | 34 => a2 2
  | 35 => a2 3
  | 36 => a2 4
  | 37 => a2 5
  | 38 => a2 6
  | 39 => a2 7
  | 40 => a2 8
  | 41 => a2 9
  | 900 => t
  | 901 => b
  | _ => 0
noncomputable def sIx : List Nat := [0, 2, 11, 18, 28, 36, 71, 79, 87, 19, 1, 44, 33, 41, 76, 84, 92, 24, 45, 60, 62, 64, 66, 47, 56, 68, 69, 70, 3, 10, 12, 17, 27, 29, 37, 72, 80, 88, 20, 30, 38, 73, 81, 89, 21, 31, 39, 74, 82, 90, 22, 32, 40, 75, 83, 91, 23, 35, 43, 78, 86, 94, 26, 34, 42, 77, 85, 93, 25, 46, 61, 63, 65, 67, 48, 49, 50, 51, 52, 53, 54, 55, 57, 58, 59, 4, 5, 6, 7, 8, 9, 13, 14, 15, 16, 95, 96, 97, 98, 99, 100, 101, 102, 103, 104, 105]
theorem s_cells : jcells = [(0, 0), (1, 0), (2, 0), (3, 0), (4, 0), (4, 1), (4, 2), (4, 3), (4, 4), (4, 5), (5, 0), (6, 0), (7, 0), (7, 1), (7, 2), (7, 3), (7, 4), (7, 5), (7, 6), (7, 7), (7, 8), (7, 9), (7, 10), (8, 0), (9, 0), (10, 0), (11, 0), (12, 0), (13, 0), (14, 0), (15, 0), (16, 0), (17, 0), (18, 0), (18, 1), (18, 2), (18, 3), (18, 4), (18, 5), (19, 0), (19, 1), (19, 2), (19, 3), (19, 4), (19, 5), (20, 0), (20, 1), (20, 2), (20, 3), (20, 4), (20, 5), (21, 0), (21, 1), (21, 2), (21, 3), (21, 4), (21, 5), (22, 0), (22, 1), (22, 2), (22, 3), (22, 4), (22, 5), (23, 0), (23, 1), (23, 2), (23, 3), (23, 4), (23, 5), (23, 6), (23, 7), (23, 8), (23, 9), (23, 10), (24, 0), (25, 0), (25, 1), (25, 2), (25, 3), (25, 4), (25, 5), (25, 6), (26, 0), (27, 0), (28, 0), (29, 0), (29, 1), (29, 2), (29, 3), (29, 4), (29, 5), (30, 0), (30, 1), (30, 2), (30, 3), (31, 0), (32, 0), (33, 0), (34, 0), (35, 0), (36, 0), (37, 0), (38, 0), (39, 0), (40, 0), (41, 0)] := by decide +kernel
section CT
variable {dC : Nat → ClassId} {dI : Nat → Nat → Nat} {A : Nat → Prop} {H0 H : Heap} {locs : List Loc}
theorem c_cellG {ws : va_W} (p : Nat) {a n : Nat} {z : ClassId} {f : Nat → Option Nat} (g : Nat → Option Nat) (he : ws[p]? = some (a, .inl (z, n, .inr (.inr (.inr (.inr f)))))) (h : ∀ j, j < n → f j = g j) (hw : cWd dC dI A H0 H locs ws) : cWd dC dI A H0 H locs (ws.set p (a, .inl (z, n, .inr (.inr (.inr (.inr g)))))) := by
  obtain ⟨hP, hD, hS⟩ := hw
  refine ⟨hP.set hD he ?_ (fun _ _ => rfl), hD.set he, hS⟩
  have h1 : H[a]? = some (vp_cell z (n, .inr (.inr (.inr (.inr f))))) := hP p _ he
  show H[a]? = some (vp_cell _ _)
  rw [h1, vp_cell_q, vp_cell_q]
  exact congrArg some (arrV_congr _ _ (fun j hj => by rw [h j hj]))
end CT
theorem s_gG : gG aGI sI := by
  intro e he i j h1 h2 h3 h4
  simp only [aGI, List.mem_cons, List.not_mem_nil, or_false] at he
  have z : ∀ g i j, (∀ x y, sI g x y = 0) → ∀ lo hi : Int, lo ≤ 0 → 0 ≤ hi → lo ≤ (sI g i j).toInt ∧ (sI g i j).toInt ≤ hi := fun g i j h lo hi a b => by rw [h i j]; exact ⟨a, b⟩
  rcases he with rfl | rfl | rfl | rfl | rfl | rfl | rfl | rfl | rfl | rfl | rfl | rfl | rfl | rfl | rfl | rfl | rfl | rfl | rfl | rfl
  · show (-1 : Int) ≤ (if j < 6 then (-1 : Int32) else 0).toInt ∧ (if j < 6 then (-1 : Int32) else 0).toInt ≤ 40
    split <;> decide
  · show (-1 : Int) ≤ (if j < 4 then (-1 : Int32) else 0).toInt ∧ (if j < 4 then (-1 : Int32) else 0).toInt ≤ 60
    split <;> decide
  · exact z 4 i j (fun _ _ => rfl) _ _ (by decide) (by decide)
  · exact z 4 i j (fun _ _ => rfl) _ _ (by decide) (by decide)
  · exact z 4 i j (fun _ _ => rfl) _ _ (by decide) (by decide)
  · exact z 21 i j (fun _ _ => rfl) _ _ (by decide) (by decide)
  · exact z 19 i j (fun _ _ => rfl) _ _ (by decide) (by decide)
  · exact z 6 i j (fun _ _ => rfl) _ _ (by decide) (by decide)
  · have e : j = 2 := by simp at h3 h4; omega
    subst e
    exact (by decide : (-1 : Int) ≤ (0 : Int32).toInt ∧ (0 : Int32).toInt ≤ 60)
  · have e : j = 3 := by simp at h3 h4; omega
    subst e
    exact (by decide : (0 : Int) ≤ (0 : Int32).toInt ∧ (0 : Int32).toInt ≤ 60)
  · have e : j = 3 := by simp at h3 h4; omega
    subst e
    exact (by decide : (0 : Int) ≤ (0 : Int32).toInt ∧ (0 : Int32).toInt ≤ 3)
  · exact z 31 i j (fun _ _ => rfl) _ _ (by decide) (by decide)
  · have e : j = 0 ∨ j = 1 ∨ j = 2 ∨ j = 3 ∨ j = 4 ∨ j = 5 := by simp at h3 h4; omega
    rcases e with rfl | rfl | rfl | rfl | rfl | rfl <;> exact (by decide : (-1 : Int) ≤ (-1 : Int32).toInt ∧ (-1 : Int32).toInt ≤ 40)
  · have e : j = 0 ∨ j = 1 ∨ j = 2 ∨ j = 3 := by simp at h3 h4; omega
    rcases e with rfl | rfl | rfl | rfl <;> exact (by decide : (-1 : Int) ≤ (-1 : Int32).toInt ∧ (-1 : Int32).toInt ≤ 60)
  · exact z 34 i j (fun _ _ => rfl) _ _ (by decide) (by decide)
  · have e : j = 0 := by simp at h3 h4; omega
    subst e
    exact (by decide : (0 : Int) ≤ (0 : Int32).toInt ∧ (0 : Int32).toInt ≤ 40)
  · have e : j = 1149 := by simp at h3 h4; omega
    subst e
    exact (by decide : (-1 : Int) ≤ (-1 : Int32).toInt ∧ (-1 : Int32).toInt ≤ 40)
  · have e : j = 2298 := by simp at h3 h4; omega
    subst e
    exact (by decide : (-1 : Int) ≤ (-1 : Int32).toInt ∧ (-1 : Int32).toInt ≤ 40)
  · have e : j = 3447 := by simp at h3 h4; omega
    subst e
    exact (by decide : (-1 : Int) ≤ (-1 : Int32).toInt ∧ (-1 : Int32).toInt ≤ 40)
  · exact z 31 i j (fun _ _ => rfl) _ _ (by decide) (by decide)
theorem s_jJ : jJ sI := ⟨rfl, rfl, ⟨fun e he => by
    have : (e : Int) < 0 := he
    omega, fun i _ => rfl⟩, fun k _ q => absurd rfl q⟩
noncomputable def s_all (ws : va_W) : List Nat → va_W → Prop
  | [], [] => True
  | i :: is, x :: xs => ws[i]? = some x ∧ s_all ws is xs
  | _, _ => False
theorem s_nil {ws : va_W} : s_all ws [] [] := trivial
theorem s_cons {ws : va_W} {i : Nat} {is : List Nat} {x : Nat × va_E} {xs : va_W} (h : ws[i]? = some x) (t : s_all ws is xs) : s_all ws (i :: is) (x :: xs) := ⟨h, t⟩
theorem s_map {ws : va_W} : ∀ {is : List Nat} {xs : va_W}, s_all ws is xs → is.map (fun i => ws[i]?) = xs.map some
  | [], [], _ => rfl
  | _ :: _, _ :: _, h => by rw [List.map_cons, List.map_cons, h.1, s_map h.2]
  | [], _ :: _, h => h.elim
  | _ :: _, [], h => h.elim
end
section
noncomputable def sOrd : List (Nat × Nat) := [(0, 0), (5, 0), (1, 0), (13, 0), (29, 0), (29, 1), (29, 2), (29, 3), (29, 4), (29, 5), (14, 0), (2, 0), (15, 0), (30, 0), (30, 1), (30, 2), (30, 3), (16, 0), (3, 0), (4, 5), (18, 5), (19, 5), (20, 5), (21, 5), (7, 5), (23, 5), (22, 5), (17, 0), (4, 0), (18, 0), (19, 0), (20, 0), (21, 0), (7, 0), (23, 0), (22, 0), (4, 1), (18, 1), (19, 1), (20, 1), (21, 1), (7, 1), (23, 1), (22, 1), (6, 0), (7, 6), (23, 6), (8, 0), (24, 0), (25, 0), (25, 1), (25, 2), (25, 3), (25, 4), (25, 5), (25, 6), (9, 0), (26, 0), (27, 0), (28, 0), (7, 7), (23, 7), (7, 8), (23, 8), (7, 9), (23, 9), (7, 10), (23, 10), (10, 0), (11, 0), (12, 0), (4, 2), (18, 2), (19, 2), (20, 2), (21, 2), (7, 2), (23, 2), (22, 2), (4, 3), (18, 3), (19, 3), (20, 3), (21, 3), (7, 3), (23, 3), (22, 3), (4, 4), (18, 4), (19, 4), (20, 4), (21, 4), (7, 4), (23, 4), (22, 4), (31, 0), (32, 0), (33, 0), (34, 0), (35, 0), (36, 0), (37, 0), (38, 0), (39, 0), (40, 0), (41, 0)]
theorem s_perm {F : Nat × Nat → Nat × va_E} {ord jc : List (Nat × Nat)} {is : List Nat} (h : is.map (fun i => ord[i]?) = jc.map some) : is.map (fun i => (ord.map F)[i]?) = (jc.map F).map some := by
  have h2 : (is.map (fun i => ord[i]?)).map (Option.map F) = (jc.map some).map (Option.map F) := by rw [h]
  rw [List.map_map, List.map_map] at h2
  rw [List.map_map]
  refine Eq.trans ?_ (h2.trans ?_)
  · apply List.map_congr_left
    intro i _
    simp
  · rfl
noncomputable def wA (cy : Nat → ClassId) (q1 q2 : Nat) (a1 a2 : Nat → Nat) : va_W := [(q1, .inr (6, [.ref (a1 0), .ref (a1 1), .ref (a1 2), .ref (a1 3), .ref (a1 4), .ref (a1 5), .ref (a1 6), .ref (a1 7), .ref (a1 8), .ref (a1 9), .ref (a1 10), .ref (a1 11), .ref (a1 12), .int 0, .int 0, .long 0, .long 1])), (a1 5, .inl (cy 3, 3, .inr (.inr (.inr (.inr (fun j => some (([a1 13, a1 14, a1 15] : List Nat).getD j 0))))))), (a1 0, .inr (5, [.ref (a1 20), .ref (a1 21)])), (a1 20, .inl (cy 5, 6, .inr (.inr (.inr (.inr (fun j => some (a1 20 + 1 + j))))))), (a1 20 + 1 + 0, .inl (cy 0, 40, .inl (fun _ => 0))), (a1 20 + 1 + 1, .inl (cy 0, 40, .inl (fun _ => 0))), (a1 20 + 1 + 2, .inl (cy 0, 40, .inl (fun _ => 0))), (a1 20 + 1 + 3, .inl (cy 0, 40, .inl (fun _ => 0))), (a1 20 + 1 + 4, .inl (cy 0, 40, .inl (fun _ => 0))), (a1 20 + 1 + 5, .inl (cy 0, 40, .inl (fun _ => 0))), (a1 21, .inl (cy 0, 6, .inl (fun j => if j < 6 then (-1) else 0))), (a1 1, .inr (5, [.ref (a1 25), .ref (a1 26)])), (a1 25, .inl (cy 5, 4, .inr (.inr (.inr (.inr (fun j => some (a1 25 + 1 + j))))))), (a1 25 + 1 + 0, .inl (cy 0, 60, .inl (fun _ => 0))), (a1 25 + 1 + 1, .inl (cy 0, 60, .inl (fun _ => 0))), (a1 25 + 1 + 2, .inl (cy 0, 60, .inl (fun _ => 0))), (a1 25 + 1 + 3, .inl (cy 0, 60, .inl (fun _ => 0))), (a1 26, .inl (cy 0, 4, .inl (fun j => if j < 4 then (-1) else 0))), (a1 2, .inr (4, [.ref (a1 30), .ref (a1 31), .int 0, .int 0, .int (-9)])), (a1 30, .inr (1, [.ref (a1 32), .ref (a1 33), .ref (a1 34), .ref (a1 35), .ref (a1 36), .ref (a1 38), .int 0, .int 0, .int 0, .int 0, .int 0, .int 0, .int 0, .int 0, .int 0, .int 0])), (a1 32, .inl (cy 0, 6, .inl (fun _ => 0))), (a1 33, .inl (cy 0, 6, .inl (fun _ => 0))), (a1 34, .inl (cy 0, 6, .inl (fun _ => 0))), (a1 35, .inl (cy 0, 6, .inl (fun _ => 0))), (a1 36, .inr (2, [.ref (a1 37)])), (a1 37, .inl (cy 0, 10, .inl (fun _ => 0))), (a1 38, .inl (cy 0, 40, .inl (fun _ => 0))), (a1 31, .inl (cy 0, 60, .inl (fun _ => 0))), (a1 3, .inr (1, [.ref (a1 40), .ref (a1 41), .ref (a1 42), .ref (a1 43), .ref (a1 44), .ref (a1 46), .int 0, .int 0, .int 0, .int 0, .int 0, .int 0, .int 0, .int 0, .int 0, .int 0])), (a1 40, .inl (cy 0, 6, .inl (fun _ => 0))), (a1 41, .inl (cy 0, 6, .inl (fun _ => 0))), (a1 42, .inl (cy 0, 6, .inl (fun _ => 0))), (a1 43, .inl (cy 0, 6, .inl (fun _ => 0))), (a1 44, .inr (2, [.ref (a1 45)])), (a1 45, .inl (cy 0, 10, .inl (fun _ => 0))), (a1 46, .inl (cy 0, 40, .inl (fun _ => 0))), (a1 4, .inr (1, [.ref (a1 50), .ref (a1 51), .ref (a1 52), .ref (a1 53), .ref (a1 54), .ref (a1 56), .int 0, .int 0, .int 0, .int 0, .int 0, .int 0, .int 0, .int 0, .int 0, .int 0])), (a1 50, .inl (cy 0, 6, .inl (fun _ => 0))), (a1 51, .inl (cy 0, 6, .inl (fun _ => 0))), (a1 52, .inl (cy 0, 6, .inl (fun _ => 0))), (a1 53, .inl (cy 0, 6, .inl (fun _ => 0))), (a1 54, .inr (2, [.ref (a1 55)])), (a1 55, .inl (cy 0, 10, .inl (fun _ => 0))), (a1 56, .inl (cy 0, 40, .inl (fun _ => 0))), (a1 6, .inl (cy 2, 3, .inl (fun _ => 0))), (a1 7, .inr (2, [.ref (a1 90)])), (a1 90, .inl (cy 0, 10, .inl (fun _ => 0))), (a1 8, .inr (0, [.ref (a1 92)])), (a1 92, .inl (cy 5, 7, .inr (.inr (.inr (.inr (fun j => some (a1 92 + 1 + j))))))), (a1 92 + 1 + 0, .inl (cy 0, 31, .inl (fun _ => 0))), (a1 92 + 1 + 1, .inl (cy 0, 31, .inl (fun _ => 0))), (a1 92 + 1 + 2, .inl (cy 0, 31, .inl (fun _ => 0))), (a1 92 + 1 + 3, .inl (cy 0, 31, .inl (fun _ => 0))), (a1 92 + 1 + 4, .inl (cy 0, 31, .inl (fun _ => 0))), (a1 92 + 1 + 5, .inl (cy 0, 31, .inl (fun _ => 0))), (a1 92 + 1 + 6, .inl (cy 0, 31, .inl (fun _ => 0))), (a1 9, .inr (3, [.ref (a1 95), .ref (a1 96), .ref (a1 97), .int 0, .int 1000000, .int 1000000])), (a1 95, .inl (cy 4, 4, .inr (.inr (.inr (.inr (fun j => some (([a1 98, a1 99, a1 100, a1 101] : List Nat).getD j 0))))))), (a1 96, .inl (cy 0, 3, .inl (fun _ => 0))), (a1 97, .inl (cy 0, 3, .inl (fun _ => 0))), (a1 98, .inr (2, [.ref (a1 102)])), (a1 102, .inl (cy 0, 10, .inl (fun _ => 0))), (a1 99, .inr (2, [.ref (a1 103)])), (a1 103, .inl (cy 0, 10, .inl (fun _ => 0))), (a1 100, .inr (2, [.ref (a1 104)])), (a1 104, .inl (cy 0, 10, .inl (fun _ => 0))), (a1 101, .inr (2, [.ref (a1 105)])), (a1 105, .inl (cy 0, 10, .inl (fun _ => 0))), (a1 10, .inl (cy 0, 6, .inl (fun _ => 0))), (a1 11, .inl (cy 1, 55, .inr (.inl (fun _ => 0)))), (a1 12, .inl (cy 0, 6, .inl (fun _ => 0))), (a1 13, .inr (1, [.ref (a1 60), .ref (a1 61), .ref (a1 62), .ref (a1 63), .ref (a1 64), .ref (a1 66), .int 0, .int 0, .int 0, .int 0, .int 0, .int 0, .int 0, .int 0, .int 0, .int 0])), (a1 60, .inl (cy 0, 6, .inl (fun _ => 0))), (a1 61, .inl (cy 0, 6, .inl (fun _ => 0))), (a1 62, .inl (cy 0, 6, .inl (fun _ => 0))), (a1 63, .inl (cy 0, 6, .inl (fun _ => 0))), (a1 64, .inr (2, [.ref (a1 65)])), (a1 65, .inl (cy 0, 10, .inl (fun _ => 0))), (a1 66, .inl (cy 0, 40, .inl (fun _ => 0))), (a1 14, .inr (1, [.ref (a1 70), .ref (a1 71), .ref (a1 72), .ref (a1 73), .ref (a1 74), .ref (a1 76), .int 0, .int 0, .int 0, .int 0, .int 0, .int 0, .int 0, .int 0, .int 0, .int 0])), (a1 70, .inl (cy 0, 6, .inl (fun _ => 0))), (a1 71, .inl (cy 0, 6, .inl (fun _ => 0))), (a1 72, .inl (cy 0, 6, .inl (fun _ => 0))), (a1 73, .inl (cy 0, 6, .inl (fun _ => 0))), (a1 74, .inr (2, [.ref (a1 75)])), (a1 75, .inl (cy 0, 10, .inl (fun _ => 0))), (a1 76, .inl (cy 0, 40, .inl (fun _ => 0))), (a1 15, .inr (1, [.ref (a1 80), .ref (a1 81), .ref (a1 82), .ref (a1 83), .ref (a1 84), .ref (a1 86), .int 0, .int 0, .int 0, .int 0, .int 0, .int 0, .int 0, .int 0, .int 0, .int 0])), (a1 80, .inl (cy 0, 6, .inl (fun _ => 0))), (a1 81, .inl (cy 0, 6, .inl (fun _ => 0))), (a1 82, .inl (cy 0, 6, .inl (fun _ => 0))), (a1 83, .inl (cy 0, 6, .inl (fun _ => 0))), (a1 84, .inr (2, [.ref (a1 85)])), (a1 85, .inl (cy 0, 10, .inl (fun _ => 0))), (a1 86, .inl (cy 0, 40, .inl (fun _ => 0))), (q2, .inr (7, [.ref (a2 0), .int 0, .int 0, .int 0, .ref (a2 1), .ref (a2 2), .ref (a2 3), .ref (a2 4), .ref (a2 5), .ref (a2 6), .int 0, .long 0, .long 1, .int 0, .ref (a2 7), .int 0, .int 0, .int 0, .int 0, .int 0, .ref (a2 8), .int 0, .ref (a2 9)])), (a2 0, .inl (cy 0, 4625, .inl (upd (upd (upd (fun _ => 0) 1149 (-1)) 2298 (-1)) 3447 (-1)))), (a2 1, .inl (cy 0, 6, .inl (fun _ => 0))), (a2 2, .inl (cy 0, 6, .inl (fun _ => 0))), (a2 3, .inl (cy 0, 6, .inl (upd (upd (upd (upd (upd (upd (fun _ => 0) 0 (-1)) 1 (-1)) 2 (-1)) 3 (-1)) 4 (-1)) 5 (-1)))), (a2 4, .inl (cy 0, 240, .inl (fun _ => 0))), (a2 5, .inl (cy 0, 4, .inl (upd (upd (upd (upd (fun _ => 0) 0 (-1)) 1 (-1)) 2 (-1)) 3 (-1)))), (a2 6, .inl (cy 0, 240, .inl (fun _ => 0))), (a2 7, .inl (cy 0, 6, .inl (fun _ => 0))), (a2 8, .inl (cy 0, 24, .inl (fun _ => 0))), (a2 9, .inl (cy 0, 18, .inl (fun _ => 0)))]
noncomputable def wB (cy : Nat → ClassId) (q1 q2 t b : Nat) (a1 a2 : Nat → Nat) : va_W := [(q1, .inr (6, [.ref (a1 0), .ref (a1 1), .ref (a1 2), .ref (a1 3), .ref (a1 4), .ref (a1 5), .ref (a1 6), .ref (a1 7), .ref (a1 8), .ref (a1 9), .ref (a1 10), .ref (a1 11), .ref (a1 12), .int 0, .int 0, .long 0, .long 1])), (a1 5, .inl (cy 3, 3, .inr (.inr (.inr (.inr (fun j => some (sR q1 q2 t b a1 a2 4 (2 + j)))))))), (a1 0, .inr (5, [.ref (a1 20), .ref (a1 21)])), (a1 20, .inl (cy 5, 6, .inr (.inr (.inr (.inr (fun j => some (a1 20 + 1 + j))))))), (a1 20 + 1 + 0, .inl (cy 0, 40, .inl (fun _ => 0))), (a1 20 + 1 + 1, .inl (cy 0, 40, .inl (fun _ => 0))), (a1 20 + 1 + 2, .inl (cy 0, 40, .inl (fun _ => 0))), (a1 20 + 1 + 3, .inl (cy 0, 40, .inl (fun _ => 0))), (a1 20 + 1 + 4, .inl (cy 0, 40, .inl (fun _ => 0))), (a1 20 + 1 + 5, .inl (cy 0, 40, .inl (fun _ => 0))), (a1 21, .inl (cy 0, 6, .inl (fun j => if j < 6 then (-1) else 0))), (a1 1, .inr (5, [.ref (a1 25), .ref (a1 26)])), (a1 25, .inl (cy 5, 4, .inr (.inr (.inr (.inr (fun j => some (a1 25 + 1 + j))))))), (a1 25 + 1 + 0, .inl (cy 0, 60, .inl (fun _ => 0))), (a1 25 + 1 + 1, .inl (cy 0, 60, .inl (fun _ => 0))), (a1 25 + 1 + 2, .inl (cy 0, 60, .inl (fun _ => 0))), (a1 25 + 1 + 3, .inl (cy 0, 60, .inl (fun _ => 0))), (a1 26, .inl (cy 0, 4, .inl (fun j => if j < 4 then (-1) else 0))), (a1 2, .inr (4, [.ref (a1 30), .ref (a1 31), .int 0, .int 0, .int (-9)])), (a1 30, .inr (1, [.ref (a1 32), .ref (a1 33), .ref (a1 34), .ref (a1 35), .ref (a1 36), .ref (a1 38), .int 0, .int 0, .int 0, .int 0, .int 0, .int 0, .int 0, .int 0, .int 0, .int 0])), (a1 32, .inl (cy 0, 6, .inl (fun _ => 0))), (a1 33, .inl (cy 0, 6, .inl (fun _ => 0))), (a1 34, .inl (cy 0, 6, .inl (fun _ => 0))), (a1 35, .inl (cy 0, 6, .inl (fun _ => 0))), (a1 36, .inr (2, [.ref (a1 37)])), (a1 37, .inl (cy 0, 10, .inl (fun _ => 0))), (a1 38, .inl (cy 0, 40, .inl (fun _ => 0))), (a1 31, .inl (cy 0, 60, .inl (fun _ => 0))), (a1 3, .inr (1, [.ref (a1 40), .ref (a1 41), .ref (a1 42), .ref (a1 43), .ref (a1 44), .ref (a1 46), .int 0, .int 0, .int 0, .int 0, .int 0, .int 0, .int 0, .int 0, .int 0, .int 0])), (a1 40, .inl (cy 0, 6, .inl (fun _ => 0))), (a1 41, .inl (cy 0, 6, .inl (fun _ => 0))), (a1 42, .inl (cy 0, 6, .inl (fun _ => 0))), (a1 43, .inl (cy 0, 6, .inl (fun _ => 0))), (a1 44, .inr (2, [.ref (a1 45)])), (a1 45, .inl (cy 0, 10, .inl (fun _ => 0))), (a1 46, .inl (cy 0, 40, .inl (fun _ => 0))), (a1 4, .inr (1, [.ref (a1 50), .ref (a1 51), .ref (a1 52), .ref (a1 53), .ref (a1 54), .ref (a1 56), .int 0, .int 0, .int 0, .int 0, .int 0, .int 0, .int 0, .int 0, .int 0, .int 0])), (a1 50, .inl (cy 0, 6, .inl (fun _ => 0))), (a1 51, .inl (cy 0, 6, .inl (fun _ => 0))), (a1 52, .inl (cy 0, 6, .inl (fun _ => 0))), (a1 53, .inl (cy 0, 6, .inl (fun _ => 0))), (a1 54, .inr (2, [.ref (a1 55)])), (a1 55, .inl (cy 0, 10, .inl (fun _ => 0))), (a1 56, .inl (cy 0, 40, .inl (fun _ => 0))), (a1 6, .inl (cy 2, 3, .inl (fun _ => 0))), (a1 7, .inr (2, [.ref (a1 90)])), (a1 90, .inl (cy 0, 10, .inl (fun _ => 0))), (a1 8, .inr (0, [.ref (a1 92)])), (a1 92, .inl (cy 5, 7, .inr (.inr (.inr (.inr (fun j => some (a1 92 + 1 + j))))))), (a1 92 + 1 + 0, .inl (cy 0, 31, .inl (fun _ => 0))), (a1 92 + 1 + 1, .inl (cy 0, 31, .inl (fun _ => 0))), (a1 92 + 1 + 2, .inl (cy 0, 31, .inl (fun _ => 0))), (a1 92 + 1 + 3, .inl (cy 0, 31, .inl (fun _ => 0))), (a1 92 + 1 + 4, .inl (cy 0, 31, .inl (fun _ => 0))), (a1 92 + 1 + 5, .inl (cy 0, 31, .inl (fun _ => 0))), (a1 92 + 1 + 6, .inl (cy 0, 31, .inl (fun _ => 0))), (a1 9, .inr (3, [.ref (a1 95), .ref (a1 96), .ref (a1 97), .int 0, .int 1000000, .int 1000000])), (a1 95, .inl (cy 4, 4, .inr (.inr (.inr (.inr (fun j => some (sR q1 q2 t b a1 a2 7 (7 + j)))))))), (a1 96, .inl (cy 0, 3, .inl (fun _ => 0))), (a1 97, .inl (cy 0, 3, .inl (fun _ => 0))), (a1 98, .inr (2, [.ref (a1 102)])), (a1 102, .inl (cy 0, 10, .inl (fun _ => 0))), (a1 99, .inr (2, [.ref (a1 103)])), (a1 103, .inl (cy 0, 10, .inl (fun _ => 0))), (a1 100, .inr (2, [.ref (a1 104)])), (a1 104, .inl (cy 0, 10, .inl (fun _ => 0))), (a1 101, .inr (2, [.ref (a1 105)])), (a1 105, .inl (cy 0, 10, .inl (fun _ => 0))), (a1 10, .inl (cy 0, 6, .inl (fun _ => 0))), (a1 11, .inl (cy 1, 55, .inr (.inl (fun _ => 0)))), (a1 12, .inl (cy 0, 6, .inl (fun _ => 0))), (a1 13, .inr (1, [.ref (a1 60), .ref (a1 61), .ref (a1 62), .ref (a1 63), .ref (a1 64), .ref (a1 66), .int 0, .int 0, .int 0, .int 0, .int 0, .int 0, .int 0, .int 0, .int 0, .int 0])), (a1 60, .inl (cy 0, 6, .inl (fun _ => 0))), (a1 61, .inl (cy 0, 6, .inl (fun _ => 0))), (a1 62, .inl (cy 0, 6, .inl (fun _ => 0))), (a1 63, .inl (cy 0, 6, .inl (fun _ => 0))), (a1 64, .inr (2, [.ref (a1 65)])), (a1 65, .inl (cy 0, 10, .inl (fun _ => 0))), (a1 66, .inl (cy 0, 40, .inl (fun _ => 0))), (a1 14, .inr (1, [.ref (a1 70), .ref (a1 71), .ref (a1 72), .ref (a1 73), .ref (a1 74), .ref (a1 76), .int 0, .int 0, .int 0, .int 0, .int 0, .int 0, .int 0, .int 0, .int 0, .int 0])), (a1 70, .inl (cy 0, 6, .inl (fun _ => 0))), (a1 71, .inl (cy 0, 6, .inl (fun _ => 0))), (a1 72, .inl (cy 0, 6, .inl (fun _ => 0))), (a1 73, .inl (cy 0, 6, .inl (fun _ => 0))), (a1 74, .inr (2, [.ref (a1 75)])), (a1 75, .inl (cy 0, 10, .inl (fun _ => 0))), (a1 76, .inl (cy 0, 40, .inl (fun _ => 0))), (a1 15, .inr (1, [.ref (a1 80), .ref (a1 81), .ref (a1 82), .ref (a1 83), .ref (a1 84), .ref (a1 86), .int 0, .int 0, .int 0, .int 0, .int 0, .int 0, .int 0, .int 0, .int 0, .int 0])), (a1 80, .inl (cy 0, 6, .inl (fun _ => 0))), (a1 81, .inl (cy 0, 6, .inl (fun _ => 0))), (a1 82, .inl (cy 0, 6, .inl (fun _ => 0))), (a1 83, .inl (cy 0, 6, .inl (fun _ => 0))), (a1 84, .inr (2, [.ref (a1 85)])), (a1 85, .inl (cy 0, 10, .inl (fun _ => 0))), (a1 86, .inl (cy 0, 40, .inl (fun _ => 0))), (q2, .inr (7, [.ref (a2 0), .int 0, .int 0, .int 0, .ref (a2 1), .ref (a2 2), .ref (a2 3), .ref (a2 4), .ref (a2 5), .ref (a2 6), .int 0, .long 0, .long 1, .int 0, .ref (a2 7), .int 0, .int 0, .int 0, .int 0, .int 0, .ref (a2 8), .int 0, .ref (a2 9)])), (a2 0, .inl (cy 0, 4625, .inl (upd (upd (upd (fun _ => 0) 1149 (-1)) 2298 (-1)) 3447 (-1)))), (a2 1, .inl (cy 0, 6, .inl (fun _ => 0))), (a2 2, .inl (cy 0, 6, .inl (fun _ => 0))), (a2 3, .inl (cy 0, 6, .inl (upd (upd (upd (upd (upd (upd (fun _ => 0) 0 (-1)) 1 (-1)) 2 (-1)) 3 (-1)) 4 (-1)) 5 (-1)))), (a2 4, .inl (cy 0, 240, .inl (fun _ => 0))), (a2 5, .inl (cy 0, 4, .inl (upd (upd (upd (upd (fun _ => 0) 0 (-1)) 1 (-1)) 2 (-1)) 3 (-1)))), (a2 6, .inl (cy 0, 240, .inl (fun _ => 0))), (a2 7, .inl (cy 0, 6, .inl (fun _ => 0))), (a2 8, .inl (cy 0, 24, .inl (fun _ => 0))), (a2 9, .inl (cy 0, 18, .inl (fun _ => 0)))]
set_option maxHeartbeats 4000000 in
set_option maxRecDepth 100000 in
theorem s_wA (cy : Nat → ClassId) (q1 q2 : Nat) (a1 a2 : Nat → Nat) : bMain cy q1 a1 ++ bModel cy q2 a2 = wA cy q1 q2 a1 a2 := by
  simp only [bMain, bModel, bRows6, bRows4, bReader, bHouse, bBasket, bPlanner, bLarder, cGrid, List.cons_append, List.nil_append, List.range, List.range.loop, List.map]
  rfl
end
section
set_option maxHeartbeats 4000000 in
set_option maxRecDepth 100000 in
theorem s_wB (cy : Nat → ClassId) (q1 q2 t b : Nat) (a1 a2 : Nat → Nat) : sOrd.map (fun x => (sR q1 q2 t b a1 a2 x.1 x.2, jce cy (sR q1 q2 t b a1 a2) (sI, sL) x)) = wB cy q1 q2 t b a1 a2 := rfl
end
section
set_option maxHeartbeats 4000000 in
set_option maxRecDepth 100000 in
theorem s_world {dC : Nat → ClassId} {dI : Nat → Nat → Nat} {cy : Nat → ClassId} {A : Nat → Prop} {H0 H : Heap} {locs : List Loc} {q1 q2 : Nat} (t b : Nat) {a1 a2 : Nat → Nat} (hw : cWd dC dI A H0 H locs (bMain cy q1 a1 ++ bModel cy q2 a2)) : jWd dC dI cy (sR q1 q2 t b a1 a2) A H0 H locs (sI, sL) := by
  rw [s_wA] at hw
  have hw := c_cellG 1 (fun j => some (sR q1 q2 t b a1 a2 4 (2 + j))) rfl (fun j hj => by
    have : j = 0 ∨ j = 1 ∨ j = 2 := by omega
    rcases this with rfl | rfl | rfl <;> rfl) hw
  have hw := c_cellG 57 (fun j => some (sR q1 q2 t b a1 a2 7 (7 + j))) rfl (fun j hj => by
    have : j = 0 ∨ j = 1 ∨ j = 2 ∨ j = 3 := by omega
    rcases this with rfl | rfl | rfl | rfl <;> rfl) hw
  have hw : cWd dC dI A H0 H locs (wB cy q1 q2 t b a1 a2) := hw
  rw [← s_wB] at hw
  exact c_mem hw sIx (by decide +kernel) (by unfold jws; rw [s_cells]; exact s_perm (by decide +kernel))
end
section
theorem s_RT : RT sI := by
  refine ⟨fun t ht => ?_, fun _ _ _ _ => rfl⟩
  have : t = 0 ∨ t = 1 ∨ t = 2 ∨ t = 3 := by omega
  rcases this with e | e | e | e <;> subst e <;> rfl
theorem s_32 {j : Nat} (h : j < 1149) : sI 32 0 j = 0 := by
  show (upd (upd (upd (fun _ => (0 : Int32)) 1149 (-1)) 2298 (-1)) 3447 (-1)) j = 0
  unfold upd
  rw [if_neg (by omega), if_neg (by omega), if_neg (by omega)]
theorem s_RD : RD2 sI sI := by
  have p0 : mP sI = 0 := rfl
  have d0 : ∀ h, dN sI h = 0 := fun _ => rfl
  have vc : vC 0 sI 1 = vC 0 sI 0 := rfl
  have vz : ∀ k, vC 0 sI 0 k = 0 := fun k => by
    by_cases c : k < 6
    · rw [vC_f c]; rfl
    · by_cases d : k < 16
      · obtain ⟨j, rfl⟩ : ∃ j, k = 6 + j := ⟨k - 6, by omega⟩
        rw [vC_l (by omega)]; rfl
      · exact vC_n (fun z => by rcases z with z | z | z <;> omega)
  have vm : vM 0 sI 1 = vC 0 sI 0 := by
    funext k
    rw [vz]
    by_cases c : vK 0 k
    · rw [vM_k c]
      have : k < 16 := by rcases c with c | c | c <;> omega
      exact s_32 (by omega)
    · exact vM_n c
  have lk : lOK 0 0 (vC 0 sI 0) := by
    refine ⟨fun k hk => by rw [vz]; decide, ?_, fun i hi => absurd hi (Nat.not_lt_zero i), by rw [vz]; decide, by rw [vz]; decide⟩
    refine Int.le_trans (smI_le 10 (lrd (vC 0 sI 0)) (fun _ => 0) 0 (fun j _ b => ?_)) (by decide)
    show (vC 0 sI 0 (6 + j)).toInt ≤ _
    rw [vz]
    exact Int.le_refl _
  refine ⟨⟨fun j _ _ => rfl, fun j _ => rfl⟩, ⟨rfl, rfl, rfl⟩, fun i hi => absurd hi (Nat.not_lt_zero i), fun hz => absurd hz (Nat.lt_irrefl 0), ⟨by decide, by decide⟩, ?_, fun k hk => ⟨fun _ => ?_, fun z => absurd rfl z⟩⟩
  · rw [p0]
    refine ⟨⟨fun _ _ _ => rfl, fun _ _ => ⟨rfl, rfl⟩⟩, rfl, fun d hd => absurd hd (Nat.not_lt_zero d), fun d hd => ?_, fun d hd => absurd hd (Nat.not_lt_zero d), ?_, ?_⟩
    · have : d = 0 := Nat.le_zero.mp hd
      subst this
      exact lk
    · exact vm
    · exact vc
  · have : k = 0 ∨ k = 1 ∨ k = 2 := by omega
    rcases this with rfl | rfl | rfl <;> rfl
theorem s_RR : RR sI sI := by
  refine ⟨fun r hr => ?_, fun r j _ _ => rfl⟩
  have : r = 0 ∨ r = 1 ∨ r = 2 ∨ r = 3 ∨ r = 4 ∨ r = 5 := by omega
  rcases this with e | e | e | e | e | e <;> subst e <;> rfl
theorem s_RF : RFi sI sI := ⟨rfl, fun _ _ => rfl⟩
theorem s_lR : lR sI sL := ⟨s_RT, s_RD, s_RR, s_RF⟩
end
