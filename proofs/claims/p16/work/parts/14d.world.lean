set_option maxHeartbeats 4000000 in
set_option maxRecDepth 100000 in
theorem s_world {dC : Nat → ClassId} {dI : Nat → Nat → Nat} {cy : Nat → ClassId} {A : Nat → Prop} {H0 H : Heap} {locs : List Loc} {q1 q2 : Nat} (t b : Nat) {a1 a2 : Nat → Nat} (hw : cWd dC dI A H0 H locs (bMain cy q1 a1 ++ bModel cy q2 a2)) : jWd dC dI cy (sR q1 q2 t b a1 a2) A H0 H locs (sI, sL) := by
  rw [s_wA] at hw
  have hw := c_cellG 1 (fun j => some (sR q1 q2 t b a1 a2 4 (2 + j))) rfl (fun j hj => by
    have : j = 0 ∨ j = 1 ∨ j = 2 := by omega
    rcases this with rfl | rfl | rfl <;> rfl) hw
  have hw := c_cellG 57 (fun j => some (sR q1 q2 t b a1 a2 7 (7 + j))) rfl (fun j hj => by
    have : j = 0 ∨ j = 1 ∨ j = 2 ∨ j = 3 := by omega
    rcases this with rfl | rfl | rfl | rfl <;> rfl) hw
  have hw : cWd dC dI A H0 H locs (wB cy q1 q2 t b a1 a2) := hw
  rw [← s_wB] at hw
  exact c_mem hw sIx (by decide +kernel) (by unfold jws; rw [s_cells]; exact s_perm (by decide +kernel))
