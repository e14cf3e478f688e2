section
noncomputable def gI1 (I : jI) (m : Nat) (i : Nat) : Int := if i < m then (gotS (I 18 1 i) (I 19 1 i)).toInt else 0
end
section
/-! weeks, waste: plans as numbers -/
noncomputable def dgp (p x k : Nat) : Nat := x / p ^ k % p
end
section
noncomputable def chv (a : Nat) : Int32 := if a = 0 then -9 else nI (a - 1)
noncomputable def cls (S : jI) (p n : Nat) (q : Int × Int × Int) : Prop := (S 9 0 4).toInt = q.1 ∧ (S 9 0 5).toInt = q.2.1 ∧ (q.2.2 = -9 ∨ ∃ x : Nat, q.2.2 = (x : Int) ∧ ∀ j, j < n → S 28 0 j = chv (dgp p x (n - 1 - j)))
end
