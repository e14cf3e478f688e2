/-! the answers of row and text, by their arguments alone -/
noncomputable def eA (R N : Int) (r n : Int32) : Int32 := if r.toInt < 0 then -1 else if R < r.toInt then -1 else if N < n.toInt then -1 else if n.toInt < 0 then -3 else n
theorem lw_ix {i c : Int32} {N : Nat} (hi0 : 0 ≤ i.toInt) (hi : i.toInt + 6 ≤ (N : Int)) (hN : N ≤ 384) (h0 : 0 ≤ c.toInt) (h5 : c.toInt ≤ 5) : vp_in (i + c) N := by
  have e : (i + c).toInt = i.toInt + c.toInt := i32_add (by omega)
  exact vp_in_iff.mpr (by omega)
