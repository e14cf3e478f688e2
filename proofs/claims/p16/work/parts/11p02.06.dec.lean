/-- J6_compare_7cf53 -/
noncomputable def d0 (a0 : Int32) (a1 : Int32) (I : jI) : Int32 :=
  if a1 ≤ a0 then
    if a0 = a1 then
      0
    else
      1
  else
    (-1)
