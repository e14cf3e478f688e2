/-! the relation that the law's loop keeps -/
noncomputable def lR (I : jI) (_ : jL) : Prop := RT I ∧ RD2 I I
theorem lR_gR {W : List aR} {I I' : jI} {L L' : jL} (hw : rApart W rtW = true) (hw' : rApart W (rdC ++ rdM) = true) (hG : gG aGI I) (hR : lR I L) (h : gR W I L I' L') : lR I' L' := ⟨RT_gR hw hR.1 h, RD_gR hw' hG hR.2 h⟩
