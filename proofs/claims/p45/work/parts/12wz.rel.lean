/-! the relation that the law's loop keeps -/
noncomputable def lR (I : jI) (_ : jL) : Prop := RT I ∧ RD2 I I ∧ RR I I ∧ RFi I I
theorem lR_gR {W : List aR} {I I' : jI} {L L' : jL} (hw : rApart W rtW = true) (hw' : rApart W (rdC ++ rdM) = true) (h1 : rApart W rrC = true) (h2 : rApart W rrM = true) (h3 : rApart W rfC = true) (h4 : rApart W rfM = true) (hG : gG aGI I) (hR : lR I L) (h : gR W I L I' L') : lR I' L' := ⟨RT_gR hw hR.1 h, RD_gR hw' hG hR.2.1 h, RR_gR h1 h2 hR.2.2.1 h, RF_gR h3 h4 hR.2.2.2 h⟩
