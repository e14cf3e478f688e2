/-! the relation that the law's loop keeps -/
noncomputable def lR (I : jI) (L : jL) : Prop := RT I ∧ RD2 I I ∧ RLo L L
theorem lR_gR {W : List aR} {I I' : jI} {L L' : jL} (hw : rApart W rtW = true) (hw' : rApart W (rdC ++ rdM) = true) (h1 : rApart W rlC = true) (h2 : rApart W rlM = true) (hG : gG aGI I) (hR : lR I L) (h : gR W I L I' L') : lR I' L' := ⟨RT_gR hw hR.1 h, RD_gR hw' hG hR.2.1 h, RL_gR h1 h2 hR.2.2 h⟩
