/-! the relation that the law's loop keeps -/
def lR (I : jI) (_ : jL) : Prop := RT I
