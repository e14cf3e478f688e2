/-! a name of the library's rest, first of all: the round turns to the whole library at once -/
theorem ww_outer (c : ClassId) (N h0 : Nat) : Jvm.Free.Multi.outerC c N h0 0 = Jvm.Free.Multi.outerC c N h0 0 := rfl
