/-! a name of the wide library, so that a round goes over it from its first part -/
theorem z_wide (c : ClassId) (N h0 i : Nat) : Jvm.Free.Multi.outerC c N h0 i = Jvm.Free.Multi.outerC c N h0 i := rfl
