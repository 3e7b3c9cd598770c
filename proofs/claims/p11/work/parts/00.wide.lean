/-! the rows below rest on the library's law of arrays of arrays: this names it at once, so that the first round is read over the whole library from its first part on -/
theorem w0_wide (c : ClassId) : Jvm.Free.Multi.outerC c 0 0 0 = Jvm.Free.Multi.outerC c 0 0 0 := rfl
