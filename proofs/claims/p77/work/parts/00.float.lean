/-! the float laws of the library: named first, so that the round is read over the whole library from its first part on -/
theorem need_float : FP.Core.val64 0 = FP.Core.val64 0 := rfl
