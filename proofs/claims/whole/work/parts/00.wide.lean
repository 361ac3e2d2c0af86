/-- a name of the whole library: so every round is read over the whole of it -/
theorem lib_tails (f : Jvm.FP.Core.Fmt) : 0 < f.tails := Jvm.FP.Core.tails_pos f
