/-- names of the whole library: so every round is read over the whole of it -/
theorem lib_tails (f : Jvm.FP.Core.Fmt) : 0 < f.tails := Jvm.FP.Core.tails_pos f
theorem lib_exps (f : Jvm.FP.Core.Fmt) : 0 < f.exps := Jvm.FP.Core.exps_pos f
theorem lib_ft (f : Jvm.FP.Core.Fmt) (n : Nat) : Jvm.FP.Core.fieldT f n < f.tails := Jvm.FP.Core.fieldT_lt f n
theorem lib_fe (f : Jvm.FP.Core.Fmt) (n : Nat) : Jvm.FP.Core.fieldE f n < f.exps := Jvm.FP.Core.fieldE_lt f n
theorem lib_al : True := by
  have := @Jvm.FP.Core.assemble_lt
  trivial
theorem lib_ad : True := by
  have := @Jvm.FP.Core.assemble_div
  trivial
theorem lib_af : True := by
  have := @Jvm.FP.Core.assemble_fields
  trivial
theorem lib_as : True := by
  have := @Jvm.FP.Core.fieldS_assemble
  trivial
