/-! ===== the whole library is wanted ===== -/
theorem zw0 : True := (fun _ => trivial) @Jvm.Cond.among
