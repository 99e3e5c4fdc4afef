/-! ===== the whole library is wanted ===== -/
theorem zw0 : True := (fun _ => trivial) @Jvm.Cond.among
theorem zw1 : True := (fun _ => trivial) @Jvm.Free.Multi.outerC
