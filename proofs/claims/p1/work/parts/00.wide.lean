/-- the rows on exceptions name laws of the rest of the library: this one has the claim read over the whole of it -/
theorem vx_wide : True := (fun _ => trivial) (@Jvm.Stand.thenCaughtThrough)
