/-! a name of the library's rest: this claim is read over the whole of it -/
theorem wd_ : True := by
  have h := @Jvm.Free.Cc.strBytes_length
  trivial
