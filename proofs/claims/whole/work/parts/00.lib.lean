/-! the whole of the library is wanted from the first part on (11.wa takes rows of it) -/
theorem zz_lib : True := have _ := @Jvm.Free.Multi.fill_facts; trivial
