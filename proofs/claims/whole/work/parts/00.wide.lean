/-! a name of the library's rest, by its whole name: the rounds are read over the whole library from here on -/
theorem zz_wide {α : Prop} (_ : α) : True := trivial
theorem zz_wide1 : True := zz_wide @Jvm.Stand.thenCaughtThrough
