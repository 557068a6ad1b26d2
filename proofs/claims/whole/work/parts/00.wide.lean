/-- the rows of int[][] stand on a law of the library that lies outside its short form: read over the whole of it from the first part on -/
theorem am_wide : True := by
  have q9 := @Jvm.Stand.multianewarray2F
  exact True.intro
