/-! this row is here so that the first round goes wide at once (29.mna needs the wide library); in a round without the machine parts it lies in wip/whole/later -/
theorem wide_go : True := by
  have _h := @Jvm.Stand.multianewarray2F
  exact trivial
