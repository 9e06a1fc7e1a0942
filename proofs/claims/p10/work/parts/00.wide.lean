/-! a name of the library's rest: so that the round reads the whole of it from the first part on -/
section WD
theorem wd_first : True := by
  have _h := @Stand.outThrough
  trivial
end WD
