/-! the first row -/
theorem zz_first : True := trivial
