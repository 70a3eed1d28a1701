/-! nothing here -/
theorem zz_no39 : True := trivial
