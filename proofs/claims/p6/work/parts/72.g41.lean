/-! nothing here -/
theorem zz_no41 : True := trivial
