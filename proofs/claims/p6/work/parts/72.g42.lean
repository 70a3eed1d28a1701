/-! nothing here -/
theorem zz_no42 : True := trivial
