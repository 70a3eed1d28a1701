/-! nothing here -/
theorem zz_no40 : True := trivial
