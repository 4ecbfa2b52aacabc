/-! the end -/
theorem z_end : True := trivial
