/-! the start -/
theorem start_stub : True := trivial
