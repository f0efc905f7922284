/-! the last part, while the others are built -/
theorem look_here : True := trivial
