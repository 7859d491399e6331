/-! (the reference has no code here) -/
