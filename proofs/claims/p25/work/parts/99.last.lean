/-! the end of the rows so far -/
