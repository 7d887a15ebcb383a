/-! owed -/
