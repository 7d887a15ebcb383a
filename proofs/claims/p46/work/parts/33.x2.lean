def eCell (f : Nat → Int64) : ab_E := .inl (1, 1, .inr (.inl f))
