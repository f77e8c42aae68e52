/-! the last part is small: it compiles in every round -/
