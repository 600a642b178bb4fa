/-! the law's own methods -/
abbrev mL_law : PMt := (yL_law, cL_law, 8, (some .boolean))
abbrev mL_halt : PMt := (yL_halt, cL_halt, 5, (some .int))
abbrev mL_coach : PMt := (yL_coach, cL_coach, 5, (some .int))
abbrev mL_passenger : PMt := (yL_passenger, cL_passenger, 5, (some .int))
abbrev mL_row : PMt := (yL_row, cL_row, 4, (some .int))
