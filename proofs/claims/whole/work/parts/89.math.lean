theorem rR_law : LawOK rR := sorry
theorem rR_ini : rR iC iM := sorry
