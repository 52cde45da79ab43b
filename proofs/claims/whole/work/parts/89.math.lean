theorem rR_law : LawOK rR := sorry
