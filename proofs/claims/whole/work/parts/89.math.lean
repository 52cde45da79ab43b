theorem rR_law : LawOK rR := by
  intro σ τ hR
  obtain ⟨P, S, n, h⟩ := hR.1
  exact ⟨P, S, n, rR_pre h hR, rR_set hR h, rR_plan hR h, rR_night hR h, rV_tell h, rR_kept hR h⟩
