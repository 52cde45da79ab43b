/-! a stall cooks on -/
theorem gFirst_is {σ : qx_S} {s n g : Nat} {st : Int32} (hg : g < n) (h1 : σ 19 g = nI s) (h2 : σ 15 g = st) (hu : ∀ h, h < n → σ 15 h = st → σ 19 h = nI s → h = g) : gFirst σ (nI s) st n = some g := by
  unfold gFirst
  refine qfind_some hg (by simp [h1, h2]) (fun h hh => ?_)
  by_cases e : σ 19 h = nI s ∧ σ 15 h = st
  · exact absurd (hu h (by omega) e.2 e.1) (by omega)
  · simpa using e
theorem rV_cook {σ τ : qx_S} {P S n s : Nat} (h : rV σ τ P S n) (hs : s < S) (a : Int32) : rV (nCook n s (σ, a)).1 (mCook s τ).1 P S n ∧ (nCook n s (σ, a)).2 = a + (mCook s τ).2 := by
  have hw := works_iff h hs
  obtain ⟨hSt, hIv, hNi, hGu⟩ := h
  have hS5 : S ≤ 5 := hSt.2.1.2.2
  obtain ⟨l, hl, el, hc⟩ := rGu_ck hGu s hs
  have d5 := hNi.2.2.2.2.1
  have e9 : τ 5 (11 * s + 9) = nI l := by rw [(d5 s hs).2.2, el]
  have E1 : nCook n s (σ, a) = if σ 11 s ≤ 0 then (σ, a) else if nWorks σ s then (if qs σ 11 s (σ 11 s - 1) 11 s = 0 then (nSell (qs σ 11 s (σ 11 s - 1)) s n, a + 1) else (qs σ 11 s (σ 11 s - 1), a)) else (σ, a) := rfl
  rw [E1]
  unfold mCook
  rcases hc with ⟨rfl, hc⟩ | ⟨hl0, g, hg, g2, gs, gw, gu⟩
  · rw [if_pos (show σ 11 s ≤ 0 by rw [el]; decide), if_pos (show τ 5 (11 * s + 9) = 0 by rw [e9]; rfl)]
    exact ⟨⟨hSt, hIv, hNi, hGu⟩, by simp⟩
  rw [if_neg (show ¬ σ 11 s ≤ 0 by rw [el]; exact nI_nle hl0 (by omega)), if_neg (show ¬ τ 5 (11 * s + 9) = 0 by rw [e9]; exact nI_ne0 hl0 (by omega))]
  by_cases hwk : nWorks σ s
  rotate_left
  · rw [if_neg hwk, if_neg (fun z => hwk (hw.mpr z))]
    exact ⟨⟨hSt, hIv, hNi, hGu⟩, by simp⟩
  rw [if_pos hwk, if_pos (hw.mp hwk)]
  obtain ⟨m, rfl⟩ : ∃ m, l = m + 1 := ⟨l - 1, by omega⟩
  have e1 : σ 11 s - 1 = nI m := by rw [el, nI_pred]
  have e2 : τ 5 (11 * s + 9) - 1 = nI m := by rw [e9, nI_pred]
  unfold mC1
  rw [e1, e2, qs_same, qs_same]
  have o9 : ∀ t, t < S → ¬ t = s → τ 5 (11 * t + 7) = σ 9 t ∧ τ 5 (11 * t + 8) = σ 10 t ∧ τ 5 (11 * t + 9) = σ 11 t := fun t ht _ => d5 t ht
  rcases Nat.eq_zero_or_pos m with rfl | hm
  rotate_left
  · rw [if_neg (show ¬ nI m = 0 from nI_ne0 hm (by omega)), if_neg (show ¬ nI m ≤ 0 from nI_nle hm (by omega))]
    dsimp only
    refine ⟨⟨rSt_to hSt rfl rfl rfl rfl rfl rfl (fun k _ => rfl) (fun k _ => rfl) (fun k _ => rfl) (fun k _ => rfl) (fun t i _ hi => by rw [q5 _ _ _ _ _ _ (by omega) (by omega), if_neg (by omega)]), rIv_to hIv rfl rfl rfl, rNi_E hNi rfl rfl rfl rfl ⟨rfl, rfl⟩ rfl (fun t _ => by rw [q5 _ _ _ _ _ _ (by omega) (by omega), if_neg (by omega)]) hS5 (fun t ht => ?_) (fun t ht => ⟨rfl, rfl, by rw [qc1, if_neg (by omega)]⟩), rGu_E hGu rfl rfl rfl rfl (fun j a b => by rw [qs_cell _ _ _ _ (by omega)]) rfl (fun t ht => ?_)⟩, by simp⟩
    · rw [q5 _ _ _ _ _ _ (by omega) (by omega), if_neg (by omega), q5 _ _ _ _ _ _ (by omega) (by omega), if_neg (by omega), q5 _ _ _ _ _ _ (by omega) (by omega), qc1]
      refine ⟨(d5 t ht).1, (d5 t ht).2.1, ?_⟩
      by_cases z : t = s
      · rw [if_pos ⟨z, rfl⟩, if_pos z]
      · rw [if_neg (fun y => z y.1), if_neg z]; exact (d5 t ht).2.2
    · rw [qc1, q5 _ _ _ _ _ _ (by omega) (by omega), if_neg (show ¬ (t = s ∧ 10 = 9) by omega)]
      by_cases z : t = s
      · subst z
        rw [if_pos rfl]
        exact ⟨m, by omega, rfl, Or.inr ⟨hm, g, hg, g2, gs, gw, gu⟩⟩
      · rw [if_neg z]
        exact rGu_ck hGu t ht
  · rw [if_pos (show nI 0 = 0 from rfl), if_pos (show nI 0 ≤ 0 by decide)]
    have eg : gFirst (qs σ 11 s (nI 0)) (nI s) 2 n = some g := gFirst_is hg gs g2 gu
    have ew : ix (qs τ 5 (11 * s + 9) (nI 0) 5 (11 * s + 10)) = g := by
      rw [q5 _ _ _ _ _ _ (by omega) (by omega), if_neg (by omega), gw]
      exact nI_clamp (by have := hGu.1.2.2; omega)
    rw [ew]
    unfold nSell
    rw [eg]
    have tk : τ 1 3 = σ 7 3 := hNi.1.2.2
    have pr : τ 5 (11 * s + 4) = σ 6 (s * 6 + 4) := hSt.2.2.2.2.2.2 s 4 (by omega) (by decide)
    have hs7 := (d5 s hs).1
    have hs8 := (d5 s hs).2.1
    have G := hGu.2.1 g hg
    dsimp only
    refine ⟨⟨rSt_to hSt rfl rfl rfl rfl rfl rfl (fun k _ => rfl) (fun k _ => rfl) (fun k _ => rfl) (fun k _ => rfl) (fun t i _ hi => ?_), rIv_to hIv rfl rfl rfl, rNi_E hNi rfl rfl rfl rfl ⟨rfl, rfl⟩ rfl (fun t _ => ?_) hS5 (fun t ht => ?_) (fun t ht => ?_), rGu_D (g := g) hGu rfl rfl rfl rfl (fun j x hj hj2 hx => ?_) (fun x i hx hi => ?_) ?_ (fun t ht => ?_) (Or.inl ?_)⟩, by simp⟩
    · unfold mC3 mC2
      rw [q5 _ _ _ _ _ _ (by omega) (by omega), if_neg (by omega), q5 _ _ _ _ _ _ (by omega) (by omega), if_neg (by omega), q5 _ _ _ _ _ _ (by omega) (by omega), if_neg (by omega), q_ne _ _ _ _ _ (by decide), q_ne _ _ _ _ _ (by decide), q5 _ _ _ _ _ _ (by omega) (by omega), if_neg (by omega)]
    · unfold mC3 mC2
      rw [q5 _ _ _ _ _ _ (by omega) (by omega), if_neg (by omega), q5 _ _ _ _ _ _ (by omega) (by omega), if_neg (by omega), q5 _ _ _ _ _ _ (by omega) (by omega), if_neg (by omega), q_ne _ _ _ _ _ (by decide), q_ne _ _ _ _ _ (by decide), q5 _ _ _ _ _ _ (by omega) (by omega), if_neg (by omega)]
    · by_cases z : t = s
      · subst z
        unfold mC3 mC2 gFeed
        simp [q5, q_ne, qc7, hs7, hs8, pr]
      · have := d5 t ht
        unfold mC3 mC2 gFeed
        simp [q5, q_ne, qc7, z, this]
    · have z : ¬ t = s := by omega
      unfold gFeed
      simp [q_ne, qc7, z]
    · unfold gFeed
      rcases (show j = 15 ∨ j = 16 ∨ j = 17 ∨ j = 18 ∨ j = 19 ∨ j = 20 by omega) with rfl | rfl | rfl | rfl | rfl | rfl <;> simp [q_ne, qc7, hx]
    · unfold mC3 mC2
      simp [q_ne, q6, hx, hi]
    · obtain ⟨r1, r2, r3, r4⟩ := G
      unfold mC3 mC2 gFeed rG1
      simp [q_ne, q6, q6z, qc7, tk, r2, r3]
      rcases r4 with r | r | r | r
      · exact absurd r.1 (by rw [g2]; decide)
      · obtain ⟨-, -, s', p', hs', -, es', ews', -⟩ := r
        exact ⟨s', hs', es', ews'⟩
      · exact absurd r.1 (by rw [g2]; decide)
      · exact absurd r.1 (by rw [g2]; decide)
    · by_cases z : t = s
      · subst z
        refine ⟨0, by decide, ?_, Or.inl ⟨rfl, fun x hx => ?_⟩⟩
        · unfold gFeed
          simp [q_ne, qc7]
        · unfold gFeed
          by_cases y : x = g
          · subst y
            simp [q_ne, qc7]
          · simp [q_ne, qc7, y]
            intro x2 xs
            exact absurd (gu x hx x2 xs) y
      · obtain ⟨l2, hl2, el2, hc2⟩ := rGu_ck hGu t ht
        refine ⟨l2, hl2, ?_, ?_⟩
        · unfold gFeed
          simp [q_ne, qc7, z, el2]
        · rcases hc2 with ⟨y1, y2⟩ | ⟨y1, x, y2, y3, y4, y5, y6⟩
          · refine Or.inl ⟨y1, fun x hx => ?_⟩
            unfold gFeed
            by_cases y : x = g
            · subst y
              simp [q_ne, qc7]
            · simp [q_ne, qc7, y]
              exact y2 x hx
          · have xg : ¬ x = g := by
              intro y
              rw [y, gs] at y4
              have := (nI_eq (by omega) (by omega)).mp y4
              omega
            refine Or.inr ⟨y1, x, y2, ?_, ?_, ?_, fun k hk => ?_⟩
            · unfold gFeed
              simp [q_ne, qc7, xg, y3]
            · unfold gFeed
              simp [q_ne, y4]
            · unfold mC3 mC2
              simp [q_ne, q5, z, y5]
            · unfold gFeed
              by_cases y : k = g
              · subst y
                simp [q_ne, qc7]
              · simp [q_ne, qc7, y]
                exact y6 k hk
    · unfold gFeed
      simp [q_ne, qc7]
