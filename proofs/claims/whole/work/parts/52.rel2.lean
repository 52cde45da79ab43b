theorem rSt_to {v w v2 w2 : qx_S} {P S : Nat} (h : rSt v w P S) (h1 : v2 1 = v 1) (h2 : v2 2 = v 2) (h3 : v2 3 = v 3) (h4 : v2 4 = v 4) (h5 : v2 5 = v 5) (h6 : v2 6 = v 6) (g1 : ∀ k, k = 0 ∨ k = 1 ∨ k = 5 ∨ k = 6 → w2 1 k = w 1 k) (g2 : ∀ k, k < 24 → w2 2 k = w 2 k) (g3 : ∀ k, k < 3 → w2 3 (3 * k) = w 3 (3 * k)) (g4 : ∀ k, k < 16 → w2 4 k = w 4 k) (g5 : ∀ s t, s < 5 → t < 6 → w2 5 (11 * s + t) = w 5 (11 * s + t)) : rSt v2 w2 P S := by
  obtain ⟨⟨a1, a2, a3⟩, ⟨b1, b2, b3⟩, c, d, e, ⟨f1, f2⟩, g⟩ := h
  refine ⟨⟨by rw [h1]; exact a1, by rw [g1 0 (by decide)]; exact a2, a3⟩, ⟨by rw [h1]; exact b1, by rw [g1 1 (by decide)]; exact b2, b3⟩, fun k hk => by rw [g2 k hk, h2]; exact c k hk, fun k hk => by rw [g3 k hk, h3]; exact d k hk, fun k hk => by rw [g4 k hk, h4]; exact e k hk, ⟨by rw [g1 5 (by decide), h5]; exact f1, by rw [g1 6 (by decide), h5]; exact f2⟩, fun s t hs ht => by rw [g5 s t hs ht, h6]; exact g s t hs ht⟩
theorem rIv_to {v v2 : qx_S} {S : Nat} (h : rIv v S) (h2 : v2 2 = v 2) (h4 : v2 4 = v 4) (h6 : v2 6 = v 6) : rIv v2 S := by
  unfold rIv at *
  rw [h2, h4, h6]
  exact h
theorem rNi_to {v w v2 w2 : qx_S} {P S : Nat} (h : rNi v w P S) (h7 : v2 7 2 = v 7 2 ∧ v2 7 3 = v 7 3) (h8 : v2 8 = v 8) (h9 : v2 9 = v 9) (h10 : v2 10 = v 10) (h11 : v2 11 = v 11) (h12 : v2 12 = v 12) (h13 : v2 13 = v 13) (g1 : w2 1 2 = w 1 2 ∧ w2 1 3 = w 1 3) (g3 : ∀ k, k < 3 → w2 3 (3 * k + 1) = w 3 (3 * k + 1) ∧ w2 3 (3 * k + 2) = w 3 (3 * k + 2)) (g5 : ∀ s t, s < 5 → 6 ≤ t → t < 10 → w2 5 (11 * s + t) = w 5 (11 * s + t)) (hS : S ≤ 5) : rNi v2 w2 P S := by
  obtain ⟨⟨a1, a2, a3⟩, b, c, d, e, f, g⟩ := h
  refine ⟨⟨by rw [g1.1, h7.1]; exact a1, by rw [h7.1]; exact a2, by rw [g1.2, h7.2]; exact a3⟩, fun s hs => by rw [h8, g5 s 6 (by omega) (by decide) (by decide)]; exact b s hs, fun s hs h5 => by rw [h8, h9, h10, h11]; exact c s hs h5, by rw [h8]; exact d, fun s hs => by rw [h9, h10, h11, g5 s 7 (by omega) (by decide) (by decide), g5 s 8 (by omega) (by decide) (by decide), g5 s 9 (by omega) (by decide) (by decide)]; exact e s hs, fun k hk => by rw [(g3 k hk).1, (g3 k hk).2, h12, h13]; exact f k hk, fun s hs => by rw [g5 s 6 hs (by decide) (by decide)]; exact g s hs⟩
theorem rNw_to {v v2 : qx_S} (h : v2 15 = v 15) : ∀ n, rNw v2 n = rNw v n
  | 0 => rfl
  | n + 1 => by rw [rNw, rNw, rNw_to h n, h]
theorem rGu_to {v w v2 w2 : qx_S} {P S n : Nat} (h : rGu v w P S n) (h8 : v2 8 = v 8) (h11 : v2 11 = v 11) (h14 : v2 14 = v 14) (h15 : v2 15 = v 15) (h16 : v2 16 = v 16) (h17 : v2 17 = v 17) (h18 : v2 18 = v 18) (h19 : v2 19 = v 19) (h20 : v2 20 = v 20) (g1 : w2 1 4 = w 1 4 ∧ w2 1 7 = w 1 7) (g5 : ∀ s, s < 5 → w2 5 (11 * s + 10) = w 5 (11 * s + 10)) (g6 : w2 6 = w 6) (hS : S ≤ 5) : rGu v2 w2 P S n := by
  obtain ⟨a, b, c, d, e⟩ := h
  refine ⟨by rw [h14, g1.1]; exact a, fun g hg => ?_, fun s hs => ?_, ?_, ?_⟩
  · have := b g hg
    unfold rG1 at *
    rw [h15, h16, h17, h18, h19, h20, h8, g6]
    exact this
  · rw [h11, h15, h19, g5 s (by omega)]
    exact c s hs
  · rw [h15, h16]
    exact d
  · rw [rNw_to h15, g1.2, g6, h15, h19]
    exact e
/-! clearing a night -/
def nC1 (s : Nat) (τ : qx_S) : qx_S := qs (qs (qs (qs τ 8 s (-4)) 9 s 0) 10 s 0) 11 s 0
def nC2 (k : Nat) (τ : qx_S) : qx_S := qs (qs τ 12 k 0) 13 k 0
theorem nClr_eq (σ : qx_S) : nClr σ = qf nC2 (qf nC1 (qs (qs σ 7 3 0) 14 0 0) 5) 3 := rfl
theorem nC1_at (σ : qx_S) : ∀ i s, s < i → qf nC1 σ i 8 s = -4 ∧ qf nC1 σ i 9 s = 0 ∧ qf nC1 σ i 10 s = 0 ∧ qf nC1 σ i 11 s = 0
  | 0, s, h => absurd h (Nat.not_lt_zero s)
  | i + 1, s, h => by
    rw [qf_S]
    unfold nC1
    by_cases e : s = i
    · subst e; simp [qs_at]
    · have ih := nC1_at σ i s (by omega)
      simp only [qs_at]
      simp [e]
      exact ih
theorem nC2_at (σ : qx_S) : ∀ i s, s < i → qf nC2 σ i 12 s = 0 ∧ qf nC2 σ i 13 s = 0
  | 0, s, h => absurd h (Nat.not_lt_zero s)
  | i + 1, s, h => by
    rw [qf_S]
    unfold nC2
    by_cases e : s = i
    · subst e; simp [qs_at]
    · have ih := nC2_at σ i s (by omega)
      simp only [qs_at]
      simp [e]
      exact ih
theorem nClr_cell {σ : qx_S} {j : Nat} (h7 : j ≠ 7) (h8 : j ≠ 8) (h9 : j ≠ 9) (h10 : j ≠ 10) (h11 : j ≠ 11) (h12 : j ≠ 12) (h13 : j ≠ 13) (h14 : j ≠ 14) : nClr σ j = σ j := by
  rw [nClr_eq, qf_cell (f := nC2) (fun k τ => by unfold nC2; rw [qs_cell _ _ _ _ h13, qs_cell _ _ _ _ h12]), qf_cell (f := nC1) (fun k τ => by unfold nC1; rw [qs_cell _ _ _ _ h11, qs_cell _ _ _ _ h10, qs_cell _ _ _ _ h9, qs_cell _ _ _ _ h8]), qs_cell _ _ _ _ h14, qs_cell _ _ _ _ h7]
theorem nClr_n (σ : qx_S) : (nClr σ 7 2 = σ 7 2 ∧ nClr σ 7 3 = 0) ∧ nClr σ 14 0 = 0 ∧ (∀ s, s < 5 → nClr σ 8 s = -4 ∧ nClr σ 9 s = 0 ∧ nClr σ 10 s = 0 ∧ nClr σ 11 s = 0) ∧ (∀ k, k < 3 → nClr σ 12 k = 0 ∧ nClr σ 13 k = 0) := by
  have c2 : ∀ j, j ≠ 12 → j ≠ 13 → ∀ τ, qf nC2 τ 3 j = τ j := fun j a b τ => qf_cell (f := nC2) (fun k τ => by unfold nC2; rw [qs_cell _ _ _ _ b, qs_cell _ _ _ _ a]) τ 3
  have c1 : ∀ j, j ≠ 8 → j ≠ 9 → j ≠ 10 → j ≠ 11 → ∀ τ, qf nC1 τ 5 j = τ j := fun j a b c d τ => qf_cell (f := nC1) (fun k τ => by unfold nC1; rw [qs_cell _ _ _ _ d, qs_cell _ _ _ _ c, qs_cell _ _ _ _ b, qs_cell _ _ _ _ a]) τ 5
  rw [nClr_eq]
  refine ⟨?_, ?_, fun s hs => ?_, fun k hk => nC2_at _ 3 k hk⟩
  · rw [c2 7 (by decide) (by decide), c1 7 (by decide) (by decide) (by decide) (by decide)]
    simp [qs_at]
  · rw [c2 14 (by decide) (by decide), c1 14 (by decide) (by decide) (by decide) (by decide)]
    simp [qs_at]
  · rw [c2 8 (by decide) (by decide), c2 9 (by decide) (by decide), c2 10 (by decide) (by decide), c2 11 (by decide) (by decide)]
    exact nC1_at _ 5 s hs
def mC5 (s : Nat) (τ : qx_S) : qx_S := qs (qs (qs (qs (qs τ 5 (11 * s + 6) (-1)) 5 (11 * s + 7) 0) 5 (11 * s + 8) 0) 5 (11 * s + 9) 0) 5 (11 * s + 10) (-1)
def mC4 (k : Nat) (τ : qx_S) : qx_S := qs (qs τ 3 (3 * k + 1) 0) 3 (3 * k + 2) 0
theorem mClr_eq (σ : qx_S) : mClr σ = qf mC5 (qf mC4 (qs (qs (qs σ 1 3 0) 1 4 0) 1 7 0) 3) 5 := rfl
theorem mC5_at (σ : qx_S) : ∀ i s, s < i → qf mC5 σ i 5 (11 * s + 6) = -1 ∧ qf mC5 σ i 5 (11 * s + 7) = 0 ∧ qf mC5 σ i 5 (11 * s + 8) = 0 ∧ qf mC5 σ i 5 (11 * s + 9) = 0 ∧ qf mC5 σ i 5 (11 * s + 10) = -1
  | 0, s, h => absurd h (Nat.not_lt_zero s)
  | i + 1, s, h => by
    rw [qf_S]
    unfold mC5
    by_cases e : s = i
    · subst e; simp [qs_at]
    · have ih := mC5_at σ i s (by omega)
      refine ⟨?_, ?_, ?_, ?_, ?_⟩
      · rw [qs_slot _ _ _ _ (by omega), qs_slot _ _ _ _ (by omega), qs_slot _ _ _ _ (by omega), qs_slot _ _ _ _ (by omega), qs_slot _ _ _ _ (by omega)]; exact ih.1
      · rw [qs_slot _ _ _ _ (by omega), qs_slot _ _ _ _ (by omega), qs_slot _ _ _ _ (by omega), qs_slot _ _ _ _ (by omega), qs_slot _ _ _ _ (by omega)]; exact ih.2.1
      · rw [qs_slot _ _ _ _ (by omega), qs_slot _ _ _ _ (by omega), qs_slot _ _ _ _ (by omega), qs_slot _ _ _ _ (by omega), qs_slot _ _ _ _ (by omega)]; exact ih.2.2.1
      · rw [qs_slot _ _ _ _ (by omega), qs_slot _ _ _ _ (by omega), qs_slot _ _ _ _ (by omega), qs_slot _ _ _ _ (by omega), qs_slot _ _ _ _ (by omega)]; exact ih.2.2.2.1
      · rw [qs_slot _ _ _ _ (by omega), qs_slot _ _ _ _ (by omega), qs_slot _ _ _ _ (by omega), qs_slot _ _ _ _ (by omega), qs_slot _ _ _ _ (by omega)]; exact ih.2.2.2.2
theorem mC5_low (σ : qx_S) (s t : Nat) (ht : t < 6) : ∀ i, qf mC5 σ i 5 (11 * s + t) = σ 5 (11 * s + t)
  | 0 => rfl
  | i + 1 => by
    rw [qf_S]
    unfold mC5
    rw [qs_slot _ _ _ _ (by omega), qs_slot _ _ _ _ (by omega), qs_slot _ _ _ _ (by omega), qs_slot _ _ _ _ (by omega), qs_slot _ _ _ _ (by omega)]
    exact mC5_low σ s t ht i
theorem mC4_at (σ : qx_S) : ∀ i s, s < i → qf mC4 σ i 3 (3 * s + 1) = 0 ∧ qf mC4 σ i 3 (3 * s + 2) = 0
  | 0, s, h => absurd h (Nat.not_lt_zero s)
  | i + 1, s, h => by
    rw [qf_S]
    unfold mC4
    by_cases e : s = i
    · subst e; simp [qs_at]
    · have ih := mC4_at σ i s (by omega)
      refine ⟨?_, ?_⟩
      · rw [qs_slot _ _ _ _ (by omega), qs_slot _ _ _ _ (by omega)]; exact ih.1
      · rw [qs_slot _ _ _ _ (by omega), qs_slot _ _ _ _ (by omega)]; exact ih.2
theorem mC4_low (σ : qx_S) (k : Nat) : ∀ i, qf mC4 σ i 3 (3 * k) = σ 3 (3 * k)
  | 0 => rfl
  | i + 1 => by
    rw [qf_S]
    unfold mC4
    rw [qs_slot _ _ _ _ (by omega), qs_slot _ _ _ _ (by omega)]
    exact mC4_low σ k i
theorem mClr_cell {σ : qx_S} {j : Nat} (h1 : j ≠ 1) (h3 : j ≠ 3) (h5 : j ≠ 5) : mClr σ j = σ j := by
  rw [mClr_eq, qf_cell (f := mC5) (fun k τ => by unfold mC5; rw [qs_cell _ _ _ _ h5, qs_cell _ _ _ _ h5, qs_cell _ _ _ _ h5, qs_cell _ _ _ _ h5, qs_cell _ _ _ _ h5]), qf_cell (f := mC4) (fun k τ => by unfold mC4; rw [qs_cell _ _ _ _ h3, qs_cell _ _ _ _ h3]), qs_cell _ _ _ _ h1, qs_cell _ _ _ _ h1, qs_cell _ _ _ _ h1]
theorem mC5_cell {j : Nat} (h5 : j ≠ 5) (σ : qx_S) (i : Nat) : qf mC5 σ i j = σ j := qf_cell (f := mC5) (fun k τ => by unfold mC5; rw [qs_cell _ _ _ _ h5, qs_cell _ _ _ _ h5, qs_cell _ _ _ _ h5, qs_cell _ _ _ _ h5, qs_cell _ _ _ _ h5]) σ i
theorem mC4_cell {j : Nat} (h3 : j ≠ 3) (σ : qx_S) (i : Nat) : qf mC4 σ i j = σ j := qf_cell (f := mC4) (fun k τ => by unfold mC4; rw [qs_cell _ _ _ _ h3, qs_cell _ _ _ _ h3]) σ i
theorem mClr_n (σ : qx_S) : (mClr σ 1 3 = 0 ∧ mClr σ 1 4 = 0 ∧ mClr σ 1 7 = 0 ∧ ∀ k, k ≠ 3 → k ≠ 4 → k ≠ 7 → mClr σ 1 k = σ 1 k) ∧ (∀ k, k < 3 → mClr σ 3 (3 * k) = σ 3 (3 * k) ∧ mClr σ 3 (3 * k + 1) = 0 ∧ mClr σ 3 (3 * k + 2) = 0) ∧ (∀ s, s < 5 → mClr σ 5 (11 * s + 6) = -1 ∧ mClr σ 5 (11 * s + 7) = 0 ∧ mClr σ 5 (11 * s + 8) = 0 ∧ mClr σ 5 (11 * s + 9) = 0 ∧ mClr σ 5 (11 * s + 10) = -1) ∧ (∀ s t, t < 6 → mClr σ 5 (11 * s + t) = σ 5 (11 * s + t)) := by
  rw [mClr_eq]
  refine ⟨?_, fun k hk => ?_, fun s hs => mC5_at _ 5 s hs, fun s t ht => ?_⟩
  · rw [mC5_cell (by decide), mC4_cell (by decide)]
    refine ⟨by simp [qs_at], by simp [qs_at], by simp [qs_at], fun k a b c => by simp [qs_at, a, b, c]⟩
  · rw [mC5_cell (by decide), mC4_low]
    refine ⟨by simp [qs_at], mC4_at _ 3 k hk⟩
  · rw [mC5_low _ s t ht, mC4_cell (by decide)]
    simp [qs_at]
