/-! kept, and taken back -/
theorem qc_at (σ : qx_S) (i j n a k : Nat) : qc σ i j n a k = if a = j ∧ k < n then σ i k else σ a k := by
  unfold qc
  by_cases h : a = j
  · subst h
    rw [qx_us]
    unfold va_cpy
    by_cases z : k < n
    · rw [if_pos ⟨Nat.zero_le k, by omega⟩, if_pos ⟨rfl, z⟩, show 0 + (k - 0) = k by omega]
    · rw [if_neg (fun y => z (by omega)), if_neg (fun y => z y.2)]
  · rw [qx_un _ _ h, if_neg (fun y => h y.1)]
theorem qc_cell (σ : qx_S) (i j n : Nat) {a : Nat} (h : a ≠ j) : qc σ i j n a = σ a := by
  unfold qc; exact qx_un _ _ h
theorem bSk_cell (σ : qx_S) {a : Nat} (h : a < 26 ∨ 31 < a) : bSk σ a = σ a := by
  unfold bSk
  rw [qc_cell _ _ _ _ (by omega), qc_cell _ _ _ _ (by omega), qc_cell _ _ _ _ (by omega), qc_cell _ _ _ _ (by omega), qc_cell _ _ _ _ (by omega), qs_cell _ _ _ _ (by omega), qs_cell _ _ _ _ (by omega)]
theorem bGk_cell (σ : qx_S) {a : Nat} (h : a < 39 ∨ 45 < a) : bGk σ a = σ a := by
  unfold bGk
  rw [qc_cell _ _ _ _ (by omega), qc_cell _ _ _ _ (by omega), qc_cell _ _ _ _ (by omega), qc_cell _ _ _ _ (by omega), qc_cell _ _ _ _ (by omega), qc_cell _ _ _ _ (by omega), qs_cell _ _ _ _ (by omega)]
theorem bNk_cell (σ : qx_S) {a : Nat} (h : a < 32 ∨ 45 < a) : bNk σ a = σ a := by
  unfold bNk
  rw [qc_cell _ _ _ _ (by omega), qc_cell _ _ _ _ (by omega), qc_cell _ _ _ _ (by omega), qc_cell _ _ _ _ (by omega), qc_cell _ _ _ _ (by omega), qc_cell _ _ _ _ (by omega), bGk_cell _ (by omega), qs_cell _ _ _ _ (by omega), qs_cell _ _ _ _ (by omega)]
theorem bSb_cell (σ : qx_S) {a : Nat} (h : a = 0 ∨ 6 < a) : bSb σ a = σ a := by
  unfold bSb
  rw [qc_cell _ _ _ _ (by omega), qc_cell _ _ _ _ (by omega), qc_cell _ _ _ _ (by omega), qc_cell _ _ _ _ (by omega), qc_cell _ _ _ _ (by omega), qs_cell _ _ _ _ (by omega), qs_cell _ _ _ _ (by omega)]
theorem bGb_cell (σ : qx_S) {a : Nat} (h : a < 14 ∨ 20 < a) : bGb σ a = σ a := by
  unfold bGb
  rw [qc_cell _ _ _ _ (by omega), qc_cell _ _ _ _ (by omega), qc_cell _ _ _ _ (by omega), qc_cell _ _ _ _ (by omega), qc_cell _ _ _ _ (by omega), qc_cell _ _ _ _ (by omega), qs_cell _ _ _ _ (by omega)]
theorem bNb_cell (σ : qx_S) {a : Nat} (h : a < 7 ∨ 20 < a) : bNb σ a = σ a := by
  unfold bNb
  rw [qc_cell _ _ _ _ (by omega), qc_cell _ _ _ _ (by omega), qc_cell _ _ _ _ (by omega), qc_cell _ _ _ _ (by omega), qc_cell _ _ _ _ (by omega), qc_cell _ _ _ _ (by omega), bGb_cell _ (by omega), qs_cell _ _ _ _ (by omega), qs_cell _ _ _ _ (by omega)]
theorem bSk_at (σ : qx_S) {j k : Nat} (h : lC j k) (hj : j ≤ 6) : bSk σ (j + 25) k = σ j k := by
  unfold lC at h
  unfold bSk
  rcases (show j = 1 ∨ j = 2 ∨ j = 3 ∨ j = 4 ∨ j = 5 ∨ j = 6 by omega) with rfl | rfl | rfl | rfl | rfl | rfl
  · rcases (show k = 0 ∨ k = 1 by omega) with rfl | rfl <;> simp [qc_at, qs_at]
  · simp [qc_at, qs_at, show k < 24 by omega]
  · simp [qc_at, qs_at, show k < 3 by omega]
  · simp [qc_at, qs_at, show k < 16 by omega]
  · simp [qc_at, qs_at, show k < 2 by omega]
  · simp [qc_at, qs_at, show k < 30 by omega]
theorem bGk_at (σ : qx_S) {j k : Nat} (h : lC j k) (hj : 14 ≤ j) : bGk σ (j + 25) k = σ j k := by
  unfold lC at h
  unfold bGk
  rcases (show j = 14 ∨ j = 15 ∨ j = 16 ∨ j = 17 ∨ j = 18 ∨ j = 19 ∨ j = 20 by omega) with rfl | rfl | rfl | rfl | rfl | rfl | rfl
  · rcases (show k = 0 by omega) with rfl
    simp [qc_at, qs_at]
  · simp [qc_at, qs_at, show k < 20 by omega]
  · simp [qc_at, qs_at, show k < 20 by omega]
  · simp [qc_at, qs_at, show k < 20 by omega]
  · simp [qc_at, qs_at, show k < 20 by omega]
  · simp [qc_at, qs_at, show k < 20 by omega]
  · simp [qc_at, qs_at, show k < 20 by omega]
theorem bNk_at (σ : qx_S) {j k : Nat} (h : lC j k) (hj : 7 ≤ j) : bNk σ (j + 25) k = σ j k := by
  by_cases z : 14 ≤ j
  · unfold bNk
    have : j ≤ 20 := by unfold lC at h; omega
    rw [qc_cell _ _ _ _ (by omega), qc_cell _ _ _ _ (by omega), qc_cell _ _ _ _ (by omega), qc_cell _ _ _ _ (by omega), qc_cell _ _ _ _ (by omega), qc_cell _ _ _ _ (by omega), bGk_at _ h z, q_ne _ _ _ _ _ (by omega), q_ne _ _ _ _ _ (by omega)]
  · have G : ∀ (τ : qx_S) a b, a < 39 → bGk τ a b = τ a b := fun τ a b ha => by rw [bGk_cell _ (by omega)]
    unfold lC at h
    unfold bNk
    rcases (show j = 7 ∨ j = 8 ∨ j = 9 ∨ j = 10 ∨ j = 11 ∨ j = 12 ∨ j = 13 by omega) with rfl | rfl | rfl | rfl | rfl | rfl | rfl
    · rcases (show k = 2 ∨ k = 3 by omega) with rfl | rfl <;> simp [qc_at, qs_at, G]
    · simp [qc_at, qs_at, G, show k < 5 by omega]
    · simp [qc_at, qs_at, G, show k < 5 by omega]
    · simp [qc_at, qs_at, G, show k < 5 by omega]
    · simp [qc_at, qs_at, G, show k < 5 by omega]
    · simp [qc_at, qs_at, G, show k < 3 by omega]
    · simp [qc_at, qs_at, G, show k < 3 by omega]
theorem bSb_at (σ : qx_S) {j k : Nat} (h : lC j k) (hj : j ≤ 6) : bSb σ j k = σ (j + 25) k := by
  unfold lC at h
  unfold bSb
  rcases (show j = 1 ∨ j = 2 ∨ j = 3 ∨ j = 4 ∨ j = 5 ∨ j = 6 by omega) with rfl | rfl | rfl | rfl | rfl | rfl
  · rcases (show k = 0 ∨ k = 1 by omega) with rfl | rfl <;> simp [qc_at, qs_at]
  · simp [qc_at, qs_at, show k < 24 by omega]
  · simp [qc_at, qs_at, show k < 3 by omega]
  · simp [qc_at, qs_at, show k < 16 by omega]
  · simp [qc_at, qs_at, show k < 2 by omega]
  · simp [qc_at, qs_at, show k < 30 by omega]
theorem bGb_at (σ : qx_S) {j k : Nat} (h : lC j k) (hj : 14 ≤ j) : bGb σ j k = σ (j + 25) k := by
  unfold lC at h
  unfold bGb
  rcases (show j = 14 ∨ j = 15 ∨ j = 16 ∨ j = 17 ∨ j = 18 ∨ j = 19 ∨ j = 20 by omega) with rfl | rfl | rfl | rfl | rfl | rfl | rfl
  · rcases (show k = 0 by omega) with rfl
    simp [qc_at, qs_at]
  · simp [qc_at, qs_at, show k < 20 by omega]
  · simp [qc_at, qs_at, show k < 20 by omega]
  · simp [qc_at, qs_at, show k < 20 by omega]
  · simp [qc_at, qs_at, show k < 20 by omega]
  · simp [qc_at, qs_at, show k < 20 by omega]
  · simp [qc_at, qs_at, show k < 20 by omega]
theorem bNb_at (σ : qx_S) {j k : Nat} (h : lC j k) (hj : 7 ≤ j) : bNb σ j k = σ (j + 25) k := by
  by_cases z : 14 ≤ j
  · unfold bNb
    have : j ≤ 20 := by unfold lC at h; omega
    rw [qc_cell _ _ _ _ (by omega), qc_cell _ _ _ _ (by omega), qc_cell _ _ _ _ (by omega), qc_cell _ _ _ _ (by omega), qc_cell _ _ _ _ (by omega), qc_cell _ _ _ _ (by omega), bGb_at _ h z, q_ne _ _ _ _ _ (by omega), q_ne _ _ _ _ _ (by omega)]
  · have G : ∀ (τ : qx_S) a b, a < 14 ∨ 20 < a → bGb τ a b = τ a b := fun τ a b ha => by rw [bGb_cell _ ha]
    unfold lC at h
    unfold bNb
    rcases (show j = 7 ∨ j = 8 ∨ j = 9 ∨ j = 10 ∨ j = 11 ∨ j = 12 ∨ j = 13 by omega) with rfl | rfl | rfl | rfl | rfl | rfl | rfl
    · rcases (show k = 2 ∨ k = 3 by omega) with rfl | rfl <;> simp [qc_at, qs_at, G]
    · simp [qc_at, qs_at, G, show k < 5 by omega]
    · simp [qc_at, qs_at, G, show k < 5 by omega]
    · simp [qc_at, qs_at, G, show k < 5 by omega]
    · simp [qc_at, qs_at, G, show k < 5 by omega]
    · simp [qc_at, qs_at, G, show k < 3 by omega]
    · simp [qc_at, qs_at, G, show k < 3 by omega]
theorem kpt_view (σ : qx_S) {j : Nat} (h : 1 ≤ j) (h2 : j < 26) : kpt σ j = σ j := by
  unfold kpt
  rw [qs_cell _ _ _ _ (by omega), bNk_cell _ (by omega), bSk_cell _ (by omega)]
theorem kpt_at (σ : qx_S) {j k : Nat} (h : lC j k) : kpt σ (j + 25) k = σ j k := by
  have hj : 1 ≤ j ∧ j ≤ 20 := by unfold lC at h; omega
  unfold kpt
  rw [q_ne _ _ _ _ _ (by omega)]
  by_cases z : j ≤ 6
  · rw [bNk_cell _ (by omega)]; exact bSk_at σ h z
  · rw [bNk_at _ h (by omega), bSk_cell _ (by omega)]
theorem bck_at (σ : qx_S) {j k : Nat} (h : lC j k) : bNb (bSb σ) j k = σ (j + 25) k := by
  have hj : 1 ≤ j ∧ j ≤ 20 := by unfold lC at h; omega
  by_cases z : j ≤ 6
  · rw [bNb_cell _ (by omega)]; exact bSb_at σ h z
  · rw [bNb_at _ h (by omega), bSb_cell _ (by omega)]
theorem bck_cell (σ : qx_S) {j : Nat} (h : j = 0 ∨ 20 < j) : bNb (bSb σ) j = σ j := by
  rw [bNb_cell _ (by omega), bSb_cell _ (by omega)]
/-! the reference keeps all in one row -/
theorem mv1_at (j a : Nat) (hj : j ≠ 7) (hj0 : j ≠ 0) (τ : qx_S) : ∀ i, (∀ b, b ≠ 7 → b ≠ 0 → qf (mMv1 j a) τ i b = τ b) ∧ (∀ k, k ≠ 12 → qf (mMv1 j a) τ i 0 k = τ 0 k) ∧ (∀ k, k < i → qf (mMv1 j a) τ i 7 (a + k) = τ j k) ∧ (∀ m, m < a ∨ a + i ≤ m → qf (mMv1 j a) τ i 7 m = τ 7 m)
  | 0 => ⟨fun _ _ _ => rfl, fun _ _ => rfl, fun k hk => absurd hk (Nat.not_lt_zero k), fun _ _ => rfl⟩
  | i + 1 => by
    obtain ⟨h1, h2, h3, h4⟩ := mv1_at j a hj hj0 τ i
    rw [qf_S]
    have e := h1 j hj hj0
    generalize qf (mMv1 j a) τ i = y at h1 h2 h3 h4 e
    unfold mMv1
    refine ⟨fun b b7 b0 => by rw [qs_cell _ _ _ _ b0, qs_cell _ _ _ _ b7]; exact h1 b b7 b0, fun k hk => by rw [qs_slot _ _ _ _ hk, q_ne _ _ _ _ _ (by decide)]; exact h2 k hk, fun k hk => ?_, fun m hm => ?_⟩
    · rw [q_ne _ _ _ _ _ (by decide), qc1, e]
      by_cases z : k = i
      · rw [if_pos (by omega), z]
      · rw [if_neg (by omega)]; exact h3 k (by omega)
    · rw [q_ne _ _ _ _ _ (by decide), qs_slot _ _ _ _ (by omega)]; exact h4 m (by omega)
theorem mv0_at (j a : Nat) (hj : j ≠ 7) (hj0 : j ≠ 0) (τ : qx_S) : ∀ i, (∀ b, b ≠ j → b ≠ 0 → qf (mMv0 j a) τ i b = τ b) ∧ (∀ k, k ≠ 12 → qf (mMv0 j a) τ i 0 k = τ 0 k) ∧ (∀ k, k < i → qf (mMv0 j a) τ i j k = τ 7 (a + k))
  | 0 => ⟨fun _ _ _ => rfl, fun _ _ => rfl, fun k hk => absurd hk (Nat.not_lt_zero k)⟩
  | i + 1 => by
    obtain ⟨h1, h2, h3⟩ := mv0_at j a hj hj0 τ i
    rw [qf_S]
    have e := h1 7 (fun z => hj z.symm) (by decide)
    generalize qf (mMv0 j a) τ i = y at h1 h2 h3 e
    unfold mMv0
    refine ⟨fun b b7 b0 => by rw [qs_cell _ _ _ _ b0, qs_cell _ _ _ _ b7]; exact h1 b b7 b0, fun k hk => by rw [qs_slot _ _ _ _ hk, q_ne _ _ _ _ _ (fun z => hj0 z.symm)]; exact h2 k hk, fun k hk => ?_⟩
    rw [q_ne _ _ _ _ _ hj0, qc1, e]
    by_cases z : k = i
    · rw [if_pos z, z]
    · rw [if_neg z]; exact h3 k (by omega)
theorem mAll1_gen {τ y0 y1 y2 y3 y4 y5 y6 : qx_S} (z0 : ∀ b, b ≠ 0 → y0 b = τ b) (z1 : ∀ k, k ≠ 12 → y0 0 k = τ 0 k)
    (a1 : ∀ b, b ≠ 7 → b ≠ 0 → y1 b = y0 b) (a2 : ∀ k, k ≠ 12 → y1 0 k = y0 0 k) (a3 : ∀ k, k < 8 → y1 7 (0 + k) = y0 1 k)
    (b1 : ∀ b, b ≠ 7 → b ≠ 0 → y2 b = y1 b) (b2 : ∀ k, k ≠ 12 → y2 0 k = y1 0 k) (b3 : ∀ k, k < 24 → y2 7 (8 + k) = y1 2 k) (b4 : ∀ m, m < 8 ∨ 8 + 24 ≤ m → y2 7 m = y1 7 m)
    (c1 : ∀ b, b ≠ 7 → b ≠ 0 → y3 b = y2 b) (c2 : ∀ k, k ≠ 12 → y3 0 k = y2 0 k) (c3 : ∀ k, k < 9 → y3 7 (32 + k) = y2 3 k) (c4 : ∀ m, m < 32 ∨ 32 + 9 ≤ m → y3 7 m = y2 7 m)
    (d1 : ∀ b, b ≠ 7 → b ≠ 0 → y4 b = y3 b) (d2 : ∀ k, k ≠ 12 → y4 0 k = y3 0 k) (d3 : ∀ k, k < 16 → y4 7 (41 + k) = y3 4 k) (d4 : ∀ m, m < 41 ∨ 41 + 16 ≤ m → y4 7 m = y3 7 m)
    (e1 : ∀ b, b ≠ 7 → b ≠ 0 → y5 b = y4 b) (e2 : ∀ k, k ≠ 12 → y5 0 k = y4 0 k) (e3 : ∀ k, k < 55 → y5 7 (57 + k) = y4 5 k) (e4 : ∀ m, m < 57 ∨ 57 + 55 ≤ m → y5 7 m = y4 7 m)
    (f1 : ∀ b, b ≠ 7 → b ≠ 0 → y6 b = y5 b) (f2 : ∀ k, k ≠ 12 → y6 0 k = y5 0 k) (f3 : ∀ k, k < 140 → y6 7 (112 + k) = y5 6 k) (f4 : ∀ m, m < 112 ∨ 112 + 140 ≤ m → y6 7 m = y5 7 m) : (∀ b, b ≠ 7 → b ≠ 0 → y6 b = τ b) ∧ (∀ k, k ≠ 12 → y6 0 k = τ 0 k) ∧ (∀ j k, lM j k → kw y6 j k = τ j k) := by
  refine ⟨fun b b7 b0 => by rw [f1 b b7 b0, e1 b b7 b0, d1 b b7 b0, c1 b b7 b0, b1 b b7 b0, a1 b b7 b0, z0 b b0], fun k hk => by rw [f2 k hk, e2 k hk, d2 k hk, c2 k hk, b2 k hk, a2 k hk, z1 k hk], fun j k hl => ?_⟩
  unfold lM at hl
  rcases (show j = 1 ∨ j = 2 ∨ j = 3 ∨ j = 4 ∨ j = 5 ∨ j = 6 by omega) with rfl | rfl | rfl | rfl | rfl | rfl
  · show y6 7 k = τ 1 k
    have := a3 k (by omega)
    rw [Nat.zero_add] at this
    rw [f4 k (by omega), e4 k (by omega), d4 k (by omega), c4 k (by omega), b4 k (by omega), this, z0 1 (by decide)]
  · show y6 7 (8 + k) = τ 2 k
    rw [f4 _ (by omega), e4 _ (by omega), d4 _ (by omega), c4 _ (by omega), b3 k (by omega), a1 2 (by decide) (by decide), z0 2 (by decide)]
  · show y6 7 (32 + k) = τ 3 k
    rw [f4 _ (by omega), e4 _ (by omega), d4 _ (by omega), c3 k (by omega), b1 3 (by decide) (by decide), a1 3 (by decide) (by decide), z0 3 (by decide)]
  · show y6 7 (41 + k) = τ 4 k
    rw [f4 _ (by omega), e4 _ (by omega), d3 k (by omega), c1 4 (by decide) (by decide), b1 4 (by decide) (by decide), a1 4 (by decide) (by decide), z0 4 (by decide)]
  · show y6 7 (57 + k) = τ 5 k
    rw [f4 _ (by omega), e3 k (by omega), d1 5 (by decide) (by decide), c1 5 (by decide) (by decide), b1 5 (by decide) (by decide), a1 5 (by decide) (by decide), z0 5 (by decide)]
  · show y6 7 (112 + k) = τ 6 k
    rw [f3 k (by omega), e1 6 (by decide) (by decide), d1 6 (by decide) (by decide), c1 6 (by decide) (by decide), b1 6 (by decide) (by decide), a1 6 (by decide) (by decide), z0 6 (by decide)]
theorem mAll1_at (τ : qx_S) : (∀ b, b ≠ 7 → b ≠ 0 → mAll1 τ b = τ b) ∧ (∀ k, k ≠ 12 → mAll1 τ 0 k = τ 0 k) ∧ (∀ j k, lM j k → kw (mAll1 τ) j k = τ j k) := by
  obtain ⟨y0, h0⟩ : ∃ y, y = qs τ 0 12 0 := ⟨_, rfl⟩
  obtain ⟨y1, h1⟩ : ∃ y, y = qf (mMv1 1 0) y0 8 := ⟨_, rfl⟩
  obtain ⟨y2, h2⟩ : ∃ y, y = qf (mMv1 2 8) y1 24 := ⟨_, rfl⟩
  obtain ⟨y3, h3⟩ : ∃ y, y = qf (mMv1 3 32) y2 9 := ⟨_, rfl⟩
  obtain ⟨y4, h4⟩ : ∃ y, y = qf (mMv1 4 41) y3 16 := ⟨_, rfl⟩
  obtain ⟨y5, h5⟩ : ∃ y, y = qf (mMv1 5 57) y4 55 := ⟨_, rfl⟩
  obtain ⟨y6, h6⟩ : ∃ y, y = qf (mMv1 6 112) y5 140 := ⟨_, rfl⟩
  have E : mAll1 τ = y6 := by
    rw [h6, h5, h4, h3, h2, h1, h0, mAll1]
  have z0 : ∀ b, b ≠ 0 → y0 b = τ b := fun b hb => by rw [h0]; exact qs_cell _ _ _ _ hb
  have z1 : ∀ k, k ≠ 12 → y0 0 k = τ 0 k := fun k hk => by rw [h0]; exact qs_slot _ _ _ _ hk
  have A := mv1_at 1 0 (by decide) (by decide) y0 8
  have B := mv1_at 2 8 (by decide) (by decide) y1 24
  have C := mv1_at 3 32 (by decide) (by decide) y2 9
  have D := mv1_at 4 41 (by decide) (by decide) y3 16
  have F := mv1_at 5 57 (by decide) (by decide) y4 55
  have G := mv1_at 6 112 (by decide) (by decide) y5 140
  rw [← h1] at A
  rw [← h2] at B
  rw [← h3] at C
  rw [← h4] at D
  rw [← h5] at F
  rw [← h6] at G
  rw [E]
  exact mAll1_gen z0 z1 A.1 A.2.1 A.2.2.1 B.1 B.2.1 B.2.2.1 B.2.2.2 C.1 C.2.1 C.2.2.1 C.2.2.2 D.1 D.2.1 D.2.2.1 D.2.2.2 F.1 F.2.1 F.2.2.1 F.2.2.2 G.1 G.2.1 G.2.2.1 G.2.2.2
theorem mAll0_at (τ : qx_S) : mAll0 τ 7 = τ 7 ∧ (∀ k, k ≠ 12 → mAll0 τ 0 k = τ 0 k) ∧ (∀ j k, lM j k → mAll0 τ j k = kw τ j k) := by
  have z0 : ∀ b, b ≠ 0 → qs τ 0 12 0 b = τ b := fun b hb => qs_cell _ _ _ _ hb
  have z1 : ∀ k, k ≠ 12 → qs τ 0 12 0 0 k = τ 0 k := fun k hk => qs_slot _ _ _ _ hk
  unfold mAll0
  generalize qs τ 0 12 0 = y0 at z0 z1
  obtain ⟨a1, a2, a3⟩ := mv0_at 1 0 (by decide) (by decide) y0 8
  generalize qf (mMv0 1 0) y0 8 = y1 at a1 a2 a3
  obtain ⟨b1, b2, b3⟩ := mv0_at 2 8 (by decide) (by decide) y1 24
  generalize qf (mMv0 2 8) y1 24 = y2 at b1 b2 b3
  obtain ⟨c1, c2, c3⟩ := mv0_at 3 32 (by decide) (by decide) y2 9
  generalize qf (mMv0 3 32) y2 9 = y3 at c1 c2 c3
  obtain ⟨d1, d2, d3⟩ := mv0_at 4 41 (by decide) (by decide) y3 16
  generalize qf (mMv0 4 41) y3 16 = y4 at d1 d2 d3
  obtain ⟨e1, e2, e3⟩ := mv0_at 5 57 (by decide) (by decide) y4 55
  generalize qf (mMv0 5 57) y4 55 = y5 at e1 e2 e3
  obtain ⟨f1, f2, f3⟩ := mv0_at 6 112 (by decide) (by decide) y5 140
  generalize qf (mMv0 6 112) y5 140 = y6 at f1 f2 f3
  have q0 := z0 7 (by decide)
  have q1 : y1 7 = τ 7 := by rw [a1 7 (by decide) (by decide), q0]
  have q2 : y2 7 = τ 7 := by rw [b1 7 (by decide) (by decide), q1]
  have q3 : y3 7 = τ 7 := by rw [c1 7 (by decide) (by decide), q2]
  have q4 : y4 7 = τ 7 := by rw [d1 7 (by decide) (by decide), q3]
  have q5 : y5 7 = τ 7 := by rw [e1 7 (by decide) (by decide), q4]
  have q6 : y6 7 = τ 7 := by rw [f1 7 (by decide) (by decide), q5]
  refine ⟨q6, fun k hk => by rw [f2 k hk, e2 k hk, d2 k hk, c2 k hk, b2 k hk, a2 k hk, z1 k hk], fun j k hl => ?_⟩
  unfold lM at hl
  rcases (show j = 1 ∨ j = 2 ∨ j = 3 ∨ j = 4 ∨ j = 5 ∨ j = 6 by omega) with rfl | rfl | rfl | rfl | rfl | rfl
  · show y6 1 k = τ 7 k
    rw [f1 1 (by decide) (by decide), e1 1 (by decide) (by decide), d1 1 (by decide) (by decide), c1 1 (by decide) (by decide), b1 1 (by decide) (by decide), a3 k (by omega), q0, Nat.zero_add]
  · show y6 2 k = τ 7 (8 + k)
    rw [f1 2 (by decide) (by decide), e1 2 (by decide) (by decide), d1 2 (by decide) (by decide), c1 2 (by decide) (by decide), b3 k (by omega), q1]
  · show y6 3 k = τ 7 (32 + k)
    rw [f1 3 (by decide) (by decide), e1 3 (by decide) (by decide), d1 3 (by decide) (by decide), c3 k (by omega), q2]
  · show y6 4 k = τ 7 (41 + k)
    rw [f1 4 (by decide) (by decide), e1 4 (by decide) (by decide), d3 k (by omega), q3]
  · show y6 5 k = τ 7 (57 + k)
    rw [f1 5 (by decide) (by decide), e3 k (by omega), q4]
  · show y6 6 k = τ 7 (112 + k)
    rw [f3 k (by omega), q5]
theorem kw_to {x y : qx_S} (h : x 7 = y 7) : kw x = kw y := by
  funext j k
  unfold kw
  rw [h]
theorem rR_kept {σ τ : qx_S} {P S n : Nat} (hR : rR σ τ) (h : rV σ τ P S n) : RelKept rR σ τ := by
  obtain ⟨m1, m2, m3⟩ := mAll1_at τ
  have k2 : kw (qs (mAll1 τ) 0 6 1) = kw (mAll1 τ) := kw_to (qs_cell _ _ _ _ (by decide))
  refine ⟨⟨⟨P, S, n, rV_ext h (fun j k hl => ?_) (fun j k hl => ?_)⟩, ?_, Or.inr ⟨?_, ?_, P, S, n, rV_ext h (fun j k hl => ?_) (fun j k hl => ?_)⟩⟩, ?_⟩
  · rw [kpt_view σ (by unfold lC at hl; omega) (by unfold lC at hl; omega)]
  · rw [q_ne _ _ _ _ _ (by unfold lM at hl; omega), m1 j (by unfold lM at hl; omega) (by unfold lM at hl; omega)]
  · have k32 : kpt σ 32 2 = σ 7 2 := kpt_at σ (j := 7) (k := 2) (by unfold lC; omega)
    rw [k32]
    exact h.2.2.1.1.2.1
  · unfold kpt
    rw [qs_same]
  · rw [qs_same]
  · unfold kv
    rw [if_neg (by unfold lC at hl; omega)]
    exact kpt_at σ hl
  · rw [k2]
    exact m3 j k hl
  · unfold fBack mBack
    rcases hR.2.2 with ⟨z1, z2⟩ | ⟨z1, z2, P2, S2, n2, V⟩
    · rw [if_pos z1, if_pos z2]; exact ⟨rfl, hR⟩
    · rw [if_neg (by rw [z1]; decide), if_neg (by rw [z2]; decide)]
      obtain ⟨w1, w2, w3⟩ := mAll0_at τ
      refine rS rfl (rR_keep hR ⟨P2, S2, n2, rV_ext V (fun j k hl => ?_) (fun j k hl => w3 j k hl)⟩ (fun j hj => bck_cell σ (by omega)) w1 (by rw [bck_cell σ (by decide)]) (w2 6 (by decide)))
      rw [bck_at σ hl]
      unfold kv
      rw [if_neg (by unfold lC at hl; omega)]
