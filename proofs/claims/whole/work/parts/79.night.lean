/-! the night -/
theorem rR_shut {σ τ : qx_S} {P S n : Nat} (hR : rR σ τ) (h : rV σ τ P S n) : RelSame rR (fShut σ) (mShut τ) := by
  unfold fShut mShut
  rcases rV_open h with ⟨o1, o2⟩ | ⟨o1, o2⟩
  · rw [if_pos o1, if_neg o2]; exact ⟨rfl, hR⟩
  rw [if_neg o1, if_pos o2]
  obtain ⟨hSt, hIv, ⟨⟨d1, d2, d3⟩, nb⟩, hGu⟩ := h
  have hS5 : S ≤ 5 := hSt.2.1.2.2
  refine rS ?_ (rR_keep hR ⟨P, S, n, rSt_to hSt rfl rfl rfl rfl rfl rfl (fun k hk => qs_slot _ _ _ _ (by omega)) (fun k _ => rfl) (fun k _ => rfl) (fun k _ => rfl) (fun s t _ _ => rfl), rIv_to hIv rfl rfl rfl, ⟨⟨?_, Or.inl (by rw [qs_same]), ?_⟩, nb⟩, rGu_to hGu rfl rfl rfl rfl rfl rfl rfl rfl rfl ⟨qs_slot _ _ _ _ (by decide), qs_slot _ _ _ _ (by decide)⟩ (fun s _ => rfl) rfl hS5⟩ (fun j hj => qs_cell _ _ _ _ (by omega)) rfl rfl rfl)
  · rw [qs_slot _ _ _ _ (by decide), qs_slot _ _ _ _ (by decide)]; exact d3.symm
  · rw [qs_same, qs_same]
  · rw [qs_slot _ _ _ _ (by decide), qs_slot _ _ _ _ (by decide)]; exact d3
theorem rV_12 {σ τ : qx_S} {P S n k : Nat} (h : rV σ τ P S n) (hk : k < 3) (x : Int32) : rV (qs σ 12 k x) (qs τ 3 (3 * k + 1) x) P S n := by
  obtain ⟨hSt, hIv, ⟨nz, nb, nc, nd, ne, nf, ng⟩, hGu⟩ := h
  have hS5 : S ≤ 5 := hSt.2.1.2.2
  refine ⟨rSt_to hSt rfl rfl rfl rfl rfl rfl (fun k hk => rfl) (fun k _ => rfl) (fun q _ => qs_slot _ _ _ _ (by omega)) (fun k _ => rfl) (fun s t _ _ => rfl), rIv_to hIv rfl rfl rfl, ⟨nz, nb, nc, nd, ne, fun q hq => ⟨?_, ?_⟩, ng⟩, rGu_to hGu rfl rfl rfl rfl rfl rfl rfl rfl rfl ⟨rfl, rfl⟩ (fun s _ => rfl) rfl hS5⟩
  · rw [qc1, qc1]
    by_cases z : q = k
    · rw [if_pos (by omega), if_pos z]
    · rw [if_neg (by omega), if_neg z]; exact (nf q hq).1
  · rw [qs_slot _ _ _ _ (by omega), q_ne _ _ _ _ _ (by decide)]; exact (nf q hq).2
theorem rV_13 {σ τ : qx_S} {P S n k : Nat} (h : rV σ τ P S n) (hk : k < 3) (x : Int32) : rV (qs σ 13 k x) (qs τ 3 (3 * k + 2) x) P S n := by
  obtain ⟨hSt, hIv, ⟨nz, nb, nc, nd, ne, nf, ng⟩, hGu⟩ := h
  have hS5 : S ≤ 5 := hSt.2.1.2.2
  refine ⟨rSt_to hSt rfl rfl rfl rfl rfl rfl (fun k hk => rfl) (fun k _ => rfl) (fun q _ => qs_slot _ _ _ _ (by omega)) (fun k _ => rfl) (fun s t _ _ => rfl), rIv_to hIv rfl rfl rfl, ⟨nz, nb, nc, nd, ne, fun q hq => ⟨?_, ?_⟩, ng⟩, rGu_to hGu rfl rfl rfl rfl rfl rfl rfl rfl rfl ⟨rfl, rfl⟩ (fun s _ => rfl) rfl hS5⟩
  · rw [qs_slot _ _ _ _ (by omega), q_ne _ _ _ _ _ (by decide)]; exact (nf q hq).1
  · rw [qc1, qc1]
    by_cases z : q = k
    · rw [if_pos (by omega), if_pos z]
    · rw [if_neg (by omega), if_neg z]; exact (nf q hq).2
theorem rV_over {σ τ : qx_S} {P S n k : Nat} (h : rV σ τ P S n) (hk : k < 3) : nOver σ k ↔ mOver τ k S := by
  unfold nOver mOver
  rw [rV_watts h, h.1.2.2.2.1 k hk, (h.2.2.1.2.2.2.2.2.1 k hk).1]
theorem rR_3 {σ τ σ2 τ2 : qx_S} {P S n : Nat} (hR : rR σ τ) (V : rV σ2 τ2 P S n) (h1 : ∀ j, j ≠ 12 → j ≠ 13 → σ2 j = σ j) (h2 : ∀ j, j ≠ 3 → τ2 j = τ j) : rR σ2 τ2 :=
  rR_keep hR ⟨P, S, n, V⟩ (fun j hj => h1 j (by omega) (by omega)) (h2 7 (by decide)) (by rw [h1 0 (by decide) (by decide)]) (by rw [h2 0 (by decide)])
theorem rR_plug {σ τ : qx_S} {P S n : Nat} (hR : rR σ τ) (h : rV σ τ P S n) (a x : Int32) : RelSame rR (fPlug σ a x) (mPlug τ a x S) := by
  unfold fPlug mPlug
  rcases rV_open h with ⟨o1, o2⟩ | ⟨o1, o2⟩
  · rw [if_pos o1, if_neg o2]; exact ⟨rfl, hR⟩
  rw [if_neg o1, if_pos o2]
  by_cases ha : 0 ≤ a ∧ a ≤ 2
  rotate_left
  · rw [if_neg ha, if_neg ha]; exact ⟨rfl, hR⟩
  rw [if_pos ha, if_pos ha]
  obtain ⟨k, hk, rfl⟩ := qx_inI 2 (by decide) ha
  rw [ixN (by omega)]
  by_cases hx : 0 ≤ x ∧ x ≤ 99
  rotate_left
  · rw [if_neg hx, if_neg hx]; exact ⟨rfl, hR⟩
  rw [if_pos hx, if_pos hx, (h.2.2.1.2.2.2.2.2.1 k (by omega)).2]
  by_cases hz : σ 13 k = 1
  · rw [if_pos hz, if_pos hz]; exact ⟨rfl, hR⟩
  rw [if_neg hz, if_neg hz]
  have V1 := rV_12 h (show k < 3 by omega) x
  have ov := rV_over V1 (show k < 3 by omega)
  have E : (if mOver (qs τ 3 (3 * k + 1) x) k S then (1 : Int32) else 0) = (if nOver (qs σ 12 k x) k then 1 else 0) := by
    by_cases z : nOver (qs σ 12 k x) k
    · rw [if_pos z, if_pos (ov.mp z)]
    · rw [if_neg z, if_neg (fun y => z (ov.mpr y))]
  unfold plg mPlg
  rw [E]
  refine rS ?_ (rR_3 hR (rV_13 V1 (by omega) _) (fun j h1 h2 => ?_) (fun j h3 => ?_))
  · exact (qs_same _ _ _ _).trans (qs_same _ _ _ _).symm
  · rw [qs_cell _ _ _ _ h2, qs_cell _ _ _ _ h1]
  · rw [qs_cell _ _ _ _ h3, qs_cell _ _ _ _ h3]
theorem rR_reset {σ τ : qx_S} {P S n : Nat} (hR : rR σ τ) (h : rV σ τ P S n) (a : Int32) : RelSame rR (fReset σ a) (mReset τ a S) := by
  unfold fReset mReset
  rcases rV_open h with ⟨o1, o2⟩ | ⟨o1, o2⟩
  · rw [if_pos o1, if_neg o2]; exact ⟨rfl, hR⟩
  rw [if_neg o1, if_pos o2]
  by_cases ha : 0 ≤ a ∧ a ≤ 2
  rotate_left
  · rw [if_neg ha, if_neg ha]; exact ⟨rfl, hR⟩
  rw [if_pos ha, if_pos ha]
  obtain ⟨k, hk, rfl⟩ := qx_inI 2 (by decide) ha
  rw [ixN (by omega), (h.2.2.1.2.2.2.2.2.1 k (by omega)).2]
  have ov := rV_over h (show k < 3 by omega)
  by_cases hz : σ 13 k = 0
  · rw [if_pos hz, if_pos hz]; exact ⟨rfl, hR⟩
  rw [if_neg hz, if_neg hz]
  by_cases z : nOver σ k
  · rw [if_pos z, if_pos (ov.mp z)]; exact ⟨rfl, hR⟩
  rw [if_neg z, if_neg (fun y => z (ov.mpr y))]
  exact rS rfl (rR_3 hR (rV_13 h (by omega) 0) (fun j h1 h2 => qs_cell _ _ _ _ h2) (fun j h3 => qs_cell _ _ _ _ h3))
theorem rR_pull {σ τ : qx_S} {P S n : Nat} (hR : rR σ τ) (h : rV σ τ P S n) (a : Int32) : RelSame rR (fPull σ a) (mPull τ a) := by
  unfold fPull mPull
  rcases rV_open h with ⟨o1, o2⟩ | ⟨o1, o2⟩
  · rw [if_pos o1, if_neg o2]; exact ⟨rfl, hR⟩
  rw [if_neg o1, if_pos o2]
  by_cases ha : 0 ≤ a ∧ a ≤ 2
  rotate_left
  · rw [if_neg ha, if_neg ha]; exact ⟨rfl, hR⟩
  rw [if_pos ha, if_pos ha]
  obtain ⟨k, hk, rfl⟩ := qx_inI 2 (by decide) ha
  rw [ixN (by omega)]
  exact rS (h.2.2.1.2.2.2.2.2.1 k (by omega)).1.symm (rR_3 hR (rV_12 h (by omega) 0) (fun j h1 h2 => qs_cell _ _ _ _ h1) (fun j h3 => qs_cell _ _ _ _ h3))
theorem rR_go {σ τ : qx_S} {P S n : Nat} (hR : rR σ τ) (h : rV σ τ P S n) (a : Int32) : RelSame rR (fGo σ a n) (mGo τ a S n) := by
  unfold fGo mGo
  rcases rV_open h with ⟨o1, o2⟩ | ⟨o1, o2⟩
  · rw [if_pos o1, if_neg o2]; exact ⟨rfl, hR⟩
  rw [if_neg o1, if_pos o2]
  by_cases ha : 1 ≤ a ∧ a ≤ 50
  rotate_left
  · rw [if_neg ha, if_neg ha]; exact ⟨rfl, hR⟩
  rw [if_pos ha, if_pos ha]
  have V := rV_go h (ix a)
  exact rS V.2 (rR_keep hR ⟨P, S, n, V.1⟩ (fun j hj => goS_cell n σ (ix a) (by omega)) (mGoS_cell S n τ (ix a) (by decide)) (by rw [goS_cell n σ (ix a) (by decide)]) (by rw [mGoS_cell S n τ (ix a) (by decide)]))
theorem ga_at (σ : qx_S) (n : Nat) (dish pat : Int32) : (∀ j, j < 14 ∨ 20 < j → gAdd σ n dish pat j = σ j) ∧ gAdd σ n dish pat 14 0 = nI (n + 1) ∧ (∀ j g, 15 ≤ j → j ≤ 20 → g ≠ n → gAdd σ n dish pat j g = σ j g) ∧ gAdd σ n dish pat 15 n = 0 ∧ gAdd σ n dish pat 16 n = 0 ∧ gAdd σ n dish pat 17 n = pat ∧ gAdd σ n dish pat 18 n = dish ∧ gAdd σ n dish pat 19 n = -4 ∧ gAdd σ n dish pat 20 n = -4 := by
  unfold gAdd
  refine ⟨fun j hj => ?_, ?_, fun j g h1 h2 hg => ?_, ?_, ?_, ?_, ?_, ?_, ?_⟩
  · rw [qs_cell _ _ _ _ (by omega), qs_cell _ _ _ _ (by omega), qs_cell _ _ _ _ (by omega), qs_cell _ _ _ _ (by omega), qs_cell _ _ _ _ (by omega), qs_cell _ _ _ _ (by omega), qs_cell _ _ _ _ (by omega)]
  · simp [qs_at]
  · simp only [qs_at]
    rw [if_neg (fun z => hg z.2), if_neg (fun z => hg z.2), if_neg (fun z => hg z.2), if_neg (fun z => hg z.2), if_neg (fun z => hg z.2), if_neg (fun z => hg z.2), if_neg (by omega)]
  · simp [qs_at]
  · simp [qs_at]
  · simp [qs_at]
  · simp [qs_at]
  · simp [qs_at]
  · simp [qs_at]
theorem ma_at (τ : qx_S) (n : Nat) (dish pat : Int32) : (∀ j, j ≠ 6 → mAdd τ n dish pat j = τ j) ∧ (∀ g i, g ≠ n → i < 7 → mAdd τ n dish pat 6 (7 * g + i) = τ 6 (7 * g + i)) ∧ mAdd τ n dish pat 6 (7 * n) = dish ∧ mAdd τ n dish pat 6 (7 * n + 1) = pat ∧ mAdd τ n dish pat 6 (7 * n + 2) = 0 ∧ mAdd τ n dish pat 6 (7 * n + 3) = 0 := by
  unfold mAdd
  refine ⟨fun j hj => ?_, fun g i hg hi => ?_, ?_, ?_, ?_, ?_⟩
  · rw [qs_cell _ _ _ _ hj, qs_cell _ _ _ _ hj, qs_cell _ _ _ _ hj, qs_cell _ _ _ _ hj, qs_cell _ _ _ _ hj, qs_cell _ _ _ _ hj, qs_cell _ _ _ _ hj]
  · rw [qs_slot _ _ _ _ (by omega), qs_slot _ _ _ _ (by omega), qs_slot _ _ _ _ (by omega), qs_slot _ _ _ _ (by omega), qs_slot _ _ _ _ (by omega), qs_slot _ _ _ _ (by omega), qs_slot _ _ _ _ (by omega)]
  · rw [qs_slot _ _ _ _ (by omega), qs_slot _ _ _ _ (by omega), qs_slot _ _ _ _ (by omega), qs_slot _ _ _ _ (by omega), qs_slot _ _ _ _ (by omega), qs_slot _ _ _ _ (by omega), qs_same]
  · rw [qs_slot _ _ _ _ (by omega), qs_slot _ _ _ _ (by omega), qs_slot _ _ _ _ (by omega), qs_slot _ _ _ _ (by omega), qs_slot _ _ _ _ (by omega), qs_same]
  · rw [qs_slot _ _ _ _ (by omega), qs_slot _ _ _ _ (by omega), qs_slot _ _ _ _ (by omega), qs_slot _ _ _ _ (by omega), qs_same]
  · rw [qs_slot _ _ _ _ (by omega), qs_slot _ _ _ _ (by omega), qs_slot _ _ _ _ (by omega), qs_same]
theorem rGu_add {v w v2 w2 : qx_S} {P S n : Nat} (H : rGu v w P S n) (hn : n < 20) (hP : 1 ≤ P) (h14 : v2 14 0 = nI (n + 1)) (g14 : w2 1 4 = nI (n + 1)) (g17 : w2 1 7 = w 1 7) (h8 : v2 8 = v 8) (h11 : v2 11 = v 11) (g5 : w2 5 = w 5) (hv : ∀ j g, 15 ≤ j → j ≤ 20 → g ≠ n → v2 j g = v j g) (hw : ∀ g i, g ≠ n → i < 7 → w2 6 (7 * g + i) = w 6 (7 * g + i)) (v15 : v2 15 n = 0) (v16 : v2 16 n = 0) (v19 : v2 19 n = -4) (w0 : w2 6 (7 * n) = v2 18 n) (w1 : w2 6 (7 * n + 1) = v2 17 n) (w2_ : w2 6 (7 * n + 2) = 0) (w3 : w2 6 (7 * n + 3) = 0) : rGu v2 w2 P S (n + 1) := by
  obtain ⟨a, b, c, d, t, t1, t2, t3, t4⟩ := H
  have e15 : ∀ g, g < n → v2 15 g = v 15 g := fun g hg => hv 15 g (by decide) (by decide) (by omega)
  have e16 : ∀ g, g < n → v2 16 g = v 16 g := fun g hg => hv 16 g (by decide) (by decide) (by omega)
  have e19 : ∀ g, g < n → v2 19 g = v 19 g := fun g hg => hv 19 g (by decide) (by decide) (by omega)
  refine ⟨⟨h14, g14, by omega⟩, fun g hg => ?_, fun s hs => ?_, fun g h p q hgh hh k1 k2 k3 k4 hp8 hq8 => ?_, t, ?_, by rw [g17]; exact t2, fun g hg k1 => ?_, fun g h x y hgh hh k1 k2 k3 k4 k5 => ?_⟩
  · by_cases e : g = n
    · subst e
      exact ⟨by rw [w2_, v15], w0, w1, Or.inl ⟨v15, v19, by rw [w3, v16], 0, by omega, v16⟩⟩
    · exact rG1_to (b g (by omega)) h8 (fun j h1 h2 => hv j g h1 h2 e) (fun i hi => hw g i e hi)
  · obtain ⟨l, hl, el, hc⟩ := c s hs
    refine ⟨l, hl, by rw [h11]; exact el, ?_⟩
    rcases hc with ⟨l0, z⟩ | ⟨l0, g, hg, z1, z2, z3, z4⟩
    · refine Or.inl ⟨l0, fun g hg k => ?_⟩
      by_cases e : g = n
      · rw [e, v15] at k; exact absurd k (by decide)
      · rw [e15 g (by omega)] at k
        rw [e19 g (by omega)]; exact z g (by omega) k
    · refine Or.inr ⟨l0, g, by omega, by rw [e15 g hg]; exact z1, by rw [e19 g hg]; exact z2, by rw [g5]; exact z3, fun u hu k1 k2 => ?_⟩
      by_cases e : u = n
      · rw [e, v15] at k1; exact absurd k1 (by decide)
      · rw [e15 u (by omega)] at k1
        rw [e19 u (by omega)] at k2
        exact z4 u (by omega) k1 k2
  · by_cases e : h = n
    · subst e
      rw [v16] at k4
      have q0 : 0 = q := (nI_eq (a := 0) (by decide) (by omega)).mp k4
      exact ⟨by omega, fun z => by rw [v15] at z; exact absurd z (by decide)⟩
    · rw [e15 g (by omega)] at k1
      rw [e16 g (by omega)] at k2
      rw [e15 h (by omega)] at k3 ⊢
      rw [e16 h (by omega)] at k4
      exact d g h p q hgh (by omega) k1 k2 k3 k4 hp8 hq8
  · rw [rNw, rNw_ext n e15, if_pos v15]
    exact t1
  · by_cases e : g = n
    · rw [e, v15] at k1; exact absurd k1 (by decide)
    · rw [e15 g (by omega)] at k1
      rw [hw g 5 e (by decide)]; exact t3 g (by omega) k1
  · by_cases e : h = n
    · rw [e, v15] at k2; exact absurd k2 (by decide)
    · rw [e15 g (by omega)] at k1
      rw [e15 h (by omega)] at k2
      rw [e19 g (by omega), e19 h (by omega)] at k3
      rw [hw g 5 (by omega) (by decide)] at k4
      rw [hw h 5 e (by decide)] at k5
      exact t4 g h x y hgh (by omega) k1 k2 k3 k4 k5
theorem rR_guest {σ τ : qx_S} {P S n : Nat} (hR : rR σ τ) (h : rV σ τ P S n) (a b : Int32) : RelSame rR (fGuest σ a b n) (mGuest τ a b n) := by
  unfold fGuest mGuest
  rcases rV_open h with ⟨o1, o2⟩ | ⟨o1, o2⟩
  · rw [if_pos o1, if_neg o2]; exact ⟨rfl, hR⟩
  rw [if_neg o1, if_pos o2]
  by_cases ha : 0 ≤ a ∧ a ≤ 5
  rotate_left
  · rw [if_neg ha, if_neg ha]; exact ⟨rfl, hR⟩
  rw [if_pos ha, if_pos ha]
  by_cases hb : 1 ≤ b ∧ b ≤ 50
  rotate_left
  · rw [if_neg hb, if_neg hb]; exact ⟨rfl, hR⟩
  have n20 : n ≤ 20 := h.2.2.2.1.2.2
  have t14 : τ 1 4 = nI n := h.2.2.2.1.2.1
  rw [if_pos hb, if_pos hb, h.2.2.2.1.1, t14]
  by_cases hn : n = 20
  · rw [if_neg (fun z => by have := (nI_ltI (b := 20) (by omega) (by decide)).mp z; omega), if_pos (by rw [hn]; rfl)]; exact ⟨rfl, hR⟩
  have lt : nI n < (20 : Int32) := (nI_ltI (b := 20) (by omega) (by decide)).mpr (by omega)
  rw [if_pos lt, if_neg (fun z => by have := (nI_eq (b := 20) (by omega) (by decide)).mp z; omega)]
  obtain ⟨v1, v2, v3, v4, v5, v6, v7, v8, v9⟩ := ga_at σ n a b
  obtain ⟨w1, w2, w3, w4, w5, w6⟩ := ma_at τ n a b
  have x4 : mAdd2 (mAdd τ n a b) 1 4 = nI (n + 1) := by
    unfold mAdd2
    rw [qs_same, w1 1 (by decide), t14, nI_1]
  have x1 : ∀ k, k ≠ 4 → mAdd2 (mAdd τ n a b) 1 k = τ 1 k := fun k hk => by
    unfold mAdd2
    rw [qs_slot _ _ _ _ hk, w1 1 (by decide)]
  have xj : ∀ j, j ≠ 1 → j ≠ 6 → mAdd2 (mAdd τ n a b) j = τ j := fun j h1 h6 => by
    unfold mAdd2
    rw [qs_cell _ _ _ _ h1, w1 j h6]
  have x6 : mAdd2 (mAdd τ n a b) 6 = mAdd τ n a b 6 := rfl
  rw [x4, nI_pred]
  generalize mAdd2 (mAdd τ n a b) = w at x4 x1 xj x6
  generalize gAdd σ n a b = v at v1 v2 v3 v4 v5 v6 v7 v8 v9
  obtain ⟨hSt, hIv, hNi, hGu⟩ := h
  have hS5 : S ≤ 5 := hSt.2.1.2.2
  have c : ∀ j, j < 14 → v j = σ j := fun j hj => v1 j (by omega)
  refine rS rfl (rR_keep hR ⟨P, S, n + 1, rSt_to hSt (c 1 (by decide)) (c 2 (by decide)) (c 3 (by decide)) (c 4 (by decide)) (c 5 (by decide)) (c 6 (by decide)) (fun k hk => x1 k (by omega)) (fun k _ => by rw [xj 2 (by decide) (by decide)]) (fun k _ => by rw [xj 3 (by decide) (by decide)]) (fun k _ => by rw [xj 4 (by decide) (by decide)]) (fun s t _ _ => by rw [xj 5 (by decide) (by decide)]), rIv_to hIv (c 2 (by decide)) (c 4 (by decide)) (c 6 (by decide)), rNi_to hNi ⟨by rw [c 7 (by decide)], by rw [c 7 (by decide)]⟩ (c 8 (by decide)) (c 9 (by decide)) (c 10 (by decide)) (c 11 (by decide)) (c 12 (by decide)) (c 13 (by decide)) ⟨x1 2 (by decide), x1 3 (by decide)⟩ (fun k _ => by rw [xj 3 (by decide) (by decide)]; exact ⟨rfl, rfl⟩) (fun s t _ _ _ => by rw [xj 5 (by decide) (by decide)]) hS5, rGu_add hGu (by omega) hSt.1.2.2.1 v2 x4 (x1 7 (by decide)) (c 8 (by decide)) (c 11 (by decide)) (xj 5 (by decide) (by decide)) v3 (fun g i hg hi => by rw [x6]; exact w2 g i hg hi) v4 v5 v8 (by rw [x6, v7]; exact w3) (by rw [x6, v6]; exact w4) (by rw [x6]; exact w5) (by rw [x6]; exact w6)⟩ (fun j hj => v1 j (by omega)) (xj 7 (by decide) (by decide)) (by rw [c 0 (by decide)]) (by rw [xj 0 (by decide) (by decide)]))
theorem rR_night {σ τ : qx_S} {P S n : Nat} (hR : rR σ τ) (h : rV σ τ P S n) : RelNight rR σ τ P S n :=
  ⟨rR_shut hR h, fun a b => rR_guest hR h a b, fun a => rR_go hR h a, fun a b => rR_plug hR h a b, fun a => rR_reset hR h a, fun a => rR_pull hR h a⟩
