/-! layouts, and opening a night -/
theorem rR_find {σ τ : qx_S} {P S n : Nat} (night : Int32) (hR : rR σ τ) (h : rV σ τ P S n) : rV (pFind σ night P S) (mFind τ night P S) P S n ∧ rR (pFind σ night P S) (mFind τ night P S) := by
  obtain ⟨w, m, c, f1, f2, f3, f4, f5, f6, f7, f8, f9, f10, f11⟩ := find_is night h
  have V : rV (pFind σ night P S) (mFind τ night P S) P S n := rV_ext h (fun j k hl => by rw [f3 j (by unfold lC at hl; omega) (by unfold lC at hl; omega)]) (fun j k hl => by rw [f8 j (by unfold lM at hl; omega) (by unfold lM at hl; omega) (by unfold lM at hl; omega)])
  exact ⟨V, rR_keep hR ⟨P, S, n, V⟩ (fun j hj => f3 j (by omega) (by omega)) (f8 7 (by decide) (by decide) (by decide)) (by rw [f4]) (f9 6 (by decide) (by decide))⟩
theorem rR_layout {σ τ : qx_S} {P S n : Nat} (hR : rR σ τ) (h : rV σ τ P S n) (a b : Int32) : RelSame rR (fLayout σ a b P S) (mLayout τ a b P S) := by
  unfold fLayout mLayout
  have hS5 : S ≤ 5 := h.1.2.1.2.2
  have hP8 : P ≤ 8 := h.1.1.2.2.2
  by_cases ha : 0 ≤ a ∧ a ≤ 99
  rotate_left
  · rw [if_neg ha, if_neg ha]; exact ⟨rfl, hR⟩
  rw [if_pos ha, if_pos ha, h.1.2.1.1, h.1.2.1.2.1]
  by_cases hb : 0 ≤ b ∧ b ≤ nI S - 1
  rotate_left
  · rw [if_neg hb, if_neg hb]; exact ⟨rfl, hR⟩
  rw [if_pos hb, if_pos hb]
  obtain ⟨s, hs, rfl⟩ := qx_has rfl (by omega) hb
  rw [ixN (by omega)]
  refine rS ?_ (rR_find a hR h).2
  obtain ⟨w, m, c, f1, f2, f3, f4, f5, f6, f7, f8, f9, f10, f11⟩ := find_is a h
  have cs := f1 s hs
  rw [f6 s hs, f11 s hs, f8 1 (by decide) (by decide) (by decide), h.1.1.2.1]
  unfold cv
  by_cases z : c s = P
  · rw [if_pos z, if_pos (by rw [z])]
  · rw [if_neg z, if_neg (fun y => z ((nI_eq (by omega) (by omega)).mp y))]
theorem rR_worth {σ τ : qx_S} {P S n : Nat} (hR : rR σ τ) (h : rV σ τ P S n) (a : Int32) : RelSame rR (fWorth σ a P S) (mWorth τ a P S) := by
  unfold fWorth mWorth
  by_cases ha : 0 ≤ a ∧ a ≤ 99
  rotate_left
  · rw [if_neg ha, if_neg ha]; exact ⟨rfl, hR⟩
  rw [if_pos ha, if_pos ha]
  refine rS ?_ (rR_find a hR h).2
  obtain ⟨w, m, c, f1, f2, f3, f4, f5, f6, f7, f8, f9, f10, f11⟩ := find_is a h
  rw [f5, f10]
theorem nSet_at (σ : qx_S) : ∀ i, (∀ j, j ≠ 8 → nSet σ i j = σ j) ∧ (∀ s, s < i → nSet σ i 8 s = σ 23 s)
  | 0 => ⟨fun _ _ => rfl, fun s hs => absurd hs (Nat.not_lt_zero s)⟩
  | i + 1 => by
    obtain ⟨h1, h2⟩ := nSet_at σ i
    have E : nSet σ (i + 1) = qs (nSet σ i) 8 i (nSet σ i 23 i) := rfl
    rw [E]
    refine ⟨fun j hj => by rw [qs_cell _ _ _ _ hj]; exact h1 j hj, fun s hs => ?_⟩
    rw [qc1, h1 23 (by decide)]
    by_cases e : s = i
    · rw [if_pos e, e]
    · rw [if_neg e]; exact h2 s (by omega)
theorem mOpS_at (τ : qx_S) : ∀ i, (∀ j, j ≠ 5 → qf mOpS τ i j = τ j) ∧ (∀ s t, t < 11 → t ≠ 6 → qf mOpS τ i 5 (11 * s + t) = τ 5 (11 * s + t)) ∧ (∀ s, i ≤ s → qf mOpS τ i 5 (11 * s + 6) = τ 5 (11 * s + 6)) ∧ (∀ s, s < i → qf mOpS τ i 5 (11 * s + 6) = if τ 9 s = τ 1 0 then -1 else τ 9 s)
  | 0 => ⟨fun _ _ => rfl, fun _ _ _ _ => rfl, fun _ _ => rfl, fun s hs => absurd hs (Nat.not_lt_zero s)⟩
  | i + 1 => by
    obtain ⟨h1, h2, h3, h4⟩ := mOpS_at τ i
    rw [qf_S]
    generalize qf mOpS τ i = y at h1 h2 h3 h4
    unfold mOpS
    rw [h1 9 (by decide), h1 1 (by decide)]
    refine ⟨fun j hj => by rw [qs_cell _ _ _ _ hj]; exact h1 j hj, fun s t ht t6 => by rw [qs_slot _ _ _ _ (by omega)]; exact h2 s t ht t6, fun s hs => by rw [qs_slot _ _ _ _ (by omega)]; exact h3 s (by omega), fun s hs => ?_⟩
    by_cases e : s = i
    · rw [e, qs_same]
    · rw [qs_slot _ _ _ _ (by omega)]; exact h4 s (by omega)
theorem rV_opn {σ τ : qx_S} {P S n : Nat} (night : Int32) (hR : rR σ τ) (h : rV σ τ P S n) : rV (opn σ night P S) (mOp τ night P S S) P S 0 := by
  have V := (rR_find night hR h).1
  obtain ⟨w, m, c, f1, f2, f3, f4, f5, f6, f7, f8, f9, f10, f11⟩ := find_is night h
  have t10 : mFind τ night P S 1 0 = nI P := V.1.1.2.1
  unfold opn mOp mOp0
  generalize pFind σ night P S = v at V f3 f4 f5 f6 f7
  generalize mFind τ night P S = u at V f8 f9 f10 f11 t10
  have hS5 : S ≤ 5 := V.1.2.1.2.2
  have hP8 : P ≤ 8 := V.1.1.2.2.2
  have C := rV_clr V.1 V.2.1 ⟨V.2.2.1.1.1, V.2.2.1.1.2.1⟩
  obtain ⟨s1, s2⟩ := nSet_at (nClr v) 5
  obtain ⟨n1, n2, n3, n4⟩ := nClr_n v
  obtain ⟨m1, m2, m3, m4⟩ := mClr_n u
  obtain ⟨o1, o2, o3, o4⟩ := mOpS_at (qs (mClr u) 1 2 1) S
  have o4 : ∀ s, s < S → qf mOpS (qs (mClr u) 1 2 1) S 5 (11 * s + 6) = if c s = P then -1 else nI (c s) := fun s hs => by
    have e9 : qs (mClr u) 1 2 1 9 s = nI (c s) := by rw [q_ne _ _ _ _ _ (by decide), mClr_cell (by decide) (by decide) (by decide)]; exact f11 s hs
    have e1 : qs (mClr u) 1 2 1 1 0 = nI P := by rw [qs_slot _ _ _ _ (by decide), m1.2.2.2 0 (by decide) (by decide) (by decide)]; exact t10
    have cs := f1 s hs
    rw [o4 s hs, e9, e1]
    by_cases z : c s = P
    · rw [if_pos z, if_pos (by rw [z])]
    · rw [if_neg z, if_neg (fun y => z ((nI_eq (by omega) (by omega)).mp y))]
  have s2 : ∀ s, s < 5 → nSet (nClr v) 5 8 s = v 23 s := fun s hs => by rw [s2 s hs, nClr_lo v 23 (by decide)]
  have w1 : ∀ k, k ≠ 2 → qf mOpS (qs (mClr u) 1 2 1) S 1 k = mClr u 1 k := fun k hk => by rw [o1 1 (by decide), qs_slot _ _ _ _ hk]
  have w12 : qf mOpS (qs (mClr u) 1 2 1) S 1 2 = 1 := by rw [o1 1 (by decide), qs_same]
  have wj : ∀ j, j ≠ 1 → j ≠ 5 → qf mOpS (qs (mClr u) 1 2 1) S j = mClr u j := fun j h1 h5 => by rw [o1 j h5, qs_cell _ _ _ _ h1]
  have w5 : ∀ s t, t < 11 → t ≠ 6 → qf mOpS (qs (mClr u) 1 2 1) S 5 (11 * s + t) = mClr u 5 (11 * s + t) := fun s t h1 h2 => by rw [o2 s t h1 h2, q_ne _ _ _ _ _ (by decide)]
  have w56 : ∀ s, S ≤ s → qf mOpS (qs (mClr u) 1 2 1) S 5 (11 * s + 6) = mClr u 5 (11 * s + 6) := fun s h1 => by rw [o3 s h1, q_ne _ _ _ _ _ (by decide)]
  have vj : ∀ j, j ≠ 7 → j ≠ 8 → qs (nSet (nClr v) 5) 7 2 1 j = nClr v j := fun j h7 h8 => by rw [qs_cell _ _ _ _ h7, s1 j h8]
  have v8 : ∀ s, s < 5 → qs (nSet (nClr v) 5) 7 2 1 8 s = v 23 s := fun s hs => by rw [q_ne _ _ _ _ _ (by decide)]; exact s2 s hs
  have v72 : qs (nSet (nClr v) 5) 7 2 1 7 2 = 1 := by rw [qs_same]
  have v73 : qs (nSet (nClr v) 5) 7 2 1 7 3 = 0 := by rw [qs_slot _ _ _ _ (by decide), s1 7 (by decide)]; exact n1.2
  generalize qf mOpS (qs (mClr u) 1 2 1) S = w2 at o4 w1 w12 wj w5 w56
  generalize qs (nSet (nClr v) 5) 7 2 1 = v2 at vj v8 v72 v73
  refine ⟨rSt_to C.1 (vj 1 (by decide) (by decide)) (vj 2 (by decide) (by decide)) (vj 3 (by decide) (by decide)) (vj 4 (by decide) (by decide)) (vj 5 (by decide) (by decide)) (vj 6 (by decide) (by decide)) (fun k hk => w1 k (by omega)) (fun k _ => by rw [wj 2 (by decide) (by decide)]) (fun k _ => by rw [wj 3 (by decide) (by decide)]) (fun k _ => by rw [wj 4 (by decide) (by decide)]) (fun s t _ ht => w5 s t (by omega) (by omega)), rIv_to C.2.1 (vj 2 (by decide) (by decide)) (vj 4 (by decide) (by decide)) (vj 6 (by decide) (by decide)), ⟨⟨by rw [w12, v72], Or.inr v72, ?_⟩, fun s hs => ?_, fun s hs h5 => ?_, fun s t hs ht ne => ?_, fun s hs => ?_, fun k hk => ?_, fun s hs => ?_⟩, rGu_0 ?_ ?_ ?_ (fun s hs => ?_)⟩
  · rw [v73, w1 3 (by decide)]; exact m1.1
  · rw [v8 s (by omega), f6 s hs, o4 s hs]
    unfold cv
    have cs := f1 s hs
    by_cases z : c s = P
    · rw [if_pos z, if_pos z]; exact Or.inl ⟨rfl, rfl⟩
    · rw [if_neg z, if_neg z]; exact Or.inr ⟨c s, by omega, rfl, rfl⟩
  · rw [v8 s h5, f7 s hs h5, vj 9 (by decide) (by decide), vj 10 (by decide) (by decide), vj 11 (by decide) (by decide)]
    exact ⟨rfl, (n3 s h5).2⟩
  · rw [v8 s (by omega), v8 t (by omega), f6 s hs, f6 t ht]
    intro y
    have cs := f1 s hs
    have ct := f1 t ht
    rw [cv_4 hP8 cs]
    by_cases z : c s = P
    · exact z
    · by_cases x : c t = P
      · rw [x] at y
        have y4 : cv P (c s) = -4 := by rw [y]; exact (cv_4 hP8 (Nat.le_refl P)).mpr rfl
        exact (cv_4 hP8 cs).mp y4
      · unfold cv at y
        rw [if_neg z, if_neg x] at y
        exact f2 s t hs ht ne ((nI_eq (by omega) (by omega)).mp y)
  · rw [w5 s 7 (by decide) (by decide), w5 s 8 (by decide) (by decide), w5 s 9 (by decide) (by decide), vj 9 (by decide) (by decide), vj 10 (by decide) (by decide), vj 11 (by decide) (by decide)]
    exact C.2.2.1.2.2.2.2.1 s hs
  · rw [wj 3 (by decide) (by decide), vj 12 (by decide) (by decide), vj 13 (by decide) (by decide)]
    exact C.2.2.1.2.2.2.2.2.1 k hk
  · rcases Nat.lt_or_ge s S with z | z
    · rw [o4 s z]
      have cs := f1 s z
      by_cases y : c s = P
      · rw [if_pos y]; exact Or.inl rfl
      · rw [if_neg y]; exact Or.inr ⟨c s, by omega, rfl⟩
    · rw [w56 s z]; exact Or.inl (m3 s hs).1
  · rw [vj 14 (by decide) (by decide)]; exact n2
  · rw [w1 4 (by decide)]; exact m1.2.1
  · rw [w1 7 (by decide)]; exact m1.2.2.1
  · rw [vj 11 (by decide) (by decide)]; exact (n3 s (by omega)).2.2.2
theorem rR_open {σ τ : qx_S} {P S n : Nat} (hR : rR σ τ) (h : rV σ τ P S n) (a : Int32) : RelSame rR (fOpen σ a P S) (mOpenF τ a P S) := by
  unfold fOpen mOpenF
  rcases rV_open h with ⟨o1, o2⟩ | ⟨o1, o2⟩
  rotate_left
  · rw [if_neg o1, if_pos o2]; exact ⟨rfl, hR⟩
  rw [if_pos o1, if_neg o2]
  by_cases ha : 0 ≤ a ∧ a ≤ 99
  rotate_left
  · rw [if_neg ha, if_neg ha]; exact ⟨rfl, hR⟩
  rw [if_pos ha, if_pos ha]
  have V := rV_opn a hR h
  obtain ⟨w, m, c, f1, f2, f3, f4, f5, f6, f7, f8, f9, f10, f11⟩ := find_is a h
  refine rS (rV_stand V) (rR_keep hR ⟨P, S, 0, V⟩ (fun j hj => ?_) ?_ ?_ ?_)
  · unfold opn
    rw [qs_cell _ _ _ _ (by omega), (nSet_at _ 5).1 j (by omega), nClr_lo _ j (by omega), f3 j (by omega) (by omega)]
  · unfold mOp mOp0
    rw [(mOpS_at _ S).1 7 (by decide), qs_cell _ _ _ _ (by decide), mClr_cell (by decide) (by decide) (by decide), f8 7 (by decide) (by decide) (by decide)]
  · unfold opn
    rw [qs_cell _ _ _ _ (by decide), (nSet_at _ 5).1 0 (by decide), nClr_lo _ 0 (by decide), f4]
  · unfold mOp mOp0
    rw [(mOpS_at _ S).1 0 (by decide), qs_cell _ _ _ _ (by decide), mClr_cell (by decide) (by decide) (by decide), f9 6 (by decide) (by decide)]
theorem rR_plan {σ τ : qx_S} {P S n : Nat} (hR : rR σ τ) (h : rV σ τ P S n) : RelPlan rR σ τ P S n :=
  ⟨fun a b => rR_layout hR h a b, fun a => rR_worth hR h a, fun a => rR_open hR h a⟩
