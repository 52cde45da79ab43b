/-! what is set by day -/
theorem rS {R : qx_S → qx_S → Prop} {a b : Int32} {x y : qx_S} (h1 : a = b) (h2 : R x y) : RelSame R (a, x) (b, y) := ⟨h1, h2⟩
theorem rGu_0 {v w : qx_S} {P S : Nat} (a : v 14 0 = 0) (b : w 1 4 = 0) (c : w 1 7 = 0) (d : ∀ s, s < S → v 11 s = 0) : rGu v w P S 0 :=
  ⟨⟨a, b, by decide⟩, fun g hg => absurd hg (Nat.not_lt_zero g), fun s hs => ⟨0, by decide, d s hs, Or.inl ⟨rfl, fun g hg => absurd hg (Nat.not_lt_zero g)⟩⟩, fun g h p q _ hh => absurd hh (Nat.not_lt_zero h), 0, Nat.zero_le _, c, fun g hg => absurd hg (Nat.not_lt_zero g), fun g h a b _ hh => absurd hh (Nat.not_lt_zero h)⟩
theorem nClr_lo (v : qx_S) (j : Nat) (hj : j < 7 ∨ 14 < j) : nClr v j = v j := nClr_cell (by omega) (by omega) (by omega) (by omega) (by omega) (by omega) (by omega) (by omega)
theorem rV_clr {v w : qx_S} {P S : Nat} (hSt : rSt v w P S) (hIv : rIv v S) (h7 : w 1 2 = v 7 2 ∧ (v 7 2 = 0 ∨ v 7 2 = 1)) : rV (nClr v) (mClr w) P S 0 := by
  obtain ⟨n1, n2, n3, n4⟩ := nClr_n v
  obtain ⟨m1, m2, m3, m4⟩ := mClr_n w
  have hS5 : S ≤ 5 := hSt.2.1.2.2
  have c := nClr_lo v
  refine ⟨rSt_to hSt (c 1 (by decide)) (c 2 (by decide)) (c 3 (by decide)) (c 4 (by decide)) (c 5 (by decide)) (c 6 (by decide)) (fun k hk => m1.2.2.2 k (by omega) (by omega) (by omega)) (fun k _ => by rw [mClr_cell (by decide) (by decide) (by decide)]) (fun k hk => (m2 k hk).1) (fun k _ => by rw [mClr_cell (by decide) (by decide) (by decide)]) (fun s t _ ht => m4 s t ht), rIv_to hIv (c 2 (by decide)) (c 4 (by decide)) (c 6 (by decide)), ⟨⟨?_, ?_, ?_⟩, fun s hs => Or.inl ⟨(n3 s (by omega)).1, (m3 s (by omega)).1⟩, fun s _ h5 => n3 s h5, fun s t hs _ _ _ => (n3 s (by omega)).1, fun s hs => ⟨?_, ?_, ?_⟩, fun k hk => ⟨?_, ?_⟩, fun s hs => Or.inl (m3 s hs).1⟩, rGu_0 n2 m1.2.1 m1.2.2.1 (fun s hs => (n3 s (by omega)).2.2.2)⟩
  · rw [m1.2.2.2 2 (by decide) (by decide) (by decide), n1.1]; exact h7.1
  · rw [n1.1]; exact h7.2
  · rw [m1.1, n1.2]
  · rw [(m3 s (by omega)).2.1, (n3 s (by omega)).2.1]
  · rw [(m3 s (by omega)).2.2.1, (n3 s (by omega)).2.2.1]
  · rw [(m3 s (by omega)).2.2.2.1, (n3 s (by omega)).2.2.2]
  · rw [(m2 k hk).2.1, (n4 k hk).1]
  · rw [(m2 k hk).2.2, (n4 k hk).2]
theorem lay_cell (σ : qx_S) (n : Int32) {j : Nat} (h1 : j ≠ 1) (h2 : j ≠ 2) : lay σ n j = σ j := by
  unfold lay
  rw [qf_cell (f := fun k τ => qs τ 2 k 0) (fun k τ => qs_cell _ _ _ _ h2), qs_cell _ _ _ _ h1]
theorem lay_1 (σ : qx_S) (n : Int32) : lay σ n 1 = qs σ 1 0 n 1 := by
  unfold lay
  rw [qf_cell (f := fun k τ => qs τ 2 k 0) (fun k τ => qs_cell _ _ _ _ (by decide))]
theorem lay_2z (σ : qx_S) : ∀ i k, k < i → qf (fun k τ => qs τ 2 k 0) σ i 2 k = 0
  | 0, k, h => absurd h (Nat.not_lt_zero k)
  | i + 1, k, h => by
    rw [qf_S, qc1]
    by_cases e : k = i
    · rw [if_pos e]
    · rw [if_neg e]; exact lay_2z σ i k (by omega)
theorem lay_2 (σ : qx_S) (n : Int32) (k : Nat) (h : k < 24) : lay σ n 2 k = 0 := lay_2z _ 24 k h
theorem rR_street {σ τ : qx_S} {P S n : Nat} (hR : rR σ τ) (h : rV σ τ P S n) (a : Int32) : RelSame rR (fStreet σ a) (mStreet τ a) := by
  unfold fStreet mStreet
  rcases rV_open h with ⟨o1, o2⟩ | ⟨o1, o2⟩
  rotate_left
  · rw [if_neg o1, if_pos o2]; exact ⟨rfl, hR⟩
  rw [if_pos o1, if_neg o2]
  by_cases ha : 1 ≤ a ∧ a ≤ 8
  rotate_left
  · rw [if_neg ha, if_neg ha]; exact ⟨rfl, hR⟩
  rw [if_pos ha, if_pos ha]
  obtain ⟨N, hN, rfl⟩ := qx_in1 8 (by decide) ha
  have hN1 : 1 ≤ N := (nI_leI (a := 1) (by decide) (by omega)).mp ha.1
  obtain ⟨⟨⟨a1, a2, a3⟩, ⟨b1, b2, b3⟩, c, d, e, ⟨f1, f2⟩, g⟩, ⟨c1, c2, c3, c4, c5, c6, c7⟩, ⟨d1, -⟩, -⟩ := h
  have L := fun (x : qx_S) (j : Nat) (h1 : j ≠ 1) (h2 : j ≠ 2) => lay_cell x (nI N) (j := j) h1 h2
  have M : mLay τ (nI N) = lay τ (nI N) := rfl
  refine rS rfl (rR_keep hR ⟨N, S, 0, rV_clr ?_ ?_ ?_⟩ (fun j hj => ?_) ?_ ?_ ?_)
  · rw [M]
    refine ⟨⟨?_, ?_, hN1, by omega⟩, ⟨?_, ?_, b3⟩, fun k hk => ?_, fun k hk => ?_, fun k hk => ?_, ⟨?_, ?_⟩, fun s t hs ht => ?_⟩
    · rw [lay_1, qs_same]
    · rw [lay_1, qs_same]
    · rw [lay_1, qs_slot _ _ _ _ (by decide)]; exact b1
    · rw [lay_1, qs_slot _ _ _ _ (by decide)]; exact b2
    · rw [lay_2 _ _ k hk, lay_2 _ _ k hk]
    · rw [L τ 3 (by decide) (by decide), L σ 3 (by decide) (by decide)]; exact d k hk
    · rw [L τ 4 (by decide) (by decide), L σ 4 (by decide) (by decide)]; exact e k hk
    · rw [lay_1, qs_slot _ _ _ _ (by decide), L σ 5 (by decide) (by decide)]; exact f1
    · rw [lay_1, qs_slot _ _ _ _ (by decide), L σ 5 (by decide) (by decide)]; exact f2
    · rw [L τ 5 (by decide) (by decide), L σ 6 (by decide) (by decide)]; exact g s t hs ht
  · refine ⟨fun p hp => ⟨0, by decide, lay_2 _ _ _ (by omega)⟩, fun p hp => ⟨0, by decide, lay_2 _ _ _ (by omega)⟩, fun p hp => Or.inl (lay_2 _ _ _ (by omega)), fun k hk => ?_, fun x y hx hy => ?_, fun s hs => ?_, fun s hs => ?_⟩
    · rw [L σ 4 (by decide) (by decide)]; exact c4 k hk
    · rw [L σ 4 (by decide) (by decide)]; exact c5 x y hx hy
    · rw [L σ 6 (by decide) (by decide)]; exact c6 s hs
    · rw [L σ 6 (by decide) (by decide)]; exact c7 s hs
  · rw [M, lay_1, qs_slot _ _ _ _ (by decide), L σ 7 (by decide) (by decide)]
    exact ⟨d1.1, d1.2.1⟩
  · rw [nClr_lo _ j (by omega), L σ j (by omega) (by omega)]
  · rw [M, mClr_cell (by decide) (by decide) (by decide), L τ 7 (by decide) (by decide)]
  · rw [nClr_lo _ 0 (by decide), L σ 0 (by decide) (by decide)]
  · rw [M, mClr_cell (by decide) (by decide) (by decide), L τ 0 (by decide) (by decide)]
theorem zP : ∀ t, t < 3 → (if nI t = 0 then (99 : Int32) else if nI t = 1 then 2 else 1) = qz0 t := by decide +kernel
theorem rR_place {σ τ : qx_S} {P S n : Nat} (hR : rR σ τ) (h : rV σ τ P S n) (a b x : Int32) : RelSame rR (fPlace σ a b x) (mPlace τ a b x) := by
  unfold fPlace mPlace
  rcases rV_open h with ⟨o1, o2⟩ | ⟨o1, o2⟩
  rotate_left
  · rw [if_neg o1, if_pos o2]; exact ⟨rfl, hR⟩
  rw [if_pos o1, if_neg o2, h.1.1.1, h.1.1.2.1]
  have hP8 : P ≤ 8 := h.1.1.2.2.2
  by_cases ha : 0 ≤ a ∧ a ≤ nI P - 1
  rotate_left
  · rw [if_neg ha, if_neg ha]; exact ⟨rfl, hR⟩
  rw [if_pos ha, if_pos ha]
  obtain ⟨p, hp, rfl⟩ := qx_has rfl (by omega) ha
  by_cases hb : 0 ≤ b ∧ b ≤ 2
  rotate_left
  · rw [if_neg hb, if_neg hb]; exact ⟨rfl, hR⟩
  rw [if_pos hb, if_pos hb]
  obtain ⟨t, ht, rfl⟩ := qx_inI 2 (by decide) hb
  rw [zP t (by omega), ixN (show p < 1000 by omega), ixN (show t < 1000 by omega)]
  by_cases hx : 0 ≤ x ∧ x ≤ qz0 t
  rotate_left
  · rw [if_neg hx, if_neg hx]; exact ⟨rfl, hR⟩
  rw [if_pos hx, if_pos hx]
  have hj : ∃ j, x = nI j ∧ (t = 0 → j ≤ 99) ∧ (t = 1 → j < 3) ∧ (t = 2 → j = 0 ∨ j = 1) := by
    rcases (show t = 0 ∨ t = 1 ∨ t = 2 by omega) with rfl | rfl | rfl
    · obtain ⟨j, hj, e⟩ := qx_inI 99 (by decide) hx
      exact ⟨j, e, fun _ => by omega, fun z => absurd z (by decide), fun z => absurd z (by decide)⟩
    · obtain ⟨j, hj, e⟩ := qx_inI 2 (by decide) hx
      exact ⟨j, e, fun z => absurd z (by decide), fun _ => by omega, fun z => absurd z (by decide)⟩
    · obtain ⟨j, hj, e⟩ := qx_inI 1 (by decide) hx
      exact ⟨j, e, fun z => absurd z (by decide), fun z => absurd z (by decide), fun _ => by omega⟩
  obtain ⟨j, rfl, j0, j1, j2⟩ := hj
  have e3 : 3 * p + t = p * 3 + t := by omega
  rw [e3]
  obtain ⟨hSt, ⟨c1, c2, c3, c4, c5, c6, c7⟩, hNi, hGu⟩ := h
  have hS5 : S ≤ 5 := hSt.2.1.2.2
  obtain ⟨a1, b1, c, d, e, f, g⟩ := hSt
  refine rS (c _ (by omega)).symm (rR_keep hR ⟨P, S, n, ⟨a1, b1, fun k hk => ?_, d, e, f, g⟩, ⟨fun q hq => ?_, fun q hq => ?_, fun q hq => ?_, c4, c5, c6, c7⟩, rNi_to hNi ⟨rfl, rfl⟩ rfl rfl rfl rfl rfl rfl ⟨rfl, rfl⟩ (fun k _ => ⟨rfl, rfl⟩) (fun s t _ _ _ => rfl) hS5, rGu_to hGu rfl rfl rfl rfl rfl rfl rfl rfl rfl ⟨rfl, rfl⟩ (fun s _ => rfl) rfl hS5⟩ (fun j hj => qs_cell _ _ _ _ (by omega)) rfl rfl rfl)
  · rw [qc1, qc1, c k hk]
  · rw [qc1]
    by_cases z : q * 3 + 0 = p * 3 + t
    · rw [if_pos z]; exact ⟨j, j0 (by omega), rfl⟩
    · rw [if_neg z]; exact c1 q hq
  · rw [qc1]
    by_cases z : q * 3 + 1 = p * 3 + t
    · rw [if_pos z]; exact ⟨j, j1 (by omega), rfl⟩
    · rw [if_neg z]; exact c2 q hq
  · rw [qc1]
    by_cases z : q * 3 + 2 = p * 3 + t
    · rw [if_pos z]
      rcases j2 (by omega) with y | y
      · exact Or.inl (by rw [y]; rfl)
      · exact Or.inr (by rw [y]; rfl)
    · rw [if_neg z]; exact c3 q hq
theorem rR_limit {σ τ : qx_S} {P S n : Nat} (hR : rR σ τ) (h : rV σ τ P S n) (a x : Int32) : RelSame rR (fLimit σ a x) (mLimit τ a x) := by
  unfold fLimit mLimit
  rcases rV_open h with ⟨o1, o2⟩ | ⟨o1, o2⟩
  rotate_left
  · rw [if_neg o1, if_pos o2]; exact ⟨rfl, hR⟩
  rw [if_pos o1, if_neg o2]
  by_cases ha : 0 ≤ a ∧ a ≤ 2
  rotate_left
  · rw [if_neg ha, if_neg ha]; exact ⟨rfl, hR⟩
  rw [if_pos ha, if_pos ha]
  obtain ⟨q, hq, rfl⟩ := qx_inI 2 (by decide) ha
  by_cases hx : 0 ≤ x ∧ x ≤ 99
  rotate_left
  · rw [if_neg hx, if_neg hx]; exact ⟨rfl, hR⟩
  rw [if_pos hx, if_pos hx, ixN (by omega)]
  obtain ⟨hSt, hIv, hNi, hGu⟩ := h
  have hS5 : S ≤ 5 := hSt.2.1.2.2
  obtain ⟨a1, b1, c, d, e, f, g⟩ := hSt
  refine rS (d q (by omega)).symm (rR_keep hR ⟨P, S, n, ⟨a1, b1, c, fun k hk => ?_, e, f, g⟩, rIv_to hIv rfl rfl rfl, rNi_to hNi ⟨rfl, rfl⟩ rfl rfl rfl rfl rfl rfl ⟨rfl, rfl⟩ (fun k _ => ⟨qs_slot _ _ _ _ (by omega), qs_slot _ _ _ _ (by omega)⟩) (fun s t _ _ _ => rfl) hS5, rGu_to hGu rfl rfl rfl rfl rfl rfl rfl rfl rfl ⟨rfl, rfl⟩ (fun s _ => rfl) rfl hS5⟩ (fun j hj => qs_cell _ _ _ _ (by omega)) rfl rfl rfl)
  rw [qc1, qc1]
  by_cases z : k = q
  · rw [if_pos z, if_pos (by omega)]
  · rw [if_neg z, if_neg (by omega)]; exact d k hk
theorem rR_clash {σ τ : qx_S} {P S n : Nat} (hR : rR σ τ) (h : rV σ τ P S n) (a b x : Int32) (hx : x = 0 ∨ x = 1) : RelSame rR (fClash σ a b x) (mClash τ a b x) := by
  unfold fClash mClash
  rcases rV_open h with ⟨o1, o2⟩ | ⟨o1, o2⟩
  rotate_left
  · rw [if_neg o1, if_pos o2]; exact ⟨rfl, hR⟩
  rw [if_pos o1, if_neg o2]
  by_cases ha : 0 ≤ a ∧ a ≤ 3
  rotate_left
  · rw [if_neg ha, if_neg ha]; exact ⟨rfl, hR⟩
  rw [if_pos ha, if_pos ha]
  obtain ⟨p, hp, rfl⟩ := qx_inI 3 (by decide) ha
  by_cases hb : 0 ≤ b ∧ b ≤ 3
  rotate_left
  · rw [if_neg hb, if_neg hb]; exact ⟨rfl, hR⟩
  rw [if_pos hb, if_pos hb]
  obtain ⟨q, hq, rfl⟩ := qx_inI 3 (by decide) hb
  rw [ixN (show p < 1000 by omega), ixN (show q < 1000 by omega), show 4 * p + q = p * 4 + q by omega, show 4 * q + p = q * 4 + p by omega]
  obtain ⟨hSt, ⟨c1, c2, c3, c4, c5, c6, c7⟩, hNi, hGu⟩ := h
  have hS5 : S ≤ 5 := hSt.2.1.2.2
  obtain ⟨a1, b1, c, d, e, f, g⟩ := hSt
  refine rS ?_ (rR_keep hR ⟨P, S, n, ⟨a1, b1, c, d, fun k hk => ?_, f, g⟩, ⟨c1, c2, c3, fun k hk => ?_, fun u y hu hy => ?_, c6, c7⟩, rNi_to hNi ⟨rfl, rfl⟩ rfl rfl rfl rfl rfl rfl ⟨rfl, rfl⟩ (fun k _ => ⟨rfl, rfl⟩) (fun s t _ _ _ => rfl) hS5, rGu_to hGu rfl rfl rfl rfl rfl rfl rfl rfl rfl ⟨rfl, rfl⟩ (fun s _ => rfl) rfl hS5⟩ (fun j hj => by rw [qs_cell _ _ _ _ (by omega), qs_cell _ _ _ _ (by omega)]) rfl rfl rfl)
  · show (if σ 4 (p * 4 + q) = 1 then (if x = 1 then (0 : Int32) else 1) else (if x = 1 then 1 else 0)) = (if τ 4 (p * 4 + q) = x then 0 else 1)
    rw [e _ (by omega)]
    rcases c4 (p * 4 + q) (by omega) with z | z <;> rcases hx with rfl | rfl <;> rw [z] <;> decide
  · rw [qc1, qc1, qc1, qc1, e k hk]
  · rw [qc1, qc1]
    split
    · exact hx
    · split
      · exact hx
      · exact c4 k hk
  · rw [qc1, qc1, qc1, qc1]
    by_cases z : u * 4 + y = q * 4 + p
    · rw [if_pos z]
      by_cases z2 : y * 4 + u = q * 4 + p
      · rw [if_pos z2]
      · rw [if_neg z2, if_pos (by omega)]
    · rw [if_neg z]
      by_cases z1 : u * 4 + y = p * 4 + q
      · rw [if_pos z1, if_pos (by omega)]
      · rw [if_neg z1, if_neg (by omega), if_neg (by omega)]
        exact c5 u y hu hy
theorem zR : ∀ t, t < 2 → (if nI t = 0 then (3 : Int32) else 50) = qz1 t := by decide +kernel
theorem rR_rule {σ τ : qx_S} {P S n : Nat} (hR : rR σ τ) (h : rV σ τ P S n) (a x : Int32) : RelSame rR (fRule σ a x) (mRule τ a x) := by
  unfold fRule mRule
  rcases rV_open h with ⟨o1, o2⟩ | ⟨o1, o2⟩
  rotate_left
  · rw [if_neg o1, if_pos o2]; exact ⟨rfl, hR⟩
  rw [if_pos o1, if_neg o2]
  by_cases ha : 0 ≤ a ∧ a ≤ 1
  rotate_left
  · rw [if_neg ha, if_neg ha]; exact ⟨rfl, hR⟩
  rw [if_pos ha, if_pos ha]
  obtain ⟨t, ht, rfl⟩ := qx_inI 1 (by decide) ha
  rw [zR t (by omega), ixN (by omega)]
  by_cases hx : 0 ≤ x ∧ x ≤ qz1 t
  rotate_left
  · rw [if_neg hx, if_neg hx]; exact ⟨rfl, hR⟩
  rw [if_pos hx, if_pos hx]
  obtain ⟨hSt, hIv, hNi, hGu⟩ := h
  have hS5 : S ≤ 5 := hSt.2.1.2.2
  obtain ⟨⟨a1, a2, a3⟩, ⟨b1, b2, b3⟩, c, d, e, ⟨f1, f2⟩, g⟩ := hSt
  refine rS ?_ (rR_keep hR ⟨P, S, n, ⟨⟨a1, ?_, a3⟩, ⟨b1, ?_, b3⟩, c, d, e, ⟨?_, ?_⟩, g⟩, rIv_to hIv rfl rfl rfl, rNi_to hNi ⟨rfl, rfl⟩ rfl rfl rfl rfl rfl rfl ⟨qs_slot _ _ _ _ (by omega), qs_slot _ _ _ _ (by omega)⟩ (fun k _ => ⟨rfl, rfl⟩) (fun s t _ _ _ => rfl) hS5, rGu_to hGu rfl rfl rfl rfl rfl rfl rfl rfl rfl ⟨qs_slot _ _ _ _ (by omega), qs_slot _ _ _ _ (by omega)⟩ (fun s _ => rfl) rfl hS5⟩ (fun j hj => qs_cell _ _ _ _ (by omega)) rfl rfl rfl)
  · rcases (show t = 0 ∨ t = 1 by omega) with rfl | rfl
    · exact f1.symm
    · exact f2.symm
  · rw [qs_slot _ _ _ _ (by omega)]; exact a2
  · rw [qs_slot _ _ _ _ (by omega)]; exact b2
  · rw [qc1, qc1]
    by_cases z : t = 0
    · rw [if_pos (by omega), if_pos (by omega)]
    · rw [if_neg (by omega), if_neg (by omega)]; exact f1
  · rw [qc1, qc1]
    by_cases z : t = 1
    · rw [if_pos (by omega), if_pos (by omega)]
    · rw [if_neg (by omega), if_neg (by omega)]; exact f2
