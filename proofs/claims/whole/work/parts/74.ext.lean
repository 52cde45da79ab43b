/-! the relation reads the cells as far as they go -/
def lC (j k : Nat) : Prop := (j = 1 ∧ k < 2) ∨ (j = 2 ∧ k < 24) ∨ (j = 3 ∧ k < 3) ∨ (j = 4 ∧ k < 16) ∨ (j = 5 ∧ k < 2) ∨ (j = 6 ∧ k < 30) ∨ (j = 7 ∧ (k = 2 ∨ k = 3)) ∨ (8 ≤ j ∧ j ≤ 11 ∧ k < 5) ∨ (12 ≤ j ∧ j ≤ 13 ∧ k < 3) ∨ (j = 14 ∧ k = 0) ∨ (15 ≤ j ∧ j ≤ 20 ∧ k < 20)
def lM (j k : Nat) : Prop := (j = 1 ∧ k < 8) ∨ (j = 2 ∧ k < 24) ∨ (j = 3 ∧ k < 9) ∨ (j = 4 ∧ k < 16) ∨ (j = 5 ∧ k < 55) ∨ (j = 6 ∧ k < 140)
theorem rNw_ext {v v2 : qx_S} : ∀ n, (∀ k, k < n → v2 15 k = v 15 k) → rNw v2 n = rNw v n
  | 0, _ => rfl
  | n + 1, h => by rw [rNw, rNw, rNw_ext n (fun k hk => h k (by omega)), h n (by omega)]
theorem rSt_ext {v w v2 w2 : qx_S} {P S : Nat} (h : rSt v w P S) (hv : ∀ j k, lC j k → v2 j k = v j k) (hw : ∀ j k, lM j k → w2 j k = w j k) : rSt v2 w2 P S := by
  obtain ⟨⟨a1, a2, a3⟩, ⟨b1, b2, b3⟩, c, d, e, ⟨f1, f2⟩, g⟩ := h
  refine ⟨⟨?_, ?_, a3⟩, ⟨?_, ?_, b3⟩, fun k hk => ?_, fun k hk => ?_, fun k hk => ?_, ⟨?_, ?_⟩, fun s t hs ht => ?_⟩
  · rw [hv 1 0 (by unfold lC; omega)]; exact a1
  · rw [hw 1 0 (by unfold lM; omega)]; exact a2
  · rw [hv 1 1 (by unfold lC; omega)]; exact b1
  · rw [hw 1 1 (by unfold lM; omega)]; exact b2
  · rw [hv 2 k (by unfold lC; omega), hw 2 k (by unfold lM; omega)]; exact c k hk
  · rw [hv 3 k (by unfold lC; omega), hw 3 (3 * k) (by unfold lM; omega)]; exact d k hk
  · rw [hv 4 k (by unfold lC; omega), hw 4 k (by unfold lM; omega)]; exact e k hk
  · rw [hv 5 0 (by unfold lC; omega), hw 1 5 (by unfold lM; omega)]; exact f1
  · rw [hv 5 1 (by unfold lC; omega), hw 1 6 (by unfold lM; omega)]; exact f2
  · rw [hv 6 (s * 6 + t) (by unfold lC; omega), hw 5 (11 * s + t) (by unfold lM; omega)]; exact g s t hs ht
theorem rIv_ext {v v2 : qx_S} {S : Nat} (h : rIv v S) (hS : S ≤ 5) (hv : ∀ j k, lC j k → v2 j k = v j k) : rIv v2 S := by
  obtain ⟨c1, c2, c3, c4, c5, c6, c7⟩ := h
  refine ⟨fun p hp => ?_, fun p hp => ?_, fun p hp => ?_, fun k hk => ?_, fun a b ha hb => ?_, fun s hs => ?_, fun s hs => ?_⟩
  · rw [hv 2 (p * 3 + 0) (by unfold lC; omega)]; exact c1 p hp
  · rw [hv 2 (p * 3 + 1) (by unfold lC; omega)]; exact c2 p hp
  · rw [hv 2 (p * 3 + 2) (by unfold lC; omega)]; exact c3 p hp
  · rw [hv 4 k (by unfold lC; omega)]; exact c4 k hk
  · rw [hv 4 (a * 4 + b) (by unfold lC; omega), hv 4 (b * 4 + a) (by unfold lC; omega)]; exact c5 a b ha hb
  · rw [hv 6 (s * 6 + 1) (by unfold lC; omega)]; exact c6 s hs
  · rw [hv 6 (s * 6 + 3) (by unfold lC; omega)]; exact c7 s hs
theorem rNi_ext {v w v2 w2 : qx_S} {P S : Nat} (h : rNi v w P S) (hS : S ≤ 5) (hv : ∀ j k, lC j k → v2 j k = v j k) (hw : ∀ j k, lM j k → w2 j k = w j k) : rNi v2 w2 P S := by
  obtain ⟨⟨a1, a2, a3⟩, b, c, d, e, f, g⟩ := h
  refine ⟨⟨?_, ?_, ?_⟩, fun s hs => ?_, fun s hs h5 => ?_, fun s t hs ht ne => ?_, fun s hs => ?_, fun k hk => ?_, fun s hs => ?_⟩
  · rw [hv 7 2 (by unfold lC; omega), hw 1 2 (by unfold lM; omega)]; exact a1
  · rw [hv 7 2 (by unfold lC; omega)]; exact a2
  · rw [hv 7 3 (by unfold lC; omega), hw 1 3 (by unfold lM; omega)]; exact a3
  · rw [hv 8 s (by unfold lC; omega), hw 5 (11 * s + 6) (by unfold lM; omega)]; exact b s hs
  · rw [hv 8 s (by unfold lC; omega), hv 9 s (by unfold lC; omega), hv 10 s (by unfold lC; omega), hv 11 s (by unfold lC; omega)]; exact c s hs h5
  · rw [hv 8 s (by unfold lC; omega), hv 8 t (by unfold lC; omega)]; exact d s t hs ht ne
  · rw [hv 9 s (by unfold lC; omega), hv 10 s (by unfold lC; omega), hv 11 s (by unfold lC; omega), hw 5 (11 * s + 7) (by unfold lM; omega), hw 5 (11 * s + 8) (by unfold lM; omega), hw 5 (11 * s + 9) (by unfold lM; omega)]; exact e s hs
  · rw [hv 12 k (by unfold lC; omega), hv 13 k (by unfold lC; omega), hw 3 (3 * k + 1) (by unfold lM; omega), hw 3 (3 * k + 2) (by unfold lM; omega)]; exact f k hk
  · rw [hw 5 (11 * s + 6) (by unfold lM; omega)]; exact g s hs
theorem rG1_ext {v w v2 w2 : qx_S} {P S g : Nat} (h : rG1 v w P S g) (hS : S ≤ 5) (hg : g < 20) (hv : ∀ j k, lC j k → v2 j k = v j k) (hw : ∀ j k, lM j k → w2 j k = w j k) : rG1 v2 w2 P S g := by
  have e8 : ∀ s, s < S → v2 8 s = v 8 s := fun s hs => hv 8 s (by unfold lC; omega)
  unfold rG1 at *
  rw [hv 15 g (by unfold lC; omega), hv 16 g (by unfold lC; omega), hv 17 g (by unfold lC; omega), hv 18 g (by unfold lC; omega), hv 19 g (by unfold lC; omega), hv 20 g (by unfold lC; omega), hw 6 (7 * g) (by unfold lM; omega), hw 6 (7 * g + 1) (by unfold lM; omega), hw 6 (7 * g + 2) (by unfold lM; omega), hw 6 (7 * g + 3) (by unfold lM; omega), hw 6 (7 * g + 4) (by unfold lM; omega), hw 6 (7 * g + 6) (by unfold lM; omega)]
  obtain ⟨h1, h2, h3, h4⟩ := h
  refine ⟨h1, h2, h3, ?_⟩
  rcases h4 with z | ⟨a, b, s, p, hs, hp, c1, c2, c3, c4⟩ | z | z
  · exact Or.inl z
  · exact Or.inr (Or.inl ⟨a, b, s, p, hs, hp, c1, c2, c3, by rw [e8 s hs]; exact c4⟩)
  · exact Or.inr (Or.inr (Or.inl z))
  · exact Or.inr (Or.inr (Or.inr z))
theorem rGu_ext {v w v2 w2 : qx_S} {P S n : Nat} (h : rGu v w P S n) (hS : S ≤ 5) (hv : ∀ j k, lC j k → v2 j k = v j k) (hw : ∀ j k, lM j k → w2 j k = w j k) : rGu v2 w2 P S n := by
  obtain ⟨⟨a1, a2, a3⟩, b, c, d, t, t1, t2, t3, t4⟩ := h
  have e : ∀ j, 15 ≤ j → j ≤ 20 → ∀ g, g < n → v2 j g = v j g := fun j h1 h2 g hg => hv j g (by unfold lC; omega)
  have e15 := e 15 (by decide) (by decide)
  have e16 := e 16 (by decide) (by decide)
  have e19 := e 19 (by decide) (by decide)
  have e5 : ∀ g, g < n → w2 6 (7 * g + 5) = w 6 (7 * g + 5) := fun g hg => hw 6 (7 * g + 5) (by unfold lM; omega)
  refine ⟨⟨?_, ?_, a3⟩, fun g hg => rG1_ext (b g hg) hS (by omega) hv hw, fun s hs => ?_, fun g h p q hgh hh k1 k2 k3 k4 => ?_, t, ?_, ?_, fun g hg k1 => ?_, fun g h x y hgh hh k1 k2 k3 k4 k5 => ?_⟩
  · rw [hv 14 0 (by unfold lC; omega)]; exact a1
  · rw [hw 1 4 (by unfold lM; omega)]; exact a2
  · obtain ⟨l, hl, el, hc⟩ := c s hs
    refine ⟨l, hl, by rw [hv 11 s (by unfold lC; omega)]; exact el, ?_⟩
    rcases hc with ⟨l0, z⟩ | ⟨l0, g, hg, z1, z2, z3, z4⟩
    · exact Or.inl ⟨l0, fun g hg k => by rw [e19 g hg]; rw [e15 g hg] at k; exact z g hg k⟩
    · refine Or.inr ⟨l0, g, hg, by rw [e15 g hg]; exact z1, by rw [e19 g hg]; exact z2, by rw [hw 5 (11 * s + 10) (by unfold lM; omega)]; exact z3, fun u hu k1 k2 => ?_⟩
      rw [e15 u hu] at k1
      rw [e19 u hu] at k2
      exact z4 u hu k1 k2
  · rw [e15 g (by omega)] at k1
    rw [e16 g (by omega)] at k2
    rw [e15 h hh] at k3 ⊢
    rw [e16 h hh] at k4
    exact d g h p q hgh hh k1 k2 k3 k4
  · rw [rNw_ext n e15]; exact t1
  · rw [hw 1 7 (by unfold lM; omega)]; exact t2
  · rw [e15 g hg] at k1
    rw [e5 g hg]; exact t3 g hg k1
  · rw [e15 g (by omega)] at k1
    rw [e15 h hh] at k2
    rw [e19 g (by omega), e19 h hh] at k3
    rw [e5 g (by omega)] at k4
    rw [e5 h hh] at k5
    exact t4 g h x y hgh hh k1 k2 k3 k4 k5
theorem rV_ext {v w v2 w2 : qx_S} {P S n : Nat} (h : rV v w P S n) (hv : ∀ j k, lC j k → v2 j k = v j k) (hw : ∀ j k, lM j k → w2 j k = w j k) : rV v2 w2 P S n := by
  have hS : S ≤ 5 := h.1.2.1.2.2
  exact ⟨rSt_ext h.1 hv hw, rIv_ext h.2.1 hS hv, rNi_ext h.2.2.1 hS hv hw, rGu_ext h.2.2.2 hS hv hw⟩
