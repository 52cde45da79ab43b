/-! a stall told, a stall changed -/
def pk (a b c d e f : Int32) (t : Nat) : Int32 := if t = 0 then a else if t = 1 then b else if t = 2 then c else if t = 3 then d else if t = 4 then e else f
theorem ps_in (σ : qx_S) (S : Nat) (a b c d e f : Int32) (t : Nat) (ht : t < 6) : putStall σ S a b c d e f 6 (S * 6 + t) = pk a b c d e f t := by
  unfold putStall pk
  rcases (show t = 0 ∨ t = 1 ∨ t = 2 ∨ t = 3 ∨ t = 4 ∨ t = 5 by omega) with rfl | rfl | rfl | rfl | rfl | rfl
  · rw [qs_slot _ _ _ _ (by omega), qs_slot _ _ _ _ (by omega), qs_slot _ _ _ _ (by omega), qs_slot _ _ _ _ (by omega), qs_slot _ _ _ _ (by omega), qs_same]; rfl
  · rw [qs_slot _ _ _ _ (by omega), qs_slot _ _ _ _ (by omega), qs_slot _ _ _ _ (by omega), qs_slot _ _ _ _ (by omega), qs_same]; rfl
  · rw [qs_slot _ _ _ _ (by omega), qs_slot _ _ _ _ (by omega), qs_slot _ _ _ _ (by omega), qs_same]; rfl
  · rw [qs_slot _ _ _ _ (by omega), qs_slot _ _ _ _ (by omega), qs_same]; rfl
  · rw [qs_slot _ _ _ _ (by omega), qs_same]; rfl
  · rw [qs_same]; rfl
theorem ps_out (σ : qx_S) (S : Nat) (a b c d e f : Int32) (s t : Nat) (hs : s ≠ S) (ht : t < 6) : putStall σ S a b c d e f 6 (s * 6 + t) = σ 6 (s * 6 + t) := by
  unfold putStall
  rw [qs_slot _ _ _ _ (by omega), qs_slot _ _ _ _ (by omega), qs_slot _ _ _ _ (by omega), qs_slot _ _ _ _ (by omega), qs_slot _ _ _ _ (by omega), qs_slot _ _ _ _ (by omega), q_ne _ _ _ _ _ (by decide)]
theorem ps_cell (σ : qx_S) (S : Nat) (a b c d e f : Int32) {j : Nat} (h1 : j ≠ 1) (h6 : j ≠ 6) : putStall σ S a b c d e f j = σ j := by
  unfold putStall
  rw [qs_cell _ _ _ _ h6, qs_cell _ _ _ _ h6, qs_cell _ _ _ _ h6, qs_cell _ _ _ _ h6, qs_cell _ _ _ _ h6, qs_cell _ _ _ _ h6, qs_cell _ _ _ _ h1]
theorem ps_1 (σ : qx_S) (S : Nat) (a b c d e f : Int32) : putStall σ S a b c d e f 1 = qs σ 1 1 (nI (S + 1)) 1 := by
  unfold putStall
  rw [qs_cell _ _ _ _ (by decide), qs_cell _ _ _ _ (by decide), qs_cell _ _ _ _ (by decide), qs_cell _ _ _ _ (by decide), qs_cell _ _ _ _ (by decide), qs_cell _ _ _ _ (by decide)]
theorem mp_out (σ : qx_S) (S : Nat) (a b c d e f : Int32) (s t : Nat) (hs : s ≠ S) (ht : t < 11) : mPut σ S a b c d e f 5 (11 * s + t) = σ 5 (11 * s + t) := by
  unfold mPut
  rw [qs_slot _ _ _ _ (by omega), qs_slot _ _ _ _ (by omega), qs_slot _ _ _ _ (by omega), qs_slot _ _ _ _ (by omega), qs_slot _ _ _ _ (by omega), qs_slot _ _ _ _ (by omega), qs_slot _ _ _ _ (by omega), qs_slot _ _ _ _ (by omega), qs_slot _ _ _ _ (by omega), qs_slot _ _ _ _ (by omega), qs_slot _ _ _ _ (by omega)]
theorem mp_in (σ : qx_S) (S : Nat) (a b c d e f : Int32) : (∀ t, t < 6 → mPut σ S a b c d e f 5 (11 * S + t) = pk a b c d e f t) ∧ mPut σ S a b c d e f 5 (11 * S + 6) = -1 ∧ mPut σ S a b c d e f 5 (11 * S + 7) = 0 ∧ mPut σ S a b c d e f 5 (11 * S + 8) = 0 ∧ mPut σ S a b c d e f 5 (11 * S + 9) = 0 := by
  refine ⟨fun t ht => ?_, ?_, ?_, ?_, ?_⟩
  · unfold mPut pk
    rw [qs_slot _ _ _ _ (by omega), qs_slot _ _ _ _ (by omega), qs_slot _ _ _ _ (by omega), qs_slot _ _ _ _ (by omega), qs_slot _ _ _ _ (by omega)]
    rcases (show t = 0 ∨ t = 1 ∨ t = 2 ∨ t = 3 ∨ t = 4 ∨ t = 5 by omega) with rfl | rfl | rfl | rfl | rfl | rfl
    · rw [qs_slot _ _ _ _ (by omega), qs_slot _ _ _ _ (by omega), qs_slot _ _ _ _ (by omega), qs_slot _ _ _ _ (by omega), qs_slot _ _ _ _ (by omega), Nat.add_zero, qs_same]; rfl
    · rw [qs_slot _ _ _ _ (by omega), qs_slot _ _ _ _ (by omega), qs_slot _ _ _ _ (by omega), qs_slot _ _ _ _ (by omega), qs_same]; rfl
    · rw [qs_slot _ _ _ _ (by omega), qs_slot _ _ _ _ (by omega), qs_slot _ _ _ _ (by omega), qs_same]; rfl
    · rw [qs_slot _ _ _ _ (by omega), qs_slot _ _ _ _ (by omega), qs_same]; rfl
    · rw [qs_slot _ _ _ _ (by omega), qs_same]; rfl
    · rw [qs_same]; rfl
  · unfold mPut
    rw [qs_slot _ _ _ _ (by omega), qs_slot _ _ _ _ (by omega), qs_slot _ _ _ _ (by omega), qs_slot _ _ _ _ (by omega), qs_same]
  · unfold mPut
    rw [qs_slot _ _ _ _ (by omega), qs_slot _ _ _ _ (by omega), qs_slot _ _ _ _ (by omega), qs_same]
  · unfold mPut
    rw [qs_slot _ _ _ _ (by omega), qs_slot _ _ _ _ (by omega), qs_same]
  · unfold mPut
    rw [qs_slot _ _ _ _ (by omega), qs_same]
theorem mp_cell (σ : qx_S) (S : Nat) (a b c d e f : Int32) {j : Nat} (h : j ≠ 5) : mPut σ S a b c d e f j = σ j := by
  unfold mPut
  rw [qs_cell _ _ _ _ h, qs_cell _ _ _ _ h, qs_cell _ _ _ _ h, qs_cell _ _ _ _ h, qs_cell _ _ _ _ h, qs_cell _ _ _ _ h, qs_cell _ _ _ _ h, qs_cell _ _ _ _ h, qs_cell _ _ _ _ h, qs_cell _ _ _ _ h, qs_cell _ _ _ _ h]
theorem rG1_S {v w : qx_S} {P S g : Nat} (h : rG1 v w P S g) : rG1 v w P (S + 1) g := by
  obtain ⟨h1, h2, h3, h4⟩ := h
  refine ⟨h1, h2, h3, ?_⟩
  rcases h4 with z | ⟨a, b, s, p, hs, c⟩ | ⟨a, b, c, s, hs, e⟩ | z
  · exact Or.inl z
  · exact Or.inr (Or.inl ⟨a, b, s, p, by omega, c⟩)
  · exact Or.inr (Or.inr (Or.inl ⟨a, b, c, s, by omega, e⟩))
  · exact Or.inr (Or.inr (Or.inr z))
theorem rG1_2 {v w : qx_S} {P S g : Nat} (h : rG1 v w P S g) (h2 : v 15 g = 2) : ∃ s, s < S ∧ v 19 g = nI s := by
  rcases h.2.2.2 with ⟨z, -⟩ | ⟨-, -, s, p, hs, -, e, -⟩ | ⟨z, -⟩ | ⟨z, -⟩
  · rw [z] at h2; exact absurd h2 (by decide)
  · exact ⟨s, hs, e⟩
  · rw [z] at h2; exact absurd h2 (by decide)
  · rcases z with z | z <;> rw [z] at h2 <;> exact absurd h2 (by decide)
theorem rGu_S {v w : qx_S} {P S n : Nat} (h : rGu v w P S n) (hS : S < 5) (h0 : v 11 S = 0) : rGu v w P (S + 1) n := by
  obtain ⟨a, b, c, d⟩ := h
  refine ⟨a, fun g hg => rG1_S (b g hg), fun s hs => ?_, d⟩
  by_cases e : s = S
  · subst e
    refine ⟨0, by decide, h0, Or.inl ⟨rfl, fun g hg h2 h3 => ?_⟩⟩
    obtain ⟨u, hu, e⟩ := rG1_2 (b g hg) h2
    have := (nI_eq (by omega) (by omega)).mp (e.symm.trans h3)
    omega
  · exact c s (by omega)
theorem rGu_ck2 {v w v2 w2 : qx_S} {P S n : Nat} (H : rGu v w P S n) (h11 : v2 11 = v 11) (h15 : v2 15 = v 15) (h19 : v2 19 = v 19) (h0 : v 11 S = 0) (g5 : ∀ s, s < S → w2 5 (11 * s + 10) = w 5 (11 * s + 10)) (hS : S < 5) : rCk v2 w2 (S + 1) n := by
  have G := rGu_ck (rGu_S H hS h0)
  intro s hs
  rw [h11, h15, h19]
  obtain ⟨l, hl, el, hc⟩ := G s hs
  refine ⟨l, hl, el, ?_⟩
  rcases hc with z | ⟨l0, g, hg, z1, z2, z3, z4⟩
  · exact Or.inl z
  · by_cases e : s = S
    · subst e
      rw [h0] at el
      have := (nI_eq (a := 0) (by decide) (by omega)).mp el
      omega
    · exact Or.inr ⟨l0, g, hg, z1, z2, by rw [g5 s (by omega)]; exact z3, z4⟩
theorem tOk_all (a b c d e f : Int32) : (tOk 0 a ∧ tOk 1 b ∧ tOk 2 c ∧ tOk 3 d ∧ tOk 4 e ∧ tOk 5 f) ↔ ((0 ≤ a ∧ a ≤ 5) ∧ (0 ≤ b ∧ b ≤ 3) ∧ (0 ≤ c ∧ c ≤ 30) ∧ (1 ≤ d ∧ d ≤ 9) ∧ (1 ≤ e ∧ e ≤ 20) ∧ (0 ≤ f ∧ f ≤ 99)) := by
  constructor
  · rintro ⟨⟨-, h1⟩, ⟨-, h2⟩, ⟨-, h3⟩, ⟨-, h4⟩, ⟨-, h5⟩, ⟨-, h6⟩⟩
    exact ⟨h1, h2, h3, h4, h5, h6⟩
  · rintro ⟨h1, h2, h3, h4, h5, h6⟩
    exact ⟨⟨by decide, h1⟩, ⟨by decide, h2⟩, ⟨by decide, h3⟩, ⟨by decide, h4⟩, ⟨by decide, h5⟩, ⟨by decide, h6⟩⟩
theorem rR_stall {σ τ : qx_S} {P S n : Nat} (hR : rR σ τ) (h : rV σ τ P S n) (a b c d e f : Int32) : RelSame rR (fStall σ a b c d e f S) (mStall τ a b c d e f S) := by
  unfold fStall mStall
  rcases rV_open h with ⟨o1, o2⟩ | ⟨o1, o2⟩
  rotate_left
  · rw [if_neg o1, if_pos o2]; exact ⟨rfl, hR⟩
  rw [if_pos o1, if_neg o2]
  have hS5 : S ≤ 5 := h.1.2.1.2.2
  by_cases ha : (0 ≤ a ∧ a ≤ 5) ∧ (0 ≤ b ∧ b ≤ 3) ∧ (0 ≤ c ∧ c ≤ 30) ∧ (1 ≤ d ∧ d ≤ 9) ∧ (1 ≤ e ∧ e ≤ 20) ∧ (0 ≤ f ∧ f ≤ 99)
  rotate_left
  · rw [if_neg ha, if_neg (fun z => ha ((tOk_all a b c d e f).mp z))]; exact ⟨rfl, hR⟩
  rw [if_pos ha, if_pos ((tOk_all a b c d e f).mpr ha), h.1.2.1.1, h.1.2.1.2.1]
  by_cases hS : S = 5
  · rw [if_neg (fun z => by have := (nI_ltI (b := 5) (by omega) (by decide)).mp z; omega), if_pos (by rw [hS]; rfl)]; exact ⟨rfl, hR⟩
  have hSl : S < 5 := by omega
  have lt5 : nI S < (5 : Int32) := (nI_ltI (b := 5) (by omega) (by decide)).mpr hSl
  rw [if_pos lt5, if_neg (fun z => by have := (nI_eq (b := 5) (by omega) (by decide)).mp z; omega)]
  obtain ⟨j1, hj1, rfl⟩ := qx_inI 3 (by decide) ha.2.1
  obtain ⟨j3, hj3, rfl⟩ := qx_in1 9 (by decide) ha.2.2.2.1
  have hj31 : 1 ≤ j3 := (nI_leI (a := 1) (by decide) (by omega)).mp ha.2.2.2.1.1
  obtain ⟨⟨⟨a1, a2, a3⟩, ⟨b1, b2, b3⟩, st, sd, se, ⟨f1, f2⟩, sg⟩, ⟨c1, c2, c3, c4, c5, c6, c7⟩, ⟨⟨d1, d2, d3⟩, nb, nc, nd, ne, nf, ng⟩, hGu⟩ := h
  have vi := ps_in σ S a (nI j1) c (nI j3) e f
  have vo := ps_out σ S a (nI j1) c (nI j3) e f
  have vc : ∀ j, j ≠ 1 → j ≠ 6 → putStall σ S a (nI j1) c (nI j3) e f j = σ j := fun j h1 h6 => ps_cell σ S a (nI j1) c (nI j3) e f h1 h6
  have v1 := ps_1 σ S a (nI j1) c (nI j3) e f
  have wo := mp_out τ S a (nI j1) c (nI j3) e f
  have wi := mp_in τ S a (nI j1) c (nI j3) e f
  have wc : ∀ j, j ≠ 5 → mPut τ S a (nI j1) c (nI j3) e f j = τ j := fun j h5 => mp_cell τ S a (nI j1) c (nI j3) e f h5
  have w5 : mPut2 (mPut τ S a (nI j1) c (nI j3) e f) 5 = mPut τ S a (nI j1) c (nI j3) e f 5 := rfl
  have w1 : ∀ k, k ≠ 1 → mPut2 (mPut τ S a (nI j1) c (nI j3) e f) 1 k = τ 1 k := fun k hk => by
    unfold mPut2
    rw [qs_slot _ _ _ _ hk, wc 1 (by decide)]
  have w11 : mPut2 (mPut τ S a (nI j1) c (nI j3) e f) 1 1 = nI (S + 1) := by
    unfold mPut2
    rw [qs_same, wc 1 (by decide), b2, nI_1]
  have wj : ∀ j, j ≠ 1 → j ≠ 5 → mPut2 (mPut τ S a (nI j1) c (nI j3) e f) j = τ j := fun j h1 h5 => by
    unfold mPut2
    rw [qs_cell _ _ _ _ h1, wc j h5]
  generalize putStall σ S a (nI j1) c (nI j3) e f = v2 at vi vo vc v1
  rw [w11, nI_pred]
  generalize mPut2 (mPut τ S a (nI j1) c (nI j3) e f) = w2 at w5 w1 w11 wj
  generalize mPut τ S a (nI j1) c (nI j3) e f = w0 at w5 wo wi wc
  have h0 := nc S (Nat.le_refl S) hSl
  refine rS rfl (rR_keep hR ⟨P, S + 1, n, ⟨⟨?_, ?_, a3⟩, ⟨?_, w11, by omega⟩, fun k hk => ?_, fun k hk => ?_, fun k hk => ?_, ⟨?_, ?_⟩, fun s t hs ht => ?_⟩, ⟨fun p hp => ?_, fun p hp => ?_, fun p hp => ?_, fun k hk => ?_, fun x y hx hy => ?_, fun s hs => ?_, fun s hs => ?_⟩, ⟨⟨?_, ?_, ?_⟩, fun s hs => ?_, fun s hs h5 => ?_, fun s t hs ht hne => ?_, fun s hs => ?_, fun k hk => ?_, fun s hs => ?_⟩, rGu_E (rGu_S hGu hSl h0.2.2.2) (vc 14 (by decide) (by decide)) (w1 4 (by decide)) (w1 7 (by decide)) (vc 8 (by decide) (by decide)) (fun j h1 h2 => vc j (by omega) (by omega)) (wj 6 (by decide) (by decide)) (rGu_ck2 hGu (vc 11 (by decide) (by decide)) (vc 15 (by decide) (by decide)) (vc 19 (by decide) (by decide)) h0.2.2.2 (fun s hs => by rw [w5]; exact wo s 10 (by omega) (by decide)) hSl)⟩ (fun j hj => vc j (by omega) (by omega)) (wj 7 (by decide) (by decide)) (by rw [vc 0 (by decide) (by decide)]) (by rw [wj 0 (by decide) (by decide)]))
  · rw [v1, qs_slot _ _ _ _ (by decide)]; exact a1
  · rw [w1 0 (by decide)]; exact a2
  · rw [v1, qs_same]
  · rw [vc 2 (by decide) (by decide), wj 2 (by decide) (by decide)]; exact st k hk
  · rw [vc 3 (by decide) (by decide), wj 3 (by decide) (by decide)]; exact sd k hk
  · rw [vc 4 (by decide) (by decide), wj 4 (by decide) (by decide)]; exact se k hk
  · rw [vc 5 (by decide) (by decide), w1 5 (by decide)]; exact f1
  · rw [vc 5 (by decide) (by decide), w1 6 (by decide)]; exact f2
  · rw [w5]
    by_cases z : s = S
    · subst z
      rw [vi t ht, wi.1 t ht]
    · rw [vo s t z ht, wo s t z (by omega)]; exact sg s t hs ht
  · rw [vc 2 (by decide) (by decide)]; exact c1 p hp
  · rw [vc 2 (by decide) (by decide)]; exact c2 p hp
  · rw [vc 2 (by decide) (by decide)]; exact c3 p hp
  · rw [vc 4 (by decide) (by decide)]; exact c4 k hk
  · rw [vc 4 (by decide) (by decide)]; exact c5 x y hx hy
  · by_cases z : s = S
    · subst z
      rw [vi 1 (by decide)]; exact ⟨j1, by omega, rfl⟩
    · rw [vo s 1 z (by decide)]; exact c6 s hs
  · by_cases z : s = S
    · subst z
      rw [vi 3 (by decide)]; exact ⟨j3, hj31, by omega, rfl⟩
    · rw [vo s 3 z (by decide)]; exact c7 s (by omega)
  · rw [vc 7 (by decide) (by decide), w1 2 (by decide)]; exact d1
  · rw [vc 7 (by decide) (by decide)]; exact d2
  · rw [vc 7 (by decide) (by decide), w1 3 (by decide)]; exact d3
  · rw [vc 8 (by decide) (by decide), w5]
    by_cases z : s = S
    · subst z
      exact Or.inl ⟨h0.1, wi.2.1⟩
    · rw [wo s 6 z (by decide)]; exact nb s (by omega)
  · rw [vc 8 (by decide) (by decide), vc 9 (by decide) (by decide), vc 10 (by decide) (by decide), vc 11 (by decide) (by decide)]
    exact nc s (by omega) h5
  · rw [vc 8 (by decide) (by decide)]
    intro z
    by_cases y : s = S
    · rw [y]; exact h0.1
    · by_cases x : t = S
      · rw [z, x]; exact h0.1
      · exact nd s t (by omega) (by omega) hne z
  · rw [vc 9 (by decide) (by decide), vc 10 (by decide) (by decide), vc 11 (by decide) (by decide), w5]
    by_cases z : s = S
    · subst z
      rw [h0.2.1, h0.2.2.1, h0.2.2.2]
      exact ⟨wi.2.2.1, wi.2.2.2.1, wi.2.2.2.2⟩
    · rw [wo s 7 z (by decide), wo s 8 z (by decide), wo s 9 z (by decide)]
      exact ne s (by omega)
  · rw [vc 12 (by decide) (by decide), vc 13 (by decide) (by decide), wj 3 (by decide) (by decide)]; exact nf k hk
  · rw [w5]
    by_cases z : s = S
    · subst z
      exact Or.inl wi.2.1
    · rw [wo s 6 z (by decide)]; exact ng s hs
theorem zT : ∀ t, t < 6 → ∀ v : Int32, ((qz2 t ≤ v ∧ v ≤ qz3 t) ↔ mTold (nI t) v) := by
  intro t ht v
  rcases (show t = 0 ∨ t = 1 ∨ t = 2 ∨ t = 3 ∨ t = 4 ∨ t = 5 by omega) with rfl | rfl | rfl | rfl | rfl | rfl <;> exact Iff.rfl
theorem rR_change {σ τ : qx_S} {P S n : Nat} (hR : rR σ τ) (h : rV σ τ P S n) (a b x : Int32) : RelSame rR (fChange σ a b x) (mChange τ a b x) := by
  unfold fChange mChange
  rcases rV_open h with ⟨o1, o2⟩ | ⟨o1, o2⟩
  rotate_left
  · rw [if_neg o1, if_pos o2]; exact ⟨rfl, hR⟩
  have hS5 : S ≤ 5 := h.1.2.1.2.2
  rw [if_pos o1, if_neg o2, h.1.2.1.1, h.1.2.1.2.1]
  by_cases ha : 0 ≤ a ∧ a ≤ nI S - 1
  rotate_left
  · rw [if_neg ha, if_neg ha]; exact ⟨rfl, hR⟩
  rw [if_pos ha, if_pos ha]
  obtain ⟨s, hs, rfl⟩ := qx_has rfl (by omega) ha
  by_cases hb : 0 ≤ b ∧ b ≤ 5
  rotate_left
  · rw [if_neg hb, if_neg (fun z => hb z.1)]; exact ⟨rfl, hR⟩
  rw [if_pos hb]
  obtain ⟨t, ht, rfl⟩ := qx_inI 5 (by decide) hb
  have it : ix (nI t) = t := ixN (by omega)
  by_cases hx : mTold (nI t) x
  rotate_left
  · rw [if_neg hx, if_neg (fun z => hx ((zT t (by omega) x).mp (by have z2 := z.2; rw [it] at z2; exact z2)))]; exact ⟨rfl, hR⟩
  have hq := (zT t (by omega) x).mpr hx
  rw [if_pos hx, if_pos ⟨hb, by rw [it]; exact hq⟩, it, ixN (by omega)]
  obtain ⟨⟨sa, sb, sc, sd, se, sf, sg⟩, ⟨c1, c2, c3, c4, c5, c6, c7⟩, hNi, hGu⟩ := h
  refine rS (sg s t (by omega) (by omega)).symm (rR_keep hR ⟨P, S, n, ⟨sa, sb, sc, sd, se, sf, fun u y hu hy => ?_⟩, ⟨c1, c2, c3, c4, c5, fun u hu => ?_, fun u hu => ?_⟩, rNi_to hNi ⟨rfl, rfl⟩ rfl rfl rfl rfl rfl rfl ⟨rfl, rfl⟩ (fun k _ => ⟨rfl, rfl⟩) (fun u y _ _ _ => qs_slot _ _ _ _ (by omega)) hS5, rGu_to hGu rfl rfl rfl rfl rfl rfl rfl rfl rfl ⟨rfl, rfl⟩ (fun u _ => qs_slot _ _ _ _ (by omega)) rfl hS5⟩ (fun j hj => qs_cell _ _ _ _ (by omega)) rfl rfl rfl)
  · rw [qc1, qc1]
    by_cases z : u = s ∧ y = t
    · rw [if_pos (by omega), if_pos (by omega)]
    · rw [if_neg (by omega), if_neg (by omega)]; exact sg u y hu hy
  · rw [qc1]
    by_cases z : u * 6 + 1 = s * 6 + t
    · rw [if_pos z]
      obtain rfl : t = 1 := by omega
      obtain ⟨j, hj, e⟩ := qx_inI 3 (by decide) hq
      exact ⟨j, by omega, e⟩
    · rw [if_neg z]; exact c6 u hu
  · rw [qc1]
    by_cases z : u * 6 + 3 = s * 6 + t
    · rw [if_pos z]
      obtain rfl : t = 3 := by omega
      obtain ⟨j, hj, e⟩ := qx_in1 9 (by decide) hq
      have j1 : 1 ≤ j := (nI_leI (a := 1) (by decide) (by omega)).mp (by rw [← e]; exact hq.1)
      exact ⟨j, j1, by omega, e⟩
    · rw [if_neg z]; exact c7 u hu
theorem rR_set {σ τ : qx_S} {P S n : Nat} (hR : rR σ τ) (h : rV σ τ P S n) : RelSet rR σ τ P S n :=
  ⟨fun a => rR_street hR h a, fun a b c => rR_place hR h a b c, fun a b => rR_limit hR h a b, fun a b is hi => rR_clash hR h a b is hi, fun a b => rR_rule hR h a b, fun a b c d e f => rR_stall hR h a b c d e f, fun a b c => rR_change hR h a b c⟩
