/-! one write seen from a field of a row -/
theorem q_ne (σ : qx_S) (j k : Nat) (x : Int32) {i : Nat} (m : Nat) (h : i ≠ j) : qs σ j k x i m = σ i m := by rw [qs_cell _ _ _ _ h]
theorem q5 (σ : qx_S) (s t i j : Nat) (x : Int32) (hi : i < 11) (hj : j < 11) : qs σ 5 (11 * s + i) x 5 (11 * t + j) = if t = s ∧ j = i then x else σ 5 (11 * t + j) := by
  rw [qs_at]
  by_cases h : t = s ∧ j = i
  · rw [if_pos h, if_pos ⟨rfl, by omega⟩]
  · rw [if_neg h, if_neg (by omega)]
theorem q6 (σ : qx_S) (s t i j : Nat) (x : Int32) (hi : i < 7) (hj : j < 7) : qs σ 6 (7 * s + i) x 6 (7 * t + j) = if t = s ∧ j = i then x else σ 6 (7 * t + j) := by
  rw [qs_at]
  by_cases h : t = s ∧ j = i
  · rw [if_pos h, if_pos ⟨rfl, by omega⟩]
  · rw [if_neg h, if_neg (by omega)]
theorem q6z (σ : qx_S) (s t i : Nat) (x : Int32) (hi : i < 7) : qs σ 6 (7 * s + i) x 6 (7 * t) = if t = s ∧ 0 = i then x else σ 6 (7 * t) := q6 σ s t i 0 x hi (by decide)
theorem qc1 (σ : qx_S) (j k m : Nat) (x : Int32) : qs σ j k x j m = if m = k then x else σ j m := by
  rw [qs_at]
  by_cases h : m = k
  · rw [if_pos h, if_pos ⟨rfl, h⟩]
  · rw [if_neg h, if_neg (fun z => h z.2)]
theorem qc7 (σ : qx_S) (j k m : Nat) (x : Int32) (_ : 7 ≤ j) : qs σ j k x j m = if m = k then x else σ j m := qc1 σ j k m x
theorem rG1_to {v w v2 w2 : qx_S} {P S g : Nat} (h : rG1 v w P S g) (h8 : v2 8 = v 8) (hv : ∀ j, 15 ≤ j → j ≤ 20 → v2 j g = v j g) (hw : ∀ i, i < 7 → w2 6 (7 * g + i) = w 6 (7 * g + i)) : rG1 v2 w2 P S g := by
  have w0 : w2 6 (7 * g) = w 6 (7 * g) := hw 0 (by decide)
  unfold rG1 at *
  rw [h8, hv 15 (by decide) (by decide), hv 16 (by decide) (by decide), hv 17 (by decide) (by decide), hv 18 (by decide) (by decide), hv 19 (by decide) (by decide), hv 20 (by decide) (by decide), w0, hw 1 (by decide), hw 2 (by decide), hw 3 (by decide), hw 4 (by decide), hw 6 (by decide)]
  exact h
theorem rNw_le {v v2 : qx_S} : ∀ n, (∀ k, k < n → v2 15 k = 0 → v 15 k = 0) → rNw v n ≤ rNw v2 n
  | 0, _ => Nat.le_refl _
  | n + 1, h => by
    have ih := rNw_le n (fun k hk => h k (by omega))
    rw [rNw, rNw]
    have := h n (by omega)
    by_cases e : v2 15 n = 0
    · rw [if_pos e, if_pos (this e)]; omega
    · rw [if_neg e]
      split <;> omega
theorem rNw_lt {v v2 : qx_S} (g : Nat) (h0 : v 15 g = 0) (h1 : ¬ v2 15 g = 0) : ∀ n, g < n → (∀ k, k < n → v2 15 k = 0 → v 15 k = 0) → rNw v n + 1 ≤ rNw v2 n
  | 0, hg, _ => absurd hg (Nat.not_lt_zero _)
  | n + 1, hg, h => by
    rw [rNw, rNw]
    by_cases e : g = n
    · subst e
      have ih := rNw_le (v := v) (v2 := v2) g (fun k hk => h k (by omega))
      rw [if_pos h0, if_neg h1]; omega
    · have ih := rNw_lt g h0 h1 n (by omega) (fun k hk => h k (by omega))
      have := h n (by omega)
      by_cases e : v2 15 n = 0
      · rw [if_pos e, if_pos (this e)]; omega
      · rw [if_neg e]
        split <;> omega
theorem rNw_n (v : qx_S) : ∀ n, rNw v n ≤ n
  | 0 => Nat.le_refl _
  | n + 1 => by
    have := rNw_n v n
    rw [rNw]; split <;> omega
/-- who cooks, and for whom -/
def rCk (v w : qx_S) (S n : Nat) : Prop := ∀ s, s < S → ∃ l, l ≤ 9 ∧ v 11 s = nI l ∧ ((l = 0 ∧ ∀ g, g < n → v 15 g = 2 → ¬ v 19 g = nI s) ∨ (0 < l ∧ ∃ g, g < n ∧ v 15 g = 2 ∧ v 19 g = nI s ∧ w 5 (11 * s + 10) = nI g ∧ ∀ h, h < n → v 15 h = 2 → v 19 h = nI s → h = g))
/-- one guest is changed, and neither walks nor waits anew -/
theorem rGu_D {v w v2 w2 : qx_S} {P S n g : Nat} (H : rGu v w P S n) (h14 : v2 14 0 = v 14 0) (g14 : w2 1 4 = w 1 4) (g17 : w2 1 7 = w 1 7) (h8 : v2 8 = v 8)
    (hv : ∀ j h, 15 ≤ j → j ≤ 20 → h ≠ g → v2 j h = v j h) (hw : ∀ h i, h ≠ g → i < 7 → w2 6 (7 * h + i) = w 6 (7 * h + i)) (hgg : rG1 v2 w2 P S g) (hck : rCk v2 w2 S n)
    (hd : (¬ v2 15 g = 0 ∧ ¬ v2 15 g = 1) ∨ (v2 15 g = 1 ∧ v 15 g = 1 ∧ v2 16 g = v 16 g ∧ v2 19 g = v 19 g ∧ w2 6 (7 * g + 5) = w 6 (7 * g + 5))) : rGu v2 w2 P S n := by
  obtain ⟨⟨e1, e2, hn⟩, hg1, -, hord, t, ht, ew, hst, hinc⟩ := H
  have n0 : ¬ v2 15 g = 0 := by
    rcases hd with z | z
    · exact z.1
    · rw [z.1]; decide
  have hv15 : ∀ h, h ≠ g → v2 15 h = v 15 h := fun h e => hv 15 h (by decide) (by decide) e
  have hv16 : ∀ h, h ≠ g → v2 16 h = v 16 h := fun h e => hv 16 h (by decide) (by decide) e
  have hv19 : ∀ h, h ≠ g → v2 19 h = v 19 h := fun h e => hv 19 h (by decide) (by decide) e
  have one : ∀ h, v2 15 h = 1 → v 15 h = 1 ∧ v2 16 h = v 16 h ∧ v2 19 h = v 19 h ∧ w2 6 (7 * h + 5) = w 6 (7 * h + 5) := by
    intro h e
    by_cases z : h = g
    · subst z
      rcases hd with y | y
      · exact absurd e y.2
      · exact y.2
    · exact ⟨by rw [← hv15 h z]; exact e, hv16 h z, hv19 h z, hw h 5 z (by decide)⟩
  have zer : ∀ h, v2 15 h = 0 → v 15 h = 0 ∧ v2 16 h = v 16 h := by
    intro h e
    have z : h ≠ g := fun z => n0 (by rw [← z]; exact e)
    exact ⟨by rw [← hv15 h z]; exact e, hv16 h z⟩
  refine ⟨⟨by rw [h14]; exact e1, by rw [g14]; exact e2, hn⟩, fun h hh => ?_, hck, ?_, t, ?_, by rw [g17]; exact ew, ?_, ?_⟩
  · by_cases z : h = g
    · subst z; exact hgg
    · exact rG1_to (hg1 h hh) h8 (fun j a b => hv j h a b z) (fun i hi => hw h i z hi)
  · intro x h p q hx hh x0 xp h01 hq hp8 hq8
    obtain ⟨a1, a2⟩ := zer x x0
    rcases h01 with z | z
    · obtain ⟨b1, b2⟩ := zer h z
      have := hord x h p q hx hh a1 (by rw [← a2]; exact xp) (Or.inl b1) (by rw [← b2]; exact hq) hp8 hq8
      exact ⟨this.1, fun y => this.2 (by rw [z] at y; exact absurd y (by decide))⟩
    · obtain ⟨b1, b2, -⟩ := one h z
      have := hord x h p q hx hh a1 (by rw [← a2]; exact xp) (Or.inr b1) (by rw [← b2]; exact hq) hp8 hq8
      exact ⟨this.1, fun _ => this.2 b1⟩
  · exact Nat.le_trans ht (rNw_le n (fun k _ e => (zer k e).1))
  · intro x hx x1
    obtain ⟨a1, -, -, a4⟩ := one x x1
    rw [a4]
    exact hst x hx a1
  · intro x h a b hx hh x1 h1 he ea eb ha hb
    obtain ⟨a1, -, a3, a4⟩ := one x x1
    obtain ⟨b1, -, b3, b4⟩ := one h h1
    exact hinc x h a b hx hh a1 b1 (by rw [← a3, ← b3]; exact he) (by rw [← a4]; exact ea) (by rw [← b4]; exact eb) ha hb
theorem rGu_ck {v w : qx_S} {P S n : Nat} (H : rGu v w P S n) : rCk v w S n := H.2.2.1
/-- nothing of the guests is changed but what a stall does -/
theorem rGu_E {v w v2 w2 : qx_S} {P S n : Nat} (H : rGu v w P S n) (h14 : v2 14 = v 14) (g14 : w2 1 4 = w 1 4) (g17 : w2 1 7 = w 1 7) (h8 : v2 8 = v 8) (hv : ∀ j, 15 ≤ j → j ≤ 20 → v2 j = v j) (hw : w2 6 = w 6) (hck : rCk v2 w2 S n) : rGu v2 w2 P S n := by
  obtain ⟨e, hg1, -, hord, hst⟩ := H
  refine ⟨by rw [h14, g14]; exact e, fun h hh => rG1_to (hg1 h hh) h8 (fun j a b => by rw [hv j a b]) (fun i _ => by rw [hw]), hck, ?_, ?_⟩
  · rw [hv 15 (by decide) (by decide), hv 16 (by decide) (by decide)]
    exact hord
  · rw [rNw_to (hv 15 (by decide) (by decide)), g17, hw, hv 15 (by decide) (by decide), hv 19 (by decide) (by decide)]
    exact hst
theorem rNi_E {v w v2 w2 : qx_S} {P S : Nat} (h : rNi v w P S) (h7 : v2 7 = v 7) (h8 : v2 8 = v 8) (h12 : v2 12 = v 12) (h13 : v2 13 = v 13) (g1 : w2 1 2 = w 1 2 ∧ w2 1 3 = w 1 3) (g3 : w2 3 = w 3) (g5 : ∀ s, s < 5 → w2 5 (11 * s + 6) = w 5 (11 * s + 6)) (hS : S ≤ 5) (hi : ∀ s, s < S → w2 5 (11 * s + 7) = v2 9 s ∧ w2 5 (11 * s + 8) = v2 10 s ∧ w2 5 (11 * s + 9) = v2 11 s) (ho : ∀ s, S ≤ s → v2 9 s = v 9 s ∧ v2 10 s = v 10 s ∧ v2 11 s = v 11 s) : rNi v2 w2 P S := by
  obtain ⟨⟨a1, a2, a3⟩, b, c, d, e, f, g⟩ := h
  refine ⟨⟨by rw [g1.1, h7]; exact a1, by rw [h7]; exact a2, by rw [g1.2, h7]; exact a3⟩, fun s hs => by rw [h8, g5 s (by omega)]; exact b s hs, fun s hs h5 => by rw [h8, (ho s hs).1, (ho s hs).2.1, (ho s hs).2.2]; exact c s hs h5, by rw [h8]; exact d, hi, fun k hk => by rw [g3, h12, h13]; exact f k hk, fun s hs => by rw [g5 s hs]; exact g s hs⟩
theorem works_iff {σ τ : qx_S} {P S n s : Nat} (h : rV σ τ P S n) (hs : s < S) : nWorks σ s ↔ mWorks τ s := by
  obtain ⟨⟨a, b, s3, -⟩, ⟨c1, c2, -⟩, ⟨d1, d2, d3, d4, d5, d6, d7⟩, -⟩ := h
  rcases d2 s hs with ⟨z1, z2⟩ | ⟨p, hp, z1, z2⟩
  · constructor
    · intro y; exact absurd z1 y.1
    · intro y; exact absurd (by rw [z2]; decide) y.1
  · have hp8 : p < 8 := by have := a.2.2.2; omega
    obtain ⟨k, hk, ek⟩ := c2 p hp8
    have e1 : nLine σ s = nI k := by unfold nLine ix; rw [z1, nI_clamp (by omega)]; exact ek
    have e2 : mLine τ s = nI k := by unfold mLine ix; rw [z2, nI_clamp (by omega), s3 _ (by omega), show 3 * p + 1 = p * 3 + 1 by omega]; exact ek
    unfold nWorks mWorks
    rw [e1, e2, z1, z2]
    show _ ∧ σ 13 (nI k).toNatClampNeg = 0 ↔ _ ∧ τ 3 (3 * (nI k).toNatClampNeg + 2) = 0
    rw [nI_clamp (by omega), (d6 k hk).2]
    constructor
    · intro y; exact ⟨nI_pos (by omega), y.2⟩
    · intro y; exact ⟨fun z => nI_pos (n := p) (by omega) (by rw [z]; decide), y.2⟩
