theorem rV_ini : rV iC iM 1 0 0 := by
  have no : ∀ {s : Nat} {A : Prop}, s < 0 → A := fun h => absurd h (Nat.not_lt_zero _)
  refine ⟨⟨⟨rfl, rfl, by decide, by decide⟩, ⟨rfl, rfl, by decide⟩, fun k _ => rfl, fun k hk => ?_, fun k _ => rfl, ⟨rfl, rfl⟩, fun s t _ _ => rfl⟩, ⟨fun p _ => ⟨0, by decide, rfl⟩, fun p _ => ⟨0, by decide, rfl⟩, fun p _ => Or.inl rfl, fun k _ => Or.inl rfl, fun a b _ _ => rfl, fun s _ => ⟨0, by decide, rfl⟩, fun s hs => no hs⟩, ⟨⟨rfl, Or.inl rfl, rfl⟩, fun s hs => no hs, fun s _ hs => ?_, fun s t hs => no hs, fun s hs => no hs, fun k hk => ?_, fun s _ => Or.inr ⟨0, by decide, rfl⟩⟩, ⟨⟨rfl, rfl, by decide⟩, fun g hg => no hg, fun s hs => no hs, fun g h p q _ hh => no hh, 0, by decide, rfl, fun g hg => no hg, fun g h a b _ hh => no hh⟩⟩
  · rcases (show k = 0 ∨ k = 1 ∨ k = 2 by omega) with rfl | rfl | rfl <;> rfl
  · rcases (show s = 0 ∨ s = 1 ∨ s = 2 ∨ s = 3 ∨ s = 4 by omega) with rfl | rfl | rfl | rfl | rfl <;> exact ⟨rfl, rfl, rfl, rfl⟩
  · rcases (show k = 0 ∨ k = 1 ∨ k = 2 by omega) with rfl | rfl | rfl <;> exact ⟨rfl, rfl⟩
theorem rR_ini : rR iC iM := ⟨⟨1, 0, 0, rV_ini⟩, Or.inl rfl, Or.inl ⟨rfl, rfl⟩⟩
/-- what stays of the relation when the kept parts stay -/
theorem rR_keep {σ τ σ2 τ2 : qx_S} (h : rR σ τ) (hv : ∃ P S n, rV σ2 τ2 P S n) (hk : ∀ j, 26 ≤ j → σ2 j = σ j) (hm : τ2 7 = τ 7) (h05 : σ2 0 5 = σ 0 5) (h06 : τ2 0 6 = τ 0 6) : rR σ2 τ2 := by
  have ek : kv σ2 = kv σ := by
    funext j
    unfold kv
    split
    · rfl
    · exact hk _ (by omega)
  have ew : kw τ2 = kw τ := by
    funext j k
    unfold kw
    rw [hm]
  refine ⟨hv, by rw [hk 32 (by decide)]; exact h.2.1, ?_⟩
  rw [h05, h06, ek, ew]
  exact h.2.2
theorem rV_wS {σ τ : qx_S} {P S n : Nat} (h : rV σ τ P S n) : wS σ P S := by
  obtain ⟨⟨a, b, -⟩, ⟨c1, c2, c3, c4, c5, c6, c7⟩, -, -⟩ := h
  exact ⟨c2, c6, a.1, a.2.2.2, b.1, b.2.2⟩
theorem rV_wN {σ τ : qx_S} {P S n : Nat} (h : rV σ τ P S n) : wN σ n := by
  obtain ⟨⟨a, b, -⟩, ⟨c1, c2, -⟩, ⟨d1, d2, d3, -⟩, ⟨e1, -⟩⟩ := h
  refine ⟨fun s hs => ?_, c2, e1.1, e1.2.2⟩
  rcases Nat.lt_or_ge s S with z | z
  · rcases d2 s z with ⟨q, -⟩ | ⟨p, hp, q, -⟩
    · exact Or.inl q
    · exact Or.inr ⟨p, by have := a.2.2.2; omega, q⟩
  · exact Or.inl (d3 s z hs).1
theorem rV_mW {σ τ : qx_S} {P S n : Nat} (h : rV σ τ P S n) : mW τ P S n := by
  obtain ⟨⟨a, b, s3, -⟩, ⟨c1, c2, -⟩, ⟨d1, d2, d3, d4, d5, d6, d7⟩, ⟨e1, -⟩⟩ := h
  refine ⟨⟨a.2.1, a.2.2.2⟩, ⟨b.2.1, b.2.2⟩, ⟨e1.2.1, e1.2.2⟩, fun p hp => ?_, d7⟩
  obtain ⟨k, hk, ek⟩ := c2 p hp
  exact ⟨k, hk, by rw [s3 _ (by omega), show 3 * p + 1 = p * 3 + 1 by omega]; exact ek⟩
theorem rV_mS {σ τ : qx_S} {P S n : Nat} (h : rV σ τ P S n) : mS τ P S := by
  have hw := rV_mW h
  obtain ⟨⟨a, b, s3, s4, s5, s6, s7⟩, ⟨c1, c2, c3, c4, c5, c6, c7⟩, -, -⟩ := h
  refine ⟨hw.1, hw.2.1, hw.2.2.2.1, fun s hs => ?_⟩
  obtain ⟨k, hk, ek⟩ := c6 s hs
  exact ⟨k, hk, by rw [s7 s 1 hs (by decide)]; exact ek⟩
theorem rV_mPre {σ τ : qx_S} {P S n : Nat} (h : rV σ τ P S n) : mPre τ S := by
  obtain ⟨-, -, ⟨d1, d2, d3, d4, d5, d6, d7⟩, ⟨e1, e2, e3, -⟩⟩ := h
  intro s hs hne
  obtain ⟨l, hl, el, hc⟩ := e3 s hs
  rcases hc with ⟨rfl, -⟩ | ⟨hl0, g, hg, -, -, eg, -⟩
  · exact absurd (by rw [(d5 s hs).2.2, el]; rfl) hne
  · exact ⟨g, by have := e1.2.2; omega, eg⟩
theorem rV_open {σ τ : qx_S} {P S n : Nat} (h : rV σ τ P S n) : (σ 7 2 = 0 ∧ ¬ mOpen τ) ∨ (¬ σ 7 2 = 0 ∧ mOpen τ) := by
  obtain ⟨-, -, ⟨⟨d1, d2, -⟩, -⟩, -⟩ := h
  rcases d2 with z | z
  · exact Or.inl ⟨z, by unfold mOpen; rw [d1, z]; decide⟩
  · exact Or.inr ⟨by rw [z]; decide, by unfold mOpen; rw [d1, z]⟩
