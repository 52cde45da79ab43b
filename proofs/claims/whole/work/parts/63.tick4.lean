/-! a guest walks on -/
theorem rV_at {σ τ : qx_S} {P S n : Nat} (h : rV σ τ P S n) (x : Int32) : ∀ i, i ≤ n → x = nI 0 ∨ ¬ x = nI 0 → (∃ s, s < S ∧ x = nI s) → mAt τ x i = gAt σ x i := by
  intro i hi _ hx
  obtain ⟨s, hs, rfl⟩ := hx
  obtain ⟨hSt, -, -, -, hg1, -⟩ := h
  have hS5 : S ≤ 5 := hSt.2.1.2.2
  induction i with
  | zero => rfl
  | succ i ih =>
    have ih := ih (by omega)
    have E1 : mAt τ (nI s) (i + 1) = mAt τ (nI s) i + (if τ 6 (7 * i + 4) = nI s ∧ (1 ≤ τ 6 (7 * i + 2) ∧ τ 6 (7 * i + 2) ≤ 2) then 1 else 0) := rfl
    have E2 : gAt σ (nI s) (i + 1) = if σ 19 i = nI s ∧ (σ 15 i = 1 ∨ σ 15 i = 2) then gAt σ (nI s) i + 1 else gAt σ (nI s) i := rfl
    rw [E1, E2, ih]
    obtain ⟨r1, r2, r3, r4⟩ := hg1 i (by omega)
    rw [r1]
    rcases r4 with r | r | r | r
    · rw [if_neg (by rw [r.1]; exact fun z => absurd z.2.1 (by decide)), if_neg (by rw [r.1]; exact fun z => absurd z.2 (by decide)), Int32.add_zero]
    · obtain ⟨r5, -, s', p', hs', -, es', ews', -⟩ := r
      rw [es', ews']
      have : (1 : Int32) ≤ σ 15 i ∧ σ 15 i ≤ 2 := by rcases r5 with z | z <;> rw [z] <;> decide
      by_cases e : nI s' = nI s
      · rw [if_pos ⟨e, this⟩, if_pos ⟨e, r5⟩]
      · rw [if_neg (fun z => e z.1), if_neg (fun z => e z.1), Int32.add_zero]
    · rw [if_neg (by rw [r.1]; exact fun z => absurd z.2.2 (by decide)), if_neg (by rw [r.1]; exact fun z => absurd z.2 (by decide)), Int32.add_zero]
    · have : ¬ σ 15 i ≤ 2 ∧ ¬ (σ 15 i = 1 ∨ σ 15 i = 2) := by rcases r.1 with z | z <;> rw [z] <;> decide
      rw [if_neg (fun z => this.1 z.2.2), if_neg (fun z => this.2 z.2), Int32.add_zero]
abbrev nHere (σ : qx_S) (n g s : Nat) : Prop := σ 8 s = σ 16 g ∧ nWorks σ s ∧ σ 6 (s * 6 + 0) = σ 18 g ∧ ¬ 3 ≤ gAt σ (nI s) n
theorem rV_here {σ τ : qx_S} {P S n g s : Nat} (h : rV σ τ P S n) (hs : s < S) (hg : g < n) (h0 : σ 15 g = 0) : mHere τ n g s ↔ nHere σ n g s := by
  have hw := works_iff h hs
  have ha := rV_at h (nI s) n (Nat.le_refl n) (by by_cases z : nI s = nI 0 <;> simp [z]) ⟨s, hs, rfl⟩
  obtain ⟨hSt, -, hNi, -, hg1, -⟩ := h
  have hS5 : S ≤ 5 := hSt.2.1.2.2
  obtain ⟨r1, r2, r3, r4⟩ := hg1 g hg
  have r5 : τ 6 (7 * g + 3) = σ 16 g ∧ ∃ p, p < P ∧ σ 16 g = nI p := by
    rcases r4 with r | r | r | r
    · exact r.2.2
    · exact absurd r.1 (by rw [h0]; decide)
    · exact absurd r.1 (by rw [h0]; decide)
    · exact absurd r.1 (by rw [h0]; decide)
  obtain ⟨r6, p, hp, ep⟩ := r5
  have hP8 : P ≤ 8 := hSt.1.2.2.2
  have ds : τ 5 (11 * s) = σ 6 (s * 6 + 0) := hSt.2.2.2.2.2.2 s 0 (by omega) (by decide)
  unfold mHere nHere
  rw [ha, r6, ds, r2, ← hw]
  have e8 : τ 5 (11 * s + 6) = σ 16 g ↔ σ 8 s = σ 16 g := by
    rw [ep]
    rcases hNi.2.1 s hs with ⟨z1, z2⟩ | ⟨q, hq, z1, z2⟩
    · rw [z1, z2]
      constructor
      · intro y; exact absurd (show nI p < 0 by rw [← y]; decide) (nI_pos (by omega))
      · intro y; exact absurd (show nI p < 0 by rw [← y]; decide) (nI_pos (by omega))
    · rw [z1, z2]
  rw [e8]
  exact ⟨fun z => ⟨z.2.1, z.1, z.2.2⟩, fun z => ⟨z.2.1, z.1, z.2.2⟩⟩
theorem rV_found {σ τ : qx_S} {P S n g : Nat} (h : rV σ τ P S n) (hg : g < n) (h0 : σ 15 g = 0) : (nFor σ n g = none ∧ mFound τ n g S = -1) ∨ ∃ s, s < S ∧ nFor σ n g = some s ∧ mFound τ n g S = nI s ∧ nHere σ n g s := by
  have hh : ∀ s, s < S → (mHere τ n g s ↔ nHere σ n g s) := fun s hs => rV_here h hs hg h0
  obtain ⟨hSt, -, hNi, -, hg1, -⟩ := h
  have hS5 : S ≤ 5 := hSt.2.1.2.2
  have big : ∀ s, S ≤ s → s < 5 → ¬ nHere σ n g s := fun s a b z => z.2.1.1 (hNi.2.2.1 s a b).1
  have uniq : ∀ s t, s < S → t < S → nHere σ n g s → nHere σ n g t → s = t := by
    intro s t hs ht a b
    by_cases e : s = t
    · exact e
    · exact absurd (hNi.2.2.2.1 s t hs ht e (by rw [a.1, b.1])) a.2.1.1
  by_cases ex : ∃ s, s < S ∧ nHere σ n g s
  · obtain ⟨s, hs, hn⟩ := ex
    refine Or.inr ⟨s, hs, ?_, ?_, hn⟩
    · unfold nFor
      refine qfind_some (by omega) (decide_eq_true hn) (fun t ht => ?_)
      have : ¬ nHere σ n g t := fun z => absurd (uniq t s (by omega) hs z hn) (by omega)
      exact decide_eq_false this
    · have key : ∀ i, i ≤ S → mFound τ n g i = if s < i then nI s else -1 := by
        intro i
        induction i with
        | zero => intro _; rfl
        | succ i ih =>
          intro hi
          have E : mFound τ n g (i + 1) = if mHere τ n g i then nI i else mFound τ n g i := rfl
          rw [E, ih (by omega)]
          by_cases e : i = s
          · subst e
            rw [if_pos ((hh i (by omega)).mpr hn), if_pos (by omega)]
          · rw [if_neg (fun z => e (uniq i s (by omega) hs ((hh i (by omega)).mp z) hn))]
            by_cases f : s < i
            · rw [if_pos f, if_pos (by omega)]
            · rw [if_neg f, if_neg (by omega)]
      rw [key S (Nat.le_refl S), if_pos hs]
  · have none : ∀ s, s < S → ¬ nHere σ n g s := fun s hs z => ex ⟨s, hs, z⟩
    refine Or.inl ⟨?_, ?_⟩
    · unfold nFor
      refine qfind_none (fun t ht => ?_)
      have : ¬ nHere σ n g t := by
        by_cases e : t < S
        · exact none t e
        · exact big t (by omega) ht
      exact decide_eq_false this
    · have key : ∀ i, i ≤ S → mFound τ n g i = -1 := by
        intro i
        induction i with
        | zero => intro _; rfl
        | succ i ih =>
          intro hi
          have E : mFound τ n g (i + 1) = if mHere τ n g i then nI i else mFound τ n g i := rfl
          rw [E, ih (by omega), if_neg (fun z => none i (by omega) ((hh i (by omega)).mp z))]
      exact key S (Nat.le_refl S)
/-- those who have walked in this tick are ahead of those who have not -/
def rAh (v : qx_S) (n i : Nat) : Prop := ∀ g h p q, g < i → i ≤ h → h < n → v 15 g = 0 → v 15 h = 0 → v 16 g = nI p → v 16 h = nI q → p < 8 → q < 8 → q < p
theorem rV_walk {σ τ : qx_S} {P S n g : Nat} (h : rV σ τ P S n) (hA : rAh σ n g) (hg : g < n) : rV (nWalk n g σ) (mWalkS n S g τ) P S n ∧ rAh (nWalk n g σ) n (g + 1) := by
  have h0 := h
  unfold nWalk mWalkS
  have r1 : τ 6 (7 * g + 2) = σ 15 g := (h.2.2.2.2.1 g hg).1
  by_cases g0 : σ 15 g = 0
  rotate_left
  · rw [if_neg g0, if_neg (show ¬ τ 6 (7 * g + 2) = 0 by rw [r1]; exact g0)]
    refine ⟨h0, fun x y p q hx hy hyn x0 y0 ep eq hp hq => ?_⟩
    have xg : x ≠ g := fun z => g0 (by rw [← z]; exact x0)
    exact hA x y p q (by omega) (by omega) hyn x0 y0 ep eq hp hq
  rw [if_pos g0, if_pos (show τ 6 (7 * g + 2) = 0 by rw [r1]; exact g0)]
  have hf := rV_found h hg g0
  obtain ⟨hSt, hIv, hNi, hGu⟩ := h
  have hS5 : S ≤ 5 := hSt.2.1.2.2
  have hP8 : P ≤ 8 := hSt.1.2.2.2
  have hn : n ≤ 20 := hGu.1.2.2
  have G := hGu.2.1 g hg
  obtain ⟨-, r2, r3, r4⟩ := G
  have r5 : σ 19 g = -4 ∧ τ 6 (7 * g + 3) = σ 16 g ∧ ∃ p, p < P ∧ σ 16 g = nI p := by
    rcases r4 with r | r | r | r
    · exact r.2
    · exact absurd r.1 (by rw [g0]; decide)
    · exact absurd r.1 (by rw [g0]; decide)
    · exact absurd r.1 (by rw [g0]; decide)
  obtain ⟨e19, r6, p0, hp0, ep0⟩ := r5
  have ck : ∀ (v2 w2 : qx_S), v2 11 = σ 11 → (∀ x, x ≠ g → v2 15 x = σ 15 x ∧ v2 19 x = σ 19 x) → ¬ v2 15 g = 2 → w2 5 = τ 5 → rCk v2 w2 S n := by
    intro v2 w2 a b c d t ht
    obtain ⟨l2, hl2, el2, hc2⟩ := rGu_ck hGu t ht
    refine ⟨l2, hl2, by rw [a]; exact el2, ?_⟩
    rcases hc2 with ⟨y1, y2⟩ | ⟨y1, x, y2, y3, y4, y5, y6⟩
    · refine Or.inl ⟨y1, fun x hx => ?_⟩
      by_cases y : x = g
      · subst y
        exact fun z => absurd z c
      · rw [(b x y).1, (b x y).2]; exact y2 x hx
    · have xg : ¬ x = g := by
        intro y
        rw [y, g0] at y3
        exact absurd y3 (by decide)
      refine Or.inr ⟨y1, x, y2, by rw [(b x xg).1]; exact y3, by rw [(b x xg).2]; exact y4, by rw [d]; exact y5, fun k hk => ?_⟩
      by_cases y : k = g
      · subst y
        exact fun z => absurd z c
      · rw [(b k y).1, (b k y).2]; exact y6 k hk
  obtain ⟨-, hg1, -, hord, t, ht, ew, hst, hinc⟩ := id hGu
  have htn := rNw_n σ n
  unfold mWalk
  rcases hf with ⟨f1, f2⟩ | ⟨s, hs, f1, f2, hh⟩
  · rw [f1, f2, if_pos (by decide)]
    show rV (gStep σ g (σ 1 0)) (mStep τ g) P S n ∧ rAh (gStep σ g (σ 1 0)) n (g + 1)
    unfold gStep mStep
    rw [qs_same, qs_same, r6, ep0, nI_1, hSt.1.1, q_ne _ _ _ _ _ (show 1 ≠ 6 by decide), hSt.1.2.1]
    by_cases out : p0 + 1 < P
    · rw [if_pos (nI_lt out (by omega)), if_neg (fun z => absurd ((nI_eq (by omega) (by omega)).mp z) (by omega))]
      -- stays on the street, one place on
      refine ⟨⟨rSt_to hSt rfl rfl rfl rfl rfl rfl (fun k _ => rfl) (fun k _ => rfl) (fun k _ => rfl) (fun k _ => rfl) (fun t i _ hi => rfl), rIv_to hIv rfl rfl rfl, rNi_E hNi rfl rfl rfl rfl ⟨rfl, rfl⟩ rfl (fun t _ => rfl) hS5 (fun t ht => hNi.2.2.2.2.1 t ht) (fun t ht => ⟨rfl, rfl, rfl⟩), hGu.1, fun x hx => ?_, ck _ _ rfl (fun x hx => ⟨rfl, rfl⟩) (by rw [q_ne _ _ _ _ _ (by decide), g0]; decide) rfl, ?_, t, ?_, ew, ?_, ?_⟩, ?_⟩
      · by_cases z : x = g
        · subst z
          unfold rG1
          simp [q_ne, q6, q6z, qc7, r1, r2, r3, g0, e19]
          exact ⟨p0 + 1, out, rfl⟩
        · refine rG1_to (hg1 x hx) rfl (fun j a b => ?_) (fun i hi => by rw [q6 _ _ _ _ _ _ (by omega) hi, if_neg (fun y => z y.1)])
          by_cases y : j = 16
          · subst y
            rw [qc1, if_neg z]
          · rw [q_ne _ _ _ _ _ y]
      · intro x y p q hx hy x0 xp y01 yq hp8 hq8
        rw [q_ne _ _ _ _ _ (by decide)] at x0 y01
        rw [q_ne _ _ _ _ _ (by decide)]
        rw [qc1] at xp yq
        by_cases zx : x = g
        · subst zx
          rw [if_pos rfl] at xp
          rw [if_neg (by omega)] at yq
          have e1 := (nI_eq (by omega) (by omega)).mp xp
          have := hord x y p0 q hx hy g0 ep0 y01 yq (by omega) hq8
          exact ⟨by omega, fun y1 => by have := this.2 y1; omega⟩
        · rw [if_neg zx] at xp
          by_cases zy : y = g
          · subst zy
            rw [if_pos rfl] at yq
            have e1 := (nI_eq (by omega) (by omega)).mp yq
            have := hA x y p p0 hx (Nat.le_refl _) hy x0 g0 xp ep0 hp8 (by omega)
            exact ⟨by omega, fun y1 => by rw [g0] at y1; exact absurd y1 (by decide)⟩
          · rw [if_neg zy] at yq
            exact hord x y p q hx hy x0 xp y01 yq hp8 hq8
      · rw [rNw_to (v := σ) (v2 := qs σ 16 g (nI (p0 + 1))) rfl]; exact ht
      · intro x hx x1
        rw [q_ne _ _ _ _ _ (by decide)] at x1
        rw [q6 _ _ _ _ _ _ (by omega) (by omega), if_neg (by omega)]
        exact hst x hx x1
      · intro x y a b hx hy x1 y1 e ea eb
        rw [q_ne _ _ _ _ _ (by decide)] at x1 y1
        rw [q_ne _ _ _ _ _ (by decide), q_ne _ _ _ _ _ (by decide)] at e
        rw [q6 _ _ _ _ _ _ (by omega) (by omega), if_neg (by omega)] at ea eb
        exact hinc x y a b hx hy x1 y1 e ea eb
      · intro x y p q hx hy hyn x0 y0 ep eq hp8 hq8
        rw [q_ne _ _ _ _ _ (by decide)] at x0 y0
        rw [qc1] at ep eq
        rw [if_neg (by omega)] at eq
        by_cases zx : x = g
        · subst zx
          rw [if_pos rfl] at ep
          have e1 := (nI_eq (by omega) (by omega)).mp ep
          have := hord x y p0 q (by omega) hyn g0 ep0 (Or.inl y0) eq (by omega) hq8
          omega
        · rw [if_neg zx] at ep
          exact hA x y p q (by omega) (by omega) hyn x0 y0 ep eq hp8 hq8
    · have oe : p0 + 1 = P := by omega
      rw [if_neg (fun z => out ((nI_ltI (by omega) (by omega)).mp z)), if_pos (by rw [oe])]
      refine ⟨⟨rSt_to hSt rfl rfl rfl rfl rfl rfl (fun k _ => rfl) (fun k _ => rfl) (fun k _ => rfl) (fun k _ => rfl) (fun t i _ hi => rfl), rIv_to hIv rfl rfl rfl, rNi_E hNi rfl rfl rfl rfl ⟨rfl, rfl⟩ rfl (fun t _ => rfl) hS5 (fun t ht => hNi.2.2.2.2.1 t ht) (fun t ht => ⟨rfl, rfl, rfl⟩), rGu_D (g := g) hGu rfl rfl rfl rfl (fun j x hj hj2 hx => ?_) (fun x i hx hi => ?_) ?_ (ck _ _ rfl (fun x hx => ?_) ?_ rfl) (Or.inl ?_)⟩, ?_⟩
      · rcases (show j = 15 ∨ j = 16 ∨ j = 17 ∨ j = 18 ∨ j = 19 ∨ j = 20 by omega) with rfl | rfl | rfl | rfl | rfl | rfl <;> simp [q_ne, qc7, hx]
      · simp [q6, hx, hi]
      · unfold rG1
        simp [q_ne, q6, q6z, qc7, r2, r3, e19]
      · simp [q_ne, qc7, hx]
      · simp [q_ne, qc7]
      · simp [q_ne, qc7]
      · intro x y p q hx hy hyn x0 y0 ep eq hp8 hq8
        have zy : ¬ y = g := by omega
        have zx : ¬ x = g := by
          intro z
          subst z
          simp [q_ne, qc7] at x0
        simp [q_ne, qc7, zx, zy] at x0 y0 ep eq
        exact hA x y p q (by omega) (by omega) hyn x0 y0 ep eq hp8 hq8
  · rw [f1, f2, if_neg (nI_pos (n := s) (by omega))]
    show rV (gQueue σ g (nI s)) (mQueue τ g (nI s)) P S n ∧ rAh (gQueue σ g (nI s)) n (g + 1)
    have e8 : σ 8 s = nI p0 := by rw [hh.1, ep0]
    have st : mQ2 (mQ1 τ g (nI s)) 1 7 = nI (t + 1) := by
      unfold mQ2 mQ1
      rw [qs_same, q_ne _ _ _ _ _ (by decide), q_ne _ _ _ _ _ (by decide), ew, nI_1]
    unfold mQueue
    rw [st]
    unfold mQ2 mQ1 gQueue
    have one : qs (qs (qs τ 6 (7 * g + 2) 1) 6 (7 * g + 4) (nI s)) 1 7 (qs (qs τ 6 (7 * g + 2) 1) 6 (7 * g + 4) (nI s) 1 7 + 1) = qs (qs (qs τ 6 (7 * g + 2) 1) 6 (7 * g + 4) (nI s)) 1 7 (nI (t + 1)) := by
      rw [q_ne _ _ _ _ _ (by decide), q_ne _ _ _ _ _ (by decide), ew, nI_1]
    rw [one]
    refine ⟨⟨rSt_to hSt rfl rfl rfl rfl rfl rfl (fun k hk => ?_) (fun k _ => rfl) (fun k _ => rfl) (fun k _ => rfl) (fun t i _ hi => rfl), rIv_to hIv rfl rfl rfl, rNi_E hNi rfl rfl rfl rfl ⟨rfl, rfl⟩ rfl (fun t _ => rfl) hS5 (fun t ht => hNi.2.2.2.2.1 t ht) (fun t ht => ⟨rfl, rfl, rfl⟩), hGu.1, fun x hx => ?_, ck _ _ rfl (fun x hx => ?_) (by simp [q_ne, qc7]) rfl, ?_, t + 1, ?_, rfl, ?_, ?_⟩, ?_⟩
    · rcases hk with rfl | rfl | rfl | rfl <;> rfl
    · by_cases z : x = g
      · subst z
        unfold rG1
        simp [q_ne, q6, q6z, qc7, r2, r3, r6]
        exact ⟨s, hs, p0, hp0, rfl, ep0, e8⟩
      · refine rG1_to (hg1 x hx) rfl (fun j a b => ?_) (fun i hi => by simp [q_ne, q6, z, hi])
        rcases (show j = 15 ∨ j = 16 ∨ j = 17 ∨ j = 18 ∨ j = 19 ∨ j = 20 by omega) with rfl | rfl | rfl | rfl | rfl | rfl <;> simp [q_ne, qc7, z]
    · simp [q_ne, qc7, hx]
    · intro x y p q hx hy x0 xp y01 yq hp8 hq8
      have zx : ¬ x = g := by
        intro z
        subst z
        simp [q_ne, qc7] at x0
      simp [q_ne, qc7, zx] at x0 xp yq
      by_cases zy : y = g
      · subst zy
        have := hA x y p p0 hx (Nat.le_refl _) hy x0 g0 xp ep0 hp8 (by omega)
        rw [ep0] at yq
        have e1 := (nI_eq (by omega) (by omega)).mp yq
        exact ⟨by omega, fun _ => by omega⟩
      · simp [q_ne, qc7, zy] at y01 ⊢
        exact hord x y p q hx hy x0 xp y01 yq hp8 hq8
    · exact Nat.le_trans (Nat.succ_le_succ ht) (rNw_lt g g0 (by simp [q_ne, qc7]) n hg (fun k hk e => by
        by_cases z : k = g
        · rw [z]; exact g0
        · simpa [q_ne, qc7, z] using e))
    · intro x hx x1
      by_cases z : x = g
      · subst z
        exact ⟨t + 1, Nat.le_refl _, by simp [q6]⟩
      · simp [q_ne, qc7, z] at x1
        obtain ⟨a, ha, ea⟩ := hst x hx x1
        exact ⟨a, by omega, by simp [q_ne, q6, z, ea]⟩
    · intro x y a b hx hy x1 y1 e ea eb ha hb
      by_cases zx : x = g
      · subst zx
        have zy : ¬ y = x := by omega
        simp [q_ne, qc7, zy] at y1 e
        -- the other waits at the same stall with a greater number: not possible
        obtain ⟨k1, k2, k3, k4⟩ := hg1 y hy
        rcases k4 with r | r | r | r
        · exact absurd r.1 (by rw [y1]; decide)
        · obtain ⟨-, -, s', p', hs', hp', es', -, c16, c8⟩ := r
          rw [es'] at e
          have e1 := (nI_eq (by omega) (by omega)).mp e
          subst e1
          rw [e8] at c8
          have e2 := (nI_eq (by omega) (by omega)).mp c8
          subst e2
          have := hord x y p0 p0 hx hy g0 ep0 (Or.inr y1) c16 (by omega) (by omega)
          exact absurd (this.2 y1) (by omega)
        · exact absurd r.1 (by rw [y1]; decide)
        · exact absurd r.1 (by rw [y1]; decide)
      · simp [q_ne, qc7, zx] at x1 e
        simp [q_ne, q6, zx] at ea
        obtain ⟨a', ha', ea'⟩ := hst x (by omega) x1
        rw [ea'] at ea
        have e1 := (nI_eq (by omega) (by omega)).mp ea
        by_cases zy : y = g
        · subst zy
          simp [q6] at eb
          have e2 := (nI_eq (by omega) (by omega)).mp eb
          omega
        · simp [q_ne, qc7, zy] at y1 e
          simp [q_ne, q6, zy] at eb
          obtain ⟨b', hb', eb'⟩ := hst y hy y1
          rw [eb'] at eb
          have e2 := (nI_eq (by omega) (by omega)).mp eb
          have := hinc x y a' b' hx hy x1 y1 e ea' eb' ha' hb'
          omega
    · intro x y p q hx hy hyn x0 y0 ep eq hp8 hq8
      have zy : ¬ y = g := by omega
      have zx : ¬ x = g := by
        intro z
        subst z
        simp [q_ne, qc7] at x0
      simp [q_ne, qc7, zx, zy] at x0 y0 ep eq
      exact hA x y p q (by omega) (by omega) hyn x0 y0 ep eq hp8 hq8
