/-! a stall begins -/
theorem mFirst_eq {σ τ : qx_S} {P S n s : Nat} (h : rV σ τ P S n) (hs : s < S) : ∀ i, i ≤ n → mFirst τ (nI s) i = (match gFirst σ (nI s) 1 i with | none => -1 | some g => nI g) := by
  obtain ⟨hSt, -, -, ⟨-, -, hn⟩, hg1, -, -, t, ht, -, hst, hinc⟩ := h
  have hS5 : S ≤ 5 := hSt.2.1.2.2
  have htn := rNw_n σ n
  have key : ∀ g, g < n → ((τ 6 (7 * g + 4) = nI s ∧ τ 6 (7 * g + 2) = 1) ↔ (σ 19 g = nI s ∧ σ 15 g = 1)) := by
    intro g hg
    obtain ⟨r1, -, -, r4⟩ := hg1 g hg
    rw [r1]
    constructor
    · rintro ⟨a, b⟩
      rcases r4 with r | r | r | r
      · rw [r.1] at b; exact absurd b (by decide)
      · obtain ⟨-, -, s', p', hs', -, es', ews', -⟩ := r
        rw [ews'] at a
        rw [es', a]; exact ⟨rfl, b⟩
      · rw [r.1] at b; exact absurd b (by decide)
      · rcases r.1 with z | z <;> rw [z] at b <;> exact absurd b (by decide)
    · rintro ⟨a, b⟩
      rcases r4 with r | r | r | r
      · rw [r.1] at b; exact absurd b (by decide)
      · obtain ⟨-, -, s', p', hs', -, es', ews', -⟩ := r
        rw [es'] at a
        rw [ews', a]; exact ⟨rfl, b⟩
      · rw [r.1] at b; exact absurd b (by decide)
      · rcases r.1 with z | z <;> rw [z] at b <;> exact absurd b (by decide)
  intro i
  induction i with
  | zero => intro _; rfl
  | succ i ih =>
    intro hi
    have ih := ih (by omega)
    have E : mFirst τ (nI s) (i + 1) = mFirstS τ (nI s) i (mFirst τ (nI s) i) := rfl
    rw [E, ih]
    unfold mFirstS
    have G : gFirst σ (nI s) 1 (i + 1) = (match gFirst σ (nI s) 1 i with | some g => some g | none => if σ 19 i = nI s ∧ σ 15 i = 1 then some i else none) := by
      unfold gFirst
      rw [List.range_succ, List.find?_append]
      cases (List.range i).find? (fun g => decide (σ 19 g = nI s ∧ σ 15 g = 1)) with
      | some g => rfl
      | none =>
        by_cases e : σ 19 i = nI s ∧ σ 15 i = 1
        · simp [e]
        · simp [e]
    rw [G]
    by_cases e : σ 19 i = nI s ∧ σ 15 i = 1
    · rw [if_pos ((key i (by omega)).mpr e)]
      cases hq : gFirst σ (nI s) 1 i with
      | none => simp [e]
      | some g =>
        have hgi : g < i ∧ σ 19 g = nI s ∧ σ 15 g = 1 := by
          have := qfind_is hq
          exact ⟨this.1, by simpa using this.2.1⟩
        show (if nI g < 0 then nI i else _) = nI g
        rw [if_neg (nI_pos (n := g) (by omega))]
        obtain ⟨a, ha, ea⟩ := hst g (by omega) hgi.2.2
        obtain ⟨b, hb, eb⟩ := hst i (by omega) e.2
        have := hinc g i a b hgi.1 (by omega) hgi.2.2 e.2 (by rw [hgi.2.1, e.1]) ea eb ha hb
        show (if τ 6 (7 * (nI g).toNatClampNeg + 5) ≤ _ then _ else _) = _
        rw [nI_clamp (by omega), ea, eb, if_pos (nI_le (by omega) (by omega))]
    · rw [if_neg (fun z => e ((key i (by omega)).mp z))]
      cases hq : gFirst σ (nI s) 1 i with
      | none => simp [e]
      | some g => rfl
theorem rV_begin {σ τ : qx_S} {P S n s : Nat} (h : rV σ τ P S n) (hs : s < S) : rV (nStart n s σ) (mBegin n s τ) P S n := by
  have hw := works_iff h hs
  have hf := mFirst_eq h hs n (Nat.le_refl n)
  have h0 := h
  obtain ⟨hSt, hIv, hNi, hGu⟩ := h
  have hS5 : S ≤ 5 := hSt.2.1.2.2
  have hn : n ≤ 20 := hGu.1.2.2
  obtain ⟨l, hl, el, hc⟩ := rGu_ck hGu s hs
  have d5 := hNi.2.2.2.2.1
  have e9 : τ 5 (11 * s + 9) = nI l := by rw [(d5 s hs).2.2, el]
  unfold nStart mBegin
  rcases hc with ⟨rfl, hc⟩ | ⟨hl0, -⟩
  rotate_left
  · rw [if_neg (show ¬ σ 11 s = 0 by rw [el]; exact nI_ne0 hl0 (by omega)), if_pos (show 0 < τ 5 (11 * s + 9) by rw [e9]; exact nI_lt (a := 0) hl0 (by omega))]
    exact h0
  rw [if_pos (show σ 11 s = 0 by rw [el]; rfl), if_neg (show ¬ 0 < τ 5 (11 * s + 9) by rw [e9]; decide)]
  by_cases hwk : nWorks σ s
  rotate_left
  · rw [if_neg hwk, if_neg (fun z => hwk (hw.mpr z))]
    exact h0
  rw [if_pos hwk, if_pos (hw.mp hwk), hf]
  cases hq : gFirst σ (nI s) 1 n with
  | none =>
    rw [if_pos (by decide)]
    exact h0
  | some g =>
    dsimp only
    have hgi : g < n ∧ σ 19 g = nI s ∧ σ 15 g = 1 := by
      have := qfind_is hq
      exact ⟨this.1, by simpa using this.2.1⟩
    obtain ⟨hg, gs, g1⟩ := hgi
    rw [if_neg (nI_pos (n := g) (by omega)), show ix (nI g) = g from nI_clamp (by omega)]
    obtain ⟨pc, hp1, hp9, ep⟩ := hIv.2.2.2.2.2.2 s hs
    have pr : τ 5 (11 * s + 3) = nI pc := by rw [hSt.2.2.2.2.2.2 s 3 (by omega) (by decide)]; exact ep
    have ep2 : qs σ 15 g 2 6 (s * 6 + 3) = nI pc := by rw [q_ne _ _ _ _ _ (by decide)]; exact ep
    rw [ep2, pr]
    have G := hGu.2.1 g hg
    refine ⟨rSt_to hSt rfl rfl rfl rfl rfl rfl (fun k _ => rfl) (fun k _ => rfl) (fun k _ => rfl) (fun k _ => rfl) (fun t i _ hi => ?_), rIv_to hIv rfl rfl rfl, rNi_E hNi rfl rfl rfl rfl ⟨rfl, rfl⟩ rfl (fun t _ => ?_) hS5 (fun t ht => ?_) (fun t ht => ?_), rGu_D (g := g) hGu rfl rfl rfl rfl (fun j x hj hj2 hx => ?_) (fun x i hx hi => ?_) ?_ (fun t ht => ?_) (Or.inl ?_)⟩
    · rw [q_ne _ _ _ _ _ (by decide), q5 _ _ _ _ _ _ (by omega) (by omega), if_neg (by omega), q5 _ _ _ _ _ _ (by omega) (by omega), if_neg (by omega)]
    · rw [q_ne _ _ _ _ _ (by decide), q5 _ _ _ _ _ _ (by omega) (by omega), if_neg (by omega), q5 _ _ _ _ _ _ (by omega) (by omega), if_neg (by omega)]
    · have := d5 t ht
      by_cases z : t = s
      · subst z
        simp [q5, q_ne, qc7, this]
      · simp [q5, q_ne, qc7, z, this]
    · have z : ¬ t = s := by omega
      simp [q_ne, qc7, z]
    · rcases (show j = 15 ∨ j = 16 ∨ j = 17 ∨ j = 18 ∨ j = 19 ∨ j = 20 by omega) with rfl | rfl | rfl | rfl | rfl | rfl <;> simp [q_ne, qc7, hx]
    · simp [q_ne, q6, hx, hi]
    · obtain ⟨r1, r2, r3, r4⟩ := G
      rcases r4 with r | r | r | r
      · exact absurd r.1 (by rw [g1]; decide)
      · unfold rG1
        simp [q_ne, q6, q6z, qc7, r2, r3]
        obtain ⟨-, r', s', p', hs', hp', ra, rb, rc, rd⟩ := r
        exact ⟨r', s', hs', p', hp', ra, rb, rc, rd⟩
      · exact absurd r.1 (by rw [g1]; decide)
      · exact absurd r.1 (by rw [g1]; decide)
    · by_cases z : t = s
      · subst z
        refine ⟨pc, hp9, by simp [qc7], Or.inr ⟨hp1, g, hg, by simp [q_ne, qc7], by simp [q_ne, gs], by simp [q_ne, q5], fun x hx => ?_⟩⟩
        by_cases y : x = g
        · exact fun _ _ => y
        · simp [q_ne, qc7, y]
          intro x2 xs
          exact absurd xs (hc x hx x2)
      · obtain ⟨l2, hl2, el2, hc2⟩ := rGu_ck hGu t ht
        refine ⟨l2, hl2, by simp [q_ne, qc7, z, el2], ?_⟩
        have gt : ¬ σ 19 g = nI t := by
          rw [gs]
          intro y
          have := (nI_eq (by omega) (by omega)).mp y
          omega
        rcases hc2 with ⟨y1, y2⟩ | ⟨y1, x, y2, y3, y4, y5, y6⟩
        · refine Or.inl ⟨y1, fun x hx => ?_⟩
          by_cases y : x = g
          · subst y
            simp [q_ne, gt]
          · simp [q_ne, qc7, y]
            exact y2 x hx
        · have xg : ¬ x = g := by
            intro y
            rw [y] at y4
            exact gt y4
          refine Or.inr ⟨y1, x, y2, by simp [q_ne, qc7, xg, y3], by simp [q_ne, y4], by simp [q_ne, q5, z, y5], fun k hk => ?_⟩
          by_cases y : k = g
          · subst y
            simp [q_ne, gt]
          · simp [q_ne, qc7, y]
            exact y6 k hk
    · simp [q_ne, qc7]
/-! a guest loses patience -/
theorem rV_lose {σ τ : qx_S} {P S n g : Nat} (h : rV σ τ P S n) (hg : g < n) : rV (gLose g σ) (mLose g τ) P S n := by
  have h0 := h
  obtain ⟨hSt, hIv, hNi, hGu⟩ := h
  have hS5 : S ≤ 5 := hSt.2.1.2.2
  have G := hGu.2.1 g hg
  obtain ⟨r1, r2, r3, r4⟩ := G
  unfold gLose mLose
  by_cases g1 : σ 15 g = 1
  rotate_left
  · rw [if_neg g1, if_neg (show ¬ τ 6 (7 * g + 2) = 1 by rw [r1]; exact g1)]
    exact h0
  rw [if_pos g1, if_pos (show τ 6 (7 * g + 2) = 1 by rw [r1]; exact g1), qs_same, qs_same, r3]
  have ck : ∀ (v2 w2 : qx_S), v2 11 = σ 11 → (∀ x, x ≠ g → v2 15 x = σ 15 x ∧ v2 19 x = σ 19 x) → ¬ v2 15 g = 2 → w2 5 = τ 5 → rCk v2 w2 S n := by
    intro v2 w2 a b c d t ht
    obtain ⟨l2, hl2, el2, hc2⟩ := rGu_ck hGu t ht
    refine ⟨l2, hl2, by rw [a]; exact el2, ?_⟩
    rcases hc2 with ⟨y1, y2⟩ | ⟨y1, x, y2, y3, y4, y5, y6⟩
    · refine Or.inl ⟨y1, fun x hx => ?_⟩
      by_cases y : x = g
      · subst y
        exact fun z => absurd z c
      · rw [(b x y).1, (b x y).2]; exact y2 x hx
    · have xg : ¬ x = g := by
        intro y
        rw [y, g1] at y3
        exact absurd y3 (by decide)
      refine Or.inr ⟨y1, x, y2, by rw [(b x xg).1]; exact y3, by rw [(b x xg).2]; exact y4, by rw [d]; exact y5, fun k hk => ?_⟩
      by_cases y : k = g
      · subst y
        exact fun z => absurd z c
      · rw [(b k y).1, (b k y).2]; exact y6 k hk
  rcases r4 with r | r | r | r
  · exact absurd r.1 (by rw [g1]; decide)
  rotate_left
  · exact absurd r.1 (by rw [g1]; decide)
  · exact absurd r.1 (by rw [g1]; decide)
  by_cases z : σ 17 g - 1 = 0
  · rw [if_pos z, if_pos z]
    refine ⟨rSt_to hSt rfl rfl rfl rfl rfl rfl (fun k _ => rfl) (fun k _ => rfl) (fun k _ => rfl) (fun k _ => rfl) (fun t i _ hi => rfl), rIv_to hIv rfl rfl rfl, rNi_E hNi rfl rfl rfl rfl ⟨rfl, rfl⟩ rfl (fun t _ => rfl) hS5 (fun t ht => hNi.2.2.2.2.1 t ht) (fun t ht => ⟨rfl, rfl, rfl⟩), rGu_D (g := g) hGu rfl rfl rfl rfl (fun j x hj hj2 hx => ?_) (fun x i hx hi => ?_) ?_ (ck _ _ rfl (fun x hx => ?_) ?_ rfl) (Or.inl ?_)⟩
    · rcases (show j = 15 ∨ j = 16 ∨ j = 17 ∨ j = 18 ∨ j = 19 ∨ j = 20 by omega) with rfl | rfl | rfl | rfl | rfl | rfl <;> simp [q_ne, qc7, hx]
    · simp [q6, hx, hi]
    · unfold rG1
      simp [q_ne, q6, q6z, qc7, r2]
    · simp [q_ne, qc7, hx]
    · simp [q_ne, qc7]
    · simp [q_ne, qc7]
  · rw [if_neg z, if_neg z]
    refine ⟨rSt_to hSt rfl rfl rfl rfl rfl rfl (fun k _ => rfl) (fun k _ => rfl) (fun k _ => rfl) (fun k _ => rfl) (fun t i _ hi => rfl), rIv_to hIv rfl rfl rfl, rNi_E hNi rfl rfl rfl rfl ⟨rfl, rfl⟩ rfl (fun t _ => rfl) hS5 (fun t ht => hNi.2.2.2.2.1 t ht) (fun t ht => ⟨rfl, rfl, rfl⟩), rGu_D (g := g) hGu rfl rfl rfl rfl (fun j x hj hj2 hx => ?_) (fun x i hx hi => ?_) ?_ (ck _ _ rfl (fun x hx => ?_) ?_ rfl) (Or.inr ?_)⟩
    · rcases (show j = 15 ∨ j = 16 ∨ j = 17 ∨ j = 18 ∨ j = 19 ∨ j = 20 by omega) with rfl | rfl | rfl | rfl | rfl | rfl <;> simp [q_ne, qc7, hx]
    · simp [q6, hx, hi]
    · unfold rG1
      simp [q_ne, q6, q6z, qc7, r2, g1]
      obtain ⟨-, r', s', p', hs', hp', ra, rb, rc, rd⟩ := r
      exact ⟨r', s', hs', p', hp', ra, rb, rc, rd⟩
    · simp [q_ne]
    · simp [q_ne, g1]
    · simp [q_ne, q6, g1]
