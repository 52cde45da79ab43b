/-! a tick -/
theorem qf_stay {α : Type} (f : Nat → α → α) (a : α) (S N : Nat) (h : ∀ i, S ≤ i → i < N → f i (qf f a S) = qf f a S) : S ≤ N → qf f a N = qf f a S := by
  intro hS
  induction N with
  | zero =>
    have : S = 0 := by omega
    rw [this]
  | succ N ih =>
    by_cases e : S = N + 1
    · rw [e]
    · rw [qf_S, ih (fun i a b => h i a (by omega)) (by omega)]
      exact h N (by omega) (by omega)
theorem rV_cooks {σ τ : qx_S} {P S n : Nat} (h : rV σ τ P S n) : rV (qf (nCook n) (σ, 0) 5).1 (qf mCookS (τ, 0) S).1 P S n ∧ (qf (nCook n) (σ, 0) 5).2 = (qf mCookS (τ, 0) S).2 := by
  have hS5 : S ≤ 5 := h.1.2.1.2.2
  have key : ∀ i, i ≤ S → rV (qf (nCook n) (σ, 0) i).1 (qf mCookS (τ, 0) i).1 P S n ∧ (qf (nCook n) (σ, 0) i).2 = (qf mCookS (τ, 0) i).2 := by
    intro i
    induction i with
    | zero => intro _; exact ⟨h, rfl⟩
    | succ i ih =>
      intro hi
      obtain ⟨h1, h2⟩ := ih (by omega)
      rw [qf_S, qf_S]
      have := rV_cook h1 (show i < S by omega) (qf (nCook n) (σ, 0) i).2
      rw [h2] at this
      refine ⟨?_, ?_⟩
      · have e : nCook n i (qf (nCook n) (σ, 0) i) = nCook n i ((qf (nCook n) (σ, 0) i).1, (qf mCookS (τ, 0) i).2) := by rw [← h2]
        rw [e]; exact this.1
      · have e : nCook n i (qf (nCook n) (σ, 0) i) = nCook n i ((qf (nCook n) (σ, 0) i).1, (qf mCookS (τ, 0) i).2) := by rw [← h2]
        rw [e]; exact this.2
  have kS := key S (Nat.le_refl S)
  rw [qf_stay (nCook n) (σ, 0) S 5 (fun i a b => ?_) hS5]
  · exact kS
  · have z := (kS.1.2.2.1.2.2.1 i a b).2.2.2
    generalize qf (nCook n) (σ, 0) S = y at z
    unfold nCook
    rw [if_pos (by rw [z]; decide)]
theorem rV_begins {σ τ : qx_S} {P S n : Nat} (h : rV σ τ P S n) : rV (qf (nStart n) σ 5) (qf (mBegin n) τ S) P S n := by
  have hS5 : S ≤ 5 := h.1.2.1.2.2
  have key : ∀ i, i ≤ S → rV (qf (nStart n) σ i) (qf (mBegin n) τ i) P S n := by
    intro i
    induction i with
    | zero => intro _; exact h
    | succ i ih =>
      intro hi
      rw [qf_S, qf_S]
      exact rV_begin (ih (by omega)) (by omega)
  have kS := key S (Nat.le_refl S)
  rw [qf_stay (nStart n) σ S 5 (fun i a b => ?_) hS5]
  · exact kS
  · have z := (kS.2.2.1.2.2.1 i a b)
    generalize qf (nStart n) σ S = y at z
    unfold nStart
    rw [if_pos z.2.2.2, if_neg (fun y => y.1 z.1)]
theorem rV_loses {σ τ : qx_S} {P S n : Nat} (h : rV σ τ P S n) : ∀ i, i ≤ n → rV (qf gLose σ i) (qf mLose τ i) P S n
  | 0, _ => h
  | i + 1, hi => by
    rw [qf_S, qf_S]
    exact rV_lose (rV_loses h i (by omega)) (by omega)
theorem rV_walks {σ τ : qx_S} {P S n : Nat} (h : rV σ τ P S n) : ∀ i, i ≤ n → rV (qf (nWalk n) σ i) (qf (mWalkS n S) τ i) P S n ∧ rAh (qf (nWalk n) σ i) n i
  | 0, _ => ⟨h, fun g _ _ _ hg => absurd hg (Nat.not_lt_zero g)⟩
  | i + 1, hi => by
    have ih := rV_walks h i (by omega)
    rw [qf_S, qf_S]
    exact rV_walk ih.1 ih.2 (by omega)
theorem rV_tick {σ τ : qx_S} {P S n : Nat} (h : rV σ τ P S n) : rV (nTick σ n) (mTick τ S n) P S n := by
  have h1 := (rV_cooks h).1
  have h2 := rV_begins h1
  have h3 := rV_loses h2 n (Nat.le_refl n)
  have h4 := (rV_walks h3 n (Nat.le_refl n)).1
  have h4 : rV (nTick1 σ n) (mT4 τ S n) P S n := h4
  unfold nTick mTick
  obtain ⟨hSt, hIv, hNi, hGu⟩ := h4
  have hS5 : S ≤ 5 := hSt.2.1.2.2
  refine ⟨rSt_to hSt rfl rfl rfl rfl rfl rfl (fun k hk => ?_) (fun k _ => rfl) (fun k _ => rfl) (fun k _ => rfl) (fun s t _ _ => rfl), rIv_to hIv rfl rfl rfl, ?_, rGu_to hGu rfl rfl rfl rfl rfl rfl rfl rfl rfl ⟨rfl, rfl⟩ (fun s _ => rfl) rfl hS5⟩
  · rcases hk with rfl | rfl | rfl | rfl <;> rfl
  · obtain ⟨⟨a1, a2, a3⟩, b⟩ := hNi
    refine ⟨⟨a1, a2, ?_⟩, b⟩
    rw [qs_same, qs_same, a3]
theorem rV_go {σ τ : qx_S} {P S n : Nat} (h : rV σ τ P S n) : ∀ i, rV (qf (goS n) (σ, 0) i).1 (qf (mGoS S n) (τ, 0) i).1 P S n ∧ (qf (goS n) (σ, 0) i).2 = (qf (mGoS S n) (τ, 0) i).2
  | 0 => ⟨h, rfl⟩
  | i + 1 => by
    have ih := rV_go h i
    rw [qf_S, qf_S]
    refine ⟨rV_tick ih.1, ?_⟩
    show (qf (goS n) (σ, 0) i).2 + (qf (nCook n) ((qf (goS n) (σ, 0) i).1, 0) 5).2 = (qf (mGoS S n) (τ, 0) i).2 + (qf mCookS ((qf (mGoS S n) (τ, 0) i).1, 0) S).2
    rw [ih.2, (rV_cooks ih.1).2]
/-! what a tick leaves alone -/
theorem qf_keep {α β : Type} (f : Nat → α → α) (p : α → β) (h : ∀ i a, p (f i a) = p a) (a : α) : ∀ i, p (qf f a i) = p a
  | 0 => rfl
  | i + 1 => by rw [qf_S, h, qf_keep f p h a i]
theorem gFeed_cellR (σ : qx_S) (o : Option Nat) (t : Int32) {j : Nat} (a : j ≠ 15) (b : j ≠ 16) (c : j ≠ 20) : gFeed σ o t j = σ j := by
  cases o with
  | none => rfl
  | some g => show qs (qs (qs σ 15 g 3) 16 g (-4)) 20 g t j = _; rw [qs_cell _ _ _ _ c, qs_cell _ _ _ _ b, qs_cell _ _ _ _ a]
theorem nCook_cellR (n s : Nat) (a : qx_S × Int32) {j : Nat} (h : j < 7 ∨ 20 < j) : (nCook n s a).1 j = a.1 j := by
  unfold nCook
  split
  · rfl
  split
  · split
    · show nSell _ s n j = _
      unfold nSell
      rw [qs_cell _ _ _ _ (by omega), qs_cell _ _ _ _ (by omega), gFeed_cellR _ _ _ (by omega) (by omega) (by omega), qs_cell _ _ _ _ (by omega)]
    · show qs _ _ _ _ j = _
      rw [qs_cell _ _ _ _ (by omega)]
  · rfl
theorem nStart_cellR (n s : Nat) (σ : qx_S) {j : Nat} (h : j < 7 ∨ 20 < j) : nStart n s σ j = σ j := by
  unfold nStart
  split
  · split
    · cases gFirst σ (nI s) 1 n with
      | none => rfl
      | some g =>
        dsimp only
        rw [qs_cell _ _ _ _ (by omega), qs_cell _ _ _ _ (by omega)]
    · rfl
  · rfl
theorem gLose_cellR (g : Nat) (σ : qx_S) {j : Nat} (h : j < 7 ∨ 20 < j) : gLose g σ j = σ j := by
  unfold gLose
  split
  · split
    · rw [qs_cell _ _ _ _ (by omega), qs_cell _ _ _ _ (by omega), qs_cell _ _ _ _ (by omega), qs_cell _ _ _ _ (by omega)]
    · rw [qs_cell _ _ _ _ (by omega)]
  · rfl
theorem nWalk_cellR (n g : Nat) (σ : qx_S) {j : Nat} (h : j < 7 ∨ 20 < j) : nWalk n g σ j = σ j := by
  unfold nWalk
  split
  · cases nFor σ n g with
    | none =>
      show gStep _ _ _ j = _
      unfold gStep
      split
      · rw [qs_cell _ _ _ _ (by omega)]
      · rw [qs_cell _ _ _ _ (by omega), qs_cell _ _ _ _ (by omega), qs_cell _ _ _ _ (by omega)]
    | some s =>
      show gQueue _ _ _ j = _
      unfold gQueue
      rw [qs_cell _ _ _ _ (by omega), qs_cell _ _ _ _ (by omega)]
  · rfl
theorem nTick_cellR (σ : qx_S) (n : Nat) {j : Nat} (h : j < 7 ∨ 20 < j) : nTick σ n j = σ j := by
  unfold nTick nTick1
  rw [qs_cell _ _ _ _ (by omega), qf_keep (nWalk n) (fun a => a j) (fun i a => nWalk_cellR n i a h), qf_keep gLose (fun a => a j) (fun i a => gLose_cellR i a h), qf_keep (nStart n) (fun a => a j) (fun i a => nStart_cellR n i a h), qf_keep (nCook n) (fun a => a.1 j) (fun i a => nCook_cellR n i a h)]
theorem goS_cell (n : Nat) (σ : qx_S) (i : Nat) {j : Nat} (h : j < 7 ∨ 20 < j) : (qf (goS n) (σ, 0) i).1 j = σ j :=
  qf_keep (goS n) (fun a => a.1 j) (fun _ a => nTick_cellR a.1 n h) (σ, 0) i
theorem mCook_cell (s : Nat) (σ : qx_S) {j : Nat} (h : j = 0 ∨ 7 ≤ j) : (mCook s σ).1 j = σ j := by
  unfold mCook
  split
  · rfl
  split
  · split
    · show mC3 (mC2 (mC1 σ s) s _) s j = _
      unfold mC3 mC2 mC1
      rw [qs_cell _ _ _ _ (by omega), qs_cell _ _ _ _ (by omega), qs_cell _ _ _ _ (by omega), qs_cell _ _ _ _ (by omega), qs_cell _ _ _ _ (by omega), qs_cell _ _ _ _ (by omega)]
    · show mC1 σ s j = _
      unfold mC1
      rw [qs_cell _ _ _ _ (by omega)]
  · rfl
theorem mBegin_cell (n s : Nat) (σ : qx_S) {j : Nat} (h : j = 0 ∨ 7 ≤ j) : mBegin n s σ j = σ j := by
  unfold mBegin
  split
  · rfl
  split
  · split
    · rfl
    · rw [qs_cell _ _ _ _ (by omega), qs_cell _ _ _ _ (by omega), qs_cell _ _ _ _ (by omega)]
  · rfl
theorem mLose_cell (g : Nat) (σ : qx_S) {j : Nat} (h : j = 0 ∨ 7 ≤ j) : mLose g σ j = σ j := by
  unfold mLose
  split
  · rw [qs_cell _ _ _ _ (by omega), qs_cell _ _ _ _ (by omega)]
  · rfl
theorem mWalk_cell (n S g : Nat) (σ : qx_S) {j : Nat} (h : j = 0 ∨ 7 ≤ j) : mWalkS n S g σ j = σ j := by
  unfold mWalkS mWalk
  split
  · split
    · unfold mStep
      split
      · rw [qs_cell _ _ _ _ (by omega), qs_cell _ _ _ _ (by omega)]
      · rw [qs_cell _ _ _ _ (by omega)]
    · unfold mQueue mQ2 mQ1
      rw [qs_cell _ _ _ _ (by omega), qs_cell _ _ _ _ (by omega), qs_cell _ _ _ _ (by omega), qs_cell _ _ _ _ (by omega)]
  · rfl
theorem mTick_cell (σ : qx_S) (S n : Nat) {j : Nat} (h : j = 0 ∨ 7 ≤ j) : mTick σ S n j = σ j := by
  unfold mTick mT4 mT3 mT2 mT1
  rw [qs_cell _ _ _ _ (by omega), qf_keep (mWalkS n S) (fun a => a j) (fun i a => mWalk_cell n S i a h), qf_keep mLose (fun a => a j) (fun i a => mLose_cell i a h), qf_keep (mBegin n) (fun a => a j) (fun i a => mBegin_cell n i a h), qf_keep mCookS (fun a => a.1 j) (fun i a => mCook_cell i a.1 h)]
theorem mGoS_cell (S n : Nat) (σ : qx_S) (i : Nat) {j : Nat} (h : j = 0 ∨ 7 ≤ j) : (qf (mGoS S n) (σ, 0) i).1 j = σ j :=
  qf_keep (mGoS S n) (fun a => a.1 j) (fun _ a => mTick_cell a.1 S n h) (σ, 0) i
theorem rR_pre {σ τ : qx_S} {P S n : Nat} (h : rV σ τ P S n) (hR : rR σ τ) : RelPre σ τ P S n :=
  ⟨rV_wS h, rV_wN h, h.2.2.1.1.2.1, hR.2.1, rV_mW h, rV_mS h, fun i => rV_mPre (rV_go h i).1⟩
