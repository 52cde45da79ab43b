/-! the reference: what its methods do -/
def mW (σ : qx_S) (P S n : Nat) : Prop := (σ 1 0 = nI P ∧ P ≤ 8) ∧ (σ 1 1 = nI S ∧ S ≤ 5) ∧ (σ 1 4 = nI n ∧ n ≤ 20) ∧ (∀ p, p < 8 → ∃ k, k < 3 ∧ σ 2 (3 * p + 1) = nI k) ∧ (∀ s, s < 5 → σ 5 (11 * s + 6) = -1 ∨ ∃ p, p < 8 ∧ σ 5 (11 * s + 6) = nI p)
def mSame (σ τ : qx_S) : Prop := (∀ k, k ≠ 3 → k ≠ 7 → τ 1 k = σ 1 k) ∧ τ 2 = σ 2 ∧ τ 3 = σ 3 ∧ τ 4 = σ 4 ∧ (∀ s w, s < 5 → w < 7 → τ 5 (11 * s + w) = σ 5 (11 * s + w))
theorem mSame_rf (σ : qx_S) : mSame σ σ := ⟨fun _ _ _ => rfl, rfl, rfl, rfl, fun _ _ _ _ => rfl⟩
theorem mSame_tr {σ τ υ : qx_S} (h : mSame σ τ) (g : mSame τ υ) : mSame σ υ :=
  ⟨fun k a b => (g.1 k a b).trans (h.1 k a b), g.2.1.trans h.2.1, g.2.2.1.trans h.2.2.1, g.2.2.2.1.trans h.2.2.2.1, fun s w a b => (g.2.2.2.2 s w a b).trans (h.2.2.2.2 s w a b)⟩
theorem mSame_W {σ τ : qx_S} {P S n : Nat} (h : mSame σ τ) (g : mW σ P S n) : mW τ P S n := by
  obtain ⟨⟨a1, a2⟩, ⟨b1, b2⟩, ⟨c1, c2⟩, d, e⟩ := g
  refine ⟨⟨by rw [h.1 0 (by decide) (by decide)]; exact a1, a2⟩, ⟨by rw [h.1 1 (by decide) (by decide)]; exact b1, b2⟩, ⟨by rw [h.1 4 (by decide) (by decide)]; exact c1, c2⟩, fun p hp => by rw [h.2.1]; exact d p hp, fun s hs => by rw [h.2.2.2.2 s 6 hs (by decide)]; exact e s hs⟩
theorem mSame_6 (σ : qx_S) (k : Nat) (v : Int32) : mSame σ (qs σ 6 k v) := ⟨fun _ _ _ => by rw [qs_cell _ _ _ _ (by decide)], qs_cell _ _ _ _ (by decide), qs_cell _ _ _ _ (by decide), qs_cell _ _ _ _ (by decide), fun _ _ _ _ => by rw [qs_cell _ _ _ _ (by decide)]⟩
theorem mSame_5 (σ : qx_S) (s w : Nat) (v : Int32) (h : 7 ≤ w) (h2 : w < 11) : mSame σ (qs σ 5 (11 * s + w) v) := ⟨fun _ _ _ => by rw [qs_cell _ _ _ _ (by decide)], qs_cell _ _ _ _ (by decide), qs_cell _ _ _ _ (by decide), qs_cell _ _ _ _ (by decide), fun a b _ hb => by rw [qs_slot _ _ _ _ (by omega)]⟩
theorem mSame_1 (σ : qx_S) (k : Nat) (v : Int32) (h : k = 3 ∨ k = 7) : mSame σ (qs σ 1 k v) := ⟨fun i a b => by rw [qs_slot _ _ _ _ (by rcases h with rfl | rfl <;> assumption)], qs_cell _ _ _ _ (by decide), qs_cell _ _ _ _ (by decide), qs_cell _ _ _ _ (by decide), fun _ _ _ _ => by rw [qs_cell _ _ _ _ (by decide)]⟩
theorem mSame_qf {f : Nat → qx_S → qx_S} (h : ∀ k τ, mSame τ (f k τ)) (σ : qx_S) : ∀ i, mSame σ (qf f σ i)
  | 0 => mSame_rf σ
  | i + 1 => mSame_tr (mSame_qf h σ i) (h i _)
theorem qx_n1 {g : Nat} (h : g < 1000) : ¬ nI g < 0 := nI_pos (by omega)
abbrev mOpen (σ : qx_S) : Prop := σ 1 2 = 1
def mClr (σ : qx_S) : qx_S := qf (fun s τ => qs (qs (qs (qs (qs τ 5 (11 * s + 6) (-1)) 5 (11 * s + 7) 0) 5 (11 * s + 8) 0) 5 (11 * s + 9) 0) 5 (11 * s + 10) (-1)) (qf (fun k τ => qs (qs τ 3 (3 * k + 1) 0) 3 (3 * k + 2) 0) (qs (qs (qs σ 1 3 0) 1 4 0) 1 7 0) 3) 5
abbrev mTold (w v : Int32) : Prop := if w = 0 then 0 ≤ v ∧ v ≤ 5 else if w = 1 then 0 ≤ v ∧ v ≤ 3 else if w = 2 then 0 ≤ v ∧ v ≤ 30 else if w = 3 then 1 ≤ v ∧ v ≤ 9 else if w = 4 then 1 ≤ v ∧ v ≤ 20 else 0 ≤ v ∧ v ≤ 99
abbrev mLine (σ : qx_S) (s : Nat) : Int32 := σ 2 (3 * ix (σ 5 (11 * s + 6)) + 1)
abbrev mWorks (σ : qx_S) (s : Nat) : Prop := ¬ σ 5 (11 * s + 6) < 0 ∧ σ 3 (3 * ix (mLine σ s) + 2) = 0
def mAt (σ : qx_S) (w : Int32) (n : Nat) : Int32 := qf (fun g a => a + (if σ 6 (7 * g + 4) = w ∧ (1 ≤ σ 6 (7 * g + 2) ∧ σ 6 (7 * g + 2) ≤ 2) then 1 else 0)) 0 n
def mOf (σ : qx_S) (w : Int32) (n : Nat) : Int32 := qf (fun g a => a + (if σ 6 (7 * g + 2) = w then 1 else 0)) 0 n
def mFirstS (σ : qx_S) (w : Int32) (g : Nat) (a : Int32) : Int32 := if σ 6 (7 * g + 4) = w ∧ σ 6 (7 * g + 2) = 1 then (if a < 0 then nI g else if σ 6 (7 * ix a + 5) ≤ σ 6 (7 * g + 5) then a else nI g) else a
def mFirst (σ : qx_S) (w : Int32) (n : Nat) : Int32 := qf (mFirstS σ w) (-1) n
theorem mFirst_is (σ : qx_S) (w : Int32) : ∀ n, mFirst σ w n = -1 ∨ ∃ f, f < n ∧ mFirst σ w n = nI f
  | 0 => Or.inl rfl
  | n + 1 => by
    have ih := mFirst_is σ w n
    show mFirstS σ w n (mFirst σ w n) = -1 ∨ ∃ f, f < n + 1 ∧ mFirstS σ w n (mFirst σ w n) = nI f
    have up : mFirst σ w n = -1 ∨ ∃ f, f < n + 1 ∧ mFirst σ w n = nI f := by
      rcases ih with h | ⟨f, hf, e⟩
      · exact Or.inl h
      · exact Or.inr ⟨f, by omega, e⟩
    unfold mFirstS
    split
    · split
      · exact Or.inr ⟨n, by omega, rfl⟩
      · split
        · exact up
        · exact Or.inr ⟨n, by omega, rfl⟩
    · exact up
def mC1 (σ : qx_S) (s : Nat) : qx_S := qs σ 5 (11 * s + 9) (σ 5 (11 * s + 9) - 1)
def mC2 (σ : qx_S) (s g : Nat) : qx_S := qs (qs (qs σ 6 (7 * g + 2) 3) 6 (7 * g + 6) (qs σ 6 (7 * g + 2) 3 1 3)) 5 (11 * s + 10) (-1)
def mC3 (σ : qx_S) (s : Nat) : qx_S := qs (qs σ 5 (11 * s + 7) (σ 5 (11 * s + 7) + 1)) 5 (11 * s + 8) (qs σ 5 (11 * s + 7) (σ 5 (11 * s + 7) + 1) 5 (11 * s + 8) + qs σ 5 (11 * s + 7) (σ 5 (11 * s + 7) + 1) 5 (11 * s + 4))
def mCook (s : Nat) (σ : qx_S) : qx_S × Int32 := if σ 5 (11 * s + 9) = 0 then (σ, 0) else if mWorks σ s then (if mC1 σ s 5 (11 * s + 9) ≤ 0 then (mC3 (mC2 (mC1 σ s) s (ix (mC1 σ s 5 (11 * s + 10)))) s, 1) else (mC1 σ s, 0)) else (σ, 0)
theorem mCook_a {s : Nat} {σ : qx_S} (h : σ 5 (11 * s + 9) = 0) : mCook s σ = (σ, 0) := if_pos h
theorem mCook_b {s : Nat} {σ : qx_S} (h : ¬ σ 5 (11 * s + 9) = 0) (h2 : ¬ mWorks σ s) : mCook s σ = (σ, 0) := by unfold mCook; rw [if_neg h, if_neg h2]
theorem mCook_c {s : Nat} {σ : qx_S} (h : ¬ σ 5 (11 * s + 9) = 0) (h2 : mWorks σ s) (h3 : ¬ mC1 σ s 5 (11 * s + 9) ≤ 0) : mCook s σ = (mC1 σ s, 0) := by unfold mCook; rw [if_neg h, if_pos h2, if_neg h3]
theorem mCook_d {s : Nat} {σ : qx_S} (h : ¬ σ 5 (11 * s + 9) = 0) (h2 : mWorks σ s) (h3 : mC1 σ s 5 (11 * s + 9) ≤ 0) : mCook s σ = (mC3 (mC2 (mC1 σ s) s (ix (mC1 σ s 5 (11 * s + 10)))) s, 1) := by unfold mCook; rw [if_neg h, if_pos h2, if_pos h3]
theorem mCook_same (s : Nat) (σ : qx_S) : mSame σ (mCook s σ).1 := by
  unfold mCook
  split
  · exact mSame_rf σ
  · split
    · split
      · show mSame σ (mC3 _ s)
        unfold mC3 mC2 mC1
        exact mSame_tr (mSame_5 σ s 9 _ (by decide) (by decide)) (mSame_tr (mSame_6 _ _ _) (mSame_tr (mSame_6 _ _ _) (mSame_tr (mSame_5 _ s 10 _ (by decide) (by decide)) (mSame_tr (mSame_5 _ s 7 _ (by decide) (by decide)) (mSame_5 _ s 8 _ (by decide) (by decide))))))
      · exact mSame_5 σ s 9 _ (by decide) (by decide)
    · exact mSame_rf σ
theorem mCook_row (s : Nat) (σ : qx_S) {k : Nat} (h : k < 11 * s ∨ 11 * s + 11 ≤ k) : (mCook s σ).1 5 k = σ 5 k := by
  unfold mCook
  split
  · rfl
  · split
    · split
      · show mC3 _ s 5 k = _
        unfold mC3 mC2 mC1
        rw [qs_slot _ _ _ _ (by omega), qs_slot _ _ _ _ (by omega), qs_slot _ _ _ _ (by omega), qs_cell _ _ _ _ (by decide), qs_cell _ _ _ _ (by decide), qs_slot _ _ _ _ (by omega)]
      · show mC1 σ s 5 k = _
        unfold mC1
        rw [qs_slot _ _ _ _ (by omega)]
    · rfl
def mCookS (s : Nat) (a : qx_S × Int32) : qx_S × Int32 := ((mCook s a.1).1, a.2 + (mCook s a.1).2)
theorem mCookS_1 (a : qx_S × Int32) (i : Nat) : (qf mCookS a (i + 1)).1 = (mCook i (qf mCookS a i).1).1 := rfl
theorem mCookS_2 (a : qx_S × Int32) (i : Nat) : (qf mCookS a (i + 1)).2 = (qf mCookS a i).2 + (mCook i (qf mCookS a i).1).2 := rfl
theorem qx_st {K : qx_K} {F : qx_F} {sh : qx_H} {σ τ : qx_S} {pc : Nat} {ls : List (Option Value)} {st : List Value} (h : σ = τ) (kk : qx_X K F sh τ pc ls st) : qx_X K F sh σ pc ls st := by rw [h]; exact kk
theorem qf_S {α : Type} (f : Nat → α → α) (a : α) (i : Nat) : qf f a (i + 1) = f i (qf f a i) := rfl
theorem mCookS_same (σ : qx_S) (x : Int32) : ∀ i, mSame σ (qf mCookS (σ, x) i).1
  | 0 => mSame_rf σ
  | i + 1 => mSame_tr (mCookS_same σ x i) (mCook_same i _)
theorem mCookS_row (σ : qx_S) (x : Int32) {k : Nat} : ∀ i, 11 * i ≤ k → (qf mCookS (σ, x) i).1 5 k = σ 5 k
  | 0, _ => rfl
  | i + 1, h => by
    show (mCook i (qf mCookS (σ, x) i).1).1 5 k = _
    rw [mCook_row i _ (Or.inr (by omega)), mCookS_row σ x i (by omega)]
def mBegin (n s : Nat) (σ : qx_S) : qx_S := if 0 < σ 5 (11 * s + 9) then σ else if mWorks σ s then (if mFirst σ (nI s) n < 0 then σ else qs (qs (qs σ 5 (11 * s + 9) (σ 5 (11 * s + 3))) 5 (11 * s + 10) (mFirst σ (nI s) n)) 6 (7 * ix (mFirst σ (nI s) n) + 2) 2) else σ
theorem mBegin_a {n s : Nat} {σ : qx_S} (h : 0 < σ 5 (11 * s + 9)) : mBegin n s σ = σ := if_pos h
theorem mBegin_b {n s : Nat} {σ : qx_S} (h : ¬ 0 < σ 5 (11 * s + 9)) (h2 : ¬ mWorks σ s) : mBegin n s σ = σ := by unfold mBegin; rw [if_neg h, if_neg h2]
theorem mBegin_c {n s : Nat} {σ : qx_S} (h : ¬ 0 < σ 5 (11 * s + 9)) (h2 : mWorks σ s) (h3 : mFirst σ (nI s) n = -1) : mBegin n s σ = σ := by unfold mBegin; rw [if_neg h, if_pos h2, h3, if_pos (by decide)]
theorem mBegin_d {n s f : Nat} {σ : qx_S} (hf : f < 1000) (h : ¬ 0 < σ 5 (11 * s + 9)) (h2 : mWorks σ s) (h3 : mFirst σ (nI s) n = nI f) : mBegin n s σ = qs (qs (qs σ 5 (11 * s + 9) (σ 5 (11 * s + 3))) 5 (11 * s + 10) (nI f)) 6 (7 * f + 2) 2 := by
  unfold mBegin
  rw [if_neg h, if_pos h2, h3, if_neg (qx_n1 hf)]
  show qs _ 6 (7 * (nI f).toNatClampNeg + 2) 2 = _
  rw [nI_clamp (by omega)]
theorem mBegin_same (n s : Nat) (σ : qx_S) : mSame σ (mBegin n s σ) := by
  unfold mBegin
  split
  · exact mSame_rf σ
  · split
    · split
      · exact mSame_rf σ
      · exact mSame_tr (mSame_5 σ s 9 _ (by decide) (by decide)) (mSame_tr (mSame_5 _ s 10 _ (by decide) (by decide)) (mSame_6 _ _ _))
    · exact mSame_rf σ
def mLose (g : Nat) (σ : qx_S) : qx_S := if σ 6 (7 * g + 2) = 1 then qs (qs σ 6 (7 * g + 1) (σ 6 (7 * g + 1) - 1)) 6 (7 * g + 2) (if qs σ 6 (7 * g + 1) (σ 6 (7 * g + 1) - 1) 6 (7 * g + 1) = 0 then 4 else 1) else σ
theorem mLose_a {g : Nat} {σ : qx_S} (h : ¬ σ 6 (7 * g + 2) = 1) : mLose g σ = σ := if_neg h
theorem mLose_b {g : Nat} {σ : qx_S} (h : σ 6 (7 * g + 2) = 1) (h2 : ¬ qs σ 6 (7 * g + 1) (σ 6 (7 * g + 1) - 1) 6 (7 * g + 1) = 0) : mLose g σ = qs (qs σ 6 (7 * g + 1) (σ 6 (7 * g + 1) - 1)) 6 (7 * g + 2) 1 := by unfold mLose; rw [if_pos h, if_neg h2]
theorem mLose_c {g : Nat} {σ : qx_S} (h : σ 6 (7 * g + 2) = 1) (h2 : qs σ 6 (7 * g + 1) (σ 6 (7 * g + 1) - 1) 6 (7 * g + 1) = 0) : mLose g σ = qs (qs σ 6 (7 * g + 1) (σ 6 (7 * g + 1) - 1)) 6 (7 * g + 2) 4 := by unfold mLose; rw [if_pos h, if_pos h2]
theorem mLose_same (g : Nat) (σ : qx_S) : mSame σ (mLose g σ) := by
  unfold mLose
  split
  · exact mSame_tr (mSame_6 σ _ _) (mSame_6 _ _ _)
  · exact mSame_rf σ
abbrev mHere (σ : qx_S) (n g s : Nat) : Prop := mWorks σ s ∧ σ 5 (11 * s + 6) = σ 6 (7 * g + 3) ∧ σ 5 (11 * s) = σ 6 (7 * g) ∧ ¬ 3 ≤ mAt σ (nI s) n
def mFound (σ : qx_S) (n g : Nat) (i : Nat) : Int32 := qf (fun s a => if mHere σ n g s then nI s else a) (-1) i
theorem mFound_a {σ : qx_S} {n g i : Nat} (h : mHere σ n g i) : mFound σ n g (i + 1) = nI i := if_pos h
theorem mFound_b {σ : qx_S} {n g i : Nat} (h : ¬ mHere σ n g i) : mFound σ n g (i + 1) = mFound σ n g i := if_neg h
theorem mFound_is (σ : qx_S) (n g : Nat) : ∀ i, mFound σ n g i = -1 ∨ ∃ s, s < i ∧ mFound σ n g i = nI s
  | 0 => Or.inl rfl
  | i + 1 => by
    show (if mHere σ n g i then nI i else mFound σ n g i) = -1 ∨ ∃ s, s < i + 1 ∧ (if mHere σ n g i then nI i else mFound σ n g i) = nI s
    split
    · exact Or.inr ⟨i, by omega, rfl⟩
    · rcases mFound_is σ n g i with h | ⟨s, hs, e⟩
      · exact Or.inl h
      · exact Or.inr ⟨s, by omega, e⟩
def mStep (σ : qx_S) (g : Nat) : qx_S := if qs σ 6 (7 * g + 3) (σ 6 (7 * g + 3) + 1) 6 (7 * g + 3) = qs σ 6 (7 * g + 3) (σ 6 (7 * g + 3) + 1) 1 0 then qs (qs σ 6 (7 * g + 3) (σ 6 (7 * g + 3) + 1)) 6 (7 * g + 2) 5 else qs σ 6 (7 * g + 3) (σ 6 (7 * g + 3) + 1)
def mQ1 (σ : qx_S) (g : Nat) (f : Int32) : qx_S := qs (qs σ 6 (7 * g + 2) 1) 6 (7 * g + 4) f
def mQ2 (σ : qx_S) : qx_S := qs σ 1 7 (σ 1 7 + 1)
def mQueue (σ : qx_S) (g : Nat) (f : Int32) : qx_S := qs (mQ2 (mQ1 σ g f)) 6 (7 * g + 5) (mQ2 (mQ1 σ g f) 1 7)
def mWalk (n S g : Nat) (σ : qx_S) : qx_S := if mFound σ n g S < 0 then mStep σ g else mQueue σ g (mFound σ n g S)
theorem mStep_same (σ : qx_S) (g : Nat) : mSame σ (mStep σ g) := by
  unfold mStep
  split
  · exact mSame_tr (mSame_6 σ _ _) (mSame_6 _ _ _)
  · exact mSame_6 σ _ _
theorem mQueue_same (σ : qx_S) (g : Nat) (f : Int32) : mSame σ (mQueue σ g f) :=
  mSame_tr (mSame_6 σ _ _) (mSame_tr (mSame_6 _ _ _) (mSame_tr (mSame_1 _ 7 _ (Or.inr rfl)) (mSame_6 _ _ _)))
theorem mWalk_same (n S g : Nat) (σ : qx_S) : mSame σ (mWalk n S g σ) := by
  unfold mWalk
  split
  · exact mStep_same σ g
  · exact mQueue_same σ g _
def mWalkS (n S g : Nat) (σ : qx_S) : qx_S := if σ 6 (7 * g + 2) = 0 then mWalk n S g σ else σ
theorem mWalkS_same (n S g : Nat) (σ : qx_S) : mSame σ (mWalkS n S g σ) := by
  unfold mWalkS
  split
  · exact mWalk_same n S g σ
  · exact mSame_rf σ
def mT1 (σ : qx_S) (S : Nat) : qx_S := (qf mCookS (σ, 0) S).1
def mT2 (σ : qx_S) (S n : Nat) : qx_S := qf (mBegin n) (mT1 σ S) S
def mT3 (σ : qx_S) (S n : Nat) : qx_S := qf mLose (mT2 σ S n) n
def mT4 (σ : qx_S) (S n : Nat) : qx_S := qf (mWalkS n S) (mT3 σ S n) n
def mTick (σ : qx_S) (S n : Nat) : qx_S := qs (mT4 σ S n) 1 3 (mT4 σ S n 1 3 + 1)
theorem mT1_same (σ : qx_S) (S : Nat) : mSame σ (mT1 σ S) := mCookS_same σ 0 S
theorem mT2_same (σ : qx_S) (S n i : Nat) : mSame σ (qf (mBegin n) (mT1 σ S) i) := mSame_tr (mT1_same σ S) (mSame_qf (fun k τ => mBegin_same n k τ) _ i)
theorem mT3_same (σ : qx_S) (S n i : Nat) : mSame σ (qf mLose (mT2 σ S n) i) := mSame_tr (mT2_same σ S n S) (mSame_qf (fun k τ => mLose_same k τ) _ i)
theorem mT4_same (σ : qx_S) (S n i : Nat) : mSame σ (qf (mWalkS n S) (mT3 σ S n) i) := mSame_tr (mT3_same σ S n n) (mSame_qf (fun k τ => mWalkS_same n S k τ) _ i)
theorem mTick_same (σ : qx_S) (S n : Nat) : mSame σ (mTick σ S n) := mSame_tr (mT4_same σ S n n) (mSame_1 _ 3 _ (Or.inl rfl))
set_option maxRecDepth 20000 in
set_option maxHeartbeats 4000000 in
theorem c_X5_in (F : qx_F) (d : Nat) (σ : qx_S) (v a b : Int32) : qx_cI F shM ⟨"NightStallsModel", "in", "(III)Z"⟩ (.code ⟨"NightStallsModel", "in", "(III)Z"⟩ prog_7_method_2_code 3 ((some FieldType.boolean)) :: qx_W) (qx_R (d + 1)) [.int v, .int a, .int b] σ (if a ≤ v ∧ v ≤ b then 1 else 0) (σ) := by
  refine qx_met (by decide) (Nat.le_of_ble_eq_true rfl) (by intro v hv; simp only [List.mem_cons, List.not_mem_nil, or_false] at hv; rcases hv with rfl | rfl | rfl <;> rfl) (fun K C => ?_)
  refine qx_iload_n C dX5_in_0 rfl rfl ?_
  refine qx_iload_n C dX5_in_1 rfl rfl ?_
  refine qx_icmp_lt C (tgt := 14) dX5_in_2 (by decide) (fun h2 => ?_) (fun h2 => ?_)
  · refine qx_iconst C (v := 0) dX5_in_14 rfl ?_
    exact qx_iret C dX5_in_15 rfl (by first | rfl | exact (if_neg h2).symm | exact (if_neg (Int32.not_le.mpr h2)).symm | exact (if_neg (mt And.left (Int32.not_le.mpr h2))).symm | exact (if_neg (mt And.right (Int32.not_le.mpr h2))).symm | exact (if_neg (mt And.left h2)).symm | exact (if_neg (mt And.right h2)).symm | simp [h2]) rfl
  · refine qx_iload_n C dX5_in_5 rfl rfl ?_
    refine qx_iload_n C dX5_in_6 rfl rfl ?_
    refine qx_icmp_gt C (tgt := 14) dX5_in_7 (by decide) (fun h7 => ?_) (fun h7 => ?_)
    · refine qx_iconst C (v := 0) dX5_in_14 rfl ?_
      exact qx_iret C dX5_in_15 rfl (by first | rfl | exact (if_neg h7).symm | exact (if_neg (Int32.not_le.mpr h7)).symm | exact (if_neg (mt And.left (Int32.not_le.mpr h7))).symm | exact (if_neg (mt And.right (Int32.not_le.mpr h7))).symm | exact (if_neg (mt And.left h7)).symm | exact (if_neg (mt And.right h7)).symm | exact (if_neg h2).symm | exact (if_neg (Int32.not_le.mpr h2)).symm | exact (if_neg (mt And.left (Int32.not_le.mpr h2))).symm | exact (if_neg (mt And.right (Int32.not_le.mpr h2))).symm | exact (if_neg (mt And.left h2)).symm | exact (if_neg (mt And.right h2)).symm | simp [h2, h7]) rfl
    · refine qx_iconst C (v := 1) dX5_in_10 rfl ?_
      refine qx_goto C (tgt := 15) dX5_in_11 (by decide) ?_
      exact qx_iret C dX5_in_15 rfl (by first | rfl | exact (if_pos h7).symm | exact (if_pos (Int32.not_lt.mp h7)).symm | exact (if_pos h2).symm | exact (if_pos (Int32.not_lt.mp h2)).symm | exact (if_pos ⟨Int32.not_lt.mp h2, Int32.not_lt.mp h7⟩).symm | exact (if_pos ⟨h2, h7⟩).symm | simp [h2, h7]) rfl
set_option maxRecDepth 20000 in
set_option maxHeartbeats 4000000 in
theorem c_X5_isLine (F : qx_F) (d : Nat) (σ : qx_S) (v : Int32) : qx_cI F shM ⟨"NightStallsModel", "isLine", "(I)Z"⟩ (.code ⟨"NightStallsModel", "isLine", "(I)Z"⟩ prog_7_method_6_code 1 ((some FieldType.boolean)) :: qx_W) (qx_R (d + 2)) [.int v] σ (if 0 ≤ v ∧ v ≤ 2 then 1 else 0) (σ) := by
  refine qx_met (by decide) (Nat.le_of_ble_eq_true rfl) (by intro v hv; simp only [List.mem_cons, List.not_mem_nil, or_false] at hv; rcases hv with rfl <;> rfl) (fun K C => ?_)
  refine qx_iload_n C dX5_isLine_0 rfl rfl ?_
  refine qx_iconst C (v := 0) dX5_isLine_1 rfl ?_
  refine qx_iconst C (v := 2) dX5_isLine_2 rfl ?_
  refine qx_callSI C (As := [_, _, _]) (n := 3) (c_X5_in F (d + 0) _ _ _ _) qw_630 qw_631 qw_44 qw_632 ⟨rfl, by decide, by decide, by decide +kernel⟩ (qx_room (by omega) (by decide)) rfl rfl (Nat.le_of_ble_eq_true rfl) dX5_isLine_3 ?_
  refine qx_split _ (fun h3 => ?_) (fun h3 => ?_)
  · exact qx_iret C dX5_isLine_6 rfl (by first | rfl | exact (if_pos h3).symm | exact (if_pos (Int32.not_lt.mp h3)).symm | simp [h3]) rfl
  · exact qx_iret C dX5_isLine_6 rfl (by first | rfl | exact (if_neg h3).symm | exact (if_neg (Int32.not_le.mpr h3)).symm | exact (if_neg (mt And.left (Int32.not_le.mpr h3))).symm | exact (if_neg (mt And.right (Int32.not_le.mpr h3))).symm | exact (if_neg (mt And.left h3)).symm | exact (if_neg (mt And.right h3)).symm | simp [h3]) rfl
set_option maxRecDepth 20000 in
set_option maxHeartbeats 4000000 in
theorem c_X5_isNight (F : qx_F) (d : Nat) (σ : qx_S) (v : Int32) : qx_cI F shM ⟨"NightStallsModel", "isNight", "(I)Z"⟩ (.code ⟨"NightStallsModel", "isNight", "(I)Z"⟩ prog_7_method_7_code 1 ((some FieldType.boolean)) :: qx_W) (qx_R (d + 2)) [.int v] σ (if 0 ≤ v ∧ v ≤ 99 then 1 else 0) (σ) := by
  refine qx_met (by decide) (Nat.le_of_ble_eq_true rfl) (by intro v hv; simp only [List.mem_cons, List.not_mem_nil, or_false] at hv; rcases hv with rfl <;> rfl) (fun K C => ?_)
  refine qx_iload_n C dX5_isNight_0 rfl rfl ?_
  refine qx_iconst C (v := 0) dX5_isNight_1 rfl ?_
  refine qx_bipush C (v := 99) dX5_isNight_2 rfl ?_
  refine qx_callSI C (As := [_, _, _]) (n := 3) (c_X5_in F (d + 0) _ _ _ _) qw_630 qw_631 qw_44 qw_632 ⟨rfl, by decide, by decide, by decide +kernel⟩ (qx_room (by omega) (by decide)) rfl rfl (Nat.le_of_ble_eq_true rfl) dX5_isNight_4 ?_
  refine qx_split _ (fun h4 => ?_) (fun h4 => ?_)
  · exact qx_iret C dX5_isNight_7 rfl (by first | rfl | exact (if_pos h4).symm | exact (if_pos (Int32.not_lt.mp h4)).symm | simp [h4]) rfl
  · exact qx_iret C dX5_isNight_7 rfl (by first | rfl | exact (if_neg h4).symm | exact (if_neg (Int32.not_le.mpr h4)).symm | exact (if_neg (mt And.left (Int32.not_le.mpr h4))).symm | exact (if_neg (mt And.right (Int32.not_le.mpr h4))).symm | exact (if_neg (mt And.left h4)).symm | exact (if_neg (mt And.right h4)).symm | simp [h4]) rfl
set_option maxRecDepth 20000 in
set_option maxHeartbeats 4000000 in
theorem c_X5_isOpen (F : qx_F) (d : Nat) (σ : qx_S)  : qx_cI F shM ⟨"NightStallsModel", "isOpen", "()Z"⟩ (.code ⟨"NightStallsModel", "isOpen", "()Z"⟩ prog_7_method_3_code 1 ((some FieldType.boolean)) :: qx_W) (qx_R (d + 1)) [.ref (fa F 0)] σ (if mOpen σ then 1 else 0) (σ) := by
  refine qx_met (by decide) (Nat.le_of_ble_eq_true rfl) (by intro v hv; simp only [List.mem_cons, List.not_mem_nil, or_false] at hv; rcases hv with rfl <;> rfl) (fun K C => ?_)
  refine qx_aload_n C dX5_isOpen_0 rfl rfl ?_
  refine qx_getR C (j := 0) (k := 0) hiX5 rfl rfl (by decide) qw_582 rfl dX5_isOpen_1 ?_
  refine qx_iconst C (v := 2) dX5_isOpen_4 rfl ?_
  refine qx_ialdL C (j := 1) (a := 2) rfl rfl ⟨by decide, by decide⟩ dX5_isOpen_5 ?_
  refine qx_iconst C (v := 1) dX5_isOpen_6 rfl ?_
  refine qx_icmp_ne C (tgt := 14) dX5_isOpen_7 (by decide) (fun h7 => ?_) (fun h7 => ?_)
  · refine qx_iconst C (v := 0) dX5_isOpen_14 rfl ?_
    exact qx_iret C dX5_isOpen_15 rfl (by first | rfl | exact (if_neg h7).symm | exact (if_neg (Int32.not_le.mpr h7)).symm | exact (if_neg (mt And.left (Int32.not_le.mpr h7))).symm | exact (if_neg (mt And.right (Int32.not_le.mpr h7))).symm | exact (if_neg (mt And.left h7)).symm | exact (if_neg (mt And.right h7)).symm | simp [h7]) rfl
  · refine qx_iconst C (v := 1) dX5_isOpen_10 rfl ?_
    refine qx_goto C (tgt := 15) dX5_isOpen_11 (by decide) ?_
    exact qx_iret C dX5_isOpen_15 rfl (by first | rfl | exact (if_pos h7).symm | exact (if_pos (Int32.not_lt.mp h7)).symm | simp [h7]) rfl
set_option maxRecDepth 20000 in
set_option maxHeartbeats 4000000 in
theorem c_X5_isPlace (F : qx_F) (d : Nat) (σ : qx_S) (v : Int32) : qx_cI F shM ⟨"NightStallsModel", "isPlace", "(I)Z"⟩ (.code ⟨"NightStallsModel", "isPlace", "(I)Z"⟩ prog_7_method_4_code 2 ((some FieldType.boolean)) :: qx_W) (qx_R (d + 2)) [.ref (fa F 0), .int v] σ (if 0 ≤ v ∧ v ≤ σ 1 0 - 1 then 1 else 0) (σ) := by
  refine qx_met (by decide) (Nat.le_of_ble_eq_true rfl) (by intro v hv; simp only [List.mem_cons, List.not_mem_nil, or_false] at hv; rcases hv with rfl | rfl <;> rfl) (fun K C => ?_)
  refine qx_iload_n C dX5_isPlace_0 rfl rfl ?_
  refine qx_iconst C (v := 0) dX5_isPlace_1 rfl ?_
  refine qx_aload_n C dX5_isPlace_2 rfl rfl ?_
  refine qx_getR C (j := 0) (k := 0) hiX5 rfl rfl (by decide) qw_582 rfl dX5_isPlace_3 ?_
  refine qx_iconst C (v := 0) dX5_isPlace_6 rfl ?_
  refine qx_ialdL C (j := 1) (a := 0) rfl rfl ⟨by decide, by decide⟩ dX5_isPlace_7 ?_
  refine qx_iconst C (v := 1) dX5_isPlace_8 rfl ?_
  refine qx_isub C dX5_isPlace_9 ?_
  refine qx_callSI C (As := [_, _, _]) (n := 3) (c_X5_in F (d + 0) _ _ _ _) qw_630 qw_631 qw_44 qw_632 ⟨rfl, by decide, by decide, by decide +kernel⟩ (qx_room (by omega) (by decide)) rfl rfl (Nat.le_of_ble_eq_true rfl) dX5_isPlace_10 ?_
  refine qx_split _ (fun h10 => ?_) (fun h10 => ?_)
  · exact qx_iret C dX5_isPlace_13 rfl (by first | rfl | exact (if_pos h10).symm | exact (if_pos (Int32.not_lt.mp h10)).symm | simp [h10]) rfl
  · exact qx_iret C dX5_isPlace_13 rfl (by first | rfl | exact (if_neg h10).symm | exact (if_neg (Int32.not_le.mpr h10)).symm | exact (if_neg (mt And.left (Int32.not_le.mpr h10))).symm | exact (if_neg (mt And.right (Int32.not_le.mpr h10))).symm | exact (if_neg (mt And.left h10)).symm | exact (if_neg (mt And.right h10)).symm | simp [h10]) rfl
set_option maxRecDepth 20000 in
set_option maxHeartbeats 4000000 in
theorem c_X5_isStall (F : qx_F) (d : Nat) (σ : qx_S) (v : Int32) : qx_cI F shM ⟨"NightStallsModel", "isStall", "(I)Z"⟩ (.code ⟨"NightStallsModel", "isStall", "(I)Z"⟩ prog_7_method_5_code 2 ((some FieldType.boolean)) :: qx_W) (qx_R (d + 2)) [.ref (fa F 0), .int v] σ (if 0 ≤ v ∧ v ≤ σ 1 1 - 1 then 1 else 0) (σ) := by
  refine qx_met (by decide) (Nat.le_of_ble_eq_true rfl) (by intro v hv; simp only [List.mem_cons, List.not_mem_nil, or_false] at hv; rcases hv with rfl | rfl <;> rfl) (fun K C => ?_)
  refine qx_iload_n C dX5_isStall_0 rfl rfl ?_
  refine qx_iconst C (v := 0) dX5_isStall_1 rfl ?_
  refine qx_aload_n C dX5_isStall_2 rfl rfl ?_
  refine qx_getR C (j := 0) (k := 0) hiX5 rfl rfl (by decide) qw_582 rfl dX5_isStall_3 ?_
  refine qx_iconst C (v := 1) dX5_isStall_6 rfl ?_
  refine qx_ialdL C (j := 1) (a := 1) rfl rfl ⟨by decide, by decide⟩ dX5_isStall_7 ?_
  refine qx_iconst C (v := 1) dX5_isStall_8 rfl ?_
  refine qx_isub C dX5_isStall_9 ?_
  refine qx_callSI C (As := [_, _, _]) (n := 3) (c_X5_in F (d + 0) _ _ _ _) qw_630 qw_631 qw_44 qw_632 ⟨rfl, by decide, by decide, by decide +kernel⟩ (qx_room (by omega) (by decide)) rfl rfl (Nat.le_of_ble_eq_true rfl) dX5_isStall_10 ?_
  refine qx_split _ (fun h10 => ?_) (fun h10 => ?_)
  · exact qx_iret C dX5_isStall_13 rfl (by first | rfl | exact (if_pos h10).symm | exact (if_pos (Int32.not_lt.mp h10)).symm | simp [h10]) rfl
  · exact qx_iret C dX5_isStall_13 rfl (by first | rfl | exact (if_neg h10).symm | exact (if_neg (Int32.not_le.mpr h10)).symm | exact (if_neg (mt And.left (Int32.not_le.mpr h10))).symm | exact (if_neg (mt And.right (Int32.not_le.mpr h10))).symm | exact (if_neg (mt And.left h10)).symm | exact (if_neg (mt And.right h10)).symm | simp [h10]) rfl
set_option maxRecDepth 20000 in
set_option maxHeartbeats 4000000 in
theorem c_X5_placeOf (F : qx_F) (d : Nat) (σ : qx_S) (s : Nat) (hs : s < 5) : qx_cI F shM ⟨"NightStallsModel", "placeOf", "(I)I"⟩ (.code ⟨"NightStallsModel", "placeOf", "(I)I"⟩ prog_7_method_8_code 2 ((some FieldType.int)) :: qx_W) (qx_R (d + 1)) [.ref (fa F 0), .int (nI s)] σ (σ 5 (11 * s + 6)) (σ) := by
  refine qx_met (by decide) (Nat.le_of_ble_eq_true rfl) (by intro v hv; simp only [List.mem_cons, List.not_mem_nil, or_false] at hv; rcases hv with rfl | rfl <;> rfl) (fun K C => ?_)
  refine qx_aload_n C dX5_placeOf_0 rfl rfl ?_
  refine qx_getR C (j := 0) (k := 4) hiX5 rfl rfl (by decide) qw_586 rfl dX5_placeOf_1 ?_
  refine qx_bipush C (v := 11) dX5_placeOf_4 rfl ?_
  refine qx_iload_n C dX5_placeOf_6 rfl rfl ?_
  refine qx_imulE C dX5_placeOf_7 (pk_mul 11 s) ?_
  refine qx_bipush C (v := 6) dX5_placeOf_8 rfl ?_
  refine qx_iaddE C dX5_placeOf_10 (nI_add (11 * s) 6) ?_
  refine qx_ialdN C (j := 5) rfl ⟨by omega, by decide⟩ dX5_placeOf_11 ?_
  exact qx_iret C dX5_placeOf_12 rfl rfl rfl
set_option maxRecDepth 20000 in
set_option maxHeartbeats 4000000 in
theorem c_X5_clear (F : qx_F) (d : Nat) (σ : qx_S)  : qx_cV F shM ⟨"NightStallsModel", "clear", "()V"⟩ (.code ⟨"NightStallsModel", "clear", "()V"⟩ prog_7_method_9_code 2 ((none : Option FieldType)) :: qx_W) (qx_R (d + 1)) [.ref (fa F 0)] σ (mClr σ) := by
  refine qx_met (by decide) (Nat.le_of_ble_eq_true rfl) (by intro v hv; simp only [List.mem_cons, List.not_mem_nil, or_false] at hv; rcases hv with rfl <;> rfl) (fun K C => ?_)
  refine qx_aload_n C dX5_clear_0 rfl rfl ?_
  refine qx_getR C (j := 0) (k := 0) hiX5 rfl rfl (by decide) qw_582 rfl dX5_clear_1 ?_
  refine qx_iconst C (v := 3) dX5_clear_4 rfl ?_
  refine qx_iconst C (v := 0) dX5_clear_5 rfl ?_
  refine qx_iastL C (j := 1) (a := 3) rfl rfl ⟨by decide, by decide⟩ dX5_clear_6 ?_
  refine qx_aload_n C dX5_clear_7 rfl rfl ?_
  refine qx_getR C (j := 0) (k := 0) hiX5 rfl rfl (by decide) qw_582 rfl dX5_clear_8 ?_
  refine qx_iconst C (v := 4) dX5_clear_11 rfl ?_
  refine qx_iconst C (v := 0) dX5_clear_12 rfl ?_
  refine qx_iastL C (j := 1) (a := 4) rfl rfl ⟨by decide, by decide⟩ dX5_clear_13 ?_
  refine qx_aload_n C dX5_clear_14 rfl rfl ?_
  refine qx_getR C (j := 0) (k := 0) hiX5 rfl rfl (by decide) qw_582 rfl dX5_clear_15 ?_
  refine qx_bipush C (v := 7) dX5_clear_18 rfl ?_
  refine qx_iconst C (v := 0) dX5_clear_20 rfl ?_
  refine qx_iastL C (j := 1) (a := 7) rfl rfl ⟨by decide, by decide⟩ dX5_clear_21 ?_
  refine qx_iconst C (v := 0) dX5_clear_22 rfl ?_
  refine qx_istore_n C dX5_clear_23 rfl (Nat.le_of_ble_eq_true rfl) ?_
  refine qx_to (qx_up 3 (P := fun i => qx_X K F shM (qf (fun k τ => qs (qs τ 3 (3 * k + 1) 0) 3 (3 * k + 2) 0) (qs (qs (qs σ 1 3 0) 1 4 0) 1 7 0) i) 24 [some (.ref (fa F 0)), some (.int (nI i))] []) (fun i hi hki => ?_) ?_) rfl rfl
  · refine qx_iload_n C dX5_clear_24 rfl rfl ?_
    refine qx_iconst C (v := 3) dX5_clear_25 rfl ?_
    refine qx_icmp_ge_f C (tgt := 57) dX5_clear_26 (by decide) (nI_ge (b := 3) hi (by decide)) ?_
    refine qx_aload_n C dX5_clear_29 rfl rfl ?_
    refine qx_getR C (j := 0) (k := 2) hiX5 rfl rfl (by decide) qw_584 rfl dX5_clear_30 ?_
    refine qx_iconst C (v := 3) dX5_clear_33 rfl ?_
    refine qx_iload_n C dX5_clear_34 rfl rfl ?_
    refine qx_imulE C dX5_clear_35 (pk_mul 3 i) ?_
    refine qx_iconst C (v := 1) dX5_clear_36 rfl ?_
    refine qx_iaddE C dX5_clear_37 (nI_add (3 * i) 1) ?_
    refine qx_iconst C (v := 0) dX5_clear_38 rfl ?_
    refine qx_iastN C (j := 3) rfl ⟨by omega, by decide⟩ dX5_clear_39 ?_
    refine qx_aload_n C dX5_clear_40 rfl rfl ?_
    refine qx_getR C (j := 0) (k := 2) hiX5 rfl rfl (by decide) qw_584 rfl dX5_clear_41 ?_
    refine qx_iconst C (v := 3) dX5_clear_44 rfl ?_
    refine qx_iload_n C dX5_clear_45 rfl rfl ?_
    refine qx_imulE C dX5_clear_46 (pk_mul 3 i) ?_
    refine qx_iconst C (v := 2) dX5_clear_47 rfl ?_
    refine qx_iaddE C dX5_clear_48 (nI_add (3 * i) 2) ?_
    refine qx_iconst C (v := 0) dX5_clear_49 rfl ?_
    refine qx_iastN C (j := 3) rfl ⟨by omega, by decide⟩ dX5_clear_50 ?_
    refine qx_iincN C dX5_clear_51 rfl ?_
    refine qx_goto C (tgt := 24) dX5_clear_54 (by decide) ?_
    exact (qx_to hki rfl rfl)
  · refine qx_iload_n C dX5_clear_24 rfl rfl ?_
    refine qx_iconst C (v := 3) dX5_clear_25 rfl ?_
    refine qx_icmp_ge_t C (tgt := 57) dX5_clear_26 (by decide) (nI_le (a := 3) (b := 3) (Nat.le_refl _) (by decide)) ?_
    refine qx_iconst C (v := 0) dX5_clear_57 rfl ?_
    refine qx_istore_n C dX5_clear_58 rfl (Nat.le_of_ble_eq_true rfl) ?_
    refine qx_to (qx_up 5 (P := fun i => qx_X K F shM (qf (fun s τ => qs (qs (qs (qs (qs τ 5 (11 * s + 6) (-1)) 5 (11 * s + 7) 0) 5 (11 * s + 8) 0) 5 (11 * s + 9) 0) 5 (11 * s + 10) (-1)) (qf (fun k τ => qs (qs τ 3 (3 * k + 1) 0) 3 (3 * k + 2) 0) (qs (qs (qs σ 1 3 0) 1 4 0) 1 7 0) 3) i) 59 [some (.ref (fa F 0)), some (.int (nI i))] []) (fun i hi hki => ?_) ?_) rfl rfl
    · refine qx_iload_n C dX5_clear_59 rfl rfl ?_
      refine qx_iconst C (v := 5) dX5_clear_60 rfl ?_
      refine qx_icmp_ge_f C (tgt := 135) dX5_clear_61 (by decide) (nI_ge (b := 5) hi (by decide)) ?_
      refine qx_aload_n C dX5_clear_64 rfl rfl ?_
      refine qx_getR C (j := 0) (k := 4) hiX5 rfl rfl (by decide) qw_586 rfl dX5_clear_65 ?_
      refine qx_bipush C (v := 11) dX5_clear_68 rfl ?_
      refine qx_iload_n C dX5_clear_70 rfl rfl ?_
      refine qx_imulE C dX5_clear_71 (pk_mul 11 i) ?_
      refine qx_bipush C (v := 6) dX5_clear_72 rfl ?_
      refine qx_iaddE C dX5_clear_74 (nI_add (11 * i) 6) ?_
      refine qx_iconst C (v := (-1)) dX5_clear_75 rfl ?_
      refine qx_iastN C (j := 5) rfl ⟨by omega, by decide⟩ dX5_clear_76 ?_
      refine qx_aload_n C dX5_clear_77 rfl rfl ?_
      refine qx_getR C (j := 0) (k := 4) hiX5 rfl rfl (by decide) qw_586 rfl dX5_clear_78 ?_
      refine qx_bipush C (v := 11) dX5_clear_81 rfl ?_
      refine qx_iload_n C dX5_clear_83 rfl rfl ?_
      refine qx_imulE C dX5_clear_84 (pk_mul 11 i) ?_
      refine qx_bipush C (v := 7) dX5_clear_85 rfl ?_
      refine qx_iaddE C dX5_clear_87 (nI_add (11 * i) 7) ?_
      refine qx_iconst C (v := 0) dX5_clear_88 rfl ?_
      refine qx_iastN C (j := 5) rfl ⟨by omega, by decide⟩ dX5_clear_89 ?_
      refine qx_aload_n C dX5_clear_90 rfl rfl ?_
      refine qx_getR C (j := 0) (k := 4) hiX5 rfl rfl (by decide) qw_586 rfl dX5_clear_91 ?_
      refine qx_bipush C (v := 11) dX5_clear_94 rfl ?_
      refine qx_iload_n C dX5_clear_96 rfl rfl ?_
      refine qx_imulE C dX5_clear_97 (pk_mul 11 i) ?_
      refine qx_bipush C (v := 8) dX5_clear_98 rfl ?_
      refine qx_iaddE C dX5_clear_100 (nI_add (11 * i) 8) ?_
      refine qx_iconst C (v := 0) dX5_clear_101 rfl ?_
      refine qx_iastN C (j := 5) rfl ⟨by omega, by decide⟩ dX5_clear_102 ?_
      refine qx_aload_n C dX5_clear_103 rfl rfl ?_
      refine qx_getR C (j := 0) (k := 4) hiX5 rfl rfl (by decide) qw_586 rfl dX5_clear_104 ?_
      refine qx_bipush C (v := 11) dX5_clear_107 rfl ?_
      refine qx_iload_n C dX5_clear_109 rfl rfl ?_
      refine qx_imulE C dX5_clear_110 (pk_mul 11 i) ?_
      refine qx_bipush C (v := 9) dX5_clear_111 rfl ?_
      refine qx_iaddE C dX5_clear_113 (nI_add (11 * i) 9) ?_
      refine qx_iconst C (v := 0) dX5_clear_114 rfl ?_
      refine qx_iastN C (j := 5) rfl ⟨by omega, by decide⟩ dX5_clear_115 ?_
      refine qx_aload_n C dX5_clear_116 rfl rfl ?_
      refine qx_getR C (j := 0) (k := 4) hiX5 rfl rfl (by decide) qw_586 rfl dX5_clear_117 ?_
      refine qx_bipush C (v := 11) dX5_clear_120 rfl ?_
      refine qx_iload_n C dX5_clear_122 rfl rfl ?_
      refine qx_imulE C dX5_clear_123 (pk_mul 11 i) ?_
      refine qx_bipush C (v := 10) dX5_clear_124 rfl ?_
      refine qx_iaddE C dX5_clear_126 (nI_add (11 * i) 10) ?_
      refine qx_iconst C (v := (-1)) dX5_clear_127 rfl ?_
      refine qx_iastN C (j := 5) rfl ⟨by omega, by decide⟩ dX5_clear_128 ?_
      refine qx_iincN C dX5_clear_129 rfl ?_
      refine qx_goto C (tgt := 59) dX5_clear_132 (by decide) ?_
      exact (qx_to hki rfl rfl)
    · refine qx_iload_n C dX5_clear_59 rfl rfl ?_
      refine qx_iconst C (v := 5) dX5_clear_60 rfl ?_
      refine qx_icmp_ge_t C (tgt := 135) dX5_clear_61 (by decide) (nI_le (a := 5) (b := 5) (Nat.le_refl _) (by decide)) ?_
      exact qx_vret C dX5_clear_135 rfl
set_option maxRecDepth 20000 in
set_option maxHeartbeats 4000000 in
theorem c_X5_isTold (F : qx_F) (d : Nat) (σ : qx_S) (w v : Int32) : qx_cI F shM ⟨"NightStallsModel", "isTold", "(II)Z"⟩ (.code ⟨"NightStallsModel", "isTold", "(II)Z"⟩ prog_7_method_15_code 2 ((some FieldType.boolean)) :: qx_W) (qx_R (d + 2)) [.int w, .int v] σ (if mTold w v then 1 else 0) (σ) := by
  refine qx_met (by decide) (Nat.le_of_ble_eq_true rfl) (by intro v hv; simp only [List.mem_cons, List.not_mem_nil, or_false] at hv; rcases hv with rfl | rfl <;> rfl) (fun K C => ?_)
  by_cases e0 : w = 0
  · subst e0
    refine qx_iload_n C dX5_isTold_0 rfl rfl ?_
    refine qx_tableIn C (tgt := 36) (off := 35) dX5_isTold_1 (by decide) (by decide) (by decide) (by decide) ?_
    refine qx_iload_n C dX5_isTold_36 rfl rfl ?_
    refine qx_iconst C (v := 0) dX5_isTold_37 rfl ?_
    refine qx_iconst C (v := 5) dX5_isTold_38 rfl ?_
    refine qx_callSI C (As := [_, _, _]) (n := 3) (c_X5_in F (d + 0) _ _ _ _) qw_630 qw_631 qw_44 qw_632 ⟨rfl, by decide, by decide, by decide +kernel⟩ (qx_room (by omega) (by decide)) rfl rfl (Nat.le_of_ble_eq_true rfl) dX5_isTold_39 ?_
    refine qx_split _ (fun h39 => ?_) (fun h39 => ?_)
    · exact qx_iret C dX5_isTold_42 rfl (by first | (simp [mTold, h39]; done) | simp_all [mTold]) rfl
    · exact qx_iret C dX5_isTold_42 rfl (by first | (simp [mTold, h39]; done) | simp_all [mTold]) rfl
  by_cases e1 : w = 1
  · subst e1
    refine qx_iload_n C dX5_isTold_0 rfl rfl ?_
    refine qx_tableIn C (tgt := 43) (off := 42) dX5_isTold_1 (by decide) (by decide) (by decide) (by decide) ?_
    refine qx_iload_n C dX5_isTold_43 rfl rfl ?_
    refine qx_iconst C (v := 0) dX5_isTold_44 rfl ?_
    refine qx_iconst C (v := 3) dX5_isTold_45 rfl ?_
    refine qx_callSI C (As := [_, _, _]) (n := 3) (c_X5_in F (d + 0) _ _ _ _) qw_630 qw_631 qw_44 qw_632 ⟨rfl, by decide, by decide, by decide +kernel⟩ (qx_room (by omega) (by decide)) rfl rfl (Nat.le_of_ble_eq_true rfl) dX5_isTold_46 ?_
    refine qx_split _ (fun h46 => ?_) (fun h46 => ?_)
    · exact qx_iret C dX5_isTold_49 rfl (by first | (simp [mTold, h46]; done) | simp_all [mTold]) rfl
    · exact qx_iret C dX5_isTold_49 rfl (by first | (simp [mTold, h46]; done) | simp_all [mTold]) rfl
  by_cases e2 : w = 2
  · subst e2
    refine qx_iload_n C dX5_isTold_0 rfl rfl ?_
    refine qx_tableIn C (tgt := 50) (off := 49) dX5_isTold_1 (by decide) (by decide) (by decide) (by decide) ?_
    refine qx_iload_n C dX5_isTold_50 rfl rfl ?_
    refine qx_iconst C (v := 0) dX5_isTold_51 rfl ?_
    refine qx_bipush C (v := 30) dX5_isTold_52 rfl ?_
    refine qx_callSI C (As := [_, _, _]) (n := 3) (c_X5_in F (d + 0) _ _ _ _) qw_630 qw_631 qw_44 qw_632 ⟨rfl, by decide, by decide, by decide +kernel⟩ (qx_room (by omega) (by decide)) rfl rfl (Nat.le_of_ble_eq_true rfl) dX5_isTold_54 ?_
    refine qx_split _ (fun h54 => ?_) (fun h54 => ?_)
    · exact qx_iret C dX5_isTold_57 rfl (by first | (simp [mTold, h54]; done) | simp_all [mTold]) rfl
    · exact qx_iret C dX5_isTold_57 rfl (by first | (simp [mTold, h54]; done) | simp_all [mTold]) rfl
  by_cases e3 : w = 3
  · subst e3
    refine qx_iload_n C dX5_isTold_0 rfl rfl ?_
    refine qx_tableIn C (tgt := 58) (off := 57) dX5_isTold_1 (by decide) (by decide) (by decide) (by decide) ?_
    refine qx_iload_n C dX5_isTold_58 rfl rfl ?_
    refine qx_iconst C (v := 1) dX5_isTold_59 rfl ?_
    refine qx_bipush C (v := 9) dX5_isTold_60 rfl ?_
    refine qx_callSI C (As := [_, _, _]) (n := 3) (c_X5_in F (d + 0) _ _ _ _) qw_630 qw_631 qw_44 qw_632 ⟨rfl, by decide, by decide, by decide +kernel⟩ (qx_room (by omega) (by decide)) rfl rfl (Nat.le_of_ble_eq_true rfl) dX5_isTold_62 ?_
    refine qx_split _ (fun h62 => ?_) (fun h62 => ?_)
    · exact qx_iret C dX5_isTold_65 rfl (by first | (simp [mTold, h62]; done) | simp_all [mTold]) rfl
    · exact qx_iret C dX5_isTold_65 rfl (by first | (simp [mTold, h62]; done) | simp_all [mTold]) rfl
  by_cases e4 : w = 4
  · subst e4
    refine qx_iload_n C dX5_isTold_0 rfl rfl ?_
    refine qx_tableIn C (tgt := 66) (off := 65) dX5_isTold_1 (by decide) (by decide) (by decide) (by decide) ?_
    refine qx_iload_n C dX5_isTold_66 rfl rfl ?_
    refine qx_iconst C (v := 1) dX5_isTold_67 rfl ?_
    refine qx_bipush C (v := 20) dX5_isTold_68 rfl ?_
    refine qx_callSI C (As := [_, _, _]) (n := 3) (c_X5_in F (d + 0) _ _ _ _) qw_630 qw_631 qw_44 qw_632 ⟨rfl, by decide, by decide, by decide +kernel⟩ (qx_room (by omega) (by decide)) rfl rfl (Nat.le_of_ble_eq_true rfl) dX5_isTold_70 ?_
    refine qx_split _ (fun h70 => ?_) (fun h70 => ?_)
    · exact qx_iret C dX5_isTold_73 rfl (by first | (simp [mTold, h70]; done) | simp_all [mTold]) rfl
    · exact qx_iret C dX5_isTold_73 rfl (by first | (simp [mTold, h70]; done) | simp_all [mTold]) rfl
  refine qx_iload_n C dX5_isTold_0 rfl rfl ?_
  refine qx_tableOut C (tgt := 74) dX5_isTold_1 (by have z0 := lv_neT e0 (a := 0) rfl; have z1 := lv_neT e1 (a := 1) rfl; have z2 := lv_neT e2 (a := 2) rfl; have z3 := lv_neT e3 (a := 3) rfl; have z4 := lv_neT e4 (a := 4) rfl; omega) (by decide) ?_
  refine qx_iload_n C dX5_isTold_74 rfl rfl ?_
  refine qx_iconst C (v := 0) dX5_isTold_75 rfl ?_
  refine qx_bipush C (v := 99) dX5_isTold_76 rfl ?_
  refine qx_callSI C (As := [_, _, _]) (n := 3) (c_X5_in F (d + 0) _ _ _ _) qw_630 qw_631 qw_44 qw_632 ⟨rfl, by decide, by decide, by decide +kernel⟩ (qx_room (by omega) (by decide)) rfl rfl (Nat.le_of_ble_eq_true rfl) dX5_isTold_78 ?_
  refine qx_split _ (fun h78 => ?_) (fun h78 => ?_)
  · exact qx_iret C dX5_isTold_81 rfl (by first | (simp [mTold, e0, e1, e2, e3, e4, h78]; done) | simp_all [mTold]) rfl
  · exact qx_iret C dX5_isTold_81 rfl (by first | (simp [mTold, e0, e1, e2, e3, e4, h78]; done) | simp_all [mTold]) rfl
set_option maxRecDepth 20000 in
set_option maxHeartbeats 4000000 in
theorem c_X5_works (F : qx_F) (d : Nat) (σ : qx_S) (s : Nat) (hs : s < 5) (P S n : Nat) (hw : mW σ P S n) : qx_cI F shM ⟨"NightStallsModel", "works", "(I)Z"⟩ (.code ⟨"NightStallsModel", "works", "(I)Z"⟩ prog_7_method_28_code 2 ((some FieldType.boolean)) :: qx_W) (qx_R (d + 2)) [.ref (fa F 0), .int (nI s)] σ (if mWorks σ s then 1 else 0) (σ) := by
  refine qx_met (by decide) (Nat.le_of_ble_eq_true rfl) (by intro v hv; simp only [List.mem_cons, List.not_mem_nil, or_false] at hv; rcases hv with rfl | rfl <;> rfl) (fun K C => ?_)
  rcases hw.2.2.2.2 s hs with e6 | ⟨p, hp, ep⟩
  · refine qx_aload_n C dX5_works_0 rfl rfl ?_
    refine qx_iload_n C dX5_works_1 rfl rfl ?_
    refine qx_callVI C (b := 0) (As := [_]) (n := 1) (c_X5_placeOf F (d + 0) _ s (by omega)) rfl rfl qw_709 qw_711 qw_22 qw_44 qw_712 ⟨rfl, by decide, by decide, by decide +kernel⟩ (qx_room (by omega) (by decide)) rfl rfl (Nat.le_of_ble_eq_true rfl) dX5_works_2 ?_
    refine qx_top e6 ?_
    refine qx_if_lt_t C (tgt := 38) dX5_works_5 (by decide) (by decide) ?_
    refine qx_iconst C (v := 0) dX5_works_38 rfl ?_
    exact qx_iret C dX5_works_39 rfl (by first | rfl | (simp [mWorks, mLine, ix, e6]; done) | simp [mWorks, e6]) rfl
  · obtain ⟨k, hk, ek⟩ := hw.2.2.2.1 p hp
    have ip : (nI p).toNatClampNeg = p := nI_clamp (by omega)
    have ik : (nI k).toNatClampNeg = k := nI_clamp (by omega)
    have np : ¬ nI p < 0 := qx_n1 (by omega)
    refine qx_aload_n C dX5_works_0 rfl rfl ?_
    refine qx_iload_n C dX5_works_1 rfl rfl ?_
    refine qx_callVI C (b := 0) (As := [_]) (n := 1) (c_X5_placeOf F (d + 0) _ s (by omega)) rfl rfl qw_709 qw_711 qw_22 qw_44 qw_712 ⟨rfl, by decide, by decide, by decide +kernel⟩ (qx_room (by omega) (by decide)) rfl rfl (Nat.le_of_ble_eq_true rfl) dX5_works_2 ?_
    refine qx_top ep ?_
    refine qx_if_lt_f C (tgt := 38) dX5_works_5 (by decide) (qx_n1 (by omega)) ?_
    refine qx_aload_n C dX5_works_8 rfl rfl ?_
    refine qx_getR C (j := 0) (k := 2) hiX5 rfl rfl (by decide) qw_584 rfl dX5_works_9 ?_
    refine qx_iconst C (v := 3) dX5_works_12 rfl ?_
    refine qx_aload_n C dX5_works_13 rfl rfl ?_
    refine qx_getR C (j := 0) (k := 1) hiX5 rfl rfl (by decide) qw_583 rfl dX5_works_14 ?_
    refine qx_iconst C (v := 3) dX5_works_17 rfl ?_
    refine qx_aload_n C dX5_works_18 rfl rfl ?_
    refine qx_iload_n C dX5_works_19 rfl rfl ?_
    refine qx_callVI C (b := 0) (As := [_]) (n := 1) (c_X5_placeOf F (d + 0) _ s (by omega)) rfl rfl qw_709 qw_711 qw_22 qw_44 qw_712 ⟨rfl, by decide, by decide, by decide +kernel⟩ (qx_room (by omega) (by decide)) rfl rfl (Nat.le_of_ble_eq_true rfl) dX5_works_20 ?_
    refine qx_top ep ?_
    refine qx_imulE C dX5_works_23 (pk_mul 3 p) ?_
    refine qx_iconst C (v := 1) dX5_works_24 rfl ?_
    refine qx_iaddE C dX5_works_25 (nI_add (3 * p) 1) ?_
    refine qx_ialdN C (j := 2) rfl ⟨by omega, by decide⟩ dX5_works_26 ?_
    refine qx_top ek ?_
    refine qx_imulE C dX5_works_27 (pk_mul 3 k) ?_
    refine qx_iconst C (v := 2) dX5_works_28 rfl ?_
    refine qx_iaddE C dX5_works_29 (nI_add (3 * k) 2) ?_
    refine qx_ialdN C (j := 3) rfl ⟨by omega, by decide⟩ dX5_works_30 ?_
    refine qx_if_ne C (tgt := 38) dX5_works_31 (by decide) (fun h31 => ?_) (fun h31 => ?_)
    · refine qx_iconst C (v := 0) dX5_works_38 rfl ?_
      exact qx_iret C dX5_works_39 rfl (by first | rfl | (simp [mWorks, mLine, ix, ep, ip, ek, ik, np, h31]; done) | simp [mWorks, e6]) rfl
    · refine qx_iconst C (v := 1) dX5_works_34 rfl ?_
      refine qx_goto C (tgt := 39) dX5_works_35 (by decide) ?_
      exact qx_iret C dX5_works_39 rfl (by first | rfl | (simp [mWorks, mLine, ix, ep, ip, ek, ik, np, h31]; done) | simp [mWorks, e6]) rfl
set_option maxRecDepth 20000 in
set_option maxHeartbeats 4000000 in
theorem c_X5_guestsAt (F : qx_F) (d : Nat) (σ : qx_S) (w : Int32) (n : Nat) (hn : σ 1 4 = nI n) (hn20 : n ≤ 20) : qx_cI F shM ⟨"NightStallsModel", "guestsAt", "(I)I"⟩ (.code ⟨"NightStallsModel", "guestsAt", "(I)I"⟩ prog_7_method_29_code 4 ((some FieldType.int)) :: qx_W) (qx_R (d + 2)) [.ref (fa F 0), .int w] σ (mAt σ w n) (σ) := by
  refine qx_met (by decide) (Nat.le_of_ble_eq_true rfl) (by intro v hv; simp only [List.mem_cons, List.not_mem_nil, or_false] at hv; rcases hv with rfl | rfl <;> rfl) (fun K C => ?_)
  refine qx_iconst C (v := 0) dX5_guestsAt_0 rfl ?_
  refine qx_istore_n C dX5_guestsAt_1 rfl (Nat.le_of_ble_eq_true rfl) ?_
  refine qx_iconst C (v := 0) dX5_guestsAt_2 rfl ?_
  refine qx_istore_n C dX5_guestsAt_3 rfl (Nat.le_of_ble_eq_true rfl) ?_
  refine qx_to (qx_up n (P := fun i => qx_X K F shM (σ) 4 [some (.ref (fa F 0)), some (.int w), some (.int (mAt σ w i)), some (.int (nI i))] []) (fun i hi hki => ?_) ?_) rfl rfl
  · refine qx_iload_n C dX5_guestsAt_4 rfl rfl ?_
    refine qx_aload_n C dX5_guestsAt_5 rfl rfl ?_
    refine qx_getR C (j := 0) (k := 0) hiX5 rfl rfl (by decide) qw_582 rfl dX5_guestsAt_6 ?_
    refine qx_iconst C (v := 4) dX5_guestsAt_9 rfl ?_
    refine qx_ialdL C (j := 1) (a := 4) rfl rfl ⟨by decide, by decide⟩ dX5_guestsAt_10 ?_
    refine qx_icmp_ge_f C (tgt := 62) dX5_guestsAt_11 (by decide) (by rw [hn]; exact nI_ge hi (by omega)) ?_
    refine qx_iload_n C dX5_guestsAt_14 rfl rfl ?_
    refine qx_aload_n C dX5_guestsAt_15 rfl rfl ?_
    refine qx_getR C (j := 0) (k := 5) hiX5 rfl rfl (by decide) qw_587 rfl dX5_guestsAt_16 ?_
    refine qx_bipush C (v := 7) dX5_guestsAt_19 rfl ?_
    refine qx_iload_n C dX5_guestsAt_21 rfl rfl ?_
    refine qx_imulE C dX5_guestsAt_22 (pk_mul 7 i) ?_
    refine qx_iconst C (v := 4) dX5_guestsAt_23 rfl ?_
    refine qx_iaddE C dX5_guestsAt_24 (nI_add (7 * i) 4) ?_
    refine qx_ialdN C (j := 6) rfl ⟨by omega, by decide⟩ dX5_guestsAt_25 ?_
    refine qx_iload_n C dX5_guestsAt_26 rfl rfl ?_
    refine qx_icmp_ne C (tgt := 53) dX5_guestsAt_27 (by decide) (fun h27 => ?_) (fun h27 => ?_)
    · refine qx_iconst C (v := 0) dX5_guestsAt_53 rfl ?_
      refine qx_iadd C dX5_guestsAt_54 ?_
      refine qx_istore_n C dX5_guestsAt_55 rfl (Nat.le_of_ble_eq_true rfl) ?_
      refine qx_iincN C dX5_guestsAt_56 rfl ?_
      refine qx_goto C (tgt := 4) dX5_guestsAt_59 (by decide) ?_
      exact (qx_to hki (by first | rfl | simp [mAt, qf, h27]) (by first | rfl | simp [mAt, qf, h27]))
    · refine qx_aload_n C dX5_guestsAt_30 rfl rfl ?_
      refine qx_getR C (j := 0) (k := 5) hiX5 rfl rfl (by decide) qw_587 rfl dX5_guestsAt_31 ?_
      refine qx_bipush C (v := 7) dX5_guestsAt_34 rfl ?_
      refine qx_iload_n C dX5_guestsAt_36 rfl rfl ?_
      refine qx_imulE C dX5_guestsAt_37 (pk_mul 7 i) ?_
      refine qx_iconst C (v := 2) dX5_guestsAt_38 rfl ?_
      refine qx_iaddE C dX5_guestsAt_39 (nI_add (7 * i) 2) ?_
      refine qx_ialdN C (j := 6) rfl ⟨by omega, by decide⟩ dX5_guestsAt_40 ?_
      refine qx_iconst C (v := 1) dX5_guestsAt_41 rfl ?_
      refine qx_iconst C (v := 2) dX5_guestsAt_42 rfl ?_
      refine qx_callSI C (As := [_, _, _]) (n := 3) (c_X5_in F (d + 0) _ _ _ _) qw_630 qw_631 qw_44 qw_632 ⟨rfl, by decide, by decide, by decide +kernel⟩ (qx_room (by omega) (by decide)) rfl rfl (Nat.le_of_ble_eq_true rfl) dX5_guestsAt_43 ?_
      refine qx_split _ (fun h43 => ?_) (fun h43 => ?_)
      · refine qx_if_eq_f C (tgt := 53) dX5_guestsAt_46 (by decide) (by decide) ?_
        refine qx_iconst C (v := 1) dX5_guestsAt_49 rfl ?_
        refine qx_goto C (tgt := 54) dX5_guestsAt_50 (by decide) ?_
        refine qx_iadd C dX5_guestsAt_54 ?_
        refine qx_istore_n C dX5_guestsAt_55 rfl (Nat.le_of_ble_eq_true rfl) ?_
        refine qx_iincN C dX5_guestsAt_56 rfl ?_
        refine qx_goto C (tgt := 4) dX5_guestsAt_59 (by decide) ?_
        exact (qx_to hki (by first | rfl | simp [mAt, qf, h27, h43]) (by first | rfl | simp [mAt, qf, h27, h43]))
      · refine qx_if_eq_t C (tgt := 53) dX5_guestsAt_46 (by decide) (by decide) ?_
        refine qx_iconst C (v := 0) dX5_guestsAt_53 rfl ?_
        refine qx_iadd C dX5_guestsAt_54 ?_
        refine qx_istore_n C dX5_guestsAt_55 rfl (Nat.le_of_ble_eq_true rfl) ?_
        refine qx_iincN C dX5_guestsAt_56 rfl ?_
        refine qx_goto C (tgt := 4) dX5_guestsAt_59 (by decide) ?_
        exact (qx_to hki (by first | rfl | simp [mAt, qf, h27, h43]) (by first | rfl | simp [mAt, qf, h27, h43]))
  · refine qx_iload_n C dX5_guestsAt_4 rfl rfl ?_
    refine qx_aload_n C dX5_guestsAt_5 rfl rfl ?_
    refine qx_getR C (j := 0) (k := 0) hiX5 rfl rfl (by decide) qw_582 rfl dX5_guestsAt_6 ?_
    refine qx_iconst C (v := 4) dX5_guestsAt_9 rfl ?_
    refine qx_ialdL C (j := 1) (a := 4) rfl rfl ⟨by decide, by decide⟩ dX5_guestsAt_10 ?_
    refine qx_icmp_ge_t C (tgt := 62) dX5_guestsAt_11 (by decide) (by rw [hn]; exact nI_le (Nat.le_refl _) (by omega)) ?_
    refine qx_iload_n C dX5_guestsAt_62 rfl rfl ?_
    exact qx_iret C dX5_guestsAt_63 rfl rfl rfl
set_option maxRecDepth 20000 in
set_option maxHeartbeats 4000000 in
theorem c_X5_inState (F : qx_F) (d : Nat) (σ : qx_S) (w : Int32) (n : Nat) (hn : σ 1 4 = nI n) (hn20 : n ≤ 20) : qx_cI F shM ⟨"NightStallsModel", "inState", "(I)I"⟩ (.code ⟨"NightStallsModel", "inState", "(I)I"⟩ prog_7_method_46_code 4 ((some FieldType.int)) :: qx_W) (qx_R (d + 1)) [.ref (fa F 0), .int w] σ (mOf σ w n) (σ) := by
  refine qx_met (by decide) (Nat.le_of_ble_eq_true rfl) (by intro v hv; simp only [List.mem_cons, List.not_mem_nil, or_false] at hv; rcases hv with rfl | rfl <;> rfl) (fun K C => ?_)
  refine qx_iconst C (v := 0) dX5_inState_0 rfl ?_
  refine qx_istore_n C dX5_inState_1 rfl (Nat.le_of_ble_eq_true rfl) ?_
  refine qx_iconst C (v := 0) dX5_inState_2 rfl ?_
  refine qx_istore_n C dX5_inState_3 rfl (Nat.le_of_ble_eq_true rfl) ?_
  refine qx_to (qx_up n (P := fun i => qx_X K F shM (σ) 4 [some (.ref (fa F 0)), some (.int w), some (.int (mOf σ w i)), some (.int (nI i))] []) (fun i hi hki => ?_) ?_) rfl rfl
  · refine qx_iload_n C dX5_inState_4 rfl rfl ?_
    refine qx_aload_n C dX5_inState_5 rfl rfl ?_
    refine qx_getR C (j := 0) (k := 0) hiX5 rfl rfl (by decide) qw_582 rfl dX5_inState_6 ?_
    refine qx_iconst C (v := 4) dX5_inState_9 rfl ?_
    refine qx_ialdL C (j := 1) (a := 4) rfl rfl ⟨by decide, by decide⟩ dX5_inState_10 ?_
    refine qx_icmp_ge_f C (tgt := 43) dX5_inState_11 (by decide) (by rw [hn]; exact nI_ge hi (by omega)) ?_
    refine qx_iload_n C dX5_inState_14 rfl rfl ?_
    refine qx_aload_n C dX5_inState_15 rfl rfl ?_
    refine qx_getR C (j := 0) (k := 5) hiX5 rfl rfl (by decide) qw_587 rfl dX5_inState_16 ?_
    refine qx_bipush C (v := 7) dX5_inState_19 rfl ?_
    refine qx_iload_n C dX5_inState_21 rfl rfl ?_
    refine qx_imulE C dX5_inState_22 (pk_mul 7 i) ?_
    refine qx_iconst C (v := 2) dX5_inState_23 rfl ?_
    refine qx_iaddE C dX5_inState_24 (nI_add (7 * i) 2) ?_
    refine qx_ialdN C (j := 6) rfl ⟨by omega, by decide⟩ dX5_inState_25 ?_
    refine qx_iload_n C dX5_inState_26 rfl rfl ?_
    refine qx_icmp_ne C (tgt := 34) dX5_inState_27 (by decide) (fun h27 => ?_) (fun h27 => ?_)
    · refine qx_iconst C (v := 0) dX5_inState_34 rfl ?_
      refine qx_iadd C dX5_inState_35 ?_
      refine qx_istore_n C dX5_inState_36 rfl (Nat.le_of_ble_eq_true rfl) ?_
      refine qx_iincN C dX5_inState_37 rfl ?_
      refine qx_goto C (tgt := 4) dX5_inState_40 (by decide) ?_
      exact (qx_to hki (by first | rfl | simp [mOf, qf, h27]) (by first | rfl | simp [mOf, qf, h27]))
    · refine qx_iconst C (v := 1) dX5_inState_30 rfl ?_
      refine qx_goto C (tgt := 35) dX5_inState_31 (by decide) ?_
      refine qx_iadd C dX5_inState_35 ?_
      refine qx_istore_n C dX5_inState_36 rfl (Nat.le_of_ble_eq_true rfl) ?_
      refine qx_iincN C dX5_inState_37 rfl ?_
      refine qx_goto C (tgt := 4) dX5_inState_40 (by decide) ?_
      exact (qx_to hki (by first | rfl | simp [mOf, qf, h27]) (by first | rfl | simp [mOf, qf, h27]))
  · refine qx_iload_n C dX5_inState_4 rfl rfl ?_
    refine qx_aload_n C dX5_inState_5 rfl rfl ?_
    refine qx_getR C (j := 0) (k := 0) hiX5 rfl rfl (by decide) qw_582 rfl dX5_inState_6 ?_
    refine qx_iconst C (v := 4) dX5_inState_9 rfl ?_
    refine qx_ialdL C (j := 1) (a := 4) rfl rfl ⟨by decide, by decide⟩ dX5_inState_10 ?_
    refine qx_icmp_ge_t C (tgt := 43) dX5_inState_11 (by decide) (by rw [hn]; exact nI_le (Nat.le_refl _) (by omega)) ?_
    refine qx_iload_n C dX5_inState_43 rfl rfl ?_
    exact qx_iret C dX5_inState_44 rfl rfl rfl
theorem qx_ls2 {K : qx_K} {F : qx_F} {sh : qx_H} {σ : qx_S} {pc : Nat} {ls ls2 : List (Option Value)} {st : List Value} (h : ls = ls2) (kk : qx_X K F sh σ pc ls2 st) : qx_X K F sh σ pc ls st := by rw [h]; exact kk
set_option maxRecDepth 20000 in
set_option maxHeartbeats 4000000 in
theorem c_X5_firstAt (F : qx_F) (d : Nat) (σ : qx_S) (w : Int32) (n : Nat) (hn : σ 1 4 = nI n) (hn20 : n ≤ 20) : qx_cI F shM ⟨"NightStallsModel", "firstAt", "(I)I"⟩ (.code ⟨"NightStallsModel", "firstAt", "(I)I"⟩ prog_7_method_30_code 5 ((some FieldType.int)) :: qx_W) (qx_R (d + 1)) [.ref (fa F 0), .int w] σ (mFirst σ w n) (σ) := by
  refine qx_met (by decide) (Nat.le_of_ble_eq_true rfl) (by intro v hv; simp only [List.mem_cons, List.not_mem_nil, or_false] at hv; rcases hv with rfl | rfl <;> rfl) (fun K C => ?_)
  refine qx_iconst C (v := (-1)) dX5_firstAt_0 rfl ?_
  refine qx_istore_n C dX5_firstAt_1 rfl (Nat.le_of_ble_eq_true rfl) ?_
  refine qx_iconst C (v := 0) dX5_firstAt_2 rfl ?_
  refine qx_istore_n C dX5_firstAt_3 rfl (Nat.le_of_ble_eq_true rfl) ?_
  refine qx_to (qx_up n (P := fun i => qx_X K F shM (σ) 4 [some (.ref (fa F 0)), some (.int w), some (.int (mFirst σ w i)), some (.int (nI i)), none] []) (fun i hi hki => ?_) ?_) rfl rfl
  · refine qx_iload_n C dX5_firstAt_4 rfl rfl ?_
    refine qx_aload_n C dX5_firstAt_5 rfl rfl ?_
    refine qx_getR C (j := 0) (k := 0) hiX5 rfl rfl (by decide) qw_582 rfl dX5_firstAt_6 ?_
    refine qx_iconst C (v := 4) dX5_firstAt_9 rfl ?_
    refine qx_ialdL C (j := 1) (a := 4) rfl rfl ⟨by decide, by decide⟩ dX5_firstAt_10 ?_
    refine qx_icmp_ge_f C (tgt := 97) dX5_firstAt_11 (by decide) (by rw [hn]; exact nI_ge hi (by omega)) ?_
    refine qx_aload_n C dX5_firstAt_14 rfl rfl ?_
    refine qx_getR C (j := 0) (k := 5) hiX5 rfl rfl (by decide) qw_587 rfl dX5_firstAt_15 ?_
    refine qx_bipush C (v := 7) dX5_firstAt_18 rfl ?_
    refine qx_iload_n C dX5_firstAt_20 rfl rfl ?_
    refine qx_imulE C dX5_firstAt_21 (pk_mul 7 i) ?_
    refine qx_iconst C (v := 4) dX5_firstAt_22 rfl ?_
    refine qx_iaddE C dX5_firstAt_23 (nI_add (7 * i) 4) ?_
    refine qx_ialdN C (j := 6) rfl ⟨by omega, by decide⟩ dX5_firstAt_24 ?_
    refine qx_iload_n C dX5_firstAt_25 rfl rfl ?_
    refine qx_icmp_ne C (tgt := 48) dX5_firstAt_26 (by decide) (fun h26 => ?_) (fun h26 => ?_)
    · refine qx_iconst C (v := 0) dX5_firstAt_48 rfl ?_
      refine qx_istore C dX5_firstAt_49 (Nat.le_of_ble_eq_true rfl) ?_
      refine qx_iload C dX5_firstAt_51 rfl ?_
      refine qx_if_eq_t C (tgt := 89) dX5_firstAt_53 (by decide) (by decide) ?_
      refine qx_iload_n C dX5_firstAt_89 rfl rfl ?_
      refine qx_istore_n C dX5_firstAt_90 rfl (Nat.le_of_ble_eq_true rfl) ?_
      refine qx_iincN C dX5_firstAt_91 rfl ?_
      refine qx_goto C (tgt := 4) dX5_firstAt_94 (by decide) ?_
      exact (qx_forget 4 (qx_to hki rfl (by first | rfl | (show _ = [_, _, some (Value.int (mFirstS σ w i (mFirst σ w i))), _, _]; unfold mFirstS; simp [h26]; done) | (show _ = [_, _, some (Value.int (mFirstS σ w i (mFirst σ w i))), _, _]; unfold mFirstS; simp [h26, h41]; done) | (show _ = [_, _, some (Value.int (mFirstS σ w i (mFirst σ w i))), _, _]; unfold mFirstS; rw [ef]; simp [h26, h41]; done) | (show _ = [_, _, some (Value.int (mFirstS σ w i (mFirst σ w i))), _, _]; unfold mFirstS; rw [ef]; simp [h26, h41, jf, nf, h82]; done))))
    · refine qx_aload_n C dX5_firstAt_29 rfl rfl ?_
      refine qx_getR C (j := 0) (k := 5) hiX5 rfl rfl (by decide) qw_587 rfl dX5_firstAt_30 ?_
      refine qx_bipush C (v := 7) dX5_firstAt_33 rfl ?_
      refine qx_iload_n C dX5_firstAt_35 rfl rfl ?_
      refine qx_imulE C dX5_firstAt_36 (pk_mul 7 i) ?_
      refine qx_iconst C (v := 2) dX5_firstAt_37 rfl ?_
      refine qx_iaddE C dX5_firstAt_38 (nI_add (7 * i) 2) ?_
      refine qx_ialdN C (j := 6) rfl ⟨by omega, by decide⟩ dX5_firstAt_39 ?_
      refine qx_iconst C (v := 1) dX5_firstAt_40 rfl ?_
      refine qx_icmp_ne C (tgt := 48) dX5_firstAt_41 (by decide) (fun h41 => ?_) (fun h41 => ?_)
      · refine qx_iconst C (v := 0) dX5_firstAt_48 rfl ?_
        refine qx_istore C dX5_firstAt_49 (Nat.le_of_ble_eq_true rfl) ?_
        refine qx_iload C dX5_firstAt_51 rfl ?_
        refine qx_if_eq_t C (tgt := 89) dX5_firstAt_53 (by decide) (by decide) ?_
        refine qx_iload_n C dX5_firstAt_89 rfl rfl ?_
        refine qx_istore_n C dX5_firstAt_90 rfl (Nat.le_of_ble_eq_true rfl) ?_
        refine qx_iincN C dX5_firstAt_91 rfl ?_
        refine qx_goto C (tgt := 4) dX5_firstAt_94 (by decide) ?_
        exact (qx_forget 4 (qx_to hki rfl (by first | rfl | (show _ = [_, _, some (Value.int (mFirstS σ w i (mFirst σ w i))), _, _]; unfold mFirstS; simp [h26]; done) | (show _ = [_, _, some (Value.int (mFirstS σ w i (mFirst σ w i))), _, _]; unfold mFirstS; simp [h26, h41]; done) | (show _ = [_, _, some (Value.int (mFirstS σ w i (mFirst σ w i))), _, _]; unfold mFirstS; rw [ef]; simp [h26, h41]; done) | (show _ = [_, _, some (Value.int (mFirstS σ w i (mFirst σ w i))), _, _]; unfold mFirstS; rw [ef]; simp [h26, h41, jf, nf, h82]; done))))
      · refine qx_iconst C (v := 1) dX5_firstAt_44 rfl ?_
        refine qx_goto C (tgt := 49) dX5_firstAt_45 (by decide) ?_
        refine qx_istore C dX5_firstAt_49 (Nat.le_of_ble_eq_true rfl) ?_
        refine qx_iload C dX5_firstAt_51 rfl ?_
        refine qx_if_eq_f C (tgt := 89) dX5_firstAt_53 (by decide) (by decide) ?_
        rcases mFirst_is σ w i with ef | ⟨f, hf, ef⟩
        · refine qx_ls2 (ls2 := [_, _, some (.int (-1)), _, _]) (by rw [ef]; rfl) ?_
          refine qx_iload_n C dX5_firstAt_56 rfl rfl ?_
          refine qx_if_lt_t C (tgt := 85) dX5_firstAt_57 (by decide) (by decide) ?_
          refine qx_iload_n C dX5_firstAt_85 rfl rfl ?_
          refine qx_goto C (tgt := 90) dX5_firstAt_86 (by decide) ?_
          refine qx_istore_n C dX5_firstAt_90 rfl (Nat.le_of_ble_eq_true rfl) ?_
          refine qx_iincN C dX5_firstAt_91 rfl ?_
          refine qx_goto C (tgt := 4) dX5_firstAt_94 (by decide) ?_
          exact (qx_forget 4 (qx_to hki rfl (by first | rfl | (show _ = [_, _, some (Value.int (mFirstS σ w i (mFirst σ w i))), _, _]; unfold mFirstS; simp [h26]; done) | (show _ = [_, _, some (Value.int (mFirstS σ w i (mFirst σ w i))), _, _]; unfold mFirstS; simp [h26, h41]; done) | (show _ = [_, _, some (Value.int (mFirstS σ w i (mFirst σ w i))), _, _]; unfold mFirstS; rw [ef]; simp [h26, h41]; done) | (show _ = [_, _, some (Value.int (mFirstS σ w i (mFirst σ w i))), _, _]; unfold mFirstS; rw [ef]; simp [h26, h41, jf, nf, h82]; done))))
        · have jf : (nI f).toNatClampNeg = f := nI_clamp (by omega)
          have nf : ¬ nI f < 0 := qx_n1 (by omega)
          refine qx_ls2 (ls2 := [_, _, some (.int (nI f)), _, _]) (by rw [ef]; rfl) ?_
          refine qx_iload_n C dX5_firstAt_56 rfl rfl ?_
          refine qx_if_lt_f C (tgt := 85) dX5_firstAt_57 (by decide) (qx_n1 (by omega)) ?_
          refine qx_aload_n C dX5_firstAt_60 rfl rfl ?_
          refine qx_getR C (j := 0) (k := 5) hiX5 rfl rfl (by decide) qw_587 rfl dX5_firstAt_61 ?_
          refine qx_bipush C (v := 7) dX5_firstAt_64 rfl ?_
          refine qx_iload_n C dX5_firstAt_66 rfl rfl ?_
          refine qx_imulE C dX5_firstAt_67 (pk_mul 7 i) ?_
          refine qx_iconst C (v := 5) dX5_firstAt_68 rfl ?_
          refine qx_iaddE C dX5_firstAt_69 (nI_add (7 * i) 5) ?_
          refine qx_ialdN C (j := 6) rfl ⟨by omega, by decide⟩ dX5_firstAt_70 ?_
          refine qx_aload_n C dX5_firstAt_71 rfl rfl ?_
          refine qx_getR C (j := 0) (k := 5) hiX5 rfl rfl (by decide) qw_587 rfl dX5_firstAt_72 ?_
          refine qx_bipush C (v := 7) dX5_firstAt_75 rfl ?_
          refine qx_iload_n C dX5_firstAt_77 rfl rfl ?_
          refine qx_imulE C dX5_firstAt_78 (pk_mul 7 f) ?_
          refine qx_iconst C (v := 5) dX5_firstAt_79 rfl ?_
          refine qx_iaddE C dX5_firstAt_80 (nI_add (7 * f) 5) ?_
          refine qx_ialdN C (j := 6) rfl ⟨by omega, by decide⟩ dX5_firstAt_81 ?_
          refine qx_icmp_ge C (tgt := 89) dX5_firstAt_82 (by decide) (fun h82 => ?_) (fun h82 => ?_)
          · refine qx_iload_n C dX5_firstAt_89 rfl rfl ?_
            refine qx_istore_n C dX5_firstAt_90 rfl (Nat.le_of_ble_eq_true rfl) ?_
            refine qx_iincN C dX5_firstAt_91 rfl ?_
            refine qx_goto C (tgt := 4) dX5_firstAt_94 (by decide) ?_
            exact (qx_forget 4 (qx_to hki rfl (by first | rfl | (show _ = [_, _, some (Value.int (mFirstS σ w i (mFirst σ w i))), _, _]; unfold mFirstS; simp [h26]; done) | (show _ = [_, _, some (Value.int (mFirstS σ w i (mFirst σ w i))), _, _]; unfold mFirstS; simp [h26, h41]; done) | (show _ = [_, _, some (Value.int (mFirstS σ w i (mFirst σ w i))), _, _]; unfold mFirstS; rw [ef]; simp [h26, h41]; done) | (show _ = [_, _, some (Value.int (mFirstS σ w i (mFirst σ w i))), _, _]; unfold mFirstS; rw [ef]; simp [h26, h41, jf, nf, h82]; done))))
          · refine qx_iload_n C dX5_firstAt_85 rfl rfl ?_
            refine qx_goto C (tgt := 90) dX5_firstAt_86 (by decide) ?_
            refine qx_istore_n C dX5_firstAt_90 rfl (Nat.le_of_ble_eq_true rfl) ?_
            refine qx_iincN C dX5_firstAt_91 rfl ?_
            refine qx_goto C (tgt := 4) dX5_firstAt_94 (by decide) ?_
            exact (qx_forget 4 (qx_to hki rfl (by first | rfl | (show _ = [_, _, some (Value.int (mFirstS σ w i (mFirst σ w i))), _, _]; unfold mFirstS; simp [h26]; done) | (show _ = [_, _, some (Value.int (mFirstS σ w i (mFirst σ w i))), _, _]; unfold mFirstS; simp [h26, h41]; done) | (show _ = [_, _, some (Value.int (mFirstS σ w i (mFirst σ w i))), _, _]; unfold mFirstS; rw [ef]; simp [h26, h41]; done) | (show _ = [_, _, some (Value.int (mFirstS σ w i (mFirst σ w i))), _, _]; unfold mFirstS; rw [ef]; simp [h26, h41, jf, nf, h82]; done))))
  · refine qx_iload_n C dX5_firstAt_4 rfl rfl ?_
    refine qx_aload_n C dX5_firstAt_5 rfl rfl ?_
    refine qx_getR C (j := 0) (k := 0) hiX5 rfl rfl (by decide) qw_582 rfl dX5_firstAt_6 ?_
    refine qx_iconst C (v := 4) dX5_firstAt_9 rfl ?_
    refine qx_ialdL C (j := 1) (a := 4) rfl rfl ⟨by decide, by decide⟩ dX5_firstAt_10 ?_
    refine qx_icmp_ge_t C (tgt := 97) dX5_firstAt_11 (by decide) (by rw [hn]; exact nI_le (Nat.le_refl _) (by omega)) ?_
    refine qx_iload_n C dX5_firstAt_97 rfl rfl ?_
    exact qx_iret C dX5_firstAt_98 rfl rfl rfl
