/-! the search of the reference is that search -/
def aWt (v : qx_S) (P s : Nat) (ch : Nat → Nat) (p i : Nat) : Int32 := qf (fun o a => if ¬ ch o = P ∧ v 2 (ch o * 3 + 1) = v 2 (p * 3 + 1) then a + v 6 (o * 6 + 2) else a) (v 6 (s * 6 + 2)) i
abbrev aFitP (v : qx_S) (night : Int32) (P s : Nat) (ch : Nat → Nat) (p : Nat) : Prop := night ≤ v 6 (s * 6 + 5) ∧ v 2 (p * 3 + 2) = 0 ∧ (∀ o, o < s → ch o = P ∨ (¬ ch o = p ∧ pBear v s o (aI (nI p - nI (ch o))))) ∧ ¬ v 3 (ix (v 2 (p * 3 + 1))) < aWt v P s ch p s
def aFit (v : qx_S) (night : Int32) (P s : Nat) (ch : Nat → Nat) (p : Nat) : Bool := decide (aFitP v night P s ch p)
def aF (v : qx_S) (p : Nat) : Nat := ix (v 2 (p * 3 + 0))
def aLn (v : qx_S) (p : Nat) : Bool := decide (¬ v 2 (p * 3 + 2) = 0)
theorem aF_is {v : qx_S} {S p : Nat} (h : rIv v S) (hp : p < 8) : v 2 (p * 3 + 0) = nI (aF v p) ∧ aF v p ≤ 99 := by
  obtain ⟨r, hr, e⟩ := h.1 p hp
  unfold aF ix
  rw [e, nI_clamp (by omega)]
  exact ⟨rfl, hr⟩
theorem far_all : ∀ a, a < 8 → ∀ p, p < 8 → mFar (nI a) (nI p) = nI (a - p + (p - a)) ∧ aI (nI p - nI a) = nI (a - p + (p - a)) := by decide +kernel
def MB (τ : qx_S) (S : Nat) (b : aB) : Prop := match b with
  | none => τ 0 10 = -1 ∧ τ 0 11 = 0
  | some (w, m, c) => τ 0 10 = nI w ∧ τ 0 11 = nI m ∧ ∀ o, o < S → τ 9 o = nI (c o)
def MS (τ0 τ : qx_S) (S s : Nat) (ch : Nat → Nat) (b : aB) : Prop := (∀ j, j ≠ 0 → j ≠ 8 → j ≠ 9 → τ j = τ0 j) ∧ (∀ k, k ≠ 10 → k ≠ 11 → τ 0 k = τ0 0 k) ∧ (∀ o, o < s → τ 8 o = nI (ch o)) ∧ MB τ S b
theorem mWo_is {v w τ τ0 : qx_S} {P S s : Nat} {ch : Nat → Nat} {b : aB} (hs : rSt v w P S) (hi : rIv v S) (h0 : ∀ j, 1 ≤ j → j ≤ 5 → τ0 j = w j) (h : MS τ0 τ S s ch b) (hc : ∀ o, o < s → ch o ≤ P) : ∀ i, i ≤ s → mWo τ P i = nI (aW (aF v) P ch i) ∧ mMa τ P i = nI (aM P ch i) := by
  have hP8 : P ≤ 8 := hs.1.2.2.2
  intro i
  induction i with
  | zero => intro _; exact ⟨rfl, rfl⟩
  | succ i ih =>
    intro hi2
    obtain ⟨i1, i2⟩ := ih (by omega)
    have E1 : mWo τ P (i + 1) = mWo τ P i + (if nI P ≤ τ 8 i then 0 else τ 2 (3 * ix (τ 8 i))) := rfl
    have E2 : mMa τ P (i + 1) = mMa τ P i + (if nI P ≤ τ 8 i then 0 else 1) := rfl
    have c8 := h.2.2.1 i (by omega)
    have cl := hc i (by omega)
    rw [E1, E2, i1, i2, c8, aW, aM]
    by_cases e : ch i = P
    · rw [if_pos e, if_pos e, if_pos (by rw [e]; exact nI_le (Nat.le_refl P) (by omega)), if_pos (by rw [e]; exact nI_le (Nat.le_refl P) (by omega))]
      exact ⟨by simp, by simp⟩
    · have lt : ¬ nI P ≤ nI (ch i) := fun z => by have := (nI_leI (by omega) (by omega)).mp z; omega
      rw [if_neg e, if_neg e, if_neg lt, if_neg lt, h.1 2 (by decide) (by decide) (by decide), h0 2 (by decide) (by decide), show ix (nI (ch i)) = ch i from nI_clamp (by omega), hs.2.2.1 _ (by omega), show 3 * ch i = ch i * 3 + 0 by omega, (aF_is hi (by omega)).1, nI_add, nI_1]
      exact ⟨rfl, rfl⟩
theorem mBet_is {τ0 τ : qx_S} {S s P r c : Nat} {ch : Nat → Nat} {b : aB} (h : MS τ0 τ S s ch b) (hg : aGood P S b) (hr : r < 2 ^ 31) (hc : c < 2 ^ 31) : mBet τ (nI r) (nI c) ↔ aBet b r c := by
  unfold mBet aBet
  have hb := h.2.2.2
  unfold MB at hb
  cases b with
  | none =>
    dsimp only at *
    rw [hb.1]
    exact ⟨fun _ => trivial, fun _ => Or.inl (by rw [Int32.lt_iff_toInt_lt, nI_toInt hr]; exact Int.lt_of_lt_of_le (show (-1 : Int32).toInt < 0 by decide) (by omega))⟩
  | some x =>
    obtain ⟨w0, m0, c0⟩ := x
    dsimp only at *
    obtain ⟨-, -, hm, hw⟩ := hg w0 m0 c0 rfl
    rw [hb.1, hb.2.1, nI_ltI (by omega) hr, nI_eq hr (by omega), nI_leI hc (by omega)]
    constructor
    · rintro (z | ⟨y, z⟩)
      · exact Or.inl z
      · exact Or.inr ⟨y, by omega⟩
    · rintro (z | ⟨y, z⟩)
      · exact Or.inl z
      · exact Or.inr ⟨y, by omega⟩
theorem mCpy_at (τ : qx_S) (w m : Int32) : ∀ i, (∀ j, j ≠ 0 → j ≠ 9 → mCpy τ w m i j = τ j) ∧ (mCpy τ w m i 0 = qs (qs τ 0 10 w) 0 11 m 0) ∧ (∀ o, o < i → mCpy τ w m i 9 o = τ 8 o)
  | 0 => ⟨fun j a b => by
      show qs (qs τ 0 10 w) 0 11 m j = τ j
      rw [qs_cell _ _ _ _ a, qs_cell _ _ _ _ a], rfl, fun o ho => absurd ho (Nat.not_lt_zero o)⟩
  | i + 1 => by
    obtain ⟨h1, h2, h3⟩ := mCpy_at τ w m i
    have E : mCpy τ w m (i + 1) = qs (mCpy τ w m i) 9 i (mCpy τ w m i 8 i) := rfl
    rw [E]
    refine ⟨fun j a b => by rw [qs_cell _ _ _ _ b]; exact h1 j a b, by rw [qs_cell _ _ _ _ (by decide)]; exact h2, fun o ho => ?_⟩
    rw [qc1]
    by_cases e : o = i
    · rw [if_pos e, e, h1 8 (by decide) (by decide)]
    · rw [if_neg e]; exact h3 o (by omega)
/-- one choice fits as there -/
theorem mFits_is {v w τ τ0 : qx_S} {P S s p : Nat} {ch : Nat → Nat} {b : aB} {night : Int32} (hs : rSt v w P S) (hi : rIv v S) (h0 : ∀ j, 1 ≤ j → j ≤ 5 → τ0 j = w j) (h : MS τ0 τ S s ch b) (hc : ∀ o, o < s → ch o ≤ P) (hp : p < P) (hsS : s < S) (h8 : τ 8 s = nI p) : mFits τ s P night ↔ aFitP v night P s ch p := by
  obtain ⟨⟨-, -, hP1, hP8⟩, ⟨-, -, hS5⟩, c2, c3, c4, ⟨c5, c6⟩, c7⟩ := hs
  have t : ∀ j, 1 ≤ j → j ≤ 5 → τ j = w j := fun j a b => by rw [h.1 j (by omega) (by omega) (by omega), h0 j a b]
  have t1 := t 1 (by decide) (by decide)
  have t2 := t 2 (by decide) (by decide)
  have t3 := t 3 (by decide) (by decide)
  have t4 := t 4 (by decide) (by decide)
  have t5 := t 5 (by decide) (by decide)
  have ixp : ∀ q, q < 8 → ix (nI q) = q := fun q hq => nI_clamp (by omega)
  obtain ⟨ln, hln, eln⟩ := hi.2.1 p (by omega)
  have el : τ 2 (3 * ix (τ 8 s) + 1) = v 2 (p * 3 + 1) := by rw [h8, ixp p (by omega), t2, c2 _ (by omega), show 3 * p + 1 = p * 3 + 1 by omega]
  unfold mFits mGood aFitP
  have A : (¬ τ 5 (11 * s + 5) < night) ↔ night ≤ v 6 (s * 6 + 5) := by
    rw [t5, c7 s 5 (by omega) (by decide), Int32.not_lt]
  have B : τ 2 (3 * ix (τ 8 s) + 2) = 0 ↔ v 2 (p * 3 + 2) = 0 := by
    rw [h8, ixp p (by omega), t2, c2 _ (by omega), show 3 * p + 2 = p * 3 + 2 by omega]
  have C : ∀ o, o < s → ((nI P ≤ τ 8 o ∨ mBear τ s o) ↔ (ch o = P ∨ (¬ ch o = p ∧ pBear v s o (aI (nI p - nI (ch o)))))) := by
    intro o ho
    have co := hc o ho
    have eo := h.2.2.1 o ho
    have e1 : nI P ≤ τ 8 o ↔ ch o = P := by
      rw [eo, nI_leI (by omega) (by omega)]
      omega
    rw [e1]
    by_cases e : ch o = P
    · exact ⟨fun _ => Or.inl e, fun _ => Or.inl e⟩
    have fa := far_all (ch o) (by omega) p (by omega)
    obtain ⟨so, hso, eso⟩ := hi.2.2.2.2.2.1 o (by omega)
    obtain ⟨ss, hss, ess⟩ := hi.2.2.2.2.2.1 s (by omega)
    have x1 : ix (τ 5 (11 * o + 1)) = so := by rw [t5, c7 o 1 (by omega) (by decide), eso, ixp so (by omega)]
    have x2 : ix (τ 5 (11 * s + 1)) = ss := by rw [t5, c7 s 1 (by omega) (by decide), ess, ixp ss (by omega)]
    have x3 : τ 4 (4 * so + ss) = v 4 (ss * 4 + so) := by
      rw [t4, c4 _ (by omega), show 4 * so + ss = so * 4 + ss by omega]
      exact hi.2.2.2.2.1 so ss hso hss
    have x4 : ix (v 6 (s * 6 + 1)) = ss := by rw [ess, ixp ss (by omega)]
    have x5 : ix (v 6 (o * 6 + 1)) = so := by rw [eso, ixp so (by omega)]
    have x6 : τ 5 (11 * o) = v 6 (o * 6 + 0) := by rw [t5]; exact c7 o 0 (by omega) (by decide)
    have x7 : τ 5 (11 * s) = v 6 (s * 6 + 0) := by rw [t5]; exact c7 s 0 (by omega) (by decide)
    have x8 : τ 1 5 = v 5 0 := by rw [t1]; exact c5
    unfold mBear mBearX pBear
    rw [eo, h8, fa.1, fa.2, x1, x2, x3, x4, x5, x6, x7, x8]
    generalize hd : ch o - p + (p - ch o) = d
    have d8 : d < 8 := by omega
    have l0 : nI d ≤ 0 ↔ d ≤ 0 := nI_leI (b := 0) (by omega) (by decide)
    have l1 : (1 : Int32) < nI d ↔ 1 < d := nI_ltI (a := 1) (by decide) (by omega)
    have l2 : nI d = 1 ↔ d = 1 := nI_eq (b := 1) (by omega) (by decide)
    rw [l0, l1, l2, Int32.not_le]
    by_cases ep : ch o = p
    · have : d = 0 := by omega
      constructor
      · rintro (z | z)
        · exact absurd z e
        · exact absurd z.1 (by omega)
      · rintro (z | z)
        · exact absurd z e
        · exact absurd ep z.1
    · have d1 : 1 ≤ d := by omega
      constructor
      · rintro (z | ⟨-, z1, z2⟩)
        · exact absurd z e
        · refine Or.inr ⟨ep, ?_, ?_⟩
          · rintro ⟨y1, y2⟩
            rcases z1 with k | k
            · exact k y2.symm
            · exact y1 k
          · rcases z2 with k | k
            · exact Or.inl (by omega)
            · exact Or.inr k
      · rintro (z | ⟨-, z1, z2⟩)
        · exact absurd z e
        · refine Or.inr ⟨by omega, ?_, ?_⟩
          · by_cases k : v 5 0 < nI d
            · exact Or.inr k
            · exact Or.inl (fun y => z1 ⟨k, y.symm⟩)
          · rcases z2 with k | k
            · exact Or.inl (by omega)
            · exact Or.inr k
  have D : ∀ i, i ≤ s → mWt τ s P i = aWt v P s ch p i := by
    intro i
    induction i with
    | zero =>
      intro _
      show τ 5 (11 * s + 2) = v 6 (s * 6 + 2)
      rw [t5]; exact c7 s 2 (by omega) (by decide)
    | succ i ih =>
      intro hi2
      have E1 : mWt τ s P (i + 1) = if nI P ≤ τ 8 i then mWt τ s P i else mWt τ s P i + (if τ 2 (3 * ix (τ 8 i) + 1) = τ 2 (3 * ix (τ 8 s) + 1) then τ 5 (11 * i + 2) else 0) := rfl
      have E2 : aWt v P s ch p (i + 1) = if ¬ ch i = P ∧ v 2 (ch i * 3 + 1) = v 2 (p * 3 + 1) then aWt v P s ch p i + v 6 (i * 6 + 2) else aWt v P s ch p i := rfl
      have co := hc i (by omega)
      have eo := h.2.2.1 i (by omega)
      rw [E1, E2, ih (by omega), el, eo]
      by_cases e : ch i = P
      · rw [if_pos (by rw [e]; exact nI_le (Nat.le_refl P) (by omega)), if_neg (fun z => z.1 e)]
      · have lt : ¬ nI P ≤ nI (ch i) := fun z => by have := (nI_leI (by omega) (by omega)).mp z; omega
        rw [if_neg lt, ixp (ch i) (by omega), t2, c2 _ (by omega), show 3 * ch i + 1 = ch i * 3 + 1 by omega, t5, c7 i 2 (by omega) (by decide)]
        by_cases f : v 2 (ch i * 3 + 1) = v 2 (p * 3 + 1)
        · rw [if_pos f, if_pos ⟨e, f⟩]
        · rw [if_neg f, if_neg (fun z => f z.2), Int32.add_zero]
  have X : τ 3 (3 * ix (τ 2 (3 * ix (τ 8 s) + 1))) = v 3 (ix (v 2 (p * 3 + 1))) := by
    rw [el, eln, ixp ln (by omega), t3, c3 ln hln]
  rw [X, D s (Nat.le_refl s), A, B]
  constructor
  · rintro (z | ⟨⟨z1, z2⟩, z3, z4⟩)
    · exact absurd ((nI_eq (by omega) (by omega)).mp (h8.symm.trans z)) (by omega)
    · exact ⟨z1, z2, fun o ho => (C o ho).mp (z3 o ho), z4⟩
  · rintro ⟨z1, z2, z3, z4⟩
    exact Or.inr ⟨⟨z1, z2⟩, fun o ho => (C o ho).mpr (z3 o ho), z4⟩
theorem aFit_off {v : qx_S} {night : Int32} {P : Nat} : ∀ s ch p, p < P → aFit v night P s ch p = true → ∀ o, o < s → ch o ≠ p := by
  intro s ch p hp h o ho
  have h := of_decide_eq_true h
  rcases h.2.2.1 o ho with z | z
  · intro y; omega
  · exact z.1
theorem aFit_cl {v : qx_S} {night : Int32} {P : Nat} : ∀ s ch p, p < P → aFit v night P s ch p = true → aCl (aLn v) ch s p = false := by
  intro s ch p hp h
  have off := aFit_off s ch p hp h
  have h := of_decide_eq_true h
  cases e : aCl (aLn v) ch s p with
  | false => rfl
  | true =>
    rcases (aCl_iff _ _ _ _).mp e with z | ⟨o, ho, z⟩
    · exact absurd h.2.1 (of_decide_eq_true z)
    · exact absurd z (off o ho)
theorem MS_up {τ0 τ : qx_S} {S s p : Nat} {ch : Nat → Nat} {b : aB} (h : MS τ0 τ S s ch b) (h8 : τ 8 s = nI p) : MS τ0 τ S (s + 1) (aU ch s p) b := by
  refine ⟨h.1, h.2.1, fun o ho => ?_, h.2.2.2⟩
  rw [upd_at]
  by_cases e : o = s
  · rw [if_pos e, e]; exact h8
  · rw [if_neg e]; exact h.2.2.1 o (by omega)
theorem MS_8 {τ0 τ : qx_S} {S s q : Nat} {x : Int32} {ch : Nat → Nat} {b : aB} (h : MS τ0 τ S s ch b) (hq : s ≤ q) : MS τ0 (qs τ 8 q x) S s ch b := by
  refine ⟨fun j a b c => by rw [qs_cell _ _ _ _ b]; exact h.1 j a b c, h.2.1, fun o ho => ?_, h.2.2.2⟩
  rw [qc1, if_neg (by omega)]
  exact h.2.2.1 o ho
theorem MS_down {τ0 τ : qx_S} {S s p : Nat} {ch : Nat → Nat} {b : aB} (h : MS τ0 τ S (s + 1) (aU ch s p) b) : MS τ0 τ S s ch b ∧ τ 8 s = nI p := by
  refine ⟨⟨h.1, h.2.1, fun o ho => ?_, h.2.2.2⟩, ?_⟩
  · have := h.2.2.1 o (by omega)
    rw [upd_at, if_neg (by omega)] at this
    exact this
  · have := h.2.2.1 s (by omega)
    rw [upd_at, if_pos rfl] at this
    exact this
theorem mTry_sim {v w τ0 : qx_S} {P S : Nat} {night : Int32} (hs : rSt v w P S) (hi : rIv v S) (h0 : ∀ j, 1 ≤ j → j ≤ 5 → τ0 j = w j) : ∀ k s ch b τ, s + k = S → aOk P s ch → aGood P S b → MS τ0 τ S s ch b → τ 8 s = -1 → MS τ0 (mTry night P S k s τ) S s ch (aS (aF v) (aFit v night P) P k s ch b) := by
  have hP8 : P ≤ 8 := hs.1.2.2.2
  have hS5 : S ≤ 5 := hs.2.1.2.2
  have hF : ∀ p, p < P → aF v p ≤ 99 := fun p hp => (aF_is hi (by omega)).2
  intro k
  induction k with
  | zero =>
    intro s ch b τ e hok hg hM _
    have e : s = S := by omega
    subst e
    have ww := mWo_is hs hi h0 hM hok.1 s (Nat.le_refl s)
    have bw := aW_le hF s hok.1
    have bm := aM_le P ch s
    have bt := mBet_is (r := aW (aF v) P ch s) (c := aM P ch s) hM hg (by omega) (by omega)
    rw [aS]
    show MS τ0 (mTakes τ P s) s s ch _
    unfold mTakes aTake
    rw [ww.1, ww.2]
    by_cases z : aBet b (aW (aF v) P ch s) (aM P ch s)
    · rw [if_pos z, if_pos (bt.mpr z)]
      obtain ⟨k1, k2, k3⟩ := mCpy_at τ (nI (aW (aF v) P ch s)) (nI (aM P ch s)) 5
      refine ⟨fun j a b c => by rw [k1 j a c]; exact hM.1 j a b c, fun j a b => ?_, fun o ho => by rw [k1 8 (by decide) (by decide)]; exact hM.2.2.1 o ho, ?_, ?_, fun o ho => ?_⟩
      · rw [k2, qc1, if_neg b, qc1, if_neg a]; exact hM.2.1 j a b
      · rw [k2, qc1, if_neg (by decide), qc1, if_pos rfl]
      · rw [k2, qc1, if_pos rfl]
      · rw [k3 o (by omega)]; exact hM.2.2.1 o ho
    · rw [if_neg z, if_neg (fun y => z (bt.mp y))]
      exact hM
  | succ k ih =>
    intro s ch b τ e hok hg hM h8
    have loop : ∀ i, i ≤ P → MS τ0 (qf (mIn night P S k s) τ i) S s ch (qf (fun p b => if aFit v night P s ch p = true then aS (aF v) (aFit v night P) P k (s + 1) (aU ch s p) b else b) b i) ∧ qf (mIn night P S k s) τ i 8 s + 1 = nI i ∧ aGood P S (qf (fun p b => if aFit v night P s ch p = true then aS (aF v) (aFit v night P) P k (s + 1) (aU ch s p) b else b) b i) := by
      intro i
      induction i with
      | zero => intro _; exact ⟨hM, by show τ 8 s + 1 = _; rw [h8]; decide, hg⟩
      | succ i ihi =>
        intro hi2
        obtain ⟨m1, m2, m3⟩ := ihi (by omega)
        rw [qf_S, qf_S]
        generalize qf (mIn night P S k s) τ i = τi at m1 m2
        generalize qf (fun p b => if aFit v night P s ch p = true then aS (aF v) (aFit v night P) P k (s + 1) (aU ch s p) b else b) b i = bi at m1 m3
        unfold mIn
        rw [m2]
        have n1 : MS τ0 (qs τi 8 s (nI i)) S s ch bi := MS_8 m1 (Nat.le_refl s)
        have n8 : qs τi 8 s (nI i) 8 s = nI i := by rw [qs_same]
        have ft := mFits_is (night := night) hs hi h0 n1 hok.1 (show i < P by omega) (by omega) n8
        by_cases z : aFitP v night P s ch i
        · have zt : aFit v night P s ch i = true := decide_eq_true z
          rw [if_pos (ft.mpr z)]
          rw [if_pos zt]
          have ok2 := aOk_upd hok (show i ≤ P by omega) (Or.inr (aFit_off s ch i (by omega) zt))
          have r := ih (s + 1) (aU ch s i) bi (qs (qs τi 8 s (nI i)) 8 (s + 1) (-1)) (by omega) ok2 m3 (MS_8 (MS_up n1 n8) (Nat.le_refl _)) (by rw [qs_same])
          obtain ⟨r1, r2⟩ := MS_down r
          exact ⟨r1, by rw [r2, nI_1], aS_good hS5 hF aFit_off k (s + 1) (aU ch s i) bi (by omega) ok2 m3⟩
        · have zf : ¬ aFit v night P s ch i = true := fun y => z (of_decide_eq_true y)
          rw [if_neg (fun y => z (ft.mp y))]
          rw [if_neg zf]
          exact ⟨n1, by rw [qs_same, nI_1], m3⟩
    obtain ⟨m1, m2, m3⟩ := loop P (Nat.le_refl P)
    rw [mTry_S, aS]
    refine MS_8 ?_ (Nat.le_refl s)
    rw [qf_S]
    generalize qf (mIn night P S k s) τ P = τi at m1 m2
    generalize qf (fun p b => if aFit v night P s ch p = true then aS (aF v) (aFit v night P) P k (s + 1) (aU ch s p) b else b) b P = bi at m1 m3
    unfold mIn
    rw [m2]
    have n1 : MS τ0 (qs τi 8 s (nI P)) S s ch bi := MS_8 m1 (Nat.le_refl s)
    have n8 : qs τi 8 s (nI P) 8 s = nI P := by rw [qs_same]
    rw [if_pos (Or.inl n8)]
    exact (MS_down (ih (s + 1) (aU ch s P) bi (qs (qs τi 8 s (nI P)) 8 (s + 1) (-1)) (by omega) (aOk_upd hok (Nat.le_refl P) (Or.inl rfl)) m3 (MS_8 (MS_up n1 n8) (Nat.le_refl _)) (by rw [qs_same]))).1
