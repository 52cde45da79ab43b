/-! the search of the class is that search, too -/
theorem cv_4 {P x : Nat} (hP : P ≤ 8) (hx : x ≤ P) : cv P x = -4 ↔ x = P := by
  unfold cv
  by_cases e : x = P
  · rw [if_pos e]; exact ⟨fun _ => e, fun _ => rfl⟩
  · rw [if_neg e]
    exact ⟨fun z => absurd (show nI x < 0 by rw [z]; decide) (nI_pos (by omega)), fun z => absurd z e⟩
theorem pBet_is {v σ0 σ : qx_S} {P S s t r c : Nat} {ch : Nat → Nat} {b : aB} (h : CS v σ0 σ P S s t ch b) (hg : aGood P S b) (hr : r < 2 ^ 31) (hc : c < 2 ^ 31) : pBet σ (nI r) (nI c) ↔ aBet b r c := by
  unfold pBet aBet
  have hb := h.2.2.2.2
  unfold CB at hb
  cases b with
  | none =>
    dsimp only at *
    rw [hb.1]
    exact ⟨fun _ => trivial, fun _ => Or.inl (by rw [Int32.lt_iff_toInt_lt, nI_toInt hr]; exact Int.lt_of_lt_of_le (show (-4 : Int32).toInt < 0 by decide) (by omega))⟩
  | some x =>
    obtain ⟨w0, m0, c0⟩ := x
    dsimp only at *
    obtain ⟨-, -, hm, hw⟩ := hg w0 m0 c0 rfl
    rw [hb.1, hb.2.1, nI_ltI (by omega) hr, nI_eq hr (by omega), nI_leI hc (by omega)]
    constructor
    · rintro (z | ⟨y, z⟩)
      · exact Or.inl z
      · exact Or.inr ⟨y, by omega⟩
    · rintro (z | ⟨y, z⟩)
      · exact Or.inl z
      · exact Or.inr ⟨y, by omega⟩
theorem pFits_is {v σ0 τ : qx_S} {P S s t p : Nat} {ch : Nat → Nat} {b : aB} {night : Int32} (hP : P ≤ 8) (hI : rIv v S) (e0 : ∀ j, 1 ≤ j → j ≤ 20 → σ0 j = v j) (h : CS v σ0 τ P S s t ch b) (hc : ∀ o, o < s → ch o ≤ P) (hp : p < P) (hn : night ≤ v 6 (s * 6 + 5)) : pFits τ s p ↔ aFitP v night P s ch p := by
  have t0 : ∀ j, 1 ≤ j → j ≤ 6 → τ j = v j := fun j a b => by rw [h.1 j (by omega), e0 j a (by omega)]
  have t2 := t0 2 (by decide) (by decide)
  have t3 := t0 3 (by decide) (by decide)
  have t4 := t0 4 (by decide) (by decide)
  have t5 := t0 5 (by decide) (by decide)
  have t6 := t0 6 (by decide) (by decide)
  have A : ¬ τ 24 p = 1 ↔ (v 2 (p * 3 + 2) = 0 ∧ ∀ o, o < s → ¬ ch o = p) := by
    rw [h.2.2.2.1 p hp]
    by_cases e : aCl (aLn v) ch s p = true
    · rw [if_pos e]
      refine ⟨fun z => absurd rfl z, fun z => ?_⟩
      rcases (aCl_iff _ _ _ _).mp e with y | ⟨o, ho, y⟩
      · exact absurd z.1 (of_decide_eq_true y)
      · exact absurd y (z.2 o ho)
    · rw [if_neg e]
      refine ⟨fun _ => ⟨?_, fun o ho y => e ((aCl_iff _ _ _ _).mpr (Or.inr ⟨o, ho, y⟩))⟩, fun _ => by decide⟩
      by_cases y : v 2 (p * 3 + 2) = 0
      · exact y
      · exact absurd ((aCl_iff _ _ _ _).mpr (Or.inl (decide_eq_true y))) e
  have B : ∀ o, o < s → ¬ ch o = p → (pOk τ s p o ↔ (ch o = P ∨ (¬ ch o = p ∧ pBear v s o (aI (nI p - nI (ch o)))))) := by
    intro o ho hne
    have co := hc o ho
    unfold pOk
    rw [h.2.1 o ho, cv_4 hP co]
    by_cases e : ch o = P
    · exact ⟨fun _ => Or.inl e, fun _ => Or.inl e⟩
    · have ec : cv P (ch o) = nI (ch o) := if_neg e
      rw [ec]
      unfold pBear
      rw [t4, t5, t6]
      constructor
      · rintro (z | z)
        · exact absurd z e
        · exact Or.inr ⟨hne, z⟩
      · rintro (z | z)
        · exact absurd z e
        · exact Or.inr z.2
  have D : ∀ i, i ≤ s → pWt τ s p i = aWt v P s ch p i := by
    intro i
    induction i with
    | zero => intro _; show τ 6 (s * 6 + 2) = v 6 (s * 6 + 2); rw [t6]
    | succ i ih =>
      intro hi
      have E1 : pWt τ s p (i + 1) = if ¬ τ 22 i = -4 ∧ τ 2 (ix (τ 22 i) * 3 + 1) = τ 2 (p * 3 + 1) then pWt τ s p i + τ 6 (i * 6 + 2) else pWt τ s p i := rfl
      have E2 : aWt v P s ch p (i + 1) = if ¬ ch i = P ∧ v 2 (ch i * 3 + 1) = v 2 (p * 3 + 1) then aWt v P s ch p i + v 6 (i * 6 + 2) else aWt v P s ch p i := rfl
      have co := hc i (by omega)
      rw [E1, E2, ih (by omega), h.2.1 i (by omega), t2, t6]
      have c4 := cv_4 hP co
      by_cases e : ch i = P
      · rw [if_neg (fun z => z.1 (c4.mpr e)), if_neg (fun z => z.1 e)]
      · have ec : cv P (ch i) = nI (ch i) := if_neg e
        have n4 : ¬ nI (ch i) = -4 := by rw [← ec]; exact fun z => e (c4.mp z)
        rw [ec, show ix (nI (ch i)) = ch i from nI_clamp (by omega)]
        by_cases f : v 2 (ch i * 3 + 1) = v 2 (p * 3 + 1)
        · rw [if_pos ⟨n4, f⟩, if_pos ⟨e, f⟩]
        · rw [if_neg (fun z => f z.2), if_neg (fun z => f z.2)]
  unfold pFits aFitP
  rw [A, D s (Nat.le_refl s), t2, t3]
  constructor
  · rintro ⟨⟨z1, z2⟩, z3, z4⟩
    exact ⟨hn, z1, fun o ho => (B o ho (z2 o ho)).mp (z3 o ho), z4⟩
  · rintro ⟨z1, z2, z3, z4⟩
    have off : ∀ o, o < s → ¬ ch o = p := by
      intro o ho y
      rcases z3 o ho with k | k
      · omega
      · exact k.1 y
    exact ⟨⟨z2, off⟩, fun o ho => (B o ho (off o ho)).mpr (z3 o ho), z4⟩
theorem CB_to {σ τ : qx_S} {P S : Nat} {b : aB} (h : CB σ P S b) (h21 : τ 21 = σ 21) (h23 : τ 23 = σ 23) : CB τ P S b := by
  unfold CB at *
  rw [h21, h23]
  exact h
theorem CS_try {v σ0 τ : qx_S} {P S s p : Nat} {ch : Nat → Nat} {b : aB} (h : CS v σ0 τ P S s (s + 1) ch b) (hp : p < P) : CS v σ0 (qs (qs τ 22 s (nI p)) 24 p 1) P S (s + 1) (s + 1) (aU ch s p) b := by
  obtain ⟨h1, h2, h3, h4, h5⟩ := h
  refine ⟨fun j hj => ?_, fun o ho => ?_, fun o ho ho5 => ?_, fun q hq => ?_, CB_to h5 rfl rfl⟩
  · rw [qs_cell _ _ _ _ (by omega), qs_cell _ _ _ _ (by omega)]; exact h1 j hj
  · rw [q_ne _ _ _ _ _ (by decide), qc1, upd_at]
    by_cases e : o = s
    · rw [if_pos e, if_pos e]; unfold cv; rw [if_neg (by omega)]
    · rw [if_neg e, if_neg e]; exact h2 o (by omega)
  · rw [q_ne _ _ _ _ _ (by decide), qc1, if_neg (by omega)]; exact h3 o ho ho5
  · rw [qc1, q_ne _ _ _ _ _ (by decide), h4 q hq]
    have := aCl_upd (aLn v) ch s p q
    by_cases e : q = p
    · rw [if_pos e, if_pos (this.mpr (Or.inr e))]
    · rw [if_neg e]
      by_cases f : aCl (aLn v) ch s q = true
      · rw [if_pos f, if_pos (this.mpr (Or.inl f))]
      · rw [if_neg f, if_neg (fun z => by rcases this.mp z with y | y; exact f y; exact e y)]
theorem CS_back {v σ0 τ : qx_S} {P S s p : Nat} {ch : Nat → Nat} {b : aB} (h : CS v σ0 τ P S (s + 1) (s + 1) (aU ch s p) b) (hcl : aCl (aLn v) ch s p = false) : CS v σ0 (qs τ 24 p 0) P S s (s + 1) ch b := by
  obtain ⟨h1, h2, h3, h4, h5⟩ := h
  refine ⟨fun j hj => ?_, fun o ho => ?_, fun o ho ho5 => ?_, fun q hq => ?_, CB_to h5 rfl rfl⟩
  · rw [qs_cell _ _ _ _ (by omega)]; exact h1 j hj
  · rw [q_ne _ _ _ _ _ (by decide)]
    have := h2 o (by omega)
    rw [upd_at, if_neg (by omega)] at this
    exact this
  · rw [q_ne _ _ _ _ _ (by decide)]; exact h3 o ho ho5
  · rw [qc1, h4 q hq]
    have := aCl_upd (aLn v) ch s p q
    by_cases e : q = p
    · rw [if_pos e, e, hcl]; rfl
    · rw [if_neg e]
      by_cases f : aCl (aLn v) ch s q = true
      · rw [if_pos f, if_pos (this.mpr (Or.inl f))]
      · rw [if_neg f, if_neg (fun z => by rcases this.mp z with y | y; exact f y; exact e y)]
theorem CS_wide {v σ0 τ : qx_S} {P S s : Nat} {ch : Nat → Nat} {b : aB} (h : CS v σ0 τ P S s s ch b) : CS v σ0 τ P S s (s + 1) ch b :=
  ⟨h.1, h.2.1, fun o ho ho5 => h.2.2.1 o (by omega) ho5, h.2.2.2⟩
theorem CS_none {v σ0 τ : qx_S} {P S s : Nat} {ch : Nat → Nat} {b : aB} (h : CS v σ0 τ P S s (s + 1) ch b) : CS v σ0 (qs τ 22 s (-4)) P S s s ch b := by
  obtain ⟨h1, h2, h3, h4, h5⟩ := h
  refine ⟨fun j hj => ?_, fun o ho => ?_, fun o ho ho5 => ?_, fun q hq => ?_, CB_to h5 rfl rfl⟩
  · rw [qs_cell _ _ _ _ (by omega)]; exact h1 j hj
  · rw [qc1, if_neg (by omega)]; exact h2 o ho
  · rw [qc1]
    by_cases e : o = s
    · rw [if_pos e]
    · rw [if_neg e]; exact h3 o (by omega) ho5
  · rw [q_ne _ _ _ _ _ (by decide)]; exact h4 q hq
theorem CS_up {v σ0 τ : qx_S} {P S s : Nat} {ch : Nat → Nat} {b : aB} (hs : s < 5) (h : CS v σ0 τ P S s s ch b) : CS v σ0 τ P S (s + 1) (s + 1) (aU ch s P) b := by
  obtain ⟨h1, h2, h3, h4, h5⟩ := h
  refine ⟨h1, fun o ho => ?_, fun o ho ho5 => h3 o (by omega) ho5, fun q hq => ?_, h5⟩
  · rw [upd_at]
    by_cases e : o = s
    · rw [if_pos e, e, h3 s (Nat.le_refl s) hs]; unfold cv; rw [if_pos rfl]
    · rw [if_neg e]; exact h2 o (by omega)
  · rw [h4 q hq]
    have := aCl_upd (aLn v) ch s P q
    by_cases f : aCl (aLn v) ch s q = true
    · rw [if_pos f, if_pos (this.mpr (Or.inl f))]
    · rw [if_neg f, if_neg (fun z => by rcases this.mp z with y | y; exact f y; omega)]
theorem CS_dn {v σ0 τ : qx_S} {P S s : Nat} {ch : Nat → Nat} {b : aB} (h : CS v σ0 τ P S (s + 1) (s + 1) (aU ch s P) b) : CS v σ0 τ P S s s ch b := by
  obtain ⟨h1, h2, h3, h4, h5⟩ := h
  refine ⟨h1, fun o ho => ?_, fun o ho ho5 => ?_, fun q hq => ?_, h5⟩
  · have := h2 o (by omega)
    rw [upd_at, if_neg (by omega)] at this
    exact this
  · by_cases e : o = s
    · have := h2 o (by omega)
      rw [upd_at, if_pos e] at this
      rw [this]; unfold cv; rw [if_pos rfl]
    · exact h3 o (by omega) ho5
  · rw [h4 q hq]
    have := aCl_upd (aLn v) ch s P q
    by_cases f : aCl (aLn v) ch s q = true
    · rw [if_pos f, if_pos (this.mpr (Or.inl f))]
    · rw [if_neg f, if_neg (fun z => by rcases this.mp z with y | y; exact f y; omega)]
theorem aTop_le {F : Nat → Nat} {cl : Nat → Bool} : ∀ (L : List Nat) k, (∀ p, p ∈ L → F p ≤ 99) → aTop F cl k L ≤ 99 * k
  | [], k, _ => Nat.zero_le _
  | x :: xs, 0, _ => by rw [aTop_0]; exact Nat.zero_le _
  | x :: xs, k + 1, h => by
    have i1 := aTop_le (cl := cl) xs (k + 1) (fun y hy => h y (List.mem_cons_of_mem _ hy))
    have i2 := aTop_le (cl := cl) xs k (fun y hy => h y (List.mem_cons_of_mem _ hy))
    have hx := h x List.mem_cons_self
    rw [aTop_S]
    split <;> omega
theorem pTry_sim {v σ0 : qx_S} {P S : Nat} {night : Int32} (hP8 : P ≤ 8) (hS5 : S ≤ 5) (hI : rIv v S) (e0 : ∀ j, 1 ≤ j → j ≤ 20 → σ0 j = v j) (hR : RK v σ0 P) : ∀ k s ch b τ, s + k = S → aOk P s ch → aGood P S b → CS v σ0 τ P S s s ch b → CS v σ0 (pTry night P k s (nI (aW (aF v) P ch s)) (nI (aM P ch s)) τ) P S s s ch (aS (aF v) (aFit v night P) P k s ch b) := by
  have hF : ∀ p, p < P → aF v p ≤ 99 := fun p hp => (aF_is hI (by omega)).2
  obtain ⟨rs, rin, rlt⟩ := aRk_ok hP8 hR
  intro k
  induction k with
  | zero =>
    intro s ch b τ e hok hg hC
    have e : s = S := by omega
    subst e
    have bw := aW_le hF s hok.1
    have bm := aM_le P ch s
    have bt := pBet_is (r := aW (aF v) P ch s) (c := aM P ch s) hC hg (by omega) (by omega)
    rw [aS, pTry]
    unfold pJudge aTake
    by_cases z : aBet b (aW (aF v) P ch s) (aM P ch s)
    · rw [if_pos z, if_pos (bt.mpr z)]
      have q23 : ∀ (y : qx_S) o, o < 5 → qc y 22 23 5 23 o = y 22 o := by
        intro y o ho
        unfold qc
        rw [qx_us]
        unfold va_cpy
        rw [if_pos ⟨Nat.zero_le o, by omega⟩]
        rw [show 0 + (o - 0) = o by omega]
      have qcn : ∀ (y : qx_S) j, j ≠ 23 → qc y 22 23 5 j = y j := fun y j hj => by unfold qc; exact qx_un y _ hj
      obtain ⟨h1, h2, h3, h4, h5⟩ := hC
      refine ⟨fun j hj => ?_, fun o ho => ?_, fun o ho ho5 => ?_, fun q hq => ?_, ?_, ?_, fun o ho => ?_, fun o ho ho5 => ?_⟩
      · rw [qcn _ _ (by omega), qs_cell _ _ _ _ (by omega), qs_cell _ _ _ _ (by omega)]; exact h1 j hj
      · rw [qcn _ _ (by decide), q_ne _ _ _ _ _ (by decide), q_ne _ _ _ _ _ (by decide)]; exact h2 o ho
      · rw [qcn _ _ (by decide), q_ne _ _ _ _ _ (by decide), q_ne _ _ _ _ _ (by decide)]; exact h3 o ho ho5
      · rw [qcn _ _ (by decide), q_ne _ _ _ _ _ (by decide), q_ne _ _ _ _ _ (by decide)]; exact h4 q hq
      · rw [qcn _ _ (by decide)]; simp [qc7]
      · rw [qcn _ _ (by decide)]; simp [qc7]
      · rw [q23 _ o (by omega), q_ne _ _ _ _ _ (by decide), q_ne _ _ _ _ _ (by decide)]; exact h2 o ho
      · rw [q23 _ o (by omega), q_ne _ _ _ _ _ (by decide), q_ne _ _ _ _ _ (by decide)]; exact h3 o ho ho5
    · rw [if_neg z, if_neg (fun y => z (bt.mp y))]
      exact hC
  | succ k ih =>
    intro s ch b τ e hok hg hC
    have bw := aW_le hF s hok.1
    have bm := aM_le P ch s
    have mo := pMost_is (k := k + 1) hP8 hI e0 hR hC (by omega)
    have tl := aTop_le (F := aF v) (cl := aCl (aLn v) ch s) (aRk σ0 P) (k + 1) (fun p hp => hF p (rlt p hp))
    rw [pTry_S, mo, nI_add, nI_add]
    have bt := pBet_is (r := aW (aF v) P ch s + aTop (aF v) (aCl (aLn v) ch s) (k + 1) (aRk σ0 P)) (c := aM P ch s + (k + 1)) hC hg (by omega) (by omega)
    by_cases z : aBet b (aW (aF v) P ch s + aTop (aF v) (aCl (aLn v) ch s) (k + 1) (aRk σ0 P)) (aM P ch s + (k + 1))
    rotate_left
    · rw [if_neg (fun y => z (bt.mp y)), aS_prune rs rin rlt aFit_cl (k + 1) s ch b z]
      exact hC
    rw [if_pos (bt.mpr z), aS]
    have e6 : τ 6 = v 6 := by rw [hC.1 6 (by decide), e0 6 (by decide) (by decide)]
    have loop : night ≤ v 6 (s * 6 + 5) → ∀ i, i ≤ P → CS v σ0 (qf (pPl night P k s (nI (aW (aF v) P ch s)) (nI (aM P ch s))) τ i) P S s (s + 1) ch (qf (fun p b => if aFit v night P s ch p = true then aS (aF v) (aFit v night P) P k (s + 1) (aU ch s p) b else b) b i) ∧ aGood P S (qf (fun p b => if aFit v night P s ch p = true then aS (aF v) (aFit v night P) P k (s + 1) (aU ch s p) b else b) b i) := by
      intro hn i
      induction i with
      | zero => intro _; exact ⟨CS_wide hC, hg⟩
      | succ i ihi =>
        intro hi2
        obtain ⟨m1, m3⟩ := ihi (by omega)
        rw [qf_S, qf_S]
        generalize qf (pPl night P k s (nI (aW (aF v) P ch s)) (nI (aM P ch s))) τ i = τi at m1
        generalize qf (fun p b => if aFit v night P s ch p = true then aS (aF v) (aFit v night P) P k (s + 1) (aU ch s p) b else b) b i = bi at m1 m3
        have ft := pFits_is (night := night) hP8 hI e0 m1 hok.1 (show i < P by omega) hn
        by_cases y : aFitP v night P s ch i
        · have yt : aFit v night P s ch i = true := decide_eq_true y
          rw [pPl_b (ft.mpr y), if_pos yt]
          have ok2 := aOk_upd hok (show i ≤ P by omega) (Or.inr (aFit_off s ch i (by omega) yt))
          have e2 : qs (qs τi 22 s (nI i)) 24 i 1 2 (i * 3 + 0) = nI (aF v i) := by
            rw [q_ne _ _ _ _ _ (by decide), q_ne _ _ _ _ _ (by decide), m1.1 2 (by decide), e0 2 (by decide) (by decide)]
            exact (aF_is hI (by omega)).1
          have r := ih (s + 1) (aU ch s i) bi _ (by omega) ok2 m3 (CS_try m1 (show i < P by omega))
          rw [aW_upd, aM_upd, if_neg (by omega), if_neg (by omega), ← nI_add, ← nI_1] at r
          rw [e2]
          exact ⟨CS_back r (aFit_cl s ch i (by omega) yt), aS_good hS5 hF aFit_off k (s + 1) (aU ch s i) bi (by omega) ok2 m3⟩
        · have yf : ¬ aFit v night P s ch i = true := fun x => y (of_decide_eq_true x)
          rw [pPl_a (fun x => y (ft.mp x)), if_neg yf]
          exact ⟨m1, m3⟩
    have fin : ∀ τ2 b2, CS v σ0 τ2 P S s s ch b2 → aGood P S b2 → CS v σ0 (pTry night P k (s + 1) (nI (aW (aF v) P ch s)) (nI (aM P ch s)) τ2) P S s s ch (aS (aF v) (aFit v night P) P k (s + 1) (aU ch s P) b2) := by
      intro τ2 b2 c2 g2
      have r := ih (s + 1) (aU ch s P) b2 τ2 (by omega) (aOk_upd hok (Nat.le_refl P) (Or.inl rfl)) g2 (CS_up (by omega) c2)
      rw [aW_upd, aM_upd, if_pos rfl, if_pos rfl, Nat.add_zero, Nat.add_zero] at r
      exact CS_dn r
    by_cases hn : night ≤ v 6 (s * 6 + 5)
    · rw [if_pos (by rw [e6]; exact hn)]
      obtain ⟨m1, m3⟩ := loop hn P (Nat.le_refl P)
      exact fin _ _ (CS_none m1) m3
    · rw [if_neg (by rw [e6]; exact hn)]
      have no : ∀ i, qf (fun p b => if aFit v night P s ch p = true then aS (aF v) (aFit v night P) P k (s + 1) (aU ch s p) b else b) b i = b := by
        intro i
        induction i with
        | zero => rfl
        | succ i ihi =>
          rw [qf_S, ihi, if_neg (fun y => hn (of_decide_eq_true y).1)]
      rw [no P]
      exact fin _ _ hC hg
/-! both finds -/
theorem find_is {σ τ : qx_S} {P S n : Nat} (night : Int32) (h : rV σ τ P S n) : ∃ (w m : Nat) (c : Nat → Nat), (∀ o, o < S → c o ≤ P) ∧ (∀ o u, o < S → u < S → o ≠ u → c o = c u → c o = P) ∧ (∀ j, 1 ≤ j → j < 21 ∨ 25 < j → pFind σ night P S j = σ j) ∧ pFind σ night P S 0 = σ 0 ∧ pFind σ night P S 21 5 = nI w ∧ (∀ o, o < S → pFind σ night P S 23 o = cv P (c o)) ∧ (∀ o, S ≤ o → o < 5 → pFind σ night P S 23 o = -4) ∧ (∀ j, j ≠ 0 → j ≠ 8 → j ≠ 9 → mFind τ night P S j = τ j) ∧ (∀ k, k ≠ 10 → k ≠ 11 → mFind τ night P S 0 k = τ 0 k) ∧ mFind τ night P S 0 10 = nI w ∧ (∀ o, o < S → mFind τ night P S 9 o = nI (c o)) := by
  obtain ⟨hSt, hIv, -, -⟩ := h
  have hP8 : P ≤ 8 := hSt.1.2.2.2
  have hS5 : S ≤ 5 := hSt.2.1.2.2
  have hF : ∀ p, p < P → aF σ p ≤ 99 := fun p hp => (aF_is hIv (by omega)).2
  have ok0 : aOk P 0 (fun _ => P) := ⟨fun o ho => absurd ho (Nat.not_lt_zero o), fun o u ho => absurd ho (Nat.not_lt_zero o)⟩
  have g0 : aGood P S none := fun w m c z => by cases z
  obtain ⟨x, ex⟩ := aS_some (F := aF σ) (fit := aFit σ night P) (P := P) S 0 (fun _ => P) none
  obtain ⟨w, m, c⟩ := x
  have gg := aS_good (S := S) hS5 hF (aFit_off (v := σ) (night := night)) S 0 (fun _ => P) none (by omega) ok0 g0
  rw [ex] at gg
  obtain ⟨gc1, gc2, -, -⟩ := gg w m c rfl
  obtain ⟨i1, i2, i3, i4⟩ := pIni_at σ
  obtain ⟨p1, p2, p3⟩ := pPre_at hIv P hP8
  have e0 : ∀ j, 1 ≤ j → j ≤ 20 → pPre σ P j = σ j := fun j a b => by
    show qf pI1 (pIni σ) P j = σ j
    rw [p1 j (by omega) (by omega)]; exact i1 j (by omega) (by omega) (by omega)
  have C0 : CS σ (pPre σ P) (pPre σ P) P S 0 0 (fun _ => P) none := by
    refine ⟨fun _ _ => rfl, fun o ho => absurd ho (Nat.not_lt_zero o), fun o _ ho5 => ?_, fun p hp => ?_, ?_, ?_⟩
    · show qf pI1 (pIni σ) P 22 o = -4
      rw [p1 22 (by decide) (by decide)]; exact (i4 o ho5).1
    · show qf pI1 (pIni σ) P 24 p = _
      rw [p2 p hp]
      rcases hIv.2.2.1 p (by omega) with z | z
      · rw [z, if_neg]
        intro y
        rcases (aCl_iff _ _ _ _).mp y with k | ⟨o, ho, -⟩
        · exact absurd z (of_decide_eq_true k)
        · exact absurd ho (Nat.not_lt_zero o)
      · rw [z, if_pos]
        exact (aCl_iff _ _ _ _).mpr (Or.inl (decide_eq_true (by rw [z]; decide)))
    · show qf pI1 (pIni σ) P 21 5 = -4
      rw [p1 21 (by decide) (by decide)]; exact i2
    · show qf pI1 (pIni σ) P 21 6 = -4
      rw [p1 21 (by decide) (by decide)]; exact i3
  have rc := pTry_sim (night := night) hP8 hS5 hIv e0 p3 S 0 (fun _ => P) none (pPre σ P) (by omega) ok0 g0 C0
  have rc : CS σ (pPre σ P) (pFind σ night P S) P S 0 0 (fun _ => P) (some (w, m, c)) := by rw [← ex]; exact rc
  have M0 : MS τ (qs (qs (qs τ 0 10 (-1)) 0 11 0) 8 0 (-1)) S 0 (fun _ => P) none := by
    refine ⟨fun j a b _ => ?_, fun k a b => ?_, fun o ho => absurd ho (Nat.not_lt_zero o), ?_, ?_⟩
    · rw [qs_cell _ _ _ _ b, qs_cell _ _ _ _ a, qs_cell _ _ _ _ a]
    · rw [q_ne _ _ _ _ _ (by decide), qc1, if_neg b, qc1, if_neg a]
    · rw [q_ne _ _ _ _ _ (by decide), qc1, if_neg (by decide), qc1, if_pos rfl]
    · rw [q_ne _ _ _ _ _ (by decide), qc1, if_pos rfl]
  have rm := mTry_sim (night := night) (w := τ) hSt hIv (fun j _ _ => rfl) S 0 (fun _ => P) none _ (by omega) ok0 g0 M0 (by rw [qs_same])
  have rm : MS τ (mFind τ night P S) S 0 (fun _ => P) (some (w, m, c)) := by rw [← ex]; exact rm
  obtain ⟨rc1, -, -, -, rc5, -, rc7, rc8⟩ := rc
  obtain ⟨rm1, rm2, -, rm4, -, rm6⟩ := rm
  refine ⟨w, m, c, gc1, gc2, fun j hj hj2 => ?_, ?_, rc5, rc7, rc8, rm1, rm2, rm4, rm6⟩
  · rw [rc1 j (by omega)]
    show qf pI1 (pIni σ) P j = σ j
    rw [p1 j (by omega) (by omega)]; exact i1 j (by omega) (by omega) (by omega)
  · rw [rc1 0 (by decide)]
    show qf pI1 (pIni σ) P 0 = σ 0
    rw [p1 0 (by decide) (by decide)]; exact i1 0 (by decide) (by decide) (by decide)
