/-! the search, by itself: which stalls stand where; a choice is a place, or P for none -/
def aU (c : Nat → Nat) (s p : Nat) : Nat → Nat := fun o => if o = s then p else c o
abbrev aB : Type := Option (Nat × Nat × (Nat → Nat))
def aBet (b : aB) (w m : Nat) : Prop := match b with
  | none => True
  | some (w0, m0, _) => w0 < w ∨ (w = w0 ∧ m0 < m)
def aW (F : Nat → Nat) (P : Nat) (ch : Nat → Nat) : Nat → Nat
  | 0 => 0
  | s + 1 => aW F P ch s + (if ch s = P then 0 else F (ch s))
def aM (P : Nat) (ch : Nat → Nat) : Nat → Nat
  | 0 => 0
  | s + 1 => aM P ch s + (if ch s = P then 0 else 1)
noncomputable def aTake (F : Nat → Nat) (P s : Nat) (ch : Nat → Nat) (b : aB) : aB := @ite aB (aBet b (aW F P ch s) (aM P ch s)) (Classical.propDecidable _) (some (aW F P ch s, aM P ch s, ch)) b
noncomputable def aS (F : Nat → Nat) (fit : Nat → (Nat → Nat) → Nat → Bool) (P : Nat) : Nat → Nat → (Nat → Nat) → aB → aB
  | 0, s, ch, b => aTake F P s ch b
  | k + 1, s, ch, b => aS F fit P k (s + 1) (aU ch s P) (qf (fun p b => if fit s ch p = true then aS F fit P k (s + 1) (aU ch s p) b else b) b P)
theorem upd_at (c : Nat → Nat) (s p o : Nat) : aU c s p o = if o = s then p else c o := by
  rfl
theorem aW_to {F : Nat → Nat} {P : Nat} {c d : Nat → Nat} : ∀ s, (∀ o, o < s → c o = d o) → aW F P c s = aW F P d s
  | 0, _ => rfl
  | s + 1, h => by rw [aW, aW, aW_to s (fun o ho => h o (by omega)), h s (by omega)]
theorem aM_to {P : Nat} {c d : Nat → Nat} : ∀ s, (∀ o, o < s → c o = d o) → aM P c s = aM P d s
  | 0, _ => rfl
  | s + 1, h => by rw [aM, aM, aM_to s (fun o ho => h o (by omega)), h s (by omega)]
theorem aW_upd (F : Nat → Nat) (P : Nat) (c : Nat → Nat) (s p : Nat) : aW F P (aU c s p) (s + 1) = aW F P c s + (if p = P then 0 else F p) := by
  rw [aW, aW_to s (d := c) (fun o ho => by rw [upd_at, if_neg (by omega)]), upd_at, if_pos rfl]
theorem aM_upd (P : Nat) (c : Nat → Nat) (s p : Nat) : aM P (aU c s p) (s + 1) = aM P c s + (if p = P then 0 else 1) := by
  rw [aM, aM_to s (d := c) (fun o ho => by rw [upd_at, if_neg (by omega)]), upd_at, if_pos rfl]
theorem aBet_mono {b : aB} {w m w2 m2 : Nat} (h : aBet b w m) (hw : w ≤ w2) (hm : m ≤ m2) : aBet b w2 m2 := by
  unfold aBet at *
  cases b with
  | none => trivial
  | some x =>
    obtain ⟨w0, m0, c⟩ := x
    dsimp only at *
    rcases h with h | ⟨h1, h2⟩
    · exact Or.inl (by omega)
    · rcases Nat.lt_or_ge w w2 with z | z
      · exact Or.inl (by omega)
      · exact Or.inr ⟨by omega, by omega⟩
/-- the most that k more may bring -/
def aTop (F : Nat → Nat) (cl : Nat → Bool) : Nat → List Nat → Nat
  | _, [] => 0
  | k, x :: xs => if cl x = true then aTop F cl k xs else match k with
    | 0 => 0
    | k + 1 => F x + aTop F cl k xs
theorem aTop_0 (F : Nat → Nat) (cl : Nat → Bool) : ∀ L, aTop F cl 0 L = 0
  | [] => rfl
  | x :: xs => by rw [aTop]; split; exact aTop_0 F cl xs; rfl
theorem aTop_S (F : Nat → Nat) (cl : Nat → Bool) (k x : Nat) (xs : List Nat) : aTop F cl (k + 1) (x :: xs) = if cl x = true then aTop F cl (k + 1) xs else F x + aTop F cl k xs := rfl
theorem aTop_up (F : Nat → Nat) (cl : Nat → Bool) : ∀ L k, aTop F cl k L ≤ aTop F cl (k + 1) L
  | [], k => Nat.le_refl _
  | x :: xs, 0 => by rw [aTop_0]; exact Nat.zero_le _
  | x :: xs, k + 1 => by
    rw [aTop_S, aTop_S]
    have h1 := aTop_up F cl xs (k + 1)
    have h2 := aTop_up F cl xs k
    split <;> omega
theorem aTop_step (F : Nat → Nat) (cl : Nat → Bool) (M : Nat) : ∀ L k, (∀ y, y ∈ L → F y ≤ M) → aTop F cl (k + 1) L ≤ M + aTop F cl k L
  | [], k, _ => Nat.zero_le _
  | x :: xs, 0, h => by
    have i1 := aTop_step F cl M xs 0 (fun y hy => h y (List.mem_cons_of_mem _ hy))
    have hx := h x List.mem_cons_self
    rw [aTop_S, aTop_0, aTop_0]
    rw [aTop_0] at i1
    split <;> omega
  | x :: xs, k + 1, h => by
    have i1 := aTop_step F cl M xs (k + 1) (fun y hy => h y (List.mem_cons_of_mem _ hy))
    have i2 := aTop_step F cl M xs k (fun y hy => h y (List.mem_cons_of_mem _ hy))
    rw [aTop_S, aTop_S]
    split <;> omega
def aSorted (F : Nat → Nat) (L : List Nat) : Prop := L.Pairwise (fun x y => F y ≤ F x)
theorem aTop_mono (F : Nat → Nat) (cl cl2 : Nat → Bool) (hc : ∀ x, cl x = true → cl2 x = true) : ∀ L k, aSorted F L → aTop F cl2 k L ≤ aTop F cl k L
  | [], k, _ => Nat.le_refl _
  | x :: xs, 0, _ => by rw [aTop_0]; exact Nat.zero_le _
  | x :: xs, k + 1, h => by
    have hp := List.pairwise_cons.mp h
    have i1 := aTop_mono F cl cl2 hc xs (k + 1) hp.2
    have i2 := aTop_mono F cl cl2 hc xs k hp.2
    have st := aTop_step F cl (F x) xs k hp.1
    rw [aTop_S, aTop_S]
    by_cases a : cl x = true
    · rw [if_pos a, if_pos (hc x a)]; exact i1
    · rw [if_neg a]
      split <;> omega
theorem aTop_take (F : Nat → Nat) (cl cl2 : Nat → Bool) (p : Nat) (hp0 : cl p = false) (hc : ∀ x, cl2 x = true ↔ (cl x = true ∨ x = p)) : ∀ L k, aSorted F L → p ∈ L → F p + aTop F cl2 k L ≤ aTop F cl (k + 1) L
  | [], k, _, hm => by cases hm
  | x :: xs, k, h, hm => by
    have hp := List.pairwise_cons.mp h
    rw [aTop_S]
    by_cases e : x = p
    · subst e
      rw [if_neg (by rw [hp0]; decide)]
      have : aTop F cl2 k (x :: xs) = aTop F cl2 k xs := by
        cases k with
        | zero => rw [aTop_0, aTop_0]
        | succ k => rw [aTop_S, if_pos ((hc x).mpr (Or.inr rfl))]
      rw [this]
      have := aTop_mono F cl cl2 (fun y hy => (hc y).mpr (Or.inl hy)) xs k hp.2
      omega
    · have hm2 : p ∈ xs := by
        cases hm with
        | head => exact absurd rfl e
        | tail _ z => exact z
      have i1 := aTop_take F cl cl2 p hp0 hc xs k hp.2 hm2
      by_cases a : cl x = true
      · rw [if_pos a]
        have : aTop F cl2 k (x :: xs) = aTop F cl2 k xs := by
          cases k with
          | zero => rw [aTop_0, aTop_0]
          | succ k => rw [aTop_S, if_pos ((hc x).mpr (Or.inl a))]
        rw [this]; exact i1
      · rw [if_neg a]
        have fx := hp.1 p hm2
        cases k with
        | zero => rw [aTop_0]; omega
        | succ k =>
          have i2 := aTop_take F cl cl2 p hp0 hc xs k hp.2 hm2
          rw [aTop_S]
          have : ¬ cl2 x = true := fun z => by
            rcases (hc x).mp z with y | y
            · exact a y
            · exact e y
          rw [if_neg this]
          omega
/-- which places are closed: lanes, and those taken -/
def aCl (lane : Nat → Bool) (ch : Nat → Nat) (s : Nat) (p : Nat) : Bool := lane p || (List.range s).any (fun o => ch o == p)
theorem aCl_iff (lane : Nat → Bool) (ch : Nat → Nat) (s p : Nat) : aCl lane ch s p = true ↔ (lane p = true ∨ ∃ o, o < s ∧ ch o = p) := by
  unfold aCl
  simp
theorem aCl_to {lane : Nat → Bool} {c d : Nat → Nat} {s : Nat} (h : ∀ o, o < s → c o = d o) (p : Nat) : aCl lane c s p = aCl lane d s p := by
  rw [Bool.eq_iff_iff, aCl_iff, aCl_iff]
  constructor
  · rintro (z | ⟨o, ho, e⟩)
    · exact Or.inl z
    · exact Or.inr ⟨o, ho, by rw [← h o ho]; exact e⟩
  · rintro (z | ⟨o, ho, e⟩)
    · exact Or.inl z
    · exact Or.inr ⟨o, ho, by rw [h o ho]; exact e⟩
theorem aCl_upd (lane : Nat → Bool) (c : Nat → Nat) (s p q : Nat) : aCl lane (aU c s p) (s + 1) q = true ↔ (aCl lane c s q = true ∨ q = p) := by
  rw [aCl_iff, aCl_iff]
  constructor
  · rintro (z | ⟨o, ho, e⟩)
    · exact Or.inl (Or.inl z)
    · rw [upd_at] at e
      by_cases y : o = s
      · rw [if_pos y] at e; exact Or.inr e.symm
      · rw [if_neg y] at e; exact Or.inl (Or.inr ⟨o, by omega, e⟩)
  · rintro ((z | ⟨o, ho, e⟩) | z)
    · exact Or.inl z
    · exact Or.inr ⟨o, by omega, by rw [upd_at, if_neg (by omega)]; exact e⟩
    · exact Or.inr ⟨s, by omega, by rw [upd_at, if_pos rfl]; exact z.symm⟩
theorem aTop_congr {F : Nat → Nat} {cl cl2 : Nat → Bool} : ∀ (L : List Nat) (k : Nat), (∀ x, x ∈ L → cl2 x = cl x) → aTop F cl2 k L = aTop F cl k L
  | [], _, _ => rfl
  | x :: xs, 0, _ => by rw [aTop_0, aTop_0]
  | x :: xs, k + 1, h => by
    rw [aTop_S, aTop_S, h x List.mem_cons_self, aTop_congr xs (k + 1) (fun y hy => h y (List.mem_cons_of_mem _ hy)), aTop_congr xs k (fun y hy => h y (List.mem_cons_of_mem _ hy))]
/-- what can not be better is not looked at -/
theorem aS_prune {F : Nat → Nat} {fit : Nat → (Nat → Nat) → Nat → Bool} {P : Nat} {lane : Nat → Bool} {rk : List Nat} (hs : aSorted F rk) (hin : ∀ p, p < P → p ∈ rk) (hlt : ∀ p, p ∈ rk → p < P) (hfit : ∀ s ch p, p < P → fit s ch p = true → aCl lane ch s p = false) : ∀ k s ch b, ¬ aBet b (aW F P ch s + aTop F (aCl lane ch s) k rk) (aM P ch s + k) → aS F fit P k s ch b = b := by
  intro k
  induction k with
  | zero =>
    intro s ch b h
    rw [aTop_0] at h
    rw [aS]
    unfold aTake
    exact if_neg h
  | succ k ih =>
    intro s ch b h
    rw [aS]
    have loop : ∀ i, i ≤ P → qf (fun p b => if fit s ch p = true then aS F fit P k (s + 1) (aU ch s p) b else b) b i = b := by
      intro i
      induction i with
      | zero => intro _; rfl
      | succ i ihi =>
        intro hi
        rw [qf_S, ihi (by omega)]
        by_cases e : fit s ch i = true
        · rw [if_pos e]
          refine ih (s + 1) (aU ch s i) b (fun z => h ?_)
          have tk := aTop_take F (aCl lane ch s) (aCl lane (aU ch s i) (s + 1)) i (hfit s ch i (by omega) e) (fun x => aCl_upd lane ch s i x) rk k hs (hin i (by omega))
          rw [aW_upd, aM_upd, if_neg (by omega), if_neg (by omega)] at z
          exact aBet_mono z (by omega) (by omega)
        · rw [if_neg e]
    rw [loop P (Nat.le_refl P)]
    refine ih (s + 1) (aU ch s P) b (fun z => h ?_)
    have tc : aTop F (aCl lane (aU ch s P) (s + 1)) k rk = aTop F (aCl lane ch s) k rk := aTop_congr rk k (fun x hx => by
      rw [Bool.eq_iff_iff, aCl_upd]
      constructor
      · rintro (y | y)
        · exact y
        · exact absurd (hlt x hx) (by omega)
      · exact fun y => Or.inl y)
    have up := aTop_up F (aCl lane ch s) rk k
    rw [aW_upd, aM_upd, if_pos rfl, if_pos rfl, tc] at z
    exact aBet_mono z (by omega) (by omega)
/-- what the search ends with -/
def aGood (P S : Nat) (b : aB) : Prop := ∀ w m c, b = some (w, m, c) → (∀ o, o < S → c o ≤ P) ∧ (∀ o u, o < S → u < S → o ≠ u → c o = c u → c o = P) ∧ m ≤ 5 ∧ w ≤ 495
def aOk (P s : Nat) (c : Nat → Nat) : Prop := (∀ o, o < s → c o ≤ P) ∧ (∀ o u, o < s → u < s → o ≠ u → c o = c u → c o = P)
theorem aOk_upd {P s p : Nat} {c : Nat → Nat} (h : aOk P s c) (hp : p ≤ P) (hn : p = P ∨ ∀ o, o < s → c o ≠ p) : aOk P (s + 1) (aU c s p) := by
  refine ⟨fun o ho => ?_, fun o u ho hu ne e => ?_⟩
  · rw [upd_at]
    split
    · exact hp
    · exact h.1 o (by omega)
  · rw [upd_at, upd_at] at e
    rw [upd_at]
    by_cases a : o = s
    · rw [if_pos a] at e ⊢
      rw [if_neg (by omega)] at e
      rcases hn with z | z
      · exact z
      · exact absurd e.symm (z u (by omega))
    · rw [if_neg a] at e ⊢
      by_cases b : u = s
      · rw [if_pos b] at e
        rcases hn with z | z
        · rw [e]; exact z
        · exact absurd e (z o (by omega))
      · rw [if_neg b] at e
        exact h.2 o u (by omega) (by omega) ne e
theorem aM_le (P : Nat) (c : Nat → Nat) : ∀ s, aM P c s ≤ s
  | 0 => Nat.le_refl _
  | s + 1 => by
    have := aM_le P c s
    rw [aM]; split <;> omega
theorem aW_le {F : Nat → Nat} {P : Nat} {c : Nat → Nat} (hF : ∀ p, p < P → F p ≤ 99) : ∀ s, (∀ o, o < s → c o ≤ P) → aW F P c s ≤ 99 * s
  | 0, _ => Nat.le_refl _
  | s + 1, h => by
    have ih := aW_le hF s (fun o ho => h o (by omega))
    have h1 := h s (by omega)
    rw [aW]
    split
    · omega
    · have := hF (c s) (by omega); omega
theorem aS_good {F : Nat → Nat} {fit : Nat → (Nat → Nat) → Nat → Bool} {P S : Nat} (hS : S ≤ 5) (hF : ∀ p, p < P → F p ≤ 99) (hfit : ∀ s ch p, p < P → fit s ch p = true → ∀ o, o < s → ch o ≠ p) : ∀ k s ch b, s + k = S → aOk P s ch → aGood P S b → aGood P S (aS F fit P k s ch b) := by
  intro k
  induction k with
  | zero =>
    intro s ch b e hok hg
    rw [aS]
    unfold aTake
    have e : s = S := by omega
    subst e
    split
    · intro w m c h
      have h := Option.some.inj h
      obtain ⟨rfl, rfl, rfl⟩ := Prod.mk.inj h |>.imp_right Prod.mk.inj
      have m1 := aM_le P ch s
      have w1 := aW_le hF s hok.1
      exact ⟨hok.1, hok.2, by omega, by omega⟩
    · exact hg
  | succ k ih =>
    intro s ch b e hok hg
    rw [aS]
    have loop : ∀ i, i ≤ P → aGood P S (qf (fun p b => if fit s ch p = true then aS F fit P k (s + 1) (aU ch s p) b else b) b i) := by
      intro i
      induction i with
      | zero => intro _; exact hg
      | succ i ihi =>
        intro hi
        rw [qf_S]
        have g := ihi (by omega)
        by_cases z : fit s ch i = true
        · rw [if_pos z]
          exact ih (s + 1) (aU ch s i) _ (by omega) (aOk_upd hok (by omega) (Or.inr (hfit s ch i (by omega) z))) g
        · rw [if_neg z]; exact g
    exact ih (s + 1) (aU ch s P) _ (by omega) (aOk_upd hok (Nat.le_refl P) (Or.inl rfl)) (loop P (Nat.le_refl P))
theorem aS_some {F : Nat → Nat} {fit : Nat → (Nat → Nat) → Nat → Bool} {P : Nat} : ∀ k s ch b, ∃ x, aS F fit P k s ch b = some x := by
  intro k
  induction k with
  | zero =>
    intro s ch b
    rw [aS]
    unfold aTake
    split
    · exact ⟨_, rfl⟩
    · cases b with
      | none => rename_i z; exact absurd trivial z
      | some x => exact ⟨x, rfl⟩
  | succ k ih => intro s ch b; rw [aS]; exact ih _ _ _
