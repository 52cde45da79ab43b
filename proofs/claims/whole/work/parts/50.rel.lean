/-! THE RELATION: a view of the class (cells 1 to 20) and a view of the reference (cells 1 to 6) tell the same -/
def rSt (v w : qx_S) (P S : Nat) : Prop :=
  (v 1 0 = nI P ∧ w 1 0 = nI P ∧ 1 ≤ P ∧ P ≤ 8) ∧ (v 1 1 = nI S ∧ w 1 1 = nI S ∧ S ≤ 5) ∧ (∀ k, k < 24 → w 2 k = v 2 k) ∧ (∀ k, k < 3 → w 3 (3 * k) = v 3 k) ∧ (∀ k, k < 16 → w 4 k = v 4 k) ∧ (w 1 5 = v 5 0 ∧ w 1 6 = v 5 1) ∧ (∀ s t, s < 5 → t < 6 → w 5 (11 * s + t) = v 6 (s * 6 + t))
def rIv (v : qx_S) (S : Nat) : Prop :=
  (∀ p, p < 8 → ∃ r, r ≤ 99 ∧ v 2 (p * 3 + 0) = nI r) ∧ (∀ p, p < 8 → ∃ k, k < 3 ∧ v 2 (p * 3 + 1) = nI k) ∧ (∀ p, p < 8 → v 2 (p * 3 + 2) = 0 ∨ v 2 (p * 3 + 2) = 1) ∧ (∀ k, k < 16 → v 4 k = 0 ∨ v 4 k = 1) ∧ (∀ a b, a < 4 → b < 4 → v 4 (a * 4 + b) = v 4 (b * 4 + a)) ∧ (∀ s, s < 5 → ∃ a, a < 4 ∧ v 6 (s * 6 + 1) = nI a) ∧ (∀ s, s < S → ∃ a, 1 ≤ a ∧ a ≤ 9 ∧ v 6 (s * 6 + 3) = nI a)
def rNi (v w : qx_S) (P S : Nat) : Prop :=
  (w 1 2 = v 7 2 ∧ (v 7 2 = 0 ∨ v 7 2 = 1) ∧ w 1 3 = v 7 3) ∧ (∀ s, s < S → (v 8 s = -4 ∧ w 5 (11 * s + 6) = -1) ∨ ∃ p, p < P ∧ v 8 s = nI p ∧ w 5 (11 * s + 6) = nI p) ∧ (∀ s, S ≤ s → s < 5 → v 8 s = -4 ∧ v 9 s = 0 ∧ v 10 s = 0 ∧ v 11 s = 0) ∧ (∀ s t, s < S → t < S → s ≠ t → v 8 s = v 8 t → v 8 s = -4) ∧ (∀ s, s < S → w 5 (11 * s + 7) = v 9 s ∧ w 5 (11 * s + 8) = v 10 s ∧ w 5 (11 * s + 9) = v 11 s) ∧ (∀ k, k < 3 → w 3 (3 * k + 1) = v 12 k ∧ w 3 (3 * k + 2) = v 13 k) ∧ (∀ s, s < 5 → w 5 (11 * s + 6) = -1 ∨ ∃ p, p < 8 ∧ w 5 (11 * s + 6) = nI p)
/-- one guest: what both tell of it -/
def rG1 (v w : qx_S) (P S g : Nat) : Prop :=
  w 6 (7 * g + 2) = v 15 g ∧ w 6 (7 * g) = v 18 g ∧ w 6 (7 * g + 1) = v 17 g ∧
  ((v 15 g = 0 ∧ v 19 g = -4 ∧ w 6 (7 * g + 3) = v 16 g ∧ ∃ p, p < P ∧ v 16 g = nI p) ∨
   ((v 15 g = 1 ∨ v 15 g = 2) ∧ w 6 (7 * g + 3) = v 16 g ∧ ∃ s p, s < S ∧ p < P ∧ v 19 g = nI s ∧ w 6 (7 * g + 4) = nI s ∧ v 16 g = nI p ∧ v 8 s = nI p) ∨
   (v 15 g = 3 ∧ v 16 g = -4 ∧ w 6 (7 * g + 6) = v 20 g ∧ ∃ s, s < S ∧ v 19 g = nI s ∧ w 6 (7 * g + 4) = nI s) ∨
   ((v 15 g = 4 ∨ v 15 g = 5) ∧ v 16 g = -4 ∧ v 19 g = -4))
/-- how many guests don't walk any more -/
def rNw (v : qx_S) : Nat → Nat
  | 0 => 0
  | n + 1 => rNw v n + (if v 15 n = 0 then 0 else 1)
def rGu (v w : qx_S) (P S n : Nat) : Prop :=
  (v 14 0 = nI n ∧ w 1 4 = nI n ∧ n ≤ 20) ∧ (∀ g, g < n → rG1 v w P S g) ∧
  -- who cooks, cooks for one guest, and both know for whom
  (∀ s, s < S → ∃ l, l ≤ 9 ∧ v 11 s = nI l ∧ ((l = 0 ∧ ∀ g, g < n → v 15 g = 2 → ¬ v 19 g = nI s) ∨ (0 < l ∧ ∃ g, g < n ∧ v 15 g = 2 ∧ v 19 g = nI s ∧ w 5 (11 * s + 10) = nI g ∧ ∀ h, h < n → v 15 h = 2 → v 19 h = nI s → h = g))) ∧
  -- the order of walking and waiting
  (∀ g h p q, g < h → h < n → v 15 g = 0 → v 16 g = nI p → (v 15 h = 0 ∨ v 15 h = 1) → v 16 h = nI q → p < 8 → q < 8 → q ≤ p ∧ (v 15 h = 1 → q < p)) ∧
  -- stamps rise with the numbers
  (∃ t, t ≤ rNw v n ∧ w 1 7 = nI t ∧ (∀ g, g < n → v 15 g = 1 → ∃ a, a ≤ t ∧ w 6 (7 * g + 5) = nI a) ∧ (∀ g h a b, g < h → h < n → v 15 g = 1 → v 15 h = 1 → v 19 g = v 19 h → w 6 (7 * g + 5) = nI a → w 6 (7 * h + 5) = nI b → a ≤ t → b ≤ t → a < b))
def rV (v w : qx_S) (P S n : Nat) : Prop := rSt v w P S ∧ rIv v S ∧ rNi v w P S ∧ rGu v w P S n
/-- the kept views -/
def kv (σ : qx_S) : qx_S := fun j => if j = 0 then (fun _ => 0) else σ (j + 25)
def kw (τ : qx_S) : qx_S := fun j k => if j = 1 then τ 7 k else if j = 2 then τ 7 (8 + k) else if j = 3 then τ 7 (32 + k) else if j = 4 then τ 7 (41 + k) else if j = 5 then τ 7 (57 + k) else τ 7 (112 + k)
def rR (σ τ : qx_S) : Prop := (∃ P S n, rV σ τ P S n) ∧ (σ 32 2 = 0 ∨ σ 32 2 = 1) ∧ ((σ 0 5 = 0 ∧ τ 0 6 = 0) ∨ (σ 0 5 = 1 ∧ τ 0 6 = 1 ∧ ∃ P S n, rV (kv σ) (kw τ) P S n))
