/-! the places by rent -/
def RK (v τ : qx_S) (n : Nat) : Prop := (∀ j, j < n → ∃ q, q < n ∧ τ 25 j = nI q) ∧ (∀ x y, x < y → y < n → aF v (ix (τ 25 y)) ≤ aF v (ix (τ 25 x))) ∧ (∀ q, q < n → ∃ j, j < n ∧ τ 25 j = nI q)
def RH (v τ : qx_S) (i a : Nat) : Prop := (∀ j, j ≤ i → j ≠ a → ∃ q, q < i ∧ τ 25 j = nI q) ∧ (∀ x y, x < y → y ≤ i → x ≠ a → y ≠ a → aF v (ix (τ 25 y)) ≤ aF v (ix (τ 25 x))) ∧ (∀ y, a < y → y ≤ i → aF v (ix (τ 25 y)) ≤ aF v i) ∧ (∀ q, q < i → ∃ j, j ≤ i ∧ j ≠ a ∧ τ 25 j = nI q)
theorem pRank_cellR (p : Nat) : ∀ (a : Nat) (τ : qx_S) (j : Nat), j ≠ 25 → pRank p a τ j = τ j
  | 0, τ, j, h => by rw [pRank]; exact qs_cell _ _ _ _ h
  | a + 1, τ, j, h => by
    rw [pRank]
    split
    · exact qs_cell _ _ _ _ h
    · rw [pRank_cellR p a _ j h]; exact qs_cell _ _ _ _ h
theorem RH_put {v τ : qx_S} {i a : Nat} (hi8 : i < 8) (ha : a ≤ i) (h : RH v τ i a) (hl : ∀ x, x < a → aF v i ≤ aF v (ix (τ 25 x))) : RK v (qs τ 25 a (nI i)) (i + 1) := by
  obtain ⟨h1, h2, h3, h4⟩ := h
  have ixi : ix (nI i) = i := nI_clamp (by omega)
  refine ⟨fun j hj => ?_, fun x y hxy hy => ?_, fun q hq => ?_⟩
  · rw [qc1]
    by_cases e : j = a
    · rw [if_pos e]; exact ⟨i, by omega, rfl⟩
    · rw [if_neg e]
      obtain ⟨q, hq, eq⟩ := h1 j (by omega) e
      exact ⟨q, by omega, eq⟩
  · rw [qc1, qc1]
    by_cases ex : x = a
    · rw [if_pos ex, if_neg (by omega), ixi]
      exact h3 y (by omega) (by omega)
    · rw [if_neg ex]
      by_cases ey : y = a
      · rw [if_pos ey, ixi]
        exact hl x (by omega)
      · rw [if_neg ey]
        exact h2 x y hxy (by omega) ex ey
  · by_cases e : q = i
    · exact ⟨a, by omega, by rw [qs_same, e]⟩
    · obtain ⟨j, hj, ja, ej⟩ := h4 q (by omega)
      exact ⟨j, by omega, by rw [qc1, if_neg ja]; exact ej⟩
theorem pRank_okR {v : qx_S} {S i : Nat} (hI : rIv v S) (hi8 : i < 8) : ∀ (a : Nat) (τ : qx_S), a ≤ i → τ 2 = v 2 → RH v τ i a → RK v (pRank i a τ) (i + 1)
  | 0, τ, ha, e2, h => by
    rw [pRank]
    exact RH_put hi8 ha h (fun x hx => absurd hx (Nat.not_lt_zero x))
  | a + 1, τ, ha, e2, h => by
    rw [pRank]
    obtain ⟨h1, h2, h3, h4⟩ := id h
    obtain ⟨q, hq, eq⟩ := h1 a (by omega) (by omega)
    have ixq : ix (τ 25 a) = q := by rw [eq]; exact nI_clamp (by omega)
    have fi := aF_is hI hi8
    have fq := aF_is hI (show q < 8 by omega)
    have cmp : τ 2 (i * 3 + 0) ≤ τ 2 (ix (τ 25 a) * 3 + 0) ↔ aF v i ≤ aF v q := by
      rw [ixq, e2, fi.1, fq.1, nI_leI (by omega) (by omega)]
    by_cases z : aF v i ≤ aF v q
    · rw [if_pos (cmp.mpr z)]
      refine RH_put hi8 ha h (fun x hx => ?_)
      by_cases e : x = a
      · rw [e, ixq]; exact z
      · have := h2 x a (by omega) (by omega) (by omega) (by omega)
        rw [ixq] at this
        omega
    · rw [if_neg (fun y => z (cmp.mp y))]
      refine pRank_okR hI hi8 a _ (by omega) (by rw [qs_cell _ _ _ _ (by decide)]; exact e2) ⟨fun j hj ja => ?_, fun x y hxy hy xa ya => ?_, fun y hy hyi => ?_, fun q2 hq2 => ?_⟩
      · rw [qc1]
        by_cases e : j = a + 1
        · rw [if_pos e]; exact ⟨q, hq, eq⟩
        · rw [if_neg e]; exact h1 j hj e
      · rw [qc1, qc1]
        by_cases ex : x = a + 1
        · rw [if_pos ex, if_neg (by omega)]
          exact h2 a y (by omega) hy (by omega) (by omega)
        · rw [if_neg ex]
          by_cases ey : y = a + 1
          · rw [if_pos ey]
            exact h2 x a (by omega) (by omega) (by omega) (by omega)
          · rw [if_neg ey]
            exact h2 x y hxy hy ex ey
      · rw [qc1]
        by_cases e : y = a + 1
        · rw [if_pos e, ixq]; omega
        · rw [if_neg e]; exact h3 y (by omega) hyi
      · obtain ⟨j, hj, ja, ej⟩ := h4 q2 hq2
        by_cases e : j = a
        · exact ⟨a + 1, by omega, by omega, by rw [qs_same, ← e]; exact ej⟩
        · exact ⟨j, hj, e, by rw [qc1, if_neg ja]; exact ej⟩
theorem pIni_at (σ : qx_S) : (∀ j, j ≠ 21 → j ≠ 22 → j ≠ 23 → pIni σ j = σ j) ∧ pIni σ 21 5 = -4 ∧ pIni σ 21 6 = -4 ∧ (∀ o, o < 5 → pIni σ 22 o = -4 ∧ pIni σ 23 o = -4) := by
  have c : ∀ (τ : qx_S) i j, j ≠ 22 → j ≠ 23 → qf pI0 τ i j = τ j := fun τ i j a b => qf_cell (f := pI0) (fun k τ => by unfold pI0; rw [qs_cell _ _ _ _ b, qs_cell _ _ _ _ a]) τ i
  have d : ∀ (τ : qx_S) i o, o < i → qf pI0 τ i 22 o = -4 ∧ qf pI0 τ i 23 o = -4 := by
    intro τ i
    induction i with
    | zero => intro o ho; exact absurd ho (Nat.not_lt_zero o)
    | succ i ih =>
      intro o ho
      rw [qf_S]
      have ih := ih o
      generalize qf pI0 τ i = y at ih
      unfold pI0
      by_cases e : o = i
      · subst e
        simp [q_ne, qc7]
      · have := ih (by omega)
        simp [q_ne, qc7, e]
        exact this
  unfold pIni
  refine ⟨fun j a b e => ?_, ?_, ?_, fun o ho => d _ 5 o ho⟩
  · rw [c _ _ _ b e, qs_cell _ _ _ _ a, qs_cell _ _ _ _ a]
  · rw [c _ _ _ (by decide) (by decide)]; simp [qc7]
  · rw [c _ _ _ (by decide) (by decide)]; simp [qc7]
theorem pPre_at {σ : qx_S} {S : Nat} (hI : rIv σ S) : ∀ i, i ≤ 8 → (∀ j, j ≠ 24 → j ≠ 25 → qf pI1 (pIni σ) i j = pIni σ j) ∧ (∀ p, p < i → qf pI1 (pIni σ) i 24 p = σ 2 (p * 3 + 2)) ∧ RK σ (qf pI1 (pIni σ) i) i := by
  intro i
  induction i with
  | zero => intro _; exact ⟨fun _ _ _ => rfl, fun p hp => absurd hp (Nat.not_lt_zero p), fun j hj => absurd hj (Nat.not_lt_zero j), fun x y _ hy => absurd hy (Nat.not_lt_zero y), fun q hq => absurd hq (Nat.not_lt_zero q)⟩
  | succ i ih =>
    intro hi
    obtain ⟨h1, h2, h3⟩ := ih (by omega)
    have e2 : qf pI1 (pIni σ) i 2 = σ 2 := by rw [h1 2 (by decide) (by decide)]; exact (pIni_at σ).1 2 (by decide) (by decide) (by decide)
    rw [qf_S]
    generalize qf pI1 (pIni σ) i = y at h1 h2 h3 e2
    unfold pI1
    refine ⟨fun j a b => ?_, fun p hp => ?_, ?_⟩
    · rw [pRank_cellR _ _ _ _ b, qs_cell _ _ _ _ a]; exact h1 j a b
    · rw [pRank_cellR _ _ _ _ (by decide), qc1, e2]
      by_cases e : p = i
      · rw [if_pos e, e]
      · rw [if_neg e]; exact h2 p (by omega)
    · obtain ⟨k1, k2, k3⟩ := h3
      refine pRank_okR hI (by omega) i _ (Nat.le_refl i) (by rw [qs_cell _ _ _ _ (by decide)]; exact e2) ⟨fun j hj ji => ?_, fun x y hxy hy _ yi => ?_, fun y hy hyi => ?_, fun q hq => ?_⟩
      · rw [q_ne _ _ _ _ _ (by decide)]; exact k1 j (by omega)
      · rw [q_ne _ _ _ _ _ (by decide), q_ne _ _ _ _ _ (by decide)]; exact k2 x y hxy (by omega)
      · omega
      · obtain ⟨j, hj, ej⟩ := k3 q hq
        exact ⟨j, by omega, by omega, by rw [q_ne _ _ _ _ _ (by decide)]; exact ej⟩
/-! the bound of the class -/
def aRk (τ : qx_S) (P : Nat) : List Nat := (List.range P).map (fun i => ix (τ 25 i))
theorem aRk_ok {v τ : qx_S} {P : Nat} (hP : P ≤ 8) (h : RK v τ P) : aSorted (aF v) (aRk τ P) ∧ (∀ p, p < P → p ∈ aRk τ P) ∧ (∀ p, p ∈ aRk τ P → p < P) := by
  obtain ⟨h1, h2, h3⟩ := h
  unfold aRk aSorted
  refine ⟨?_, fun p hp => ?_, fun p hp => ?_⟩
  · rw [List.pairwise_map]
    have lt : (List.range P).Pairwise (fun a b => a < b) := List.pairwise_lt_range
    exact List.Pairwise.imp_of_mem (fun {a b} ha hb hab => h2 a b hab (List.mem_range.mp hb)) lt
  · obtain ⟨j, hj, ej⟩ := h3 p hp
    exact List.mem_map.mpr ⟨j, List.mem_range.mpr hj, by rw [ej]; exact nI_clamp (by omega)⟩
  · obtain ⟨j, hj, ej⟩ := List.mem_map.mp hp
    obtain ⟨q, hq, eq⟩ := h1 j (List.mem_range.mp hj)
    rw [eq] at ej
    have : ix (nI q) = q := nI_clamp (by omega)
    omega
theorem qf_foldl {α : Type} (f : Nat → α → α) (a : α) : ∀ n, qf f a n = (List.range n).foldl (fun x i => f i x) a
  | 0 => rfl
  | n + 1 => by rw [qf_S, List.range_succ, List.foldl_append, ← qf_foldl f a n]; rfl
theorem pMost_fold {v τ : qx_S} {S k : Nat} {cl : Nat → Bool} (hI : rIv v S) (e2 : τ 2 = v 2) (hk : k < 100) : ∀ (L : List Nat) (x c : Nat), (∀ q, q ∈ L → q < 8) → (∀ q, q ∈ L → (τ 24 q = 0 ↔ ¬ cl q = true)) → c ≤ k → (L.foldl (fun (a : Int32 × Int32) q => if nI k ≤ a.2 then a else if τ 24 q = 0 then (a.1 + τ 2 (q * 3 + 0), a.2 + 1) else a) (nI x, nI c)).1 = nI (x + aTop (aF v) cl (k - c) L)
  | [], x, c, _, _, _ => by rw [List.foldl_nil, aTop]; rfl
  | q :: L, x, c, h8, hc, hck => by
    have i0 := fun x c => pMost_fold (cl := cl) hI e2 hk L x c (fun y hy => h8 y (List.mem_cons_of_mem _ hy)) (fun y hy => hc y (List.mem_cons_of_mem _ hy))
    rw [List.foldl_cons]
    dsimp only
    rcases Nat.lt_or_ge c k with z | z
    · rw [if_neg (fun y => by have := (nI_leI (by omega) (by omega)).mp y; omega)]
      obtain ⟨j, hj⟩ : ∃ j, k - c = j + 1 := ⟨k - c - 1, by omega⟩
      rw [hj, aTop_S]
      have hq := hc q List.mem_cons_self
      by_cases e : cl q = true
      · rw [if_pos e, if_neg (fun y => (hq.mp y) e), i0 x c hck, hj]
      · have e3 : τ 2 (q * 3 + 0) = nI (aF v q) := by rw [e2]; exact (aF_is hI (h8 q List.mem_cons_self)).1
        rw [if_neg e, if_pos (hq.mpr e), e3, nI_add, nI_1, i0 (x + aF v q) (c + 1) (by omega), show k - (c + 1) = j by omega, Nat.add_assoc]
    · have : c = k := by omega
      subst this
      rw [if_pos (nI_le (Nat.le_refl c) (by omega)), i0 x c hck, Nat.sub_self, aTop_0, aTop_0]
def cv (P x : Nat) : Int32 := if x = P then -4 else nI x
def CB (σ : qx_S) (P S : Nat) (b : aB) : Prop := match b with
  | none => σ 21 5 = -4 ∧ σ 21 6 = -4
  | some (w, m, c) => σ 21 5 = nI w ∧ σ 21 6 = nI m ∧ (∀ o, o < S → σ 23 o = cv P (c o)) ∧ (∀ o, S ≤ o → o < 5 → σ 23 o = -4)
def CS (v σ0 σ : qx_S) (P S s t : Nat) (ch : Nat → Nat) (b : aB) : Prop := (∀ j, j < 21 ∨ 24 < j → σ j = σ0 j) ∧ (∀ o, o < s → σ 22 o = cv P (ch o)) ∧ (∀ o, t ≤ o → o < 5 → σ 22 o = -4) ∧ (∀ p, p < P → σ 24 p = if aCl (aLn v) ch s p = true then 1 else 0) ∧ CB σ P S b
theorem pMost_is {v σ0 σ : qx_S} {P S s t k : Nat} {ch : Nat → Nat} {b : aB} (hP : P ≤ 8) (hI : rIv v S) (e0 : ∀ j, 1 ≤ j → j ≤ 20 → σ0 j = v j) (hR : RK v σ0 P) (h : CS v σ0 σ P S s t ch b) (hk : k < 100) : pMost σ (nI k) P = nI (aTop (aF v) (aCl (aLn v) ch s) k (aRk σ0 P)) := by
  have e2 : σ 2 = v 2 := by rw [h.1 2 (by decide), e0 2 (by decide) (by decide)]
  have e25 : σ 25 = σ0 25 := h.1 25 (by decide)
  have ok := aRk_ok hP hR
  unfold pMost
  rw [qf_foldl]
  have F := pMost_fold (τ := σ) (cl := aCl (aLn v) ch s) hI e2 hk (aRk σ0 P) 0 0 (fun q hq => by have := ok.2.2 q hq; omega) (fun q hq => by
    rw [h.2.2.2.1 q (ok.2.2 q hq)]
    by_cases e : aCl (aLn v) ch s q = true
    · rw [if_pos e]; exact ⟨fun z => absurd z (by decide), fun z => absurd e z⟩
    · rw [if_neg e]; exact ⟨fun _ => e, fun _ => rfl⟩) (Nat.zero_le k)
  rw [Nat.sub_zero, Nat.zero_add] at F
  rw [← F]
  unfold aRk
  rw [List.foldl_map, ← e25]
  rfl
