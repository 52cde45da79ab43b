/-! one write; folds; searches -/
theorem qs_at (σ : qx_S) (j k : Nat) (v : Int32) (i m : Nat) : qs σ j k v i m = if i = j ∧ m = k then v else σ i m := by
  unfold qs qx_u upd
  by_cases h : i = j
  · subst h
    by_cases h2 : m = k
    · simp [h2]
    · simp [h2]
  · simp [h]
theorem qs_cell (σ : qx_S) (j k : Nat) (v : Int32) {i : Nat} (h : i ≠ j) : qs σ j k v i = σ i := by
  unfold qs; exact qx_un σ _ h
theorem qs_same (σ : qx_S) (j k : Nat) (v : Int32) : qs σ j k v j k = v := by simp [qs_at]
theorem qs_slot (σ : qx_S) (j k : Nat) (v : Int32) {m : Nat} (h : m ≠ k) : qs σ j k v j m = σ j m := by simp [qs_at, h]
def qf {α : Type} (f : Nat → α → α) (a : α) : Nat → α
  | 0 => a
  | n + 1 => f n (qf f a n)
def qsum (f : Nat → Int32) : Nat → Int32
  | 0 => 0
  | n + 1 => qsum f n + f n
def qcnt (p : Nat → Prop) [DecidablePred p] : Nat → Int32
  | 0 => 0
  | n + 1 => if p n then qcnt p n + 1 else qcnt p n
def oI (o : Option Nat) : Int32 := match o with
  | none => -4
  | some g => nI g
theorem qfind_some {p : Nat → Bool} {n i : Nat} (hi : i < n) (hp : p i = true) (hb : ∀ g, g < i → p g = false) : (List.range n).find? p = some i := by
  rw [List.find?_range_eq_some]
  exact ⟨hp, List.mem_range.mpr hi, fun j hj => by simp [hb j hj]⟩
theorem qfind_none {p : Nat → Bool} {n : Nat} (hb : ∀ g, g < n → p g = false) : (List.range n).find? p = none := by
  rw [List.find?_eq_none]
  intro x hx
  simp [hb x (List.mem_range.mp hx)]
theorem qfind_is {p : Nat → Bool} {n i : Nat} (h : (List.range n).find? p = some i) : i < n ∧ p i = true ∧ ∀ g, g < i → p g = false := by
  rw [List.find?_range_eq_some] at h
  refine ⟨List.mem_range.mp h.2.1, h.1, fun g hg => ?_⟩
  have := h.2.2 g hg
  simpa using this
theorem qx_top {K : qx_K} {F : qx_F} {sh : qx_H} {σ : qx_S} {pc : Nat} {ls : List (Option Value)} {st : List Value} {x z : Int32} (h : x = z) (kk : qx_X K F sh σ pc ls (.int z :: st)) : qx_X K F sh σ pc ls (.int x :: st) := by rw [h]; exact kk
theorem qx_in2 {x : Int32} {k : Nat} (hk : k < 2 ^ 31) (h1 : 0 ≤ x) (h2 : x ≤ nI k) : ∃ j, j ≤ k ∧ x = nI j :=
  nI_of2 (M := nI k) (nI_toInt hk) (Int32.not_lt.mpr h1) h2
theorem qx_l_forget {arr : Array Slot} {n : Nat} {ls : List (Option Value)} (k : Nat) (h : qx_l arr n ls) : qx_l arr n (ls.set k none) := by
  have key : ∀ (i : Nat) (v : Value), (ls.set k none)[i]? = some (some v) → ls[i]? = some (some v) := by
    intro i v hv
    rw [List.getElem?_set] at hv
    by_cases e : k = i
    · rw [if_pos e] at hv
      split at hv <;> simp at hv
    · rwa [if_neg e] at hv
  refine ⟨⟨h.1.1, h.1.2.1, fun q hq => ?_⟩, fun i v hv => h.2.1 i v (key i v hv), by simpa using h.2.2⟩
  obtain ⟨i, v⟩ := q
  exact h.1.2.2 (i, v) (qx_ll_mem.mpr (key i v (qx_ll_mem.mp hq)))
theorem qx_forget {K : qx_K} {F : qx_F} {sh : qx_H} {σ : qx_S} {pc : Nat} {ls : List (Option Value)} {st : List Value} (k : Nat) (h : qx_X K F sh σ pc (ls.set k none) st) : qx_X K F sh σ pc ls st :=
  fun H locs arr hP hD hS hL => h H locs arr hP hD hS (qx_l_forget k hL)
