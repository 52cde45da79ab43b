abbrev xA (h : Nat) (f : Nat → Nat) : Nat → Nat := fun j => if j = 0 then h else f j
theorem lw_ls {arr : Array Slot} {b x y : Nat} {z : Int32} (h : lv_has arr 4 [(3, .int z), (2, .ref y), (1, .ref x), (0, .ref b)]) : qx_l arr 4 [some (.ref b), some (.ref x), some (.ref y), some (.int z)] := by
  refine ⟨⟨h.1, h.2.1, fun q hq => ?_⟩, fun k w hk => ?_, Nat.le_of_ble_eq_true rfl⟩
  · have e : qx_ll [some (.ref b), some (.ref x), some (.ref y), some (.int z)] = [(0, .ref b), (1, .ref x), (2, .ref y), (3, .int z)] := rfl
    rw [e] at hq
    simp only [List.mem_cons, List.not_mem_nil, or_false] at hq
    refine h.2.2 q ?_
    simp only [List.mem_cons, List.not_mem_nil, or_false]
    rcases hq with r | r | r | r
    · exact Or.inr (Or.inr (Or.inr r))
    · exact Or.inr (Or.inr (Or.inl r))
    · exact Or.inr (Or.inl r)
    · exact Or.inl r
  · match k, hk with
    | 0, hk => cases hk; rfl
    | 1, hk => cases hk; rfl
    | 2, hk => cases hk; rfl
    | 3, hk => cases hk; rfl
    | k + 4, hk => simp at hk
theorem qx_N_tbl : ∀ w ∈ qx_N, w ∈ lw_tbl := by
  intro w hw
  simp only [qx_N, List.mem_cons, List.not_mem_nil, or_false] at hw
  rcases hw with rfl | rfl | rfl | rfl | rfl | rfl | rfl | rfl | rfl | rfl | rfl | rfl | rfl | rfl | rfl | rfl | rfl | rfl | rfl | rfl | rfl
  · exact List.mem_of_getElem? (i := 176) (by decide +kernel)
  · exact List.mem_of_getElem? (i := 134) (by decide +kernel)
  · exact List.mem_of_getElem? (i := 130) (by decide +kernel)
  · exact List.mem_of_getElem? (i := 103) (by decide +kernel)
  · exact List.mem_of_getElem? (i := 142) (by decide +kernel)
  · exact List.mem_of_getElem? (i := 140) (by decide +kernel)
  · exact List.mem_of_getElem? (i := 64) (by decide +kernel)
  · exact List.mem_of_getElem? (i := 131) (by decide +kernel)
  · exact List.mem_of_getElem? (i := 67) (by decide +kernel)
  · exact List.mem_of_getElem? (i := 105) (by decide +kernel)
  · exact List.mem_of_getElem? (i := 63) (by decide +kernel)
  · exact List.mem_of_getElem? (i := 107) (by decide +kernel)
  · exact List.mem_of_getElem? (i := 110) (by decide +kernel)
  · exact List.mem_of_getElem? (i := 102) (by decide +kernel)
  · exact List.mem_of_getElem? (i := 62) (by decide +kernel)
  · exact List.mem_of_getElem? (i := 66) (by decide +kernel)
  · exact List.mem_of_getElem? (i := 570) (by decide +kernel)
  · exact List.mem_of_getElem? (i := 571) (by decide +kernel)
  · exact List.mem_of_getElem? (i := 338) (by decide +kernel)
  · exact List.mem_of_getElem? (i := 235) (by decide +kernel)
  · exact List.mem_of_getElem? (i := 561) (by decide +kernel)
theorem qx_w_k {ad : Nat → Nat} {cA : Nat → ClassId} {sh : qx_H} {σ : qx_S} {k : Nat} {p : Nat × va_E} (h : (qx_w ad cA sh σ)[k]? = some p) : k < sh.length ∧ p.1 = ad k := by
  simp only [qx_w, List.getElem?_mapIdx] at h
  cases hq : sh[k]? with
  | none => rw [hq] at h; cases h
  | some q =>
    rw [hq] at h
    have e : qx_c ad cA σ k q = p := by simpa using h
    refine ⟨(List.getElem?_eq_some_iff.mp hq).1, ?_⟩
    rw [← e]
    cases q <;> rfl
theorem qx_w_ex (ad : Nat → Nat) (cA : Nat → ClassId) {sh : qx_H} (σ : qx_S) {k : Nat} (h : k < sh.length) : ∃ e, (qx_w ad cA sh σ)[k]? = some (ad k, e) := by
  have hk : (qx_w ad cA sh σ)[k]? = some (qx_c ad cA σ k sh[k]) := by
    simp [qx_w, List.getElem?_mapIdx, h]
  have h2 := (qx_w_k hk).2
  exact ⟨_, by rw [hk]; exact congrArg some (Prod.ext h2 rfl)⟩
theorem qx_w_len (ad : Nat → Nat) (cA : Nat → ClassId) (sh : qx_H) (σ : qx_S) : (qx_w ad cA sh σ).length = sh.length := by simp [qx_w]
theorem va_P_l {D : va_G} {w1 w2 : va_W} {H : Heap} (h : va_P D vwCl (w1 ++ w2) H) : va_P D vwCl w1 H := fun k q hk => h k q (by
  rw [List.getElem?_append_left (List.getElem?_eq_some_iff.mp hk).1]; exact hk)
theorem va_P_r {D : va_G} {w1 w2 : va_W} {H : Heap} (h : va_P D vwCl (w1 ++ w2) H) : va_P D vwCl w2 H := fun k q hk => h (w1.length + k) q (by
  rw [List.getElem?_append_right (by omega), Nat.add_sub_cancel_left]; exact hk)
theorem nx_rng (rest : va_W) (x : Nat × va_E) : (List.range rest.length).map (fun i => (rest ++ [x])[i]?) = rest.map some := by
  apply List.ext_getElem?
  intro i
  rw [List.getElem?_map, List.getElem?_map]
  by_cases h : i < rest.length
  · rw [List.getElem?_range h]
    simp [List.getElem?_append_left h, h]
  · rw [List.getElem?_eq_none (by simp; omega), List.getElem?_eq_none (by omega)]
    rfl
/-- addresses apart, out of the worlds at the start -/
theorem lx_D_of {K : qx_K} {l : Launch} {D : va_G} {aC aM : Nat → Nat} {cC cM : Nat → ClassId} {tt : Nat → Nat} (hD : va_D (lA K) (qx_w aC cC shC iC ++ qx_w aM cM shM iM)) :
    lx_D K (l, D, aC, cC, (fun q => ∃ j, j < 46 ∧ q = aC j), tt, aM, cM, (fun q => ∃ j, j < 10 ∧ q = aM j)) := by
  have hC : ∀ j, j < 46 → ∃ e, (qx_w aC cC shC iC ++ qx_w aM cM shM iM)[j]? = some (aC j, e) := fun j hj => by
    obtain ⟨e, he⟩ := qx_w_ex aC cC (sh := shC) iC hj
    exact ⟨e, by rw [List.getElem?_append_left (by rw [qx_w_len]; exact hj)]; exact he⟩
  have hM : ∀ j, j < 10 → ∃ e, (qx_w aC cC shC iC ++ qx_w aM cM shM iM)[46 + j]? = some (aM j, e) := fun j hj => by
    obtain ⟨e, he⟩ := qx_w_ex aM cM (sh := shM) iM hj
    refine ⟨e, ?_⟩
    have hl : (qx_w aC cC shC iC).length = 46 := by rw [qx_w_len]; rfl
    rw [List.getElem?_append_right (by omega), hl, Nat.add_sub_cancel_left]
    exact he
  have iCC : ∀ i j, i < 46 → j < 46 → aC i = aC j → i = j := fun i j hi hj e => by
    obtain ⟨e1, h1⟩ := hC i hi
    obtain ⟨e2, h2⟩ := hC j hj
    exact hD.1 i j _ _ h1 h2 e
  have iMM : ∀ i j, i < 10 → j < 10 → aM i = aM j → i = j := fun i j hi hj e => by
    obtain ⟨e1, h1⟩ := hM i hi
    obtain ⟨e2, h2⟩ := hM j hj
    have := hD.1 (46 + i) (46 + j) _ _ h1 h2 e
    omega
  have iCM : ∀ i j, i < 46 → j < 10 → aC i ≠ aM j := fun i j hi hj e => by
    obtain ⟨e1, h1⟩ := hC i hi
    obtain ⟨e2, h2⟩ := hM j hj
    have := hD.1 i (46 + j) _ _ h1 h2 e
    omega
  refine ⟨fun σ => ⟨fun i j p q hp hq e => ?_, fun k q hq => ?_⟩, fun τ => ⟨fun i j p q hp hq e => ?_, fun k q hq => ?_⟩, fun q hq => ?_, fun q hq => ?_, fun τ k q hq hA => ?_, fun σ k q hq hA => ?_⟩
  · obtain ⟨h1, h2⟩ := qx_w_k hp
    obtain ⟨h3, h4⟩ := qx_w_k hq
    exact iCC i j h1 h3 (h2.symm.trans (e.trans h4))
  · obtain ⟨h1, h2⟩ := qx_w_k hq
    exact ⟨k, h1, h2⟩
  · obtain ⟨h1, h2⟩ := qx_w_k hp
    obtain ⟨h3, h4⟩ := qx_w_k hq
    exact iMM i j h1 h3 (h2.symm.trans (e.trans h4))
  · obtain ⟨h1, h2⟩ := qx_w_k hq
    exact ⟨k, h1, h2⟩
  · obtain ⟨j, hj, rfl⟩ := hq
    obtain ⟨e, he⟩ := hC j hj
    exact hD.2 j _ he
  · obtain ⟨j, hj, rfl⟩ := hq
    obtain ⟨e, he⟩ := hM j hj
    exact hD.2 (46 + j) _ he
  · obtain ⟨h1, h2⟩ := qx_w_k hq
    obtain ⟨j, hj, e⟩ := hA
    exact iCM j k hj h1 (e.symm.trans h2)
  · obtain ⟨h1, h2⟩ := qx_w_k hq
    obtain ⟨j, hj, e⟩ := hA
    exact iCM k j h1 hj (h2.symm.trans e)
