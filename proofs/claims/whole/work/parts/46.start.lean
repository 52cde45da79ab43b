abbrev xA (h : Nat) (f : Nat → Nat) : Nat → Nat := fun j => if j = 0 then h else f j
theorem lw_ls {arr : Array Slot} {b x y : Nat} {z : Int32} (h : lv_has arr 4 [(3, .int z), (2, .ref y), (1, .ref x), (0, .ref b)]) : qx_l arr 4 [some (.ref b), some (.ref x), some (.ref y), some (.int z)] := by
  refine ⟨⟨h.1, h.2.1, fun q hq => ?_⟩, fun k w hk => ?_, by decide⟩
  · have e : qx_ll [some (.ref b), some (.ref x), some (.ref y), some (.int z)] = [(0, .ref b), (1, .ref x), (2, .ref y), (3, .int z)] := rfl
    rw [e] at hq
    simp only [List.mem_cons, List.not_mem_nil, or_false] at hq
    refine h.2.2 q ?_
    simp only [List.mem_cons, List.not_mem_nil, or_false]
    rcases hq with r | r | r | r
    · exact Or.inr (Or.inr (Or.inr r))
    · exact Or.inr (Or.inr (Or.inl r))
    · exact Or.inr (Or.inl r)
    · exact Or.inl r
  · match k, hk with
    | 0, hk => cases hk; rfl
    | 1, hk => cases hk; rfl
    | 2, hk => cases hk; rfl
    | 3, hk => cases hk; rfl
    | k + 4, hk => simp at hk
theorem qx_N_tbl : ∀ w ∈ qx_N, w ∈ lw_tbl := by
  intro w hw
  simp only [qx_N, List.mem_cons, List.not_mem_nil, or_false] at hw
  rcases hw with rfl | rfl | rfl | rfl | rfl | rfl | rfl | rfl | rfl | rfl | rfl | rfl | rfl | rfl | rfl | rfl | rfl | rfl | rfl | rfl | rfl
  · exact List.mem_of_getElem? (i := 176) (by decide +kernel)
  · exact List.mem_of_getElem? (i := 134) (by decide +kernel)
  · exact List.mem_of_getElem? (i := 130) (by decide +kernel)
  · exact List.mem_of_getElem? (i := 103) (by decide +kernel)
  · exact List.mem_of_getElem? (i := 142) (by decide +kernel)
  · exact List.mem_of_getElem? (i := 140) (by decide +kernel)
  · exact List.mem_of_getElem? (i := 64) (by decide +kernel)
  · exact List.mem_of_getElem? (i := 131) (by decide +kernel)
  · exact List.mem_of_getElem? (i := 67) (by decide +kernel)
  · exact List.mem_of_getElem? (i := 105) (by decide +kernel)
  · exact List.mem_of_getElem? (i := 63) (by decide +kernel)
  · exact List.mem_of_getElem? (i := 107) (by decide +kernel)
  · exact List.mem_of_getElem? (i := 110) (by decide +kernel)
  · exact List.mem_of_getElem? (i := 102) (by decide +kernel)
  · exact List.mem_of_getElem? (i := 62) (by decide +kernel)
  · exact List.mem_of_getElem? (i := 66) (by decide +kernel)
  · exact List.mem_of_getElem? (i := 570) (by decide +kernel)
  · exact List.mem_of_getElem? (i := 571) (by decide +kernel)
  · exact List.mem_of_getElem? (i := 338) (by decide +kernel)
  · exact List.mem_of_getElem? (i := 235) (by decide +kernel)
  · exact List.mem_of_getElem? (i := 561) (by decide +kernel)
theorem qx_w_k {ad : Nat → Nat} {cA : Nat → ClassId} {sh : qx_H} {σ : qx_S} {k : Nat} {p : Nat × va_E} (h : (qx_w ad cA sh σ)[k]? = some p) : k < sh.length ∧ p.1 = ad k := by
  simp only [qx_w, List.getElem?_mapIdx] at h
  cases hq : sh[k]? with
  | none => rw [hq] at h; cases h
  | some q =>
    rw [hq] at h
    have e : qx_c ad cA σ k q = p := by simpa using h
    refine ⟨(List.getElem?_eq_some_iff.mp hq).1, ?_⟩
    rw [← e]
    cases q <;> rfl
theorem qx_w_ex (ad : Nat → Nat) (cA : Nat → ClassId) {sh : qx_H} (σ : qx_S) {k : Nat} (h : k < sh.length) : ∃ e, (qx_w ad cA sh σ)[k]? = some (ad k, e) := by
  have hk : (qx_w ad cA sh σ)[k]? = some (qx_c ad cA σ k sh[k]) := by
    simp [qx_w, List.getElem?_mapIdx, h]
  have h2 := (qx_w_k hk).2
  exact ⟨_, by rw [hk]; exact congrArg some (Prod.ext h2 rfl)⟩
theorem qx_w_len (ad : Nat → Nat) (cA : Nat → ClassId) (sh : qx_H) (σ : qx_S) : (qx_w ad cA sh σ).length = sh.length := by simp [qx_w]
theorem va_P_l {D : va_G} {w1 w2 : va_W} {H : Heap} (h : va_P D vwCl (w1 ++ w2) H) : va_P D vwCl w1 H := fun k q hk => h k q (by
  rw [List.getElem?_append_left (List.getElem?_eq_some_iff.mp hk).1]; exact hk)
theorem va_P_r {D : va_G} {w1 w2 : va_W} {H : Heap} (h : va_P D vwCl (w1 ++ w2) H) : va_P D vwCl w2 H := fun k q hk => h (w1.length + k) q (by
  rw [List.getElem?_append_right (by omega), Nat.add_sub_cancel_left]; exact hk)
theorem nx_rng (rest : va_W) (x : Nat × va_E) : (List.range rest.length).map (fun i => (rest ++ [x])[i]?) = rest.map some := by
  apply List.ext_getElem?
  intro i
  rw [List.getElem?_map, List.getElem?_map]
  by_cases h : i < rest.length
  · rw [List.getElem?_range h]
    simp [List.getElem?_append_left h, h]
  · rw [List.getElem?_eq_none (by simp; omega), List.getElem?_eq_none (by omega)]
    rfl
/-- addresses apart, out of the worlds at the start -/
theorem lx_D_of {K : qx_K} {l : Launch} {D : va_G} {aC aM : Nat → Nat} {cC cM : Nat → ClassId} {tt : Nat → Nat} (hD : va_D (lA K) (qx_w aC cC shC iC ++ qx_w aM cM shM iM)) :
    lx_D K (l, D, aC, cC, (fun q => ∃ j, j < 46 ∧ q = aC j), tt, aM, cM, (fun q => ∃ j, j < 10 ∧ q = aM j)) := by
  have hC : ∀ j, j < 46 → ∃ e, (qx_w aC cC shC iC ++ qx_w aM cM shM iM)[j]? = some (aC j, e) := fun j hj => by
    obtain ⟨e, he⟩ := qx_w_ex aC cC (sh := shC) iC hj
    exact ⟨e, by rw [List.getElem?_append_left (by rw [qx_w_len]; exact hj)]; exact he⟩
  have hM : ∀ j, j < 10 → ∃ e, (qx_w aC cC shC iC ++ qx_w aM cM shM iM)[46 + j]? = some (aM j, e) := fun j hj => by
    obtain ⟨e, he⟩ := qx_w_ex aM cM (sh := shM) iM hj
    refine ⟨e, ?_⟩
    have hl : (qx_w aC cC shC iC).length = 46 := by rw [qx_w_len]; rfl
    rw [List.getElem?_append_right (by omega), hl, Nat.add_sub_cancel_left]
    exact he
  have iCC : ∀ i j, i < 46 → j < 46 → aC i = aC j → i = j := fun i j hi hj e => by
    obtain ⟨e1, h1⟩ := hC i hi
    obtain ⟨e2, h2⟩ := hC j hj
    exact hD.1 i j _ _ h1 h2 e
  have iMM : ∀ i j, i < 10 → j < 10 → aM i = aM j → i = j := fun i j hi hj e => by
    obtain ⟨e1, h1⟩ := hM i hi
    obtain ⟨e2, h2⟩ := hM j hj
    have := hD.1 (46 + i) (46 + j) _ _ h1 h2 e
    omega
  have iCM : ∀ i j, i < 46 → j < 10 → aC i ≠ aM j := fun i j hi hj e => by
    obtain ⟨e1, h1⟩ := hC i hi
    obtain ⟨e2, h2⟩ := hM j hj
    have := hD.1 i (46 + j) _ _ h1 h2 e
    omega
  refine ⟨fun σ => ⟨fun i j p q hp hq e => ?_, fun k q hq => ?_⟩, fun τ => ⟨fun i j p q hp hq e => ?_, fun k q hq => ?_⟩, fun q hq => ?_, fun q hq => ?_, fun τ k q hq hA => ?_, fun σ k q hq hA => ?_⟩
  · obtain ⟨h1, h2⟩ := qx_w_k hp
    obtain ⟨h3, h4⟩ := qx_w_k hq
    exact iCC i j h1 h3 (by rw [← h2, ← h4]; exact e)
  · obtain ⟨h1, h2⟩ := qx_w_k hq
    exact ⟨k, h1, h2⟩
  · obtain ⟨h1, h2⟩ := qx_w_k hp
    obtain ⟨h3, h4⟩ := qx_w_k hq
    exact iMM i j h1 h3 (by rw [← h2, ← h4]; exact e)
  · obtain ⟨h1, h2⟩ := qx_w_k hq
    exact ⟨k, h1, h2⟩
  · obtain ⟨j, hj, rfl⟩ := hq
    obtain ⟨e, he⟩ := hC j hj
    exact hD.2 j _ he
  · obtain ⟨j, hj, rfl⟩ := hq
    obtain ⟨e, he⟩ := hM j hj
    exact hD.2 (46 + j) _ he
  · obtain ⟨h1, h2⟩ := qx_w_k hq
    obtain ⟨j, hj, e⟩ := hA
    exact iCM j k hj h1 (by rw [← h2]; exact e.symm)
  · obtain ⟨h1, h2⟩ := qx_w_k hq
    obtain ⟨j, hj, e⟩ := hA
    exact iCM k j h1 hj (by rw [← h2]; exact e)
set_option maxRecDepth 100000 in
set_option maxHeartbeats 8000000 in
theorem lw_statics {s : State} {b : Nat} (hts : ∀ w ∈ lw_tbl, w.before #[Value.ref b] s = true) (hgv : (Jvm.Cond.and given_1 narrow_1).before #[Value.ref b] s = true) : ∃ tt : Nat → Nat, qx_Z (qx_zC tt) (fun q => s.heap.size ≤ q) s s.heap := by
  have hs := flat_of_before _ hgv
  have hA : ∀ a : Nat, a < s.heap.size → ¬ (fun q : Nat => s.heap.size ≤ q) a := fun a h => Nat.not_le.mpr h
  have hini : (Cond.initialized "NightStalls").before #[Value.ref b] s = true := hts _ (List.mem_of_getElem? (i := 39) (by decide +kernel))
  obtain ⟨t0, e0, hT0⟩ := va_Tof (args := #[Value.ref b]) (s := s) (tm := (.static "NightStalls" "PLACE_FACT_MOST" "[I")) (ty := .int) (N := 3) (f := fun j => .int (qz0 j)) (A := fun q => s.heap.size ≤ q) (by decide) (hs (.arrayOf (.static "NightStalls" "PLACE_FACT_MOST" "[I") .int) (by decide +kernel)) (va_eqt (z := 3) (hs (.eq (.length (.static "NightStalls" "PLACE_FACT_MOST" "[I")) (.int 3)) (by decide +kernel))) (fun j hj => by
    rcases (show j = 0 ∨ j = 1 ∨ j = 2 by omega) with rfl | rfl | rfl
    · exact va_eqt (z := 99) (hs (.eq (.elem (.static "NightStalls" "PLACE_FACT_MOST" "[I") (.int 0)) (.int 99)) (by decide +kernel))
    · exact va_eqt (z := 2) (hs (.eq (.elem (.static "NightStalls" "PLACE_FACT_MOST" "[I") (.int 1)) (.int 2)) (by decide +kernel))
    · exact va_eqt (z := 1) (hs (.eq (.elem (.static "NightStalls" "PLACE_FACT_MOST" "[I") (.int 2)) (.int 1)) (by decide +kernel))) hA
  have hZ0 := va_Zof (A := fun q => s.heap.size ≤ q) (hts (.laysStatic "NightStalls" "PLACE_FACT_MOST" "[I") (List.mem_of_getElem? (i := 237) (by decide +kernel))) hini e0 hA
  obtain ⟨t1, e1, hT1⟩ := va_Tof (args := #[Value.ref b]) (s := s) (tm := (.static "NightStalls" "RULE_MOST" "[I")) (ty := .int) (N := 2) (f := fun j => .int (qz1 j)) (A := fun q => s.heap.size ≤ q) (by decide) (hs (.arrayOf (.static "NightStalls" "RULE_MOST" "[I") .int) (by decide +kernel)) (va_eqt (z := 2) (hs (.eq (.length (.static "NightStalls" "RULE_MOST" "[I")) (.int 2)) (by decide +kernel))) (fun j hj => by
    rcases (show j = 0 ∨ j = 1 by omega) with rfl | rfl
    · exact va_eqt (z := 3) (hs (.eq (.elem (.static "NightStalls" "RULE_MOST" "[I") (.int 0)) (.int 3)) (by decide +kernel))
    · exact va_eqt (z := 50) (hs (.eq (.elem (.static "NightStalls" "RULE_MOST" "[I") (.int 1)) (.int 50)) (by decide +kernel))) hA
  have hZ1 := va_Zof (A := fun q => s.heap.size ≤ q) (hts (.laysStatic "NightStalls" "RULE_MOST" "[I") (List.mem_of_getElem? (i := 274) (by decide +kernel))) hini e1 hA
  obtain ⟨t2, e2, hT2⟩ := va_Tof (args := #[Value.ref b]) (s := s) (tm := (.static "NightStalls" "TRAIT_LEAST" "[I")) (ty := .int) (N := 6) (f := fun j => .int (qz2 j)) (A := fun q => s.heap.size ≤ q) (by decide) (hs (.arrayOf (.static "NightStalls" "TRAIT_LEAST" "[I") .int) (by decide +kernel)) (va_eqt (z := 6) (hs (.eq (.length (.static "NightStalls" "TRAIT_LEAST" "[I")) (.int 6)) (by decide +kernel))) (fun j hj => by
    rcases (show j = 0 ∨ j = 1 ∨ j = 2 ∨ j = 3 ∨ j = 4 ∨ j = 5 by omega) with rfl | rfl | rfl | rfl | rfl | rfl
    · exact va_eqt (z := 0) (hs (.eq (.elem (.static "NightStalls" "TRAIT_LEAST" "[I") (.int 0)) (.int 0)) (by decide +kernel))
    · exact va_eqt (z := 0) (hs (.eq (.elem (.static "NightStalls" "TRAIT_LEAST" "[I") (.int 1)) (.int 0)) (by decide +kernel))
    · exact va_eqt (z := 0) (hs (.eq (.elem (.static "NightStalls" "TRAIT_LEAST" "[I") (.int 2)) (.int 0)) (by decide +kernel))
    · exact va_eqt (z := 1) (hs (.eq (.elem (.static "NightStalls" "TRAIT_LEAST" "[I") (.int 3)) (.int 1)) (by decide +kernel))
    · exact va_eqt (z := 1) (hs (.eq (.elem (.static "NightStalls" "TRAIT_LEAST" "[I") (.int 4)) (.int 1)) (by decide +kernel))
    · exact va_eqt (z := 0) (hs (.eq (.elem (.static "NightStalls" "TRAIT_LEAST" "[I") (.int 5)) (.int 0)) (by decide +kernel))) hA
  have hZ2 := va_Zof (A := fun q => s.heap.size ≤ q) (hts (.laysStatic "NightStalls" "TRAIT_LEAST" "[I") (List.mem_of_getElem? (i := 287) (by decide +kernel))) hini e2 hA
  obtain ⟨t3, e3, hT3⟩ := va_Tof (args := #[Value.ref b]) (s := s) (tm := (.static "NightStalls" "TRAIT_MOST" "[I")) (ty := .int) (N := 6) (f := fun j => .int (qz3 j)) (A := fun q => s.heap.size ≤ q) (by decide) (hs (.arrayOf (.static "NightStalls" "TRAIT_MOST" "[I") .int) (by decide +kernel)) (va_eqt (z := 6) (hs (.eq (.length (.static "NightStalls" "TRAIT_MOST" "[I")) (.int 6)) (by decide +kernel))) (fun j hj => by
    rcases (show j = 0 ∨ j = 1 ∨ j = 2 ∨ j = 3 ∨ j = 4 ∨ j = 5 by omega) with rfl | rfl | rfl | rfl | rfl | rfl
    · exact va_eqt (z := 5) (hs (.eq (.elem (.static "NightStalls" "TRAIT_MOST" "[I") (.int 0)) (.int 5)) (by decide +kernel))
    · exact va_eqt (z := 3) (hs (.eq (.elem (.static "NightStalls" "TRAIT_MOST" "[I") (.int 1)) (.int 3)) (by decide +kernel))
    · exact va_eqt (z := 30) (hs (.eq (.elem (.static "NightStalls" "TRAIT_MOST" "[I") (.int 2)) (.int 30)) (by decide +kernel))
    · exact va_eqt (z := 9) (hs (.eq (.elem (.static "NightStalls" "TRAIT_MOST" "[I") (.int 3)) (.int 9)) (by decide +kernel))
    · exact va_eqt (z := 20) (hs (.eq (.elem (.static "NightStalls" "TRAIT_MOST" "[I") (.int 4)) (.int 20)) (by decide +kernel))
    · exact va_eqt (z := 99) (hs (.eq (.elem (.static "NightStalls" "TRAIT_MOST" "[I") (.int 5)) (.int 99)) (by decide +kernel))) hA
  have hZ3 := va_Zof (A := fun q => s.heap.size ≤ q) (hts (.laysStatic "NightStalls" "TRAIT_MOST" "[I") (List.mem_of_getElem? (i := 289) (by decide +kernel))) hini e3 hA
  refine ⟨fun i => if i = 0 then t0 else if i = 1 then t1 else if i = 2 then t2 else t3, fun q hq => ?_⟩
  simp only [qx_zC, List.mem_cons, List.not_mem_nil, or_false] at hq
  rcases hq with rfl | rfl | rfl | rfl
  · exact ⟨hZ0, hT0⟩
  · exact ⟨hZ1, hT1⟩
  · exact ⟨hZ2, hT2⟩
  · exact ⟨hZ3, hT3⟩
theorem lw_known {s : State} {b : Nat} (hW : ∀ w ∈ qx_W, w.before #[Value.ref b] s = true) : ∃ D : va_G, va_K D vwCl [] s := by
  obtain ⟨k0, j0, hk0⟩ := u_known (C := RX0) (T := TX0) (N := 7) (n := 7) hW hiX0 (hW _ qw_96)
  obtain ⟨k1, j1, hk1⟩ := u_known (C := RX1) (T := TX1) (N := 10) (n := 10) hW hiX1 (hW _ qw_90)
  obtain ⟨k2, j2, hk2⟩ := u_known (C := RX2) (T := TX2) (N := 7) (n := 7) hW hiX2 (hW _ qw_165)
  obtain ⟨k3, j3, hk3⟩ := u_known (C := RX3) (T := TX3) (N := 7) (n := 7) hW hiX3 (hW _ qw_56)
  obtain ⟨k4, j4, hk4⟩ := u_known (C := RX4) (T := TX4) (N := 6) (n := 6) hW hiX4 (hW _ qw_48)
  obtain ⟨k5, j5, hk5⟩ := u_known (C := RX5) (T := TX5) (N := 13) (n := 13) hW hiX5 (hW _ qw_577)
  refine ⟨(fun k => if k = 0 then k0 else if k = 1 then k1 else if k = 2 then k2 else if k = 3 then k3 else if k = 4 then k4 else k5, fun k => if k = 0 then j0 else if k = 1 then j1 else if k = 2 then j2 else if k = 3 then j3 else if k = 4 then j4 else j5), ?_, fun k q h => by simp at h⟩
  intro k q hq
  match k, hq with
  | 0, hq => cases hq; exact hk0
  | 1, hq => cases hq; exact hk1
  | 2, hq => cases hq; exact hk2
  | 3, hq => cases hq; exact hk3
  | 4, hq => cases hq; exact hk4
  | 5, hq => cases hq; exact hk5
  | k + 6, hq => simp [vwCl] at hq
set_option maxRecDepth 100000 in
set_option maxHeartbeats 8000000 in
theorem whole_open {p : Program} {e : Env} {s : State} {m : MethodId} {below : List Frame} {meth : Method} {c : Code} (l : Launch) {b L : Nat} {xs : Nat → Int32} (R : qx_S → qx_S → Prop) (hR : LawOK R) (h0 : R iC iM) (hL : L ≤ 3584) (C0 : lw_At p s m meth c b L xs) : W p l e room_1 s m #[Value.ref b] below meth c s.heap [] 0 0 (lw_Z below #[Value.ref b] s) (entryFrame m ([Value.ref b] : List Value).toArray 4) := by
  obtain ⟨hx, hb, hr, hml, hown, hts, hX, hbl, hlocks, hgv⟩ := C0
  have hA : ∀ q : Nat, s.heap.size ≤ q → (fun q : Nat => s.heap.size ≤ q) q := fun _ h => h
  have hW : ∀ w ∈ qx_W, w.before #[Value.ref b] s = true := fun w hw => hts w (List.mem_filter.mp hw).1
  have hN : ∀ w ∈ qx_N, va_Nw w s := by
    intro w hw
    have hk := qx_N_ok w hw
    have h2 : w ∈ lw_tbl := qx_N_tbl w hw
    have h3 := hts w h2
    cases w <;> first | exact va_Nw.of rfl h3 | (exact absurd hk (by simp [qx_Nk]))
  obtain ⟨tt, hZ⟩ := lw_statics hts hgv
  obtain ⟨D, hK⟩ := lw_known hW
  have hS : va_S (fun q : Nat => s.heap.size ≤ q) s.heap s.heap [] := va_S.rf
  have hP : va_P D vwCl [] s.heap := fun k q h => by simp at h
  have hD : va_D (fun q : Nat => s.heap.size ≤ q) [] := ⟨fun i j p q h => by simp at h, fun k q h => by simp at h⟩
  have hl := lv_entry ([.ref b]) (n := 4) (Nat.le_of_ble_eq_true rfl)
  rw [lg_entry_eq]
  generalize (lg_sl ([.ref b]) ++ List.replicate (4 - (lg_sl ([.ref b])).length) Slot.unset).toArray = ls at hl ⊢
  have hl : lv_has ls 4 [(0, .ref b)] := hl
  refine va_new (ci := 4) (fs := [.null, .null, .null, .null, .null, .int 0]) (C := RX4) (T := TX4) (N := 6) hx hb hW hiX4 tyX4 tyX4_ok hown (hW _ qw_47) (hW _ qw_48) (hW _ qw_39) hK hP hD hS hA rfl (by decide +kernel) (Nat.le_of_ble_eq_true rfl) (Nat.le_of_ble_eq_true rfl) dL_law_0 (fun x0 H hP hD hS => ?_)
  refine lv_dup hx hb dL_law_3 rfl ?_
  have hPc := hP.sub (ws' := [(x0, .inr (4, [.null, .null, .null, .null, .null, .int 0]))]) [0] rfl
  have hDc := hD.sub (ws' := [(x0, .inr (4, [.null, .null, .null, .null, .null, .int 0]))]) [0] (by decide) rfl
  have hFc := va_free (wc := [(x0, .inr (4, [.null, .null, .null, .null, .null, .int 0]))]) hD hS hA [0] rfl
  refine va_callv (va_runI (As := []) (rest := [.ref x0]) ⟨hx, hb, hml, hown, hW⟩ (c_X4_init l D x0 H.size) (cwI 0 hW (qx_gC qw_51) rfl rfl rfl (hW _ qw_39) (hW _ qw_49) (hW _ qw_50) rfl (by decide +kernel) ⟨Nat.le_of_ble_eq_true rfl, Nat.le_of_ble_eq_true rfl⟩) ⟨fun a U g mk q => by obtain ⟨q0, q1, qP, qK, qD⟩ := q; exact ⟨q0, q1, qP, va_K.moved (u := U) (U := U.calling g mk a) (Vm.Alike.refl U.vm) qK, qD⟩, fun U hU hW => ⟨rfl, by rw [hU], by rw [hU]; exact hPc, va_K.moved hW.alike hK, hDc.weaken (fun _ _ _ _ => trivial)⟩⟩ rfl rfl hl.1 rfl (lv_room (Nat.le_of_ble_eq_true rfl)) dL_law_4 ⟨Nat.le_of_ble_eq_true rfl, Nat.le_of_ble_eq_true rfl⟩) hS (fun q _ h => hFc q h) hFc (fun u t H1 locs ht hvm hw hB hz1 hk1 hS => ?_)
  obtain ⟨hP1, hK1, hD1⟩ := hB
  rw [ht] at hP1
  have hK1 := va_K.moved hvm.symm hK1
  obtain ⟨hP, hD⟩ := va_join (wr := []) (w1 := qx_w (xA x0 u.1) u.2 shC iC) hP hD [0] [] rfl rfl (by decide) (by decide) hk1 hFc hP1 hD1
  have hP : va_P D vwCl (qx_w (xA x0 u.1) u.2 shC iC) H1 := hP
  have hD : va_D (fun q : Nat => s.heap.size ≤ q) (qx_w (xA x0 u.1) u.2 shC iC) := hD
  generalize H1 = H at hP hS ⊢
  refine lv_astore_n (lv' := [(1, .ref x0), (0, .ref b)]) hx hb dL_law_7 rfl hl (by decide) rfl (fun ls hl => ?_)
  refine va_new (ci := 5) (fs := [.null, .null, .null, .null, .null, .null, .int 0, .null, .null, .null, .int 0, .int 0, .int 0]) (C := RX5) (T := TX5) (N := 13) hx hb hW hiX5 tyX5 tyX5_ok hown (hW _ qw_576) (hW _ qw_577) (hW _ qw_44) hK hP hD hS hA rfl (by decide +kernel) (Nat.le_of_ble_eq_true rfl) (Nat.le_of_ble_eq_true rfl) dL_law_8 (fun m0 H hP hD hS => ?_)
  refine lv_dup hx hb dL_law_11 rfl ?_
  have hlen : (qx_w (xA x0 u.1) u.2 shC iC).length = 46 := by rw [qx_w_len]; rfl
  have hat : (qx_w (xA x0 u.1) u.2 shC iC ++ [(m0, .inr (5, [.null, .null, .null, .null, .null, .null, .int 0, .null, .null, .null, .int 0, .int 0, .int 0]))])[46]? = some (m0, .inr (5, [.null, .null, .null, .null, .null, .null, .int 0, .null, .null, .null, .int 0, .int 0, .int 0])) := by rw [List.getElem?_append_right (by omega), hlen]; rfl
  have hPc : va_P D vwCl [(m0, .inr (5, [.null, .null, .null, .null, .null, .null, .int 0, .null, .null, .null, .int 0, .int 0, .int 0]))] H := hP.sub [46] (by simp only [List.filterMap_cons, hat, List.filterMap_nil])
  have hC1 : [46].map (fun i => (qx_w (xA x0 u.1) u.2 shC iC ++ [(m0, .inr (5, [.null, .null, .null, .null, .null, .null, .int 0, .null, .null, .null, .int 0, .int 0, .int 0]))])[i]?) = [(m0, .inr (5, [.null, .null, .null, .null, .null, .null, .int 0, .null, .null, .null, .int 0, .int 0, .int 0]))].map some := by simp only [List.map_cons, hat, List.map_nil]
  have hDc : va_D _ [(m0, .inr (5, [.null, .null, .null, .null, .null, .null, .int 0, .null, .null, .null, .int 0, .int 0, .int 0]))] := hD.sub [46] (by decide) hC1
  have hFc := va_free (wc := [(m0, .inr (5, [.null, .null, .null, .null, .null, .null, .int 0, .null, .null, .null, .int 0, .int 0, .int 0]))]) hD hS hA [46] hC1
  have hRr : (List.range 46).map (fun i => (qx_w (xA x0 u.1) u.2 shC iC ++ [(m0, .inr (5, [.null, .null, .null, .null, .null, .null, .int 0, .null, .null, .null, .int 0, .int 0, .int 0]))])[i]?) = (qx_w (xA x0 u.1) u.2 shC iC).map some := by rw [← hlen]; exact nx_rng _ _
  refine va_callv (va_runI (As := []) (rest := [.ref m0]) ⟨hx, hb, hml, hown, hW⟩ (c_X5_init l D m0 H.size) (cwI 0 hW (qx_gC qw_580) rfl rfl rfl (hW _ qw_44) (hW _ qw_578) (hW _ qw_579) rfl (by decide +kernel) ⟨Nat.le_of_ble_eq_true rfl, Nat.le_of_ble_eq_true rfl⟩) ⟨fun a U g mk q => by obtain ⟨q0, q1, qP, qK, qD⟩ := q; exact ⟨q0, q1, qP, va_K.moved (u := U) (U := U.calling g mk a) (Vm.Alike.refl U.vm) qK, qD⟩, fun U hU hW => ⟨rfl, by rw [hU], by rw [hU]; exact hPc, va_K.moved hW.alike hK, hDc.weaken (fun _ _ _ _ => trivial)⟩⟩ rfl rfl hl.1 rfl (lv_room (Nat.le_of_ble_eq_true rfl)) dL_law_12 ⟨Nat.le_of_ble_eq_true rfl, Nat.le_of_ble_eq_true rfl⟩) hS (fun q _ h => hFc q h) hFc (fun v t H1 locs ht hvm hw hB hz1 hk1 hS => ?_)
  obtain ⟨hP2, hK2, hD2⟩ := hB
  rw [ht] at hP2
  have hK2 := va_K.moved hvm.symm hK2
  obtain ⟨hP, hD⟩ := va_join (wr := qx_w (xA x0 u.1) u.2 shC iC) (w1 := qx_w (xA m0 v.1) v.2 shM iM) hP hD [46] (List.range 46) hC1 hRr (by decide) (by decide) hk1 hFc hP2 hD2
  generalize H1 = H at hP hS ⊢
  refine lv_astore_n (lv' := [(2, .ref m0), (1, .ref x0), (0, .ref b)]) hx hb dL_law_15 rfl hl (by decide) rfl (fun ls hl => ?_)
  refine lv_iconst (v := 0) hx hb dL_law_16 (by decide) ?_
  refine lv_istore_n (lv' := [(3, .int 0), (2, .ref m0), (1, .ref x0), (0, .ref b)]) hx hb dL_law_17 rfl hl (by decide) rfl (fun ls hl => ?_)
  have hC : lx_C (p, e, room_1, s, m, #[Value.ref b], below, meth, c, (fun _ => True), 4) (l, D, xA x0 u.1, u.2, (fun q => ∃ j, j < 46 ∧ q = xA x0 u.1 j), tt, xA m0 v.1, v.2, (fun q => ∃ j, j < 10 ∧ q = xA m0 v.1 j)) b L xs := ⟨hx, hb, hml, hown, hW, hr, hlocks, hK1, hK2, hN, hZ, hX, hbl, rfl⟩
  have hDd : lx_D (p, e, room_1, s, m, #[Value.ref b], below, meth, c, (fun _ => True), 4) (l, D, xA x0 u.1, u.2, (fun q => ∃ j, j < 46 ∧ q = xA x0 u.1 j), tt, xA m0 v.1, v.2, (fun q => ∃ j, j < 10 ∧ q = xA m0 v.1 j)) := lx_D_of hD
  refine lw_loop hC hDd ⟨by decide, by decide⟩ hL R hR (L + 1) 0 iC iM (Nat.zero_le L) (by omega) h0 H _ ls (va_P_l hP) (va_P_r hP) hS (lw_ls hl)
