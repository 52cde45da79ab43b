set_option maxRecDepth 100000 in
set_option maxHeartbeats 8000000 in
theorem lw_statics {s : State} {b : Nat} (hts : ∀ w ∈ lw_tbl, w.before #[Value.ref b] s = true) (hgv : (Jvm.Cond.and given_1 narrow_1).before #[Value.ref b] s = true) : ∃ tt : Nat → Nat, qx_Z (qx_zC tt) (fun q => s.heap.size ≤ q) s s.heap := by
  have hs := flat_of_before _ hgv
  have hA : ∀ a : Nat, a < s.heap.size → ¬ (fun q : Nat => s.heap.size ≤ q) a := fun a h => Nat.not_le.mpr h
  have hini : (Cond.initialized "NightStalls").before #[Value.ref b] s = true := hts _ (List.mem_of_getElem? (i := 39) (by decide +kernel))
  obtain ⟨t0, e0, hT0⟩ := va_Tof (args := #[Value.ref b]) (s := s) (tm := (.static "NightStalls" "PLACE_FACT_MOST" "[I")) (ty := .int) (N := 3) (f := fun j => .int (qz0 j)) (A := fun q => s.heap.size ≤ q) (by decide) (hs (.arrayOf (.static "NightStalls" "PLACE_FACT_MOST" "[I") .int) (by decide +kernel)) (va_eqt (z := 3) (hs (.eq (.length (.static "NightStalls" "PLACE_FACT_MOST" "[I")) (.int 3)) (by decide +kernel))) (fun j hj => by
    rcases (show j = 0 ∨ j = 1 ∨ j = 2 by omega) with rfl | rfl | rfl
    · exact va_eqt (z := 99) (hs (.eq (.elem (.static "NightStalls" "PLACE_FACT_MOST" "[I") (.int 0)) (.int 99)) (by decide +kernel))
    · exact va_eqt (z := 2) (hs (.eq (.elem (.static "NightStalls" "PLACE_FACT_MOST" "[I") (.int 1)) (.int 2)) (by decide +kernel))
    · exact va_eqt (z := 1) (hs (.eq (.elem (.static "NightStalls" "PLACE_FACT_MOST" "[I") (.int 2)) (.int 1)) (by decide +kernel))) hA
  have hZ0 := va_Zof (A := fun q => s.heap.size ≤ q) (hts (.laysStatic "NightStalls" "PLACE_FACT_MOST" "[I") (List.mem_of_getElem? (i := 237) (by decide +kernel))) hini e0 hA
  obtain ⟨t1, e1, hT1⟩ := va_Tof (args := #[Value.ref b]) (s := s) (tm := (.static "NightStalls" "RULE_MOST" "[I")) (ty := .int) (N := 2) (f := fun j => .int (qz1 j)) (A := fun q => s.heap.size ≤ q) (by decide) (hs (.arrayOf (.static "NightStalls" "RULE_MOST" "[I") .int) (by decide +kernel)) (va_eqt (z := 2) (hs (.eq (.length (.static "NightStalls" "RULE_MOST" "[I")) (.int 2)) (by decide +kernel))) (fun j hj => by
    rcases (show j = 0 ∨ j = 1 by omega) with rfl | rfl
    · exact va_eqt (z := 3) (hs (.eq (.elem (.static "NightStalls" "RULE_MOST" "[I") (.int 0)) (.int 3)) (by decide +kernel))
    · exact va_eqt (z := 50) (hs (.eq (.elem (.static "NightStalls" "RULE_MOST" "[I") (.int 1)) (.int 50)) (by decide +kernel))) hA
  have hZ1 := va_Zof (A := fun q => s.heap.size ≤ q) (hts (.laysStatic "NightStalls" "RULE_MOST" "[I") (List.mem_of_getElem? (i := 274) (by decide +kernel))) hini e1 hA
  obtain ⟨t2, e2, hT2⟩ := va_Tof (args := #[Value.ref b]) (s := s) (tm := (.static "NightStalls" "TRAIT_LEAST" "[I")) (ty := .int) (N := 6) (f := fun j => .int (qz2 j)) (A := fun q => s.heap.size ≤ q) (by decide) (hs (.arrayOf (.static "NightStalls" "TRAIT_LEAST" "[I") .int) (by decide +kernel)) (va_eqt (z := 6) (hs (.eq (.length (.static "NightStalls" "TRAIT_LEAST" "[I")) (.int 6)) (by decide +kernel))) (fun j hj => by
    rcases (show j = 0 ∨ j = 1 ∨ j = 2 ∨ j = 3 ∨ j = 4 ∨ j = 5 by omega) with rfl | rfl | rfl | rfl | rfl | rfl
    · exact va_eqt (z := 0) (hs (.eq (.elem (.static "NightStalls" "TRAIT_LEAST" "[I") (.int 0)) (.int 0)) (by decide +kernel))
    · exact va_eqt (z := 0) (hs (.eq (.elem (.static "NightStalls" "TRAIT_LEAST" "[I") (.int 1)) (.int 0)) (by decide +kernel))
    · exact va_eqt (z := 0) (hs (.eq (.elem (.static "NightStalls" "TRAIT_LEAST" "[I") (.int 2)) (.int 0)) (by decide +kernel))
    · exact va_eqt (z := 1) (hs (.eq (.elem (.static "NightStalls" "TRAIT_LEAST" "[I") (.int 3)) (.int 1)) (by decide +kernel))
    · exact va_eqt (z := 1) (hs (.eq (.elem (.static "NightStalls" "TRAIT_LEAST" "[I") (.int 4)) (.int 1)) (by decide +kernel))
    · exact va_eqt (z := 0) (hs (.eq (.elem (.static "NightStalls" "TRAIT_LEAST" "[I") (.int 5)) (.int 0)) (by decide +kernel))) hA
  have hZ2 := va_Zof (A := fun q => s.heap.size ≤ q) (hts (.laysStatic "NightStalls" "TRAIT_LEAST" "[I") (List.mem_of_getElem? (i := 287) (by decide +kernel))) hini e2 hA
  obtain ⟨t3, e3, hT3⟩ := va_Tof (args := #[Value.ref b]) (s := s) (tm := (.static "NightStalls" "TRAIT_MOST" "[I")) (ty := .int) (N := 6) (f := fun j => .int (qz3 j)) (A := fun q => s.heap.size ≤ q) (by decide) (hs (.arrayOf (.static "NightStalls" "TRAIT_MOST" "[I") .int) (by decide +kernel)) (va_eqt (z := 6) (hs (.eq (.length (.static "NightStalls" "TRAIT_MOST" "[I")) (.int 6)) (by decide +kernel))) (fun j hj => by
    rcases (show j = 0 ∨ j = 1 ∨ j = 2 ∨ j = 3 ∨ j = 4 ∨ j = 5 by omega) with rfl | rfl | rfl | rfl | rfl | rfl
    · exact va_eqt (z := 5) (hs (.eq (.elem (.static "NightStalls" "TRAIT_MOST" "[I") (.int 0)) (.int 5)) (by decide +kernel))
    · exact va_eqt (z := 3) (hs (.eq (.elem (.static "NightStalls" "TRAIT_MOST" "[I") (.int 1)) (.int 3)) (by decide +kernel))
    · exact va_eqt (z := 30) (hs (.eq (.elem (.static "NightStalls" "TRAIT_MOST" "[I") (.int 2)) (.int 30)) (by decide +kernel))
    · exact va_eqt (z := 9) (hs (.eq (.elem (.static "NightStalls" "TRAIT_MOST" "[I") (.int 3)) (.int 9)) (by decide +kernel))
    · exact va_eqt (z := 20) (hs (.eq (.elem (.static "NightStalls" "TRAIT_MOST" "[I") (.int 4)) (.int 20)) (by decide +kernel))
    · exact va_eqt (z := 99) (hs (.eq (.elem (.static "NightStalls" "TRAIT_MOST" "[I") (.int 5)) (.int 99)) (by decide +kernel))) hA
  have hZ3 := va_Zof (A := fun q => s.heap.size ≤ q) (hts (.laysStatic "NightStalls" "TRAIT_MOST" "[I") (List.mem_of_getElem? (i := 289) (by decide +kernel))) hini e3 hA
  refine ⟨fun i => if i = 0 then t0 else if i = 1 then t1 else if i = 2 then t2 else t3, fun q hq => ?_⟩
  simp only [qx_zC, List.mem_cons, List.not_mem_nil, or_false] at hq
  rcases hq with rfl | rfl | rfl | rfl
  · exact ⟨hZ0, hT0⟩
  · exact ⟨hZ1, hT1⟩
  · exact ⟨hZ2, hT2⟩
  · exact ⟨hZ3, hT3⟩
