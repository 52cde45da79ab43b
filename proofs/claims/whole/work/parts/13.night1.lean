def wN (σ : qx_S) (n : Nat) : Prop := (∀ s, s < 5 → σ 8 s = -4 ∨ ∃ p, p < 8 ∧ σ 8 s = nI p) ∧ (∀ p, p < 8 → ∃ k, k < 3 ∧ σ 2 (p * 3 + 1) = nI k) ∧ σ 14 0 = nI n ∧ n ≤ 20
theorem wN_to {σ τ : qx_S} {n : Nat} (h : wN σ n) (h8 : τ 8 = σ 8) (h2 : τ 2 = σ 2) (h14 : τ 14 = σ 14) : wN τ n := by
  obtain ⟨a, b, c, d⟩ := h
  exact ⟨fun s hs => by rw [h8]; exact a s hs, fun p hp => by rw [h2]; exact b p hp, by rw [h14]; exact c, d⟩
abbrev ix (x : Int32) : Nat := x.toNatClampNeg
abbrev nLine (σ : qx_S) (s : Nat) : Int32 := σ 2 (ix (σ 8 s) * 3 + 1)
abbrev nWorks (σ : qx_S) (s : Nat) : Prop := ¬ σ 8 s = -4 ∧ σ 13 (ix (nLine σ s)) = 0
def nClr (σ : qx_S) : qx_S := qf (fun k τ => qs (qs τ 12 k 0) 13 k 0) (qf (fun s τ => qs (qs (qs (qs τ 8 s (-4)) 9 s 0) 10 s 0) 11 s 0) (qs (qs σ 7 3 0) 14 0 0) 5) 3
def nSet (σ : qx_S) (i : Nat) : qx_S := qf (fun s τ => qs τ 8 s (τ 23 s)) σ i
def nStd (σ : qx_S) (i : Nat) : Int32 := qf (fun s a => if σ 8 s = -4 then a else a + 1) 0 i
def nWatts (σ : qx_S) (w : Int32) (i : Nat) : Int32 := qf (fun s a => if ¬ σ 8 s = -4 ∧ nLine σ s = w then a + σ 6 (s * 6 + 2) else a) 0 i
abbrev nOver (σ : qx_S) (k : Nat) : Prop := ¬ σ 12 k + nWatts σ (nI k) 5 ≤ σ 3 k
def nBill (σ : qx_S) (s : Nat) : Int32 := if σ 8 s = -4 then 0 else σ 2 (ix (σ 8 s) * 3 + 0) + σ 10 s * σ 5 1 / 100
def nFact (σ : qx_S) (s : Nat) (what : Int32) (n : Nat) : Int32 := if what = 6 then σ 8 s else if what = 7 then σ 9 s else if what = 8 then σ 10 s else if what = 9 then gAt σ (nI s) n else if what = 10 then σ 11 s else if what = 11 then nBill σ s else -1
def nSell (σ : qx_S) (s n : Nat) : qx_S := qs (qs (gFeed σ (gFirst σ (nI s) 2 n) (σ 7 3)) 9 s (gFeed σ (gFirst σ (nI s) 2 n) (σ 7 3) 9 s + 1)) 10 s (qs (gFeed σ (gFirst σ (nI s) 2 n) (σ 7 3)) 9 s (gFeed σ (gFirst σ (nI s) 2 n) (σ 7 3) 9 s + 1) 10 s + qs (gFeed σ (gFirst σ (nI s) 2 n) (σ 7 3)) 9 s (gFeed σ (gFirst σ (nI s) 2 n) (σ 7 3) 9 s + 1) 6 (s * 6 + 4))
def nCook (n s : Nat) (a : qx_S × Int32) : qx_S × Int32 := if a.1 11 s ≤ 0 then a else if nWorks a.1 s then (if qs a.1 11 s (a.1 11 s - 1) 11 s = 0 then (nSell (qs a.1 11 s (a.1 11 s - 1)) s n, a.2 + 1) else (qs a.1 11 s (a.1 11 s - 1), a.2)) else a
theorem nCook_a {n s : Nat} {a : qx_S × Int32} (h : a.1 11 s ≤ 0) : nCook n s a = a := if_pos h
theorem nCook_b {n s : Nat} {a : qx_S × Int32} (h : ¬ a.1 11 s ≤ 0) (h2 : ¬ nWorks a.1 s) : nCook n s a = a := by unfold nCook; rw [if_neg h, if_neg h2]
theorem nCook_c {n s : Nat} {a : qx_S × Int32} (h : ¬ a.1 11 s ≤ 0) (h2 : nWorks a.1 s) (h3 : ¬ qs a.1 11 s (a.1 11 s - 1) 11 s = 0) : nCook n s a = (qs a.1 11 s (a.1 11 s - 1), a.2) := by unfold nCook; rw [if_neg h, if_pos h2, if_neg h3]
theorem nCook_d {n s : Nat} {a : qx_S × Int32} (h : ¬ a.1 11 s ≤ 0) (h2 : nWorks a.1 s) (h3 : qs a.1 11 s (a.1 11 s - 1) 11 s = 0) : nCook n s a = (nSell (qs a.1 11 s (a.1 11 s - 1)) s n, a.2 + 1) := by unfold nCook; rw [if_neg h, if_pos h2, if_pos h3]
theorem gFeed_cell {σ : qx_S} {o : Option Nat} {t : Int32} {j : Nat} (h1 : j ≠ 15) (h2 : j ≠ 16) (h3 : j ≠ 20) : gFeed σ o t j = σ j := by
  cases o with
  | none => rfl
  | some g => simp [gFeed, qs_cell, h1, h2, h3]
theorem nSell_cell {σ : qx_S} {s n j : Nat} (h1 : j ≠ 15) (h2 : j ≠ 16) (h3 : j ≠ 20) (h4 : j ≠ 9) (h5 : j ≠ 10) : nSell σ s n j = σ j := by
  unfold nSell
  rw [qs_cell _ _ _ _ h5, qs_cell _ _ _ _ h4, gFeed_cell h1 h2 h3]
theorem nCook_cell {n s : Nat} {a : qx_S × Int32} {j : Nat} (h1 : j ≠ 15) (h2 : j ≠ 16) (h3 : j ≠ 20) (h4 : j ≠ 9) (h5 : j ≠ 10) (h6 : j ≠ 11) : (nCook n s a).1 j = a.1 j := by
  unfold nCook
  split
  · rfl
  · split
    · split
      · show nSell _ s n j = _
        rw [nSell_cell h1 h2 h3 h4 h5, qs_cell _ _ _ _ h6]
      · exact qs_cell _ _ _ _ h6
    · rfl
theorem nCookF_cell {n : Nat} {a : qx_S × Int32} {j : Nat} (h1 : j ≠ 15) (h2 : j ≠ 16) (h3 : j ≠ 20) (h4 : j ≠ 9) (h5 : j ≠ 10) (h6 : j ≠ 11) : ∀ i, (qf (nCook n) a i).1 j = a.1 j
  | 0 => rfl
  | i + 1 => by rw [qf, nCook_cell h1 h2 h3 h4 h5 h6, nCookF_cell h1 h2 h3 h4 h5 h6 i]
theorem nCook_wN {σ : qx_S} {n : Nat} (h : wN σ n) (x : Int32) (i : Nat) : wN (qf (nCook n) (σ, x) i).1 n :=
  wN_to h (nCookF_cell (by decide) (by decide) (by decide) (by decide) (by decide) (by decide) i) (nCookF_cell (by decide) (by decide) (by decide) (by decide) (by decide) (by decide) i) (nCookF_cell (by decide) (by decide) (by decide) (by decide) (by decide) (by decide) i)
theorem qs_wN {σ : qx_S} {n : Nat} (h : wN σ n) {j : Nat} (k : Nat) (v : Int32) (h8 : 8 ≠ j) (h2 : 2 ≠ j) (h14 : 14 ≠ j) : wN (qs σ j k v) n := wN_to h (qs_cell _ _ _ _ h8) (qs_cell _ _ _ _ h2) (qs_cell _ _ _ _ h14)
def nStart (n s : Nat) (τ : qx_S) : qx_S := if τ 11 s = 0 then (if nWorks τ s then (match gFirst τ (nI s) 1 n with | none => τ | some g => qs (qs τ 15 g 2) 11 s (qs τ 15 g 2 6 (s * 6 + 3))) else τ) else τ
theorem nStart_a {n s : Nat} {τ : qx_S} (h : ¬ τ 11 s = 0) : nStart n s τ = τ := if_neg h
theorem nStart_b {n s : Nat} {τ : qx_S} (h : τ 11 s = 0) (h2 : ¬ nWorks τ s) : nStart n s τ = τ := by unfold nStart; rw [if_pos h, if_neg h2]
theorem nStart_c {n s : Nat} {τ : qx_S} (h : τ 11 s = 0) (h2 : nWorks τ s) (h3 : gFirst τ (nI s) 1 n = none) : nStart n s τ = τ := by unfold nStart; rw [if_pos h, if_pos h2, h3]
theorem nStart_d {n s g : Nat} {τ : qx_S} (h : τ 11 s = 0) (h2 : nWorks τ s) (h3 : gFirst τ (nI s) 1 n = some g) : nStart n s τ = qs (qs τ 15 g 2) 11 s (qs τ 15 g 2 6 (s * 6 + 3)) := by unfold nStart; rw [if_pos h, if_pos h2, h3]
theorem nStart_cell {n s : Nat} {τ : qx_S} {j : Nat} (h1 : j ≠ 15) (h2 : j ≠ 11) : nStart n s τ j = τ j := by
  unfold nStart
  split
  · split
    · cases gFirst τ (nI s) 1 n with
      | none => rfl
      | some g => exact (qs_cell _ _ _ _ h2).trans (qs_cell _ _ _ _ h1)
    · rfl
  · rfl
theorem nStart_wN {σ : qx_S} {n : Nat} (h : wN σ n) (i : Nat) : wN (qf (nStart n) σ i) n :=
  wN_to h (qf_cell (fun _ _ => nStart_cell (by decide) (by decide)) σ i) (qf_cell (fun _ _ => nStart_cell (by decide) (by decide)) σ i) (qf_cell (fun _ _ => nStart_cell (by decide) (by decide)) σ i)
theorem gLose_cell {g : Nat} {τ : qx_S} {j : Nat} (h1 : j ≠ 15) (h2 : j ≠ 16) (h3 : j ≠ 17) (h4 : j ≠ 19) : gLose g τ j = τ j := by
  unfold gLose
  split
  · split <;> simp [qs_cell, h1, h2, h3, h4]
  · rfl
theorem gLose_wN {σ : qx_S} {n : Nat} (h : wN σ n) (i : Nat) : wN (qf gLose σ i) n :=
  wN_to h (qf_cell (fun _ _ => gLose_cell (by decide) (by decide) (by decide) (by decide)) σ i) (qf_cell (fun _ _ => gLose_cell (by decide) (by decide) (by decide) (by decide)) σ i) (qf_cell (fun _ _ => gLose_cell (by decide) (by decide) (by decide) (by decide)) σ i)
def nFor (σ : qx_S) (n g : Nat) : Option Nat := (List.range 5).find? (fun s => decide (σ 8 s = σ 16 g ∧ nWorks σ s ∧ σ 6 (s * 6 + 0) = σ 18 g ∧ ¬ 3 ≤ gAt σ (nI s) n))
def nWalk (n g : Nat) (τ : qx_S) : qx_S := if τ 15 g = 0 then (match nFor τ n g with | none => gStep τ g (τ 1 0) | some s => gQueue τ g (nI s)) else τ
theorem nWalk_a {n g : Nat} {τ : qx_S} (h : ¬ τ 15 g = 0) : nWalk n g τ = τ := if_neg h
theorem nWalk_b {n g : Nat} {τ : qx_S} (h : τ 15 g = 0) (h3 : nFor τ n g = none) : nWalk n g τ = gStep τ g (τ 1 0) := by unfold nWalk; rw [if_pos h, h3]
theorem nWalk_c {n g s : Nat} {τ : qx_S} (h : τ 15 g = 0) (h3 : nFor τ n g = some s) : nWalk n g τ = gQueue τ g (nI s) := by unfold nWalk; rw [if_pos h, h3]
theorem gStep_cell {σ : qx_S} {g : Nat} {P : Int32} {j : Nat} (h1 : j ≠ 15) (h2 : j ≠ 16) : gStep σ g P j = σ j := by
  unfold gStep
  split <;> simp [qs_cell, h1, h2]
theorem nWalk_cell {n g : Nat} {τ : qx_S} {j : Nat} (h1 : j ≠ 15) (h2 : j ≠ 16) (h4 : j ≠ 19) : nWalk n g τ j = τ j := by
  unfold nWalk
  split
  · cases nFor τ n g with
    | none => exact gStep_cell h1 h2
    | some s => simp [gQueue, qs_cell, h1, h4]
  · rfl
theorem nWalk_wN {σ : qx_S} {n : Nat} (h : wN σ n) (i : Nat) : wN (qf (nWalk n) σ i) n :=
  wN_to h (qf_cell (fun _ _ => nWalk_cell (by decide) (by decide) (by decide)) σ i) (qf_cell (fun _ _ => nWalk_cell (by decide) (by decide) (by decide)) σ i) (qf_cell (fun _ _ => nWalk_cell (by decide) (by decide) (by decide)) σ i)
def nTick1 (σ : qx_S) (n : Nat) : qx_S := qf (nWalk n) (qf gLose (qf (nStart n) (qf (nCook n) (σ, 0) 5).1 5) n) n
def nTick (σ : qx_S) (n : Nat) : qx_S := qs (nTick1 σ n) 7 3 (nTick1 σ n 7 3 + 1)
set_option maxRecDepth 20000 in
set_option maxHeartbeats 4000000 in
theorem c_X1_clear (F : qx_F) (d : Nat) (σ : qx_S)  : qx_cV F shC ⟨"NightStalls$Night", "clear", "()V"⟩ (.code ⟨"NightStalls$Night", "clear", "()V"⟩ prog_3_method_2_code 2 ((none : Option FieldType)) :: qx_W) (qx_R (d + 1)) [.ref (fa F 7)] σ (nClr σ) := by
  refine qx_met (by decide) (Nat.le_of_ble_eq_true rfl) (by intro v hv; simp only [List.mem_cons, List.not_mem_nil, or_false] at hv; rcases hv with rfl <;> rfl) (fun K C => ?_)
  refine qx_aload_n C dX1_clear_0 rfl rfl ?_
  refine qx_iconst C (v := 0) dX1_clear_1 rfl ?_
  refine qx_put C (j := 7) (k := 3) hiX1 rfl rfl (by decide) tyX1 tyX1_ok nmX1 qw_133 rfl rfl rfl rfl dX1_clear_2 ?_
  refine qx_aload_n C dX1_clear_5 rfl rfl ?_
  refine qx_getR C (j := 7) (k := 1) hiX1 rfl rfl (by decide) qw_129 rfl dX1_clear_6 ?_
  refine qx_iconst C (v := 0) dX1_clear_9 rfl ?_
  refine qx_putN C (j := 14) (k := 0) hiX0 rfl rfl (by decide) tyX0 tyX0_ok nmX0 qn_13 rfl rfl rfl rfl dX1_clear_10 ?_
  refine qx_iconst C (v := 0) dX1_clear_13 rfl ?_
  refine qx_istore_n C dX1_clear_14 rfl (Nat.le_of_ble_eq_true rfl) ?_
  refine qx_to (qx_up 5 (P := fun i => qx_X K F shC (qf (fun s τ => qs (qs (qs (qs τ 8 s (-4)) 9 s 0) 10 s 0) 11 s 0) (qs (qs σ 7 3 0) 14 0 0) i) 15 [some (.ref (fa F 7)), some (.int (nI i))] []) (fun i hi hki => ?_) ?_) rfl rfl
  · refine qx_iload_n C dX1_clear_15 rfl rfl ?_
    refine qx_iconst C (v := 5) dX1_clear_16 rfl ?_
    refine qx_icmp_ge_f C (tgt := 55) dX1_clear_17 (by decide) (nI_ge (b := 5) hi (by decide)) ?_
    refine qx_aload_n C dX1_clear_20 rfl rfl ?_
    refine qx_getR C (j := 7) (k := 4) hiX1 rfl rfl (by decide) qw_135 rfl dX1_clear_21 ?_
    refine qx_iload_n C dX1_clear_24 rfl rfl ?_
    refine qx_bipush C (v := (-4)) dX1_clear_25 rfl ?_
    refine qx_iastN C (j := 8) rfl ⟨by omega, by decide⟩ dX1_clear_27 ?_
    refine qx_aload_n C dX1_clear_28 rfl rfl ?_
    refine qx_getR C (j := 7) (k := 5) hiX1 rfl rfl (by decide) qw_136 rfl dX1_clear_29 ?_
    refine qx_iload_n C dX1_clear_32 rfl rfl ?_
    refine qx_iconst C (v := 0) dX1_clear_33 rfl ?_
    refine qx_iastN C (j := 9) rfl ⟨by omega, by decide⟩ dX1_clear_34 ?_
    refine qx_aload_n C dX1_clear_35 rfl rfl ?_
    refine qx_getR C (j := 7) (k := 6) hiX1 rfl rfl (by decide) qw_137 rfl dX1_clear_36 ?_
    refine qx_iload_n C dX1_clear_39 rfl rfl ?_
    refine qx_iconst C (v := 0) dX1_clear_40 rfl ?_
    refine qx_iastN C (j := 10) rfl ⟨by omega, by decide⟩ dX1_clear_41 ?_
    refine qx_aload_n C dX1_clear_42 rfl rfl ?_
    refine qx_getR C (j := 7) (k := 7) hiX1 rfl rfl (by decide) qw_138 rfl dX1_clear_43 ?_
    refine qx_iload_n C dX1_clear_46 rfl rfl ?_
    refine qx_iconst C (v := 0) dX1_clear_47 rfl ?_
    refine qx_iastN C (j := 11) rfl ⟨by omega, by decide⟩ dX1_clear_48 ?_
    refine qx_iincN C dX1_clear_49 rfl ?_
    refine qx_goto C (tgt := 15) dX1_clear_52 (by decide) ?_
    exact (qx_to hki rfl rfl)
  · refine qx_iload_n C dX1_clear_15 rfl rfl ?_
    refine qx_iconst C (v := 5) dX1_clear_16 rfl ?_
    refine qx_icmp_ge_t C (tgt := 55) dX1_clear_17 (by decide) (nI_le (a := 5) (b := 5) (Nat.le_refl _) (by decide)) ?_
    refine qx_iconst C (v := 0) dX1_clear_55 rfl ?_
    refine qx_istore_n C dX1_clear_56 rfl (Nat.le_of_ble_eq_true rfl) ?_
    refine qx_to (qx_up 3 (P := fun i => qx_X K F shC (qf (fun k τ => qs (qs τ 12 k 0) 13 k 0) (qf (fun s τ => qs (qs (qs (qs τ 8 s (-4)) 9 s 0) 10 s 0) 11 s 0) (qs (qs σ 7 3 0) 14 0 0) 5) i) 57 [some (.ref (fa F 7)), some (.int (nI i))] []) (fun i hi hki => ?_) ?_) rfl rfl
    · refine qx_iload_n C dX1_clear_57 rfl rfl ?_
      refine qx_iconst C (v := 3) dX1_clear_58 rfl ?_
      refine qx_icmp_ge_f C (tgt := 82) dX1_clear_59 (by decide) (nI_ge (b := 3) hi (by decide)) ?_
      refine qx_aload_n C dX1_clear_62 rfl rfl ?_
      refine qx_getR C (j := 7) (k := 8) hiX1 rfl rfl (by decide) qw_139 rfl dX1_clear_63 ?_
      refine qx_iload_n C dX1_clear_66 rfl rfl ?_
      refine qx_iconst C (v := 0) dX1_clear_67 rfl ?_
      refine qx_iastN C (j := 12) rfl ⟨by omega, by decide⟩ dX1_clear_68 ?_
      refine qx_aload_n C dX1_clear_69 rfl rfl ?_
      refine qx_getR C (j := 7) (k := 9) hiX1 rfl rfl (by decide) qw_141 rfl dX1_clear_70 ?_
      refine qx_iload_n C dX1_clear_73 rfl rfl ?_
      refine qx_iconst C (v := 0) dX1_clear_74 rfl ?_
      refine qx_iastN C (j := 13) rfl ⟨by omega, by decide⟩ dX1_clear_75 ?_
      refine qx_iincN C dX1_clear_76 rfl ?_
      refine qx_goto C (tgt := 57) dX1_clear_79 (by decide) ?_
      exact (qx_to hki rfl rfl)
    · refine qx_iload_n C dX1_clear_57 rfl rfl ?_
      refine qx_iconst C (v := 3) dX1_clear_58 rfl ?_
      refine qx_icmp_ge_t C (tgt := 82) dX1_clear_59 (by decide) (nI_le (a := 3) (b := 3) (Nat.le_refl _) (by decide)) ?_
      exact qx_vret C dX1_clear_82 rfl
set_option maxRecDepth 20000 in
set_option maxHeartbeats 4000000 in
theorem c_X2_placeOf (F : qx_F) (d : Nat) (σ : qx_S) (s : Nat) (hs : s < 5) : qx_cI F shC ⟨"NightStalls$Plan", "placeOf", "(I)I"⟩ (.code ⟨"NightStalls$Plan", "placeOf", "(I)I"⟩ prog_4_method_2_code 2 ((some FieldType.int)) :: qx_W) (qx_R (d + 1)) [.ref (fa F 21), .int (nI s)] σ (σ 23 s) (σ) := by
  refine qx_met (by decide) (Nat.le_of_ble_eq_true rfl) (by intro v hv; simp only [List.mem_cons, List.not_mem_nil, or_false] at hv; rcases hv with rfl | rfl <;> rfl) (fun K C => ?_)
  refine qx_aload_n C dX2_placeOf_0 rfl rfl ?_
  refine qx_getR C (j := 21) (k := 2) hiX2 rfl rfl (by decide) qw_172 rfl dX2_placeOf_1 ?_
  refine qx_iload_n C dX2_placeOf_4 rfl rfl ?_
  refine qx_ialdN C (j := 23) rfl ⟨by omega, by decide⟩ dX2_placeOf_5 ?_
  exact qx_iret C dX2_placeOf_6 rfl rfl rfl
set_option maxRecDepth 20000 in
set_option maxHeartbeats 4000000 in
theorem c_X1_setUp (F : qx_F) (d : Nat) (σ : qx_S)  : qx_cV F shC ⟨"NightStalls$Night", "setUp", "(LNightStalls$Plan;)V"⟩ (.code ⟨"NightStalls$Night", "setUp", "(LNightStalls$Plan;)V"⟩ prog_3_method_3_code 3 ((none : Option FieldType)) :: qx_W) (qx_R (d + 2)) [.ref (fa F 7), .ref (fa F 21)] σ (nSet σ 5) := by
  refine qx_met (by decide) (Nat.le_of_ble_eq_true rfl) (by intro v hv; simp only [List.mem_cons, List.not_mem_nil, or_false] at hv; rcases hv with rfl | rfl <;> rfl) (fun K C => ?_)
  refine qx_iconst C (v := 0) dX1_setUp_0 rfl ?_
  refine qx_istore_n C dX1_setUp_1 rfl (Nat.le_of_ble_eq_true rfl) ?_
  refine qx_to (qx_up 5 (P := fun i => qx_X K F shC (nSet σ i) 2 [some (.ref (fa F 7)), some (.ref (fa F 21)), some (.int (nI i))] []) (fun i hi hki => ?_) ?_) rfl rfl
  · refine qx_iload_n C dX1_setUp_2 rfl rfl ?_
    refine qx_iconst C (v := 5) dX1_setUp_3 rfl ?_
    refine qx_icmp_ge_f C (tgt := 24) dX1_setUp_4 (by decide) (nI_ge (b := 5) hi (by decide)) ?_
    refine qx_aload_n C dX1_setUp_7 rfl rfl ?_
    refine qx_getR C (j := 7) (k := 4) hiX1 rfl rfl (by decide) qw_135 rfl dX1_setUp_8 ?_
    refine qx_iload_n C dX1_setUp_11 rfl rfl ?_
    refine qx_aload_n C dX1_setUp_12 rfl rfl ?_
    refine qx_iload_n C dX1_setUp_13 rfl rfl ?_
    refine qx_callVI C (b := 21) (As := [_]) (n := 1) (c_X2_placeOf F (d + 0) _ i (by omega)) rfl rfl qw_400 qw_385 qw_386 qw_43 qw_387 ⟨rfl, by decide, by decide, by decide +kernel⟩ (qx_room (by omega) (by decide)) rfl rfl (Nat.le_of_ble_eq_true rfl) dX1_setUp_14 ?_
    refine qx_iastN C (j := 8) rfl ⟨by omega, by decide⟩ dX1_setUp_17 ?_
    refine qx_iincN C dX1_setUp_18 rfl ?_
    refine qx_goto C (tgt := 2) dX1_setUp_21 (by decide) ?_
    exact (qx_to hki rfl rfl)
  · refine qx_iload_n C dX1_setUp_2 rfl rfl ?_
    refine qx_iconst C (v := 5) dX1_setUp_3 rfl ?_
    refine qx_icmp_ge_t C (tgt := 24) dX1_setUp_4 (by decide) (nI_le (a := 5) (b := 5) (Nat.le_refl _) (by decide)) ?_
    exact qx_vret C dX1_setUp_24 rfl
set_option maxRecDepth 20000 in
set_option maxHeartbeats 4000000 in
theorem c_X1_standing (F : qx_F) (d : Nat) (σ : qx_S)  : qx_cI F shC ⟨"NightStalls$Night", "standing", "()I"⟩ (.code ⟨"NightStalls$Night", "standing", "()I"⟩ prog_3_method_4_code 3 ((some FieldType.int)) :: qx_W) (qx_R (d + 1)) [.ref (fa F 7)] σ (nStd σ 5) (σ) := by
  refine qx_met (by decide) (Nat.le_of_ble_eq_true rfl) (by intro v hv; simp only [List.mem_cons, List.not_mem_nil, or_false] at hv; rcases hv with rfl <;> rfl) (fun K C => ?_)
  refine qx_iconst C (v := 0) dX1_standing_0 rfl ?_
  refine qx_istore_n C dX1_standing_1 rfl (Nat.le_of_ble_eq_true rfl) ?_
  refine qx_iconst C (v := 0) dX1_standing_2 rfl ?_
  refine qx_istore_n C dX1_standing_3 rfl (Nat.le_of_ble_eq_true rfl) ?_
  refine qx_to (qx_up 5 (P := fun i => qx_X K F shC (σ) 4 [some (.ref (fa F 7)), some (.int (nStd σ i)), some (.int (nI i))] []) (fun i hi hki => ?_) ?_) rfl rfl
  · refine qx_iload_n C dX1_standing_4 rfl rfl ?_
    refine qx_iconst C (v := 5) dX1_standing_5 rfl ?_
    refine qx_icmp_ge_f C (tgt := 29) dX1_standing_6 (by decide) (nI_ge (b := 5) hi (by decide)) ?_
    refine qx_aload_n C dX1_standing_9 rfl rfl ?_
    refine qx_getR C (j := 7) (k := 4) hiX1 rfl rfl (by decide) qw_135 rfl dX1_standing_10 ?_
    refine qx_iload_n C dX1_standing_13 rfl rfl ?_
    refine qx_ialdN C (j := 8) rfl ⟨by omega, by decide⟩ dX1_standing_14 ?_
    refine qx_bipush C (v := (-4)) dX1_standing_15 rfl ?_
    refine qx_icmp_eq C (tgt := 23) dX1_standing_17 (by decide) (fun h17 => ?_) (fun h17 => ?_)
    · refine qx_iincN C dX1_standing_23 rfl ?_
      refine qx_goto C (tgt := 4) dX1_standing_26 (by decide) ?_
      exact (qx_to hki (by first | rfl | simp [nStd, qf, h17]) (by first | rfl | simp [nStd, qf, h17]))
    · refine qx_iinc C (v := _ + 1) dX1_standing_20 rfl rfl ?_
      refine qx_iincN C dX1_standing_23 rfl ?_
      refine qx_goto C (tgt := 4) dX1_standing_26 (by decide) ?_
      exact (qx_to hki (by first | rfl | simp [nStd, qf, h17]) (by first | rfl | simp [nStd, qf, h17]))
  · refine qx_iload_n C dX1_standing_4 rfl rfl ?_
    refine qx_iconst C (v := 5) dX1_standing_5 rfl ?_
    refine qx_icmp_ge_t C (tgt := 29) dX1_standing_6 (by decide) (nI_le (a := 5) (b := 5) (Nat.le_refl _) (by decide)) ?_
    refine qx_iload_n C dX1_standing_29 rfl rfl ?_
    exact qx_iret C dX1_standing_30 rfl rfl rfl
set_option maxRecDepth 20000 in
set_option maxHeartbeats 4000000 in
theorem c_X1_wattsOn (F : qx_F) (d : Nat) (σ : qx_S) (w : Int32) (n : Nat) (hw : wN σ n) : qx_cI F shC ⟨"NightStalls$Night", "wattsOn", "(I)I"⟩ (.code ⟨"NightStalls$Night", "wattsOn", "(I)I"⟩ prog_3_method_5_code 4 ((some FieldType.int)) :: qx_W) (qx_R (d + 3)) [.ref (fa F 7), .int w] σ (nWatts σ w 5) (σ) := by
  refine qx_met (by decide) (Nat.le_of_ble_eq_true rfl) (by intro v hv; simp only [List.mem_cons, List.not_mem_nil, or_false] at hv; rcases hv with rfl | rfl <;> rfl) (fun K C => ?_)
  refine qx_iconst C (v := 0) dX1_wattsOn_0 rfl ?_
  refine qx_istore_n C dX1_wattsOn_1 rfl (Nat.le_of_ble_eq_true rfl) ?_
  refine qx_iconst C (v := 0) dX1_wattsOn_2 rfl ?_
  refine qx_istore_n C dX1_wattsOn_3 rfl (Nat.le_of_ble_eq_true rfl) ?_
  refine qx_to (qx_up 5 (P := fun i => qx_X K F shC (σ) 4 [some (.ref (fa F 7)), some (.int w), some (.int (nWatts σ w i)), some (.int (nI i))] []) (fun i hi hki => ?_) ?_) rfl rfl
  · refine qx_iload_n C dX1_wattsOn_4 rfl rfl ?_
    refine qx_iconst C (v := 5) dX1_wattsOn_5 rfl ?_
    refine qx_icmp_ge_f C (tgt := 55) dX1_wattsOn_6 (by decide) (nI_ge (b := 5) hi (by decide)) ?_
    rcases hw.1 i (by omega) with e8 | ⟨p, hp, ep⟩
    · refine qx_aload_n C dX1_wattsOn_9 rfl rfl ?_
      refine qx_getR C (j := 7) (k := 4) hiX1 rfl rfl (by decide) qw_135 rfl dX1_wattsOn_10 ?_
      refine qx_iload_n C dX1_wattsOn_13 rfl rfl ?_
      refine qx_ialdN C (j := 8) rfl ⟨by omega, by decide⟩ dX1_wattsOn_14 ?_
      refine qx_top e8 ?_
      refine qx_bipush C (v := (-4)) dX1_wattsOn_15 rfl ?_
      refine qx_icmp_eq_t C (tgt := 49) dX1_wattsOn_17 (by decide) (by decide) ?_
      refine qx_iincN C dX1_wattsOn_49 rfl ?_
      refine qx_goto C (tgt := 4) dX1_wattsOn_52 (by decide) ?_
      exact (qx_to hki (by first | rfl | simp [nWatts, qf, nLine, ix, e8]) (by first | rfl | simp [nWatts, qf, nLine, ix, e8]))
    · have ip : (nI p).toNatClampNeg = p := nI_clamp (by omega)
      have n4 : ¬ nI p = -4 := qx_n4 (by omega)
      refine qx_aload_n C dX1_wattsOn_9 rfl rfl ?_
      refine qx_getR C (j := 7) (k := 4) hiX1 rfl rfl (by decide) qw_135 rfl dX1_wattsOn_10 ?_
      refine qx_iload_n C dX1_wattsOn_13 rfl rfl ?_
      refine qx_ialdN C (j := 8) rfl ⟨by omega, by decide⟩ dX1_wattsOn_14 ?_
      refine qx_top ep ?_
      refine qx_bipush C (v := (-4)) dX1_wattsOn_15 rfl ?_
      refine qx_icmp_eq_f C (tgt := 49) dX1_wattsOn_17 (by decide) (qx_n4 (by omega)) ?_
      refine qx_aload_n C dX1_wattsOn_20 rfl rfl ?_
      refine qx_getR C (j := 7) (k := 0) hiX1 rfl rfl (by decide) qw_128 rfl dX1_wattsOn_21 ?_
      refine qx_aload_n C dX1_wattsOn_24 rfl rfl ?_
      refine qx_getR C (j := 7) (k := 4) hiX1 rfl rfl (by decide) qw_135 rfl dX1_wattsOn_25 ?_
      refine qx_iload_n C dX1_wattsOn_28 rfl rfl ?_
      refine qx_ialdN C (j := 8) rfl ⟨by omega, by decide⟩ dX1_wattsOn_29 ?_
      refine qx_top ep ?_
      refine qx_callVI C (b := 1) (As := [_]) (n := 1) (c_X3_lineAt F (d + 0) _ p (by omega)) rfl rfl qw_433 qw_364 qw_365 qw_40 qw_366 ⟨rfl, by decide, by decide, by decide +kernel⟩ (qx_room (by omega) (by decide)) rfl rfl (Nat.le_of_ble_eq_true rfl) dX1_wattsOn_30 ?_
      refine qx_iload_n C dX1_wattsOn_33 rfl rfl ?_
      refine qx_icmp_ne C (tgt := 49) dX1_wattsOn_34 (by decide) (fun h34 => ?_) (fun h34 => ?_)
      · refine qx_iincN C dX1_wattsOn_49 rfl ?_
        refine qx_goto C (tgt := 4) dX1_wattsOn_52 (by decide) ?_
        exact (qx_to hki (by first | rfl | simp [nWatts, qf, nLine, ix, ep, ip, n4, h34]) (by first | rfl | simp [nWatts, qf, nLine, ix, ep, ip, n4, h34]))
      · refine qx_iload_n C dX1_wattsOn_37 rfl rfl ?_
        refine qx_aload_n C dX1_wattsOn_38 rfl rfl ?_
        refine qx_getR C (j := 7) (k := 0) hiX1 rfl rfl (by decide) qw_128 rfl dX1_wattsOn_39 ?_
        refine qx_iload_n C dX1_wattsOn_42 rfl rfl ?_
        refine qx_iconst C (v := 2) dX1_wattsOn_43 rfl ?_
        refine qx_callVI C (b := 1) (As := [_, _]) (n := 2) (c_X3_trait F (d + 1) _ i 2 (by omega) (by omega)) rfl rfl qw_446 qw_295 qw_296 qw_40 qw_297 ⟨rfl, by decide, by decide, by decide +kernel⟩ (qx_room (by omega) (by decide)) rfl rfl (Nat.le_of_ble_eq_true rfl) dX1_wattsOn_44 ?_
        refine qx_iadd C dX1_wattsOn_47 ?_
        refine qx_istore_n C dX1_wattsOn_48 rfl (Nat.le_of_ble_eq_true rfl) ?_
        refine qx_iincN C dX1_wattsOn_49 rfl ?_
        refine qx_goto C (tgt := 4) dX1_wattsOn_52 (by decide) ?_
        exact (qx_to hki (by first | rfl | simp [nWatts, qf, nLine, ix, ep, ip, n4, h34]) (by first | rfl | simp [nWatts, qf, nLine, ix, ep, ip, n4, h34]))
  · refine qx_iload_n C dX1_wattsOn_4 rfl rfl ?_
    refine qx_iconst C (v := 5) dX1_wattsOn_5 rfl ?_
    refine qx_icmp_ge_t C (tgt := 55) dX1_wattsOn_6 (by decide) (nI_le (a := 5) (b := 5) (Nat.le_refl _) (by decide)) ?_
    refine qx_iload_n C dX1_wattsOn_55 rfl rfl ?_
    exact qx_iret C dX1_wattsOn_56 rfl rfl rfl
set_option maxRecDepth 20000 in
set_option maxHeartbeats 4000000 in
theorem c_X1_isOverLimit (F : qx_F) (d : Nat) (σ : qx_S) (k : Nat) (hk : k < 3) (n : Nat) (hw : wN σ n) : qx_cI F shC ⟨"NightStalls$Night", "isOverLimit", "(I)Z"⟩ (.code ⟨"NightStalls$Night", "isOverLimit", "(I)Z"⟩ prog_3_method_6_code 2 ((some FieldType.boolean)) :: qx_W) (qx_R (d + 4)) [.ref (fa F 7), .int (nI k)] σ (if nOver σ k then 1 else 0) (σ) := by
  refine qx_met (by decide) (Nat.le_of_ble_eq_true rfl) (by intro v hv; simp only [List.mem_cons, List.not_mem_nil, or_false] at hv; rcases hv with rfl | rfl <;> rfl) (fun K C => ?_)
  refine qx_aload_n C dX1_isOverLimit_0 rfl rfl ?_
  refine qx_getR C (j := 7) (k := 8) hiX1 rfl rfl (by decide) qw_139 rfl dX1_isOverLimit_1 ?_
  refine qx_iload_n C dX1_isOverLimit_4 rfl rfl ?_
  refine qx_ialdN C (j := 12) rfl ⟨by omega, by decide⟩ dX1_isOverLimit_5 ?_
  refine qx_aload_n C dX1_isOverLimit_6 rfl rfl ?_
  refine qx_iload_n C dX1_isOverLimit_7 rfl rfl ?_
  refine qx_callVI C (b := 7) (As := [_]) (n := 1) (c_X1_wattsOn F (d + 0) _ _ n hw) rfl rfl qw_483 qw_484 qw_485 qw_41 qw_486 ⟨rfl, by decide, by decide, by decide +kernel⟩ (qx_room (by omega) (by decide)) rfl rfl (Nat.le_of_ble_eq_true rfl) dX1_isOverLimit_8 ?_
  refine qx_iadd C dX1_isOverLimit_11 ?_
  refine qx_aload_n C dX1_isOverLimit_12 rfl rfl ?_
  refine qx_getR C (j := 7) (k := 0) hiX1 rfl rfl (by decide) qw_128 rfl dX1_isOverLimit_13 ?_
  refine qx_iload_n C dX1_isOverLimit_16 rfl rfl ?_
  refine qx_callVI C (b := 1) (As := [_]) (n := 1) (c_X3_limitOf F (d + 2) _ k (by omega)) rfl rfl qw_487 qw_381 qw_382 qw_40 qw_383 ⟨rfl, by decide, by decide, by decide +kernel⟩ (qx_room (by omega) (by decide)) rfl rfl (Nat.le_of_ble_eq_true rfl) dX1_isOverLimit_17 ?_
  refine qx_icmp_le C (tgt := 27) dX1_isOverLimit_20 (by decide) (fun h20 => ?_) (fun h20 => ?_)
  · refine qx_iconst C (v := 0) dX1_isOverLimit_27 rfl ?_
    exact qx_iret C dX1_isOverLimit_28 rfl (by first | exact (if_pos h20).symm | exact (if_neg (fun h => h h20)).symm) rfl
  · refine qx_iconst C (v := 1) dX1_isOverLimit_23 rfl ?_
    refine qx_goto C (tgt := 28) dX1_isOverLimit_24 (by decide) ?_
    exact qx_iret C dX1_isOverLimit_28 rfl (by first | exact (if_pos h20).symm | exact (if_neg (fun h => h h20)).symm) rfl
set_option maxRecDepth 20000 in
set_option maxHeartbeats 4000000 in
theorem c_X1_billOf (F : qx_F) (d : Nat) (σ : qx_S) (s : Nat) (hs : s < 5) (n : Nat) (hw : wN σ n) : qx_cI F shC ⟨"NightStalls$Night", "billOf", "(I)I"⟩ (.code ⟨"NightStalls$Night", "billOf", "(I)I"⟩ prog_3_method_8_code 2 ((some FieldType.int)) :: qx_W) (qx_R (d + 3)) [.ref (fa F 7), .int (nI s)] σ (nBill σ s) (σ) := by
  refine qx_met (by decide) (Nat.le_of_ble_eq_true rfl) (by intro v hv; simp only [List.mem_cons, List.not_mem_nil, or_false] at hv; rcases hv with rfl | rfl <;> rfl) (fun K C => ?_)
  rcases hw.1 s (by omega) with e8 | ⟨p, hp, ep⟩
  · refine qx_aload_n C dX1_billOf_0 rfl rfl ?_
    refine qx_getR C (j := 7) (k := 4) hiX1 rfl rfl (by decide) qw_135 rfl dX1_billOf_1 ?_
    refine qx_iload_n C dX1_billOf_4 rfl rfl ?_
    refine qx_ialdN C (j := 8) rfl ⟨by omega, by decide⟩ dX1_billOf_5 ?_
    refine qx_top e8 ?_
    refine qx_bipush C (v := (-4)) dX1_billOf_6 rfl ?_
    refine qx_icmp_ne_f C (tgt := 13) dX1_billOf_8 (by decide) (by decide) ?_
    refine qx_iconst C (v := 0) dX1_billOf_11 rfl ?_
    exact qx_iret C dX1_billOf_12 rfl (by first | rfl | simp [nBill, ix, e8]) (by first | rfl | simp [nBill, ix, e8])
  · have ip : (nI p).toNatClampNeg = p := nI_clamp (by omega)
    have n4 : ¬ nI p = -4 := qx_n4 (by omega)
    refine qx_aload_n C dX1_billOf_0 rfl rfl ?_
    refine qx_getR C (j := 7) (k := 4) hiX1 rfl rfl (by decide) qw_135 rfl dX1_billOf_1 ?_
    refine qx_iload_n C dX1_billOf_4 rfl rfl ?_
    refine qx_ialdN C (j := 8) rfl ⟨by omega, by decide⟩ dX1_billOf_5 ?_
    refine qx_top ep ?_
    refine qx_bipush C (v := (-4)) dX1_billOf_6 rfl ?_
    refine qx_icmp_ne_t C (tgt := 13) dX1_billOf_8 (by decide) (qx_n4 (by omega)) ?_
    refine qx_aload_n C dX1_billOf_13 rfl rfl ?_
    refine qx_getR C (j := 7) (k := 0) hiX1 rfl rfl (by decide) qw_128 rfl dX1_billOf_14 ?_
    refine qx_aload_n C dX1_billOf_17 rfl rfl ?_
    refine qx_getR C (j := 7) (k := 4) hiX1 rfl rfl (by decide) qw_135 rfl dX1_billOf_18 ?_
    refine qx_iload_n C dX1_billOf_21 rfl rfl ?_
    refine qx_ialdN C (j := 8) rfl ⟨by omega, by decide⟩ dX1_billOf_22 ?_
    refine qx_top ep ?_
    refine qx_callVI C (b := 1) (As := [_]) (n := 1) (c_X3_rentOf F (d + 0) _ p (by omega)) rfl rfl qw_509 qw_323 qw_324 qw_40 qw_325 ⟨rfl, by decide, by decide, by decide +kernel⟩ (qx_room (by omega) (by decide)) rfl rfl (Nat.le_of_ble_eq_true rfl) dX1_billOf_23 ?_
    refine qx_aload_n C dX1_billOf_26 rfl rfl ?_
    refine qx_getR C (j := 7) (k := 6) hiX1 rfl rfl (by decide) qw_137 rfl dX1_billOf_27 ?_
    refine qx_iload_n C dX1_billOf_30 rfl rfl ?_
    refine qx_ialdN C (j := 10) rfl ⟨by omega, by decide⟩ dX1_billOf_31 ?_
    refine qx_aload_n C dX1_billOf_32 rfl rfl ?_
    refine qx_getR C (j := 7) (k := 0) hiX1 rfl rfl (by decide) qw_128 rfl dX1_billOf_33 ?_
    refine qx_iconst C (v := 1) dX1_billOf_36 rfl ?_
    refine qx_callVI C (b := 1) (As := [_]) (n := 1) (c_X3_ruled F (d + 1) _ 1 (by omega)) rfl rfl qw_510 qw_376 qw_377 qw_40 qw_378 ⟨rfl, by decide, by decide, by decide +kernel⟩ (qx_room (by omega) (by decide)) rfl rfl (Nat.le_of_ble_eq_true rfl) dX1_billOf_37 ?_
    refine qx_imul C dX1_billOf_40 ?_
    refine qx_bipush C (v := 100) dX1_billOf_41 rfl ?_
    refine qx_idiv C dX1_billOf_43 (by decide) ?_
    refine qx_iadd C dX1_billOf_44 ?_
    exact qx_iret C dX1_billOf_45 rfl (by first | rfl | simp [nBill, ix, ep, ip, n4]) (by first | rfl | simp [nBill, ix, ep, ip, n4])
set_option maxRecDepth 20000 in
set_option maxHeartbeats 4000000 in
theorem c_X1_stallFact (F : qx_F) (d : Nat) (σ : qx_S) (s : Nat) (hs : s < 5) (what : Int32) (n : Nat) (hw : wN σ n) : qx_cI F shC ⟨"NightStalls$Night", "stallFact", "(II)I"⟩ (.code ⟨"NightStalls$Night", "stallFact", "(II)I"⟩ prog_3_method_7_code 3 ((some FieldType.int)) :: qx_W) (qx_R (d + 4)) [.ref (fa F 7), .int (nI s), .int what] σ (nFact σ s what n) (σ) := by
  refine qx_met (by decide) (Nat.le_of_ble_eq_true rfl) (by intro v hv; simp only [List.mem_cons, List.not_mem_nil, or_false] at hv; rcases hv with rfl | rfl | rfl <;> rfl) (fun K C => ?_)
  have hn := hw.2.2.1
  have hn20 := hw.2.2.2
  by_cases e6 : what = 6
  · subst e6
    refine qx_iload_n C dX1_stallFact_0 rfl rfl ?_
    refine qx_tableIn C (tgt := 40) (off := 39) dX1_stallFact_1 (by decide) (by decide) (by decide) (by decide) ?_
    refine qx_aload_n C dX1_stallFact_40 rfl rfl ?_
    refine qx_getR C (j := 7) (k := 4) hiX1 rfl rfl (by decide) qw_135 rfl dX1_stallFact_41 ?_
    refine qx_iload_n C dX1_stallFact_44 rfl rfl ?_
    refine qx_ialdN C (j := 8) rfl ⟨by omega, by decide⟩ dX1_stallFact_45 ?_
    exact qx_iret C dX1_stallFact_46 rfl (by first | rfl | simp [nFact]) (by first | rfl | simp [nFact])
  by_cases e7 : what = 7
  · subst e7
    refine qx_iload_n C dX1_stallFact_0 rfl rfl ?_
    refine qx_tableIn C (tgt := 47) (off := 46) dX1_stallFact_1 (by decide) (by decide) (by decide) (by decide) ?_
    refine qx_aload_n C dX1_stallFact_47 rfl rfl ?_
    refine qx_getR C (j := 7) (k := 5) hiX1 rfl rfl (by decide) qw_136 rfl dX1_stallFact_48 ?_
    refine qx_iload_n C dX1_stallFact_51 rfl rfl ?_
    refine qx_ialdN C (j := 9) rfl ⟨by omega, by decide⟩ dX1_stallFact_52 ?_
    exact qx_iret C dX1_stallFact_53 rfl (by first | rfl | simp [nFact]) (by first | rfl | simp [nFact])
  by_cases e8 : what = 8
  · subst e8
    refine qx_iload_n C dX1_stallFact_0 rfl rfl ?_
    refine qx_tableIn C (tgt := 54) (off := 53) dX1_stallFact_1 (by decide) (by decide) (by decide) (by decide) ?_
    refine qx_aload_n C dX1_stallFact_54 rfl rfl ?_
    refine qx_getR C (j := 7) (k := 6) hiX1 rfl rfl (by decide) qw_137 rfl dX1_stallFact_55 ?_
    refine qx_iload_n C dX1_stallFact_58 rfl rfl ?_
    refine qx_ialdN C (j := 10) rfl ⟨by omega, by decide⟩ dX1_stallFact_59 ?_
    exact qx_iret C dX1_stallFact_60 rfl (by first | rfl | simp [nFact]) (by first | rfl | simp [nFact])
  by_cases e9 : what = 9
  · subst e9
    refine qx_iload_n C dX1_stallFact_0 rfl rfl ?_
    refine qx_tableIn C (tgt := 61) (off := 60) dX1_stallFact_1 (by decide) (by decide) (by decide) (by decide) ?_
    refine qx_aload_n C dX1_stallFact_61 rfl rfl ?_
    refine qx_getR C (j := 7) (k := 1) hiX1 rfl rfl (by decide) qw_129 rfl dX1_stallFact_62 ?_
    refine qx_iload_n C dX1_stallFact_65 rfl rfl ?_
    refine qx_callVI C (b := 14) (As := [_]) (n := 1) (c_X0_countAt F (d + 2) _ _ n hn hn20) rfl rfl qw_463 qw_464 qw_465 qw_42 qw_466 ⟨rfl, by decide, by decide, by decide +kernel⟩ (qx_room (by omega) (by decide)) rfl rfl (Nat.le_of_ble_eq_true rfl) dX1_stallFact_66 ?_
    exact qx_iret C dX1_stallFact_69 rfl (by first | rfl | simp [nFact]) (by first | rfl | simp [nFact])
  by_cases e10 : what = 10
  · subst e10
    refine qx_iload_n C dX1_stallFact_0 rfl rfl ?_
    refine qx_tableIn C (tgt := 70) (off := 69) dX1_stallFact_1 (by decide) (by decide) (by decide) (by decide) ?_
    refine qx_aload_n C dX1_stallFact_70 rfl rfl ?_
    refine qx_getR C (j := 7) (k := 7) hiX1 rfl rfl (by decide) qw_138 rfl dX1_stallFact_71 ?_
    refine qx_iload_n C dX1_stallFact_74 rfl rfl ?_
    refine qx_ialdN C (j := 11) rfl ⟨by omega, by decide⟩ dX1_stallFact_75 ?_
    exact qx_iret C dX1_stallFact_76 rfl (by first | rfl | simp [nFact]) (by first | rfl | simp [nFact])
  by_cases e11 : what = 11
  · subst e11
    refine qx_iload_n C dX1_stallFact_0 rfl rfl ?_
    refine qx_tableIn C (tgt := 77) (off := 76) dX1_stallFact_1 (by decide) (by decide) (by decide) (by decide) ?_
    refine qx_aload_n C dX1_stallFact_77 rfl rfl ?_
    refine qx_iload_n C dX1_stallFact_78 rfl rfl ?_
    refine qx_callVI C (b := 7) (As := [_]) (n := 1) (c_X1_billOf F (d + 0) _ s (by omega) n hw) rfl rfl qw_505 qw_506 qw_507 qw_41 qw_508 ⟨rfl, by decide, by decide, by decide +kernel⟩ (qx_room (by omega) (by decide)) rfl rfl (Nat.le_of_ble_eq_true rfl) dX1_stallFact_79 ?_
    exact qx_iret C dX1_stallFact_82 rfl (by first | rfl | simp [nFact]) (by first | rfl | simp [nFact])
  refine qx_iload_n C dX1_stallFact_0 rfl rfl ?_
  refine qx_tableOut C (tgt := 83) dX1_stallFact_1 (by have z6 := lv_neT e6 (a := 6) rfl; have z7 := lv_neT e7 (a := 7) rfl; have z8 := lv_neT e8 (a := 8) rfl; have z9 := lv_neT e9 (a := 9) rfl; have z10 := lv_neT e10 (a := 10) rfl; have z11 := lv_neT e11 (a := 11) rfl; omega) (by decide) ?_
  refine qx_iconst C (v := (-1)) dX1_stallFact_83 rfl ?_
  exact qx_iret C dX1_stallFact_84 rfl (by first | rfl | simp [nFact, e6, e7, e8, e9, e10, e11]) (by first | rfl | simp [nFact, e6, e7, e8, e9, e10, e11])
set_option maxRecDepth 20000 in
set_option maxHeartbeats 4000000 in
theorem c_X1_allTook (F : qx_F) (d : Nat) (σ : qx_S)  : qx_cI F shC ⟨"NightStalls$Night", "allTook", "()I"⟩ (.code ⟨"NightStalls$Night", "allTook", "()I"⟩ prog_3_method_9_code 3 ((some FieldType.int)) :: qx_W) (qx_R (d + 1)) [.ref (fa F 7)] σ (qsum (fun s => σ 10 s) 5) (σ) := by
  refine qx_met (by decide) (Nat.le_of_ble_eq_true rfl) (by intro v hv; simp only [List.mem_cons, List.not_mem_nil, or_false] at hv; rcases hv with rfl <;> rfl) (fun K C => ?_)
  refine qx_iconst C (v := 0) dX1_allTook_0 rfl ?_
  refine qx_istore_n C dX1_allTook_1 rfl (Nat.le_of_ble_eq_true rfl) ?_
  refine qx_iconst C (v := 0) dX1_allTook_2 rfl ?_
  refine qx_istore_n C dX1_allTook_3 rfl (Nat.le_of_ble_eq_true rfl) ?_
  refine qx_to (qx_up 5 (P := fun i => qx_X K F shC (σ) 4 [some (.ref (fa F 7)), some (.int (qsum (fun s => σ 10 s) i)), some (.int (nI i))] []) (fun i hi hki => ?_) ?_) rfl rfl
  · refine qx_iload_n C dX1_allTook_4 rfl rfl ?_
    refine qx_iconst C (v := 5) dX1_allTook_5 rfl ?_
    refine qx_icmp_ge_f C (tgt := 24) dX1_allTook_6 (by decide) (nI_ge (b := 5) hi (by decide)) ?_
    refine qx_iload_n C dX1_allTook_9 rfl rfl ?_
    refine qx_aload_n C dX1_allTook_10 rfl rfl ?_
    refine qx_getR C (j := 7) (k := 6) hiX1 rfl rfl (by decide) qw_137 rfl dX1_allTook_11 ?_
    refine qx_iload_n C dX1_allTook_14 rfl rfl ?_
    refine qx_ialdN C (j := 10) rfl ⟨by omega, by decide⟩ dX1_allTook_15 ?_
    refine qx_iadd C dX1_allTook_16 ?_
    refine qx_istore_n C dX1_allTook_17 rfl (Nat.le_of_ble_eq_true rfl) ?_
    refine qx_iincN C dX1_allTook_18 rfl ?_
    refine qx_goto C (tgt := 4) dX1_allTook_21 (by decide) ?_
    exact (qx_to hki rfl rfl)
  · refine qx_iload_n C dX1_allTook_4 rfl rfl ?_
    refine qx_iconst C (v := 5) dX1_allTook_5 rfl ?_
    refine qx_icmp_ge_t C (tgt := 24) dX1_allTook_6 (by decide) (nI_le (a := 5) (b := 5) (Nat.le_refl _) (by decide)) ?_
    refine qx_iload_n C dX1_allTook_24 rfl rfl ?_
    exact qx_iret C dX1_allTook_25 rfl rfl rfl
set_option maxRecDepth 20000 in
set_option maxHeartbeats 4000000 in
theorem c_X1_allBills (F : qx_F) (d : Nat) (σ : qx_S) (n : Nat) (hw : wN σ n) : qx_cI F shC ⟨"NightStalls$Night", "allBills", "()I"⟩ (.code ⟨"NightStalls$Night", "allBills", "()I"⟩ prog_3_method_10_code 3 ((some FieldType.int)) :: qx_W) (qx_R (d + 4)) [.ref (fa F 7)] σ (qsum (nBill σ) 5) (σ) := by
  refine qx_met (by decide) (Nat.le_of_ble_eq_true rfl) (by intro v hv; simp only [List.mem_cons, List.not_mem_nil, or_false] at hv; rcases hv with rfl <;> rfl) (fun K C => ?_)
  refine qx_iconst C (v := 0) dX1_allBills_0 rfl ?_
  refine qx_istore_n C dX1_allBills_1 rfl (Nat.le_of_ble_eq_true rfl) ?_
  refine qx_iconst C (v := 0) dX1_allBills_2 rfl ?_
  refine qx_istore_n C dX1_allBills_3 rfl (Nat.le_of_ble_eq_true rfl) ?_
  refine qx_to (qx_up 5 (P := fun i => qx_X K F shC (σ) 4 [some (.ref (fa F 7)), some (.int (qsum (nBill σ) i)), some (.int (nI i))] []) (fun i hi hki => ?_) ?_) rfl rfl
  · refine qx_iload_n C dX1_allBills_4 rfl rfl ?_
    refine qx_iconst C (v := 5) dX1_allBills_5 rfl ?_
    refine qx_icmp_ge_f C (tgt := 23) dX1_allBills_6 (by decide) (nI_ge (b := 5) hi (by decide)) ?_
    refine qx_iload_n C dX1_allBills_9 rfl rfl ?_
    refine qx_aload_n C dX1_allBills_10 rfl rfl ?_
    refine qx_iload_n C dX1_allBills_11 rfl rfl ?_
    refine qx_callVI C (b := 7) (As := [_]) (n := 1) (c_X1_billOf F (d + 0) _ i (by omega) n hw) rfl rfl qw_505 qw_506 qw_507 qw_41 qw_508 ⟨rfl, by decide, by decide, by decide +kernel⟩ (qx_room (by omega) (by decide)) rfl rfl (Nat.le_of_ble_eq_true rfl) dX1_allBills_12 ?_
    refine qx_iadd C dX1_allBills_15 ?_
    refine qx_istore_n C dX1_allBills_16 rfl (Nat.le_of_ble_eq_true rfl) ?_
    refine qx_iincN C dX1_allBills_17 rfl ?_
    refine qx_goto C (tgt := 4) dX1_allBills_20 (by decide) ?_
    exact (qx_to hki rfl rfl)
  · refine qx_iload_n C dX1_allBills_4 rfl rfl ?_
    refine qx_iconst C (v := 5) dX1_allBills_5 rfl ?_
    refine qx_icmp_ge_t C (tgt := 23) dX1_allBills_6 (by decide) (nI_le (a := 5) (b := 5) (Nat.le_refl _) (by decide)) ?_
    refine qx_iload_n C dX1_allBills_23 rfl rfl ?_
    exact qx_iret C dX1_allBills_24 rfl rfl rfl
