def mTry (night : Int32) (P S : Nat) : Nat → Nat → qx_S → qx_S
  | 0, _, σ => mTakes σ P S
  | k + 1, s, σ => qs (qf (fun _ τ => if mFits (qs τ 8 s (τ 8 s + 1)) s P night then mTry night P S k (s + 1) (qs (qs τ 8 s (τ 8 s + 1)) 8 (s + 1) (-1)) else qs τ 8 s (τ 8 s + 1)) σ (P + 1)) 8 s (qf (fun _ τ => if mFits (qs τ 8 s (τ 8 s + 1)) s P night then mTry night P S k (s + 1) (qs (qs τ 8 s (τ 8 s + 1)) 8 (s + 1) (-1)) else qs τ 8 s (τ 8 s + 1)) σ (P + 1) 8 s + 1)
def mIn (night : Int32) (P S k s : Nat) (_ : Nat) (τ : qx_S) : qx_S := if mFits (qs τ 8 s (τ 8 s + 1)) s P night then mTry night P S k (s + 1) (qs (qs τ 8 s (τ 8 s + 1)) 8 (s + 1) (-1)) else qs τ 8 s (τ 8 s + 1)
theorem mTry_S (night : Int32) (P S k s : Nat) (σ : qx_S) : mTry night P S (k + 1) s σ = qs (qf (mIn night P S k s) σ (P + 1)) 8 s (qf (mIn night P S k s) σ (P + 1) 8 s + 1) := rfl
theorem mIn_a {night : Int32} {P S k s i : Nat} {τ : qx_S} (h : ¬ mFits (qs τ 8 s (τ 8 s + 1)) s P night) : mIn night P S k s i τ = qs τ 8 s (τ 8 s + 1) := if_neg h
theorem mIn_b {night : Int32} {P S k s i : Nat} {τ : qx_S} (h : mFits (qs τ 8 s (τ 8 s + 1)) s P night) : mIn night P S k s i τ = mTry night P S k (s + 1) (qs (qs τ 8 s (τ 8 s + 1)) 8 (s + 1) (-1)) := if_pos h
theorem mCpy_cell {σ : qx_S} {w m : Int32} {j : Nat} (h0 : j ≠ 0) (h9 : j ≠ 9) (i : Nat) : mCpy σ w m i j = σ j := by
  unfold mCpy
  rw [qf_cell (fun _ _ => qs_cell _ _ _ _ h9), qs_cell _ _ _ _ h0, qs_cell _ _ _ _ h0]
theorem mTakes_cell {σ : qx_S} {P S j : Nat} (h0 : j ≠ 0) (h9 : j ≠ 9) : mTakes σ P S j = σ j := by
  unfold mTakes
  split
  · exact mCpy_cell h0 h9 5
  · rfl
theorem mTry_cell {night : Int32} {P S j : Nat} (h0 : j ≠ 0) (h9 : j ≠ 9) (h8 : j ≠ 8) : ∀ (k s : Nat) (σ : qx_S), mTry night P S k s σ j = σ j
  | 0, _, σ => mTakes_cell h0 h9
  | k + 1, s, σ => by
    rw [mTry_S, qs_cell _ _ _ _ h8]
    refine qf_cell (fun i τ => ?_) σ (P + 1)
    unfold mIn
    split
    · rw [mTry_cell h0 h9 h8 k, qs_cell _ _ _ _ h8, qs_cell _ _ _ _ h8]
    · rw [qs_cell _ _ _ _ h8]
theorem mTry_low {night : Int32} {P S j : Nat} : ∀ (k s : Nat) (σ : qx_S), j < s → mTry night P S k s σ 8 j = σ 8 j
  | 0, _, σ, _ => by
    show mTakes σ P S 8 j = σ 8 j
    rw [mTakes_cell (by decide) (by decide)]
  | k + 1, s, σ, hj => by
    rw [mTry_S, qs_slot _ _ _ _ (by omega)]
    have : ∀ i, qf (mIn night P S k s) σ i 8 j = σ 8 j := by
      intro i
      induction i with
      | zero => rfl
      | succ i ih =>
        rw [qf]
        unfold mIn
        split
        · rw [mTry_low k (s + 1) _ (by omega), qs_slot _ _ _ _ (by omega), qs_slot _ _ _ _ (by omega)]; exact ih
        · rw [qs_slot _ _ _ _ (by omega)]; exact ih
    exact this (P + 1)
theorem mIn_cell {night : Int32} {P S k s j : Nat} (h0 : j ≠ 0) (h9 : j ≠ 9) (h8 : j ≠ 8) (σ : qx_S) (i : Nat) : qf (mIn night P S k s) σ i j = σ j := by
  refine qf_cell (fun i τ => ?_) σ i
  unfold mIn
  split
  · rw [mTry_cell h0 h9 h8 k, qs_cell _ _ _ _ h8, qs_cell _ _ _ _ h8]
  · rw [qs_cell _ _ _ _ h8]
theorem mIn_low {night : Int32} {P S k s j : Nat} (hj : j < s) (σ : qx_S) : ∀ i, qf (mIn night P S k s) σ i 8 j = σ 8 j
  | 0 => rfl
  | i + 1 => by
    rw [qf]
    unfold mIn
    split
    · rw [mTry_low k (s + 1) _ (by omega), qs_slot _ _ _ _ (by omega), qs_slot _ _ _ _ (by omega)]; exact mIn_low hj σ i
    · rw [qs_slot _ _ _ _ (by omega)]; exact mIn_low hj σ i
theorem mIn_own {night : Int32} {P S k s : Nat} {σ : qx_S} (h : σ 8 s = -1) : ∀ i, qf (mIn night P S k s) σ i 8 s + 1 = nI i
  | 0 => by rw [qf, h]; rfl
  | i + 1 => by
    have ih := mIn_own h i (night := night) (P := P) (S := S) (k := k)
    rw [qf]
    by_cases h2 : mFits (qs (qf (mIn night P S k s) σ i) 8 s (qf (mIn night P S k s) σ i 8 s + 1)) s P night
    · rw [mIn_b h2, mTry_low k (s + 1) _ (by omega), qs_slot _ _ _ _ (by omega), qs_same, ih, nI_1]
    · rw [mIn_a h2, qs_same, ih, nI_1]
set_option maxRecDepth 20000 in
set_option maxHeartbeats 4000000 in
theorem c_X5_findLayout (F : qx_F) (d : Nat) (σ : qx_S) (night : Int32) (P S : Nat) (hw : mS σ P S) : qx_cV F shM ⟨"NightStallsModel", "findLayout", "(I)V"⟩ (.code ⟨"NightStallsModel", "findLayout", "(I)V"⟩ prog_7_method_21_code 3 ((none : Option FieldType)) :: qx_W) (qx_R (d + 3)) [.ref (fa F 0), .int night] σ (mTry night P S S 0 (qs (qs (qs σ 0 10 (-1)) 0 11 0) 8 0 (-1))) := by
  refine qx_met (by decide) (Nat.le_of_ble_eq_true rfl) (by intro v hv; simp only [List.mem_cons, List.not_mem_nil, or_false] at hv; rcases hv with rfl | rfl <;> rfl) (fun K C => ?_)
  have hP8 := hw.1.2
  have hS5 := hw.2.1.2
  refine qx_aload_n C dX5_findLayout_0 rfl rfl ?_
  refine qx_iconst C (v := (-1)) dX5_findLayout_1 rfl ?_
  refine qx_put C (j := 0) (k := 10) hiX5 rfl rfl (by decide) tyX5 tyX5_ok nmX5 qw_592 rfl rfl rfl rfl dX5_findLayout_2 ?_
  refine qx_aload_n C dX5_findLayout_5 rfl rfl ?_
  refine qx_iconst C (v := 0) dX5_findLayout_6 rfl ?_
  refine qx_put C (j := 0) (k := 11) hiX5 rfl rfl (by decide) tyX5 tyX5_ok nmX5 qw_593 rfl rfl rfl rfl dX5_findLayout_7 ?_
  refine qx_iconst C (v := 0) dX5_findLayout_10 rfl ?_
  refine qx_istore_n C dX5_findLayout_11 rfl (Nat.le_of_ble_eq_true rfl) ?_
  refine qx_aload_n C dX5_findLayout_12 rfl rfl ?_
  refine qx_getR C (j := 0) (k := 8) hiX5 rfl rfl (by decide) qw_590 rfl dX5_findLayout_13 ?_
  refine qx_iconst C (v := 0) dX5_findLayout_16 rfl ?_
  refine qx_iconst C (v := (-1)) dX5_findLayout_17 rfl ?_
  refine qx_iastL C (j := 8) (a := 0) rfl rfl ⟨by decide, by decide⟩ dX5_findLayout_18 ?_
  have key : ∀ (k s : Nat) (τ : qx_S), s + k = S → mS τ P S → τ 1 = σ 1 → (∀ o, o < s → ∃ q, q ≤ 8 ∧ τ 8 o = nI q) → (0 < k → τ 8 s = -1) → qx_X K F shM (mTry night P S k s τ) 19 [some (.ref (fa F 0)), some (.int night), some (.int (nI s + (-1)))] [] → qx_X K F shM τ 19 [some (.ref (fa F 0)), some (.int night), some (.int (nI s))] [] := by
    intro k
    induction k with
    | zero =>
      intro s τ hsk hwt h1 hch h8 kk
      refine qx_iload_n C dX5_findLayout_19 rfl rfl ?_
      refine qx_if_lt_f C (tgt := 96) dX5_findLayout_20 (by decide) (qx_n1 (by omega)) ?_
      refine qx_iload_n C dX5_findLayout_23 rfl rfl ?_
      refine qx_aload_n C dX5_findLayout_24 rfl rfl ?_
      refine qx_getR C (j := 0) (k := 0) hiX5 rfl rfl (by decide) qw_582 rfl dX5_findLayout_25 ?_
      refine qx_iconst C (v := 1) dX5_findLayout_28 rfl ?_
      refine qx_ialdL C (j := 1) (a := 1) rfl rfl ⟨by decide, by decide⟩ dX5_findLayout_29 ?_
      refine qx_top hwt.2.1.1 ?_
      refine qx_icmp_ne_f C (tgt := 43) dX5_findLayout_30 (by decide) (congrArg nI (show s = S by omega)) ?_
      refine qx_aload_n C dX5_findLayout_33 rfl rfl ?_
      refine qx_callVv C (b := 0) (As := []) (n := 0) (c_X5_takes F (d + 1) _ P S hwt (by rw [← show s = S by omega]; exact hch)) rfl rfl qw_686 qw_688 qw_19 qw_44 qw_689 ⟨rfl, by decide, by decide, by decide +kernel⟩ (qx_room (by omega) (by decide)) rfl rfl (Nat.le_of_ble_eq_true rfl) dX5_findLayout_34 ?_
      refine qx_iinc C (v := nI s + (-1)) dX5_findLayout_37 rfl rfl ?_
      refine qx_goto C (tgt := 19) dX5_findLayout_40 (by decide) ?_
      exact kk
    | succ k ih =>
      intro s τ hsk hwt h1 hch h8 kk
      rw [mTry_S] at kk
      refine qx_to (qx_up (P + 1) (P := fun i => qx_X K F shM (qf (mIn night P S k s) τ i) 19 [some (.ref (fa F 0)), some (.int night), some (.int (nI s))] []) (fun i hi hki => ?_) ?_) rfl rfl
      · have hwi : mS (qf (mIn night P S k s) τ i) P S := mS_to hwt (mIn_cell (by decide) (by decide) (by decide) τ i) (mIn_cell (by decide) (by decide) (by decide) τ i) (mIn_cell (by decide) (by decide) (by decide) τ i)
        have hown := mIn_own (night := night) (P := P) (S := S) (k := k) (h8 (by omega)) i
        have hw2 : mS (qs (qf (mIn night P S k s) τ i) 8 s (qf (mIn night P S k s) τ i 8 s + 1)) P S := mS_to hwi (qs_cell _ _ _ _ (by decide)) (qs_cell _ _ _ _ (by decide)) (qs_cell _ _ _ _ (by decide))
        have hch2 : ∀ o, o < s → ∃ q, q ≤ 8 ∧ qs (qf (mIn night P S k s) τ i) 8 s (qf (mIn night P S k s) τ i 8 s + 1) 8 o = nI q := fun o ho => by rw [qs_slot _ _ _ _ (by omega), mIn_low ho τ i]; exact hch o ho
        refine qx_iload_n C dX5_findLayout_19 rfl rfl ?_
        refine qx_if_lt_f C (tgt := 96) dX5_findLayout_20 (by decide) (qx_n1 (by omega)) ?_
        refine qx_iload_n C dX5_findLayout_23 rfl rfl ?_
        refine qx_aload_n C dX5_findLayout_24 rfl rfl ?_
        refine qx_getR C (j := 0) (k := 0) hiX5 rfl rfl (by decide) qw_582 rfl dX5_findLayout_25 ?_
        refine qx_iconst C (v := 1) dX5_findLayout_28 rfl ?_
        refine qx_ialdL C (j := 1) (a := 1) rfl rfl ⟨by decide, by decide⟩ dX5_findLayout_29 ?_
        refine qx_top hwi.2.1.1 ?_
        refine qx_icmp_ne_t C (tgt := 43) dX5_findLayout_30 (by decide) (fun z => absurd ((nI_eq (by omega) (by omega)).mp z) (by omega)) ?_
        refine qx_aload_n C dX5_findLayout_43 rfl rfl ?_
        refine qx_getR C (j := 0) (k := 8) hiX5 rfl rfl (by decide) qw_590 rfl dX5_findLayout_44 ?_
        refine qx_iload_n C dX5_findLayout_47 rfl rfl ?_
        refine qx_dup2 C dX5_findLayout_48 rfl rfl ?_
        refine qx_ialdN C (j := 8) rfl ⟨by omega, by decide⟩ dX5_findLayout_49 ?_
        refine qx_iconst C (v := 1) dX5_findLayout_50 rfl ?_
        refine qx_iadd C dX5_findLayout_51 ?_
        refine qx_iastN C (j := 8) rfl ⟨by omega, by decide⟩ dX5_findLayout_52 ?_
        refine qx_aload_n C dX5_findLayout_53 rfl rfl ?_
        refine qx_getR C (j := 0) (k := 8) hiX5 rfl rfl (by decide) qw_590 rfl dX5_findLayout_54 ?_
        refine qx_iload_n C dX5_findLayout_57 rfl rfl ?_
        refine qx_ialdN C (j := 8) rfl ⟨by omega, by decide⟩ dX5_findLayout_58 ?_
        refine qx_top (z := nI i) (by rw [qs_same]; exact hown) ?_
        refine qx_aload_n C dX5_findLayout_59 rfl rfl ?_
        refine qx_getR C (j := 0) (k := 0) hiX5 rfl rfl (by decide) qw_582 rfl dX5_findLayout_60 ?_
        refine qx_iconst C (v := 0) dX5_findLayout_63 rfl ?_
        refine qx_ialdL C (j := 1) (a := 0) rfl rfl ⟨by decide, by decide⟩ dX5_findLayout_64 ?_
        refine qx_top hw2.1.1 ?_
        refine qx_icmp_le_t C (tgt := 74) dX5_findLayout_65 (by decide) (nI_le (by omega) (by omega)) ?_
        refine qx_aload_n C dX5_findLayout_74 rfl rfl ?_
        refine qx_iload_n C dX5_findLayout_75 rfl rfl ?_
        refine qx_iload_n C dX5_findLayout_76 rfl rfl ?_
        refine qx_callVI C (b := 0) (As := [_, _]) (n := 2) (c_X5_fits F (d + 0) _ s i P S night (by omega) hw2 (by omega) (by rw [qs_same]; exact hown) hch2) rfl rfl qw_690 qw_692 qw_20 qw_44 qw_693 ⟨rfl, by decide, by decide, by decide +kernel⟩ (qx_room (by omega) (by decide)) rfl rfl (Nat.le_of_ble_eq_true rfl) dX5_findLayout_77 ?_
        refine qx_split _ (fun h77 => ?_) (fun h77 => ?_)
        · refine qx_if_eq_f C (tgt := 19) dX5_findLayout_80 (by decide) (by decide) ?_
          refine qx_iincN C dX5_findLayout_83 rfl ?_
          refine qx_aload_n C dX5_findLayout_86 rfl rfl ?_
          refine qx_getR C (j := 0) (k := 8) hiX5 rfl rfl (by decide) qw_590 rfl dX5_findLayout_87 ?_
          refine qx_iload_n C dX5_findLayout_90 rfl rfl ?_
          refine qx_iconst C (v := (-1)) dX5_findLayout_91 rfl ?_
          refine qx_iastN C (j := 8) rfl ⟨by omega, by decide⟩ dX5_findLayout_92 ?_
          refine qx_goto C (tgt := 19) dX5_findLayout_93 (by decide) ?_
          rw [qf, mIn_b h77] at hki
          refine ih (s + 1) _ (by omega) (mS_to hw2 (qs_cell _ _ _ _ (by decide)) (qs_cell _ _ _ _ (by decide)) (qs_cell _ _ _ _ (by decide))) ?_ (fun o ho => ?_) (fun _ => by rw [qs_same]) (by rw [pk_m1]; exact hki)
          · rw [qs_cell _ _ _ _ (by decide), qs_cell _ _ _ _ (by decide), mIn_cell (by decide) (by decide) (by decide)]; exact h1
          · rw [qs_slot _ _ _ _ (by omega)]
            rcases Nat.lt_or_ge o s with z | z
            · exact hch2 o z
            · exact ⟨i, by omega, by rw [show o = s by omega, qs_same]; exact hown⟩
        · refine qx_if_eq_t C (tgt := 19) dX5_findLayout_80 (by decide) (by decide) ?_
          rw [qf, mIn_a h77] at hki
          exact hki
      · have hwi : mS (qf (mIn night P S k s) τ (P + 1)) P S := mS_to hwt (mIn_cell (by decide) (by decide) (by decide) τ (P + 1)) (mIn_cell (by decide) (by decide) (by decide) τ (P + 1)) (mIn_cell (by decide) (by decide) (by decide) τ (P + 1))
        have hown := mIn_own (night := night) (P := P) (S := S) (k := k) (h8 (by omega)) (P + 1)
        have hw2 : mS (qs (qf (mIn night P S k s) τ (P + 1)) 8 s (qf (mIn night P S k s) τ (P + 1) 8 s + 1)) P S := mS_to hwi (qs_cell _ _ _ _ (by decide)) (qs_cell _ _ _ _ (by decide)) (qs_cell _ _ _ _ (by decide))
        refine qx_iload_n C dX5_findLayout_19 rfl rfl ?_
        refine qx_if_lt_f C (tgt := 96) dX5_findLayout_20 (by decide) (qx_n1 (by omega)) ?_
        refine qx_iload_n C dX5_findLayout_23 rfl rfl ?_
        refine qx_aload_n C dX5_findLayout_24 rfl rfl ?_
        refine qx_getR C (j := 0) (k := 0) hiX5 rfl rfl (by decide) qw_582 rfl dX5_findLayout_25 ?_
        refine qx_iconst C (v := 1) dX5_findLayout_28 rfl ?_
        refine qx_ialdL C (j := 1) (a := 1) rfl rfl ⟨by decide, by decide⟩ dX5_findLayout_29 ?_
        refine qx_top hwi.2.1.1 ?_
        refine qx_icmp_ne_t C (tgt := 43) dX5_findLayout_30 (by decide) (fun z => absurd ((nI_eq (by omega) (by omega)).mp z) (by omega)) ?_
        refine qx_aload_n C dX5_findLayout_43 rfl rfl ?_
        refine qx_getR C (j := 0) (k := 8) hiX5 rfl rfl (by decide) qw_590 rfl dX5_findLayout_44 ?_
        refine qx_iload_n C dX5_findLayout_47 rfl rfl ?_
        refine qx_dup2 C dX5_findLayout_48 rfl rfl ?_
        refine qx_ialdN C (j := 8) rfl ⟨by omega, by decide⟩ dX5_findLayout_49 ?_
        refine qx_iconst C (v := 1) dX5_findLayout_50 rfl ?_
        refine qx_iadd C dX5_findLayout_51 ?_
        refine qx_iastN C (j := 8) rfl ⟨by omega, by decide⟩ dX5_findLayout_52 ?_
        refine qx_aload_n C dX5_findLayout_53 rfl rfl ?_
        refine qx_getR C (j := 0) (k := 8) hiX5 rfl rfl (by decide) qw_590 rfl dX5_findLayout_54 ?_
        refine qx_iload_n C dX5_findLayout_57 rfl rfl ?_
        refine qx_ialdN C (j := 8) rfl ⟨by omega, by decide⟩ dX5_findLayout_58 ?_
        refine qx_top (z := nI (P + 1)) (by rw [qs_same]; exact hown) ?_
        refine qx_aload_n C dX5_findLayout_59 rfl rfl ?_
        refine qx_getR C (j := 0) (k := 0) hiX5 rfl rfl (by decide) qw_582 rfl dX5_findLayout_60 ?_
        refine qx_iconst C (v := 0) dX5_findLayout_63 rfl ?_
        refine qx_ialdL C (j := 1) (a := 0) rfl rfl ⟨by decide, by decide⟩ dX5_findLayout_64 ?_
        refine qx_top hw2.1.1 ?_
        refine qx_icmp_le_f C (tgt := 74) dX5_findLayout_65 (by decide) (nI_ge (by omega) (by omega)) ?_
        refine qx_iinc C (v := nI s + (-1)) dX5_findLayout_68 rfl rfl ?_
        refine qx_goto C (tgt := 19) dX5_findLayout_71 (by decide) ?_
        exact kk
  refine key S 0 _ (by omega) (mS_to hw (by simp only [qs_cell _ _ _ _ (show (1 : Nat) ≠ 8 by decide), qs_cell _ _ _ _ (show (1 : Nat) ≠ 0 by decide)]) (by simp only [qs_cell _ _ _ _ (show (2 : Nat) ≠ 8 by decide), qs_cell _ _ _ _ (show (2 : Nat) ≠ 0 by decide)]) (by simp only [qs_cell _ _ _ _ (show (5 : Nat) ≠ 8 by decide), qs_cell _ _ _ _ (show (5 : Nat) ≠ 0 by decide)])) (by simp only [qs_cell _ _ _ _ (show (1 : Nat) ≠ 8 by decide), qs_cell _ _ _ _ (show (1 : Nat) ≠ 0 by decide)]) (fun o ho => absurd ho (Nat.not_lt_zero o)) (fun _ => qs_same _ _ _ _) ?_
  refine qx_iload_n C dX5_findLayout_19 rfl rfl ?_
  refine qx_if_lt_t C (tgt := 96) dX5_findLayout_20 (by decide) (by decide) ?_
  exact qx_vret C dX5_findLayout_96 rfl
def mFind (σ : qx_S) (night : Int32) (P S : Nat) : qx_S := mTry night P S S 0 (qs (qs (qs σ 0 10 (-1)) 0 11 0) 8 0 (-1))
theorem mFind_cell {σ : qx_S} {night : Int32} {P S j : Nat} (h0 : j ≠ 0) (h9 : j ≠ 9) (h8 : j ≠ 8) : mFind σ night P S j = σ j := by
  unfold mFind
  rw [mTry_cell h0 h9 h8, qs_cell _ _ _ _ h8, qs_cell _ _ _ _ h0, qs_cell _ _ _ _ h0]
def mLayout (σ : qx_S) (night s : Int32) (P S : Nat) : Int32 × qx_S := if 0 ≤ night ∧ night ≤ 99 then (if 0 ≤ s ∧ s ≤ σ 1 1 - 1 then ((if mFind σ night P S 9 (ix s) = mFind σ night P S 1 0 then -4 else mFind σ night P S 9 (ix s)), mFind σ night P S) else (-1, σ)) else (-1, σ)
def mWorth (σ : qx_S) (night : Int32) (P S : Nat) : Int32 × qx_S := if 0 ≤ night ∧ night ≤ 99 then (mFind σ night P S 0 10, mFind σ night P S) else (-1, σ)
def mOp0 (σ : qx_S) (night : Int32) (P S : Nat) : qx_S := qs (mClr (mFind σ night P S)) 1 2 1
def mOpS (s : Nat) (τ : qx_S) : qx_S := qs τ 5 (11 * s + 6) (if τ 9 s = τ 1 0 then -1 else τ 9 s)
def mOp (σ : qx_S) (night : Int32) (P S : Nat) (i : Nat) : qx_S := qf mOpS (mOp0 σ night P S) i
def mOpenF (σ : qx_S) (night : Int32) (P S : Nat) : Int32 × qx_S := if mOpen σ then (-3, σ) else if 0 ≤ night ∧ night ≤ 99 then (mStd (mOp σ night P S S) S, mOp σ night P S S) else (-1, σ)
theorem mOp_S (σ : qx_S) (night : Int32) (P S i : Nat) : mOp σ night P S (i + 1) = mOpS i (mOp σ night P S i) := rfl
theorem mOpS_a {s : Nat} {τ : qx_S} (h : τ 9 s = τ 1 0) : mOpS s τ = qs τ 5 (11 * s + 6) (-1) := by unfold mOpS; rw [if_pos h]
theorem mOpS_b {s : Nat} {τ : qx_S} (h : ¬ τ 9 s = τ 1 0) : mOpS s τ = qs τ 5 (11 * s + 6) (τ 9 s) := by unfold mOpS; rw [if_neg h]
theorem mClr_1 {σ : qx_S} {k : Nat} (h3 : k ≠ 3) (h4 : k ≠ 4) (h7 : k ≠ 7) : mClr σ 1 k = σ 1 k := by
  unfold mClr
  rw [qf_cell (j := 1) (fun s τ => by simp only [qs_cell _ _ _ _ (show (1 : Nat) ≠ 5 by decide)]), qf_cell (j := 1) (fun s τ => by simp only [qs_cell _ _ _ _ (show (1 : Nat) ≠ 3 by decide)]), qs_slot _ _ _ _ h7, qs_slot _ _ _ _ h4, qs_slot _ _ _ _ h3]
theorem mOp_1 {σ : qx_S} {night : Int32} {P S : Nat} (i : Nat) : mOp σ night P S i 1 1 = σ 1 1 := by
  unfold mOp
  rw [qf_cell (f := mOpS) (j := 1) (fun s τ => by unfold mOpS; exact qs_cell _ _ _ _ (by decide))]
  unfold mOp0
  rw [qs_slot _ _ _ _ (by decide), mClr_1 (by decide) (by decide) (by decide), mFind_cell (by decide) (by decide) (by decide)]
set_option maxRecDepth 20000 in
set_option maxHeartbeats 4000000 in
theorem c_X5_layout (F : qx_F) (d : Nat) (σ : qx_S) (night s : Int32) (P S : Nat) (hw : mS σ P S) : qx_cI F shM ⟨"NightStallsModel", "layout", "(II)I"⟩ (.code ⟨"NightStallsModel", "layout", "(II)I"⟩ prog_7_method_22_code 3 ((some FieldType.int)) :: qx_W) (qx_R (d + 4)) [.ref (fa F 0), .int night, .int s] σ ((mLayout σ night s P S).1) ((mLayout σ night s P S).2) := by
  refine qx_met (by decide) (Nat.le_of_ble_eq_true rfl) (by intro v hv; simp only [List.mem_cons, List.not_mem_nil, or_false] at hv; rcases hv with rfl | rfl | rfl <;> rfl) (fun K C => ?_)
  have hS5 := hw.2.1.2
  refine qx_iload_n C dX5_layout_0 rfl rfl ?_
  refine qx_callSI C (As := [_]) (n := 1) (c_X5_isNight F (d + 1) _ _) qw_679 qw_680 qw_44 qw_681 ⟨rfl, by decide, by decide, by decide +kernel⟩ (qx_room (by omega) (by decide)) rfl rfl (Nat.le_of_ble_eq_true rfl) dX5_layout_1 ?_
  refine qx_split _ (fun h1 => ?_) (fun h1 => ?_)
  · refine qx_if_eq_f C (tgt := 15) dX5_layout_4 (by decide) (by decide) ?_
    refine qx_aload_n C dX5_layout_7 rfl rfl ?_
    refine qx_iload_n C dX5_layout_8 rfl rfl ?_
    refine qx_callVI C (b := 0) (As := [_]) (n := 1) (c_X5_isStall F (d + 1) _ _) rfl rfl qw_671 qw_673 qw_17 qw_44 qw_674 ⟨rfl, by decide, by decide, by decide +kernel⟩ (qx_room (by omega) (by decide)) rfl rfl (Nat.le_of_ble_eq_true rfl) dX5_layout_9 ?_
    refine qx_split _ (fun h9 => ?_) (fun h9 => ?_)
    · obtain ⟨s0, hs0, rfl⟩ := qx_has hw.2.1.1 (by omega) h9
      have is0 : (nI s0).toNatClampNeg = s0 := nI_clamp (by omega)
      refine qx_if_ne_t C (tgt := 17) dX5_layout_12 (by decide) (by decide) ?_
      refine qx_aload_n C dX5_layout_17 rfl rfl ?_
      refine qx_iload_n C dX5_layout_18 rfl rfl ?_
      refine qx_callVv C (b := 0) (As := [_]) (n := 1) (c_X5_findLayout F (d + 0) _ _ P S hw) rfl rfl qw_682 qw_684 qw_18 qw_44 qw_685 ⟨rfl, by decide, by decide, by decide +kernel⟩ (qx_room (by omega) (by decide)) rfl rfl (Nat.le_of_ble_eq_true rfl) dX5_layout_19 ?_
      refine qx_st (τ := mFind σ night P S) rfl ?_
      refine qx_aload_n C dX5_layout_22 rfl rfl ?_
      refine qx_getR C (j := 0) (k := 9) hiX5 rfl rfl (by decide) qw_591 rfl dX5_layout_23 ?_
      refine qx_iload_n C dX5_layout_26 rfl rfl ?_
      refine qx_ialdN C (j := 9) rfl ⟨by omega, by decide⟩ dX5_layout_27 ?_
      refine qx_aload_n C dX5_layout_28 rfl rfl ?_
      refine qx_getR C (j := 0) (k := 0) hiX5 rfl rfl (by decide) qw_582 rfl dX5_layout_29 ?_
      refine qx_iconst C (v := 0) dX5_layout_32 rfl ?_
      refine qx_ialdL C (j := 1) (a := 0) rfl rfl ⟨by decide, by decide⟩ dX5_layout_33 ?_
      refine qx_icmp_ne C (tgt := 42) dX5_layout_34 (by decide) (fun h34 => ?_) (fun h34 => ?_)
      · refine qx_aload_n C dX5_layout_42 rfl rfl ?_
        refine qx_getR C (j := 0) (k := 9) hiX5 rfl rfl (by decide) qw_591 rfl dX5_layout_43 ?_
        refine qx_iload_n C dX5_layout_46 rfl rfl ?_
        refine qx_ialdN C (j := 9) rfl ⟨by omega, by decide⟩ dX5_layout_47 ?_
        exact qx_iret C dX5_layout_48 rfl (by unfold mLayout; rw [if_pos h1, if_pos h9]; simp only [ix, is0]; first | (rw [if_pos h34]; first | done | rfl) | (rw [if_neg h34]; first | done | rfl)) (by unfold mLayout; rw [if_pos h1, if_pos h9]; first | done | rfl)
      · refine qx_bipush C (v := (-4)) dX5_layout_37 rfl ?_
        refine qx_goto C (tgt := 48) dX5_layout_39 (by decide) ?_
        exact qx_iret C dX5_layout_48 rfl (by unfold mLayout; rw [if_pos h1, if_pos h9]; simp only [ix, is0]; first | (rw [if_pos h34]; first | done | rfl) | (rw [if_neg h34]; first | done | rfl)) (by unfold mLayout; rw [if_pos h1, if_pos h9]; first | done | rfl)
    · refine qx_if_ne_f C (tgt := 17) dX5_layout_12 (by decide) (by decide) ?_
      refine qx_iconst C (v := (-1)) dX5_layout_15 rfl ?_
      exact qx_iret C dX5_layout_16 rfl (by first | rfl | simp [mLayout, mFind, h1, h9]) (by first | rfl | simp [mLayout, mFind, h1, h9])
  · refine qx_if_eq_t C (tgt := 15) dX5_layout_4 (by decide) (by decide) ?_
    refine qx_iconst C (v := (-1)) dX5_layout_15 rfl ?_
    exact qx_iret C dX5_layout_16 rfl (by first | rfl | simp [mLayout, mFind, h1]) (by first | rfl | simp [mLayout, mFind, h1])
set_option maxRecDepth 20000 in
set_option maxHeartbeats 4000000 in
theorem c_X5_worth (F : qx_F) (d : Nat) (σ : qx_S) (night : Int32) (P S : Nat) (hw : mS σ P S) : qx_cI F shM ⟨"NightStallsModel", "worth", "(I)I"⟩ (.code ⟨"NightStallsModel", "worth", "(I)I"⟩ prog_7_method_23_code 2 ((some FieldType.int)) :: qx_W) (qx_R (d + 4)) [.ref (fa F 0), .int night] σ ((mWorth σ night P S).1) ((mWorth σ night P S).2) := by
  refine qx_met (by decide) (Nat.le_of_ble_eq_true rfl) (by intro v hv; simp only [List.mem_cons, List.not_mem_nil, or_false] at hv; rcases hv with rfl | rfl <;> rfl) (fun K C => ?_)
  refine qx_iload_n C dX5_worth_0 rfl rfl ?_
  refine qx_callSI C (As := [_]) (n := 1) (c_X5_isNight F (d + 1) _ _) qw_679 qw_680 qw_44 qw_681 ⟨rfl, by decide, by decide, by decide +kernel⟩ (qx_room (by omega) (by decide)) rfl rfl (Nat.le_of_ble_eq_true rfl) dX5_worth_1 ?_
  refine qx_split _ (fun h1 => ?_) (fun h1 => ?_)
  · refine qx_if_ne_t C (tgt := 9) dX5_worth_4 (by decide) (by decide) ?_
    refine qx_aload_n C dX5_worth_9 rfl rfl ?_
    refine qx_iload_n C dX5_worth_10 rfl rfl ?_
    refine qx_callVv C (b := 0) (As := [_]) (n := 1) (c_X5_findLayout F (d + 0) _ _ P S hw) rfl rfl qw_682 qw_684 qw_18 qw_44 qw_685 ⟨rfl, by decide, by decide, by decide +kernel⟩ (qx_room (by omega) (by decide)) rfl rfl (Nat.le_of_ble_eq_true rfl) dX5_worth_11 ?_
    refine qx_st (τ := mFind σ night P S) rfl ?_
    refine qx_aload_n C dX5_worth_14 rfl rfl ?_
    refine qx_getI C (j := 0) (k := 10) hiX5 rfl rfl (by decide) qw_592 rfl dX5_worth_15 ?_
    exact qx_iret C dX5_worth_18 rfl (by first | rfl | simp [mWorth, h1]) (by first | rfl | simp [mWorth, h1])
  · refine qx_if_ne_f C (tgt := 9) dX5_worth_4 (by decide) (by decide) ?_
    refine qx_iconst C (v := (-1)) dX5_worth_7 rfl ?_
    exact qx_iret C dX5_worth_8 rfl (by first | rfl | simp [mWorth, h1]) (by first | rfl | simp [mWorth, h1])
set_option maxRecDepth 20000 in
set_option maxHeartbeats 4000000 in
theorem c_X5_open (F : qx_F) (d : Nat) (σ : qx_S) (night : Int32) (P S : Nat) (hw : mS σ P S) : qx_cI F shM ⟨"NightStallsModel", "open", "(I)I"⟩ (.code ⟨"NightStallsModel", "open", "(I)I"⟩ prog_7_method_25_code 3 ((some FieldType.int)) :: qx_W) (qx_R (d + 4)) [.ref (fa F 0), .int night] σ ((mOpenF σ night P S).1) ((mOpenF σ night P S).2) := by
  refine qx_met (by decide) (Nat.le_of_ble_eq_true rfl) (by intro v hv; simp only [List.mem_cons, List.not_mem_nil, or_false] at hv; rcases hv with rfl | rfl <;> rfl) (fun K C => ?_)
  have hS5 := hw.2.1.2
  refine qx_aload_n C dX5_open_0 rfl rfl ?_
  refine qx_callVI C (b := 0) (As := []) (n := 0) (c_X5_isOpen F (d + 2) _ ) rfl rfl qw_626 qw_628 qw_14 qw_44 qw_629 ⟨rfl, by decide, by decide, by decide +kernel⟩ (qx_room (by omega) (by decide)) rfl rfl (Nat.le_of_ble_eq_true rfl) dX5_open_1 ?_
  refine qx_split _ (fun h1 => ?_) (fun h1 => ?_)
  · refine qx_if_eq_f C (tgt := 10) dX5_open_4 (by decide) (by decide) ?_
    refine qx_bipush C (v := (-3)) dX5_open_7 rfl ?_
    exact qx_iret C dX5_open_9 rfl (by first | rfl | simp [mOpen, mOpenF, h1]) (by first | rfl | simp [mOpen, mOpenF, h1])
  · refine qx_if_eq_t C (tgt := 10) dX5_open_4 (by decide) (by decide) ?_
    refine qx_iload_n C dX5_open_10 rfl rfl ?_
    refine qx_callSI C (As := [_]) (n := 1) (c_X5_isNight F (d + 1) _ _) qw_679 qw_680 qw_44 qw_681 ⟨rfl, by decide, by decide, by decide +kernel⟩ (qx_room (by omega) (by decide)) rfl rfl (Nat.le_of_ble_eq_true rfl) dX5_open_11 ?_
    refine qx_split _ (fun h11 => ?_) (fun h11 => ?_)
    · refine qx_if_ne_t C (tgt := 19) dX5_open_14 (by decide) (by decide) ?_
      refine qx_aload_n C dX5_open_19 rfl rfl ?_
      refine qx_iload_n C dX5_open_20 rfl rfl ?_
      refine qx_callVv C (b := 0) (As := [_]) (n := 1) (c_X5_findLayout F (d + 0) _ _ P S hw) rfl rfl qw_682 qw_684 qw_18 qw_44 qw_685 ⟨rfl, by decide, by decide, by decide +kernel⟩ (qx_room (by omega) (by decide)) rfl rfl (Nat.le_of_ble_eq_true rfl) dX5_open_21 ?_
      refine qx_st (τ := mFind σ night P S) rfl ?_
      refine qx_aload_n C dX5_open_24 rfl rfl ?_
      refine qx_callVv C (b := 0) (As := []) (n := 0) (c_X5_clear F (d + 2) _ ) rfl rfl qw_633 qw_635 qw_15 qw_44 qw_636 ⟨rfl, by decide, by decide, by decide +kernel⟩ (qx_room (by omega) (by decide)) rfl rfl (Nat.le_of_ble_eq_true rfl) dX5_open_25 ?_
      refine qx_aload_n C dX5_open_28 rfl rfl ?_
      refine qx_getR C (j := 0) (k := 0) hiX5 rfl rfl (by decide) qw_582 rfl dX5_open_29 ?_
      refine qx_iconst C (v := 2) dX5_open_32 rfl ?_
      refine qx_iconst C (v := 1) dX5_open_33 rfl ?_
      refine qx_iastL C (j := 1) (a := 2) rfl rfl ⟨by decide, by decide⟩ dX5_open_34 ?_
      refine qx_iconst C (v := 0) dX5_open_35 rfl ?_
      refine qx_istore_n C dX5_open_36 rfl (Nat.le_of_ble_eq_true rfl) ?_
      refine qx_to (qx_up S (P := fun i => qx_X K F shM (mOp σ night P S i) 37 [some (.ref (fa F 0)), some (.int night), some (.int (nI i))] []) (fun i hi hki => ?_) ?_) rfl rfl
      · refine qx_iload_n C dX5_open_37 rfl rfl ?_
        refine qx_aload_n C dX5_open_38 rfl rfl ?_
        refine qx_getR C (j := 0) (k := 0) hiX5 rfl rfl (by decide) qw_582 rfl dX5_open_39 ?_
        refine qx_iconst C (v := 1) dX5_open_42 rfl ?_
        refine qx_ialdL C (j := 1) (a := 1) rfl rfl ⟨by decide, by decide⟩ dX5_open_43 ?_
        refine qx_icmp_ge_f C (tgt := 90) dX5_open_44 (by decide) (by rw [mOp_1, hw.2.1.1]; exact nI_ge hi (by omega)) ?_
        refine qx_aload_n C dX5_open_47 rfl rfl ?_
        refine qx_getR C (j := 0) (k := 4) hiX5 rfl rfl (by decide) qw_586 rfl dX5_open_48 ?_
        refine qx_bipush C (v := 11) dX5_open_51 rfl ?_
        refine qx_iload_n C dX5_open_53 rfl rfl ?_
        refine qx_imulE C dX5_open_54 (pk_mul 11 i) ?_
        refine qx_bipush C (v := 6) dX5_open_55 rfl ?_
        refine qx_iaddE C dX5_open_57 (nI_add (11 * i) 6) ?_
        refine qx_aload_n C dX5_open_58 rfl rfl ?_
        refine qx_getR C (j := 0) (k := 9) hiX5 rfl rfl (by decide) qw_591 rfl dX5_open_59 ?_
        refine qx_iload_n C dX5_open_62 rfl rfl ?_
        refine qx_ialdN C (j := 9) rfl ⟨by omega, by decide⟩ dX5_open_63 ?_
        refine qx_aload_n C dX5_open_64 rfl rfl ?_
        refine qx_getR C (j := 0) (k := 0) hiX5 rfl rfl (by decide) qw_582 rfl dX5_open_65 ?_
        refine qx_iconst C (v := 0) dX5_open_68 rfl ?_
        refine qx_ialdL C (j := 1) (a := 0) rfl rfl ⟨by decide, by decide⟩ dX5_open_69 ?_
        refine qx_icmp_ne C (tgt := 77) dX5_open_70 (by decide) (fun h70 => ?_) (fun h70 => ?_)
        · refine qx_aload_n C dX5_open_77 rfl rfl ?_
          refine qx_getR C (j := 0) (k := 9) hiX5 rfl rfl (by decide) qw_591 rfl dX5_open_78 ?_
          refine qx_iload_n C dX5_open_81 rfl rfl ?_
          refine qx_ialdN C (j := 9) rfl ⟨by omega, by decide⟩ dX5_open_82 ?_
          refine qx_iastN C (j := 5) rfl ⟨by omega, by decide⟩ dX5_open_83 ?_
          refine qx_iincN C dX5_open_84 rfl ?_
          refine qx_goto C (tgt := 37) dX5_open_87 (by decide) ?_
          exact (qx_to hki (by rw [mOp_S, mOpS_b h70]) rfl)
        · refine qx_iconst C (v := (-1)) dX5_open_73 rfl ?_
          refine qx_goto C (tgt := 83) dX5_open_74 (by decide) ?_
          refine qx_iastN C (j := 5) rfl ⟨by omega, by decide⟩ dX5_open_83 ?_
          refine qx_iincN C dX5_open_84 rfl ?_
          refine qx_goto C (tgt := 37) dX5_open_87 (by decide) ?_
          exact (qx_to hki (by rw [mOp_S, mOpS_a h70]) rfl)
      · refine qx_iload_n C dX5_open_37 rfl rfl ?_
        refine qx_aload_n C dX5_open_38 rfl rfl ?_
        refine qx_getR C (j := 0) (k := 0) hiX5 rfl rfl (by decide) qw_582 rfl dX5_open_39 ?_
        refine qx_iconst C (v := 1) dX5_open_42 rfl ?_
        refine qx_ialdL C (j := 1) (a := 1) rfl rfl ⟨by decide, by decide⟩ dX5_open_43 ?_
        refine qx_icmp_ge_t C (tgt := 90) dX5_open_44 (by decide) (by rw [mOp_1, hw.2.1.1]; exact nI_le (Nat.le_refl _) (by omega)) ?_
        refine qx_aload_n C dX5_open_90 rfl rfl ?_
        refine qx_callVI C (b := 0) (As := []) (n := 0) (c_X5_standing F (d + 1) _ S (by rw [mOp_1]; exact hw.2.1.1) hw.2.1.2) rfl rfl qw_705 qw_707 qw_21 qw_44 qw_708 ⟨rfl, by decide, by decide, by decide +kernel⟩ (qx_room (by omega) (by decide)) rfl rfl (Nat.le_of_ble_eq_true rfl) dX5_open_91 ?_
        exact qx_iret C dX5_open_94 rfl (by unfold mOpenF; rw [if_neg h1, if_pos h11]) (by unfold mOpenF; rw [if_neg h1, if_pos h11])
    · refine qx_if_ne_f C (tgt := 19) dX5_open_14 (by decide) (by decide) ?_
      refine qx_iconst C (v := (-1)) dX5_open_17 rfl ?_
      exact qx_iret C dX5_open_18 rfl (by first | rfl | simp [mOpen, mOpenF, h1, h11]) (by first | rfl | simp [mOpen, mOpenF, h1, h11])
