def mMv1 (j : Nat) (a : Nat) (k : Nat) (τ : qx_S) : qx_S := qs (qs τ 7 (a + k) (τ j k)) 0 12 (nI (a + k + 1))
def mMv0 (j : Nat) (a : Nat) (k : Nat) (τ : qx_S) : qx_S := qs (qs τ j k (τ 7 (a + k))) 0 12 (nI (a + k + 1))
theorem mMv1_at (j a : Nat) (σ : qx_S) (h : σ 0 12 = nI a) : ∀ i, qf (mMv1 j a) σ i 0 12 = nI (a + i)
  | 0 => h
  | i + 1 => by rw [qf]; unfold mMv1; rw [qs_same]; rfl
theorem mMv0_at (j a : Nat) (σ : qx_S) (h : σ 0 12 = nI a) : ∀ i, qf (mMv0 j a) σ i 0 12 = nI (a + i)
  | 0 => h
  | i + 1 => by rw [qf]; unfold mMv0; rw [qs_same]; rfl
set_option maxRecDepth 20000 in
set_option maxHeartbeats 4000000 in
theorem c_X5_move1_1 (F : qx_F) (d : Nat) (σ : qx_S) (a : Nat) (ha : σ 0 12 = nI a) (ha2 : a + 8 ≤ 260) : qx_cV F shM ⟨"NightStallsModel", "move", "([IIZ)V"⟩ (.code ⟨"NightStallsModel", "move", "([IIZ)V"⟩ prog_7_method_50_code 5 ((none : Option FieldType)) :: qx_W) (qx_R (d + 1)) [.ref (fa F 0), .ref (fa F 1), .int 8, .int 1] σ (qf (mMv1 1 a) σ 8) := by
  refine qx_met (by decide) (Nat.le_of_ble_eq_true rfl) (by intro v hv; simp only [List.mem_cons, List.not_mem_nil, or_false] at hv; rcases hv with rfl | rfl | rfl | rfl <;> rfl) (fun K C => ?_)
  refine qx_iconst C (v := 0) dX5_move_0 rfl ?_
  refine qx_istore C dX5_move_1 (Nat.le_of_ble_eq_true rfl) ?_
  refine qx_to (qx_up 8 (P := fun i => qx_X K F shM (qf (mMv1 1 a) σ i) 3 [some (.ref (fa F 0)), some (.ref (fa F 1)), some (.int 8), some (.int 1), some (.int (nI i))] []) (fun i hi hki => ?_) ?_) rfl rfl
  · have hat := mMv1_at 1 a σ ha i
    refine qx_iload C dX5_move_3 rfl ?_
    refine qx_iload_n C dX5_move_5 rfl rfl ?_
    refine qx_icmp_ge_f C (tgt := 58) dX5_move_6 (by decide) (nI_ge (b := 8) hi (by decide)) ?_
    refine qx_iload_n C dX5_move_9 rfl rfl ?_
    refine qx_if_eq_f C (tgt := 29) dX5_move_10 (by decide) (by decide) ?_
    refine qx_aload_n C dX5_move_13 rfl rfl ?_
    refine qx_getR C (j := 0) (k := 7) hiX5 rfl rfl (by decide) qw_589 rfl dX5_move_14 ?_
    refine qx_aload_n C dX5_move_17 rfl rfl ?_
    refine qx_getI C (j := 0) (k := 12) hiX5 rfl rfl (by decide) qw_594 rfl dX5_move_18 ?_
    refine qx_top hat ?_
    refine qx_aload_n C dX5_move_21 rfl rfl ?_
    refine qx_iload C dX5_move_22 rfl ?_
    refine qx_ialdN C (j := 1) rfl ⟨by omega, by decide⟩ dX5_move_24 ?_
    refine qx_iastN C (j := 7) rfl ⟨by omega, by decide⟩ dX5_move_25 ?_
    refine qx_goto C (tgt := 42) dX5_move_26 (by decide) ?_
    refine qx_aload_n C dX5_move_42 rfl rfl ?_
    refine qx_dup C dX5_move_43 rfl ?_
    refine qx_getI C (j := 0) (k := 12) hiX5 rfl rfl (by decide) qw_594 rfl dX5_move_44 ?_
    refine qx_top (z := nI (a + i)) ?_ ?_
    · rw [qs_cell _ _ _ _ (by decide)]; exact hat
    refine qx_iconst C (v := 1) dX5_move_47 rfl ?_
    refine qx_iaddE C dX5_move_48 (nI_add (a + i) 1) ?_
    refine qx_put C (j := 0) (k := 12) hiX5 rfl rfl (by decide) tyX5 tyX5_ok nmX5 qw_594 rfl rfl rfl rfl dX5_move_49 ?_
    refine qx_iincN C dX5_move_52 rfl ?_
    refine qx_goto C (tgt := 3) dX5_move_55 (by decide) ?_
    exact (qx_to hki rfl rfl)
  · refine qx_iload C dX5_move_3 rfl ?_
    refine qx_iload_n C dX5_move_5 rfl rfl ?_
    refine qx_icmp_ge_t C (tgt := 58) dX5_move_6 (by decide) (nI_le (a := 8) (b := 8) (Nat.le_refl _) (by decide)) ?_
    exact qx_vret C dX5_move_58 rfl
set_option maxRecDepth 20000 in
set_option maxHeartbeats 4000000 in
theorem c_X5_move1_2 (F : qx_F) (d : Nat) (σ : qx_S) (a : Nat) (ha : σ 0 12 = nI a) (ha2 : a + 24 ≤ 260) : qx_cV F shM ⟨"NightStallsModel", "move", "([IIZ)V"⟩ (.code ⟨"NightStallsModel", "move", "([IIZ)V"⟩ prog_7_method_50_code 5 ((none : Option FieldType)) :: qx_W) (qx_R (d + 1)) [.ref (fa F 0), .ref (fa F 2), .int 24, .int 1] σ (qf (mMv1 2 a) σ 24) := by
  refine qx_met (by decide) (Nat.le_of_ble_eq_true rfl) (by intro v hv; simp only [List.mem_cons, List.not_mem_nil, or_false] at hv; rcases hv with rfl | rfl | rfl | rfl <;> rfl) (fun K C => ?_)
  refine qx_iconst C (v := 0) dX5_move_0 rfl ?_
  refine qx_istore C dX5_move_1 (Nat.le_of_ble_eq_true rfl) ?_
  refine qx_to (qx_up 24 (P := fun i => qx_X K F shM (qf (mMv1 2 a) σ i) 3 [some (.ref (fa F 0)), some (.ref (fa F 2)), some (.int 24), some (.int 1), some (.int (nI i))] []) (fun i hi hki => ?_) ?_) rfl rfl
  · have hat := mMv1_at 2 a σ ha i
    refine qx_iload C dX5_move_3 rfl ?_
    refine qx_iload_n C dX5_move_5 rfl rfl ?_
    refine qx_icmp_ge_f C (tgt := 58) dX5_move_6 (by decide) (nI_ge (b := 24) hi (by decide)) ?_
    refine qx_iload_n C dX5_move_9 rfl rfl ?_
    refine qx_if_eq_f C (tgt := 29) dX5_move_10 (by decide) (by decide) ?_
    refine qx_aload_n C dX5_move_13 rfl rfl ?_
    refine qx_getR C (j := 0) (k := 7) hiX5 rfl rfl (by decide) qw_589 rfl dX5_move_14 ?_
    refine qx_aload_n C dX5_move_17 rfl rfl ?_
    refine qx_getI C (j := 0) (k := 12) hiX5 rfl rfl (by decide) qw_594 rfl dX5_move_18 ?_
    refine qx_top hat ?_
    refine qx_aload_n C dX5_move_21 rfl rfl ?_
    refine qx_iload C dX5_move_22 rfl ?_
    refine qx_ialdN C (j := 2) rfl ⟨by omega, by decide⟩ dX5_move_24 ?_
    refine qx_iastN C (j := 7) rfl ⟨by omega, by decide⟩ dX5_move_25 ?_
    refine qx_goto C (tgt := 42) dX5_move_26 (by decide) ?_
    refine qx_aload_n C dX5_move_42 rfl rfl ?_
    refine qx_dup C dX5_move_43 rfl ?_
    refine qx_getI C (j := 0) (k := 12) hiX5 rfl rfl (by decide) qw_594 rfl dX5_move_44 ?_
    refine qx_top (z := nI (a + i)) ?_ ?_
    · rw [qs_cell _ _ _ _ (by decide)]; exact hat
    refine qx_iconst C (v := 1) dX5_move_47 rfl ?_
    refine qx_iaddE C dX5_move_48 (nI_add (a + i) 1) ?_
    refine qx_put C (j := 0) (k := 12) hiX5 rfl rfl (by decide) tyX5 tyX5_ok nmX5 qw_594 rfl rfl rfl rfl dX5_move_49 ?_
    refine qx_iincN C dX5_move_52 rfl ?_
    refine qx_goto C (tgt := 3) dX5_move_55 (by decide) ?_
    exact (qx_to hki rfl rfl)
  · refine qx_iload C dX5_move_3 rfl ?_
    refine qx_iload_n C dX5_move_5 rfl rfl ?_
    refine qx_icmp_ge_t C (tgt := 58) dX5_move_6 (by decide) (nI_le (a := 24) (b := 24) (Nat.le_refl _) (by decide)) ?_
    exact qx_vret C dX5_move_58 rfl
set_option maxRecDepth 20000 in
set_option maxHeartbeats 4000000 in
theorem c_X5_move1_3 (F : qx_F) (d : Nat) (σ : qx_S) (a : Nat) (ha : σ 0 12 = nI a) (ha2 : a + 9 ≤ 260) : qx_cV F shM ⟨"NightStallsModel", "move", "([IIZ)V"⟩ (.code ⟨"NightStallsModel", "move", "([IIZ)V"⟩ prog_7_method_50_code 5 ((none : Option FieldType)) :: qx_W) (qx_R (d + 1)) [.ref (fa F 0), .ref (fa F 3), .int 9, .int 1] σ (qf (mMv1 3 a) σ 9) := by
  refine qx_met (by decide) (Nat.le_of_ble_eq_true rfl) (by intro v hv; simp only [List.mem_cons, List.not_mem_nil, or_false] at hv; rcases hv with rfl | rfl | rfl | rfl <;> rfl) (fun K C => ?_)
  refine qx_iconst C (v := 0) dX5_move_0 rfl ?_
  refine qx_istore C dX5_move_1 (Nat.le_of_ble_eq_true rfl) ?_
  refine qx_to (qx_up 9 (P := fun i => qx_X K F shM (qf (mMv1 3 a) σ i) 3 [some (.ref (fa F 0)), some (.ref (fa F 3)), some (.int 9), some (.int 1), some (.int (nI i))] []) (fun i hi hki => ?_) ?_) rfl rfl
  · have hat := mMv1_at 3 a σ ha i
    refine qx_iload C dX5_move_3 rfl ?_
    refine qx_iload_n C dX5_move_5 rfl rfl ?_
    refine qx_icmp_ge_f C (tgt := 58) dX5_move_6 (by decide) (nI_ge (b := 9) hi (by decide)) ?_
    refine qx_iload_n C dX5_move_9 rfl rfl ?_
    refine qx_if_eq_f C (tgt := 29) dX5_move_10 (by decide) (by decide) ?_
    refine qx_aload_n C dX5_move_13 rfl rfl ?_
    refine qx_getR C (j := 0) (k := 7) hiX5 rfl rfl (by decide) qw_589 rfl dX5_move_14 ?_
    refine qx_aload_n C dX5_move_17 rfl rfl ?_
    refine qx_getI C (j := 0) (k := 12) hiX5 rfl rfl (by decide) qw_594 rfl dX5_move_18 ?_
    refine qx_top hat ?_
    refine qx_aload_n C dX5_move_21 rfl rfl ?_
    refine qx_iload C dX5_move_22 rfl ?_
    refine qx_ialdN C (j := 3) rfl ⟨by omega, by decide⟩ dX5_move_24 ?_
    refine qx_iastN C (j := 7) rfl ⟨by omega, by decide⟩ dX5_move_25 ?_
    refine qx_goto C (tgt := 42) dX5_move_26 (by decide) ?_
    refine qx_aload_n C dX5_move_42 rfl rfl ?_
    refine qx_dup C dX5_move_43 rfl ?_
    refine qx_getI C (j := 0) (k := 12) hiX5 rfl rfl (by decide) qw_594 rfl dX5_move_44 ?_
    refine qx_top (z := nI (a + i)) ?_ ?_
    · rw [qs_cell _ _ _ _ (by decide)]; exact hat
    refine qx_iconst C (v := 1) dX5_move_47 rfl ?_
    refine qx_iaddE C dX5_move_48 (nI_add (a + i) 1) ?_
    refine qx_put C (j := 0) (k := 12) hiX5 rfl rfl (by decide) tyX5 tyX5_ok nmX5 qw_594 rfl rfl rfl rfl dX5_move_49 ?_
    refine qx_iincN C dX5_move_52 rfl ?_
    refine qx_goto C (tgt := 3) dX5_move_55 (by decide) ?_
    exact (qx_to hki rfl rfl)
  · refine qx_iload C dX5_move_3 rfl ?_
    refine qx_iload_n C dX5_move_5 rfl rfl ?_
    refine qx_icmp_ge_t C (tgt := 58) dX5_move_6 (by decide) (nI_le (a := 9) (b := 9) (Nat.le_refl _) (by decide)) ?_
    exact qx_vret C dX5_move_58 rfl
set_option maxRecDepth 20000 in
set_option maxHeartbeats 4000000 in
theorem c_X5_move1_4 (F : qx_F) (d : Nat) (σ : qx_S) (a : Nat) (ha : σ 0 12 = nI a) (ha2 : a + 16 ≤ 260) : qx_cV F shM ⟨"NightStallsModel", "move", "([IIZ)V"⟩ (.code ⟨"NightStallsModel", "move", "([IIZ)V"⟩ prog_7_method_50_code 5 ((none : Option FieldType)) :: qx_W) (qx_R (d + 1)) [.ref (fa F 0), .ref (fa F 4), .int 16, .int 1] σ (qf (mMv1 4 a) σ 16) := by
  refine qx_met (by decide) (Nat.le_of_ble_eq_true rfl) (by intro v hv; simp only [List.mem_cons, List.not_mem_nil, or_false] at hv; rcases hv with rfl | rfl | rfl | rfl <;> rfl) (fun K C => ?_)
  refine qx_iconst C (v := 0) dX5_move_0 rfl ?_
  refine qx_istore C dX5_move_1 (Nat.le_of_ble_eq_true rfl) ?_
  refine qx_to (qx_up 16 (P := fun i => qx_X K F shM (qf (mMv1 4 a) σ i) 3 [some (.ref (fa F 0)), some (.ref (fa F 4)), some (.int 16), some (.int 1), some (.int (nI i))] []) (fun i hi hki => ?_) ?_) rfl rfl
  · have hat := mMv1_at 4 a σ ha i
    refine qx_iload C dX5_move_3 rfl ?_
    refine qx_iload_n C dX5_move_5 rfl rfl ?_
    refine qx_icmp_ge_f C (tgt := 58) dX5_move_6 (by decide) (nI_ge (b := 16) hi (by decide)) ?_
    refine qx_iload_n C dX5_move_9 rfl rfl ?_
    refine qx_if_eq_f C (tgt := 29) dX5_move_10 (by decide) (by decide) ?_
    refine qx_aload_n C dX5_move_13 rfl rfl ?_
    refine qx_getR C (j := 0) (k := 7) hiX5 rfl rfl (by decide) qw_589 rfl dX5_move_14 ?_
    refine qx_aload_n C dX5_move_17 rfl rfl ?_
    refine qx_getI C (j := 0) (k := 12) hiX5 rfl rfl (by decide) qw_594 rfl dX5_move_18 ?_
    refine qx_top hat ?_
    refine qx_aload_n C dX5_move_21 rfl rfl ?_
    refine qx_iload C dX5_move_22 rfl ?_
    refine qx_ialdN C (j := 4) rfl ⟨by omega, by decide⟩ dX5_move_24 ?_
    refine qx_iastN C (j := 7) rfl ⟨by omega, by decide⟩ dX5_move_25 ?_
    refine qx_goto C (tgt := 42) dX5_move_26 (by decide) ?_
    refine qx_aload_n C dX5_move_42 rfl rfl ?_
    refine qx_dup C dX5_move_43 rfl ?_
    refine qx_getI C (j := 0) (k := 12) hiX5 rfl rfl (by decide) qw_594 rfl dX5_move_44 ?_
    refine qx_top (z := nI (a + i)) ?_ ?_
    · rw [qs_cell _ _ _ _ (by decide)]; exact hat
    refine qx_iconst C (v := 1) dX5_move_47 rfl ?_
    refine qx_iaddE C dX5_move_48 (nI_add (a + i) 1) ?_
    refine qx_put C (j := 0) (k := 12) hiX5 rfl rfl (by decide) tyX5 tyX5_ok nmX5 qw_594 rfl rfl rfl rfl dX5_move_49 ?_
    refine qx_iincN C dX5_move_52 rfl ?_
    refine qx_goto C (tgt := 3) dX5_move_55 (by decide) ?_
    exact (qx_to hki rfl rfl)
  · refine qx_iload C dX5_move_3 rfl ?_
    refine qx_iload_n C dX5_move_5 rfl rfl ?_
    refine qx_icmp_ge_t C (tgt := 58) dX5_move_6 (by decide) (nI_le (a := 16) (b := 16) (Nat.le_refl _) (by decide)) ?_
    exact qx_vret C dX5_move_58 rfl
set_option maxRecDepth 20000 in
set_option maxHeartbeats 4000000 in
theorem c_X5_move1_5 (F : qx_F) (d : Nat) (σ : qx_S) (a : Nat) (ha : σ 0 12 = nI a) (ha2 : a + 55 ≤ 260) : qx_cV F shM ⟨"NightStallsModel", "move", "([IIZ)V"⟩ (.code ⟨"NightStallsModel", "move", "([IIZ)V"⟩ prog_7_method_50_code 5 ((none : Option FieldType)) :: qx_W) (qx_R (d + 1)) [.ref (fa F 0), .ref (fa F 5), .int 55, .int 1] σ (qf (mMv1 5 a) σ 55) := by
  refine qx_met (by decide) (Nat.le_of_ble_eq_true rfl) (by intro v hv; simp only [List.mem_cons, List.not_mem_nil, or_false] at hv; rcases hv with rfl | rfl | rfl | rfl <;> rfl) (fun K C => ?_)
  refine qx_iconst C (v := 0) dX5_move_0 rfl ?_
  refine qx_istore C dX5_move_1 (Nat.le_of_ble_eq_true rfl) ?_
  refine qx_to (qx_up 55 (P := fun i => qx_X K F shM (qf (mMv1 5 a) σ i) 3 [some (.ref (fa F 0)), some (.ref (fa F 5)), some (.int 55), some (.int 1), some (.int (nI i))] []) (fun i hi hki => ?_) ?_) rfl rfl
  · have hat := mMv1_at 5 a σ ha i
    refine qx_iload C dX5_move_3 rfl ?_
    refine qx_iload_n C dX5_move_5 rfl rfl ?_
    refine qx_icmp_ge_f C (tgt := 58) dX5_move_6 (by decide) (nI_ge (b := 55) hi (by decide)) ?_
    refine qx_iload_n C dX5_move_9 rfl rfl ?_
    refine qx_if_eq_f C (tgt := 29) dX5_move_10 (by decide) (by decide) ?_
    refine qx_aload_n C dX5_move_13 rfl rfl ?_
    refine qx_getR C (j := 0) (k := 7) hiX5 rfl rfl (by decide) qw_589 rfl dX5_move_14 ?_
    refine qx_aload_n C dX5_move_17 rfl rfl ?_
    refine qx_getI C (j := 0) (k := 12) hiX5 rfl rfl (by decide) qw_594 rfl dX5_move_18 ?_
    refine qx_top hat ?_
    refine qx_aload_n C dX5_move_21 rfl rfl ?_
    refine qx_iload C dX5_move_22 rfl ?_
    refine qx_ialdN C (j := 5) rfl ⟨by omega, by decide⟩ dX5_move_24 ?_
    refine qx_iastN C (j := 7) rfl ⟨by omega, by decide⟩ dX5_move_25 ?_
    refine qx_goto C (tgt := 42) dX5_move_26 (by decide) ?_
    refine qx_aload_n C dX5_move_42 rfl rfl ?_
    refine qx_dup C dX5_move_43 rfl ?_
    refine qx_getI C (j := 0) (k := 12) hiX5 rfl rfl (by decide) qw_594 rfl dX5_move_44 ?_
    refine qx_top (z := nI (a + i)) ?_ ?_
    · rw [qs_cell _ _ _ _ (by decide)]; exact hat
    refine qx_iconst C (v := 1) dX5_move_47 rfl ?_
    refine qx_iaddE C dX5_move_48 (nI_add (a + i) 1) ?_
    refine qx_put C (j := 0) (k := 12) hiX5 rfl rfl (by decide) tyX5 tyX5_ok nmX5 qw_594 rfl rfl rfl rfl dX5_move_49 ?_
    refine qx_iincN C dX5_move_52 rfl ?_
    refine qx_goto C (tgt := 3) dX5_move_55 (by decide) ?_
    exact (qx_to hki rfl rfl)
  · refine qx_iload C dX5_move_3 rfl ?_
    refine qx_iload_n C dX5_move_5 rfl rfl ?_
    refine qx_icmp_ge_t C (tgt := 58) dX5_move_6 (by decide) (nI_le (a := 55) (b := 55) (Nat.le_refl _) (by decide)) ?_
    exact qx_vret C dX5_move_58 rfl
set_option maxRecDepth 20000 in
set_option maxHeartbeats 4000000 in
theorem c_X5_move1_6 (F : qx_F) (d : Nat) (σ : qx_S) (a : Nat) (ha : σ 0 12 = nI a) (ha2 : a + 140 ≤ 260) : qx_cV F shM ⟨"NightStallsModel", "move", "([IIZ)V"⟩ (.code ⟨"NightStallsModel", "move", "([IIZ)V"⟩ prog_7_method_50_code 5 ((none : Option FieldType)) :: qx_W) (qx_R (d + 1)) [.ref (fa F 0), .ref (fa F 6), .int 140, .int 1] σ (qf (mMv1 6 a) σ 140) := by
  refine qx_met (by decide) (Nat.le_of_ble_eq_true rfl) (by intro v hv; simp only [List.mem_cons, List.not_mem_nil, or_false] at hv; rcases hv with rfl | rfl | rfl | rfl <;> rfl) (fun K C => ?_)
  refine qx_iconst C (v := 0) dX5_move_0 rfl ?_
  refine qx_istore C dX5_move_1 (Nat.le_of_ble_eq_true rfl) ?_
  refine qx_to (qx_up 140 (P := fun i => qx_X K F shM (qf (mMv1 6 a) σ i) 3 [some (.ref (fa F 0)), some (.ref (fa F 6)), some (.int 140), some (.int 1), some (.int (nI i))] []) (fun i hi hki => ?_) ?_) rfl rfl
  · have hat := mMv1_at 6 a σ ha i
    refine qx_iload C dX5_move_3 rfl ?_
    refine qx_iload_n C dX5_move_5 rfl rfl ?_
    refine qx_icmp_ge_f C (tgt := 58) dX5_move_6 (by decide) (nI_ge (b := 140) hi (by decide)) ?_
    refine qx_iload_n C dX5_move_9 rfl rfl ?_
    refine qx_if_eq_f C (tgt := 29) dX5_move_10 (by decide) (by decide) ?_
    refine qx_aload_n C dX5_move_13 rfl rfl ?_
    refine qx_getR C (j := 0) (k := 7) hiX5 rfl rfl (by decide) qw_589 rfl dX5_move_14 ?_
    refine qx_aload_n C dX5_move_17 rfl rfl ?_
    refine qx_getI C (j := 0) (k := 12) hiX5 rfl rfl (by decide) qw_594 rfl dX5_move_18 ?_
    refine qx_top hat ?_
    refine qx_aload_n C dX5_move_21 rfl rfl ?_
    refine qx_iload C dX5_move_22 rfl ?_
    refine qx_ialdN C (j := 6) rfl ⟨by omega, by decide⟩ dX5_move_24 ?_
    refine qx_iastN C (j := 7) rfl ⟨by omega, by decide⟩ dX5_move_25 ?_
    refine qx_goto C (tgt := 42) dX5_move_26 (by decide) ?_
    refine qx_aload_n C dX5_move_42 rfl rfl ?_
    refine qx_dup C dX5_move_43 rfl ?_
    refine qx_getI C (j := 0) (k := 12) hiX5 rfl rfl (by decide) qw_594 rfl dX5_move_44 ?_
    refine qx_top (z := nI (a + i)) ?_ ?_
    · rw [qs_cell _ _ _ _ (by decide)]; exact hat
    refine qx_iconst C (v := 1) dX5_move_47 rfl ?_
    refine qx_iaddE C dX5_move_48 (nI_add (a + i) 1) ?_
    refine qx_put C (j := 0) (k := 12) hiX5 rfl rfl (by decide) tyX5 tyX5_ok nmX5 qw_594 rfl rfl rfl rfl dX5_move_49 ?_
    refine qx_iincN C dX5_move_52 rfl ?_
    refine qx_goto C (tgt := 3) dX5_move_55 (by decide) ?_
    exact (qx_to hki rfl rfl)
  · refine qx_iload C dX5_move_3 rfl ?_
    refine qx_iload_n C dX5_move_5 rfl rfl ?_
    refine qx_icmp_ge_t C (tgt := 58) dX5_move_6 (by decide) (nI_le (a := 140) (b := 140) (Nat.le_refl _) (by decide)) ?_
    exact qx_vret C dX5_move_58 rfl
set_option maxRecDepth 20000 in
set_option maxHeartbeats 4000000 in
theorem c_X5_move0_1 (F : qx_F) (d : Nat) (σ : qx_S) (a : Nat) (ha : σ 0 12 = nI a) (ha2 : a + 8 ≤ 260) : qx_cV F shM ⟨"NightStallsModel", "move", "([IIZ)V"⟩ (.code ⟨"NightStallsModel", "move", "([IIZ)V"⟩ prog_7_method_50_code 5 ((none : Option FieldType)) :: qx_W) (qx_R (d + 1)) [.ref (fa F 0), .ref (fa F 1), .int 8, .int 0] σ (qf (mMv0 1 a) σ 8) := by
  refine qx_met (by decide) (Nat.le_of_ble_eq_true rfl) (by intro v hv; simp only [List.mem_cons, List.not_mem_nil, or_false] at hv; rcases hv with rfl | rfl | rfl | rfl <;> rfl) (fun K C => ?_)
  refine qx_iconst C (v := 0) dX5_move_0 rfl ?_
  refine qx_istore C dX5_move_1 (Nat.le_of_ble_eq_true rfl) ?_
  refine qx_to (qx_up 8 (P := fun i => qx_X K F shM (qf (mMv0 1 a) σ i) 3 [some (.ref (fa F 0)), some (.ref (fa F 1)), some (.int 8), some (.int 0), some (.int (nI i))] []) (fun i hi hki => ?_) ?_) rfl rfl
  · have hat := mMv0_at 1 a σ ha i
    refine qx_iload C dX5_move_3 rfl ?_
    refine qx_iload_n C dX5_move_5 rfl rfl ?_
    refine qx_icmp_ge_f C (tgt := 58) dX5_move_6 (by decide) (nI_ge (b := 8) hi (by decide)) ?_
    refine qx_iload_n C dX5_move_9 rfl rfl ?_
    refine qx_if_eq_t C (tgt := 29) dX5_move_10 (by decide) (by decide) ?_
    refine qx_aload_n C dX5_move_29 rfl rfl ?_
    refine qx_iload C dX5_move_30 rfl ?_
    refine qx_aload_n C dX5_move_32 rfl rfl ?_
    refine qx_getR C (j := 0) (k := 7) hiX5 rfl rfl (by decide) qw_589 rfl dX5_move_33 ?_
    refine qx_aload_n C dX5_move_36 rfl rfl ?_
    refine qx_getI C (j := 0) (k := 12) hiX5 rfl rfl (by decide) qw_594 rfl dX5_move_37 ?_
    refine qx_top hat ?_
    refine qx_ialdN C (j := 7) rfl ⟨by omega, by decide⟩ dX5_move_40 ?_
    refine qx_iastN C (j := 1) rfl ⟨by omega, by decide⟩ dX5_move_41 ?_
    refine qx_aload_n C dX5_move_42 rfl rfl ?_
    refine qx_dup C dX5_move_43 rfl ?_
    refine qx_getI C (j := 0) (k := 12) hiX5 rfl rfl (by decide) qw_594 rfl dX5_move_44 ?_
    refine qx_top (z := nI (a + i)) ?_ ?_
    · rw [qs_cell _ _ _ _ (by decide)]; exact hat
    refine qx_iconst C (v := 1) dX5_move_47 rfl ?_
    refine qx_iaddE C dX5_move_48 (nI_add (a + i) 1) ?_
    refine qx_put C (j := 0) (k := 12) hiX5 rfl rfl (by decide) tyX5 tyX5_ok nmX5 qw_594 rfl rfl rfl rfl dX5_move_49 ?_
    refine qx_iincN C dX5_move_52 rfl ?_
    refine qx_goto C (tgt := 3) dX5_move_55 (by decide) ?_
    exact (qx_to hki rfl rfl)
  · refine qx_iload C dX5_move_3 rfl ?_
    refine qx_iload_n C dX5_move_5 rfl rfl ?_
    refine qx_icmp_ge_t C (tgt := 58) dX5_move_6 (by decide) (nI_le (a := 8) (b := 8) (Nat.le_refl _) (by decide)) ?_
    exact qx_vret C dX5_move_58 rfl
set_option maxRecDepth 20000 in
set_option maxHeartbeats 4000000 in
theorem c_X5_move0_2 (F : qx_F) (d : Nat) (σ : qx_S) (a : Nat) (ha : σ 0 12 = nI a) (ha2 : a + 24 ≤ 260) : qx_cV F shM ⟨"NightStallsModel", "move", "([IIZ)V"⟩ (.code ⟨"NightStallsModel", "move", "([IIZ)V"⟩ prog_7_method_50_code 5 ((none : Option FieldType)) :: qx_W) (qx_R (d + 1)) [.ref (fa F 0), .ref (fa F 2), .int 24, .int 0] σ (qf (mMv0 2 a) σ 24) := by
  refine qx_met (by decide) (Nat.le_of_ble_eq_true rfl) (by intro v hv; simp only [List.mem_cons, List.not_mem_nil, or_false] at hv; rcases hv with rfl | rfl | rfl | rfl <;> rfl) (fun K C => ?_)
  refine qx_iconst C (v := 0) dX5_move_0 rfl ?_
  refine qx_istore C dX5_move_1 (Nat.le_of_ble_eq_true rfl) ?_
  refine qx_to (qx_up 24 (P := fun i => qx_X K F shM (qf (mMv0 2 a) σ i) 3 [some (.ref (fa F 0)), some (.ref (fa F 2)), some (.int 24), some (.int 0), some (.int (nI i))] []) (fun i hi hki => ?_) ?_) rfl rfl
  · have hat := mMv0_at 2 a σ ha i
    refine qx_iload C dX5_move_3 rfl ?_
    refine qx_iload_n C dX5_move_5 rfl rfl ?_
    refine qx_icmp_ge_f C (tgt := 58) dX5_move_6 (by decide) (nI_ge (b := 24) hi (by decide)) ?_
    refine qx_iload_n C dX5_move_9 rfl rfl ?_
    refine qx_if_eq_t C (tgt := 29) dX5_move_10 (by decide) (by decide) ?_
    refine qx_aload_n C dX5_move_29 rfl rfl ?_
    refine qx_iload C dX5_move_30 rfl ?_
    refine qx_aload_n C dX5_move_32 rfl rfl ?_
    refine qx_getR C (j := 0) (k := 7) hiX5 rfl rfl (by decide) qw_589 rfl dX5_move_33 ?_
    refine qx_aload_n C dX5_move_36 rfl rfl ?_
    refine qx_getI C (j := 0) (k := 12) hiX5 rfl rfl (by decide) qw_594 rfl dX5_move_37 ?_
    refine qx_top hat ?_
    refine qx_ialdN C (j := 7) rfl ⟨by omega, by decide⟩ dX5_move_40 ?_
    refine qx_iastN C (j := 2) rfl ⟨by omega, by decide⟩ dX5_move_41 ?_
    refine qx_aload_n C dX5_move_42 rfl rfl ?_
    refine qx_dup C dX5_move_43 rfl ?_
    refine qx_getI C (j := 0) (k := 12) hiX5 rfl rfl (by decide) qw_594 rfl dX5_move_44 ?_
    refine qx_top (z := nI (a + i)) ?_ ?_
    · rw [qs_cell _ _ _ _ (by decide)]; exact hat
    refine qx_iconst C (v := 1) dX5_move_47 rfl ?_
    refine qx_iaddE C dX5_move_48 (nI_add (a + i) 1) ?_
    refine qx_put C (j := 0) (k := 12) hiX5 rfl rfl (by decide) tyX5 tyX5_ok nmX5 qw_594 rfl rfl rfl rfl dX5_move_49 ?_
    refine qx_iincN C dX5_move_52 rfl ?_
    refine qx_goto C (tgt := 3) dX5_move_55 (by decide) ?_
    exact (qx_to hki rfl rfl)
  · refine qx_iload C dX5_move_3 rfl ?_
    refine qx_iload_n C dX5_move_5 rfl rfl ?_
    refine qx_icmp_ge_t C (tgt := 58) dX5_move_6 (by decide) (nI_le (a := 24) (b := 24) (Nat.le_refl _) (by decide)) ?_
    exact qx_vret C dX5_move_58 rfl
set_option maxRecDepth 20000 in
set_option maxHeartbeats 4000000 in
theorem c_X5_move0_3 (F : qx_F) (d : Nat) (σ : qx_S) (a : Nat) (ha : σ 0 12 = nI a) (ha2 : a + 9 ≤ 260) : qx_cV F shM ⟨"NightStallsModel", "move", "([IIZ)V"⟩ (.code ⟨"NightStallsModel", "move", "([IIZ)V"⟩ prog_7_method_50_code 5 ((none : Option FieldType)) :: qx_W) (qx_R (d + 1)) [.ref (fa F 0), .ref (fa F 3), .int 9, .int 0] σ (qf (mMv0 3 a) σ 9) := by
  refine qx_met (by decide) (Nat.le_of_ble_eq_true rfl) (by intro v hv; simp only [List.mem_cons, List.not_mem_nil, or_false] at hv; rcases hv with rfl | rfl | rfl | rfl <;> rfl) (fun K C => ?_)
  refine qx_iconst C (v := 0) dX5_move_0 rfl ?_
  refine qx_istore C dX5_move_1 (Nat.le_of_ble_eq_true rfl) ?_
  refine qx_to (qx_up 9 (P := fun i => qx_X K F shM (qf (mMv0 3 a) σ i) 3 [some (.ref (fa F 0)), some (.ref (fa F 3)), some (.int 9), some (.int 0), some (.int (nI i))] []) (fun i hi hki => ?_) ?_) rfl rfl
  · have hat := mMv0_at 3 a σ ha i
    refine qx_iload C dX5_move_3 rfl ?_
    refine qx_iload_n C dX5_move_5 rfl rfl ?_
    refine qx_icmp_ge_f C (tgt := 58) dX5_move_6 (by decide) (nI_ge (b := 9) hi (by decide)) ?_
    refine qx_iload_n C dX5_move_9 rfl rfl ?_
    refine qx_if_eq_t C (tgt := 29) dX5_move_10 (by decide) (by decide) ?_
    refine qx_aload_n C dX5_move_29 rfl rfl ?_
    refine qx_iload C dX5_move_30 rfl ?_
    refine qx_aload_n C dX5_move_32 rfl rfl ?_
    refine qx_getR C (j := 0) (k := 7) hiX5 rfl rfl (by decide) qw_589 rfl dX5_move_33 ?_
    refine qx_aload_n C dX5_move_36 rfl rfl ?_
    refine qx_getI C (j := 0) (k := 12) hiX5 rfl rfl (by decide) qw_594 rfl dX5_move_37 ?_
    refine qx_top hat ?_
    refine qx_ialdN C (j := 7) rfl ⟨by omega, by decide⟩ dX5_move_40 ?_
    refine qx_iastN C (j := 3) rfl ⟨by omega, by decide⟩ dX5_move_41 ?_
    refine qx_aload_n C dX5_move_42 rfl rfl ?_
    refine qx_dup C dX5_move_43 rfl ?_
    refine qx_getI C (j := 0) (k := 12) hiX5 rfl rfl (by decide) qw_594 rfl dX5_move_44 ?_
    refine qx_top (z := nI (a + i)) ?_ ?_
    · rw [qs_cell _ _ _ _ (by decide)]; exact hat
    refine qx_iconst C (v := 1) dX5_move_47 rfl ?_
    refine qx_iaddE C dX5_move_48 (nI_add (a + i) 1) ?_
    refine qx_put C (j := 0) (k := 12) hiX5 rfl rfl (by decide) tyX5 tyX5_ok nmX5 qw_594 rfl rfl rfl rfl dX5_move_49 ?_
    refine qx_iincN C dX5_move_52 rfl ?_
    refine qx_goto C (tgt := 3) dX5_move_55 (by decide) ?_
    exact (qx_to hki rfl rfl)
  · refine qx_iload C dX5_move_3 rfl ?_
    refine qx_iload_n C dX5_move_5 rfl rfl ?_
    refine qx_icmp_ge_t C (tgt := 58) dX5_move_6 (by decide) (nI_le (a := 9) (b := 9) (Nat.le_refl _) (by decide)) ?_
    exact qx_vret C dX5_move_58 rfl
set_option maxRecDepth 20000 in
set_option maxHeartbeats 4000000 in
theorem c_X5_move0_4 (F : qx_F) (d : Nat) (σ : qx_S) (a : Nat) (ha : σ 0 12 = nI a) (ha2 : a + 16 ≤ 260) : qx_cV F shM ⟨"NightStallsModel", "move", "([IIZ)V"⟩ (.code ⟨"NightStallsModel", "move", "([IIZ)V"⟩ prog_7_method_50_code 5 ((none : Option FieldType)) :: qx_W) (qx_R (d + 1)) [.ref (fa F 0), .ref (fa F 4), .int 16, .int 0] σ (qf (mMv0 4 a) σ 16) := by
  refine qx_met (by decide) (Nat.le_of_ble_eq_true rfl) (by intro v hv; simp only [List.mem_cons, List.not_mem_nil, or_false] at hv; rcases hv with rfl | rfl | rfl | rfl <;> rfl) (fun K C => ?_)
  refine qx_iconst C (v := 0) dX5_move_0 rfl ?_
  refine qx_istore C dX5_move_1 (Nat.le_of_ble_eq_true rfl) ?_
  refine qx_to (qx_up 16 (P := fun i => qx_X K F shM (qf (mMv0 4 a) σ i) 3 [some (.ref (fa F 0)), some (.ref (fa F 4)), some (.int 16), some (.int 0), some (.int (nI i))] []) (fun i hi hki => ?_) ?_) rfl rfl
  · have hat := mMv0_at 4 a σ ha i
    refine qx_iload C dX5_move_3 rfl ?_
    refine qx_iload_n C dX5_move_5 rfl rfl ?_
    refine qx_icmp_ge_f C (tgt := 58) dX5_move_6 (by decide) (nI_ge (b := 16) hi (by decide)) ?_
    refine qx_iload_n C dX5_move_9 rfl rfl ?_
    refine qx_if_eq_t C (tgt := 29) dX5_move_10 (by decide) (by decide) ?_
    refine qx_aload_n C dX5_move_29 rfl rfl ?_
    refine qx_iload C dX5_move_30 rfl ?_
    refine qx_aload_n C dX5_move_32 rfl rfl ?_
    refine qx_getR C (j := 0) (k := 7) hiX5 rfl rfl (by decide) qw_589 rfl dX5_move_33 ?_
    refine qx_aload_n C dX5_move_36 rfl rfl ?_
    refine qx_getI C (j := 0) (k := 12) hiX5 rfl rfl (by decide) qw_594 rfl dX5_move_37 ?_
    refine qx_top hat ?_
    refine qx_ialdN C (j := 7) rfl ⟨by omega, by decide⟩ dX5_move_40 ?_
    refine qx_iastN C (j := 4) rfl ⟨by omega, by decide⟩ dX5_move_41 ?_
    refine qx_aload_n C dX5_move_42 rfl rfl ?_
    refine qx_dup C dX5_move_43 rfl ?_
    refine qx_getI C (j := 0) (k := 12) hiX5 rfl rfl (by decide) qw_594 rfl dX5_move_44 ?_
    refine qx_top (z := nI (a + i)) ?_ ?_
    · rw [qs_cell _ _ _ _ (by decide)]; exact hat
    refine qx_iconst C (v := 1) dX5_move_47 rfl ?_
    refine qx_iaddE C dX5_move_48 (nI_add (a + i) 1) ?_
    refine qx_put C (j := 0) (k := 12) hiX5 rfl rfl (by decide) tyX5 tyX5_ok nmX5 qw_594 rfl rfl rfl rfl dX5_move_49 ?_
    refine qx_iincN C dX5_move_52 rfl ?_
    refine qx_goto C (tgt := 3) dX5_move_55 (by decide) ?_
    exact (qx_to hki rfl rfl)
  · refine qx_iload C dX5_move_3 rfl ?_
    refine qx_iload_n C dX5_move_5 rfl rfl ?_
    refine qx_icmp_ge_t C (tgt := 58) dX5_move_6 (by decide) (nI_le (a := 16) (b := 16) (Nat.le_refl _) (by decide)) ?_
    exact qx_vret C dX5_move_58 rfl
set_option maxRecDepth 20000 in
set_option maxHeartbeats 4000000 in
theorem c_X5_move0_5 (F : qx_F) (d : Nat) (σ : qx_S) (a : Nat) (ha : σ 0 12 = nI a) (ha2 : a + 55 ≤ 260) : qx_cV F shM ⟨"NightStallsModel", "move", "([IIZ)V"⟩ (.code ⟨"NightStallsModel", "move", "([IIZ)V"⟩ prog_7_method_50_code 5 ((none : Option FieldType)) :: qx_W) (qx_R (d + 1)) [.ref (fa F 0), .ref (fa F 5), .int 55, .int 0] σ (qf (mMv0 5 a) σ 55) := by
  refine qx_met (by decide) (Nat.le_of_ble_eq_true rfl) (by intro v hv; simp only [List.mem_cons, List.not_mem_nil, or_false] at hv; rcases hv with rfl | rfl | rfl | rfl <;> rfl) (fun K C => ?_)
  refine qx_iconst C (v := 0) dX5_move_0 rfl ?_
  refine qx_istore C dX5_move_1 (Nat.le_of_ble_eq_true rfl) ?_
  refine qx_to (qx_up 55 (P := fun i => qx_X K F shM (qf (mMv0 5 a) σ i) 3 [some (.ref (fa F 0)), some (.ref (fa F 5)), some (.int 55), some (.int 0), some (.int (nI i))] []) (fun i hi hki => ?_) ?_) rfl rfl
  · have hat := mMv0_at 5 a σ ha i
    refine qx_iload C dX5_move_3 rfl ?_
    refine qx_iload_n C dX5_move_5 rfl rfl ?_
    refine qx_icmp_ge_f C (tgt := 58) dX5_move_6 (by decide) (nI_ge (b := 55) hi (by decide)) ?_
    refine qx_iload_n C dX5_move_9 rfl rfl ?_
    refine qx_if_eq_t C (tgt := 29) dX5_move_10 (by decide) (by decide) ?_
    refine qx_aload_n C dX5_move_29 rfl rfl ?_
    refine qx_iload C dX5_move_30 rfl ?_
    refine qx_aload_n C dX5_move_32 rfl rfl ?_
    refine qx_getR C (j := 0) (k := 7) hiX5 rfl rfl (by decide) qw_589 rfl dX5_move_33 ?_
    refine qx_aload_n C dX5_move_36 rfl rfl ?_
    refine qx_getI C (j := 0) (k := 12) hiX5 rfl rfl (by decide) qw_594 rfl dX5_move_37 ?_
    refine qx_top hat ?_
    refine qx_ialdN C (j := 7) rfl ⟨by omega, by decide⟩ dX5_move_40 ?_
    refine qx_iastN C (j := 5) rfl ⟨by omega, by decide⟩ dX5_move_41 ?_
    refine qx_aload_n C dX5_move_42 rfl rfl ?_
    refine qx_dup C dX5_move_43 rfl ?_
    refine qx_getI C (j := 0) (k := 12) hiX5 rfl rfl (by decide) qw_594 rfl dX5_move_44 ?_
    refine qx_top (z := nI (a + i)) ?_ ?_
    · rw [qs_cell _ _ _ _ (by decide)]; exact hat
    refine qx_iconst C (v := 1) dX5_move_47 rfl ?_
    refine qx_iaddE C dX5_move_48 (nI_add (a + i) 1) ?_
    refine qx_put C (j := 0) (k := 12) hiX5 rfl rfl (by decide) tyX5 tyX5_ok nmX5 qw_594 rfl rfl rfl rfl dX5_move_49 ?_
    refine qx_iincN C dX5_move_52 rfl ?_
    refine qx_goto C (tgt := 3) dX5_move_55 (by decide) ?_
    exact (qx_to hki rfl rfl)
  · refine qx_iload C dX5_move_3 rfl ?_
    refine qx_iload_n C dX5_move_5 rfl rfl ?_
    refine qx_icmp_ge_t C (tgt := 58) dX5_move_6 (by decide) (nI_le (a := 55) (b := 55) (Nat.le_refl _) (by decide)) ?_
    exact qx_vret C dX5_move_58 rfl
set_option maxRecDepth 20000 in
set_option maxHeartbeats 4000000 in
theorem c_X5_move0_6 (F : qx_F) (d : Nat) (σ : qx_S) (a : Nat) (ha : σ 0 12 = nI a) (ha2 : a + 140 ≤ 260) : qx_cV F shM ⟨"NightStallsModel", "move", "([IIZ)V"⟩ (.code ⟨"NightStallsModel", "move", "([IIZ)V"⟩ prog_7_method_50_code 5 ((none : Option FieldType)) :: qx_W) (qx_R (d + 1)) [.ref (fa F 0), .ref (fa F 6), .int 140, .int 0] σ (qf (mMv0 6 a) σ 140) := by
  refine qx_met (by decide) (Nat.le_of_ble_eq_true rfl) (by intro v hv; simp only [List.mem_cons, List.not_mem_nil, or_false] at hv; rcases hv with rfl | rfl | rfl | rfl <;> rfl) (fun K C => ?_)
  refine qx_iconst C (v := 0) dX5_move_0 rfl ?_
  refine qx_istore C dX5_move_1 (Nat.le_of_ble_eq_true rfl) ?_
  refine qx_to (qx_up 140 (P := fun i => qx_X K F shM (qf (mMv0 6 a) σ i) 3 [some (.ref (fa F 0)), some (.ref (fa F 6)), some (.int 140), some (.int 0), some (.int (nI i))] []) (fun i hi hki => ?_) ?_) rfl rfl
  · have hat := mMv0_at 6 a σ ha i
    refine qx_iload C dX5_move_3 rfl ?_
    refine qx_iload_n C dX5_move_5 rfl rfl ?_
    refine qx_icmp_ge_f C (tgt := 58) dX5_move_6 (by decide) (nI_ge (b := 140) hi (by decide)) ?_
    refine qx_iload_n C dX5_move_9 rfl rfl ?_
    refine qx_if_eq_t C (tgt := 29) dX5_move_10 (by decide) (by decide) ?_
    refine qx_aload_n C dX5_move_29 rfl rfl ?_
    refine qx_iload C dX5_move_30 rfl ?_
    refine qx_aload_n C dX5_move_32 rfl rfl ?_
    refine qx_getR C (j := 0) (k := 7) hiX5 rfl rfl (by decide) qw_589 rfl dX5_move_33 ?_
    refine qx_aload_n C dX5_move_36 rfl rfl ?_
    refine qx_getI C (j := 0) (k := 12) hiX5 rfl rfl (by decide) qw_594 rfl dX5_move_37 ?_
    refine qx_top hat ?_
    refine qx_ialdN C (j := 7) rfl ⟨by omega, by decide⟩ dX5_move_40 ?_
    refine qx_iastN C (j := 6) rfl ⟨by omega, by decide⟩ dX5_move_41 ?_
    refine qx_aload_n C dX5_move_42 rfl rfl ?_
    refine qx_dup C dX5_move_43 rfl ?_
    refine qx_getI C (j := 0) (k := 12) hiX5 rfl rfl (by decide) qw_594 rfl dX5_move_44 ?_
    refine qx_top (z := nI (a + i)) ?_ ?_
    · rw [qs_cell _ _ _ _ (by decide)]; exact hat
    refine qx_iconst C (v := 1) dX5_move_47 rfl ?_
    refine qx_iaddE C dX5_move_48 (nI_add (a + i) 1) ?_
    refine qx_put C (j := 0) (k := 12) hiX5 rfl rfl (by decide) tyX5 tyX5_ok nmX5 qw_594 rfl rfl rfl rfl dX5_move_49 ?_
    refine qx_iincN C dX5_move_52 rfl ?_
    refine qx_goto C (tgt := 3) dX5_move_55 (by decide) ?_
    exact (qx_to hki rfl rfl)
  · refine qx_iload C dX5_move_3 rfl ?_
    refine qx_iload_n C dX5_move_5 rfl rfl ?_
    refine qx_icmp_ge_t C (tgt := 58) dX5_move_6 (by decide) (nI_le (a := 140) (b := 140) (Nat.le_refl _) (by decide)) ?_
    exact qx_vret C dX5_move_58 rfl
def mAll1 (σ : qx_S) : qx_S := qf (mMv1 6 112) (qf (mMv1 5 57) (qf (mMv1 4 41) (qf (mMv1 3 32) (qf (mMv1 2 8) (qf (mMv1 1 0) (qs σ 0 12 0) 8) 24) 9) 16) 55) 140
set_option maxRecDepth 20000 in
set_option maxHeartbeats 4000000 in
theorem c_X5_moveAll1 (F : qx_F) (d : Nat) (σ : qx_S)  : qx_cV F shM ⟨"NightStallsModel", "moveAll", "(Z)V"⟩ (.code ⟨"NightStallsModel", "moveAll", "(Z)V"⟩ prog_7_method_51_code 2 ((none : Option FieldType)) :: qx_W) (qx_R (d + 2)) [.ref (fa F 0), .int 1] σ (mAll1 σ) := by
  refine qx_met (by decide) (Nat.le_of_ble_eq_true rfl) (by intro v hv; simp only [List.mem_cons, List.not_mem_nil, or_false] at hv; rcases hv with rfl | rfl <;> rfl) (fun K C => ?_)
  refine qx_aload_n C dX5_moveAll_0 rfl rfl ?_
  refine qx_iconst C (v := 0) dX5_moveAll_1 rfl ?_
  refine qx_put C (j := 0) (k := 12) hiX5 rfl rfl (by decide) tyX5 tyX5_ok nmX5 qw_594 rfl rfl rfl rfl dX5_moveAll_2 ?_
  refine qx_aload_n C dX5_moveAll_5 rfl rfl ?_
  refine qx_aload_n C dX5_moveAll_6 rfl rfl ?_
  refine qx_getR C (j := 0) (k := 0) hiX5 rfl rfl (by decide) qw_582 rfl dX5_moveAll_7 ?_
  refine qx_bipush C (v := 8) dX5_moveAll_10 rfl ?_
  refine qx_iload_n C dX5_moveAll_12 rfl rfl ?_
  refine qx_callVv C (b := 0) (As := [_, _, _]) (n := 3) (c_X5_move1_1 F (d + 0) _ 0 rfl (by decide)) rfl rfl qw_818 qw_820 qw_37 qw_44 qw_821 ⟨rfl, by decide, by decide, by decide +kernel⟩ (qx_room (by omega) (by decide)) rfl rfl (Nat.le_of_ble_eq_true rfl) dX5_moveAll_13 ?_
  refine qx_aload_n C dX5_moveAll_16 rfl rfl ?_
  refine qx_aload_n C dX5_moveAll_17 rfl rfl ?_
  refine qx_getR C (j := 0) (k := 1) hiX5 rfl rfl (by decide) qw_583 rfl dX5_moveAll_18 ?_
  refine qx_bipush C (v := 24) dX5_moveAll_21 rfl ?_
  refine qx_iload_n C dX5_moveAll_23 rfl rfl ?_
  refine qx_callVv C (b := 0) (As := [_, _, _]) (n := 3) (c_X5_move1_2 F (d + 0) _ 8 (mMv1_at 1 0 _ rfl 8) (by decide)) rfl rfl qw_818 qw_820 qw_37 qw_44 qw_821 ⟨rfl, by decide, by decide, by decide +kernel⟩ (qx_room (by omega) (by decide)) rfl rfl (Nat.le_of_ble_eq_true rfl) dX5_moveAll_24 ?_
  refine qx_aload_n C dX5_moveAll_27 rfl rfl ?_
  refine qx_aload_n C dX5_moveAll_28 rfl rfl ?_
  refine qx_getR C (j := 0) (k := 2) hiX5 rfl rfl (by decide) qw_584 rfl dX5_moveAll_29 ?_
  refine qx_bipush C (v := 9) dX5_moveAll_32 rfl ?_
  refine qx_iload_n C dX5_moveAll_34 rfl rfl ?_
  refine qx_callVv C (b := 0) (As := [_, _, _]) (n := 3) (c_X5_move1_3 F (d + 0) _ 32 (mMv1_at 2 8 _ (mMv1_at 1 0 _ rfl 8) 24) (by decide)) rfl rfl qw_818 qw_820 qw_37 qw_44 qw_821 ⟨rfl, by decide, by decide, by decide +kernel⟩ (qx_room (by omega) (by decide)) rfl rfl (Nat.le_of_ble_eq_true rfl) dX5_moveAll_35 ?_
  refine qx_aload_n C dX5_moveAll_38 rfl rfl ?_
  refine qx_aload_n C dX5_moveAll_39 rfl rfl ?_
  refine qx_getR C (j := 0) (k := 3) hiX5 rfl rfl (by decide) qw_585 rfl dX5_moveAll_40 ?_
  refine qx_bipush C (v := 16) dX5_moveAll_43 rfl ?_
  refine qx_iload_n C dX5_moveAll_45 rfl rfl ?_
  refine qx_callVv C (b := 0) (As := [_, _, _]) (n := 3) (c_X5_move1_4 F (d + 0) _ 41 (mMv1_at 3 32 _ (mMv1_at 2 8 _ (mMv1_at 1 0 _ rfl 8) 24) 9) (by decide)) rfl rfl qw_818 qw_820 qw_37 qw_44 qw_821 ⟨rfl, by decide, by decide, by decide +kernel⟩ (qx_room (by omega) (by decide)) rfl rfl (Nat.le_of_ble_eq_true rfl) dX5_moveAll_46 ?_
  refine qx_aload_n C dX5_moveAll_49 rfl rfl ?_
  refine qx_aload_n C dX5_moveAll_50 rfl rfl ?_
  refine qx_getR C (j := 0) (k := 4) hiX5 rfl rfl (by decide) qw_586 rfl dX5_moveAll_51 ?_
  refine qx_bipush C (v := 55) dX5_moveAll_54 rfl ?_
  refine qx_iload_n C dX5_moveAll_56 rfl rfl ?_
  refine qx_callVv C (b := 0) (As := [_, _, _]) (n := 3) (c_X5_move1_5 F (d + 0) _ 57 (mMv1_at 4 41 _ (mMv1_at 3 32 _ (mMv1_at 2 8 _ (mMv1_at 1 0 _ rfl 8) 24) 9) 16) (by decide)) rfl rfl qw_818 qw_820 qw_37 qw_44 qw_821 ⟨rfl, by decide, by decide, by decide +kernel⟩ (qx_room (by omega) (by decide)) rfl rfl (Nat.le_of_ble_eq_true rfl) dX5_moveAll_57 ?_
  refine qx_aload_n C dX5_moveAll_60 rfl rfl ?_
  refine qx_aload_n C dX5_moveAll_61 rfl rfl ?_
  refine qx_getR C (j := 0) (k := 5) hiX5 rfl rfl (by decide) qw_587 rfl dX5_moveAll_62 ?_
  refine qx_sipush C (v := 140) dX5_moveAll_65 rfl ?_
  refine qx_iload_n C dX5_moveAll_68 rfl rfl ?_
  refine qx_callVv C (b := 0) (As := [_, _, _]) (n := 3) (c_X5_move1_6 F (d + 0) _ 112 (mMv1_at 5 57 _ (mMv1_at 4 41 _ (mMv1_at 3 32 _ (mMv1_at 2 8 _ (mMv1_at 1 0 _ rfl 8) 24) 9) 16) 55) (by decide)) rfl rfl qw_818 qw_820 qw_37 qw_44 qw_821 ⟨rfl, by decide, by decide, by decide +kernel⟩ (qx_room (by omega) (by decide)) rfl rfl (Nat.le_of_ble_eq_true rfl) dX5_moveAll_69 ?_
  exact qx_vret C dX5_moveAll_72 rfl
def mAll0 (σ : qx_S) : qx_S := qf (mMv0 6 112) (qf (mMv0 5 57) (qf (mMv0 4 41) (qf (mMv0 3 32) (qf (mMv0 2 8) (qf (mMv0 1 0) (qs σ 0 12 0) 8) 24) 9) 16) 55) 140
set_option maxRecDepth 20000 in
set_option maxHeartbeats 4000000 in
theorem c_X5_moveAll0 (F : qx_F) (d : Nat) (σ : qx_S)  : qx_cV F shM ⟨"NightStallsModel", "moveAll", "(Z)V"⟩ (.code ⟨"NightStallsModel", "moveAll", "(Z)V"⟩ prog_7_method_51_code 2 ((none : Option FieldType)) :: qx_W) (qx_R (d + 2)) [.ref (fa F 0), .int 0] σ (mAll0 σ) := by
  refine qx_met (by decide) (Nat.le_of_ble_eq_true rfl) (by intro v hv; simp only [List.mem_cons, List.not_mem_nil, or_false] at hv; rcases hv with rfl | rfl <;> rfl) (fun K C => ?_)
  refine qx_aload_n C dX5_moveAll_0 rfl rfl ?_
  refine qx_iconst C (v := 0) dX5_moveAll_1 rfl ?_
  refine qx_put C (j := 0) (k := 12) hiX5 rfl rfl (by decide) tyX5 tyX5_ok nmX5 qw_594 rfl rfl rfl rfl dX5_moveAll_2 ?_
  refine qx_aload_n C dX5_moveAll_5 rfl rfl ?_
  refine qx_aload_n C dX5_moveAll_6 rfl rfl ?_
  refine qx_getR C (j := 0) (k := 0) hiX5 rfl rfl (by decide) qw_582 rfl dX5_moveAll_7 ?_
  refine qx_bipush C (v := 8) dX5_moveAll_10 rfl ?_
  refine qx_iload_n C dX5_moveAll_12 rfl rfl ?_
  refine qx_callVv C (b := 0) (As := [_, _, _]) (n := 3) (c_X5_move0_1 F (d + 0) _ 0 rfl (by decide)) rfl rfl qw_818 qw_820 qw_37 qw_44 qw_821 ⟨rfl, by decide, by decide, by decide +kernel⟩ (qx_room (by omega) (by decide)) rfl rfl (Nat.le_of_ble_eq_true rfl) dX5_moveAll_13 ?_
  refine qx_aload_n C dX5_moveAll_16 rfl rfl ?_
  refine qx_aload_n C dX5_moveAll_17 rfl rfl ?_
  refine qx_getR C (j := 0) (k := 1) hiX5 rfl rfl (by decide) qw_583 rfl dX5_moveAll_18 ?_
  refine qx_bipush C (v := 24) dX5_moveAll_21 rfl ?_
  refine qx_iload_n C dX5_moveAll_23 rfl rfl ?_
  refine qx_callVv C (b := 0) (As := [_, _, _]) (n := 3) (c_X5_move0_2 F (d + 0) _ 8 (mMv0_at 1 0 _ rfl 8) (by decide)) rfl rfl qw_818 qw_820 qw_37 qw_44 qw_821 ⟨rfl, by decide, by decide, by decide +kernel⟩ (qx_room (by omega) (by decide)) rfl rfl (Nat.le_of_ble_eq_true rfl) dX5_moveAll_24 ?_
  refine qx_aload_n C dX5_moveAll_27 rfl rfl ?_
  refine qx_aload_n C dX5_moveAll_28 rfl rfl ?_
  refine qx_getR C (j := 0) (k := 2) hiX5 rfl rfl (by decide) qw_584 rfl dX5_moveAll_29 ?_
  refine qx_bipush C (v := 9) dX5_moveAll_32 rfl ?_
  refine qx_iload_n C dX5_moveAll_34 rfl rfl ?_
  refine qx_callVv C (b := 0) (As := [_, _, _]) (n := 3) (c_X5_move0_3 F (d + 0) _ 32 (mMv0_at 2 8 _ (mMv0_at 1 0 _ rfl 8) 24) (by decide)) rfl rfl qw_818 qw_820 qw_37 qw_44 qw_821 ⟨rfl, by decide, by decide, by decide +kernel⟩ (qx_room (by omega) (by decide)) rfl rfl (Nat.le_of_ble_eq_true rfl) dX5_moveAll_35 ?_
  refine qx_aload_n C dX5_moveAll_38 rfl rfl ?_
  refine qx_aload_n C dX5_moveAll_39 rfl rfl ?_
  refine qx_getR C (j := 0) (k := 3) hiX5 rfl rfl (by decide) qw_585 rfl dX5_moveAll_40 ?_
  refine qx_bipush C (v := 16) dX5_moveAll_43 rfl ?_
  refine qx_iload_n C dX5_moveAll_45 rfl rfl ?_
  refine qx_callVv C (b := 0) (As := [_, _, _]) (n := 3) (c_X5_move0_4 F (d + 0) _ 41 (mMv0_at 3 32 _ (mMv0_at 2 8 _ (mMv0_at 1 0 _ rfl 8) 24) 9) (by decide)) rfl rfl qw_818 qw_820 qw_37 qw_44 qw_821 ⟨rfl, by decide, by decide, by decide +kernel⟩ (qx_room (by omega) (by decide)) rfl rfl (Nat.le_of_ble_eq_true rfl) dX5_moveAll_46 ?_
  refine qx_aload_n C dX5_moveAll_49 rfl rfl ?_
  refine qx_aload_n C dX5_moveAll_50 rfl rfl ?_
  refine qx_getR C (j := 0) (k := 4) hiX5 rfl rfl (by decide) qw_586 rfl dX5_moveAll_51 ?_
  refine qx_bipush C (v := 55) dX5_moveAll_54 rfl ?_
  refine qx_iload_n C dX5_moveAll_56 rfl rfl ?_
  refine qx_callVv C (b := 0) (As := [_, _, _]) (n := 3) (c_X5_move0_5 F (d + 0) _ 57 (mMv0_at 4 41 _ (mMv0_at 3 32 _ (mMv0_at 2 8 _ (mMv0_at 1 0 _ rfl 8) 24) 9) 16) (by decide)) rfl rfl qw_818 qw_820 qw_37 qw_44 qw_821 ⟨rfl, by decide, by decide, by decide +kernel⟩ (qx_room (by omega) (by decide)) rfl rfl (Nat.le_of_ble_eq_true rfl) dX5_moveAll_57 ?_
  refine qx_aload_n C dX5_moveAll_60 rfl rfl ?_
  refine qx_aload_n C dX5_moveAll_61 rfl rfl ?_
  refine qx_getR C (j := 0) (k := 5) hiX5 rfl rfl (by decide) qw_587 rfl dX5_moveAll_62 ?_
  refine qx_sipush C (v := 140) dX5_moveAll_65 rfl ?_
  refine qx_iload_n C dX5_moveAll_68 rfl rfl ?_
  refine qx_callVv C (b := 0) (As := [_, _, _]) (n := 3) (c_X5_move0_6 F (d + 0) _ 112 (mMv0_at 5 57 _ (mMv0_at 4 41 _ (mMv0_at 3 32 _ (mMv0_at 2 8 _ (mMv0_at 1 0 _ rfl 8) 24) 9) 16) 55) (by decide)) rfl rfl qw_818 qw_820 qw_37 qw_44 qw_821 ⟨rfl, by decide, by decide, by decide +kernel⟩ (qx_room (by omega) (by decide)) rfl rfl (Nat.le_of_ble_eq_true rfl) dX5_moveAll_69 ?_
  exact qx_vret C dX5_moveAll_72 rfl
def mBack (σ : qx_S) : Int32 × qx_S := if σ 0 6 = 0 then (-4, σ) else (1, mAll0 σ)
set_option maxRecDepth 20000 in
set_option maxHeartbeats 4000000 in
theorem c_X5_keep (F : qx_F) (d : Nat) (σ : qx_S)  : qx_cI F shM ⟨"NightStallsModel", "keep", "()I"⟩ (.code ⟨"NightStallsModel", "keep", "()I"⟩ prog_7_method_52_code 1 ((some FieldType.int)) :: qx_W) (qx_R (d + 3)) [.ref (fa F 0)] σ (1) (qs (mAll1 σ) 0 6 1) := by
  refine qx_met (by decide) (Nat.le_of_ble_eq_true rfl) (by intro v hv; simp only [List.mem_cons, List.not_mem_nil, or_false] at hv; rcases hv with rfl <;> rfl) (fun K C => ?_)
  refine qx_aload_n C dX5_keep_0 rfl rfl ?_
  refine qx_iconst C (v := 1) dX5_keep_1 rfl ?_
  refine qx_callVv C (b := 0) (As := [_]) (n := 1) (c_X5_moveAll1 F (d + 0) _) rfl rfl qw_814 qw_816 qw_36 qw_44 qw_817 ⟨rfl, by decide, by decide, by decide +kernel⟩ (qx_room (by omega) (by decide)) rfl rfl (Nat.le_of_ble_eq_true rfl) dX5_keep_2 ?_
  refine qx_aload_n C dX5_keep_5 rfl rfl ?_
  refine qx_iconst C (v := 1) dX5_keep_6 rfl ?_
  refine qx_put C (j := 0) (k := 6) hiX5 rfl rfl (by decide) tyX5 tyX5_ok nmX5 qw_588 rfl rfl rfl rfl dX5_keep_7 ?_
  refine qx_iconst C (v := 1) dX5_keep_10 rfl ?_
  exact qx_iret C dX5_keep_11 rfl rfl rfl
set_option maxRecDepth 20000 in
set_option maxHeartbeats 4000000 in
theorem c_X5_back (F : qx_F) (d : Nat) (σ : qx_S)  : qx_cI F shM ⟨"NightStallsModel", "back", "()I"⟩ (.code ⟨"NightStallsModel", "back", "()I"⟩ prog_7_method_53_code 1 ((some FieldType.int)) :: qx_W) (qx_R (d + 3)) [.ref (fa F 0)] σ ((mBack σ).1) ((mBack σ).2) := by
  refine qx_met (by decide) (Nat.le_of_ble_eq_true rfl) (by intro v hv; simp only [List.mem_cons, List.not_mem_nil, or_false] at hv; rcases hv with rfl <;> rfl) (fun K C => ?_)
  refine qx_aload_n C dX5_back_0 rfl rfl ?_
  refine qx_getI C (j := 0) (k := 6) hiX5 rfl rfl (by decide) qw_588 rfl dX5_back_1 ?_
  refine qx_if_ne C (tgt := 10) dX5_back_4 (by decide) (fun h4 => ?_) (fun h4 => ?_)
  · refine qx_aload_n C dX5_back_10 rfl rfl ?_
    refine qx_iconst C (v := 0) dX5_back_11 rfl ?_
    refine qx_callVv C (b := 0) (As := [_]) (n := 1) (c_X5_moveAll0 F (d + 0) _) rfl rfl qw_814 qw_816 qw_36 qw_44 qw_817 ⟨rfl, by decide, by decide, by decide +kernel⟩ (qx_room (by omega) (by decide)) rfl rfl (Nat.le_of_ble_eq_true rfl) dX5_back_12 ?_
    refine qx_iconst C (v := 1) dX5_back_15 rfl ?_
    exact qx_iret C dX5_back_16 rfl (by first | rfl | simp [mBack, h4]) (by first | rfl | simp [mBack, h4])
  · refine qx_bipush C (v := (-4)) dX5_back_7 rfl ?_
    exact qx_iret C dX5_back_9 rfl (by first | rfl | simp [mBack, h4]) (by first | rfl | simp [mBack, h4])
