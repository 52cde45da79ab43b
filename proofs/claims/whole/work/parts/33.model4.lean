theorem ixa3 : (3 : Int32).toNatClampNeg = 3 := rfl
theorem ixa4 : (4 : Int32).toNatClampNeg = 4 := rfl
theorem ixa5 : (5 : Int32).toNatClampNeg = 5 := rfl
theorem ixa6 : (6 : Int32).toNatClampNeg = 6 := rfl
theorem ixa7 : (7 : Int32).toNatClampNeg = 7 := rfl
theorem ixa8 : (8 : Int32).toNatClampNeg = 8 := rfl
theorem ixa9 : (9 : Int32).toNatClampNeg = 9 := rfl
theorem ixa10 : (10 : Int32).toNatClampNeg = 10 := rfl
theorem ixa11 : (11 : Int32).toNatClampNeg = 11 := rfl
set_option maxRecDepth 20000 in
set_option maxHeartbeats 4000000 in
theorem c_X5_wattsOn (F : qx_F) (d : Nat) (σ : qx_S) (w : Int32) (P S n : Nat) (hw : mW σ P S n) : qx_cI F shM ⟨"NightStallsModel", "wattsOn", "(I)I"⟩ (.code ⟨"NightStallsModel", "wattsOn", "(I)I"⟩ prog_7_method_36_code 4 ((some FieldType.int)) :: qx_W) (qx_R (d + 2)) [.ref (fa F 0), .int w] σ (mWatts σ w S) (σ) := by
  refine qx_met (by decide) (Nat.le_of_ble_eq_true rfl) (by intro v hv; simp only [List.mem_cons, List.not_mem_nil, or_false] at hv; rcases hv with rfl | rfl <;> rfl) (fun K C => ?_)
  have hS5 := hw.2.1.2
  refine qx_iconst C (v := 0) dX5_wattsOn_0 rfl ?_
  refine qx_istore_n C dX5_wattsOn_1 rfl (Nat.le_of_ble_eq_true rfl) ?_
  refine qx_iconst C (v := 0) dX5_wattsOn_2 rfl ?_
  refine qx_istore_n C dX5_wattsOn_3 rfl (Nat.le_of_ble_eq_true rfl) ?_
  refine qx_to (qx_up S (P := fun i => qx_X K F shM (σ) 4 [some (.ref (fa F 0)), some (.int w), some (.int (mWatts σ w i)), some (.int (nI i))] []) (fun i hi hki => ?_) ?_) rfl rfl
  · refine qx_iload_n C dX5_wattsOn_4 rfl rfl ?_
    refine qx_aload_n C dX5_wattsOn_5 rfl rfl ?_
    refine qx_getR C (j := 0) (k := 0) hiX5 rfl rfl (by decide) qw_582 rfl dX5_wattsOn_6 ?_
    refine qx_iconst C (v := 1) dX5_wattsOn_9 rfl ?_
    refine qx_ialdL C (j := 1) (a := 1) rfl rfl ⟨by decide, by decide⟩ dX5_wattsOn_10 ?_
    refine qx_icmp_ge_f C (tgt := 64) dX5_wattsOn_11 (by decide) (by rw [hw.2.1.1]; exact nI_ge hi (by omega)) ?_
    rcases hw.2.2.2.2 i (by omega) with e6 | ⟨p, hp, ep⟩
    · refine qx_iload_n C dX5_wattsOn_14 rfl rfl ?_
      refine qx_aload_n C dX5_wattsOn_15 rfl rfl ?_
      refine qx_iload_n C dX5_wattsOn_16 rfl rfl ?_
      refine qx_callVI C (b := 0) (As := [_]) (n := 1) (c_X5_placeOf F (d + 0) _ i (by omega)) rfl rfl qw_709 qw_711 qw_22 qw_44 qw_712 ⟨rfl, by decide, by decide, by decide +kernel⟩ (qx_room (by omega) (by decide)) rfl rfl (Nat.le_of_ble_eq_true rfl) dX5_wattsOn_17 ?_
      refine qx_top e6 ?_
      refine qx_if_lt_t C (tgt := 55) dX5_wattsOn_20 (by decide) (by decide) ?_
      refine qx_iconst C (v := 0) dX5_wattsOn_55 rfl ?_
      refine qx_iadd C dX5_wattsOn_56 ?_
      refine qx_istore_n C dX5_wattsOn_57 rfl (Nat.le_of_ble_eq_true rfl) ?_
      refine qx_iincN C dX5_wattsOn_58 rfl ?_
      refine qx_goto C (tgt := 4) dX5_wattsOn_61 (by decide) ?_
      exact (qx_to hki (by first | rfl | simp [mWatts, qf, mLine, ix, e6]) (by first | rfl | simp [mWatts, qf, mLine, ix, e6]))
    · have ip : (nI p).toNatClampNeg = p := nI_clamp (by omega)
      have np : ¬ nI p < 0 := qx_n1 (by omega)
      refine qx_iload_n C dX5_wattsOn_14 rfl rfl ?_
      refine qx_aload_n C dX5_wattsOn_15 rfl rfl ?_
      refine qx_iload_n C dX5_wattsOn_16 rfl rfl ?_
      refine qx_callVI C (b := 0) (As := [_]) (n := 1) (c_X5_placeOf F (d + 0) _ i (by omega)) rfl rfl qw_709 qw_711 qw_22 qw_44 qw_712 ⟨rfl, by decide, by decide, by decide +kernel⟩ (qx_room (by omega) (by decide)) rfl rfl (Nat.le_of_ble_eq_true rfl) dX5_wattsOn_17 ?_
      refine qx_top ep ?_
      refine qx_if_lt_f C (tgt := 55) dX5_wattsOn_20 (by decide) (qx_n1 (by omega)) ?_
      refine qx_aload_n C dX5_wattsOn_23 rfl rfl ?_
      refine qx_getR C (j := 0) (k := 1) hiX5 rfl rfl (by decide) qw_583 rfl dX5_wattsOn_24 ?_
      refine qx_iconst C (v := 3) dX5_wattsOn_27 rfl ?_
      refine qx_aload_n C dX5_wattsOn_28 rfl rfl ?_
      refine qx_iload_n C dX5_wattsOn_29 rfl rfl ?_
      refine qx_callVI C (b := 0) (As := [_]) (n := 1) (c_X5_placeOf F (d + 0) _ i (by omega)) rfl rfl qw_709 qw_711 qw_22 qw_44 qw_712 ⟨rfl, by decide, by decide, by decide +kernel⟩ (qx_room (by omega) (by decide)) rfl rfl (Nat.le_of_ble_eq_true rfl) dX5_wattsOn_30 ?_
      refine qx_top ep ?_
      refine qx_imulE C dX5_wattsOn_33 (pk_mul 3 p) ?_
      refine qx_iconst C (v := 1) dX5_wattsOn_34 rfl ?_
      refine qx_iaddE C dX5_wattsOn_35 (nI_add (3 * p) 1) ?_
      refine qx_ialdN C (j := 2) rfl ⟨by omega, by decide⟩ dX5_wattsOn_36 ?_
      refine qx_iload_n C dX5_wattsOn_37 rfl rfl ?_
      refine qx_icmp_ne C (tgt := 55) dX5_wattsOn_38 (by decide) (fun h38 => ?_) (fun h38 => ?_)
      · refine qx_iconst C (v := 0) dX5_wattsOn_55 rfl ?_
        refine qx_iadd C dX5_wattsOn_56 ?_
        refine qx_istore_n C dX5_wattsOn_57 rfl (Nat.le_of_ble_eq_true rfl) ?_
        refine qx_iincN C dX5_wattsOn_58 rfl ?_
        refine qx_goto C (tgt := 4) dX5_wattsOn_61 (by decide) ?_
        exact (qx_to hki (by first | rfl | simp [mWatts, qf, mLine, ix, ep, ip, np, h38]) (by first | rfl | simp [mWatts, qf, mLine, ix, ep, ip, np, h38]))
      · refine qx_aload_n C dX5_wattsOn_41 rfl rfl ?_
        refine qx_getR C (j := 0) (k := 4) hiX5 rfl rfl (by decide) qw_586 rfl dX5_wattsOn_42 ?_
        refine qx_bipush C (v := 11) dX5_wattsOn_45 rfl ?_
        refine qx_iload_n C dX5_wattsOn_47 rfl rfl ?_
        refine qx_imulE C dX5_wattsOn_48 (pk_mul 11 i) ?_
        refine qx_iconst C (v := 2) dX5_wattsOn_49 rfl ?_
        refine qx_iaddE C dX5_wattsOn_50 (nI_add (11 * i) 2) ?_
        refine qx_ialdN C (j := 5) rfl ⟨by omega, by decide⟩ dX5_wattsOn_51 ?_
        refine qx_goto C (tgt := 56) dX5_wattsOn_52 (by decide) ?_
        refine qx_iadd C dX5_wattsOn_56 ?_
        refine qx_istore_n C dX5_wattsOn_57 rfl (Nat.le_of_ble_eq_true rfl) ?_
        refine qx_iincN C dX5_wattsOn_58 rfl ?_
        refine qx_goto C (tgt := 4) dX5_wattsOn_61 (by decide) ?_
        exact (qx_to hki (by first | rfl | simp [mWatts, qf, mLine, ix, ep, ip, np, h38]) (by first | rfl | simp [mWatts, qf, mLine, ix, ep, ip, np, h38]))
  · refine qx_iload_n C dX5_wattsOn_4 rfl rfl ?_
    refine qx_aload_n C dX5_wattsOn_5 rfl rfl ?_
    refine qx_getR C (j := 0) (k := 0) hiX5 rfl rfl (by decide) qw_582 rfl dX5_wattsOn_6 ?_
    refine qx_iconst C (v := 1) dX5_wattsOn_9 rfl ?_
    refine qx_ialdL C (j := 1) (a := 1) rfl rfl ⟨by decide, by decide⟩ dX5_wattsOn_10 ?_
    refine qx_icmp_ge_t C (tgt := 64) dX5_wattsOn_11 (by decide) (by rw [hw.2.1.1]; exact nI_le (Nat.le_refl _) (by omega)) ?_
    refine qx_iload_n C dX5_wattsOn_64 rfl rfl ?_
    exact qx_iret C dX5_wattsOn_65 rfl rfl rfl
set_option maxRecDepth 20000 in
set_option maxHeartbeats 4000000 in
theorem c_X5_isOver (F : qx_F) (d : Nat) (σ : qx_S) (k : Nat) (hk : k < 3) (P S n : Nat) (hw : mW σ P S n) : qx_cI F shM ⟨"NightStallsModel", "isOver", "(I)Z"⟩ (.code ⟨"NightStallsModel", "isOver", "(I)Z"⟩ prog_7_method_37_code 2 ((some FieldType.boolean)) :: qx_W) (qx_R (d + 3)) [.ref (fa F 0), .int (nI k)] σ (if mOver σ k S then 1 else 0) (σ) := by
  refine qx_met (by decide) (Nat.le_of_ble_eq_true rfl) (by intro v hv; simp only [List.mem_cons, List.not_mem_nil, or_false] at hv; rcases hv with rfl | rfl <;> rfl) (fun K C => ?_)
  refine qx_aload_n C dX5_isOver_0 rfl rfl ?_
  refine qx_getR C (j := 0) (k := 2) hiX5 rfl rfl (by decide) qw_584 rfl dX5_isOver_1 ?_
  refine qx_iconst C (v := 3) dX5_isOver_4 rfl ?_
  refine qx_iload_n C dX5_isOver_5 rfl rfl ?_
  refine qx_imulE C dX5_isOver_6 (pk_mul 3 k) ?_
  refine qx_iconst C (v := 1) dX5_isOver_7 rfl ?_
  refine qx_iaddE C dX5_isOver_8 (nI_add (3 * k) 1) ?_
  refine qx_ialdN C (j := 3) rfl ⟨by omega, by decide⟩ dX5_isOver_9 ?_
  refine qx_aload_n C dX5_isOver_10 rfl rfl ?_
  refine qx_iload_n C dX5_isOver_11 rfl rfl ?_
  refine qx_callVI C (b := 0) (As := [_]) (n := 1) (c_X5_wattsOn F (d + 0) _ _ P S n hw) rfl rfl qw_761 qw_763 qw_31 qw_44 qw_764 ⟨rfl, by decide, by decide, by decide +kernel⟩ (qx_room (by omega) (by decide)) rfl rfl (Nat.le_of_ble_eq_true rfl) dX5_isOver_12 ?_
  refine qx_iadd C dX5_isOver_15 ?_
  refine qx_aload_n C dX5_isOver_16 rfl rfl ?_
  refine qx_getR C (j := 0) (k := 2) hiX5 rfl rfl (by decide) qw_584 rfl dX5_isOver_17 ?_
  refine qx_iconst C (v := 3) dX5_isOver_20 rfl ?_
  refine qx_iload_n C dX5_isOver_21 rfl rfl ?_
  refine qx_imulE C dX5_isOver_22 (pk_mul 3 k) ?_
  refine qx_ialdN C (j := 3) rfl ⟨by omega, by decide⟩ dX5_isOver_23 ?_
  refine qx_icmp_le C (tgt := 31) dX5_isOver_24 (by decide) (fun h24 => ?_) (fun h24 => ?_)
  · refine qx_iconst C (v := 0) dX5_isOver_31 rfl ?_
    exact qx_iret C dX5_isOver_32 rfl (by first | exact (if_pos h24).symm | exact (if_neg (fun h => h h24)).symm) rfl
  · refine qx_iconst C (v := 1) dX5_isOver_27 rfl ?_
    refine qx_goto C (tgt := 32) dX5_isOver_28 (by decide) ?_
    exact qx_iret C dX5_isOver_32 rfl (by first | exact (if_pos h24).symm | exact (if_neg (fun h => h h24)).symm) rfl
theorem mW_3 {σ : qx_S} {P S n : Nat} (h : mW σ P S n) (k : Nat) (v : Int32) : mW (qs σ 3 k v) P S n := by
  unfold mW at *
  rw [qs_cell _ _ _ _ (by decide), qs_cell _ _ _ _ (by decide), qs_cell _ _ _ _ (by decide)]
  exact h
set_option maxRecDepth 20000 in
set_option maxHeartbeats 4000000 in
theorem c_X5_plug (F : qx_F) (d : Nat) (σ : qx_S) (k v : Int32) (P S n : Nat) (hw : mW σ P S n) : qx_cI F shM ⟨"NightStallsModel", "plug", "(II)I"⟩ (.code ⟨"NightStallsModel", "plug", "(II)I"⟩ prog_7_method_38_code 3 ((some FieldType.int)) :: qx_W) (qx_R (d + 4)) [.ref (fa F 0), .int k, .int v] σ ((mPlug σ k v S).1) ((mPlug σ k v S).2) := by
  refine qx_met (by decide) (Nat.le_of_ble_eq_true rfl) (by intro v hv; simp only [List.mem_cons, List.not_mem_nil, or_false] at hv; rcases hv with rfl | rfl | rfl <;> rfl) (fun K C => ?_)
  refine qx_aload_n C dX5_plug_0 rfl rfl ?_
  refine qx_callVI C (b := 0) (As := []) (n := 0) (c_X5_isOpen F (d + 2) _ ) rfl rfl qw_626 qw_628 qw_14 qw_44 qw_629 ⟨rfl, by decide, by decide, by decide +kernel⟩ (qx_room (by omega) (by decide)) rfl rfl (Nat.le_of_ble_eq_true rfl) dX5_plug_1 ?_
  refine qx_split _ (fun h1 => ?_) (fun h1 => ?_)
  · refine qx_if_ne_t C (tgt := 10) dX5_plug_4 (by decide) (by decide) ?_
    refine qx_iload_n C dX5_plug_10 rfl rfl ?_
    refine qx_callSI C (As := [_]) (n := 1) (c_X5_isLine F (d + 1) _ _) qw_649 qw_650 qw_44 qw_651 ⟨rfl, by decide, by decide, by decide +kernel⟩ (qx_room (by omega) (by decide)) rfl rfl (Nat.le_of_ble_eq_true rfl) dX5_plug_11 ?_
    refine qx_split _ (fun h11 => ?_) (fun h11 => ?_)
    · obtain ⟨k0, hk0, rfl⟩ := qx_inI 2 (by decide) h11
      have ik0 : (nI k0).toNatClampNeg = k0 := nI_clamp (by omega)
      refine qx_if_eq_f C (tgt := 27) dX5_plug_14 (by decide) (by decide) ?_
      refine qx_iload_n C dX5_plug_17 rfl rfl ?_
      refine qx_iconst C (v := 0) dX5_plug_18 rfl ?_
      refine qx_bipush C (v := 99) dX5_plug_19 rfl ?_
      refine qx_callSI C (As := [_, _, _]) (n := 3) (c_X5_in F (d + 2) _ _ _ _) qw_630 qw_631 qw_44 qw_632 ⟨rfl, by decide, by decide, by decide +kernel⟩ (qx_room (by omega) (by decide)) rfl rfl (Nat.le_of_ble_eq_true rfl) dX5_plug_21 ?_
      refine qx_split _ (fun h21 => ?_) (fun h21 => ?_)
      · refine qx_if_ne_t C (tgt := 29) dX5_plug_24 (by decide) (by decide) ?_
        refine qx_aload_n C dX5_plug_29 rfl rfl ?_
        refine qx_getR C (j := 0) (k := 2) hiX5 rfl rfl (by decide) qw_584 rfl dX5_plug_30 ?_
        refine qx_iconst C (v := 3) dX5_plug_33 rfl ?_
        refine qx_iload_n C dX5_plug_34 rfl rfl ?_
        refine qx_imulE C dX5_plug_35 (pk_mul 3 k0) ?_
        refine qx_iconst C (v := 2) dX5_plug_36 rfl ?_
        refine qx_iaddE C dX5_plug_37 (nI_add (3 * k0) 2) ?_
        refine qx_ialdN C (j := 3) rfl ⟨by omega, by decide⟩ dX5_plug_38 ?_
        refine qx_iconst C (v := 1) dX5_plug_39 rfl ?_
        refine qx_icmp_ne C (tgt := 46) dX5_plug_40 (by decide) (fun h40 => ?_) (fun h40 => ?_)
        · refine qx_aload_n C dX5_plug_46 rfl rfl ?_
          refine qx_getR C (j := 0) (k := 2) hiX5 rfl rfl (by decide) qw_584 rfl dX5_plug_47 ?_
          refine qx_iconst C (v := 3) dX5_plug_50 rfl ?_
          refine qx_iload_n C dX5_plug_51 rfl rfl ?_
          refine qx_imulE C dX5_plug_52 (pk_mul 3 k0) ?_
          refine qx_iconst C (v := 1) dX5_plug_53 rfl ?_
          refine qx_iaddE C dX5_plug_54 (nI_add (3 * k0) 1) ?_
          refine qx_iload_n C dX5_plug_55 rfl rfl ?_
          refine qx_iastN C (j := 3) rfl ⟨by omega, by decide⟩ dX5_plug_56 ?_
          refine qx_aload_n C dX5_plug_57 rfl rfl ?_
          refine qx_getR C (j := 0) (k := 2) hiX5 rfl rfl (by decide) qw_584 rfl dX5_plug_58 ?_
          refine qx_iconst C (v := 3) dX5_plug_61 rfl ?_
          refine qx_iload_n C dX5_plug_62 rfl rfl ?_
          refine qx_imulE C dX5_plug_63 (pk_mul 3 k0) ?_
          refine qx_iconst C (v := 2) dX5_plug_64 rfl ?_
          refine qx_iaddE C dX5_plug_65 (nI_add (3 * k0) 2) ?_
          refine qx_aload_n C dX5_plug_66 rfl rfl ?_
          refine qx_iload_n C dX5_plug_67 rfl rfl ?_
          refine qx_callVI C (b := 0) (As := [_]) (n := 1) (c_X5_isOver F (d + 0) _ k0 (by omega) P S n (mW_3 hw _ _)) rfl rfl qw_757 qw_759 qw_30 qw_44 qw_760 ⟨rfl, by decide, by decide, by decide +kernel⟩ (qx_room (by omega) (by decide)) rfl rfl (Nat.le_of_ble_eq_true rfl) dX5_plug_68 ?_
          refine qx_split _ (fun h68 => ?_) (fun h68 => ?_)
          · refine qx_if_eq_f C (tgt := 78) dX5_plug_71 (by decide) (by decide) ?_
            refine qx_iconst C (v := 1) dX5_plug_74 rfl ?_
            refine qx_goto C (tgt := 79) dX5_plug_75 (by decide) ?_
            refine qx_iastN C (j := 3) rfl ⟨by omega, by decide⟩ dX5_plug_79 ?_
            refine qx_aload_n C dX5_plug_80 rfl rfl ?_
            refine qx_getR C (j := 0) (k := 2) hiX5 rfl rfl (by decide) qw_584 rfl dX5_plug_81 ?_
            refine qx_iconst C (v := 3) dX5_plug_84 rfl ?_
            refine qx_iload_n C dX5_plug_85 rfl rfl ?_
            refine qx_imulE C dX5_plug_86 (pk_mul 3 k0) ?_
            refine qx_iconst C (v := 2) dX5_plug_87 rfl ?_
            refine qx_iaddE C dX5_plug_88 (nI_add (3 * k0) 2) ?_
            refine qx_ialdN C (j := 3) rfl ⟨by omega, by decide⟩ dX5_plug_89 ?_
            exact qx_iret C dX5_plug_90 rfl (by simp only [mPlug, mPlg, ix, ik0]; rw [if_pos h1, if_pos h11, if_pos h21, if_neg h40]; first | rw [if_pos h68] | rw [if_neg h68]) (by simp only [mPlug, mPlg, ix, ik0]; rw [if_pos h1, if_pos h11, if_pos h21, if_neg h40]; first | rw [if_pos h68] | rw [if_neg h68])
          · refine qx_if_eq_t C (tgt := 78) dX5_plug_71 (by decide) (by decide) ?_
            refine qx_iconst C (v := 0) dX5_plug_78 rfl ?_
            refine qx_iastN C (j := 3) rfl ⟨by omega, by decide⟩ dX5_plug_79 ?_
            refine qx_aload_n C dX5_plug_80 rfl rfl ?_
            refine qx_getR C (j := 0) (k := 2) hiX5 rfl rfl (by decide) qw_584 rfl dX5_plug_81 ?_
            refine qx_iconst C (v := 3) dX5_plug_84 rfl ?_
            refine qx_iload_n C dX5_plug_85 rfl rfl ?_
            refine qx_imulE C dX5_plug_86 (pk_mul 3 k0) ?_
            refine qx_iconst C (v := 2) dX5_plug_87 rfl ?_
            refine qx_iaddE C dX5_plug_88 (nI_add (3 * k0) 2) ?_
            refine qx_ialdN C (j := 3) rfl ⟨by omega, by decide⟩ dX5_plug_89 ?_
            exact qx_iret C dX5_plug_90 rfl (by simp only [mPlug, mPlg, ix, ik0]; rw [if_pos h1, if_pos h11, if_pos h21, if_neg h40]; first | rw [if_pos h68] | rw [if_neg h68]) (by simp only [mPlug, mPlg, ix, ik0]; rw [if_pos h1, if_pos h11, if_pos h21, if_neg h40]; first | rw [if_pos h68] | rw [if_neg h68])
        · refine qx_bipush C (v := (-5)) dX5_plug_43 rfl ?_
          exact qx_iret C dX5_plug_45 rfl (by first | rfl | simp [mOpen, mPlug, mPlg, h1, h11, ik0, h21, h40]) (by first | rfl | simp [mOpen, mPlug, mPlg, h1, h11, ik0, h21, h40])
      · refine qx_if_ne_f C (tgt := 29) dX5_plug_24 (by decide) (by decide) ?_
        refine qx_iconst C (v := (-1)) dX5_plug_27 rfl ?_
        exact qx_iret C dX5_plug_28 rfl (by first | rfl | simp [mOpen, mPlug, mPlg, h1, h11, ik0, h21]) (by first | rfl | simp [mOpen, mPlug, mPlg, h1, h11, ik0, h21])
    · refine qx_if_eq_t C (tgt := 27) dX5_plug_14 (by decide) (by decide) ?_
      refine qx_iconst C (v := (-1)) dX5_plug_27 rfl ?_
      exact qx_iret C dX5_plug_28 rfl (by first | rfl | simp [mOpen, mPlug, mPlg, h1, h11]) (by first | rfl | simp [mOpen, mPlug, mPlg, h1, h11])
  · refine qx_if_ne_f C (tgt := 10) dX5_plug_4 (by decide) (by decide) ?_
    refine qx_bipush C (v := (-3)) dX5_plug_7 rfl ?_
    exact qx_iret C dX5_plug_9 rfl (by first | rfl | simp [mOpen, mPlug, mPlg, h1]) (by first | rfl | simp [mOpen, mPlug, mPlg, h1])
set_option maxRecDepth 20000 in
set_option maxHeartbeats 4000000 in
theorem c_X5_reset (F : qx_F) (d : Nat) (σ : qx_S) (k : Int32) (P S n : Nat) (hw : mW σ P S n) : qx_cI F shM ⟨"NightStallsModel", "reset", "(I)I"⟩ (.code ⟨"NightStallsModel", "reset", "(I)I"⟩ prog_7_method_39_code 2 ((some FieldType.int)) :: qx_W) (qx_R (d + 4)) [.ref (fa F 0), .int k] σ ((mReset σ k S).1) ((mReset σ k S).2) := by
  refine qx_met (by decide) (Nat.le_of_ble_eq_true rfl) (by intro v hv; simp only [List.mem_cons, List.not_mem_nil, or_false] at hv; rcases hv with rfl | rfl <;> rfl) (fun K C => ?_)
  refine qx_aload_n C dX5_reset_0 rfl rfl ?_
  refine qx_callVI C (b := 0) (As := []) (n := 0) (c_X5_isOpen F (d + 2) _ ) rfl rfl qw_626 qw_628 qw_14 qw_44 qw_629 ⟨rfl, by decide, by decide, by decide +kernel⟩ (qx_room (by omega) (by decide)) rfl rfl (Nat.le_of_ble_eq_true rfl) dX5_reset_1 ?_
  refine qx_split _ (fun h1 => ?_) (fun h1 => ?_)
  · refine qx_if_ne_t C (tgt := 10) dX5_reset_4 (by decide) (by decide) ?_
    refine qx_iload_n C dX5_reset_10 rfl rfl ?_
    refine qx_callSI C (As := [_]) (n := 1) (c_X5_isLine F (d + 1) _ _) qw_649 qw_650 qw_44 qw_651 ⟨rfl, by decide, by decide, by decide +kernel⟩ (qx_room (by omega) (by decide)) rfl rfl (Nat.le_of_ble_eq_true rfl) dX5_reset_11 ?_
    refine qx_split _ (fun h11 => ?_) (fun h11 => ?_)
    · obtain ⟨k0, hk0, rfl⟩ := qx_inI 2 (by decide) h11
      have ik0 : (nI k0).toNatClampNeg = k0 := nI_clamp (by omega)
      refine qx_if_ne_t C (tgt := 19) dX5_reset_14 (by decide) (by decide) ?_
      refine qx_aload_n C dX5_reset_19 rfl rfl ?_
      refine qx_getR C (j := 0) (k := 2) hiX5 rfl rfl (by decide) qw_584 rfl dX5_reset_20 ?_
      refine qx_iconst C (v := 3) dX5_reset_23 rfl ?_
      refine qx_iload_n C dX5_reset_24 rfl rfl ?_
      refine qx_imulE C dX5_reset_25 (pk_mul 3 k0) ?_
      refine qx_iconst C (v := 2) dX5_reset_26 rfl ?_
      refine qx_iaddE C dX5_reset_27 (nI_add (3 * k0) 2) ?_
      refine qx_ialdN C (j := 3) rfl ⟨by omega, by decide⟩ dX5_reset_28 ?_
      refine qx_if_ne C (tgt := 35) dX5_reset_29 (by decide) (fun h29 => ?_) (fun h29 => ?_)
      · refine qx_aload_n C dX5_reset_35 rfl rfl ?_
        refine qx_iload_n C dX5_reset_36 rfl rfl ?_
        refine qx_callVI C (b := 0) (As := [_]) (n := 1) (c_X5_isOver F (d + 0) _ k0 (by omega) P S n hw) rfl rfl qw_757 qw_759 qw_30 qw_44 qw_760 ⟨rfl, by decide, by decide, by decide +kernel⟩ (qx_room (by omega) (by decide)) rfl rfl (Nat.le_of_ble_eq_true rfl) dX5_reset_37 ?_
        refine qx_split _ (fun h37 => ?_) (fun h37 => ?_)
        · refine qx_if_eq_f C (tgt := 46) dX5_reset_40 (by decide) (by decide) ?_
          refine qx_bipush C (v := (-5)) dX5_reset_43 rfl ?_
          exact qx_iret C dX5_reset_45 rfl (by simp only [mReset, ix, ik0]; rw [if_pos h1, if_pos h11, if_neg h29]; first | rw [if_pos h37] | rw [if_neg h37]) (by simp only [mReset, ix, ik0]; rw [if_pos h1, if_pos h11, if_neg h29]; first | rw [if_pos h37] | rw [if_neg h37])
        · refine qx_if_eq_t C (tgt := 46) dX5_reset_40 (by decide) (by decide) ?_
          refine qx_aload_n C dX5_reset_46 rfl rfl ?_
          refine qx_getR C (j := 0) (k := 2) hiX5 rfl rfl (by decide) qw_584 rfl dX5_reset_47 ?_
          refine qx_iconst C (v := 3) dX5_reset_50 rfl ?_
          refine qx_iload_n C dX5_reset_51 rfl rfl ?_
          refine qx_imulE C dX5_reset_52 (pk_mul 3 k0) ?_
          refine qx_iconst C (v := 2) dX5_reset_53 rfl ?_
          refine qx_iaddE C dX5_reset_54 (nI_add (3 * k0) 2) ?_
          refine qx_iconst C (v := 0) dX5_reset_55 rfl ?_
          refine qx_iastN C (j := 3) rfl ⟨by omega, by decide⟩ dX5_reset_56 ?_
          refine qx_iconst C (v := 1) dX5_reset_57 rfl ?_
          exact qx_iret C dX5_reset_58 rfl (by simp only [mReset, ix, ik0]; rw [if_pos h1, if_pos h11, if_neg h29]; first | rw [if_pos h37] | rw [if_neg h37]) (by simp only [mReset, ix, ik0]; rw [if_pos h1, if_pos h11, if_neg h29]; first | rw [if_pos h37] | rw [if_neg h37])
      · refine qx_bipush C (v := (-4)) dX5_reset_32 rfl ?_
        exact qx_iret C dX5_reset_34 rfl (by first | rfl | simp [mOpen, mReset, h1, h11, ik0, h29]) (by first | rfl | simp [mOpen, mReset, h1, h11, ik0, h29])
    · refine qx_if_ne_f C (tgt := 19) dX5_reset_14 (by decide) (by decide) ?_
      refine qx_iconst C (v := (-1)) dX5_reset_17 rfl ?_
      exact qx_iret C dX5_reset_18 rfl (by first | rfl | simp [mOpen, mReset, h1, h11]) (by first | rfl | simp [mOpen, mReset, h1, h11])
  · refine qx_if_ne_f C (tgt := 10) dX5_reset_4 (by decide) (by decide) ?_
    refine qx_bipush C (v := (-3)) dX5_reset_7 rfl ?_
    exact qx_iret C dX5_reset_9 rfl (by first | rfl | simp [mOpen, mReset, h1]) (by first | rfl | simp [mOpen, mReset, h1])
set_option maxRecDepth 20000 in
set_option maxHeartbeats 4000000 in
theorem c_X5_pull (F : qx_F) (d : Nat) (σ : qx_S) (k : Int32) : qx_cI F shM ⟨"NightStallsModel", "pull", "(I)I"⟩ (.code ⟨"NightStallsModel", "pull", "(I)I"⟩ prog_7_method_40_code 3 ((some FieldType.int)) :: qx_W) (qx_R (d + 3)) [.ref (fa F 0), .int k] σ ((mPull σ k).1) ((mPull σ k).2) := by
  refine qx_met (by decide) (Nat.le_of_ble_eq_true rfl) (by intro v hv; simp only [List.mem_cons, List.not_mem_nil, or_false] at hv; rcases hv with rfl | rfl <;> rfl) (fun K C => ?_)
  refine qx_aload_n C dX5_pull_0 rfl rfl ?_
  refine qx_callVI C (b := 0) (As := []) (n := 0) (c_X5_isOpen F (d + 1) _ ) rfl rfl qw_626 qw_628 qw_14 qw_44 qw_629 ⟨rfl, by decide, by decide, by decide +kernel⟩ (qx_room (by omega) (by decide)) rfl rfl (Nat.le_of_ble_eq_true rfl) dX5_pull_1 ?_
  refine qx_split _ (fun h1 => ?_) (fun h1 => ?_)
  · refine qx_if_ne_t C (tgt := 10) dX5_pull_4 (by decide) (by decide) ?_
    refine qx_iload_n C dX5_pull_10 rfl rfl ?_
    refine qx_callSI C (As := [_]) (n := 1) (c_X5_isLine F (d + 0) _ _) qw_649 qw_650 qw_44 qw_651 ⟨rfl, by decide, by decide, by decide +kernel⟩ (qx_room (by omega) (by decide)) rfl rfl (Nat.le_of_ble_eq_true rfl) dX5_pull_11 ?_
    refine qx_split _ (fun h11 => ?_) (fun h11 => ?_)
    · obtain ⟨k0, hk0, rfl⟩ := qx_inI 2 (by decide) h11
      have ik0 : (nI k0).toNatClampNeg = k0 := nI_clamp (by omega)
      refine qx_if_ne_t C (tgt := 19) dX5_pull_14 (by decide) (by decide) ?_
      refine qx_aload_n C dX5_pull_19 rfl rfl ?_
      refine qx_getR C (j := 0) (k := 2) hiX5 rfl rfl (by decide) qw_584 rfl dX5_pull_20 ?_
      refine qx_iconst C (v := 3) dX5_pull_23 rfl ?_
      refine qx_iload_n C dX5_pull_24 rfl rfl ?_
      refine qx_imulE C dX5_pull_25 (pk_mul 3 k0) ?_
      refine qx_iconst C (v := 1) dX5_pull_26 rfl ?_
      refine qx_iaddE C dX5_pull_27 (nI_add (3 * k0) 1) ?_
      refine qx_ialdN C (j := 3) rfl ⟨by omega, by decide⟩ dX5_pull_28 ?_
      refine qx_istore_n C dX5_pull_29 rfl (Nat.le_of_ble_eq_true rfl) ?_
      refine qx_aload_n C dX5_pull_30 rfl rfl ?_
      refine qx_getR C (j := 0) (k := 2) hiX5 rfl rfl (by decide) qw_584 rfl dX5_pull_31 ?_
      refine qx_iconst C (v := 3) dX5_pull_34 rfl ?_
      refine qx_iload_n C dX5_pull_35 rfl rfl ?_
      refine qx_imulE C dX5_pull_36 (pk_mul 3 k0) ?_
      refine qx_iconst C (v := 1) dX5_pull_37 rfl ?_
      refine qx_iaddE C dX5_pull_38 (nI_add (3 * k0) 1) ?_
      refine qx_iconst C (v := 0) dX5_pull_39 rfl ?_
      refine qx_iastN C (j := 3) rfl ⟨by omega, by decide⟩ dX5_pull_40 ?_
      refine qx_iload_n C dX5_pull_41 rfl rfl ?_
      exact qx_iret C dX5_pull_42 rfl (by first | rfl | simp [mOpen, mPull, h1, h11, ik0]) (by first | rfl | simp [mOpen, mPull, h1, h11, ik0])
    · refine qx_if_ne_f C (tgt := 19) dX5_pull_14 (by decide) (by decide) ?_
      refine qx_iconst C (v := (-1)) dX5_pull_17 rfl ?_
      exact qx_iret C dX5_pull_18 rfl (by first | rfl | simp [mOpen, mPull, h1, h11]) (by first | rfl | simp [mOpen, mPull, h1, h11])
  · refine qx_if_ne_f C (tgt := 10) dX5_pull_4 (by decide) (by decide) ?_
    refine qx_bipush C (v := (-3)) dX5_pull_7 rfl ?_
    exact qx_iret C dX5_pull_9 rfl (by first | rfl | simp [mOpen, mPull, h1]) (by first | rfl | simp [mOpen, mPull, h1])
set_option maxRecDepth 20000 in
set_option maxHeartbeats 4000000 in
theorem c_X5_billOf (F : qx_F) (d : Nat) (σ : qx_S) (s : Nat) (hs : s < 5) (P S n : Nat) (hw : mW σ P S n) : qx_cI F shM ⟨"NightStallsModel", "billOf", "(I)I"⟩ (.code ⟨"NightStallsModel", "billOf", "(I)I"⟩ prog_7_method_41_code 2 ((some FieldType.int)) :: qx_W) (qx_R (d + 2)) [.ref (fa F 0), .int (nI s)] σ (mBill σ s) (σ) := by
  refine qx_met (by decide) (Nat.le_of_ble_eq_true rfl) (by intro v hv; simp only [List.mem_cons, List.not_mem_nil, or_false] at hv; rcases hv with rfl | rfl <;> rfl) (fun K C => ?_)
  rcases hw.2.2.2.2 s (by omega) with e6 | ⟨p, hp, ep⟩
  · refine qx_aload_n C dX5_billOf_0 rfl rfl ?_
    refine qx_iload_n C dX5_billOf_1 rfl rfl ?_
    refine qx_callVI C (b := 0) (As := [_]) (n := 1) (c_X5_placeOf F (d + 0) _ s (by omega)) rfl rfl qw_709 qw_711 qw_22 qw_44 qw_712 ⟨rfl, by decide, by decide, by decide +kernel⟩ (qx_room (by omega) (by decide)) rfl rfl (Nat.le_of_ble_eq_true rfl) dX5_billOf_2 ?_
    refine qx_top e6 ?_
    refine qx_if_ge_f C (tgt := 10) dX5_billOf_5 (by decide) (by decide) ?_
    refine qx_iconst C (v := 0) dX5_billOf_8 rfl ?_
    exact qx_iret C dX5_billOf_9 rfl (by first | rfl | simp [mBill, ix, e6]) (by first | rfl | simp [mBill, ix, e6])
  · have ip : (nI p).toNatClampNeg = p := nI_clamp (by omega)
    have np : ¬ nI p < 0 := qx_n1 (by omega)
    refine qx_aload_n C dX5_billOf_0 rfl rfl ?_
    refine qx_iload_n C dX5_billOf_1 rfl rfl ?_
    refine qx_callVI C (b := 0) (As := [_]) (n := 1) (c_X5_placeOf F (d + 0) _ s (by omega)) rfl rfl qw_709 qw_711 qw_22 qw_44 qw_712 ⟨rfl, by decide, by decide, by decide +kernel⟩ (qx_room (by omega) (by decide)) rfl rfl (Nat.le_of_ble_eq_true rfl) dX5_billOf_2 ?_
    refine qx_top ep ?_
    refine qx_if_ge_t C (tgt := 10) dX5_billOf_5 (by decide) (nI_pos' (by omega)) ?_
    refine qx_aload_n C dX5_billOf_10 rfl rfl ?_
    refine qx_getR C (j := 0) (k := 1) hiX5 rfl rfl (by decide) qw_583 rfl dX5_billOf_11 ?_
    refine qx_iconst C (v := 3) dX5_billOf_14 rfl ?_
    refine qx_aload_n C dX5_billOf_15 rfl rfl ?_
    refine qx_iload_n C dX5_billOf_16 rfl rfl ?_
    refine qx_callVI C (b := 0) (As := [_]) (n := 1) (c_X5_placeOf F (d + 0) _ s (by omega)) rfl rfl qw_709 qw_711 qw_22 qw_44 qw_712 ⟨rfl, by decide, by decide, by decide +kernel⟩ (qx_room (by omega) (by decide)) rfl rfl (Nat.le_of_ble_eq_true rfl) dX5_billOf_17 ?_
    refine qx_top ep ?_
    refine qx_imulE C dX5_billOf_20 (pk_mul 3 p) ?_
    refine qx_ialdN C (j := 2) rfl ⟨by omega, by decide⟩ dX5_billOf_21 ?_
    refine qx_aload_n C dX5_billOf_22 rfl rfl ?_
    refine qx_getR C (j := 0) (k := 4) hiX5 rfl rfl (by decide) qw_586 rfl dX5_billOf_23 ?_
    refine qx_bipush C (v := 11) dX5_billOf_26 rfl ?_
    refine qx_iload_n C dX5_billOf_28 rfl rfl ?_
    refine qx_imulE C dX5_billOf_29 (pk_mul 11 s) ?_
    refine qx_bipush C (v := 8) dX5_billOf_30 rfl ?_
    refine qx_iaddE C dX5_billOf_32 (nI_add (11 * s) 8) ?_
    refine qx_ialdN C (j := 5) rfl ⟨by omega, by decide⟩ dX5_billOf_33 ?_
    refine qx_aload_n C dX5_billOf_34 rfl rfl ?_
    refine qx_getR C (j := 0) (k := 0) hiX5 rfl rfl (by decide) qw_582 rfl dX5_billOf_35 ?_
    refine qx_bipush C (v := 6) dX5_billOf_38 rfl ?_
    refine qx_ialdL C (j := 1) (a := 6) rfl rfl ⟨by decide, by decide⟩ dX5_billOf_40 ?_
    refine qx_imul C dX5_billOf_41 ?_
    refine qx_bipush C (v := 100) dX5_billOf_42 rfl ?_
    refine qx_idiv C dX5_billOf_44 (by decide) ?_
    refine qx_iadd C dX5_billOf_45 ?_
    exact qx_iret C dX5_billOf_46 rfl (by first | rfl | simp [mBill, ix, ep, ip, np]) (by first | rfl | simp [mBill, ix, ep, ip, np])
set_option maxRecDepth 20000 in
set_option maxHeartbeats 4000000 in
theorem c_X5_of (F : qx_F) (d : Nat) (σ : qx_S) (s w : Int32) (P S n : Nat) (hw : mW σ P S n) : qx_cI F shM ⟨"NightStallsModel", "of", "(II)I"⟩ (.code ⟨"NightStallsModel", "of", "(II)I"⟩ prog_7_method_42_code 3 ((some FieldType.int)) :: qx_W) (qx_R (d + 3)) [.ref (fa F 0), .int s, .int w] σ (mOfF σ s w n) (σ) := by
  refine qx_met (by decide) (Nat.le_of_ble_eq_true rfl) (by intro v hv; simp only [List.mem_cons, List.not_mem_nil, or_false] at hv; rcases hv with rfl | rfl | rfl <;> rfl) (fun K C => ?_)
  have hn := hw.2.2.1.1
  have hn20 := hw.2.2.1.2
  have hS5 := hw.2.1.2
  refine qx_aload_n C dX5_of_0 rfl rfl ?_
  refine qx_iload_n C dX5_of_1 rfl rfl ?_
  refine qx_callVI C (b := 0) (As := [_]) (n := 1) (c_X5_isStall F (d + 0) _ _) rfl rfl qw_671 qw_673 qw_17 qw_44 qw_674 ⟨rfl, by decide, by decide, by decide +kernel⟩ (qx_room (by omega) (by decide)) rfl rfl (Nat.le_of_ble_eq_true rfl) dX5_of_2 ?_
  refine qx_split _ (fun h2 => ?_) (fun h2 => ?_)
  · obtain ⟨s0, hs0, rfl⟩ := qx_has hw.2.1.1 (by omega) h2
    have is0 : (nI s0).toNatClampNeg = s0 := nI_clamp (by omega)
    refine qx_if_eq_f C (tgt := 18) dX5_of_5 (by decide) (by decide) ?_
    refine qx_iload_n C dX5_of_8 rfl rfl ?_
    refine qx_iconst C (v := 0) dX5_of_9 rfl ?_
    refine qx_bipush C (v := 11) dX5_of_10 rfl ?_
    refine qx_callSI C (As := [_, _, _]) (n := 3) (c_X5_in F (d + 1) _ _ _ _) qw_630 qw_631 qw_44 qw_632 ⟨rfl, by decide, by decide, by decide +kernel⟩ (qx_room (by omega) (by decide)) rfl rfl (Nat.le_of_ble_eq_true rfl) dX5_of_12 ?_
    refine qx_split _ (fun h12 => ?_) (fun h12 => ?_)
    · refine qx_if_ne_t C (tgt := 20) dX5_of_15 (by decide) (by decide) ?_
      obtain ⟨w0, hw0, ew⟩ := qx_inI 11 (by decide) h12
      by_cases e0 : w0 = 0
      · subst e0
        obtain rfl : w = 0 := ew
        refine qx_iload_n C dX5_of_20 rfl rfl ?_
        refine qx_tableOut C (tgt := 104) dX5_of_21 (by decide) (by decide) ?_
        refine qx_aload_n C dX5_of_104 rfl rfl ?_
        refine qx_getR C (j := 0) (k := 4) hiX5 rfl rfl (by decide) qw_586 rfl dX5_of_105 ?_
        refine qx_bipush C (v := 11) dX5_of_108 rfl ?_
        refine qx_iload_n C dX5_of_110 rfl rfl ?_
        refine qx_imulE C dX5_of_111 (pk_mul 11 s0) ?_
        refine qx_iload_n C dX5_of_112 rfl rfl ?_
        refine qx_iaddE C dX5_of_113 (nI_add (11 * s0) 0) ?_
        refine qx_ialdN C (j := 5) rfl ⟨by omega, by decide⟩ dX5_of_114 ?_
        exact qx_iret C dX5_of_115 rfl (by first | rfl | simp [mOfF, mFact, ixa0, ixa1, ixa2, ixa3, ixa4, ixa5, ixa6, ixa7, ixa8, h2, is0, h12]) (by first | rfl | simp [mOfF, mFact, ixa0, ixa1, ixa2, ixa3, ixa4, ixa5, ixa6, ixa7, ixa8, h2, is0, h12])
      by_cases e1 : w0 = 1
      · subst e1
        obtain rfl : w = 1 := ew
        refine qx_iload_n C dX5_of_20 rfl rfl ?_
        refine qx_tableOut C (tgt := 104) dX5_of_21 (by decide) (by decide) ?_
        refine qx_aload_n C dX5_of_104 rfl rfl ?_
        refine qx_getR C (j := 0) (k := 4) hiX5 rfl rfl (by decide) qw_586 rfl dX5_of_105 ?_
        refine qx_bipush C (v := 11) dX5_of_108 rfl ?_
        refine qx_iload_n C dX5_of_110 rfl rfl ?_
        refine qx_imulE C dX5_of_111 (pk_mul 11 s0) ?_
        refine qx_iload_n C dX5_of_112 rfl rfl ?_
        refine qx_iaddE C dX5_of_113 (nI_add (11 * s0) 1) ?_
        refine qx_ialdN C (j := 5) rfl ⟨by omega, by decide⟩ dX5_of_114 ?_
        exact qx_iret C dX5_of_115 rfl (by first | rfl | simp [mOfF, mFact, ixa0, ixa1, ixa2, ixa3, ixa4, ixa5, ixa6, ixa7, ixa8, h2, is0, h12]) (by first | rfl | simp [mOfF, mFact, ixa0, ixa1, ixa2, ixa3, ixa4, ixa5, ixa6, ixa7, ixa8, h2, is0, h12])
      by_cases e2 : w0 = 2
      · subst e2
        obtain rfl : w = 2 := ew
        refine qx_iload_n C dX5_of_20 rfl rfl ?_
        refine qx_tableOut C (tgt := 104) dX5_of_21 (by decide) (by decide) ?_
        refine qx_aload_n C dX5_of_104 rfl rfl ?_
        refine qx_getR C (j := 0) (k := 4) hiX5 rfl rfl (by decide) qw_586 rfl dX5_of_105 ?_
        refine qx_bipush C (v := 11) dX5_of_108 rfl ?_
        refine qx_iload_n C dX5_of_110 rfl rfl ?_
        refine qx_imulE C dX5_of_111 (pk_mul 11 s0) ?_
        refine qx_iload_n C dX5_of_112 rfl rfl ?_
        refine qx_iaddE C dX5_of_113 (nI_add (11 * s0) 2) ?_
        refine qx_ialdN C (j := 5) rfl ⟨by omega, by decide⟩ dX5_of_114 ?_
        exact qx_iret C dX5_of_115 rfl (by first | rfl | simp [mOfF, mFact, ixa0, ixa1, ixa2, ixa3, ixa4, ixa5, ixa6, ixa7, ixa8, h2, is0, h12]) (by first | rfl | simp [mOfF, mFact, ixa0, ixa1, ixa2, ixa3, ixa4, ixa5, ixa6, ixa7, ixa8, h2, is0, h12])
      by_cases e3 : w0 = 3
      · subst e3
        obtain rfl : w = 3 := ew
        refine qx_iload_n C dX5_of_20 rfl rfl ?_
        refine qx_tableOut C (tgt := 104) dX5_of_21 (by decide) (by decide) ?_
        refine qx_aload_n C dX5_of_104 rfl rfl ?_
        refine qx_getR C (j := 0) (k := 4) hiX5 rfl rfl (by decide) qw_586 rfl dX5_of_105 ?_
        refine qx_bipush C (v := 11) dX5_of_108 rfl ?_
        refine qx_iload_n C dX5_of_110 rfl rfl ?_
        refine qx_imulE C dX5_of_111 (pk_mul 11 s0) ?_
        refine qx_iload_n C dX5_of_112 rfl rfl ?_
        refine qx_iaddE C dX5_of_113 (nI_add (11 * s0) 3) ?_
        refine qx_ialdN C (j := 5) rfl ⟨by omega, by decide⟩ dX5_of_114 ?_
        exact qx_iret C dX5_of_115 rfl (by first | rfl | simp [mOfF, mFact, ixa0, ixa1, ixa2, ixa3, ixa4, ixa5, ixa6, ixa7, ixa8, h2, is0, h12]) (by first | rfl | simp [mOfF, mFact, ixa0, ixa1, ixa2, ixa3, ixa4, ixa5, ixa6, ixa7, ixa8, h2, is0, h12])
      by_cases e4 : w0 = 4
      · subst e4
        obtain rfl : w = 4 := ew
        refine qx_iload_n C dX5_of_20 rfl rfl ?_
        refine qx_tableOut C (tgt := 104) dX5_of_21 (by decide) (by decide) ?_
        refine qx_aload_n C dX5_of_104 rfl rfl ?_
        refine qx_getR C (j := 0) (k := 4) hiX5 rfl rfl (by decide) qw_586 rfl dX5_of_105 ?_
        refine qx_bipush C (v := 11) dX5_of_108 rfl ?_
        refine qx_iload_n C dX5_of_110 rfl rfl ?_
        refine qx_imulE C dX5_of_111 (pk_mul 11 s0) ?_
        refine qx_iload_n C dX5_of_112 rfl rfl ?_
        refine qx_iaddE C dX5_of_113 (nI_add (11 * s0) 4) ?_
        refine qx_ialdN C (j := 5) rfl ⟨by omega, by decide⟩ dX5_of_114 ?_
        exact qx_iret C dX5_of_115 rfl (by first | rfl | simp [mOfF, mFact, ixa0, ixa1, ixa2, ixa3, ixa4, ixa5, ixa6, ixa7, ixa8, h2, is0, h12]) (by first | rfl | simp [mOfF, mFact, ixa0, ixa1, ixa2, ixa3, ixa4, ixa5, ixa6, ixa7, ixa8, h2, is0, h12])
      by_cases e5 : w0 = 5
      · subst e5
        obtain rfl : w = 5 := ew
        refine qx_iload_n C dX5_of_20 rfl rfl ?_
        refine qx_tableOut C (tgt := 104) dX5_of_21 (by decide) (by decide) ?_
        refine qx_aload_n C dX5_of_104 rfl rfl ?_
        refine qx_getR C (j := 0) (k := 4) hiX5 rfl rfl (by decide) qw_586 rfl dX5_of_105 ?_
        refine qx_bipush C (v := 11) dX5_of_108 rfl ?_
        refine qx_iload_n C dX5_of_110 rfl rfl ?_
        refine qx_imulE C dX5_of_111 (pk_mul 11 s0) ?_
        refine qx_iload_n C dX5_of_112 rfl rfl ?_
        refine qx_iaddE C dX5_of_113 (nI_add (11 * s0) 5) ?_
        refine qx_ialdN C (j := 5) rfl ⟨by omega, by decide⟩ dX5_of_114 ?_
        exact qx_iret C dX5_of_115 rfl (by first | rfl | simp [mOfF, mFact, ixa0, ixa1, ixa2, ixa3, ixa4, ixa5, ixa6, ixa7, ixa8, h2, is0, h12]) (by first | rfl | simp [mOfF, mFact, ixa0, ixa1, ixa2, ixa3, ixa4, ixa5, ixa6, ixa7, ixa8, h2, is0, h12])
      by_cases e6 : w0 = 6
      · subst e6
        obtain rfl : w = 6 := ew
        refine qx_iload_n C dX5_of_20 rfl rfl ?_
        refine qx_tableIn C (tgt := 60) (off := 39) dX5_of_21 (by decide) (by decide) (by decide) (by decide) ?_
        refine qx_aload_n C dX5_of_60 rfl rfl ?_
        refine qx_iload_n C dX5_of_61 rfl rfl ?_
        refine qx_callVI C (b := 0) (As := [_]) (n := 1) (c_X5_placeOf F (d + 1) _ s0 (by omega)) rfl rfl qw_709 qw_711 qw_22 qw_44 qw_712 ⟨rfl, by decide, by decide, by decide +kernel⟩ (qx_room (by omega) (by decide)) rfl rfl (Nat.le_of_ble_eq_true rfl) dX5_of_62 ?_
        refine qx_if_ge C (tgt := 73) dX5_of_65 (by decide) (fun h65 => ?_) (fun h65 => ?_)
        · refine qx_aload_n C dX5_of_73 rfl rfl ?_
          refine qx_iload_n C dX5_of_74 rfl rfl ?_
          refine qx_callVI C (b := 0) (As := [_]) (n := 1) (c_X5_placeOf F (d + 1) _ s0 (by omega)) rfl rfl qw_709 qw_711 qw_22 qw_44 qw_712 ⟨rfl, by decide, by decide, by decide +kernel⟩ (qx_room (by omega) (by decide)) rfl rfl (Nat.le_of_ble_eq_true rfl) dX5_of_75 ?_
          exact qx_iret C dX5_of_78 rfl (by first | rfl | simp [mOfF, mFact, ixa0, ixa1, ixa2, ixa3, ixa4, ixa5, ixa6, ixa7, ixa8, h2, is0, h12, h65]) (by first | rfl | simp [mOfF, mFact, ixa0, ixa1, ixa2, ixa3, ixa4, ixa5, ixa6, ixa7, ixa8, h2, is0, h12, h65])
        · refine qx_bipush C (v := (-4)) dX5_of_68 rfl ?_
          refine qx_goto C (tgt := 78) dX5_of_70 (by decide) ?_
          exact qx_iret C dX5_of_78 rfl (by first | rfl | simp [mOfF, mFact, ixa0, ixa1, ixa2, ixa3, ixa4, ixa5, ixa6, ixa7, ixa8, h2, is0, h12, h65]) (by first | rfl | simp [mOfF, mFact, ixa0, ixa1, ixa2, ixa3, ixa4, ixa5, ixa6, ixa7, ixa8, h2, is0, h12, h65])
      by_cases e7 : w0 = 7
      · subst e7
        obtain rfl : w = 7 := ew
        refine qx_iload_n C dX5_of_20 rfl rfl ?_
        refine qx_tableIn C (tgt := 104) (off := 83) dX5_of_21 (by decide) (by decide) (by decide) (by decide) ?_
        refine qx_aload_n C dX5_of_104 rfl rfl ?_
        refine qx_getR C (j := 0) (k := 4) hiX5 rfl rfl (by decide) qw_586 rfl dX5_of_105 ?_
        refine qx_bipush C (v := 11) dX5_of_108 rfl ?_
        refine qx_iload_n C dX5_of_110 rfl rfl ?_
        refine qx_imulE C dX5_of_111 (pk_mul 11 s0) ?_
        refine qx_iload_n C dX5_of_112 rfl rfl ?_
        refine qx_iaddE C dX5_of_113 (nI_add (11 * s0) 7) ?_
        refine qx_ialdN C (j := 5) rfl ⟨by omega, by decide⟩ dX5_of_114 ?_
        exact qx_iret C dX5_of_115 rfl (by first | rfl | simp [mOfF, mFact, ixa0, ixa1, ixa2, ixa3, ixa4, ixa5, ixa6, ixa7, ixa8, h2, is0, h12]) (by first | rfl | simp [mOfF, mFact, ixa0, ixa1, ixa2, ixa3, ixa4, ixa5, ixa6, ixa7, ixa8, h2, is0, h12])
      by_cases e8 : w0 = 8
      · subst e8
        obtain rfl : w = 8 := ew
        refine qx_iload_n C dX5_of_20 rfl rfl ?_
        refine qx_tableIn C (tgt := 104) (off := 83) dX5_of_21 (by decide) (by decide) (by decide) (by decide) ?_
        refine qx_aload_n C dX5_of_104 rfl rfl ?_
        refine qx_getR C (j := 0) (k := 4) hiX5 rfl rfl (by decide) qw_586 rfl dX5_of_105 ?_
        refine qx_bipush C (v := 11) dX5_of_108 rfl ?_
        refine qx_iload_n C dX5_of_110 rfl rfl ?_
        refine qx_imulE C dX5_of_111 (pk_mul 11 s0) ?_
        refine qx_iload_n C dX5_of_112 rfl rfl ?_
        refine qx_iaddE C dX5_of_113 (nI_add (11 * s0) 8) ?_
        refine qx_ialdN C (j := 5) rfl ⟨by omega, by decide⟩ dX5_of_114 ?_
        exact qx_iret C dX5_of_115 rfl (by first | rfl | simp [mOfF, mFact, ixa0, ixa1, ixa2, ixa3, ixa4, ixa5, ixa6, ixa7, ixa8, h2, is0, h12]) (by first | rfl | simp [mOfF, mFact, ixa0, ixa1, ixa2, ixa3, ixa4, ixa5, ixa6, ixa7, ixa8, h2, is0, h12])
      by_cases e9 : w0 = 9
      · subst e9
        obtain rfl : w = 9 := ew
        refine qx_iload_n C dX5_of_20 rfl rfl ?_
        refine qx_tableIn C (tgt := 79) (off := 58) dX5_of_21 (by decide) (by decide) (by decide) (by decide) ?_
        refine qx_aload_n C dX5_of_79 rfl rfl ?_
        refine qx_iload_n C dX5_of_80 rfl rfl ?_
        refine qx_callVI C (b := 0) (As := [_]) (n := 1) (c_X5_guestsAt F (d + 0) _ _ n hn hn20) rfl rfl qw_749 qw_751 qw_29 qw_44 qw_752 ⟨rfl, by decide, by decide, by decide +kernel⟩ (qx_room (by omega) (by decide)) rfl rfl (Nat.le_of_ble_eq_true rfl) dX5_of_81 ?_
        exact qx_iret C dX5_of_84 rfl (by first | rfl | simp [mOfF, mFact, ixa0, ixa1, ixa2, ixa3, ixa4, ixa5, ixa6, ixa7, ixa8, h2, is0, h12]) (by first | rfl | simp [mOfF, mFact, ixa0, ixa1, ixa2, ixa3, ixa4, ixa5, ixa6, ixa7, ixa8, h2, is0, h12])
      by_cases e10 : w0 = 10
      · subst e10
        obtain rfl : w = 10 := ew
        refine qx_iload_n C dX5_of_20 rfl rfl ?_
        refine qx_tableIn C (tgt := 85) (off := 64) dX5_of_21 (by decide) (by decide) (by decide) (by decide) ?_
        refine qx_aload_n C dX5_of_85 rfl rfl ?_
        refine qx_getR C (j := 0) (k := 4) hiX5 rfl rfl (by decide) qw_586 rfl dX5_of_86 ?_
        refine qx_bipush C (v := 11) dX5_of_89 rfl ?_
        refine qx_iload_n C dX5_of_91 rfl rfl ?_
        refine qx_imulE C dX5_of_92 (pk_mul 11 s0) ?_
        refine qx_bipush C (v := 9) dX5_of_93 rfl ?_
        refine qx_iaddE C dX5_of_95 (nI_add (11 * s0) 9) ?_
        refine qx_ialdN C (j := 5) rfl ⟨by omega, by decide⟩ dX5_of_96 ?_
        exact qx_iret C dX5_of_97 rfl (by first | rfl | simp [mOfF, mFact, ixa0, ixa1, ixa2, ixa3, ixa4, ixa5, ixa6, ixa7, ixa8, h2, is0, h12]) (by first | rfl | simp [mOfF, mFact, ixa0, ixa1, ixa2, ixa3, ixa4, ixa5, ixa6, ixa7, ixa8, h2, is0, h12])
      by_cases e11 : w0 = 11
      · subst e11
        obtain rfl : w = 11 := ew
        refine qx_iload_n C dX5_of_20 rfl rfl ?_
        refine qx_tableIn C (tgt := 98) (off := 77) dX5_of_21 (by decide) (by decide) (by decide) (by decide) ?_
        refine qx_aload_n C dX5_of_98 rfl rfl ?_
        refine qx_iload_n C dX5_of_99 rfl rfl ?_
        refine qx_callVI C (b := 0) (As := [_]) (n := 1) (c_X5_billOf F (d + 0) _ s0 (by omega) P S n hw) rfl rfl qw_777 qw_779 qw_32 qw_44 qw_780 ⟨rfl, by decide, by decide, by decide +kernel⟩ (qx_room (by omega) (by decide)) rfl rfl (Nat.le_of_ble_eq_true rfl) dX5_of_100 ?_
        exact qx_iret C dX5_of_103 rfl (by first | rfl | simp [mOfF, mFact, ixa0, ixa1, ixa2, ixa3, ixa4, ixa5, ixa6, ixa7, ixa8, h2, is0, h12]) (by first | rfl | simp [mOfF, mFact, ixa0, ixa1, ixa2, ixa3, ixa4, ixa5, ixa6, ixa7, ixa8, h2, is0, h12])
      exact absurd hw0 (by omega)
    · refine qx_if_ne_f C (tgt := 20) dX5_of_15 (by decide) (by decide) ?_
      refine qx_iconst C (v := (-1)) dX5_of_18 rfl ?_
      exact qx_iret C dX5_of_19 rfl (by first | rfl | simp [mOfF, mFact, ixa0, ixa1, ixa2, ixa3, ixa4, ixa5, ixa6, ixa7, ixa8, h2, is0, h12]) (by first | rfl | simp [mOfF, mFact, ixa0, ixa1, ixa2, ixa3, ixa4, ixa5, ixa6, ixa7, ixa8, h2, is0, h12])
  · refine qx_if_eq_t C (tgt := 18) dX5_of_5 (by decide) (by decide) ?_
    refine qx_iconst C (v := (-1)) dX5_of_18 rfl ?_
    exact qx_iret C dX5_of_19 rfl (by first | rfl | simp [mOfF, mFact, ixa0, ixa1, ixa2, ixa3, ixa4, ixa5, ixa6, ixa7, ixa8, h2]) (by first | rfl | simp [mOfF, mFact, ixa0, ixa1, ixa2, ixa3, ixa4, ixa5, ixa6, ixa7, ixa8, h2])
set_option maxRecDepth 20000 in
set_option maxHeartbeats 4000000 in
theorem c_X5_guestOf (F : qx_F) (d : Nat) (σ : qx_S) (g w : Int32) (n : Nat) (hn : σ 1 4 = nI n) (hn20 : n ≤ 20) : qx_cI F shM ⟨"NightStallsModel", "guestOf", "(II)I"⟩ (.code ⟨"NightStallsModel", "guestOf", "(II)I"⟩ prog_7_method_43_code 5 ((some FieldType.int)) :: qx_W) (qx_R (d + 2)) [.ref (fa F 0), .int g, .int w] σ (mGuestOf σ g w) (σ) := by
  refine qx_met (by decide) (Nat.le_of_ble_eq_true rfl) (by intro v hv; simp only [List.mem_cons, List.not_mem_nil, or_false] at hv; rcases hv with rfl | rfl | rfl <;> rfl) (fun K C => ?_)
  by_cases e0 : w = 0
  · subst e0
    refine qx_iload_n C dX5_guestOf_0 rfl rfl ?_
    refine qx_iconst C (v := 0) dX5_guestOf_1 rfl ?_
    refine qx_aload_n C dX5_guestOf_2 rfl rfl ?_
    refine qx_getR C (j := 0) (k := 0) hiX5 rfl rfl (by decide) qw_582 rfl dX5_guestOf_3 ?_
    refine qx_iconst C (v := 4) dX5_guestOf_6 rfl ?_
    refine qx_ialdL C (j := 1) (a := 4) rfl rfl ⟨by decide, by decide⟩ dX5_guestOf_7 ?_
    refine qx_iconst C (v := 1) dX5_guestOf_8 rfl ?_
    refine qx_isub C dX5_guestOf_9 ?_
    refine qx_callSI C (As := [_, _, _]) (n := 3) (c_X5_in F (d + 0) _ _ _ _) qw_630 qw_631 qw_44 qw_632 ⟨rfl, by decide, by decide, by decide +kernel⟩ (qx_room (by omega) (by decide)) rfl rfl (Nat.le_of_ble_eq_true rfl) dX5_guestOf_10 ?_
    refine qx_split _ (fun h10 => ?_) (fun h10 => ?_)
    · obtain ⟨g0, hg0, rfl⟩ := qx_has hn (by omega) h10
      have ig0 : (nI g0).toNatClampNeg = g0 := nI_clamp (by omega)
      refine qx_if_eq_f C (tgt := 25) dX5_guestOf_13 (by decide) (by decide) ?_
      refine qx_iload_n C dX5_guestOf_16 rfl rfl ?_
      refine qx_iconst C (v := 0) dX5_guestOf_17 rfl ?_
      refine qx_iconst C (v := 4) dX5_guestOf_18 rfl ?_
      refine qx_callSI C (As := [_, _, _]) (n := 3) (c_X5_in F (d + 0) _ _ _ _) qw_630 qw_631 qw_44 qw_632 ⟨rfl, by decide, by decide, by decide +kernel⟩ (qx_room (by omega) (by decide)) rfl rfl (Nat.le_of_ble_eq_true rfl) dX5_guestOf_19 ?_
      refine qx_split _ (fun h19 => ?_) (fun h19 => ?_)
      · refine qx_if_ne_t C (tgt := 27) dX5_guestOf_22 (by decide) (by decide) ?_
        refine qx_bipush C (v := 7) dX5_guestOf_27 rfl ?_
        refine qx_iload_n C dX5_guestOf_29 rfl rfl ?_
        refine qx_imulE C dX5_guestOf_30 (pk_mul 7 g0) ?_
        refine qx_istore_n C dX5_guestOf_31 rfl (Nat.le_of_ble_eq_true rfl) ?_
        refine qx_aload_n C dX5_guestOf_32 rfl rfl ?_
        refine qx_getR C (j := 0) (k := 5) hiX5 rfl rfl (by decide) qw_587 rfl dX5_guestOf_33 ?_
        refine qx_iload_n C dX5_guestOf_36 rfl rfl ?_
        refine qx_iconst C (v := 2) dX5_guestOf_37 rfl ?_
        refine qx_iaddE C dX5_guestOf_38 (nI_add (7 * g0) 2) ?_
        refine qx_ialdN C (j := 6) rfl ⟨by omega, by decide⟩ dX5_guestOf_39 ?_
        refine qx_istore C dX5_guestOf_40 (Nat.le_of_ble_eq_true rfl) ?_
        refine qx_iload_n C dX5_guestOf_42 rfl rfl ?_
        refine qx_tableIn C (tgt := 72) (off := 29) dX5_guestOf_43 (by decide) (by decide) (by decide) (by decide) ?_
        refine qx_iload C dX5_guestOf_72 rfl ?_
        exact qx_iret C dX5_guestOf_74 rfl (by first | rfl | simp [mGuestOf, mGFact, h10, ig0, h19]) (by first | rfl | simp [mGuestOf, mGFact, h10, ig0, h19])
      · exact absurd (by decide) h19
    · refine qx_if_eq_t C (tgt := 25) dX5_guestOf_13 (by decide) (by decide) ?_
      refine qx_iconst C (v := (-1)) dX5_guestOf_25 rfl ?_
      exact qx_iret C dX5_guestOf_26 rfl (by first | rfl | simp [mGuestOf, mGFact, h10]) (by first | rfl | simp [mGuestOf, mGFact, h10])
  by_cases e1 : w = 1
  · subst e1
    refine qx_iload_n C dX5_guestOf_0 rfl rfl ?_
    refine qx_iconst C (v := 0) dX5_guestOf_1 rfl ?_
    refine qx_aload_n C dX5_guestOf_2 rfl rfl ?_
    refine qx_getR C (j := 0) (k := 0) hiX5 rfl rfl (by decide) qw_582 rfl dX5_guestOf_3 ?_
    refine qx_iconst C (v := 4) dX5_guestOf_6 rfl ?_
    refine qx_ialdL C (j := 1) (a := 4) rfl rfl ⟨by decide, by decide⟩ dX5_guestOf_7 ?_
    refine qx_iconst C (v := 1) dX5_guestOf_8 rfl ?_
    refine qx_isub C dX5_guestOf_9 ?_
    refine qx_callSI C (As := [_, _, _]) (n := 3) (c_X5_in F (d + 0) _ _ _ _) qw_630 qw_631 qw_44 qw_632 ⟨rfl, by decide, by decide, by decide +kernel⟩ (qx_room (by omega) (by decide)) rfl rfl (Nat.le_of_ble_eq_true rfl) dX5_guestOf_10 ?_
    refine qx_split _ (fun h10 => ?_) (fun h10 => ?_)
    · obtain ⟨g0, hg0, rfl⟩ := qx_has hn (by omega) h10
      have ig0 : (nI g0).toNatClampNeg = g0 := nI_clamp (by omega)
      refine qx_if_eq_f C (tgt := 25) dX5_guestOf_13 (by decide) (by decide) ?_
      refine qx_iload_n C dX5_guestOf_16 rfl rfl ?_
      refine qx_iconst C (v := 0) dX5_guestOf_17 rfl ?_
      refine qx_iconst C (v := 4) dX5_guestOf_18 rfl ?_
      refine qx_callSI C (As := [_, _, _]) (n := 3) (c_X5_in F (d + 0) _ _ _ _) qw_630 qw_631 qw_44 qw_632 ⟨rfl, by decide, by decide, by decide +kernel⟩ (qx_room (by omega) (by decide)) rfl rfl (Nat.le_of_ble_eq_true rfl) dX5_guestOf_19 ?_
      refine qx_split _ (fun h19 => ?_) (fun h19 => ?_)
      · refine qx_if_ne_t C (tgt := 27) dX5_guestOf_22 (by decide) (by decide) ?_
        refine qx_bipush C (v := 7) dX5_guestOf_27 rfl ?_
        refine qx_iload_n C dX5_guestOf_29 rfl rfl ?_
        refine qx_imulE C dX5_guestOf_30 (pk_mul 7 g0) ?_
        refine qx_istore_n C dX5_guestOf_31 rfl (Nat.le_of_ble_eq_true rfl) ?_
        refine qx_aload_n C dX5_guestOf_32 rfl rfl ?_
        refine qx_getR C (j := 0) (k := 5) hiX5 rfl rfl (by decide) qw_587 rfl dX5_guestOf_33 ?_
        refine qx_iload_n C dX5_guestOf_36 rfl rfl ?_
        refine qx_iconst C (v := 2) dX5_guestOf_37 rfl ?_
        refine qx_iaddE C dX5_guestOf_38 (nI_add (7 * g0) 2) ?_
        refine qx_ialdN C (j := 6) rfl ⟨by omega, by decide⟩ dX5_guestOf_39 ?_
        refine qx_istore C dX5_guestOf_40 (Nat.le_of_ble_eq_true rfl) ?_
        refine qx_iload_n C dX5_guestOf_42 rfl rfl ?_
        refine qx_tableIn C (tgt := 75) (off := 32) dX5_guestOf_43 (by decide) (by decide) (by decide) (by decide) ?_
        refine qx_iload C dX5_guestOf_75 rfl ?_
        refine qx_iconst C (v := 3) dX5_guestOf_77 rfl ?_
        refine qx_icmp_lt C (tgt := 86) dX5_guestOf_78 (by decide) (fun h78 => ?_) (fun h78 => ?_)
        · refine qx_aload_n C dX5_guestOf_86 rfl rfl ?_
          refine qx_getR C (j := 0) (k := 5) hiX5 rfl rfl (by decide) qw_587 rfl dX5_guestOf_87 ?_
          refine qx_iload_n C dX5_guestOf_90 rfl rfl ?_
          refine qx_iconst C (v := 3) dX5_guestOf_91 rfl ?_
          refine qx_iaddE C dX5_guestOf_92 (nI_add (7 * g0) 3) ?_
          refine qx_ialdN C (j := 6) rfl ⟨by omega, by decide⟩ dX5_guestOf_93 ?_
          exact qx_iret C dX5_guestOf_94 rfl (by first | rfl | simp [mGuestOf, mGFact, h10, ig0, h19, h78]) (by first | rfl | simp [mGuestOf, mGFact, h10, ig0, h19, h78])
        · refine qx_bipush C (v := (-4)) dX5_guestOf_81 rfl ?_
          refine qx_goto C (tgt := 94) dX5_guestOf_83 (by decide) ?_
          exact qx_iret C dX5_guestOf_94 rfl (by first | rfl | simp [mGuestOf, mGFact, h10, ig0, h19, h78]) (by first | rfl | simp [mGuestOf, mGFact, h10, ig0, h19, h78])
      · exact absurd (by decide) h19
    · refine qx_if_eq_t C (tgt := 25) dX5_guestOf_13 (by decide) (by decide) ?_
      refine qx_iconst C (v := (-1)) dX5_guestOf_25 rfl ?_
      exact qx_iret C dX5_guestOf_26 rfl (by first | rfl | simp [mGuestOf, mGFact, h10]) (by first | rfl | simp [mGuestOf, mGFact, h10])
  by_cases e2 : w = 2
  · subst e2
    refine qx_iload_n C dX5_guestOf_0 rfl rfl ?_
    refine qx_iconst C (v := 0) dX5_guestOf_1 rfl ?_
    refine qx_aload_n C dX5_guestOf_2 rfl rfl ?_
    refine qx_getR C (j := 0) (k := 0) hiX5 rfl rfl (by decide) qw_582 rfl dX5_guestOf_3 ?_
    refine qx_iconst C (v := 4) dX5_guestOf_6 rfl ?_
    refine qx_ialdL C (j := 1) (a := 4) rfl rfl ⟨by decide, by decide⟩ dX5_guestOf_7 ?_
    refine qx_iconst C (v := 1) dX5_guestOf_8 rfl ?_
    refine qx_isub C dX5_guestOf_9 ?_
    refine qx_callSI C (As := [_, _, _]) (n := 3) (c_X5_in F (d + 0) _ _ _ _) qw_630 qw_631 qw_44 qw_632 ⟨rfl, by decide, by decide, by decide +kernel⟩ (qx_room (by omega) (by decide)) rfl rfl (Nat.le_of_ble_eq_true rfl) dX5_guestOf_10 ?_
    refine qx_split _ (fun h10 => ?_) (fun h10 => ?_)
    · obtain ⟨g0, hg0, rfl⟩ := qx_has hn (by omega) h10
      have ig0 : (nI g0).toNatClampNeg = g0 := nI_clamp (by omega)
      refine qx_if_eq_f C (tgt := 25) dX5_guestOf_13 (by decide) (by decide) ?_
      refine qx_iload_n C dX5_guestOf_16 rfl rfl ?_
      refine qx_iconst C (v := 0) dX5_guestOf_17 rfl ?_
      refine qx_iconst C (v := 4) dX5_guestOf_18 rfl ?_
      refine qx_callSI C (As := [_, _, _]) (n := 3) (c_X5_in F (d + 0) _ _ _ _) qw_630 qw_631 qw_44 qw_632 ⟨rfl, by decide, by decide, by decide +kernel⟩ (qx_room (by omega) (by decide)) rfl rfl (Nat.le_of_ble_eq_true rfl) dX5_guestOf_19 ?_
      refine qx_split _ (fun h19 => ?_) (fun h19 => ?_)
      · refine qx_if_ne_t C (tgt := 27) dX5_guestOf_22 (by decide) (by decide) ?_
        refine qx_bipush C (v := 7) dX5_guestOf_27 rfl ?_
        refine qx_iload_n C dX5_guestOf_29 rfl rfl ?_
        refine qx_imulE C dX5_guestOf_30 (pk_mul 7 g0) ?_
        refine qx_istore_n C dX5_guestOf_31 rfl (Nat.le_of_ble_eq_true rfl) ?_
        refine qx_aload_n C dX5_guestOf_32 rfl rfl ?_
        refine qx_getR C (j := 0) (k := 5) hiX5 rfl rfl (by decide) qw_587 rfl dX5_guestOf_33 ?_
        refine qx_iload_n C dX5_guestOf_36 rfl rfl ?_
        refine qx_iconst C (v := 2) dX5_guestOf_37 rfl ?_
        refine qx_iaddE C dX5_guestOf_38 (nI_add (7 * g0) 2) ?_
        refine qx_ialdN C (j := 6) rfl ⟨by omega, by decide⟩ dX5_guestOf_39 ?_
        refine qx_istore C dX5_guestOf_40 (Nat.le_of_ble_eq_true rfl) ?_
        refine qx_iload_n C dX5_guestOf_42 rfl rfl ?_
        refine qx_tableIn C (tgt := 95) (off := 52) dX5_guestOf_43 (by decide) (by decide) (by decide) (by decide) ?_
        refine qx_aload_n C dX5_guestOf_95 rfl rfl ?_
        refine qx_getR C (j := 0) (k := 5) hiX5 rfl rfl (by decide) qw_587 rfl dX5_guestOf_96 ?_
        refine qx_iload_n C dX5_guestOf_99 rfl rfl ?_
        refine qx_iconst C (v := 1) dX5_guestOf_100 rfl ?_
        refine qx_iaddE C dX5_guestOf_101 (nI_add (7 * g0) 1) ?_
        refine qx_ialdN C (j := 6) rfl ⟨by omega, by decide⟩ dX5_guestOf_102 ?_
        exact qx_iret C dX5_guestOf_103 rfl (by first | rfl | simp [mGuestOf, mGFact, h10, ig0, h19]) (by first | rfl | simp [mGuestOf, mGFact, h10, ig0, h19])
      · exact absurd (by decide) h19
    · refine qx_if_eq_t C (tgt := 25) dX5_guestOf_13 (by decide) (by decide) ?_
      refine qx_iconst C (v := (-1)) dX5_guestOf_25 rfl ?_
      exact qx_iret C dX5_guestOf_26 rfl (by first | rfl | simp [mGuestOf, mGFact, h10]) (by first | rfl | simp [mGuestOf, mGFact, h10])
  by_cases e3 : w = 3
  · subst e3
    refine qx_iload_n C dX5_guestOf_0 rfl rfl ?_
    refine qx_iconst C (v := 0) dX5_guestOf_1 rfl ?_
    refine qx_aload_n C dX5_guestOf_2 rfl rfl ?_
    refine qx_getR C (j := 0) (k := 0) hiX5 rfl rfl (by decide) qw_582 rfl dX5_guestOf_3 ?_
    refine qx_iconst C (v := 4) dX5_guestOf_6 rfl ?_
    refine qx_ialdL C (j := 1) (a := 4) rfl rfl ⟨by decide, by decide⟩ dX5_guestOf_7 ?_
    refine qx_iconst C (v := 1) dX5_guestOf_8 rfl ?_
    refine qx_isub C dX5_guestOf_9 ?_
    refine qx_callSI C (As := [_, _, _]) (n := 3) (c_X5_in F (d + 0) _ _ _ _) qw_630 qw_631 qw_44 qw_632 ⟨rfl, by decide, by decide, by decide +kernel⟩ (qx_room (by omega) (by decide)) rfl rfl (Nat.le_of_ble_eq_true rfl) dX5_guestOf_10 ?_
    refine qx_split _ (fun h10 => ?_) (fun h10 => ?_)
    · obtain ⟨g0, hg0, rfl⟩ := qx_has hn (by omega) h10
      have ig0 : (nI g0).toNatClampNeg = g0 := nI_clamp (by omega)
      refine qx_if_eq_f C (tgt := 25) dX5_guestOf_13 (by decide) (by decide) ?_
      refine qx_iload_n C dX5_guestOf_16 rfl rfl ?_
      refine qx_iconst C (v := 0) dX5_guestOf_17 rfl ?_
      refine qx_iconst C (v := 4) dX5_guestOf_18 rfl ?_
      refine qx_callSI C (As := [_, _, _]) (n := 3) (c_X5_in F (d + 0) _ _ _ _) qw_630 qw_631 qw_44 qw_632 ⟨rfl, by decide, by decide, by decide +kernel⟩ (qx_room (by omega) (by decide)) rfl rfl (Nat.le_of_ble_eq_true rfl) dX5_guestOf_19 ?_
      refine qx_split _ (fun h19 => ?_) (fun h19 => ?_)
      · refine qx_if_ne_t C (tgt := 27) dX5_guestOf_22 (by decide) (by decide) ?_
        refine qx_bipush C (v := 7) dX5_guestOf_27 rfl ?_
        refine qx_iload_n C dX5_guestOf_29 rfl rfl ?_
        refine qx_imulE C dX5_guestOf_30 (pk_mul 7 g0) ?_
        refine qx_istore_n C dX5_guestOf_31 rfl (Nat.le_of_ble_eq_true rfl) ?_
        refine qx_aload_n C dX5_guestOf_32 rfl rfl ?_
        refine qx_getR C (j := 0) (k := 5) hiX5 rfl rfl (by decide) qw_587 rfl dX5_guestOf_33 ?_
        refine qx_iload_n C dX5_guestOf_36 rfl rfl ?_
        refine qx_iconst C (v := 2) dX5_guestOf_37 rfl ?_
        refine qx_iaddE C dX5_guestOf_38 (nI_add (7 * g0) 2) ?_
        refine qx_ialdN C (j := 6) rfl ⟨by omega, by decide⟩ dX5_guestOf_39 ?_
        refine qx_istore C dX5_guestOf_40 (Nat.le_of_ble_eq_true rfl) ?_
        refine qx_iload_n C dX5_guestOf_42 rfl rfl ?_
        refine qx_tableIn C (tgt := 104) (off := 61) dX5_guestOf_43 (by decide) (by decide) (by decide) (by decide) ?_
        refine qx_aload_n C dX5_guestOf_104 rfl rfl ?_
        refine qx_getR C (j := 0) (k := 5) hiX5 rfl rfl (by decide) qw_587 rfl dX5_guestOf_105 ?_
        refine qx_iload_n C dX5_guestOf_108 rfl rfl ?_
        refine qx_ialdN C (j := 6) rfl ⟨by omega, by decide⟩ dX5_guestOf_109 ?_
        exact qx_iret C dX5_guestOf_110 rfl (by first | rfl | simp [mGuestOf, mGFact, h10, ig0, h19]) (by first | rfl | simp [mGuestOf, mGFact, h10, ig0, h19])
      · exact absurd (by decide) h19
    · refine qx_if_eq_t C (tgt := 25) dX5_guestOf_13 (by decide) (by decide) ?_
      refine qx_iconst C (v := (-1)) dX5_guestOf_25 rfl ?_
      exact qx_iret C dX5_guestOf_26 rfl (by first | rfl | simp [mGuestOf, mGFact, h10]) (by first | rfl | simp [mGuestOf, mGFact, h10])
  refine qx_iload_n C dX5_guestOf_0 rfl rfl ?_
  refine qx_iconst C (v := 0) dX5_guestOf_1 rfl ?_
  refine qx_aload_n C dX5_guestOf_2 rfl rfl ?_
  refine qx_getR C (j := 0) (k := 0) hiX5 rfl rfl (by decide) qw_582 rfl dX5_guestOf_3 ?_
  refine qx_iconst C (v := 4) dX5_guestOf_6 rfl ?_
  refine qx_ialdL C (j := 1) (a := 4) rfl rfl ⟨by decide, by decide⟩ dX5_guestOf_7 ?_
  refine qx_iconst C (v := 1) dX5_guestOf_8 rfl ?_
  refine qx_isub C dX5_guestOf_9 ?_
  refine qx_callSI C (As := [_, _, _]) (n := 3) (c_X5_in F (d + 0) _ _ _ _) qw_630 qw_631 qw_44 qw_632 ⟨rfl, by decide, by decide, by decide +kernel⟩ (qx_room (by omega) (by decide)) rfl rfl (Nat.le_of_ble_eq_true rfl) dX5_guestOf_10 ?_
  refine qx_split _ (fun h10 => ?_) (fun h10 => ?_)
  · obtain ⟨g0, hg0, rfl⟩ := qx_has hn (by omega) h10
    have ig0 : (nI g0).toNatClampNeg = g0 := nI_clamp (by omega)
    refine qx_if_eq_f C (tgt := 25) dX5_guestOf_13 (by decide) (by decide) ?_
    refine qx_iload_n C dX5_guestOf_16 rfl rfl ?_
    refine qx_iconst C (v := 0) dX5_guestOf_17 rfl ?_
    refine qx_iconst C (v := 4) dX5_guestOf_18 rfl ?_
    refine qx_callSI C (As := [_, _, _]) (n := 3) (c_X5_in F (d + 0) _ _ _ _) qw_630 qw_631 qw_44 qw_632 ⟨rfl, by decide, by decide, by decide +kernel⟩ (qx_room (by omega) (by decide)) rfl rfl (Nat.le_of_ble_eq_true rfl) dX5_guestOf_19 ?_
    refine qx_split _ (fun h19 => ?_) (fun h19 => ?_)
    · refine qx_if_ne_t C (tgt := 27) dX5_guestOf_22 (by decide) (by decide) ?_
      refine qx_bipush C (v := 7) dX5_guestOf_27 rfl ?_
      refine qx_iload_n C dX5_guestOf_29 rfl rfl ?_
      refine qx_imulE C dX5_guestOf_30 (pk_mul 7 g0) ?_
      refine qx_istore_n C dX5_guestOf_31 rfl (Nat.le_of_ble_eq_true rfl) ?_
      refine qx_aload_n C dX5_guestOf_32 rfl rfl ?_
      refine qx_getR C (j := 0) (k := 5) hiX5 rfl rfl (by decide) qw_587 rfl dX5_guestOf_33 ?_
      refine qx_iload_n C dX5_guestOf_36 rfl rfl ?_
      refine qx_iconst C (v := 2) dX5_guestOf_37 rfl ?_
      refine qx_iaddE C dX5_guestOf_38 (nI_add (7 * g0) 2) ?_
      refine qx_ialdN C (j := 6) rfl ⟨by omega, by decide⟩ dX5_guestOf_39 ?_
      refine qx_istore C dX5_guestOf_40 (Nat.le_of_ble_eq_true rfl) ?_
      refine qx_iload_n C dX5_guestOf_42 rfl rfl ?_
      refine qx_tableOut C (tgt := 111) dX5_guestOf_43 (by have z0 := lv_neT e0 (a := 0) rfl; have z1 := lv_neT e1 (a := 1) rfl; have z2 := lv_neT e2 (a := 2) rfl; have z3 := lv_neT e3 (a := 3) rfl; omega) (by decide) ?_
      refine qx_iload C dX5_guestOf_111 rfl ?_
      refine qx_iconst C (v := 1) dX5_guestOf_113 rfl ?_
      refine qx_iconst C (v := 3) dX5_guestOf_114 rfl ?_
      refine qx_callSI C (As := [_, _, _]) (n := 3) (c_X5_in F (d + 0) _ _ _ _) qw_630 qw_631 qw_44 qw_632 ⟨rfl, by decide, by decide, by decide +kernel⟩ (qx_room (by omega) (by decide)) rfl rfl (Nat.le_of_ble_eq_true rfl) dX5_guestOf_115 ?_
      refine qx_split _ (fun h115 => ?_) (fun h115 => ?_)
      · refine qx_if_eq_f C (tgt := 132) dX5_guestOf_118 (by decide) (by decide) ?_
        refine qx_aload_n C dX5_guestOf_121 rfl rfl ?_
        refine qx_getR C (j := 0) (k := 5) hiX5 rfl rfl (by decide) qw_587 rfl dX5_guestOf_122 ?_
        refine qx_iload_n C dX5_guestOf_125 rfl rfl ?_
        refine qx_iconst C (v := 4) dX5_guestOf_126 rfl ?_
        refine qx_iaddE C dX5_guestOf_127 (nI_add (7 * g0) 4) ?_
        refine qx_ialdN C (j := 6) rfl ⟨by omega, by decide⟩ dX5_guestOf_128 ?_
        refine qx_goto C (tgt := 134) dX5_guestOf_129 (by decide) ?_
        exact qx_iret C dX5_guestOf_134 rfl (by first | rfl | simp [mGuestOf, mGFact, e0, e1, e2, e3, h10, ig0, h19, h115]) (by first | rfl | simp [mGuestOf, mGFact, e0, e1, e2, e3, h10, ig0, h19, h115])
      · refine qx_if_eq_t C (tgt := 132) dX5_guestOf_118 (by decide) (by decide) ?_
        refine qx_bipush C (v := (-4)) dX5_guestOf_132 rfl ?_
        exact qx_iret C dX5_guestOf_134 rfl (by first | rfl | simp [mGuestOf, mGFact, e0, e1, e2, e3, h10, ig0, h19, h115]) (by first | rfl | simp [mGuestOf, mGFact, e0, e1, e2, e3, h10, ig0, h19, h115])
    · refine qx_if_ne_f C (tgt := 27) dX5_guestOf_22 (by decide) (by decide) ?_
      refine qx_iconst C (v := (-1)) dX5_guestOf_25 rfl ?_
      exact qx_iret C dX5_guestOf_26 rfl (by first | rfl | simp [mGuestOf, mGFact, e0, e1, e2, e3, h10, ig0, h19]) (by first | rfl | simp [mGuestOf, mGFact, e0, e1, e2, e3, h10, ig0, h19])
  · refine qx_if_eq_t C (tgt := 25) dX5_guestOf_13 (by decide) (by decide) ?_
    refine qx_iconst C (v := (-1)) dX5_guestOf_25 rfl ?_
    exact qx_iret C dX5_guestOf_26 rfl (by first | rfl | simp [mGuestOf, mGFact, e0, e1, e2, e3, h10]) (by first | rfl | simp [mGuestOf, mGFact, e0, e1, e2, e3, h10])
set_option maxRecDepth 20000 in
set_option maxHeartbeats 4000000 in
theorem c_X5_suspects (F : qx_F) (d : Nat) (σ : qx_S) (dish fr to_ : Int32) (n : Nat) (hn : σ 1 4 = nI n) (hn20 : n ≤ 20) : qx_cI F shM ⟨"NightStallsModel", "suspects", "(III)I"⟩ (.code ⟨"NightStallsModel", "suspects", "(III)I"⟩ prog_7_method_44_code 7 ((some FieldType.int)) :: qx_W) (qx_R (d + 2)) [.ref (fa F 0), .int dish, .int fr, .int to_] σ (mSusp σ dish fr to_ n) (σ) := by
  refine qx_met (by decide) (Nat.le_of_ble_eq_true rfl) (by intro v hv; simp only [List.mem_cons, List.not_mem_nil, or_false] at hv; rcases hv with rfl | rfl | rfl | rfl <;> rfl) (fun K C => ?_)
  refine qx_iload_n C dX5_suspects_0 rfl rfl ?_
  refine qx_iconst C (v := 0) dX5_suspects_1 rfl ?_
  refine qx_iconst C (v := 5) dX5_suspects_2 rfl ?_
  refine qx_callSI C (As := [_, _, _]) (n := 3) (c_X5_in F (d + 0) _ _ _ _) qw_630 qw_631 qw_44 qw_632 ⟨rfl, by decide, by decide, by decide +kernel⟩ (qx_room (by omega) (by decide)) rfl rfl (Nat.le_of_ble_eq_true rfl) dX5_suspects_3 ?_
  refine qx_split _ (fun h3 => ?_) (fun h3 => ?_)
  · refine qx_if_eq_f C (tgt := 18) dX5_suspects_6 (by decide) (by decide) ?_
    refine qx_iload_n C dX5_suspects_9 rfl rfl ?_
    refine qx_if_lt C (tgt := 18) dX5_suspects_10 (by decide) (fun h10 => ?_) (fun h10 => ?_)
    · refine qx_iconst C (v := (-1)) dX5_suspects_18 rfl ?_
      exact qx_iret C dX5_suspects_19 rfl (by first | rfl | simp [mSusp, h3, h10]) (by first | rfl | simp [mSusp, h3, h10])
    · refine qx_iload_n C dX5_suspects_13 rfl rfl ?_
      refine qx_iload_n C dX5_suspects_14 rfl rfl ?_
      refine qx_icmp_le C (tgt := 20) dX5_suspects_15 (by decide) (fun h15 => ?_) (fun h15 => ?_)
      · refine qx_iconst C (v := 0) dX5_suspects_20 rfl ?_
        refine qx_istore C dX5_suspects_21 (Nat.le_of_ble_eq_true rfl) ?_
        refine qx_iconst C (v := 0) dX5_suspects_23 rfl ?_
        refine qx_istore C dX5_suspects_24 (Nat.le_of_ble_eq_true rfl) ?_
        refine qx_to (qx_up n (P := fun i => qx_X K F shM (σ) 26 [some (.ref (fa F 0)), some (.int dish), some (.int fr), some (.int to_), some (.int (mSell σ dish fr to_ i)), some (.int (nI i)), none] []) (fun i hi hki => ?_) ?_) rfl rfl
        · refine qx_iload C dX5_suspects_26 rfl ?_
          refine qx_aload_n C dX5_suspects_28 rfl rfl ?_
          refine qx_getR C (j := 0) (k := 0) hiX5 rfl rfl (by decide) qw_582 rfl dX5_suspects_29 ?_
          refine qx_iconst C (v := 4) dX5_suspects_32 rfl ?_
          refine qx_ialdL C (j := 1) (a := 4) rfl rfl ⟨by decide, by decide⟩ dX5_suspects_33 ?_
          refine qx_icmp_ge_f C (tgt := 129) dX5_suspects_34 (by decide) (by rw [hn]; exact nI_ge hi (by omega)) ?_
          refine qx_aload_n C dX5_suspects_37 rfl rfl ?_
          refine qx_getR C (j := 0) (k := 5) hiX5 rfl rfl (by decide) qw_587 rfl dX5_suspects_38 ?_
          refine qx_bipush C (v := 7) dX5_suspects_41 rfl ?_
          refine qx_iload C dX5_suspects_43 rfl ?_
          refine qx_imulE C dX5_suspects_45 (pk_mul 7 i) ?_
          refine qx_iconst C (v := 2) dX5_suspects_46 rfl ?_
          refine qx_iaddE C dX5_suspects_47 (nI_add (7 * i) 2) ?_
          refine qx_ialdN C (j := 6) rfl ⟨by omega, by decide⟩ dX5_suspects_48 ?_
          refine qx_iconst C (v := 3) dX5_suspects_49 rfl ?_
          refine qx_icmp_ne C (tgt := 92) dX5_suspects_50 (by decide) (fun h50 => ?_) (fun h50 => ?_)
          · refine qx_iconst C (v := 0) dX5_suspects_92 rfl ?_
            refine qx_istore C dX5_suspects_93 (Nat.le_of_ble_eq_true rfl) ?_
            refine qx_iload C dX5_suspects_95 rfl ?_
            refine qx_iload C dX5_suspects_97 rfl ?_
            refine qx_if_eq_t C (tgt := 119) dX5_suspects_99 (by decide) (by decide) ?_
            refine qx_iconst C (v := 0) dX5_suspects_119 rfl ?_
            refine qx_ior C dX5_suspects_120 ?_
            refine qx_istore C dX5_suspects_121 (Nat.le_of_ble_eq_true rfl) ?_
            refine qx_iincN C dX5_suspects_123 rfl ?_
            refine qx_goto C (tgt := 26) dX5_suspects_126 (by decide) ?_
            exact (qx_forget 6 (qx_to hki (by first | rfl | simp [mSell, qf, h3, h10, h15, h50]) (by first | rfl | simp [mSell, qf, h3, h10, h15, h50])))
          · refine qx_aload_n C dX5_suspects_53 rfl rfl ?_
            refine qx_getR C (j := 0) (k := 5) hiX5 rfl rfl (by decide) qw_587 rfl dX5_suspects_54 ?_
            refine qx_bipush C (v := 7) dX5_suspects_57 rfl ?_
            refine qx_iload C dX5_suspects_59 rfl ?_
            refine qx_imulE C dX5_suspects_61 (pk_mul 7 i) ?_
            refine qx_ialdN C (j := 6) rfl ⟨by omega, by decide⟩ dX5_suspects_62 ?_
            refine qx_iload_n C dX5_suspects_63 rfl rfl ?_
            refine qx_icmp_ne C (tgt := 92) dX5_suspects_64 (by decide) (fun h64 => ?_) (fun h64 => ?_)
            · refine qx_iconst C (v := 0) dX5_suspects_92 rfl ?_
              refine qx_istore C dX5_suspects_93 (Nat.le_of_ble_eq_true rfl) ?_
              refine qx_iload C dX5_suspects_95 rfl ?_
              refine qx_iload C dX5_suspects_97 rfl ?_
              refine qx_if_eq_t C (tgt := 119) dX5_suspects_99 (by decide) (by decide) ?_
              refine qx_iconst C (v := 0) dX5_suspects_119 rfl ?_
              refine qx_ior C dX5_suspects_120 ?_
              refine qx_istore C dX5_suspects_121 (Nat.le_of_ble_eq_true rfl) ?_
              refine qx_iincN C dX5_suspects_123 rfl ?_
              refine qx_goto C (tgt := 26) dX5_suspects_126 (by decide) ?_
              exact (qx_forget 6 (qx_to hki (by first | rfl | simp [mSell, qf, h3, h10, h15, h50, h64]) (by first | rfl | simp [mSell, qf, h3, h10, h15, h50, h64])))
            · refine qx_aload_n C dX5_suspects_67 rfl rfl ?_
              refine qx_getR C (j := 0) (k := 5) hiX5 rfl rfl (by decide) qw_587 rfl dX5_suspects_68 ?_
              refine qx_bipush C (v := 7) dX5_suspects_71 rfl ?_
              refine qx_iload C dX5_suspects_73 rfl ?_
              refine qx_imulE C dX5_suspects_75 (pk_mul 7 i) ?_
              refine qx_bipush C (v := 6) dX5_suspects_76 rfl ?_
              refine qx_iaddE C dX5_suspects_78 (nI_add (7 * i) 6) ?_
              refine qx_ialdN C (j := 6) rfl ⟨by omega, by decide⟩ dX5_suspects_79 ?_
              refine qx_iload_n C dX5_suspects_80 rfl rfl ?_
              refine qx_iload_n C dX5_suspects_81 rfl rfl ?_
              refine qx_callSI C (As := [_, _, _]) (n := 3) (c_X5_in F (d + 0) _ _ _ _) qw_630 qw_631 qw_44 qw_632 ⟨rfl, by decide, by decide, by decide +kernel⟩ (qx_room (by omega) (by decide)) rfl rfl (Nat.le_of_ble_eq_true rfl) dX5_suspects_82 ?_
              refine qx_split _ (fun h82 => ?_) (fun h82 => ?_)
              · refine qx_if_eq_f C (tgt := 92) dX5_suspects_85 (by decide) (by decide) ?_
                refine qx_iconst C (v := 1) dX5_suspects_88 rfl ?_
                refine qx_goto C (tgt := 93) dX5_suspects_89 (by decide) ?_
                refine qx_istore C dX5_suspects_93 (Nat.le_of_ble_eq_true rfl) ?_
                refine qx_iload C dX5_suspects_95 rfl ?_
                refine qx_iload C dX5_suspects_97 rfl ?_
                refine qx_if_eq_f C (tgt := 119) dX5_suspects_99 (by decide) (by decide) ?_
                refine qx_iconst C (v := 1) dX5_suspects_102 rfl ?_
                refine qx_aload_n C dX5_suspects_103 rfl rfl ?_
                refine qx_getR C (j := 0) (k := 5) hiX5 rfl rfl (by decide) qw_587 rfl dX5_suspects_104 ?_
                refine qx_bipush C (v := 7) dX5_suspects_107 rfl ?_
                refine qx_iload C dX5_suspects_109 rfl ?_
                refine qx_imulE C dX5_suspects_111 (pk_mul 7 i) ?_
                refine qx_iconst C (v := 4) dX5_suspects_112 rfl ?_
                refine qx_iaddE C dX5_suspects_113 (nI_add (7 * i) 4) ?_
                refine qx_ialdN C (j := 6) rfl ⟨by omega, by decide⟩ dX5_suspects_114 ?_
                refine qx_ishl C dX5_suspects_115 ?_
                refine qx_goto C (tgt := 120) dX5_suspects_116 (by decide) ?_
                refine qx_ior C dX5_suspects_120 ?_
                refine qx_istore C dX5_suspects_121 (Nat.le_of_ble_eq_true rfl) ?_
                refine qx_iincN C dX5_suspects_123 rfl ?_
                refine qx_goto C (tgt := 26) dX5_suspects_126 (by decide) ?_
                exact (qx_forget 6 (qx_to hki (by first | rfl | simp [mSell, qf, h3, h10, h15, h50, h64, h82]) (by first | rfl | simp [mSell, qf, h3, h10, h15, h50, h64, h82])))
              · refine qx_if_eq_t C (tgt := 92) dX5_suspects_85 (by decide) (by decide) ?_
                refine qx_iconst C (v := 0) dX5_suspects_92 rfl ?_
                refine qx_istore C dX5_suspects_93 (Nat.le_of_ble_eq_true rfl) ?_
                refine qx_iload C dX5_suspects_95 rfl ?_
                refine qx_iload C dX5_suspects_97 rfl ?_
                refine qx_if_eq_t C (tgt := 119) dX5_suspects_99 (by decide) (by decide) ?_
                refine qx_iconst C (v := 0) dX5_suspects_119 rfl ?_
                refine qx_ior C dX5_suspects_120 ?_
                refine qx_istore C dX5_suspects_121 (Nat.le_of_ble_eq_true rfl) ?_
                refine qx_iincN C dX5_suspects_123 rfl ?_
                refine qx_goto C (tgt := 26) dX5_suspects_126 (by decide) ?_
                exact (qx_forget 6 (qx_to hki (by first | rfl | simp [mSell, qf, h3, h10, h15, h50, h64, h82]) (by first | rfl | simp [mSell, qf, h3, h10, h15, h50, h64, h82])))
        · refine qx_iload C dX5_suspects_26 rfl ?_
          refine qx_aload_n C dX5_suspects_28 rfl rfl ?_
          refine qx_getR C (j := 0) (k := 0) hiX5 rfl rfl (by decide) qw_582 rfl dX5_suspects_29 ?_
          refine qx_iconst C (v := 4) dX5_suspects_32 rfl ?_
          refine qx_ialdL C (j := 1) (a := 4) rfl rfl ⟨by decide, by decide⟩ dX5_suspects_33 ?_
          refine qx_icmp_ge_t C (tgt := 129) dX5_suspects_34 (by decide) (by rw [hn]; exact nI_le (Nat.le_refl _) (by omega)) ?_
          refine qx_iload C dX5_suspects_129 rfl ?_
          exact qx_iret C dX5_suspects_131 rfl (by first | rfl | simp [mSusp, h3, h10, h15]) (by first | rfl | simp [mSusp, h3, h10, h15])
      · refine qx_iconst C (v := (-1)) dX5_suspects_18 rfl ?_
        exact qx_iret C dX5_suspects_19 rfl (by first | rfl | simp [mSusp, h3, h10, h15]) (by first | rfl | simp [mSusp, h3, h10, h15])
  · refine qx_if_eq_t C (tgt := 18) dX5_suspects_6 (by decide) (by decide) ?_
    refine qx_iconst C (v := (-1)) dX5_suspects_18 rfl ?_
    exact qx_iret C dX5_suspects_19 rfl (by first | rfl | simp [mSusp, h3]) (by first | rfl | simp [mSusp, h3])
set_option maxRecDepth 20000 in
set_option maxHeartbeats 4000000 in
theorem c_X5_lineOf0 (F : qx_F) (d : Nat) (σ : qx_S) (k : Int32) (P S n : Nat) (hw : mW σ P S n) : qx_cI F shM ⟨"NightStallsModel", "lineOf", "(II)I"⟩ (.code ⟨"NightStallsModel", "lineOf", "(II)I"⟩ prog_7_method_45_code 3 ((some FieldType.int)) :: qx_W) (qx_R (d + 3)) [.ref (fa F 0), .int k, .int 0] σ (mLineOf σ k 0 S) (σ) := by
  refine qx_met (by decide) (Nat.le_of_ble_eq_true rfl) (by intro v hv; simp only [List.mem_cons, List.not_mem_nil, or_false] at hv; rcases hv with rfl | rfl | rfl <;> rfl) (fun K C => ?_)
  refine qx_iload_n C dX5_lineOf_0 rfl rfl ?_
  refine qx_callSI C (As := [_]) (n := 1) (c_X5_isLine F (d + 0) _ _) qw_649 qw_650 qw_44 qw_651 ⟨rfl, by decide, by decide, by decide +kernel⟩ (qx_room (by omega) (by decide)) rfl rfl (Nat.le_of_ble_eq_true rfl) dX5_lineOf_1 ?_
  refine qx_split _ (fun h1 => ?_) (fun h1 => ?_)
  · obtain ⟨k0, hk0, rfl⟩ := qx_inI 2 (by decide) h1
    have ik0 : (nI k0).toNatClampNeg = k0 := nI_clamp (by omega)
    refine qx_if_eq_f C (tgt := 16) dX5_lineOf_4 (by decide) (by decide) ?_
    refine qx_iload_n C dX5_lineOf_7 rfl rfl ?_
    refine qx_iconst C (v := 0) dX5_lineOf_8 rfl ?_
    refine qx_iconst C (v := 3) dX5_lineOf_9 rfl ?_
    refine qx_callSI C (As := [_, _, _]) (n := 3) (c_X5_in F (d + 1) _ _ _ _) qw_630 qw_631 qw_44 qw_632 ⟨rfl, by decide, by decide, by decide +kernel⟩ (qx_room (by omega) (by decide)) rfl rfl (Nat.le_of_ble_eq_true rfl) dX5_lineOf_10 ?_
    refine qx_split _ (fun h10 => ?_) (fun h10 => ?_)
    · refine qx_if_ne_t C (tgt := 18) dX5_lineOf_13 (by decide) (by decide) ?_
      refine qx_iload_n C dX5_lineOf_18 rfl rfl ?_
      refine qx_lookup C (tgt := 44) (off := 25) dX5_lineOf_19 (by decide) (by decide) (by decide) ?_
      refine qx_aload_n C dX5_lineOf_44 rfl rfl ?_
      refine qx_getR C (j := 0) (k := 2) hiX5 rfl rfl (by decide) qw_584 rfl dX5_lineOf_45 ?_
      refine qx_iconst C (v := 3) dX5_lineOf_48 rfl ?_
      refine qx_iload_n C dX5_lineOf_49 rfl rfl ?_
      refine qx_imulE C dX5_lineOf_50 (pk_mul 3 k0) ?_
      refine qx_ialdN C (j := 3) rfl ⟨by omega, by decide⟩ dX5_lineOf_51 ?_
      exact qx_iret C dX5_lineOf_52 rfl (by first | rfl | simp [mLineOf, h1, ik0, h10]) (by first | rfl | simp [mLineOf, h1, ik0, h10])
    · exact absurd (by decide) h10
  · refine qx_if_eq_t C (tgt := 16) dX5_lineOf_4 (by decide) (by decide) ?_
    refine qx_iconst C (v := (-1)) dX5_lineOf_16 rfl ?_
    exact qx_iret C dX5_lineOf_17 rfl (by first | rfl | simp [mLineOf, h1]) (by first | rfl | simp [mLineOf, h1])
set_option maxRecDepth 20000 in
set_option maxHeartbeats 4000000 in
theorem c_X5_lineOf1 (F : qx_F) (d : Nat) (σ : qx_S) (k : Int32) (P S n : Nat) (hw : mW σ P S n) : qx_cI F shM ⟨"NightStallsModel", "lineOf", "(II)I"⟩ (.code ⟨"NightStallsModel", "lineOf", "(II)I"⟩ prog_7_method_45_code 3 ((some FieldType.int)) :: qx_W) (qx_R (d + 3)) [.ref (fa F 0), .int k, .int 1] σ (mLineOf σ k 1 S) (σ) := by
  refine qx_met (by decide) (Nat.le_of_ble_eq_true rfl) (by intro v hv; simp only [List.mem_cons, List.not_mem_nil, or_false] at hv; rcases hv with rfl | rfl | rfl <;> rfl) (fun K C => ?_)
  refine qx_iload_n C dX5_lineOf_0 rfl rfl ?_
  refine qx_callSI C (As := [_]) (n := 1) (c_X5_isLine F (d + 0) _ _) qw_649 qw_650 qw_44 qw_651 ⟨rfl, by decide, by decide, by decide +kernel⟩ (qx_room (by omega) (by decide)) rfl rfl (Nat.le_of_ble_eq_true rfl) dX5_lineOf_1 ?_
  refine qx_split _ (fun h1 => ?_) (fun h1 => ?_)
  · obtain ⟨k0, hk0, rfl⟩ := qx_inI 2 (by decide) h1
    have ik0 : (nI k0).toNatClampNeg = k0 := nI_clamp (by omega)
    refine qx_if_eq_f C (tgt := 16) dX5_lineOf_4 (by decide) (by decide) ?_
    refine qx_iload_n C dX5_lineOf_7 rfl rfl ?_
    refine qx_iconst C (v := 0) dX5_lineOf_8 rfl ?_
    refine qx_iconst C (v := 3) dX5_lineOf_9 rfl ?_
    refine qx_callSI C (As := [_, _, _]) (n := 3) (c_X5_in F (d + 1) _ _ _ _) qw_630 qw_631 qw_44 qw_632 ⟨rfl, by decide, by decide, by decide +kernel⟩ (qx_room (by omega) (by decide)) rfl rfl (Nat.le_of_ble_eq_true rfl) dX5_lineOf_10 ?_
    refine qx_split _ (fun h10 => ?_) (fun h10 => ?_)
    · refine qx_if_ne_t C (tgt := 18) dX5_lineOf_13 (by decide) (by decide) ?_
      refine qx_iload_n C dX5_lineOf_18 rfl rfl ?_
      refine qx_lookup C (tgt := 53) (off := 34) dX5_lineOf_19 (by decide) (by decide) (by decide) ?_
      refine qx_aload_n C dX5_lineOf_53 rfl rfl ?_
      refine qx_iload_n C dX5_lineOf_54 rfl rfl ?_
      refine qx_callVI C (b := 0) (As := [_]) (n := 1) (c_X5_wattsOn F (d + 0) _ _ P S n hw) rfl rfl qw_761 qw_763 qw_31 qw_44 qw_764 ⟨rfl, by decide, by decide, by decide +kernel⟩ (qx_room (by omega) (by decide)) rfl rfl (Nat.le_of_ble_eq_true rfl) dX5_lineOf_55 ?_
      exact qx_iret C dX5_lineOf_58 rfl (by first | rfl | simp [mLineOf, h1, ik0, h10]) (by first | rfl | simp [mLineOf, h1, ik0, h10])
    · exact absurd (by decide) h10
  · refine qx_if_eq_t C (tgt := 16) dX5_lineOf_4 (by decide) (by decide) ?_
    refine qx_iconst C (v := (-1)) dX5_lineOf_16 rfl ?_
    exact qx_iret C dX5_lineOf_17 rfl (by first | rfl | simp [mLineOf, h1]) (by first | rfl | simp [mLineOf, h1])
set_option maxRecDepth 20000 in
set_option maxHeartbeats 4000000 in
theorem c_X5_lineOf2 (F : qx_F) (d : Nat) (σ : qx_S) (k : Int32) (P S n : Nat) (hw : mW σ P S n) : qx_cI F shM ⟨"NightStallsModel", "lineOf", "(II)I"⟩ (.code ⟨"NightStallsModel", "lineOf", "(II)I"⟩ prog_7_method_45_code 3 ((some FieldType.int)) :: qx_W) (qx_R (d + 3)) [.ref (fa F 0), .int k, .int 2] σ (mLineOf σ k 2 S) (σ) := by
  refine qx_met (by decide) (Nat.le_of_ble_eq_true rfl) (by intro v hv; simp only [List.mem_cons, List.not_mem_nil, or_false] at hv; rcases hv with rfl | rfl | rfl <;> rfl) (fun K C => ?_)
  refine qx_iload_n C dX5_lineOf_0 rfl rfl ?_
  refine qx_callSI C (As := [_]) (n := 1) (c_X5_isLine F (d + 0) _ _) qw_649 qw_650 qw_44 qw_651 ⟨rfl, by decide, by decide, by decide +kernel⟩ (qx_room (by omega) (by decide)) rfl rfl (Nat.le_of_ble_eq_true rfl) dX5_lineOf_1 ?_
  refine qx_split _ (fun h1 => ?_) (fun h1 => ?_)
  · obtain ⟨k0, hk0, rfl⟩ := qx_inI 2 (by decide) h1
    have ik0 : (nI k0).toNatClampNeg = k0 := nI_clamp (by omega)
    refine qx_if_eq_f C (tgt := 16) dX5_lineOf_4 (by decide) (by decide) ?_
    refine qx_iload_n C dX5_lineOf_7 rfl rfl ?_
    refine qx_iconst C (v := 0) dX5_lineOf_8 rfl ?_
    refine qx_iconst C (v := 3) dX5_lineOf_9 rfl ?_
    refine qx_callSI C (As := [_, _, _]) (n := 3) (c_X5_in F (d + 1) _ _ _ _) qw_630 qw_631 qw_44 qw_632 ⟨rfl, by decide, by decide, by decide +kernel⟩ (qx_room (by omega) (by decide)) rfl rfl (Nat.le_of_ble_eq_true rfl) dX5_lineOf_10 ?_
    refine qx_split _ (fun h10 => ?_) (fun h10 => ?_)
    · refine qx_if_ne_t C (tgt := 18) dX5_lineOf_13 (by decide) (by decide) ?_
      refine qx_iload_n C dX5_lineOf_18 rfl rfl ?_
      refine qx_lookup C (tgt := 59) (off := 40) dX5_lineOf_19 (by decide) (by decide) (by decide) ?_
      refine qx_aload_n C dX5_lineOf_59 rfl rfl ?_
      refine qx_getR C (j := 0) (k := 2) hiX5 rfl rfl (by decide) qw_584 rfl dX5_lineOf_60 ?_
      refine qx_iconst C (v := 3) dX5_lineOf_63 rfl ?_
      refine qx_iload_n C dX5_lineOf_64 rfl rfl ?_
      refine qx_imulE C dX5_lineOf_65 (pk_mul 3 k0) ?_
      refine qx_iload_n C dX5_lineOf_66 rfl rfl ?_
      refine qx_iaddE C dX5_lineOf_67 (nI_add (3 * k0) 2) ?_
      refine qx_iconst C (v := 1) dX5_lineOf_68 rfl ?_
      refine qx_isubE C dX5_lineOf_69 ((pk_sub (a := 3 * k0 + 2) (b := 1) (by omega)).trans (congrArg nI (show 3 * k0 + 2 - 1 = 3 * k0 + 1 by omega))) ?_
      refine qx_ialdN C (j := 3) rfl ⟨by omega, by decide⟩ dX5_lineOf_70 ?_
      exact qx_iret C dX5_lineOf_71 rfl (by first | rfl | simp [mLineOf, h1, ik0, h10]) (by first | rfl | simp [mLineOf, h1, ik0, h10])
    · exact absurd (by decide) h10
  · refine qx_if_eq_t C (tgt := 16) dX5_lineOf_4 (by decide) (by decide) ?_
    refine qx_iconst C (v := (-1)) dX5_lineOf_16 rfl ?_
    exact qx_iret C dX5_lineOf_17 rfl (by first | rfl | simp [mLineOf, h1]) (by first | rfl | simp [mLineOf, h1])
set_option maxRecDepth 20000 in
set_option maxHeartbeats 4000000 in
theorem c_X5_lineOf3 (F : qx_F) (d : Nat) (σ : qx_S) (k : Int32) (P S n : Nat) (hw : mW σ P S n) : qx_cI F shM ⟨"NightStallsModel", "lineOf", "(II)I"⟩ (.code ⟨"NightStallsModel", "lineOf", "(II)I"⟩ prog_7_method_45_code 3 ((some FieldType.int)) :: qx_W) (qx_R (d + 3)) [.ref (fa F 0), .int k, .int 3] σ (mLineOf σ k 3 S) (σ) := by
  refine qx_met (by decide) (Nat.le_of_ble_eq_true rfl) (by intro v hv; simp only [List.mem_cons, List.not_mem_nil, or_false] at hv; rcases hv with rfl | rfl | rfl <;> rfl) (fun K C => ?_)
  refine qx_iload_n C dX5_lineOf_0 rfl rfl ?_
  refine qx_callSI C (As := [_]) (n := 1) (c_X5_isLine F (d + 0) _ _) qw_649 qw_650 qw_44 qw_651 ⟨rfl, by decide, by decide, by decide +kernel⟩ (qx_room (by omega) (by decide)) rfl rfl (Nat.le_of_ble_eq_true rfl) dX5_lineOf_1 ?_
  refine qx_split _ (fun h1 => ?_) (fun h1 => ?_)
  · obtain ⟨k0, hk0, rfl⟩ := qx_inI 2 (by decide) h1
    have ik0 : (nI k0).toNatClampNeg = k0 := nI_clamp (by omega)
    refine qx_if_eq_f C (tgt := 16) dX5_lineOf_4 (by decide) (by decide) ?_
    refine qx_iload_n C dX5_lineOf_7 rfl rfl ?_
    refine qx_iconst C (v := 0) dX5_lineOf_8 rfl ?_
    refine qx_iconst C (v := 3) dX5_lineOf_9 rfl ?_
    refine qx_callSI C (As := [_, _, _]) (n := 3) (c_X5_in F (d + 1) _ _ _ _) qw_630 qw_631 qw_44 qw_632 ⟨rfl, by decide, by decide, by decide +kernel⟩ (qx_room (by omega) (by decide)) rfl rfl (Nat.le_of_ble_eq_true rfl) dX5_lineOf_10 ?_
    refine qx_split _ (fun h10 => ?_) (fun h10 => ?_)
    · refine qx_if_ne_t C (tgt := 18) dX5_lineOf_13 (by decide) (by decide) ?_
      refine qx_iload_n C dX5_lineOf_18 rfl rfl ?_
      refine qx_lookup C (tgt := 59) (off := 40) dX5_lineOf_19 (by decide) (by decide) (by decide) ?_
      refine qx_aload_n C dX5_lineOf_59 rfl rfl ?_
      refine qx_getR C (j := 0) (k := 2) hiX5 rfl rfl (by decide) qw_584 rfl dX5_lineOf_60 ?_
      refine qx_iconst C (v := 3) dX5_lineOf_63 rfl ?_
      refine qx_iload_n C dX5_lineOf_64 rfl rfl ?_
      refine qx_imulE C dX5_lineOf_65 (pk_mul 3 k0) ?_
      refine qx_iload_n C dX5_lineOf_66 rfl rfl ?_
      refine qx_iaddE C dX5_lineOf_67 (nI_add (3 * k0) 3) ?_
      refine qx_iconst C (v := 1) dX5_lineOf_68 rfl ?_
      refine qx_isubE C dX5_lineOf_69 ((pk_sub (a := 3 * k0 + 3) (b := 1) (by omega)).trans (congrArg nI (show 3 * k0 + 3 - 1 = 3 * k0 + 2 by omega))) ?_
      refine qx_ialdN C (j := 3) rfl ⟨by omega, by decide⟩ dX5_lineOf_70 ?_
      exact qx_iret C dX5_lineOf_71 rfl (by first | rfl | simp [mLineOf, h1, ik0, h10]) (by first | rfl | simp [mLineOf, h1, ik0, h10])
    · exact absurd (by decide) h10
  · refine qx_if_eq_t C (tgt := 16) dX5_lineOf_4 (by decide) (by decide) ?_
    refine qx_iconst C (v := (-1)) dX5_lineOf_16 rfl ?_
    exact qx_iret C dX5_lineOf_17 rfl (by first | rfl | simp [mLineOf, h1]) (by first | rfl | simp [mLineOf, h1])
set_option maxRecDepth 20000 in
set_option maxHeartbeats 4000000 in
theorem c_X5_lineOfX (F : qx_F) (d : Nat) (σ : qx_S) (k w : Int32) (hbad : ¬ (0 ≤ w ∧ w ≤ 3)) (P S n : Nat) (hw : mW σ P S n) : qx_cI F shM ⟨"NightStallsModel", "lineOf", "(II)I"⟩ (.code ⟨"NightStallsModel", "lineOf", "(II)I"⟩ prog_7_method_45_code 3 ((some FieldType.int)) :: qx_W) (qx_R (d + 3)) [.ref (fa F 0), .int k, .int w] σ (mLineOf σ k w S) (σ) := by
  refine qx_met (by decide) (Nat.le_of_ble_eq_true rfl) (by intro v hv; simp only [List.mem_cons, List.not_mem_nil, or_false] at hv; rcases hv with rfl | rfl | rfl <;> rfl) (fun K C => ?_)
  refine qx_iload_n C dX5_lineOf_0 rfl rfl ?_
  refine qx_callSI C (As := [_]) (n := 1) (c_X5_isLine F (d + 0) _ _) qw_649 qw_650 qw_44 qw_651 ⟨rfl, by decide, by decide, by decide +kernel⟩ (qx_room (by omega) (by decide)) rfl rfl (Nat.le_of_ble_eq_true rfl) dX5_lineOf_1 ?_
  refine qx_split _ (fun h1 => ?_) (fun h1 => ?_)
  · obtain ⟨k0, hk0, rfl⟩ := qx_inI 2 (by decide) h1
    have ik0 : (nI k0).toNatClampNeg = k0 := nI_clamp (by omega)
    refine qx_if_eq_f C (tgt := 16) dX5_lineOf_4 (by decide) (by decide) ?_
    refine qx_iload_n C dX5_lineOf_7 rfl rfl ?_
    refine qx_iconst C (v := 0) dX5_lineOf_8 rfl ?_
    refine qx_iconst C (v := 3) dX5_lineOf_9 rfl ?_
    refine qx_callSI C (As := [_, _, _]) (n := 3) (c_X5_in F (d + 1) _ _ _ _) qw_630 qw_631 qw_44 qw_632 ⟨rfl, by decide, by decide, by decide +kernel⟩ (qx_room (by omega) (by decide)) rfl rfl (Nat.le_of_ble_eq_true rfl) dX5_lineOf_10 ?_
    refine qx_split _ (fun h10 => ?_) (fun h10 => ?_)
    · exact absurd h10 hbad
    · refine qx_if_ne_f C (tgt := 18) dX5_lineOf_13 (by decide) (by decide) ?_
      refine qx_iconst C (v := (-1)) dX5_lineOf_16 rfl ?_
      exact qx_iret C dX5_lineOf_17 rfl (by first | rfl | simp [mLineOf, h1, ik0, h10]) (by first | rfl | simp [mLineOf, h1, ik0, h10])
  · refine qx_if_eq_t C (tgt := 16) dX5_lineOf_4 (by decide) (by decide) ?_
    refine qx_iconst C (v := (-1)) dX5_lineOf_16 rfl ?_
    exact qx_iret C dX5_lineOf_17 rfl (by first | rfl | simp [mLineOf, h1]) (by first | rfl | simp [mLineOf, h1])
theorem c_X5_lineOf (F : qx_F) (d : Nat) (σ : qx_S) (k w : Int32) (P S n : Nat) (hw : mW σ P S n) : qx_cI F shM ⟨"NightStallsModel", "lineOf", "(II)I"⟩ (.code ⟨"NightStallsModel", "lineOf", "(II)I"⟩ prog_7_method_45_code 3 ((some FieldType.int)) :: qx_W) (qx_R (d + 3)) [.ref (fa F 0), .int k, .int w] σ (mLineOf σ k w S) (σ) := by
  by_cases h : 0 ≤ w ∧ w ≤ 3
  · obtain ⟨j, hj, rfl⟩ := qx_inI 3 (by decide) h
    have : j = 0 ∨ j = 1 ∨ j = 2 ∨ j = 3 := by omega
    rcases this with rfl | rfl | rfl | rfl
    · exact c_X5_lineOf0 F d σ k P S n hw
    · exact c_X5_lineOf1 F d σ k P S n hw
    · exact c_X5_lineOf2 F d σ k P S n hw
    · exact c_X5_lineOf3 F d σ k P S n hw
  · exact c_X5_lineOfX F d σ k w h P S n hw
set_option maxRecDepth 20000 in
set_option maxHeartbeats 4000000 in
theorem c_X5_sum (F : qx_F) (d : Nat) (σ : qx_S) (w : Int32) (P S n : Nat) (hw : mW σ P S n) : qx_cI F shM ⟨"NightStallsModel", "sum", "(I)I"⟩ (.code ⟨"NightStallsModel", "sum", "(I)I"⟩ prog_7_method_47_code 4 ((some FieldType.int)) :: qx_W) (qx_R (d + 4)) [.ref (fa F 0), .int w] σ (qsum (fun s => mOfF σ (nI s) w n) S) (σ) := by
  refine qx_met (by decide) (Nat.le_of_ble_eq_true rfl) (by intro v hv; simp only [List.mem_cons, List.not_mem_nil, or_false] at hv; rcases hv with rfl | rfl <;> rfl) (fun K C => ?_)
  have hS5 := hw.2.1.2
  refine qx_iconst C (v := 0) dX5_sum_0 rfl ?_
  refine qx_istore_n C dX5_sum_1 rfl (Nat.le_of_ble_eq_true rfl) ?_
  refine qx_iconst C (v := 0) dX5_sum_2 rfl ?_
  refine qx_istore_n C dX5_sum_3 rfl (Nat.le_of_ble_eq_true rfl) ?_
  refine qx_to (qx_up S (P := fun i => qx_X K F shM (σ) 4 [some (.ref (fa F 0)), some (.int w), some (.int (qsum (fun s => mOfF σ (nI s) w n) i)), some (.int (nI i))] []) (fun i hi hki => ?_) ?_) rfl rfl
  · refine qx_iload_n C dX5_sum_4 rfl rfl ?_
    refine qx_aload_n C dX5_sum_5 rfl rfl ?_
    refine qx_getR C (j := 0) (k := 0) hiX5 rfl rfl (by decide) qw_582 rfl dX5_sum_6 ?_
    refine qx_iconst C (v := 1) dX5_sum_9 rfl ?_
    refine qx_ialdL C (j := 1) (a := 1) rfl rfl ⟨by decide, by decide⟩ dX5_sum_10 ?_
    refine qx_icmp_ge_f C (tgt := 29) dX5_sum_11 (by decide) (by rw [hw.2.1.1]; exact nI_ge hi (by omega)) ?_
    refine qx_iload_n C dX5_sum_14 rfl rfl ?_
    refine qx_aload_n C dX5_sum_15 rfl rfl ?_
    refine qx_iload_n C dX5_sum_16 rfl rfl ?_
    refine qx_iload_n C dX5_sum_17 rfl rfl ?_
    refine qx_callVI C (b := 0) (As := [_, _]) (n := 2) (c_X5_of F (d + 0) _ (nI i) w P S n hw) rfl rfl qw_805 qw_774 qw_775 qw_44 qw_776 ⟨rfl, by decide, by decide, by decide +kernel⟩ (qx_room (by omega) (by decide)) rfl rfl (Nat.le_of_ble_eq_true rfl) dX5_sum_18 ?_
    refine qx_iadd C dX5_sum_21 ?_
    refine qx_istore_n C dX5_sum_22 rfl (Nat.le_of_ble_eq_true rfl) ?_
    refine qx_iincN C dX5_sum_23 rfl ?_
    refine qx_goto C (tgt := 4) dX5_sum_26 (by decide) ?_
    exact (qx_to hki rfl rfl)
  · refine qx_iload_n C dX5_sum_4 rfl rfl ?_
    refine qx_aload_n C dX5_sum_5 rfl rfl ?_
    refine qx_getR C (j := 0) (k := 0) hiX5 rfl rfl (by decide) qw_582 rfl dX5_sum_6 ?_
    refine qx_iconst C (v := 1) dX5_sum_9 rfl ?_
    refine qx_ialdL C (j := 1) (a := 1) rfl rfl ⟨by decide, by decide⟩ dX5_sum_10 ?_
    refine qx_icmp_ge_t C (tgt := 29) dX5_sum_11 (by decide) (by rw [hw.2.1.1]; exact nI_le (Nat.le_refl _) (by omega)) ?_
    refine qx_iload_n C dX5_sum_29 rfl rfl ?_
    exact qx_iret C dX5_sum_30 rfl rfl rfl
set_option maxRecDepth 20000 in
set_option maxHeartbeats 4000000 in
theorem c_X5_lanes (F : qx_F) (d : Nat) (σ : qx_S) (P S n : Nat) (hw : mW σ P S n) : qx_cI F shM ⟨"NightStallsModel", "lanes", "()I"⟩ (.code ⟨"NightStallsModel", "lanes", "()I"⟩ prog_7_method_48_code 3 ((some FieldType.int)) :: qx_W) (qx_R (d + 1)) [.ref (fa F 0)] σ (qsum (fun p => σ 2 (3 * p + 2)) P) (σ) := by
  refine qx_met (by decide) (Nat.le_of_ble_eq_true rfl) (by intro v hv; simp only [List.mem_cons, List.not_mem_nil, or_false] at hv; rcases hv with rfl <;> rfl) (fun K C => ?_)
  have hP8 := hw.1.2
  refine qx_iconst C (v := 0) dX5_lanes_0 rfl ?_
  refine qx_istore_n C dX5_lanes_1 rfl (Nat.le_of_ble_eq_true rfl) ?_
  refine qx_iconst C (v := 0) dX5_lanes_2 rfl ?_
  refine qx_istore_n C dX5_lanes_3 rfl (Nat.le_of_ble_eq_true rfl) ?_
  refine qx_to (qx_up P (P := fun i => qx_X K F shM (σ) 4 [some (.ref (fa F 0)), some (.int (qsum (fun p => σ 2 (3 * p + 2)) i)), some (.int (nI i))] []) (fun i hi hki => ?_) ?_) rfl rfl
  · refine qx_iload_n C dX5_lanes_4 rfl rfl ?_
    refine qx_aload_n C dX5_lanes_5 rfl rfl ?_
    refine qx_getR C (j := 0) (k := 0) hiX5 rfl rfl (by decide) qw_582 rfl dX5_lanes_6 ?_
    refine qx_iconst C (v := 0) dX5_lanes_9 rfl ?_
    refine qx_ialdL C (j := 1) (a := 0) rfl rfl ⟨by decide, by decide⟩ dX5_lanes_10 ?_
    refine qx_icmp_ge_f C (tgt := 33) dX5_lanes_11 (by decide) (by rw [hw.1.1]; exact nI_ge hi (by omega)) ?_
    refine qx_iload_n C dX5_lanes_14 rfl rfl ?_
    refine qx_aload_n C dX5_lanes_15 rfl rfl ?_
    refine qx_getR C (j := 0) (k := 1) hiX5 rfl rfl (by decide) qw_583 rfl dX5_lanes_16 ?_
    refine qx_iconst C (v := 3) dX5_lanes_19 rfl ?_
    refine qx_iload_n C dX5_lanes_20 rfl rfl ?_
    refine qx_imulE C dX5_lanes_21 (pk_mul 3 i) ?_
    refine qx_iconst C (v := 2) dX5_lanes_22 rfl ?_
    refine qx_iaddE C dX5_lanes_23 (nI_add (3 * i) 2) ?_
    refine qx_ialdN C (j := 2) rfl ⟨by omega, by decide⟩ dX5_lanes_24 ?_
    refine qx_iadd C dX5_lanes_25 ?_
    refine qx_istore_n C dX5_lanes_26 rfl (Nat.le_of_ble_eq_true rfl) ?_
    refine qx_iincN C dX5_lanes_27 rfl ?_
    refine qx_goto C (tgt := 4) dX5_lanes_30 (by decide) ?_
    exact (qx_to hki rfl rfl)
  · refine qx_iload_n C dX5_lanes_4 rfl rfl ?_
    refine qx_aload_n C dX5_lanes_5 rfl rfl ?_
    refine qx_getR C (j := 0) (k := 0) hiX5 rfl rfl (by decide) qw_582 rfl dX5_lanes_6 ?_
    refine qx_iconst C (v := 0) dX5_lanes_9 rfl ?_
    refine qx_ialdL C (j := 1) (a := 0) rfl rfl ⟨by decide, by decide⟩ dX5_lanes_10 ?_
    refine qx_icmp_ge_t C (tgt := 33) dX5_lanes_11 (by decide) (by rw [hw.1.1]; exact nI_le (Nat.le_refl _) (by omega)) ?_
    refine qx_iload_n C dX5_lanes_33 rfl rfl ?_
    exact qx_iret C dX5_lanes_34 rfl rfl rfl
set_option maxRecDepth 20000 in
set_option maxHeartbeats 4000000 in
theorem c_X5_many (F : qx_F) (d : Nat) (σ : qx_S) (w : Int32) (P S n : Nat) (hw : mW σ P S n) : qx_cI F shM ⟨"NightStallsModel", "many", "(I)I"⟩ (.code ⟨"NightStallsModel", "many", "(I)I"⟩ prog_7_method_49_code 2 ((some FieldType.int)) :: qx_W) (qx_R (d + 5)) [.ref (fa F 0), .int w] σ (mMany σ w P S n) (σ) := by
  refine qx_met (by decide) (Nat.le_of_ble_eq_true rfl) (by intro v hv; simp only [List.mem_cons, List.not_mem_nil, or_false] at hv; rcases hv with rfl | rfl <;> rfl) (fun K C => ?_)
  by_cases e0 : w = 0
  · subst e0
    refine qx_iload_n C dX5_many_0 rfl rfl ?_
    refine qx_tableIn C (tgt := 64) (off := 63) dX5_many_1 (by decide) (by decide) (by decide) (by decide) ?_
    refine qx_aload_n C dX5_many_64 rfl rfl ?_
    refine qx_getR C (j := 0) (k := 0) hiX5 rfl rfl (by decide) qw_582 rfl dX5_many_65 ?_
    refine qx_iload_n C dX5_many_68 rfl rfl ?_
    refine qx_ialdL C (j := 1) (a := 0) rfl rfl ⟨by decide, by decide⟩ dX5_many_69 ?_
    exact qx_iret C dX5_many_70 rfl (by first | rfl | simp [mMany]) (by first | rfl | simp [mMany])
  by_cases e1 : w = 1
  · subst e1
    refine qx_iload_n C dX5_many_0 rfl rfl ?_
    refine qx_tableIn C (tgt := 64) (off := 63) dX5_many_1 (by decide) (by decide) (by decide) (by decide) ?_
    refine qx_aload_n C dX5_many_64 rfl rfl ?_
    refine qx_getR C (j := 0) (k := 0) hiX5 rfl rfl (by decide) qw_582 rfl dX5_many_65 ?_
    refine qx_iload_n C dX5_many_68 rfl rfl ?_
    refine qx_ialdL C (j := 1) (a := 1) rfl rfl ⟨by decide, by decide⟩ dX5_many_69 ?_
    exact qx_iret C dX5_many_70 rfl (by first | rfl | simp [mMany]) (by first | rfl | simp [mMany])
  by_cases e2 : w = 2
  · subst e2
    refine qx_iload_n C dX5_many_0 rfl rfl ?_
    refine qx_tableIn C (tgt := 71) (off := 70) dX5_many_1 (by decide) (by decide) (by decide) (by decide) ?_
    refine qx_aload_n C dX5_many_71 rfl rfl ?_
    refine qx_callVI C (b := 0) (As := []) (n := 0) (c_X5_standing F (d + 2) _ S hw.2.1.1 hw.2.1.2) rfl rfl qw_705 qw_707 qw_21 qw_44 qw_708 ⟨rfl, by decide, by decide, by decide +kernel⟩ (qx_room (by omega) (by decide)) rfl rfl (Nat.le_of_ble_eq_true rfl) dX5_many_72 ?_
    exact qx_iret C dX5_many_75 rfl (by first | rfl | simp [mMany]) (by first | rfl | simp [mMany])
  by_cases e3 : w = 3
  · subst e3
    refine qx_iload_n C dX5_many_0 rfl rfl ?_
    refine qx_tableIn C (tgt := 76) (off := 75) dX5_many_1 (by decide) (by decide) (by decide) (by decide) ?_
    refine qx_aload_n C dX5_many_76 rfl rfl ?_
    refine qx_getR C (j := 0) (k := 0) hiX5 rfl rfl (by decide) qw_582 rfl dX5_many_77 ?_
    refine qx_iconst C (v := 2) dX5_many_80 rfl ?_
    refine qx_ialdL C (j := 1) (a := 2) rfl rfl ⟨by decide, by decide⟩ dX5_many_81 ?_
    exact qx_iret C dX5_many_82 rfl (by first | rfl | simp [mMany]) (by first | rfl | simp [mMany])
  by_cases e4 : w = 4
  · subst e4
    refine qx_iload_n C dX5_many_0 rfl rfl ?_
    refine qx_tableIn C (tgt := 83) (off := 82) dX5_many_1 (by decide) (by decide) (by decide) (by decide) ?_
    refine qx_aload_n C dX5_many_83 rfl rfl ?_
    refine qx_getR C (j := 0) (k := 0) hiX5 rfl rfl (by decide) qw_582 rfl dX5_many_84 ?_
    refine qx_iconst C (v := 3) dX5_many_87 rfl ?_
    refine qx_ialdL C (j := 1) (a := 3) rfl rfl ⟨by decide, by decide⟩ dX5_many_88 ?_
    exact qx_iret C dX5_many_89 rfl (by first | rfl | simp [mMany]) (by first | rfl | simp [mMany])
  by_cases e5 : w = 5
  · subst e5
    refine qx_iload_n C dX5_many_0 rfl rfl ?_
    refine qx_tableIn C (tgt := 90) (off := 89) dX5_many_1 (by decide) (by decide) (by decide) (by decide) ?_
    refine qx_aload_n C dX5_many_90 rfl rfl ?_
    refine qx_getR C (j := 0) (k := 0) hiX5 rfl rfl (by decide) qw_582 rfl dX5_many_91 ?_
    refine qx_iconst C (v := 4) dX5_many_94 rfl ?_
    refine qx_ialdL C (j := 1) (a := 4) rfl rfl ⟨by decide, by decide⟩ dX5_many_95 ?_
    exact qx_iret C dX5_many_96 rfl (by first | rfl | simp [mMany]) (by first | rfl | simp [mMany])
  by_cases e6 : w = 6
  · subst e6
    refine qx_iload_n C dX5_many_0 rfl rfl ?_
    refine qx_tableIn C (tgt := 97) (off := 96) dX5_many_1 (by decide) (by decide) (by decide) (by decide) ?_
    refine qx_aload_n C dX5_many_97 rfl rfl ?_
    refine qx_iload_n C dX5_many_98 rfl rfl ?_
    refine qx_iconst C (v := 3) dX5_many_99 rfl ?_
    refine qx_isubE C (z := 3) dX5_many_100 rfl ?_
    refine qx_callVI C (b := 0) (As := [_]) (n := 1) (c_X5_inState F (d + 3) _ _ n hw.2.2.1.1 hw.2.2.1.2) rfl rfl qw_797 qw_799 qw_33 qw_44 qw_800 ⟨rfl, by decide, by decide, by decide +kernel⟩ (qx_room (by omega) (by decide)) rfl rfl (Nat.le_of_ble_eq_true rfl) dX5_many_101 ?_
    exact qx_iret C dX5_many_104 rfl (by first | rfl | simp [mMany]) (by first | rfl | simp [mMany])
  by_cases e7 : w = 7
  · subst e7
    refine qx_iload_n C dX5_many_0 rfl rfl ?_
    refine qx_tableIn C (tgt := 97) (off := 96) dX5_many_1 (by decide) (by decide) (by decide) (by decide) ?_
    refine qx_aload_n C dX5_many_97 rfl rfl ?_
    refine qx_iload_n C dX5_many_98 rfl rfl ?_
    refine qx_iconst C (v := 3) dX5_many_99 rfl ?_
    refine qx_isubE C (z := 4) dX5_many_100 rfl ?_
    refine qx_callVI C (b := 0) (As := [_]) (n := 1) (c_X5_inState F (d + 3) _ _ n hw.2.2.1.1 hw.2.2.1.2) rfl rfl qw_797 qw_799 qw_33 qw_44 qw_800 ⟨rfl, by decide, by decide, by decide +kernel⟩ (qx_room (by omega) (by decide)) rfl rfl (Nat.le_of_ble_eq_true rfl) dX5_many_101 ?_
    exact qx_iret C dX5_many_104 rfl (by first | rfl | simp [mMany]) (by first | rfl | simp [mMany])
  by_cases e8 : w = 8
  · subst e8
    refine qx_iload_n C dX5_many_0 rfl rfl ?_
    refine qx_tableIn C (tgt := 97) (off := 96) dX5_many_1 (by decide) (by decide) (by decide) (by decide) ?_
    refine qx_aload_n C dX5_many_97 rfl rfl ?_
    refine qx_iload_n C dX5_many_98 rfl rfl ?_
    refine qx_iconst C (v := 3) dX5_many_99 rfl ?_
    refine qx_isubE C (z := 5) dX5_many_100 rfl ?_
    refine qx_callVI C (b := 0) (As := [_]) (n := 1) (c_X5_inState F (d + 3) _ _ n hw.2.2.1.1 hw.2.2.1.2) rfl rfl qw_797 qw_799 qw_33 qw_44 qw_800 ⟨rfl, by decide, by decide, by decide +kernel⟩ (qx_room (by omega) (by decide)) rfl rfl (Nat.le_of_ble_eq_true rfl) dX5_many_101 ?_
    exact qx_iret C dX5_many_104 rfl (by first | rfl | simp [mMany]) (by first | rfl | simp [mMany])
  by_cases e9 : w = 9
  · subst e9
    refine qx_iload_n C dX5_many_0 rfl rfl ?_
    refine qx_tableIn C (tgt := 105) (off := 104) dX5_many_1 (by decide) (by decide) (by decide) (by decide) ?_
    refine qx_aload_n C dX5_many_105 rfl rfl ?_
    refine qx_bipush C (v := 8) dX5_many_106 rfl ?_
    refine qx_callVI C (b := 0) (As := [_]) (n := 1) (c_X5_sum F (d + 0) _ _ P S n hw) rfl rfl qw_801 qw_803 qw_34 qw_44 qw_804 ⟨rfl, by decide, by decide, by decide +kernel⟩ (qx_room (by omega) (by decide)) rfl rfl (Nat.le_of_ble_eq_true rfl) dX5_many_108 ?_
    exact qx_iret C dX5_many_111 rfl (by first | rfl | simp [mMany]) (by first | rfl | simp [mMany])
  by_cases e10 : w = 10
  · subst e10
    refine qx_iload_n C dX5_many_0 rfl rfl ?_
    refine qx_tableIn C (tgt := 112) (off := 111) dX5_many_1 (by decide) (by decide) (by decide) (by decide) ?_
    refine qx_aload_n C dX5_many_112 rfl rfl ?_
    refine qx_bipush C (v := 11) dX5_many_113 rfl ?_
    refine qx_callVI C (b := 0) (As := [_]) (n := 1) (c_X5_sum F (d + 0) _ _ P S n hw) rfl rfl qw_801 qw_803 qw_34 qw_44 qw_804 ⟨rfl, by decide, by decide, by decide +kernel⟩ (qx_room (by omega) (by decide)) rfl rfl (Nat.le_of_ble_eq_true rfl) dX5_many_115 ?_
    exact qx_iret C dX5_many_118 rfl (by first | rfl | simp [mMany]) (by first | rfl | simp [mMany])
  by_cases e11 : w = 11
  · subst e11
    refine qx_iload_n C dX5_many_0 rfl rfl ?_
    refine qx_tableIn C (tgt := 119) (off := 118) dX5_many_1 (by decide) (by decide) (by decide) (by decide) ?_
    refine qx_aload_n C dX5_many_119 rfl rfl ?_
    refine qx_callVI C (b := 0) (As := []) (n := 0) (c_X5_lanes F (d + 3) _ P S n hw) rfl rfl qw_806 qw_808 qw_35 qw_44 qw_809 ⟨rfl, by decide, by decide, by decide +kernel⟩ (qx_room (by omega) (by decide)) rfl rfl (Nat.le_of_ble_eq_true rfl) dX5_many_120 ?_
    exact qx_iret C dX5_many_123 rfl (by first | rfl | simp [mMany]) (by first | rfl | simp [mMany])
  refine qx_iload_n C dX5_many_0 rfl rfl ?_
  refine qx_tableOut C (tgt := 124) dX5_many_1 (by have z0 := lv_neT e0 (a := 0) rfl; have z1 := lv_neT e1 (a := 1) rfl; have z2 := lv_neT e2 (a := 2) rfl; have z3 := lv_neT e3 (a := 3) rfl; have z4 := lv_neT e4 (a := 4) rfl; have z5 := lv_neT e5 (a := 5) rfl; have z6 := lv_neT e6 (a := 6) rfl; have z7 := lv_neT e7 (a := 7) rfl; have z8 := lv_neT e8 (a := 8) rfl; have z9 := lv_neT e9 (a := 9) rfl; have z10 := lv_neT e10 (a := 10) rfl; have z11 := lv_neT e11 (a := 11) rfl; omega) (by decide) ?_
  refine qx_iconst C (v := (-1)) dX5_many_124 rfl ?_
  exact qx_iret C dX5_many_125 rfl (by first | rfl | simp [mMany, e0, e1, e2, e3, e4, e5, e6, e7, e8, e9, e10, e11]) (by first | rfl | simp [mMany, e0, e1, e2, e3, e4, e5, e6, e7, e8, e9, e10, e11])
