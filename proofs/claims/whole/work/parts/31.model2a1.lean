set_option maxRecDepth 20000 in
set_option maxHeartbeats 4000000 in
theorem c_X5_begins (F : qx_F) (d : Nat) (σ : qx_S) (s : Nat) (hs : s < 5) (P S n : Nat) (hw : mW σ P S n) : qx_cV F shM ⟨"NightStallsModel", "begins", "(I)V"⟩ (.code ⟨"NightStallsModel", "begins", "(I)V"⟩ prog_7_method_32_code 4 ((none : Option FieldType)) :: qx_W) (qx_R (d + 3)) [.ref (fa F 0), .int (nI s)] σ (mBegin n s σ) := by
  refine qx_met (by decide) (Nat.le_of_ble_eq_true rfl) (by intro v hv; simp only [List.mem_cons, List.not_mem_nil, or_false] at hv; rcases hv with rfl | rfl <;> rfl) (fun K C => ?_)
  have hn := hw.2.2.1.1
  have hn20 := hw.2.2.1.2
  refine qx_bipush C (v := 11) dX5_begins_0 rfl ?_
  refine qx_iload_n C dX5_begins_2 rfl rfl ?_
  refine qx_imulE C dX5_begins_3 (pk_mul 11 s) ?_
  refine qx_istore_n C dX5_begins_4 rfl (Nat.le_of_ble_eq_true rfl) ?_
  refine qx_aload_n C dX5_begins_5 rfl rfl ?_
  refine qx_getR C (j := 0) (k := 4) hiX5 rfl rfl (by decide) qw_586 rfl dX5_begins_6 ?_
  refine qx_iload_n C dX5_begins_9 rfl rfl ?_
  refine qx_bipush C (v := 9) dX5_begins_10 rfl ?_
  refine qx_iaddE C dX5_begins_12 (nI_add (11 * s) 9) ?_
  refine qx_ialdN C (j := 5) rfl ⟨by omega, by decide⟩ dX5_begins_13 ?_
  refine qx_if_gt C (tgt := 25) dX5_begins_14 (by decide) (fun h14 => ?_) (fun h14 => ?_)
  · exact qx_vret C dX5_begins_25 (mBegin_a h14).symm
  · refine qx_aload_n C dX5_begins_17 rfl rfl ?_
    refine qx_iload_n C dX5_begins_18 rfl rfl ?_
    refine qx_callVI C (b := 0) (As := [_]) (n := 1) (c_X5_works F (d + 0) _ s (by omega) P S n hw) rfl rfl qw_733 qw_735 qw_25 qw_44 qw_736 ⟨rfl, by decide, by decide, by decide +kernel⟩ (qx_room (by omega) (by decide)) rfl rfl (Nat.le_of_ble_eq_true rfl) dX5_begins_19 ?_
    refine qx_split _ (fun h19 => ?_) (fun h19 => ?_)
    · refine qx_if_ne_t C (tgt := 26) dX5_begins_22 (by decide) (by decide) ?_
      refine qx_aload_n C dX5_begins_26 rfl rfl ?_
      refine qx_iload_n C dX5_begins_27 rfl rfl ?_
      refine qx_callVI C (b := 0) (As := [_]) (n := 1) (c_X5_firstAt F (d + 1) _ _ n hn hn20) rfl rfl qw_741 qw_743 qw_27 qw_44 qw_744 ⟨rfl, by decide, by decide, by decide +kernel⟩ (qx_room (by omega) (by decide)) rfl rfl (Nat.le_of_ble_eq_true rfl) dX5_begins_28 ?_
      rcases mFirst_is σ (nI s) n with ef | ⟨f, hf, ef⟩
      · refine qx_top ef ?_
        refine qx_istore_n C dX5_begins_31 rfl (Nat.le_of_ble_eq_true rfl) ?_
        refine qx_iload_n C dX5_begins_32 rfl rfl ?_
        refine qx_if_lt_t C (tgt := 75) dX5_begins_33 (by decide) (by decide) ?_
        exact qx_vret C dX5_begins_75 (mBegin_c h14 h19 ef).symm
      · refine qx_top ef ?_
        refine qx_istore_n C dX5_begins_31 rfl (Nat.le_of_ble_eq_true rfl) ?_
        refine qx_iload_n C dX5_begins_32 rfl rfl ?_
        refine qx_if_lt_f C (tgt := 75) dX5_begins_33 (by decide) (qx_n1 (by omega)) ?_
        refine qx_aload_n C dX5_begins_36 rfl rfl ?_
        refine qx_getR C (j := 0) (k := 4) hiX5 rfl rfl (by decide) qw_586 rfl dX5_begins_37 ?_
        refine qx_iload_n C dX5_begins_40 rfl rfl ?_
        refine qx_bipush C (v := 9) dX5_begins_41 rfl ?_
        refine qx_iaddE C dX5_begins_43 (nI_add (11 * s) 9) ?_
        refine qx_aload_n C dX5_begins_44 rfl rfl ?_
        refine qx_getR C (j := 0) (k := 4) hiX5 rfl rfl (by decide) qw_586 rfl dX5_begins_45 ?_
        refine qx_iload_n C dX5_begins_48 rfl rfl ?_
        refine qx_iconst C (v := 3) dX5_begins_49 rfl ?_
        refine qx_iaddE C dX5_begins_50 (nI_add (11 * s) 3) ?_
        refine qx_ialdN C (j := 5) rfl ⟨by omega, by decide⟩ dX5_begins_51 ?_
        refine qx_iastN C (j := 5) rfl ⟨by omega, by decide⟩ dX5_begins_52 ?_
        refine qx_aload_n C dX5_begins_53 rfl rfl ?_
        refine qx_getR C (j := 0) (k := 4) hiX5 rfl rfl (by decide) qw_586 rfl dX5_begins_54 ?_
        refine qx_iload_n C dX5_begins_57 rfl rfl ?_
        refine qx_bipush C (v := 10) dX5_begins_58 rfl ?_
        refine qx_iaddE C dX5_begins_60 (nI_add (11 * s) 10) ?_
        refine qx_iload_n C dX5_begins_61 rfl rfl ?_
        refine qx_iastN C (j := 5) rfl ⟨by omega, by decide⟩ dX5_begins_62 ?_
        refine qx_aload_n C dX5_begins_63 rfl rfl ?_
        refine qx_getR C (j := 0) (k := 5) hiX5 rfl rfl (by decide) qw_587 rfl dX5_begins_64 ?_
        refine qx_bipush C (v := 7) dX5_begins_67 rfl ?_
        refine qx_iload_n C dX5_begins_69 rfl rfl ?_
        refine qx_imulE C dX5_begins_70 (pk_mul 7 f) ?_
        refine qx_iconst C (v := 2) dX5_begins_71 rfl ?_
        refine qx_iaddE C dX5_begins_72 (nI_add (7 * f) 2) ?_
        refine qx_iconst C (v := 2) dX5_begins_73 rfl ?_
        refine qx_iastN C (j := 6) rfl ⟨by omega, by decide⟩ dX5_begins_74 ?_
        exact qx_vret C dX5_begins_75 (mBegin_d (by omega) h14 h19 ef).symm
    · refine qx_if_ne_f C (tgt := 26) dX5_begins_22 (by decide) (by decide) ?_
      exact qx_vret C dX5_begins_25 (mBegin_b h14 h19).symm
