set_option maxRecDepth 20000 in
set_option maxHeartbeats 4000000 in
theorem c_X5_cooks (F : qx_F) (d : Nat) (σ : qx_S) (s : Nat) (hs : s < 5) (P S n : Nat) (hw : mW σ P S n) (hc : ¬ σ 5 (11 * s + 9) = 0 → ∃ g, g < 20 ∧ σ 5 (11 * s + 10) = nI g) : qx_cI F shM ⟨"NightStallsModel", "cooks", "(I)I"⟩ (.code ⟨"NightStallsModel", "cooks", "(I)I"⟩ prog_7_method_31_code 4 ((some FieldType.int)) :: qx_W) (qx_R (d + 3)) [.ref (fa F 0), .int (nI s)] σ ((mCook s σ).2) ((mCook s σ).1) := by
  refine qx_met (by decide) (Nat.le_of_ble_eq_true rfl) (by intro v hv; simp only [List.mem_cons, List.not_mem_nil, or_false] at hv; rcases hv with rfl | rfl <;> rfl) (fun K C => ?_)
  refine qx_bipush C (v := 11) dX5_cooks_0 rfl ?_
  refine qx_iload_n C dX5_cooks_2 rfl rfl ?_
  refine qx_imulE C dX5_cooks_3 (pk_mul 11 s) ?_
  refine qx_istore_n C dX5_cooks_4 rfl (Nat.le_of_ble_eq_true rfl) ?_
  refine qx_aload_n C dX5_cooks_5 rfl rfl ?_
  refine qx_getR C (j := 0) (k := 4) hiX5 rfl rfl (by decide) qw_586 rfl dX5_cooks_6 ?_
  refine qx_iload_n C dX5_cooks_9 rfl rfl ?_
  refine qx_bipush C (v := 9) dX5_cooks_10 rfl ?_
  refine qx_iaddE C dX5_cooks_12 (nI_add (11 * s) 9) ?_
  refine qx_ialdN C (j := 5) rfl ⟨by omega, by decide⟩ dX5_cooks_13 ?_
  refine qx_if_eq C (tgt := 25) dX5_cooks_14 (by decide) (fun h14 => ?_) (fun h14 => ?_)
  · refine qx_iconst C (v := 0) dX5_cooks_25 rfl ?_
    exact qx_iret C dX5_cooks_26 rfl (by rw [mCook_a h14]; first | done | rfl) (by rw [mCook_a h14]; first | done | rfl)
  · refine qx_aload_n C dX5_cooks_17 rfl rfl ?_
    refine qx_iload_n C dX5_cooks_18 rfl rfl ?_
    refine qx_callVI C (b := 0) (As := [_]) (n := 1) (c_X5_works F (d + 0) _ s (by omega) P S n hw) rfl rfl qw_733 qw_735 qw_25 qw_44 qw_736 ⟨rfl, by decide, by decide, by decide +kernel⟩ (qx_room (by omega) (by decide)) rfl rfl (Nat.le_of_ble_eq_true rfl) dX5_cooks_19 ?_
    refine qx_split _ (fun h19 => ?_) (fun h19 => ?_)
    · refine qx_if_ne_t C (tgt := 27) dX5_cooks_22 (by decide) (by decide) ?_
      refine qx_aload_n C dX5_cooks_27 rfl rfl ?_
      refine qx_getR C (j := 0) (k := 4) hiX5 rfl rfl (by decide) qw_586 rfl dX5_cooks_28 ?_
      refine qx_iload_n C dX5_cooks_31 rfl rfl ?_
      refine qx_bipush C (v := 9) dX5_cooks_32 rfl ?_
      refine qx_iaddE C dX5_cooks_34 (nI_add (11 * s) 9) ?_
      refine qx_dup2 C dX5_cooks_35 rfl rfl ?_
      refine qx_ialdN C (j := 5) rfl ⟨by omega, by decide⟩ dX5_cooks_36 ?_
      refine qx_iconst C (v := 1) dX5_cooks_37 rfl ?_
      refine qx_isub C dX5_cooks_38 ?_
      refine qx_iastN C (j := 5) rfl ⟨by omega, by decide⟩ dX5_cooks_39 ?_
      refine qx_st (τ := mC1 σ s) rfl ?_
      refine qx_aload_n C dX5_cooks_40 rfl rfl ?_
      refine qx_getR C (j := 0) (k := 4) hiX5 rfl rfl (by decide) qw_586 rfl dX5_cooks_41 ?_
      refine qx_iload_n C dX5_cooks_44 rfl rfl ?_
      refine qx_bipush C (v := 9) dX5_cooks_45 rfl ?_
      refine qx_iaddE C dX5_cooks_47 (nI_add (11 * s) 9) ?_
      refine qx_ialdN C (j := 5) rfl ⟨by omega, by decide⟩ dX5_cooks_48 ?_
      refine qx_if_le C (tgt := 54) dX5_cooks_49 (by decide) (fun h49 => ?_) (fun h49 => ?_)
      · obtain ⟨g0, hg0, eg0⟩ := hc h14
        have eg : mC1 σ s 5 (11 * s + 10) = nI g0 := by unfold mC1; rw [qs_slot _ _ _ _ (by omega)]; exact eg0
        have ig : ix (mC1 σ s 5 (11 * s + 10)) = g0 := by rw [eg]; exact nI_clamp (by omega)
        refine qx_aload_n C dX5_cooks_54 rfl rfl ?_
        refine qx_getR C (j := 0) (k := 4) hiX5 rfl rfl (by decide) qw_586 rfl dX5_cooks_55 ?_
        refine qx_iload_n C dX5_cooks_58 rfl rfl ?_
        refine qx_bipush C (v := 10) dX5_cooks_59 rfl ?_
        refine qx_iaddE C dX5_cooks_61 (nI_add (11 * s) 10) ?_
        refine qx_ialdN C (j := 5) rfl ⟨by omega, by decide⟩ dX5_cooks_62 ?_
        refine qx_top eg ?_
        refine qx_istore_n C dX5_cooks_63 rfl (Nat.le_of_ble_eq_true rfl) ?_
        refine qx_aload_n C dX5_cooks_64 rfl rfl ?_
        refine qx_getR C (j := 0) (k := 5) hiX5 rfl rfl (by decide) qw_587 rfl dX5_cooks_65 ?_
        refine qx_bipush C (v := 7) dX5_cooks_68 rfl ?_
        refine qx_iload_n C dX5_cooks_70 rfl rfl ?_
        refine qx_imulE C dX5_cooks_71 (pk_mul 7 g0) ?_
        refine qx_iconst C (v := 2) dX5_cooks_72 rfl ?_
        refine qx_iaddE C dX5_cooks_73 (nI_add (7 * g0) 2) ?_
        refine qx_iconst C (v := 3) dX5_cooks_74 rfl ?_
        refine qx_iastN C (j := 6) rfl ⟨by omega, by decide⟩ dX5_cooks_75 ?_
        refine qx_aload_n C dX5_cooks_76 rfl rfl ?_
        refine qx_getR C (j := 0) (k := 5) hiX5 rfl rfl (by decide) qw_587 rfl dX5_cooks_77 ?_
        refine qx_bipush C (v := 7) dX5_cooks_80 rfl ?_
        refine qx_iload_n C dX5_cooks_82 rfl rfl ?_
        refine qx_imulE C dX5_cooks_83 (pk_mul 7 g0) ?_
        refine qx_bipush C (v := 6) dX5_cooks_84 rfl ?_
        refine qx_iaddE C dX5_cooks_86 (nI_add (7 * g0) 6) ?_
        refine qx_aload_n C dX5_cooks_87 rfl rfl ?_
        refine qx_getR C (j := 0) (k := 0) hiX5 rfl rfl (by decide) qw_582 rfl dX5_cooks_88 ?_
        refine qx_iconst C (v := 3) dX5_cooks_91 rfl ?_
        refine qx_ialdL C (j := 1) (a := 3) rfl rfl ⟨by decide, by decide⟩ dX5_cooks_92 ?_
        refine qx_iastN C (j := 6) rfl ⟨by omega, by decide⟩ dX5_cooks_93 ?_
        refine qx_aload_n C dX5_cooks_94 rfl rfl ?_
        refine qx_getR C (j := 0) (k := 4) hiX5 rfl rfl (by decide) qw_586 rfl dX5_cooks_95 ?_
        refine qx_iload_n C dX5_cooks_98 rfl rfl ?_
        refine qx_bipush C (v := 10) dX5_cooks_99 rfl ?_
        refine qx_iaddE C dX5_cooks_101 (nI_add (11 * s) 10) ?_
        refine qx_iconst C (v := (-1)) dX5_cooks_102 rfl ?_
        refine qx_iastN C (j := 5) rfl ⟨by omega, by decide⟩ dX5_cooks_103 ?_
        refine qx_st (τ := mC2 (mC1 σ s) s g0) rfl ?_
        refine qx_aload_n C dX5_cooks_104 rfl rfl ?_
        refine qx_getR C (j := 0) (k := 4) hiX5 rfl rfl (by decide) qw_586 rfl dX5_cooks_105 ?_
        refine qx_iload_n C dX5_cooks_108 rfl rfl ?_
        refine qx_bipush C (v := 7) dX5_cooks_109 rfl ?_
        refine qx_iaddE C dX5_cooks_111 (nI_add (11 * s) 7) ?_
        refine qx_dup2 C dX5_cooks_112 rfl rfl ?_
        refine qx_ialdN C (j := 5) rfl ⟨by omega, by decide⟩ dX5_cooks_113 ?_
        refine qx_iconst C (v := 1) dX5_cooks_114 rfl ?_
        refine qx_iadd C dX5_cooks_115 ?_
        refine qx_iastN C (j := 5) rfl ⟨by omega, by decide⟩ dX5_cooks_116 ?_
        refine qx_aload_n C dX5_cooks_117 rfl rfl ?_
        refine qx_getR C (j := 0) (k := 4) hiX5 rfl rfl (by decide) qw_586 rfl dX5_cooks_118 ?_
        refine qx_iload_n C dX5_cooks_121 rfl rfl ?_
        refine qx_bipush C (v := 8) dX5_cooks_122 rfl ?_
        refine qx_iaddE C dX5_cooks_124 (nI_add (11 * s) 8) ?_
        refine qx_dup2 C dX5_cooks_125 rfl rfl ?_
        refine qx_ialdN C (j := 5) rfl ⟨by omega, by decide⟩ dX5_cooks_126 ?_
        refine qx_aload_n C dX5_cooks_127 rfl rfl ?_
        refine qx_getR C (j := 0) (k := 4) hiX5 rfl rfl (by decide) qw_586 rfl dX5_cooks_128 ?_
        refine qx_iload_n C dX5_cooks_131 rfl rfl ?_
        refine qx_iconst C (v := 4) dX5_cooks_132 rfl ?_
        refine qx_iaddE C dX5_cooks_133 (nI_add (11 * s) 4) ?_
        refine qx_ialdN C (j := 5) rfl ⟨by omega, by decide⟩ dX5_cooks_134 ?_
        refine qx_iadd C dX5_cooks_135 ?_
        refine qx_iastN C (j := 5) rfl ⟨by omega, by decide⟩ dX5_cooks_136 ?_
        refine qx_iconst C (v := 1) dX5_cooks_137 rfl ?_
        exact qx_iret C dX5_cooks_138 rfl (by rw [mCook_d h14 h19 h49, ig]; first | done | rfl) (by rw [mCook_d h14 h19 h49, ig]; first | done | rfl)
      · refine qx_iconst C (v := 0) dX5_cooks_52 rfl ?_
        exact qx_iret C dX5_cooks_53 rfl (by rw [mCook_c h14 h19 h49]; first | done | rfl) (by rw [mCook_c h14 h19 h49]; first | done | rfl)
    · refine qx_if_ne_f C (tgt := 27) dX5_cooks_22 (by decide) (by decide) ?_
      refine qx_iconst C (v := 0) dX5_cooks_25 rfl ?_
      exact qx_iret C dX5_cooks_26 rfl (by rw [mCook_b h14 h19]; first | done | rfl) (by rw [mCook_b h14 h19]; first | done | rfl)
