set_option maxRecDepth 20000 in
set_option maxHeartbeats 4000000 in
theorem c_X5_walks (F : qx_F) (d : Nat) (σ : qx_S) (g : Nat) (hg : g < 20) (P S n : Nat) (hw : mW σ P S n) : qx_cV F shM ⟨"NightStallsModel", "walks", "(I)V"⟩ (.code ⟨"NightStallsModel", "walks", "(I)V"⟩ prog_7_method_33_code 6 ((none : Option FieldType)) :: qx_W) (qx_R (d + 3)) [.ref (fa F 0), .int (nI g)] σ (mWalk n S g σ) := by
  refine qx_met (by decide) (Nat.le_of_ble_eq_true rfl) (by intro v hv; simp only [List.mem_cons, List.not_mem_nil, or_false] at hv; rcases hv with rfl | rfl <;> rfl) (fun K C => ?_)
  have hn := hw.2.2.1.1
  have hn20 := hw.2.2.1.2
  have hS5 := hw.2.1.2
  refine qx_bipush C (v := 7) dX5_walks_0 rfl ?_
  refine qx_iload_n C dX5_walks_2 rfl rfl ?_
  refine qx_imulE C dX5_walks_3 (pk_mul 7 g) ?_
  refine qx_istore_n C dX5_walks_4 rfl (Nat.le_of_ble_eq_true rfl) ?_
  refine qx_iconst C (v := (-1)) dX5_walks_5 rfl ?_
  refine qx_istore_n C dX5_walks_6 rfl (Nat.le_of_ble_eq_true rfl) ?_
  refine qx_iconst C (v := 0) dX5_walks_7 rfl ?_
  refine qx_istore C dX5_walks_8 (Nat.le_of_ble_eq_true rfl) ?_
  refine qx_to (qx_up S (P := fun i => qx_X K F shM (σ) 10 [some (.ref (fa F 0)), some (.int (nI g)), some (.int (nI (7 * g))), some (.int (mFound σ n g i)), some (.int (nI i)), none] []) (fun i hi hki => ?_) ?_) rfl rfl
  · refine qx_iload C dX5_walks_10 rfl ?_
    refine qx_aload_n C dX5_walks_12 rfl rfl ?_
    refine qx_getR C (j := 0) (k := 0) hiX5 rfl rfl (by decide) qw_582 rfl dX5_walks_13 ?_
    refine qx_iconst C (v := 1) dX5_walks_16 rfl ?_
    refine qx_ialdL C (j := 1) (a := 1) rfl rfl ⟨by decide, by decide⟩ dX5_walks_17 ?_
    refine qx_icmp_ge_f C (tgt := 101) dX5_walks_18 (by decide) (by rw [hw.2.1.1]; exact nI_ge hi (by omega)) ?_
    refine qx_aload_n C dX5_walks_21 rfl rfl ?_
    refine qx_iload C dX5_walks_22 rfl ?_
    refine qx_callVI C (b := 0) (As := [_]) (n := 1) (c_X5_works F (d + 0) _ i (by omega) P S n hw) rfl rfl qw_733 qw_735 qw_25 qw_44 qw_736 ⟨rfl, by decide, by decide, by decide +kernel⟩ (qx_room (by omega) (by decide)) rfl rfl (Nat.le_of_ble_eq_true rfl) dX5_walks_24 ?_
    refine qx_split _ (fun h24 => ?_) (fun h24 => ?_)
    · refine qx_if_eq_f C (tgt := 80) dX5_walks_27 (by decide) (by decide) ?_
      refine qx_aload_n C dX5_walks_30 rfl rfl ?_
      refine qx_iload C dX5_walks_31 rfl ?_
      refine qx_callVI C (b := 0) (As := [_]) (n := 1) (c_X5_placeOf F (d + 1) _ i (by omega)) rfl rfl qw_709 qw_711 qw_22 qw_44 qw_712 ⟨rfl, by decide, by decide, by decide +kernel⟩ (qx_room (by omega) (by decide)) rfl rfl (Nat.le_of_ble_eq_true rfl) dX5_walks_33 ?_
      refine qx_aload_n C dX5_walks_36 rfl rfl ?_
      refine qx_getR C (j := 0) (k := 5) hiX5 rfl rfl (by decide) qw_587 rfl dX5_walks_37 ?_
      refine qx_iload_n C dX5_walks_40 rfl rfl ?_
      refine qx_iconst C (v := 3) dX5_walks_41 rfl ?_
      refine qx_iaddE C dX5_walks_42 (nI_add (7 * g) 3) ?_
      refine qx_ialdN C (j := 6) rfl ⟨by omega, by decide⟩ dX5_walks_43 ?_
      refine qx_icmp_ne C (tgt := 80) dX5_walks_44 (by decide) (fun h44 => ?_) (fun h44 => ?_)
      · refine qx_iconst C (v := 0) dX5_walks_80 rfl ?_
        refine qx_istore C dX5_walks_81 (Nat.le_of_ble_eq_true rfl) ?_
        refine qx_iload C dX5_walks_83 rfl ?_
        refine qx_if_eq_t C (tgt := 93) dX5_walks_85 (by decide) (by decide) ?_
        refine qx_iload_n C dX5_walks_93 rfl rfl ?_
        refine qx_istore_n C dX5_walks_94 rfl (Nat.le_of_ble_eq_true rfl) ?_
        refine qx_iincN C dX5_walks_95 rfl ?_
        refine qx_goto C (tgt := 10) dX5_walks_98 (by decide) ?_
        exact (qx_forget 5 (qx_to hki rfl (by first | (rw [mFound_a ⟨h24, h44, h63, h73⟩]; first | done | rfl) | (rw [mFound_b (mt And.left h24)]; first | done | rfl) | (rw [mFound_b (fun z => h44 z.2.1)]; first | done | rfl) | (rw [mFound_b (fun z => h63 z.2.2.1)]; first | done | rfl) | (rw [mFound_b (fun z => z.2.2.2 h73)]; first | done | rfl))))
      · refine qx_aload_n C dX5_walks_47 rfl rfl ?_
        refine qx_getR C (j := 0) (k := 4) hiX5 rfl rfl (by decide) qw_586 rfl dX5_walks_48 ?_
        refine qx_bipush C (v := 11) dX5_walks_51 rfl ?_
        refine qx_iload C dX5_walks_53 rfl ?_
        refine qx_imulE C dX5_walks_55 (pk_mul 11 i) ?_
        refine qx_ialdN C (j := 5) rfl ⟨by omega, by decide⟩ dX5_walks_56 ?_
        refine qx_aload_n C dX5_walks_57 rfl rfl ?_
        refine qx_getR C (j := 0) (k := 5) hiX5 rfl rfl (by decide) qw_587 rfl dX5_walks_58 ?_
        refine qx_iload_n C dX5_walks_61 rfl rfl ?_
        refine qx_ialdN C (j := 6) rfl ⟨by omega, by decide⟩ dX5_walks_62 ?_
        refine qx_icmp_ne C (tgt := 80) dX5_walks_63 (by decide) (fun h63 => ?_) (fun h63 => ?_)
        · refine qx_iconst C (v := 0) dX5_walks_80 rfl ?_
          refine qx_istore C dX5_walks_81 (Nat.le_of_ble_eq_true rfl) ?_
          refine qx_iload C dX5_walks_83 rfl ?_
          refine qx_if_eq_t C (tgt := 93) dX5_walks_85 (by decide) (by decide) ?_
          refine qx_iload_n C dX5_walks_93 rfl rfl ?_
          refine qx_istore_n C dX5_walks_94 rfl (Nat.le_of_ble_eq_true rfl) ?_
          refine qx_iincN C dX5_walks_95 rfl ?_
          refine qx_goto C (tgt := 10) dX5_walks_98 (by decide) ?_
          exact (qx_forget 5 (qx_to hki rfl (by first | (rw [mFound_a ⟨h24, h44, h63, h73⟩]; first | done | rfl) | (rw [mFound_b (mt And.left h24)]; first | done | rfl) | (rw [mFound_b (fun z => h44 z.2.1)]; first | done | rfl) | (rw [mFound_b (fun z => h63 z.2.2.1)]; first | done | rfl) | (rw [mFound_b (fun z => z.2.2.2 h73)]; first | done | rfl))))
        · refine qx_aload_n C dX5_walks_66 rfl rfl ?_
          refine qx_iload C dX5_walks_67 rfl ?_
          refine qx_callVI C (b := 0) (As := [_]) (n := 1) (c_X5_guestsAt F (d + 0) _ _ n hn hn20) rfl rfl qw_749 qw_751 qw_29 qw_44 qw_752 ⟨rfl, by decide, by decide, by decide +kernel⟩ (qx_room (by omega) (by decide)) rfl rfl (Nat.le_of_ble_eq_true rfl) dX5_walks_69 ?_
          refine qx_iconst C (v := 3) dX5_walks_72 rfl ?_
          refine qx_icmp_ge C (tgt := 80) dX5_walks_73 (by decide) (fun h73 => ?_) (fun h73 => ?_)
          · refine qx_iconst C (v := 0) dX5_walks_80 rfl ?_
            refine qx_istore C dX5_walks_81 (Nat.le_of_ble_eq_true rfl) ?_
            refine qx_iload C dX5_walks_83 rfl ?_
            refine qx_if_eq_t C (tgt := 93) dX5_walks_85 (by decide) (by decide) ?_
            refine qx_iload_n C dX5_walks_93 rfl rfl ?_
            refine qx_istore_n C dX5_walks_94 rfl (Nat.le_of_ble_eq_true rfl) ?_
            refine qx_iincN C dX5_walks_95 rfl ?_
            refine qx_goto C (tgt := 10) dX5_walks_98 (by decide) ?_
            exact (qx_forget 5 (qx_to hki rfl (by first | (rw [mFound_a ⟨h24, h44, h63, h73⟩]; first | done | rfl) | (rw [mFound_b (mt And.left h24)]; first | done | rfl) | (rw [mFound_b (fun z => h44 z.2.1)]; first | done | rfl) | (rw [mFound_b (fun z => h63 z.2.2.1)]; first | done | rfl) | (rw [mFound_b (fun z => z.2.2.2 h73)]; first | done | rfl))))
          · refine qx_iconst C (v := 1) dX5_walks_76 rfl ?_
            refine qx_goto C (tgt := 81) dX5_walks_77 (by decide) ?_
            refine qx_istore C dX5_walks_81 (Nat.le_of_ble_eq_true rfl) ?_
            refine qx_iload C dX5_walks_83 rfl ?_
            refine qx_if_eq_f C (tgt := 93) dX5_walks_85 (by decide) (by decide) ?_
            refine qx_iload C dX5_walks_88 rfl ?_
            refine qx_goto C (tgt := 94) dX5_walks_90 (by decide) ?_
            refine qx_istore_n C dX5_walks_94 rfl (Nat.le_of_ble_eq_true rfl) ?_
            refine qx_iincN C dX5_walks_95 rfl ?_
            refine qx_goto C (tgt := 10) dX5_walks_98 (by decide) ?_
            exact (qx_forget 5 (qx_to hki rfl (by first | (rw [mFound_a ⟨h24, h44, h63, h73⟩]; first | done | rfl) | (rw [mFound_b (mt And.left h24)]; first | done | rfl) | (rw [mFound_b (fun z => h44 z.2.1)]; first | done | rfl) | (rw [mFound_b (fun z => h63 z.2.2.1)]; first | done | rfl) | (rw [mFound_b (fun z => z.2.2.2 h73)]; first | done | rfl))))
    · refine qx_if_eq_t C (tgt := 80) dX5_walks_27 (by decide) (by decide) ?_
      refine qx_iconst C (v := 0) dX5_walks_80 rfl ?_
      refine qx_istore C dX5_walks_81 (Nat.le_of_ble_eq_true rfl) ?_
      refine qx_iload C dX5_walks_83 rfl ?_
      refine qx_if_eq_t C (tgt := 93) dX5_walks_85 (by decide) (by decide) ?_
      refine qx_iload_n C dX5_walks_93 rfl rfl ?_
      refine qx_istore_n C dX5_walks_94 rfl (Nat.le_of_ble_eq_true rfl) ?_
      refine qx_iincN C dX5_walks_95 rfl ?_
      refine qx_goto C (tgt := 10) dX5_walks_98 (by decide) ?_
      exact (qx_forget 5 (qx_to hki rfl (by first | (rw [mFound_a ⟨h24, h44, h63, h73⟩]; first | done | rfl) | (rw [mFound_b (mt And.left h24)]; first | done | rfl) | (rw [mFound_b (fun z => h44 z.2.1)]; first | done | rfl) | (rw [mFound_b (fun z => h63 z.2.2.1)]; first | done | rfl) | (rw [mFound_b (fun z => z.2.2.2 h73)]; first | done | rfl))))
  · refine qx_iload C dX5_walks_10 rfl ?_
    refine qx_aload_n C dX5_walks_12 rfl rfl ?_
    refine qx_getR C (j := 0) (k := 0) hiX5 rfl rfl (by decide) qw_582 rfl dX5_walks_13 ?_
    refine qx_iconst C (v := 1) dX5_walks_16 rfl ?_
    refine qx_ialdL C (j := 1) (a := 1) rfl rfl ⟨by decide, by decide⟩ dX5_walks_17 ?_
    refine qx_icmp_ge_t C (tgt := 101) dX5_walks_18 (by decide) (by rw [hw.2.1.1]; exact nI_le (Nat.le_refl _) (by omega)) ?_
    rcases mFound_is σ n g S with ef | ⟨f, hf, ef⟩
    · refine qx_ls2 (ls2 := [_, _, _, some (.int (-1)), _, _]) (by rw [ef]; first | done | rfl) ?_
      refine qx_iload_n C dX5_walks_101 rfl rfl ?_
      refine qx_if_lt_t C (tgt := 150) dX5_walks_102 (by decide) (by decide) ?_
      refine qx_aload_n C dX5_walks_150 rfl rfl ?_
      refine qx_getR C (j := 0) (k := 5) hiX5 rfl rfl (by decide) qw_587 rfl dX5_walks_151 ?_
      refine qx_iload_n C dX5_walks_154 rfl rfl ?_
      refine qx_iconst C (v := 3) dX5_walks_155 rfl ?_
      refine qx_iaddE C dX5_walks_156 (nI_add (7 * g) 3) ?_
      refine qx_dup2 C dX5_walks_157 rfl rfl ?_
      refine qx_ialdN C (j := 6) rfl ⟨by omega, by decide⟩ dX5_walks_158 ?_
      refine qx_iconst C (v := 1) dX5_walks_159 rfl ?_
      refine qx_iadd C dX5_walks_160 ?_
      refine qx_iastN C (j := 6) rfl ⟨by omega, by decide⟩ dX5_walks_161 ?_
      refine qx_aload_n C dX5_walks_162 rfl rfl ?_
      refine qx_getR C (j := 0) (k := 5) hiX5 rfl rfl (by decide) qw_587 rfl dX5_walks_163 ?_
      refine qx_iload_n C dX5_walks_166 rfl rfl ?_
      refine qx_iconst C (v := 3) dX5_walks_167 rfl ?_
      refine qx_iaddE C dX5_walks_168 (nI_add (7 * g) 3) ?_
      refine qx_ialdN C (j := 6) rfl ⟨by omega, by decide⟩ dX5_walks_169 ?_
      refine qx_aload_n C dX5_walks_170 rfl rfl ?_
      refine qx_getR C (j := 0) (k := 0) hiX5 rfl rfl (by decide) qw_582 rfl dX5_walks_171 ?_
      refine qx_iconst C (v := 0) dX5_walks_174 rfl ?_
      refine qx_ialdL C (j := 1) (a := 0) rfl rfl ⟨by decide, by decide⟩ dX5_walks_175 ?_
      refine qx_icmp_ne C (tgt := 188) dX5_walks_176 (by decide) (fun h176 => ?_) (fun h176 => ?_)
      · exact qx_vret C dX5_walks_188 (by unfold mWalk; rw [ef, if_pos (by decide)]; unfold mStep; first | rw [if_pos h176] | rw [if_neg h176])
      · refine qx_aload_n C dX5_walks_179 rfl rfl ?_
        refine qx_getR C (j := 0) (k := 5) hiX5 rfl rfl (by decide) qw_587 rfl dX5_walks_180 ?_
        refine qx_iload_n C dX5_walks_183 rfl rfl ?_
        refine qx_iconst C (v := 2) dX5_walks_184 rfl ?_
        refine qx_iaddE C dX5_walks_185 (nI_add (7 * g) 2) ?_
        refine qx_iconst C (v := 5) dX5_walks_186 rfl ?_
        refine qx_iastN C (j := 6) rfl ⟨by omega, by decide⟩ dX5_walks_187 ?_
        exact qx_vret C dX5_walks_188 (by unfold mWalk; rw [ef, if_pos (by decide)]; unfold mStep; first | rw [if_pos h176] | rw [if_neg h176])
    · refine qx_ls2 (ls2 := [_, _, _, some (.int (nI f)), _, _]) (by rw [ef]; first | done | rfl) ?_
      refine qx_iload_n C dX5_walks_101 rfl rfl ?_
      refine qx_if_lt_f C (tgt := 150) dX5_walks_102 (by decide) (qx_n1 (by omega)) ?_
      refine qx_aload_n C dX5_walks_105 rfl rfl ?_
      refine qx_getR C (j := 0) (k := 5) hiX5 rfl rfl (by decide) qw_587 rfl dX5_walks_106 ?_
      refine qx_iload_n C dX5_walks_109 rfl rfl ?_
      refine qx_iconst C (v := 2) dX5_walks_110 rfl ?_
      refine qx_iaddE C dX5_walks_111 (nI_add (7 * g) 2) ?_
      refine qx_iconst C (v := 1) dX5_walks_112 rfl ?_
      refine qx_iastN C (j := 6) rfl ⟨by omega, by decide⟩ dX5_walks_113 ?_
      refine qx_aload_n C dX5_walks_114 rfl rfl ?_
      refine qx_getR C (j := 0) (k := 5) hiX5 rfl rfl (by decide) qw_587 rfl dX5_walks_115 ?_
      refine qx_iload_n C dX5_walks_118 rfl rfl ?_
      refine qx_iconst C (v := 4) dX5_walks_119 rfl ?_
      refine qx_iaddE C dX5_walks_120 (nI_add (7 * g) 4) ?_
      refine qx_iload_n C dX5_walks_121 rfl rfl ?_
      refine qx_iastN C (j := 6) rfl ⟨by omega, by decide⟩ dX5_walks_122 ?_
      refine qx_st (τ := mQ1 σ g (nI f)) rfl ?_
      refine qx_aload_n C dX5_walks_123 rfl rfl ?_
      refine qx_getR C (j := 0) (k := 0) hiX5 rfl rfl (by decide) qw_582 rfl dX5_walks_124 ?_
      refine qx_bipush C (v := 7) dX5_walks_127 rfl ?_
      refine qx_dup2 C dX5_walks_129 rfl rfl ?_
      refine qx_ialdL C (j := 1) (a := 7) rfl rfl ⟨by decide, by decide⟩ dX5_walks_130 ?_
      refine qx_iconst C (v := 1) dX5_walks_131 rfl ?_
      refine qx_iadd C dX5_walks_132 ?_
      refine qx_iastL C (j := 1) (a := 7) rfl rfl ⟨by decide, by decide⟩ dX5_walks_133 ?_
      refine qx_st (τ := mQ2 (mQ1 σ g (nI f))) rfl ?_
      refine qx_aload_n C dX5_walks_134 rfl rfl ?_
      refine qx_getR C (j := 0) (k := 5) hiX5 rfl rfl (by decide) qw_587 rfl dX5_walks_135 ?_
      refine qx_iload_n C dX5_walks_138 rfl rfl ?_
      refine qx_iconst C (v := 5) dX5_walks_139 rfl ?_
      refine qx_iaddE C dX5_walks_140 (nI_add (7 * g) 5) ?_
      refine qx_aload_n C dX5_walks_141 rfl rfl ?_
      refine qx_getR C (j := 0) (k := 0) hiX5 rfl rfl (by decide) qw_582 rfl dX5_walks_142 ?_
      refine qx_bipush C (v := 7) dX5_walks_145 rfl ?_
      refine qx_ialdL C (j := 1) (a := 7) rfl rfl ⟨by decide, by decide⟩ dX5_walks_147 ?_
      refine qx_iastN C (j := 6) rfl ⟨by omega, by decide⟩ dX5_walks_148 ?_
      exact qx_vret C dX5_walks_149 (by unfold mWalk; rw [ef, if_neg (qx_n1 (by omega))]; rfl)
