def mPre (σ : qx_S) (S : Nat) : Prop := ∀ s, s < S → ¬ σ 5 (11 * s + 9) = 0 → ∃ g, g < 20 ∧ σ 5 (11 * s + 10) = nI g
theorem mPre_at {σ : qx_S} {S : Nat} (h : mPre σ S) {i : Nat} (hi : i < S) : ¬ (qf mCookS (σ, 0) i).1 5 (11 * i + 9) = 0 → ∃ g, g < 20 ∧ (qf mCookS (σ, 0) i).1 5 (11 * i + 10) = nI g := by
  rw [mCookS_row σ 0 i (by omega), mCookS_row σ 0 i (by omega)]
  exact h i hi
theorem mWalkS_a {n S g : Nat} {σ : qx_S} (h : ¬ σ 6 (7 * g + 2) = 0) : mWalkS n S g σ = σ := if_neg h
theorem mWalkS_b {n S g : Nat} {σ : qx_S} (h : σ 6 (7 * g + 2) = 0) : mWalkS n S g σ = mWalk n S g σ := if_pos h
set_option maxRecDepth 20000 in
set_option maxHeartbeats 4000000 in
theorem c_X5_tick (F : qx_F) (d : Nat) (σ : qx_S) (P S n : Nat) (hw : mW σ P S n) (hc : mPre σ S) : qx_cI F shM ⟨"NightStallsModel", "tick", "()I"⟩ (.code ⟨"NightStallsModel", "tick", "()I"⟩ prog_7_method_34_code 3 ((some FieldType.int)) :: qx_W) (qx_R (d + 4)) [.ref (fa F 0)] σ ((qf mCookS (σ, 0) S).2) (mTick σ S n) := by
  refine qx_met (by decide) (Nat.le_of_ble_eq_true rfl) (by intro v hv; simp only [List.mem_cons, List.not_mem_nil, or_false] at hv; rcases hv with rfl <;> rfl) (fun K C => ?_)
  have hn20 := hw.2.2.1.2
  have hS5 := hw.2.1.2
  refine qx_iconst C (v := 0) dX5_tick_0 rfl ?_
  refine qx_istore_n C dX5_tick_1 rfl (Nat.le_of_ble_eq_true rfl) ?_
  refine qx_iconst C (v := 0) dX5_tick_2 rfl ?_
  refine qx_istore_n C dX5_tick_3 rfl (Nat.le_of_ble_eq_true rfl) ?_
  refine qx_to (qx_up S (P := fun i => qx_X K F shM ((qf mCookS (σ, 0) i).1) 4 [some (.ref (fa F 0)), some (.int ((qf mCookS (σ, 0) i).2)), some (.int (nI i))] []) (fun i hi hki => ?_) ?_) rfl rfl
  · refine qx_iload_n C dX5_tick_4 rfl rfl ?_
    refine qx_aload_n C dX5_tick_5 rfl rfl ?_
    refine qx_getR C (j := 0) (k := 0) hiX5 rfl rfl (by decide) qw_582 rfl dX5_tick_6 ?_
    refine qx_iconst C (v := 1) dX5_tick_9 rfl ?_
    refine qx_ialdL C (j := 1) (a := 1) rfl rfl ⟨by decide, by decide⟩ dX5_tick_10 ?_
    refine qx_icmp_ge_f C (tgt := 28) dX5_tick_11 (by decide) (by rw [(mSame_W (mCookS_same σ 0 i) hw).2.1.1]; exact nI_ge hi (by omega)) ?_
    refine qx_iload_n C dX5_tick_14 rfl rfl ?_
    refine qx_aload_n C dX5_tick_15 rfl rfl ?_
    refine qx_iload_n C dX5_tick_16 rfl rfl ?_
    refine qx_callVI C (b := 0) (As := [_]) (n := 1) (c_X5_cooks F (d + 0) _ i (by omega) P S n (mSame_W (mCookS_same σ 0 i) hw) (mPre_at hc hi)) rfl rfl qw_729 qw_731 qw_24 qw_44 qw_732 ⟨rfl, by decide, by decide, by decide +kernel⟩ (qx_room (by omega) (by decide)) rfl rfl (Nat.le_of_ble_eq_true rfl) dX5_tick_17 ?_
    refine qx_iadd C dX5_tick_20 ?_
    refine qx_istore_n C dX5_tick_21 rfl (Nat.le_of_ble_eq_true rfl) ?_
    refine qx_iincN C dX5_tick_22 rfl ?_
    refine qx_goto C (tgt := 4) dX5_tick_25 (by decide) ?_
    exact (qx_to hki (mCookS_1 (σ, 0) i).symm (by rw [mCookS_2]; first | done | rfl))
  · refine qx_iload_n C dX5_tick_4 rfl rfl ?_
    refine qx_aload_n C dX5_tick_5 rfl rfl ?_
    refine qx_getR C (j := 0) (k := 0) hiX5 rfl rfl (by decide) qw_582 rfl dX5_tick_6 ?_
    refine qx_iconst C (v := 1) dX5_tick_9 rfl ?_
    refine qx_ialdL C (j := 1) (a := 1) rfl rfl ⟨by decide, by decide⟩ dX5_tick_10 ?_
    refine qx_icmp_ge_t C (tgt := 28) dX5_tick_11 (by decide) (by rw [(mSame_W (mCookS_same σ 0 S) hw).2.1.1]; exact nI_le (Nat.le_refl _) (by omega)) ?_
    refine qx_iconst C (v := 0) dX5_tick_28 rfl ?_
    refine qx_istore_n C dX5_tick_29 rfl (Nat.le_of_ble_eq_true rfl) ?_
    refine qx_to (qx_up S (P := fun i => qx_X K F shM (qf (mBegin n) (mT1 σ S) i) 30 [some (.ref (fa F 0)), some (.int ((qf mCookS (σ, 0) S).2)), some (.int (nI i))] []) (fun i hi hki => ?_) ?_) rfl rfl
    · refine qx_iload_n C dX5_tick_30 rfl rfl ?_
      refine qx_aload_n C dX5_tick_31 rfl rfl ?_
      refine qx_getR C (j := 0) (k := 0) hiX5 rfl rfl (by decide) qw_582 rfl dX5_tick_32 ?_
      refine qx_iconst C (v := 1) dX5_tick_35 rfl ?_
      refine qx_ialdL C (j := 1) (a := 1) rfl rfl ⟨by decide, by decide⟩ dX5_tick_36 ?_
      refine qx_icmp_ge_f C (tgt := 51) dX5_tick_37 (by decide) (by rw [(mSame_W (mT2_same σ S n i) hw).2.1.1]; exact nI_ge hi (by omega)) ?_
      refine qx_aload_n C dX5_tick_40 rfl rfl ?_
      refine qx_iload_n C dX5_tick_41 rfl rfl ?_
      refine qx_callVv C (b := 0) (As := [_]) (n := 1) (c_X5_begins F (d + 0) _ i (by omega) P S n (mSame_W (mT2_same σ S n i) hw)) rfl rfl qw_737 qw_739 qw_26 qw_44 qw_740 ⟨rfl, by decide, by decide, by decide +kernel⟩ (qx_room (by omega) (by decide)) rfl rfl (Nat.le_of_ble_eq_true rfl) dX5_tick_42 ?_
      refine qx_iincN C dX5_tick_45 rfl ?_
      refine qx_goto C (tgt := 30) dX5_tick_48 (by decide) ?_
      exact (qx_to hki (qf_S (mBegin n) (mT1 σ S) i).symm rfl)
    · refine qx_iload_n C dX5_tick_30 rfl rfl ?_
      refine qx_aload_n C dX5_tick_31 rfl rfl ?_
      refine qx_getR C (j := 0) (k := 0) hiX5 rfl rfl (by decide) qw_582 rfl dX5_tick_32 ?_
      refine qx_iconst C (v := 1) dX5_tick_35 rfl ?_
      refine qx_ialdL C (j := 1) (a := 1) rfl rfl ⟨by decide, by decide⟩ dX5_tick_36 ?_
      refine qx_icmp_ge_t C (tgt := 51) dX5_tick_37 (by decide) (by rw [(mSame_W (mT2_same σ S n S) hw).2.1.1]; exact nI_le (Nat.le_refl _) (by omega)) ?_
      refine qx_iconst C (v := 0) dX5_tick_51 rfl ?_
      refine qx_istore_n C dX5_tick_52 rfl (Nat.le_of_ble_eq_true rfl) ?_
      refine qx_to (qx_up n (P := fun i => qx_X K F shM (qf mLose (mT2 σ S n) i) 53 [some (.ref (fa F 0)), some (.int ((qf mCookS (σ, 0) S).2)), some (.int (nI i))] []) (fun i hi hki => ?_) ?_) rfl rfl
      · refine qx_iload_n C dX5_tick_53 rfl rfl ?_
        refine qx_aload_n C dX5_tick_54 rfl rfl ?_
        refine qx_getR C (j := 0) (k := 0) hiX5 rfl rfl (by decide) qw_582 rfl dX5_tick_55 ?_
        refine qx_iconst C (v := 4) dX5_tick_58 rfl ?_
        refine qx_ialdL C (j := 1) (a := 4) rfl rfl ⟨by decide, by decide⟩ dX5_tick_59 ?_
        refine qx_icmp_ge_f C (tgt := 129) dX5_tick_60 (by decide) (by rw [(mSame_W (mT3_same σ S n i) hw).2.2.1.1]; exact nI_ge hi (by omega)) ?_
        refine qx_aload_n C dX5_tick_63 rfl rfl ?_
        refine qx_getR C (j := 0) (k := 5) hiX5 rfl rfl (by decide) qw_587 rfl dX5_tick_64 ?_
        refine qx_bipush C (v := 7) dX5_tick_67 rfl ?_
        refine qx_iload_n C dX5_tick_69 rfl rfl ?_
        refine qx_imulE C dX5_tick_70 (pk_mul 7 i) ?_
        refine qx_iconst C (v := 2) dX5_tick_71 rfl ?_
        refine qx_iaddE C dX5_tick_72 (nI_add (7 * i) 2) ?_
        refine qx_ialdN C (j := 6) rfl ⟨by omega, by decide⟩ dX5_tick_73 ?_
        refine qx_iconst C (v := 1) dX5_tick_74 rfl ?_
        refine qx_icmp_ne C (tgt := 123) dX5_tick_75 (by decide) (fun h75 => ?_) (fun h75 => ?_)
        · refine qx_iincN C dX5_tick_123 rfl ?_
          refine qx_goto C (tgt := 53) dX5_tick_126 (by decide) ?_
          exact (qx_to hki (by first | (rw [qf, mLose_a h75]; first | done | rfl) | (rw [qf, mLose_b h75 h114]; first | done | rfl) | (rw [qf, mLose_c h75 h114]; first | done | rfl)) rfl)
        · refine qx_aload_n C dX5_tick_78 rfl rfl ?_
          refine qx_getR C (j := 0) (k := 5) hiX5 rfl rfl (by decide) qw_587 rfl dX5_tick_79 ?_
          refine qx_bipush C (v := 7) dX5_tick_82 rfl ?_
          refine qx_iload_n C dX5_tick_84 rfl rfl ?_
          refine qx_imulE C dX5_tick_85 (pk_mul 7 i) ?_
          refine qx_iconst C (v := 1) dX5_tick_86 rfl ?_
          refine qx_iaddE C dX5_tick_87 (nI_add (7 * i) 1) ?_
          refine qx_dup2 C dX5_tick_88 rfl rfl ?_
          refine qx_ialdN C (j := 6) rfl ⟨by omega, by decide⟩ dX5_tick_89 ?_
          refine qx_iconst C (v := 1) dX5_tick_90 rfl ?_
          refine qx_isub C dX5_tick_91 ?_
          refine qx_iastN C (j := 6) rfl ⟨by omega, by decide⟩ dX5_tick_92 ?_
          refine qx_aload_n C dX5_tick_93 rfl rfl ?_
          refine qx_getR C (j := 0) (k := 5) hiX5 rfl rfl (by decide) qw_587 rfl dX5_tick_94 ?_
          refine qx_bipush C (v := 7) dX5_tick_97 rfl ?_
          refine qx_iload_n C dX5_tick_99 rfl rfl ?_
          refine qx_imulE C dX5_tick_100 (pk_mul 7 i) ?_
          refine qx_iconst C (v := 2) dX5_tick_101 rfl ?_
          refine qx_iaddE C dX5_tick_102 (nI_add (7 * i) 2) ?_
          refine qx_aload_n C dX5_tick_103 rfl rfl ?_
          refine qx_getR C (j := 0) (k := 5) hiX5 rfl rfl (by decide) qw_587 rfl dX5_tick_104 ?_
          refine qx_bipush C (v := 7) dX5_tick_107 rfl ?_
          refine qx_iload_n C dX5_tick_109 rfl rfl ?_
          refine qx_imulE C dX5_tick_110 (pk_mul 7 i) ?_
          refine qx_iconst C (v := 1) dX5_tick_111 rfl ?_
          refine qx_iaddE C dX5_tick_112 (nI_add (7 * i) 1) ?_
          refine qx_ialdN C (j := 6) rfl ⟨by omega, by decide⟩ dX5_tick_113 ?_
          refine qx_if_ne C (tgt := 121) dX5_tick_114 (by decide) (fun h114 => ?_) (fun h114 => ?_)
          · refine qx_iconst C (v := 1) dX5_tick_121 rfl ?_
            refine qx_iastN C (j := 6) rfl ⟨by omega, by decide⟩ dX5_tick_122 ?_
            refine qx_iincN C dX5_tick_123 rfl ?_
            refine qx_goto C (tgt := 53) dX5_tick_126 (by decide) ?_
            exact (qx_to hki (by first | (rw [qf, mLose_a h75]; first | done | rfl) | (rw [qf, mLose_b h75 h114]; first | done | rfl) | (rw [qf, mLose_c h75 h114]; first | done | rfl)) rfl)
          · refine qx_iconst C (v := 4) dX5_tick_117 rfl ?_
            refine qx_goto C (tgt := 122) dX5_tick_118 (by decide) ?_
            refine qx_iastN C (j := 6) rfl ⟨by omega, by decide⟩ dX5_tick_122 ?_
            refine qx_iincN C dX5_tick_123 rfl ?_
            refine qx_goto C (tgt := 53) dX5_tick_126 (by decide) ?_
            exact (qx_to hki (by first | (rw [qf, mLose_a h75]; first | done | rfl) | (rw [qf, mLose_b h75 h114]; first | done | rfl) | (rw [qf, mLose_c h75 h114]; first | done | rfl)) rfl)
      · refine qx_iload_n C dX5_tick_53 rfl rfl ?_
        refine qx_aload_n C dX5_tick_54 rfl rfl ?_
        refine qx_getR C (j := 0) (k := 0) hiX5 rfl rfl (by decide) qw_582 rfl dX5_tick_55 ?_
        refine qx_iconst C (v := 4) dX5_tick_58 rfl ?_
        refine qx_ialdL C (j := 1) (a := 4) rfl rfl ⟨by decide, by decide⟩ dX5_tick_59 ?_
        refine qx_icmp_ge_t C (tgt := 129) dX5_tick_60 (by decide) (by rw [(mSame_W (mT3_same σ S n n) hw).2.2.1.1]; exact nI_le (Nat.le_refl _) (by omega)) ?_
        refine qx_iconst C (v := 0) dX5_tick_129 rfl ?_
        refine qx_istore_n C dX5_tick_130 rfl (Nat.le_of_ble_eq_true rfl) ?_
        refine qx_to (qx_up n (P := fun i => qx_X K F shM (qf (mWalkS n S) (mT3 σ S n) i) 131 [some (.ref (fa F 0)), some (.int ((qf mCookS (σ, 0) S).2)), some (.int (nI i))] []) (fun i hi hki => ?_) ?_) rfl rfl
        · refine qx_iload_n C dX5_tick_131 rfl rfl ?_
          refine qx_aload_n C dX5_tick_132 rfl rfl ?_
          refine qx_getR C (j := 0) (k := 0) hiX5 rfl rfl (by decide) qw_582 rfl dX5_tick_133 ?_
          refine qx_iconst C (v := 4) dX5_tick_136 rfl ?_
          refine qx_ialdL C (j := 1) (a := 4) rfl rfl ⟨by decide, by decide⟩ dX5_tick_137 ?_
          refine qx_icmp_ge_f C (tgt := 166) dX5_tick_138 (by decide) (by rw [(mSame_W (mT4_same σ S n i) hw).2.2.1.1]; exact nI_ge hi (by omega)) ?_
          refine qx_aload_n C dX5_tick_141 rfl rfl ?_
          refine qx_getR C (j := 0) (k := 5) hiX5 rfl rfl (by decide) qw_587 rfl dX5_tick_142 ?_
          refine qx_bipush C (v := 7) dX5_tick_145 rfl ?_
          refine qx_iload_n C dX5_tick_147 rfl rfl ?_
          refine qx_imulE C dX5_tick_148 (pk_mul 7 i) ?_
          refine qx_iconst C (v := 2) dX5_tick_149 rfl ?_
          refine qx_iaddE C dX5_tick_150 (nI_add (7 * i) 2) ?_
          refine qx_ialdN C (j := 6) rfl ⟨by omega, by decide⟩ dX5_tick_151 ?_
          refine qx_if_ne C (tgt := 160) dX5_tick_152 (by decide) (fun h152 => ?_) (fun h152 => ?_)
          · refine qx_iincN C dX5_tick_160 rfl ?_
            refine qx_goto C (tgt := 131) dX5_tick_163 (by decide) ?_
            exact (qx_to hki (by first | (rw [qf, mWalkS_a h152]; first | done | rfl) | (rw [qf, mWalkS_b h152]; first | done | rfl)) rfl)
          · refine qx_aload_n C dX5_tick_155 rfl rfl ?_
            refine qx_iload_n C dX5_tick_156 rfl rfl ?_
            refine qx_callVv C (b := 0) (As := [_]) (n := 1) (c_X5_walks F (d + 0) _ i (by omega) P S n (mSame_W (mT4_same σ S n i) hw)) rfl rfl qw_745 qw_747 qw_28 qw_44 qw_748 ⟨rfl, by decide, by decide, by decide +kernel⟩ (qx_room (by omega) (by decide)) rfl rfl (Nat.le_of_ble_eq_true rfl) dX5_tick_157 ?_
            refine qx_iincN C dX5_tick_160 rfl ?_
            refine qx_goto C (tgt := 131) dX5_tick_163 (by decide) ?_
            exact (qx_to hki (by first | (rw [qf, mWalkS_a h152]; first | done | rfl) | (rw [qf, mWalkS_b h152]; first | done | rfl)) rfl)
        · refine qx_iload_n C dX5_tick_131 rfl rfl ?_
          refine qx_aload_n C dX5_tick_132 rfl rfl ?_
          refine qx_getR C (j := 0) (k := 0) hiX5 rfl rfl (by decide) qw_582 rfl dX5_tick_133 ?_
          refine qx_iconst C (v := 4) dX5_tick_136 rfl ?_
          refine qx_ialdL C (j := 1) (a := 4) rfl rfl ⟨by decide, by decide⟩ dX5_tick_137 ?_
          refine qx_icmp_ge_t C (tgt := 166) dX5_tick_138 (by decide) (by rw [(mSame_W (mT4_same σ S n n) hw).2.2.1.1]; exact nI_le (Nat.le_refl _) (by omega)) ?_
          refine qx_aload_n C dX5_tick_166 rfl rfl ?_
          refine qx_getR C (j := 0) (k := 0) hiX5 rfl rfl (by decide) qw_582 rfl dX5_tick_167 ?_
          refine qx_iconst C (v := 3) dX5_tick_170 rfl ?_
          refine qx_dup2 C dX5_tick_171 rfl rfl ?_
          refine qx_ialdL C (j := 1) (a := 3) rfl rfl ⟨by decide, by decide⟩ dX5_tick_172 ?_
          refine qx_iconst C (v := 1) dX5_tick_173 rfl ?_
          refine qx_iadd C dX5_tick_174 ?_
          refine qx_iastL C (j := 1) (a := 3) rfl rfl ⟨by decide, by decide⟩ dX5_tick_175 ?_
          refine qx_iload_n C dX5_tick_176 rfl rfl ?_
          exact qx_iret C dX5_tick_177 rfl rfl rfl
def mGoS (S n : Nat) (_ : Nat) (a : qx_S × Int32) : qx_S × Int32 := (mTick a.1 S n, a.2 + (qf mCookS (a.1, 0) S).2)
theorem mGoS_W {σ : qx_S} {P S n : Nat} (h : mW σ P S n) (x : Int32) : ∀ i, mW (qf (mGoS S n) (σ, x) i).1 P S n
  | 0 => h
  | i + 1 => mSame_W (mTick_same _ S n) (mGoS_W h x i)
def mGo (σ : qx_S) (k : Int32) (S n : Nat) : Int32 × qx_S := if mOpen σ then (if 1 ≤ k ∧ k ≤ 50 then ((qf (mGoS S n) (σ, 0) (ix k)).2, (qf (mGoS S n) (σ, 0) (ix k)).1) else (-1, σ)) else (-3, σ)
set_option maxRecDepth 20000 in
set_option maxHeartbeats 4000000 in
theorem c_X5_go (F : qx_F) (d : Nat) (σ : qx_S) (k : Int32) (P S n : Nat) (hw : mW σ P S n) (hc : ∀ i, i < ix k → mPre (qf (mGoS S n) (σ, 0) i).1 S) : qx_cI F shM ⟨"NightStallsModel", "go", "(I)I"⟩ (.code ⟨"NightStallsModel", "go", "(I)I"⟩ prog_7_method_35_code 4 ((some FieldType.int)) :: qx_W) (qx_R (d + 5)) [.ref (fa F 0), .int k] σ ((mGo σ k S n).1) ((mGo σ k S n).2) := by
  refine qx_met (by decide) (Nat.le_of_ble_eq_true rfl) (by intro v hv; simp only [List.mem_cons, List.not_mem_nil, or_false] at hv; rcases hv with rfl | rfl <;> rfl) (fun K C => ?_)
  refine qx_aload_n C dX5_go_0 rfl rfl ?_
  refine qx_callVI C (b := 0) (As := []) (n := 0) (c_X5_isOpen F (d + 3) _ ) rfl rfl qw_626 qw_628 qw_14 qw_44 qw_629 ⟨rfl, by decide, by decide, by decide +kernel⟩ (qx_room (by omega) (by decide)) rfl rfl (Nat.le_of_ble_eq_true rfl) dX5_go_1 ?_
  refine qx_split _ (fun h1 => ?_) (fun h1 => ?_)
  · refine qx_if_ne_t C (tgt := 10) dX5_go_4 (by decide) (by decide) ?_
    refine qx_iload_n C dX5_go_10 rfl rfl ?_
    refine qx_iconst C (v := 1) dX5_go_11 rfl ?_
    refine qx_bipush C (v := 50) dX5_go_12 rfl ?_
    refine qx_callSI C (As := [_, _, _]) (n := 3) (c_X5_in F (d + 3) _ _ _ _) qw_630 qw_631 qw_44 qw_632 ⟨rfl, by decide, by decide, by decide +kernel⟩ (qx_room (by omega) (by decide)) rfl rfl (Nat.le_of_ble_eq_true rfl) dX5_go_14 ?_
    refine qx_split _ (fun h14 => ?_) (fun h14 => ?_)
    · obtain ⟨k0, hk0, rfl⟩ := qx_in1 50 (by decide) h14
      have ik0 : (nI k0).toNatClampNeg = k0 := nI_clamp (by omega)
      refine qx_if_ne_t C (tgt := 22) dX5_go_17 (by decide) (by decide) ?_
      refine qx_iconst C (v := 0) dX5_go_22 rfl ?_
      refine qx_istore_n C dX5_go_23 rfl (Nat.le_of_ble_eq_true rfl) ?_
      refine qx_iconst C (v := 0) dX5_go_24 rfl ?_
      refine qx_istore_n C dX5_go_25 rfl (Nat.le_of_ble_eq_true rfl) ?_
      refine qx_to (qx_up k0 (P := fun i => qx_X K F shM ((qf (mGoS S n) (σ, 0) i).1) 26 [some (.ref (fa F 0)), some (.int (nI k0)), some (.int ((qf (mGoS S n) (σ, 0) i).2)), some (.int (nI i))] []) (fun i hi hki => ?_) ?_) rfl rfl
      · refine qx_iload_n C dX5_go_26 rfl rfl ?_
        refine qx_iload_n C dX5_go_27 rfl rfl ?_
        refine qx_icmp_ge_f C (tgt := 44) dX5_go_28 (by decide) (nI_ge hi (by omega)) ?_
        refine qx_iload_n C dX5_go_31 rfl rfl ?_
        refine qx_aload_n C dX5_go_32 rfl rfl ?_
        refine qx_callVI C (b := 0) (As := []) (n := 0) (c_X5_tick F (d + 0) _ P S n (mGoS_W hw 0 i) (hc i (show i < (nI k0).toNatClampNeg by rw [ik0]; exact hi))) rfl rfl qw_725 qw_727 qw_23 qw_44 qw_728 ⟨rfl, by decide, by decide, by decide +kernel⟩ (qx_room (by omega) (by decide)) rfl rfl (Nat.le_of_ble_eq_true rfl) dX5_go_33 ?_
        refine qx_iadd C dX5_go_36 ?_
        refine qx_istore_n C dX5_go_37 rfl (Nat.le_of_ble_eq_true rfl) ?_
        refine qx_iincN C dX5_go_38 rfl ?_
        refine qx_goto C (tgt := 26) dX5_go_41 (by decide) ?_
        exact (qx_to hki rfl rfl)
      · refine qx_iload_n C dX5_go_26 rfl rfl ?_
        refine qx_iload_n C dX5_go_27 rfl rfl ?_
        refine qx_icmp_ge_t C (tgt := 44) dX5_go_28 (by decide) (nI_le (Nat.le_refl _) (by omega)) ?_
        refine qx_iload_n C dX5_go_44 rfl rfl ?_
        exact qx_iret C dX5_go_45 rfl (by first | rfl | simp [mOpen, mGo, h1, h14, ik0]) (by first | rfl | simp [mOpen, mGo, h1, h14, ik0])
    · refine qx_if_ne_f C (tgt := 22) dX5_go_17 (by decide) (by decide) ?_
      refine qx_iconst C (v := (-1)) dX5_go_20 rfl ?_
      exact qx_iret C dX5_go_21 rfl (by first | rfl | simp [mOpen, mGo, h1, h14]) (by first | rfl | simp [mOpen, mGo, h1, h14])
  · refine qx_if_ne_f C (tgt := 10) dX5_go_4 (by decide) (by decide) ?_
    refine qx_bipush C (v := (-3)) dX5_go_7 rfl ?_
    exact qx_iret C dX5_go_9 rfl (by first | rfl | simp [mOpen, mGo, h1]) (by first | rfl | simp [mOpen, mGo, h1])
