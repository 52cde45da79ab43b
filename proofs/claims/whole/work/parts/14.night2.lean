set_option maxRecDepth 20000 in
set_option maxHeartbeats 4000000 in
theorem c_X1_works (F : qx_F) (d : Nat) (σ : qx_S) (s : Nat) (hs : s < 5) (n : Nat) (hw : wN σ n) : qx_cI F shC ⟨"NightStalls$Night", "works", "(I)Z"⟩ (.code ⟨"NightStalls$Night", "works", "(I)Z"⟩ prog_3_method_12_code 2 ((some FieldType.boolean)) :: qx_W) (qx_R (d + 3)) [.ref (fa F 7), .int (nI s)] σ (if nWorks σ s then 1 else 0) (σ) := by
  refine qx_met (by decide) (Nat.le_of_ble_eq_true rfl) (by intro v hv; simp only [List.mem_cons, List.not_mem_nil, or_false] at hv; rcases hv with rfl | rfl <;> rfl) (fun K C => ?_)
  rcases hw.1 s (by omega) with e8 | ⟨p, hp, ep⟩
  · refine qx_aload_n C dX1_works_0 rfl rfl ?_
    refine qx_getR C (j := 7) (k := 4) hiX1 rfl rfl (by decide) qw_135 rfl dX1_works_1 ?_
    refine qx_iload_n C dX1_works_4 rfl rfl ?_
    refine qx_ialdN C (j := 8) rfl ⟨by omega, by decide⟩ dX1_works_5 ?_
    refine qx_top e8 ?_
    refine qx_bipush C (v := (-4)) dX1_works_6 rfl ?_
    refine qx_icmp_eq_t C (tgt := 36) dX1_works_8 (by decide) (by decide) ?_
    refine qx_iconst C (v := 0) dX1_works_36 rfl ?_
    exact qx_iret C dX1_works_37 rfl (by first | rfl | simp [nWorks, nLine, ix, e8]) rfl
  · have ip : (nI p).toNatClampNeg = p := nI_clamp (by omega)
    have n4 : ¬ nI p = -4 := qx_n4 (by omega)
    obtain ⟨k, hk, ek⟩ := hw.2.1 p hp
    have ik : (nI k).toNatClampNeg = k := nI_clamp (by omega)
    refine qx_aload_n C dX1_works_0 rfl rfl ?_
    refine qx_getR C (j := 7) (k := 4) hiX1 rfl rfl (by decide) qw_135 rfl dX1_works_1 ?_
    refine qx_iload_n C dX1_works_4 rfl rfl ?_
    refine qx_ialdN C (j := 8) rfl ⟨by omega, by decide⟩ dX1_works_5 ?_
    refine qx_top ep ?_
    refine qx_bipush C (v := (-4)) dX1_works_6 rfl ?_
    refine qx_icmp_eq_f C (tgt := 36) dX1_works_8 (by decide) (qx_n4 (by omega)) ?_
    refine qx_aload_n C dX1_works_11 rfl rfl ?_
    refine qx_getR C (j := 7) (k := 9) hiX1 rfl rfl (by decide) qw_141 rfl dX1_works_12 ?_
    refine qx_aload_n C dX1_works_15 rfl rfl ?_
    refine qx_getR C (j := 7) (k := 0) hiX1 rfl rfl (by decide) qw_128 rfl dX1_works_16 ?_
    refine qx_aload_n C dX1_works_19 rfl rfl ?_
    refine qx_getR C (j := 7) (k := 4) hiX1 rfl rfl (by decide) qw_135 rfl dX1_works_20 ?_
    refine qx_iload_n C dX1_works_23 rfl rfl ?_
    refine qx_ialdN C (j := 8) rfl ⟨by omega, by decide⟩ dX1_works_24 ?_
    refine qx_top ep ?_
    refine qx_callVI C (b := 1) (As := [_]) (n := 1) (c_X3_lineAt F (d + 0) _ p (by omega)) rfl rfl qw_433 qw_364 qw_365 qw_40 qw_366 ⟨rfl, by decide, by decide, by decide +kernel⟩ (qx_room (by omega) (by decide)) rfl rfl (Nat.le_of_ble_eq_true rfl) dX1_works_25 ?_
    refine qx_top ek ?_
    refine qx_ialdN C (j := 13) rfl ⟨by omega, by decide⟩ dX1_works_28 ?_
    refine qx_if_ne C (tgt := 36) dX1_works_29 (by decide) (fun h29 => ?_) (fun h29 => ?_)
    · refine qx_iconst C (v := 0) dX1_works_36 rfl ?_
      exact qx_iret C dX1_works_37 rfl (by first | rfl | simp [nWorks, nLine, ix, ep, ip, n4, ek, ik, h29]) rfl
    · refine qx_iconst C (v := 1) dX1_works_32 rfl ?_
      refine qx_goto C (tgt := 37) dX1_works_33 (by decide) ?_
      exact qx_iret C dX1_works_37 rfl (by first | rfl | simp [nWorks, nLine, ix, ep, ip, n4, ek, ik, h29]) rfl
set_option maxRecDepth 20000 in
set_option maxHeartbeats 4000000 in
theorem c_X1_sell (F : qx_F) (d : Nat) (σ : qx_S) (s : Nat) (hs : s < 5) (n : Nat) (hw : wN σ n) : qx_cV F shC ⟨"NightStalls$Night", "sell", "(I)V"⟩ (.code ⟨"NightStalls$Night", "sell", "(I)V"⟩ prog_3_method_14_code 2 ((none : Option FieldType)) :: qx_W) (qx_R (d + 2)) [.ref (fa F 7), .int (nI s)] σ (nSell σ s n) := by
  refine qx_met (by decide) (Nat.le_of_ble_eq_true rfl) (by intro v hv; simp only [List.mem_cons, List.not_mem_nil, or_false] at hv; rcases hv with rfl | rfl <;> rfl) (fun K C => ?_)
  have hn := hw.2.2.1
  have hn20 := hw.2.2.2
  refine qx_aload_n C dX1_sell_0 rfl rfl ?_
  refine qx_getR C (j := 7) (k := 1) hiX1 rfl rfl (by decide) qw_129 rfl dX1_sell_1 ?_
  refine qx_aload_n C dX1_sell_4 rfl rfl ?_
  refine qx_getR C (j := 7) (k := 1) hiX1 rfl rfl (by decide) qw_129 rfl dX1_sell_5 ?_
  refine qx_iload_n C dX1_sell_8 rfl rfl ?_
  refine qx_iconst C (v := 2) dX1_sell_9 rfl ?_
  refine qx_callVI C (b := 14) (As := [_, _]) (n := 2) (c_X0_firstAt F (d + 0) _ _ _ n hn hn20) rfl rfl qw_438 qw_439 qw_440 qw_42 qw_441 ⟨rfl, by decide, by decide, by decide +kernel⟩ (qx_room (by omega) (by decide)) rfl rfl (Nat.le_of_ble_eq_true rfl) dX1_sell_10 ?_
  rcases ho : gFirst σ (nI s) 2 n with _ | g
  · refine qx_top (z := -4) rfl ?_
    refine qx_aload_n C dX1_sell_13 rfl rfl ?_
    refine qx_getI C (j := 7) (k := 3) hiX1 rfl rfl (by decide) qw_133 rfl dX1_sell_14 ?_
    refine qx_callVv C (b := 14) (As := [_, _]) (n := 2) (c_X0_feed0 F (d + 0) _ _) rfl rfl qw_442 qw_443 qw_444 qw_42 qw_445 ⟨rfl, by decide, by decide, by decide +kernel⟩ (qx_room (by omega) (by decide)) rfl rfl (Nat.le_of_ble_eq_true rfl) dX1_sell_17 ?_
    refine qx_aload_n C dX1_sell_20 rfl rfl ?_
    refine qx_getR C (j := 7) (k := 5) hiX1 rfl rfl (by decide) qw_136 rfl dX1_sell_21 ?_
    refine qx_iload_n C dX1_sell_24 rfl rfl ?_
    refine qx_dup2 C dX1_sell_25 rfl rfl ?_
    refine qx_ialdN C (j := 9) rfl ⟨by omega, by decide⟩ dX1_sell_26 ?_
    refine qx_iconst C (v := 1) dX1_sell_27 rfl ?_
    refine qx_iadd C dX1_sell_28 ?_
    refine qx_iastN C (j := 9) rfl ⟨by omega, by decide⟩ dX1_sell_29 ?_
    refine qx_aload_n C dX1_sell_30 rfl rfl ?_
    refine qx_getR C (j := 7) (k := 6) hiX1 rfl rfl (by decide) qw_137 rfl dX1_sell_31 ?_
    refine qx_iload_n C dX1_sell_34 rfl rfl ?_
    refine qx_dup2 C dX1_sell_35 rfl rfl ?_
    refine qx_ialdN C (j := 10) rfl ⟨by omega, by decide⟩ dX1_sell_36 ?_
    refine qx_aload_n C dX1_sell_37 rfl rfl ?_
    refine qx_getR C (j := 7) (k := 0) hiX1 rfl rfl (by decide) qw_128 rfl dX1_sell_38 ?_
    refine qx_iload_n C dX1_sell_41 rfl rfl ?_
    refine qx_iconst C (v := 4) dX1_sell_42 rfl ?_
    refine qx_callVI C (b := 1) (As := [_, _]) (n := 2) (c_X3_trait F (d + 0) _ s 4 (by omega) (by omega)) rfl rfl qw_446 qw_295 qw_296 qw_40 qw_297 ⟨rfl, by decide, by decide, by decide +kernel⟩ (qx_room (by omega) (by decide)) rfl rfl (Nat.le_of_ble_eq_true rfl) dX1_sell_43 ?_
    refine qx_iadd C dX1_sell_46 ?_
    refine qx_iastN C (j := 10) rfl ⟨by omega, by decide⟩ dX1_sell_47 ?_
    exact qx_vret C dX1_sell_48 (by unfold nSell; rw [ho]; rfl)
  · refine qx_top (z := nI g) rfl ?_
    have hg0 := (qfind_is ho).1
    refine qx_aload_n C dX1_sell_13 rfl rfl ?_
    refine qx_getI C (j := 7) (k := 3) hiX1 rfl rfl (by decide) qw_133 rfl dX1_sell_14 ?_
    refine qx_callVv C (b := 14) (As := [_, _]) (n := 2) (c_X0_feed1 F (d + 0) _ g _ (by omega)) rfl rfl qw_442 qw_443 qw_444 qw_42 qw_445 ⟨rfl, by decide, by decide, by decide +kernel⟩ (qx_room (by omega) (by decide)) rfl rfl (Nat.le_of_ble_eq_true rfl) dX1_sell_17 ?_
    refine qx_aload_n C dX1_sell_20 rfl rfl ?_
    refine qx_getR C (j := 7) (k := 5) hiX1 rfl rfl (by decide) qw_136 rfl dX1_sell_21 ?_
    refine qx_iload_n C dX1_sell_24 rfl rfl ?_
    refine qx_dup2 C dX1_sell_25 rfl rfl ?_
    refine qx_ialdN C (j := 9) rfl ⟨by omega, by decide⟩ dX1_sell_26 ?_
    refine qx_iconst C (v := 1) dX1_sell_27 rfl ?_
    refine qx_iadd C dX1_sell_28 ?_
    refine qx_iastN C (j := 9) rfl ⟨by omega, by decide⟩ dX1_sell_29 ?_
    refine qx_aload_n C dX1_sell_30 rfl rfl ?_
    refine qx_getR C (j := 7) (k := 6) hiX1 rfl rfl (by decide) qw_137 rfl dX1_sell_31 ?_
    refine qx_iload_n C dX1_sell_34 rfl rfl ?_
    refine qx_dup2 C dX1_sell_35 rfl rfl ?_
    refine qx_ialdN C (j := 10) rfl ⟨by omega, by decide⟩ dX1_sell_36 ?_
    refine qx_aload_n C dX1_sell_37 rfl rfl ?_
    refine qx_getR C (j := 7) (k := 0) hiX1 rfl rfl (by decide) qw_128 rfl dX1_sell_38 ?_
    refine qx_iload_n C dX1_sell_41 rfl rfl ?_
    refine qx_iconst C (v := 4) dX1_sell_42 rfl ?_
    refine qx_callVI C (b := 1) (As := [_, _]) (n := 2) (c_X3_trait F (d + 0) _ s 4 (by omega) (by omega)) rfl rfl qw_446 qw_295 qw_296 qw_40 qw_297 ⟨rfl, by decide, by decide, by decide +kernel⟩ (qx_room (by omega) (by decide)) rfl rfl (Nat.le_of_ble_eq_true rfl) dX1_sell_43 ?_
    refine qx_iadd C dX1_sell_46 ?_
    refine qx_iastN C (j := 10) rfl ⟨by omega, by decide⟩ dX1_sell_47 ?_
    exact qx_vret C dX1_sell_48 (by unfold nSell; rw [ho]; rfl)
set_option maxRecDepth 20000 in
set_option maxHeartbeats 4000000 in
theorem c_X1_cookOn (F : qx_F) (d : Nat) (σ : qx_S) (n : Nat) (hw : wN σ n) : qx_cI F shC ⟨"NightStalls$Night", "cookOn", "()I"⟩ (.code ⟨"NightStalls$Night", "cookOn", "()I"⟩ prog_3_method_13_code 3 ((some FieldType.int)) :: qx_W) (qx_R (d + 4)) [.ref (fa F 7)] σ ((qf (nCook n) (σ, 0) 5).2) ((qf (nCook n) (σ, 0) 5).1) := by
  refine qx_met (by decide) (Nat.le_of_ble_eq_true rfl) (by intro v hv; simp only [List.mem_cons, List.not_mem_nil, or_false] at hv; rcases hv with rfl <;> rfl) (fun K C => ?_)
  refine qx_iconst C (v := 0) dX1_cookOn_0 rfl ?_
  refine qx_istore_n C dX1_cookOn_1 rfl (Nat.le_of_ble_eq_true rfl) ?_
  refine qx_iconst C (v := 0) dX1_cookOn_2 rfl ?_
  refine qx_istore_n C dX1_cookOn_3 rfl (Nat.le_of_ble_eq_true rfl) ?_
  refine qx_to (qx_up 5 (P := fun i => qx_X K F shC ((qf (nCook n) (σ, 0) i).1) 4 [some (.ref (fa F 7)), some (.int ((qf (nCook n) (σ, 0) i).2)), some (.int (nI i))] []) (fun i hi hki => ?_) ?_) rfl rfl
  · have hwi := nCook_wN hw 0 i
    refine qx_iload_n C dX1_cookOn_4 rfl rfl ?_
    refine qx_iconst C (v := 5) dX1_cookOn_5 rfl ?_
    refine qx_icmp_ge_f C (tgt := 59) dX1_cookOn_6 (by decide) (nI_ge (b := 5) hi (by decide)) ?_
    refine qx_aload_n C dX1_cookOn_9 rfl rfl ?_
    refine qx_getR C (j := 7) (k := 7) hiX1 rfl rfl (by decide) qw_138 rfl dX1_cookOn_10 ?_
    refine qx_iload_n C dX1_cookOn_13 rfl rfl ?_
    refine qx_ialdN C (j := 11) rfl ⟨by omega, by decide⟩ dX1_cookOn_14 ?_
    refine qx_if_le C (tgt := 53) dX1_cookOn_15 (by decide) (fun h15 => ?_) (fun h15 => ?_)
    · refine qx_iincN C dX1_cookOn_53 rfl ?_
      refine qx_goto C (tgt := 4) dX1_cookOn_56 (by decide) ?_
      exact (qx_to hki (by first | rfl | (rw [qf, nCook_a h15]; first | done | rfl) | (rw [qf, nCook_b h15 h20]; first | done | rfl) | (rw [qf, nCook_c h15 h20 h42]; first | done | rfl) | (rw [qf, nCook_d h15 h20 h42]; first | done | rfl)) (by first | rfl | (rw [qf, nCook_a h15]; first | done | rfl) | (rw [qf, nCook_b h15 h20]; first | done | rfl) | (rw [qf, nCook_c h15 h20 h42]; first | done | rfl) | (rw [qf, nCook_d h15 h20 h42]; first | done | rfl)))
    · refine qx_aload_n C dX1_cookOn_18 rfl rfl ?_
      refine qx_iload_n C dX1_cookOn_19 rfl rfl ?_
      refine qx_callVI C (b := 7) (As := [_]) (n := 1) (c_X1_works F (d + 0) _ i (by omega) n hwi) rfl rfl qw_429 qw_431 qw_9 qw_41 qw_432 ⟨rfl, by decide, by decide, by decide +kernel⟩ (qx_room (by omega) (by decide)) rfl rfl (Nat.le_of_ble_eq_true rfl) dX1_cookOn_20 ?_
      refine qx_split _ (fun h20 => ?_) (fun h20 => ?_)
      · refine qx_if_eq_f C (tgt := 53) dX1_cookOn_23 (by decide) (by decide) ?_
        refine qx_aload_n C dX1_cookOn_26 rfl rfl ?_
        refine qx_getR C (j := 7) (k := 7) hiX1 rfl rfl (by decide) qw_138 rfl dX1_cookOn_27 ?_
        refine qx_iload_n C dX1_cookOn_30 rfl rfl ?_
        refine qx_dup2 C dX1_cookOn_31 rfl rfl ?_
        refine qx_ialdN C (j := 11) rfl ⟨by omega, by decide⟩ dX1_cookOn_32 ?_
        refine qx_iconst C (v := 1) dX1_cookOn_33 rfl ?_
        refine qx_isub C dX1_cookOn_34 ?_
        refine qx_iastN C (j := 11) rfl ⟨by omega, by decide⟩ dX1_cookOn_35 ?_
        refine qx_aload_n C dX1_cookOn_36 rfl rfl ?_
        refine qx_getR C (j := 7) (k := 7) hiX1 rfl rfl (by decide) qw_138 rfl dX1_cookOn_37 ?_
        refine qx_iload_n C dX1_cookOn_40 rfl rfl ?_
        refine qx_ialdN C (j := 11) rfl ⟨by omega, by decide⟩ dX1_cookOn_41 ?_
        refine qx_if_ne C (tgt := 53) dX1_cookOn_42 (by decide) (fun h42 => ?_) (fun h42 => ?_)
        · refine qx_iincN C dX1_cookOn_53 rfl ?_
          refine qx_goto C (tgt := 4) dX1_cookOn_56 (by decide) ?_
          exact (qx_to hki (by first | rfl | (rw [qf, nCook_a h15]; first | done | rfl) | (rw [qf, nCook_b h15 h20]; first | done | rfl) | (rw [qf, nCook_c h15 h20 h42]; first | done | rfl) | (rw [qf, nCook_d h15 h20 h42]; first | done | rfl)) (by first | rfl | (rw [qf, nCook_a h15]; first | done | rfl) | (rw [qf, nCook_b h15 h20]; first | done | rfl) | (rw [qf, nCook_c h15 h20 h42]; first | done | rfl) | (rw [qf, nCook_d h15 h20 h42]; first | done | rfl)))
        · refine qx_aload_n C dX1_cookOn_45 rfl rfl ?_
          refine qx_iload_n C dX1_cookOn_46 rfl rfl ?_
          refine qx_callVv C (b := 7) (As := [_]) (n := 1) (c_X1_sell F (d + 1) _ i (by omega) n (qs_wN hwi i _ (by decide) (by decide) (by decide))) rfl rfl qw_434 qw_436 qw_10 qw_41 qw_437 ⟨rfl, by decide, by decide, by decide +kernel⟩ (qx_room (by omega) (by decide)) rfl rfl (Nat.le_of_ble_eq_true rfl) dX1_cookOn_47 ?_
          refine qx_iinc C (v := _ + 1) dX1_cookOn_50 rfl rfl ?_
          refine qx_iincN C dX1_cookOn_53 rfl ?_
          refine qx_goto C (tgt := 4) dX1_cookOn_56 (by decide) ?_
          exact (qx_to hki (by first | rfl | (rw [qf, nCook_a h15]; first | done | rfl) | (rw [qf, nCook_b h15 h20]; first | done | rfl) | (rw [qf, nCook_c h15 h20 h42]; first | done | rfl) | (rw [qf, nCook_d h15 h20 h42]; first | done | rfl)) (by first | rfl | (rw [qf, nCook_a h15]; first | done | rfl) | (rw [qf, nCook_b h15 h20]; first | done | rfl) | (rw [qf, nCook_c h15 h20 h42]; first | done | rfl) | (rw [qf, nCook_d h15 h20 h42]; first | done | rfl)))
      · refine qx_if_eq_t C (tgt := 53) dX1_cookOn_23 (by decide) (by decide) ?_
        refine qx_iincN C dX1_cookOn_53 rfl ?_
        refine qx_goto C (tgt := 4) dX1_cookOn_56 (by decide) ?_
        exact (qx_to hki (by first | rfl | (rw [qf, nCook_a h15]; first | done | rfl) | (rw [qf, nCook_b h15 h20]; first | done | rfl) | (rw [qf, nCook_c h15 h20 h42]; first | done | rfl) | (rw [qf, nCook_d h15 h20 h42]; first | done | rfl)) (by first | rfl | (rw [qf, nCook_a h15]; first | done | rfl) | (rw [qf, nCook_b h15 h20]; first | done | rfl) | (rw [qf, nCook_c h15 h20 h42]; first | done | rfl) | (rw [qf, nCook_d h15 h20 h42]; first | done | rfl)))
  · refine qx_iload_n C dX1_cookOn_4 rfl rfl ?_
    refine qx_iconst C (v := 5) dX1_cookOn_5 rfl ?_
    refine qx_icmp_ge_t C (tgt := 59) dX1_cookOn_6 (by decide) (nI_le (a := 5) (b := 5) (Nat.le_refl _) (by decide)) ?_
    refine qx_iload_n C dX1_cookOn_59 rfl rfl ?_
    exact qx_iret C dX1_cookOn_60 rfl rfl rfl
set_option maxRecDepth 20000 in
set_option maxHeartbeats 4000000 in
theorem c_X1_startCooking (F : qx_F) (d : Nat) (σ : qx_S) (n : Nat) (hw : wN σ n) : qx_cV F shC ⟨"NightStalls$Night", "startCooking", "()V"⟩ (.code ⟨"NightStalls$Night", "startCooking", "()V"⟩ prog_3_method_15_code 3 ((none : Option FieldType)) :: qx_W) (qx_R (d + 4)) [.ref (fa F 7)] σ (qf (nStart n) σ 5) := by
  refine qx_met (by decide) (Nat.le_of_ble_eq_true rfl) (by intro v hv; simp only [List.mem_cons, List.not_mem_nil, or_false] at hv; rcases hv with rfl <;> rfl) (fun K C => ?_)
  refine qx_iconst C (v := 0) dX1_startCooking_0 rfl ?_
  refine qx_istore_n C dX1_startCooking_1 rfl (Nat.le_of_ble_eq_true rfl) ?_
  refine qx_to (qx_up 5 (P := fun i => qx_X K F shC (qf (nStart n) σ i) 2 [some (.ref (fa F 7)), some (.int (nI i)), none] []) (fun i hi hki => ?_) ?_) rfl rfl
  · have hwi := nStart_wN hw i
    have hn := hwi.2.2.1
    have hn20 := hwi.2.2.2
    refine qx_iload_n C dX1_startCooking_2 rfl rfl ?_
    refine qx_iconst C (v := 5) dX1_startCooking_3 rfl ?_
    refine qx_icmp_ge_f C (tgt := 71) dX1_startCooking_4 (by decide) (nI_ge (b := 5) hi (by decide)) ?_
    refine qx_aload_n C dX1_startCooking_7 rfl rfl ?_
    refine qx_getR C (j := 7) (k := 7) hiX1 rfl rfl (by decide) qw_138 rfl dX1_startCooking_8 ?_
    refine qx_iload_n C dX1_startCooking_11 rfl rfl ?_
    refine qx_ialdN C (j := 11) rfl ⟨by omega, by decide⟩ dX1_startCooking_12 ?_
    refine qx_if_ne C (tgt := 65) dX1_startCooking_13 (by decide) (fun h13 => ?_) (fun h13 => ?_)
    · refine qx_iincN C dX1_startCooking_65 rfl ?_
      refine qx_goto C (tgt := 2) dX1_startCooking_68 (by decide) ?_
      exact (qx_to hki (by first | rfl | (rw [qf, nStart_a h13]; first | done | rfl) | (rw [qf, nStart_b h13 h18]; first | done | rfl) | (rw [qf, nStart_c h13 h18 ho]; first | done | rfl) | (rw [qf, nStart_d h13 h18 ho]; first | done | rfl)) (by first | rfl | (rw [qf, nStart_a h13]; first | done | rfl) | (rw [qf, nStart_b h13 h18]; first | done | rfl) | (rw [qf, nStart_c h13 h18 ho]; first | done | rfl) | (rw [qf, nStart_d h13 h18 ho]; first | done | rfl)))
    · refine qx_aload_n C dX1_startCooking_16 rfl rfl ?_
      refine qx_iload_n C dX1_startCooking_17 rfl rfl ?_
      refine qx_callVI C (b := 7) (As := [_]) (n := 1) (c_X1_works F (d + 0) _ i (by omega) n hwi) rfl rfl qw_429 qw_431 qw_9 qw_41 qw_432 ⟨rfl, by decide, by decide, by decide +kernel⟩ (qx_room (by omega) (by decide)) rfl rfl (Nat.le_of_ble_eq_true rfl) dX1_startCooking_18 ?_
      refine qx_split _ (fun h18 => ?_) (fun h18 => ?_)
      · refine qx_if_eq_f C (tgt := 65) dX1_startCooking_21 (by decide) (by decide) ?_
        refine qx_aload_n C dX1_startCooking_24 rfl rfl ?_
        refine qx_getR C (j := 7) (k := 1) hiX1 rfl rfl (by decide) qw_129 rfl dX1_startCooking_25 ?_
        refine qx_iload_n C dX1_startCooking_28 rfl rfl ?_
        refine qx_iconst C (v := 1) dX1_startCooking_29 rfl ?_
        refine qx_callVI C (b := 14) (As := [_, _]) (n := 2) (c_X0_firstAt F (d + 2) _ _ _ n hn hn20) rfl rfl qw_438 qw_439 qw_440 qw_42 qw_441 ⟨rfl, by decide, by decide, by decide +kernel⟩ (qx_room (by omega) (by decide)) rfl rfl (Nat.le_of_ble_eq_true rfl) dX1_startCooking_30 ?_
        rcases ho : gFirst (qf (nStart n) σ i) (nI i) 1 n with _ | g
        · refine qx_top (z := -4) rfl ?_
          refine qx_istore_n C dX1_startCooking_33 rfl (Nat.le_of_ble_eq_true rfl) ?_
          refine qx_iload_n C dX1_startCooking_34 rfl rfl ?_
          refine qx_bipush C (v := (-4)) dX1_startCooking_35 rfl ?_
          refine qx_icmp_eq_t C (tgt := 65) dX1_startCooking_37 (by decide) (by decide) ?_
          refine qx_iincN C dX1_startCooking_65 rfl ?_
          refine qx_goto C (tgt := 2) dX1_startCooking_68 (by decide) ?_
          exact (qx_forget 2 (qx_to hki (by first | rfl | (rw [qf, nStart_a h13]; first | done | rfl) | (rw [qf, nStart_b h13 h18]; first | done | rfl) | (rw [qf, nStart_c h13 h18 ho]; first | done | rfl) | (rw [qf, nStart_d h13 h18 ho]; first | done | rfl)) (by first | rfl | (rw [qf, nStart_a h13]; first | done | rfl) | (rw [qf, nStart_b h13 h18]; first | done | rfl) | (rw [qf, nStart_c h13 h18 ho]; first | done | rfl) | (rw [qf, nStart_d h13 h18 ho]; first | done | rfl))))
        · refine qx_top (z := nI g) rfl ?_
          have hg0 := (qfind_is ho).1
          refine qx_istore_n C dX1_startCooking_33 rfl (Nat.le_of_ble_eq_true rfl) ?_
          refine qx_iload_n C dX1_startCooking_34 rfl rfl ?_
          refine qx_bipush C (v := (-4)) dX1_startCooking_35 rfl ?_
          refine qx_icmp_eq_f C (tgt := 65) dX1_startCooking_37 (by decide) (qx_n4 (by omega)) ?_
          refine qx_aload_n C dX1_startCooking_40 rfl rfl ?_
          refine qx_getR C (j := 7) (k := 1) hiX1 rfl rfl (by decide) qw_129 rfl dX1_startCooking_41 ?_
          refine qx_getRN C (j := 14) (k := 1) hiX0 rfl rfl (by decide) qn_9 rfl dX1_startCooking_44 ?_
          refine qx_iload_n C dX1_startCooking_47 rfl rfl ?_
          refine qx_iconst C (v := 2) dX1_startCooking_48 rfl ?_
          refine qx_iastN C (j := 15) rfl ⟨by omega, by decide⟩ dX1_startCooking_49 ?_
          refine qx_aload_n C dX1_startCooking_50 rfl rfl ?_
          refine qx_getR C (j := 7) (k := 7) hiX1 rfl rfl (by decide) qw_138 rfl dX1_startCooking_51 ?_
          refine qx_iload_n C dX1_startCooking_54 rfl rfl ?_
          refine qx_aload_n C dX1_startCooking_55 rfl rfl ?_
          refine qx_getR C (j := 7) (k := 0) hiX1 rfl rfl (by decide) qw_128 rfl dX1_startCooking_56 ?_
          refine qx_iload_n C dX1_startCooking_59 rfl rfl ?_
          refine qx_iconst C (v := 3) dX1_startCooking_60 rfl ?_
          refine qx_callVI C (b := 1) (As := [_, _]) (n := 2) (c_X3_trait F (d + 2) _ i 3 (by omega) (by omega)) rfl rfl qw_446 qw_295 qw_296 qw_40 qw_297 ⟨rfl, by decide, by decide, by decide +kernel⟩ (qx_room (by omega) (by decide)) rfl rfl (Nat.le_of_ble_eq_true rfl) dX1_startCooking_61 ?_
          refine qx_iastN C (j := 11) rfl ⟨by omega, by decide⟩ dX1_startCooking_64 ?_
          refine qx_iincN C dX1_startCooking_65 rfl ?_
          refine qx_goto C (tgt := 2) dX1_startCooking_68 (by decide) ?_
          exact (qx_forget 2 (qx_to hki (by first | rfl | (rw [qf, nStart_a h13]; first | done | rfl) | (rw [qf, nStart_b h13 h18]; first | done | rfl) | (rw [qf, nStart_c h13 h18 ho]; first | done | rfl) | (rw [qf, nStart_d h13 h18 ho]; first | done | rfl)) (by first | rfl | (rw [qf, nStart_a h13]; first | done | rfl) | (rw [qf, nStart_b h13 h18]; first | done | rfl) | (rw [qf, nStart_c h13 h18 ho]; first | done | rfl) | (rw [qf, nStart_d h13 h18 ho]; first | done | rfl))))
      · refine qx_if_eq_t C (tgt := 65) dX1_startCooking_21 (by decide) (by decide) ?_
        refine qx_iincN C dX1_startCooking_65 rfl ?_
        refine qx_goto C (tgt := 2) dX1_startCooking_68 (by decide) ?_
        exact (qx_to hki (by first | rfl | (rw [qf, nStart_a h13]; first | done | rfl) | (rw [qf, nStart_b h13 h18]; first | done | rfl) | (rw [qf, nStart_c h13 h18 ho]; first | done | rfl) | (rw [qf, nStart_d h13 h18 ho]; first | done | rfl)) (by first | rfl | (rw [qf, nStart_a h13]; first | done | rfl) | (rw [qf, nStart_b h13 h18]; first | done | rfl) | (rw [qf, nStart_c h13 h18 ho]; first | done | rfl) | (rw [qf, nStart_d h13 h18 ho]; first | done | rfl)))
  · refine qx_iload_n C dX1_startCooking_2 rfl rfl ?_
    refine qx_iconst C (v := 5) dX1_startCooking_3 rfl ?_
    refine qx_icmp_ge_t C (tgt := 71) dX1_startCooking_4 (by decide) (nI_le (a := 5) (b := 5) (Nat.le_refl _) (by decide)) ?_
    exact qx_vret C dX1_startCooking_71 rfl
set_option maxRecDepth 20000 in
set_option maxHeartbeats 4000000 in
theorem c_X1_stallFor (F : qx_F) (d : Nat) (σ : qx_S) (g : Nat) (hg : g < 20) (n : Nat) (hw : wN σ n) : qx_cI F shC ⟨"NightStalls$Night", "stallFor", "(I)I"⟩ (.code ⟨"NightStalls$Night", "stallFor", "(I)I"⟩ prog_3_method_17_code 3 ((some FieldType.int)) :: qx_W) (qx_R (d + 4)) [.ref (fa F 7), .int (nI g)] σ (oI (nFor σ n g)) (σ) := by
  refine qx_met (by decide) (Nat.le_of_ble_eq_true rfl) (by intro v hv; simp only [List.mem_cons, List.not_mem_nil, or_false] at hv; rcases hv with rfl | rfl <;> rfl) (fun K C => ?_)
  have hn := hw.2.2.1
  have hn20 := hw.2.2.2
  refine qx_iconst C (v := 0) dX1_stallFor_0 rfl ?_
  refine qx_istore_n C dX1_stallFor_1 rfl (Nat.le_of_ble_eq_true rfl) ?_
  refine qx_to (qx_up 5 (P := fun i => (∀ s, s < i → ¬ (σ 8 s = σ 16 g ∧ nWorks σ s ∧ σ 6 (s * 6 + 0) = σ 18 g ∧ ¬ 3 ≤ gAt σ (nI s) n)) → qx_X K F shC (σ) 2 [some (.ref (fa F 7)), some (.int (nI g)), some (.int (nI i))] []) (fun i hi hki hpi => ?_) (fun hpi => ?_) (fun s hs => absurd hs (Nat.not_lt_zero s))) rfl rfl
  · refine qx_iload_n C dX1_stallFor_2 rfl rfl ?_
    refine qx_iconst C (v := 5) dX1_stallFor_3 rfl ?_
    refine qx_icmp_ge_f C (tgt := 74) dX1_stallFor_4 (by decide) (nI_ge (b := 5) hi (by decide)) ?_
    refine qx_aload_n C dX1_stallFor_7 rfl rfl ?_
    refine qx_getR C (j := 7) (k := 4) hiX1 rfl rfl (by decide) qw_135 rfl dX1_stallFor_8 ?_
    refine qx_iload_n C dX1_stallFor_11 rfl rfl ?_
    refine qx_ialdN C (j := 8) rfl ⟨by omega, by decide⟩ dX1_stallFor_12 ?_
    refine qx_aload_n C dX1_stallFor_13 rfl rfl ?_
    refine qx_getR C (j := 7) (k := 1) hiX1 rfl rfl (by decide) qw_129 rfl dX1_stallFor_14 ?_
    refine qx_getRN C (j := 14) (k := 2) hiX0 rfl rfl (by decide) qn_11 rfl dX1_stallFor_17 ?_
    refine qx_iload_n C dX1_stallFor_20 rfl rfl ?_
    refine qx_ialdN C (j := 16) rfl ⟨by omega, by decide⟩ dX1_stallFor_21 ?_
    refine qx_icmp_ne C (tgt := 68) dX1_stallFor_22 (by decide) (fun h22 => ?_) (fun h22 => ?_)
    · refine qx_iincN C dX1_stallFor_68 rfl ?_
      refine qx_goto C (tgt := 2) dX1_stallFor_71 (by decide) ?_
      exact (qx_to (hki (lt_s hpi (by first | exact fun hh => h22 hh.1 | exact fun hh => h27 hh.2.1 | exact fun hh => h51 hh.2.2.1 | exact fun hh => hh.2.2.2 h63))) rfl rfl)
    · refine qx_aload_n C dX1_stallFor_25 rfl rfl ?_
      refine qx_iload_n C dX1_stallFor_26 rfl rfl ?_
      refine qx_callVI C (b := 7) (As := [_]) (n := 1) (c_X1_works F (d + 0) _ i (by omega) n hw) rfl rfl qw_429 qw_431 qw_9 qw_41 qw_432 ⟨rfl, by decide, by decide, by decide +kernel⟩ (qx_room (by omega) (by decide)) rfl rfl (Nat.le_of_ble_eq_true rfl) dX1_stallFor_27 ?_
      refine qx_split _ (fun h27 => ?_) (fun h27 => ?_)
      · refine qx_if_eq_f C (tgt := 68) dX1_stallFor_30 (by decide) (by decide) ?_
        refine qx_aload_n C dX1_stallFor_33 rfl rfl ?_
        refine qx_getR C (j := 7) (k := 0) hiX1 rfl rfl (by decide) qw_128 rfl dX1_stallFor_34 ?_
        refine qx_iload_n C dX1_stallFor_37 rfl rfl ?_
        refine qx_iconst C (v := 0) dX1_stallFor_38 rfl ?_
        refine qx_callVI C (b := 1) (As := [_, _]) (n := 2) (c_X3_trait F (d + 2) _ i 0 (by omega) (by omega)) rfl rfl qw_446 qw_295 qw_296 qw_40 qw_297 ⟨rfl, by decide, by decide, by decide +kernel⟩ (qx_room (by omega) (by decide)) rfl rfl (Nat.le_of_ble_eq_true rfl) dX1_stallFor_39 ?_
        refine qx_aload_n C dX1_stallFor_42 rfl rfl ?_
        refine qx_getR C (j := 7) (k := 1) hiX1 rfl rfl (by decide) qw_129 rfl dX1_stallFor_43 ?_
        refine qx_getRN C (j := 14) (k := 4) hiX0 rfl rfl (by decide) qn_12 rfl dX1_stallFor_46 ?_
        refine qx_iload_n C dX1_stallFor_49 rfl rfl ?_
        refine qx_ialdN C (j := 18) rfl ⟨by omega, by decide⟩ dX1_stallFor_50 ?_
        refine qx_icmp_ne C (tgt := 68) dX1_stallFor_51 (by decide) (fun h51 => ?_) (fun h51 => ?_)
        · refine qx_iincN C dX1_stallFor_68 rfl ?_
          refine qx_goto C (tgt := 2) dX1_stallFor_71 (by decide) ?_
          exact (qx_to (hki (lt_s hpi (by first | exact fun hh => h22 hh.1 | exact fun hh => h27 hh.2.1 | exact fun hh => h51 hh.2.2.1 | exact fun hh => hh.2.2.2 h63))) rfl rfl)
        · refine qx_aload_n C dX1_stallFor_54 rfl rfl ?_
          refine qx_getR C (j := 7) (k := 1) hiX1 rfl rfl (by decide) qw_129 rfl dX1_stallFor_55 ?_
          refine qx_iload_n C dX1_stallFor_58 rfl rfl ?_
          refine qx_callVI C (b := 14) (As := [_]) (n := 1) (c_X0_countAt F (d + 2) _ _ n hn hn20) rfl rfl qw_463 qw_464 qw_465 qw_42 qw_466 ⟨rfl, by decide, by decide, by decide +kernel⟩ (qx_room (by omega) (by decide)) rfl rfl (Nat.le_of_ble_eq_true rfl) dX1_stallFor_59 ?_
          refine qx_iconst C (v := 3) dX1_stallFor_62 rfl ?_
          refine qx_icmp_ge C (tgt := 68) dX1_stallFor_63 (by decide) (fun h63 => ?_) (fun h63 => ?_)
          · refine qx_iincN C dX1_stallFor_68 rfl ?_
            refine qx_goto C (tgt := 2) dX1_stallFor_71 (by decide) ?_
            exact (qx_to (hki (lt_s hpi (by first | exact fun hh => h22 hh.1 | exact fun hh => h27 hh.2.1 | exact fun hh => h51 hh.2.2.1 | exact fun hh => hh.2.2.2 h63))) rfl rfl)
          · refine qx_iload_n C dX1_stallFor_66 rfl rfl ?_
            exact qx_iret C dX1_stallFor_67 rfl (by unfold nFor; rw [qfind_some hi (decide_eq_true ⟨h22, h27, h51, h63⟩) (fun s hs => decide_eq_false (hpi s hs))]; rfl) rfl
      · refine qx_if_eq_t C (tgt := 68) dX1_stallFor_30 (by decide) (by decide) ?_
        refine qx_iincN C dX1_stallFor_68 rfl ?_
        refine qx_goto C (tgt := 2) dX1_stallFor_71 (by decide) ?_
        exact (qx_to (hki (lt_s hpi (by first | exact fun hh => h22 hh.1 | exact fun hh => h27 hh.2.1 | exact fun hh => h51 hh.2.2.1 | exact fun hh => hh.2.2.2 h63))) rfl rfl)
  · refine qx_iload_n C dX1_stallFor_2 rfl rfl ?_
    refine qx_iconst C (v := 5) dX1_stallFor_3 rfl ?_
    refine qx_icmp_ge_t C (tgt := 74) dX1_stallFor_4 (by decide) (nI_le (a := 5) (b := 5) (Nat.le_refl _) (by decide)) ?_
    refine qx_bipush C (v := (-4)) dX1_stallFor_74 rfl ?_
    exact qx_iret C dX1_stallFor_76 rfl (by unfold nFor; rw [qfind_none (fun s hs => decide_eq_false (hpi s hs))]; rfl) rfl
set_option maxRecDepth 20000 in
set_option maxHeartbeats 4000000 in
theorem c_X1_walkOn (F : qx_F) (d : Nat) (σ : qx_S) (n : Nat) (hw : wN σ n) : qx_cV F shC ⟨"NightStalls$Night", "walkOn", "()V"⟩ (.code ⟨"NightStalls$Night", "walkOn", "()V"⟩ prog_3_method_16_code 3 ((none : Option FieldType)) :: qx_W) (qx_R (d + 5)) [.ref (fa F 7)] σ (qf (nWalk n) σ n) := by
  refine qx_met (by decide) (Nat.le_of_ble_eq_true rfl) (by intro v hv; simp only [List.mem_cons, List.not_mem_nil, or_false] at hv; rcases hv with rfl <;> rfl) (fun K C => ?_)
  have hn20 := hw.2.2.2
  refine qx_iconst C (v := 0) dX1_walkOn_0 rfl ?_
  refine qx_istore_n C dX1_walkOn_1 rfl (Nat.le_of_ble_eq_true rfl) ?_
  refine qx_to (qx_up n (P := fun i => qx_X K F shC (qf (nWalk n) σ i) 2 [some (.ref (fa F 7)), some (.int (nI i)), none] []) (fun i hi hki => ?_) ?_) rfl rfl
  · have hwi := nWalk_wN hw i
    have hn := hwi.2.2.1
    have hn20 := hwi.2.2.2
    refine qx_iload_n C dX1_walkOn_2 rfl rfl ?_
    refine qx_aload_n C dX1_walkOn_3 rfl rfl ?_
    refine qx_getR C (j := 7) (k := 1) hiX1 rfl rfl (by decide) qw_129 rfl dX1_walkOn_4 ?_
    refine qx_getIN C (j := 14) (k := 0) hiX0 rfl rfl (by decide) qn_13 rfl dX1_walkOn_7 ?_
    refine qx_icmp_ge_f C (tgt := 70) dX1_walkOn_10 (by decide) (by rw [hn]; exact nI_ge hi (by omega)) ?_
    refine qx_aload_n C dX1_walkOn_13 rfl rfl ?_
    refine qx_getR C (j := 7) (k := 1) hiX1 rfl rfl (by decide) qw_129 rfl dX1_walkOn_14 ?_
    refine qx_getRN C (j := 14) (k := 1) hiX0 rfl rfl (by decide) qn_9 rfl dX1_walkOn_17 ?_
    refine qx_iload_n C dX1_walkOn_20 rfl rfl ?_
    refine qx_ialdN C (j := 15) rfl ⟨by omega, by decide⟩ dX1_walkOn_21 ?_
    refine qx_if_ne C (tgt := 64) dX1_walkOn_22 (by decide) (fun h22 => ?_) (fun h22 => ?_)
    · refine qx_iincN C dX1_walkOn_64 rfl ?_
      refine qx_goto C (tgt := 2) dX1_walkOn_67 (by decide) ?_
      exact (qx_to hki (by first | rfl | (rw [qf, nWalk_a h22]; first | done | rfl) | (rw [qf, nWalk_b h22 ho]; first | done | rfl) | (rw [qf, nWalk_c h22 ho]; first | done | rfl)) (by first | rfl | (rw [qf, nWalk_a h22]; first | done | rfl) | (rw [qf, nWalk_b h22 ho]; first | done | rfl) | (rw [qf, nWalk_c h22 ho]; first | done | rfl)))
    · refine qx_aload_n C dX1_walkOn_25 rfl rfl ?_
      refine qx_iload_n C dX1_walkOn_26 rfl rfl ?_
      refine qx_callVI C (b := 7) (As := [_]) (n := 1) (c_X1_stallFor F (d + 0) _ i (by omega) n hwi) rfl rfl qw_459 qw_461 qw_13 qw_41 qw_462 ⟨rfl, by decide, by decide, by decide +kernel⟩ (qx_room (by omega) (by decide)) rfl rfl (Nat.le_of_ble_eq_true rfl) dX1_walkOn_27 ?_
      rcases ho : nFor (qf (nWalk n) σ i) n i with _ | s
      · refine qx_top (z := -4) rfl ?_
        refine qx_istore_n C dX1_walkOn_30 rfl (Nat.le_of_ble_eq_true rfl) ?_
        refine qx_iload_n C dX1_walkOn_31 rfl rfl ?_
        refine qx_bipush C (v := (-4)) dX1_walkOn_32 rfl ?_
        refine qx_icmp_eq_t C (tgt := 49) dX1_walkOn_34 (by decide) (by decide) ?_
        refine qx_aload_n C dX1_walkOn_49 rfl rfl ?_
        refine qx_getR C (j := 7) (k := 1) hiX1 rfl rfl (by decide) qw_129 rfl dX1_walkOn_50 ?_
        refine qx_iload_n C dX1_walkOn_53 rfl rfl ?_
        refine qx_aload_n C dX1_walkOn_54 rfl rfl ?_
        refine qx_getR C (j := 7) (k := 0) hiX1 rfl rfl (by decide) qw_128 rfl dX1_walkOn_55 ?_
        refine qx_getIN C (j := 1) (k := 0) hiX3 rfl rfl (by decide) qn_10 rfl dX1_walkOn_58 ?_
        refine qx_callVv C (b := 14) (As := [_, _]) (n := 2) (c_X0_step F (d + 3) _ i _ (by omega)) rfl rfl qw_471 qw_472 qw_473 qw_42 qw_474 ⟨rfl, by decide, by decide, by decide +kernel⟩ (qx_room (by omega) (by decide)) rfl rfl (Nat.le_of_ble_eq_true rfl) dX1_walkOn_61 ?_
        refine qx_iincN C dX1_walkOn_64 rfl ?_
        refine qx_goto C (tgt := 2) dX1_walkOn_67 (by decide) ?_
        exact (qx_forget 2 (qx_to hki (by first | rfl | (rw [qf, nWalk_a h22]; first | done | rfl) | (rw [qf, nWalk_b h22 ho]; first | done | rfl) | (rw [qf, nWalk_c h22 ho]; first | done | rfl)) (by first | rfl | (rw [qf, nWalk_a h22]; first | done | rfl) | (rw [qf, nWalk_b h22 ho]; first | done | rfl) | (rw [qf, nWalk_c h22 ho]; first | done | rfl))))
      · refine qx_top (z := nI s) rfl ?_
        have hg0 := (qfind_is ho).1
        refine qx_istore_n C dX1_walkOn_30 rfl (Nat.le_of_ble_eq_true rfl) ?_
        refine qx_iload_n C dX1_walkOn_31 rfl rfl ?_
        refine qx_bipush C (v := (-4)) dX1_walkOn_32 rfl ?_
        refine qx_icmp_eq_f C (tgt := 49) dX1_walkOn_34 (by decide) (qx_n4 (by omega)) ?_
        refine qx_aload_n C dX1_walkOn_37 rfl rfl ?_
        refine qx_getR C (j := 7) (k := 1) hiX1 rfl rfl (by decide) qw_129 rfl dX1_walkOn_38 ?_
        refine qx_iload_n C dX1_walkOn_41 rfl rfl ?_
        refine qx_iload_n C dX1_walkOn_42 rfl rfl ?_
        refine qx_callVv C (b := 14) (As := [_, _]) (n := 2) (c_X0_queue F (d + 3) _ i _ (by omega)) rfl rfl qw_467 qw_468 qw_469 qw_42 qw_470 ⟨rfl, by decide, by decide, by decide +kernel⟩ (qx_room (by omega) (by decide)) rfl rfl (Nat.le_of_ble_eq_true rfl) dX1_walkOn_43 ?_
        refine qx_goto C (tgt := 64) dX1_walkOn_46 (by decide) ?_
        refine qx_iincN C dX1_walkOn_64 rfl ?_
        refine qx_goto C (tgt := 2) dX1_walkOn_67 (by decide) ?_
        exact (qx_forget 2 (qx_to hki (by first | rfl | (rw [qf, nWalk_a h22]; first | done | rfl) | (rw [qf, nWalk_b h22 ho]; first | done | rfl) | (rw [qf, nWalk_c h22 ho]; first | done | rfl)) (by first | rfl | (rw [qf, nWalk_a h22]; first | done | rfl) | (rw [qf, nWalk_b h22 ho]; first | done | rfl) | (rw [qf, nWalk_c h22 ho]; first | done | rfl))))
  · have hn20 := hw.2.2.2
    refine qx_iload_n C dX1_walkOn_2 rfl rfl ?_
    refine qx_aload_n C dX1_walkOn_3 rfl rfl ?_
    refine qx_getR C (j := 7) (k := 1) hiX1 rfl rfl (by decide) qw_129 rfl dX1_walkOn_4 ?_
    refine qx_getIN C (j := 14) (k := 0) hiX0 rfl rfl (by decide) qn_13 rfl dX1_walkOn_7 ?_
    refine qx_icmp_ge_t C (tgt := 70) dX1_walkOn_10 (by decide) (by rw [(nWalk_wN hw n).2.2.1]; exact nI_le (Nat.le_refl _) (by omega)) ?_
    exact qx_vret C dX1_walkOn_70 rfl
set_option maxRecDepth 20000 in
set_option maxHeartbeats 4000000 in
theorem c_X1_passTick (F : qx_F) (d : Nat) (σ : qx_S) (n : Nat) (hw : wN σ n) : qx_cI F shC ⟨"NightStalls$Night", "passTick", "()I"⟩ (.code ⟨"NightStalls$Night", "passTick", "()I"⟩ prog_3_method_11_code 2 ((some FieldType.int)) :: qx_W) (qx_R (d + 6)) [.ref (fa F 7)] σ ((qf (nCook n) (σ, 0) 5).2) (nTick σ n) := by
  refine qx_met (by decide) (Nat.le_of_ble_eq_true rfl) (by intro v hv; simp only [List.mem_cons, List.not_mem_nil, or_false] at hv; rcases hv with rfl <;> rfl) (fun K C => ?_)
  refine qx_aload_n C dX1_passTick_0 rfl rfl ?_
  refine qx_callVI C (b := 7) (As := []) (n := 0) (c_X1_cookOn F (d + 1) _ n hw) rfl rfl qw_425 qw_427 qw_8 qw_41 qw_428 ⟨rfl, by decide, by decide, by decide +kernel⟩ (qx_room (by omega) (by decide)) rfl rfl (Nat.le_of_ble_eq_true rfl) dX1_passTick_1 ?_
  refine qx_istore_n C dX1_passTick_4 rfl (Nat.le_of_ble_eq_true rfl) ?_
  refine qx_aload_n C dX1_passTick_5 rfl rfl ?_
  refine qx_callVv C (b := 7) (As := []) (n := 0) (c_X1_startCooking F (d + 1) _ n (nCook_wN hw 0 5)) rfl rfl qw_447 qw_449 qw_11 qw_41 qw_450 ⟨rfl, by decide, by decide, by decide +kernel⟩ (qx_room (by omega) (by decide)) rfl rfl (Nat.le_of_ble_eq_true rfl) dX1_passTick_6 ?_
  refine qx_aload_n C dX1_passTick_9 rfl rfl ?_
  refine qx_getR C (j := 7) (k := 1) hiX1 rfl rfl (by decide) qw_129 rfl dX1_passTick_10 ?_
  refine qx_callVv C (b := 14) (As := []) (n := 0) (c_X0_losePatience F (d + 4) _ n (nStart_wN (nCook_wN hw 0 5) 5).2.2.1 hw.2.2.2) rfl rfl qw_451 qw_452 qw_453 qw_42 qw_454 ⟨rfl, by decide, by decide, by decide +kernel⟩ (qx_room (by omega) (by decide)) rfl rfl (Nat.le_of_ble_eq_true rfl) dX1_passTick_13 ?_
  refine qx_aload_n C dX1_passTick_16 rfl rfl ?_
  refine qx_callVv C (b := 7) (As := []) (n := 0) (c_X1_walkOn F (d + 0) _ n (gLose_wN (nStart_wN (nCook_wN hw 0 5) 5) n)) rfl rfl qw_455 qw_457 qw_12 qw_41 qw_458 ⟨rfl, by decide, by decide, by decide +kernel⟩ (qx_room (by omega) (by decide)) rfl rfl (Nat.le_of_ble_eq_true rfl) dX1_passTick_17 ?_
  refine qx_aload_n C dX1_passTick_20 rfl rfl ?_
  refine qx_dup C dX1_passTick_21 rfl ?_
  refine qx_getI C (j := 7) (k := 3) hiX1 rfl rfl (by decide) qw_133 rfl dX1_passTick_22 ?_
  refine qx_iconst C (v := 1) dX1_passTick_25 rfl ?_
  refine qx_iadd C dX1_passTick_26 ?_
  refine qx_put C (j := 7) (k := 3) hiX1 rfl rfl (by decide) tyX1 tyX1_ok nmX1 qw_133 rfl rfl rfl rfl dX1_passTick_27 ?_
  refine qx_iload_n C dX1_passTick_30 rfl rfl ?_
  exact qx_iret C dX1_passTick_31 rfl rfl rfl
