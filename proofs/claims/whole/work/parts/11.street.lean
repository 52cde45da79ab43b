set_option maxRecDepth 20000 in
set_option maxHeartbeats 4000000 in
theorem c_X4_isWithin (F : qx_F) (d : Nat) (σ : qx_S) (v a b : Int32) : qx_cI F shC ⟨"NightStalls", "isWithin", "(III)Z"⟩ (.code ⟨"NightStalls", "isWithin", "(III)Z"⟩ prog_1_method_25_code 3 ((some FieldType.boolean)) :: qx_W) (qx_R (d + 1)) [.int v, .int a, .int b] σ (if a ≤ v ∧ v ≤ b then 1 else 0) (σ) := by
  refine qx_met (by decide) (Nat.le_of_ble_eq_true rfl) (by intro v hv; simp only [List.mem_cons, List.not_mem_nil, or_false] at hv; rcases hv with rfl | rfl | rfl <;> rfl) (fun K C => ?_)
  refine qx_iload_n C dX4_isWithin_0 rfl rfl ?_
  refine qx_iload_n C dX4_isWithin_1 rfl rfl ?_
  refine qx_icmp_lt C (tgt := 14) dX4_isWithin_2 (by decide) (fun h2 => ?_) (fun h2 => ?_)
  · refine qx_iconst C (v := 0) dX4_isWithin_14 rfl ?_
    exact qx_iret C dX4_isWithin_15 rfl (by first | rfl | exact (if_neg h2).symm | exact (if_neg (Int32.not_le.mpr h2)).symm | exact (if_neg (mt And.left (Int32.not_le.mpr h2))).symm | exact (if_neg (mt And.right (Int32.not_le.mpr h2))).symm | exact (if_neg (mt And.left h2)).symm | exact (if_neg (mt And.right h2)).symm | simp [h2]) rfl
  · refine qx_iload_n C dX4_isWithin_5 rfl rfl ?_
    refine qx_iload_n C dX4_isWithin_6 rfl rfl ?_
    refine qx_icmp_gt C (tgt := 14) dX4_isWithin_7 (by decide) (fun h7 => ?_) (fun h7 => ?_)
    · refine qx_iconst C (v := 0) dX4_isWithin_14 rfl ?_
      exact qx_iret C dX4_isWithin_15 rfl (by first | rfl | exact (if_neg h7).symm | exact (if_neg (Int32.not_le.mpr h7)).symm | exact (if_neg (mt And.left (Int32.not_le.mpr h7))).symm | exact (if_neg (mt And.right (Int32.not_le.mpr h7))).symm | exact (if_neg (mt And.left h7)).symm | exact (if_neg (mt And.right h7)).symm | exact (if_neg h2).symm | exact (if_neg (Int32.not_le.mpr h2)).symm | exact (if_neg (mt And.left (Int32.not_le.mpr h2))).symm | exact (if_neg (mt And.right (Int32.not_le.mpr h2))).symm | exact (if_neg (mt And.left h2)).symm | exact (if_neg (mt And.right h2)).symm | simp [h2, h7]) rfl
    · refine qx_iconst C (v := 1) dX4_isWithin_10 rfl ?_
      refine qx_goto C (tgt := 15) dX4_isWithin_11 (by decide) ?_
      exact qx_iret C dX4_isWithin_15 rfl (by first | rfl | exact (if_pos h7).symm | exact (if_pos (Int32.not_lt.mp h7)).symm | exact (if_pos h2).symm | exact (if_pos (Int32.not_lt.mp h2)).symm | exact (if_pos ⟨Int32.not_lt.mp h2, Int32.not_lt.mp h7⟩).symm | exact (if_pos ⟨h2, h7⟩).symm | simp [h2, h7]) rfl
set_option maxRecDepth 20000 in
set_option maxHeartbeats 4000000 in
theorem c_X4_isLine (F : qx_F) (d : Nat) (σ : qx_S) (v : Int32) : qx_cI F shC ⟨"NightStalls", "isLine", "(I)Z"⟩ (.code ⟨"NightStalls", "isLine", "(I)Z"⟩ prog_1_method_26_code 1 ((some FieldType.boolean)) :: qx_W) (qx_R (d + 2)) [.int v] σ (if 0 ≤ v ∧ v ≤ 2 then 1 else 0) (σ) := by
  refine qx_met (by decide) (Nat.le_of_ble_eq_true rfl) (by intro v hv; simp only [List.mem_cons, List.not_mem_nil, or_false] at hv; rcases hv with rfl <;> rfl) (fun K C => ?_)
  refine qx_iload_n C dX4_isLine_0 rfl rfl ?_
  refine qx_iconst C (v := 0) dX4_isLine_1 rfl ?_
  refine qx_iconst C (v := 2) dX4_isLine_2 rfl ?_
  refine qx_callSI C (As := [_, _, _]) (n := 3) (c_X4_isWithin F (d + 0) _ _ _ _) qw_216 qw_217 qw_39 qw_218 ⟨rfl, by decide, by decide, by decide +kernel⟩ (qx_room (by omega) (by decide)) rfl rfl (Nat.le_of_ble_eq_true rfl) dX4_isLine_3 ?_
  refine qx_split _ (fun h3 => ?_) (fun h3 => ?_)
  · exact qx_iret C dX4_isLine_6 rfl (by first | rfl | exact (if_pos h3).symm | exact (if_pos (Int32.not_lt.mp h3)).symm | simp [h3]) rfl
  · exact qx_iret C dX4_isLine_6 rfl (by first | rfl | exact (if_neg h3).symm | exact (if_neg (Int32.not_le.mpr h3)).symm | exact (if_neg (mt And.left (Int32.not_le.mpr h3))).symm | exact (if_neg (mt And.right (Int32.not_le.mpr h3))).symm | exact (if_neg (mt And.left h3)).symm | exact (if_neg (mt And.right h3)).symm | simp [h3]) rfl
set_option maxRecDepth 20000 in
set_option maxHeartbeats 4000000 in
theorem c_X4_isNight (F : qx_F) (d : Nat) (σ : qx_S) (v : Int32) : qx_cI F shC ⟨"NightStalls", "isNight", "(I)Z"⟩ (.code ⟨"NightStalls", "isNight", "(I)Z"⟩ prog_1_method_27_code 1 ((some FieldType.boolean)) :: qx_W) (qx_R (d + 2)) [.int v] σ (if 0 ≤ v ∧ v ≤ 99 then 1 else 0) (σ) := by
  refine qx_met (by decide) (Nat.le_of_ble_eq_true rfl) (by intro v hv; simp only [List.mem_cons, List.not_mem_nil, or_false] at hv; rcases hv with rfl <;> rfl) (fun K C => ?_)
  refine qx_iload_n C dX4_isNight_0 rfl rfl ?_
  refine qx_iconst C (v := 0) dX4_isNight_1 rfl ?_
  refine qx_bipush C (v := 99) dX4_isNight_2 rfl ?_
  refine qx_callSI C (As := [_, _, _]) (n := 3) (c_X4_isWithin F (d + 0) _ _ _ _) qw_216 qw_217 qw_39 qw_218 ⟨rfl, by decide, by decide, by decide +kernel⟩ (qx_room (by omega) (by decide)) rfl rfl (Nat.le_of_ble_eq_true rfl) dX4_isNight_4 ?_
  refine qx_split _ (fun h4 => ?_) (fun h4 => ?_)
  · exact qx_iret C dX4_isNight_7 rfl (by first | rfl | exact (if_pos h4).symm | exact (if_pos (Int32.not_lt.mp h4)).symm | simp [h4]) rfl
  · exact qx_iret C dX4_isNight_7 rfl (by first | rfl | exact (if_neg h4).symm | exact (if_neg (Int32.not_le.mpr h4)).symm | exact (if_neg (mt And.left (Int32.not_le.mpr h4))).symm | exact (if_neg (mt And.right (Int32.not_le.mpr h4))).symm | exact (if_neg (mt And.left h4)).symm | exact (if_neg (mt And.right h4)).symm | simp [h4]) rfl
set_option maxRecDepth 20000 in
set_option maxHeartbeats 4000000 in
theorem c_X3_hasPlace (F : qx_F) (d : Nat) (σ : qx_S) (v : Int32) : qx_cI F shC ⟨"NightStalls$Street", "hasPlace", "(I)Z"⟩ (.code ⟨"NightStalls$Street", "hasPlace", "(I)Z"⟩ prog_5_method_3_code 2 ((some FieldType.boolean)) :: qx_W) (qx_R (d + 2)) [.ref (fa F 1), .int v] σ (if 0 ≤ v ∧ v ≤ σ 1 0 - 1 then 1 else 0) (σ) := by
  refine qx_met (by decide) (Nat.le_of_ble_eq_true rfl) (by intro v hv; simp only [List.mem_cons, List.not_mem_nil, or_false] at hv; rcases hv with rfl | rfl <;> rfl) (fun K C => ?_)
  refine qx_iload_n C dX3_hasPlace_0 rfl rfl ?_
  refine qx_iconst C (v := 0) dX3_hasPlace_1 rfl ?_
  refine qx_aload_n C dX3_hasPlace_2 rfl rfl ?_
  refine qx_getI C (j := 1) (k := 0) hiX3 rfl rfl (by decide) qw_61 rfl dX3_hasPlace_3 ?_
  refine qx_iconst C (v := 1) dX3_hasPlace_6 rfl ?_
  refine qx_isub C dX3_hasPlace_7 ?_
  refine qx_callNI C (As := [_, _, _]) (n := 3) (c_X4_isWithin F (d + 0) _ _ _ _) qn_19 qw_217 qw_39 qw_218 ⟨by decide, by decide, by decide +kernel⟩ (qx_room (by omega) (by decide)) rfl rfl (Nat.le_of_ble_eq_true rfl) dX3_hasPlace_8 ?_
  refine qx_split _ (fun h8 => ?_) (fun h8 => ?_)
  · exact qx_iret C dX3_hasPlace_11 rfl (by first | rfl | exact (if_pos h8).symm | exact (if_pos (Int32.not_lt.mp h8)).symm | simp [h8]) rfl
  · exact qx_iret C dX3_hasPlace_11 rfl (by first | rfl | exact (if_neg h8).symm | exact (if_neg (Int32.not_le.mpr h8)).symm | exact (if_neg (mt And.left (Int32.not_le.mpr h8))).symm | exact (if_neg (mt And.right (Int32.not_le.mpr h8))).symm | exact (if_neg (mt And.left h8)).symm | exact (if_neg (mt And.right h8)).symm | simp [h8]) rfl
set_option maxRecDepth 20000 in
set_option maxHeartbeats 4000000 in
theorem c_X3_hasStall (F : qx_F) (d : Nat) (σ : qx_S) (v : Int32) : qx_cI F shC ⟨"NightStalls$Street", "hasStall", "(I)Z"⟩ (.code ⟨"NightStalls$Street", "hasStall", "(I)Z"⟩ prog_5_method_4_code 2 ((some FieldType.boolean)) :: qx_W) (qx_R (d + 2)) [.ref (fa F 1), .int v] σ (if 0 ≤ v ∧ v ≤ σ 1 1 - 1 then 1 else 0) (σ) := by
  refine qx_met (by decide) (Nat.le_of_ble_eq_true rfl) (by intro v hv; simp only [List.mem_cons, List.not_mem_nil, or_false] at hv; rcases hv with rfl | rfl <;> rfl) (fun K C => ?_)
  refine qx_iload_n C dX3_hasStall_0 rfl rfl ?_
  refine qx_iconst C (v := 0) dX3_hasStall_1 rfl ?_
  refine qx_aload_n C dX3_hasStall_2 rfl rfl ?_
  refine qx_getI C (j := 1) (k := 1) hiX3 rfl rfl (by decide) qw_65 rfl dX3_hasStall_3 ?_
  refine qx_iconst C (v := 1) dX3_hasStall_6 rfl ?_
  refine qx_isub C dX3_hasStall_7 ?_
  refine qx_callNI C (As := [_, _, _]) (n := 3) (c_X4_isWithin F (d + 0) _ _ _ _) qn_19 qw_217 qw_39 qw_218 ⟨by decide, by decide, by decide +kernel⟩ (qx_room (by omega) (by decide)) rfl rfl (Nat.le_of_ble_eq_true rfl) dX3_hasStall_8 ?_
  refine qx_split _ (fun h8 => ?_) (fun h8 => ?_)
  · exact qx_iret C dX3_hasStall_11 rfl (by first | rfl | exact (if_pos h8).symm | exact (if_pos (Int32.not_lt.mp h8)).symm | simp [h8]) rfl
  · exact qx_iret C dX3_hasStall_11 rfl (by first | rfl | exact (if_neg h8).symm | exact (if_neg (Int32.not_le.mpr h8)).symm | exact (if_neg (mt And.left (Int32.not_le.mpr h8))).symm | exact (if_neg (mt And.right (Int32.not_le.mpr h8))).symm | exact (if_neg (mt And.left h8)).symm | exact (if_neg (mt And.right h8)).symm | simp [h8]) rfl
set_option maxRecDepth 20000 in
set_option maxHeartbeats 4000000 in
theorem c_X3_placeFact (F : qx_F) (d : Nat) (σ : qx_S) (p w : Nat) (hp : p < 8) (hw : w < 3) : qx_cI F shC ⟨"NightStalls$Street", "placeFact", "(II)I"⟩ (.code ⟨"NightStalls$Street", "placeFact", "(II)I"⟩ prog_5_method_5_code 3 ((some FieldType.int)) :: qx_W) (qx_R (d + 1)) [.ref (fa F 1), .int (nI p), .int (nI w)] σ (σ 2 (p * 3 + w)) (σ) := by
  refine qx_met (by decide) (Nat.le_of_ble_eq_true rfl) (by intro v hv; simp only [List.mem_cons, List.not_mem_nil, or_false] at hv; rcases hv with rfl | rfl | rfl <;> rfl) (fun K C => ?_)
  refine qx_aload_n C dX3_placeFact_0 rfl rfl ?_
  refine qx_getR C (j := 1) (k := 2) hiX3 rfl rfl (by decide) qw_68 rfl dX3_placeFact_1 ?_
  refine qx_iload_n C dX3_placeFact_4 rfl rfl ?_
  refine qx_iconst C (v := 3) dX3_placeFact_5 rfl ?_
  refine qx_imulE C dX3_placeFact_6 (pk_mul p 3) ?_
  refine qx_iload_n C dX3_placeFact_7 rfl rfl ?_
  refine qx_iaddE C dX3_placeFact_8 (nI_add (p * 3) w) ?_
  refine qx_ialdN C (j := 2) rfl ⟨by omega, by decide⟩ dX3_placeFact_9 ?_
  exact qx_iret C dX3_placeFact_10 rfl rfl rfl
set_option maxRecDepth 20000 in
set_option maxHeartbeats 4000000 in
theorem c_X3_rentOf (F : qx_F) (d : Nat) (σ : qx_S) (p : Nat) (hp : p < 8) : qx_cI F shC ⟨"NightStalls$Street", "rentOf", "(I)I"⟩ (.code ⟨"NightStalls$Street", "rentOf", "(I)I"⟩ prog_5_method_7_code 2 ((some FieldType.int)) :: qx_W) (qx_R (d + 2)) [.ref (fa F 1), .int (nI p)] σ (σ 2 (p * 3 + 0)) (σ) := by
  refine qx_met (by decide) (Nat.le_of_ble_eq_true rfl) (by intro v hv; simp only [List.mem_cons, List.not_mem_nil, or_false] at hv; rcases hv with rfl | rfl <;> rfl) (fun K C => ?_)
  refine qx_aload_n C dX3_rentOf_0 rfl rfl ?_
  refine qx_iload_n C dX3_rentOf_1 rfl rfl ?_
  refine qx_iconst C (v := 0) dX3_rentOf_2 rfl ?_
  refine qx_callVI C (b := 1) (As := [_, _]) (n := 2) (c_X3_placeFact F (d + 0) _ p 0 (by omega) (by omega)) rfl rfl qw_242 qw_243 qw_244 qw_40 qw_245 ⟨rfl, by decide, by decide, by decide +kernel⟩ (qx_room (by omega) (by decide)) rfl rfl (Nat.le_of_ble_eq_true rfl) dX3_rentOf_3 ?_
  exact qx_iret C dX3_rentOf_6 rfl rfl rfl
set_option maxRecDepth 20000 in
set_option maxHeartbeats 4000000 in
theorem c_X3_lineAt (F : qx_F) (d : Nat) (σ : qx_S) (p : Nat) (hp : p < 8) : qx_cI F shC ⟨"NightStalls$Street", "lineAt", "(I)I"⟩ (.code ⟨"NightStalls$Street", "lineAt", "(I)I"⟩ prog_5_method_8_code 2 ((some FieldType.int)) :: qx_W) (qx_R (d + 2)) [.ref (fa F 1), .int (nI p)] σ (σ 2 (p * 3 + 1)) (σ) := by
  refine qx_met (by decide) (Nat.le_of_ble_eq_true rfl) (by intro v hv; simp only [List.mem_cons, List.not_mem_nil, or_false] at hv; rcases hv with rfl | rfl <;> rfl) (fun K C => ?_)
  refine qx_aload_n C dX3_lineAt_0 rfl rfl ?_
  refine qx_iload_n C dX3_lineAt_1 rfl rfl ?_
  refine qx_iconst C (v := 1) dX3_lineAt_2 rfl ?_
  refine qx_callVI C (b := 1) (As := [_, _]) (n := 2) (c_X3_placeFact F (d + 0) _ p 1 (by omega) (by omega)) rfl rfl qw_242 qw_243 qw_244 qw_40 qw_245 ⟨rfl, by decide, by decide, by decide +kernel⟩ (qx_room (by omega) (by decide)) rfl rfl (Nat.le_of_ble_eq_true rfl) dX3_lineAt_3 ?_
  exact qx_iret C dX3_lineAt_6 rfl rfl rfl
set_option maxRecDepth 20000 in
set_option maxHeartbeats 4000000 in
theorem c_X3_limitOf (F : qx_F) (d : Nat) (σ : qx_S) (k : Nat) (hk : k < 3) : qx_cI F shC ⟨"NightStalls$Street", "limitOf", "(I)I"⟩ (.code ⟨"NightStalls$Street", "limitOf", "(I)I"⟩ prog_5_method_10_code 2 ((some FieldType.int)) :: qx_W) (qx_R (d + 1)) [.ref (fa F 1), .int (nI k)] σ (σ 3 k) (σ) := by
  refine qx_met (by decide) (Nat.le_of_ble_eq_true rfl) (by intro v hv; simp only [List.mem_cons, List.not_mem_nil, or_false] at hv; rcases hv with rfl | rfl <;> rfl) (fun K C => ?_)
  refine qx_aload_n C dX3_limitOf_0 rfl rfl ?_
  refine qx_getR C (j := 1) (k := 3) hiX3 rfl rfl (by decide) qw_69 rfl dX3_limitOf_1 ?_
  refine qx_iload_n C dX3_limitOf_4 rfl rfl ?_
  refine qx_ialdN C (j := 3) rfl ⟨by omega, by decide⟩ dX3_limitOf_5 ?_
  exact qx_iret C dX3_limitOf_6 rfl rfl rfl
set_option maxRecDepth 20000 in
set_option maxHeartbeats 4000000 in
theorem c_X3_ruled (F : qx_F) (d : Nat) (σ : qx_S) (k : Nat) (hk : k < 2) : qx_cI F shC ⟨"NightStalls$Street", "ruled", "(I)I"⟩ (.code ⟨"NightStalls$Street", "ruled", "(I)I"⟩ prog_5_method_14_code 2 ((some FieldType.int)) :: qx_W) (qx_R (d + 1)) [.ref (fa F 1), .int (nI k)] σ (σ 5 k) (σ) := by
  refine qx_met (by decide) (Nat.le_of_ble_eq_true rfl) (by intro v hv; simp only [List.mem_cons, List.not_mem_nil, or_false] at hv; rcases hv with rfl | rfl <;> rfl) (fun K C => ?_)
  refine qx_aload_n C dX3_ruled_0 rfl rfl ?_
  refine qx_getR C (j := 1) (k := 5) hiX3 rfl rfl (by decide) qw_71 rfl dX3_ruled_1 ?_
  refine qx_iload_n C dX3_ruled_4 rfl rfl ?_
  refine qx_ialdN C (j := 5) rfl ⟨by omega, by decide⟩ dX3_ruled_5 ?_
  exact qx_iret C dX3_ruled_6 rfl rfl rfl
set_option maxRecDepth 20000 in
set_option maxHeartbeats 4000000 in
theorem c_X3_trait (F : qx_F) (d : Nat) (σ : qx_S) (p w : Nat) (hp : p < 5) (hw : w < 6) : qx_cI F shC ⟨"NightStalls$Street", "trait", "(II)I"⟩ (.code ⟨"NightStalls$Street", "trait", "(II)I"⟩ prog_5_method_16_code 3 ((some FieldType.int)) :: qx_W) (qx_R (d + 1)) [.ref (fa F 1), .int (nI p), .int (nI w)] σ (σ 6 (p * 6 + w)) (σ) := by
  refine qx_met (by decide) (Nat.le_of_ble_eq_true rfl) (by intro v hv; simp only [List.mem_cons, List.not_mem_nil, or_false] at hv; rcases hv with rfl | rfl | rfl <;> rfl) (fun K C => ?_)
  refine qx_aload_n C dX3_trait_0 rfl rfl ?_
  refine qx_getR C (j := 1) (k := 6) hiX3 rfl rfl (by decide) qw_72 rfl dX3_trait_1 ?_
  refine qx_iload_n C dX3_trait_4 rfl rfl ?_
  refine qx_bipush C (v := 6) dX3_trait_5 rfl ?_
  refine qx_imulE C dX3_trait_7 (pk_mul p 6) ?_
  refine qx_iload_n C dX3_trait_8 rfl rfl ?_
  refine qx_iaddE C dX3_trait_9 (nI_add (p * 6) w) ?_
  refine qx_ialdN C (j := 6) rfl ⟨by omega, by decide⟩ dX3_trait_10 ?_
  exact qx_iret C dX3_trait_11 rfl rfl rfl
set_option maxRecDepth 20000 in
set_option maxHeartbeats 4000000 in
theorem c_X3_mayStand (F : qx_F) (d : Nat) (σ : qx_S) (p : Nat) (v : Int32) (hp : p < 5) : qx_cI F shC ⟨"NightStalls$Street", "mayStand", "(II)Z"⟩ (.code ⟨"NightStalls$Street", "mayStand", "(II)Z"⟩ prog_5_method_18_code 3 ((some FieldType.boolean)) :: qx_W) (qx_R (d + 2)) [.ref (fa F 1), .int (nI p), .int v] σ (if v ≤ σ 6 (p * 6 + 5) then 1 else 0) (σ) := by
  refine qx_met (by decide) (Nat.le_of_ble_eq_true rfl) (by intro v hv; simp only [List.mem_cons, List.not_mem_nil, or_false] at hv; rcases hv with rfl | rfl | rfl <;> rfl) (fun K C => ?_)
  refine qx_iload_n C dX3_mayStand_0 rfl rfl ?_
  refine qx_aload_n C dX3_mayStand_1 rfl rfl ?_
  refine qx_iload_n C dX3_mayStand_2 rfl rfl ?_
  refine qx_iconst C (v := 5) dX3_mayStand_3 rfl ?_
  refine qx_callVI C (b := 1) (As := [_, _]) (n := 2) (c_X3_trait F (d + 0) _ p 5 (by omega) (by omega)) rfl rfl qw_294 qw_295 qw_296 qw_40 qw_297 ⟨rfl, by decide, by decide, by decide +kernel⟩ (qx_room (by omega) (by decide)) rfl rfl (Nat.le_of_ble_eq_true rfl) dX3_mayStand_4 ?_
  refine qx_icmp_gt C (tgt := 14) dX3_mayStand_7 (by decide) (fun h7 => ?_) (fun h7 => ?_)
  · refine qx_iconst C (v := 0) dX3_mayStand_14 rfl ?_
    exact qx_iret C dX3_mayStand_15 rfl (by first | rfl | exact (if_neg h7).symm | exact (if_neg (Int32.not_le.mpr h7)).symm | exact (if_neg (mt And.left (Int32.not_le.mpr h7))).symm | exact (if_neg (mt And.right (Int32.not_le.mpr h7))).symm | exact (if_neg (mt And.left h7)).symm | exact (if_neg (mt And.right h7)).symm | simp [h7]) rfl
  · refine qx_iconst C (v := 1) dX3_mayStand_10 rfl ?_
    refine qx_goto C (tgt := 15) dX3_mayStand_11 (by decide) ?_
    exact qx_iret C dX3_mayStand_15 rfl (by first | rfl | exact (if_pos h7).symm | exact (if_pos (Int32.not_lt.mp h7)).symm | simp [h7]) rfl
set_option maxRecDepth 20000 in
set_option maxHeartbeats 4000000 in
theorem c_X3_doClash (F : qx_F) (d : Nat) (σ : qx_S) (a b : Nat) (ha : a < 4) (hb : b < 4) : qx_cI F shC ⟨"NightStalls$Street", "doClash", "(II)Z"⟩ (.code ⟨"NightStalls$Street", "doClash", "(II)Z"⟩ prog_5_method_12_code 3 ((some FieldType.boolean)) :: qx_W) (qx_R (d + 1)) [.ref (fa F 1), .int (nI a), .int (nI b)] σ (if σ 4 (a * 4 + b) = 1 then 1 else 0) (σ) := by
  refine qx_met (by decide) (Nat.le_of_ble_eq_true rfl) (by intro v hv; simp only [List.mem_cons, List.not_mem_nil, or_false] at hv; rcases hv with rfl | rfl | rfl <;> rfl) (fun K C => ?_)
  refine qx_aload_n C dX3_doClash_0 rfl rfl ?_
  refine qx_getR C (j := 1) (k := 4) hiX3 rfl rfl (by decide) qw_70 rfl dX3_doClash_1 ?_
  refine qx_iload_n C dX3_doClash_4 rfl rfl ?_
  refine qx_iconst C (v := 4) dX3_doClash_5 rfl ?_
  refine qx_imulE C dX3_doClash_6 (pk_mul a 4) ?_
  refine qx_iload_n C dX3_doClash_7 rfl rfl ?_
  refine qx_iaddE C dX3_doClash_8 (nI_add (a * 4) b) ?_
  refine qx_ialdN C (j := 4) rfl ⟨by omega, by decide⟩ dX3_doClash_9 ?_
  refine qx_iconst C (v := 1) dX3_doClash_10 rfl ?_
  refine qx_icmp_ne C (tgt := 18) dX3_doClash_11 (by decide) (fun h11 => ?_) (fun h11 => ?_)
  · refine qx_iconst C (v := 0) dX3_doClash_18 rfl ?_
    exact qx_iret C dX3_doClash_19 rfl (by first | rfl | exact (if_neg h11).symm | exact (if_neg (Int32.not_le.mpr h11)).symm | exact (if_neg (mt And.left (Int32.not_le.mpr h11))).symm | exact (if_neg (mt And.right (Int32.not_le.mpr h11))).symm | exact (if_neg (mt And.left h11)).symm | exact (if_neg (mt And.right h11)).symm | simp [h11]) rfl
  · refine qx_iconst C (v := 1) dX3_doClash_14 rfl ?_
    refine qx_goto C (tgt := 19) dX3_doClash_15 (by decide) ?_
    exact qx_iret C dX3_doClash_19 rfl (by first | rfl | exact (if_pos h11).symm | exact (if_pos (Int32.not_lt.mp h11)).symm | simp [h11]) rfl
set_option maxRecDepth 20000 in
set_option maxHeartbeats 4000000 in
theorem c_X3_setPlaceFact (F : qx_F) (d : Nat) (σ : qx_S) (p w : Nat) (v : Int32) (hp : p < 8) (hw : w < 3) : qx_cI F shC ⟨"NightStalls$Street", "setPlaceFact", "(III)I"⟩ (.code ⟨"NightStalls$Street", "setPlaceFact", "(III)I"⟩ prog_5_method_6_code 5 ((some FieldType.int)) :: qx_W) (qx_R (d + 2)) [.ref (fa F 1), .int (nI p), .int (nI w), .int v] σ (σ 2 (p * 3 + w)) (qs σ 2 (p * 3 + w) v) := by
  refine qx_met (by decide) (Nat.le_of_ble_eq_true rfl) (by intro v hv; simp only [List.mem_cons, List.not_mem_nil, or_false] at hv; rcases hv with rfl | rfl | rfl | rfl <;> rfl) (fun K C => ?_)
  refine qx_aload_n C dX3_setPlaceFact_0 rfl rfl ?_
  refine qx_iload_n C dX3_setPlaceFact_1 rfl rfl ?_
  refine qx_iload_n C dX3_setPlaceFact_2 rfl rfl ?_
  refine qx_callVI C (b := 1) (As := [_, _]) (n := 2) (c_X3_placeFact F (d + 0) _ p w (by omega) (by omega)) rfl rfl qw_242 qw_243 qw_244 qw_40 qw_245 ⟨rfl, by decide, by decide, by decide +kernel⟩ (qx_room (by omega) (by decide)) rfl rfl (Nat.le_of_ble_eq_true rfl) dX3_setPlaceFact_3 ?_
  refine qx_istore C dX3_setPlaceFact_6 (Nat.le_of_ble_eq_true rfl) ?_
  refine qx_aload_n C dX3_setPlaceFact_8 rfl rfl ?_
  refine qx_getR C (j := 1) (k := 2) hiX3 rfl rfl (by decide) qw_68 rfl dX3_setPlaceFact_9 ?_
  refine qx_iload_n C dX3_setPlaceFact_12 rfl rfl ?_
  refine qx_iconst C (v := 3) dX3_setPlaceFact_13 rfl ?_
  refine qx_imulE C dX3_setPlaceFact_14 (pk_mul p 3) ?_
  refine qx_iload_n C dX3_setPlaceFact_15 rfl rfl ?_
  refine qx_iaddE C dX3_setPlaceFact_16 (nI_add (p * 3) w) ?_
  refine qx_iload_n C dX3_setPlaceFact_17 rfl rfl ?_
  refine qx_iastN C (j := 2) rfl ⟨by omega, by decide⟩ dX3_setPlaceFact_18 ?_
  refine qx_iload C dX3_setPlaceFact_19 rfl ?_
  exact qx_iret C dX3_setPlaceFact_21 rfl rfl rfl
set_option maxRecDepth 20000 in
set_option maxHeartbeats 4000000 in
theorem c_X3_setLimit (F : qx_F) (d : Nat) (σ : qx_S) (k : Nat) (v : Int32) (hk : k < 3) : qx_cI F shC ⟨"NightStalls$Street", "setLimit", "(II)I"⟩ (.code ⟨"NightStalls$Street", "setLimit", "(II)I"⟩ prog_5_method_11_code 4 ((some FieldType.int)) :: qx_W) (qx_R (d + 1)) [.ref (fa F 1), .int (nI k), .int v] σ (σ 3 k) (qs σ 3 k v) := by
  refine qx_met (by decide) (Nat.le_of_ble_eq_true rfl) (by intro v hv; simp only [List.mem_cons, List.not_mem_nil, or_false] at hv; rcases hv with rfl | rfl | rfl <;> rfl) (fun K C => ?_)
  refine qx_aload_n C dX3_setLimit_0 rfl rfl ?_
  refine qx_getR C (j := 1) (k := 3) hiX3 rfl rfl (by decide) qw_69 rfl dX3_setLimit_1 ?_
  refine qx_iload_n C dX3_setLimit_4 rfl rfl ?_
  refine qx_ialdN C (j := 3) rfl ⟨by omega, by decide⟩ dX3_setLimit_5 ?_
  refine qx_istore_n C dX3_setLimit_6 rfl (Nat.le_of_ble_eq_true rfl) ?_
  refine qx_aload_n C dX3_setLimit_7 rfl rfl ?_
  refine qx_getR C (j := 1) (k := 3) hiX3 rfl rfl (by decide) qw_69 rfl dX3_setLimit_8 ?_
  refine qx_iload_n C dX3_setLimit_11 rfl rfl ?_
  refine qx_iload_n C dX3_setLimit_12 rfl rfl ?_
  refine qx_iastN C (j := 3) rfl ⟨by omega, by decide⟩ dX3_setLimit_13 ?_
  refine qx_iload_n C dX3_setLimit_14 rfl rfl ?_
  exact qx_iret C dX3_setLimit_15 rfl rfl rfl
set_option maxRecDepth 20000 in
set_option maxHeartbeats 4000000 in
theorem c_X3_setRule (F : qx_F) (d : Nat) (σ : qx_S) (k : Nat) (v : Int32) (hk : k < 2) : qx_cI F shC ⟨"NightStalls$Street", "setRule", "(II)I"⟩ (.code ⟨"NightStalls$Street", "setRule", "(II)I"⟩ prog_5_method_15_code 4 ((some FieldType.int)) :: qx_W) (qx_R (d + 1)) [.ref (fa F 1), .int (nI k), .int v] σ (σ 5 k) (qs σ 5 k v) := by
  refine qx_met (by decide) (Nat.le_of_ble_eq_true rfl) (by intro v hv; simp only [List.mem_cons, List.not_mem_nil, or_false] at hv; rcases hv with rfl | rfl | rfl <;> rfl) (fun K C => ?_)
  refine qx_aload_n C dX3_setRule_0 rfl rfl ?_
  refine qx_getR C (j := 1) (k := 5) hiX3 rfl rfl (by decide) qw_71 rfl dX3_setRule_1 ?_
  refine qx_iload_n C dX3_setRule_4 rfl rfl ?_
  refine qx_ialdN C (j := 5) rfl ⟨by omega, by decide⟩ dX3_setRule_5 ?_
  refine qx_istore_n C dX3_setRule_6 rfl (Nat.le_of_ble_eq_true rfl) ?_
  refine qx_aload_n C dX3_setRule_7 rfl rfl ?_
  refine qx_getR C (j := 1) (k := 5) hiX3 rfl rfl (by decide) qw_71 rfl dX3_setRule_8 ?_
  refine qx_iload_n C dX3_setRule_11 rfl rfl ?_
  refine qx_iload_n C dX3_setRule_12 rfl rfl ?_
  refine qx_iastN C (j := 5) rfl ⟨by omega, by decide⟩ dX3_setRule_13 ?_
  refine qx_iload_n C dX3_setRule_14 rfl rfl ?_
  exact qx_iret C dX3_setRule_15 rfl rfl rfl
set_option maxRecDepth 20000 in
set_option maxHeartbeats 4000000 in
theorem c_X3_setTrait (F : qx_F) (d : Nat) (σ : qx_S) (p w : Nat) (v : Int32) (hp : p < 5) (hw : w < 6) : qx_cI F shC ⟨"NightStalls$Street", "setTrait", "(III)I"⟩ (.code ⟨"NightStalls$Street", "setTrait", "(III)I"⟩ prog_5_method_17_code 5 ((some FieldType.int)) :: qx_W) (qx_R (d + 2)) [.ref (fa F 1), .int (nI p), .int (nI w), .int v] σ (σ 6 (p * 6 + w)) (qs σ 6 (p * 6 + w) v) := by
  refine qx_met (by decide) (Nat.le_of_ble_eq_true rfl) (by intro v hv; simp only [List.mem_cons, List.not_mem_nil, or_false] at hv; rcases hv with rfl | rfl | rfl | rfl <;> rfl) (fun K C => ?_)
  refine qx_aload_n C dX3_setTrait_0 rfl rfl ?_
  refine qx_iload_n C dX3_setTrait_1 rfl rfl ?_
  refine qx_iload_n C dX3_setTrait_2 rfl rfl ?_
  refine qx_callVI C (b := 1) (As := [_, _]) (n := 2) (c_X3_trait F (d + 0) _ p w (by omega) (by omega)) rfl rfl qw_294 qw_295 qw_296 qw_40 qw_297 ⟨rfl, by decide, by decide, by decide +kernel⟩ (qx_room (by omega) (by decide)) rfl rfl (Nat.le_of_ble_eq_true rfl) dX3_setTrait_3 ?_
  refine qx_istore C dX3_setTrait_6 (Nat.le_of_ble_eq_true rfl) ?_
  refine qx_aload_n C dX3_setTrait_8 rfl rfl ?_
  refine qx_getR C (j := 1) (k := 6) hiX3 rfl rfl (by decide) qw_72 rfl dX3_setTrait_9 ?_
  refine qx_iload_n C dX3_setTrait_12 rfl rfl ?_
  refine qx_bipush C (v := 6) dX3_setTrait_13 rfl ?_
  refine qx_imulE C dX3_setTrait_15 (pk_mul p 6) ?_
  refine qx_iload_n C dX3_setTrait_16 rfl rfl ?_
  refine qx_iaddE C dX3_setTrait_17 (nI_add (p * 6) w) ?_
  refine qx_iload_n C dX3_setTrait_18 rfl rfl ?_
  refine qx_iastN C (j := 6) rfl ⟨by omega, by decide⟩ dX3_setTrait_19 ?_
  refine qx_iload C dX3_setTrait_20 rfl ?_
  exact qx_iret C dX3_setTrait_22 rfl rfl rfl
set_option maxRecDepth 20000 in
set_option maxHeartbeats 4000000 in
theorem c_X3_setClash1 (F : qx_F) (d : Nat) (σ : qx_S) (a b : Nat) (ha : a < 4) (hb : b < 4) : qx_cI F shC ⟨"NightStalls$Street", "setClash", "(IIZ)Z"⟩ (.code ⟨"NightStalls$Street", "setClash", "(IIZ)Z"⟩ prog_5_method_13_code 5 ((some FieldType.boolean)) :: qx_W) (qx_R (d + 2)) [.ref (fa F 1), .int (nI a), .int (nI b), .int 1] σ (if σ 4 (a * 4 + b) = 1 then 0 else 1) (qs (qs σ 4 (a * 4 + b) 1) 4 (b * 4 + a) 1) := by
  refine qx_met (by decide) (Nat.le_of_ble_eq_true rfl) (by intro v hv; simp only [List.mem_cons, List.not_mem_nil, or_false] at hv; rcases hv with rfl | rfl | rfl | rfl <;> rfl) (fun K C => ?_)
  refine qx_aload_n C dX3_setClash_0 rfl rfl ?_
  refine qx_iload_n C dX3_setClash_1 rfl rfl ?_
  refine qx_iload_n C dX3_setClash_2 rfl rfl ?_
  refine qx_callVI C (b := 1) (As := [_, _]) (n := 2) (c_X3_doClash F (d + 0) _ a b (by omega) (by omega)) rfl rfl qw_265 qw_266 qw_267 qw_40 qw_268 ⟨rfl, by decide, by decide, by decide +kernel⟩ (qx_room (by omega) (by decide)) rfl rfl (Nat.le_of_ble_eq_true rfl) dX3_setClash_3 ?_
  refine qx_split _ (fun h3 => ?_) (fun h3 => ?_)
  · refine qx_iload_n C dX3_setClash_6 rfl rfl ?_
    refine qx_icmp_eq_t C (tgt := 14) dX3_setClash_7 (by decide) (by decide) ?_
    refine qx_iconst C (v := 0) dX3_setClash_14 rfl ?_
    refine qx_istore C dX3_setClash_15 (Nat.le_of_ble_eq_true rfl) ?_
    refine qx_aload_n C dX3_setClash_17 rfl rfl ?_
    refine qx_getR C (j := 1) (k := 4) hiX3 rfl rfl (by decide) qw_70 rfl dX3_setClash_18 ?_
    refine qx_iload_n C dX3_setClash_21 rfl rfl ?_
    refine qx_iconst C (v := 4) dX3_setClash_22 rfl ?_
    refine qx_imulE C dX3_setClash_23 (pk_mul a 4) ?_
    refine qx_iload_n C dX3_setClash_24 rfl rfl ?_
    refine qx_iaddE C dX3_setClash_25 (nI_add (a * 4) b) ?_
    refine qx_iload_n C dX3_setClash_26 rfl rfl ?_
    refine qx_if_eq_f C (tgt := 34) dX3_setClash_27 (by decide) (by decide) ?_
    refine qx_iconst C (v := 1) dX3_setClash_30 rfl ?_
    refine qx_goto C (tgt := 35) dX3_setClash_31 (by decide) ?_
    refine qx_iastN C (j := 4) rfl ⟨by omega, by decide⟩ dX3_setClash_35 ?_
    refine qx_aload_n C dX3_setClash_36 rfl rfl ?_
    refine qx_getR C (j := 1) (k := 4) hiX3 rfl rfl (by decide) qw_70 rfl dX3_setClash_37 ?_
    refine qx_iload_n C dX3_setClash_40 rfl rfl ?_
    refine qx_iconst C (v := 4) dX3_setClash_41 rfl ?_
    refine qx_imulE C dX3_setClash_42 (pk_mul b 4) ?_
    refine qx_iload_n C dX3_setClash_43 rfl rfl ?_
    refine qx_iaddE C dX3_setClash_44 (nI_add (b * 4) a) ?_
    refine qx_iload_n C dX3_setClash_45 rfl rfl ?_
    refine qx_if_eq_f C (tgt := 53) dX3_setClash_46 (by decide) (by decide) ?_
    refine qx_iconst C (v := 1) dX3_setClash_49 rfl ?_
    refine qx_goto C (tgt := 54) dX3_setClash_50 (by decide) ?_
    refine qx_iastN C (j := 4) rfl ⟨by omega, by decide⟩ dX3_setClash_54 ?_
    refine qx_iload C dX3_setClash_55 rfl ?_
    exact qx_iret C dX3_setClash_57 rfl (by first | rfl | exact (if_neg h3).symm | exact (if_neg (Int32.not_le.mpr h3)).symm | exact (if_neg (mt And.left (Int32.not_le.mpr h3))).symm | exact (if_neg (mt And.right (Int32.not_le.mpr h3))).symm | exact (if_neg (mt And.left h3)).symm | exact (if_neg (mt And.right h3)).symm | simp [h3]) rfl
  · refine qx_iload_n C dX3_setClash_6 rfl rfl ?_
    refine qx_icmp_eq_f C (tgt := 14) dX3_setClash_7 (by decide) (by decide) ?_
    refine qx_iconst C (v := 1) dX3_setClash_10 rfl ?_
    refine qx_goto C (tgt := 15) dX3_setClash_11 (by decide) ?_
    refine qx_istore C dX3_setClash_15 (Nat.le_of_ble_eq_true rfl) ?_
    refine qx_aload_n C dX3_setClash_17 rfl rfl ?_
    refine qx_getR C (j := 1) (k := 4) hiX3 rfl rfl (by decide) qw_70 rfl dX3_setClash_18 ?_
    refine qx_iload_n C dX3_setClash_21 rfl rfl ?_
    refine qx_iconst C (v := 4) dX3_setClash_22 rfl ?_
    refine qx_imulE C dX3_setClash_23 (pk_mul a 4) ?_
    refine qx_iload_n C dX3_setClash_24 rfl rfl ?_
    refine qx_iaddE C dX3_setClash_25 (nI_add (a * 4) b) ?_
    refine qx_iload_n C dX3_setClash_26 rfl rfl ?_
    refine qx_if_eq_f C (tgt := 34) dX3_setClash_27 (by decide) (by decide) ?_
    refine qx_iconst C (v := 1) dX3_setClash_30 rfl ?_
    refine qx_goto C (tgt := 35) dX3_setClash_31 (by decide) ?_
    refine qx_iastN C (j := 4) rfl ⟨by omega, by decide⟩ dX3_setClash_35 ?_
    refine qx_aload_n C dX3_setClash_36 rfl rfl ?_
    refine qx_getR C (j := 1) (k := 4) hiX3 rfl rfl (by decide) qw_70 rfl dX3_setClash_37 ?_
    refine qx_iload_n C dX3_setClash_40 rfl rfl ?_
    refine qx_iconst C (v := 4) dX3_setClash_41 rfl ?_
    refine qx_imulE C dX3_setClash_42 (pk_mul b 4) ?_
    refine qx_iload_n C dX3_setClash_43 rfl rfl ?_
    refine qx_iaddE C dX3_setClash_44 (nI_add (b * 4) a) ?_
    refine qx_iload_n C dX3_setClash_45 rfl rfl ?_
    refine qx_if_eq_f C (tgt := 53) dX3_setClash_46 (by decide) (by decide) ?_
    refine qx_iconst C (v := 1) dX3_setClash_49 rfl ?_
    refine qx_goto C (tgt := 54) dX3_setClash_50 (by decide) ?_
    refine qx_iastN C (j := 4) rfl ⟨by omega, by decide⟩ dX3_setClash_54 ?_
    refine qx_iload C dX3_setClash_55 rfl ?_
    exact qx_iret C dX3_setClash_57 rfl (by first | rfl | exact (if_pos h3).symm | exact (if_pos (Int32.not_lt.mp h3)).symm | simp [h3]) rfl
set_option maxRecDepth 20000 in
set_option maxHeartbeats 4000000 in
theorem c_X3_setClash0 (F : qx_F) (d : Nat) (σ : qx_S) (a b : Nat) (ha : a < 4) (hb : b < 4) : qx_cI F shC ⟨"NightStalls$Street", "setClash", "(IIZ)Z"⟩ (.code ⟨"NightStalls$Street", "setClash", "(IIZ)Z"⟩ prog_5_method_13_code 5 ((some FieldType.boolean)) :: qx_W) (qx_R (d + 2)) [.ref (fa F 1), .int (nI a), .int (nI b), .int 0] σ (if σ 4 (a * 4 + b) = 1 then 1 else 0) (qs (qs σ 4 (a * 4 + b) 0) 4 (b * 4 + a) 0) := by
  refine qx_met (by decide) (Nat.le_of_ble_eq_true rfl) (by intro v hv; simp only [List.mem_cons, List.not_mem_nil, or_false] at hv; rcases hv with rfl | rfl | rfl | rfl <;> rfl) (fun K C => ?_)
  refine qx_aload_n C dX3_setClash_0 rfl rfl ?_
  refine qx_iload_n C dX3_setClash_1 rfl rfl ?_
  refine qx_iload_n C dX3_setClash_2 rfl rfl ?_
  refine qx_callVI C (b := 1) (As := [_, _]) (n := 2) (c_X3_doClash F (d + 0) _ a b (by omega) (by omega)) rfl rfl qw_265 qw_266 qw_267 qw_40 qw_268 ⟨rfl, by decide, by decide, by decide +kernel⟩ (qx_room (by omega) (by decide)) rfl rfl (Nat.le_of_ble_eq_true rfl) dX3_setClash_3 ?_
  refine qx_split _ (fun h3 => ?_) (fun h3 => ?_)
  · refine qx_iload_n C dX3_setClash_6 rfl rfl ?_
    refine qx_icmp_eq_f C (tgt := 14) dX3_setClash_7 (by decide) (by decide) ?_
    refine qx_iconst C (v := 1) dX3_setClash_10 rfl ?_
    refine qx_goto C (tgt := 15) dX3_setClash_11 (by decide) ?_
    refine qx_istore C dX3_setClash_15 (Nat.le_of_ble_eq_true rfl) ?_
    refine qx_aload_n C dX3_setClash_17 rfl rfl ?_
    refine qx_getR C (j := 1) (k := 4) hiX3 rfl rfl (by decide) qw_70 rfl dX3_setClash_18 ?_
    refine qx_iload_n C dX3_setClash_21 rfl rfl ?_
    refine qx_iconst C (v := 4) dX3_setClash_22 rfl ?_
    refine qx_imulE C dX3_setClash_23 (pk_mul a 4) ?_
    refine qx_iload_n C dX3_setClash_24 rfl rfl ?_
    refine qx_iaddE C dX3_setClash_25 (nI_add (a * 4) b) ?_
    refine qx_iload_n C dX3_setClash_26 rfl rfl ?_
    refine qx_if_eq_t C (tgt := 34) dX3_setClash_27 (by decide) (by decide) ?_
    refine qx_iconst C (v := 0) dX3_setClash_34 rfl ?_
    refine qx_iastN C (j := 4) rfl ⟨by omega, by decide⟩ dX3_setClash_35 ?_
    refine qx_aload_n C dX3_setClash_36 rfl rfl ?_
    refine qx_getR C (j := 1) (k := 4) hiX3 rfl rfl (by decide) qw_70 rfl dX3_setClash_37 ?_
    refine qx_iload_n C dX3_setClash_40 rfl rfl ?_
    refine qx_iconst C (v := 4) dX3_setClash_41 rfl ?_
    refine qx_imulE C dX3_setClash_42 (pk_mul b 4) ?_
    refine qx_iload_n C dX3_setClash_43 rfl rfl ?_
    refine qx_iaddE C dX3_setClash_44 (nI_add (b * 4) a) ?_
    refine qx_iload_n C dX3_setClash_45 rfl rfl ?_
    refine qx_if_eq_t C (tgt := 53) dX3_setClash_46 (by decide) (by decide) ?_
    refine qx_iconst C (v := 0) dX3_setClash_53 rfl ?_
    refine qx_iastN C (j := 4) rfl ⟨by omega, by decide⟩ dX3_setClash_54 ?_
    refine qx_iload C dX3_setClash_55 rfl ?_
    exact qx_iret C dX3_setClash_57 rfl (by first | rfl | exact (if_pos h3).symm | exact (if_pos (Int32.not_lt.mp h3)).symm | simp [h3]) rfl
  · refine qx_iload_n C dX3_setClash_6 rfl rfl ?_
    refine qx_icmp_eq_t C (tgt := 14) dX3_setClash_7 (by decide) (by decide) ?_
    refine qx_iconst C (v := 0) dX3_setClash_14 rfl ?_
    refine qx_istore C dX3_setClash_15 (Nat.le_of_ble_eq_true rfl) ?_
    refine qx_aload_n C dX3_setClash_17 rfl rfl ?_
    refine qx_getR C (j := 1) (k := 4) hiX3 rfl rfl (by decide) qw_70 rfl dX3_setClash_18 ?_
    refine qx_iload_n C dX3_setClash_21 rfl rfl ?_
    refine qx_iconst C (v := 4) dX3_setClash_22 rfl ?_
    refine qx_imulE C dX3_setClash_23 (pk_mul a 4) ?_
    refine qx_iload_n C dX3_setClash_24 rfl rfl ?_
    refine qx_iaddE C dX3_setClash_25 (nI_add (a * 4) b) ?_
    refine qx_iload_n C dX3_setClash_26 rfl rfl ?_
    refine qx_if_eq_t C (tgt := 34) dX3_setClash_27 (by decide) (by decide) ?_
    refine qx_iconst C (v := 0) dX3_setClash_34 rfl ?_
    refine qx_iastN C (j := 4) rfl ⟨by omega, by decide⟩ dX3_setClash_35 ?_
    refine qx_aload_n C dX3_setClash_36 rfl rfl ?_
    refine qx_getR C (j := 1) (k := 4) hiX3 rfl rfl (by decide) qw_70 rfl dX3_setClash_37 ?_
    refine qx_iload_n C dX3_setClash_40 rfl rfl ?_
    refine qx_iconst C (v := 4) dX3_setClash_41 rfl ?_
    refine qx_imulE C dX3_setClash_42 (pk_mul b 4) ?_
    refine qx_iload_n C dX3_setClash_43 rfl rfl ?_
    refine qx_iaddE C dX3_setClash_44 (nI_add (b * 4) a) ?_
    refine qx_iload_n C dX3_setClash_45 rfl rfl ?_
    refine qx_if_eq_t C (tgt := 53) dX3_setClash_46 (by decide) (by decide) ?_
    refine qx_iconst C (v := 0) dX3_setClash_53 rfl ?_
    refine qx_iastN C (j := 4) rfl ⟨by omega, by decide⟩ dX3_setClash_54 ?_
    refine qx_iload C dX3_setClash_55 rfl ?_
    exact qx_iret C dX3_setClash_57 rfl (by first | rfl | exact (if_neg h3).symm | exact (if_neg (Int32.not_le.mpr h3)).symm | exact (if_neg (mt And.left (Int32.not_le.mpr h3))).symm | exact (if_neg (mt And.right (Int32.not_le.mpr h3))).symm | exact (if_neg (mt And.left h3)).symm | exact (if_neg (mt And.right h3)).symm | simp [h3]) rfl
set_option maxRecDepth 20000 in
set_option maxHeartbeats 4000000 in
theorem c_X3_lanes (F : qx_F) (d : Nat) (σ : qx_S) (P : Nat) (hP : σ 1 0 = nI P) (hP8 : P ≤ 8) : qx_cI F shC ⟨"NightStalls$Street", "lanes", "()I"⟩ (.code ⟨"NightStalls$Street", "lanes", "()I"⟩ prog_5_method_9_code 3 ((some FieldType.int)) :: qx_W) (qx_R (d + 2)) [.ref (fa F 1)] σ (qsum (fun p => σ 2 (p * 3 + 2)) P) (σ) := by
  refine qx_met (by decide) (Nat.le_of_ble_eq_true rfl) (by intro v hv; simp only [List.mem_cons, List.not_mem_nil, or_false] at hv; rcases hv with rfl <;> rfl) (fun K C => ?_)
  refine qx_iconst C (v := 0) dX3_lanes_0 rfl ?_
  refine qx_istore_n C dX3_lanes_1 rfl (Nat.le_of_ble_eq_true rfl) ?_
  refine qx_iconst C (v := 0) dX3_lanes_2 rfl ?_
  refine qx_istore_n C dX3_lanes_3 rfl (Nat.le_of_ble_eq_true rfl) ?_
  refine qx_to (qx_up P (P := fun i => qx_X K F shC (σ) 4 [some (.ref (fa F 1)), some (.int (qsum (fun p => σ 2 (p * 3 + 2)) i)), some (.int (nI i))] []) (fun i hi hki => ?_) ?_) rfl rfl
  · refine qx_iload_n C dX3_lanes_4 rfl rfl ?_
    refine qx_aload_n C dX3_lanes_5 rfl rfl ?_
    refine qx_getI C (j := 1) (k := 0) hiX3 rfl rfl (by decide) qw_61 rfl dX3_lanes_6 ?_
    refine qx_icmp_ge_f C (tgt := 27) dX3_lanes_9 (by decide) (by rw [hP]; exact nI_ge hi (by omega)) ?_
    refine qx_iload_n C dX3_lanes_12 rfl rfl ?_
    refine qx_aload_n C dX3_lanes_13 rfl rfl ?_
    refine qx_iload_n C dX3_lanes_14 rfl rfl ?_
    refine qx_iconst C (v := 2) dX3_lanes_15 rfl ?_
    refine qx_callVI C (b := 1) (As := [_, _]) (n := 2) (c_X3_placeFact F (d + 0) _ i 2 (by omega) (by omega)) rfl rfl qw_242 qw_243 qw_244 qw_40 qw_245 ⟨rfl, by decide, by decide, by decide +kernel⟩ (qx_room (by omega) (by decide)) rfl rfl (Nat.le_of_ble_eq_true rfl) dX3_lanes_16 ?_
    refine qx_iadd C dX3_lanes_19 ?_
    refine qx_istore_n C dX3_lanes_20 rfl (Nat.le_of_ble_eq_true rfl) ?_
    refine qx_iincN C dX3_lanes_21 rfl ?_
    refine qx_goto C (tgt := 4) dX3_lanes_24 (by decide) ?_
    exact (qx_to hki rfl rfl)
  · refine qx_iload_n C dX3_lanes_4 rfl rfl ?_
    refine qx_aload_n C dX3_lanes_5 rfl rfl ?_
    refine qx_getI C (j := 1) (k := 0) hiX3 rfl rfl (by decide) qw_61 rfl dX3_lanes_6 ?_
    refine qx_icmp_ge_t C (tgt := 27) dX3_lanes_9 (by decide) (by rw [hP]; exact nI_le (Nat.le_refl _) (by omega)) ?_
    refine qx_iload_n C dX3_lanes_27 rfl rfl ?_
    exact qx_iret C dX3_lanes_28 rfl rfl rfl
set_option maxRecDepth 20000 in
set_option maxHeartbeats 4000000 in
theorem c_X3_layOut (F : qx_F) (d : Nat) (σ : qx_S) (n : Int32) : qx_cV F shC ⟨"NightStalls$Street", "layOut", "(I)V"⟩ (.code ⟨"NightStalls$Street", "layOut", "(I)V"⟩ prog_5_method_2_code 3 ((none : Option FieldType)) :: qx_W) (qx_R (d + 1)) [.ref (fa F 1), .int n] σ (qf (fun k τ => qs τ 2 k 0) (qs σ 1 0 n) 24) := by
  refine qx_met (by decide) (Nat.le_of_ble_eq_true rfl) (by intro v hv; simp only [List.mem_cons, List.not_mem_nil, or_false] at hv; rcases hv with rfl | rfl <;> rfl) (fun K C => ?_)
  refine qx_aload_n C dX3_layOut_0 rfl rfl ?_
  refine qx_iload_n C dX3_layOut_1 rfl rfl ?_
  refine qx_put C (j := 1) (k := 0) hiX3 rfl rfl (by decide) tyX3 tyX3_ok nmX3 qw_61 rfl rfl rfl rfl dX3_layOut_2 ?_
  refine qx_iconst C (v := 0) dX3_layOut_5 rfl ?_
  refine qx_istore_n C dX3_layOut_6 rfl (Nat.le_of_ble_eq_true rfl) ?_
  refine qx_to (qx_up 24 (P := fun i => qx_X K F shC (qf (fun k τ => qs τ 2 k 0) (qs σ 1 0 n) i) 7 [some (.ref (fa F 1)), some (.int n), some (.int (nI i))] []) (fun i hi hki => ?_) ?_) rfl rfl
  · refine qx_iload_n C dX3_layOut_7 rfl rfl ?_
    refine qx_aload_n C dX3_layOut_8 rfl rfl ?_
    refine qx_getR C (j := 1) (k := 2) hiX3 rfl rfl (by decide) qw_68 rfl dX3_layOut_9 ?_
    refine qx_alen C (j := 2) (v := 24) rfl rfl dX3_layOut_12 ?_
    refine qx_icmp_ge_f C (tgt := 29) dX3_layOut_13 (by decide) (nI_ge (b := 24) hi (by decide)) ?_
    refine qx_aload_n C dX3_layOut_16 rfl rfl ?_
    refine qx_getR C (j := 1) (k := 2) hiX3 rfl rfl (by decide) qw_68 rfl dX3_layOut_17 ?_
    refine qx_iload_n C dX3_layOut_20 rfl rfl ?_
    refine qx_iconst C (v := 0) dX3_layOut_21 rfl ?_
    refine qx_iastN C (j := 2) rfl ⟨by omega, by decide⟩ dX3_layOut_22 ?_
    refine qx_iincN C dX3_layOut_23 rfl ?_
    refine qx_goto C (tgt := 7) dX3_layOut_26 (by decide) ?_
    exact (qx_to hki rfl rfl)
  · refine qx_iload_n C dX3_layOut_7 rfl rfl ?_
    refine qx_aload_n C dX3_layOut_8 rfl rfl ?_
    refine qx_getR C (j := 1) (k := 2) hiX3 rfl rfl (by decide) qw_68 rfl dX3_layOut_9 ?_
    refine qx_alen C (j := 2) (v := 24) rfl rfl dX3_layOut_12 ?_
    refine qx_icmp_ge_t C (tgt := 29) dX3_layOut_13 (by decide) (nI_le (a := 24) (b := 24) (Nat.le_refl _) (by decide)) ?_
    exact qx_vret C dX3_layOut_29 rfl
