set_option maxRecDepth 20000 in
set_option maxHeartbeats 4000000 in
theorem c_X4_layout (F : qx_F) (d : Nat) (σ : qx_S) (night s : Int32) (P S : Nat) (hws : wS σ P S) : qx_cI F shC ⟨"NightStalls", "layout", "(II)I"⟩ (.code ⟨"NightStalls", "layout", "(II)I"⟩ prog_1_method_9_code 3 ((some FieldType.int)) :: qx_W) (qx_R (d + 17)) [.ref (fa F 0), .int night, .int s] σ ((fLayout σ night s P S).1) ((fLayout σ night s P S).2) := by
  refine qx_met (by decide) (Nat.le_of_ble_eq_true rfl) (by intro v hv; simp only [List.mem_cons, List.not_mem_nil, or_false] at hv; rcases hv with rfl | rfl | rfl <;> rfl) (fun K C => ?_)
  have hS5 := hws.2.2.2.2.2
  refine qx_iload_n C dX4_layout_0 rfl rfl ?_
  refine qx_callSI C (As := [_]) (n := 1) (c_X4_isNight F (d + 14) _ _) qw_310 qw_311 qw_39 qw_312 ⟨rfl, by decide, by decide, by decide +kernel⟩ (qx_room (by omega) (by decide)) rfl rfl (Nat.le_of_ble_eq_true rfl) dX4_layout_1 ?_
  refine qx_split _ (fun h1 => ?_) (fun h1 => ?_)
  · refine qx_if_eq_f C (tgt := 18) dX4_layout_4 (by decide) (by decide) ?_
    refine qx_aload_n C dX4_layout_7 rfl rfl ?_
    refine qx_getR C (j := 0) (k := 0) hiX4 rfl rfl (by decide) qw_193 rfl dX4_layout_8 ?_
    refine qx_iload_n C dX4_layout_11 rfl rfl ?_
    refine qx_callVI C (b := 1) (As := [_]) (n := 1) (c_X3_hasStall F (d + 14) _ _) rfl rfl qw_302 qw_303 qw_304 qw_40 qw_305 ⟨rfl, by decide, by decide, by decide +kernel⟩ (qx_room (by omega) (by decide)) rfl rfl (Nat.le_of_ble_eq_true rfl) dX4_layout_12 ?_
    refine qx_split _ (fun h12 => ?_) (fun h12 => ?_)
    · obtain ⟨s0, hs0, rfl⟩ := qx_has hws.2.2.2.2.1 (by have := hws.2.2.2.2.2; omega) h12
      have is0 : (nI s0).toNatClampNeg = s0 := nI_clamp (by omega)
      refine qx_if_ne_t C (tgt := 20) dX4_layout_15 (by decide) (by decide) ?_
      refine qx_aload_n C dX4_layout_20 rfl rfl ?_
      refine qx_getR C (j := 0) (k := 2) hiX4 rfl rfl (by decide) qw_195 rfl dX4_layout_21 ?_
      refine qx_iload_n C dX4_layout_24 rfl rfl ?_
      refine qx_callVv C (b := 21) (As := [_]) (n := 1) (c_X2_find F (d + 0) _ _ P S hws) rfl rfl qw_313 qw_314 qw_315 qw_43 qw_316 ⟨rfl, by decide, by decide, by decide +kernel⟩ (qx_room (by omega) (by decide)) rfl rfl (Nat.le_of_ble_eq_true rfl) dX4_layout_25 ?_
      refine qx_aload_n C dX4_layout_28 rfl rfl ?_
      refine qx_getR C (j := 0) (k := 2) hiX4 rfl rfl (by decide) qw_195 rfl dX4_layout_29 ?_
      refine qx_iload_n C dX4_layout_32 rfl rfl ?_
      refine qx_callVI C (b := 21) (As := [_]) (n := 1) (c_X2_placeOf F (d + 15) _ s0 (by omega)) rfl rfl qw_384 qw_385 qw_386 qw_43 qw_387 ⟨rfl, by decide, by decide, by decide +kernel⟩ (qx_room (by omega) (by decide)) rfl rfl (Nat.le_of_ble_eq_true rfl) dX4_layout_33 ?_
      exact qx_iret C dX4_layout_36 rfl (by first | rfl | simp [fLayout, h1, h12, is0]) (by first | rfl | simp [fLayout, h1, h12, is0])
    · refine qx_if_ne_f C (tgt := 20) dX4_layout_15 (by decide) (by decide) ?_
      refine qx_iconst C (v := (-1)) dX4_layout_18 rfl ?_
      exact qx_iret C dX4_layout_19 rfl (by first | rfl | simp [fLayout, h1, h12]) (by first | rfl | simp [fLayout, h1, h12])
  · refine qx_if_eq_t C (tgt := 18) dX4_layout_4 (by decide) (by decide) ?_
    refine qx_iconst C (v := (-1)) dX4_layout_18 rfl ?_
    exact qx_iret C dX4_layout_19 rfl (by first | rfl | simp [fLayout, h1]) (by first | rfl | simp [fLayout, h1])
set_option maxRecDepth 20000 in
set_option maxHeartbeats 4000000 in
theorem c_X4_worth (F : qx_F) (d : Nat) (σ : qx_S) (night : Int32) (P S : Nat) (hws : wS σ P S) : qx_cI F shC ⟨"NightStalls", "worth", "(I)I"⟩ (.code ⟨"NightStalls", "worth", "(I)I"⟩ prog_1_method_10_code 2 ((some FieldType.int)) :: qx_W) (qx_R (d + 17)) [.ref (fa F 0), .int night] σ ((fWorth σ night P S).1) ((fWorth σ night P S).2) := by
  refine qx_met (by decide) (Nat.le_of_ble_eq_true rfl) (by intro v hv; simp only [List.mem_cons, List.not_mem_nil, or_false] at hv; rcases hv with rfl | rfl <;> rfl) (fun K C => ?_)
  refine qx_iload_n C dX4_worth_0 rfl rfl ?_
  refine qx_callSI C (As := [_]) (n := 1) (c_X4_isNight F (d + 14) _ _) qw_310 qw_311 qw_39 qw_312 ⟨rfl, by decide, by decide, by decide +kernel⟩ (qx_room (by omega) (by decide)) rfl rfl (Nat.le_of_ble_eq_true rfl) dX4_worth_1 ?_
  refine qx_split _ (fun h1 => ?_) (fun h1 => ?_)
  · refine qx_if_ne_t C (tgt := 9) dX4_worth_4 (by decide) (by decide) ?_
    refine qx_aload_n C dX4_worth_9 rfl rfl ?_
    refine qx_getR C (j := 0) (k := 2) hiX4 rfl rfl (by decide) qw_195 rfl dX4_worth_10 ?_
    refine qx_iload_n C dX4_worth_13 rfl rfl ?_
    refine qx_callVv C (b := 21) (As := [_]) (n := 1) (c_X2_find F (d + 0) _ _ P S hws) rfl rfl qw_313 qw_314 qw_315 qw_43 qw_316 ⟨rfl, by decide, by decide, by decide +kernel⟩ (qx_room (by omega) (by decide)) rfl rfl (Nat.le_of_ble_eq_true rfl) dX4_worth_14 ?_
    refine qx_aload_n C dX4_worth_17 rfl rfl ?_
    refine qx_getR C (j := 0) (k := 2) hiX4 rfl rfl (by decide) qw_195 rfl dX4_worth_18 ?_
    refine qx_getIN C (j := 21) (k := 5) hiX2 rfl rfl (by decide) qn_0 rfl dX4_worth_21 ?_
    exact qx_iret C dX4_worth_24 rfl (by first | rfl | simp [fWorth, h1]) (by first | rfl | simp [fWorth, h1])
  · refine qx_if_ne_f C (tgt := 9) dX4_worth_4 (by decide) (by decide) ?_
    refine qx_iconst C (v := (-1)) dX4_worth_7 rfl ?_
    exact qx_iret C dX4_worth_8 rfl (by first | rfl | simp [fWorth, h1]) (by first | rfl | simp [fWorth, h1])
set_option maxRecDepth 20000 in
set_option maxHeartbeats 4000000 in
theorem c_X4_open (F : qx_F) (d : Nat) (σ : qx_S) (night : Int32) (P S : Nat) (hws : wS σ P S) : qx_cI F shC ⟨"NightStalls", "open", "(I)I"⟩ (.code ⟨"NightStalls", "open", "(I)I"⟩ prog_1_method_11_code 2 ((some FieldType.int)) :: qx_W) (qx_R (d + 17)) [.ref (fa F 0), .int night] σ ((fOpen σ night P S).1) ((fOpen σ night P S).2) := by
  refine qx_met (by decide) (Nat.le_of_ble_eq_true rfl) (by intro v hv; simp only [List.mem_cons, List.not_mem_nil, or_false] at hv; rcases hv with rfl | rfl <;> rfl) (fun K C => ?_)
  refine qx_aload_n C dX4_open_0 rfl rfl ?_
  refine qx_getR C (j := 0) (k := 1) hiX4 rfl rfl (by decide) qw_194 rfl dX4_open_1 ?_
  refine qx_getIN C (j := 7) (k := 2) hiX1 rfl rfl (by decide) qn_7 rfl dX4_open_4 ?_
  refine qx_if_eq C (tgt := 13) dX4_open_7 (by decide) (fun h7 => ?_) (fun h7 => ?_)
  · refine qx_iload_n C dX4_open_13 rfl rfl ?_
    refine qx_callSI C (As := [_]) (n := 1) (c_X4_isNight F (d + 14) _ _) qw_310 qw_311 qw_39 qw_312 ⟨rfl, by decide, by decide, by decide +kernel⟩ (qx_room (by omega) (by decide)) rfl rfl (Nat.le_of_ble_eq_true rfl) dX4_open_14 ?_
    refine qx_split _ (fun h14 => ?_) (fun h14 => ?_)
    · refine qx_if_ne_t C (tgt := 22) dX4_open_17 (by decide) (by decide) ?_
      refine qx_aload_n C dX4_open_22 rfl rfl ?_
      refine qx_getR C (j := 0) (k := 2) hiX4 rfl rfl (by decide) qw_195 rfl dX4_open_23 ?_
      refine qx_iload_n C dX4_open_26 rfl rfl ?_
      refine qx_callVv C (b := 21) (As := [_]) (n := 1) (c_X2_find F (d + 0) _ _ P S hws) rfl rfl qw_313 qw_314 qw_315 qw_43 qw_316 ⟨rfl, by decide, by decide, by decide +kernel⟩ (qx_room (by omega) (by decide)) rfl rfl (Nat.le_of_ble_eq_true rfl) dX4_open_27 ?_
      refine qx_aload_n C dX4_open_30 rfl rfl ?_
      refine qx_getR C (j := 0) (k := 1) hiX4 rfl rfl (by decide) qw_194 rfl dX4_open_31 ?_
      refine qx_callVv C (b := 7) (As := []) (n := 0) (c_X1_clear F (d + 15) _ ) rfl rfl qw_223 qw_224 qw_225 qw_41 qw_226 ⟨rfl, by decide, by decide, by decide +kernel⟩ (qx_room (by omega) (by decide)) rfl rfl (Nat.le_of_ble_eq_true rfl) dX4_open_34 ?_
      refine qx_aload_n C dX4_open_37 rfl rfl ?_
      refine qx_getR C (j := 0) (k := 1) hiX4 rfl rfl (by decide) qw_194 rfl dX4_open_38 ?_
      refine qx_aload_n C dX4_open_41 rfl rfl ?_
      refine qx_getR C (j := 0) (k := 2) hiX4 rfl rfl (by decide) qw_195 rfl dX4_open_42 ?_
      refine qx_callVv C (b := 7) (As := [_]) (n := 1) (c_X1_setUp F (d + 14) _ ) rfl rfl qw_396 qw_397 qw_398 qw_41 qw_399 ⟨rfl, by decide, by decide, by decide +kernel⟩ (qx_room (by omega) (by decide)) rfl rfl (Nat.le_of_ble_eq_true rfl) dX4_open_45 ?_
      refine qx_aload_n C dX4_open_48 rfl rfl ?_
      refine qx_getR C (j := 0) (k := 1) hiX4 rfl rfl (by decide) qw_194 rfl dX4_open_49 ?_
      refine qx_iconst C (v := 1) dX4_open_52 rfl ?_
      refine qx_putN C (j := 7) (k := 2) hiX1 rfl rfl (by decide) tyX1 tyX1_ok nmX1 qn_7 rfl rfl rfl rfl dX4_open_53 ?_
      refine qx_aload_n C dX4_open_56 rfl rfl ?_
      refine qx_getR C (j := 0) (k := 1) hiX4 rfl rfl (by decide) qw_194 rfl dX4_open_57 ?_
      refine qx_callVI C (b := 7) (As := []) (n := 0) (c_X1_standing F (d + 15) _ ) rfl rfl qw_401 qw_402 qw_403 qw_41 qw_404 ⟨rfl, by decide, by decide, by decide +kernel⟩ (qx_room (by omega) (by decide)) rfl rfl (Nat.le_of_ble_eq_true rfl) dX4_open_60 ?_
      exact qx_iret C dX4_open_63 rfl (by first | rfl | simp [fOpen, opn, h7, h14]) (by first | rfl | simp [fOpen, opn, h7, h14])
    · refine qx_if_ne_f C (tgt := 22) dX4_open_17 (by decide) (by decide) ?_
      refine qx_iconst C (v := (-1)) dX4_open_20 rfl ?_
      exact qx_iret C dX4_open_21 rfl (by first | rfl | simp [fOpen, opn, h7, h14]) (by first | rfl | simp [fOpen, opn, h7, h14])
  · refine qx_bipush C (v := (-3)) dX4_open_10 rfl ?_
    exact qx_iret C dX4_open_12 rfl (by first | rfl | simp [fOpen, opn, h7]) (by first | rfl | simp [fOpen, opn, h7])
set_option maxRecDepth 20000 in
set_option maxHeartbeats 4000000 in
theorem c_X4_shut (F : qx_F) (d : Nat) (σ : qx_S)  : qx_cI F shC ⟨"NightStalls", "shut", "()I"⟩ (.code ⟨"NightStalls", "shut", "()I"⟩ prog_1_method_12_code 1 ((some FieldType.int)) :: qx_W) (qx_R (d + 1)) [.ref (fa F 0)] σ ((fShut σ).1) ((fShut σ).2) := by
  refine qx_met (by decide) (Nat.le_of_ble_eq_true rfl) (by intro v hv; simp only [List.mem_cons, List.not_mem_nil, or_false] at hv; rcases hv with rfl <;> rfl) (fun K C => ?_)
  refine qx_aload_n C dX4_shut_0 rfl rfl ?_
  refine qx_getR C (j := 0) (k := 1) hiX4 rfl rfl (by decide) qw_194 rfl dX4_shut_1 ?_
  refine qx_getIN C (j := 7) (k := 2) hiX1 rfl rfl (by decide) qn_7 rfl dX4_shut_4 ?_
  refine qx_if_ne C (tgt := 13) dX4_shut_7 (by decide) (fun h7 => ?_) (fun h7 => ?_)
  · refine qx_aload_n C dX4_shut_13 rfl rfl ?_
    refine qx_getR C (j := 0) (k := 1) hiX4 rfl rfl (by decide) qw_194 rfl dX4_shut_14 ?_
    refine qx_iconst C (v := 0) dX4_shut_17 rfl ?_
    refine qx_putN C (j := 7) (k := 2) hiX1 rfl rfl (by decide) tyX1 tyX1_ok nmX1 qn_7 rfl rfl rfl rfl dX4_shut_18 ?_
    refine qx_aload_n C dX4_shut_21 rfl rfl ?_
    refine qx_getR C (j := 0) (k := 1) hiX4 rfl rfl (by decide) qw_194 rfl dX4_shut_22 ?_
    refine qx_getIN C (j := 7) (k := 3) hiX1 rfl rfl (by decide) qn_1 rfl dX4_shut_25 ?_
    exact qx_iret C dX4_shut_28 rfl (by first | rfl | simp [fShut, h7]) (by first | rfl | simp [fShut, h7])
  · refine qx_bipush C (v := (-3)) dX4_shut_10 rfl ?_
    exact qx_iret C dX4_shut_12 rfl (by first | rfl | simp [fShut, h7]) (by first | rfl | simp [fShut, h7])
set_option maxRecDepth 20000 in
set_option maxHeartbeats 4000000 in
theorem c_X4_guest (F : qx_F) (d : Nat) (σ : qx_S) (dish pat : Int32) (n : Nat) (hn : σ 14 0 = nI n) (hn20 : n ≤ 20) : qx_cI F shC ⟨"NightStalls", "guest", "(II)I"⟩ (.code ⟨"NightStalls", "guest", "(II)I"⟩ prog_1_method_13_code 3 ((some FieldType.int)) :: qx_W) (qx_R (d + 2)) [.ref (fa F 0), .int dish, .int pat] σ ((fGuest σ dish pat n).1) ((fGuest σ dish pat n).2) := by
  refine qx_met (by decide) (Nat.le_of_ble_eq_true rfl) (by intro v hv; simp only [List.mem_cons, List.not_mem_nil, or_false] at hv; rcases hv with rfl | rfl | rfl <;> rfl) (fun K C => ?_)
  refine qx_aload_n C dX4_guest_0 rfl rfl ?_
  refine qx_getR C (j := 0) (k := 1) hiX4 rfl rfl (by decide) qw_194 rfl dX4_guest_1 ?_
  refine qx_getIN C (j := 7) (k := 2) hiX1 rfl rfl (by decide) qn_7 rfl dX4_guest_4 ?_
  refine qx_if_ne C (tgt := 13) dX4_guest_7 (by decide) (fun h7 => ?_) (fun h7 => ?_)
  · refine qx_iload_n C dX4_guest_13 rfl rfl ?_
    refine qx_iconst C (v := 0) dX4_guest_14 rfl ?_
    refine qx_iconst C (v := 5) dX4_guest_15 rfl ?_
    refine qx_callSI C (As := [_, _, _]) (n := 3) (c_X4_isWithin F (d + 0) _ _ _ _) qw_216 qw_217 qw_39 qw_218 ⟨rfl, by decide, by decide, by decide +kernel⟩ (qx_room (by omega) (by decide)) rfl rfl (Nat.le_of_ble_eq_true rfl) dX4_guest_16 ?_
    refine qx_split _ (fun h16 => ?_) (fun h16 => ?_)
    · refine qx_if_eq_f C (tgt := 32) dX4_guest_19 (by decide) (by decide) ?_
      refine qx_iload_n C dX4_guest_22 rfl rfl ?_
      refine qx_iconst C (v := 1) dX4_guest_23 rfl ?_
      refine qx_bipush C (v := 50) dX4_guest_24 rfl ?_
      refine qx_callSI C (As := [_, _, _]) (n := 3) (c_X4_isWithin F (d + 0) _ _ _ _) qw_216 qw_217 qw_39 qw_218 ⟨rfl, by decide, by decide, by decide +kernel⟩ (qx_room (by omega) (by decide)) rfl rfl (Nat.le_of_ble_eq_true rfl) dX4_guest_26 ?_
      refine qx_split _ (fun h26 => ?_) (fun h26 => ?_)
      · refine qx_if_ne_t C (tgt := 34) dX4_guest_29 (by decide) (by decide) ?_
        refine qx_aload_n C dX4_guest_34 rfl rfl ?_
        refine qx_getR C (j := 0) (k := 1) hiX4 rfl rfl (by decide) qw_194 rfl dX4_guest_35 ?_
        refine qx_getRN C (j := 7) (k := 1) hiX1 rfl rfl (by decide) qn_2 rfl dX4_guest_38 ?_
        refine qx_getIN C (j := 14) (k := 0) hiX0 rfl rfl (by decide) qn_3 rfl dX4_guest_41 ?_
        refine qx_bipush C (v := 20) dX4_guest_44 rfl ?_
        refine qx_icmp_lt C (tgt := 52) dX4_guest_46 (by decide) (fun h46 => ?_) (fun h46 => ?_)
        · have hn2 : n < 20 := qx_ltN (by omega) (by decide) (by rw [← hn]; exact h46)
          refine qx_aload_n C dX4_guest_52 rfl rfl ?_
          refine qx_getR C (j := 0) (k := 1) hiX4 rfl rfl (by decide) qw_194 rfl dX4_guest_53 ?_
          refine qx_getRN C (j := 7) (k := 1) hiX1 rfl rfl (by decide) qn_2 rfl dX4_guest_56 ?_
          refine qx_iload_n C dX4_guest_59 rfl rfl ?_
          refine qx_iload_n C dX4_guest_60 rfl rfl ?_
          refine qx_callVI C (b := 14) (As := [_, _]) (n := 2) (c_X0_add F (d + 0) _ _ _ n hn hn2) rfl rfl qw_413 qw_414 qw_415 qw_42 qw_416 ⟨rfl, by decide, by decide, by decide +kernel⟩ (qx_room (by omega) (by decide)) rfl rfl (Nat.le_of_ble_eq_true rfl) dX4_guest_61 ?_
          exact qx_iret C dX4_guest_64 rfl (by first | rfl | simp [fGuest, h7, h16, h26, h46]) (by first | rfl | simp [fGuest, h7, h16, h26, h46])
        · refine qx_bipush C (v := (-2)) dX4_guest_49 rfl ?_
          exact qx_iret C dX4_guest_51 rfl (by first | rfl | simp [fGuest, h7, h16, h26, h46]) (by first | rfl | simp [fGuest, h7, h16, h26, h46])
      · refine qx_if_ne_f C (tgt := 34) dX4_guest_29 (by decide) (by decide) ?_
        refine qx_iconst C (v := (-1)) dX4_guest_32 rfl ?_
        exact qx_iret C dX4_guest_33 rfl (by first | rfl | simp [fGuest, h7, h16, h26]) (by first | rfl | simp [fGuest, h7, h16, h26])
    · refine qx_if_eq_t C (tgt := 32) dX4_guest_19 (by decide) (by decide) ?_
      refine qx_iconst C (v := (-1)) dX4_guest_32 rfl ?_
      exact qx_iret C dX4_guest_33 rfl (by first | rfl | simp [fGuest, h7, h16]) (by first | rfl | simp [fGuest, h7, h16])
  · refine qx_bipush C (v := (-3)) dX4_guest_10 rfl ?_
    exact qx_iret C dX4_guest_12 rfl (by first | rfl | simp [fGuest, h7]) (by first | rfl | simp [fGuest, h7])
theorem nTick1_cell {σ : qx_S} {n j : Nat} (h1 : j ≠ 15) (h2 : j ≠ 16) (h3 : j ≠ 20) (h4 : j ≠ 9) (h5 : j ≠ 10) (h6 : j ≠ 11) (h7 : j ≠ 17) (h8 : j ≠ 19) : nTick1 σ n j = σ j := by
  unfold nTick1
  rw [qf_cell (fun _ _ => nWalk_cell h1 h2 h8), qf_cell (fun _ _ => gLose_cell h1 h2 h7 h8), qf_cell (fun _ _ => nStart_cell h1 h6), nCookF_cell h1 h2 h3 h4 h5 h6]
theorem nTick_cell {σ : qx_S} {n j : Nat} (h1 : j ≠ 15) (h2 : j ≠ 16) (h3 : j ≠ 20) (h4 : j ≠ 9) (h5 : j ≠ 10) (h6 : j ≠ 11) (h7 : j ≠ 17) (h8 : j ≠ 19) (h9 : j ≠ 7) : nTick σ n j = σ j := by
  unfold nTick
  rw [qs_cell _ _ _ _ h9, nTick1_cell h1 h2 h3 h4 h5 h6 h7 h8]
theorem nTick_wN {σ : qx_S} {n : Nat} (h : wN σ n) : wN (nTick σ n) n :=
  wN_to h (nTick_cell (by decide) (by decide) (by decide) (by decide) (by decide) (by decide) (by decide) (by decide) (by decide)) (nTick_cell (by decide) (by decide) (by decide) (by decide) (by decide) (by decide) (by decide) (by decide) (by decide)) (nTick_cell (by decide) (by decide) (by decide) (by decide) (by decide) (by decide) (by decide) (by decide) (by decide))
theorem goS_wN {σ : qx_S} {n : Nat} (h : wN σ n) (x : Int32) : ∀ i, wN (qf (goS n) (σ, x) i).1 n
  | 0 => h
  | i + 1 => by rw [qf]; exact nTick_wN (goS_wN h x i)
set_option maxRecDepth 20000 in
set_option maxHeartbeats 4000000 in
theorem c_X4_go (F : qx_F) (d : Nat) (σ : qx_S) (k : Int32) (n : Nat) (hw : wN σ n) : qx_cI F shC ⟨"NightStalls", "go", "(I)I"⟩ (.code ⟨"NightStalls", "go", "(I)I"⟩ prog_1_method_14_code 4 ((some FieldType.int)) :: qx_W) (qx_R (d + 7)) [.ref (fa F 0), .int k] σ ((fGo σ k n).1) ((fGo σ k n).2) := by
  refine qx_met (by decide) (Nat.le_of_ble_eq_true rfl) (by intro v hv; simp only [List.mem_cons, List.not_mem_nil, or_false] at hv; rcases hv with rfl | rfl <;> rfl) (fun K C => ?_)
  refine qx_aload_n C dX4_go_0 rfl rfl ?_
  refine qx_getR C (j := 0) (k := 1) hiX4 rfl rfl (by decide) qw_194 rfl dX4_go_1 ?_
  refine qx_getIN C (j := 7) (k := 2) hiX1 rfl rfl (by decide) qn_7 rfl dX4_go_4 ?_
  refine qx_if_ne C (tgt := 13) dX4_go_7 (by decide) (fun h7 => ?_) (fun h7 => ?_)
  · refine qx_iload_n C dX4_go_13 rfl rfl ?_
    refine qx_iconst C (v := 1) dX4_go_14 rfl ?_
    refine qx_bipush C (v := 50) dX4_go_15 rfl ?_
    refine qx_callSI C (As := [_, _, _]) (n := 3) (c_X4_isWithin F (d + 5) _ _ _ _) qw_216 qw_217 qw_39 qw_218 ⟨rfl, by decide, by decide, by decide +kernel⟩ (qx_room (by omega) (by decide)) rfl rfl (Nat.le_of_ble_eq_true rfl) dX4_go_17 ?_
    refine qx_split _ (fun h17 => ?_) (fun h17 => ?_)
    · obtain ⟨k0, hk0, rfl⟩ := qx_in1 50 (by decide) h17
      have ik0 : (nI k0).toNatClampNeg = k0 := nI_clamp (by omega)
      refine qx_if_ne_t C (tgt := 25) dX4_go_20 (by decide) (by decide) ?_
      refine qx_iconst C (v := 0) dX4_go_25 rfl ?_
      refine qx_istore_n C dX4_go_26 rfl (Nat.le_of_ble_eq_true rfl) ?_
      refine qx_iconst C (v := 0) dX4_go_27 rfl ?_
      refine qx_istore_n C dX4_go_28 rfl (Nat.le_of_ble_eq_true rfl) ?_
      refine qx_to (qx_up k0 (P := fun i => qx_X K F shC ((qf (goS n) (σ, 0) i).1) 29 [some (.ref (fa F 0)), some (.int (nI k0)), some (.int ((qf (goS n) (σ, 0) i).2)), some (.int (nI i))] []) (fun i hi hki => ?_) ?_) rfl rfl
      · have hwi := goS_wN hw 0 i
        refine qx_iload_n C dX4_go_29 rfl rfl ?_
        refine qx_iload_n C dX4_go_30 rfl rfl ?_
        refine qx_icmp_ge_f C (tgt := 50) dX4_go_31 (by decide) (nI_ge hi (by omega)) ?_
        refine qx_iload_n C dX4_go_34 rfl rfl ?_
        refine qx_aload_n C dX4_go_35 rfl rfl ?_
        refine qx_getR C (j := 0) (k := 1) hiX4 rfl rfl (by decide) qw_194 rfl dX4_go_36 ?_
        refine qx_callVI C (b := 7) (As := []) (n := 0) (c_X1_passTick F (d + 0) _ n hwi) rfl rfl qw_421 qw_422 qw_423 qw_41 qw_424 ⟨rfl, by decide, by decide, by decide +kernel⟩ (qx_room (by omega) (by decide)) rfl rfl (Nat.le_of_ble_eq_true rfl) dX4_go_39 ?_
        refine qx_iadd C dX4_go_42 ?_
        refine qx_istore_n C dX4_go_43 rfl (Nat.le_of_ble_eq_true rfl) ?_
        refine qx_iincN C dX4_go_44 rfl ?_
        refine qx_goto C (tgt := 29) dX4_go_47 (by decide) ?_
        exact (qx_to hki rfl rfl)
      · refine qx_iload_n C dX4_go_29 rfl rfl ?_
        refine qx_iload_n C dX4_go_30 rfl rfl ?_
        refine qx_icmp_ge_t C (tgt := 50) dX4_go_31 (by decide) (nI_le (Nat.le_refl _) (by omega)) ?_
        refine qx_iload_n C dX4_go_50 rfl rfl ?_
        exact qx_iret C dX4_go_51 rfl (by first | rfl | simp [fGo, h7, h17, ik0]) (by first | rfl | simp [fGo, h7, h17, ik0])
    · refine qx_if_ne_f C (tgt := 25) dX4_go_20 (by decide) (by decide) ?_
      refine qx_iconst C (v := (-1)) dX4_go_23 rfl ?_
      exact qx_iret C dX4_go_24 rfl (by first | rfl | simp [fGo, h7, h17]) (by first | rfl | simp [fGo, h7, h17])
  · refine qx_bipush C (v := (-3)) dX4_go_10 rfl ?_
    exact qx_iret C dX4_go_12 rfl (by first | rfl | simp [fGo, h7]) (by first | rfl | simp [fGo, h7])
set_option maxRecDepth 20000 in
set_option maxHeartbeats 4000000 in
theorem c_X4_plug (F : qx_F) (d : Nat) (σ : qx_S) (k v : Int32) (n : Nat) (hw : wN σ n) : qx_cI F shC ⟨"NightStalls", "plug", "(II)I"⟩ (.code ⟨"NightStalls", "plug", "(II)I"⟩ prog_1_method_15_code 3 ((some FieldType.int)) :: qx_W) (qx_R (d + 5)) [.ref (fa F 0), .int k, .int v] σ ((fPlug σ k v).1) ((fPlug σ k v).2) := by
  refine qx_met (by decide) (Nat.le_of_ble_eq_true rfl) (by intro v hv; simp only [List.mem_cons, List.not_mem_nil, or_false] at hv; rcases hv with rfl | rfl | rfl <;> rfl) (fun K C => ?_)
  refine qx_aload_n C dX4_plug_0 rfl rfl ?_
  refine qx_getR C (j := 0) (k := 1) hiX4 rfl rfl (by decide) qw_194 rfl dX4_plug_1 ?_
  refine qx_getIN C (j := 7) (k := 2) hiX1 rfl rfl (by decide) qn_7 rfl dX4_plug_4 ?_
  refine qx_if_ne C (tgt := 13) dX4_plug_7 (by decide) (fun h7 => ?_) (fun h7 => ?_)
  · refine qx_iload_n C dX4_plug_13 rfl rfl ?_
    refine qx_callSI C (As := [_]) (n := 1) (c_X4_isLine F (d + 2) _ _) qw_250 qw_251 qw_39 qw_252 ⟨rfl, by decide, by decide, by decide +kernel⟩ (qx_room (by omega) (by decide)) rfl rfl (Nat.le_of_ble_eq_true rfl) dX4_plug_14 ?_
    refine qx_split _ (fun h14 => ?_) (fun h14 => ?_)
    · obtain ⟨k0, hk0, rfl⟩ := qx_inI 2 (by decide) h14
      have ik0 : (nI k0).toNatClampNeg = k0 := nI_clamp (by omega)
      refine qx_if_eq_f C (tgt := 30) dX4_plug_17 (by decide) (by decide) ?_
      refine qx_iload_n C dX4_plug_20 rfl rfl ?_
      refine qx_iconst C (v := 0) dX4_plug_21 rfl ?_
      refine qx_bipush C (v := 99) dX4_plug_22 rfl ?_
      refine qx_callSI C (As := [_, _, _]) (n := 3) (c_X4_isWithin F (d + 3) _ _ _ _) qw_216 qw_217 qw_39 qw_218 ⟨rfl, by decide, by decide, by decide +kernel⟩ (qx_room (by omega) (by decide)) rfl rfl (Nat.le_of_ble_eq_true rfl) dX4_plug_24 ?_
      refine qx_split _ (fun h24 => ?_) (fun h24 => ?_)
      · refine qx_if_ne_t C (tgt := 32) dX4_plug_27 (by decide) (by decide) ?_
        refine qx_aload_n C dX4_plug_32 rfl rfl ?_
        refine qx_getR C (j := 0) (k := 1) hiX4 rfl rfl (by decide) qw_194 rfl dX4_plug_33 ?_
        refine qx_getRN C (j := 7) (k := 9) hiX1 rfl rfl (by decide) qn_4 rfl dX4_plug_36 ?_
        refine qx_iload_n C dX4_plug_39 rfl rfl ?_
        refine qx_ialdN C (j := 13) rfl ⟨by omega, by decide⟩ dX4_plug_40 ?_
        refine qx_iconst C (v := 1) dX4_plug_41 rfl ?_
        refine qx_icmp_ne C (tgt := 48) dX4_plug_42 (by decide) (fun h42 => ?_) (fun h42 => ?_)
        · refine qx_aload_n C dX4_plug_48 rfl rfl ?_
          refine qx_getR C (j := 0) (k := 1) hiX4 rfl rfl (by decide) qw_194 rfl dX4_plug_49 ?_
          refine qx_getRN C (j := 7) (k := 8) hiX1 rfl rfl (by decide) qn_5 rfl dX4_plug_52 ?_
          refine qx_iload_n C dX4_plug_55 rfl rfl ?_
          refine qx_iload_n C dX4_plug_56 rfl rfl ?_
          refine qx_iastN C (j := 12) rfl ⟨by omega, by decide⟩ dX4_plug_57 ?_
          refine qx_aload_n C dX4_plug_58 rfl rfl ?_
          refine qx_getR C (j := 0) (k := 1) hiX4 rfl rfl (by decide) qw_194 rfl dX4_plug_59 ?_
          refine qx_getRN C (j := 7) (k := 9) hiX1 rfl rfl (by decide) qn_4 rfl dX4_plug_62 ?_
          refine qx_iload_n C dX4_plug_65 rfl rfl ?_
          refine qx_aload_n C dX4_plug_66 rfl rfl ?_
          refine qx_getR C (j := 0) (k := 1) hiX4 rfl rfl (by decide) qw_194 rfl dX4_plug_67 ?_
          refine qx_iload_n C dX4_plug_70 rfl rfl ?_
          refine qx_callVI C (b := 7) (As := [_]) (n := 1) (c_X1_isOverLimit F (d + 0) _ k0 (by omega) n (qs_wN hw _ _ (by decide) (by decide) (by decide))) rfl rfl qw_479 qw_480 qw_481 qw_41 qw_482 ⟨rfl, by decide, by decide, by decide +kernel⟩ (qx_room (by omega) (by decide)) rfl rfl (Nat.le_of_ble_eq_true rfl) dX4_plug_71 ?_
          refine qx_split _ (fun h71 => ?_) (fun h71 => ?_)
          · refine qx_if_eq_f C (tgt := 81) dX4_plug_74 (by decide) (by decide) ?_
            refine qx_iconst C (v := 1) dX4_plug_77 rfl ?_
            refine qx_goto C (tgt := 82) dX4_plug_78 (by decide) ?_
            refine qx_iastN C (j := 13) rfl ⟨by omega, by decide⟩ dX4_plug_82 ?_
            refine qx_aload_n C dX4_plug_83 rfl rfl ?_
            refine qx_getR C (j := 0) (k := 1) hiX4 rfl rfl (by decide) qw_194 rfl dX4_plug_84 ?_
            refine qx_getRN C (j := 7) (k := 9) hiX1 rfl rfl (by decide) qn_4 rfl dX4_plug_87 ?_
            refine qx_iload_n C dX4_plug_90 rfl rfl ?_
            refine qx_ialdN C (j := 13) rfl ⟨by omega, by decide⟩ dX4_plug_91 ?_
            exact qx_iret C dX4_plug_92 rfl (by simp only [fPlug, plg, ix, ik0]; rw [if_neg h7, if_pos h14, if_pos h24, if_neg h42]; first | rw [if_pos h71] | rw [if_neg h71]) (by simp only [fPlug, plg, ix, ik0]; rw [if_neg h7, if_pos h14, if_pos h24, if_neg h42]; first | rw [if_pos h71] | rw [if_neg h71])
          · refine qx_if_eq_t C (tgt := 81) dX4_plug_74 (by decide) (by decide) ?_
            refine qx_iconst C (v := 0) dX4_plug_81 rfl ?_
            refine qx_iastN C (j := 13) rfl ⟨by omega, by decide⟩ dX4_plug_82 ?_
            refine qx_aload_n C dX4_plug_83 rfl rfl ?_
            refine qx_getR C (j := 0) (k := 1) hiX4 rfl rfl (by decide) qw_194 rfl dX4_plug_84 ?_
            refine qx_getRN C (j := 7) (k := 9) hiX1 rfl rfl (by decide) qn_4 rfl dX4_plug_87 ?_
            refine qx_iload_n C dX4_plug_90 rfl rfl ?_
            refine qx_ialdN C (j := 13) rfl ⟨by omega, by decide⟩ dX4_plug_91 ?_
            exact qx_iret C dX4_plug_92 rfl (by simp only [fPlug, plg, ix, ik0]; rw [if_neg h7, if_pos h14, if_pos h24, if_neg h42]; first | rw [if_pos h71] | rw [if_neg h71]) (by simp only [fPlug, plg, ix, ik0]; rw [if_neg h7, if_pos h14, if_pos h24, if_neg h42]; first | rw [if_pos h71] | rw [if_neg h71])
        · refine qx_bipush C (v := (-5)) dX4_plug_45 rfl ?_
          exact qx_iret C dX4_plug_47 rfl (by first | rfl | simp [fPlug, plg, h7, h14, ik0, h24, h42]) (by first | rfl | simp [fPlug, plg, h7, h14, ik0, h24, h42])
      · refine qx_if_ne_f C (tgt := 32) dX4_plug_27 (by decide) (by decide) ?_
        refine qx_iconst C (v := (-1)) dX4_plug_30 rfl ?_
        exact qx_iret C dX4_plug_31 rfl (by first | rfl | simp [fPlug, plg, h7, h14, ik0, h24]) (by first | rfl | simp [fPlug, plg, h7, h14, ik0, h24])
    · refine qx_if_eq_t C (tgt := 30) dX4_plug_17 (by decide) (by decide) ?_
      refine qx_iconst C (v := (-1)) dX4_plug_30 rfl ?_
      exact qx_iret C dX4_plug_31 rfl (by first | rfl | simp [fPlug, plg, h7, h14]) (by first | rfl | simp [fPlug, plg, h7, h14])
  · refine qx_bipush C (v := (-3)) dX4_plug_10 rfl ?_
    exact qx_iret C dX4_plug_12 rfl (by first | rfl | simp [fPlug, plg, h7]) (by first | rfl | simp [fPlug, plg, h7])
set_option maxRecDepth 20000 in
set_option maxHeartbeats 4000000 in
theorem c_X4_reset (F : qx_F) (d : Nat) (σ : qx_S) (k : Int32) (n : Nat) (hw : wN σ n) : qx_cI F shC ⟨"NightStalls", "reset", "(I)I"⟩ (.code ⟨"NightStalls", "reset", "(I)I"⟩ prog_1_method_16_code 2 ((some FieldType.int)) :: qx_W) (qx_R (d + 5)) [.ref (fa F 0), .int k] σ ((fReset σ k).1) ((fReset σ k).2) := by
  refine qx_met (by decide) (Nat.le_of_ble_eq_true rfl) (by intro v hv; simp only [List.mem_cons, List.not_mem_nil, or_false] at hv; rcases hv with rfl | rfl <;> rfl) (fun K C => ?_)
  refine qx_aload_n C dX4_reset_0 rfl rfl ?_
  refine qx_getR C (j := 0) (k := 1) hiX4 rfl rfl (by decide) qw_194 rfl dX4_reset_1 ?_
  refine qx_getIN C (j := 7) (k := 2) hiX1 rfl rfl (by decide) qn_7 rfl dX4_reset_4 ?_
  refine qx_if_ne C (tgt := 13) dX4_reset_7 (by decide) (fun h7 => ?_) (fun h7 => ?_)
  · refine qx_iload_n C dX4_reset_13 rfl rfl ?_
    refine qx_callSI C (As := [_]) (n := 1) (c_X4_isLine F (d + 2) _ _) qw_250 qw_251 qw_39 qw_252 ⟨rfl, by decide, by decide, by decide +kernel⟩ (qx_room (by omega) (by decide)) rfl rfl (Nat.le_of_ble_eq_true rfl) dX4_reset_14 ?_
    refine qx_split _ (fun h14 => ?_) (fun h14 => ?_)
    · obtain ⟨k0, hk0, rfl⟩ := qx_inI 2 (by decide) h14
      have ik0 : (nI k0).toNatClampNeg = k0 := nI_clamp (by omega)
      refine qx_if_ne_t C (tgt := 22) dX4_reset_17 (by decide) (by decide) ?_
      refine qx_aload_n C dX4_reset_22 rfl rfl ?_
      refine qx_getR C (j := 0) (k := 1) hiX4 rfl rfl (by decide) qw_194 rfl dX4_reset_23 ?_
      refine qx_getRN C (j := 7) (k := 9) hiX1 rfl rfl (by decide) qn_4 rfl dX4_reset_26 ?_
      refine qx_iload_n C dX4_reset_29 rfl rfl ?_
      refine qx_ialdN C (j := 13) rfl ⟨by omega, by decide⟩ dX4_reset_30 ?_
      refine qx_if_ne C (tgt := 37) dX4_reset_31 (by decide) (fun h31 => ?_) (fun h31 => ?_)
      · refine qx_aload_n C dX4_reset_37 rfl rfl ?_
        refine qx_getR C (j := 0) (k := 1) hiX4 rfl rfl (by decide) qw_194 rfl dX4_reset_38 ?_
        refine qx_iload_n C dX4_reset_41 rfl rfl ?_
        refine qx_callVI C (b := 7) (As := [_]) (n := 1) (c_X1_isOverLimit F (d + 0) _ k0 (by omega) n hw) rfl rfl qw_479 qw_480 qw_481 qw_41 qw_482 ⟨rfl, by decide, by decide, by decide +kernel⟩ (qx_room (by omega) (by decide)) rfl rfl (Nat.le_of_ble_eq_true rfl) dX4_reset_42 ?_
        refine qx_split _ (fun h42 => ?_) (fun h42 => ?_)
        · refine qx_if_eq_f C (tgt := 51) dX4_reset_45 (by decide) (by decide) ?_
          refine qx_bipush C (v := (-5)) dX4_reset_48 rfl ?_
          exact qx_iret C dX4_reset_50 rfl (by simp only [fReset, ix, ik0]; rw [if_neg h7, if_pos h14, if_neg h31]; first | rw [if_pos h42] | rw [if_neg h42]) (by simp only [fReset, ix, ik0]; rw [if_neg h7, if_pos h14, if_neg h31]; first | rw [if_pos h42] | rw [if_neg h42])
        · refine qx_if_eq_t C (tgt := 51) dX4_reset_45 (by decide) (by decide) ?_
          refine qx_aload_n C dX4_reset_51 rfl rfl ?_
          refine qx_getR C (j := 0) (k := 1) hiX4 rfl rfl (by decide) qw_194 rfl dX4_reset_52 ?_
          refine qx_getRN C (j := 7) (k := 9) hiX1 rfl rfl (by decide) qn_4 rfl dX4_reset_55 ?_
          refine qx_iload_n C dX4_reset_58 rfl rfl ?_
          refine qx_iconst C (v := 0) dX4_reset_59 rfl ?_
          refine qx_iastN C (j := 13) rfl ⟨by omega, by decide⟩ dX4_reset_60 ?_
          refine qx_iconst C (v := 1) dX4_reset_61 rfl ?_
          exact qx_iret C dX4_reset_62 rfl (by simp only [fReset, ix, ik0]; rw [if_neg h7, if_pos h14, if_neg h31]; first | rw [if_pos h42] | rw [if_neg h42]) (by simp only [fReset, ix, ik0]; rw [if_neg h7, if_pos h14, if_neg h31]; first | rw [if_pos h42] | rw [if_neg h42])
      · refine qx_bipush C (v := (-4)) dX4_reset_34 rfl ?_
        exact qx_iret C dX4_reset_36 rfl (by first | rfl | simp [fReset, h7, h14, ik0, h31]) (by first | rfl | simp [fReset, h7, h14, ik0, h31])
    · refine qx_if_ne_f C (tgt := 22) dX4_reset_17 (by decide) (by decide) ?_
      refine qx_iconst C (v := (-1)) dX4_reset_20 rfl ?_
      exact qx_iret C dX4_reset_21 rfl (by first | rfl | simp [fReset, h7, h14]) (by first | rfl | simp [fReset, h7, h14])
  · refine qx_bipush C (v := (-3)) dX4_reset_10 rfl ?_
    exact qx_iret C dX4_reset_12 rfl (by first | rfl | simp [fReset, h7]) (by first | rfl | simp [fReset, h7])
set_option maxRecDepth 20000 in
set_option maxHeartbeats 4000000 in
theorem c_X4_pull (F : qx_F) (d : Nat) (σ : qx_S) (k : Int32) : qx_cI F shC ⟨"NightStalls", "pull", "(I)I"⟩ (.code ⟨"NightStalls", "pull", "(I)I"⟩ prog_1_method_17_code 3 ((some FieldType.int)) :: qx_W) (qx_R (d + 3)) [.ref (fa F 0), .int k] σ ((fPull σ k).1) ((fPull σ k).2) := by
  refine qx_met (by decide) (Nat.le_of_ble_eq_true rfl) (by intro v hv; simp only [List.mem_cons, List.not_mem_nil, or_false] at hv; rcases hv with rfl | rfl <;> rfl) (fun K C => ?_)
  refine qx_aload_n C dX4_pull_0 rfl rfl ?_
  refine qx_getR C (j := 0) (k := 1) hiX4 rfl rfl (by decide) qw_194 rfl dX4_pull_1 ?_
  refine qx_getIN C (j := 7) (k := 2) hiX1 rfl rfl (by decide) qn_7 rfl dX4_pull_4 ?_
  refine qx_if_ne C (tgt := 13) dX4_pull_7 (by decide) (fun h7 => ?_) (fun h7 => ?_)
  · refine qx_iload_n C dX4_pull_13 rfl rfl ?_
    refine qx_callSI C (As := [_]) (n := 1) (c_X4_isLine F (d + 0) _ _) qw_250 qw_251 qw_39 qw_252 ⟨rfl, by decide, by decide, by decide +kernel⟩ (qx_room (by omega) (by decide)) rfl rfl (Nat.le_of_ble_eq_true rfl) dX4_pull_14 ?_
    refine qx_split _ (fun h14 => ?_) (fun h14 => ?_)
    · obtain ⟨k0, hk0, rfl⟩ := qx_inI 2 (by decide) h14
      have ik0 : (nI k0).toNatClampNeg = k0 := nI_clamp (by omega)
      refine qx_if_ne_t C (tgt := 22) dX4_pull_17 (by decide) (by decide) ?_
      refine qx_aload_n C dX4_pull_22 rfl rfl ?_
      refine qx_getR C (j := 0) (k := 1) hiX4 rfl rfl (by decide) qw_194 rfl dX4_pull_23 ?_
      refine qx_getRN C (j := 7) (k := 8) hiX1 rfl rfl (by decide) qn_5 rfl dX4_pull_26 ?_
      refine qx_iload_n C dX4_pull_29 rfl rfl ?_
      refine qx_ialdN C (j := 12) rfl ⟨by omega, by decide⟩ dX4_pull_30 ?_
      refine qx_istore_n C dX4_pull_31 rfl (Nat.le_of_ble_eq_true rfl) ?_
      refine qx_aload_n C dX4_pull_32 rfl rfl ?_
      refine qx_getR C (j := 0) (k := 1) hiX4 rfl rfl (by decide) qw_194 rfl dX4_pull_33 ?_
      refine qx_getRN C (j := 7) (k := 8) hiX1 rfl rfl (by decide) qn_5 rfl dX4_pull_36 ?_
      refine qx_iload_n C dX4_pull_39 rfl rfl ?_
      refine qx_iconst C (v := 0) dX4_pull_40 rfl ?_
      refine qx_iastN C (j := 12) rfl ⟨by omega, by decide⟩ dX4_pull_41 ?_
      refine qx_iload_n C dX4_pull_42 rfl rfl ?_
      exact qx_iret C dX4_pull_43 rfl (by first | rfl | simp [fPull, h7, h14, ik0]) (by first | rfl | simp [fPull, h7, h14, ik0])
    · refine qx_if_ne_f C (tgt := 22) dX4_pull_17 (by decide) (by decide) ?_
      refine qx_iconst C (v := (-1)) dX4_pull_20 rfl ?_
      exact qx_iret C dX4_pull_21 rfl (by first | rfl | simp [fPull, h7, h14]) (by first | rfl | simp [fPull, h7, h14])
  · refine qx_bipush C (v := (-3)) dX4_pull_10 rfl ?_
    exact qx_iret C dX4_pull_12 rfl (by first | rfl | simp [fPull, h7]) (by first | rfl | simp [fPull, h7])
set_option maxRecDepth 20000 in
set_option maxHeartbeats 4000000 in
theorem c_X4_of (F : qx_F) (d : Nat) (σ : qx_S) (s w : Int32) (S : Nat) (hS : σ 1 1 = nI S) (hS5 : S ≤ 5) (n : Nat) (hw : wN σ n) : qx_cI F shC ⟨"NightStalls", "of", "(II)I"⟩ (.code ⟨"NightStalls", "of", "(II)I"⟩ prog_1_method_18_code 3 ((some FieldType.int)) :: qx_W) (qx_R (d + 5)) [.ref (fa F 0), .int s, .int w] σ (fOf σ s w n) (σ) := by
  refine qx_met (by decide) (Nat.le_of_ble_eq_true rfl) (by intro v hv; simp only [List.mem_cons, List.not_mem_nil, or_false] at hv; rcases hv with rfl | rfl | rfl <;> rfl) (fun K C => ?_)
  refine qx_aload_n C dX4_of_0 rfl rfl ?_
  refine qx_getR C (j := 0) (k := 0) hiX4 rfl rfl (by decide) qw_193 rfl dX4_of_1 ?_
  refine qx_iload_n C dX4_of_4 rfl rfl ?_
  refine qx_callVI C (b := 1) (As := [_]) (n := 1) (c_X3_hasStall F (d + 2) _ _) rfl rfl qw_302 qw_303 qw_304 qw_40 qw_305 ⟨rfl, by decide, by decide, by decide +kernel⟩ (qx_room (by omega) (by decide)) rfl rfl (Nat.le_of_ble_eq_true rfl) dX4_of_5 ?_
  refine qx_split _ (fun h5 => ?_) (fun h5 => ?_)
  · obtain ⟨s0, hs0, rfl⟩ := qx_has hS (by omega) h5
    have is0 : (nI s0).toNatClampNeg = s0 := nI_clamp (by omega)
    refine qx_if_ne_t C (tgt := 13) dX4_of_8 (by decide) (by decide) ?_
    refine qx_iload_n C dX4_of_13 rfl rfl ?_
    refine qx_iconst C (v := 0) dX4_of_14 rfl ?_
    refine qx_iconst C (v := 5) dX4_of_15 rfl ?_
    refine qx_callSI C (As := [_, _, _]) (n := 3) (c_X4_isWithin F (d + 3) _ _ _ _) qw_216 qw_217 qw_39 qw_218 ⟨rfl, by decide, by decide, by decide +kernel⟩ (qx_room (by omega) (by decide)) rfl rfl (Nat.le_of_ble_eq_true rfl) dX4_of_16 ?_
    refine qx_split _ (fun h16 => ?_) (fun h16 => ?_)
    · obtain ⟨w0, hw0, rfl⟩ := qx_inI 5 (by decide) h16
      have iw0 : (nI w0).toNatClampNeg = w0 := nI_clamp (by omega)
      refine qx_if_eq_f C (tgt := 32) dX4_of_19 (by decide) (by decide) ?_
      refine qx_aload_n C dX4_of_22 rfl rfl ?_
      refine qx_getR C (j := 0) (k := 0) hiX4 rfl rfl (by decide) qw_193 rfl dX4_of_23 ?_
      refine qx_iload_n C dX4_of_26 rfl rfl ?_
      refine qx_iload_n C dX4_of_27 rfl rfl ?_
      refine qx_callVI C (b := 1) (As := [_, _]) (n := 2) (c_X3_trait F (d + 3) _ s0 w0 (by omega) (by omega)) rfl rfl qw_500 qw_295 qw_296 qw_40 qw_297 ⟨rfl, by decide, by decide, by decide +kernel⟩ (qx_room (by omega) (by decide)) rfl rfl (Nat.le_of_ble_eq_true rfl) dX4_of_28 ?_
      exact qx_iret C dX4_of_31 rfl (by first | rfl | simp [fOf, h5, is0, h16, iw0]) (by first | rfl | simp [fOf, h5, is0, h16, iw0])
    · refine qx_if_eq_t C (tgt := 32) dX4_of_19 (by decide) (by decide) ?_
      refine qx_aload_n C dX4_of_32 rfl rfl ?_
      refine qx_getR C (j := 0) (k := 1) hiX4 rfl rfl (by decide) qw_194 rfl dX4_of_33 ?_
      refine qx_iload_n C dX4_of_36 rfl rfl ?_
      refine qx_iload_n C dX4_of_37 rfl rfl ?_
      refine qx_callVI C (b := 7) (As := [_, _]) (n := 2) (c_X1_stallFact F (d + 0) _ s0 (by omega) _ n hw) rfl rfl qw_501 qw_502 qw_503 qw_41 qw_504 ⟨rfl, by decide, by decide, by decide +kernel⟩ (qx_room (by omega) (by decide)) rfl rfl (Nat.le_of_ble_eq_true rfl) dX4_of_38 ?_
      exact qx_iret C dX4_of_41 rfl (by first | rfl | simp [fOf, h5, is0, h16]) (by first | rfl | simp [fOf, h5, is0, h16])
  · refine qx_if_ne_f C (tgt := 13) dX4_of_8 (by decide) (by decide) ?_
    refine qx_iconst C (v := (-1)) dX4_of_11 rfl ?_
    exact qx_iret C dX4_of_12 rfl (by first | rfl | simp [fOf, h5]) (by first | rfl | simp [fOf, h5])
set_option maxRecDepth 20000 in
set_option maxHeartbeats 4000000 in
theorem c_X4_guestOf (F : qx_F) (d : Nat) (σ : qx_S) (g w : Int32) (n : Nat) (hn : σ 14 0 = nI n) (hn20 : n ≤ 20) : qx_cI F shC ⟨"NightStalls", "guestOf", "(II)I"⟩ (.code ⟨"NightStalls", "guestOf", "(II)I"⟩ prog_1_method_19_code 3 ((some FieldType.int)) :: qx_W) (qx_R (d + 2)) [.ref (fa F 0), .int g, .int w] σ (fGuestOf σ g w) (σ) := by
  refine qx_met (by decide) (Nat.le_of_ble_eq_true rfl) (by intro v hv; simp only [List.mem_cons, List.not_mem_nil, or_false] at hv; rcases hv with rfl | rfl | rfl <;> rfl) (fun K C => ?_)
  refine qx_iload_n C dX4_guestOf_0 rfl rfl ?_
  refine qx_iconst C (v := 0) dX4_guestOf_1 rfl ?_
  refine qx_aload_n C dX4_guestOf_2 rfl rfl ?_
  refine qx_getR C (j := 0) (k := 1) hiX4 rfl rfl (by decide) qw_194 rfl dX4_guestOf_3 ?_
  refine qx_getRN C (j := 7) (k := 1) hiX1 rfl rfl (by decide) qn_2 rfl dX4_guestOf_6 ?_
  refine qx_getIN C (j := 14) (k := 0) hiX0 rfl rfl (by decide) qn_3 rfl dX4_guestOf_9 ?_
  refine qx_iconst C (v := 1) dX4_guestOf_12 rfl ?_
  refine qx_isub C dX4_guestOf_13 ?_
  refine qx_callSI C (As := [_, _, _]) (n := 3) (c_X4_isWithin F (d + 0) _ _ _ _) qw_216 qw_217 qw_39 qw_218 ⟨rfl, by decide, by decide, by decide +kernel⟩ (qx_room (by omega) (by decide)) rfl rfl (Nat.le_of_ble_eq_true rfl) dX4_guestOf_14 ?_
  refine qx_split _ (fun h14 => ?_) (fun h14 => ?_)
  · obtain ⟨g0, hg0, rfl⟩ := qx_has hn (by omega) h14
    have ig0 : (nI g0).toNatClampNeg = g0 := nI_clamp (by omega)
    refine qx_if_ne_t C (tgt := 22) dX4_guestOf_17 (by decide) (by decide) ?_
    refine qx_aload_n C dX4_guestOf_22 rfl rfl ?_
    refine qx_getR C (j := 0) (k := 1) hiX4 rfl rfl (by decide) qw_194 rfl dX4_guestOf_23 ?_
    refine qx_getRN C (j := 7) (k := 1) hiX1 rfl rfl (by decide) qn_2 rfl dX4_guestOf_26 ?_
    refine qx_iload_n C dX4_guestOf_29 rfl rfl ?_
    refine qx_iload_n C dX4_guestOf_30 rfl rfl ?_
    refine qx_callVI C (b := 14) (As := [_, _]) (n := 2) (c_X0_fact F (d + 0) _ g0 _ (by omega)) rfl rfl qw_515 qw_516 qw_517 qw_42 qw_518 ⟨rfl, by decide, by decide, by decide +kernel⟩ (qx_room (by omega) (by decide)) rfl rfl (Nat.le_of_ble_eq_true rfl) dX4_guestOf_31 ?_
    exact qx_iret C dX4_guestOf_34 rfl (by first | rfl | simp [fGuestOf, h14, ig0]) (by first | rfl | simp [fGuestOf, h14, ig0])
  · refine qx_if_ne_f C (tgt := 22) dX4_guestOf_17 (by decide) (by decide) ?_
    refine qx_iconst C (v := (-1)) dX4_guestOf_20 rfl ?_
    exact qx_iret C dX4_guestOf_21 rfl (by first | rfl | simp [fGuestOf, h14]) (by first | rfl | simp [fGuestOf, h14])
set_option maxRecDepth 20000 in
set_option maxHeartbeats 4000000 in
theorem c_X4_suspects (F : qx_F) (d : Nat) (σ : qx_S) (dish fr to_ : Int32) (n : Nat) (hn : σ 14 0 = nI n) (hn20 : n ≤ 20) : qx_cI F shC ⟨"NightStalls", "suspects", "(III)I"⟩ (.code ⟨"NightStalls", "suspects", "(III)I"⟩ prog_1_method_20_code 4 ((some FieldType.int)) :: qx_W) (qx_R (d + 2)) [.ref (fa F 0), .int dish, .int fr, .int to_] σ (fSusp σ dish fr to_ n) (σ) := by
  refine qx_met (by decide) (Nat.le_of_ble_eq_true rfl) (by intro v hv; simp only [List.mem_cons, List.not_mem_nil, or_false] at hv; rcases hv with rfl | rfl | rfl | rfl <;> rfl) (fun K C => ?_)
  refine qx_iload_n C dX4_suspects_0 rfl rfl ?_
  refine qx_iconst C (v := 0) dX4_suspects_1 rfl ?_
  refine qx_iconst C (v := 5) dX4_suspects_2 rfl ?_
  refine qx_callSI C (As := [_, _, _]) (n := 3) (c_X4_isWithin F (d + 0) _ _ _ _) qw_216 qw_217 qw_39 qw_218 ⟨rfl, by decide, by decide, by decide +kernel⟩ (qx_room (by omega) (by decide)) rfl rfl (Nat.le_of_ble_eq_true rfl) dX4_suspects_3 ?_
  refine qx_split _ (fun h3 => ?_) (fun h3 => ?_)
  · refine qx_if_eq_f C (tgt := 18) dX4_suspects_6 (by decide) (by decide) ?_
    refine qx_iload_n C dX4_suspects_9 rfl rfl ?_
    refine qx_if_lt C (tgt := 18) dX4_suspects_10 (by decide) (fun h10 => ?_) (fun h10 => ?_)
    · refine qx_iconst C (v := (-1)) dX4_suspects_18 rfl ?_
      exact qx_iret C dX4_suspects_19 rfl (by first | rfl | simp [fSusp, h3, h10]) (by first | rfl | simp [fSusp, h3, h10])
    · refine qx_iload_n C dX4_suspects_13 rfl rfl ?_
      refine qx_iload_n C dX4_suspects_14 rfl rfl ?_
      refine qx_icmp_le C (tgt := 20) dX4_suspects_15 (by decide) (fun h15 => ?_) (fun h15 => ?_)
      · refine qx_aload_n C dX4_suspects_20 rfl rfl ?_
        refine qx_getR C (j := 0) (k := 1) hiX4 rfl rfl (by decide) qw_194 rfl dX4_suspects_21 ?_
        refine qx_getRN C (j := 7) (k := 1) hiX1 rfl rfl (by decide) qn_2 rfl dX4_suspects_24 ?_
        refine qx_iload_n C dX4_suspects_27 rfl rfl ?_
        refine qx_iload_n C dX4_suspects_28 rfl rfl ?_
        refine qx_iload_n C dX4_suspects_29 rfl rfl ?_
        refine qx_callVI C (b := 14) (As := [_, _, _]) (n := 3) (c_X0_sellers F (d + 0) _ _ _ _ n hn hn20) rfl rfl qw_523 qw_524 qw_525 qw_42 qw_526 ⟨rfl, by decide, by decide, by decide +kernel⟩ (qx_room (by omega) (by decide)) rfl rfl (Nat.le_of_ble_eq_true rfl) dX4_suspects_30 ?_
        exact qx_iret C dX4_suspects_33 rfl (by first | rfl | simp [fSusp, h3, h10, h15]) (by first | rfl | simp [fSusp, h3, h10, h15])
      · refine qx_iconst C (v := (-1)) dX4_suspects_18 rfl ?_
        exact qx_iret C dX4_suspects_19 rfl (by first | rfl | simp [fSusp, h3, h10, h15]) (by first | rfl | simp [fSusp, h3, h10, h15])
  · refine qx_if_eq_t C (tgt := 18) dX4_suspects_6 (by decide) (by decide) ?_
    refine qx_iconst C (v := (-1)) dX4_suspects_18 rfl ?_
    exact qx_iret C dX4_suspects_19 rfl (by first | rfl | simp [fSusp, h3]) (by first | rfl | simp [fSusp, h3])
set_option maxRecDepth 20000 in
set_option maxHeartbeats 4000000 in
theorem c_X4_lineOf (F : qx_F) (d : Nat) (σ : qx_S) (k w : Int32) (n : Nat) (hw : wN σ n) : qx_cI F shC ⟨"NightStalls", "lineOf", "(II)I"⟩ (.code ⟨"NightStalls", "lineOf", "(II)I"⟩ prog_1_method_21_code 3 ((some FieldType.int)) :: qx_W) (qx_R (d + 4)) [.ref (fa F 0), .int k, .int w] σ (fLineOf σ k w) (σ) := by
  refine qx_met (by decide) (Nat.le_of_ble_eq_true rfl) (by intro v hv; simp only [List.mem_cons, List.not_mem_nil, or_false] at hv; rcases hv with rfl | rfl | rfl <;> rfl) (fun K C => ?_)
  by_cases e0 : w = 0
  · subst e0
    refine qx_iload_n C dX4_lineOf_0 rfl rfl ?_
    refine qx_callSI C (As := [_]) (n := 1) (c_X4_isLine F (d + 1) _ _) qw_250 qw_251 qw_39 qw_252 ⟨rfl, by decide, by decide, by decide +kernel⟩ (qx_room (by omega) (by decide)) rfl rfl (Nat.le_of_ble_eq_true rfl) dX4_lineOf_1 ?_
    refine qx_split _ (fun h1 => ?_) (fun h1 => ?_)
    · obtain ⟨k0, hk0, rfl⟩ := qx_inI 2 (by decide) h1
      have ik0 : (nI k0).toNatClampNeg = k0 := nI_clamp (by omega)
      refine qx_if_ne_t C (tgt := 9) dX4_lineOf_4 (by decide) (by decide) ?_
      refine qx_iload_n C dX4_lineOf_9 rfl rfl ?_
      refine qx_tableIn C (tgt := 40) (off := 30) dX4_lineOf_10 (by decide) (by decide) (by decide) (by decide) ?_
      refine qx_aload_n C dX4_lineOf_40 rfl rfl ?_
      refine qx_getR C (j := 0) (k := 0) hiX4 rfl rfl (by decide) qw_193 rfl dX4_lineOf_41 ?_
      refine qx_iload_n C dX4_lineOf_44 rfl rfl ?_
      refine qx_callVI C (b := 1) (As := [_]) (n := 1) (c_X3_limitOf F (d + 2) _ k0 (by omega)) rfl rfl qw_531 qw_381 qw_382 qw_40 qw_383 ⟨rfl, by decide, by decide, by decide +kernel⟩ (qx_room (by omega) (by decide)) rfl rfl (Nat.le_of_ble_eq_true rfl) dX4_lineOf_45 ?_
      exact qx_iret C dX4_lineOf_48 rfl (by first | rfl | simp [fLineOf, h1, ik0]) (by first | rfl | simp [fLineOf, h1, ik0])
    · refine qx_if_ne_f C (tgt := 9) dX4_lineOf_4 (by decide) (by decide) ?_
      refine qx_iconst C (v := (-1)) dX4_lineOf_7 rfl ?_
      exact qx_iret C dX4_lineOf_8 rfl (by first | rfl | simp [fLineOf, h1]) (by first | rfl | simp [fLineOf, h1])
  by_cases e1 : w = 1
  · subst e1
    refine qx_iload_n C dX4_lineOf_0 rfl rfl ?_
    refine qx_callSI C (As := [_]) (n := 1) (c_X4_isLine F (d + 1) _ _) qw_250 qw_251 qw_39 qw_252 ⟨rfl, by decide, by decide, by decide +kernel⟩ (qx_room (by omega) (by decide)) rfl rfl (Nat.le_of_ble_eq_true rfl) dX4_lineOf_1 ?_
    refine qx_split _ (fun h1 => ?_) (fun h1 => ?_)
    · obtain ⟨k0, hk0, rfl⟩ := qx_inI 2 (by decide) h1
      have ik0 : (nI k0).toNatClampNeg = k0 := nI_clamp (by omega)
      refine qx_if_ne_t C (tgt := 9) dX4_lineOf_4 (by decide) (by decide) ?_
      refine qx_iload_n C dX4_lineOf_9 rfl rfl ?_
      refine qx_tableIn C (tgt := 49) (off := 39) dX4_lineOf_10 (by decide) (by decide) (by decide) (by decide) ?_
      refine qx_aload_n C dX4_lineOf_49 rfl rfl ?_
      refine qx_getR C (j := 0) (k := 1) hiX4 rfl rfl (by decide) qw_194 rfl dX4_lineOf_50 ?_
      refine qx_iload_n C dX4_lineOf_53 rfl rfl ?_
      refine qx_callVI C (b := 7) (As := [_]) (n := 1) (c_X1_wattsOn F (d + 0) _ _ n hw) rfl rfl qw_532 qw_484 qw_485 qw_41 qw_486 ⟨rfl, by decide, by decide, by decide +kernel⟩ (qx_room (by omega) (by decide)) rfl rfl (Nat.le_of_ble_eq_true rfl) dX4_lineOf_54 ?_
      exact qx_iret C dX4_lineOf_57 rfl (by first | rfl | simp [fLineOf, h1, ik0]) (by first | rfl | simp [fLineOf, h1, ik0])
    · refine qx_if_ne_f C (tgt := 9) dX4_lineOf_4 (by decide) (by decide) ?_
      refine qx_iconst C (v := (-1)) dX4_lineOf_7 rfl ?_
      exact qx_iret C dX4_lineOf_8 rfl (by first | rfl | simp [fLineOf, h1]) (by first | rfl | simp [fLineOf, h1])
  by_cases e2 : w = 2
  · subst e2
    refine qx_iload_n C dX4_lineOf_0 rfl rfl ?_
    refine qx_callSI C (As := [_]) (n := 1) (c_X4_isLine F (d + 1) _ _) qw_250 qw_251 qw_39 qw_252 ⟨rfl, by decide, by decide, by decide +kernel⟩ (qx_room (by omega) (by decide)) rfl rfl (Nat.le_of_ble_eq_true rfl) dX4_lineOf_1 ?_
    refine qx_split _ (fun h1 => ?_) (fun h1 => ?_)
    · obtain ⟨k0, hk0, rfl⟩ := qx_inI 2 (by decide) h1
      have ik0 : (nI k0).toNatClampNeg = k0 := nI_clamp (by omega)
      refine qx_if_ne_t C (tgt := 9) dX4_lineOf_4 (by decide) (by decide) ?_
      refine qx_iload_n C dX4_lineOf_9 rfl rfl ?_
      refine qx_tableIn C (tgt := 58) (off := 48) dX4_lineOf_10 (by decide) (by decide) (by decide) (by decide) ?_
      refine qx_aload_n C dX4_lineOf_58 rfl rfl ?_
      refine qx_getR C (j := 0) (k := 1) hiX4 rfl rfl (by decide) qw_194 rfl dX4_lineOf_59 ?_
      refine qx_getRN C (j := 7) (k := 8) hiX1 rfl rfl (by decide) qn_5 rfl dX4_lineOf_62 ?_
      refine qx_iload_n C dX4_lineOf_65 rfl rfl ?_
      refine qx_ialdN C (j := 12) rfl ⟨by omega, by decide⟩ dX4_lineOf_66 ?_
      exact qx_iret C dX4_lineOf_67 rfl (by first | rfl | simp [fLineOf, h1, ik0]) (by first | rfl | simp [fLineOf, h1, ik0])
    · refine qx_if_ne_f C (tgt := 9) dX4_lineOf_4 (by decide) (by decide) ?_
      refine qx_iconst C (v := (-1)) dX4_lineOf_7 rfl ?_
      exact qx_iret C dX4_lineOf_8 rfl (by first | rfl | simp [fLineOf, h1]) (by first | rfl | simp [fLineOf, h1])
  by_cases e3 : w = 3
  · subst e3
    refine qx_iload_n C dX4_lineOf_0 rfl rfl ?_
    refine qx_callSI C (As := [_]) (n := 1) (c_X4_isLine F (d + 1) _ _) qw_250 qw_251 qw_39 qw_252 ⟨rfl, by decide, by decide, by decide +kernel⟩ (qx_room (by omega) (by decide)) rfl rfl (Nat.le_of_ble_eq_true rfl) dX4_lineOf_1 ?_
    refine qx_split _ (fun h1 => ?_) (fun h1 => ?_)
    · obtain ⟨k0, hk0, rfl⟩ := qx_inI 2 (by decide) h1
      have ik0 : (nI k0).toNatClampNeg = k0 := nI_clamp (by omega)
      refine qx_if_ne_t C (tgt := 9) dX4_lineOf_4 (by decide) (by decide) ?_
      refine qx_iload_n C dX4_lineOf_9 rfl rfl ?_
      refine qx_tableIn C (tgt := 68) (off := 58) dX4_lineOf_10 (by decide) (by decide) (by decide) (by decide) ?_
      refine qx_aload_n C dX4_lineOf_68 rfl rfl ?_
      refine qx_getR C (j := 0) (k := 1) hiX4 rfl rfl (by decide) qw_194 rfl dX4_lineOf_69 ?_
      refine qx_getRN C (j := 7) (k := 9) hiX1 rfl rfl (by decide) qn_4 rfl dX4_lineOf_72 ?_
      refine qx_iload_n C dX4_lineOf_75 rfl rfl ?_
      refine qx_ialdN C (j := 13) rfl ⟨by omega, by decide⟩ dX4_lineOf_76 ?_
      exact qx_iret C dX4_lineOf_77 rfl (by first | rfl | simp [fLineOf, h1, ik0]) (by first | rfl | simp [fLineOf, h1, ik0])
    · refine qx_if_ne_f C (tgt := 9) dX4_lineOf_4 (by decide) (by decide) ?_
      refine qx_iconst C (v := (-1)) dX4_lineOf_7 rfl ?_
      exact qx_iret C dX4_lineOf_8 rfl (by first | rfl | simp [fLineOf, h1]) (by first | rfl | simp [fLineOf, h1])
  refine qx_iload_n C dX4_lineOf_0 rfl rfl ?_
  refine qx_callSI C (As := [_]) (n := 1) (c_X4_isLine F (d + 1) _ _) qw_250 qw_251 qw_39 qw_252 ⟨rfl, by decide, by decide, by decide +kernel⟩ (qx_room (by omega) (by decide)) rfl rfl (Nat.le_of_ble_eq_true rfl) dX4_lineOf_1 ?_
  refine qx_split _ (fun h1 => ?_) (fun h1 => ?_)
  · obtain ⟨k0, hk0, rfl⟩ := qx_inI 2 (by decide) h1
    have ik0 : (nI k0).toNatClampNeg = k0 := nI_clamp (by omega)
    refine qx_if_ne_t C (tgt := 9) dX4_lineOf_4 (by decide) (by decide) ?_
    refine qx_iload_n C dX4_lineOf_9 rfl rfl ?_
    refine qx_tableOut C (tgt := 78) dX4_lineOf_10 (by have z0 := lv_neT e0 (a := 0) rfl; have z1 := lv_neT e1 (a := 1) rfl; have z2 := lv_neT e2 (a := 2) rfl; have z3 := lv_neT e3 (a := 3) rfl; omega) (by decide) ?_
    refine qx_iconst C (v := (-1)) dX4_lineOf_78 rfl ?_
    exact qx_iret C dX4_lineOf_79 rfl (by first | rfl | simp [fLineOf, e0, e1, e2, e3, h1, ik0]) (by first | rfl | simp [fLineOf, e0, e1, e2, e3, h1, ik0])
  · refine qx_if_ne_f C (tgt := 9) dX4_lineOf_4 (by decide) (by decide) ?_
    refine qx_iconst C (v := (-1)) dX4_lineOf_7 rfl ?_
    exact qx_iret C dX4_lineOf_8 rfl (by first | rfl | simp [fLineOf, e0, e1, e2, e3, h1]) (by first | rfl | simp [fLineOf, e0, e1, e2, e3, h1])
set_option maxRecDepth 20000 in
set_option maxHeartbeats 4000000 in
theorem c_X4_many (F : qx_F) (d : Nat) (σ : qx_S) (w : Int32) (P : Nat) (hP : σ 1 0 = nI P) (hP8 : P ≤ 8) (n : Nat) (hw : wN σ n) : qx_cI F shC ⟨"NightStalls", "many", "(I)I"⟩ (.code ⟨"NightStalls", "many", "(I)I"⟩ prog_1_method_22_code 2 ((some FieldType.int)) :: qx_W) (qx_R (d + 5)) [.ref (fa F 0), .int w] σ (fMany σ w P n) (σ) := by
  refine qx_met (by decide) (Nat.le_of_ble_eq_true rfl) (by intro v hv; simp only [List.mem_cons, List.not_mem_nil, or_false] at hv; rcases hv with rfl | rfl <;> rfl) (fun K C => ?_)
  have hn := hw.2.2.1
  have hn20 := hw.2.2.2
  by_cases e0 : w = 0
  · subst e0
    refine qx_iload_n C dX4_many_0 rfl rfl ?_
    refine qx_tableIn C (tgt := 64) (off := 63) dX4_many_1 (by decide) (by decide) (by decide) (by decide) ?_
    refine qx_aload_n C dX4_many_64 rfl rfl ?_
    refine qx_getR C (j := 0) (k := 0) hiX4 rfl rfl (by decide) qw_193 rfl dX4_many_65 ?_
    refine qx_getIN C (j := 1) (k := 0) hiX3 rfl rfl (by decide) qn_6 rfl dX4_many_68 ?_
    exact qx_iret C dX4_many_71 rfl (by first | rfl | simp [fMany]) (by first | rfl | simp [fMany])
  by_cases e1 : w = 1
  · subst e1
    refine qx_iload_n C dX4_many_0 rfl rfl ?_
    refine qx_tableIn C (tgt := 72) (off := 71) dX4_many_1 (by decide) (by decide) (by decide) (by decide) ?_
    refine qx_aload_n C dX4_many_72 rfl rfl ?_
    refine qx_getR C (j := 0) (k := 0) hiX4 rfl rfl (by decide) qw_193 rfl dX4_many_73 ?_
    refine qx_getIN C (j := 1) (k := 1) hiX3 rfl rfl (by decide) qn_8 rfl dX4_many_76 ?_
    exact qx_iret C dX4_many_79 rfl (by first | rfl | simp [fMany]) (by first | rfl | simp [fMany])
  by_cases e2 : w = 2
  · subst e2
    refine qx_iload_n C dX4_many_0 rfl rfl ?_
    refine qx_tableIn C (tgt := 80) (off := 79) dX4_many_1 (by decide) (by decide) (by decide) (by decide) ?_
    refine qx_aload_n C dX4_many_80 rfl rfl ?_
    refine qx_getR C (j := 0) (k := 1) hiX4 rfl rfl (by decide) qw_194 rfl dX4_many_81 ?_
    refine qx_callVI C (b := 7) (As := []) (n := 0) (c_X1_standing F (d + 3) _ ) rfl rfl qw_401 qw_402 qw_403 qw_41 qw_404 ⟨rfl, by decide, by decide, by decide +kernel⟩ (qx_room (by omega) (by decide)) rfl rfl (Nat.le_of_ble_eq_true rfl) dX4_many_84 ?_
    exact qx_iret C dX4_many_87 rfl (by first | rfl | simp [fMany]) (by first | rfl | simp [fMany])
  by_cases e3 : w = 3
  · subst e3
    refine qx_iload_n C dX4_many_0 rfl rfl ?_
    refine qx_tableIn C (tgt := 88) (off := 87) dX4_many_1 (by decide) (by decide) (by decide) (by decide) ?_
    refine qx_aload_n C dX4_many_88 rfl rfl ?_
    refine qx_getR C (j := 0) (k := 1) hiX4 rfl rfl (by decide) qw_194 rfl dX4_many_89 ?_
    refine qx_getIN C (j := 7) (k := 2) hiX1 rfl rfl (by decide) qn_7 rfl dX4_many_92 ?_
    refine qx_if_eq C (tgt := 102) dX4_many_95 (by decide) (fun h95 => ?_) (fun h95 => ?_)
    · refine qx_iconst C (v := 0) dX4_many_102 rfl ?_
      exact qx_iret C dX4_many_103 rfl (by first | rfl | simp [fMany, h95]) (by first | rfl | simp [fMany, h95])
    · refine qx_iconst C (v := 1) dX4_many_98 rfl ?_
      refine qx_goto C (tgt := 103) dX4_many_99 (by decide) ?_
      exact qx_iret C dX4_many_103 rfl (by first | rfl | simp [fMany, h95]) (by first | rfl | simp [fMany, h95])
  by_cases e4 : w = 4
  · subst e4
    refine qx_iload_n C dX4_many_0 rfl rfl ?_
    refine qx_tableIn C (tgt := 104) (off := 103) dX4_many_1 (by decide) (by decide) (by decide) (by decide) ?_
    refine qx_aload_n C dX4_many_104 rfl rfl ?_
    refine qx_getR C (j := 0) (k := 1) hiX4 rfl rfl (by decide) qw_194 rfl dX4_many_105 ?_
    refine qx_getIN C (j := 7) (k := 3) hiX1 rfl rfl (by decide) qn_1 rfl dX4_many_108 ?_
    exact qx_iret C dX4_many_111 rfl (by first | rfl | simp [fMany]) (by first | rfl | simp [fMany])
  by_cases e5 : w = 5
  · subst e5
    refine qx_iload_n C dX4_many_0 rfl rfl ?_
    refine qx_tableIn C (tgt := 112) (off := 111) dX4_many_1 (by decide) (by decide) (by decide) (by decide) ?_
    refine qx_aload_n C dX4_many_112 rfl rfl ?_
    refine qx_getR C (j := 0) (k := 1) hiX4 rfl rfl (by decide) qw_194 rfl dX4_many_113 ?_
    refine qx_getRN C (j := 7) (k := 1) hiX1 rfl rfl (by decide) qn_2 rfl dX4_many_116 ?_
    refine qx_getIN C (j := 14) (k := 0) hiX0 rfl rfl (by decide) qn_3 rfl dX4_many_119 ?_
    exact qx_iret C dX4_many_122 rfl (by first | rfl | simp [fMany]) (by first | rfl | simp [fMany])
  by_cases e6 : w = 6
  · subst e6
    refine qx_iload_n C dX4_many_0 rfl rfl ?_
    refine qx_tableIn C (tgt := 123) (off := 122) dX4_many_1 (by decide) (by decide) (by decide) (by decide) ?_
    refine qx_aload_n C dX4_many_123 rfl rfl ?_
    refine qx_getR C (j := 0) (k := 1) hiX4 rfl rfl (by decide) qw_194 rfl dX4_many_124 ?_
    refine qx_getRN C (j := 7) (k := 1) hiX1 rfl rfl (by decide) qn_2 rfl dX4_many_127 ?_
    refine qx_iconst C (v := 3) dX4_many_130 rfl ?_
    refine qx_callVI C (b := 14) (As := [_]) (n := 1) (c_X0_countOf F (d + 3) _ _ n hn hn20) rfl rfl qw_537 qw_538 qw_539 qw_42 qw_540 ⟨rfl, by decide, by decide, by decide +kernel⟩ (qx_room (by omega) (by decide)) rfl rfl (Nat.le_of_ble_eq_true rfl) dX4_many_131 ?_
    exact qx_iret C dX4_many_134 rfl (by first | rfl | simp [fMany]) (by first | rfl | simp [fMany])
  by_cases e7 : w = 7
  · subst e7
    refine qx_iload_n C dX4_many_0 rfl rfl ?_
    refine qx_tableIn C (tgt := 135) (off := 134) dX4_many_1 (by decide) (by decide) (by decide) (by decide) ?_
    refine qx_aload_n C dX4_many_135 rfl rfl ?_
    refine qx_getR C (j := 0) (k := 1) hiX4 rfl rfl (by decide) qw_194 rfl dX4_many_136 ?_
    refine qx_getRN C (j := 7) (k := 1) hiX1 rfl rfl (by decide) qn_2 rfl dX4_many_139 ?_
    refine qx_iconst C (v := 4) dX4_many_142 rfl ?_
    refine qx_callVI C (b := 14) (As := [_]) (n := 1) (c_X0_countOf F (d + 3) _ _ n hn hn20) rfl rfl qw_537 qw_538 qw_539 qw_42 qw_540 ⟨rfl, by decide, by decide, by decide +kernel⟩ (qx_room (by omega) (by decide)) rfl rfl (Nat.le_of_ble_eq_true rfl) dX4_many_143 ?_
    exact qx_iret C dX4_many_146 rfl (by first | rfl | simp [fMany]) (by first | rfl | simp [fMany])
  by_cases e8 : w = 8
  · subst e8
    refine qx_iload_n C dX4_many_0 rfl rfl ?_
    refine qx_tableIn C (tgt := 147) (off := 146) dX4_many_1 (by decide) (by decide) (by decide) (by decide) ?_
    refine qx_aload_n C dX4_many_147 rfl rfl ?_
    refine qx_getR C (j := 0) (k := 1) hiX4 rfl rfl (by decide) qw_194 rfl dX4_many_148 ?_
    refine qx_getRN C (j := 7) (k := 1) hiX1 rfl rfl (by decide) qn_2 rfl dX4_many_151 ?_
    refine qx_iconst C (v := 5) dX4_many_154 rfl ?_
    refine qx_callVI C (b := 14) (As := [_]) (n := 1) (c_X0_countOf F (d + 3) _ _ n hn hn20) rfl rfl qw_537 qw_538 qw_539 qw_42 qw_540 ⟨rfl, by decide, by decide, by decide +kernel⟩ (qx_room (by omega) (by decide)) rfl rfl (Nat.le_of_ble_eq_true rfl) dX4_many_155 ?_
    exact qx_iret C dX4_many_158 rfl (by first | rfl | simp [fMany]) (by first | rfl | simp [fMany])
  by_cases e9 : w = 9
  · subst e9
    refine qx_iload_n C dX4_many_0 rfl rfl ?_
    refine qx_tableIn C (tgt := 159) (off := 158) dX4_many_1 (by decide) (by decide) (by decide) (by decide) ?_
    refine qx_aload_n C dX4_many_159 rfl rfl ?_
    refine qx_getR C (j := 0) (k := 1) hiX4 rfl rfl (by decide) qw_194 rfl dX4_many_160 ?_
    refine qx_callVI C (b := 7) (As := []) (n := 0) (c_X1_allTook F (d + 3) _ ) rfl rfl qw_541 qw_542 qw_543 qw_41 qw_544 ⟨rfl, by decide, by decide, by decide +kernel⟩ (qx_room (by omega) (by decide)) rfl rfl (Nat.le_of_ble_eq_true rfl) dX4_many_163 ?_
    exact qx_iret C dX4_many_166 rfl (by first | rfl | simp [fMany]) (by first | rfl | simp [fMany])
  by_cases e10 : w = 10
  · subst e10
    refine qx_iload_n C dX4_many_0 rfl rfl ?_
    refine qx_tableIn C (tgt := 167) (off := 166) dX4_many_1 (by decide) (by decide) (by decide) (by decide) ?_
    refine qx_aload_n C dX4_many_167 rfl rfl ?_
    refine qx_getR C (j := 0) (k := 1) hiX4 rfl rfl (by decide) qw_194 rfl dX4_many_168 ?_
    refine qx_callVI C (b := 7) (As := []) (n := 0) (c_X1_allBills F (d + 0) _ n hw) rfl rfl qw_545 qw_546 qw_547 qw_41 qw_548 ⟨rfl, by decide, by decide, by decide +kernel⟩ (qx_room (by omega) (by decide)) rfl rfl (Nat.le_of_ble_eq_true rfl) dX4_many_171 ?_
    exact qx_iret C dX4_many_174 rfl (by first | rfl | simp [fMany]) (by first | rfl | simp [fMany])
  by_cases e11 : w = 11
  · subst e11
    refine qx_iload_n C dX4_many_0 rfl rfl ?_
    refine qx_tableIn C (tgt := 175) (off := 174) dX4_many_1 (by decide) (by decide) (by decide) (by decide) ?_
    refine qx_aload_n C dX4_many_175 rfl rfl ?_
    refine qx_getR C (j := 0) (k := 0) hiX4 rfl rfl (by decide) qw_193 rfl dX4_many_176 ?_
    refine qx_callVI C (b := 1) (As := []) (n := 0) (c_X3_lanes F (d + 2) _ P hP hP8) rfl rfl qw_549 qw_550 qw_551 qw_40 qw_552 ⟨rfl, by decide, by decide, by decide +kernel⟩ (qx_room (by omega) (by decide)) rfl rfl (Nat.le_of_ble_eq_true rfl) dX4_many_179 ?_
    exact qx_iret C dX4_many_182 rfl (by first | rfl | simp [fMany]) (by first | rfl | simp [fMany])
  refine qx_iload_n C dX4_many_0 rfl rfl ?_
  refine qx_tableOut C (tgt := 183) dX4_many_1 (by have z0 := lv_neT e0 (a := 0) rfl; have z1 := lv_neT e1 (a := 1) rfl; have z2 := lv_neT e2 (a := 2) rfl; have z3 := lv_neT e3 (a := 3) rfl; have z4 := lv_neT e4 (a := 4) rfl; have z5 := lv_neT e5 (a := 5) rfl; have z6 := lv_neT e6 (a := 6) rfl; have z7 := lv_neT e7 (a := 7) rfl; have z8 := lv_neT e8 (a := 8) rfl; have z9 := lv_neT e9 (a := 9) rfl; have z10 := lv_neT e10 (a := 10) rfl; have z11 := lv_neT e11 (a := 11) rfl; omega) (by decide) ?_
  refine qx_iconst C (v := (-1)) dX4_many_183 rfl ?_
  exact qx_iret C dX4_many_184 rfl (by first | rfl | simp [fMany, e0, e1, e2, e3, e4, e5, e6, e7, e8, e9, e10, e11]) (by first | rfl | simp [fMany, e0, e1, e2, e3, e4, e5, e6, e7, e8, e9, e10, e11])
set_option maxRecDepth 20000 in
set_option maxHeartbeats 4000000 in
theorem c_X4_keep (F : qx_F) (d : Nat) (σ : qx_S) (hb : σ 7 2 = 0 ∨ σ 7 2 = 1) : qx_cI F shC ⟨"NightStalls", "keep", "()I"⟩ (.code ⟨"NightStalls", "keep", "()I"⟩ prog_1_method_23_code 1 ((some FieldType.int)) :: qx_W) (qx_R (d + 4)) [.ref (fa F 0)] σ (1) (kpt σ) := by
  refine qx_met (by decide) (Nat.le_of_ble_eq_true rfl) (by intro v hv; simp only [List.mem_cons, List.not_mem_nil, or_false] at hv; rcases hv with rfl <;> rfl) (fun K C => ?_)
  have hb2 : bSk σ 7 2 = 0 ∨ bSk σ 7 2 = 1 := hb
  refine qx_aload_n C dX4_keep_0 rfl rfl ?_
  refine qx_getR C (j := 0) (k := 3) hiX4 rfl rfl (by decide) qw_196 rfl dX4_keep_1 ?_
  refine qx_aload_n C dX4_keep_4 rfl rfl ?_
  refine qx_getR C (j := 0) (k := 0) hiX4 rfl rfl (by decide) qw_193 rfl dX4_keep_5 ?_
  refine qx_callVv C (b := 26) (As := [_]) (n := 1) (c_X3_becomek F (d + 1) _) rfl rfl qw_557 qw_558 qw_559 qw_40 qw_560 ⟨rfl, by decide, by decide, by decide +kernel⟩ (qx_room (by omega) (by decide)) rfl rfl (Nat.le_of_ble_eq_true rfl) dX4_keep_8 ?_
  refine qx_aload_n C dX4_keep_11 rfl rfl ?_
  refine qx_getR C (j := 0) (k := 4) hiX4 rfl rfl (by decide) qw_197 rfl dX4_keep_12 ?_
  refine qx_aload_n C dX4_keep_15 rfl rfl ?_
  refine qx_getR C (j := 0) (k := 1) hiX4 rfl rfl (by decide) qw_194 rfl dX4_keep_16 ?_
  refine qx_callVv C (b := 32) (As := [_]) (n := 1) (c_X1_becomek F (d + 0) _ hb2) rfl rfl qw_562 qw_563 qw_564 qw_41 qw_565 ⟨rfl, by decide, by decide, by decide +kernel⟩ (qx_room (by omega) (by decide)) rfl rfl (Nat.le_of_ble_eq_true rfl) dX4_keep_19 ?_
  refine qx_aload_n C dX4_keep_22 rfl rfl ?_
  refine qx_iconst C (v := 1) dX4_keep_23 rfl ?_
  refine qx_put C (j := 0) (k := 5) hiX4 rfl rfl (by decide) tyX4 tyX4_ok nmX4 qw_198 rfl rfl rfl rfl dX4_keep_24 ?_
  refine qx_iconst C (v := 1) dX4_keep_27 rfl ?_
  exact qx_iret C dX4_keep_28 rfl rfl rfl
set_option maxRecDepth 20000 in
set_option maxHeartbeats 4000000 in
theorem c_X4_back (F : qx_F) (d : Nat) (σ : qx_S) (hb : σ 32 2 = 0 ∨ σ 32 2 = 1) : qx_cI F shC ⟨"NightStalls", "back", "()I"⟩ (.code ⟨"NightStalls", "back", "()I"⟩ prog_1_method_24_code 1 ((some FieldType.int)) :: qx_W) (qx_R (d + 4)) [.ref (fa F 0)] σ ((fBack σ).1) ((fBack σ).2) := by
  refine qx_met (by decide) (Nat.le_of_ble_eq_true rfl) (by intro v hv; simp only [List.mem_cons, List.not_mem_nil, or_false] at hv; rcases hv with rfl <;> rfl) (fun K C => ?_)
  have hb2 : bSb σ 32 2 = 0 ∨ bSb σ 32 2 = 1 := hb
  refine qx_aload_n C dX4_back_0 rfl rfl ?_
  refine qx_getI C (j := 0) (k := 5) hiX4 rfl rfl (by decide) qw_198 rfl dX4_back_1 ?_
  refine qx_if_ne C (tgt := 10) dX4_back_4 (by decide) (fun h4 => ?_) (fun h4 => ?_)
  · refine qx_aload_n C dX4_back_10 rfl rfl ?_
    refine qx_getR C (j := 0) (k := 0) hiX4 rfl rfl (by decide) qw_193 rfl dX4_back_11 ?_
    refine qx_aload_n C dX4_back_14 rfl rfl ?_
    refine qx_getR C (j := 0) (k := 3) hiX4 rfl rfl (by decide) qw_196 rfl dX4_back_15 ?_
    refine qx_callVv C (b := 1) (As := [_]) (n := 1) (c_X3_becomeb F (d + 1) _) rfl rfl qw_557 qw_558 qw_559 qw_40 qw_560 ⟨rfl, by decide, by decide, by decide +kernel⟩ (qx_room (by omega) (by decide)) rfl rfl (Nat.le_of_ble_eq_true rfl) dX4_back_18 ?_
    refine qx_aload_n C dX4_back_21 rfl rfl ?_
    refine qx_getR C (j := 0) (k := 1) hiX4 rfl rfl (by decide) qw_194 rfl dX4_back_22 ?_
    refine qx_aload_n C dX4_back_25 rfl rfl ?_
    refine qx_getR C (j := 0) (k := 4) hiX4 rfl rfl (by decide) qw_197 rfl dX4_back_26 ?_
    refine qx_callVv C (b := 7) (As := [_]) (n := 1) (c_X1_becomeb F (d + 0) _ hb2) rfl rfl qw_562 qw_563 qw_564 qw_41 qw_565 ⟨rfl, by decide, by decide, by decide +kernel⟩ (qx_room (by omega) (by decide)) rfl rfl (Nat.le_of_ble_eq_true rfl) dX4_back_29 ?_
    refine qx_iconst C (v := 1) dX4_back_32 rfl ?_
    exact qx_iret C dX4_back_33 rfl (by first | rfl | simp [fBack, h4]) (by first | rfl | simp [fBack, h4])
  · refine qx_bipush C (v := (-4)) dX4_back_7 rfl ?_
    exact qx_iret C dX4_back_9 rfl (by first | rfl | simp [fBack, h4]) (by first | rfl | simp [fBack, h4])
