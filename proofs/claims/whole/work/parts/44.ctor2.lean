set_option maxRecDepth 100000 in
set_option maxHeartbeats 8000000 in
theorem c_X3_init (l : Launch) (D : va_G) (h0 : Nat) : nx_c l D ⟨"NightStalls$Street", "<init>", "()V"⟩ (.code ⟨"NightStalls$Street", "<init>", "()V"⟩ prog_5_method_1_code 2 none :: qx_W) { frames := 1, cells := 5, slots := 75, locals := 40 } [.ref h0] [(h0, .inr (3, [.int 0, .int 0, .null, .null, .null, .null, .null]))] (fun u => [(h0, .inr (3, [.int 1, .int 0, .ref (u.1 0), .ref (u.1 1), .ref (u.1 2), .ref (u.1 3), .ref (u.1 4)])), ((u.1 0), .inl ((u.2 0), 24, .inl (fun _ => 0))), ((u.1 1), .inl ((u.2 1), 3, .inl (upd (upd (upd (fun _ => 0) 0 30) 1 30) 2 30))), ((u.1 2), .inl ((u.2 2), 16, .inl (fun _ => 0))), ((u.1 3), .inl ((u.2 3), 2, .inl (upd (upd (fun _ => 0) 0 1) 1 10))), ((u.1 4), .inl ((u.2 4), 30, .inl (fun _ => 0)))]) (fun u => [((u.2 0), FieldType.int), ((u.2 1), FieldType.int), ((u.2 2), FieldType.int), ((u.2 3), FieldType.int), ((u.2 4), FieldType.int)]) 5 75 := by
  refine nx_met (by decide) (Nat.le_of_ble_eq_true rfl) (by intro v hv; simp only [List.mem_cons, List.not_mem_nil, or_false] at hv; rcases hv with rfl <;> rfl) rfl (fun K A C hQ => ?_)
  refine nx_aload_n C dX3_init_0 rfl rfl ?_
  refine nx_objInit C qw_60 qw_53 qw_54 ⟨by decide, by decide⟩ (Nat.le_of_ble_eq_true rfl) dX3_init_1 ?_
  refine nx_aload_n C dX3_init_4 rfl rfl ?_
  refine nx_iconst C (v := 1) dX3_init_5 rfl ?_
  refine nx_put C (q0 := 0) (k := 0) (ws2 := [(h0, .inr (3, [.int 1, .int 0, .null, .null, .null, .null, .null]))]) tyX3 hiX3 tyX3_ok nmX3 rfl rfl (by decide) qw_61 rfl rfl rfl (Nat.le_of_ble_eq_true rfl) dX3_init_6 rfl ?_
  refine nx_aload_n C dX3_init_9 rfl rfl ?_
  refine nx_iconst C (v := 0) dX3_init_10 rfl ?_
  refine nx_put C (q0 := 0) (k := 1) (ws2 := [(h0, .inr (3, [.int 1, .int 0, .null, .null, .null, .null, .null]))]) tyX3 hiX3 tyX3_ok nmX3 rfl rfl (by decide) qw_65 rfl rfl rfl (Nat.le_of_ble_eq_true rfl) dX3_init_11 rfl ?_
  refine nx_aload_n C dX3_init_14 rfl rfl ?_
  refine nx_bipush C (v := 24) dX3_init_15 rfl ?_
  refine nx_newa C (N := 24) qw_88 (by decide) rfl (by decide) (by decide) (by decide) dX3_init_17 (fun q1 c1 => ?_)
  refine nx_ws (ws2 := [(h0, .inr (3, [.int 1, .int 0, .null, .null, .null, .null, .null])), (q1, .inl (c1, 24, .inl (fun _ => 0)))]) (tys2 := [(c1, FieldType.int)]) rfl rfl ?_
  refine nx_putF C (q0 := 0) (k := 2) (ws2 := [(h0, .inr (3, [.int 1, .int 0, .ref q1, .null, .null, .null, .null])), (q1, .inl (c1, 24, .inl (fun _ => 0)))]) tyX3 hiX3 tyX3_ok nmX3 rfl rfl (by decide) qw_68 rfl rfl rfl rfl (Nat.le_of_ble_eq_true rfl) dX3_init_19 rfl ?_
  refine nx_aload_n C dX3_init_22 rfl rfl ?_
  refine nx_iconst C (v := 3) dX3_init_23 rfl ?_
  refine nx_newa C (N := 3) qw_88 (by decide) rfl (by decide) (by decide) (by decide) dX3_init_24 (fun q2 c2 => ?_)
  refine nx_ws (ws2 := [(h0, .inr (3, [.int 1, .int 0, .ref q1, .null, .null, .null, .null])), (q1, .inl (c1, 24, .inl (fun _ => 0))), (q2, .inl (c2, 3, .inl (fun _ => 0)))]) (tys2 := [(c1, FieldType.int), (c2, FieldType.int)]) rfl rfl ?_
  refine nx_putF C (q0 := 0) (k := 3) (ws2 := [(h0, .inr (3, [.int 1, .int 0, .ref q1, .ref q2, .null, .null, .null])), (q1, .inl (c1, 24, .inl (fun _ => 0))), (q2, .inl (c2, 3, .inl (fun _ => 0)))]) tyX3 hiX3 tyX3_ok nmX3 rfl rfl (by decide) qw_69 rfl rfl rfl rfl (Nat.le_of_ble_eq_true rfl) dX3_init_26 rfl ?_
  refine nx_iconst C (v := 0) dX3_init_29 rfl ?_
  refine nx_istore_n C dX3_init_30 rfl (Nat.le_of_ble_eq_true rfl) ?_
  refine nx_iload_n C dX3_init_31 rfl rfl ?_
  refine nx_iconst C (v := 3) dX3_init_32 rfl ?_
  refine nx_icmp_ge_f C (tgt := 50) dX3_init_33 (by decide) (by decide) ?_
  refine nx_aload_n C dX3_init_36 rfl rfl ?_
  refine nx_get C (q0 := 0) (k := 3) hiX3 rfl rfl (by decide) qw_69 rfl dX3_init_37 ?_
  refine nx_iload_n C dX3_init_40 rfl rfl ?_
  refine nx_bipush C (v := 30) dX3_init_41 rfl ?_
  refine nx_iast C (q0 := 2) (t0 := 1) (k := 0) (ws2 := [(h0, .inr (3, [.int 1, .int 0, .ref q1, .ref q2, .null, .null, .null])), (q1, .inl (c1, 24, .inl (fun _ => 0))), (q2, .inl (c2, 3, .inl (upd (fun _ => 0) 0 30)))]) rfl rfl (by unfold vp_in; decide) rfl dX3_init_43 rfl ?_
  refine nx_iinc C (v := 1) dX3_init_44 rfl rfl ?_
  refine nx_goto C (tgt := 31) dX3_init_47 (by decide) ?_
  refine nx_iload_n C dX3_init_31 rfl rfl ?_
  refine nx_iconst C (v := 3) dX3_init_32 rfl ?_
  refine nx_icmp_ge_f C (tgt := 50) dX3_init_33 (by decide) (by decide) ?_
  refine nx_aload_n C dX3_init_36 rfl rfl ?_
  refine nx_get C (q0 := 0) (k := 3) hiX3 rfl rfl (by decide) qw_69 rfl dX3_init_37 ?_
  refine nx_iload_n C dX3_init_40 rfl rfl ?_
  refine nx_bipush C (v := 30) dX3_init_41 rfl ?_
  refine nx_iast C (q0 := 2) (t0 := 1) (k := 1) (ws2 := [(h0, .inr (3, [.int 1, .int 0, .ref q1, .ref q2, .null, .null, .null])), (q1, .inl (c1, 24, .inl (fun _ => 0))), (q2, .inl (c2, 3, .inl (upd (upd (fun _ => 0) 0 30) 1 30)))]) rfl rfl (by unfold vp_in; decide) rfl dX3_init_43 rfl ?_
  refine nx_iinc C (v := 2) dX3_init_44 rfl rfl ?_
  refine nx_goto C (tgt := 31) dX3_init_47 (by decide) ?_
  refine nx_iload_n C dX3_init_31 rfl rfl ?_
  refine nx_iconst C (v := 3) dX3_init_32 rfl ?_
  refine nx_icmp_ge_f C (tgt := 50) dX3_init_33 (by decide) (by decide) ?_
  refine nx_aload_n C dX3_init_36 rfl rfl ?_
  refine nx_get C (q0 := 0) (k := 3) hiX3 rfl rfl (by decide) qw_69 rfl dX3_init_37 ?_
  refine nx_iload_n C dX3_init_40 rfl rfl ?_
  refine nx_bipush C (v := 30) dX3_init_41 rfl ?_
  refine nx_iast C (q0 := 2) (t0 := 1) (k := 2) (ws2 := [(h0, .inr (3, [.int 1, .int 0, .ref q1, .ref q2, .null, .null, .null])), (q1, .inl (c1, 24, .inl (fun _ => 0))), (q2, .inl (c2, 3, .inl (upd (upd (upd (fun _ => 0) 0 30) 1 30) 2 30)))]) rfl rfl (by unfold vp_in; decide) rfl dX3_init_43 rfl ?_
  refine nx_iinc C (v := 3) dX3_init_44 rfl rfl ?_
  refine nx_goto C (tgt := 31) dX3_init_47 (by decide) ?_
  refine nx_iload_n C dX3_init_31 rfl rfl ?_
  refine nx_iconst C (v := 3) dX3_init_32 rfl ?_
  refine nx_icmp_ge_t C (tgt := 50) dX3_init_33 (by decide) (by decide) ?_
  refine nx_aload_n C dX3_init_50 rfl rfl ?_
  refine nx_bipush C (v := 16) dX3_init_51 rfl ?_
  refine nx_newa C (N := 16) qw_88 (by decide) rfl (by decide) (by decide) (by decide) dX3_init_53 (fun q3 c3 => ?_)
  refine nx_ws (ws2 := [(h0, .inr (3, [.int 1, .int 0, .ref q1, .ref q2, .null, .null, .null])), (q1, .inl (c1, 24, .inl (fun _ => 0))), (q2, .inl (c2, 3, .inl (upd (upd (upd (fun _ => 0) 0 30) 1 30) 2 30))), (q3, .inl (c3, 16, .inl (fun _ => 0)))]) (tys2 := [(c1, FieldType.int), (c2, FieldType.int), (c3, FieldType.int)]) rfl rfl ?_
  refine nx_putF C (q0 := 0) (k := 4) (ws2 := [(h0, .inr (3, [.int 1, .int 0, .ref q1, .ref q2, .ref q3, .null, .null])), (q1, .inl (c1, 24, .inl (fun _ => 0))), (q2, .inl (c2, 3, .inl (upd (upd (upd (fun _ => 0) 0 30) 1 30) 2 30))), (q3, .inl (c3, 16, .inl (fun _ => 0)))]) tyX3 hiX3 tyX3_ok nmX3 rfl rfl (by decide) qw_70 rfl rfl rfl rfl (Nat.le_of_ble_eq_true rfl) dX3_init_55 rfl ?_
  refine nx_aload_n C dX3_init_58 rfl rfl ?_
  refine nx_iconst C (v := 2) dX3_init_59 rfl ?_
  refine nx_newa C (N := 2) qw_88 (by decide) rfl (by decide) (by decide) (by decide) dX3_init_60 (fun q4 c4 => ?_)
  refine nx_ws (ws2 := [(h0, .inr (3, [.int 1, .int 0, .ref q1, .ref q2, .ref q3, .null, .null])), (q1, .inl (c1, 24, .inl (fun _ => 0))), (q2, .inl (c2, 3, .inl (upd (upd (upd (fun _ => 0) 0 30) 1 30) 2 30))), (q3, .inl (c3, 16, .inl (fun _ => 0))), (q4, .inl (c4, 2, .inl (fun _ => 0)))]) (tys2 := [(c1, FieldType.int), (c2, FieldType.int), (c3, FieldType.int), (c4, FieldType.int)]) rfl rfl ?_
  refine nx_putF C (q0 := 0) (k := 5) (ws2 := [(h0, .inr (3, [.int 1, .int 0, .ref q1, .ref q2, .ref q3, .ref q4, .null])), (q1, .inl (c1, 24, .inl (fun _ => 0))), (q2, .inl (c2, 3, .inl (upd (upd (upd (fun _ => 0) 0 30) 1 30) 2 30))), (q3, .inl (c3, 16, .inl (fun _ => 0))), (q4, .inl (c4, 2, .inl (fun _ => 0)))]) tyX3 hiX3 tyX3_ok nmX3 rfl rfl (by decide) qw_71 rfl rfl rfl rfl (Nat.le_of_ble_eq_true rfl) dX3_init_62 rfl ?_
  refine nx_aload_n C dX3_init_65 rfl rfl ?_
  refine nx_get C (q0 := 0) (k := 5) hiX3 rfl rfl (by decide) qw_71 rfl dX3_init_66 ?_
  refine nx_iconst C (v := 0) dX3_init_69 rfl ?_
  refine nx_iconst C (v := 1) dX3_init_70 rfl ?_
  refine nx_iast C (q0 := 4) (t0 := 3) (k := 0) (ws2 := [(h0, .inr (3, [.int 1, .int 0, .ref q1, .ref q2, .ref q3, .ref q4, .null])), (q1, .inl (c1, 24, .inl (fun _ => 0))), (q2, .inl (c2, 3, .inl (upd (upd (upd (fun _ => 0) 0 30) 1 30) 2 30))), (q3, .inl (c3, 16, .inl (fun _ => 0))), (q4, .inl (c4, 2, .inl (upd (fun _ => 0) 0 1)))]) rfl rfl (by unfold vp_in; decide) rfl dX3_init_71 rfl ?_
  refine nx_aload_n C dX3_init_72 rfl rfl ?_
  refine nx_get C (q0 := 0) (k := 5) hiX3 rfl rfl (by decide) qw_71 rfl dX3_init_73 ?_
  refine nx_iconst C (v := 1) dX3_init_76 rfl ?_
  refine nx_bipush C (v := 10) dX3_init_77 rfl ?_
  refine nx_iast C (q0 := 4) (t0 := 3) (k := 1) (ws2 := [(h0, .inr (3, [.int 1, .int 0, .ref q1, .ref q2, .ref q3, .ref q4, .null])), (q1, .inl (c1, 24, .inl (fun _ => 0))), (q2, .inl (c2, 3, .inl (upd (upd (upd (fun _ => 0) 0 30) 1 30) 2 30))), (q3, .inl (c3, 16, .inl (fun _ => 0))), (q4, .inl (c4, 2, .inl (upd (upd (fun _ => 0) 0 1) 1 10)))]) rfl rfl (by unfold vp_in; decide) rfl dX3_init_79 rfl ?_
  refine nx_aload_n C dX3_init_80 rfl rfl ?_
  refine nx_bipush C (v := 30) dX3_init_81 rfl ?_
  refine nx_newa C (N := 30) qw_88 (by decide) rfl (by decide) (by decide) (by decide) dX3_init_83 (fun q5 c5 => ?_)
  refine nx_ws (ws2 := [(h0, .inr (3, [.int 1, .int 0, .ref q1, .ref q2, .ref q3, .ref q4, .null])), (q1, .inl (c1, 24, .inl (fun _ => 0))), (q2, .inl (c2, 3, .inl (upd (upd (upd (fun _ => 0) 0 30) 1 30) 2 30))), (q3, .inl (c3, 16, .inl (fun _ => 0))), (q4, .inl (c4, 2, .inl (upd (upd (fun _ => 0) 0 1) 1 10))), (q5, .inl (c5, 30, .inl (fun _ => 0)))]) (tys2 := [(c1, FieldType.int), (c2, FieldType.int), (c3, FieldType.int), (c4, FieldType.int), (c5, FieldType.int)]) rfl rfl ?_
  refine nx_putF C (q0 := 0) (k := 6) (ws2 := [(h0, .inr (3, [.int 1, .int 0, .ref q1, .ref q2, .ref q3, .ref q4, .ref q5])), (q1, .inl (c1, 24, .inl (fun _ => 0))), (q2, .inl (c2, 3, .inl (upd (upd (upd (fun _ => 0) 0 30) 1 30) 2 30))), (q3, .inl (c3, 16, .inl (fun _ => 0))), (q4, .inl (c4, 2, .inl (upd (upd (fun _ => 0) 0 1) 1 10))), (q5, .inl (c5, 30, .inl (fun _ => 0)))]) tyX3 hiX3 tyX3_ok nmX3 rfl rfl (by decide) qw_72 rfl rfl rfl rfl (Nat.le_of_ble_eq_true rfl) dX3_init_85 rfl ?_
  exact nx_ret C hQ dX3_init_88 (fun i => [q1, q2, q3, q4, q5].getD i 0, fun i => [c1, c2, c3, c4, c5].getD i c1) [0, 1, 2, 3, 4, 5] [0, 1, 2, 3, 4] rfl rfl (by decide) rfl
set_option maxRecDepth 100000 in
set_option maxHeartbeats 8000000 in
theorem c_X0_init (l : Launch) (D : va_G) (h0 : Nat) : nx_c l D ⟨"NightStalls$Guests", "<init>", "()V"⟩ (.code ⟨"NightStalls$Guests", "<init>", "()V"⟩ prog_2_method_1_code 1 none :: qx_W) { frames := 1, cells := 6, slots := 120, locals := 40 } [.ref h0] [(h0, .inr (0, [.int 0, .null, .null, .null, .null, .null, .null]))] (fun u => [(h0, .inr (0, [.int 0, .ref (u.1 0), .ref (u.1 1), .ref (u.1 2), .ref (u.1 3), .ref (u.1 4), .ref (u.1 5)])), ((u.1 0), .inl ((u.2 0), 20, .inl (fun _ => 0))), ((u.1 1), .inl ((u.2 1), 20, .inl (fun _ => 0))), ((u.1 2), .inl ((u.2 2), 20, .inl (fun _ => 0))), ((u.1 3), .inl ((u.2 3), 20, .inl (fun _ => 0))), ((u.1 4), .inl ((u.2 4), 20, .inl (fun _ => 0))), ((u.1 5), .inl ((u.2 5), 20, .inl (fun _ => 0)))]) (fun u => [((u.2 0), FieldType.int), ((u.2 1), FieldType.int), ((u.2 2), FieldType.int), ((u.2 3), FieldType.int), ((u.2 4), FieldType.int), ((u.2 5), FieldType.int)]) 6 120 := by
  refine nx_met (by decide) (Nat.le_of_ble_eq_true rfl) (by intro v hv; simp only [List.mem_cons, List.not_mem_nil, or_false] at hv; rcases hv with rfl <;> rfl) rfl (fun K A C hQ => ?_)
  refine nx_aload_n C dX0_init_0 rfl rfl ?_
  refine nx_objInit C qw_100 qw_53 qw_54 ⟨by decide, by decide⟩ (Nat.le_of_ble_eq_true rfl) dX0_init_1 ?_
  refine nx_aload_n C dX0_init_4 rfl rfl ?_
  refine nx_bipush C (v := 20) dX0_init_5 rfl ?_
  refine nx_newa C (N := 20) qw_88 (by decide) rfl (by decide) (by decide) (by decide) dX0_init_7 (fun q1 c1 => ?_)
  refine nx_ws (ws2 := [(h0, .inr (0, [.int 0, .null, .null, .null, .null, .null, .null])), (q1, .inl (c1, 20, .inl (fun _ => 0)))]) (tys2 := [(c1, FieldType.int)]) rfl rfl ?_
  refine nx_putF C (q0 := 0) (k := 1) (ws2 := [(h0, .inr (0, [.int 0, .ref q1, .null, .null, .null, .null, .null])), (q1, .inl (c1, 20, .inl (fun _ => 0)))]) tyX0 hiX0 tyX0_ok nmX0 rfl rfl (by decide) qw_104 rfl rfl rfl rfl (Nat.le_of_ble_eq_true rfl) dX0_init_9 rfl ?_
  refine nx_aload_n C dX0_init_12 rfl rfl ?_
  refine nx_bipush C (v := 20) dX0_init_13 rfl ?_
  refine nx_newa C (N := 20) qw_88 (by decide) rfl (by decide) (by decide) (by decide) dX0_init_15 (fun q2 c2 => ?_)
  refine nx_ws (ws2 := [(h0, .inr (0, [.int 0, .ref q1, .null, .null, .null, .null, .null])), (q1, .inl (c1, 20, .inl (fun _ => 0))), (q2, .inl (c2, 20, .inl (fun _ => 0)))]) (tys2 := [(c1, FieldType.int), (c2, FieldType.int)]) rfl rfl ?_
  refine nx_putF C (q0 := 0) (k := 2) (ws2 := [(h0, .inr (0, [.int 0, .ref q1, .ref q2, .null, .null, .null, .null])), (q1, .inl (c1, 20, .inl (fun _ => 0))), (q2, .inl (c2, 20, .inl (fun _ => 0)))]) tyX0 hiX0 tyX0_ok nmX0 rfl rfl (by decide) qw_106 rfl rfl rfl rfl (Nat.le_of_ble_eq_true rfl) dX0_init_17 rfl ?_
  refine nx_aload_n C dX0_init_20 rfl rfl ?_
  refine nx_bipush C (v := 20) dX0_init_21 rfl ?_
  refine nx_newa C (N := 20) qw_88 (by decide) rfl (by decide) (by decide) (by decide) dX0_init_23 (fun q3 c3 => ?_)
  refine nx_ws (ws2 := [(h0, .inr (0, [.int 0, .ref q1, .ref q2, .null, .null, .null, .null])), (q1, .inl (c1, 20, .inl (fun _ => 0))), (q2, .inl (c2, 20, .inl (fun _ => 0))), (q3, .inl (c3, 20, .inl (fun _ => 0)))]) (tys2 := [(c1, FieldType.int), (c2, FieldType.int), (c3, FieldType.int)]) rfl rfl ?_
  refine nx_putF C (q0 := 0) (k := 3) (ws2 := [(h0, .inr (0, [.int 0, .ref q1, .ref q2, .ref q3, .null, .null, .null])), (q1, .inl (c1, 20, .inl (fun _ => 0))), (q2, .inl (c2, 20, .inl (fun _ => 0))), (q3, .inl (c3, 20, .inl (fun _ => 0)))]) tyX0 hiX0 tyX0_ok nmX0 rfl rfl (by decide) qw_108 rfl rfl rfl rfl (Nat.le_of_ble_eq_true rfl) dX0_init_25 rfl ?_
  refine nx_aload_n C dX0_init_28 rfl rfl ?_
  refine nx_bipush C (v := 20) dX0_init_29 rfl ?_
  refine nx_newa C (N := 20) qw_88 (by decide) rfl (by decide) (by decide) (by decide) dX0_init_31 (fun q4 c4 => ?_)
  refine nx_ws (ws2 := [(h0, .inr (0, [.int 0, .ref q1, .ref q2, .ref q3, .null, .null, .null])), (q1, .inl (c1, 20, .inl (fun _ => 0))), (q2, .inl (c2, 20, .inl (fun _ => 0))), (q3, .inl (c3, 20, .inl (fun _ => 0))), (q4, .inl (c4, 20, .inl (fun _ => 0)))]) (tys2 := [(c1, FieldType.int), (c2, FieldType.int), (c3, FieldType.int), (c4, FieldType.int)]) rfl rfl ?_
  refine nx_putF C (q0 := 0) (k := 4) (ws2 := [(h0, .inr (0, [.int 0, .ref q1, .ref q2, .ref q3, .ref q4, .null, .null])), (q1, .inl (c1, 20, .inl (fun _ => 0))), (q2, .inl (c2, 20, .inl (fun _ => 0))), (q3, .inl (c3, 20, .inl (fun _ => 0))), (q4, .inl (c4, 20, .inl (fun _ => 0)))]) tyX0 hiX0 tyX0_ok nmX0 rfl rfl (by decide) qw_109 rfl rfl rfl rfl (Nat.le_of_ble_eq_true rfl) dX0_init_33 rfl ?_
  refine nx_aload_n C dX0_init_36 rfl rfl ?_
  refine nx_bipush C (v := 20) dX0_init_37 rfl ?_
  refine nx_newa C (N := 20) qw_88 (by decide) rfl (by decide) (by decide) (by decide) dX0_init_39 (fun q5 c5 => ?_)
  refine nx_ws (ws2 := [(h0, .inr (0, [.int 0, .ref q1, .ref q2, .ref q3, .ref q4, .null, .null])), (q1, .inl (c1, 20, .inl (fun _ => 0))), (q2, .inl (c2, 20, .inl (fun _ => 0))), (q3, .inl (c3, 20, .inl (fun _ => 0))), (q4, .inl (c4, 20, .inl (fun _ => 0))), (q5, .inl (c5, 20, .inl (fun _ => 0)))]) (tys2 := [(c1, FieldType.int), (c2, FieldType.int), (c3, FieldType.int), (c4, FieldType.int), (c5, FieldType.int)]) rfl rfl ?_
  refine nx_putF C (q0 := 0) (k := 5) (ws2 := [(h0, .inr (0, [.int 0, .ref q1, .ref q2, .ref q3, .ref q4, .ref q5, .null])), (q1, .inl (c1, 20, .inl (fun _ => 0))), (q2, .inl (c2, 20, .inl (fun _ => 0))), (q3, .inl (c3, 20, .inl (fun _ => 0))), (q4, .inl (c4, 20, .inl (fun _ => 0))), (q5, .inl (c5, 20, .inl (fun _ => 0)))]) tyX0 hiX0 tyX0_ok nmX0 rfl rfl (by decide) qw_111 rfl rfl rfl rfl (Nat.le_of_ble_eq_true rfl) dX0_init_41 rfl ?_
  refine nx_aload_n C dX0_init_44 rfl rfl ?_
  refine nx_bipush C (v := 20) dX0_init_45 rfl ?_
  refine nx_newa C (N := 20) qw_88 (by decide) rfl (by decide) (by decide) (by decide) dX0_init_47 (fun q6 c6 => ?_)
  refine nx_ws (ws2 := [(h0, .inr (0, [.int 0, .ref q1, .ref q2, .ref q3, .ref q4, .ref q5, .null])), (q1, .inl (c1, 20, .inl (fun _ => 0))), (q2, .inl (c2, 20, .inl (fun _ => 0))), (q3, .inl (c3, 20, .inl (fun _ => 0))), (q4, .inl (c4, 20, .inl (fun _ => 0))), (q5, .inl (c5, 20, .inl (fun _ => 0))), (q6, .inl (c6, 20, .inl (fun _ => 0)))]) (tys2 := [(c1, FieldType.int), (c2, FieldType.int), (c3, FieldType.int), (c4, FieldType.int), (c5, FieldType.int), (c6, FieldType.int)]) rfl rfl ?_
  refine nx_putF C (q0 := 0) (k := 6) (ws2 := [(h0, .inr (0, [.int 0, .ref q1, .ref q2, .ref q3, .ref q4, .ref q5, .ref q6])), (q1, .inl (c1, 20, .inl (fun _ => 0))), (q2, .inl (c2, 20, .inl (fun _ => 0))), (q3, .inl (c3, 20, .inl (fun _ => 0))), (q4, .inl (c4, 20, .inl (fun _ => 0))), (q5, .inl (c5, 20, .inl (fun _ => 0))), (q6, .inl (c6, 20, .inl (fun _ => 0)))]) tyX0 hiX0 tyX0_ok nmX0 rfl rfl (by decide) qw_112 rfl rfl rfl rfl (Nat.le_of_ble_eq_true rfl) dX0_init_49 rfl ?_
  exact nx_ret C hQ dX0_init_52 (fun i => [q1, q2, q3, q4, q5, q6].getD i 0, fun i => [c1, c2, c3, c4, c5, c6].getD i c1) [0, 1, 2, 3, 4, 5, 6] [0, 1, 2, 3, 4, 5] rfl rfl (by decide) rfl
set_option maxRecDepth 100000 in
set_option maxHeartbeats 8000000 in
theorem c_X1_init (l : Launch) (D : va_G) (h0 : Nat) (a1 : Nat) : nx_c l D ⟨"NightStalls$Night", "<init>", "(LNightStalls$Street;)V"⟩ (.code ⟨"NightStalls$Night", "<init>", "(LNightStalls$Street;)V"⟩ prog_3_method_1_code 3 none :: qx_W) { frames := 2, cells := 13, slots := 153, locals := 80 } [.ref h0, .ref a1] [(h0, .inr (1, [.null, .null, .int 0, .int 0, .null, .null, .null, .null, .null, .null]))] (fun u => [(h0, .inr (1, [.ref a1, .ref (u.1 6), .int 0, .int 0, .ref (u.1 0), .ref (u.1 1), .ref (u.1 2), .ref (u.1 3), .ref (u.1 4), .ref (u.1 5)])), ((u.1 0), .inl ((u.2 0), 5, .inl (upd (upd (upd (upd (upd (fun _ => 0) 0 (-4)) 1 (-4)) 2 (-4)) 3 (-4)) 4 (-4)))), ((u.1 1), .inl ((u.2 1), 5, .inl (fun _ => 0))), ((u.1 2), .inl ((u.2 2), 5, .inl (fun _ => 0))), ((u.1 3), .inl ((u.2 3), 5, .inl (fun _ => 0))), ((u.1 4), .inl ((u.2 4), 3, .inl (fun _ => 0))), ((u.1 5), .inl ((u.2 5), 3, .inl (fun _ => 0))), ((u.1 6), .inr (0, [.int 0, .ref (u.1 7), .ref (u.1 8), .ref (u.1 9), .ref (u.1 10), .ref (u.1 11), .ref (u.1 12)])), ((u.1 7), .inl ((u.2 6), 20, .inl (fun _ => 0))), ((u.1 8), .inl ((u.2 7), 20, .inl (fun _ => 0))), ((u.1 9), .inl ((u.2 8), 20, .inl (fun _ => 0))), ((u.1 10), .inl ((u.2 9), 20, .inl (fun _ => 0))), ((u.1 11), .inl ((u.2 10), 20, .inl (fun _ => 0))), ((u.1 12), .inl ((u.2 11), 20, .inl (fun _ => 0)))]) (fun u => [((u.2 0), FieldType.int), ((u.2 1), FieldType.int), ((u.2 2), FieldType.int), ((u.2 3), FieldType.int), ((u.2 4), FieldType.int), ((u.2 5), FieldType.int), ((u.2 6), FieldType.int), ((u.2 7), FieldType.int), ((u.2 8), FieldType.int), ((u.2 9), FieldType.int), ((u.2 10), FieldType.int), ((u.2 11), FieldType.int)]) 13 153 := by
  refine nx_met (by decide) (Nat.le_of_ble_eq_true rfl) (by intro v hv; simp only [List.mem_cons, List.not_mem_nil, or_false] at hv; rcases hv with rfl | rfl <;> rfl) rfl (fun K A C hQ => ?_)
  refine nx_aload_n C dX1_init_0 rfl rfl ?_
  refine nx_objInit C qw_94 qw_53 qw_54 ⟨by decide, by decide⟩ (Nat.le_of_ble_eq_true rfl) dX1_init_1 ?_
  refine nx_aload_n C dX1_init_4 rfl rfl ?_
  refine nx_aload_n C dX1_init_5 rfl rfl ?_
  refine nx_putF C (q0 := 0) (k := 0) (ws2 := [(h0, .inr (1, [.ref a1, .null, .int 0, .int 0, .null, .null, .null, .null, .null, .null]))]) tyX1 hiX1 tyX1_ok nmX1 rfl rfl (by decide) qw_128 rfl rfl rfl rfl (Nat.le_of_ble_eq_true rfl) dX1_init_6 rfl ?_
  refine nx_aload_n C dX1_init_9 rfl rfl ?_
  refine nx_new C (ci := 0) (fs := [.int 0, .null, .null, .null, .null, .null, .null]) tyX0 hiX0 tyX0_ok qw_95 qw_96 qw_42 rfl (by decide +kernel) (by decide) (by decide) dX1_init_10 (fun q1 => ?_)
  refine nx_ws (ws2 := [(h0, .inr (1, [.ref a1, .null, .int 0, .int 0, .null, .null, .null, .null, .null, .null])), (q1, .inr (0, [.int 0, .null, .null, .null, .null, .null, .null]))]) (tys2 := []) rfl rfl ?_
  refine nx_dup C dX1_init_13 rfl ?_
  refine nx_call C (As := []) (n := 0) (mc := 6) (ms := 120) (rest := [(h0, .inr (1, [.ref a1, .null, .int 0, .int 0, .null, .null, .null, .null, .null, .null]))]) (c_X0_init l D q1 ) qw_97 qw_98 qw_42 qw_99 rfl ⟨by decide, by decide, by decide +kernel⟩ ⟨rfl, rfl, by decide, by decide⟩ rfl rfl (Nat.le_of_ble_eq_true rfl) ⟨by decide, by decide⟩ [1] [0] rfl rfl (by decide) rfl (by decide) (by decide) dX1_init_14 (fun u2 => ?_)
  refine nx_ws (ws2 := [(h0, .inr (1, [.ref a1, .null, .int 0, .int 0, .null, .null, .null, .null, .null, .null])), (q1, .inr (0, [.int 0, .ref (u2.1 0), .ref (u2.1 1), .ref (u2.1 2), .ref (u2.1 3), .ref (u2.1 4), .ref (u2.1 5)])), ((u2.1 0), .inl ((u2.2 0), 20, .inl (fun _ => 0))), ((u2.1 1), .inl ((u2.2 1), 20, .inl (fun _ => 0))), ((u2.1 2), .inl ((u2.2 2), 20, .inl (fun _ => 0))), ((u2.1 3), .inl ((u2.2 3), 20, .inl (fun _ => 0))), ((u2.1 4), .inl ((u2.2 4), 20, .inl (fun _ => 0))), ((u2.1 5), .inl ((u2.2 5), 20, .inl (fun _ => 0)))]) (tys2 := [((u2.2 0), FieldType.int), ((u2.2 1), FieldType.int), ((u2.2 2), FieldType.int), ((u2.2 3), FieldType.int), ((u2.2 4), FieldType.int), ((u2.2 5), FieldType.int)]) rfl rfl ?_
  refine nx_putF C (q0 := 0) (k := 1) (ws2 := [(h0, .inr (1, [.ref a1, .ref q1, .int 0, .int 0, .null, .null, .null, .null, .null, .null])), (q1, .inr (0, [.int 0, .ref (u2.1 0), .ref (u2.1 1), .ref (u2.1 2), .ref (u2.1 3), .ref (u2.1 4), .ref (u2.1 5)])), ((u2.1 0), .inl ((u2.2 0), 20, .inl (fun _ => 0))), ((u2.1 1), .inl ((u2.2 1), 20, .inl (fun _ => 0))), ((u2.1 2), .inl ((u2.2 2), 20, .inl (fun _ => 0))), ((u2.1 3), .inl ((u2.2 3), 20, .inl (fun _ => 0))), ((u2.1 4), .inl ((u2.2 4), 20, .inl (fun _ => 0))), ((u2.1 5), .inl ((u2.2 5), 20, .inl (fun _ => 0)))]) tyX1 hiX1 tyX1_ok nmX1 rfl rfl (by decide) qw_129 rfl rfl rfl rfl (Nat.le_of_ble_eq_true rfl) dX1_init_17 rfl ?_
  refine nx_aload_n C dX1_init_20 rfl rfl ?_
  refine nx_iconst C (v := 5) dX1_init_21 rfl ?_
  refine nx_newa C (N := 5) qw_88 (by decide) rfl (by decide) (by decide) (by decide) dX1_init_22 (fun q3 c3 => ?_)
  refine nx_ws (ws2 := [(h0, .inr (1, [.ref a1, .ref q1, .int 0, .int 0, .null, .null, .null, .null, .null, .null])), (q1, .inr (0, [.int 0, .ref (u2.1 0), .ref (u2.1 1), .ref (u2.1 2), .ref (u2.1 3), .ref (u2.1 4), .ref (u2.1 5)])), ((u2.1 0), .inl ((u2.2 0), 20, .inl (fun _ => 0))), ((u2.1 1), .inl ((u2.2 1), 20, .inl (fun _ => 0))), ((u2.1 2), .inl ((u2.2 2), 20, .inl (fun _ => 0))), ((u2.1 3), .inl ((u2.2 3), 20, .inl (fun _ => 0))), ((u2.1 4), .inl ((u2.2 4), 20, .inl (fun _ => 0))), ((u2.1 5), .inl ((u2.2 5), 20, .inl (fun _ => 0))), (q3, .inl (c3, 5, .inl (fun _ => 0)))]) (tys2 := [((u2.2 0), FieldType.int), ((u2.2 1), FieldType.int), ((u2.2 2), FieldType.int), ((u2.2 3), FieldType.int), ((u2.2 4), FieldType.int), ((u2.2 5), FieldType.int), (c3, FieldType.int)]) rfl rfl ?_
  refine nx_putF C (q0 := 0) (k := 4) (ws2 := [(h0, .inr (1, [.ref a1, .ref q1, .int 0, .int 0, .ref q3, .null, .null, .null, .null, .null])), (q1, .inr (0, [.int 0, .ref (u2.1 0), .ref (u2.1 1), .ref (u2.1 2), .ref (u2.1 3), .ref (u2.1 4), .ref (u2.1 5)])), ((u2.1 0), .inl ((u2.2 0), 20, .inl (fun _ => 0))), ((u2.1 1), .inl ((u2.2 1), 20, .inl (fun _ => 0))), ((u2.1 2), .inl ((u2.2 2), 20, .inl (fun _ => 0))), ((u2.1 3), .inl ((u2.2 3), 20, .inl (fun _ => 0))), ((u2.1 4), .inl ((u2.2 4), 20, .inl (fun _ => 0))), ((u2.1 5), .inl ((u2.2 5), 20, .inl (fun _ => 0))), (q3, .inl (c3, 5, .inl (fun _ => 0)))]) tyX1 hiX1 tyX1_ok nmX1 rfl rfl (by decide) qw_135 rfl rfl rfl rfl (Nat.le_of_ble_eq_true rfl) dX1_init_24 rfl ?_
  refine nx_aload_n C dX1_init_27 rfl rfl ?_
  refine nx_iconst C (v := 5) dX1_init_28 rfl ?_
  refine nx_newa C (N := 5) qw_88 (by decide) rfl (by decide) (by decide) (by decide) dX1_init_29 (fun q4 c4 => ?_)
  refine nx_ws (ws2 := [(h0, .inr (1, [.ref a1, .ref q1, .int 0, .int 0, .ref q3, .null, .null, .null, .null, .null])), (q1, .inr (0, [.int 0, .ref (u2.1 0), .ref (u2.1 1), .ref (u2.1 2), .ref (u2.1 3), .ref (u2.1 4), .ref (u2.1 5)])), ((u2.1 0), .inl ((u2.2 0), 20, .inl (fun _ => 0))), ((u2.1 1), .inl ((u2.2 1), 20, .inl (fun _ => 0))), ((u2.1 2), .inl ((u2.2 2), 20, .inl (fun _ => 0))), ((u2.1 3), .inl ((u2.2 3), 20, .inl (fun _ => 0))), ((u2.1 4), .inl ((u2.2 4), 20, .inl (fun _ => 0))), ((u2.1 5), .inl ((u2.2 5), 20, .inl (fun _ => 0))), (q3, .inl (c3, 5, .inl (fun _ => 0))), (q4, .inl (c4, 5, .inl (fun _ => 0)))]) (tys2 := [((u2.2 0), FieldType.int), ((u2.2 1), FieldType.int), ((u2.2 2), FieldType.int), ((u2.2 3), FieldType.int), ((u2.2 4), FieldType.int), ((u2.2 5), FieldType.int), (c3, FieldType.int), (c4, FieldType.int)]) rfl rfl ?_
  refine nx_putF C (q0 := 0) (k := 5) (ws2 := [(h0, .inr (1, [.ref a1, .ref q1, .int 0, .int 0, .ref q3, .ref q4, .null, .null, .null, .null])), (q1, .inr (0, [.int 0, .ref (u2.1 0), .ref (u2.1 1), .ref (u2.1 2), .ref (u2.1 3), .ref (u2.1 4), .ref (u2.1 5)])), ((u2.1 0), .inl ((u2.2 0), 20, .inl (fun _ => 0))), ((u2.1 1), .inl ((u2.2 1), 20, .inl (fun _ => 0))), ((u2.1 2), .inl ((u2.2 2), 20, .inl (fun _ => 0))), ((u2.1 3), .inl ((u2.2 3), 20, .inl (fun _ => 0))), ((u2.1 4), .inl ((u2.2 4), 20, .inl (fun _ => 0))), ((u2.1 5), .inl ((u2.2 5), 20, .inl (fun _ => 0))), (q3, .inl (c3, 5, .inl (fun _ => 0))), (q4, .inl (c4, 5, .inl (fun _ => 0)))]) tyX1 hiX1 tyX1_ok nmX1 rfl rfl (by decide) qw_136 rfl rfl rfl rfl (Nat.le_of_ble_eq_true rfl) dX1_init_31 rfl ?_
  refine nx_aload_n C dX1_init_34 rfl rfl ?_
  refine nx_iconst C (v := 5) dX1_init_35 rfl ?_
  refine nx_newa C (N := 5) qw_88 (by decide) rfl (by decide) (by decide) (by decide) dX1_init_36 (fun q5 c5 => ?_)
  refine nx_ws (ws2 := [(h0, .inr (1, [.ref a1, .ref q1, .int 0, .int 0, .ref q3, .ref q4, .null, .null, .null, .null])), (q1, .inr (0, [.int 0, .ref (u2.1 0), .ref (u2.1 1), .ref (u2.1 2), .ref (u2.1 3), .ref (u2.1 4), .ref (u2.1 5)])), ((u2.1 0), .inl ((u2.2 0), 20, .inl (fun _ => 0))), ((u2.1 1), .inl ((u2.2 1), 20, .inl (fun _ => 0))), ((u2.1 2), .inl ((u2.2 2), 20, .inl (fun _ => 0))), ((u2.1 3), .inl ((u2.2 3), 20, .inl (fun _ => 0))), ((u2.1 4), .inl ((u2.2 4), 20, .inl (fun _ => 0))), ((u2.1 5), .inl ((u2.2 5), 20, .inl (fun _ => 0))), (q3, .inl (c3, 5, .inl (fun _ => 0))), (q4, .inl (c4, 5, .inl (fun _ => 0))), (q5, .inl (c5, 5, .inl (fun _ => 0)))]) (tys2 := [((u2.2 0), FieldType.int), ((u2.2 1), FieldType.int), ((u2.2 2), FieldType.int), ((u2.2 3), FieldType.int), ((u2.2 4), FieldType.int), ((u2.2 5), FieldType.int), (c3, FieldType.int), (c4, FieldType.int), (c5, FieldType.int)]) rfl rfl ?_
  refine nx_putF C (q0 := 0) (k := 6) (ws2 := [(h0, .inr (1, [.ref a1, .ref q1, .int 0, .int 0, .ref q3, .ref q4, .ref q5, .null, .null, .null])), (q1, .inr (0, [.int 0, .ref (u2.1 0), .ref (u2.1 1), .ref (u2.1 2), .ref (u2.1 3), .ref (u2.1 4), .ref (u2.1 5)])), ((u2.1 0), .inl ((u2.2 0), 20, .inl (fun _ => 0))), ((u2.1 1), .inl ((u2.2 1), 20, .inl (fun _ => 0))), ((u2.1 2), .inl ((u2.2 2), 20, .inl (fun _ => 0))), ((u2.1 3), .inl ((u2.2 3), 20, .inl (fun _ => 0))), ((u2.1 4), .inl ((u2.2 4), 20, .inl (fun _ => 0))), ((u2.1 5), .inl ((u2.2 5), 20, .inl (fun _ => 0))), (q3, .inl (c3, 5, .inl (fun _ => 0))), (q4, .inl (c4, 5, .inl (fun _ => 0))), (q5, .inl (c5, 5, .inl (fun _ => 0)))]) tyX1 hiX1 tyX1_ok nmX1 rfl rfl (by decide) qw_137 rfl rfl rfl rfl (Nat.le_of_ble_eq_true rfl) dX1_init_38 rfl ?_
  refine nx_aload_n C dX1_init_41 rfl rfl ?_
  refine nx_iconst C (v := 5) dX1_init_42 rfl ?_
  refine nx_newa C (N := 5) qw_88 (by decide) rfl (by decide) (by decide) (by decide) dX1_init_43 (fun q6 c6 => ?_)
  refine nx_ws (ws2 := [(h0, .inr (1, [.ref a1, .ref q1, .int 0, .int 0, .ref q3, .ref q4, .ref q5, .null, .null, .null])), (q1, .inr (0, [.int 0, .ref (u2.1 0), .ref (u2.1 1), .ref (u2.1 2), .ref (u2.1 3), .ref (u2.1 4), .ref (u2.1 5)])), ((u2.1 0), .inl ((u2.2 0), 20, .inl (fun _ => 0))), ((u2.1 1), .inl ((u2.2 1), 20, .inl (fun _ => 0))), ((u2.1 2), .inl ((u2.2 2), 20, .inl (fun _ => 0))), ((u2.1 3), .inl ((u2.2 3), 20, .inl (fun _ => 0))), ((u2.1 4), .inl ((u2.2 4), 20, .inl (fun _ => 0))), ((u2.1 5), .inl ((u2.2 5), 20, .inl (fun _ => 0))), (q3, .inl (c3, 5, .inl (fun _ => 0))), (q4, .inl (c4, 5, .inl (fun _ => 0))), (q5, .inl (c5, 5, .inl (fun _ => 0))), (q6, .inl (c6, 5, .inl (fun _ => 0)))]) (tys2 := [((u2.2 0), FieldType.int), ((u2.2 1), FieldType.int), ((u2.2 2), FieldType.int), ((u2.2 3), FieldType.int), ((u2.2 4), FieldType.int), ((u2.2 5), FieldType.int), (c3, FieldType.int), (c4, FieldType.int), (c5, FieldType.int), (c6, FieldType.int)]) rfl rfl ?_
  refine nx_putF C (q0 := 0) (k := 7) (ws2 := [(h0, .inr (1, [.ref a1, .ref q1, .int 0, .int 0, .ref q3, .ref q4, .ref q5, .ref q6, .null, .null])), (q1, .inr (0, [.int 0, .ref (u2.1 0), .ref (u2.1 1), .ref (u2.1 2), .ref (u2.1 3), .ref (u2.1 4), .ref (u2.1 5)])), ((u2.1 0), .inl ((u2.2 0), 20, .inl (fun _ => 0))), ((u2.1 1), .inl ((u2.2 1), 20, .inl (fun _ => 0))), ((u2.1 2), .inl ((u2.2 2), 20, .inl (fun _ => 0))), ((u2.1 3), .inl ((u2.2 3), 20, .inl (fun _ => 0))), ((u2.1 4), .inl ((u2.2 4), 20, .inl (fun _ => 0))), ((u2.1 5), .inl ((u2.2 5), 20, .inl (fun _ => 0))), (q3, .inl (c3, 5, .inl (fun _ => 0))), (q4, .inl (c4, 5, .inl (fun _ => 0))), (q5, .inl (c5, 5, .inl (fun _ => 0))), (q6, .inl (c6, 5, .inl (fun _ => 0)))]) tyX1 hiX1 tyX1_ok nmX1 rfl rfl (by decide) qw_138 rfl rfl rfl rfl (Nat.le_of_ble_eq_true rfl) dX1_init_45 rfl ?_
  refine nx_aload_n C dX1_init_48 rfl rfl ?_
  refine nx_iconst C (v := 3) dX1_init_49 rfl ?_
  refine nx_newa C (N := 3) qw_88 (by decide) rfl (by decide) (by decide) (by decide) dX1_init_50 (fun q7 c7 => ?_)
  refine nx_ws (ws2 := [(h0, .inr (1, [.ref a1, .ref q1, .int 0, .int 0, .ref q3, .ref q4, .ref q5, .ref q6, .null, .null])), (q1, .inr (0, [.int 0, .ref (u2.1 0), .ref (u2.1 1), .ref (u2.1 2), .ref (u2.1 3), .ref (u2.1 4), .ref (u2.1 5)])), ((u2.1 0), .inl ((u2.2 0), 20, .inl (fun _ => 0))), ((u2.1 1), .inl ((u2.2 1), 20, .inl (fun _ => 0))), ((u2.1 2), .inl ((u2.2 2), 20, .inl (fun _ => 0))), ((u2.1 3), .inl ((u2.2 3), 20, .inl (fun _ => 0))), ((u2.1 4), .inl ((u2.2 4), 20, .inl (fun _ => 0))), ((u2.1 5), .inl ((u2.2 5), 20, .inl (fun _ => 0))), (q3, .inl (c3, 5, .inl (fun _ => 0))), (q4, .inl (c4, 5, .inl (fun _ => 0))), (q5, .inl (c5, 5, .inl (fun _ => 0))), (q6, .inl (c6, 5, .inl (fun _ => 0))), (q7, .inl (c7, 3, .inl (fun _ => 0)))]) (tys2 := [((u2.2 0), FieldType.int), ((u2.2 1), FieldType.int), ((u2.2 2), FieldType.int), ((u2.2 3), FieldType.int), ((u2.2 4), FieldType.int), ((u2.2 5), FieldType.int), (c3, FieldType.int), (c4, FieldType.int), (c5, FieldType.int), (c6, FieldType.int), (c7, FieldType.int)]) rfl rfl ?_
  refine nx_putF C (q0 := 0) (k := 8) (ws2 := [(h0, .inr (1, [.ref a1, .ref q1, .int 0, .int 0, .ref q3, .ref q4, .ref q5, .ref q6, .ref q7, .null])), (q1, .inr (0, [.int 0, .ref (u2.1 0), .ref (u2.1 1), .ref (u2.1 2), .ref (u2.1 3), .ref (u2.1 4), .ref (u2.1 5)])), ((u2.1 0), .inl ((u2.2 0), 20, .inl (fun _ => 0))), ((u2.1 1), .inl ((u2.2 1), 20, .inl (fun _ => 0))), ((u2.1 2), .inl ((u2.2 2), 20, .inl (fun _ => 0))), ((u2.1 3), .inl ((u2.2 3), 20, .inl (fun _ => 0))), ((u2.1 4), .inl ((u2.2 4), 20, .inl (fun _ => 0))), ((u2.1 5), .inl ((u2.2 5), 20, .inl (fun _ => 0))), (q3, .inl (c3, 5, .inl (fun _ => 0))), (q4, .inl (c4, 5, .inl (fun _ => 0))), (q5, .inl (c5, 5, .inl (fun _ => 0))), (q6, .inl (c6, 5, .inl (fun _ => 0))), (q7, .inl (c7, 3, .inl (fun _ => 0)))]) tyX1 hiX1 tyX1_ok nmX1 rfl rfl (by decide) qw_139 rfl rfl rfl rfl (Nat.le_of_ble_eq_true rfl) dX1_init_52 rfl ?_
  refine nx_aload_n C dX1_init_55 rfl rfl ?_
  refine nx_iconst C (v := 3) dX1_init_56 rfl ?_
  refine nx_newa C (N := 3) qw_88 (by decide) rfl (by decide) (by decide) (by decide) dX1_init_57 (fun q8 c8 => ?_)
  refine nx_ws (ws2 := [(h0, .inr (1, [.ref a1, .ref q1, .int 0, .int 0, .ref q3, .ref q4, .ref q5, .ref q6, .ref q7, .null])), (q1, .inr (0, [.int 0, .ref (u2.1 0), .ref (u2.1 1), .ref (u2.1 2), .ref (u2.1 3), .ref (u2.1 4), .ref (u2.1 5)])), ((u2.1 0), .inl ((u2.2 0), 20, .inl (fun _ => 0))), ((u2.1 1), .inl ((u2.2 1), 20, .inl (fun _ => 0))), ((u2.1 2), .inl ((u2.2 2), 20, .inl (fun _ => 0))), ((u2.1 3), .inl ((u2.2 3), 20, .inl (fun _ => 0))), ((u2.1 4), .inl ((u2.2 4), 20, .inl (fun _ => 0))), ((u2.1 5), .inl ((u2.2 5), 20, .inl (fun _ => 0))), (q3, .inl (c3, 5, .inl (fun _ => 0))), (q4, .inl (c4, 5, .inl (fun _ => 0))), (q5, .inl (c5, 5, .inl (fun _ => 0))), (q6, .inl (c6, 5, .inl (fun _ => 0))), (q7, .inl (c7, 3, .inl (fun _ => 0))), (q8, .inl (c8, 3, .inl (fun _ => 0)))]) (tys2 := [((u2.2 0), FieldType.int), ((u2.2 1), FieldType.int), ((u2.2 2), FieldType.int), ((u2.2 3), FieldType.int), ((u2.2 4), FieldType.int), ((u2.2 5), FieldType.int), (c3, FieldType.int), (c4, FieldType.int), (c5, FieldType.int), (c6, FieldType.int), (c7, FieldType.int), (c8, FieldType.int)]) rfl rfl ?_
  refine nx_putF C (q0 := 0) (k := 9) (ws2 := [(h0, .inr (1, [.ref a1, .ref q1, .int 0, .int 0, .ref q3, .ref q4, .ref q5, .ref q6, .ref q7, .ref q8])), (q1, .inr (0, [.int 0, .ref (u2.1 0), .ref (u2.1 1), .ref (u2.1 2), .ref (u2.1 3), .ref (u2.1 4), .ref (u2.1 5)])), ((u2.1 0), .inl ((u2.2 0), 20, .inl (fun _ => 0))), ((u2.1 1), .inl ((u2.2 1), 20, .inl (fun _ => 0))), ((u2.1 2), .inl ((u2.2 2), 20, .inl (fun _ => 0))), ((u2.1 3), .inl ((u2.2 3), 20, .inl (fun _ => 0))), ((u2.1 4), .inl ((u2.2 4), 20, .inl (fun _ => 0))), ((u2.1 5), .inl ((u2.2 5), 20, .inl (fun _ => 0))), (q3, .inl (c3, 5, .inl (fun _ => 0))), (q4, .inl (c4, 5, .inl (fun _ => 0))), (q5, .inl (c5, 5, .inl (fun _ => 0))), (q6, .inl (c6, 5, .inl (fun _ => 0))), (q7, .inl (c7, 3, .inl (fun _ => 0))), (q8, .inl (c8, 3, .inl (fun _ => 0)))]) tyX1 hiX1 tyX1_ok nmX1 rfl rfl (by decide) qw_141 rfl rfl rfl rfl (Nat.le_of_ble_eq_true rfl) dX1_init_59 rfl ?_
  refine nx_iconst C (v := 0) dX1_init_62 rfl ?_
  refine nx_istore_n C dX1_init_63 rfl (Nat.le_of_ble_eq_true rfl) ?_
  refine nx_iload_n C dX1_init_64 rfl rfl ?_
  refine nx_iconst C (v := 5) dX1_init_65 rfl ?_
  refine nx_icmp_ge_f C (tgt := 83) dX1_init_66 (by decide) (by decide) ?_
  refine nx_aload_n C dX1_init_69 rfl rfl ?_
  refine nx_get C (q0 := 0) (k := 4) hiX1 rfl rfl (by decide) qw_135 rfl dX1_init_70 ?_
  refine nx_iload_n C dX1_init_73 rfl rfl ?_
  refine nx_bipush C (v := (-4)) dX1_init_74 rfl ?_
  refine nx_iast C (q0 := 8) (t0 := 6) (k := 0) (ws2 := [(h0, .inr (1, [.ref a1, .ref q1, .int 0, .int 0, .ref q3, .ref q4, .ref q5, .ref q6, .ref q7, .ref q8])), (q1, .inr (0, [.int 0, .ref (u2.1 0), .ref (u2.1 1), .ref (u2.1 2), .ref (u2.1 3), .ref (u2.1 4), .ref (u2.1 5)])), ((u2.1 0), .inl ((u2.2 0), 20, .inl (fun _ => 0))), ((u2.1 1), .inl ((u2.2 1), 20, .inl (fun _ => 0))), ((u2.1 2), .inl ((u2.2 2), 20, .inl (fun _ => 0))), ((u2.1 3), .inl ((u2.2 3), 20, .inl (fun _ => 0))), ((u2.1 4), .inl ((u2.2 4), 20, .inl (fun _ => 0))), ((u2.1 5), .inl ((u2.2 5), 20, .inl (fun _ => 0))), (q3, .inl (c3, 5, .inl (upd (fun _ => 0) 0 (-4)))), (q4, .inl (c4, 5, .inl (fun _ => 0))), (q5, .inl (c5, 5, .inl (fun _ => 0))), (q6, .inl (c6, 5, .inl (fun _ => 0))), (q7, .inl (c7, 3, .inl (fun _ => 0))), (q8, .inl (c8, 3, .inl (fun _ => 0)))]) rfl rfl (by unfold vp_in; decide) rfl dX1_init_76 rfl ?_
  refine nx_iinc C (v := 1) dX1_init_77 rfl rfl ?_
  refine nx_goto C (tgt := 64) dX1_init_80 (by decide) ?_
  refine nx_iload_n C dX1_init_64 rfl rfl ?_
  refine nx_iconst C (v := 5) dX1_init_65 rfl ?_
  refine nx_icmp_ge_f C (tgt := 83) dX1_init_66 (by decide) (by decide) ?_
  refine nx_aload_n C dX1_init_69 rfl rfl ?_
  refine nx_get C (q0 := 0) (k := 4) hiX1 rfl rfl (by decide) qw_135 rfl dX1_init_70 ?_
  refine nx_iload_n C dX1_init_73 rfl rfl ?_
  refine nx_bipush C (v := (-4)) dX1_init_74 rfl ?_
  refine nx_iast C (q0 := 8) (t0 := 6) (k := 1) (ws2 := [(h0, .inr (1, [.ref a1, .ref q1, .int 0, .int 0, .ref q3, .ref q4, .ref q5, .ref q6, .ref q7, .ref q8])), (q1, .inr (0, [.int 0, .ref (u2.1 0), .ref (u2.1 1), .ref (u2.1 2), .ref (u2.1 3), .ref (u2.1 4), .ref (u2.1 5)])), ((u2.1 0), .inl ((u2.2 0), 20, .inl (fun _ => 0))), ((u2.1 1), .inl ((u2.2 1), 20, .inl (fun _ => 0))), ((u2.1 2), .inl ((u2.2 2), 20, .inl (fun _ => 0))), ((u2.1 3), .inl ((u2.2 3), 20, .inl (fun _ => 0))), ((u2.1 4), .inl ((u2.2 4), 20, .inl (fun _ => 0))), ((u2.1 5), .inl ((u2.2 5), 20, .inl (fun _ => 0))), (q3, .inl (c3, 5, .inl (upd (upd (fun _ => 0) 0 (-4)) 1 (-4)))), (q4, .inl (c4, 5, .inl (fun _ => 0))), (q5, .inl (c5, 5, .inl (fun _ => 0))), (q6, .inl (c6, 5, .inl (fun _ => 0))), (q7, .inl (c7, 3, .inl (fun _ => 0))), (q8, .inl (c8, 3, .inl (fun _ => 0)))]) rfl rfl (by unfold vp_in; decide) rfl dX1_init_76 rfl ?_
  refine nx_iinc C (v := 2) dX1_init_77 rfl rfl ?_
  refine nx_goto C (tgt := 64) dX1_init_80 (by decide) ?_
  refine nx_iload_n C dX1_init_64 rfl rfl ?_
  refine nx_iconst C (v := 5) dX1_init_65 rfl ?_
  refine nx_icmp_ge_f C (tgt := 83) dX1_init_66 (by decide) (by decide) ?_
  refine nx_aload_n C dX1_init_69 rfl rfl ?_
  refine nx_get C (q0 := 0) (k := 4) hiX1 rfl rfl (by decide) qw_135 rfl dX1_init_70 ?_
  refine nx_iload_n C dX1_init_73 rfl rfl ?_
  refine nx_bipush C (v := (-4)) dX1_init_74 rfl ?_
  refine nx_iast C (q0 := 8) (t0 := 6) (k := 2) (ws2 := [(h0, .inr (1, [.ref a1, .ref q1, .int 0, .int 0, .ref q3, .ref q4, .ref q5, .ref q6, .ref q7, .ref q8])), (q1, .inr (0, [.int 0, .ref (u2.1 0), .ref (u2.1 1), .ref (u2.1 2), .ref (u2.1 3), .ref (u2.1 4), .ref (u2.1 5)])), ((u2.1 0), .inl ((u2.2 0), 20, .inl (fun _ => 0))), ((u2.1 1), .inl ((u2.2 1), 20, .inl (fun _ => 0))), ((u2.1 2), .inl ((u2.2 2), 20, .inl (fun _ => 0))), ((u2.1 3), .inl ((u2.2 3), 20, .inl (fun _ => 0))), ((u2.1 4), .inl ((u2.2 4), 20, .inl (fun _ => 0))), ((u2.1 5), .inl ((u2.2 5), 20, .inl (fun _ => 0))), (q3, .inl (c3, 5, .inl (upd (upd (upd (fun _ => 0) 0 (-4)) 1 (-4)) 2 (-4)))), (q4, .inl (c4, 5, .inl (fun _ => 0))), (q5, .inl (c5, 5, .inl (fun _ => 0))), (q6, .inl (c6, 5, .inl (fun _ => 0))), (q7, .inl (c7, 3, .inl (fun _ => 0))), (q8, .inl (c8, 3, .inl (fun _ => 0)))]) rfl rfl (by unfold vp_in; decide) rfl dX1_init_76 rfl ?_
  refine nx_iinc C (v := 3) dX1_init_77 rfl rfl ?_
  refine nx_goto C (tgt := 64) dX1_init_80 (by decide) ?_
  refine nx_iload_n C dX1_init_64 rfl rfl ?_
  refine nx_iconst C (v := 5) dX1_init_65 rfl ?_
  refine nx_icmp_ge_f C (tgt := 83) dX1_init_66 (by decide) (by decide) ?_
  refine nx_aload_n C dX1_init_69 rfl rfl ?_
  refine nx_get C (q0 := 0) (k := 4) hiX1 rfl rfl (by decide) qw_135 rfl dX1_init_70 ?_
  refine nx_iload_n C dX1_init_73 rfl rfl ?_
  refine nx_bipush C (v := (-4)) dX1_init_74 rfl ?_
  refine nx_iast C (q0 := 8) (t0 := 6) (k := 3) (ws2 := [(h0, .inr (1, [.ref a1, .ref q1, .int 0, .int 0, .ref q3, .ref q4, .ref q5, .ref q6, .ref q7, .ref q8])), (q1, .inr (0, [.int 0, .ref (u2.1 0), .ref (u2.1 1), .ref (u2.1 2), .ref (u2.1 3), .ref (u2.1 4), .ref (u2.1 5)])), ((u2.1 0), .inl ((u2.2 0), 20, .inl (fun _ => 0))), ((u2.1 1), .inl ((u2.2 1), 20, .inl (fun _ => 0))), ((u2.1 2), .inl ((u2.2 2), 20, .inl (fun _ => 0))), ((u2.1 3), .inl ((u2.2 3), 20, .inl (fun _ => 0))), ((u2.1 4), .inl ((u2.2 4), 20, .inl (fun _ => 0))), ((u2.1 5), .inl ((u2.2 5), 20, .inl (fun _ => 0))), (q3, .inl (c3, 5, .inl (upd (upd (upd (upd (fun _ => 0) 0 (-4)) 1 (-4)) 2 (-4)) 3 (-4)))), (q4, .inl (c4, 5, .inl (fun _ => 0))), (q5, .inl (c5, 5, .inl (fun _ => 0))), (q6, .inl (c6, 5, .inl (fun _ => 0))), (q7, .inl (c7, 3, .inl (fun _ => 0))), (q8, .inl (c8, 3, .inl (fun _ => 0)))]) rfl rfl (by unfold vp_in; decide) rfl dX1_init_76 rfl ?_
  refine nx_iinc C (v := 4) dX1_init_77 rfl rfl ?_
  refine nx_goto C (tgt := 64) dX1_init_80 (by decide) ?_
  refine nx_iload_n C dX1_init_64 rfl rfl ?_
  refine nx_iconst C (v := 5) dX1_init_65 rfl ?_
  refine nx_icmp_ge_f C (tgt := 83) dX1_init_66 (by decide) (by decide) ?_
  refine nx_aload_n C dX1_init_69 rfl rfl ?_
  refine nx_get C (q0 := 0) (k := 4) hiX1 rfl rfl (by decide) qw_135 rfl dX1_init_70 ?_
  refine nx_iload_n C dX1_init_73 rfl rfl ?_
  refine nx_bipush C (v := (-4)) dX1_init_74 rfl ?_
  refine nx_iast C (q0 := 8) (t0 := 6) (k := 4) (ws2 := [(h0, .inr (1, [.ref a1, .ref q1, .int 0, .int 0, .ref q3, .ref q4, .ref q5, .ref q6, .ref q7, .ref q8])), (q1, .inr (0, [.int 0, .ref (u2.1 0), .ref (u2.1 1), .ref (u2.1 2), .ref (u2.1 3), .ref (u2.1 4), .ref (u2.1 5)])), ((u2.1 0), .inl ((u2.2 0), 20, .inl (fun _ => 0))), ((u2.1 1), .inl ((u2.2 1), 20, .inl (fun _ => 0))), ((u2.1 2), .inl ((u2.2 2), 20, .inl (fun _ => 0))), ((u2.1 3), .inl ((u2.2 3), 20, .inl (fun _ => 0))), ((u2.1 4), .inl ((u2.2 4), 20, .inl (fun _ => 0))), ((u2.1 5), .inl ((u2.2 5), 20, .inl (fun _ => 0))), (q3, .inl (c3, 5, .inl (upd (upd (upd (upd (upd (fun _ => 0) 0 (-4)) 1 (-4)) 2 (-4)) 3 (-4)) 4 (-4)))), (q4, .inl (c4, 5, .inl (fun _ => 0))), (q5, .inl (c5, 5, .inl (fun _ => 0))), (q6, .inl (c6, 5, .inl (fun _ => 0))), (q7, .inl (c7, 3, .inl (fun _ => 0))), (q8, .inl (c8, 3, .inl (fun _ => 0)))]) rfl rfl (by unfold vp_in; decide) rfl dX1_init_76 rfl ?_
  refine nx_iinc C (v := 5) dX1_init_77 rfl rfl ?_
  refine nx_goto C (tgt := 64) dX1_init_80 (by decide) ?_
  refine nx_iload_n C dX1_init_64 rfl rfl ?_
  refine nx_iconst C (v := 5) dX1_init_65 rfl ?_
  refine nx_icmp_ge_t C (tgt := 83) dX1_init_66 (by decide) (by decide) ?_
  exact nx_ret C hQ dX1_init_83 (fun i => [q3, q4, q5, q6, q7, q8, q1, (u2.1 0), (u2.1 1), (u2.1 2), (u2.1 3), (u2.1 4), (u2.1 5)].getD i 0, fun i => [c3, c4, c5, c6, c7, c8, (u2.2 0), (u2.2 1), (u2.2 2), (u2.2 3), (u2.2 4), (u2.2 5)].getD i c3) [0, 8, 9, 10, 11, 12, 13, 1, 2, 3, 4, 5, 6, 7] [6, 7, 8, 9, 10, 11, 0, 1, 2, 3, 4, 5] rfl rfl (by decide) rfl
set_option maxRecDepth 100000 in
set_option maxHeartbeats 8000000 in
theorem c_X2_init (l : Launch) (D : va_G) (h0 : Nat) (a1 : Nat) : nx_c l D ⟨"NightStalls$Plan", "<init>", "(LNightStalls$Street;)V"⟩ (.code ⟨"NightStalls$Plan", "<init>", "(LNightStalls$Street;)V"⟩ prog_4_method_1_code 2 none :: qx_W) { frames := 1, cells := 4, slots := 26, locals := 40 } [.ref h0, .ref a1] [(h0, .inr (2, [.null, .null, .null, .null, .null, .int 0, .int 0]))] (fun u => [(h0, .inr (2, [.ref a1, .ref (u.1 0), .ref (u.1 1), .ref (u.1 2), .ref (u.1 3), .int (-4), .int (-4)])), ((u.1 0), .inl ((u.2 0), 5, .inl (fun _ => 0))), ((u.1 1), .inl ((u.2 1), 5, .inl (fun _ => 0))), ((u.1 2), .inl ((u.2 2), 8, .inl (fun _ => 0))), ((u.1 3), .inl ((u.2 3), 8, .inl (fun _ => 0)))]) (fun u => [((u.2 0), FieldType.int), ((u.2 1), FieldType.int), ((u.2 2), FieldType.int), ((u.2 3), FieldType.int)]) 4 26 := by
  refine nx_met (by decide) (Nat.le_of_ble_eq_true rfl) (by intro v hv; simp only [List.mem_cons, List.not_mem_nil, or_false] at hv; rcases hv with rfl | rfl <;> rfl) rfl (fun K A C hQ => ?_)
  refine nx_aload_n C dX2_init_0 rfl rfl ?_
  refine nx_objInit C qw_169 qw_53 qw_54 ⟨by decide, by decide⟩ (Nat.le_of_ble_eq_true rfl) dX2_init_1 ?_
  refine nx_aload_n C dX2_init_4 rfl rfl ?_
  refine nx_aload_n C dX2_init_5 rfl rfl ?_
  refine nx_putF C (q0 := 0) (k := 0) (ws2 := [(h0, .inr (2, [.ref a1, .null, .null, .null, .null, .int 0, .int 0]))]) tyX2 hiX2 tyX2_ok nmX2 rfl rfl (by decide) qw_170 rfl rfl rfl rfl (Nat.le_of_ble_eq_true rfl) dX2_init_6 rfl ?_
  refine nx_aload_n C dX2_init_9 rfl rfl ?_
  refine nx_iconst C (v := 5) dX2_init_10 rfl ?_
  refine nx_newa C (N := 5) qw_88 (by decide) rfl (by decide) (by decide) (by decide) dX2_init_11 (fun q1 c1 => ?_)
  refine nx_ws (ws2 := [(h0, .inr (2, [.ref a1, .null, .null, .null, .null, .int 0, .int 0])), (q1, .inl (c1, 5, .inl (fun _ => 0)))]) (tys2 := [(c1, FieldType.int)]) rfl rfl ?_
  refine nx_putF C (q0 := 0) (k := 1) (ws2 := [(h0, .inr (2, [.ref a1, .ref q1, .null, .null, .null, .int 0, .int 0])), (q1, .inl (c1, 5, .inl (fun _ => 0)))]) tyX2 hiX2 tyX2_ok nmX2 rfl rfl (by decide) qw_171 rfl rfl rfl rfl (Nat.le_of_ble_eq_true rfl) dX2_init_13 rfl ?_
  refine nx_aload_n C dX2_init_16 rfl rfl ?_
  refine nx_iconst C (v := 5) dX2_init_17 rfl ?_
  refine nx_newa C (N := 5) qw_88 (by decide) rfl (by decide) (by decide) (by decide) dX2_init_18 (fun q2 c2 => ?_)
  refine nx_ws (ws2 := [(h0, .inr (2, [.ref a1, .ref q1, .null, .null, .null, .int 0, .int 0])), (q1, .inl (c1, 5, .inl (fun _ => 0))), (q2, .inl (c2, 5, .inl (fun _ => 0)))]) (tys2 := [(c1, FieldType.int), (c2, FieldType.int)]) rfl rfl ?_
  refine nx_putF C (q0 := 0) (k := 2) (ws2 := [(h0, .inr (2, [.ref a1, .ref q1, .ref q2, .null, .null, .int 0, .int 0])), (q1, .inl (c1, 5, .inl (fun _ => 0))), (q2, .inl (c2, 5, .inl (fun _ => 0)))]) tyX2 hiX2 tyX2_ok nmX2 rfl rfl (by decide) qw_172 rfl rfl rfl rfl (Nat.le_of_ble_eq_true rfl) dX2_init_20 rfl ?_
  refine nx_aload_n C dX2_init_23 rfl rfl ?_
  refine nx_bipush C (v := 8) dX2_init_24 rfl ?_
  refine nx_newa C (N := 8) qw_88 (by decide) rfl (by decide) (by decide) (by decide) dX2_init_26 (fun q3 c3 => ?_)
  refine nx_ws (ws2 := [(h0, .inr (2, [.ref a1, .ref q1, .ref q2, .null, .null, .int 0, .int 0])), (q1, .inl (c1, 5, .inl (fun _ => 0))), (q2, .inl (c2, 5, .inl (fun _ => 0))), (q3, .inl (c3, 8, .inl (fun _ => 0)))]) (tys2 := [(c1, FieldType.int), (c2, FieldType.int), (c3, FieldType.int)]) rfl rfl ?_
  refine nx_putF C (q0 := 0) (k := 3) (ws2 := [(h0, .inr (2, [.ref a1, .ref q1, .ref q2, .ref q3, .null, .int 0, .int 0])), (q1, .inl (c1, 5, .inl (fun _ => 0))), (q2, .inl (c2, 5, .inl (fun _ => 0))), (q3, .inl (c3, 8, .inl (fun _ => 0)))]) tyX2 hiX2 tyX2_ok nmX2 rfl rfl (by decide) qw_173 rfl rfl rfl rfl (Nat.le_of_ble_eq_true rfl) dX2_init_28 rfl ?_
  refine nx_aload_n C dX2_init_31 rfl rfl ?_
  refine nx_bipush C (v := 8) dX2_init_32 rfl ?_
  refine nx_newa C (N := 8) qw_88 (by decide) rfl (by decide) (by decide) (by decide) dX2_init_34 (fun q4 c4 => ?_)
  refine nx_ws (ws2 := [(h0, .inr (2, [.ref a1, .ref q1, .ref q2, .ref q3, .null, .int 0, .int 0])), (q1, .inl (c1, 5, .inl (fun _ => 0))), (q2, .inl (c2, 5, .inl (fun _ => 0))), (q3, .inl (c3, 8, .inl (fun _ => 0))), (q4, .inl (c4, 8, .inl (fun _ => 0)))]) (tys2 := [(c1, FieldType.int), (c2, FieldType.int), (c3, FieldType.int), (c4, FieldType.int)]) rfl rfl ?_
  refine nx_putF C (q0 := 0) (k := 4) (ws2 := [(h0, .inr (2, [.ref a1, .ref q1, .ref q2, .ref q3, .ref q4, .int 0, .int 0])), (q1, .inl (c1, 5, .inl (fun _ => 0))), (q2, .inl (c2, 5, .inl (fun _ => 0))), (q3, .inl (c3, 8, .inl (fun _ => 0))), (q4, .inl (c4, 8, .inl (fun _ => 0)))]) tyX2 hiX2 tyX2_ok nmX2 rfl rfl (by decide) qw_174 rfl rfl rfl rfl (Nat.le_of_ble_eq_true rfl) dX2_init_36 rfl ?_
  refine nx_aload_n C dX2_init_39 rfl rfl ?_
  refine nx_bipush C (v := (-4)) dX2_init_40 rfl ?_
  refine nx_put C (q0 := 0) (k := 5) (ws2 := [(h0, .inr (2, [.ref a1, .ref q1, .ref q2, .ref q3, .ref q4, .int (-4), .int 0])), (q1, .inl (c1, 5, .inl (fun _ => 0))), (q2, .inl (c2, 5, .inl (fun _ => 0))), (q3, .inl (c3, 8, .inl (fun _ => 0))), (q4, .inl (c4, 8, .inl (fun _ => 0)))]) tyX2 hiX2 tyX2_ok nmX2 rfl rfl (by decide) qw_175 rfl rfl rfl (Nat.le_of_ble_eq_true rfl) dX2_init_42 rfl ?_
  refine nx_aload_n C dX2_init_45 rfl rfl ?_
  refine nx_bipush C (v := (-4)) dX2_init_46 rfl ?_
  refine nx_put C (q0 := 0) (k := 6) (ws2 := [(h0, .inr (2, [.ref a1, .ref q1, .ref q2, .ref q3, .ref q4, .int (-4), .int (-4)])), (q1, .inl (c1, 5, .inl (fun _ => 0))), (q2, .inl (c2, 5, .inl (fun _ => 0))), (q3, .inl (c3, 8, .inl (fun _ => 0))), (q4, .inl (c4, 8, .inl (fun _ => 0)))]) tyX2 hiX2 tyX2_ok nmX2 rfl rfl (by decide) qw_177 rfl rfl rfl (Nat.le_of_ble_eq_true rfl) dX2_init_48 rfl ?_
  exact nx_ret C hQ dX2_init_51 (fun i => [q1, q2, q3, q4].getD i 0, fun i => [c1, c2, c3, c4].getD i c1) [0, 1, 2, 3, 4] [0, 1, 2, 3] rfl rfl (by decide) rfl
