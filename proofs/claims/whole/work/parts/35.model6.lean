/-! the reference's search -/
def mS (σ : qx_S) (P S : Nat) : Prop := (σ 1 0 = nI P ∧ P ≤ 8) ∧ (σ 1 1 = nI S ∧ S ≤ 5) ∧ (∀ p, p < 8 → ∃ k, k < 3 ∧ σ 2 (3 * p + 1) = nI k) ∧ (∀ s, s < 5 → ∃ a, a < 4 ∧ σ 5 (11 * s + 1) = nI a)
theorem mS_to {σ τ : qx_S} {P S : Nat} (h : mS σ P S) (h1 : τ 1 = σ 1) (h2 : τ 2 = σ 2) (h5 : τ 5 = σ 5) : mS τ P S := by
  unfold mS at *
  rw [h1, h2, h5]
  exact h
abbrev mFar (a b : Int32) : Int32 := if b ≤ a then a - b else b - a
abbrev mBearX (σ : qx_S) (s o : Nat) (far x : Int32) : Prop := ¬ far ≤ 0 ∧ (¬ σ 5 (11 * o) = σ 5 (11 * s) ∨ ¬ far ≤ σ 1 5) ∧ (1 < far ∨ ¬ x = 1)
abbrev mBear (σ : qx_S) (s o : Nat) : Prop := mBearX σ s o (mFar (σ 8 o) (σ 8 s)) (σ 4 (4 * ix (σ 5 (11 * o + 1)) + ix (σ 5 (11 * s + 1))))
def mWt (σ : qx_S) (s P i : Nat) : Int32 := qf (fun o a => if nI P ≤ σ 8 o then a else a + (if σ 2 (3 * ix (σ 8 o) + 1) = σ 2 (3 * ix (σ 8 s) + 1) then σ 5 (11 * o + 2) else 0)) (σ 5 (11 * s + 2)) i
theorem mWt_a {σ : qx_S} {s P i : Nat} (h : nI P ≤ σ 8 i) : mWt σ s P (i + 1) = mWt σ s P i := if_pos h
theorem mWt_b {σ : qx_S} {s P i : Nat} (h : ¬ nI P ≤ σ 8 i) (h2 : σ 2 (3 * ix (σ 8 i) + 1) = σ 2 (3 * ix (σ 8 s) + 1)) : mWt σ s P (i + 1) = mWt σ s P i + σ 5 (11 * i + 2) := by
  show (if nI P ≤ σ 8 i then mWt σ s P i else _) = _
  rw [if_neg h, if_pos h2]; rfl
theorem mWt_c {σ : qx_S} {s P i : Nat} (h : ¬ nI P ≤ σ 8 i) (h2 : ¬ σ 2 (3 * ix (σ 8 i) + 1) = σ 2 (3 * ix (σ 8 s) + 1)) : mWt σ s P (i + 1) = mWt σ s P i + 0 := by
  show (if nI P ≤ σ 8 i then mWt σ s P i else _) = _
  rw [if_neg h, if_neg h2]; rfl
abbrev mGood (σ : qx_S) (s P : Nat) (night : Int32) : Prop := (¬ σ 5 (11 * s + 5) < night ∧ σ 2 (3 * ix (σ 8 s) + 2) = 0) ∧ (∀ o, o < s → nI P ≤ σ 8 o ∨ mBear σ s o) ∧ ¬ σ 3 (3 * ix (σ 2 (3 * ix (σ 8 s) + 1))) < mWt σ s P s
abbrev mFits (σ : qx_S) (s P : Nat) (night : Int32) : Prop := σ 8 s = nI P ∨ mGood σ s P night
set_option maxRecDepth 20000 in
set_option maxHeartbeats 4000000 in
theorem c_X5_away (F : qx_F) (d : Nat) (σ : qx_S) (a b : Int32) : qx_cI F shM ⟨"NightStallsModel", "away", "(II)I"⟩ (.code ⟨"NightStallsModel", "away", "(II)I"⟩ prog_7_method_18_code 2 ((some FieldType.int)) :: qx_W) (qx_R (d + 1)) [.int a, .int b] σ (mFar a b) (σ) := by
  refine qx_met (by decide) (Nat.le_of_ble_eq_true rfl) (by intro v hv; simp only [List.mem_cons, List.not_mem_nil, or_false] at hv; rcases hv with rfl | rfl <;> rfl) (fun K C => ?_)
  refine qx_iload_n C dX5_away_0 rfl rfl ?_
  refine qx_iload_n C dX5_away_1 rfl rfl ?_
  refine qx_icmp_ge C (tgt := 11) dX5_away_2 (by decide) (fun h2 => ?_) (fun h2 => ?_)
  · refine qx_iload_n C dX5_away_11 rfl rfl ?_
    refine qx_iload_n C dX5_away_12 rfl rfl ?_
    refine qx_isub C dX5_away_13 ?_
    exact qx_iret C dX5_away_14 rfl (by first | exact (if_pos h2).symm | exact (if_neg h2).symm) rfl
  · refine qx_iload_n C dX5_away_5 rfl rfl ?_
    refine qx_iload_n C dX5_away_6 rfl rfl ?_
    refine qx_isub C dX5_away_7 ?_
    refine qx_goto C (tgt := 14) dX5_away_8 (by decide) ?_
    exact qx_iret C dX5_away_14 rfl (by first | exact (if_pos h2).symm | exact (if_neg h2).symm) rfl
set_option maxRecDepth 20000 in
set_option maxHeartbeats 4000000 in
theorem c_X5_fits (F : qx_F) (d : Nat) (σ : qx_S) (s c P S : Nat) (night : Int32) (hs : s < 5) (hw : mS σ P S) (hcP0 : c ≤ P) (ec : σ 8 s = nI c) (hch : ∀ o, o < s → ∃ q, q ≤ 8 ∧ σ 8 o = nI q) : qx_cI F shM ⟨"NightStallsModel", "fits", "(II)Z"⟩ (.code ⟨"NightStallsModel", "fits", "(II)Z"⟩ prog_7_method_19_code 13 ((some FieldType.boolean)) :: qx_W) (qx_R (d + 2)) [.ref (fa F 0), .int (nI s), .int night] σ (if mFits σ s P night then 1 else 0) (σ) := by
  refine qx_met (by decide) (Nat.le_of_ble_eq_true rfl) (by intro v hv; simp only [List.mem_cons, List.not_mem_nil, or_false] at hv; rcases hv with rfl | rfl | rfl <;> rfl) (fun K C => ?_)
  have hP8 := hw.1.2
  refine qx_aload_n C dX5_fits_0 rfl rfl ?_
  refine qx_getR C (j := 0) (k := 8) hiX5 rfl rfl (by decide) qw_590 rfl dX5_fits_1 ?_
  refine qx_iload_n C dX5_fits_4 rfl rfl ?_
  refine qx_ialdN C (j := 8) rfl ⟨by omega, by decide⟩ dX5_fits_5 ?_
  refine qx_top ec ?_
  refine qx_istore_n C dX5_fits_6 rfl (Nat.le_of_ble_eq_true rfl) ?_
  refine qx_aload_n C dX5_fits_7 rfl rfl ?_
  refine qx_getR C (j := 0) (k := 0) hiX5 rfl rfl (by decide) qw_582 rfl dX5_fits_8 ?_
  refine qx_iconst C (v := 0) dX5_fits_11 rfl ?_
  refine qx_ialdL C (j := 1) (a := 0) rfl rfl ⟨by decide, by decide⟩ dX5_fits_12 ?_
  refine qx_top hw.1.1 ?_
  refine qx_istore C dX5_fits_13 (Nat.le_of_ble_eq_true rfl) ?_
  refine qx_iload_n C dX5_fits_15 rfl rfl ?_
  refine qx_iload C dX5_fits_16 rfl ?_
  refine qx_icmp_ne C (tgt := 23) dX5_fits_18 (by decide) (fun h18 => ?_) (fun h18 => ?_)
  · have hcP : c < P := by rcases Nat.lt_or_ge c P with q | q; exact q; exact absurd (congrArg nI (show c = P by omega)) h18
    obtain ⟨k, hk, ek⟩ := hw.2.2.1 c (by omega)
    have ic : (nI c).toNatClampNeg = c := nI_clamp (by omega)
    have ik : (nI k).toNatClampNeg = k := nI_clamp (by omega)
    have ixc : ix (σ 8 s) = c := by rw [ec]; exact ic
    have ixk : ix (σ 2 (3 * ix (σ 8 s) + 1)) = k := by rw [ixc, ek]; exact ik
    obtain ⟨b, hb, eb⟩ := hw.2.2.2 s hs
    refine qx_bipush C (v := 11) dX5_fits_23 rfl ?_
    refine qx_iload_n C dX5_fits_25 rfl rfl ?_
    refine qx_imulE C dX5_fits_26 (pk_mul 11 s) ?_
    refine qx_istore C dX5_fits_27 (Nat.le_of_ble_eq_true rfl) ?_
    refine qx_aload_n C dX5_fits_29 rfl rfl ?_
    refine qx_getR C (j := 0) (k := 4) hiX5 rfl rfl (by decide) qw_586 rfl dX5_fits_30 ?_
    refine qx_iload C dX5_fits_33 rfl ?_
    refine qx_iconst C (v := 5) dX5_fits_35 rfl ?_
    refine qx_iaddE C dX5_fits_36 (nI_add (11 * s) 5) ?_
    refine qx_ialdN C (j := 5) rfl ⟨by omega, by decide⟩ dX5_fits_37 ?_
    refine qx_iload_n C dX5_fits_38 rfl rfl ?_
    refine qx_icmp_lt C (tgt := 59) dX5_fits_39 (by decide) (fun h39 => ?_) (fun h39 => ?_)
    · refine qx_iconst C (v := 0) dX5_fits_59 rfl ?_
      refine qx_istore C dX5_fits_60 (Nat.le_of_ble_eq_true rfl) ?_
      refine qx_aload_n C dX5_fits_62 rfl rfl ?_
      refine qx_getR C (j := 0) (k := 1) hiX5 rfl rfl (by decide) qw_583 rfl dX5_fits_63 ?_
      refine qx_iconst C (v := 3) dX5_fits_66 rfl ?_
      refine qx_iload_n C dX5_fits_67 rfl rfl ?_
      refine qx_imulE C dX5_fits_68 (pk_mul 3 c) ?_
      refine qx_iconst C (v := 1) dX5_fits_69 rfl ?_
      refine qx_iaddE C dX5_fits_70 (nI_add (3 * c) 1) ?_
      refine qx_ialdN C (j := 2) rfl ⟨by omega, by decide⟩ dX5_fits_71 ?_
      refine qx_top ek ?_
      refine qx_istore C dX5_fits_72 (Nat.le_of_ble_eq_true rfl) ?_
      refine qx_aload_n C dX5_fits_74 rfl rfl ?_
      refine qx_getR C (j := 0) (k := 4) hiX5 rfl rfl (by decide) qw_586 rfl dX5_fits_75 ?_
      refine qx_iload C dX5_fits_78 rfl ?_
      refine qx_iconst C (v := 2) dX5_fits_80 rfl ?_
      refine qx_iaddE C dX5_fits_81 (nI_add (11 * s) 2) ?_
      refine qx_ialdN C (j := 5) rfl ⟨by omega, by decide⟩ dX5_fits_82 ?_
      refine qx_istore C dX5_fits_83 (Nat.le_of_ble_eq_true rfl) ?_
      refine qx_iconst C (v := 0) dX5_fits_85 rfl ?_
      refine qx_istore C dX5_fits_86 (Nat.le_of_ble_eq_true rfl) ?_
      refine qx_iload C dX5_fits_88 rfl ?_
      refine qx_iload_n C dX5_fits_90 rfl rfl ?_
      refine qx_icmp_ge C (tgt := 278) dX5_fits_91 (by decide) (fun h91 => ?_) (fun h91 => ?_)
      · refine qx_iload C dX5_fits_278 rfl ?_
        refine qx_if_eq_t C (tgt := 301) dX5_fits_280 (by decide) (by decide) ?_
        refine qx_iconst C (v := 0) dX5_fits_301 rfl ?_
        exact qx_iret C dX5_fits_302 rfl (if_neg (fun (z : mFits σ s P night) => z.elim (fun e => h18 (ec.symm.trans e)) (fun z => z.1.1 h39))).symm rfl
      · refine qx_iload C dX5_fits_94 rfl ?_
        refine qx_if_eq_t C (tgt := 278) dX5_fits_96 (by decide) (by decide) ?_
        refine qx_iload C dX5_fits_278 rfl ?_
        refine qx_if_eq_t C (tgt := 301) dX5_fits_280 (by decide) (by decide) ?_
        refine qx_iconst C (v := 0) dX5_fits_301 rfl ?_
        exact qx_iret C dX5_fits_302 rfl (if_neg (fun (z : mFits σ s P night) => z.elim (fun e => h18 (ec.symm.trans e)) (fun z => z.1.1 h39))).symm rfl
    · refine qx_aload_n C dX5_fits_42 rfl rfl ?_
      refine qx_getR C (j := 0) (k := 1) hiX5 rfl rfl (by decide) qw_583 rfl dX5_fits_43 ?_
      refine qx_iconst C (v := 3) dX5_fits_46 rfl ?_
      refine qx_iload_n C dX5_fits_47 rfl rfl ?_
      refine qx_imulE C dX5_fits_48 (pk_mul 3 c) ?_
      refine qx_iconst C (v := 2) dX5_fits_49 rfl ?_
      refine qx_iaddE C dX5_fits_50 (nI_add (3 * c) 2) ?_
      refine qx_ialdN C (j := 2) rfl ⟨by omega, by decide⟩ dX5_fits_51 ?_
      refine qx_if_ne C (tgt := 59) dX5_fits_52 (by decide) (fun h52 => ?_) (fun h52 => ?_)
      · refine qx_iconst C (v := 0) dX5_fits_59 rfl ?_
        refine qx_istore C dX5_fits_60 (Nat.le_of_ble_eq_true rfl) ?_
        refine qx_aload_n C dX5_fits_62 rfl rfl ?_
        refine qx_getR C (j := 0) (k := 1) hiX5 rfl rfl (by decide) qw_583 rfl dX5_fits_63 ?_
        refine qx_iconst C (v := 3) dX5_fits_66 rfl ?_
        refine qx_iload_n C dX5_fits_67 rfl rfl ?_
        refine qx_imulE C dX5_fits_68 (pk_mul 3 c) ?_
        refine qx_iconst C (v := 1) dX5_fits_69 rfl ?_
        refine qx_iaddE C dX5_fits_70 (nI_add (3 * c) 1) ?_
        refine qx_ialdN C (j := 2) rfl ⟨by omega, by decide⟩ dX5_fits_71 ?_
        refine qx_top ek ?_
        refine qx_istore C dX5_fits_72 (Nat.le_of_ble_eq_true rfl) ?_
        refine qx_aload_n C dX5_fits_74 rfl rfl ?_
        refine qx_getR C (j := 0) (k := 4) hiX5 rfl rfl (by decide) qw_586 rfl dX5_fits_75 ?_
        refine qx_iload C dX5_fits_78 rfl ?_
        refine qx_iconst C (v := 2) dX5_fits_80 rfl ?_
        refine qx_iaddE C dX5_fits_81 (nI_add (11 * s) 2) ?_
        refine qx_ialdN C (j := 5) rfl ⟨by omega, by decide⟩ dX5_fits_82 ?_
        refine qx_istore C dX5_fits_83 (Nat.le_of_ble_eq_true rfl) ?_
        refine qx_iconst C (v := 0) dX5_fits_85 rfl ?_
        refine qx_istore C dX5_fits_86 (Nat.le_of_ble_eq_true rfl) ?_
        refine qx_iload C dX5_fits_88 rfl ?_
        refine qx_iload_n C dX5_fits_90 rfl rfl ?_
        refine qx_icmp_ge C (tgt := 278) dX5_fits_91 (by decide) (fun h91 => ?_) (fun h91 => ?_)
        · refine qx_iload C dX5_fits_278 rfl ?_
          refine qx_if_eq_t C (tgt := 301) dX5_fits_280 (by decide) (by decide) ?_
          refine qx_iconst C (v := 0) dX5_fits_301 rfl ?_
          exact qx_iret C dX5_fits_302 rfl (if_neg (fun (z : mFits σ s P night) => z.elim (fun e => h18 (ec.symm.trans e)) (fun z => h52 (by have z3 := z.1.2; rw [ixc] at z3; exact z3)))).symm rfl
        · refine qx_iload C dX5_fits_94 rfl ?_
          refine qx_if_eq_t C (tgt := 278) dX5_fits_96 (by decide) (by decide) ?_
          refine qx_iload C dX5_fits_278 rfl ?_
          refine qx_if_eq_t C (tgt := 301) dX5_fits_280 (by decide) (by decide) ?_
          refine qx_iconst C (v := 0) dX5_fits_301 rfl ?_
          exact qx_iret C dX5_fits_302 rfl (if_neg (fun (z : mFits σ s P night) => z.elim (fun e => h18 (ec.symm.trans e)) (fun z => h52 (by have z3 := z.1.2; rw [ixc] at z3; exact z3)))).symm rfl
      · refine qx_iconst C (v := 1) dX5_fits_55 rfl ?_
        refine qx_goto C (tgt := 60) dX5_fits_56 (by decide) ?_
        refine qx_istore C dX5_fits_60 (Nat.le_of_ble_eq_true rfl) ?_
        refine qx_aload_n C dX5_fits_62 rfl rfl ?_
        refine qx_getR C (j := 0) (k := 1) hiX5 rfl rfl (by decide) qw_583 rfl dX5_fits_63 ?_
        refine qx_iconst C (v := 3) dX5_fits_66 rfl ?_
        refine qx_iload_n C dX5_fits_67 rfl rfl ?_
        refine qx_imulE C dX5_fits_68 (pk_mul 3 c) ?_
        refine qx_iconst C (v := 1) dX5_fits_69 rfl ?_
        refine qx_iaddE C dX5_fits_70 (nI_add (3 * c) 1) ?_
        refine qx_ialdN C (j := 2) rfl ⟨by omega, by decide⟩ dX5_fits_71 ?_
        refine qx_top ek ?_
        refine qx_istore C dX5_fits_72 (Nat.le_of_ble_eq_true rfl) ?_
        refine qx_aload_n C dX5_fits_74 rfl rfl ?_
        refine qx_getR C (j := 0) (k := 4) hiX5 rfl rfl (by decide) qw_586 rfl dX5_fits_75 ?_
        refine qx_iload C dX5_fits_78 rfl ?_
        refine qx_iconst C (v := 2) dX5_fits_80 rfl ?_
        refine qx_iaddE C dX5_fits_81 (nI_add (11 * s) 2) ?_
        refine qx_ialdN C (j := 5) rfl ⟨by omega, by decide⟩ dX5_fits_82 ?_
        refine qx_istore C dX5_fits_83 (Nat.le_of_ble_eq_true rfl) ?_
        refine qx_iconst C (v := 0) dX5_fits_85 rfl ?_
        refine qx_istore C dX5_fits_86 (Nat.le_of_ble_eq_true rfl) ?_
        refine qx_to (qx_up s (P := fun i => (∀ o, o < i → nI P ≤ σ 8 o ∨ mBear σ s o) → qx_X K F shM (σ) 88 [some (.ref (fa F 0)), some (.int (nI s)), some (.int night), some (.int (nI c)), some (.int (nI P)), some (.int (nI (11 * s))), some (.int 1), some (.int (nI k)), some (.int (mWt σ s P i)), some (.int (nI i)), none, none, none] []) (fun i hi hki hpi => ?_) (fun hpi => ?_) (fun o ho => absurd ho (Nat.not_lt_zero o))) rfl rfl
        · obtain ⟨q, hq, eq0⟩ := hch i hi
          have iq : (nI q).toNatClampNeg = q := nI_clamp (by omega)
          have jq : ix (σ 8 i) = q := by rw [eq0]; exact iq
          obtain ⟨a, ha, ea⟩ := hw.2.2.2 i (by omega)
          have ja : ix (σ 5 (11 * i + 1)) = a := by rw [ea]; exact nI_clamp (by omega)
          have jb : ix (σ 5 (11 * s + 1)) = b := by rw [eb]; exact nI_clamp (by omega)
          have hbe : mBear σ s i ↔ mBearX σ s i (mFar (nI q) (nI c)) (σ 4 (4 * a + b)) := by unfold mBear; rw [eq0, ec, ja, jb]
          refine qx_iload C dX5_fits_88 rfl ?_
          refine qx_iload_n C dX5_fits_90 rfl rfl ?_
          refine qx_icmp_ge_f C (tgt := 278) dX5_fits_91 (by decide) (nI_ge hi (by omega)) ?_
          refine qx_iload C dX5_fits_94 rfl ?_
          refine qx_if_eq_f C (tgt := 278) dX5_fits_96 (by decide) (by decide) ?_
          refine qx_aload_n C dX5_fits_99 rfl rfl ?_
          refine qx_getR C (j := 0) (k := 8) hiX5 rfl rfl (by decide) qw_590 rfl dX5_fits_100 ?_
          refine qx_iload C dX5_fits_103 rfl ?_
          refine qx_ialdN C (j := 8) rfl ⟨by omega, by decide⟩ dX5_fits_105 ?_
          refine qx_top eq0 ?_
          refine qx_iload C dX5_fits_106 rfl ?_
          refine qx_icmp_ge C (tgt := 272) dX5_fits_108 (by decide) (fun h108 => ?_) (fun h108 => ?_)
          · refine qx_iincN C dX5_fits_272 rfl ?_
            refine qx_goto C (tgt := 88) dX5_fits_275 (by decide) ?_
            exact (qx_to (hki (lt_s hpi (Or.inl (by rw [eq0]; exact h108)))) rfl (by rw [mWt_a (by rw [eq0]; exact h108)]; first | done | rfl))
          · have hqP : q < P := by rcases Nat.lt_or_ge q P with z | z; exact z; exact absurd (nI_le z (by omega)) h108
            refine qx_aload_n C dX5_fits_111 rfl rfl ?_
            refine qx_getR C (j := 0) (k := 8) hiX5 rfl rfl (by decide) qw_590 rfl dX5_fits_112 ?_
            refine qx_iload C dX5_fits_115 rfl ?_
            refine qx_ialdN C (j := 8) rfl ⟨by omega, by decide⟩ dX5_fits_117 ?_
            refine qx_top eq0 ?_
            refine qx_iload_n C dX5_fits_118 rfl rfl ?_
            refine qx_callSI C (As := [_, _]) (n := 2) (c_X5_away F (d + 0) _ _ _) qw_694 qw_695 qw_44 qw_696 ⟨rfl, by decide, by decide, by decide +kernel⟩ (qx_room (by omega) (by decide)) rfl rfl (Nat.le_of_ble_eq_true rfl) dX5_fits_119 ?_
            refine qx_istore C dX5_fits_122 (Nat.le_of_ble_eq_true rfl) ?_
            refine qx_aload_n C dX5_fits_124 rfl rfl ?_
            refine qx_getR C (j := 0) (k := 4) hiX5 rfl rfl (by decide) qw_586 rfl dX5_fits_125 ?_
            refine qx_bipush C (v := 11) dX5_fits_128 rfl ?_
            refine qx_iload C dX5_fits_130 rfl ?_
            refine qx_imulE C dX5_fits_132 (pk_mul 11 i) ?_
            refine qx_ialdN C (j := 5) rfl ⟨by omega, by decide⟩ dX5_fits_133 ?_
            refine qx_aload_n C dX5_fits_134 rfl rfl ?_
            refine qx_getR C (j := 0) (k := 4) hiX5 rfl rfl (by decide) qw_586 rfl dX5_fits_135 ?_
            refine qx_iload C dX5_fits_138 rfl ?_
            refine qx_ialdN C (j := 5) rfl ⟨by omega, by decide⟩ dX5_fits_140 ?_
            refine qx_icmp_ne C (tgt := 148) dX5_fits_141 (by decide) (fun h141 => ?_) (fun h141 => ?_)
            · refine qx_iconst C (v := 0) dX5_fits_148 rfl ?_
              refine qx_istore C dX5_fits_149 (Nat.le_of_ble_eq_true rfl) ?_
              refine qx_aload_n C dX5_fits_151 rfl rfl ?_
              refine qx_getR C (j := 0) (k := 3) hiX5 rfl rfl (by decide) qw_585 rfl dX5_fits_152 ?_
              refine qx_iconst C (v := 4) dX5_fits_155 rfl ?_
              refine qx_aload_n C dX5_fits_156 rfl rfl ?_
              refine qx_getR C (j := 0) (k := 4) hiX5 rfl rfl (by decide) qw_586 rfl dX5_fits_157 ?_
              refine qx_bipush C (v := 11) dX5_fits_160 rfl ?_
              refine qx_iload C dX5_fits_162 rfl ?_
              refine qx_imulE C dX5_fits_164 (pk_mul 11 i) ?_
              refine qx_iconst C (v := 1) dX5_fits_165 rfl ?_
              refine qx_iaddE C dX5_fits_166 (nI_add (11 * i) 1) ?_
              refine qx_ialdN C (j := 5) rfl ⟨by omega, by decide⟩ dX5_fits_167 ?_
              refine qx_top ea ?_
              refine qx_imulE C dX5_fits_168 (pk_mul 4 a) ?_
              refine qx_aload_n C dX5_fits_169 rfl rfl ?_
              refine qx_getR C (j := 0) (k := 4) hiX5 rfl rfl (by decide) qw_586 rfl dX5_fits_170 ?_
              refine qx_iload C dX5_fits_173 rfl ?_
              refine qx_iconst C (v := 1) dX5_fits_175 rfl ?_
              refine qx_iaddE C dX5_fits_176 (nI_add (11 * s) 1) ?_
              refine qx_ialdN C (j := 5) rfl ⟨by omega, by decide⟩ dX5_fits_177 ?_
              refine qx_top eb ?_
              refine qx_iaddE C dX5_fits_178 (nI_add (4 * a) b) ?_
              refine qx_ialdN C (j := 4) rfl ⟨by omega, by decide⟩ dX5_fits_179 ?_
              refine qx_iconst C (v := 1) dX5_fits_180 rfl ?_
              refine qx_icmp_ne C (tgt := 188) dX5_fits_181 (by decide) (fun h181 => ?_) (fun h181 => ?_)
              · refine qx_iconst C (v := 0) dX5_fits_188 rfl ?_
                refine qx_istore C dX5_fits_189 (Nat.le_of_ble_eq_true rfl) ?_
                refine qx_iload C dX5_fits_191 rfl ?_
                refine qx_if_le C (tgt := 227) dX5_fits_193 (by decide) (fun h193 => ?_) (fun h193 => ?_)
                · refine qx_iconst C (v := 0) dX5_fits_227 rfl ?_
                  refine qx_istore C dX5_fits_228 (Nat.le_of_ble_eq_true rfl) ?_
                  refine qx_iload C dX5_fits_230 rfl ?_
                  refine qx_aload_n C dX5_fits_232 rfl rfl ?_
                  refine qx_getR C (j := 0) (k := 1) hiX5 rfl rfl (by decide) qw_583 rfl dX5_fits_233 ?_
                  refine qx_iconst C (v := 3) dX5_fits_236 rfl ?_
                  refine qx_aload_n C dX5_fits_237 rfl rfl ?_
                  refine qx_getR C (j := 0) (k := 8) hiX5 rfl rfl (by decide) qw_590 rfl dX5_fits_238 ?_
                  refine qx_iload C dX5_fits_241 rfl ?_
                  refine qx_ialdN C (j := 8) rfl ⟨by omega, by decide⟩ dX5_fits_243 ?_
                  refine qx_top eq0 ?_
                  refine qx_imulE C dX5_fits_244 (pk_mul 3 q) ?_
                  refine qx_iconst C (v := 1) dX5_fits_245 rfl ?_
                  refine qx_iaddE C dX5_fits_246 (nI_add (3 * q) 1) ?_
                  refine qx_ialdN C (j := 2) rfl ⟨by omega, by decide⟩ dX5_fits_247 ?_
                  refine qx_iload C dX5_fits_248 rfl ?_
                  refine qx_icmp_ne C (tgt := 268) dX5_fits_250 (by decide) (fun h250 => ?_) (fun h250 => ?_)
                  · refine qx_iconst C (v := 0) dX5_fits_268 rfl ?_
                    refine qx_iadd C dX5_fits_269 ?_
                    refine qx_istore C dX5_fits_270 (Nat.le_of_ble_eq_true rfl) ?_
                    refine qx_iincN C dX5_fits_272 rfl ?_
                    refine qx_goto C (tgt := 88) dX5_fits_275 (by decide) ?_
                    have hnb : ¬ mBear σ s i := fun z => by have z2 := hbe.mp z; exact z2.1 h193
                    refine qx_iload C dX5_fits_88 rfl ?_
                    refine qx_iload_n C dX5_fits_90 rfl rfl ?_
                    refine qx_icmp_ge C (tgt := 278) dX5_fits_91 (by decide) (fun h91 => ?_) (fun h91 => ?_)
                    · refine qx_iload C dX5_fits_278 rfl ?_
                      refine qx_if_eq_t C (tgt := 301) dX5_fits_280 (by decide) (by decide) ?_
                      refine qx_iconst C (v := 0) dX5_fits_301 rfl ?_
                      exact qx_iret C dX5_fits_302 rfl (if_neg (fun (z : mFits σ s P night) => z.elim (fun e => h18 (ec.symm.trans e)) (fun z => (z.2.1 i hi).elim (fun w => h108 (by rw [eq0] at w; exact w)) (fun w => hnb w)))).symm rfl
                    · refine qx_iload C dX5_fits_94 rfl ?_
                      refine qx_if_eq_t C (tgt := 278) dX5_fits_96 (by decide) (by decide) ?_
                      refine qx_iload C dX5_fits_278 rfl ?_
                      refine qx_if_eq_t C (tgt := 301) dX5_fits_280 (by decide) (by decide) ?_
                      refine qx_iconst C (v := 0) dX5_fits_301 rfl ?_
                      exact qx_iret C dX5_fits_302 rfl (if_neg (fun (z : mFits σ s P night) => z.elim (fun e => h18 (ec.symm.trans e)) (fun z => (z.2.1 i hi).elim (fun w => h108 (by rw [eq0] at w; exact w)) (fun w => hnb w)))).symm rfl
                  · refine qx_aload_n C dX5_fits_253 rfl rfl ?_
                    refine qx_getR C (j := 0) (k := 4) hiX5 rfl rfl (by decide) qw_586 rfl dX5_fits_254 ?_
                    refine qx_bipush C (v := 11) dX5_fits_257 rfl ?_
                    refine qx_iload C dX5_fits_259 rfl ?_
                    refine qx_imulE C dX5_fits_261 (pk_mul 11 i) ?_
                    refine qx_iconst C (v := 2) dX5_fits_262 rfl ?_
                    refine qx_iaddE C dX5_fits_263 (nI_add (11 * i) 2) ?_
                    refine qx_ialdN C (j := 5) rfl ⟨by omega, by decide⟩ dX5_fits_264 ?_
                    refine qx_goto C (tgt := 269) dX5_fits_265 (by decide) ?_
                    refine qx_iadd C dX5_fits_269 ?_
                    refine qx_istore C dX5_fits_270 (Nat.le_of_ble_eq_true rfl) ?_
                    refine qx_iincN C dX5_fits_272 rfl ?_
                    refine qx_goto C (tgt := 88) dX5_fits_275 (by decide) ?_
                    have hnb : ¬ mBear σ s i := fun z => by have z2 := hbe.mp z; exact z2.1 h193
                    refine qx_iload C dX5_fits_88 rfl ?_
                    refine qx_iload_n C dX5_fits_90 rfl rfl ?_
                    refine qx_icmp_ge C (tgt := 278) dX5_fits_91 (by decide) (fun h91 => ?_) (fun h91 => ?_)
                    · refine qx_iload C dX5_fits_278 rfl ?_
                      refine qx_if_eq_t C (tgt := 301) dX5_fits_280 (by decide) (by decide) ?_
                      refine qx_iconst C (v := 0) dX5_fits_301 rfl ?_
                      exact qx_iret C dX5_fits_302 rfl (if_neg (fun (z : mFits σ s P night) => z.elim (fun e => h18 (ec.symm.trans e)) (fun z => (z.2.1 i hi).elim (fun w => h108 (by rw [eq0] at w; exact w)) (fun w => hnb w)))).symm rfl
                    · refine qx_iload C dX5_fits_94 rfl ?_
                      refine qx_if_eq_t C (tgt := 278) dX5_fits_96 (by decide) (by decide) ?_
                      refine qx_iload C dX5_fits_278 rfl ?_
                      refine qx_if_eq_t C (tgt := 301) dX5_fits_280 (by decide) (by decide) ?_
                      refine qx_iconst C (v := 0) dX5_fits_301 rfl ?_
                      exact qx_iret C dX5_fits_302 rfl (if_neg (fun (z : mFits σ s P night) => z.elim (fun e => h18 (ec.symm.trans e)) (fun z => (z.2.1 i hi).elim (fun w => h108 (by rw [eq0] at w; exact w)) (fun w => hnb w)))).symm rfl
                · refine qx_iload C dX5_fits_196 rfl ?_
                  refine qx_if_eq_t C (tgt := 212) dX5_fits_198 (by decide) (by decide) ?_
                  refine qx_iload C dX5_fits_212 rfl ?_
                  refine qx_iconst C (v := 1) dX5_fits_214 rfl ?_
                  refine qx_icmp_gt C (tgt := 223) dX5_fits_215 (by decide) (fun h215 => ?_) (fun h215 => ?_)
                  · refine qx_iconst C (v := 1) dX5_fits_223 rfl ?_
                    refine qx_goto C (tgt := 228) dX5_fits_224 (by decide) ?_
                    refine qx_istore C dX5_fits_228 (Nat.le_of_ble_eq_true rfl) ?_
                    refine qx_iload C dX5_fits_230 rfl ?_
                    refine qx_aload_n C dX5_fits_232 rfl rfl ?_
                    refine qx_getR C (j := 0) (k := 1) hiX5 rfl rfl (by decide) qw_583 rfl dX5_fits_233 ?_
                    refine qx_iconst C (v := 3) dX5_fits_236 rfl ?_
                    refine qx_aload_n C dX5_fits_237 rfl rfl ?_
                    refine qx_getR C (j := 0) (k := 8) hiX5 rfl rfl (by decide) qw_590 rfl dX5_fits_238 ?_
                    refine qx_iload C dX5_fits_241 rfl ?_
                    refine qx_ialdN C (j := 8) rfl ⟨by omega, by decide⟩ dX5_fits_243 ?_
                    refine qx_top eq0 ?_
                    refine qx_imulE C dX5_fits_244 (pk_mul 3 q) ?_
                    refine qx_iconst C (v := 1) dX5_fits_245 rfl ?_
                    refine qx_iaddE C dX5_fits_246 (nI_add (3 * q) 1) ?_
                    refine qx_ialdN C (j := 2) rfl ⟨by omega, by decide⟩ dX5_fits_247 ?_
                    refine qx_iload C dX5_fits_248 rfl ?_
                    refine qx_icmp_ne C (tgt := 268) dX5_fits_250 (by decide) (fun h250 => ?_) (fun h250 => ?_)
                    · refine qx_iconst C (v := 0) dX5_fits_268 rfl ?_
                      refine qx_iadd C dX5_fits_269 ?_
                      refine qx_istore C dX5_fits_270 (Nat.le_of_ble_eq_true rfl) ?_
                      refine qx_iincN C dX5_fits_272 rfl ?_
                      refine qx_goto C (tgt := 88) dX5_fits_275 (by decide) ?_
                      exact (qx_forget 12 (qx_forget 11 (qx_forget 10 (qx_to (hki (lt_s hpi (Or.inr (hbe.mpr ⟨h193, (Or.inl h141), by first | exact Or.inl h215 | exact Or.inr h181⟩)))) rfl (by first | (rw [mWt_b (by rw [eq0]; exact h108) (by rw [jq, ixc, ek]; exact h250)]; first | done | rfl) | (rw [mWt_c (by rw [eq0]; exact h108) (by rw [jq, ixc, ek]; exact h250)]; first | done | rfl))))))
                    · refine qx_aload_n C dX5_fits_253 rfl rfl ?_
                      refine qx_getR C (j := 0) (k := 4) hiX5 rfl rfl (by decide) qw_586 rfl dX5_fits_254 ?_
                      refine qx_bipush C (v := 11) dX5_fits_257 rfl ?_
                      refine qx_iload C dX5_fits_259 rfl ?_
                      refine qx_imulE C dX5_fits_261 (pk_mul 11 i) ?_
                      refine qx_iconst C (v := 2) dX5_fits_262 rfl ?_
                      refine qx_iaddE C dX5_fits_263 (nI_add (11 * i) 2) ?_
                      refine qx_ialdN C (j := 5) rfl ⟨by omega, by decide⟩ dX5_fits_264 ?_
                      refine qx_goto C (tgt := 269) dX5_fits_265 (by decide) ?_
                      refine qx_iadd C dX5_fits_269 ?_
                      refine qx_istore C dX5_fits_270 (Nat.le_of_ble_eq_true rfl) ?_
                      refine qx_iincN C dX5_fits_272 rfl ?_
                      refine qx_goto C (tgt := 88) dX5_fits_275 (by decide) ?_
                      exact (qx_forget 12 (qx_forget 11 (qx_forget 10 (qx_to (hki (lt_s hpi (Or.inr (hbe.mpr ⟨h193, (Or.inl h141), by first | exact Or.inl h215 | exact Or.inr h181⟩)))) rfl (by first | (rw [mWt_b (by rw [eq0]; exact h108) (by rw [jq, ixc, ek]; exact h250)]; first | done | rfl) | (rw [mWt_c (by rw [eq0]; exact h108) (by rw [jq, ixc, ek]; exact h250)]; first | done | rfl))))))
                  · refine qx_iload C dX5_fits_218 rfl ?_
                    refine qx_if_ne_f C (tgt := 227) dX5_fits_220 (by decide) (by decide) ?_
                    refine qx_iconst C (v := 1) dX5_fits_223 rfl ?_
                    refine qx_goto C (tgt := 228) dX5_fits_224 (by decide) ?_
                    refine qx_istore C dX5_fits_228 (Nat.le_of_ble_eq_true rfl) ?_
                    refine qx_iload C dX5_fits_230 rfl ?_
                    refine qx_aload_n C dX5_fits_232 rfl rfl ?_
                    refine qx_getR C (j := 0) (k := 1) hiX5 rfl rfl (by decide) qw_583 rfl dX5_fits_233 ?_
                    refine qx_iconst C (v := 3) dX5_fits_236 rfl ?_
                    refine qx_aload_n C dX5_fits_237 rfl rfl ?_
                    refine qx_getR C (j := 0) (k := 8) hiX5 rfl rfl (by decide) qw_590 rfl dX5_fits_238 ?_
                    refine qx_iload C dX5_fits_241 rfl ?_
                    refine qx_ialdN C (j := 8) rfl ⟨by omega, by decide⟩ dX5_fits_243 ?_
                    refine qx_top eq0 ?_
                    refine qx_imulE C dX5_fits_244 (pk_mul 3 q) ?_
                    refine qx_iconst C (v := 1) dX5_fits_245 rfl ?_
                    refine qx_iaddE C dX5_fits_246 (nI_add (3 * q) 1) ?_
                    refine qx_ialdN C (j := 2) rfl ⟨by omega, by decide⟩ dX5_fits_247 ?_
                    refine qx_iload C dX5_fits_248 rfl ?_
                    refine qx_icmp_ne C (tgt := 268) dX5_fits_250 (by decide) (fun h250 => ?_) (fun h250 => ?_)
                    · refine qx_iconst C (v := 0) dX5_fits_268 rfl ?_
                      refine qx_iadd C dX5_fits_269 ?_
                      refine qx_istore C dX5_fits_270 (Nat.le_of_ble_eq_true rfl) ?_
                      refine qx_iincN C dX5_fits_272 rfl ?_
                      refine qx_goto C (tgt := 88) dX5_fits_275 (by decide) ?_
                      exact (qx_forget 12 (qx_forget 11 (qx_forget 10 (qx_to (hki (lt_s hpi (Or.inr (hbe.mpr ⟨h193, (Or.inl h141), by first | exact Or.inl h215 | exact Or.inr h181⟩)))) rfl (by first | (rw [mWt_b (by rw [eq0]; exact h108) (by rw [jq, ixc, ek]; exact h250)]; first | done | rfl) | (rw [mWt_c (by rw [eq0]; exact h108) (by rw [jq, ixc, ek]; exact h250)]; first | done | rfl))))))
                    · refine qx_aload_n C dX5_fits_253 rfl rfl ?_
                      refine qx_getR C (j := 0) (k := 4) hiX5 rfl rfl (by decide) qw_586 rfl dX5_fits_254 ?_
                      refine qx_bipush C (v := 11) dX5_fits_257 rfl ?_
                      refine qx_iload C dX5_fits_259 rfl ?_
                      refine qx_imulE C dX5_fits_261 (pk_mul 11 i) ?_
                      refine qx_iconst C (v := 2) dX5_fits_262 rfl ?_
                      refine qx_iaddE C dX5_fits_263 (nI_add (11 * i) 2) ?_
                      refine qx_ialdN C (j := 5) rfl ⟨by omega, by decide⟩ dX5_fits_264 ?_
                      refine qx_goto C (tgt := 269) dX5_fits_265 (by decide) ?_
                      refine qx_iadd C dX5_fits_269 ?_
                      refine qx_istore C dX5_fits_270 (Nat.le_of_ble_eq_true rfl) ?_
                      refine qx_iincN C dX5_fits_272 rfl ?_
                      refine qx_goto C (tgt := 88) dX5_fits_275 (by decide) ?_
                      exact (qx_forget 12 (qx_forget 11 (qx_forget 10 (qx_to (hki (lt_s hpi (Or.inr (hbe.mpr ⟨h193, (Or.inl h141), by first | exact Or.inl h215 | exact Or.inr h181⟩)))) rfl (by first | (rw [mWt_b (by rw [eq0]; exact h108) (by rw [jq, ixc, ek]; exact h250)]; first | done | rfl) | (rw [mWt_c (by rw [eq0]; exact h108) (by rw [jq, ixc, ek]; exact h250)]; first | done | rfl))))))
              · refine qx_iconst C (v := 1) dX5_fits_184 rfl ?_
                refine qx_goto C (tgt := 189) dX5_fits_185 (by decide) ?_
                refine qx_istore C dX5_fits_189 (Nat.le_of_ble_eq_true rfl) ?_
                refine qx_iload C dX5_fits_191 rfl ?_
                refine qx_if_le C (tgt := 227) dX5_fits_193 (by decide) (fun h193 => ?_) (fun h193 => ?_)
                · refine qx_iconst C (v := 0) dX5_fits_227 rfl ?_
                  refine qx_istore C dX5_fits_228 (Nat.le_of_ble_eq_true rfl) ?_
                  refine qx_iload C dX5_fits_230 rfl ?_
                  refine qx_aload_n C dX5_fits_232 rfl rfl ?_
                  refine qx_getR C (j := 0) (k := 1) hiX5 rfl rfl (by decide) qw_583 rfl dX5_fits_233 ?_
                  refine qx_iconst C (v := 3) dX5_fits_236 rfl ?_
                  refine qx_aload_n C dX5_fits_237 rfl rfl ?_
                  refine qx_getR C (j := 0) (k := 8) hiX5 rfl rfl (by decide) qw_590 rfl dX5_fits_238 ?_
                  refine qx_iload C dX5_fits_241 rfl ?_
                  refine qx_ialdN C (j := 8) rfl ⟨by omega, by decide⟩ dX5_fits_243 ?_
                  refine qx_top eq0 ?_
                  refine qx_imulE C dX5_fits_244 (pk_mul 3 q) ?_
                  refine qx_iconst C (v := 1) dX5_fits_245 rfl ?_
                  refine qx_iaddE C dX5_fits_246 (nI_add (3 * q) 1) ?_
                  refine qx_ialdN C (j := 2) rfl ⟨by omega, by decide⟩ dX5_fits_247 ?_
                  refine qx_iload C dX5_fits_248 rfl ?_
                  refine qx_icmp_ne C (tgt := 268) dX5_fits_250 (by decide) (fun h250 => ?_) (fun h250 => ?_)
                  · refine qx_iconst C (v := 0) dX5_fits_268 rfl ?_
                    refine qx_iadd C dX5_fits_269 ?_
                    refine qx_istore C dX5_fits_270 (Nat.le_of_ble_eq_true rfl) ?_
                    refine qx_iincN C dX5_fits_272 rfl ?_
                    refine qx_goto C (tgt := 88) dX5_fits_275 (by decide) ?_
                    have hnb : ¬ mBear σ s i := fun z => by have z2 := hbe.mp z; exact z2.1 h193
                    refine qx_iload C dX5_fits_88 rfl ?_
                    refine qx_iload_n C dX5_fits_90 rfl rfl ?_
                    refine qx_icmp_ge C (tgt := 278) dX5_fits_91 (by decide) (fun h91 => ?_) (fun h91 => ?_)
                    · refine qx_iload C dX5_fits_278 rfl ?_
                      refine qx_if_eq_t C (tgt := 301) dX5_fits_280 (by decide) (by decide) ?_
                      refine qx_iconst C (v := 0) dX5_fits_301 rfl ?_
                      exact qx_iret C dX5_fits_302 rfl (if_neg (fun (z : mFits σ s P night) => z.elim (fun e => h18 (ec.symm.trans e)) (fun z => (z.2.1 i hi).elim (fun w => h108 (by rw [eq0] at w; exact w)) (fun w => hnb w)))).symm rfl
                    · refine qx_iload C dX5_fits_94 rfl ?_
                      refine qx_if_eq_t C (tgt := 278) dX5_fits_96 (by decide) (by decide) ?_
                      refine qx_iload C dX5_fits_278 rfl ?_
                      refine qx_if_eq_t C (tgt := 301) dX5_fits_280 (by decide) (by decide) ?_
                      refine qx_iconst C (v := 0) dX5_fits_301 rfl ?_
                      exact qx_iret C dX5_fits_302 rfl (if_neg (fun (z : mFits σ s P night) => z.elim (fun e => h18 (ec.symm.trans e)) (fun z => (z.2.1 i hi).elim (fun w => h108 (by rw [eq0] at w; exact w)) (fun w => hnb w)))).symm rfl
                  · refine qx_aload_n C dX5_fits_253 rfl rfl ?_
                    refine qx_getR C (j := 0) (k := 4) hiX5 rfl rfl (by decide) qw_586 rfl dX5_fits_254 ?_
                    refine qx_bipush C (v := 11) dX5_fits_257 rfl ?_
                    refine qx_iload C dX5_fits_259 rfl ?_
                    refine qx_imulE C dX5_fits_261 (pk_mul 11 i) ?_
                    refine qx_iconst C (v := 2) dX5_fits_262 rfl ?_
                    refine qx_iaddE C dX5_fits_263 (nI_add (11 * i) 2) ?_
                    refine qx_ialdN C (j := 5) rfl ⟨by omega, by decide⟩ dX5_fits_264 ?_
                    refine qx_goto C (tgt := 269) dX5_fits_265 (by decide) ?_
                    refine qx_iadd C dX5_fits_269 ?_
                    refine qx_istore C dX5_fits_270 (Nat.le_of_ble_eq_true rfl) ?_
                    refine qx_iincN C dX5_fits_272 rfl ?_
                    refine qx_goto C (tgt := 88) dX5_fits_275 (by decide) ?_
                    have hnb : ¬ mBear σ s i := fun z => by have z2 := hbe.mp z; exact z2.1 h193
                    refine qx_iload C dX5_fits_88 rfl ?_
                    refine qx_iload_n C dX5_fits_90 rfl rfl ?_
                    refine qx_icmp_ge C (tgt := 278) dX5_fits_91 (by decide) (fun h91 => ?_) (fun h91 => ?_)
                    · refine qx_iload C dX5_fits_278 rfl ?_
                      refine qx_if_eq_t C (tgt := 301) dX5_fits_280 (by decide) (by decide) ?_
                      refine qx_iconst C (v := 0) dX5_fits_301 rfl ?_
                      exact qx_iret C dX5_fits_302 rfl (if_neg (fun (z : mFits σ s P night) => z.elim (fun e => h18 (ec.symm.trans e)) (fun z => (z.2.1 i hi).elim (fun w => h108 (by rw [eq0] at w; exact w)) (fun w => hnb w)))).symm rfl
                    · refine qx_iload C dX5_fits_94 rfl ?_
                      refine qx_if_eq_t C (tgt := 278) dX5_fits_96 (by decide) (by decide) ?_
                      refine qx_iload C dX5_fits_278 rfl ?_
                      refine qx_if_eq_t C (tgt := 301) dX5_fits_280 (by decide) (by decide) ?_
                      refine qx_iconst C (v := 0) dX5_fits_301 rfl ?_
                      exact qx_iret C dX5_fits_302 rfl (if_neg (fun (z : mFits σ s P night) => z.elim (fun e => h18 (ec.symm.trans e)) (fun z => (z.2.1 i hi).elim (fun w => h108 (by rw [eq0] at w; exact w)) (fun w => hnb w)))).symm rfl
                · refine qx_iload C dX5_fits_196 rfl ?_
                  refine qx_if_eq_t C (tgt := 212) dX5_fits_198 (by decide) (by decide) ?_
                  refine qx_iload C dX5_fits_212 rfl ?_
                  refine qx_iconst C (v := 1) dX5_fits_214 rfl ?_
                  refine qx_icmp_gt C (tgt := 223) dX5_fits_215 (by decide) (fun h215 => ?_) (fun h215 => ?_)
                  · refine qx_iconst C (v := 1) dX5_fits_223 rfl ?_
                    refine qx_goto C (tgt := 228) dX5_fits_224 (by decide) ?_
                    refine qx_istore C dX5_fits_228 (Nat.le_of_ble_eq_true rfl) ?_
                    refine qx_iload C dX5_fits_230 rfl ?_
                    refine qx_aload_n C dX5_fits_232 rfl rfl ?_
                    refine qx_getR C (j := 0) (k := 1) hiX5 rfl rfl (by decide) qw_583 rfl dX5_fits_233 ?_
                    refine qx_iconst C (v := 3) dX5_fits_236 rfl ?_
                    refine qx_aload_n C dX5_fits_237 rfl rfl ?_
                    refine qx_getR C (j := 0) (k := 8) hiX5 rfl rfl (by decide) qw_590 rfl dX5_fits_238 ?_
                    refine qx_iload C dX5_fits_241 rfl ?_
                    refine qx_ialdN C (j := 8) rfl ⟨by omega, by decide⟩ dX5_fits_243 ?_
                    refine qx_top eq0 ?_
                    refine qx_imulE C dX5_fits_244 (pk_mul 3 q) ?_
                    refine qx_iconst C (v := 1) dX5_fits_245 rfl ?_
                    refine qx_iaddE C dX5_fits_246 (nI_add (3 * q) 1) ?_
                    refine qx_ialdN C (j := 2) rfl ⟨by omega, by decide⟩ dX5_fits_247 ?_
                    refine qx_iload C dX5_fits_248 rfl ?_
                    refine qx_icmp_ne C (tgt := 268) dX5_fits_250 (by decide) (fun h250 => ?_) (fun h250 => ?_)
                    · refine qx_iconst C (v := 0) dX5_fits_268 rfl ?_
                      refine qx_iadd C dX5_fits_269 ?_
                      refine qx_istore C dX5_fits_270 (Nat.le_of_ble_eq_true rfl) ?_
                      refine qx_iincN C dX5_fits_272 rfl ?_
                      refine qx_goto C (tgt := 88) dX5_fits_275 (by decide) ?_
                      exact (qx_forget 12 (qx_forget 11 (qx_forget 10 (qx_to (hki (lt_s hpi (Or.inr (hbe.mpr ⟨h193, (Or.inl h141), by first | exact Or.inl h215 | exact Or.inr h181⟩)))) rfl (by first | (rw [mWt_b (by rw [eq0]; exact h108) (by rw [jq, ixc, ek]; exact h250)]; first | done | rfl) | (rw [mWt_c (by rw [eq0]; exact h108) (by rw [jq, ixc, ek]; exact h250)]; first | done | rfl))))))
                    · refine qx_aload_n C dX5_fits_253 rfl rfl ?_
                      refine qx_getR C (j := 0) (k := 4) hiX5 rfl rfl (by decide) qw_586 rfl dX5_fits_254 ?_
                      refine qx_bipush C (v := 11) dX5_fits_257 rfl ?_
                      refine qx_iload C dX5_fits_259 rfl ?_
                      refine qx_imulE C dX5_fits_261 (pk_mul 11 i) ?_
                      refine qx_iconst C (v := 2) dX5_fits_262 rfl ?_
                      refine qx_iaddE C dX5_fits_263 (nI_add (11 * i) 2) ?_
                      refine qx_ialdN C (j := 5) rfl ⟨by omega, by decide⟩ dX5_fits_264 ?_
                      refine qx_goto C (tgt := 269) dX5_fits_265 (by decide) ?_
                      refine qx_iadd C dX5_fits_269 ?_
                      refine qx_istore C dX5_fits_270 (Nat.le_of_ble_eq_true rfl) ?_
                      refine qx_iincN C dX5_fits_272 rfl ?_
                      refine qx_goto C (tgt := 88) dX5_fits_275 (by decide) ?_
                      exact (qx_forget 12 (qx_forget 11 (qx_forget 10 (qx_to (hki (lt_s hpi (Or.inr (hbe.mpr ⟨h193, (Or.inl h141), by first | exact Or.inl h215 | exact Or.inr h181⟩)))) rfl (by first | (rw [mWt_b (by rw [eq0]; exact h108) (by rw [jq, ixc, ek]; exact h250)]; first | done | rfl) | (rw [mWt_c (by rw [eq0]; exact h108) (by rw [jq, ixc, ek]; exact h250)]; first | done | rfl))))))
                  · refine qx_iload C dX5_fits_218 rfl ?_
                    refine qx_if_ne_t C (tgt := 227) dX5_fits_220 (by decide) (by decide) ?_
                    refine qx_iconst C (v := 0) dX5_fits_227 rfl ?_
                    refine qx_istore C dX5_fits_228 (Nat.le_of_ble_eq_true rfl) ?_
                    refine qx_iload C dX5_fits_230 rfl ?_
                    refine qx_aload_n C dX5_fits_232 rfl rfl ?_
                    refine qx_getR C (j := 0) (k := 1) hiX5 rfl rfl (by decide) qw_583 rfl dX5_fits_233 ?_
                    refine qx_iconst C (v := 3) dX5_fits_236 rfl ?_
                    refine qx_aload_n C dX5_fits_237 rfl rfl ?_
                    refine qx_getR C (j := 0) (k := 8) hiX5 rfl rfl (by decide) qw_590 rfl dX5_fits_238 ?_
                    refine qx_iload C dX5_fits_241 rfl ?_
                    refine qx_ialdN C (j := 8) rfl ⟨by omega, by decide⟩ dX5_fits_243 ?_
                    refine qx_top eq0 ?_
                    refine qx_imulE C dX5_fits_244 (pk_mul 3 q) ?_
                    refine qx_iconst C (v := 1) dX5_fits_245 rfl ?_
                    refine qx_iaddE C dX5_fits_246 (nI_add (3 * q) 1) ?_
                    refine qx_ialdN C (j := 2) rfl ⟨by omega, by decide⟩ dX5_fits_247 ?_
                    refine qx_iload C dX5_fits_248 rfl ?_
                    refine qx_icmp_ne C (tgt := 268) dX5_fits_250 (by decide) (fun h250 => ?_) (fun h250 => ?_)
                    · refine qx_iconst C (v := 0) dX5_fits_268 rfl ?_
                      refine qx_iadd C dX5_fits_269 ?_
                      refine qx_istore C dX5_fits_270 (Nat.le_of_ble_eq_true rfl) ?_
                      refine qx_iincN C dX5_fits_272 rfl ?_
                      refine qx_goto C (tgt := 88) dX5_fits_275 (by decide) ?_
                      have hnb : ¬ mBear σ s i := fun z => by have z2 := hbe.mp z; exact z2.2.2.elim (fun w => h215 w) (fun w => w h181)
                      refine qx_iload C dX5_fits_88 rfl ?_
                      refine qx_iload_n C dX5_fits_90 rfl rfl ?_
                      refine qx_icmp_ge C (tgt := 278) dX5_fits_91 (by decide) (fun h91 => ?_) (fun h91 => ?_)
                      · refine qx_iload C dX5_fits_278 rfl ?_
                        refine qx_if_eq_t C (tgt := 301) dX5_fits_280 (by decide) (by decide) ?_
                        refine qx_iconst C (v := 0) dX5_fits_301 rfl ?_
                        exact qx_iret C dX5_fits_302 rfl (if_neg (fun (z : mFits σ s P night) => z.elim (fun e => h18 (ec.symm.trans e)) (fun z => (z.2.1 i hi).elim (fun w => h108 (by rw [eq0] at w; exact w)) (fun w => hnb w)))).symm rfl
                      · refine qx_iload C dX5_fits_94 rfl ?_
                        refine qx_if_eq_t C (tgt := 278) dX5_fits_96 (by decide) (by decide) ?_
                        refine qx_iload C dX5_fits_278 rfl ?_
                        refine qx_if_eq_t C (tgt := 301) dX5_fits_280 (by decide) (by decide) ?_
                        refine qx_iconst C (v := 0) dX5_fits_301 rfl ?_
                        exact qx_iret C dX5_fits_302 rfl (if_neg (fun (z : mFits σ s P night) => z.elim (fun e => h18 (ec.symm.trans e)) (fun z => (z.2.1 i hi).elim (fun w => h108 (by rw [eq0] at w; exact w)) (fun w => hnb w)))).symm rfl
                    · refine qx_aload_n C dX5_fits_253 rfl rfl ?_
                      refine qx_getR C (j := 0) (k := 4) hiX5 rfl rfl (by decide) qw_586 rfl dX5_fits_254 ?_
                      refine qx_bipush C (v := 11) dX5_fits_257 rfl ?_
                      refine qx_iload C dX5_fits_259 rfl ?_
                      refine qx_imulE C dX5_fits_261 (pk_mul 11 i) ?_
                      refine qx_iconst C (v := 2) dX5_fits_262 rfl ?_
                      refine qx_iaddE C dX5_fits_263 (nI_add (11 * i) 2) ?_
                      refine qx_ialdN C (j := 5) rfl ⟨by omega, by decide⟩ dX5_fits_264 ?_
                      refine qx_goto C (tgt := 269) dX5_fits_265 (by decide) ?_
                      refine qx_iadd C dX5_fits_269 ?_
                      refine qx_istore C dX5_fits_270 (Nat.le_of_ble_eq_true rfl) ?_
                      refine qx_iincN C dX5_fits_272 rfl ?_
                      refine qx_goto C (tgt := 88) dX5_fits_275 (by decide) ?_
                      have hnb : ¬ mBear σ s i := fun z => by have z2 := hbe.mp z; exact z2.2.2.elim (fun w => h215 w) (fun w => w h181)
                      refine qx_iload C dX5_fits_88 rfl ?_
                      refine qx_iload_n C dX5_fits_90 rfl rfl ?_
                      refine qx_icmp_ge C (tgt := 278) dX5_fits_91 (by decide) (fun h91 => ?_) (fun h91 => ?_)
                      · refine qx_iload C dX5_fits_278 rfl ?_
                        refine qx_if_eq_t C (tgt := 301) dX5_fits_280 (by decide) (by decide) ?_
                        refine qx_iconst C (v := 0) dX5_fits_301 rfl ?_
                        exact qx_iret C dX5_fits_302 rfl (if_neg (fun (z : mFits σ s P night) => z.elim (fun e => h18 (ec.symm.trans e)) (fun z => (z.2.1 i hi).elim (fun w => h108 (by rw [eq0] at w; exact w)) (fun w => hnb w)))).symm rfl
                      · refine qx_iload C dX5_fits_94 rfl ?_
                        refine qx_if_eq_t C (tgt := 278) dX5_fits_96 (by decide) (by decide) ?_
                        refine qx_iload C dX5_fits_278 rfl ?_
                        refine qx_if_eq_t C (tgt := 301) dX5_fits_280 (by decide) (by decide) ?_
                        refine qx_iconst C (v := 0) dX5_fits_301 rfl ?_
                        exact qx_iret C dX5_fits_302 rfl (if_neg (fun (z : mFits σ s P night) => z.elim (fun e => h18 (ec.symm.trans e)) (fun z => (z.2.1 i hi).elim (fun w => h108 (by rw [eq0] at w; exact w)) (fun w => hnb w)))).symm rfl
            · refine qx_iconst C (v := 1) dX5_fits_144 rfl ?_
              refine qx_goto C (tgt := 149) dX5_fits_145 (by decide) ?_
              refine qx_istore C dX5_fits_149 (Nat.le_of_ble_eq_true rfl) ?_
              refine qx_aload_n C dX5_fits_151 rfl rfl ?_
              refine qx_getR C (j := 0) (k := 3) hiX5 rfl rfl (by decide) qw_585 rfl dX5_fits_152 ?_
              refine qx_iconst C (v := 4) dX5_fits_155 rfl ?_
              refine qx_aload_n C dX5_fits_156 rfl rfl ?_
              refine qx_getR C (j := 0) (k := 4) hiX5 rfl rfl (by decide) qw_586 rfl dX5_fits_157 ?_
              refine qx_bipush C (v := 11) dX5_fits_160 rfl ?_
              refine qx_iload C dX5_fits_162 rfl ?_
              refine qx_imulE C dX5_fits_164 (pk_mul 11 i) ?_
              refine qx_iconst C (v := 1) dX5_fits_165 rfl ?_
              refine qx_iaddE C dX5_fits_166 (nI_add (11 * i) 1) ?_
              refine qx_ialdN C (j := 5) rfl ⟨by omega, by decide⟩ dX5_fits_167 ?_
              refine qx_top ea ?_
              refine qx_imulE C dX5_fits_168 (pk_mul 4 a) ?_
              refine qx_aload_n C dX5_fits_169 rfl rfl ?_
              refine qx_getR C (j := 0) (k := 4) hiX5 rfl rfl (by decide) qw_586 rfl dX5_fits_170 ?_
              refine qx_iload C dX5_fits_173 rfl ?_
              refine qx_iconst C (v := 1) dX5_fits_175 rfl ?_
              refine qx_iaddE C dX5_fits_176 (nI_add (11 * s) 1) ?_
              refine qx_ialdN C (j := 5) rfl ⟨by omega, by decide⟩ dX5_fits_177 ?_
              refine qx_top eb ?_
              refine qx_iaddE C dX5_fits_178 (nI_add (4 * a) b) ?_
              refine qx_ialdN C (j := 4) rfl ⟨by omega, by decide⟩ dX5_fits_179 ?_
              refine qx_iconst C (v := 1) dX5_fits_180 rfl ?_
              refine qx_icmp_ne C (tgt := 188) dX5_fits_181 (by decide) (fun h181 => ?_) (fun h181 => ?_)
              · refine qx_iconst C (v := 0) dX5_fits_188 rfl ?_
                refine qx_istore C dX5_fits_189 (Nat.le_of_ble_eq_true rfl) ?_
                refine qx_iload C dX5_fits_191 rfl ?_
                refine qx_if_le C (tgt := 227) dX5_fits_193 (by decide) (fun h193 => ?_) (fun h193 => ?_)
                · refine qx_iconst C (v := 0) dX5_fits_227 rfl ?_
                  refine qx_istore C dX5_fits_228 (Nat.le_of_ble_eq_true rfl) ?_
                  refine qx_iload C dX5_fits_230 rfl ?_
                  refine qx_aload_n C dX5_fits_232 rfl rfl ?_
                  refine qx_getR C (j := 0) (k := 1) hiX5 rfl rfl (by decide) qw_583 rfl dX5_fits_233 ?_
                  refine qx_iconst C (v := 3) dX5_fits_236 rfl ?_
                  refine qx_aload_n C dX5_fits_237 rfl rfl ?_
                  refine qx_getR C (j := 0) (k := 8) hiX5 rfl rfl (by decide) qw_590 rfl dX5_fits_238 ?_
                  refine qx_iload C dX5_fits_241 rfl ?_
                  refine qx_ialdN C (j := 8) rfl ⟨by omega, by decide⟩ dX5_fits_243 ?_
                  refine qx_top eq0 ?_
                  refine qx_imulE C dX5_fits_244 (pk_mul 3 q) ?_
                  refine qx_iconst C (v := 1) dX5_fits_245 rfl ?_
                  refine qx_iaddE C dX5_fits_246 (nI_add (3 * q) 1) ?_
                  refine qx_ialdN C (j := 2) rfl ⟨by omega, by decide⟩ dX5_fits_247 ?_
                  refine qx_iload C dX5_fits_248 rfl ?_
                  refine qx_icmp_ne C (tgt := 268) dX5_fits_250 (by decide) (fun h250 => ?_) (fun h250 => ?_)
                  · refine qx_iconst C (v := 0) dX5_fits_268 rfl ?_
                    refine qx_iadd C dX5_fits_269 ?_
                    refine qx_istore C dX5_fits_270 (Nat.le_of_ble_eq_true rfl) ?_
                    refine qx_iincN C dX5_fits_272 rfl ?_
                    refine qx_goto C (tgt := 88) dX5_fits_275 (by decide) ?_
                    have hnb : ¬ mBear σ s i := fun z => by have z2 := hbe.mp z; exact z2.1 h193
                    refine qx_iload C dX5_fits_88 rfl ?_
                    refine qx_iload_n C dX5_fits_90 rfl rfl ?_
                    refine qx_icmp_ge C (tgt := 278) dX5_fits_91 (by decide) (fun h91 => ?_) (fun h91 => ?_)
                    · refine qx_iload C dX5_fits_278 rfl ?_
                      refine qx_if_eq_t C (tgt := 301) dX5_fits_280 (by decide) (by decide) ?_
                      refine qx_iconst C (v := 0) dX5_fits_301 rfl ?_
                      exact qx_iret C dX5_fits_302 rfl (if_neg (fun (z : mFits σ s P night) => z.elim (fun e => h18 (ec.symm.trans e)) (fun z => (z.2.1 i hi).elim (fun w => h108 (by rw [eq0] at w; exact w)) (fun w => hnb w)))).symm rfl
                    · refine qx_iload C dX5_fits_94 rfl ?_
                      refine qx_if_eq_t C (tgt := 278) dX5_fits_96 (by decide) (by decide) ?_
                      refine qx_iload C dX5_fits_278 rfl ?_
                      refine qx_if_eq_t C (tgt := 301) dX5_fits_280 (by decide) (by decide) ?_
                      refine qx_iconst C (v := 0) dX5_fits_301 rfl ?_
                      exact qx_iret C dX5_fits_302 rfl (if_neg (fun (z : mFits σ s P night) => z.elim (fun e => h18 (ec.symm.trans e)) (fun z => (z.2.1 i hi).elim (fun w => h108 (by rw [eq0] at w; exact w)) (fun w => hnb w)))).symm rfl
                  · refine qx_aload_n C dX5_fits_253 rfl rfl ?_
                    refine qx_getR C (j := 0) (k := 4) hiX5 rfl rfl (by decide) qw_586 rfl dX5_fits_254 ?_
                    refine qx_bipush C (v := 11) dX5_fits_257 rfl ?_
                    refine qx_iload C dX5_fits_259 rfl ?_
                    refine qx_imulE C dX5_fits_261 (pk_mul 11 i) ?_
                    refine qx_iconst C (v := 2) dX5_fits_262 rfl ?_
                    refine qx_iaddE C dX5_fits_263 (nI_add (11 * i) 2) ?_
                    refine qx_ialdN C (j := 5) rfl ⟨by omega, by decide⟩ dX5_fits_264 ?_
                    refine qx_goto C (tgt := 269) dX5_fits_265 (by decide) ?_
                    refine qx_iadd C dX5_fits_269 ?_
                    refine qx_istore C dX5_fits_270 (Nat.le_of_ble_eq_true rfl) ?_
                    refine qx_iincN C dX5_fits_272 rfl ?_
                    refine qx_goto C (tgt := 88) dX5_fits_275 (by decide) ?_
                    have hnb : ¬ mBear σ s i := fun z => by have z2 := hbe.mp z; exact z2.1 h193
                    refine qx_iload C dX5_fits_88 rfl ?_
                    refine qx_iload_n C dX5_fits_90 rfl rfl ?_
                    refine qx_icmp_ge C (tgt := 278) dX5_fits_91 (by decide) (fun h91 => ?_) (fun h91 => ?_)
                    · refine qx_iload C dX5_fits_278 rfl ?_
                      refine qx_if_eq_t C (tgt := 301) dX5_fits_280 (by decide) (by decide) ?_
                      refine qx_iconst C (v := 0) dX5_fits_301 rfl ?_
                      exact qx_iret C dX5_fits_302 rfl (if_neg (fun (z : mFits σ s P night) => z.elim (fun e => h18 (ec.symm.trans e)) (fun z => (z.2.1 i hi).elim (fun w => h108 (by rw [eq0] at w; exact w)) (fun w => hnb w)))).symm rfl
                    · refine qx_iload C dX5_fits_94 rfl ?_
                      refine qx_if_eq_t C (tgt := 278) dX5_fits_96 (by decide) (by decide) ?_
                      refine qx_iload C dX5_fits_278 rfl ?_
                      refine qx_if_eq_t C (tgt := 301) dX5_fits_280 (by decide) (by decide) ?_
                      refine qx_iconst C (v := 0) dX5_fits_301 rfl ?_
                      exact qx_iret C dX5_fits_302 rfl (if_neg (fun (z : mFits σ s P night) => z.elim (fun e => h18 (ec.symm.trans e)) (fun z => (z.2.1 i hi).elim (fun w => h108 (by rw [eq0] at w; exact w)) (fun w => hnb w)))).symm rfl
                · refine qx_iload C dX5_fits_196 rfl ?_
                  refine qx_if_eq_f C (tgt := 212) dX5_fits_198 (by decide) (by decide) ?_
                  refine qx_iload C dX5_fits_201 rfl ?_
                  refine qx_aload_n C dX5_fits_203 rfl rfl ?_
                  refine qx_getR C (j := 0) (k := 0) hiX5 rfl rfl (by decide) qw_582 rfl dX5_fits_204 ?_
                  refine qx_iconst C (v := 5) dX5_fits_207 rfl ?_
                  refine qx_ialdL C (j := 1) (a := 5) rfl rfl ⟨by decide, by decide⟩ dX5_fits_208 ?_
                  refine qx_icmp_le C (tgt := 227) dX5_fits_209 (by decide) (fun h209 => ?_) (fun h209 => ?_)
                  · refine qx_iconst C (v := 0) dX5_fits_227 rfl ?_
                    refine qx_istore C dX5_fits_228 (Nat.le_of_ble_eq_true rfl) ?_
                    refine qx_iload C dX5_fits_230 rfl ?_
                    refine qx_aload_n C dX5_fits_232 rfl rfl ?_
                    refine qx_getR C (j := 0) (k := 1) hiX5 rfl rfl (by decide) qw_583 rfl dX5_fits_233 ?_
                    refine qx_iconst C (v := 3) dX5_fits_236 rfl ?_
                    refine qx_aload_n C dX5_fits_237 rfl rfl ?_
                    refine qx_getR C (j := 0) (k := 8) hiX5 rfl rfl (by decide) qw_590 rfl dX5_fits_238 ?_
                    refine qx_iload C dX5_fits_241 rfl ?_
                    refine qx_ialdN C (j := 8) rfl ⟨by omega, by decide⟩ dX5_fits_243 ?_
                    refine qx_top eq0 ?_
                    refine qx_imulE C dX5_fits_244 (pk_mul 3 q) ?_
                    refine qx_iconst C (v := 1) dX5_fits_245 rfl ?_
                    refine qx_iaddE C dX5_fits_246 (nI_add (3 * q) 1) ?_
                    refine qx_ialdN C (j := 2) rfl ⟨by omega, by decide⟩ dX5_fits_247 ?_
                    refine qx_iload C dX5_fits_248 rfl ?_
                    refine qx_icmp_ne C (tgt := 268) dX5_fits_250 (by decide) (fun h250 => ?_) (fun h250 => ?_)
                    · refine qx_iconst C (v := 0) dX5_fits_268 rfl ?_
                      refine qx_iadd C dX5_fits_269 ?_
                      refine qx_istore C dX5_fits_270 (Nat.le_of_ble_eq_true rfl) ?_
                      refine qx_iincN C dX5_fits_272 rfl ?_
                      refine qx_goto C (tgt := 88) dX5_fits_275 (by decide) ?_
                      have hnb : ¬ mBear σ s i := fun z => by have z2 := hbe.mp z; exact z2.2.1.elim (fun w => w h141) (fun w => w h209)
                      refine qx_iload C dX5_fits_88 rfl ?_
                      refine qx_iload_n C dX5_fits_90 rfl rfl ?_
                      refine qx_icmp_ge C (tgt := 278) dX5_fits_91 (by decide) (fun h91 => ?_) (fun h91 => ?_)
                      · refine qx_iload C dX5_fits_278 rfl ?_
                        refine qx_if_eq_t C (tgt := 301) dX5_fits_280 (by decide) (by decide) ?_
                        refine qx_iconst C (v := 0) dX5_fits_301 rfl ?_
                        exact qx_iret C dX5_fits_302 rfl (if_neg (fun (z : mFits σ s P night) => z.elim (fun e => h18 (ec.symm.trans e)) (fun z => (z.2.1 i hi).elim (fun w => h108 (by rw [eq0] at w; exact w)) (fun w => hnb w)))).symm rfl
                      · refine qx_iload C dX5_fits_94 rfl ?_
                        refine qx_if_eq_t C (tgt := 278) dX5_fits_96 (by decide) (by decide) ?_
                        refine qx_iload C dX5_fits_278 rfl ?_
                        refine qx_if_eq_t C (tgt := 301) dX5_fits_280 (by decide) (by decide) ?_
                        refine qx_iconst C (v := 0) dX5_fits_301 rfl ?_
                        exact qx_iret C dX5_fits_302 rfl (if_neg (fun (z : mFits σ s P night) => z.elim (fun e => h18 (ec.symm.trans e)) (fun z => (z.2.1 i hi).elim (fun w => h108 (by rw [eq0] at w; exact w)) (fun w => hnb w)))).symm rfl
                    · refine qx_aload_n C dX5_fits_253 rfl rfl ?_
                      refine qx_getR C (j := 0) (k := 4) hiX5 rfl rfl (by decide) qw_586 rfl dX5_fits_254 ?_
                      refine qx_bipush C (v := 11) dX5_fits_257 rfl ?_
                      refine qx_iload C dX5_fits_259 rfl ?_
                      refine qx_imulE C dX5_fits_261 (pk_mul 11 i) ?_
                      refine qx_iconst C (v := 2) dX5_fits_262 rfl ?_
                      refine qx_iaddE C dX5_fits_263 (nI_add (11 * i) 2) ?_
                      refine qx_ialdN C (j := 5) rfl ⟨by omega, by decide⟩ dX5_fits_264 ?_
                      refine qx_goto C (tgt := 269) dX5_fits_265 (by decide) ?_
                      refine qx_iadd C dX5_fits_269 ?_
                      refine qx_istore C dX5_fits_270 (Nat.le_of_ble_eq_true rfl) ?_
                      refine qx_iincN C dX5_fits_272 rfl ?_
                      refine qx_goto C (tgt := 88) dX5_fits_275 (by decide) ?_
                      have hnb : ¬ mBear σ s i := fun z => by have z2 := hbe.mp z; exact z2.2.1.elim (fun w => w h141) (fun w => w h209)
                      refine qx_iload C dX5_fits_88 rfl ?_
                      refine qx_iload_n C dX5_fits_90 rfl rfl ?_
                      refine qx_icmp_ge C (tgt := 278) dX5_fits_91 (by decide) (fun h91 => ?_) (fun h91 => ?_)
                      · refine qx_iload C dX5_fits_278 rfl ?_
                        refine qx_if_eq_t C (tgt := 301) dX5_fits_280 (by decide) (by decide) ?_
                        refine qx_iconst C (v := 0) dX5_fits_301 rfl ?_
                        exact qx_iret C dX5_fits_302 rfl (if_neg (fun (z : mFits σ s P night) => z.elim (fun e => h18 (ec.symm.trans e)) (fun z => (z.2.1 i hi).elim (fun w => h108 (by rw [eq0] at w; exact w)) (fun w => hnb w)))).symm rfl
                      · refine qx_iload C dX5_fits_94 rfl ?_
                        refine qx_if_eq_t C (tgt := 278) dX5_fits_96 (by decide) (by decide) ?_
                        refine qx_iload C dX5_fits_278 rfl ?_
                        refine qx_if_eq_t C (tgt := 301) dX5_fits_280 (by decide) (by decide) ?_
                        refine qx_iconst C (v := 0) dX5_fits_301 rfl ?_
                        exact qx_iret C dX5_fits_302 rfl (if_neg (fun (z : mFits σ s P night) => z.elim (fun e => h18 (ec.symm.trans e)) (fun z => (z.2.1 i hi).elim (fun w => h108 (by rw [eq0] at w; exact w)) (fun w => hnb w)))).symm rfl
                  · refine qx_iload C dX5_fits_212 rfl ?_
                    refine qx_iconst C (v := 1) dX5_fits_214 rfl ?_
                    refine qx_icmp_gt C (tgt := 223) dX5_fits_215 (by decide) (fun h215 => ?_) (fun h215 => ?_)
                    · refine qx_iconst C (v := 1) dX5_fits_223 rfl ?_
                      refine qx_goto C (tgt := 228) dX5_fits_224 (by decide) ?_
                      refine qx_istore C dX5_fits_228 (Nat.le_of_ble_eq_true rfl) ?_
                      refine qx_iload C dX5_fits_230 rfl ?_
                      refine qx_aload_n C dX5_fits_232 rfl rfl ?_
                      refine qx_getR C (j := 0) (k := 1) hiX5 rfl rfl (by decide) qw_583 rfl dX5_fits_233 ?_
                      refine qx_iconst C (v := 3) dX5_fits_236 rfl ?_
                      refine qx_aload_n C dX5_fits_237 rfl rfl ?_
                      refine qx_getR C (j := 0) (k := 8) hiX5 rfl rfl (by decide) qw_590 rfl dX5_fits_238 ?_
                      refine qx_iload C dX5_fits_241 rfl ?_
                      refine qx_ialdN C (j := 8) rfl ⟨by omega, by decide⟩ dX5_fits_243 ?_
                      refine qx_top eq0 ?_
                      refine qx_imulE C dX5_fits_244 (pk_mul 3 q) ?_
                      refine qx_iconst C (v := 1) dX5_fits_245 rfl ?_
                      refine qx_iaddE C dX5_fits_246 (nI_add (3 * q) 1) ?_
                      refine qx_ialdN C (j := 2) rfl ⟨by omega, by decide⟩ dX5_fits_247 ?_
                      refine qx_iload C dX5_fits_248 rfl ?_
                      refine qx_icmp_ne C (tgt := 268) dX5_fits_250 (by decide) (fun h250 => ?_) (fun h250 => ?_)
                      · refine qx_iconst C (v := 0) dX5_fits_268 rfl ?_
                        refine qx_iadd C dX5_fits_269 ?_
                        refine qx_istore C dX5_fits_270 (Nat.le_of_ble_eq_true rfl) ?_
                        refine qx_iincN C dX5_fits_272 rfl ?_
                        refine qx_goto C (tgt := 88) dX5_fits_275 (by decide) ?_
                        exact (qx_forget 12 (qx_forget 11 (qx_forget 10 (qx_to (hki (lt_s hpi (Or.inr (hbe.mpr ⟨h193, (Or.inr h209), by first | exact Or.inl h215 | exact Or.inr h181⟩)))) rfl (by first | (rw [mWt_b (by rw [eq0]; exact h108) (by rw [jq, ixc, ek]; exact h250)]; first | done | rfl) | (rw [mWt_c (by rw [eq0]; exact h108) (by rw [jq, ixc, ek]; exact h250)]; first | done | rfl))))))
                      · refine qx_aload_n C dX5_fits_253 rfl rfl ?_
                        refine qx_getR C (j := 0) (k := 4) hiX5 rfl rfl (by decide) qw_586 rfl dX5_fits_254 ?_
                        refine qx_bipush C (v := 11) dX5_fits_257 rfl ?_
                        refine qx_iload C dX5_fits_259 rfl ?_
                        refine qx_imulE C dX5_fits_261 (pk_mul 11 i) ?_
                        refine qx_iconst C (v := 2) dX5_fits_262 rfl ?_
                        refine qx_iaddE C dX5_fits_263 (nI_add (11 * i) 2) ?_
                        refine qx_ialdN C (j := 5) rfl ⟨by omega, by decide⟩ dX5_fits_264 ?_
                        refine qx_goto C (tgt := 269) dX5_fits_265 (by decide) ?_
                        refine qx_iadd C dX5_fits_269 ?_
                        refine qx_istore C dX5_fits_270 (Nat.le_of_ble_eq_true rfl) ?_
                        refine qx_iincN C dX5_fits_272 rfl ?_
                        refine qx_goto C (tgt := 88) dX5_fits_275 (by decide) ?_
                        exact (qx_forget 12 (qx_forget 11 (qx_forget 10 (qx_to (hki (lt_s hpi (Or.inr (hbe.mpr ⟨h193, (Or.inr h209), by first | exact Or.inl h215 | exact Or.inr h181⟩)))) rfl (by first | (rw [mWt_b (by rw [eq0]; exact h108) (by rw [jq, ixc, ek]; exact h250)]; first | done | rfl) | (rw [mWt_c (by rw [eq0]; exact h108) (by rw [jq, ixc, ek]; exact h250)]; first | done | rfl))))))
                    · refine qx_iload C dX5_fits_218 rfl ?_
                      refine qx_if_ne_f C (tgt := 227) dX5_fits_220 (by decide) (by decide) ?_
                      refine qx_iconst C (v := 1) dX5_fits_223 rfl ?_
                      refine qx_goto C (tgt := 228) dX5_fits_224 (by decide) ?_
                      refine qx_istore C dX5_fits_228 (Nat.le_of_ble_eq_true rfl) ?_
                      refine qx_iload C dX5_fits_230 rfl ?_
                      refine qx_aload_n C dX5_fits_232 rfl rfl ?_
                      refine qx_getR C (j := 0) (k := 1) hiX5 rfl rfl (by decide) qw_583 rfl dX5_fits_233 ?_
                      refine qx_iconst C (v := 3) dX5_fits_236 rfl ?_
                      refine qx_aload_n C dX5_fits_237 rfl rfl ?_
                      refine qx_getR C (j := 0) (k := 8) hiX5 rfl rfl (by decide) qw_590 rfl dX5_fits_238 ?_
                      refine qx_iload C dX5_fits_241 rfl ?_
                      refine qx_ialdN C (j := 8) rfl ⟨by omega, by decide⟩ dX5_fits_243 ?_
                      refine qx_top eq0 ?_
                      refine qx_imulE C dX5_fits_244 (pk_mul 3 q) ?_
                      refine qx_iconst C (v := 1) dX5_fits_245 rfl ?_
                      refine qx_iaddE C dX5_fits_246 (nI_add (3 * q) 1) ?_
                      refine qx_ialdN C (j := 2) rfl ⟨by omega, by decide⟩ dX5_fits_247 ?_
                      refine qx_iload C dX5_fits_248 rfl ?_
                      refine qx_icmp_ne C (tgt := 268) dX5_fits_250 (by decide) (fun h250 => ?_) (fun h250 => ?_)
                      · refine qx_iconst C (v := 0) dX5_fits_268 rfl ?_
                        refine qx_iadd C dX5_fits_269 ?_
                        refine qx_istore C dX5_fits_270 (Nat.le_of_ble_eq_true rfl) ?_
                        refine qx_iincN C dX5_fits_272 rfl ?_
                        refine qx_goto C (tgt := 88) dX5_fits_275 (by decide) ?_
                        exact (qx_forget 12 (qx_forget 11 (qx_forget 10 (qx_to (hki (lt_s hpi (Or.inr (hbe.mpr ⟨h193, (Or.inr h209), by first | exact Or.inl h215 | exact Or.inr h181⟩)))) rfl (by first | (rw [mWt_b (by rw [eq0]; exact h108) (by rw [jq, ixc, ek]; exact h250)]; first | done | rfl) | (rw [mWt_c (by rw [eq0]; exact h108) (by rw [jq, ixc, ek]; exact h250)]; first | done | rfl))))))
                      · refine qx_aload_n C dX5_fits_253 rfl rfl ?_
                        refine qx_getR C (j := 0) (k := 4) hiX5 rfl rfl (by decide) qw_586 rfl dX5_fits_254 ?_
                        refine qx_bipush C (v := 11) dX5_fits_257 rfl ?_
                        refine qx_iload C dX5_fits_259 rfl ?_
                        refine qx_imulE C dX5_fits_261 (pk_mul 11 i) ?_
                        refine qx_iconst C (v := 2) dX5_fits_262 rfl ?_
                        refine qx_iaddE C dX5_fits_263 (nI_add (11 * i) 2) ?_
                        refine qx_ialdN C (j := 5) rfl ⟨by omega, by decide⟩ dX5_fits_264 ?_
                        refine qx_goto C (tgt := 269) dX5_fits_265 (by decide) ?_
                        refine qx_iadd C dX5_fits_269 ?_
                        refine qx_istore C dX5_fits_270 (Nat.le_of_ble_eq_true rfl) ?_
                        refine qx_iincN C dX5_fits_272 rfl ?_
                        refine qx_goto C (tgt := 88) dX5_fits_275 (by decide) ?_
                        exact (qx_forget 12 (qx_forget 11 (qx_forget 10 (qx_to (hki (lt_s hpi (Or.inr (hbe.mpr ⟨h193, (Or.inr h209), by first | exact Or.inl h215 | exact Or.inr h181⟩)))) rfl (by first | (rw [mWt_b (by rw [eq0]; exact h108) (by rw [jq, ixc, ek]; exact h250)]; first | done | rfl) | (rw [mWt_c (by rw [eq0]; exact h108) (by rw [jq, ixc, ek]; exact h250)]; first | done | rfl))))))
              · refine qx_iconst C (v := 1) dX5_fits_184 rfl ?_
                refine qx_goto C (tgt := 189) dX5_fits_185 (by decide) ?_
                refine qx_istore C dX5_fits_189 (Nat.le_of_ble_eq_true rfl) ?_
                refine qx_iload C dX5_fits_191 rfl ?_
                refine qx_if_le C (tgt := 227) dX5_fits_193 (by decide) (fun h193 => ?_) (fun h193 => ?_)
                · refine qx_iconst C (v := 0) dX5_fits_227 rfl ?_
                  refine qx_istore C dX5_fits_228 (Nat.le_of_ble_eq_true rfl) ?_
                  refine qx_iload C dX5_fits_230 rfl ?_
                  refine qx_aload_n C dX5_fits_232 rfl rfl ?_
                  refine qx_getR C (j := 0) (k := 1) hiX5 rfl rfl (by decide) qw_583 rfl dX5_fits_233 ?_
                  refine qx_iconst C (v := 3) dX5_fits_236 rfl ?_
                  refine qx_aload_n C dX5_fits_237 rfl rfl ?_
                  refine qx_getR C (j := 0) (k := 8) hiX5 rfl rfl (by decide) qw_590 rfl dX5_fits_238 ?_
                  refine qx_iload C dX5_fits_241 rfl ?_
                  refine qx_ialdN C (j := 8) rfl ⟨by omega, by decide⟩ dX5_fits_243 ?_
                  refine qx_top eq0 ?_
                  refine qx_imulE C dX5_fits_244 (pk_mul 3 q) ?_
                  refine qx_iconst C (v := 1) dX5_fits_245 rfl ?_
                  refine qx_iaddE C dX5_fits_246 (nI_add (3 * q) 1) ?_
                  refine qx_ialdN C (j := 2) rfl ⟨by omega, by decide⟩ dX5_fits_247 ?_
                  refine qx_iload C dX5_fits_248 rfl ?_
                  refine qx_icmp_ne C (tgt := 268) dX5_fits_250 (by decide) (fun h250 => ?_) (fun h250 => ?_)
                  · refine qx_iconst C (v := 0) dX5_fits_268 rfl ?_
                    refine qx_iadd C dX5_fits_269 ?_
                    refine qx_istore C dX5_fits_270 (Nat.le_of_ble_eq_true rfl) ?_
                    refine qx_iincN C dX5_fits_272 rfl ?_
                    refine qx_goto C (tgt := 88) dX5_fits_275 (by decide) ?_
                    have hnb : ¬ mBear σ s i := fun z => by have z2 := hbe.mp z; exact z2.1 h193
                    refine qx_iload C dX5_fits_88 rfl ?_
                    refine qx_iload_n C dX5_fits_90 rfl rfl ?_
                    refine qx_icmp_ge C (tgt := 278) dX5_fits_91 (by decide) (fun h91 => ?_) (fun h91 => ?_)
                    · refine qx_iload C dX5_fits_278 rfl ?_
                      refine qx_if_eq_t C (tgt := 301) dX5_fits_280 (by decide) (by decide) ?_
                      refine qx_iconst C (v := 0) dX5_fits_301 rfl ?_
                      exact qx_iret C dX5_fits_302 rfl (if_neg (fun (z : mFits σ s P night) => z.elim (fun e => h18 (ec.symm.trans e)) (fun z => (z.2.1 i hi).elim (fun w => h108 (by rw [eq0] at w; exact w)) (fun w => hnb w)))).symm rfl
                    · refine qx_iload C dX5_fits_94 rfl ?_
                      refine qx_if_eq_t C (tgt := 278) dX5_fits_96 (by decide) (by decide) ?_
                      refine qx_iload C dX5_fits_278 rfl ?_
                      refine qx_if_eq_t C (tgt := 301) dX5_fits_280 (by decide) (by decide) ?_
                      refine qx_iconst C (v := 0) dX5_fits_301 rfl ?_
                      exact qx_iret C dX5_fits_302 rfl (if_neg (fun (z : mFits σ s P night) => z.elim (fun e => h18 (ec.symm.trans e)) (fun z => (z.2.1 i hi).elim (fun w => h108 (by rw [eq0] at w; exact w)) (fun w => hnb w)))).symm rfl
                  · refine qx_aload_n C dX5_fits_253 rfl rfl ?_
                    refine qx_getR C (j := 0) (k := 4) hiX5 rfl rfl (by decide) qw_586 rfl dX5_fits_254 ?_
                    refine qx_bipush C (v := 11) dX5_fits_257 rfl ?_
                    refine qx_iload C dX5_fits_259 rfl ?_
                    refine qx_imulE C dX5_fits_261 (pk_mul 11 i) ?_
                    refine qx_iconst C (v := 2) dX5_fits_262 rfl ?_
                    refine qx_iaddE C dX5_fits_263 (nI_add (11 * i) 2) ?_
                    refine qx_ialdN C (j := 5) rfl ⟨by omega, by decide⟩ dX5_fits_264 ?_
                    refine qx_goto C (tgt := 269) dX5_fits_265 (by decide) ?_
                    refine qx_iadd C dX5_fits_269 ?_
                    refine qx_istore C dX5_fits_270 (Nat.le_of_ble_eq_true rfl) ?_
                    refine qx_iincN C dX5_fits_272 rfl ?_
                    refine qx_goto C (tgt := 88) dX5_fits_275 (by decide) ?_
                    have hnb : ¬ mBear σ s i := fun z => by have z2 := hbe.mp z; exact z2.1 h193
                    refine qx_iload C dX5_fits_88 rfl ?_
                    refine qx_iload_n C dX5_fits_90 rfl rfl ?_
                    refine qx_icmp_ge C (tgt := 278) dX5_fits_91 (by decide) (fun h91 => ?_) (fun h91 => ?_)
                    · refine qx_iload C dX5_fits_278 rfl ?_
                      refine qx_if_eq_t C (tgt := 301) dX5_fits_280 (by decide) (by decide) ?_
                      refine qx_iconst C (v := 0) dX5_fits_301 rfl ?_
                      exact qx_iret C dX5_fits_302 rfl (if_neg (fun (z : mFits σ s P night) => z.elim (fun e => h18 (ec.symm.trans e)) (fun z => (z.2.1 i hi).elim (fun w => h108 (by rw [eq0] at w; exact w)) (fun w => hnb w)))).symm rfl
                    · refine qx_iload C dX5_fits_94 rfl ?_
                      refine qx_if_eq_t C (tgt := 278) dX5_fits_96 (by decide) (by decide) ?_
                      refine qx_iload C dX5_fits_278 rfl ?_
                      refine qx_if_eq_t C (tgt := 301) dX5_fits_280 (by decide) (by decide) ?_
                      refine qx_iconst C (v := 0) dX5_fits_301 rfl ?_
                      exact qx_iret C dX5_fits_302 rfl (if_neg (fun (z : mFits σ s P night) => z.elim (fun e => h18 (ec.symm.trans e)) (fun z => (z.2.1 i hi).elim (fun w => h108 (by rw [eq0] at w; exact w)) (fun w => hnb w)))).symm rfl
                · refine qx_iload C dX5_fits_196 rfl ?_
                  refine qx_if_eq_f C (tgt := 212) dX5_fits_198 (by decide) (by decide) ?_
                  refine qx_iload C dX5_fits_201 rfl ?_
                  refine qx_aload_n C dX5_fits_203 rfl rfl ?_
                  refine qx_getR C (j := 0) (k := 0) hiX5 rfl rfl (by decide) qw_582 rfl dX5_fits_204 ?_
                  refine qx_iconst C (v := 5) dX5_fits_207 rfl ?_
                  refine qx_ialdL C (j := 1) (a := 5) rfl rfl ⟨by decide, by decide⟩ dX5_fits_208 ?_
                  refine qx_icmp_le C (tgt := 227) dX5_fits_209 (by decide) (fun h209 => ?_) (fun h209 => ?_)
                  · refine qx_iconst C (v := 0) dX5_fits_227 rfl ?_
                    refine qx_istore C dX5_fits_228 (Nat.le_of_ble_eq_true rfl) ?_
                    refine qx_iload C dX5_fits_230 rfl ?_
                    refine qx_aload_n C dX5_fits_232 rfl rfl ?_
                    refine qx_getR C (j := 0) (k := 1) hiX5 rfl rfl (by decide) qw_583 rfl dX5_fits_233 ?_
                    refine qx_iconst C (v := 3) dX5_fits_236 rfl ?_
                    refine qx_aload_n C dX5_fits_237 rfl rfl ?_
                    refine qx_getR C (j := 0) (k := 8) hiX5 rfl rfl (by decide) qw_590 rfl dX5_fits_238 ?_
                    refine qx_iload C dX5_fits_241 rfl ?_
                    refine qx_ialdN C (j := 8) rfl ⟨by omega, by decide⟩ dX5_fits_243 ?_
                    refine qx_top eq0 ?_
                    refine qx_imulE C dX5_fits_244 (pk_mul 3 q) ?_
                    refine qx_iconst C (v := 1) dX5_fits_245 rfl ?_
                    refine qx_iaddE C dX5_fits_246 (nI_add (3 * q) 1) ?_
                    refine qx_ialdN C (j := 2) rfl ⟨by omega, by decide⟩ dX5_fits_247 ?_
                    refine qx_iload C dX5_fits_248 rfl ?_
                    refine qx_icmp_ne C (tgt := 268) dX5_fits_250 (by decide) (fun h250 => ?_) (fun h250 => ?_)
                    · refine qx_iconst C (v := 0) dX5_fits_268 rfl ?_
                      refine qx_iadd C dX5_fits_269 ?_
                      refine qx_istore C dX5_fits_270 (Nat.le_of_ble_eq_true rfl) ?_
                      refine qx_iincN C dX5_fits_272 rfl ?_
                      refine qx_goto C (tgt := 88) dX5_fits_275 (by decide) ?_
                      have hnb : ¬ mBear σ s i := fun z => by have z2 := hbe.mp z; exact z2.2.1.elim (fun w => w h141) (fun w => w h209)
                      refine qx_iload C dX5_fits_88 rfl ?_
                      refine qx_iload_n C dX5_fits_90 rfl rfl ?_
                      refine qx_icmp_ge C (tgt := 278) dX5_fits_91 (by decide) (fun h91 => ?_) (fun h91 => ?_)
                      · refine qx_iload C dX5_fits_278 rfl ?_
                        refine qx_if_eq_t C (tgt := 301) dX5_fits_280 (by decide) (by decide) ?_
                        refine qx_iconst C (v := 0) dX5_fits_301 rfl ?_
                        exact qx_iret C dX5_fits_302 rfl (if_neg (fun (z : mFits σ s P night) => z.elim (fun e => h18 (ec.symm.trans e)) (fun z => (z.2.1 i hi).elim (fun w => h108 (by rw [eq0] at w; exact w)) (fun w => hnb w)))).symm rfl
                      · refine qx_iload C dX5_fits_94 rfl ?_
                        refine qx_if_eq_t C (tgt := 278) dX5_fits_96 (by decide) (by decide) ?_
                        refine qx_iload C dX5_fits_278 rfl ?_
                        refine qx_if_eq_t C (tgt := 301) dX5_fits_280 (by decide) (by decide) ?_
                        refine qx_iconst C (v := 0) dX5_fits_301 rfl ?_
                        exact qx_iret C dX5_fits_302 rfl (if_neg (fun (z : mFits σ s P night) => z.elim (fun e => h18 (ec.symm.trans e)) (fun z => (z.2.1 i hi).elim (fun w => h108 (by rw [eq0] at w; exact w)) (fun w => hnb w)))).symm rfl
                    · refine qx_aload_n C dX5_fits_253 rfl rfl ?_
                      refine qx_getR C (j := 0) (k := 4) hiX5 rfl rfl (by decide) qw_586 rfl dX5_fits_254 ?_
                      refine qx_bipush C (v := 11) dX5_fits_257 rfl ?_
                      refine qx_iload C dX5_fits_259 rfl ?_
                      refine qx_imulE C dX5_fits_261 (pk_mul 11 i) ?_
                      refine qx_iconst C (v := 2) dX5_fits_262 rfl ?_
                      refine qx_iaddE C dX5_fits_263 (nI_add (11 * i) 2) ?_
                      refine qx_ialdN C (j := 5) rfl ⟨by omega, by decide⟩ dX5_fits_264 ?_
                      refine qx_goto C (tgt := 269) dX5_fits_265 (by decide) ?_
                      refine qx_iadd C dX5_fits_269 ?_
                      refine qx_istore C dX5_fits_270 (Nat.le_of_ble_eq_true rfl) ?_
                      refine qx_iincN C dX5_fits_272 rfl ?_
                      refine qx_goto C (tgt := 88) dX5_fits_275 (by decide) ?_
                      have hnb : ¬ mBear σ s i := fun z => by have z2 := hbe.mp z; exact z2.2.1.elim (fun w => w h141) (fun w => w h209)
                      refine qx_iload C dX5_fits_88 rfl ?_
                      refine qx_iload_n C dX5_fits_90 rfl rfl ?_
                      refine qx_icmp_ge C (tgt := 278) dX5_fits_91 (by decide) (fun h91 => ?_) (fun h91 => ?_)
                      · refine qx_iload C dX5_fits_278 rfl ?_
                        refine qx_if_eq_t C (tgt := 301) dX5_fits_280 (by decide) (by decide) ?_
                        refine qx_iconst C (v := 0) dX5_fits_301 rfl ?_
                        exact qx_iret C dX5_fits_302 rfl (if_neg (fun (z : mFits σ s P night) => z.elim (fun e => h18 (ec.symm.trans e)) (fun z => (z.2.1 i hi).elim (fun w => h108 (by rw [eq0] at w; exact w)) (fun w => hnb w)))).symm rfl
                      · refine qx_iload C dX5_fits_94 rfl ?_
                        refine qx_if_eq_t C (tgt := 278) dX5_fits_96 (by decide) (by decide) ?_
                        refine qx_iload C dX5_fits_278 rfl ?_
                        refine qx_if_eq_t C (tgt := 301) dX5_fits_280 (by decide) (by decide) ?_
                        refine qx_iconst C (v := 0) dX5_fits_301 rfl ?_
                        exact qx_iret C dX5_fits_302 rfl (if_neg (fun (z : mFits σ s P night) => z.elim (fun e => h18 (ec.symm.trans e)) (fun z => (z.2.1 i hi).elim (fun w => h108 (by rw [eq0] at w; exact w)) (fun w => hnb w)))).symm rfl
                  · refine qx_iload C dX5_fits_212 rfl ?_
                    refine qx_iconst C (v := 1) dX5_fits_214 rfl ?_
                    refine qx_icmp_gt C (tgt := 223) dX5_fits_215 (by decide) (fun h215 => ?_) (fun h215 => ?_)
                    · refine qx_iconst C (v := 1) dX5_fits_223 rfl ?_
                      refine qx_goto C (tgt := 228) dX5_fits_224 (by decide) ?_
                      refine qx_istore C dX5_fits_228 (Nat.le_of_ble_eq_true rfl) ?_
                      refine qx_iload C dX5_fits_230 rfl ?_
                      refine qx_aload_n C dX5_fits_232 rfl rfl ?_
                      refine qx_getR C (j := 0) (k := 1) hiX5 rfl rfl (by decide) qw_583 rfl dX5_fits_233 ?_
                      refine qx_iconst C (v := 3) dX5_fits_236 rfl ?_
                      refine qx_aload_n C dX5_fits_237 rfl rfl ?_
                      refine qx_getR C (j := 0) (k := 8) hiX5 rfl rfl (by decide) qw_590 rfl dX5_fits_238 ?_
                      refine qx_iload C dX5_fits_241 rfl ?_
                      refine qx_ialdN C (j := 8) rfl ⟨by omega, by decide⟩ dX5_fits_243 ?_
                      refine qx_top eq0 ?_
                      refine qx_imulE C dX5_fits_244 (pk_mul 3 q) ?_
                      refine qx_iconst C (v := 1) dX5_fits_245 rfl ?_
                      refine qx_iaddE C dX5_fits_246 (nI_add (3 * q) 1) ?_
                      refine qx_ialdN C (j := 2) rfl ⟨by omega, by decide⟩ dX5_fits_247 ?_
                      refine qx_iload C dX5_fits_248 rfl ?_
                      refine qx_icmp_ne C (tgt := 268) dX5_fits_250 (by decide) (fun h250 => ?_) (fun h250 => ?_)
                      · refine qx_iconst C (v := 0) dX5_fits_268 rfl ?_
                        refine qx_iadd C dX5_fits_269 ?_
                        refine qx_istore C dX5_fits_270 (Nat.le_of_ble_eq_true rfl) ?_
                        refine qx_iincN C dX5_fits_272 rfl ?_
                        refine qx_goto C (tgt := 88) dX5_fits_275 (by decide) ?_
                        exact (qx_forget 12 (qx_forget 11 (qx_forget 10 (qx_to (hki (lt_s hpi (Or.inr (hbe.mpr ⟨h193, (Or.inr h209), by first | exact Or.inl h215 | exact Or.inr h181⟩)))) rfl (by first | (rw [mWt_b (by rw [eq0]; exact h108) (by rw [jq, ixc, ek]; exact h250)]; first | done | rfl) | (rw [mWt_c (by rw [eq0]; exact h108) (by rw [jq, ixc, ek]; exact h250)]; first | done | rfl))))))
                      · refine qx_aload_n C dX5_fits_253 rfl rfl ?_
                        refine qx_getR C (j := 0) (k := 4) hiX5 rfl rfl (by decide) qw_586 rfl dX5_fits_254 ?_
                        refine qx_bipush C (v := 11) dX5_fits_257 rfl ?_
                        refine qx_iload C dX5_fits_259 rfl ?_
                        refine qx_imulE C dX5_fits_261 (pk_mul 11 i) ?_
                        refine qx_iconst C (v := 2) dX5_fits_262 rfl ?_
                        refine qx_iaddE C dX5_fits_263 (nI_add (11 * i) 2) ?_
                        refine qx_ialdN C (j := 5) rfl ⟨by omega, by decide⟩ dX5_fits_264 ?_
                        refine qx_goto C (tgt := 269) dX5_fits_265 (by decide) ?_
                        refine qx_iadd C dX5_fits_269 ?_
                        refine qx_istore C dX5_fits_270 (Nat.le_of_ble_eq_true rfl) ?_
                        refine qx_iincN C dX5_fits_272 rfl ?_
                        refine qx_goto C (tgt := 88) dX5_fits_275 (by decide) ?_
                        exact (qx_forget 12 (qx_forget 11 (qx_forget 10 (qx_to (hki (lt_s hpi (Or.inr (hbe.mpr ⟨h193, (Or.inr h209), by first | exact Or.inl h215 | exact Or.inr h181⟩)))) rfl (by first | (rw [mWt_b (by rw [eq0]; exact h108) (by rw [jq, ixc, ek]; exact h250)]; first | done | rfl) | (rw [mWt_c (by rw [eq0]; exact h108) (by rw [jq, ixc, ek]; exact h250)]; first | done | rfl))))))
                    · refine qx_iload C dX5_fits_218 rfl ?_
                      refine qx_if_ne_t C (tgt := 227) dX5_fits_220 (by decide) (by decide) ?_
                      refine qx_iconst C (v := 0) dX5_fits_227 rfl ?_
                      refine qx_istore C dX5_fits_228 (Nat.le_of_ble_eq_true rfl) ?_
                      refine qx_iload C dX5_fits_230 rfl ?_
                      refine qx_aload_n C dX5_fits_232 rfl rfl ?_
                      refine qx_getR C (j := 0) (k := 1) hiX5 rfl rfl (by decide) qw_583 rfl dX5_fits_233 ?_
                      refine qx_iconst C (v := 3) dX5_fits_236 rfl ?_
                      refine qx_aload_n C dX5_fits_237 rfl rfl ?_
                      refine qx_getR C (j := 0) (k := 8) hiX5 rfl rfl (by decide) qw_590 rfl dX5_fits_238 ?_
                      refine qx_iload C dX5_fits_241 rfl ?_
                      refine qx_ialdN C (j := 8) rfl ⟨by omega, by decide⟩ dX5_fits_243 ?_
                      refine qx_top eq0 ?_
                      refine qx_imulE C dX5_fits_244 (pk_mul 3 q) ?_
                      refine qx_iconst C (v := 1) dX5_fits_245 rfl ?_
                      refine qx_iaddE C dX5_fits_246 (nI_add (3 * q) 1) ?_
                      refine qx_ialdN C (j := 2) rfl ⟨by omega, by decide⟩ dX5_fits_247 ?_
                      refine qx_iload C dX5_fits_248 rfl ?_
                      refine qx_icmp_ne C (tgt := 268) dX5_fits_250 (by decide) (fun h250 => ?_) (fun h250 => ?_)
                      · refine qx_iconst C (v := 0) dX5_fits_268 rfl ?_
                        refine qx_iadd C dX5_fits_269 ?_
                        refine qx_istore C dX5_fits_270 (Nat.le_of_ble_eq_true rfl) ?_
                        refine qx_iincN C dX5_fits_272 rfl ?_
                        refine qx_goto C (tgt := 88) dX5_fits_275 (by decide) ?_
                        have hnb : ¬ mBear σ s i := fun z => by have z2 := hbe.mp z; exact z2.2.2.elim (fun w => h215 w) (fun w => w h181)
                        refine qx_iload C dX5_fits_88 rfl ?_
                        refine qx_iload_n C dX5_fits_90 rfl rfl ?_
                        refine qx_icmp_ge C (tgt := 278) dX5_fits_91 (by decide) (fun h91 => ?_) (fun h91 => ?_)
                        · refine qx_iload C dX5_fits_278 rfl ?_
                          refine qx_if_eq_t C (tgt := 301) dX5_fits_280 (by decide) (by decide) ?_
                          refine qx_iconst C (v := 0) dX5_fits_301 rfl ?_
                          exact qx_iret C dX5_fits_302 rfl (if_neg (fun (z : mFits σ s P night) => z.elim (fun e => h18 (ec.symm.trans e)) (fun z => (z.2.1 i hi).elim (fun w => h108 (by rw [eq0] at w; exact w)) (fun w => hnb w)))).symm rfl
                        · refine qx_iload C dX5_fits_94 rfl ?_
                          refine qx_if_eq_t C (tgt := 278) dX5_fits_96 (by decide) (by decide) ?_
                          refine qx_iload C dX5_fits_278 rfl ?_
                          refine qx_if_eq_t C (tgt := 301) dX5_fits_280 (by decide) (by decide) ?_
                          refine qx_iconst C (v := 0) dX5_fits_301 rfl ?_
                          exact qx_iret C dX5_fits_302 rfl (if_neg (fun (z : mFits σ s P night) => z.elim (fun e => h18 (ec.symm.trans e)) (fun z => (z.2.1 i hi).elim (fun w => h108 (by rw [eq0] at w; exact w)) (fun w => hnb w)))).symm rfl
                      · refine qx_aload_n C dX5_fits_253 rfl rfl ?_
                        refine qx_getR C (j := 0) (k := 4) hiX5 rfl rfl (by decide) qw_586 rfl dX5_fits_254 ?_
                        refine qx_bipush C (v := 11) dX5_fits_257 rfl ?_
                        refine qx_iload C dX5_fits_259 rfl ?_
                        refine qx_imulE C dX5_fits_261 (pk_mul 11 i) ?_
                        refine qx_iconst C (v := 2) dX5_fits_262 rfl ?_
                        refine qx_iaddE C dX5_fits_263 (nI_add (11 * i) 2) ?_
                        refine qx_ialdN C (j := 5) rfl ⟨by omega, by decide⟩ dX5_fits_264 ?_
                        refine qx_goto C (tgt := 269) dX5_fits_265 (by decide) ?_
                        refine qx_iadd C dX5_fits_269 ?_
                        refine qx_istore C dX5_fits_270 (Nat.le_of_ble_eq_true rfl) ?_
                        refine qx_iincN C dX5_fits_272 rfl ?_
                        refine qx_goto C (tgt := 88) dX5_fits_275 (by decide) ?_
                        have hnb : ¬ mBear σ s i := fun z => by have z2 := hbe.mp z; exact z2.2.2.elim (fun w => h215 w) (fun w => w h181)
                        refine qx_iload C dX5_fits_88 rfl ?_
                        refine qx_iload_n C dX5_fits_90 rfl rfl ?_
                        refine qx_icmp_ge C (tgt := 278) dX5_fits_91 (by decide) (fun h91 => ?_) (fun h91 => ?_)
                        · refine qx_iload C dX5_fits_278 rfl ?_
                          refine qx_if_eq_t C (tgt := 301) dX5_fits_280 (by decide) (by decide) ?_
                          refine qx_iconst C (v := 0) dX5_fits_301 rfl ?_
                          exact qx_iret C dX5_fits_302 rfl (if_neg (fun (z : mFits σ s P night) => z.elim (fun e => h18 (ec.symm.trans e)) (fun z => (z.2.1 i hi).elim (fun w => h108 (by rw [eq0] at w; exact w)) (fun w => hnb w)))).symm rfl
                        · refine qx_iload C dX5_fits_94 rfl ?_
                          refine qx_if_eq_t C (tgt := 278) dX5_fits_96 (by decide) (by decide) ?_
                          refine qx_iload C dX5_fits_278 rfl ?_
                          refine qx_if_eq_t C (tgt := 301) dX5_fits_280 (by decide) (by decide) ?_
                          refine qx_iconst C (v := 0) dX5_fits_301 rfl ?_
                          exact qx_iret C dX5_fits_302 rfl (if_neg (fun (z : mFits σ s P night) => z.elim (fun e => h18 (ec.symm.trans e)) (fun z => (z.2.1 i hi).elim (fun w => h108 (by rw [eq0] at w; exact w)) (fun w => hnb w)))).symm rfl
        · refine qx_iload C dX5_fits_88 rfl ?_
          refine qx_iload_n C dX5_fits_90 rfl rfl ?_
          refine qx_icmp_ge_t C (tgt := 278) dX5_fits_91 (by decide) (nI_le (Nat.le_refl _) (by omega)) ?_
          refine qx_iload C dX5_fits_278 rfl ?_
          refine qx_if_eq_f C (tgt := 301) dX5_fits_280 (by decide) (by decide) ?_
          refine qx_iload C dX5_fits_283 rfl ?_
          refine qx_aload_n C dX5_fits_285 rfl rfl ?_
          refine qx_getR C (j := 0) (k := 2) hiX5 rfl rfl (by decide) qw_584 rfl dX5_fits_286 ?_
          refine qx_iconst C (v := 3) dX5_fits_289 rfl ?_
          refine qx_iload C dX5_fits_290 rfl ?_
          refine qx_imulE C dX5_fits_292 (pk_mul 3 k) ?_
          refine qx_ialdN C (j := 3) rfl ⟨by omega, by decide⟩ dX5_fits_293 ?_
          refine qx_icmp_gt C (tgt := 301) dX5_fits_294 (by decide) (fun h294 => ?_) (fun h294 => ?_)
          · refine qx_iconst C (v := 0) dX5_fits_301 rfl ?_
            exact qx_iret C dX5_fits_302 rfl (if_neg (fun (z : mFits σ s P night) => z.elim (fun e => h18 (ec.symm.trans e)) (fun z => z.2.2 (by rw [ixk]; exact h294)))).symm rfl
          · refine qx_iconst C (v := 1) dX5_fits_297 rfl ?_
            refine qx_goto C (tgt := 302) dX5_fits_298 (by decide) ?_
            exact qx_iret C dX5_fits_302 rfl (if_pos (Or.inr ⟨⟨h39, by rw [ixc]; exact h52⟩, hpi, by rw [ixk]; exact h294⟩)).symm rfl
  · refine qx_iconst C (v := 1) dX5_fits_21 rfl ?_
    exact qx_iret C dX5_fits_22 rfl (if_pos (Or.inl (ec.trans h18))).symm rfl
def mWo (σ : qx_S) (P i : Nat) : Int32 := qf (fun s a => a + (if nI P ≤ σ 8 s then 0 else σ 2 (3 * ix (σ 8 s)))) 0 i
def mMa (σ : qx_S) (P i : Nat) : Int32 := qf (fun s a => a + (if nI P ≤ σ 8 s then 0 else 1)) 0 i
abbrev mBet (σ : qx_S) (w m : Int32) : Prop := σ 0 10 < w ∨ (w = σ 0 10 ∧ ¬ m ≤ σ 0 11)
def mCpy (σ : qx_S) (w m : Int32) (i : Nat) : qx_S := qf (fun s τ => qs τ 9 s (τ 8 s)) (qs (qs σ 0 10 w) 0 11 m) i
def mTakes (σ : qx_S) (P S : Nat) : qx_S := if mBet σ (mWo σ P S) (mMa σ P S) then mCpy σ (mWo σ P S) (mMa σ P S) 5 else σ
theorem mWo_a {σ : qx_S} {P i : Nat} (h : nI P ≤ σ 8 i) : mWo σ P (i + 1) = mWo σ P i + 0 ∧ mMa σ P (i + 1) = mMa σ P i + 0 := ⟨congrArg (mWo σ P i + ·) (if_pos h), congrArg (mMa σ P i + ·) (if_pos h)⟩
theorem mWo_b {σ : qx_S} {P i : Nat} (h : ¬ nI P ≤ σ 8 i) : mWo σ P (i + 1) = mWo σ P i + σ 2 (3 * ix (σ 8 i)) ∧ mMa σ P (i + 1) = mMa σ P i + 1 := ⟨congrArg (mWo σ P i + ·) (if_neg h), congrArg (mMa σ P i + ·) (if_neg h)⟩
set_option maxRecDepth 20000 in
set_option maxHeartbeats 4000000 in
theorem c_X5_takes (F : qx_F) (d : Nat) (σ : qx_S) (P S : Nat) (hw : mS σ P S) (hch : ∀ o, o < S → ∃ q, q ≤ 8 ∧ σ 8 o = nI q) : qx_cV F shM ⟨"NightStallsModel", "takes", "()V"⟩ (.code ⟨"NightStallsModel", "takes", "()V"⟩ prog_7_method_20_code 5 ((none : Option FieldType)) :: qx_W) (qx_R (d + 1)) [.ref (fa F 0)] σ (mTakes σ P S) := by
  refine qx_met (by decide) (Nat.le_of_ble_eq_true rfl) (by intro v hv; simp only [List.mem_cons, List.not_mem_nil, or_false] at hv; rcases hv with rfl <;> rfl) (fun K C => ?_)
  have hP8 := hw.1.2
  have hS5 := hw.2.1.2
  refine qx_iconst C (v := 0) dX5_takes_0 rfl ?_
  refine qx_istore_n C dX5_takes_1 rfl (Nat.le_of_ble_eq_true rfl) ?_
  refine qx_iconst C (v := 0) dX5_takes_2 rfl ?_
  refine qx_istore_n C dX5_takes_3 rfl (Nat.le_of_ble_eq_true rfl) ?_
  refine qx_iconst C (v := 0) dX5_takes_4 rfl ?_
  refine qx_istore_n C dX5_takes_5 rfl (Nat.le_of_ble_eq_true rfl) ?_
  refine qx_to (qx_up S (P := fun i => qx_X K F shM (σ) 6 [some (.ref (fa F 0)), some (.int (mWo σ P i)), some (.int (mMa σ P i)), some (.int (nI i)), none] []) (fun i hi hki => ?_) ?_) rfl rfl
  · obtain ⟨q, hq, eq0⟩ := hch i hi
    have iq : (nI q).toNatClampNeg = q := nI_clamp (by omega)
    have jq : ix (σ 8 i) = q := by rw [eq0]; exact iq
    refine qx_iload_n C dX5_takes_6 rfl rfl ?_
    refine qx_aload_n C dX5_takes_7 rfl rfl ?_
    refine qx_getR C (j := 0) (k := 0) hiX5 rfl rfl (by decide) qw_582 rfl dX5_takes_8 ?_
    refine qx_iconst C (v := 1) dX5_takes_11 rfl ?_
    refine qx_ialdL C (j := 1) (a := 1) rfl rfl ⟨by decide, by decide⟩ dX5_takes_12 ?_
    refine qx_icmp_ge_f C (tgt := 82) dX5_takes_13 (by decide) (by rw [hw.2.1.1]; exact nI_ge hi (by omega)) ?_
    refine qx_aload_n C dX5_takes_16 rfl rfl ?_
    refine qx_getR C (j := 0) (k := 8) hiX5 rfl rfl (by decide) qw_590 rfl dX5_takes_17 ?_
    refine qx_iload_n C dX5_takes_20 rfl rfl ?_
    refine qx_ialdN C (j := 8) rfl ⟨by omega, by decide⟩ dX5_takes_21 ?_
    refine qx_top eq0 ?_
    refine qx_aload_n C dX5_takes_22 rfl rfl ?_
    refine qx_getR C (j := 0) (k := 0) hiX5 rfl rfl (by decide) qw_582 rfl dX5_takes_23 ?_
    refine qx_iconst C (v := 0) dX5_takes_26 rfl ?_
    refine qx_ialdL C (j := 1) (a := 0) rfl rfl ⟨by decide, by decide⟩ dX5_takes_27 ?_
    refine qx_top hw.1.1 ?_
    refine qx_icmp_ge C (tgt := 35) dX5_takes_28 (by decide) (fun h28 => ?_) (fun h28 => ?_)
    · refine qx_iconst C (v := 0) dX5_takes_35 rfl ?_
      refine qx_istore C dX5_takes_36 (Nat.le_of_ble_eq_true rfl) ?_
      refine qx_iload_n C dX5_takes_38 rfl rfl ?_
      refine qx_iload C dX5_takes_39 rfl ?_
      refine qx_if_eq_t C (tgt := 60) dX5_takes_41 (by decide) (by decide) ?_
      refine qx_iconst C (v := 0) dX5_takes_60 rfl ?_
      refine qx_iadd C dX5_takes_61 ?_
      refine qx_istore_n C dX5_takes_62 rfl (Nat.le_of_ble_eq_true rfl) ?_
      refine qx_iload_n C dX5_takes_63 rfl rfl ?_
      refine qx_iload C dX5_takes_64 rfl ?_
      refine qx_if_eq_t C (tgt := 73) dX5_takes_66 (by decide) (by decide) ?_
      refine qx_iconst C (v := 0) dX5_takes_73 rfl ?_
      refine qx_iadd C dX5_takes_74 ?_
      refine qx_istore_n C dX5_takes_75 rfl (Nat.le_of_ble_eq_true rfl) ?_
      refine qx_iincN C dX5_takes_76 rfl ?_
      refine qx_goto C (tgt := 6) dX5_takes_79 (by decide) ?_
      exact (qx_forget 4 (qx_to hki rfl (by first | (rw [(mWo_a (by rw [eq0]; exact h28)).1, (mWo_a (by rw [eq0]; exact h28)).2]; first | done | rfl) | (rw [(mWo_b (by rw [eq0]; exact h28)).1, (mWo_b (by rw [eq0]; exact h28)).2, jq]; first | done | rfl))))
    · have hqP : q < P := by rcases Nat.lt_or_ge q P with z | z; exact z; exact absurd (nI_le z (by omega)) h28
      refine qx_iconst C (v := 1) dX5_takes_31 rfl ?_
      refine qx_goto C (tgt := 36) dX5_takes_32 (by decide) ?_
      refine qx_istore C dX5_takes_36 (Nat.le_of_ble_eq_true rfl) ?_
      refine qx_iload_n C dX5_takes_38 rfl rfl ?_
      refine qx_iload C dX5_takes_39 rfl ?_
      refine qx_if_eq_f C (tgt := 60) dX5_takes_41 (by decide) (by decide) ?_
      refine qx_aload_n C dX5_takes_44 rfl rfl ?_
      refine qx_getR C (j := 0) (k := 1) hiX5 rfl rfl (by decide) qw_583 rfl dX5_takes_45 ?_
      refine qx_iconst C (v := 3) dX5_takes_48 rfl ?_
      refine qx_aload_n C dX5_takes_49 rfl rfl ?_
      refine qx_getR C (j := 0) (k := 8) hiX5 rfl rfl (by decide) qw_590 rfl dX5_takes_50 ?_
      refine qx_iload_n C dX5_takes_53 rfl rfl ?_
      refine qx_ialdN C (j := 8) rfl ⟨by omega, by decide⟩ dX5_takes_54 ?_
      refine qx_top eq0 ?_
      refine qx_imulE C dX5_takes_55 (pk_mul 3 q) ?_
      refine qx_ialdN C (j := 2) rfl ⟨by omega, by decide⟩ dX5_takes_56 ?_
      refine qx_goto C (tgt := 61) dX5_takes_57 (by decide) ?_
      refine qx_iadd C dX5_takes_61 ?_
      refine qx_istore_n C dX5_takes_62 rfl (Nat.le_of_ble_eq_true rfl) ?_
      refine qx_iload_n C dX5_takes_63 rfl rfl ?_
      refine qx_iload C dX5_takes_64 rfl ?_
      refine qx_if_eq_f C (tgt := 73) dX5_takes_66 (by decide) (by decide) ?_
      refine qx_iconst C (v := 1) dX5_takes_69 rfl ?_
      refine qx_goto C (tgt := 74) dX5_takes_70 (by decide) ?_
      refine qx_iadd C dX5_takes_74 ?_
      refine qx_istore_n C dX5_takes_75 rfl (Nat.le_of_ble_eq_true rfl) ?_
      refine qx_iincN C dX5_takes_76 rfl ?_
      refine qx_goto C (tgt := 6) dX5_takes_79 (by decide) ?_
      exact (qx_forget 4 (qx_to hki rfl (by first | (rw [(mWo_a (by rw [eq0]; exact h28)).1, (mWo_a (by rw [eq0]; exact h28)).2]; first | done | rfl) | (rw [(mWo_b (by rw [eq0]; exact h28)).1, (mWo_b (by rw [eq0]; exact h28)).2, jq]; first | done | rfl))))
  · refine qx_iload_n C dX5_takes_6 rfl rfl ?_
    refine qx_aload_n C dX5_takes_7 rfl rfl ?_
    refine qx_getR C (j := 0) (k := 0) hiX5 rfl rfl (by decide) qw_582 rfl dX5_takes_8 ?_
    refine qx_iconst C (v := 1) dX5_takes_11 rfl ?_
    refine qx_ialdL C (j := 1) (a := 1) rfl rfl ⟨by decide, by decide⟩ dX5_takes_12 ?_
    refine qx_icmp_ge_t C (tgt := 82) dX5_takes_13 (by decide) (by rw [hw.2.1.1]; exact nI_le (Nat.le_refl _) (by omega)) ?_
    refine qx_iload_n C dX5_takes_82 rfl rfl ?_
    refine qx_aload_n C dX5_takes_83 rfl rfl ?_
    refine qx_getI C (j := 0) (k := 10) hiX5 rfl rfl (by decide) qw_592 rfl dX5_takes_84 ?_
    refine qx_icmp_gt C (tgt := 106) dX5_takes_87 (by decide) (fun h87 => ?_) (fun h87 => ?_)
    · refine qx_aload_n C dX5_takes_106 rfl rfl ?_
      refine qx_iload_n C dX5_takes_107 rfl rfl ?_
      refine qx_put C (j := 0) (k := 10) hiX5 rfl rfl (by decide) tyX5 tyX5_ok nmX5 qw_592 rfl rfl rfl rfl dX5_takes_108 ?_
      refine qx_aload_n C dX5_takes_111 rfl rfl ?_
      refine qx_iload_n C dX5_takes_112 rfl rfl ?_
      refine qx_put C (j := 0) (k := 11) hiX5 rfl rfl (by decide) tyX5 tyX5_ok nmX5 qw_593 rfl rfl rfl rfl dX5_takes_113 ?_
      refine qx_iconst C (v := 0) dX5_takes_116 rfl ?_
      refine qx_istore_n C dX5_takes_117 rfl (Nat.le_of_ble_eq_true rfl) ?_
      refine qx_to (qx_up 5 (P := fun i => qx_X K F shM (mCpy σ (mWo σ P S) (mMa σ P S) i) 118 [some (.ref (fa F 0)), some (.int (mWo σ P S)), some (.int (mMa σ P S)), some (.int (nI i)), none] []) (fun i hi hki => ?_) ?_) rfl rfl
      · refine qx_iload_n C dX5_takes_118 rfl rfl ?_
        refine qx_iconst C (v := 5) dX5_takes_119 rfl ?_
        refine qx_icmp_ge_f C (tgt := 141) dX5_takes_120 (by decide) (nI_ge (b := 5) hi (by decide)) ?_
        refine qx_aload_n C dX5_takes_123 rfl rfl ?_
        refine qx_getR C (j := 0) (k := 9) hiX5 rfl rfl (by decide) qw_591 rfl dX5_takes_124 ?_
        refine qx_iload_n C dX5_takes_127 rfl rfl ?_
        refine qx_aload_n C dX5_takes_128 rfl rfl ?_
        refine qx_getR C (j := 0) (k := 8) hiX5 rfl rfl (by decide) qw_590 rfl dX5_takes_129 ?_
        refine qx_iload_n C dX5_takes_132 rfl rfl ?_
        refine qx_ialdN C (j := 8) rfl ⟨by omega, by decide⟩ dX5_takes_133 ?_
        refine qx_iastN C (j := 9) rfl ⟨by omega, by decide⟩ dX5_takes_134 ?_
        refine qx_iincN C dX5_takes_135 rfl ?_
        refine qx_goto C (tgt := 118) dX5_takes_138 (by decide) ?_
        exact (qx_to hki rfl rfl)
      · refine qx_iload_n C dX5_takes_118 rfl rfl ?_
        refine qx_iconst C (v := 5) dX5_takes_119 rfl ?_
        refine qx_icmp_ge_t C (tgt := 141) dX5_takes_120 (by decide) (nI_le (a := 5) (b := 5) (Nat.le_refl _) (by decide)) ?_
        exact qx_vret C dX5_takes_141 (by unfold mTakes; rw [if_pos (Or.inl h87)])
    · refine qx_iload_n C dX5_takes_90 rfl rfl ?_
      refine qx_aload_n C dX5_takes_91 rfl rfl ?_
      refine qx_getI C (j := 0) (k := 10) hiX5 rfl rfl (by decide) qw_592 rfl dX5_takes_92 ?_
      refine qx_icmp_ne C (tgt := 141) dX5_takes_95 (by decide) (fun h95 => ?_) (fun h95 => ?_)
      · exact qx_vret C dX5_takes_141 (by unfold mTakes; rw [if_neg (not_or.mpr ⟨h87, mt And.left h95⟩)])
      · refine qx_iload_n C dX5_takes_98 rfl rfl ?_
        refine qx_aload_n C dX5_takes_99 rfl rfl ?_
        refine qx_getI C (j := 0) (k := 11) hiX5 rfl rfl (by decide) qw_593 rfl dX5_takes_100 ?_
        refine qx_icmp_le C (tgt := 141) dX5_takes_103 (by decide) (fun h103 => ?_) (fun h103 => ?_)
        · exact qx_vret C dX5_takes_141 (by unfold mTakes; rw [if_neg (not_or.mpr ⟨h87, fun z => z.2 h103⟩)])
        · refine qx_aload_n C dX5_takes_106 rfl rfl ?_
          refine qx_iload_n C dX5_takes_107 rfl rfl ?_
          refine qx_put C (j := 0) (k := 10) hiX5 rfl rfl (by decide) tyX5 tyX5_ok nmX5 qw_592 rfl rfl rfl rfl dX5_takes_108 ?_
          refine qx_aload_n C dX5_takes_111 rfl rfl ?_
          refine qx_iload_n C dX5_takes_112 rfl rfl ?_
          refine qx_put C (j := 0) (k := 11) hiX5 rfl rfl (by decide) tyX5 tyX5_ok nmX5 qw_593 rfl rfl rfl rfl dX5_takes_113 ?_
          refine qx_iconst C (v := 0) dX5_takes_116 rfl ?_
          refine qx_istore_n C dX5_takes_117 rfl (Nat.le_of_ble_eq_true rfl) ?_
          refine qx_to (qx_up 5 (P := fun i => qx_X K F shM (mCpy σ (mWo σ P S) (mMa σ P S) i) 118 [some (.ref (fa F 0)), some (.int (mWo σ P S)), some (.int (mMa σ P S)), some (.int (nI i)), none] []) (fun i hi hki => ?_) ?_) rfl rfl
          · refine qx_iload_n C dX5_takes_118 rfl rfl ?_
            refine qx_iconst C (v := 5) dX5_takes_119 rfl ?_
            refine qx_icmp_ge_f C (tgt := 141) dX5_takes_120 (by decide) (nI_ge (b := 5) hi (by decide)) ?_
            refine qx_aload_n C dX5_takes_123 rfl rfl ?_
            refine qx_getR C (j := 0) (k := 9) hiX5 rfl rfl (by decide) qw_591 rfl dX5_takes_124 ?_
            refine qx_iload_n C dX5_takes_127 rfl rfl ?_
            refine qx_aload_n C dX5_takes_128 rfl rfl ?_
            refine qx_getR C (j := 0) (k := 8) hiX5 rfl rfl (by decide) qw_590 rfl dX5_takes_129 ?_
            refine qx_iload_n C dX5_takes_132 rfl rfl ?_
            refine qx_ialdN C (j := 8) rfl ⟨by omega, by decide⟩ dX5_takes_133 ?_
            refine qx_iastN C (j := 9) rfl ⟨by omega, by decide⟩ dX5_takes_134 ?_
            refine qx_iincN C dX5_takes_135 rfl ?_
            refine qx_goto C (tgt := 118) dX5_takes_138 (by decide) ?_
            exact (qx_to hki rfl rfl)
          · refine qx_iload_n C dX5_takes_118 rfl rfl ?_
            refine qx_iconst C (v := 5) dX5_takes_119 rfl ?_
            refine qx_icmp_ge_t C (tgt := 141) dX5_takes_120 (by decide) (nI_le (a := 5) (b := 5) (Nat.le_refl _) (by decide)) ?_
            exact qx_vret C dX5_takes_141 (by unfold mTakes; rw [if_pos (Or.inr ⟨h95, h103⟩)])
