theorem qf_cell {f : Nat → qx_S → qx_S} {j : Nat} (h : ∀ k τ, f k τ j = τ j) (σ : qx_S) : ∀ i, qf f σ i j = σ j
  | 0 => rfl
  | i + 1 => by rw [qf, h, qf_cell h σ i]
def gAdd (σ : qx_S) (n : Nat) (dish pat : Int32) : qx_S := qs (qs (qs (qs (qs (qs (qs σ 14 0 (nI (n + 1))) 15 n 0) 16 n 0) 17 n pat) 18 n dish) 19 n (-4)) 20 n (-4)
def gFact (σ : qx_S) (g : Nat) (what : Int32) : Int32 := if what = 0 then σ 15 g else if what = 1 then σ 16 g else if what = 2 then σ 17 g else if what = 3 then σ 18 g else if what = 4 then σ 19 g else -1
def gOf (σ : qx_S) (w : Int32) (n : Nat) : Int32 := qf (fun g a => if σ 15 g = w then a + 1 else a) 0 n
def gAt (σ : qx_S) (w : Int32) (n : Nat) : Int32 := qf (fun g a => if σ 19 g = w ∧ (σ 15 g = 1 ∨ σ 15 g = 2) then a + 1 else a) 0 n
def gFirst (σ : qx_S) (w st : Int32) (n : Nat) : Option Nat := (List.range n).find? (fun g => decide (σ 19 g = w ∧ σ 15 g = st))
def gQueue (σ : qx_S) (g : Nat) (w : Int32) : qx_S := qs (qs σ 15 g 1) 19 g w
def gStep (σ : qx_S) (g : Nat) (P : Int32) : qx_S := if qs σ 16 g (σ 16 g + 1) 16 g < P then qs σ 16 g (σ 16 g + 1) else qs (qs (qs σ 16 g (σ 16 g + 1)) 15 g 5) 16 g (-4)
def gFeed (σ : qx_S) (o : Option Nat) (t : Int32) : qx_S := match o with
  | none => σ
  | some g => qs (qs (qs σ 15 g 3) 16 g (-4)) 20 g t
def gLose (g : Nat) (σ : qx_S) : qx_S := if σ 15 g = 1 then (if qs σ 17 g (σ 17 g - 1) 17 g = 0 then qs (qs (qs (qs σ 17 g (σ 17 g - 1)) 15 g 4) 16 g (-4)) 19 g (-4) else qs σ 17 g (σ 17 g - 1)) else σ
def gSell (σ : qx_S) (w fr to_ : Int32) (n : Nat) : Int32 := qf (fun g a => if σ 15 g = 3 ∧ σ 18 g = w ∧ ¬ σ 20 g < fr ∧ ¬ to_ < σ 20 g then a ||| ((1 : Int32) <<< (σ 19 g &&& 31)) else a) 0 n
theorem gLose_14 (σ : qx_S) (i : Nat) : qf gLose σ i 14 0 = σ 14 0 := by
  rw [qf_cell (j := 14) (fun k τ => ?_) σ i]
  unfold gLose
  split
  · split <;> simp [qs_cell]
  · rfl
theorem gLose_a {g : Nat} {σ : qx_S} (h : ¬ σ 15 g = 1) : gLose g σ = σ := if_neg h
theorem gLose_b {g : Nat} {σ : qx_S} (h : σ 15 g = 1) (h2 : ¬ qs σ 17 g (σ 17 g - 1) 17 g = 0) : gLose g σ = qs σ 17 g (σ 17 g - 1) := by unfold gLose; rw [if_pos h, if_neg h2]
theorem gLose_c {g : Nat} {σ : qx_S} (h : σ 15 g = 1) (h2 : qs σ 17 g (σ 17 g - 1) 17 g = 0) : gLose g σ = qs (qs (qs (qs σ 17 g (σ 17 g - 1)) 15 g 4) 16 g (-4)) 19 g (-4) := by unfold gLose; rw [if_pos h, if_pos h2]
theorem qx_getn {K : qx_K} {F : qx_F} {sh : qx_H} {σ : qx_S} {pc : Nat} {ls : List (Option Value)} {st : List Value} {j k : Nat} {z : Int32} (h : σ j k = z) (kk : qx_X K F sh σ pc ls (.int z :: st)) : qx_X K F sh σ pc ls (.int (σ j k) :: st) := qx_top h kk
set_option maxRecDepth 20000 in
set_option maxHeartbeats 4000000 in
theorem c_X0_add (F : qx_F) (d : Nat) (σ : qx_S) (dish pat : Int32) (n : Nat) (hn : σ 14 0 = nI n) (hn20 : n < 20) : qx_cI F shC ⟨"NightStalls$Guests", "add", "(II)I"⟩ (.code ⟨"NightStalls$Guests", "add", "(II)I"⟩ prog_2_method_2_code 4 ((some FieldType.int)) :: qx_W) (qx_R (d + 1)) [.ref (fa F 14), .int dish, .int pat] σ (nI n) (gAdd σ n dish pat) := by
  refine qx_met (by decide) (Nat.le_of_ble_eq_true rfl) (by intro v hv; simp only [List.mem_cons, List.not_mem_nil, or_false] at hv; rcases hv with rfl | rfl | rfl <;> rfl) (fun K C => ?_)
  refine qx_aload_n C dX0_add_0 rfl rfl ?_
  refine qx_getI C (j := 14) (k := 0) hiX0 rfl rfl (by decide) qw_101 rfl dX0_add_1 ?_
  refine qx_top hn ?_
  refine qx_istore_n C dX0_add_4 rfl (Nat.le_of_ble_eq_true rfl) ?_
  refine qx_aload_n C dX0_add_5 rfl rfl ?_
  refine qx_iload_n C dX0_add_6 rfl rfl ?_
  refine qx_iconst C (v := 1) dX0_add_7 rfl ?_
  refine qx_iaddE C dX0_add_8 (nI_add n 1) ?_
  refine qx_put C (j := 14) (k := 0) hiX0 rfl rfl (by decide) tyX0 tyX0_ok nmX0 qw_101 rfl rfl rfl rfl dX0_add_9 ?_
  refine qx_aload_n C dX0_add_12 rfl rfl ?_
  refine qx_getR C (j := 14) (k := 1) hiX0 rfl rfl (by decide) qw_104 rfl dX0_add_13 ?_
  refine qx_iload_n C dX0_add_16 rfl rfl ?_
  refine qx_iconst C (v := 0) dX0_add_17 rfl ?_
  refine qx_iastN C (j := 15) rfl ⟨by omega, by decide⟩ dX0_add_18 ?_
  refine qx_aload_n C dX0_add_19 rfl rfl ?_
  refine qx_getR C (j := 14) (k := 2) hiX0 rfl rfl (by decide) qw_106 rfl dX0_add_20 ?_
  refine qx_iload_n C dX0_add_23 rfl rfl ?_
  refine qx_iconst C (v := 0) dX0_add_24 rfl ?_
  refine qx_iastN C (j := 16) rfl ⟨by omega, by decide⟩ dX0_add_25 ?_
  refine qx_aload_n C dX0_add_26 rfl rfl ?_
  refine qx_getR C (j := 14) (k := 3) hiX0 rfl rfl (by decide) qw_108 rfl dX0_add_27 ?_
  refine qx_iload_n C dX0_add_30 rfl rfl ?_
  refine qx_iload_n C dX0_add_31 rfl rfl ?_
  refine qx_iastN C (j := 17) rfl ⟨by omega, by decide⟩ dX0_add_32 ?_
  refine qx_aload_n C dX0_add_33 rfl rfl ?_
  refine qx_getR C (j := 14) (k := 4) hiX0 rfl rfl (by decide) qw_109 rfl dX0_add_34 ?_
  refine qx_iload_n C dX0_add_37 rfl rfl ?_
  refine qx_iload_n C dX0_add_38 rfl rfl ?_
  refine qx_iastN C (j := 18) rfl ⟨by omega, by decide⟩ dX0_add_39 ?_
  refine qx_aload_n C dX0_add_40 rfl rfl ?_
  refine qx_getR C (j := 14) (k := 5) hiX0 rfl rfl (by decide) qw_111 rfl dX0_add_41 ?_
  refine qx_iload_n C dX0_add_44 rfl rfl ?_
  refine qx_bipush C (v := (-4)) dX0_add_45 rfl ?_
  refine qx_iastN C (j := 19) rfl ⟨by omega, by decide⟩ dX0_add_47 ?_
  refine qx_aload_n C dX0_add_48 rfl rfl ?_
  refine qx_getR C (j := 14) (k := 6) hiX0 rfl rfl (by decide) qw_112 rfl dX0_add_49 ?_
  refine qx_iload_n C dX0_add_52 rfl rfl ?_
  refine qx_bipush C (v := (-4)) dX0_add_53 rfl ?_
  refine qx_iastN C (j := 20) rfl ⟨by omega, by decide⟩ dX0_add_55 ?_
  refine qx_iload_n C dX0_add_56 rfl rfl ?_
  exact qx_iret C dX0_add_57 rfl rfl rfl
set_option maxRecDepth 20000 in
set_option maxHeartbeats 4000000 in
theorem c_X0_fact (F : qx_F) (d : Nat) (σ : qx_S) (g : Nat) (what : Int32) (hg : g < 20) : qx_cI F shC ⟨"NightStalls$Guests", "fact", "(II)I"⟩ (.code ⟨"NightStalls$Guests", "fact", "(II)I"⟩ prog_2_method_3_code 3 ((some FieldType.int)) :: qx_W) (qx_R (d + 1)) [.ref (fa F 14), .int (nI g), .int what] σ (gFact σ g what) (σ) := by
  refine qx_met (by decide) (Nat.le_of_ble_eq_true rfl) (by intro v hv; simp only [List.mem_cons, List.not_mem_nil, or_false] at hv; rcases hv with rfl | rfl | rfl <;> rfl) (fun K C => ?_)
  by_cases e0 : what = 0
  · subst e0
    refine qx_iload_n C dX0_fact_0 rfl rfl ?_
    refine qx_tableIn C (tgt := 36) (off := 35) dX0_fact_1 (by decide) (by decide) (by decide) (by decide) ?_
    refine qx_aload_n C dX0_fact_36 rfl rfl ?_
    refine qx_getR C (j := 14) (k := 1) hiX0 rfl rfl (by decide) qw_104 rfl dX0_fact_37 ?_
    refine qx_iload_n C dX0_fact_40 rfl rfl ?_
    refine qx_ialdN C (j := 15) rfl ⟨by omega, by decide⟩ dX0_fact_41 ?_
    exact qx_iret C dX0_fact_42 rfl (by first | rfl | simp [gFact]) (by first | rfl | simp [gFact])
  by_cases e1 : what = 1
  · subst e1
    refine qx_iload_n C dX0_fact_0 rfl rfl ?_
    refine qx_tableIn C (tgt := 43) (off := 42) dX0_fact_1 (by decide) (by decide) (by decide) (by decide) ?_
    refine qx_aload_n C dX0_fact_43 rfl rfl ?_
    refine qx_getR C (j := 14) (k := 2) hiX0 rfl rfl (by decide) qw_106 rfl dX0_fact_44 ?_
    refine qx_iload_n C dX0_fact_47 rfl rfl ?_
    refine qx_ialdN C (j := 16) rfl ⟨by omega, by decide⟩ dX0_fact_48 ?_
    exact qx_iret C dX0_fact_49 rfl (by first | rfl | simp [gFact]) (by first | rfl | simp [gFact])
  by_cases e2 : what = 2
  · subst e2
    refine qx_iload_n C dX0_fact_0 rfl rfl ?_
    refine qx_tableIn C (tgt := 50) (off := 49) dX0_fact_1 (by decide) (by decide) (by decide) (by decide) ?_
    refine qx_aload_n C dX0_fact_50 rfl rfl ?_
    refine qx_getR C (j := 14) (k := 3) hiX0 rfl rfl (by decide) qw_108 rfl dX0_fact_51 ?_
    refine qx_iload_n C dX0_fact_54 rfl rfl ?_
    refine qx_ialdN C (j := 17) rfl ⟨by omega, by decide⟩ dX0_fact_55 ?_
    exact qx_iret C dX0_fact_56 rfl (by first | rfl | simp [gFact]) (by first | rfl | simp [gFact])
  by_cases e3 : what = 3
  · subst e3
    refine qx_iload_n C dX0_fact_0 rfl rfl ?_
    refine qx_tableIn C (tgt := 57) (off := 56) dX0_fact_1 (by decide) (by decide) (by decide) (by decide) ?_
    refine qx_aload_n C dX0_fact_57 rfl rfl ?_
    refine qx_getR C (j := 14) (k := 4) hiX0 rfl rfl (by decide) qw_109 rfl dX0_fact_58 ?_
    refine qx_iload_n C dX0_fact_61 rfl rfl ?_
    refine qx_ialdN C (j := 18) rfl ⟨by omega, by decide⟩ dX0_fact_62 ?_
    exact qx_iret C dX0_fact_63 rfl (by first | rfl | simp [gFact]) (by first | rfl | simp [gFact])
  by_cases e4 : what = 4
  · subst e4
    refine qx_iload_n C dX0_fact_0 rfl rfl ?_
    refine qx_tableIn C (tgt := 64) (off := 63) dX0_fact_1 (by decide) (by decide) (by decide) (by decide) ?_
    refine qx_aload_n C dX0_fact_64 rfl rfl ?_
    refine qx_getR C (j := 14) (k := 5) hiX0 rfl rfl (by decide) qw_111 rfl dX0_fact_65 ?_
    refine qx_iload_n C dX0_fact_68 rfl rfl ?_
    refine qx_ialdN C (j := 19) rfl ⟨by omega, by decide⟩ dX0_fact_69 ?_
    exact qx_iret C dX0_fact_70 rfl (by first | rfl | simp [gFact]) (by first | rfl | simp [gFact])
  refine qx_iload_n C dX0_fact_0 rfl rfl ?_
  refine qx_tableOut C (tgt := 71) dX0_fact_1 (by have z0 := lv_neT e0 (a := 0) rfl; have z1 := lv_neT e1 (a := 1) rfl; have z2 := lv_neT e2 (a := 2) rfl; have z3 := lv_neT e3 (a := 3) rfl; have z4 := lv_neT e4 (a := 4) rfl; omega) (by decide) ?_
  refine qx_iconst C (v := (-1)) dX0_fact_71 rfl ?_
  exact qx_iret C dX0_fact_72 rfl (by first | rfl | simp [gFact, e0, e1, e2, e3, e4]) (by first | rfl | simp [gFact, e0, e1, e2, e3, e4])
set_option maxRecDepth 20000 in
set_option maxHeartbeats 4000000 in
theorem c_X0_countOf (F : qx_F) (d : Nat) (σ : qx_S) (w : Int32) (n : Nat) (hn : σ 14 0 = nI n) (hn20 : n ≤ 20) : qx_cI F shC ⟨"NightStalls$Guests", "countOf", "(I)I"⟩ (.code ⟨"NightStalls$Guests", "countOf", "(I)I"⟩ prog_2_method_4_code 4 ((some FieldType.int)) :: qx_W) (qx_R (d + 1)) [.ref (fa F 14), .int w] σ (gOf σ w n) (σ) := by
  refine qx_met (by decide) (Nat.le_of_ble_eq_true rfl) (by intro v hv; simp only [List.mem_cons, List.not_mem_nil, or_false] at hv; rcases hv with rfl | rfl <;> rfl) (fun K C => ?_)
  refine qx_iconst C (v := 0) dX0_countOf_0 rfl ?_
  refine qx_istore_n C dX0_countOf_1 rfl (Nat.le_of_ble_eq_true rfl) ?_
  refine qx_iconst C (v := 0) dX0_countOf_2 rfl ?_
  refine qx_istore_n C dX0_countOf_3 rfl (Nat.le_of_ble_eq_true rfl) ?_
  refine qx_to (qx_up n (P := fun i => qx_X K F shC (σ) 4 [some (.ref (fa F 14)), some (.int w), some (.int (gOf σ w i)), some (.int (nI i))] []) (fun i hi hki => ?_) ?_) rfl rfl
  · refine qx_iload_n C dX0_countOf_4 rfl rfl ?_
    refine qx_aload_n C dX0_countOf_5 rfl rfl ?_
    refine qx_getI C (j := 14) (k := 0) hiX0 rfl rfl (by decide) qw_101 rfl dX0_countOf_6 ?_
    refine qx_icmp_ge_f C (tgt := 31) dX0_countOf_9 (by decide) (by rw [hn]; exact nI_ge hi (by omega)) ?_
    refine qx_aload_n C dX0_countOf_12 rfl rfl ?_
    refine qx_getR C (j := 14) (k := 1) hiX0 rfl rfl (by decide) qw_104 rfl dX0_countOf_13 ?_
    refine qx_iload_n C dX0_countOf_16 rfl rfl ?_
    refine qx_ialdN C (j := 15) rfl ⟨by omega, by decide⟩ dX0_countOf_17 ?_
    refine qx_iload_n C dX0_countOf_18 rfl rfl ?_
    refine qx_icmp_ne C (tgt := 25) dX0_countOf_19 (by decide) (fun h19 => ?_) (fun h19 => ?_)
    · refine qx_iincN C dX0_countOf_25 rfl ?_
      refine qx_goto C (tgt := 4) dX0_countOf_28 (by decide) ?_
      exact (qx_to hki (by first | rfl | simp [gOf, qf, h19]) (by first | rfl | simp [gOf, qf, h19]))
    · refine qx_iinc C (v := _ + 1) dX0_countOf_22 rfl rfl ?_
      refine qx_iincN C dX0_countOf_25 rfl ?_
      refine qx_goto C (tgt := 4) dX0_countOf_28 (by decide) ?_
      exact (qx_to hki (by first | rfl | simp [gOf, qf, h19]) (by first | rfl | simp [gOf, qf, h19]))
  · refine qx_iload_n C dX0_countOf_4 rfl rfl ?_
    refine qx_aload_n C dX0_countOf_5 rfl rfl ?_
    refine qx_getI C (j := 14) (k := 0) hiX0 rfl rfl (by decide) qw_101 rfl dX0_countOf_6 ?_
    refine qx_icmp_ge_t C (tgt := 31) dX0_countOf_9 (by decide) (by rw [hn]; exact nI_le (Nat.le_refl _) (by omega)) ?_
    refine qx_iload_n C dX0_countOf_31 rfl rfl ?_
    exact qx_iret C dX0_countOf_32 rfl rfl rfl
set_option maxRecDepth 20000 in
set_option maxHeartbeats 4000000 in
theorem c_X0_countAt (F : qx_F) (d : Nat) (σ : qx_S) (w : Int32) (n : Nat) (hn : σ 14 0 = nI n) (hn20 : n ≤ 20) : qx_cI F shC ⟨"NightStalls$Guests", "countAt", "(I)I"⟩ (.code ⟨"NightStalls$Guests", "countAt", "(I)I"⟩ prog_2_method_5_code 4 ((some FieldType.int)) :: qx_W) (qx_R (d + 1)) [.ref (fa F 14), .int w] σ (gAt σ w n) (σ) := by
  refine qx_met (by decide) (Nat.le_of_ble_eq_true rfl) (by intro v hv; simp only [List.mem_cons, List.not_mem_nil, or_false] at hv; rcases hv with rfl | rfl <;> rfl) (fun K C => ?_)
  refine qx_iconst C (v := 0) dX0_countAt_0 rfl ?_
  refine qx_istore_n C dX0_countAt_1 rfl (Nat.le_of_ble_eq_true rfl) ?_
  refine qx_iconst C (v := 0) dX0_countAt_2 rfl ?_
  refine qx_istore_n C dX0_countAt_3 rfl (Nat.le_of_ble_eq_true rfl) ?_
  refine qx_to (qx_up n (P := fun i => qx_X K F shC (σ) 4 [some (.ref (fa F 14)), some (.int w), some (.int (gAt σ w i)), some (.int (nI i))] []) (fun i hi hki => ?_) ?_) rfl rfl
  · refine qx_iload_n C dX0_countAt_4 rfl rfl ?_
    refine qx_aload_n C dX0_countAt_5 rfl rfl ?_
    refine qx_getI C (j := 14) (k := 0) hiX0 rfl rfl (by decide) qw_101 rfl dX0_countAt_6 ?_
    refine qx_icmp_ge_f C (tgt := 51) dX0_countAt_9 (by decide) (by rw [hn]; exact nI_ge hi (by omega)) ?_
    refine qx_aload_n C dX0_countAt_12 rfl rfl ?_
    refine qx_getR C (j := 14) (k := 5) hiX0 rfl rfl (by decide) qw_111 rfl dX0_countAt_13 ?_
    refine qx_iload_n C dX0_countAt_16 rfl rfl ?_
    refine qx_ialdN C (j := 19) rfl ⟨by omega, by decide⟩ dX0_countAt_17 ?_
    refine qx_iload_n C dX0_countAt_18 rfl rfl ?_
    refine qx_icmp_ne C (tgt := 45) dX0_countAt_19 (by decide) (fun h19 => ?_) (fun h19 => ?_)
    · refine qx_iincN C dX0_countAt_45 rfl ?_
      refine qx_goto C (tgt := 4) dX0_countAt_48 (by decide) ?_
      exact (qx_to hki (by first | rfl | simp [gAt, qf, h19]) (by first | rfl | simp [gAt, qf, h19]))
    · refine qx_aload_n C dX0_countAt_22 rfl rfl ?_
      refine qx_getR C (j := 14) (k := 1) hiX0 rfl rfl (by decide) qw_104 rfl dX0_countAt_23 ?_
      refine qx_iload_n C dX0_countAt_26 rfl rfl ?_
      refine qx_ialdN C (j := 15) rfl ⟨by omega, by decide⟩ dX0_countAt_27 ?_
      refine qx_iconst C (v := 1) dX0_countAt_28 rfl ?_
      refine qx_icmp_eq C (tgt := 42) dX0_countAt_29 (by decide) (fun h29 => ?_) (fun h29 => ?_)
      · refine qx_iinc C (v := _ + 1) dX0_countAt_42 rfl rfl ?_
        refine qx_iincN C dX0_countAt_45 rfl ?_
        refine qx_goto C (tgt := 4) dX0_countAt_48 (by decide) ?_
        exact (qx_to hki (by first | rfl | simp [gAt, qf, h19, h29]) (by first | rfl | simp [gAt, qf, h19, h29]))
      · refine qx_aload_n C dX0_countAt_32 rfl rfl ?_
        refine qx_getR C (j := 14) (k := 1) hiX0 rfl rfl (by decide) qw_104 rfl dX0_countAt_33 ?_
        refine qx_iload_n C dX0_countAt_36 rfl rfl ?_
        refine qx_ialdN C (j := 15) rfl ⟨by omega, by decide⟩ dX0_countAt_37 ?_
        refine qx_iconst C (v := 2) dX0_countAt_38 rfl ?_
        refine qx_icmp_ne C (tgt := 45) dX0_countAt_39 (by decide) (fun h39 => ?_) (fun h39 => ?_)
        · refine qx_iincN C dX0_countAt_45 rfl ?_
          refine qx_goto C (tgt := 4) dX0_countAt_48 (by decide) ?_
          exact (qx_to hki (by first | rfl | simp [gAt, qf, h19, h29, h39]) (by first | rfl | simp [gAt, qf, h19, h29, h39]))
        · refine qx_iinc C (v := _ + 1) dX0_countAt_42 rfl rfl ?_
          refine qx_iincN C dX0_countAt_45 rfl ?_
          refine qx_goto C (tgt := 4) dX0_countAt_48 (by decide) ?_
          exact (qx_to hki (by first | rfl | simp [gAt, qf, h19, h29, h39]) (by first | rfl | simp [gAt, qf, h19, h29, h39]))
  · refine qx_iload_n C dX0_countAt_4 rfl rfl ?_
    refine qx_aload_n C dX0_countAt_5 rfl rfl ?_
    refine qx_getI C (j := 14) (k := 0) hiX0 rfl rfl (by decide) qw_101 rfl dX0_countAt_6 ?_
    refine qx_icmp_ge_t C (tgt := 51) dX0_countAt_9 (by decide) (by rw [hn]; exact nI_le (Nat.le_refl _) (by omega)) ?_
    refine qx_iload_n C dX0_countAt_51 rfl rfl ?_
    exact qx_iret C dX0_countAt_52 rfl rfl rfl
set_option maxRecDepth 20000 in
set_option maxHeartbeats 4000000 in
theorem c_X0_firstAt (F : qx_F) (d : Nat) (σ : qx_S) (w st : Int32) (n : Nat) (hn : σ 14 0 = nI n) (hn20 : n ≤ 20) : qx_cI F shC ⟨"NightStalls$Guests", "firstAt", "(II)I"⟩ (.code ⟨"NightStalls$Guests", "firstAt", "(II)I"⟩ prog_2_method_6_code 4 ((some FieldType.int)) :: qx_W) (qx_R (d + 1)) [.ref (fa F 14), .int w, .int st] σ (oI (gFirst σ w st n)) (σ) := by
  refine qx_met (by decide) (Nat.le_of_ble_eq_true rfl) (by intro v hv; simp only [List.mem_cons, List.not_mem_nil, or_false] at hv; rcases hv with rfl | rfl | rfl <;> rfl) (fun K C => ?_)
  refine qx_iconst C (v := 0) dX0_firstAt_0 rfl ?_
  refine qx_istore_n C dX0_firstAt_1 rfl (Nat.le_of_ble_eq_true rfl) ?_
  refine qx_to (qx_up n (P := fun i => (∀ g, g < i → ¬ (σ 19 g = w ∧ σ 15 g = st)) → qx_X K F shC (σ) 2 [some (.ref (fa F 14)), some (.int w), some (.int st), some (.int (nI i))] []) (fun i hi hki hpi => ?_) (fun hpi => ?_) (fun g hg => absurd hg (Nat.not_lt_zero g))) rfl rfl
  · refine qx_iload_n C dX0_firstAt_2 rfl rfl ?_
    refine qx_aload_n C dX0_firstAt_3 rfl rfl ?_
    refine qx_getI C (j := 14) (k := 0) hiX0 rfl rfl (by decide) qw_101 rfl dX0_firstAt_4 ?_
    refine qx_icmp_ge_f C (tgt := 38) dX0_firstAt_7 (by decide) (by rw [hn]; exact nI_ge hi (by omega)) ?_
    refine qx_aload_n C dX0_firstAt_10 rfl rfl ?_
    refine qx_getR C (j := 14) (k := 5) hiX0 rfl rfl (by decide) qw_111 rfl dX0_firstAt_11 ?_
    refine qx_iload_n C dX0_firstAt_14 rfl rfl ?_
    refine qx_ialdN C (j := 19) rfl ⟨by omega, by decide⟩ dX0_firstAt_15 ?_
    refine qx_iload_n C dX0_firstAt_16 rfl rfl ?_
    refine qx_icmp_ne C (tgt := 32) dX0_firstAt_17 (by decide) (fun h17 => ?_) (fun h17 => ?_)
    · refine qx_iincN C dX0_firstAt_32 rfl ?_
      refine qx_goto C (tgt := 2) dX0_firstAt_35 (by decide) ?_
      exact (qx_to (hki (lt_s hpi (by first | exact fun hh => h17 hh.1 | exact fun hh => h27 hh.2))) rfl rfl)
    · refine qx_aload_n C dX0_firstAt_20 rfl rfl ?_
      refine qx_getR C (j := 14) (k := 1) hiX0 rfl rfl (by decide) qw_104 rfl dX0_firstAt_21 ?_
      refine qx_iload_n C dX0_firstAt_24 rfl rfl ?_
      refine qx_ialdN C (j := 15) rfl ⟨by omega, by decide⟩ dX0_firstAt_25 ?_
      refine qx_iload_n C dX0_firstAt_26 rfl rfl ?_
      refine qx_icmp_ne C (tgt := 32) dX0_firstAt_27 (by decide) (fun h27 => ?_) (fun h27 => ?_)
      · refine qx_iincN C dX0_firstAt_32 rfl ?_
        refine qx_goto C (tgt := 2) dX0_firstAt_35 (by decide) ?_
        exact (qx_to (hki (lt_s hpi (by first | exact fun hh => h17 hh.1 | exact fun hh => h27 hh.2))) rfl rfl)
      · refine qx_iload_n C dX0_firstAt_30 rfl rfl ?_
        exact qx_iret C dX0_firstAt_31 rfl (by unfold gFirst; rw [qfind_some hi (decide_eq_true ⟨h17, h27⟩) (fun g hg => decide_eq_false (hpi g hg))]; rfl) rfl
  · refine qx_iload_n C dX0_firstAt_2 rfl rfl ?_
    refine qx_aload_n C dX0_firstAt_3 rfl rfl ?_
    refine qx_getI C (j := 14) (k := 0) hiX0 rfl rfl (by decide) qw_101 rfl dX0_firstAt_4 ?_
    refine qx_icmp_ge_t C (tgt := 38) dX0_firstAt_7 (by decide) (by rw [hn]; exact nI_le (Nat.le_refl _) (by omega)) ?_
    refine qx_bipush C (v := (-4)) dX0_firstAt_38 rfl ?_
    exact qx_iret C dX0_firstAt_40 rfl (by unfold gFirst; rw [qfind_none (fun g hg => decide_eq_false (hpi g hg))]; rfl) rfl
set_option maxRecDepth 20000 in
set_option maxHeartbeats 4000000 in
theorem c_X0_queue (F : qx_F) (d : Nat) (σ : qx_S) (g : Nat) (w : Int32) (hg : g < 20) : qx_cV F shC ⟨"NightStalls$Guests", "queue", "(II)V"⟩ (.code ⟨"NightStalls$Guests", "queue", "(II)V"⟩ prog_2_method_7_code 3 ((none : Option FieldType)) :: qx_W) (qx_R (d + 1)) [.ref (fa F 14), .int (nI g), .int w] σ (gQueue σ g w) := by
  refine qx_met (by decide) (Nat.le_of_ble_eq_true rfl) (by intro v hv; simp only [List.mem_cons, List.not_mem_nil, or_false] at hv; rcases hv with rfl | rfl | rfl <;> rfl) (fun K C => ?_)
  refine qx_aload_n C dX0_queue_0 rfl rfl ?_
  refine qx_getR C (j := 14) (k := 1) hiX0 rfl rfl (by decide) qw_104 rfl dX0_queue_1 ?_
  refine qx_iload_n C dX0_queue_4 rfl rfl ?_
  refine qx_iconst C (v := 1) dX0_queue_5 rfl ?_
  refine qx_iastN C (j := 15) rfl ⟨by omega, by decide⟩ dX0_queue_6 ?_
  refine qx_aload_n C dX0_queue_7 rfl rfl ?_
  refine qx_getR C (j := 14) (k := 5) hiX0 rfl rfl (by decide) qw_111 rfl dX0_queue_8 ?_
  refine qx_iload_n C dX0_queue_11 rfl rfl ?_
  refine qx_iload_n C dX0_queue_12 rfl rfl ?_
  refine qx_iastN C (j := 19) rfl ⟨by omega, by decide⟩ dX0_queue_13 ?_
  exact qx_vret C dX0_queue_14 rfl
set_option maxRecDepth 20000 in
set_option maxHeartbeats 4000000 in
theorem c_X0_step (F : qx_F) (d : Nat) (σ : qx_S) (g : Nat) (P : Int32) (hg : g < 20) : qx_cV F shC ⟨"NightStalls$Guests", "step", "(II)V"⟩ (.code ⟨"NightStalls$Guests", "step", "(II)V"⟩ prog_2_method_8_code 3 ((none : Option FieldType)) :: qx_W) (qx_R (d + 1)) [.ref (fa F 14), .int (nI g), .int P] σ (gStep σ g P) := by
  refine qx_met (by decide) (Nat.le_of_ble_eq_true rfl) (by intro v hv; simp only [List.mem_cons, List.not_mem_nil, or_false] at hv; rcases hv with rfl | rfl | rfl <;> rfl) (fun K C => ?_)
  refine qx_aload_n C dX0_step_0 rfl rfl ?_
  refine qx_getR C (j := 14) (k := 2) hiX0 rfl rfl (by decide) qw_106 rfl dX0_step_1 ?_
  refine qx_iload_n C dX0_step_4 rfl rfl ?_
  refine qx_dup2 C dX0_step_5 rfl rfl ?_
  refine qx_ialdN C (j := 16) rfl ⟨by omega, by decide⟩ dX0_step_6 ?_
  refine qx_iconst C (v := 1) dX0_step_7 rfl ?_
  refine qx_iadd C dX0_step_8 ?_
  refine qx_iastN C (j := 16) rfl ⟨by omega, by decide⟩ dX0_step_9 ?_
  refine qx_aload_n C dX0_step_10 rfl rfl ?_
  refine qx_getR C (j := 14) (k := 2) hiX0 rfl rfl (by decide) qw_106 rfl dX0_step_11 ?_
  refine qx_iload_n C dX0_step_14 rfl rfl ?_
  refine qx_ialdN C (j := 16) rfl ⟨by omega, by decide⟩ dX0_step_15 ?_
  refine qx_iload_n C dX0_step_16 rfl rfl ?_
  refine qx_icmp_lt C (tgt := 35) dX0_step_17 (by decide) (fun h17 => ?_) (fun h17 => ?_)
  · exact qx_vret C dX0_step_35 (by first | rfl | simp [gStep, h17])
  · refine qx_aload_n C dX0_step_20 rfl rfl ?_
    refine qx_getR C (j := 14) (k := 1) hiX0 rfl rfl (by decide) qw_104 rfl dX0_step_21 ?_
    refine qx_iload_n C dX0_step_24 rfl rfl ?_
    refine qx_iconst C (v := 5) dX0_step_25 rfl ?_
    refine qx_iastN C (j := 15) rfl ⟨by omega, by decide⟩ dX0_step_26 ?_
    refine qx_aload_n C dX0_step_27 rfl rfl ?_
    refine qx_getR C (j := 14) (k := 2) hiX0 rfl rfl (by decide) qw_106 rfl dX0_step_28 ?_
    refine qx_iload_n C dX0_step_31 rfl rfl ?_
    refine qx_bipush C (v := (-4)) dX0_step_32 rfl ?_
    refine qx_iastN C (j := 16) rfl ⟨by omega, by decide⟩ dX0_step_34 ?_
    exact qx_vret C dX0_step_35 (by first | rfl | simp [gStep, h17])
set_option maxRecDepth 20000 in
set_option maxHeartbeats 4000000 in
theorem c_X0_feed0 (F : qx_F) (d : Nat) (σ : qx_S) (t : Int32) : qx_cV F shC ⟨"NightStalls$Guests", "feed", "(II)V"⟩ (.code ⟨"NightStalls$Guests", "feed", "(II)V"⟩ prog_2_method_9_code 3 ((none : Option FieldType)) :: qx_W) (qx_R (d + 1)) [.ref (fa F 14), .int (-4), .int t] σ (σ) := by
  refine qx_met (by decide) (Nat.le_of_ble_eq_true rfl) (by intro v hv; simp only [List.mem_cons, List.not_mem_nil, or_false] at hv; rcases hv with rfl | rfl | rfl <;> rfl) (fun K C => ?_)
  refine qx_iload_n C dX0_feed_0 rfl rfl ?_
  refine qx_bipush C (v := (-4)) dX0_feed_1 rfl ?_
  refine qx_icmp_ne_f C (tgt := 7) dX0_feed_3 (by decide) (by decide) ?_
  exact qx_vret C dX0_feed_6 rfl
theorem qx_n4 {g : Nat} (h : g < 1000) : ¬ nI g = -4 := by
  intro e
  have h2 := congrArg Int32.toInt e
  rw [nI_toInt (by omega)] at h2
  have : (-4 : Int32).toInt = -4 := rfl
  omega
set_option maxRecDepth 20000 in
set_option maxHeartbeats 4000000 in
theorem c_X0_feed1 (F : qx_F) (d : Nat) (σ : qx_S) (g : Nat) (t : Int32) (hg : g < 20) : qx_cV F shC ⟨"NightStalls$Guests", "feed", "(II)V"⟩ (.code ⟨"NightStalls$Guests", "feed", "(II)V"⟩ prog_2_method_9_code 3 ((none : Option FieldType)) :: qx_W) (qx_R (d + 1)) [.ref (fa F 14), .int (nI g), .int t] σ (qs (qs (qs σ 15 g 3) 16 g (-4)) 20 g t) := by
  refine qx_met (by decide) (Nat.le_of_ble_eq_true rfl) (by intro v hv; simp only [List.mem_cons, List.not_mem_nil, or_false] at hv; rcases hv with rfl | rfl | rfl <;> rfl) (fun K C => ?_)
  refine qx_iload_n C dX0_feed_0 rfl rfl ?_
  refine qx_bipush C (v := (-4)) dX0_feed_1 rfl ?_
  refine qx_icmp_ne_t C (tgt := 7) dX0_feed_3 (by decide) (qx_n4 (by omega)) ?_
  refine qx_aload_n C dX0_feed_7 rfl rfl ?_
  refine qx_getR C (j := 14) (k := 1) hiX0 rfl rfl (by decide) qw_104 rfl dX0_feed_8 ?_
  refine qx_iload_n C dX0_feed_11 rfl rfl ?_
  refine qx_iconst C (v := 3) dX0_feed_12 rfl ?_
  refine qx_iastN C (j := 15) rfl ⟨by omega, by decide⟩ dX0_feed_13 ?_
  refine qx_aload_n C dX0_feed_14 rfl rfl ?_
  refine qx_getR C (j := 14) (k := 2) hiX0 rfl rfl (by decide) qw_106 rfl dX0_feed_15 ?_
  refine qx_iload_n C dX0_feed_18 rfl rfl ?_
  refine qx_bipush C (v := (-4)) dX0_feed_19 rfl ?_
  refine qx_iastN C (j := 16) rfl ⟨by omega, by decide⟩ dX0_feed_21 ?_
  refine qx_aload_n C dX0_feed_22 rfl rfl ?_
  refine qx_getR C (j := 14) (k := 6) hiX0 rfl rfl (by decide) qw_112 rfl dX0_feed_23 ?_
  refine qx_iload_n C dX0_feed_26 rfl rfl ?_
  refine qx_iload_n C dX0_feed_27 rfl rfl ?_
  refine qx_iastN C (j := 20) rfl ⟨by omega, by decide⟩ dX0_feed_28 ?_
  exact qx_vret C dX0_feed_29 rfl
set_option maxRecDepth 20000 in
set_option maxHeartbeats 4000000 in
theorem c_X0_losePatience (F : qx_F) (d : Nat) (σ : qx_S) (n : Nat) (hn : σ 14 0 = nI n) (hn20 : n ≤ 20) : qx_cV F shC ⟨"NightStalls$Guests", "losePatience", "()V"⟩ (.code ⟨"NightStalls$Guests", "losePatience", "()V"⟩ prog_2_method_10_code 2 ((none : Option FieldType)) :: qx_W) (qx_R (d + 1)) [.ref (fa F 14)] σ (qf gLose σ n) := by
  refine qx_met (by decide) (Nat.le_of_ble_eq_true rfl) (by intro v hv; simp only [List.mem_cons, List.not_mem_nil, or_false] at hv; rcases hv with rfl <;> rfl) (fun K C => ?_)
  refine qx_iconst C (v := 0) dX0_losePatience_0 rfl ?_
  refine qx_istore_n C dX0_losePatience_1 rfl (Nat.le_of_ble_eq_true rfl) ?_
  refine qx_to (qx_up n (P := fun i => qx_X K F shC (qf gLose σ i) 2 [some (.ref (fa F 14)), some (.int (nI i))] []) (fun i hi hki => ?_) ?_) rfl rfl
  · refine qx_iload_n C dX0_losePatience_2 rfl rfl ?_
    refine qx_aload_n C dX0_losePatience_3 rfl rfl ?_
    refine qx_getI C (j := 14) (k := 0) hiX0 rfl rfl (by decide) qw_101 rfl dX0_losePatience_4 ?_
    refine qx_icmp_ge_f C (tgt := 68) dX0_losePatience_7 (by decide) (by rw [gLose_14, hn]; exact nI_ge hi (by omega)) ?_
    refine qx_aload_n C dX0_losePatience_10 rfl rfl ?_
    refine qx_getR C (j := 14) (k := 1) hiX0 rfl rfl (by decide) qw_104 rfl dX0_losePatience_11 ?_
    refine qx_iload_n C dX0_losePatience_14 rfl rfl ?_
    refine qx_ialdN C (j := 15) rfl ⟨by omega, by decide⟩ dX0_losePatience_15 ?_
    refine qx_iconst C (v := 1) dX0_losePatience_16 rfl ?_
    refine qx_icmp_ne C (tgt := 62) dX0_losePatience_17 (by decide) (fun h17 => ?_) (fun h17 => ?_)
    · refine qx_iincN C dX0_losePatience_62 rfl ?_
      refine qx_goto C (tgt := 2) dX0_losePatience_65 (by decide) ?_
      exact (qx_to hki (by first | exact (gLose_a h17).symm | exact (gLose_b h17 h36).symm | exact (gLose_c h17 h36).symm) rfl)
    · refine qx_aload_n C dX0_losePatience_20 rfl rfl ?_
      refine qx_getR C (j := 14) (k := 3) hiX0 rfl rfl (by decide) qw_108 rfl dX0_losePatience_21 ?_
      refine qx_iload_n C dX0_losePatience_24 rfl rfl ?_
      refine qx_dup2 C dX0_losePatience_25 rfl rfl ?_
      refine qx_ialdN C (j := 17) rfl ⟨by omega, by decide⟩ dX0_losePatience_26 ?_
      refine qx_iconst C (v := 1) dX0_losePatience_27 rfl ?_
      refine qx_isub C dX0_losePatience_28 ?_
      refine qx_iastN C (j := 17) rfl ⟨by omega, by decide⟩ dX0_losePatience_29 ?_
      refine qx_aload_n C dX0_losePatience_30 rfl rfl ?_
      refine qx_getR C (j := 14) (k := 3) hiX0 rfl rfl (by decide) qw_108 rfl dX0_losePatience_31 ?_
      refine qx_iload_n C dX0_losePatience_34 rfl rfl ?_
      refine qx_ialdN C (j := 17) rfl ⟨by omega, by decide⟩ dX0_losePatience_35 ?_
      refine qx_if_ne C (tgt := 62) dX0_losePatience_36 (by decide) (fun h36 => ?_) (fun h36 => ?_)
      · refine qx_iincN C dX0_losePatience_62 rfl ?_
        refine qx_goto C (tgt := 2) dX0_losePatience_65 (by decide) ?_
        exact (qx_to hki (by first | exact (gLose_a h17).symm | exact (gLose_b h17 h36).symm | exact (gLose_c h17 h36).symm) rfl)
      · refine qx_aload_n C dX0_losePatience_39 rfl rfl ?_
        refine qx_getR C (j := 14) (k := 1) hiX0 rfl rfl (by decide) qw_104 rfl dX0_losePatience_40 ?_
        refine qx_iload_n C dX0_losePatience_43 rfl rfl ?_
        refine qx_iconst C (v := 4) dX0_losePatience_44 rfl ?_
        refine qx_iastN C (j := 15) rfl ⟨by omega, by decide⟩ dX0_losePatience_45 ?_
        refine qx_aload_n C dX0_losePatience_46 rfl rfl ?_
        refine qx_getR C (j := 14) (k := 2) hiX0 rfl rfl (by decide) qw_106 rfl dX0_losePatience_47 ?_
        refine qx_iload_n C dX0_losePatience_50 rfl rfl ?_
        refine qx_bipush C (v := (-4)) dX0_losePatience_51 rfl ?_
        refine qx_iastN C (j := 16) rfl ⟨by omega, by decide⟩ dX0_losePatience_53 ?_
        refine qx_aload_n C dX0_losePatience_54 rfl rfl ?_
        refine qx_getR C (j := 14) (k := 5) hiX0 rfl rfl (by decide) qw_111 rfl dX0_losePatience_55 ?_
        refine qx_iload_n C dX0_losePatience_58 rfl rfl ?_
        refine qx_bipush C (v := (-4)) dX0_losePatience_59 rfl ?_
        refine qx_iastN C (j := 19) rfl ⟨by omega, by decide⟩ dX0_losePatience_61 ?_
        refine qx_iincN C dX0_losePatience_62 rfl ?_
        refine qx_goto C (tgt := 2) dX0_losePatience_65 (by decide) ?_
        exact (qx_to hki (by first | exact (gLose_a h17).symm | exact (gLose_b h17 h36).symm | exact (gLose_c h17 h36).symm) rfl)
  · refine qx_iload_n C dX0_losePatience_2 rfl rfl ?_
    refine qx_aload_n C dX0_losePatience_3 rfl rfl ?_
    refine qx_getI C (j := 14) (k := 0) hiX0 rfl rfl (by decide) qw_101 rfl dX0_losePatience_4 ?_
    refine qx_icmp_ge_t C (tgt := 68) dX0_losePatience_7 (by decide) (by rw [gLose_14, hn]; exact nI_le (Nat.le_refl _) (by omega)) ?_
    exact qx_vret C dX0_losePatience_68 rfl
set_option maxRecDepth 20000 in
set_option maxHeartbeats 4000000 in
theorem c_X0_sellers (F : qx_F) (d : Nat) (σ : qx_S) (w fr to_ : Int32) (n : Nat) (hn : σ 14 0 = nI n) (hn20 : n ≤ 20) : qx_cI F shC ⟨"NightStalls$Guests", "sellers", "(III)I"⟩ (.code ⟨"NightStalls$Guests", "sellers", "(III)I"⟩ prog_2_method_11_code 6 ((some FieldType.int)) :: qx_W) (qx_R (d + 1)) [.ref (fa F 14), .int w, .int fr, .int to_] σ (gSell σ w fr to_ n) (σ) := by
  refine qx_met (by decide) (Nat.le_of_ble_eq_true rfl) (by intro v hv; simp only [List.mem_cons, List.not_mem_nil, or_false] at hv; rcases hv with rfl | rfl | rfl | rfl <;> rfl) (fun K C => ?_)
  refine qx_iconst C (v := 0) dX0_sellers_0 rfl ?_
  refine qx_istore C dX0_sellers_1 (Nat.le_of_ble_eq_true rfl) ?_
  refine qx_iconst C (v := 0) dX0_sellers_3 rfl ?_
  refine qx_istore C dX0_sellers_4 (Nat.le_of_ble_eq_true rfl) ?_
  refine qx_to (qx_up n (P := fun i => qx_X K F shC (σ) 6 [some (.ref (fa F 14)), some (.int w), some (.int fr), some (.int to_), some (.int (gSell σ w fr to_ i)), some (.int (nI i))] []) (fun i hi hki => ?_) ?_) rfl rfl
  · refine qx_iload C dX0_sellers_6 rfl ?_
    refine qx_aload_n C dX0_sellers_8 rfl rfl ?_
    refine qx_getI C (j := 14) (k := 0) hiX0 rfl rfl (by decide) qw_101 rfl dX0_sellers_9 ?_
    refine qx_icmp_ge_f C (tgt := 79) dX0_sellers_12 (by decide) (by rw [hn]; exact nI_ge hi (by omega)) ?_
    refine qx_aload_n C dX0_sellers_15 rfl rfl ?_
    refine qx_getR C (j := 14) (k := 1) hiX0 rfl rfl (by decide) qw_104 rfl dX0_sellers_16 ?_
    refine qx_iload C dX0_sellers_19 rfl ?_
    refine qx_ialdN C (j := 15) rfl ⟨by omega, by decide⟩ dX0_sellers_21 ?_
    refine qx_iconst C (v := 3) dX0_sellers_22 rfl ?_
    refine qx_icmp_ne C (tgt := 73) dX0_sellers_23 (by decide) (fun h23 => ?_) (fun h23 => ?_)
    · refine qx_iincN C dX0_sellers_73 rfl ?_
      refine qx_goto C (tgt := 6) dX0_sellers_76 (by decide) ?_
      exact (qx_to hki (by first | rfl | simp [gSell, qf, h23]) (by first | rfl | simp [gSell, qf, h23]))
    · refine qx_aload_n C dX0_sellers_26 rfl rfl ?_
      refine qx_getR C (j := 14) (k := 4) hiX0 rfl rfl (by decide) qw_109 rfl dX0_sellers_27 ?_
      refine qx_iload C dX0_sellers_30 rfl ?_
      refine qx_ialdN C (j := 18) rfl ⟨by omega, by decide⟩ dX0_sellers_32 ?_
      refine qx_iload_n C dX0_sellers_33 rfl rfl ?_
      refine qx_icmp_ne C (tgt := 73) dX0_sellers_34 (by decide) (fun h34 => ?_) (fun h34 => ?_)
      · refine qx_iincN C dX0_sellers_73 rfl ?_
        refine qx_goto C (tgt := 6) dX0_sellers_76 (by decide) ?_
        exact (qx_to hki (by first | rfl | simp [gSell, qf, h23, h34]) (by first | rfl | simp [gSell, qf, h23, h34]))
      · refine qx_aload_n C dX0_sellers_37 rfl rfl ?_
        refine qx_getR C (j := 14) (k := 6) hiX0 rfl rfl (by decide) qw_112 rfl dX0_sellers_38 ?_
        refine qx_iload C dX0_sellers_41 rfl ?_
        refine qx_ialdN C (j := 20) rfl ⟨by omega, by decide⟩ dX0_sellers_43 ?_
        refine qx_iload_n C dX0_sellers_44 rfl rfl ?_
        refine qx_icmp_lt C (tgt := 73) dX0_sellers_45 (by decide) (fun h45 => ?_) (fun h45 => ?_)
        · refine qx_iincN C dX0_sellers_73 rfl ?_
          refine qx_goto C (tgt := 6) dX0_sellers_76 (by decide) ?_
          exact (qx_to hki (by first | rfl | simp [gSell, qf, h23, h34, h45]) (by first | rfl | simp [gSell, qf, h23, h34, h45]))
        · refine qx_aload_n C dX0_sellers_48 rfl rfl ?_
          refine qx_getR C (j := 14) (k := 6) hiX0 rfl rfl (by decide) qw_112 rfl dX0_sellers_49 ?_
          refine qx_iload C dX0_sellers_52 rfl ?_
          refine qx_ialdN C (j := 20) rfl ⟨by omega, by decide⟩ dX0_sellers_54 ?_
          refine qx_iload_n C dX0_sellers_55 rfl rfl ?_
          refine qx_icmp_gt C (tgt := 73) dX0_sellers_56 (by decide) (fun h56 => ?_) (fun h56 => ?_)
          · refine qx_iincN C dX0_sellers_73 rfl ?_
            refine qx_goto C (tgt := 6) dX0_sellers_76 (by decide) ?_
            exact (qx_to hki (by first | rfl | simp [gSell, qf, h23, h34, h45, h56]) (by first | rfl | simp [gSell, qf, h23, h34, h45, h56]))
          · refine qx_iload C dX0_sellers_59 rfl ?_
            refine qx_iconst C (v := 1) dX0_sellers_61 rfl ?_
            refine qx_aload_n C dX0_sellers_62 rfl rfl ?_
            refine qx_getR C (j := 14) (k := 5) hiX0 rfl rfl (by decide) qw_111 rfl dX0_sellers_63 ?_
            refine qx_iload C dX0_sellers_66 rfl ?_
            refine qx_ialdN C (j := 19) rfl ⟨by omega, by decide⟩ dX0_sellers_68 ?_
            refine qx_ishl C dX0_sellers_69 ?_
            refine qx_ior C dX0_sellers_70 ?_
            refine qx_istore C dX0_sellers_71 (Nat.le_of_ble_eq_true rfl) ?_
            refine qx_iincN C dX0_sellers_73 rfl ?_
            refine qx_goto C (tgt := 6) dX0_sellers_76 (by decide) ?_
            exact (qx_to hki (by first | rfl | simp [gSell, qf, h23, h34, h45, h56]) (by first | rfl | simp [gSell, qf, h23, h34, h45, h56]))
  · refine qx_iload C dX0_sellers_6 rfl ?_
    refine qx_aload_n C dX0_sellers_8 rfl rfl ?_
    refine qx_getI C (j := 14) (k := 0) hiX0 rfl rfl (by decide) qw_101 rfl dX0_sellers_9 ?_
    refine qx_icmp_ge_t C (tgt := 79) dX0_sellers_12 (by decide) (by rw [hn]; exact nI_le (Nat.le_refl _) (by omega)) ?_
    refine qx_iload C dX0_sellers_79 rfl ?_
    exact qx_iret C dX0_sellers_81 rfl rfl rfl
