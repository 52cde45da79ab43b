section QXS
variable {K : qx_K} {F : qx_F} {sh : qx_H} {cc : ByteArray} {own : String} {ret : Option FieldType} {R : Room} {Qc : Array Value → State → Outcome → State → Prop} {σ : qx_S} {pc : Nat} {ls : List (Option Value)} {st : List Value}
theorem qx_abs (C : qx_C K F sh cc own ret R Qc) {idx : Nat} {x : Int32} (h1 : Cond.methodLink own idx Lib.Math.abs.name ∈ qx_W) (h2 : Cond.static Lib.Math.abs.name ∈ qx_W) (h3 : Cond.initialized "java/lang/Math" ∈ qx_W) (h4 : Cond.code Lib.Math.abs.name Lib.Math.abs.code 1 (some .int) ∈ qx_W) (hR : 1 ≤ R.frames ∧ 40 ≤ R.locals) (hroom : (st.map fun v => v.category).sum ≤ 8) (hd : decode cc pc = .ok (.invokestatic idx, 3)) (kk : qx_X K F sh σ (pc + 3) ls (.int (if 0 ≤ x then x else 0 - x) :: st)) : qx_X K F sh σ pc ls (.int x :: st) := by
  intro H locs arr hP hD hS hL
  have eR : kR K = R := C.2.2.2.2.2.2.2.2.2.2.1
  have hts := C.2.2.2.2.1
  exact va_mabs C.1 C.2.1 (C.2.2.1.trans hL.1.1.symm) C.2.2.2.1 (hts _ h1) (hts _ h2) (hts _ h3) (hts _ h4) (by rw [eR]; exact hR.1) (by rw [eR]; omega) (Nat.zero_le _) (Nat.zero_le _) hd (kk H locs arr hP hD hS hL)
theorem qx_min (C : qx_C K F sh cc own ret R Qc) {idx : Nat} {x y : Int32} (h1 : Cond.methodLink own idx Lib.Math.min.name ∈ qx_W) (h2 : Cond.static Lib.Math.min.name ∈ qx_W) (h3 : Cond.initialized "java/lang/Math" ∈ qx_W) (h4 : Cond.code Lib.Math.min.name Lib.Math.min.code 2 (some .int) ∈ qx_W) (hR : 1 ≤ R.frames ∧ 40 ≤ R.locals) (hroom : (st.map fun v => v.category).sum ≤ 8) (hd : decode cc pc = .ok (.invokestatic idx, 3)) (kk : qx_X K F sh σ (pc + 3) ls (.int (if y < x then y else x) :: st)) : qx_X K F sh σ pc ls (.int y :: .int x :: st) := by
  intro H locs arr hP hD hS hL
  have eR : kR K = R := C.2.2.2.2.2.2.2.2.2.2.1
  have hts := C.2.2.2.2.1
  exact va_mmin C.1 C.2.1 (C.2.2.1.trans hL.1.1.symm) C.2.2.2.1 (hts _ h1) (hts _ h2) (hts _ h3) (hts _ h4) (by rw [eR]; exact hR.1) (by rw [eR]; omega) (Nat.zero_le _) (Nat.zero_le _) hd (kk H locs arr hP hD hS hL)
def qc (σ : qx_S) (i j n : Nat) : qx_S := qx_u σ j (va_cpy (σ i) (σ j) 0 0 n)
theorem qx_copy (C : qx_C K F sh cc own ret R Qc) {idx i j n : Nat} (hi : sh[i]? = some (.inl n)) (hj : sh[j]? = some (.inl n)) (hn : n < 1000) (h1 : Cond.methodLink own idx arraycopyName ∈ qx_W) (h2 : Cond.native arraycopyName ∈ qx_W) (h3 : Cond.static arraycopyName ∈ qx_W) (h4 : Cond.initialized "java/lang/System" ∈ qx_W) (hR : 1 ≤ R.frames ∧ 40 ≤ R.locals) (hroom : (st.map fun v => v.category).sum ≤ 8) (hd : decode cc pc = .ok (.invokestatic idx, 3)) (kk : qx_X K F sh (qc σ i j n) (pc + 3) ls st) : qx_X K F sh σ pc ls (.int (nI n) :: .int 0 :: .ref (fa F j) :: .int 0 :: .ref (fa F i) :: st) := by
  intro H locs arr hP hD hS hL
  have eR : kR K = R := C.2.2.2.2.2.2.2.2.2.2.1
  have hts := C.2.2.2.2.1
  have en : (nI n).toNatClampNeg = n := nI_clamp (by omega)
  have e0 : (0 : Int32).toNatClampNeg = 0 := rfl
  have hw7 : nativeFrameWords "java/lang/System" "arraycopy" 5 = 7 := by decide
  refine va_copyi C.1 C.2.1 (C.2.2.1.trans hL.1.1.symm) C.2.2.2.1 (hts _ h1) (hts _ h2) (hts _ h3) (hts _ h4) C.2.2.2.2.2.2.2.1 hP hD hS i j i j (qx_wA σ hi) (qx_wA σ hj) (qx_tT hi) (qx_tT hj) rfl (by decide) (by decide) (nI_pos (by omega)) (by rw [en, e0]; omega) (by rw [en, e0]; omega) (fun k _ => rfl) (by rw [eR]; exact hR.1) (by rw [eR, hw7]; omega) hd (fun H1 locs1 a b c => ?_)
  rw [qx_wsA hj, en, e0] at a b
  exact kk H1 locs1 arr a b c hL
end QXS

theorem qx_room1 {a : Nat} (h : 1 ≤ a) : 1 ≤ (qx_R a).frames ∧ 40 ≤ (qx_R a).locals := by
  refine ⟨h, ?_⟩
  show 40 ≤ 40 * a
  omega
set_option maxRecDepth 20000 in
set_option maxHeartbeats 4000000 in
theorem c_X4_copyNumbers (F : qx_F) (d : Nat) (σ : qx_S) (i j n : Nat) (hi : shC[i]? = some (.inl n)) (hj : shC[j]? = some (.inl n)) (hn : n < 1000) : qx_cV F shC ⟨"NightStalls", "copyNumbers", "([I[I)V"⟩ (.code ⟨"NightStalls", "copyNumbers", "([I[I)V"⟩ prog_1_method_29_code 2 ((none : Option FieldType)) :: qx_W) (qx_R (d + 1)) [.ref (fa F i), .ref (fa F j)] σ (qc σ i j n) := by
  refine qx_met (by decide) (Nat.le_of_ble_eq_true rfl) (by intro v hv; simp only [List.mem_cons, List.not_mem_nil, or_false] at hv; rcases hv with rfl | rfl <;> rfl) (fun K C => ?_)
  refine qx_aload_n C dX4_copyNumbers_0 rfl rfl ?_
  refine qx_iconst C (v := 0) dX4_copyNumbers_1 rfl ?_
  refine qx_aload_n C dX4_copyNumbers_2 rfl rfl ?_
  refine qx_iconst C (v := 0) dX4_copyNumbers_3 rfl ?_
  refine qx_aload_n C dX4_copyNumbers_4 rfl rfl ?_
  refine qx_alen C (v := nI n) hi rfl dX4_copyNumbers_5 ?_
  refine qx_aload_n C dX4_copyNumbers_6 rfl rfl ?_
  refine qx_alen C (v := nI n) hj rfl dX4_copyNumbers_7 ?_
  refine qx_min C qw_341 qw_342 qw_45 qw_343 (qx_room1 (by omega)) (Nat.le_of_ble_eq_true rfl) dX4_copyNumbers_8 ?_
  refine qx_top (z := nI n) (if_neg (nI_nlt (Nat.le_refl n) (by omega))) ?_
  refine qx_copy C hi hj hn qw_344 qw_346 qw_345 qw_46 (qx_room1 (by omega)) (Nat.le_of_ble_eq_true rfl) dX4_copyNumbers_11 ?_
  exact qx_vret C dX4_copyNumbers_14 rfl
def bSk (σ : qx_S) : qx_S := qc (qc (qc (qc (qc (qs (qs σ 26 0 (σ 1 0)) 26 1 (qs σ 26 0 (σ 1 0) 1 1)) 2 27 24) 3 28 3) 4 29 16) 5 30 2) 6 31 30
set_option maxRecDepth 20000 in
set_option maxHeartbeats 4000000 in
theorem c_X3_becomek (F : qx_F) (d : Nat) (σ : qx_S)  : qx_cV F shC ⟨"NightStalls$Street", "become", "(LNightStalls$Street;)V"⟩ (.code ⟨"NightStalls$Street", "become", "(LNightStalls$Street;)V"⟩ prog_5_method_19_code 2 ((none : Option FieldType)) :: qx_W) (qx_R (d + 2)) [.ref (fa F 26), .ref (fa F 1)] σ (bSk σ) := by
  refine qx_met (by decide) (Nat.le_of_ble_eq_true rfl) (by intro v hv; simp only [List.mem_cons, List.not_mem_nil, or_false] at hv; rcases hv with rfl | rfl <;> rfl) (fun K C => ?_)
  refine qx_aload_n C dX3_become_0 rfl rfl ?_
  refine qx_aload_n C dX3_become_1 rfl rfl ?_
  refine qx_getI C (j := 1) (k := 0) hiX3 rfl rfl (by decide) qw_61 rfl dX3_become_2 ?_
  refine qx_put C (j := 26) (k := 0) hiX3 rfl rfl (by decide) tyX3 tyX3_ok nmX3 qw_61 rfl rfl rfl rfl dX3_become_5 ?_
  refine qx_aload_n C dX3_become_8 rfl rfl ?_
  refine qx_aload_n C dX3_become_9 rfl rfl ?_
  refine qx_getI C (j := 1) (k := 1) hiX3 rfl rfl (by decide) qw_65 rfl dX3_become_10 ?_
  refine qx_put C (j := 26) (k := 1) hiX3 rfl rfl (by decide) tyX3 tyX3_ok nmX3 qw_65 rfl rfl rfl rfl dX3_become_13 ?_
  refine qx_aload_n C dX3_become_16 rfl rfl ?_
  refine qx_getR C (j := 1) (k := 2) hiX3 rfl rfl (by decide) qw_68 rfl dX3_become_17 ?_
  refine qx_aload_n C dX3_become_20 rfl rfl ?_
  refine qx_getR C (j := 26) (k := 2) hiX3 rfl rfl (by decide) qw_68 rfl dX3_become_21 ?_
  refine qx_callNv C (As := [_, _]) (n := 2) (c_X4_copyNumbers F (d + 0) _ 2 27 24 rfl rfl (by decide)) qn_20 qw_339 qw_39 qw_340 ⟨by decide, by decide, by decide +kernel⟩ (qx_room (by omega) (by decide)) rfl rfl (Nat.le_of_ble_eq_true rfl) dX3_become_24 ?_
  refine qx_aload_n C dX3_become_27 rfl rfl ?_
  refine qx_getR C (j := 1) (k := 3) hiX3 rfl rfl (by decide) qw_69 rfl dX3_become_28 ?_
  refine qx_aload_n C dX3_become_31 rfl rfl ?_
  refine qx_getR C (j := 26) (k := 3) hiX3 rfl rfl (by decide) qw_69 rfl dX3_become_32 ?_
  refine qx_callNv C (As := [_, _]) (n := 2) (c_X4_copyNumbers F (d + 0) _ 3 28 3 rfl rfl (by decide)) qn_20 qw_339 qw_39 qw_340 ⟨by decide, by decide, by decide +kernel⟩ (qx_room (by omega) (by decide)) rfl rfl (Nat.le_of_ble_eq_true rfl) dX3_become_35 ?_
  refine qx_aload_n C dX3_become_38 rfl rfl ?_
  refine qx_getR C (j := 1) (k := 4) hiX3 rfl rfl (by decide) qw_70 rfl dX3_become_39 ?_
  refine qx_aload_n C dX3_become_42 rfl rfl ?_
  refine qx_getR C (j := 26) (k := 4) hiX3 rfl rfl (by decide) qw_70 rfl dX3_become_43 ?_
  refine qx_callNv C (As := [_, _]) (n := 2) (c_X4_copyNumbers F (d + 0) _ 4 29 16 rfl rfl (by decide)) qn_20 qw_339 qw_39 qw_340 ⟨by decide, by decide, by decide +kernel⟩ (qx_room (by omega) (by decide)) rfl rfl (Nat.le_of_ble_eq_true rfl) dX3_become_46 ?_
  refine qx_aload_n C dX3_become_49 rfl rfl ?_
  refine qx_getR C (j := 1) (k := 5) hiX3 rfl rfl (by decide) qw_71 rfl dX3_become_50 ?_
  refine qx_aload_n C dX3_become_53 rfl rfl ?_
  refine qx_getR C (j := 26) (k := 5) hiX3 rfl rfl (by decide) qw_71 rfl dX3_become_54 ?_
  refine qx_callNv C (As := [_, _]) (n := 2) (c_X4_copyNumbers F (d + 0) _ 5 30 2 rfl rfl (by decide)) qn_20 qw_339 qw_39 qw_340 ⟨by decide, by decide, by decide +kernel⟩ (qx_room (by omega) (by decide)) rfl rfl (Nat.le_of_ble_eq_true rfl) dX3_become_57 ?_
  refine qx_aload_n C dX3_become_60 rfl rfl ?_
  refine qx_getR C (j := 1) (k := 6) hiX3 rfl rfl (by decide) qw_72 rfl dX3_become_61 ?_
  refine qx_aload_n C dX3_become_64 rfl rfl ?_
  refine qx_getR C (j := 26) (k := 6) hiX3 rfl rfl (by decide) qw_72 rfl dX3_become_65 ?_
  refine qx_callNv C (As := [_, _]) (n := 2) (c_X4_copyNumbers F (d + 0) _ 6 31 30 rfl rfl (by decide)) qn_20 qw_339 qw_39 qw_340 ⟨by decide, by decide, by decide +kernel⟩ (qx_room (by omega) (by decide)) rfl rfl (Nat.le_of_ble_eq_true rfl) dX3_become_68 ?_
  exact qx_vret C dX3_become_71 rfl
def bSb (σ : qx_S) : qx_S := qc (qc (qc (qc (qc (qs (qs σ 1 0 (σ 26 0)) 1 1 (qs σ 1 0 (σ 26 0) 26 1)) 27 2 24) 28 3 3) 29 4 16) 30 5 2) 31 6 30
set_option maxRecDepth 20000 in
set_option maxHeartbeats 4000000 in
theorem c_X3_becomeb (F : qx_F) (d : Nat) (σ : qx_S)  : qx_cV F shC ⟨"NightStalls$Street", "become", "(LNightStalls$Street;)V"⟩ (.code ⟨"NightStalls$Street", "become", "(LNightStalls$Street;)V"⟩ prog_5_method_19_code 2 ((none : Option FieldType)) :: qx_W) (qx_R (d + 2)) [.ref (fa F 1), .ref (fa F 26)] σ (bSb σ) := by
  refine qx_met (by decide) (Nat.le_of_ble_eq_true rfl) (by intro v hv; simp only [List.mem_cons, List.not_mem_nil, or_false] at hv; rcases hv with rfl | rfl <;> rfl) (fun K C => ?_)
  refine qx_aload_n C dX3_become_0 rfl rfl ?_
  refine qx_aload_n C dX3_become_1 rfl rfl ?_
  refine qx_getI C (j := 26) (k := 0) hiX3 rfl rfl (by decide) qw_61 rfl dX3_become_2 ?_
  refine qx_put C (j := 1) (k := 0) hiX3 rfl rfl (by decide) tyX3 tyX3_ok nmX3 qw_61 rfl rfl rfl rfl dX3_become_5 ?_
  refine qx_aload_n C dX3_become_8 rfl rfl ?_
  refine qx_aload_n C dX3_become_9 rfl rfl ?_
  refine qx_getI C (j := 26) (k := 1) hiX3 rfl rfl (by decide) qw_65 rfl dX3_become_10 ?_
  refine qx_put C (j := 1) (k := 1) hiX3 rfl rfl (by decide) tyX3 tyX3_ok nmX3 qw_65 rfl rfl rfl rfl dX3_become_13 ?_
  refine qx_aload_n C dX3_become_16 rfl rfl ?_
  refine qx_getR C (j := 26) (k := 2) hiX3 rfl rfl (by decide) qw_68 rfl dX3_become_17 ?_
  refine qx_aload_n C dX3_become_20 rfl rfl ?_
  refine qx_getR C (j := 1) (k := 2) hiX3 rfl rfl (by decide) qw_68 rfl dX3_become_21 ?_
  refine qx_callNv C (As := [_, _]) (n := 2) (c_X4_copyNumbers F (d + 0) _ 27 2 24 rfl rfl (by decide)) qn_20 qw_339 qw_39 qw_340 ⟨by decide, by decide, by decide +kernel⟩ (qx_room (by omega) (by decide)) rfl rfl (Nat.le_of_ble_eq_true rfl) dX3_become_24 ?_
  refine qx_aload_n C dX3_become_27 rfl rfl ?_
  refine qx_getR C (j := 26) (k := 3) hiX3 rfl rfl (by decide) qw_69 rfl dX3_become_28 ?_
  refine qx_aload_n C dX3_become_31 rfl rfl ?_
  refine qx_getR C (j := 1) (k := 3) hiX3 rfl rfl (by decide) qw_69 rfl dX3_become_32 ?_
  refine qx_callNv C (As := [_, _]) (n := 2) (c_X4_copyNumbers F (d + 0) _ 28 3 3 rfl rfl (by decide)) qn_20 qw_339 qw_39 qw_340 ⟨by decide, by decide, by decide +kernel⟩ (qx_room (by omega) (by decide)) rfl rfl (Nat.le_of_ble_eq_true rfl) dX3_become_35 ?_
  refine qx_aload_n C dX3_become_38 rfl rfl ?_
  refine qx_getR C (j := 26) (k := 4) hiX3 rfl rfl (by decide) qw_70 rfl dX3_become_39 ?_
  refine qx_aload_n C dX3_become_42 rfl rfl ?_
  refine qx_getR C (j := 1) (k := 4) hiX3 rfl rfl (by decide) qw_70 rfl dX3_become_43 ?_
  refine qx_callNv C (As := [_, _]) (n := 2) (c_X4_copyNumbers F (d + 0) _ 29 4 16 rfl rfl (by decide)) qn_20 qw_339 qw_39 qw_340 ⟨by decide, by decide, by decide +kernel⟩ (qx_room (by omega) (by decide)) rfl rfl (Nat.le_of_ble_eq_true rfl) dX3_become_46 ?_
  refine qx_aload_n C dX3_become_49 rfl rfl ?_
  refine qx_getR C (j := 26) (k := 5) hiX3 rfl rfl (by decide) qw_71 rfl dX3_become_50 ?_
  refine qx_aload_n C dX3_become_53 rfl rfl ?_
  refine qx_getR C (j := 1) (k := 5) hiX3 rfl rfl (by decide) qw_71 rfl dX3_become_54 ?_
  refine qx_callNv C (As := [_, _]) (n := 2) (c_X4_copyNumbers F (d + 0) _ 30 5 2 rfl rfl (by decide)) qn_20 qw_339 qw_39 qw_340 ⟨by decide, by decide, by decide +kernel⟩ (qx_room (by omega) (by decide)) rfl rfl (Nat.le_of_ble_eq_true rfl) dX3_become_57 ?_
  refine qx_aload_n C dX3_become_60 rfl rfl ?_
  refine qx_getR C (j := 26) (k := 6) hiX3 rfl rfl (by decide) qw_72 rfl dX3_become_61 ?_
  refine qx_aload_n C dX3_become_64 rfl rfl ?_
  refine qx_getR C (j := 1) (k := 6) hiX3 rfl rfl (by decide) qw_72 rfl dX3_become_65 ?_
  refine qx_callNv C (As := [_, _]) (n := 2) (c_X4_copyNumbers F (d + 0) _ 31 6 30 rfl rfl (by decide)) qn_20 qw_339 qw_39 qw_340 ⟨by decide, by decide, by decide +kernel⟩ (qx_room (by omega) (by decide)) rfl rfl (Nat.le_of_ble_eq_true rfl) dX3_become_68 ?_
  exact qx_vret C dX3_become_71 rfl
def bGk (σ : qx_S) : qx_S := qc (qc (qc (qc (qc (qc (qs σ 39 0 (σ 14 0)) 15 40 20) 16 41 20) 17 42 20) 18 43 20) 19 44 20) 20 45 20
set_option maxRecDepth 20000 in
set_option maxHeartbeats 4000000 in
theorem c_X0_becomek (F : qx_F) (d : Nat) (σ : qx_S)  : qx_cV F shC ⟨"NightStalls$Guests", "become", "(LNightStalls$Guests;)V"⟩ (.code ⟨"NightStalls$Guests", "become", "(LNightStalls$Guests;)V"⟩ prog_2_method_12_code 2 ((none : Option FieldType)) :: qx_W) (qx_R (d + 2)) [.ref (fa F 39), .ref (fa F 14)] σ (bGk σ) := by
  refine qx_met (by decide) (Nat.le_of_ble_eq_true rfl) (by intro v hv; simp only [List.mem_cons, List.not_mem_nil, or_false] at hv; rcases hv with rfl | rfl <;> rfl) (fun K C => ?_)
  refine qx_aload_n C dX0_become_0 rfl rfl ?_
  refine qx_aload_n C dX0_become_1 rfl rfl ?_
  refine qx_getI C (j := 14) (k := 0) hiX0 rfl rfl (by decide) qw_101 rfl dX0_become_2 ?_
  refine qx_put C (j := 39) (k := 0) hiX0 rfl rfl (by decide) tyX0 tyX0_ok nmX0 qw_101 rfl rfl rfl rfl dX0_become_5 ?_
  refine qx_aload_n C dX0_become_8 rfl rfl ?_
  refine qx_getR C (j := 14) (k := 1) hiX0 rfl rfl (by decide) qw_104 rfl dX0_become_9 ?_
  refine qx_aload_n C dX0_become_12 rfl rfl ?_
  refine qx_getR C (j := 39) (k := 1) hiX0 rfl rfl (by decide) qw_104 rfl dX0_become_13 ?_
  refine qx_callNv C (As := [_, _]) (n := 2) (c_X4_copyNumbers F (d + 0) _ 15 40 20 rfl rfl (by decide)) qn_16 qw_339 qw_39 qw_340 ⟨by decide, by decide, by decide +kernel⟩ (qx_room (by omega) (by decide)) rfl rfl (Nat.le_of_ble_eq_true rfl) dX0_become_16 ?_
  refine qx_aload_n C dX0_become_19 rfl rfl ?_
  refine qx_getR C (j := 14) (k := 2) hiX0 rfl rfl (by decide) qw_106 rfl dX0_become_20 ?_
  refine qx_aload_n C dX0_become_23 rfl rfl ?_
  refine qx_getR C (j := 39) (k := 2) hiX0 rfl rfl (by decide) qw_106 rfl dX0_become_24 ?_
  refine qx_callNv C (As := [_, _]) (n := 2) (c_X4_copyNumbers F (d + 0) _ 16 41 20 rfl rfl (by decide)) qn_16 qw_339 qw_39 qw_340 ⟨by decide, by decide, by decide +kernel⟩ (qx_room (by omega) (by decide)) rfl rfl (Nat.le_of_ble_eq_true rfl) dX0_become_27 ?_
  refine qx_aload_n C dX0_become_30 rfl rfl ?_
  refine qx_getR C (j := 14) (k := 3) hiX0 rfl rfl (by decide) qw_108 rfl dX0_become_31 ?_
  refine qx_aload_n C dX0_become_34 rfl rfl ?_
  refine qx_getR C (j := 39) (k := 3) hiX0 rfl rfl (by decide) qw_108 rfl dX0_become_35 ?_
  refine qx_callNv C (As := [_, _]) (n := 2) (c_X4_copyNumbers F (d + 0) _ 17 42 20 rfl rfl (by decide)) qn_16 qw_339 qw_39 qw_340 ⟨by decide, by decide, by decide +kernel⟩ (qx_room (by omega) (by decide)) rfl rfl (Nat.le_of_ble_eq_true rfl) dX0_become_38 ?_
  refine qx_aload_n C dX0_become_41 rfl rfl ?_
  refine qx_getR C (j := 14) (k := 4) hiX0 rfl rfl (by decide) qw_109 rfl dX0_become_42 ?_
  refine qx_aload_n C dX0_become_45 rfl rfl ?_
  refine qx_getR C (j := 39) (k := 4) hiX0 rfl rfl (by decide) qw_109 rfl dX0_become_46 ?_
  refine qx_callNv C (As := [_, _]) (n := 2) (c_X4_copyNumbers F (d + 0) _ 18 43 20 rfl rfl (by decide)) qn_16 qw_339 qw_39 qw_340 ⟨by decide, by decide, by decide +kernel⟩ (qx_room (by omega) (by decide)) rfl rfl (Nat.le_of_ble_eq_true rfl) dX0_become_49 ?_
  refine qx_aload_n C dX0_become_52 rfl rfl ?_
  refine qx_getR C (j := 14) (k := 5) hiX0 rfl rfl (by decide) qw_111 rfl dX0_become_53 ?_
  refine qx_aload_n C dX0_become_56 rfl rfl ?_
  refine qx_getR C (j := 39) (k := 5) hiX0 rfl rfl (by decide) qw_111 rfl dX0_become_57 ?_
  refine qx_callNv C (As := [_, _]) (n := 2) (c_X4_copyNumbers F (d + 0) _ 19 44 20 rfl rfl (by decide)) qn_16 qw_339 qw_39 qw_340 ⟨by decide, by decide, by decide +kernel⟩ (qx_room (by omega) (by decide)) rfl rfl (Nat.le_of_ble_eq_true rfl) dX0_become_60 ?_
  refine qx_aload_n C dX0_become_63 rfl rfl ?_
  refine qx_getR C (j := 14) (k := 6) hiX0 rfl rfl (by decide) qw_112 rfl dX0_become_64 ?_
  refine qx_aload_n C dX0_become_67 rfl rfl ?_
  refine qx_getR C (j := 39) (k := 6) hiX0 rfl rfl (by decide) qw_112 rfl dX0_become_68 ?_
  refine qx_callNv C (As := [_, _]) (n := 2) (c_X4_copyNumbers F (d + 0) _ 20 45 20 rfl rfl (by decide)) qn_16 qw_339 qw_39 qw_340 ⟨by decide, by decide, by decide +kernel⟩ (qx_room (by omega) (by decide)) rfl rfl (Nat.le_of_ble_eq_true rfl) dX0_become_71 ?_
  exact qx_vret C dX0_become_74 rfl
def bGb (σ : qx_S) : qx_S := qc (qc (qc (qc (qc (qc (qs σ 14 0 (σ 39 0)) 40 15 20) 41 16 20) 42 17 20) 43 18 20) 44 19 20) 45 20 20
set_option maxRecDepth 20000 in
set_option maxHeartbeats 4000000 in
theorem c_X0_becomeb (F : qx_F) (d : Nat) (σ : qx_S)  : qx_cV F shC ⟨"NightStalls$Guests", "become", "(LNightStalls$Guests;)V"⟩ (.code ⟨"NightStalls$Guests", "become", "(LNightStalls$Guests;)V"⟩ prog_2_method_12_code 2 ((none : Option FieldType)) :: qx_W) (qx_R (d + 2)) [.ref (fa F 14), .ref (fa F 39)] σ (bGb σ) := by
  refine qx_met (by decide) (Nat.le_of_ble_eq_true rfl) (by intro v hv; simp only [List.mem_cons, List.not_mem_nil, or_false] at hv; rcases hv with rfl | rfl <;> rfl) (fun K C => ?_)
  refine qx_aload_n C dX0_become_0 rfl rfl ?_
  refine qx_aload_n C dX0_become_1 rfl rfl ?_
  refine qx_getI C (j := 39) (k := 0) hiX0 rfl rfl (by decide) qw_101 rfl dX0_become_2 ?_
  refine qx_put C (j := 14) (k := 0) hiX0 rfl rfl (by decide) tyX0 tyX0_ok nmX0 qw_101 rfl rfl rfl rfl dX0_become_5 ?_
  refine qx_aload_n C dX0_become_8 rfl rfl ?_
  refine qx_getR C (j := 39) (k := 1) hiX0 rfl rfl (by decide) qw_104 rfl dX0_become_9 ?_
  refine qx_aload_n C dX0_become_12 rfl rfl ?_
  refine qx_getR C (j := 14) (k := 1) hiX0 rfl rfl (by decide) qw_104 rfl dX0_become_13 ?_
  refine qx_callNv C (As := [_, _]) (n := 2) (c_X4_copyNumbers F (d + 0) _ 40 15 20 rfl rfl (by decide)) qn_16 qw_339 qw_39 qw_340 ⟨by decide, by decide, by decide +kernel⟩ (qx_room (by omega) (by decide)) rfl rfl (Nat.le_of_ble_eq_true rfl) dX0_become_16 ?_
  refine qx_aload_n C dX0_become_19 rfl rfl ?_
  refine qx_getR C (j := 39) (k := 2) hiX0 rfl rfl (by decide) qw_106 rfl dX0_become_20 ?_
  refine qx_aload_n C dX0_become_23 rfl rfl ?_
  refine qx_getR C (j := 14) (k := 2) hiX0 rfl rfl (by decide) qw_106 rfl dX0_become_24 ?_
  refine qx_callNv C (As := [_, _]) (n := 2) (c_X4_copyNumbers F (d + 0) _ 41 16 20 rfl rfl (by decide)) qn_16 qw_339 qw_39 qw_340 ⟨by decide, by decide, by decide +kernel⟩ (qx_room (by omega) (by decide)) rfl rfl (Nat.le_of_ble_eq_true rfl) dX0_become_27 ?_
  refine qx_aload_n C dX0_become_30 rfl rfl ?_
  refine qx_getR C (j := 39) (k := 3) hiX0 rfl rfl (by decide) qw_108 rfl dX0_become_31 ?_
  refine qx_aload_n C dX0_become_34 rfl rfl ?_
  refine qx_getR C (j := 14) (k := 3) hiX0 rfl rfl (by decide) qw_108 rfl dX0_become_35 ?_
  refine qx_callNv C (As := [_, _]) (n := 2) (c_X4_copyNumbers F (d + 0) _ 42 17 20 rfl rfl (by decide)) qn_16 qw_339 qw_39 qw_340 ⟨by decide, by decide, by decide +kernel⟩ (qx_room (by omega) (by decide)) rfl rfl (Nat.le_of_ble_eq_true rfl) dX0_become_38 ?_
  refine qx_aload_n C dX0_become_41 rfl rfl ?_
  refine qx_getR C (j := 39) (k := 4) hiX0 rfl rfl (by decide) qw_109 rfl dX0_become_42 ?_
  refine qx_aload_n C dX0_become_45 rfl rfl ?_
  refine qx_getR C (j := 14) (k := 4) hiX0 rfl rfl (by decide) qw_109 rfl dX0_become_46 ?_
  refine qx_callNv C (As := [_, _]) (n := 2) (c_X4_copyNumbers F (d + 0) _ 43 18 20 rfl rfl (by decide)) qn_16 qw_339 qw_39 qw_340 ⟨by decide, by decide, by decide +kernel⟩ (qx_room (by omega) (by decide)) rfl rfl (Nat.le_of_ble_eq_true rfl) dX0_become_49 ?_
  refine qx_aload_n C dX0_become_52 rfl rfl ?_
  refine qx_getR C (j := 39) (k := 5) hiX0 rfl rfl (by decide) qw_111 rfl dX0_become_53 ?_
  refine qx_aload_n C dX0_become_56 rfl rfl ?_
  refine qx_getR C (j := 14) (k := 5) hiX0 rfl rfl (by decide) qw_111 rfl dX0_become_57 ?_
  refine qx_callNv C (As := [_, _]) (n := 2) (c_X4_copyNumbers F (d + 0) _ 44 19 20 rfl rfl (by decide)) qn_16 qw_339 qw_39 qw_340 ⟨by decide, by decide, by decide +kernel⟩ (qx_room (by omega) (by decide)) rfl rfl (Nat.le_of_ble_eq_true rfl) dX0_become_60 ?_
  refine qx_aload_n C dX0_become_63 rfl rfl ?_
  refine qx_getR C (j := 39) (k := 6) hiX0 rfl rfl (by decide) qw_112 rfl dX0_become_64 ?_
  refine qx_aload_n C dX0_become_67 rfl rfl ?_
  refine qx_getR C (j := 14) (k := 6) hiX0 rfl rfl (by decide) qw_112 rfl dX0_become_68 ?_
  refine qx_callNv C (As := [_, _]) (n := 2) (c_X4_copyNumbers F (d + 0) _ 45 20 20 rfl rfl (by decide)) qn_16 qw_339 qw_39 qw_340 ⟨by decide, by decide, by decide +kernel⟩ (qx_room (by omega) (by decide)) rfl rfl (Nat.le_of_ble_eq_true rfl) dX0_become_71 ?_
  exact qx_vret C dX0_become_74 rfl
theorem qx_nb {v : Int32} (h : v = 0 ∨ v = 1) : narrow .boolean (.int v) = .int v ∧ fits .boolean (.int v) = true := by
  rcases h with rfl | rfl <;> exact ⟨rfl, rfl⟩
def bNk (σ : qx_S) : qx_S := qc (qc (qc (qc (qc (qc (bGk (qs (qs σ 32 2 (σ 7 2)) 32 3 (qs σ 32 2 (σ 7 2) 7 3))) 8 33 5) 9 34 5) 10 35 5) 11 36 5) 12 37 3) 13 38 3
set_option maxRecDepth 20000 in
set_option maxHeartbeats 4000000 in
theorem c_X1_becomek (F : qx_F) (d : Nat) (σ : qx_S) (hb : σ 7 2 = 0 ∨ σ 7 2 = 1) : qx_cV F shC ⟨"NightStalls$Night", "become", "(LNightStalls$Night;)V"⟩ (.code ⟨"NightStalls$Night", "become", "(LNightStalls$Night;)V"⟩ prog_3_method_18_code 2 ((none : Option FieldType)) :: qx_W) (qx_R (d + 3)) [.ref (fa F 32), .ref (fa F 7)] σ (bNk σ) := by
  refine qx_met (by decide) (Nat.le_of_ble_eq_true rfl) (by intro v hv; simp only [List.mem_cons, List.not_mem_nil, or_false] at hv; rcases hv with rfl | rfl <;> rfl) (fun K C => ?_)
  refine qx_aload_n C dX1_become_0 rfl rfl ?_
  refine qx_aload_n C dX1_become_1 rfl rfl ?_
  refine qx_getI C (j := 7) (k := 2) hiX1 rfl rfl (by decide) qw_132 rfl dX1_become_2 ?_
  refine qx_put C (j := 32) (k := 2) hiX1 rfl rfl (by decide) tyX1 tyX1_ok nmX1 qw_132 rfl (qx_nb hb).1 (qx_nb hb).2 rfl dX1_become_5 ?_
  refine qx_aload_n C dX1_become_8 rfl rfl ?_
  refine qx_aload_n C dX1_become_9 rfl rfl ?_
  refine qx_getI C (j := 7) (k := 3) hiX1 rfl rfl (by decide) qw_133 rfl dX1_become_10 ?_
  refine qx_put C (j := 32) (k := 3) hiX1 rfl rfl (by decide) tyX1 tyX1_ok nmX1 qw_133 rfl rfl rfl rfl dX1_become_13 ?_
  refine qx_aload_n C dX1_become_16 rfl rfl ?_
  refine qx_getR C (j := 32) (k := 1) hiX1 rfl rfl (by decide) qw_129 rfl dX1_become_17 ?_
  refine qx_aload_n C dX1_become_20 rfl rfl ?_
  refine qx_getR C (j := 7) (k := 1) hiX1 rfl rfl (by decide) qw_129 rfl dX1_become_21 ?_
  refine qx_callVv C (b := 39) (As := [_]) (n := 1) (c_X0_becomek F (d + 0) _) rfl rfl qw_566 qw_567 qw_568 qw_42 qw_569 ⟨rfl, by decide, by decide, by decide +kernel⟩ (qx_room (by omega) (by decide)) rfl rfl (Nat.le_of_ble_eq_true rfl) dX1_become_24 ?_
  refine qx_aload_n C dX1_become_27 rfl rfl ?_
  refine qx_getR C (j := 7) (k := 4) hiX1 rfl rfl (by decide) qw_135 rfl dX1_become_28 ?_
  refine qx_aload_n C dX1_become_31 rfl rfl ?_
  refine qx_getR C (j := 32) (k := 4) hiX1 rfl rfl (by decide) qw_135 rfl dX1_become_32 ?_
  refine qx_callNv C (As := [_, _]) (n := 2) (c_X4_copyNumbers F (d + 1) _ 8 33 5 rfl rfl (by decide)) qn_17 qw_339 qw_39 qw_340 ⟨by decide, by decide, by decide +kernel⟩ (qx_room (by omega) (by decide)) rfl rfl (Nat.le_of_ble_eq_true rfl) dX1_become_35 ?_
  refine qx_aload_n C dX1_become_38 rfl rfl ?_
  refine qx_getR C (j := 7) (k := 5) hiX1 rfl rfl (by decide) qw_136 rfl dX1_become_39 ?_
  refine qx_aload_n C dX1_become_42 rfl rfl ?_
  refine qx_getR C (j := 32) (k := 5) hiX1 rfl rfl (by decide) qw_136 rfl dX1_become_43 ?_
  refine qx_callNv C (As := [_, _]) (n := 2) (c_X4_copyNumbers F (d + 1) _ 9 34 5 rfl rfl (by decide)) qn_17 qw_339 qw_39 qw_340 ⟨by decide, by decide, by decide +kernel⟩ (qx_room (by omega) (by decide)) rfl rfl (Nat.le_of_ble_eq_true rfl) dX1_become_46 ?_
  refine qx_aload_n C dX1_become_49 rfl rfl ?_
  refine qx_getR C (j := 7) (k := 6) hiX1 rfl rfl (by decide) qw_137 rfl dX1_become_50 ?_
  refine qx_aload_n C dX1_become_53 rfl rfl ?_
  refine qx_getR C (j := 32) (k := 6) hiX1 rfl rfl (by decide) qw_137 rfl dX1_become_54 ?_
  refine qx_callNv C (As := [_, _]) (n := 2) (c_X4_copyNumbers F (d + 1) _ 10 35 5 rfl rfl (by decide)) qn_17 qw_339 qw_39 qw_340 ⟨by decide, by decide, by decide +kernel⟩ (qx_room (by omega) (by decide)) rfl rfl (Nat.le_of_ble_eq_true rfl) dX1_become_57 ?_
  refine qx_aload_n C dX1_become_60 rfl rfl ?_
  refine qx_getR C (j := 7) (k := 7) hiX1 rfl rfl (by decide) qw_138 rfl dX1_become_61 ?_
  refine qx_aload_n C dX1_become_64 rfl rfl ?_
  refine qx_getR C (j := 32) (k := 7) hiX1 rfl rfl (by decide) qw_138 rfl dX1_become_65 ?_
  refine qx_callNv C (As := [_, _]) (n := 2) (c_X4_copyNumbers F (d + 1) _ 11 36 5 rfl rfl (by decide)) qn_17 qw_339 qw_39 qw_340 ⟨by decide, by decide, by decide +kernel⟩ (qx_room (by omega) (by decide)) rfl rfl (Nat.le_of_ble_eq_true rfl) dX1_become_68 ?_
  refine qx_aload_n C dX1_become_71 rfl rfl ?_
  refine qx_getR C (j := 7) (k := 8) hiX1 rfl rfl (by decide) qw_139 rfl dX1_become_72 ?_
  refine qx_aload_n C dX1_become_75 rfl rfl ?_
  refine qx_getR C (j := 32) (k := 8) hiX1 rfl rfl (by decide) qw_139 rfl dX1_become_76 ?_
  refine qx_callNv C (As := [_, _]) (n := 2) (c_X4_copyNumbers F (d + 1) _ 12 37 3 rfl rfl (by decide)) qn_17 qw_339 qw_39 qw_340 ⟨by decide, by decide, by decide +kernel⟩ (qx_room (by omega) (by decide)) rfl rfl (Nat.le_of_ble_eq_true rfl) dX1_become_79 ?_
  refine qx_aload_n C dX1_become_82 rfl rfl ?_
  refine qx_getR C (j := 7) (k := 9) hiX1 rfl rfl (by decide) qw_141 rfl dX1_become_83 ?_
  refine qx_aload_n C dX1_become_86 rfl rfl ?_
  refine qx_getR C (j := 32) (k := 9) hiX1 rfl rfl (by decide) qw_141 rfl dX1_become_87 ?_
  refine qx_callNv C (As := [_, _]) (n := 2) (c_X4_copyNumbers F (d + 1) _ 13 38 3 rfl rfl (by decide)) qn_17 qw_339 qw_39 qw_340 ⟨by decide, by decide, by decide +kernel⟩ (qx_room (by omega) (by decide)) rfl rfl (Nat.le_of_ble_eq_true rfl) dX1_become_90 ?_
  exact qx_vret C dX1_become_93 rfl
def bNb (σ : qx_S) : qx_S := qc (qc (qc (qc (qc (qc (bGb (qs (qs σ 7 2 (σ 32 2)) 7 3 (qs σ 7 2 (σ 32 2) 32 3))) 33 8 5) 34 9 5) 35 10 5) 36 11 5) 37 12 3) 38 13 3
set_option maxRecDepth 20000 in
set_option maxHeartbeats 4000000 in
theorem c_X1_becomeb (F : qx_F) (d : Nat) (σ : qx_S) (hb : σ 32 2 = 0 ∨ σ 32 2 = 1) : qx_cV F shC ⟨"NightStalls$Night", "become", "(LNightStalls$Night;)V"⟩ (.code ⟨"NightStalls$Night", "become", "(LNightStalls$Night;)V"⟩ prog_3_method_18_code 2 ((none : Option FieldType)) :: qx_W) (qx_R (d + 3)) [.ref (fa F 7), .ref (fa F 32)] σ (bNb σ) := by
  refine qx_met (by decide) (Nat.le_of_ble_eq_true rfl) (by intro v hv; simp only [List.mem_cons, List.not_mem_nil, or_false] at hv; rcases hv with rfl | rfl <;> rfl) (fun K C => ?_)
  refine qx_aload_n C dX1_become_0 rfl rfl ?_
  refine qx_aload_n C dX1_become_1 rfl rfl ?_
  refine qx_getI C (j := 32) (k := 2) hiX1 rfl rfl (by decide) qw_132 rfl dX1_become_2 ?_
  refine qx_put C (j := 7) (k := 2) hiX1 rfl rfl (by decide) tyX1 tyX1_ok nmX1 qw_132 rfl (qx_nb hb).1 (qx_nb hb).2 rfl dX1_become_5 ?_
  refine qx_aload_n C dX1_become_8 rfl rfl ?_
  refine qx_aload_n C dX1_become_9 rfl rfl ?_
  refine qx_getI C (j := 32) (k := 3) hiX1 rfl rfl (by decide) qw_133 rfl dX1_become_10 ?_
  refine qx_put C (j := 7) (k := 3) hiX1 rfl rfl (by decide) tyX1 tyX1_ok nmX1 qw_133 rfl rfl rfl rfl dX1_become_13 ?_
  refine qx_aload_n C dX1_become_16 rfl rfl ?_
  refine qx_getR C (j := 7) (k := 1) hiX1 rfl rfl (by decide) qw_129 rfl dX1_become_17 ?_
  refine qx_aload_n C dX1_become_20 rfl rfl ?_
  refine qx_getR C (j := 32) (k := 1) hiX1 rfl rfl (by decide) qw_129 rfl dX1_become_21 ?_
  refine qx_callVv C (b := 14) (As := [_]) (n := 1) (c_X0_becomeb F (d + 0) _) rfl rfl qw_566 qw_567 qw_568 qw_42 qw_569 ⟨rfl, by decide, by decide, by decide +kernel⟩ (qx_room (by omega) (by decide)) rfl rfl (Nat.le_of_ble_eq_true rfl) dX1_become_24 ?_
  refine qx_aload_n C dX1_become_27 rfl rfl ?_
  refine qx_getR C (j := 32) (k := 4) hiX1 rfl rfl (by decide) qw_135 rfl dX1_become_28 ?_
  refine qx_aload_n C dX1_become_31 rfl rfl ?_
  refine qx_getR C (j := 7) (k := 4) hiX1 rfl rfl (by decide) qw_135 rfl dX1_become_32 ?_
  refine qx_callNv C (As := [_, _]) (n := 2) (c_X4_copyNumbers F (d + 1) _ 33 8 5 rfl rfl (by decide)) qn_17 qw_339 qw_39 qw_340 ⟨by decide, by decide, by decide +kernel⟩ (qx_room (by omega) (by decide)) rfl rfl (Nat.le_of_ble_eq_true rfl) dX1_become_35 ?_
  refine qx_aload_n C dX1_become_38 rfl rfl ?_
  refine qx_getR C (j := 32) (k := 5) hiX1 rfl rfl (by decide) qw_136 rfl dX1_become_39 ?_
  refine qx_aload_n C dX1_become_42 rfl rfl ?_
  refine qx_getR C (j := 7) (k := 5) hiX1 rfl rfl (by decide) qw_136 rfl dX1_become_43 ?_
  refine qx_callNv C (As := [_, _]) (n := 2) (c_X4_copyNumbers F (d + 1) _ 34 9 5 rfl rfl (by decide)) qn_17 qw_339 qw_39 qw_340 ⟨by decide, by decide, by decide +kernel⟩ (qx_room (by omega) (by decide)) rfl rfl (Nat.le_of_ble_eq_true rfl) dX1_become_46 ?_
  refine qx_aload_n C dX1_become_49 rfl rfl ?_
  refine qx_getR C (j := 32) (k := 6) hiX1 rfl rfl (by decide) qw_137 rfl dX1_become_50 ?_
  refine qx_aload_n C dX1_become_53 rfl rfl ?_
  refine qx_getR C (j := 7) (k := 6) hiX1 rfl rfl (by decide) qw_137 rfl dX1_become_54 ?_
  refine qx_callNv C (As := [_, _]) (n := 2) (c_X4_copyNumbers F (d + 1) _ 35 10 5 rfl rfl (by decide)) qn_17 qw_339 qw_39 qw_340 ⟨by decide, by decide, by decide +kernel⟩ (qx_room (by omega) (by decide)) rfl rfl (Nat.le_of_ble_eq_true rfl) dX1_become_57 ?_
  refine qx_aload_n C dX1_become_60 rfl rfl ?_
  refine qx_getR C (j := 32) (k := 7) hiX1 rfl rfl (by decide) qw_138 rfl dX1_become_61 ?_
  refine qx_aload_n C dX1_become_64 rfl rfl ?_
  refine qx_getR C (j := 7) (k := 7) hiX1 rfl rfl (by decide) qw_138 rfl dX1_become_65 ?_
  refine qx_callNv C (As := [_, _]) (n := 2) (c_X4_copyNumbers F (d + 1) _ 36 11 5 rfl rfl (by decide)) qn_17 qw_339 qw_39 qw_340 ⟨by decide, by decide, by decide +kernel⟩ (qx_room (by omega) (by decide)) rfl rfl (Nat.le_of_ble_eq_true rfl) dX1_become_68 ?_
  refine qx_aload_n C dX1_become_71 rfl rfl ?_
  refine qx_getR C (j := 32) (k := 8) hiX1 rfl rfl (by decide) qw_139 rfl dX1_become_72 ?_
  refine qx_aload_n C dX1_become_75 rfl rfl ?_
  refine qx_getR C (j := 7) (k := 8) hiX1 rfl rfl (by decide) qw_139 rfl dX1_become_76 ?_
  refine qx_callNv C (As := [_, _]) (n := 2) (c_X4_copyNumbers F (d + 1) _ 37 12 3 rfl rfl (by decide)) qn_17 qw_339 qw_39 qw_340 ⟨by decide, by decide, by decide +kernel⟩ (qx_room (by omega) (by decide)) rfl rfl (Nat.le_of_ble_eq_true rfl) dX1_become_79 ?_
  refine qx_aload_n C dX1_become_82 rfl rfl ?_
  refine qx_getR C (j := 32) (k := 9) hiX1 rfl rfl (by decide) qw_141 rfl dX1_become_83 ?_
  refine qx_aload_n C dX1_become_86 rfl rfl ?_
  refine qx_getR C (j := 7) (k := 9) hiX1 rfl rfl (by decide) qw_141 rfl dX1_become_87 ?_
  refine qx_callNv C (As := [_, _]) (n := 2) (c_X4_copyNumbers F (d + 1) _ 38 13 3 rfl rfl (by decide)) qn_17 qw_339 qw_39 qw_340 ⟨by decide, by decide, by decide +kernel⟩ (qx_room (by omega) (by decide)) rfl rfl (Nat.le_of_ble_eq_true rfl) dX1_become_90 ?_
  exact qx_vret C dX1_become_93 rfl
