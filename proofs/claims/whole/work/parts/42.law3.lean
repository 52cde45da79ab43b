theorem lw_i7 {L i : Nat} (hL : L ≤ 3584) (hi : i ≤ L) (h : ¬ nI L - 7 < nI i) : i + 7 ≤ L := by
  rw [Int32.lt_iff_toInt_lt] at h
  have h1 : (nI L - 7).toInt = (L : Int) - 7 := pk_sub_toInt (a := L) (b := 7) (by omega) (by decide)
  rw [h1, nI_toInt (by omega)] at h
  omega
set_option maxRecDepth 20000 in
set_option maxHeartbeats 4000000 in
theorem lw_loop {K : qx_K} {G : lx_G} {b L cn sn : Nat} {xs : Nat → Int32} (C : lx_C K G b L xs) (Dd : lx_D K G) (hc : cn ≤ 600000 ∧ sn ≤ 7302250) (hL : L ≤ 3584) (R : qx_S → qx_S → Prop) (hR : LawOK R) : ∀ (f i : Nat) (σ τ : qx_S), i ≤ L → L + 1 ≤ i + f → R σ τ → lx_X K G cn sn σ τ 18 [some (.ref b), some (.ref (fa (gC G) 0)), some (.ref (fa (gM G) 0)), some (.int (nI i))] [] := by
  intro f
  induction f with
  | zero =>
    intro i σ τ h1 h2
    omega
  | succ f ih =>
    intro i σ τ hi hf h0
    obtain ⟨P, S, n, RP, RS, RL, RN, RT, RK⟩ := hR σ τ h0
    refine lx_iload_n C dL_law_18 rfl rfl ?_
    refine lx_aload_n C dL_law_19 rfl rfl ?_
    refine lx_slen C dL_law_20 ?_
    refine lx_bipush C (v := 7) dL_law_21 rfl ?_
    refine lx_isub C dL_law_23 ?_
    refine lx_icmp_gt C (tgt := 873) dL_law_24 (by decide) (fun _ => ?_) (fun h24 => ?_)
    · refine lx_iconst C (v := 1) dL_law_873 rfl ?_
      exact lx_end C hc dL_law_874
    · have hi7 := lw_i7 hL hi h24
      have kk : ∀ σ1 τ1, R σ1 τ1 → lx_X K G cn sn σ1 τ1 867 [some (.ref b), some (.ref (fa (gC G) 0)), some (.ref (fa (gM G) 0)), some (.int (nI i))] [] := by
        intro σ1 τ1 h1
        refine lx_iinc C (v := nI (i + 7)) dL_law_867 rfl (nI_add i 7) ?_
        refine lx_goto C (tgt := 18) dL_law_870 (by decide) ?_
        exact ih (i + 7) σ1 τ1 hi7 (by omega) h1
      refine lx_aload_n C dL_law_27 rfl rfl ?_
      refine lx_iload_n C dL_law_28 rfl rfl ?_
      refine lx_sld C ⟨by omega, hL⟩ dL_law_29 ?_
      refine lx_bipush C (v := 31) dL_law_30 rfl ?_
      refine lx_iand C dL_law_32 ?_
      obtain ⟨j, hj, ej⟩ := pk_andE (xs i) (m := 31) 5 rfl
      refine lx_top ej ?_
      have hjj : j = 0 ∨ j = 1 ∨ j = 2 ∨ j = 3 ∨ j = 4 ∨ j = 5 ∨ j = 6 ∨ j = 7 ∨ j = 8 ∨ j = 9 ∨ j = 10 ∨ j = 11 ∨ j = 12 ∨ j = 13 ∨ j = 14 ∨ j = 15 ∨ j = 16 ∨ j = 17 ∨ j = 18 ∨ j = 19 ∨ j = 20 ∨ j = 21 ∨ j = 22 ∨ 23 ≤ j := by omega
      rcases hjj with rfl | rfl | rfl | rfl | rfl | rfl | rfl | rfl | rfl | rfl | rfl | rfl | rfl | rfl | rfl | rfl | rfl | rfl | rfl | rfl | rfl | rfl | rfl | hj23
      · refine lx_tableIn C (tgt := 140) (off := 107) dL_law_33 (by decide) (by decide) (by decide) (by decide) ?_
        exact lw_case_street C Dd hc R P S n i hi7 hL RP RS RL RN RT RK h0 kk
      · refine lx_tableIn C (tgt := 163) (off := 130) dL_law_33 (by decide) (by decide) (by decide) (by decide) ?_
        exact lw_case_place C Dd hc R P S n i hi7 hL RP RS RL RN RT RK h0 kk
      · refine lx_tableIn C (tgt := 206) (off := 173) dL_law_33 (by decide) (by decide) (by decide) (by decide) ?_
        exact lw_case_limit C Dd hc R P S n i hi7 hL RP RS RL RN RT RK h0 kk
      · refine lx_tableIn C (tgt := 239) (off := 206) dL_law_33 (by decide) (by decide) (by decide) (by decide) ?_
        by_cases hx : xs (i + 3) = 0
        · exact lw_case_clash_0 C Dd hc R P S n i hi7 hL RP RS RL RN RT RK h0 hx kk
        · exact lw_case_clash_1 C Dd hc R P S n i hi7 hL RP RS RL RN RT RK h0 hx kk
      · refine lx_tableIn C (tgt := 298) (off := 265) dL_law_33 (by decide) (by decide) (by decide) (by decide) ?_
        exact lw_case_rule C Dd hc R P S n i hi7 hL RP RS RL RN RT RK h0 kk
      · refine lx_tableIn C (tgt := 331) (off := 298) dL_law_33 (by decide) (by decide) (by decide) (by decide) ?_
        exact lw_case_stall C Dd hc R P S n i hi7 hL RP RS RL RN RT RK h0 kk
      · refine lx_tableIn C (tgt := 406) (off := 373) dL_law_33 (by decide) (by decide) (by decide) (by decide) ?_
        exact lw_case_change C Dd hc R P S n i hi7 hL RP RS RL RN RT RK h0 kk
      · refine lx_tableIn C (tgt := 449) (off := 416) dL_law_33 (by decide) (by decide) (by decide) (by decide) ?_
        exact lw_case_layout C Dd hc R P S n i hi7 hL RP RS RL RN RT RK h0 kk
      · refine lx_tableIn C (tgt := 482) (off := 449) dL_law_33 (by decide) (by decide) (by decide) (by decide) ?_
        exact lw_case_worth C Dd hc R P S n i hi7 hL RP RS RL RN RT RK h0 kk
      · refine lx_tableIn C (tgt := 505) (off := 472) dL_law_33 (by decide) (by decide) (by decide) (by decide) ?_
        exact lw_case_open C Dd hc R P S n i hi7 hL RP RS RL RN RT RK h0 kk
      · refine lx_tableIn C (tgt := 528) (off := 495) dL_law_33 (by decide) (by decide) (by decide) (by decide) ?_
        exact lw_case_shut C Dd hc R P S n i hi7 hL RP RS RL RN RT RK h0 kk
      · refine lx_tableIn C (tgt := 541) (off := 508) dL_law_33 (by decide) (by decide) (by decide) (by decide) ?_
        exact lw_case_guest C Dd hc R P S n i hi7 hL RP RS RL RN RT RK h0 kk
      · refine lx_tableIn C (tgt := 574) (off := 541) dL_law_33 (by decide) (by decide) (by decide) (by decide) ?_
        exact lw_case_go C Dd hc R P S n i hi7 hL RP RS RL RN RT RK h0 kk
      · refine lx_tableIn C (tgt := 597) (off := 564) dL_law_33 (by decide) (by decide) (by decide) (by decide) ?_
        exact lw_case_plug C Dd hc R P S n i hi7 hL RP RS RL RN RT RK h0 kk
      · refine lx_tableIn C (tgt := 630) (off := 597) dL_law_33 (by decide) (by decide) (by decide) (by decide) ?_
        exact lw_case_reset C Dd hc R P S n i hi7 hL RP RS RL RN RT RK h0 kk
      · refine lx_tableIn C (tgt := 653) (off := 620) dL_law_33 (by decide) (by decide) (by decide) (by decide) ?_
        exact lw_case_pull C Dd hc R P S n i hi7 hL RP RS RL RN RT RK h0 kk
      · refine lx_tableIn C (tgt := 676) (off := 643) dL_law_33 (by decide) (by decide) (by decide) (by decide) ?_
        exact lw_case_of C Dd hc R P S n i hi7 hL RP RS RL RN RT RK h0 kk
      · refine lx_tableIn C (tgt := 709) (off := 676) dL_law_33 (by decide) (by decide) (by decide) (by decide) ?_
        exact lw_case_guestOf C Dd hc R P S n i hi7 hL RP RS RL RN RT RK h0 kk
      · refine lx_tableIn C (tgt := 742) (off := 709) dL_law_33 (by decide) (by decide) (by decide) (by decide) ?_
        exact lw_case_suspects C Dd hc R P S n i hi7 hL RP RS RL RN RT RK h0 kk
      · refine lx_tableIn C (tgt := 785) (off := 752) dL_law_33 (by decide) (by decide) (by decide) (by decide) ?_
        exact lw_case_lineOf C Dd hc R P S n i hi7 hL RP RS RL RN RT RK h0 kk
      · refine lx_tableIn C (tgt := 818) (off := 785) dL_law_33 (by decide) (by decide) (by decide) (by decide) ?_
        exact lw_case_many C Dd hc R P S n i hi7 hL RP RS RL RN RT RK h0 kk
      · refine lx_tableIn C (tgt := 841) (off := 808) dL_law_33 (by decide) (by decide) (by decide) (by decide) ?_
        exact lw_case_keep C Dd hc R P S n i hi7 hL RP RS RL RN RT RK h0 kk
      · refine lx_tableIn C (tgt := 854) (off := 821) dL_law_33 (by decide) (by decide) (by decide) (by decide) ?_
        exact lw_case_back C Dd hc R P S n i hi7 hL RP RS RL RN RT RK h0 kk
      · refine lx_tableOut C (tgt := 867) dL_law_33 (Or.inr ?_) (by decide) ?_
        · rw [nI_toInt (by omega)]; omega
        · exact kk σ τ h0
