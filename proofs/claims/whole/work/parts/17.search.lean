def wR (σ : qx_S) (n : Nat) : Prop := ∀ j, j < n → ∃ q, q < 8 ∧ σ 25 j = nI q
theorem pRank_cell {p : Nat} {j : Nat} (h : j ≠ 25) : ∀ (a : Nat) (σ : qx_S), pRank p a σ j = σ j
  | 0, σ => qs_cell _ _ _ _ h
  | a + 1, σ => by
    rw [pRank]
    split
    · exact qs_cell _ _ _ _ h
    · rw [pRank_cell h a, qs_cell _ _ _ _ h]
theorem pRank_wR {p : Nat} (hp : p < 8) : ∀ (a : Nat) (σ : qx_S) (n : Nat), a ≤ n → wR σ n → wR (qs σ 25 n (nI p)) (n + 1) → (∀ j, j ≤ n → j ≠ a → ∃ q, q < 8 ∧ σ 25 j = nI q) → wR (pRank p a σ) (n + 1)
  | 0, σ, n, _, h, _, h3 => by
    rw [pRank]
    intro j hj
    rw [qs_at]
    split
    · exact ⟨p, hp, rfl⟩
    · rename_i hne
      exact h3 j (by omega) (fun e => hne ⟨rfl, e⟩)
  | a + 1, σ, n, ha, h, h2, h3 => by
    rw [pRank]
    split
    · intro j hj
      rw [qs_at]
      split
      · exact ⟨p, hp, rfl⟩
      · rename_i hne
        exact h3 j (by omega) (fun e => hne ⟨rfl, e⟩)
    · have hv : ∃ q, q < 8 ∧ σ 25 a = nI q := h3 a (by omega) (by omega)
      refine pRank_wR hp a (qs σ 25 (a + 1) (σ 25 a)) n (by omega) ?_ ?_ ?_
      · intro j hj
        rw [qs_at]
        split
        · exact hv
        · exact h j hj
      · intro j hj
        rw [qs_at]
        split
        · exact ⟨p, hp, rfl⟩
        · rename_i hne
          rw [qs_at]
          split
          · exact hv
          · exact h j (by have := fun e => hne ⟨rfl, e⟩; omega)
      · intro j hj hja
        rw [qs_at]
        split
        · exact hv
        · rename_i hne
          exact h3 j hj (fun e => hne ⟨rfl, e⟩)
theorem pRank_ok {p : Nat} (hp : p < 8) {σ : qx_S} (h : wR σ p) : wR (pRank p p σ) (p + 1) := by
  refine pRank_wR hp p σ p (Nat.le_refl _) h (fun j hj => ?_) (fun j hj hjp => h j (by omega))
  rw [qs_at]
  split
  · exact ⟨p, hp, rfl⟩
  · rename_i hne
    exact h j (by have := fun e => hne ⟨rfl, e⟩; omega)
set_option maxRecDepth 20000 in
set_option maxHeartbeats 4000000 in
theorem c_X2_rank (F : qx_F) (d : Nat) (σ : qx_S) (p : Nat) (hp : p < 8) (hr : wR σ p) : qx_cV F shC ⟨"NightStalls$Plan", "rank", "(I)V"⟩ (.code ⟨"NightStalls$Plan", "rank", "(I)V"⟩ prog_4_method_4_code 3 ((none : Option FieldType)) :: qx_W) (qx_R (d + 3)) [.ref (fa F 21), .int (nI p)] σ (pRank p p σ) := by
  refine qx_met (by decide) (Nat.le_of_ble_eq_true rfl) (by intro v hv; simp only [List.mem_cons, List.not_mem_nil, or_false] at hv; rcases hv with rfl | rfl <;> rfl) (fun K C => ?_)
  refine qx_iload_n C dX2_rank_0 rfl rfl ?_
  refine qx_istore_n C dX2_rank_1 rfl (Nat.le_of_ble_eq_true rfl) ?_
  have key : ∀ (a : Nat) (τ : qx_S), a ≤ p → wR τ a → pRank p a τ = pRank p p σ → qx_X K F shC τ 2 [some (.ref (fa F 21)), some (.int (nI p)), some (.int (nI a))] [] := by
    intro a
    induction a with
    | zero =>
      intro τ ha hτ e
      refine qx_iload_n C dX2_rank_2 rfl rfl ?_
      refine qx_if_le_t C (tgt := 52) dX2_rank_3 (by decide) (by decide) ?_
      refine qx_aload_n C dX2_rank_52 rfl rfl ?_
      refine qx_getR C (j := 21) (k := 4) hiX2 rfl rfl (by decide) qw_174 rfl dX2_rank_53 ?_
      refine qx_iload_n C dX2_rank_56 rfl rfl ?_
      refine qx_iload_n C dX2_rank_57 rfl rfl ?_
      refine qx_iastN C (j := 25) rfl ⟨by omega, by decide⟩ dX2_rank_58 ?_
      exact qx_vret C dX2_rank_59 (by rw [← e]; rfl)
    | succ a ih =>
      intro τ ha hτ e
      obtain ⟨q, hq, eq⟩ := hτ a (by omega)
      have iq : ix (τ 25 a) = q := by rw [eq]; exact nI_clamp (by omega)
      refine qx_iload_n C dX2_rank_2 rfl rfl ?_
      refine qx_if_le_f C (tgt := 52) dX2_rank_3 (by decide) (nI_nle (by omega) (by omega)) ?_
      refine qx_aload_n C dX2_rank_6 rfl rfl ?_
      refine qx_getR C (j := 21) (k := 0) hiX2 rfl rfl (by decide) qw_170 rfl dX2_rank_7 ?_
      refine qx_aload_n C dX2_rank_10 rfl rfl ?_
      refine qx_getR C (j := 21) (k := 4) hiX2 rfl rfl (by decide) qw_174 rfl dX2_rank_11 ?_
      refine qx_iload_n C dX2_rank_14 rfl rfl ?_
      refine qx_iconst C (v := 1) dX2_rank_15 rfl ?_
      refine qx_isubE C dX2_rank_16 (nI_pred a) ?_
      refine qx_ialdN C (j := 25) rfl ⟨by omega, by decide⟩ dX2_rank_17 ?_
      refine qx_top eq ?_
      refine qx_callVI C (b := 1) (As := [_]) (n := 1) (c_X3_rentOf F (d + 0) _ q (by omega)) rfl rfl qw_322 qw_323 qw_324 qw_40 qw_325 ⟨rfl, by decide, by decide, by decide +kernel⟩ (qx_room (by omega) (by decide)) rfl rfl (Nat.le_of_ble_eq_true rfl) dX2_rank_18 ?_
      refine qx_aload_n C dX2_rank_21 rfl rfl ?_
      refine qx_getR C (j := 21) (k := 0) hiX2 rfl rfl (by decide) qw_170 rfl dX2_rank_22 ?_
      refine qx_iload_n C dX2_rank_25 rfl rfl ?_
      refine qx_callVI C (b := 1) (As := [_]) (n := 1) (c_X3_rentOf F (d + 0) _ p (by omega)) rfl rfl qw_322 qw_323 qw_324 qw_40 qw_325 ⟨rfl, by decide, by decide, by decide +kernel⟩ (qx_room (by omega) (by decide)) rfl rfl (Nat.le_of_ble_eq_true rfl) dX2_rank_26 ?_
      refine qx_icmp_ge C (tgt := 52) dX2_rank_29 (by decide) (fun h29 => ?_) (fun h29 => ?_)
      · refine qx_aload_n C dX2_rank_52 rfl rfl ?_
        refine qx_getR C (j := 21) (k := 4) hiX2 rfl rfl (by decide) qw_174 rfl dX2_rank_53 ?_
        refine qx_iload_n C dX2_rank_56 rfl rfl ?_
        refine qx_iload_n C dX2_rank_57 rfl rfl ?_
        refine qx_iastN C (j := 25) rfl ⟨by omega, by decide⟩ dX2_rank_58 ?_
        exact qx_vret C dX2_rank_59 (by rw [← e, pRank, iq, if_pos h29])
      · refine qx_aload_n C dX2_rank_32 rfl rfl ?_
        refine qx_getR C (j := 21) (k := 4) hiX2 rfl rfl (by decide) qw_174 rfl dX2_rank_33 ?_
        refine qx_iload_n C dX2_rank_36 rfl rfl ?_
        refine qx_aload_n C dX2_rank_37 rfl rfl ?_
        refine qx_getR C (j := 21) (k := 4) hiX2 rfl rfl (by decide) qw_174 rfl dX2_rank_38 ?_
        refine qx_iload_n C dX2_rank_41 rfl rfl ?_
        refine qx_iconst C (v := 1) dX2_rank_42 rfl ?_
        refine qx_isubE C dX2_rank_43 (nI_pred a) ?_
        refine qx_ialdN C (j := 25) rfl ⟨by omega, by decide⟩ dX2_rank_44 ?_
        refine qx_iastN C (j := 25) rfl ⟨by omega, by decide⟩ dX2_rank_45 ?_
        refine qx_iinc C (v := nI a) dX2_rank_46 rfl (pk_m1 a) ?_
        refine qx_goto C (tgt := 2) dX2_rank_49 (by decide) ?_
        refine ih _ (by omega) (fun j hj => ?_) (by rw [← e, pRank, iq, if_neg h29])
        rw [qs_slot _ _ _ _ (by omega)]; exact hτ j (by omega)
  exact key p σ (Nat.le_refl _) hr rfl
def pPl (night : Int32) (P k s : Nat) (r c : Int32) (p : Nat) (τ : qx_S) : qx_S := if pFits τ s p then qs (pTry night P k (s + 1) (r + qs (qs τ 22 s (nI p)) 24 p 1 2 (p * 3 + 0)) (c + 1) (qs (qs τ 22 s (nI p)) 24 p 1)) 24 p 0 else τ
theorem pPl_a {night : Int32} {P k s : Nat} {r c : Int32} {p : Nat} {τ : qx_S} (h : ¬ pFits τ s p) : pPl night P k s r c p τ = τ := if_neg h
theorem pPl_b {night : Int32} {P k s : Nat} {r c : Int32} {p : Nat} {τ : qx_S} (h : pFits τ s p) : pPl night P k s r c p τ = qs (pTry night P k (s + 1) (r + qs (qs τ 22 s (nI p)) 24 p 1 2 (p * 3 + 0)) (c + 1) (qs (qs τ 22 s (nI p)) 24 p 1)) 24 p 0 := if_pos h
theorem pTry_S (night : Int32) (P k s : Nat) (r c : Int32) (σ : qx_S) : pTry night P (k + 1) s r c σ = if pBet σ (r + pMost σ (nI (k + 1)) P) (c + nI (k + 1)) then pTry night P k (s + 1) r c (if night ≤ σ 6 (s * 6 + 5) then qs (qf (pPl night P k s r c) σ P) 22 s (-4) else σ) else σ := rfl
theorem pJudge_cell {σ : qx_S} {r c : Int32} {j : Nat} (h1 : j ≠ 21) (h2 : j ≠ 23) : pJudge σ r c j = σ j := by
  unfold pJudge
  split
  · unfold qc; rw [qx_un _ _ h2, qs_cell _ _ _ _ h1, qs_cell _ _ _ _ h1]
  · rfl
theorem pTry_wP {night : Int32} {P S : Nat} (hP8 : P ≤ 8) : ∀ (k s : Nat) (r c : Int32) (σ : qx_S), wP σ P S → wP (pTry night P k s r c σ) P S
  | 0, s, r, c, σ, h => by
    show wP (pJudge σ r c) P S
    exact wP_to h (pJudge_cell (by decide) (by decide)) (pJudge_cell (by decide) (by decide)) (pJudge_cell (by decide) (by decide)) (pJudge_cell (by decide) (by decide)) (pJudge_cell (by decide) (by decide))
  | k + 1, s, r, c, σ, h => by
    rw [pTry_S]
    split
    · refine pTry_wP hP8 k (s + 1) r c _ ?_
      split
      · refine wP_trial ?_ s (-4) (Or.inl rfl)
        have : ∀ i, i ≤ P → wP (qf (pPl night P k s r c) σ i) P S := by
          intro i
          induction i with
          | zero => intro _; exact h
          | succ i ih =>
            intro hi
            have h1 := ih (by omega)
            rw [qf]
            unfold pPl
            split
            · refine wP_qs (pTry_wP hP8 k (s + 1) _ _ _ ?_) i 0 (by decide) (by decide) (by decide) (by decide) (by decide)
              exact wP_qs (wP_trial h1 s (nI i) (Or.inr ⟨i, by omega, rfl⟩)) i 1 (by decide) (by decide) (by decide) (by decide) (by decide)
            · exact h1
        exact this P (Nat.le_refl _)
      · exact h
    · exact h
theorem pPl_wP {night : Int32} {P S : Nat} (hP8 : P ≤ 8) {k s : Nat} {r c : Int32} {σ : qx_S} (h : wP σ P S) : ∀ i, i ≤ P → wP (qf (pPl night P k s r c) σ i) P S
  | 0, _ => h
  | i + 1, hi => by
    have h1 := pPl_wP hP8 h i (by omega) (night := night) (k := k) (s := s) (r := r) (c := c)
    rw [qf]
    unfold pPl
    split
    · refine wP_qs (pTry_wP hP8 k (s + 1) _ _ _ ?_) i 0 (by decide) (by decide) (by decide) (by decide) (by decide)
      exact wP_qs (wP_trial h1 s (nI i) (Or.inr ⟨i, by omega, rfl⟩)) i 1 (by decide) (by decide) (by decide) (by decide) (by decide)
    · exact h1
set_option maxRecDepth 20000 in
set_option maxHeartbeats 4000000 in
theorem c_X2_tryPlaces_open (F : qx_F) (d : Nat) (σ : qx_S) (k s P S : Nat) (night r c : Int32) (hs : s < 5) (hw : wP σ P S) (ih : ∀ (d : Nat) (σ : qx_S) (r c : Int32), wP σ P S → qx_cV F shC ⟨"NightStalls$Plan", "tryFrom", "(IIII)V"⟩ (.code ⟨"NightStalls$Plan", "tryFrom", "(IIII)V"⟩ prog_4_method_5_code 6 ((none : Option FieldType)) :: qx_W) (qx_R (d + (2 * k + 5))) [.ref (fa F 21), .int (nI (s + 1)), .int night, .int r, .int c] σ (pTry night P k (s + 1) r c σ)) : qx_cV F shC ⟨"NightStalls$Plan", "tryPlaces", "(IIII)V"⟩ (.code ⟨"NightStalls$Plan", "tryPlaces", "(IIII)V"⟩ prog_4_method_6_code 6 ((none : Option FieldType)) :: qx_W) (qx_R (d + (2 * k + 6))) [.ref (fa F 21), .int (nI s), .int night, .int r, .int c] σ (qs (qf (pPl night P k s r c) σ P) 22 s (-4)) := by
  refine qx_met (by decide) (Nat.le_of_ble_eq_true rfl) (by intro v hv; simp only [List.mem_cons, List.not_mem_nil, or_false] at hv; rcases hv with rfl | rfl | rfl | rfl | rfl <;> rfl) (fun K C => ?_)
  have hP8 := hw.2.2.2.2.2.1
  refine qx_iconst C (v := 0) dX2_tryPlaces_0 rfl ?_
  refine qx_istore C dX2_tryPlaces_1 (Nat.le_of_ble_eq_true rfl) ?_
  refine qx_to (qx_up P (P := fun i => qx_X K F shC (qf (pPl night P k s r c) σ i) 3 [some (.ref (fa F 21)), some (.int (nI s)), some (.int night), some (.int r), some (.int c), some (.int (nI i))] []) (fun i hi hki => ?_) ?_) rfl rfl
  · have hwi := pPl_wP hP8 hw i (Nat.le_of_lt hi) (night := night) (k := k) (s := s) (r := r) (c := c)
    refine qx_iload C dX2_tryPlaces_3 rfl ?_
    refine qx_aload_n C dX2_tryPlaces_5 rfl rfl ?_
    refine qx_getR C (j := 21) (k := 0) hiX2 rfl rfl (by decide) qw_170 rfl dX2_tryPlaces_6 ?_
    refine qx_getIN C (j := 1) (k := 0) hiX3 rfl rfl (by decide) qn_14 rfl dX2_tryPlaces_9 ?_
    refine qx_icmp_ge_f C (tgt := 78) dX2_tryPlaces_12 (by decide) (by rw [hwi.2.2.2.2.1]; exact nI_ge hi (by omega)) ?_
    refine qx_aload_n C dX2_tryPlaces_15 rfl rfl ?_
    refine qx_iload_n C dX2_tryPlaces_16 rfl rfl ?_
    refine qx_iload C dX2_tryPlaces_17 rfl ?_
    refine qx_callVI C (b := 21) (As := [_, _]) (n := 2) (c_X2_fits F (d + 0) _ s i (by omega) (by omega) P S hwi) rfl rfl qw_359 qw_361 qw_6 qw_43 qw_362 ⟨rfl, by decide, by decide, by decide +kernel⟩ (qx_room (by omega) (by decide)) rfl rfl (Nat.le_of_ble_eq_true rfl) dX2_tryPlaces_19 ?_
    refine qx_split _ (fun h19 => ?_) (fun h19 => ?_)
    · refine qx_if_eq_f C (tgt := 72) dX2_tryPlaces_22 (by decide) (by decide) ?_
      refine qx_aload_n C dX2_tryPlaces_25 rfl rfl ?_
      refine qx_getR C (j := 21) (k := 1) hiX2 rfl rfl (by decide) qw_171 rfl dX2_tryPlaces_26 ?_
      refine qx_iload_n C dX2_tryPlaces_29 rfl rfl ?_
      refine qx_iload C dX2_tryPlaces_30 rfl ?_
      refine qx_iastN C (j := 22) rfl ⟨by omega, by decide⟩ dX2_tryPlaces_32 ?_
      refine qx_aload_n C dX2_tryPlaces_33 rfl rfl ?_
      refine qx_getR C (j := 21) (k := 3) hiX2 rfl rfl (by decide) qw_173 rfl dX2_tryPlaces_34 ?_
      refine qx_iload C dX2_tryPlaces_37 rfl ?_
      refine qx_iconst C (v := 1) dX2_tryPlaces_39 rfl ?_
      refine qx_iastN C (j := 24) rfl ⟨by omega, by decide⟩ dX2_tryPlaces_40 ?_
      refine qx_aload_n C dX2_tryPlaces_41 rfl rfl ?_
      refine qx_iload_n C dX2_tryPlaces_42 rfl rfl ?_
      refine qx_iconst C (v := 1) dX2_tryPlaces_43 rfl ?_
      refine qx_iaddE C dX2_tryPlaces_44 (nI_add s 1) ?_
      refine qx_iload_n C dX2_tryPlaces_45 rfl rfl ?_
      refine qx_iload_n C dX2_tryPlaces_46 rfl rfl ?_
      refine qx_aload_n C dX2_tryPlaces_47 rfl rfl ?_
      refine qx_getR C (j := 21) (k := 0) hiX2 rfl rfl (by decide) qw_170 rfl dX2_tryPlaces_48 ?_
      refine qx_iload C dX2_tryPlaces_51 rfl ?_
      refine qx_callVI C (b := 1) (As := [_]) (n := 1) (c_X3_rentOf F (d + 0) _ i (by omega)) rfl rfl qw_322 qw_323 qw_324 qw_40 qw_325 ⟨rfl, by decide, by decide, by decide +kernel⟩ (qx_room (by omega) (by decide)) rfl rfl (Nat.le_of_ble_eq_true rfl) dX2_tryPlaces_53 ?_
      refine qx_iadd C dX2_tryPlaces_56 ?_
      refine qx_iload C dX2_tryPlaces_57 rfl ?_
      refine qx_iconst C (v := 1) dX2_tryPlaces_59 rfl ?_
      refine qx_iadd C dX2_tryPlaces_60 ?_
      refine qx_callVv C (b := 21) (As := [_, _, _, _]) (n := 4) (ih d _ _ _ (wP_qs (wP_trial hwi s (nI i) (Or.inr ⟨i, by omega, rfl⟩)) i 1 (by decide) (by decide) (by decide) (by decide) (by decide))) rfl rfl qw_326 qw_328 qw_1 qw_43 qw_329 ⟨rfl, by decide, by decide, by decide +kernel⟩ (qx_room (by omega) (by decide)) rfl rfl (Nat.le_of_ble_eq_true rfl) dX2_tryPlaces_61 ?_
      refine qx_aload_n C dX2_tryPlaces_64 rfl rfl ?_
      refine qx_getR C (j := 21) (k := 3) hiX2 rfl rfl (by decide) qw_173 rfl dX2_tryPlaces_65 ?_
      refine qx_iload C dX2_tryPlaces_68 rfl ?_
      refine qx_iconst C (v := 0) dX2_tryPlaces_70 rfl ?_
      refine qx_iastN C (j := 24) rfl ⟨by omega, by decide⟩ dX2_tryPlaces_71 ?_
      refine qx_iincN C dX2_tryPlaces_72 rfl ?_
      refine qx_goto C (tgt := 3) dX2_tryPlaces_75 (by decide) ?_
      exact (qx_to hki (by first | (rw [qf, pPl_a h19]; first | done | rfl) | (rw [qf, pPl_b h19]; first | done | rfl)) rfl)
    · refine qx_if_eq_t C (tgt := 72) dX2_tryPlaces_22 (by decide) (by decide) ?_
      refine qx_iincN C dX2_tryPlaces_72 rfl ?_
      refine qx_goto C (tgt := 3) dX2_tryPlaces_75 (by decide) ?_
      exact (qx_to hki (by first | (rw [qf, pPl_a h19]; first | done | rfl) | (rw [qf, pPl_b h19]; first | done | rfl)) rfl)
  · have hwn := pPl_wP hP8 hw P (Nat.le_refl _) (night := night) (k := k) (s := s) (r := r) (c := c)
    refine qx_iload C dX2_tryPlaces_3 rfl ?_
    refine qx_aload_n C dX2_tryPlaces_5 rfl rfl ?_
    refine qx_getR C (j := 21) (k := 0) hiX2 rfl rfl (by decide) qw_170 rfl dX2_tryPlaces_6 ?_
    refine qx_getIN C (j := 1) (k := 0) hiX3 rfl rfl (by decide) qn_14 rfl dX2_tryPlaces_9 ?_
    refine qx_icmp_ge_t C (tgt := 78) dX2_tryPlaces_12 (by decide) (by rw [hwn.2.2.2.2.1]; exact nI_le (Nat.le_refl _) (by omega)) ?_
    refine qx_aload_n C dX2_tryPlaces_78 rfl rfl ?_
    refine qx_getR C (j := 21) (k := 1) hiX2 rfl rfl (by decide) qw_171 rfl dX2_tryPlaces_79 ?_
    refine qx_iload_n C dX2_tryPlaces_82 rfl rfl ?_
    refine qx_bipush C (v := (-4)) dX2_tryPlaces_83 rfl ?_
    refine qx_iastN C (j := 22) rfl ⟨by omega, by decide⟩ dX2_tryPlaces_85 ?_
    exact qx_vret C dX2_tryPlaces_86 rfl
set_option maxRecDepth 20000 in
set_option maxHeartbeats 4000000 in
theorem c_X2_tryFrom0 (F : qx_F) (d : Nat) (σ : qx_S) (s P S : Nat) (night r c : Int32) (hsS : s = S) (hw : wP σ P S) : qx_cV F shC ⟨"NightStalls$Plan", "tryFrom", "(IIII)V"⟩ (.code ⟨"NightStalls$Plan", "tryFrom", "(IIII)V"⟩ prog_4_method_5_code 6 ((none : Option FieldType)) :: qx_W) (qx_R (d + (2 * 0 + 5))) [.ref (fa F 21), .int (nI s), .int night, .int r, .int c] σ (pTry night P 0 s r c σ) := by
  refine qx_met (by decide) (Nat.le_of_ble_eq_true rfl) (by intro v hv; simp only [List.mem_cons, List.not_mem_nil, or_false] at hv; rcases hv with rfl | rfl | rfl | rfl | rfl <;> rfl) (fun K C => ?_)
  have hS5 := hw.2.2.2.2.2.2.2
  refine qx_iload_n C dX2_tryFrom_0 rfl rfl ?_
  refine qx_aload_n C dX2_tryFrom_1 rfl rfl ?_
  refine qx_getR C (j := 21) (k := 0) hiX2 rfl rfl (by decide) qw_170 rfl dX2_tryFrom_2 ?_
  refine qx_getIN C (j := 1) (k := 1) hiX3 rfl rfl (by decide) qn_15 rfl dX2_tryFrom_5 ?_
  refine qx_top hw.2.2.2.2.2.2.1 ?_
  refine qx_icmp_lt C (tgt := 19) dX2_tryFrom_8 (by decide) (fun h8 => ?_) (fun h8 => ?_)
  · exact absurd h8 (by rw [hsS]; exact nI_nlt (Nat.le_refl _) (by omega))
  · refine qx_aload_n C dX2_tryFrom_11 rfl rfl ?_
    refine qx_iload_n C dX2_tryFrom_12 rfl rfl ?_
    refine qx_iload C dX2_tryFrom_13 rfl ?_
    refine qx_callVv C (b := 21) (As := [_, _]) (n := 2) (c_X2_judge F (d + 0) _ _ _) rfl rfl qw_330 qw_332 qw_2 qw_43 qw_333 ⟨rfl, by decide, by decide, by decide +kernel⟩ (qx_room (by omega) (by decide)) rfl rfl (Nat.le_of_ble_eq_true rfl) dX2_tryFrom_15 ?_
    exact qx_vret C dX2_tryFrom_18 rfl
set_option maxRecDepth 20000 in
set_option maxHeartbeats 4000000 in
theorem c_X2_tryFrom_open (F : qx_F) (d : Nat) (σ : qx_S) (k s P S : Nat) (night r c : Int32) (hsS : s + (k + 1) = S) (hw : wP σ P S) (ih : ∀ (d : Nat) (σ : qx_S) (r c : Int32), wP σ P S → qx_cV F shC ⟨"NightStalls$Plan", "tryFrom", "(IIII)V"⟩ (.code ⟨"NightStalls$Plan", "tryFrom", "(IIII)V"⟩ prog_4_method_5_code 6 ((none : Option FieldType)) :: qx_W) (qx_R (d + (2 * k + 5))) [.ref (fa F 21), .int (nI (s + 1)), .int night, .int r, .int c] σ (pTry night P k (s + 1) r c σ)) : qx_cV F shC ⟨"NightStalls$Plan", "tryFrom", "(IIII)V"⟩ (.code ⟨"NightStalls$Plan", "tryFrom", "(IIII)V"⟩ prog_4_method_5_code 6 ((none : Option FieldType)) :: qx_W) (qx_R (d + (2 * (k + 1) + 5))) [.ref (fa F 21), .int (nI s), .int night, .int r, .int c] σ (pTry night P (k + 1) s r c σ) := by
  refine qx_met (by decide) (Nat.le_of_ble_eq_true rfl) (by intro v hv; simp only [List.mem_cons, List.not_mem_nil, or_false] at hv; rcases hv with rfl | rfl | rfl | rfl | rfl <;> rfl) (fun K C => ?_)
  have hS5 := hw.2.2.2.2.2.2.2
  have hP8 := hw.2.2.2.2.2.1
  refine qx_iload_n C dX2_tryFrom_0 rfl rfl ?_
  refine qx_aload_n C dX2_tryFrom_1 rfl rfl ?_
  refine qx_getR C (j := 21) (k := 0) hiX2 rfl rfl (by decide) qw_170 rfl dX2_tryFrom_2 ?_
  refine qx_getIN C (j := 1) (k := 1) hiX3 rfl rfl (by decide) qn_15 rfl dX2_tryFrom_5 ?_
  refine qx_top hw.2.2.2.2.2.2.1 ?_
  refine qx_icmp_lt C (tgt := 19) dX2_tryFrom_8 (by decide) (fun h8 => ?_) (fun h8 => ?_)
  · refine qx_aload_n C dX2_tryFrom_19 rfl rfl ?_
    refine qx_getR C (j := 21) (k := 0) hiX2 rfl rfl (by decide) qw_170 rfl dX2_tryFrom_20 ?_
    refine qx_getIN C (j := 1) (k := 1) hiX3 rfl rfl (by decide) qn_15 rfl dX2_tryFrom_23 ?_
    refine qx_top hw.2.2.2.2.2.2.1 ?_
    refine qx_iload_n C dX2_tryFrom_26 rfl rfl ?_
    refine qx_isubE C dX2_tryFrom_27 ((pk_sub (by omega)).trans (congrArg nI (show S - s = k + 1 by omega))) ?_
    refine qx_istore C dX2_tryFrom_28 (Nat.le_of_ble_eq_true rfl) ?_
    refine qx_aload_n C dX2_tryFrom_30 rfl rfl ?_
    refine qx_iload_n C dX2_tryFrom_31 rfl rfl ?_
    refine qx_aload_n C dX2_tryFrom_32 rfl rfl ?_
    refine qx_iload C dX2_tryFrom_33 rfl ?_
    refine qx_callVI C (b := 21) (As := [_]) (n := 1) (c_X2_mostRent F (d + 0) _ _ P S hw) rfl rfl qw_347 qw_349 qw_4 qw_43 qw_350 ⟨rfl, by decide, by decide, by decide +kernel⟩ (qx_room (by omega) (by decide)) rfl rfl (Nat.le_of_ble_eq_true rfl) dX2_tryFrom_35 ?_
    refine qx_iadd C dX2_tryFrom_38 ?_
    refine qx_iload C dX2_tryFrom_39 rfl ?_
    refine qx_iload C dX2_tryFrom_41 rfl ?_
    refine qx_iadd C dX2_tryFrom_43 ?_
    refine qx_callVI C (b := 21) (As := [_, _]) (n := 2) (c_X2_isBetter F (d + 0) _ _ _) rfl rfl qw_334 qw_336 qw_3 qw_43 qw_337 ⟨rfl, by decide, by decide, by decide +kernel⟩ (qx_room (by omega) (by decide)) rfl rfl (Nat.le_of_ble_eq_true rfl) dX2_tryFrom_44 ?_
    refine qx_split _ (fun h44 => ?_) (fun h44 => ?_)
    · refine qx_if_ne_t C (tgt := 51) dX2_tryFrom_47 (by decide) (by decide) ?_
      refine qx_aload_n C dX2_tryFrom_51 rfl rfl ?_
      refine qx_getR C (j := 21) (k := 0) hiX2 rfl rfl (by decide) qw_170 rfl dX2_tryFrom_52 ?_
      refine qx_iload_n C dX2_tryFrom_55 rfl rfl ?_
      refine qx_iload_n C dX2_tryFrom_56 rfl rfl ?_
      refine qx_callVI C (b := 1) (As := [_, _]) (n := 2) (c_X3_mayStand F (d + 0) _ s _ (by omega)) rfl rfl qw_351 qw_352 qw_353 qw_40 qw_354 ⟨rfl, by decide, by decide, by decide +kernel⟩ (qx_room (by omega) (by decide)) rfl rfl (Nat.le_of_ble_eq_true rfl) dX2_tryFrom_57 ?_
      refine qx_split _ (fun h57 => ?_) (fun h57 => ?_)
      · refine qx_if_eq_f C (tgt := 72) dX2_tryFrom_60 (by decide) (by decide) ?_
        refine qx_aload_n C dX2_tryFrom_63 rfl rfl ?_
        refine qx_iload_n C dX2_tryFrom_64 rfl rfl ?_
        refine qx_iload_n C dX2_tryFrom_65 rfl rfl ?_
        refine qx_iload_n C dX2_tryFrom_66 rfl rfl ?_
        refine qx_iload C dX2_tryFrom_67 rfl ?_
        refine qx_callVv C (b := 21) (As := [_, _, _, _]) (n := 4) (c_X2_tryPlaces_open F d _ k s P S night _ _ (by omega) hw ih) rfl rfl qw_355 qw_357 qw_5 qw_43 qw_358 ⟨rfl, by decide, by decide, by decide +kernel⟩ (qx_room (by omega) (by decide)) rfl rfl (Nat.le_of_ble_eq_true rfl) dX2_tryFrom_69 ?_
        have hw2 : wP (qs (qf (pPl night P k s r c) σ P) 22 s (-4)) P S := wP_trial (pPl_wP hP8 hw P (Nat.le_refl _)) s (-4) (Or.inl rfl)
        refine qx_aload_n C dX2_tryFrom_72 rfl rfl ?_
        refine qx_iload_n C dX2_tryFrom_73 rfl rfl ?_
        refine qx_iconst C (v := 1) dX2_tryFrom_74 rfl ?_
        refine qx_iaddE C dX2_tryFrom_75 (nI_add s 1) ?_
        refine qx_iload_n C dX2_tryFrom_76 rfl rfl ?_
        refine qx_iload_n C dX2_tryFrom_77 rfl rfl ?_
        refine qx_iload C dX2_tryFrom_78 rfl ?_
        refine qx_callVv C (b := 21) (As := [_, _, _, _]) (n := 4) (ih (d + 1) _ _ _ (by first | exact hw2 | exact hw)) rfl rfl qw_326 qw_328 qw_1 qw_43 qw_329 ⟨rfl, by decide, by decide, by decide +kernel⟩ (qx_room (by omega) (by decide)) rfl rfl (Nat.le_of_ble_eq_true rfl) dX2_tryFrom_80 ?_
        exact qx_vret C dX2_tryFrom_83 (by first | exact (if_neg h44).symm | (rw [pTry_S, if_pos h44, if_pos h57]; done) | (rw [pTry_S, if_pos h44, if_neg h57]; done))
      · refine qx_if_eq_t C (tgt := 72) dX2_tryFrom_60 (by decide) (by decide) ?_
        have hw2 : wP (qs (qf (pPl night P k s r c) σ P) 22 s (-4)) P S := wP_trial (pPl_wP hP8 hw P (Nat.le_refl _)) s (-4) (Or.inl rfl)
        refine qx_aload_n C dX2_tryFrom_72 rfl rfl ?_
        refine qx_iload_n C dX2_tryFrom_73 rfl rfl ?_
        refine qx_iconst C (v := 1) dX2_tryFrom_74 rfl ?_
        refine qx_iaddE C dX2_tryFrom_75 (nI_add s 1) ?_
        refine qx_iload_n C dX2_tryFrom_76 rfl rfl ?_
        refine qx_iload_n C dX2_tryFrom_77 rfl rfl ?_
        refine qx_iload C dX2_tryFrom_78 rfl ?_
        refine qx_callVv C (b := 21) (As := [_, _, _, _]) (n := 4) (ih (d + 1) _ _ _ (by first | exact hw2 | exact hw)) rfl rfl qw_326 qw_328 qw_1 qw_43 qw_329 ⟨rfl, by decide, by decide, by decide +kernel⟩ (qx_room (by omega) (by decide)) rfl rfl (Nat.le_of_ble_eq_true rfl) dX2_tryFrom_80 ?_
        exact qx_vret C dX2_tryFrom_83 (by first | exact (if_neg h44).symm | (rw [pTry_S, if_pos h44, if_pos h57]; done) | (rw [pTry_S, if_pos h44, if_neg h57]; done))
    · refine qx_if_ne_f C (tgt := 51) dX2_tryFrom_47 (by decide) (by decide) ?_
      exact qx_vret C dX2_tryFrom_50 (by first | exact (if_neg h44).symm | (rw [pTry_S, if_pos h44, if_pos h57]; done) | (rw [pTry_S, if_pos h44, if_neg h57]; done))
  · exact absurd (nI_lt (by omega) (by omega)) h8
theorem c_X2_tryFrom (F : qx_F) (P S : Nat) (night : Int32) : ∀ (k s : Nat), s + k = S → ∀ (d : Nat) (σ : qx_S) (r c : Int32), wP σ P S → qx_cV F shC ⟨"NightStalls$Plan", "tryFrom", "(IIII)V"⟩ (.code ⟨"NightStalls$Plan", "tryFrom", "(IIII)V"⟩ prog_4_method_5_code 6 ((none : Option FieldType)) :: qx_W) (qx_R (d + (2 * k + 5))) [.ref (fa F 21), .int (nI s), .int night, .int r, .int c] σ (pTry night P k s r c σ)
  | 0, s, h, d, σ, r, c, hw => c_X2_tryFrom0 F d σ s P S night r c (by omega) hw
  | k + 1, s, h, d, σ, r, c, hw => c_X2_tryFrom_open F d σ k s P S night r c h hw (fun d σ r c hw => c_X2_tryFrom F P S night k (s + 1) (by omega) d σ r c hw)
def wS (σ : qx_S) (P S : Nat) : Prop := (∀ p, p < 8 → ∃ k, k < 3 ∧ σ 2 (p * 3 + 1) = nI k) ∧ (∀ s, s < 5 → ∃ a, a < 4 ∧ σ 6 (s * 6 + 1) = nI a) ∧ σ 1 0 = nI P ∧ P ≤ 8 ∧ σ 1 1 = nI S ∧ S ≤ 5
def pI0 (s : Nat) (τ : qx_S) : qx_S := qs (qs τ 22 s (-4)) 23 s (-4)
def pI1 (p : Nat) (τ : qx_S) : qx_S := pRank p p (qs τ 24 p (τ 2 (p * 3 + 2)))
def pIni (σ : qx_S) : qx_S := qf pI0 (qs (qs σ 21 5 (-4)) 21 6 (-4)) 5
def pPre (σ : qx_S) (P : Nat) : qx_S := qf pI1 (pIni σ) P
def pFind (σ : qx_S) (night : Int32) (P S : Nat) : qx_S := pTry night P S 0 0 0 (pPre σ P)
theorem pI0_cell {j : Nat} (h1 : j ≠ 22) (h2 : j ≠ 23) (s : Nat) (τ : qx_S) : pI0 s τ j = τ j := by unfold pI0; rw [qs_cell _ _ _ _ h2, qs_cell _ _ _ _ h1]
theorem pIni_cell {σ : qx_S} {j : Nat} (h1 : j ≠ 22) (h2 : j ≠ 23) (h3 : j ≠ 21) : pIni σ j = σ j := by
  unfold pIni
  rw [qf_cell (pI0_cell h1 h2), qs_cell _ _ _ _ h3, qs_cell _ _ _ _ h3]
theorem pI1_cell {j : Nat} (h1 : j ≠ 24) (h2 : j ≠ 25) (p : Nat) (τ : qx_S) : pI1 p τ j = τ j := by unfold pI1; rw [pRank_cell h2, qs_cell _ _ _ _ h1]
theorem pPre_cell {σ : qx_S} {P j : Nat} (h1 : j ≠ 22) (h2 : j ≠ 23) (h3 : j ≠ 21) (h4 : j ≠ 24) (h5 : j ≠ 25) : pPre σ P j = σ j := by
  unfold pPre
  rw [qf_cell (pI1_cell h4 h5), pIni_cell h1 h2 h3]
theorem pI0_trial (σ : qx_S) : ∀ i o, o < i → qf pI0 σ i 22 o = -4 ∧ qf pI0 σ i 23 o = -4
  | 0, o, h => absurd h (Nat.not_lt_zero o)
  | i + 1, o, h => by
    rw [qf]
    unfold pI0
    by_cases e : o = i
    · subst e
      exact ⟨by rw [qs_cell _ _ _ _ (by decide), qs_same], by rw [qs_same]⟩
    · have ih := pI0_trial σ i o (by omega)
      exact ⟨by rw [qs_cell _ _ _ _ (by decide), qs_slot _ _ _ _ e]; exact ih.1, by rw [qs_slot _ _ _ _ e, qs_cell _ _ _ _ (by decide)]; exact ih.2⟩
theorem pI1_wR {σ : qx_S} : ∀ i, i ≤ 8 → wR (qf pI1 σ i) i
  | 0, _ => fun j hj => absurd hj (Nat.not_lt_zero j)
  | i + 1, h => by
    rw [qf]
    unfold pI1
    refine pRank_ok (by omega) (fun j hj => ?_)
    rw [qs_cell _ _ _ _ (by decide)]
    exact pI1_wR i (by omega) j hj
theorem pPre_wP {σ : qx_S} {P S : Nat} (h : wS σ P S) : wP (pPre σ P) P S := by
  obtain ⟨a, b, c, d, e, f⟩ := h
  refine ⟨?_, ?_, fun o ho => Or.inl ?_, pI1_wR P d, ?_, d, ?_, f⟩
  · rw [pPre_cell (by decide) (by decide) (by decide) (by decide) (by decide)]; exact a
  · rw [pPre_cell (by decide) (by decide) (by decide) (by decide) (by decide)]; exact b
  · unfold pPre
    rw [qf_cell (pI1_cell (by decide) (by decide))]
    exact (pI0_trial _ 5 o ho).1
  · rw [pPre_cell (by decide) (by decide) (by decide) (by decide) (by decide)]; exact c
  · rw [pPre_cell (by decide) (by decide) (by decide) (by decide) (by decide)]; exact e
set_option maxRecDepth 20000 in
set_option maxHeartbeats 4000000 in
theorem c_X2_find (F : qx_F) (d : Nat) (σ : qx_S) (night : Int32) (P S : Nat) (hw : wS σ P S) : qx_cV F shC ⟨"NightStalls$Plan", "find", "(I)V"⟩ (.code ⟨"NightStalls$Plan", "find", "(I)V"⟩ prog_4_method_3_code 3 ((none : Option FieldType)) :: qx_W) (qx_R (d + 16)) [.ref (fa F 21), .int night] σ (pFind σ night P S) := by
  refine qx_met (by decide) (Nat.le_of_ble_eq_true rfl) (by intro v hv; simp only [List.mem_cons, List.not_mem_nil, or_false] at hv; rcases hv with rfl | rfl <;> rfl) (fun K C => ?_)
  have hP8 := hw.2.2.2.1
  have hS5 := hw.2.2.2.2.2
  refine qx_aload_n C dX2_find_0 rfl rfl ?_
  refine qx_bipush C (v := (-4)) dX2_find_1 rfl ?_
  refine qx_put C (j := 21) (k := 5) hiX2 rfl rfl (by decide) tyX2 tyX2_ok nmX2 qw_175 rfl rfl rfl rfl dX2_find_3 ?_
  refine qx_aload_n C dX2_find_6 rfl rfl ?_
  refine qx_bipush C (v := (-4)) dX2_find_7 rfl ?_
  refine qx_put C (j := 21) (k := 6) hiX2 rfl rfl (by decide) tyX2 tyX2_ok nmX2 qw_177 rfl rfl rfl rfl dX2_find_9 ?_
  refine qx_iconst C (v := 0) dX2_find_12 rfl ?_
  refine qx_istore_n C dX2_find_13 rfl (Nat.le_of_ble_eq_true rfl) ?_
  refine qx_to (qx_up 5 (P := fun i => qx_X K F shC (qf pI0 (qs (qs σ 21 5 (-4)) 21 6 (-4)) i) 14 [some (.ref (fa F 21)), some (.int night), some (.int (nI i))] []) (fun i hi hki => ?_) ?_) rfl rfl
  · refine qx_iload_n C dX2_find_14 rfl rfl ?_
    refine qx_iconst C (v := 5) dX2_find_15 rfl ?_
    refine qx_icmp_ge_f C (tgt := 41) dX2_find_16 (by decide) (nI_ge (b := 5) hi (by decide)) ?_
    refine qx_aload_n C dX2_find_19 rfl rfl ?_
    refine qx_getR C (j := 21) (k := 1) hiX2 rfl rfl (by decide) qw_171 rfl dX2_find_20 ?_
    refine qx_iload_n C dX2_find_23 rfl rfl ?_
    refine qx_bipush C (v := (-4)) dX2_find_24 rfl ?_
    refine qx_iastN C (j := 22) rfl ⟨by omega, by decide⟩ dX2_find_26 ?_
    refine qx_aload_n C dX2_find_27 rfl rfl ?_
    refine qx_getR C (j := 21) (k := 2) hiX2 rfl rfl (by decide) qw_172 rfl dX2_find_28 ?_
    refine qx_iload_n C dX2_find_31 rfl rfl ?_
    refine qx_bipush C (v := (-4)) dX2_find_32 rfl ?_
    refine qx_iastN C (j := 23) rfl ⟨by omega, by decide⟩ dX2_find_34 ?_
    refine qx_iincN C dX2_find_35 rfl ?_
    refine qx_goto C (tgt := 14) dX2_find_38 (by decide) ?_
    exact (qx_to hki rfl rfl)
  · refine qx_iload_n C dX2_find_14 rfl rfl ?_
    refine qx_iconst C (v := 5) dX2_find_15 rfl ?_
    refine qx_icmp_ge_t C (tgt := 41) dX2_find_16 (by decide) (nI_le (a := 5) (b := 5) (Nat.le_refl _) (by decide)) ?_
    refine qx_iconst C (v := 0) dX2_find_41 rfl ?_
    refine qx_istore_n C dX2_find_42 rfl (Nat.le_of_ble_eq_true rfl) ?_
    refine qx_to (qx_up P (P := fun i => qx_X K F shC (qf pI1 (pIni σ) i) 43 [some (.ref (fa F 21)), some (.int night), some (.int (nI i))] []) (fun i hi hki => ?_) ?_) rfl rfl
    · have hri : wR (qs (qf pI1 (pIni σ) i) 24 i (qf pI1 (pIni σ) i 2 (i * 3 + 2))) i := fun j hj => by rw [qs_cell _ _ _ _ (by decide)]; exact pI1_wR i (by omega) j hj
      refine qx_iload_n C dX2_find_43 rfl rfl ?_
      refine qx_aload_n C dX2_find_44 rfl rfl ?_
      refine qx_getR C (j := 21) (k := 0) hiX2 rfl rfl (by decide) qw_170 rfl dX2_find_45 ?_
      refine qx_getIN C (j := 1) (k := 0) hiX3 rfl rfl (by decide) qn_14 rfl dX2_find_48 ?_
      refine qx_icmp_ge_f C (tgt := 80) dX2_find_51 (by decide) (by rw [(show (qf pI1 (pIni σ) i) 1 0 = nI P by rw [qf_cell (pI1_cell (by decide) (by decide)), pIni_cell (by decide) (by decide) (by decide)]; exact hw.2.2.1)]; exact nI_ge hi (by omega)) ?_
      refine qx_aload_n C dX2_find_54 rfl rfl ?_
      refine qx_getR C (j := 21) (k := 3) hiX2 rfl rfl (by decide) qw_173 rfl dX2_find_55 ?_
      refine qx_iload_n C dX2_find_58 rfl rfl ?_
      refine qx_aload_n C dX2_find_59 rfl rfl ?_
      refine qx_getR C (j := 21) (k := 0) hiX2 rfl rfl (by decide) qw_170 rfl dX2_find_60 ?_
      refine qx_iload_n C dX2_find_63 rfl rfl ?_
      refine qx_iconst C (v := 2) dX2_find_64 rfl ?_
      refine qx_callVI C (b := 1) (As := [_, _]) (n := 2) (c_X3_placeFact F (d + 14) _ i 2 (by omega) (by omega)) rfl rfl qw_317 qw_243 qw_244 qw_40 qw_245 ⟨rfl, by decide, by decide, by decide +kernel⟩ (qx_room (by omega) (by decide)) rfl rfl (Nat.le_of_ble_eq_true rfl) dX2_find_65 ?_
      refine qx_iastN C (j := 24) rfl ⟨by omega, by decide⟩ dX2_find_68 ?_
      refine qx_aload_n C dX2_find_69 rfl rfl ?_
      refine qx_iload_n C dX2_find_70 rfl rfl ?_
      refine qx_callVv C (b := 21) (As := [_]) (n := 1) (c_X2_rank F (d + 12) _ i (by omega) hri) rfl rfl qw_318 qw_320 qw_0 qw_43 qw_321 ⟨rfl, by decide, by decide, by decide +kernel⟩ (qx_room (by omega) (by decide)) rfl rfl (Nat.le_of_ble_eq_true rfl) dX2_find_71 ?_
      refine qx_iincN C dX2_find_74 rfl ?_
      refine qx_goto C (tgt := 43) dX2_find_77 (by decide) ?_
      exact (qx_to hki rfl rfl)
    · refine qx_iload_n C dX2_find_43 rfl rfl ?_
      refine qx_aload_n C dX2_find_44 rfl rfl ?_
      refine qx_getR C (j := 21) (k := 0) hiX2 rfl rfl (by decide) qw_170 rfl dX2_find_45 ?_
      refine qx_getIN C (j := 1) (k := 0) hiX3 rfl rfl (by decide) qn_14 rfl dX2_find_48 ?_
      refine qx_icmp_ge_t C (tgt := 80) dX2_find_51 (by decide) (by rw [(show (qf pI1 (pIni σ) P) 1 0 = nI P by rw [qf_cell (pI1_cell (by decide) (by decide)), pIni_cell (by decide) (by decide) (by decide)]; exact hw.2.2.1)]; exact nI_le (Nat.le_refl _) (by omega)) ?_
      refine qx_aload_n C dX2_find_80 rfl rfl ?_
      refine qx_iconst C (v := 0) dX2_find_81 rfl ?_
      refine qx_iload_n C dX2_find_82 rfl rfl ?_
      refine qx_iconst C (v := 0) dX2_find_83 rfl ?_
      refine qx_iconst C (v := 0) dX2_find_84 rfl ?_
      refine qx_callVv C (b := 21) (As := [_, _, _, _]) (n := 4) (c_X2_tryFrom F P S night S 0 (by omega) (d + 10 - 2 * S) _ _ _ (pPre_wP hw)) rfl rfl qw_326 qw_328 qw_1 qw_43 qw_329 ⟨rfl, by decide, by decide, by decide +kernel⟩ (qx_room (by omega) (by decide)) rfl rfl (Nat.le_of_ble_eq_true rfl) dX2_find_85 ?_
      exact qx_vret C dX2_find_88 rfl
