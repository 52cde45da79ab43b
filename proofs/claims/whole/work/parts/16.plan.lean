/-! the search for the layout: what its methods do -/
def wP (σ : qx_S) (P S : Nat) : Prop := (∀ p, p < 8 → ∃ k, k < 3 ∧ σ 2 (p * 3 + 1) = nI k) ∧ (∀ s, s < 5 → ∃ a, a < 4 ∧ σ 6 (s * 6 + 1) = nI a) ∧ (∀ o, o < 5 → σ 22 o = -4 ∨ ∃ q, q < 8 ∧ σ 22 o = nI q) ∧ (∀ i, i < P → ∃ q, q < 8 ∧ σ 25 i = nI q) ∧ σ 1 0 = nI P ∧ P ≤ 8 ∧ σ 1 1 = nI S ∧ S ≤ 5
theorem wP_to {σ τ : qx_S} {P S : Nat} (h : wP σ P S) (h2 : τ 2 = σ 2) (h6 : τ 6 = σ 6) (h22 : τ 22 = σ 22) (h25 : τ 25 = σ 25) (h1 : τ 1 = σ 1) : wP τ P S := by
  unfold wP at *
  rw [h2, h6, h22, h25, h1]
  exact h
theorem wP_qs {σ : qx_S} {P S : Nat} (h : wP σ P S) {j : Nat} (k : Nat) (v : Int32) (h2 : 2 ≠ j) (h6 : 6 ≠ j) (h22 : 22 ≠ j) (h25 : 25 ≠ j) (h1 : 1 ≠ j) : wP (qs σ j k v) P S :=
  wP_to h (qs_cell _ _ _ _ h2) (qs_cell _ _ _ _ h6) (qs_cell _ _ _ _ h22) (qs_cell _ _ _ _ h25) (qs_cell _ _ _ _ h1)
theorem wP_trial {σ : qx_S} {P S : Nat} (h : wP σ P S) (s : Nat) (v : Int32) (hv : v = -4 ∨ ∃ q, q < 8 ∧ v = nI q) : wP (qs σ 22 s v) P S := by
  obtain ⟨a, b, c, d, e⟩ := h
  refine ⟨?_, ?_, fun o ho => ?_, ?_, ?_⟩
  · rw [qs_cell _ _ _ _ (by decide)]; exact a
  · rw [qs_cell _ _ _ _ (by decide)]; exact b
  · rw [qs_at]
    split
    · exact hv
    · exact c o ho
  · rw [qs_cell _ _ _ _ (by decide)]; exact d
  · rw [qs_cell _ _ _ _ (by decide)]; exact e
abbrev pBear (σ : qx_S) (s o : Nat) (x : Int32) : Prop := ¬ (¬ σ 5 0 < x ∧ σ 6 (s * 6 + 0) = σ 6 (o * 6 + 0)) ∧ (¬ x = 1 ∨ ¬ σ 4 (ix (σ 6 (s * 6 + 1)) * 4 + ix (σ 6 (o * 6 + 1))) = 1)
abbrev aI (x : Int32) : Int32 := if 0 ≤ x then x else 0 - x
def pWt (σ : qx_S) (s p i : Nat) : Int32 := qf (fun o a => if ¬ σ 22 o = -4 ∧ σ 2 (ix (σ 22 o) * 3 + 1) = σ 2 (p * 3 + 1) then a + σ 6 (o * 6 + 2) else a) (σ 6 (s * 6 + 2)) i
abbrev pOk (σ : qx_S) (s p o : Nat) : Prop := σ 22 o = -4 ∨ pBear σ s o (aI (nI p - σ 22 o))
abbrev pFits (σ : qx_S) (s p : Nat) : Prop := ¬ σ 24 p = 1 ∧ (∀ o, o < s → pOk σ s p o) ∧ ¬ σ 3 (ix (σ 2 (p * 3 + 1))) < pWt σ s p s
abbrev pBet (σ : qx_S) (r c : Int32) : Prop := σ 21 5 < r ∨ (r = σ 21 5 ∧ ¬ c ≤ σ 21 6)
def pJudge (σ : qx_S) (r c : Int32) : qx_S := if pBet σ r c then qc (qs (qs σ 21 5 r) 21 6 c) 22 23 5 else σ
def pMostS (σ : qx_S) (k : Int32) (i : Nat) (a : Int32 × Int32) : Int32 × Int32 := if k ≤ a.2 then a else if σ 24 (ix (σ 25 i)) = 0 then (a.1 + σ 2 (ix (σ 25 i) * 3 + 0), a.2 + 1) else a
theorem pMost_b {σ : qx_S} {k : Int32} {i : Nat} {a : Int32 × Int32} (h : ¬ k ≤ a.2) (h2 : σ 24 (ix (σ 25 i)) = 0) : pMostS σ k i a = (a.1 + σ 2 (ix (σ 25 i) * 3 + 0), a.2 + 1) := by unfold pMostS; rw [if_neg h, if_pos h2]
theorem pMost_c {σ : qx_S} {k : Int32} {i : Nat} {a : Int32 × Int32} (h : ¬ k ≤ a.2) (h2 : ¬ σ 24 (ix (σ 25 i)) = 0) : pMostS σ k i a = a := by unfold pMostS; rw [if_neg h, if_neg h2]
theorem pMost_stop {σ : qx_S} {k : Int32} {a : Int32 × Int32} {i : Nat} (h : k ≤ (qf (pMostS σ k) a i).2) : ∀ m, qf (pMostS σ k) a (i + m) = qf (pMostS σ k) a i
  | 0 => rfl
  | m + 1 => by
    have ih := pMost_stop h m
    show pMostS σ k (i + m) (qf (pMostS σ k) a (i + m)) = _
    rw [ih]
    exact if_pos h
def pMost (σ : qx_S) (k : Int32) (P : Nat) : Int32 := (qf (pMostS σ k) (0, 0) P).1
theorem pMost_at {σ : qx_S} {k : Int32} {P i : Nat} (hi : i ≤ P) (h : k ≤ (qf (pMostS σ k) (0, 0) i).2) : (qf (pMostS σ k) (0, 0) i).1 = pMost σ k P := by
  unfold pMost
  have := pMost_stop h (P - i)
  rw [show i + (P - i) = P by omega] at this
  rw [this]
def pRank (p : Nat) : Nat → qx_S → qx_S
  | 0, σ => qs σ 25 0 (nI p)
  | a + 1, σ => if σ 2 (p * 3 + 0) ≤ σ 2 (ix (σ 25 a) * 3 + 0) then qs σ 25 (a + 1) (nI p) else pRank p a (qs σ 25 (a + 1) (σ 25 a))
def pTry (night : Int32) (P : Nat) : Nat → Nat → Int32 → Int32 → qx_S → qx_S
  | 0, _, r, c, σ => pJudge σ r c
  | k + 1, s, r, c, σ =>
    if pBet σ (r + pMost σ (nI (k + 1)) P) (c + nI (k + 1)) then
      pTry night P k (s + 1) r c (if night ≤ σ 6 (s * 6 + 5) then qs (qf (fun p τ => if pFits τ s p then qs (pTry night P k (s + 1) (r + qs (qs τ 22 s (nI p)) 24 p 1 2 (p * 3 + 0)) (c + 1) (qs (qs τ 22 s (nI p)) 24 p 1)) 24 p 0 else τ) σ P) 22 s (-4) else σ)
    else σ
set_option maxRecDepth 20000 in
set_option maxHeartbeats 4000000 in
theorem c_X2_bear (F : qx_F) (d : Nat) (σ : qx_S) (s o : Nat) (x : Int32) (hs : s < 5) (ho : o < 5) (P S : Nat) (hw : wP σ P S) : qx_cI F shC ⟨"NightStalls$Plan", "bear", "(III)Z"⟩ (.code ⟨"NightStalls$Plan", "bear", "(III)Z"⟩ prog_4_method_11_code 4 ((some FieldType.boolean)) :: qx_W) (qx_R (d + 2)) [.ref (fa F 21), .int (nI s), .int (nI o), .int x] σ (if pBear σ s o x then 1 else 0) (σ) := by
  refine qx_met (by decide) (Nat.le_of_ble_eq_true rfl) (by intro v hv; simp only [List.mem_cons, List.not_mem_nil, or_false] at hv; rcases hv with rfl | rfl | rfl | rfl <;> rfl) (fun K C => ?_)
  refine qx_iload_n C dX2_bear_0 rfl rfl ?_
  refine qx_aload_n C dX2_bear_1 rfl rfl ?_
  refine qx_getR C (j := 21) (k := 0) hiX2 rfl rfl (by decide) qw_170 rfl dX2_bear_2 ?_
  refine qx_iconst C (v := 0) dX2_bear_5 rfl ?_
  refine qx_callVI C (b := 1) (As := [_]) (n := 1) (c_X3_ruled F (d + 0) _ 0 (by omega)) rfl rfl qw_375 qw_376 qw_377 qw_40 qw_378 ⟨rfl, by decide, by decide, by decide +kernel⟩ (qx_room (by omega) (by decide)) rfl rfl (Nat.le_of_ble_eq_true rfl) dX2_bear_6 ?_
  refine qx_icmp_gt C (tgt := 35) dX2_bear_9 (by decide) (fun h9 => ?_) (fun h9 => ?_)
  · refine qx_iload_n C dX2_bear_35 rfl rfl ?_
    refine qx_iconst C (v := 1) dX2_bear_36 rfl ?_
    refine qx_icmp_ne C (tgt := 68) dX2_bear_37 (by decide) (fun h37 => ?_) (fun h37 => ?_)
    · refine qx_iconst C (v := 1) dX2_bear_68 rfl ?_
      refine qx_goto C (tgt := 73) dX2_bear_69 (by decide) ?_
      exact qx_iret C dX2_bear_73 rfl (by first | (simp [h9, h37]; done) | simp_all) rfl
    · obtain ⟨a, ha, ea⟩ := hw.2.1 s hs
      · obtain ⟨b, hb, eb⟩ := hw.2.1 o ho
        have ia : (nI a).toNatClampNeg = a := nI_clamp (by omega)
        have ib : (nI b).toNatClampNeg = b := nI_clamp (by omega)
        refine qx_aload_n C dX2_bear_40 rfl rfl ?_
        refine qx_getR C (j := 21) (k := 0) hiX2 rfl rfl (by decide) qw_170 rfl dX2_bear_41 ?_
        refine qx_aload_n C dX2_bear_44 rfl rfl ?_
        refine qx_getR C (j := 21) (k := 0) hiX2 rfl rfl (by decide) qw_170 rfl dX2_bear_45 ?_
        refine qx_iload_n C dX2_bear_48 rfl rfl ?_
        refine qx_iconst C (v := 1) dX2_bear_49 rfl ?_
        refine qx_callVI C (b := 1) (As := [_, _]) (n := 2) (c_X3_trait F (d + 0) _ s 1 (by omega) (by omega)) rfl rfl qw_367 qw_295 qw_296 qw_40 qw_297 ⟨rfl, by decide, by decide, by decide +kernel⟩ (qx_room (by omega) (by decide)) rfl rfl (Nat.le_of_ble_eq_true rfl) dX2_bear_50 ?_
        refine qx_top ea ?_
        refine qx_aload_n C dX2_bear_53 rfl rfl ?_
        refine qx_getR C (j := 21) (k := 0) hiX2 rfl rfl (by decide) qw_170 rfl dX2_bear_54 ?_
        refine qx_iload_n C dX2_bear_57 rfl rfl ?_
        refine qx_iconst C (v := 1) dX2_bear_58 rfl ?_
        refine qx_callVI C (b := 1) (As := [_, _]) (n := 2) (c_X3_trait F (d + 0) _ o 1 (by omega) (by omega)) rfl rfl qw_367 qw_295 qw_296 qw_40 qw_297 ⟨rfl, by decide, by decide, by decide +kernel⟩ (qx_room (by omega) (by decide)) rfl rfl (Nat.le_of_ble_eq_true rfl) dX2_bear_59 ?_
        refine qx_top eb ?_
        refine qx_callVI C (b := 1) (As := [_, _]) (n := 2) (c_X3_doClash F (d + 0) _ a b (by omega) (by omega)) rfl rfl qw_379 qw_266 qw_267 qw_40 qw_268 ⟨rfl, by decide, by decide, by decide +kernel⟩ (qx_room (by omega) (by decide)) rfl rfl (Nat.le_of_ble_eq_true rfl) dX2_bear_62 ?_
        refine qx_split _ (fun h62 => ?_) (fun h62 => ?_)
        · refine qx_if_ne_t C (tgt := 72) dX2_bear_65 (by decide) (by decide) ?_
          refine qx_iconst C (v := 0) dX2_bear_72 rfl ?_
          exact qx_iret C dX2_bear_73 rfl (by first | (simp [h9, h37, ea, eb, ia, ib, h62]; done) | simp_all) rfl
        · refine qx_if_ne_f C (tgt := 72) dX2_bear_65 (by decide) (by decide) ?_
          refine qx_iconst C (v := 1) dX2_bear_68 rfl ?_
          refine qx_goto C (tgt := 73) dX2_bear_69 (by decide) ?_
          exact qx_iret C dX2_bear_73 rfl (by first | (simp [h9, h37, ea, eb, ia, ib, h62]; done) | simp_all) rfl
  · refine qx_aload_n C dX2_bear_12 rfl rfl ?_
    refine qx_getR C (j := 21) (k := 0) hiX2 rfl rfl (by decide) qw_170 rfl dX2_bear_13 ?_
    refine qx_iload_n C dX2_bear_16 rfl rfl ?_
    refine qx_iconst C (v := 0) dX2_bear_17 rfl ?_
    refine qx_callVI C (b := 1) (As := [_, _]) (n := 2) (c_X3_trait F (d + 0) _ s 0 (by omega) (by omega)) rfl rfl qw_367 qw_295 qw_296 qw_40 qw_297 ⟨rfl, by decide, by decide, by decide +kernel⟩ (qx_room (by omega) (by decide)) rfl rfl (Nat.le_of_ble_eq_true rfl) dX2_bear_18 ?_
    refine qx_aload_n C dX2_bear_21 rfl rfl ?_
    refine qx_getR C (j := 21) (k := 0) hiX2 rfl rfl (by decide) qw_170 rfl dX2_bear_22 ?_
    refine qx_iload_n C dX2_bear_25 rfl rfl ?_
    refine qx_iconst C (v := 0) dX2_bear_26 rfl ?_
    refine qx_callVI C (b := 1) (As := [_, _]) (n := 2) (c_X3_trait F (d + 0) _ o 0 (by omega) (by omega)) rfl rfl qw_367 qw_295 qw_296 qw_40 qw_297 ⟨rfl, by decide, by decide, by decide +kernel⟩ (qx_room (by omega) (by decide)) rfl rfl (Nat.le_of_ble_eq_true rfl) dX2_bear_27 ?_
    refine qx_icmp_ne C (tgt := 35) dX2_bear_30 (by decide) (fun h30 => ?_) (fun h30 => ?_)
    · refine qx_iload_n C dX2_bear_35 rfl rfl ?_
      refine qx_iconst C (v := 1) dX2_bear_36 rfl ?_
      refine qx_icmp_ne C (tgt := 68) dX2_bear_37 (by decide) (fun h37 => ?_) (fun h37 => ?_)
      · refine qx_iconst C (v := 1) dX2_bear_68 rfl ?_
        refine qx_goto C (tgt := 73) dX2_bear_69 (by decide) ?_
        exact qx_iret C dX2_bear_73 rfl (by first | (simp [h9, h30, h37]; done) | simp_all) rfl
      · obtain ⟨a, ha, ea⟩ := hw.2.1 s hs
        · obtain ⟨b, hb, eb⟩ := hw.2.1 o ho
          have ia : (nI a).toNatClampNeg = a := nI_clamp (by omega)
          have ib : (nI b).toNatClampNeg = b := nI_clamp (by omega)
          refine qx_aload_n C dX2_bear_40 rfl rfl ?_
          refine qx_getR C (j := 21) (k := 0) hiX2 rfl rfl (by decide) qw_170 rfl dX2_bear_41 ?_
          refine qx_aload_n C dX2_bear_44 rfl rfl ?_
          refine qx_getR C (j := 21) (k := 0) hiX2 rfl rfl (by decide) qw_170 rfl dX2_bear_45 ?_
          refine qx_iload_n C dX2_bear_48 rfl rfl ?_
          refine qx_iconst C (v := 1) dX2_bear_49 rfl ?_
          refine qx_callVI C (b := 1) (As := [_, _]) (n := 2) (c_X3_trait F (d + 0) _ s 1 (by omega) (by omega)) rfl rfl qw_367 qw_295 qw_296 qw_40 qw_297 ⟨rfl, by decide, by decide, by decide +kernel⟩ (qx_room (by omega) (by decide)) rfl rfl (Nat.le_of_ble_eq_true rfl) dX2_bear_50 ?_
          refine qx_top ea ?_
          refine qx_aload_n C dX2_bear_53 rfl rfl ?_
          refine qx_getR C (j := 21) (k := 0) hiX2 rfl rfl (by decide) qw_170 rfl dX2_bear_54 ?_
          refine qx_iload_n C dX2_bear_57 rfl rfl ?_
          refine qx_iconst C (v := 1) dX2_bear_58 rfl ?_
          refine qx_callVI C (b := 1) (As := [_, _]) (n := 2) (c_X3_trait F (d + 0) _ o 1 (by omega) (by omega)) rfl rfl qw_367 qw_295 qw_296 qw_40 qw_297 ⟨rfl, by decide, by decide, by decide +kernel⟩ (qx_room (by omega) (by decide)) rfl rfl (Nat.le_of_ble_eq_true rfl) dX2_bear_59 ?_
          refine qx_top eb ?_
          refine qx_callVI C (b := 1) (As := [_, _]) (n := 2) (c_X3_doClash F (d + 0) _ a b (by omega) (by omega)) rfl rfl qw_379 qw_266 qw_267 qw_40 qw_268 ⟨rfl, by decide, by decide, by decide +kernel⟩ (qx_room (by omega) (by decide)) rfl rfl (Nat.le_of_ble_eq_true rfl) dX2_bear_62 ?_
          refine qx_split _ (fun h62 => ?_) (fun h62 => ?_)
          · refine qx_if_ne_t C (tgt := 72) dX2_bear_65 (by decide) (by decide) ?_
            refine qx_iconst C (v := 0) dX2_bear_72 rfl ?_
            exact qx_iret C dX2_bear_73 rfl (by first | (simp [h9, h30, h37, ea, eb, ia, ib, h62]; done) | simp_all) rfl
          · refine qx_if_ne_f C (tgt := 72) dX2_bear_65 (by decide) (by decide) ?_
            refine qx_iconst C (v := 1) dX2_bear_68 rfl ?_
            refine qx_goto C (tgt := 73) dX2_bear_69 (by decide) ?_
            exact qx_iret C dX2_bear_73 rfl (by first | (simp [h9, h30, h37, ea, eb, ia, ib, h62]; done) | simp_all) rfl
    · refine qx_iconst C (v := 0) dX2_bear_33 rfl ?_
      exact qx_iret C dX2_bear_34 rfl (by first | (simp [h9, h30]; done) | simp_all) rfl
set_option maxRecDepth 20000 in
set_option maxHeartbeats 4000000 in
theorem c_X2_isBetter (F : qx_F) (d : Nat) (σ : qx_S) (r c : Int32) : qx_cI F shC ⟨"NightStalls$Plan", "isBetter", "(II)Z"⟩ (.code ⟨"NightStalls$Plan", "isBetter", "(II)Z"⟩ prog_4_method_8_code 3 ((some FieldType.boolean)) :: qx_W) (qx_R (d + 1)) [.ref (fa F 21), .int r, .int c] σ (if pBet σ r c then 1 else 0) (σ) := by
  refine qx_met (by decide) (Nat.le_of_ble_eq_true rfl) (by intro v hv; simp only [List.mem_cons, List.not_mem_nil, or_false] at hv; rcases hv with rfl | rfl | rfl <;> rfl) (fun K C => ?_)
  refine qx_iload_n C dX2_isBetter_0 rfl rfl ?_
  refine qx_aload_n C dX2_isBetter_1 rfl rfl ?_
  refine qx_getI C (j := 21) (k := 5) hiX2 rfl rfl (by decide) qw_175 rfl dX2_isBetter_2 ?_
  refine qx_icmp_gt C (tgt := 24) dX2_isBetter_5 (by decide) (fun h5 => ?_) (fun h5 => ?_)
  · refine qx_iconst C (v := 1) dX2_isBetter_24 rfl ?_
    refine qx_goto C (tgt := 29) dX2_isBetter_25 (by decide) ?_
    exact qx_iret C dX2_isBetter_29 rfl (by first | exact (if_pos (Or.inl h5)).symm | exact (if_pos (Or.inr ⟨h13, h21⟩)).symm | exact (if_neg (not_or.mpr ⟨h5, mt And.left h13⟩)).symm | exact (if_neg (not_or.mpr ⟨h5, fun z => z.2 h21⟩)).symm) rfl
  · refine qx_iload_n C dX2_isBetter_8 rfl rfl ?_
    refine qx_aload_n C dX2_isBetter_9 rfl rfl ?_
    refine qx_getI C (j := 21) (k := 5) hiX2 rfl rfl (by decide) qw_175 rfl dX2_isBetter_10 ?_
    refine qx_icmp_ne C (tgt := 28) dX2_isBetter_13 (by decide) (fun h13 => ?_) (fun h13 => ?_)
    · refine qx_iconst C (v := 0) dX2_isBetter_28 rfl ?_
      exact qx_iret C dX2_isBetter_29 rfl (by first | exact (if_pos (Or.inl h5)).symm | exact (if_pos (Or.inr ⟨h13, h21⟩)).symm | exact (if_neg (not_or.mpr ⟨h5, mt And.left h13⟩)).symm | exact (if_neg (not_or.mpr ⟨h5, fun z => z.2 h21⟩)).symm) rfl
    · refine qx_iload_n C dX2_isBetter_16 rfl rfl ?_
      refine qx_aload_n C dX2_isBetter_17 rfl rfl ?_
      refine qx_getI C (j := 21) (k := 6) hiX2 rfl rfl (by decide) qw_177 rfl dX2_isBetter_18 ?_
      refine qx_icmp_le C (tgt := 28) dX2_isBetter_21 (by decide) (fun h21 => ?_) (fun h21 => ?_)
      · refine qx_iconst C (v := 0) dX2_isBetter_28 rfl ?_
        exact qx_iret C dX2_isBetter_29 rfl (by first | exact (if_pos (Or.inl h5)).symm | exact (if_pos (Or.inr ⟨h13, h21⟩)).symm | exact (if_neg (not_or.mpr ⟨h5, mt And.left h13⟩)).symm | exact (if_neg (not_or.mpr ⟨h5, fun z => z.2 h21⟩)).symm) rfl
      · refine qx_iconst C (v := 1) dX2_isBetter_24 rfl ?_
        refine qx_goto C (tgt := 29) dX2_isBetter_25 (by decide) ?_
        exact qx_iret C dX2_isBetter_29 rfl (by first | exact (if_pos (Or.inl h5)).symm | exact (if_pos (Or.inr ⟨h13, h21⟩)).symm | exact (if_neg (not_or.mpr ⟨h5, mt And.left h13⟩)).symm | exact (if_neg (not_or.mpr ⟨h5, fun z => z.2 h21⟩)).symm) rfl
set_option maxRecDepth 20000 in
set_option maxHeartbeats 4000000 in
theorem c_X2_judge (F : qx_F) (d : Nat) (σ : qx_S) (r c : Int32) : qx_cV F shC ⟨"NightStalls$Plan", "judge", "(II)V"⟩ (.code ⟨"NightStalls$Plan", "judge", "(II)V"⟩ prog_4_method_9_code 3 ((none : Option FieldType)) :: qx_W) (qx_R (d + 2)) [.ref (fa F 21), .int r, .int c] σ (pJudge σ r c) := by
  refine qx_met (by decide) (Nat.le_of_ble_eq_true rfl) (by intro v hv; simp only [List.mem_cons, List.not_mem_nil, or_false] at hv; rcases hv with rfl | rfl | rfl <;> rfl) (fun K C => ?_)
  refine qx_aload_n C dX2_judge_0 rfl rfl ?_
  refine qx_iload_n C dX2_judge_1 rfl rfl ?_
  refine qx_iload_n C dX2_judge_2 rfl rfl ?_
  refine qx_callVI C (b := 21) (As := [_, _]) (n := 2) (c_X2_isBetter F (d + 0) _ _ _) rfl rfl qw_334 qw_336 qw_3 qw_43 qw_337 ⟨rfl, by decide, by decide, by decide +kernel⟩ (qx_room (by omega) (by decide)) rfl rfl (Nat.le_of_ble_eq_true rfl) dX2_judge_3 ?_
  refine qx_split _ (fun h3 => ?_) (fun h3 => ?_)
  · refine qx_if_eq_f C (tgt := 30) dX2_judge_6 (by decide) (by decide) ?_
    refine qx_aload_n C dX2_judge_9 rfl rfl ?_
    refine qx_iload_n C dX2_judge_10 rfl rfl ?_
    refine qx_put C (j := 21) (k := 5) hiX2 rfl rfl (by decide) tyX2 tyX2_ok nmX2 qw_175 rfl rfl rfl rfl dX2_judge_11 ?_
    refine qx_aload_n C dX2_judge_14 rfl rfl ?_
    refine qx_iload_n C dX2_judge_15 rfl rfl ?_
    refine qx_put C (j := 21) (k := 6) hiX2 rfl rfl (by decide) tyX2 tyX2_ok nmX2 qw_177 rfl rfl rfl rfl dX2_judge_16 ?_
    refine qx_aload_n C dX2_judge_19 rfl rfl ?_
    refine qx_getR C (j := 21) (k := 1) hiX2 rfl rfl (by decide) qw_171 rfl dX2_judge_20 ?_
    refine qx_aload_n C dX2_judge_23 rfl rfl ?_
    refine qx_getR C (j := 21) (k := 2) hiX2 rfl rfl (by decide) qw_172 rfl dX2_judge_24 ?_
    refine qx_callNv C (As := [_, _]) (n := 2) (c_X4_copyNumbers F (d + 0) _ 22 23 5 rfl rfl (by decide)) qn_18 qw_339 qw_39 qw_340 ⟨by decide, by decide, by decide +kernel⟩ (qx_room (by omega) (by decide)) rfl rfl (Nat.le_of_ble_eq_true rfl) dX2_judge_27 ?_
    exact qx_vret C dX2_judge_30 (by first | exact (if_pos h3).symm | exact (if_neg h3).symm)
  · refine qx_if_eq_t C (tgt := 30) dX2_judge_6 (by decide) (by decide) ?_
    exact qx_vret C dX2_judge_30 (by first | exact (if_pos h3).symm | exact (if_neg h3).symm)
set_option maxRecDepth 20000 in
set_option maxHeartbeats 4000000 in
theorem c_X2_mostRent (F : qx_F) (d : Nat) (σ : qx_S) (k : Int32) (P S : Nat) (hw : wP σ P S) : qx_cI F shC ⟨"NightStalls$Plan", "mostRent", "(I)I"⟩ (.code ⟨"NightStalls$Plan", "mostRent", "(I)I"⟩ prog_4_method_7_code 5 ((some FieldType.int)) :: qx_W) (qx_R (d + 3)) [.ref (fa F 21), .int k] σ (pMost σ k P) (σ) := by
  refine qx_met (by decide) (Nat.le_of_ble_eq_true rfl) (by intro v hv; simp only [List.mem_cons, List.not_mem_nil, or_false] at hv; rcases hv with rfl | rfl <;> rfl) (fun K C => ?_)
  have hP8 := hw.2.2.2.2.2.1
  refine qx_iconst C (v := 0) dX2_mostRent_0 rfl ?_
  refine qx_istore_n C dX2_mostRent_1 rfl (Nat.le_of_ble_eq_true rfl) ?_
  refine qx_iconst C (v := 0) dX2_mostRent_2 rfl ?_
  refine qx_istore_n C dX2_mostRent_3 rfl (Nat.le_of_ble_eq_true rfl) ?_
  refine qx_iconst C (v := 0) dX2_mostRent_4 rfl ?_
  refine qx_istore C dX2_mostRent_5 (Nat.le_of_ble_eq_true rfl) ?_
  refine qx_to (qx_up P (P := fun i => qx_X K F shC (σ) 7 [some (.ref (fa F 21)), some (.int k), some (.int ((qf (pMostS σ k) (0, 0) i).1)), some (.int ((qf (pMostS σ k) (0, 0) i).2)), some (.int (nI i))] []) (fun i hi hki => ?_) ?_) rfl rfl
  · obtain ⟨q, hq, eq⟩ := hw.2.2.2.1 i hi
    have iq : (nI q).toNatClampNeg = q := nI_clamp (by omega)
    have eiq : ix (σ 25 i) = q := by rw [eq]; exact iq
    refine qx_iload C dX2_mostRent_7 rfl ?_
    refine qx_aload_n C dX2_mostRent_9 rfl rfl ?_
    refine qx_getR C (j := 21) (k := 0) hiX2 rfl rfl (by decide) qw_170 rfl dX2_mostRent_10 ?_
    refine qx_getIN C (j := 1) (k := 0) hiX3 rfl rfl (by decide) qn_14 rfl dX2_mostRent_13 ?_
    refine qx_icmp_ge_f C (tgt := 65) dX2_mostRent_16 (by decide) (by rw [hw.2.2.2.2.1]; exact nI_ge hi (by have := hw.2.2.2.2.2.1; omega)) ?_
    refine qx_iload_n C dX2_mostRent_19 rfl rfl ?_
    refine qx_iload_n C dX2_mostRent_20 rfl rfl ?_
    refine qx_icmp_ge C (tgt := 65) dX2_mostRent_21 (by decide) (fun h21 => ?_) (fun h21 => ?_)
    · refine qx_iload_n C dX2_mostRent_65 rfl rfl ?_
      exact qx_iret C dX2_mostRent_66 rfl (by first | rfl | exact pMost_at (by omega) h21) rfl
    · refine qx_aload_n C dX2_mostRent_24 rfl rfl ?_
      refine qx_getR C (j := 21) (k := 3) hiX2 rfl rfl (by decide) qw_173 rfl dX2_mostRent_25 ?_
      refine qx_aload_n C dX2_mostRent_28 rfl rfl ?_
      refine qx_getR C (j := 21) (k := 4) hiX2 rfl rfl (by decide) qw_174 rfl dX2_mostRent_29 ?_
      refine qx_iload C dX2_mostRent_32 rfl ?_
      refine qx_ialdN C (j := 25) rfl ⟨by omega, by decide⟩ dX2_mostRent_34 ?_
      refine qx_top eq ?_
      refine qx_ialdN C (j := 24) rfl ⟨by omega, by decide⟩ dX2_mostRent_35 ?_
      refine qx_if_ne C (tgt := 59) dX2_mostRent_36 (by decide) (fun h36 => ?_) (fun h36 => ?_)
      · refine qx_iincN C dX2_mostRent_59 rfl ?_
        refine qx_goto C (tgt := 7) dX2_mostRent_62 (by decide) ?_
        exact (qx_to hki rfl (by first | (rw [qf, pMost_b h21 (by rw [eiq]; exact h36), eiq]; first | done | rfl) | (rw [qf, pMost_c h21 (by rw [eiq]; exact h36)]; first | done | rfl)))
      · refine qx_iload_n C dX2_mostRent_39 rfl rfl ?_
        refine qx_aload_n C dX2_mostRent_40 rfl rfl ?_
        refine qx_getR C (j := 21) (k := 0) hiX2 rfl rfl (by decide) qw_170 rfl dX2_mostRent_41 ?_
        refine qx_aload_n C dX2_mostRent_44 rfl rfl ?_
        refine qx_getR C (j := 21) (k := 4) hiX2 rfl rfl (by decide) qw_174 rfl dX2_mostRent_45 ?_
        refine qx_iload C dX2_mostRent_48 rfl ?_
        refine qx_ialdN C (j := 25) rfl ⟨by omega, by decide⟩ dX2_mostRent_50 ?_
        refine qx_top eq ?_
        refine qx_callVI C (b := 1) (As := [_]) (n := 1) (c_X3_rentOf F (d + 0) _ q (by omega)) rfl rfl qw_322 qw_323 qw_324 qw_40 qw_325 ⟨rfl, by decide, by decide, by decide +kernel⟩ (qx_room (by omega) (by decide)) rfl rfl (Nat.le_of_ble_eq_true rfl) dX2_mostRent_51 ?_
        refine qx_iadd C dX2_mostRent_54 ?_
        refine qx_istore_n C dX2_mostRent_55 rfl (Nat.le_of_ble_eq_true rfl) ?_
        refine qx_iinc C (v := _ + 1) dX2_mostRent_56 rfl rfl ?_
        refine qx_iincN C dX2_mostRent_59 rfl ?_
        refine qx_goto C (tgt := 7) dX2_mostRent_62 (by decide) ?_
        exact (qx_to hki rfl (by first | (rw [qf, pMost_b h21 (by rw [eiq]; exact h36), eiq]; first | done | rfl) | (rw [qf, pMost_c h21 (by rw [eiq]; exact h36)]; first | done | rfl)))
  · refine qx_iload C dX2_mostRent_7 rfl ?_
    refine qx_aload_n C dX2_mostRent_9 rfl rfl ?_
    refine qx_getR C (j := 21) (k := 0) hiX2 rfl rfl (by decide) qw_170 rfl dX2_mostRent_10 ?_
    refine qx_getIN C (j := 1) (k := 0) hiX3 rfl rfl (by decide) qn_14 rfl dX2_mostRent_13 ?_
    refine qx_icmp_ge_t C (tgt := 65) dX2_mostRent_16 (by decide) (by rw [hw.2.2.2.2.1]; exact nI_le (Nat.le_refl _) (by have := hw.2.2.2.2.2.1; omega)) ?_
    refine qx_iload_n C dX2_mostRent_65 rfl rfl ?_
    exact qx_iret C dX2_mostRent_66 rfl (by first | rfl | exact pMost_at (by omega) h21) rfl
set_option maxRecDepth 20000 in
set_option maxHeartbeats 4000000 in
theorem c_X2_fits (F : qx_F) (d : Nat) (σ : qx_S) (s p : Nat) (hs : s < 5) (hp : p < 8) (P S : Nat) (hw : wP σ P S) : qx_cI F shC ⟨"NightStalls$Plan", "fits", "(II)Z"⟩ (.code ⟨"NightStalls$Plan", "fits", "(II)Z"⟩ prog_4_method_10_code 7 ((some FieldType.boolean)) :: qx_W) (qx_R (d + 3)) [.ref (fa F 21), .int (nI s), .int (nI p)] σ (if pFits σ s p then 1 else 0) (σ) := by
  refine qx_met (by decide) (Nat.le_of_ble_eq_true rfl) (by intro v hv; simp only [List.mem_cons, List.not_mem_nil, or_false] at hv; rcases hv with rfl | rfl | rfl <;> rfl) (fun K C => ?_)
  obtain ⟨k, hk, ek⟩ := hw.1 p hp
  have ik : (nI k).toNatClampNeg = k := nI_clamp (by omega)
  have ix1 : ix (σ 2 (p * 3 + 1)) = k := by rw [ek]; exact ik
  refine qx_aload_n C dX2_fits_0 rfl rfl ?_
  refine qx_getR C (j := 21) (k := 3) hiX2 rfl rfl (by decide) qw_173 rfl dX2_fits_1 ?_
  refine qx_iload_n C dX2_fits_4 rfl rfl ?_
  refine qx_ialdN C (j := 24) rfl ⟨by omega, by decide⟩ dX2_fits_5 ?_
  refine qx_iconst C (v := 1) dX2_fits_6 rfl ?_
  refine qx_icmp_ne C (tgt := 12) dX2_fits_7 (by decide) (fun h7 => ?_) (fun h7 => ?_)
  · refine qx_aload_n C dX2_fits_12 rfl rfl ?_
    refine qx_getR C (j := 21) (k := 0) hiX2 rfl rfl (by decide) qw_170 rfl dX2_fits_13 ?_
    refine qx_iload_n C dX2_fits_16 rfl rfl ?_
    refine qx_callVI C (b := 1) (As := [_]) (n := 1) (c_X3_lineAt F (d + 0) _ p (by omega)) rfl rfl qw_363 qw_364 qw_365 qw_40 qw_366 ⟨rfl, by decide, by decide, by decide +kernel⟩ (qx_room (by omega) (by decide)) rfl rfl (Nat.le_of_ble_eq_true rfl) dX2_fits_17 ?_
    refine qx_top ek ?_
    refine qx_istore_n C dX2_fits_20 rfl (Nat.le_of_ble_eq_true rfl) ?_
    refine qx_aload_n C dX2_fits_21 rfl rfl ?_
    refine qx_getR C (j := 21) (k := 0) hiX2 rfl rfl (by decide) qw_170 rfl dX2_fits_22 ?_
    refine qx_iload_n C dX2_fits_25 rfl rfl ?_
    refine qx_iconst C (v := 2) dX2_fits_26 rfl ?_
    refine qx_callVI C (b := 1) (As := [_, _]) (n := 2) (c_X3_trait F (d + 1) _ s 2 (by omega) (by omega)) rfl rfl qw_367 qw_295 qw_296 qw_40 qw_297 ⟨rfl, by decide, by decide, by decide +kernel⟩ (qx_room (by omega) (by decide)) rfl rfl (Nat.le_of_ble_eq_true rfl) dX2_fits_27 ?_
    refine qx_istore C dX2_fits_30 (Nat.le_of_ble_eq_true rfl) ?_
    refine qx_iconst C (v := 0) dX2_fits_32 rfl ?_
    refine qx_istore C dX2_fits_33 (Nat.le_of_ble_eq_true rfl) ?_
    refine qx_to (qx_up s (P := fun i => (∀ o, o < i → pOk σ s p o) → qx_X K F shC (σ) 35 [some (.ref (fa F 21)), some (.int (nI s)), some (.int (nI p)), some (.int (nI k)), some (.int (pWt σ s p i)), some (.int (nI i)), none] []) (fun i hi hki hpi => ?_) (fun hps => ?_) (fun o ho => absurd ho (Nat.not_lt_zero o))) rfl rfl
    · refine qx_iload C dX2_fits_35 rfl ?_
      refine qx_iload_n C dX2_fits_37 rfl rfl ?_
      refine qx_icmp_ge_f C (tgt := 110) dX2_fits_38 (by decide) (nI_ge hi (by omega)) ?_
      rcases hw.2.2.1 i (by omega) with e22 | ⟨q, hq, eq⟩
      · refine qx_aload_n C dX2_fits_41 rfl rfl ?_
        refine qx_getR C (j := 21) (k := 1) hiX2 rfl rfl (by decide) qw_171 rfl dX2_fits_42 ?_
        refine qx_iload C dX2_fits_45 rfl ?_
        refine qx_ialdN C (j := 22) rfl ⟨by omega, by decide⟩ dX2_fits_47 ?_
        refine qx_top e22 ?_
        refine qx_istore C dX2_fits_48 (Nat.le_of_ble_eq_true rfl) ?_
        refine qx_iload C dX2_fits_50 rfl ?_
        refine qx_bipush C (v := (-4)) dX2_fits_52 rfl ?_
        refine qx_icmp_eq_t C (tgt := 104) dX2_fits_54 (by decide) (by decide) ?_
        refine qx_iincN C dX2_fits_104 rfl ?_
        refine qx_goto C (tgt := 35) dX2_fits_107 (by decide) ?_
        exact (qx_forget 6 (qx_to (hki (lt_s hpi (by first | exact Or.inl e22 | (right; rw [eq]; exact h68)))) rfl (by first | rfl | (simp [pWt, qf, e22]; done) | (simp [pWt, qf, eq, iq, n4, ek, h86]; done))))
      · have iq : (nI q).toNatClampNeg = q := nI_clamp (by omega)
        have n4 : ¬ nI q = -4 := qx_n4 (by omega)
        refine qx_aload_n C dX2_fits_41 rfl rfl ?_
        refine qx_getR C (j := 21) (k := 1) hiX2 rfl rfl (by decide) qw_171 rfl dX2_fits_42 ?_
        refine qx_iload C dX2_fits_45 rfl ?_
        refine qx_ialdN C (j := 22) rfl ⟨by omega, by decide⟩ dX2_fits_47 ?_
        refine qx_top eq ?_
        refine qx_istore C dX2_fits_48 (Nat.le_of_ble_eq_true rfl) ?_
        refine qx_iload C dX2_fits_50 rfl ?_
        refine qx_bipush C (v := (-4)) dX2_fits_52 rfl ?_
        refine qx_icmp_eq_f C (tgt := 104) dX2_fits_54 (by decide) (qx_n4 (by omega)) ?_
        refine qx_aload_n C dX2_fits_57 rfl rfl ?_
        refine qx_iload_n C dX2_fits_58 rfl rfl ?_
        refine qx_iload C dX2_fits_59 rfl ?_
        refine qx_iload_n C dX2_fits_61 rfl rfl ?_
        refine qx_iload C dX2_fits_62 rfl ?_
        refine qx_isub C dX2_fits_64 ?_
        refine qx_abs C qw_368 qw_369 qw_45 qw_370 (qx_room1 (by omega)) (Nat.le_of_ble_eq_true rfl) dX2_fits_65 ?_
        refine qx_callVI C (b := 21) (As := [_, _, _]) (n := 3) (c_X2_bear F (d + 0) _ s i _ (by omega) (by omega) P S hw) rfl rfl qw_371 qw_373 qw_7 qw_43 qw_374 ⟨rfl, by decide, by decide, by decide +kernel⟩ (qx_room (by omega) (by decide)) rfl rfl (Nat.le_of_ble_eq_true rfl) dX2_fits_68 ?_
        refine qx_split _ (fun h68 => ?_) (fun h68 => ?_)
        · refine qx_if_ne_t C (tgt := 76) dX2_fits_71 (by decide) (by decide) ?_
          refine qx_aload_n C dX2_fits_76 rfl rfl ?_
          refine qx_getR C (j := 21) (k := 0) hiX2 rfl rfl (by decide) qw_170 rfl dX2_fits_77 ?_
          refine qx_iload C dX2_fits_80 rfl ?_
          refine qx_callVI C (b := 1) (As := [_]) (n := 1) (c_X3_lineAt F (d + 0) _ q (by omega)) rfl rfl qw_363 qw_364 qw_365 qw_40 qw_366 ⟨rfl, by decide, by decide, by decide +kernel⟩ (qx_room (by omega) (by decide)) rfl rfl (Nat.le_of_ble_eq_true rfl) dX2_fits_82 ?_
          refine qx_iload_n C dX2_fits_85 rfl rfl ?_
          refine qx_icmp_ne C (tgt := 104) dX2_fits_86 (by decide) (fun h86 => ?_) (fun h86 => ?_)
          · refine qx_iincN C dX2_fits_104 rfl ?_
            refine qx_goto C (tgt := 35) dX2_fits_107 (by decide) ?_
            exact (qx_forget 6 (qx_to (hki (lt_s hpi (by first | exact Or.inl e22 | (right; rw [eq]; exact h68)))) rfl (by first | rfl | (simp [pWt, qf, e22]; done) | (simp [pWt, qf, eq, iq, n4, ek, h86]; done))))
          · refine qx_iload C dX2_fits_89 rfl ?_
            refine qx_aload_n C dX2_fits_91 rfl rfl ?_
            refine qx_getR C (j := 21) (k := 0) hiX2 rfl rfl (by decide) qw_170 rfl dX2_fits_92 ?_
            refine qx_iload C dX2_fits_95 rfl ?_
            refine qx_iconst C (v := 2) dX2_fits_97 rfl ?_
            refine qx_callVI C (b := 1) (As := [_, _]) (n := 2) (c_X3_trait F (d + 1) _ i 2 (by omega) (by omega)) rfl rfl qw_367 qw_295 qw_296 qw_40 qw_297 ⟨rfl, by decide, by decide, by decide +kernel⟩ (qx_room (by omega) (by decide)) rfl rfl (Nat.le_of_ble_eq_true rfl) dX2_fits_98 ?_
            refine qx_iadd C dX2_fits_101 ?_
            refine qx_istore C dX2_fits_102 (Nat.le_of_ble_eq_true rfl) ?_
            refine qx_iincN C dX2_fits_104 rfl ?_
            refine qx_goto C (tgt := 35) dX2_fits_107 (by decide) ?_
            exact (qx_forget 6 (qx_to (hki (lt_s hpi (by first | exact Or.inl e22 | (right; rw [eq]; exact h68)))) rfl (by first | rfl | (simp [pWt, qf, e22]; done) | (simp [pWt, qf, eq, iq, n4, ek, h86]; done))))
        · refine qx_if_ne_f C (tgt := 76) dX2_fits_71 (by decide) (by decide) ?_
          refine qx_iconst C (v := 0) dX2_fits_74 rfl ?_
          exact qx_iret C dX2_fits_75 rfl (if_neg (fun z => by have z1 := z.2.1 i hi; unfold pOk at z1; rw [eq] at z1; rcases z1 with z1 | z1; exact n4 z1; exact h68 z1)).symm rfl
    · refine qx_iload C dX2_fits_35 rfl ?_
      refine qx_iload_n C dX2_fits_37 rfl rfl ?_
      refine qx_icmp_ge_t C (tgt := 110) dX2_fits_38 (by decide) (nI_le (Nat.le_refl _) (by omega)) ?_
      refine qx_iload C dX2_fits_110 rfl ?_
      refine qx_aload_n C dX2_fits_112 rfl rfl ?_
      refine qx_getR C (j := 21) (k := 0) hiX2 rfl rfl (by decide) qw_170 rfl dX2_fits_113 ?_
      refine qx_iload_n C dX2_fits_116 rfl rfl ?_
      refine qx_callVI C (b := 1) (As := [_]) (n := 1) (c_X3_limitOf F (d + 1) _ k (by omega)) rfl rfl qw_380 qw_381 qw_382 qw_40 qw_383 ⟨rfl, by decide, by decide, by decide +kernel⟩ (qx_room (by omega) (by decide)) rfl rfl (Nat.le_of_ble_eq_true rfl) dX2_fits_117 ?_
      refine qx_icmp_gt C (tgt := 127) dX2_fits_120 (by decide) (fun h120 => ?_) (fun h120 => ?_)
      · refine qx_iconst C (v := 0) dX2_fits_127 rfl ?_
        exact qx_iret C dX2_fits_128 rfl (if_neg (fun (z : pFits σ s p) => z.2.2 (by rw [ix1]; exact h120))).symm rfl
      · refine qx_iconst C (v := 1) dX2_fits_123 rfl ?_
        refine qx_goto C (tgt := 128) dX2_fits_124 (by decide) ?_
        exact qx_iret C dX2_fits_128 rfl (if_pos ⟨h7, hps, by rw [ix1]; exact h120⟩).symm rfl
  · refine qx_iconst C (v := 0) dX2_fits_10 rfl ?_
    exact qx_iret C dX2_fits_11 rfl (if_neg (fun z => z.1 h7)).symm rfl
