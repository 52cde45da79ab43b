theorem ixa0 : (0 : Int32).toNatClampNeg = 0 := rfl
theorem ixa1 : (1 : Int32).toNatClampNeg = 1 := rfl
theorem ixa2 : (2 : Int32).toNatClampNeg = 2 := rfl
theorem qx_c3 {w : Int32} (h : 0 ≤ w ∧ w ≤ 2) : w = 0 ∨ w = 1 ∨ w = 2 := by
  obtain ⟨j, hj, rfl⟩ := qx_inI 2 (by decide) h
  have : j = 0 ∨ j = 1 ∨ j = 2 := by omega
  rcases this with rfl | rfl | rfl
  · exact Or.inl rfl
  · exact Or.inr (Or.inl rfl)
  · exact Or.inr (Or.inr rfl)
theorem qx_c2 {w : Int32} (h : 0 ≤ w ∧ w ≤ 1) : w = 0 ∨ w = 1 := by
  obtain ⟨j, hj, rfl⟩ := qx_inI 1 (by decide) h
  have : j = 0 ∨ j = 1 := by omega
  rcases this with rfl | rfl
  · exact Or.inl rfl
  · exact Or.inr rfl
theorem mTold0 {v : Int32} : mTold 0 v ↔ (0 ≤ v ∧ v ≤ 5) := by simp [mTold]
theorem mTold1 {v : Int32} : mTold 1 v ↔ (0 ≤ v ∧ v ≤ 3) := by simp [mTold]
theorem mTold2 {v : Int32} : mTold 2 v ↔ (0 ≤ v ∧ v ≤ 30) := by simp [mTold]
theorem mTold3 {v : Int32} : mTold 3 v ↔ (1 ≤ v ∧ v ≤ 9) := by simp [mTold]
theorem mTold4 {v : Int32} : mTold 4 v ↔ (1 ≤ v ∧ v ≤ 20) := by simp [mTold]
theorem mTold5 {v : Int32} : mTold 5 v ↔ (0 ≤ v ∧ v ≤ 99) := by simp [mTold]
def mLay (σ : qx_S) (n : Int32) : qx_S := qf (fun k τ => qs τ 2 k 0) (qs σ 1 0 n) 24
def mStreet (σ : qx_S) (n : Int32) : Int32 × qx_S := if mOpen σ then (-3, σ) else if 1 ≤ n ∧ n ≤ 8 then (n, mClr (mLay σ n)) else (-1, σ)
def mPlace (σ : qx_S) (p w v : Int32) : Int32 × qx_S := if mOpen σ then (-3, σ) else if 0 ≤ p ∧ p ≤ σ 1 0 - 1 then (if 0 ≤ w ∧ w ≤ 2 then (if 0 ≤ v ∧ v ≤ (if w = 0 then 99 else if w = 1 then 2 else 1) then (σ 2 (3 * ix p + ix w), qs σ 2 (3 * ix p + ix w) v) else (-1, σ)) else (-1, σ)) else (-1, σ)
def mLimit (σ : qx_S) (k v : Int32) : Int32 × qx_S := if mOpen σ then (-3, σ) else if 0 ≤ k ∧ k ≤ 2 then (if 0 ≤ v ∧ v ≤ 99 then (σ 3 (3 * ix k), qs σ 3 (3 * ix k) v) else (-1, σ)) else (-1, σ)
def mClash (σ : qx_S) (a b is : Int32) : Int32 × qx_S := if mOpen σ then (-3, σ) else if 0 ≤ a ∧ a ≤ 3 then (if 0 ≤ b ∧ b ≤ 3 then ((if σ 4 (4 * ix a + ix b) = is then 0 else 1), qs (qs σ 4 (4 * ix a + ix b) is) 4 (4 * ix b + ix a) is) else (-1, σ)) else (-1, σ)
def mRule (σ : qx_S) (w v : Int32) : Int32 × qx_S := if mOpen σ then (-3, σ) else if 0 ≤ w ∧ w ≤ 1 then (if 0 ≤ v ∧ v ≤ (if w = 0 then 3 else 50) then (σ 1 (5 + ix w), qs σ 1 (5 + ix w) v) else (-1, σ)) else (-1, σ)
def mPut (σ : qx_S) (S : Nat) (a b c d e f : Int32) : qx_S := qs (qs (qs (qs (qs (qs (qs (qs (qs (qs (qs σ 5 (11 * S) a) 5 (11 * S + 1) b) 5 (11 * S + 2) c) 5 (11 * S + 3) d) 5 (11 * S + 4) e) 5 (11 * S + 5) f) 5 (11 * S + 6) (-1)) 5 (11 * S + 7) 0) 5 (11 * S + 8) 0) 5 (11 * S + 9) 0) 5 (11 * S + 10) (-1)
def mPut2 (σ : qx_S) : qx_S := qs σ 1 1 (σ 1 1 + 1)
def mStall (σ : qx_S) (a b c d e f : Int32) (S : Nat) : Int32 × qx_S := if mOpen σ then (-3, σ) else if (0 ≤ a ∧ a ≤ 5) ∧ (0 ≤ b ∧ b ≤ 3) ∧ (0 ≤ c ∧ c ≤ 30) ∧ (1 ≤ d ∧ d ≤ 9) ∧ (1 ≤ e ∧ e ≤ 20) ∧ (0 ≤ f ∧ f ≤ 99) then (if σ 1 1 = 5 then (-2, σ) else (mPut2 (mPut σ S a b c d e f) 1 1 - 1, mPut2 (mPut σ S a b c d e f))) else (-1, σ)
def mChange (σ : qx_S) (s w v : Int32) : Int32 × qx_S := if mOpen σ then (-3, σ) else if 0 ≤ s ∧ s ≤ σ 1 1 - 1 then (if 0 ≤ w ∧ w ≤ 5 then (if mTold w v then (σ 5 (11 * ix s + ix w), qs σ 5 (11 * ix s + ix w) v) else (-1, σ)) else (-1, σ)) else (-1, σ)
def mStd (σ : qx_S) (i : Nat) : Int32 := qf (fun s a => a + (if σ 5 (11 * s + 6) < 0 then 0 else 1)) 0 i
def mShut (σ : qx_S) : Int32 × qx_S := if mOpen σ then (qs σ 1 2 0 1 3, qs σ 1 2 0) else (-3, σ)
def mAdd (σ : qx_S) (n : Nat) (dish pat : Int32) : qx_S := qs (qs (qs (qs (qs (qs (qs σ 6 (7 * n) dish) 6 (7 * n + 1) pat) 6 (7 * n + 2) 0) 6 (7 * n + 3) 0) 6 (7 * n + 4) (-1)) 6 (7 * n + 5) 0) 6 (7 * n + 6) (-1)
def mAdd2 (σ : qx_S) : qx_S := qs σ 1 4 (σ 1 4 + 1)
def mGuest (σ : qx_S) (dish pat : Int32) (n : Nat) : Int32 × qx_S := if mOpen σ then (if 0 ≤ dish ∧ dish ≤ 5 then (if 1 ≤ pat ∧ pat ≤ 50 then (if σ 1 4 = 20 then (-2, σ) else (mAdd2 (mAdd σ n dish pat) 1 4 - 1, mAdd2 (mAdd σ n dish pat))) else (-1, σ)) else (-1, σ)) else (-3, σ)
def mWatts (σ : qx_S) (w : Int32) (i : Nat) : Int32 := qf (fun s a => a + (if ¬ σ 5 (11 * s + 6) < 0 ∧ mLine σ s = w then σ 5 (11 * s + 2) else 0)) 0 i
abbrev mOver (σ : qx_S) (k S : Nat) : Prop := ¬ σ 3 (3 * k + 1) + mWatts σ (nI k) S ≤ σ 3 (3 * k)
def mPlg (σ : qx_S) (k S : Nat) (v : Int32) : qx_S := qs (qs σ 3 (3 * k + 1) v) 3 (3 * k + 2) (if mOver (qs σ 3 (3 * k + 1) v) k S then 1 else 0)
def mPlug (σ : qx_S) (k v : Int32) (S : Nat) : Int32 × qx_S := if mOpen σ then (if 0 ≤ k ∧ k ≤ 2 then (if 0 ≤ v ∧ v ≤ 99 then (if σ 3 (3 * ix k + 2) = 1 then (-5, σ) else (mPlg σ (ix k) S v 3 (3 * ix k + 2), mPlg σ (ix k) S v)) else (-1, σ)) else (-1, σ)) else (-3, σ)
def mReset (σ : qx_S) (k : Int32) (S : Nat) : Int32 × qx_S := if mOpen σ then (if 0 ≤ k ∧ k ≤ 2 then (if σ 3 (3 * ix k + 2) = 0 then (-4, σ) else if mOver σ (ix k) S then (-5, σ) else (1, qs σ 3 (3 * ix k + 2) 0)) else (-1, σ)) else (-3, σ)
def mPull (σ : qx_S) (k : Int32) : Int32 × qx_S := if mOpen σ then (if 0 ≤ k ∧ k ≤ 2 then (σ 3 (3 * ix k + 1), qs σ 3 (3 * ix k + 1) 0) else (-1, σ)) else (-3, σ)
def mBill (σ : qx_S) (s : Nat) : Int32 := if σ 5 (11 * s + 6) < 0 then 0 else σ 2 (3 * ix (σ 5 (11 * s + 6))) + σ 5 (11 * s + 8) * σ 1 6 / 100
def mFact (σ : qx_S) (s : Nat) (w : Int32) (n : Nat) : Int32 := if w = 6 then (if 0 ≤ σ 5 (11 * s + 6) then σ 5 (11 * s + 6) else -4) else if w = 9 then mAt σ (nI s) n else if w = 10 then σ 5 (11 * s + 9) else if w = 11 then mBill σ s else σ 5 (11 * s + ix w)
def mOfF (σ : qx_S) (s w : Int32) (n : Nat) : Int32 := if 0 ≤ s ∧ s ≤ σ 1 1 - 1 then (if 0 ≤ w ∧ w ≤ 11 then mFact σ (ix s) w n else -1) else -1
def mGFact (σ : qx_S) (g : Nat) (w : Int32) : Int32 := if w = 0 then σ 6 (7 * g + 2) else if w = 1 then (if σ 6 (7 * g + 2) < 3 then σ 6 (7 * g + 3) else -4) else if w = 2 then σ 6 (7 * g + 1) else if w = 3 then σ 6 (7 * g) else (if 1 ≤ σ 6 (7 * g + 2) ∧ σ 6 (7 * g + 2) ≤ 3 then σ 6 (7 * g + 4) else -4)
def mGuestOf (σ : qx_S) (g w : Int32) : Int32 := if 0 ≤ g ∧ g ≤ σ 1 4 - 1 then (if 0 ≤ w ∧ w ≤ 4 then mGFact σ (ix g) w else -1) else -1
def mSell (σ : qx_S) (w fr to_ : Int32) (n : Nat) : Int32 := qf (fun g a => a ||| (if σ 6 (7 * g + 2) = 3 ∧ σ 6 (7 * g) = w ∧ (fr ≤ σ 6 (7 * g + 6) ∧ σ 6 (7 * g + 6) ≤ to_) then ((1 : Int32) <<< (σ 6 (7 * g + 4) &&& 31)) else 0)) 0 n
def mSusp (σ : qx_S) (dish fr to_ : Int32) (n : Nat) : Int32 := if 0 ≤ dish ∧ dish ≤ 5 then (if fr < 0 then -1 else if fr ≤ to_ then mSell σ dish fr to_ n else -1) else -1
def mLineOf (σ : qx_S) (k w : Int32) (S : Nat) : Int32 := if 0 ≤ k ∧ k ≤ 2 then (if 0 ≤ w ∧ w ≤ 3 then (if w = 0 then σ 3 (3 * ix k) else if w = 1 then mWatts σ k S else if w = 2 then σ 3 (3 * ix k + 1) else σ 3 (3 * ix k + 2)) else -1) else -1
def mMany (σ : qx_S) (w : Int32) (P S n : Nat) : Int32 := if w = 0 then σ 1 0 else if w = 1 then σ 1 1 else if w = 2 then mStd σ S else if w = 3 then σ 1 2 else if w = 4 then σ 1 3 else if w = 5 then σ 1 4 else if w = 6 then mOf σ 3 n else if w = 7 then mOf σ 4 n else if w = 8 then mOf σ 5 n else if w = 9 then qsum (fun s => mOfF σ (nI s) 8 n) S else if w = 10 then qsum (fun s => mOfF σ (nI s) 11 n) S else if w = 11 then qsum (fun p => σ 2 (3 * p + 2)) P else -1
set_option maxRecDepth 20000 in
set_option maxHeartbeats 4000000 in
theorem c_X5_street (F : qx_F) (d : Nat) (σ : qx_S) (n : Int32) : qx_cI F shM ⟨"NightStallsModel", "street", "(I)I"⟩ (.code ⟨"NightStallsModel", "street", "(I)I"⟩ prog_7_method_10_code 3 ((some FieldType.int)) :: qx_W) (qx_R (d + 2)) [.ref (fa F 0), .int n] σ ((mStreet σ n).1) ((mStreet σ n).2) := by
  refine qx_met (by decide) (Nat.le_of_ble_eq_true rfl) (by intro v hv; simp only [List.mem_cons, List.not_mem_nil, or_false] at hv; rcases hv with rfl | rfl <;> rfl) (fun K C => ?_)
  refine qx_aload_n C dX5_street_0 rfl rfl ?_
  refine qx_callVI C (b := 0) (As := []) (n := 0) (c_X5_isOpen F (d + 0) _ ) rfl rfl qw_626 qw_628 qw_14 qw_44 qw_629 ⟨rfl, by decide, by decide, by decide +kernel⟩ (qx_room (by omega) (by decide)) rfl rfl (Nat.le_of_ble_eq_true rfl) dX5_street_1 ?_
  refine qx_split _ (fun h1 => ?_) (fun h1 => ?_)
  · refine qx_if_eq_f C (tgt := 10) dX5_street_4 (by decide) (by decide) ?_
    refine qx_bipush C (v := (-3)) dX5_street_7 rfl ?_
    exact qx_iret C dX5_street_9 rfl (by first | rfl | simp [mOpen, mStreet, mLay, h1]) (by first | rfl | simp [mOpen, mStreet, mLay, h1])
  · refine qx_if_eq_t C (tgt := 10) dX5_street_4 (by decide) (by decide) ?_
    refine qx_iload_n C dX5_street_10 rfl rfl ?_
    refine qx_iconst C (v := 1) dX5_street_11 rfl ?_
    refine qx_bipush C (v := 8) dX5_street_12 rfl ?_
    refine qx_callSI C (As := [_, _, _]) (n := 3) (c_X5_in F (d + 0) _ _ _ _) qw_630 qw_631 qw_44 qw_632 ⟨rfl, by decide, by decide, by decide +kernel⟩ (qx_room (by omega) (by decide)) rfl rfl (Nat.le_of_ble_eq_true rfl) dX5_street_14 ?_
    refine qx_split _ (fun h14 => ?_) (fun h14 => ?_)
    · refine qx_if_ne_t C (tgt := 22) dX5_street_17 (by decide) (by decide) ?_
      refine qx_aload_n C dX5_street_22 rfl rfl ?_
      refine qx_getR C (j := 0) (k := 0) hiX5 rfl rfl (by decide) qw_582 rfl dX5_street_23 ?_
      refine qx_iconst C (v := 0) dX5_street_26 rfl ?_
      refine qx_iload_n C dX5_street_27 rfl rfl ?_
      refine qx_iastL C (j := 1) (a := 0) rfl rfl ⟨by decide, by decide⟩ dX5_street_28 ?_
      refine qx_iconst C (v := 0) dX5_street_29 rfl ?_
      refine qx_istore_n C dX5_street_30 rfl (Nat.le_of_ble_eq_true rfl) ?_
      refine qx_to (qx_up 24 (P := fun i => qx_X K F shM (qf (fun k τ => qs τ 2 k 0) (qs σ 1 0 n) i) 31 [some (.ref (fa F 0)), some (.int n), some (.int (nI i))] []) (fun i hi hki => ?_) ?_) rfl rfl
      · refine qx_iload_n C dX5_street_31 rfl rfl ?_
        refine qx_bipush C (v := 24) dX5_street_32 rfl ?_
        refine qx_icmp_ge_f C (tgt := 50) dX5_street_34 (by decide) (nI_ge (b := 24) hi (by decide)) ?_
        refine qx_aload_n C dX5_street_37 rfl rfl ?_
        refine qx_getR C (j := 0) (k := 1) hiX5 rfl rfl (by decide) qw_583 rfl dX5_street_38 ?_
        refine qx_iload_n C dX5_street_41 rfl rfl ?_
        refine qx_iconst C (v := 0) dX5_street_42 rfl ?_
        refine qx_iastN C (j := 2) rfl ⟨by omega, by decide⟩ dX5_street_43 ?_
        refine qx_iincN C dX5_street_44 rfl ?_
        refine qx_goto C (tgt := 31) dX5_street_47 (by decide) ?_
        exact (qx_to hki rfl rfl)
      · refine qx_iload_n C dX5_street_31 rfl rfl ?_
        refine qx_bipush C (v := 24) dX5_street_32 rfl ?_
        refine qx_icmp_ge_t C (tgt := 50) dX5_street_34 (by decide) (nI_le (a := 24) (b := 24) (Nat.le_refl _) (by decide)) ?_
        refine qx_aload_n C dX5_street_50 rfl rfl ?_
        refine qx_callVv C (b := 0) (As := []) (n := 0) (c_X5_clear F (d + 0) _ ) rfl rfl qw_633 qw_635 qw_15 qw_44 qw_636 ⟨rfl, by decide, by decide, by decide +kernel⟩ (qx_room (by omega) (by decide)) rfl rfl (Nat.le_of_ble_eq_true rfl) dX5_street_51 ?_
        refine qx_iload_n C dX5_street_54 rfl rfl ?_
        exact qx_iret C dX5_street_55 rfl (by first | rfl | simp [mOpen, mStreet, mLay, h1, h14]) (by first | rfl | simp [mOpen, mStreet, mLay, h1, h14])
    · refine qx_if_ne_f C (tgt := 22) dX5_street_17 (by decide) (by decide) ?_
      refine qx_iconst C (v := (-1)) dX5_street_20 rfl ?_
      exact qx_iret C dX5_street_21 rfl (by first | rfl | simp [mOpen, mStreet, mLay, h1, h14]) (by first | rfl | simp [mOpen, mStreet, mLay, h1, h14])
set_option maxRecDepth 20000 in
set_option maxHeartbeats 4000000 in
theorem c_X5_place (F : qx_F) (d : Nat) (σ : qx_S) (p w v : Int32) (P : Nat) (hP : σ 1 0 = nI P) (hP8 : P ≤ 8) : qx_cI F shM ⟨"NightStallsModel", "place", "(III)I"⟩ (.code ⟨"NightStallsModel", "place", "(III)I"⟩ prog_7_method_11_code 5 ((some FieldType.int)) :: qx_W) (qx_R (d + 3)) [.ref (fa F 0), .int p, .int w, .int v] σ ((mPlace σ p w v).1) ((mPlace σ p w v).2) := by
  refine qx_met (by decide) (Nat.le_of_ble_eq_true rfl) (by intro v hv; simp only [List.mem_cons, List.not_mem_nil, or_false] at hv; rcases hv with rfl | rfl | rfl | rfl <;> rfl) (fun K C => ?_)
  refine qx_aload_n C dX5_place_0 rfl rfl ?_
  refine qx_callVI C (b := 0) (As := []) (n := 0) (c_X5_isOpen F (d + 1) _ ) rfl rfl qw_626 qw_628 qw_14 qw_44 qw_629 ⟨rfl, by decide, by decide, by decide +kernel⟩ (qx_room (by omega) (by decide)) rfl rfl (Nat.le_of_ble_eq_true rfl) dX5_place_1 ?_
  refine qx_split _ (fun h1 => ?_) (fun h1 => ?_)
  · refine qx_if_eq_f C (tgt := 10) dX5_place_4 (by decide) (by decide) ?_
    refine qx_bipush C (v := (-3)) dX5_place_7 rfl ?_
    exact qx_iret C dX5_place_9 rfl (by first | rfl | simp [mOpen, mPlace, h1]) (by first | rfl | simp [mOpen, mPlace, h1])
  · refine qx_if_eq_t C (tgt := 10) dX5_place_4 (by decide) (by decide) ?_
    refine qx_aload_n C dX5_place_10 rfl rfl ?_
    refine qx_iload_n C dX5_place_11 rfl rfl ?_
    refine qx_callVI C (b := 0) (As := [_]) (n := 1) (c_X5_isPlace F (d + 0) _ _) rfl rfl qw_641 qw_643 qw_16 qw_44 qw_644 ⟨rfl, by decide, by decide, by decide +kernel⟩ (qx_room (by omega) (by decide)) rfl rfl (Nat.le_of_ble_eq_true rfl) dX5_place_12 ?_
    refine qx_split _ (fun h12 => ?_) (fun h12 => ?_)
    · obtain ⟨p0, hp0, rfl⟩ := qx_has hP (by omega) h12
      have ip0 : (nI p0).toNatClampNeg = p0 := nI_clamp (by omega)
      refine qx_if_eq_f C (tgt := 54) dX5_place_15 (by decide) (by decide) ?_
      refine qx_iload_n C dX5_place_18 rfl rfl ?_
      refine qx_iconst C (v := 0) dX5_place_19 rfl ?_
      refine qx_iconst C (v := 2) dX5_place_20 rfl ?_
      refine qx_callSI C (As := [_, _, _]) (n := 3) (c_X5_in F (d + 1) _ _ _ _) qw_630 qw_631 qw_44 qw_632 ⟨rfl, by decide, by decide, by decide +kernel⟩ (qx_room (by omega) (by decide)) rfl rfl (Nat.le_of_ble_eq_true rfl) dX5_place_21 ?_
      refine qx_split _ (fun h21 => ?_) (fun h21 => ?_)
      · refine qx_if_eq_f C (tgt := 54) dX5_place_24 (by decide) (by decide) ?_
        rcases qx_c3 h21 with rfl | rfl | rfl
        · refine qx_iload_n C dX5_place_27 rfl rfl ?_
          refine qx_iconst C (v := 0) dX5_place_28 rfl ?_
          refine qx_iload_n C dX5_place_29 rfl rfl ?_
          refine qx_if_ne_f C (tgt := 38) dX5_place_30 (by decide) (by decide) ?_
          refine qx_bipush C (v := 99) dX5_place_33 rfl ?_
          refine qx_goto C (tgt := 48) dX5_place_35 (by decide) ?_
          refine qx_callSI C (As := [_, _, _]) (n := 3) (c_X5_in F (d + 1) _ _ _ _) qw_630 qw_631 qw_44 qw_632 ⟨rfl, by decide, by decide, by decide +kernel⟩ (qx_room (by omega) (by decide)) rfl rfl (Nat.le_of_ble_eq_true rfl) dX5_place_48 ?_
          refine qx_split _ (fun h48 => ?_) (fun h48 => ?_)
          · refine qx_if_ne_t C (tgt := 56) dX5_place_51 (by decide) (by decide) ?_
            refine qx_aload_n C dX5_place_56 rfl rfl ?_
            refine qx_getR C (j := 0) (k := 1) hiX5 rfl rfl (by decide) qw_583 rfl dX5_place_57 ?_
            refine qx_iconst C (v := 3) dX5_place_60 rfl ?_
            refine qx_iload_n C dX5_place_61 rfl rfl ?_
            refine qx_imulE C dX5_place_62 (pk_mul 3 p0) ?_
            refine qx_iload_n C dX5_place_63 rfl rfl ?_
            refine qx_iaddE C dX5_place_64 (nI_add (3 * p0) 0) ?_
            refine qx_ialdN C (j := 2) rfl ⟨by omega, by decide⟩ dX5_place_65 ?_
            refine qx_istore C dX5_place_66 (Nat.le_of_ble_eq_true rfl) ?_
            refine qx_aload_n C dX5_place_68 rfl rfl ?_
            refine qx_getR C (j := 0) (k := 1) hiX5 rfl rfl (by decide) qw_583 rfl dX5_place_69 ?_
            refine qx_iconst C (v := 3) dX5_place_72 rfl ?_
            refine qx_iload_n C dX5_place_73 rfl rfl ?_
            refine qx_imulE C dX5_place_74 (pk_mul 3 p0) ?_
            refine qx_iload_n C dX5_place_75 rfl rfl ?_
            refine qx_iaddE C dX5_place_76 (nI_add (3 * p0) 0) ?_
            refine qx_iload_n C dX5_place_77 rfl rfl ?_
            refine qx_iastN C (j := 2) rfl ⟨by omega, by decide⟩ dX5_place_78 ?_
            refine qx_iload C dX5_place_79 rfl ?_
            exact qx_iret C dX5_place_81 rfl (by first | rfl | simp [mOpen, mPlace, h1, h12, ip0, h21, ixa0, h48]) (by first | rfl | simp [mOpen, mPlace, h1, h12, ip0, h21, ixa0, h48])
          · refine qx_if_ne_f C (tgt := 56) dX5_place_51 (by decide) (by decide) ?_
            refine qx_iconst C (v := (-1)) dX5_place_54 rfl ?_
            exact qx_iret C dX5_place_55 rfl (by first | rfl | simp [mOpen, mPlace, h1, h12, ip0, h21, ixa0, h48]) (by first | rfl | simp [mOpen, mPlace, h1, h12, ip0, h21, ixa0, h48])
        · refine qx_iload_n C dX5_place_27 rfl rfl ?_
          refine qx_iconst C (v := 0) dX5_place_28 rfl ?_
          refine qx_iload_n C dX5_place_29 rfl rfl ?_
          refine qx_if_ne_t C (tgt := 38) dX5_place_30 (by decide) (by decide) ?_
          refine qx_iload_n C dX5_place_38 rfl rfl ?_
          refine qx_iconst C (v := 1) dX5_place_39 rfl ?_
          refine qx_icmp_ne_f C (tgt := 47) dX5_place_40 (by decide) (by decide) ?_
          refine qx_iconst C (v := 2) dX5_place_43 rfl ?_
          refine qx_goto C (tgt := 48) dX5_place_44 (by decide) ?_
          refine qx_callSI C (As := [_, _, _]) (n := 3) (c_X5_in F (d + 1) _ _ _ _) qw_630 qw_631 qw_44 qw_632 ⟨rfl, by decide, by decide, by decide +kernel⟩ (qx_room (by omega) (by decide)) rfl rfl (Nat.le_of_ble_eq_true rfl) dX5_place_48 ?_
          refine qx_split _ (fun h48 => ?_) (fun h48 => ?_)
          · refine qx_if_ne_t C (tgt := 56) dX5_place_51 (by decide) (by decide) ?_
            refine qx_aload_n C dX5_place_56 rfl rfl ?_
            refine qx_getR C (j := 0) (k := 1) hiX5 rfl rfl (by decide) qw_583 rfl dX5_place_57 ?_
            refine qx_iconst C (v := 3) dX5_place_60 rfl ?_
            refine qx_iload_n C dX5_place_61 rfl rfl ?_
            refine qx_imulE C dX5_place_62 (pk_mul 3 p0) ?_
            refine qx_iload_n C dX5_place_63 rfl rfl ?_
            refine qx_iaddE C dX5_place_64 (nI_add (3 * p0) 1) ?_
            refine qx_ialdN C (j := 2) rfl ⟨by omega, by decide⟩ dX5_place_65 ?_
            refine qx_istore C dX5_place_66 (Nat.le_of_ble_eq_true rfl) ?_
            refine qx_aload_n C dX5_place_68 rfl rfl ?_
            refine qx_getR C (j := 0) (k := 1) hiX5 rfl rfl (by decide) qw_583 rfl dX5_place_69 ?_
            refine qx_iconst C (v := 3) dX5_place_72 rfl ?_
            refine qx_iload_n C dX5_place_73 rfl rfl ?_
            refine qx_imulE C dX5_place_74 (pk_mul 3 p0) ?_
            refine qx_iload_n C dX5_place_75 rfl rfl ?_
            refine qx_iaddE C dX5_place_76 (nI_add (3 * p0) 1) ?_
            refine qx_iload_n C dX5_place_77 rfl rfl ?_
            refine qx_iastN C (j := 2) rfl ⟨by omega, by decide⟩ dX5_place_78 ?_
            refine qx_iload C dX5_place_79 rfl ?_
            exact qx_iret C dX5_place_81 rfl (by first | rfl | simp [mOpen, mPlace, h1, h12, ip0, h21, ixa1, h48]) (by first | rfl | simp [mOpen, mPlace, h1, h12, ip0, h21, ixa1, h48])
          · refine qx_if_ne_f C (tgt := 56) dX5_place_51 (by decide) (by decide) ?_
            refine qx_iconst C (v := (-1)) dX5_place_54 rfl ?_
            exact qx_iret C dX5_place_55 rfl (by first | rfl | simp [mOpen, mPlace, h1, h12, ip0, h21, ixa1, h48]) (by first | rfl | simp [mOpen, mPlace, h1, h12, ip0, h21, ixa1, h48])
        · refine qx_iload_n C dX5_place_27 rfl rfl ?_
          refine qx_iconst C (v := 0) dX5_place_28 rfl ?_
          refine qx_iload_n C dX5_place_29 rfl rfl ?_
          refine qx_if_ne_t C (tgt := 38) dX5_place_30 (by decide) (by decide) ?_
          refine qx_iload_n C dX5_place_38 rfl rfl ?_
          refine qx_iconst C (v := 1) dX5_place_39 rfl ?_
          refine qx_icmp_ne_t C (tgt := 47) dX5_place_40 (by decide) (by decide) ?_
          refine qx_iconst C (v := 1) dX5_place_47 rfl ?_
          refine qx_callSI C (As := [_, _, _]) (n := 3) (c_X5_in F (d + 1) _ _ _ _) qw_630 qw_631 qw_44 qw_632 ⟨rfl, by decide, by decide, by decide +kernel⟩ (qx_room (by omega) (by decide)) rfl rfl (Nat.le_of_ble_eq_true rfl) dX5_place_48 ?_
          refine qx_split _ (fun h48 => ?_) (fun h48 => ?_)
          · refine qx_if_ne_t C (tgt := 56) dX5_place_51 (by decide) (by decide) ?_
            refine qx_aload_n C dX5_place_56 rfl rfl ?_
            refine qx_getR C (j := 0) (k := 1) hiX5 rfl rfl (by decide) qw_583 rfl dX5_place_57 ?_
            refine qx_iconst C (v := 3) dX5_place_60 rfl ?_
            refine qx_iload_n C dX5_place_61 rfl rfl ?_
            refine qx_imulE C dX5_place_62 (pk_mul 3 p0) ?_
            refine qx_iload_n C dX5_place_63 rfl rfl ?_
            refine qx_iaddE C dX5_place_64 (nI_add (3 * p0) 2) ?_
            refine qx_ialdN C (j := 2) rfl ⟨by omega, by decide⟩ dX5_place_65 ?_
            refine qx_istore C dX5_place_66 (Nat.le_of_ble_eq_true rfl) ?_
            refine qx_aload_n C dX5_place_68 rfl rfl ?_
            refine qx_getR C (j := 0) (k := 1) hiX5 rfl rfl (by decide) qw_583 rfl dX5_place_69 ?_
            refine qx_iconst C (v := 3) dX5_place_72 rfl ?_
            refine qx_iload_n C dX5_place_73 rfl rfl ?_
            refine qx_imulE C dX5_place_74 (pk_mul 3 p0) ?_
            refine qx_iload_n C dX5_place_75 rfl rfl ?_
            refine qx_iaddE C dX5_place_76 (nI_add (3 * p0) 2) ?_
            refine qx_iload_n C dX5_place_77 rfl rfl ?_
            refine qx_iastN C (j := 2) rfl ⟨by omega, by decide⟩ dX5_place_78 ?_
            refine qx_iload C dX5_place_79 rfl ?_
            exact qx_iret C dX5_place_81 rfl (by first | rfl | simp [mOpen, mPlace, h1, h12, ip0, h21, ixa2, h48]) (by first | rfl | simp [mOpen, mPlace, h1, h12, ip0, h21, ixa2, h48])
          · refine qx_if_ne_f C (tgt := 56) dX5_place_51 (by decide) (by decide) ?_
            refine qx_iconst C (v := (-1)) dX5_place_54 rfl ?_
            exact qx_iret C dX5_place_55 rfl (by first | rfl | simp [mOpen, mPlace, h1, h12, ip0, h21, ixa2, h48]) (by first | rfl | simp [mOpen, mPlace, h1, h12, ip0, h21, ixa2, h48])
      · refine qx_if_eq_t C (tgt := 54) dX5_place_24 (by decide) (by decide) ?_
        refine qx_iconst C (v := (-1)) dX5_place_54 rfl ?_
        exact qx_iret C dX5_place_55 rfl (by first | rfl | simp [mOpen, mPlace, h1, h12, ip0, h21]) (by first | rfl | simp [mOpen, mPlace, h1, h12, ip0, h21])
    · refine qx_if_eq_t C (tgt := 54) dX5_place_15 (by decide) (by decide) ?_
      refine qx_iconst C (v := (-1)) dX5_place_54 rfl ?_
      exact qx_iret C dX5_place_55 rfl (by first | rfl | simp [mOpen, mPlace, h1, h12]) (by first | rfl | simp [mOpen, mPlace, h1, h12])
set_option maxRecDepth 20000 in
set_option maxHeartbeats 4000000 in
theorem c_X5_limit (F : qx_F) (d : Nat) (σ : qx_S) (k v : Int32) : qx_cI F shM ⟨"NightStallsModel", "limit", "(II)I"⟩ (.code ⟨"NightStallsModel", "limit", "(II)I"⟩ prog_7_method_12_code 4 ((some FieldType.int)) :: qx_W) (qx_R (d + 3)) [.ref (fa F 0), .int k, .int v] σ ((mLimit σ k v).1) ((mLimit σ k v).2) := by
  refine qx_met (by decide) (Nat.le_of_ble_eq_true rfl) (by intro v hv; simp only [List.mem_cons, List.not_mem_nil, or_false] at hv; rcases hv with rfl | rfl | rfl <;> rfl) (fun K C => ?_)
  refine qx_aload_n C dX5_limit_0 rfl rfl ?_
  refine qx_callVI C (b := 0) (As := []) (n := 0) (c_X5_isOpen F (d + 1) _ ) rfl rfl qw_626 qw_628 qw_14 qw_44 qw_629 ⟨rfl, by decide, by decide, by decide +kernel⟩ (qx_room (by omega) (by decide)) rfl rfl (Nat.le_of_ble_eq_true rfl) dX5_limit_1 ?_
  refine qx_split _ (fun h1 => ?_) (fun h1 => ?_)
  · refine qx_if_eq_f C (tgt := 10) dX5_limit_4 (by decide) (by decide) ?_
    refine qx_bipush C (v := (-3)) dX5_limit_7 rfl ?_
    exact qx_iret C dX5_limit_9 rfl (by first | rfl | simp [mOpen, mLimit, h1]) (by first | rfl | simp [mOpen, mLimit, h1])
  · refine qx_if_eq_t C (tgt := 10) dX5_limit_4 (by decide) (by decide) ?_
    refine qx_iload_n C dX5_limit_10 rfl rfl ?_
    refine qx_callSI C (As := [_]) (n := 1) (c_X5_isLine F (d + 0) _ _) qw_649 qw_650 qw_44 qw_651 ⟨rfl, by decide, by decide, by decide +kernel⟩ (qx_room (by omega) (by decide)) rfl rfl (Nat.le_of_ble_eq_true rfl) dX5_limit_11 ?_
    refine qx_split _ (fun h11 => ?_) (fun h11 => ?_)
    · obtain ⟨k0, hk0, rfl⟩ := qx_inI 2 (by decide) h11
      have ik0 : (nI k0).toNatClampNeg = k0 := nI_clamp (by omega)
      refine qx_if_eq_f C (tgt := 27) dX5_limit_14 (by decide) (by decide) ?_
      refine qx_iload_n C dX5_limit_17 rfl rfl ?_
      refine qx_iconst C (v := 0) dX5_limit_18 rfl ?_
      refine qx_bipush C (v := 99) dX5_limit_19 rfl ?_
      refine qx_callSI C (As := [_, _, _]) (n := 3) (c_X5_in F (d + 1) _ _ _ _) qw_630 qw_631 qw_44 qw_632 ⟨rfl, by decide, by decide, by decide +kernel⟩ (qx_room (by omega) (by decide)) rfl rfl (Nat.le_of_ble_eq_true rfl) dX5_limit_21 ?_
      refine qx_split _ (fun h21 => ?_) (fun h21 => ?_)
      · refine qx_if_ne_t C (tgt := 29) dX5_limit_24 (by decide) (by decide) ?_
        refine qx_aload_n C dX5_limit_29 rfl rfl ?_
        refine qx_getR C (j := 0) (k := 2) hiX5 rfl rfl (by decide) qw_584 rfl dX5_limit_30 ?_
        refine qx_iconst C (v := 3) dX5_limit_33 rfl ?_
        refine qx_iload_n C dX5_limit_34 rfl rfl ?_
        refine qx_imulE C dX5_limit_35 (pk_mul 3 k0) ?_
        refine qx_ialdN C (j := 3) rfl ⟨by omega, by decide⟩ dX5_limit_36 ?_
        refine qx_istore_n C dX5_limit_37 rfl (Nat.le_of_ble_eq_true rfl) ?_
        refine qx_aload_n C dX5_limit_38 rfl rfl ?_
        refine qx_getR C (j := 0) (k := 2) hiX5 rfl rfl (by decide) qw_584 rfl dX5_limit_39 ?_
        refine qx_iconst C (v := 3) dX5_limit_42 rfl ?_
        refine qx_iload_n C dX5_limit_43 rfl rfl ?_
        refine qx_imulE C dX5_limit_44 (pk_mul 3 k0) ?_
        refine qx_iload_n C dX5_limit_45 rfl rfl ?_
        refine qx_iastN C (j := 3) rfl ⟨by omega, by decide⟩ dX5_limit_46 ?_
        refine qx_iload_n C dX5_limit_47 rfl rfl ?_
        exact qx_iret C dX5_limit_48 rfl (by first | rfl | simp [mOpen, mLimit, h1, h11, ik0, h21]) (by first | rfl | simp [mOpen, mLimit, h1, h11, ik0, h21])
      · refine qx_if_ne_f C (tgt := 29) dX5_limit_24 (by decide) (by decide) ?_
        refine qx_iconst C (v := (-1)) dX5_limit_27 rfl ?_
        exact qx_iret C dX5_limit_28 rfl (by first | rfl | simp [mOpen, mLimit, h1, h11, ik0, h21]) (by first | rfl | simp [mOpen, mLimit, h1, h11, ik0, h21])
    · refine qx_if_eq_t C (tgt := 27) dX5_limit_14 (by decide) (by decide) ?_
      refine qx_iconst C (v := (-1)) dX5_limit_27 rfl ?_
      exact qx_iret C dX5_limit_28 rfl (by first | rfl | simp [mOpen, mLimit, h1, h11]) (by first | rfl | simp [mOpen, mLimit, h1, h11])
set_option maxRecDepth 20000 in
set_option maxHeartbeats 4000000 in
theorem c_X5_clash1 (F : qx_F) (d : Nat) (σ : qx_S) (a b : Int32) : qx_cI F shM ⟨"NightStallsModel", "clash", "(IIZ)I"⟩ (.code ⟨"NightStallsModel", "clash", "(IIZ)I"⟩ prog_7_method_13_code 6 ((some FieldType.int)) :: qx_W) (qx_R (d + 2)) [.ref (fa F 0), .int a, .int b, .int 1] σ ((mClash σ a b 1).1) ((mClash σ a b 1).2) := by
  refine qx_met (by decide) (Nat.le_of_ble_eq_true rfl) (by intro v hv; simp only [List.mem_cons, List.not_mem_nil, or_false] at hv; rcases hv with rfl | rfl | rfl | rfl <;> rfl) (fun K C => ?_)
  refine qx_aload_n C dX5_clash_0 rfl rfl ?_
  refine qx_callVI C (b := 0) (As := []) (n := 0) (c_X5_isOpen F (d + 0) _ ) rfl rfl qw_626 qw_628 qw_14 qw_44 qw_629 ⟨rfl, by decide, by decide, by decide +kernel⟩ (qx_room (by omega) (by decide)) rfl rfl (Nat.le_of_ble_eq_true rfl) dX5_clash_1 ?_
  refine qx_split _ (fun h1 => ?_) (fun h1 => ?_)
  · refine qx_if_eq_f C (tgt := 10) dX5_clash_4 (by decide) (by decide) ?_
    refine qx_bipush C (v := (-3)) dX5_clash_7 rfl ?_
    exact qx_iret C dX5_clash_9 rfl (by first | rfl | simp [mOpen, mClash, h1]) (by first | rfl | simp [mOpen, mClash, h1])
  · refine qx_if_eq_t C (tgt := 10) dX5_clash_4 (by decide) (by decide) ?_
    refine qx_iload_n C dX5_clash_10 rfl rfl ?_
    refine qx_iconst C (v := 0) dX5_clash_11 rfl ?_
    refine qx_iconst C (v := 3) dX5_clash_12 rfl ?_
    refine qx_callSI C (As := [_, _, _]) (n := 3) (c_X5_in F (d + 0) _ _ _ _) qw_630 qw_631 qw_44 qw_632 ⟨rfl, by decide, by decide, by decide +kernel⟩ (qx_room (by omega) (by decide)) rfl rfl (Nat.le_of_ble_eq_true rfl) dX5_clash_13 ?_
    refine qx_split _ (fun h13 => ?_) (fun h13 => ?_)
    · obtain ⟨a0, ha0, rfl⟩ := qx_inI 3 (by decide) h13
      have ia0 : (nI a0).toNatClampNeg = a0 := nI_clamp (by omega)
      refine qx_if_eq_f C (tgt := 28) dX5_clash_16 (by decide) (by decide) ?_
      refine qx_iload_n C dX5_clash_19 rfl rfl ?_
      refine qx_iconst C (v := 0) dX5_clash_20 rfl ?_
      refine qx_iconst C (v := 3) dX5_clash_21 rfl ?_
      refine qx_callSI C (As := [_, _, _]) (n := 3) (c_X5_in F (d + 0) _ _ _ _) qw_630 qw_631 qw_44 qw_632 ⟨rfl, by decide, by decide, by decide +kernel⟩ (qx_room (by omega) (by decide)) rfl rfl (Nat.le_of_ble_eq_true rfl) dX5_clash_22 ?_
      refine qx_split _ (fun h22 => ?_) (fun h22 => ?_)
      · obtain ⟨b0, hb0, rfl⟩ := qx_inI 3 (by decide) h22
        have ib0 : (nI b0).toNatClampNeg = b0 := nI_clamp (by omega)
        refine qx_if_ne_t C (tgt := 30) dX5_clash_25 (by decide) (by decide) ?_
        refine qx_iload_n C dX5_clash_30 rfl rfl ?_
        refine qx_if_eq_f C (tgt := 38) dX5_clash_31 (by decide) (by decide) ?_
        refine qx_iconst C (v := 1) dX5_clash_34 rfl ?_
        refine qx_goto C (tgt := 39) dX5_clash_35 (by decide) ?_
        refine qx_istore C dX5_clash_39 (Nat.le_of_ble_eq_true rfl) ?_
        refine qx_aload_n C dX5_clash_41 rfl rfl ?_
        refine qx_getR C (j := 0) (k := 3) hiX5 rfl rfl (by decide) qw_585 rfl dX5_clash_42 ?_
        refine qx_iconst C (v := 4) dX5_clash_45 rfl ?_
        refine qx_iload_n C dX5_clash_46 rfl rfl ?_
        refine qx_imulE C dX5_clash_47 (pk_mul 4 a0) ?_
        refine qx_iload_n C dX5_clash_48 rfl rfl ?_
        refine qx_iaddE C dX5_clash_49 (nI_add (4 * a0) b0) ?_
        refine qx_ialdN C (j := 4) rfl ⟨by omega, by decide⟩ dX5_clash_50 ?_
        refine qx_iload C dX5_clash_51 rfl ?_
        refine qx_icmp_ne C (tgt := 60) dX5_clash_53 (by decide) (fun h53 => ?_) (fun h53 => ?_)
        · refine qx_iconst C (v := 1) dX5_clash_60 rfl ?_
          refine qx_istore C dX5_clash_61 (Nat.le_of_ble_eq_true rfl) ?_
          refine qx_aload_n C dX5_clash_63 rfl rfl ?_
          refine qx_getR C (j := 0) (k := 3) hiX5 rfl rfl (by decide) qw_585 rfl dX5_clash_64 ?_
          refine qx_iconst C (v := 4) dX5_clash_67 rfl ?_
          refine qx_iload_n C dX5_clash_68 rfl rfl ?_
          refine qx_imulE C dX5_clash_69 (pk_mul 4 a0) ?_
          refine qx_iload_n C dX5_clash_70 rfl rfl ?_
          refine qx_iaddE C dX5_clash_71 (nI_add (4 * a0) b0) ?_
          refine qx_iload C dX5_clash_72 rfl ?_
          refine qx_iastN C (j := 4) rfl ⟨by omega, by decide⟩ dX5_clash_74 ?_
          refine qx_aload_n C dX5_clash_75 rfl rfl ?_
          refine qx_getR C (j := 0) (k := 3) hiX5 rfl rfl (by decide) qw_585 rfl dX5_clash_76 ?_
          refine qx_iconst C (v := 4) dX5_clash_79 rfl ?_
          refine qx_iload_n C dX5_clash_80 rfl rfl ?_
          refine qx_imulE C dX5_clash_81 (pk_mul 4 b0) ?_
          refine qx_iload_n C dX5_clash_82 rfl rfl ?_
          refine qx_iaddE C dX5_clash_83 (nI_add (4 * b0) a0) ?_
          refine qx_iload C dX5_clash_84 rfl ?_
          refine qx_iastN C (j := 4) rfl ⟨by omega, by decide⟩ dX5_clash_86 ?_
          refine qx_iload C dX5_clash_87 rfl ?_
          exact qx_iret C dX5_clash_89 rfl (by first | rfl | simp [mOpen, mClash, h1, h13, ia0, h22, ib0, h53]) (by first | rfl | simp [mOpen, mClash, h1, h13, ia0, h22, ib0, h53])
        · refine qx_iconst C (v := 0) dX5_clash_56 rfl ?_
          refine qx_goto C (tgt := 61) dX5_clash_57 (by decide) ?_
          refine qx_istore C dX5_clash_61 (Nat.le_of_ble_eq_true rfl) ?_
          refine qx_aload_n C dX5_clash_63 rfl rfl ?_
          refine qx_getR C (j := 0) (k := 3) hiX5 rfl rfl (by decide) qw_585 rfl dX5_clash_64 ?_
          refine qx_iconst C (v := 4) dX5_clash_67 rfl ?_
          refine qx_iload_n C dX5_clash_68 rfl rfl ?_
          refine qx_imulE C dX5_clash_69 (pk_mul 4 a0) ?_
          refine qx_iload_n C dX5_clash_70 rfl rfl ?_
          refine qx_iaddE C dX5_clash_71 (nI_add (4 * a0) b0) ?_
          refine qx_iload C dX5_clash_72 rfl ?_
          refine qx_iastN C (j := 4) rfl ⟨by omega, by decide⟩ dX5_clash_74 ?_
          refine qx_aload_n C dX5_clash_75 rfl rfl ?_
          refine qx_getR C (j := 0) (k := 3) hiX5 rfl rfl (by decide) qw_585 rfl dX5_clash_76 ?_
          refine qx_iconst C (v := 4) dX5_clash_79 rfl ?_
          refine qx_iload_n C dX5_clash_80 rfl rfl ?_
          refine qx_imulE C dX5_clash_81 (pk_mul 4 b0) ?_
          refine qx_iload_n C dX5_clash_82 rfl rfl ?_
          refine qx_iaddE C dX5_clash_83 (nI_add (4 * b0) a0) ?_
          refine qx_iload C dX5_clash_84 rfl ?_
          refine qx_iastN C (j := 4) rfl ⟨by omega, by decide⟩ dX5_clash_86 ?_
          refine qx_iload C dX5_clash_87 rfl ?_
          exact qx_iret C dX5_clash_89 rfl (by first | rfl | simp [mOpen, mClash, h1, h13, ia0, h22, ib0, h53]) (by first | rfl | simp [mOpen, mClash, h1, h13, ia0, h22, ib0, h53])
      · refine qx_if_ne_f C (tgt := 30) dX5_clash_25 (by decide) (by decide) ?_
        refine qx_iconst C (v := (-1)) dX5_clash_28 rfl ?_
        exact qx_iret C dX5_clash_29 rfl (by first | rfl | simp [mOpen, mClash, h1, h13, ia0, h22]) (by first | rfl | simp [mOpen, mClash, h1, h13, ia0, h22])
    · refine qx_if_eq_t C (tgt := 28) dX5_clash_16 (by decide) (by decide) ?_
      refine qx_iconst C (v := (-1)) dX5_clash_28 rfl ?_
      exact qx_iret C dX5_clash_29 rfl (by first | rfl | simp [mOpen, mClash, h1, h13]) (by first | rfl | simp [mOpen, mClash, h1, h13])
set_option maxRecDepth 20000 in
set_option maxHeartbeats 4000000 in
theorem c_X5_clash0 (F : qx_F) (d : Nat) (σ : qx_S) (a b : Int32) : qx_cI F shM ⟨"NightStallsModel", "clash", "(IIZ)I"⟩ (.code ⟨"NightStallsModel", "clash", "(IIZ)I"⟩ prog_7_method_13_code 6 ((some FieldType.int)) :: qx_W) (qx_R (d + 2)) [.ref (fa F 0), .int a, .int b, .int 0] σ ((mClash σ a b 0).1) ((mClash σ a b 0).2) := by
  refine qx_met (by decide) (Nat.le_of_ble_eq_true rfl) (by intro v hv; simp only [List.mem_cons, List.not_mem_nil, or_false] at hv; rcases hv with rfl | rfl | rfl | rfl <;> rfl) (fun K C => ?_)
  refine qx_aload_n C dX5_clash_0 rfl rfl ?_
  refine qx_callVI C (b := 0) (As := []) (n := 0) (c_X5_isOpen F (d + 0) _ ) rfl rfl qw_626 qw_628 qw_14 qw_44 qw_629 ⟨rfl, by decide, by decide, by decide +kernel⟩ (qx_room (by omega) (by decide)) rfl rfl (Nat.le_of_ble_eq_true rfl) dX5_clash_1 ?_
  refine qx_split _ (fun h1 => ?_) (fun h1 => ?_)
  · refine qx_if_eq_f C (tgt := 10) dX5_clash_4 (by decide) (by decide) ?_
    refine qx_bipush C (v := (-3)) dX5_clash_7 rfl ?_
    exact qx_iret C dX5_clash_9 rfl (by first | rfl | simp [mOpen, mClash, h1]) (by first | rfl | simp [mOpen, mClash, h1])
  · refine qx_if_eq_t C (tgt := 10) dX5_clash_4 (by decide) (by decide) ?_
    refine qx_iload_n C dX5_clash_10 rfl rfl ?_
    refine qx_iconst C (v := 0) dX5_clash_11 rfl ?_
    refine qx_iconst C (v := 3) dX5_clash_12 rfl ?_
    refine qx_callSI C (As := [_, _, _]) (n := 3) (c_X5_in F (d + 0) _ _ _ _) qw_630 qw_631 qw_44 qw_632 ⟨rfl, by decide, by decide, by decide +kernel⟩ (qx_room (by omega) (by decide)) rfl rfl (Nat.le_of_ble_eq_true rfl) dX5_clash_13 ?_
    refine qx_split _ (fun h13 => ?_) (fun h13 => ?_)
    · obtain ⟨a0, ha0, rfl⟩ := qx_inI 3 (by decide) h13
      have ia0 : (nI a0).toNatClampNeg = a0 := nI_clamp (by omega)
      refine qx_if_eq_f C (tgt := 28) dX5_clash_16 (by decide) (by decide) ?_
      refine qx_iload_n C dX5_clash_19 rfl rfl ?_
      refine qx_iconst C (v := 0) dX5_clash_20 rfl ?_
      refine qx_iconst C (v := 3) dX5_clash_21 rfl ?_
      refine qx_callSI C (As := [_, _, _]) (n := 3) (c_X5_in F (d + 0) _ _ _ _) qw_630 qw_631 qw_44 qw_632 ⟨rfl, by decide, by decide, by decide +kernel⟩ (qx_room (by omega) (by decide)) rfl rfl (Nat.le_of_ble_eq_true rfl) dX5_clash_22 ?_
      refine qx_split _ (fun h22 => ?_) (fun h22 => ?_)
      · obtain ⟨b0, hb0, rfl⟩ := qx_inI 3 (by decide) h22
        have ib0 : (nI b0).toNatClampNeg = b0 := nI_clamp (by omega)
        refine qx_if_ne_t C (tgt := 30) dX5_clash_25 (by decide) (by decide) ?_
        refine qx_iload_n C dX5_clash_30 rfl rfl ?_
        refine qx_if_eq_t C (tgt := 38) dX5_clash_31 (by decide) (by decide) ?_
        refine qx_iconst C (v := 0) dX5_clash_38 rfl ?_
        refine qx_istore C dX5_clash_39 (Nat.le_of_ble_eq_true rfl) ?_
        refine qx_aload_n C dX5_clash_41 rfl rfl ?_
        refine qx_getR C (j := 0) (k := 3) hiX5 rfl rfl (by decide) qw_585 rfl dX5_clash_42 ?_
        refine qx_iconst C (v := 4) dX5_clash_45 rfl ?_
        refine qx_iload_n C dX5_clash_46 rfl rfl ?_
        refine qx_imulE C dX5_clash_47 (pk_mul 4 a0) ?_
        refine qx_iload_n C dX5_clash_48 rfl rfl ?_
        refine qx_iaddE C dX5_clash_49 (nI_add (4 * a0) b0) ?_
        refine qx_ialdN C (j := 4) rfl ⟨by omega, by decide⟩ dX5_clash_50 ?_
        refine qx_iload C dX5_clash_51 rfl ?_
        refine qx_icmp_ne C (tgt := 60) dX5_clash_53 (by decide) (fun h53 => ?_) (fun h53 => ?_)
        · refine qx_iconst C (v := 1) dX5_clash_60 rfl ?_
          refine qx_istore C dX5_clash_61 (Nat.le_of_ble_eq_true rfl) ?_
          refine qx_aload_n C dX5_clash_63 rfl rfl ?_
          refine qx_getR C (j := 0) (k := 3) hiX5 rfl rfl (by decide) qw_585 rfl dX5_clash_64 ?_
          refine qx_iconst C (v := 4) dX5_clash_67 rfl ?_
          refine qx_iload_n C dX5_clash_68 rfl rfl ?_
          refine qx_imulE C dX5_clash_69 (pk_mul 4 a0) ?_
          refine qx_iload_n C dX5_clash_70 rfl rfl ?_
          refine qx_iaddE C dX5_clash_71 (nI_add (4 * a0) b0) ?_
          refine qx_iload C dX5_clash_72 rfl ?_
          refine qx_iastN C (j := 4) rfl ⟨by omega, by decide⟩ dX5_clash_74 ?_
          refine qx_aload_n C dX5_clash_75 rfl rfl ?_
          refine qx_getR C (j := 0) (k := 3) hiX5 rfl rfl (by decide) qw_585 rfl dX5_clash_76 ?_
          refine qx_iconst C (v := 4) dX5_clash_79 rfl ?_
          refine qx_iload_n C dX5_clash_80 rfl rfl ?_
          refine qx_imulE C dX5_clash_81 (pk_mul 4 b0) ?_
          refine qx_iload_n C dX5_clash_82 rfl rfl ?_
          refine qx_iaddE C dX5_clash_83 (nI_add (4 * b0) a0) ?_
          refine qx_iload C dX5_clash_84 rfl ?_
          refine qx_iastN C (j := 4) rfl ⟨by omega, by decide⟩ dX5_clash_86 ?_
          refine qx_iload C dX5_clash_87 rfl ?_
          exact qx_iret C dX5_clash_89 rfl (by first | rfl | simp [mOpen, mClash, h1, h13, ia0, h22, ib0, h53]) (by first | rfl | simp [mOpen, mClash, h1, h13, ia0, h22, ib0, h53])
        · refine qx_iconst C (v := 0) dX5_clash_56 rfl ?_
          refine qx_goto C (tgt := 61) dX5_clash_57 (by decide) ?_
          refine qx_istore C dX5_clash_61 (Nat.le_of_ble_eq_true rfl) ?_
          refine qx_aload_n C dX5_clash_63 rfl rfl ?_
          refine qx_getR C (j := 0) (k := 3) hiX5 rfl rfl (by decide) qw_585 rfl dX5_clash_64 ?_
          refine qx_iconst C (v := 4) dX5_clash_67 rfl ?_
          refine qx_iload_n C dX5_clash_68 rfl rfl ?_
          refine qx_imulE C dX5_clash_69 (pk_mul 4 a0) ?_
          refine qx_iload_n C dX5_clash_70 rfl rfl ?_
          refine qx_iaddE C dX5_clash_71 (nI_add (4 * a0) b0) ?_
          refine qx_iload C dX5_clash_72 rfl ?_
          refine qx_iastN C (j := 4) rfl ⟨by omega, by decide⟩ dX5_clash_74 ?_
          refine qx_aload_n C dX5_clash_75 rfl rfl ?_
          refine qx_getR C (j := 0) (k := 3) hiX5 rfl rfl (by decide) qw_585 rfl dX5_clash_76 ?_
          refine qx_iconst C (v := 4) dX5_clash_79 rfl ?_
          refine qx_iload_n C dX5_clash_80 rfl rfl ?_
          refine qx_imulE C dX5_clash_81 (pk_mul 4 b0) ?_
          refine qx_iload_n C dX5_clash_82 rfl rfl ?_
          refine qx_iaddE C dX5_clash_83 (nI_add (4 * b0) a0) ?_
          refine qx_iload C dX5_clash_84 rfl ?_
          refine qx_iastN C (j := 4) rfl ⟨by omega, by decide⟩ dX5_clash_86 ?_
          refine qx_iload C dX5_clash_87 rfl ?_
          exact qx_iret C dX5_clash_89 rfl (by first | rfl | simp [mOpen, mClash, h1, h13, ia0, h22, ib0, h53]) (by first | rfl | simp [mOpen, mClash, h1, h13, ia0, h22, ib0, h53])
      · refine qx_if_ne_f C (tgt := 30) dX5_clash_25 (by decide) (by decide) ?_
        refine qx_iconst C (v := (-1)) dX5_clash_28 rfl ?_
        exact qx_iret C dX5_clash_29 rfl (by first | rfl | simp [mOpen, mClash, h1, h13, ia0, h22]) (by first | rfl | simp [mOpen, mClash, h1, h13, ia0, h22])
    · refine qx_if_eq_t C (tgt := 28) dX5_clash_16 (by decide) (by decide) ?_
      refine qx_iconst C (v := (-1)) dX5_clash_28 rfl ?_
      exact qx_iret C dX5_clash_29 rfl (by first | rfl | simp [mOpen, mClash, h1, h13]) (by first | rfl | simp [mOpen, mClash, h1, h13])
set_option maxRecDepth 20000 in
set_option maxHeartbeats 4000000 in
theorem c_X5_rule (F : qx_F) (d : Nat) (σ : qx_S) (w v : Int32) : qx_cI F shM ⟨"NightStallsModel", "rule", "(II)I"⟩ (.code ⟨"NightStallsModel", "rule", "(II)I"⟩ prog_7_method_14_code 4 ((some FieldType.int)) :: qx_W) (qx_R (d + 2)) [.ref (fa F 0), .int w, .int v] σ ((mRule σ w v).1) ((mRule σ w v).2) := by
  refine qx_met (by decide) (Nat.le_of_ble_eq_true rfl) (by intro v hv; simp only [List.mem_cons, List.not_mem_nil, or_false] at hv; rcases hv with rfl | rfl | rfl <;> rfl) (fun K C => ?_)
  refine qx_aload_n C dX5_rule_0 rfl rfl ?_
  refine qx_callVI C (b := 0) (As := []) (n := 0) (c_X5_isOpen F (d + 0) _ ) rfl rfl qw_626 qw_628 qw_14 qw_44 qw_629 ⟨rfl, by decide, by decide, by decide +kernel⟩ (qx_room (by omega) (by decide)) rfl rfl (Nat.le_of_ble_eq_true rfl) dX5_rule_1 ?_
  refine qx_split _ (fun h1 => ?_) (fun h1 => ?_)
  · refine qx_if_eq_f C (tgt := 10) dX5_rule_4 (by decide) (by decide) ?_
    refine qx_bipush C (v := (-3)) dX5_rule_7 rfl ?_
    exact qx_iret C dX5_rule_9 rfl (by first | rfl | simp [mOpen, mRule, h1]) (by first | rfl | simp [mOpen, mRule, h1])
  · refine qx_if_eq_t C (tgt := 10) dX5_rule_4 (by decide) (by decide) ?_
    refine qx_iload_n C dX5_rule_10 rfl rfl ?_
    refine qx_iconst C (v := 0) dX5_rule_11 rfl ?_
    refine qx_iconst C (v := 1) dX5_rule_12 rfl ?_
    refine qx_callSI C (As := [_, _, _]) (n := 3) (c_X5_in F (d + 0) _ _ _ _) qw_630 qw_631 qw_44 qw_632 ⟨rfl, by decide, by decide, by decide +kernel⟩ (qx_room (by omega) (by decide)) rfl rfl (Nat.le_of_ble_eq_true rfl) dX5_rule_13 ?_
    refine qx_split _ (fun h13 => ?_) (fun h13 => ?_)
    · refine qx_if_eq_f C (tgt := 37) dX5_rule_16 (by decide) (by decide) ?_
      rcases qx_c2 h13 with rfl | rfl
      · refine qx_iload_n C dX5_rule_19 rfl rfl ?_
        refine qx_iconst C (v := 0) dX5_rule_20 rfl ?_
        refine qx_iload_n C dX5_rule_21 rfl rfl ?_
        refine qx_if_ne_f C (tgt := 29) dX5_rule_22 (by decide) (by decide) ?_
        refine qx_iconst C (v := 3) dX5_rule_25 rfl ?_
        refine qx_goto C (tgt := 31) dX5_rule_26 (by decide) ?_
        refine qx_callSI C (As := [_, _, _]) (n := 3) (c_X5_in F (d + 0) _ _ _ _) qw_630 qw_631 qw_44 qw_632 ⟨rfl, by decide, by decide, by decide +kernel⟩ (qx_room (by omega) (by decide)) rfl rfl (Nat.le_of_ble_eq_true rfl) dX5_rule_31 ?_
        refine qx_split _ (fun h31 => ?_) (fun h31 => ?_)
        · refine qx_if_ne_t C (tgt := 39) dX5_rule_34 (by decide) (by decide) ?_
          refine qx_aload_n C dX5_rule_39 rfl rfl ?_
          refine qx_getR C (j := 0) (k := 0) hiX5 rfl rfl (by decide) qw_582 rfl dX5_rule_40 ?_
          refine qx_iconst C (v := 5) dX5_rule_43 rfl ?_
          refine qx_iload_n C dX5_rule_44 rfl rfl ?_
          refine qx_iaddE C (z := 5) dX5_rule_45 rfl ?_
          refine qx_ialdL C (j := 1) (a := 5) rfl rfl ⟨by decide, by decide⟩ dX5_rule_46 ?_
          refine qx_istore_n C dX5_rule_47 rfl (Nat.le_of_ble_eq_true rfl) ?_
          refine qx_aload_n C dX5_rule_48 rfl rfl ?_
          refine qx_getR C (j := 0) (k := 0) hiX5 rfl rfl (by decide) qw_582 rfl dX5_rule_49 ?_
          refine qx_iconst C (v := 5) dX5_rule_52 rfl ?_
          refine qx_iload_n C dX5_rule_53 rfl rfl ?_
          refine qx_iaddE C (z := 5) dX5_rule_54 rfl ?_
          refine qx_iload_n C dX5_rule_55 rfl rfl ?_
          refine qx_iastL C (j := 1) (a := 5) rfl rfl ⟨by decide, by decide⟩ dX5_rule_56 ?_
          refine qx_iload_n C dX5_rule_57 rfl rfl ?_
          exact qx_iret C dX5_rule_58 rfl (by first | rfl | simp [mOpen, mRule, h1, h13, ixa0, h31]) (by first | rfl | simp [mOpen, mRule, h1, h13, ixa0, h31])
        · refine qx_if_ne_f C (tgt := 39) dX5_rule_34 (by decide) (by decide) ?_
          refine qx_iconst C (v := (-1)) dX5_rule_37 rfl ?_
          exact qx_iret C dX5_rule_38 rfl (by first | rfl | simp [mOpen, mRule, h1, h13, ixa0, h31]) (by first | rfl | simp [mOpen, mRule, h1, h13, ixa0, h31])
      · refine qx_iload_n C dX5_rule_19 rfl rfl ?_
        refine qx_iconst C (v := 0) dX5_rule_20 rfl ?_
        refine qx_iload_n C dX5_rule_21 rfl rfl ?_
        refine qx_if_ne_t C (tgt := 29) dX5_rule_22 (by decide) (by decide) ?_
        refine qx_bipush C (v := 50) dX5_rule_29 rfl ?_
        refine qx_callSI C (As := [_, _, _]) (n := 3) (c_X5_in F (d + 0) _ _ _ _) qw_630 qw_631 qw_44 qw_632 ⟨rfl, by decide, by decide, by decide +kernel⟩ (qx_room (by omega) (by decide)) rfl rfl (Nat.le_of_ble_eq_true rfl) dX5_rule_31 ?_
        refine qx_split _ (fun h31 => ?_) (fun h31 => ?_)
        · refine qx_if_ne_t C (tgt := 39) dX5_rule_34 (by decide) (by decide) ?_
          refine qx_aload_n C dX5_rule_39 rfl rfl ?_
          refine qx_getR C (j := 0) (k := 0) hiX5 rfl rfl (by decide) qw_582 rfl dX5_rule_40 ?_
          refine qx_iconst C (v := 5) dX5_rule_43 rfl ?_
          refine qx_iload_n C dX5_rule_44 rfl rfl ?_
          refine qx_iaddE C (z := 6) dX5_rule_45 rfl ?_
          refine qx_ialdL C (j := 1) (a := 6) rfl rfl ⟨by decide, by decide⟩ dX5_rule_46 ?_
          refine qx_istore_n C dX5_rule_47 rfl (Nat.le_of_ble_eq_true rfl) ?_
          refine qx_aload_n C dX5_rule_48 rfl rfl ?_
          refine qx_getR C (j := 0) (k := 0) hiX5 rfl rfl (by decide) qw_582 rfl dX5_rule_49 ?_
          refine qx_iconst C (v := 5) dX5_rule_52 rfl ?_
          refine qx_iload_n C dX5_rule_53 rfl rfl ?_
          refine qx_iaddE C (z := 6) dX5_rule_54 rfl ?_
          refine qx_iload_n C dX5_rule_55 rfl rfl ?_
          refine qx_iastL C (j := 1) (a := 6) rfl rfl ⟨by decide, by decide⟩ dX5_rule_56 ?_
          refine qx_iload_n C dX5_rule_57 rfl rfl ?_
          exact qx_iret C dX5_rule_58 rfl (by first | rfl | simp [mOpen, mRule, h1, h13, ixa1, h31]) (by first | rfl | simp [mOpen, mRule, h1, h13, ixa1, h31])
        · refine qx_if_ne_f C (tgt := 39) dX5_rule_34 (by decide) (by decide) ?_
          refine qx_iconst C (v := (-1)) dX5_rule_37 rfl ?_
          exact qx_iret C dX5_rule_38 rfl (by first | rfl | simp [mOpen, mRule, h1, h13, ixa1, h31]) (by first | rfl | simp [mOpen, mRule, h1, h13, ixa1, h31])
    · refine qx_if_eq_t C (tgt := 37) dX5_rule_16 (by decide) (by decide) ?_
      refine qx_iconst C (v := (-1)) dX5_rule_37 rfl ?_
      exact qx_iret C dX5_rule_38 rfl (by first | rfl | simp [mOpen, mRule, h1, h13]) (by first | rfl | simp [mOpen, mRule, h1, h13])
set_option maxRecDepth 20000 in
set_option maxHeartbeats 4000000 in
theorem c_X5_stall (F : qx_F) (d : Nat) (σ : qx_S) (a b c e f g : Int32) (S : Nat) (hS : σ 1 1 = nI S) (hS5 : S ≤ 5) : qx_cI F shM ⟨"NightStallsModel", "stall", "(IIIIII)I"⟩ (.code ⟨"NightStallsModel", "stall", "(IIIIII)I"⟩ prog_7_method_16_code 8 ((some FieldType.int)) :: qx_W) (qx_R (d + 3)) [.ref (fa F 0), .int a, .int b, .int c, .int e, .int f, .int g] σ ((mStall σ a b c e f g S).1) ((mStall σ a b c e f g S).2) := by
  refine qx_met (by decide) (Nat.le_of_ble_eq_true rfl) (by intro v hv; simp only [List.mem_cons, List.not_mem_nil, or_false] at hv; rcases hv with rfl | rfl | rfl | rfl | rfl | rfl | rfl <;> rfl) (fun K C => ?_)
  refine qx_aload_n C dX5_stall_0 rfl rfl ?_
  refine qx_callVI C (b := 0) (As := []) (n := 0) (c_X5_isOpen F (d + 1) _ ) rfl rfl qw_626 qw_628 qw_14 qw_44 qw_629 ⟨rfl, by decide, by decide, by decide +kernel⟩ (qx_room (by omega) (by decide)) rfl rfl (Nat.le_of_ble_eq_true rfl) dX5_stall_1 ?_
  refine qx_split _ (fun h1 => ?_) (fun h1 => ?_)
  · refine qx_if_eq_f C (tgt := 10) dX5_stall_4 (by decide) (by decide) ?_
    refine qx_bipush C (v := (-3)) dX5_stall_7 rfl ?_
    exact qx_iret C dX5_stall_9 rfl (by unfold mStall; rw [if_pos h1]) (by unfold mStall; rw [if_pos h1])
  · refine qx_if_eq_t C (tgt := 10) dX5_stall_4 (by decide) (by decide) ?_
    refine qx_iconst C (v := 0) dX5_stall_10 rfl ?_
    refine qx_iload_n C dX5_stall_11 rfl rfl ?_
    refine qx_callSI C (As := [_, _]) (n := 2) (c_X5_isTold F (d + 0) _ _ _) qw_664 qw_665 qw_44 qw_666 ⟨rfl, by decide, by decide, by decide +kernel⟩ (qx_room (by omega) (by decide)) rfl rfl (Nat.le_of_ble_eq_true rfl) dX5_stall_12 ?_
    refine qx_split _ (fun h12 => ?_) (fun h12 => ?_)
    · refine qx_if_eq_f C (tgt := 61) dX5_stall_15 (by decide) (by decide) ?_
      refine qx_iconst C (v := 1) dX5_stall_18 rfl ?_
      refine qx_iload_n C dX5_stall_19 rfl rfl ?_
      refine qx_callSI C (As := [_, _]) (n := 2) (c_X5_isTold F (d + 0) _ _ _) qw_664 qw_665 qw_44 qw_666 ⟨rfl, by decide, by decide, by decide +kernel⟩ (qx_room (by omega) (by decide)) rfl rfl (Nat.le_of_ble_eq_true rfl) dX5_stall_20 ?_
      refine qx_split _ (fun h20 => ?_) (fun h20 => ?_)
      · refine qx_if_eq_f C (tgt := 61) dX5_stall_23 (by decide) (by decide) ?_
        refine qx_iconst C (v := 2) dX5_stall_26 rfl ?_
        refine qx_iload_n C dX5_stall_27 rfl rfl ?_
        refine qx_callSI C (As := [_, _]) (n := 2) (c_X5_isTold F (d + 0) _ _ _) qw_664 qw_665 qw_44 qw_666 ⟨rfl, by decide, by decide, by decide +kernel⟩ (qx_room (by omega) (by decide)) rfl rfl (Nat.le_of_ble_eq_true rfl) dX5_stall_28 ?_
        refine qx_split _ (fun h28 => ?_) (fun h28 => ?_)
        · refine qx_if_eq_f C (tgt := 61) dX5_stall_31 (by decide) (by decide) ?_
          refine qx_iconst C (v := 3) dX5_stall_34 rfl ?_
          refine qx_iload C dX5_stall_35 rfl ?_
          refine qx_callSI C (As := [_, _]) (n := 2) (c_X5_isTold F (d + 0) _ _ _) qw_664 qw_665 qw_44 qw_666 ⟨rfl, by decide, by decide, by decide +kernel⟩ (qx_room (by omega) (by decide)) rfl rfl (Nat.le_of_ble_eq_true rfl) dX5_stall_37 ?_
          refine qx_split _ (fun h37 => ?_) (fun h37 => ?_)
          · refine qx_if_eq_f C (tgt := 61) dX5_stall_40 (by decide) (by decide) ?_
            refine qx_iconst C (v := 4) dX5_stall_43 rfl ?_
            refine qx_iload C dX5_stall_44 rfl ?_
            refine qx_callSI C (As := [_, _]) (n := 2) (c_X5_isTold F (d + 0) _ _ _) qw_664 qw_665 qw_44 qw_666 ⟨rfl, by decide, by decide, by decide +kernel⟩ (qx_room (by omega) (by decide)) rfl rfl (Nat.le_of_ble_eq_true rfl) dX5_stall_46 ?_
            refine qx_split _ (fun h46 => ?_) (fun h46 => ?_)
            · refine qx_if_eq_f C (tgt := 61) dX5_stall_49 (by decide) (by decide) ?_
              refine qx_iconst C (v := 5) dX5_stall_52 rfl ?_
              refine qx_iload C dX5_stall_53 rfl ?_
              refine qx_callSI C (As := [_, _]) (n := 2) (c_X5_isTold F (d + 0) _ _ _) qw_664 qw_665 qw_44 qw_666 ⟨rfl, by decide, by decide, by decide +kernel⟩ (qx_room (by omega) (by decide)) rfl rfl (Nat.le_of_ble_eq_true rfl) dX5_stall_55 ?_
              refine qx_split _ (fun h55 => ?_) (fun h55 => ?_)
              · refine qx_if_ne_t C (tgt := 63) dX5_stall_58 (by decide) (by decide) ?_
                refine qx_aload_n C dX5_stall_63 rfl rfl ?_
                refine qx_getR C (j := 0) (k := 0) hiX5 rfl rfl (by decide) qw_582 rfl dX5_stall_64 ?_
                refine qx_iconst C (v := 1) dX5_stall_67 rfl ?_
                refine qx_ialdL C (j := 1) (a := 1) rfl rfl ⟨by decide, by decide⟩ dX5_stall_68 ?_
                refine qx_iconst C (v := 5) dX5_stall_69 rfl ?_
                refine qx_icmp_ne C (tgt := 76) dX5_stall_70 (by decide) (fun h70 => ?_) (fun h70 => ?_)
                · have hS5b : S < 5 := by rcases Nat.lt_or_ge S 5 with q | q; exact q; exact absurd (by rw [hS, show S = 5 by omega]; rfl) h70
                  refine qx_bipush C (v := 11) dX5_stall_76 rfl ?_
                  refine qx_aload_n C dX5_stall_78 rfl rfl ?_
                  refine qx_getR C (j := 0) (k := 0) hiX5 rfl rfl (by decide) qw_582 rfl dX5_stall_79 ?_
                  refine qx_iconst C (v := 1) dX5_stall_82 rfl ?_
                  refine qx_ialdL C (j := 1) (a := 1) rfl rfl ⟨by decide, by decide⟩ dX5_stall_83 ?_
                  refine qx_top hS ?_
                  refine qx_imulE C dX5_stall_84 (pk_mul 11 S) ?_
                  refine qx_istore C dX5_stall_85 (Nat.le_of_ble_eq_true rfl) ?_
                  refine qx_aload_n C dX5_stall_87 rfl rfl ?_
                  refine qx_getR C (j := 0) (k := 4) hiX5 rfl rfl (by decide) qw_586 rfl dX5_stall_88 ?_
                  refine qx_iload C dX5_stall_91 rfl ?_
                  refine qx_iload_n C dX5_stall_93 rfl rfl ?_
                  refine qx_iastN C (j := 5) rfl ⟨by omega, by decide⟩ dX5_stall_94 ?_
                  refine qx_aload_n C dX5_stall_95 rfl rfl ?_
                  refine qx_getR C (j := 0) (k := 4) hiX5 rfl rfl (by decide) qw_586 rfl dX5_stall_96 ?_
                  refine qx_iload C dX5_stall_99 rfl ?_
                  refine qx_iconst C (v := 1) dX5_stall_101 rfl ?_
                  refine qx_iaddE C dX5_stall_102 (nI_add (11 * S) 1) ?_
                  refine qx_iload_n C dX5_stall_103 rfl rfl ?_
                  refine qx_iastN C (j := 5) rfl ⟨by omega, by decide⟩ dX5_stall_104 ?_
                  refine qx_aload_n C dX5_stall_105 rfl rfl ?_
                  refine qx_getR C (j := 0) (k := 4) hiX5 rfl rfl (by decide) qw_586 rfl dX5_stall_106 ?_
                  refine qx_iload C dX5_stall_109 rfl ?_
                  refine qx_iconst C (v := 2) dX5_stall_111 rfl ?_
                  refine qx_iaddE C dX5_stall_112 (nI_add (11 * S) 2) ?_
                  refine qx_iload_n C dX5_stall_113 rfl rfl ?_
                  refine qx_iastN C (j := 5) rfl ⟨by omega, by decide⟩ dX5_stall_114 ?_
                  refine qx_aload_n C dX5_stall_115 rfl rfl ?_
                  refine qx_getR C (j := 0) (k := 4) hiX5 rfl rfl (by decide) qw_586 rfl dX5_stall_116 ?_
                  refine qx_iload C dX5_stall_119 rfl ?_
                  refine qx_iconst C (v := 3) dX5_stall_121 rfl ?_
                  refine qx_iaddE C dX5_stall_122 (nI_add (11 * S) 3) ?_
                  refine qx_iload C dX5_stall_123 rfl ?_
                  refine qx_iastN C (j := 5) rfl ⟨by omega, by decide⟩ dX5_stall_125 ?_
                  refine qx_aload_n C dX5_stall_126 rfl rfl ?_
                  refine qx_getR C (j := 0) (k := 4) hiX5 rfl rfl (by decide) qw_586 rfl dX5_stall_127 ?_
                  refine qx_iload C dX5_stall_130 rfl ?_
                  refine qx_iconst C (v := 4) dX5_stall_132 rfl ?_
                  refine qx_iaddE C dX5_stall_133 (nI_add (11 * S) 4) ?_
                  refine qx_iload C dX5_stall_134 rfl ?_
                  refine qx_iastN C (j := 5) rfl ⟨by omega, by decide⟩ dX5_stall_136 ?_
                  refine qx_aload_n C dX5_stall_137 rfl rfl ?_
                  refine qx_getR C (j := 0) (k := 4) hiX5 rfl rfl (by decide) qw_586 rfl dX5_stall_138 ?_
                  refine qx_iload C dX5_stall_141 rfl ?_
                  refine qx_iconst C (v := 5) dX5_stall_143 rfl ?_
                  refine qx_iaddE C dX5_stall_144 (nI_add (11 * S) 5) ?_
                  refine qx_iload C dX5_stall_145 rfl ?_
                  refine qx_iastN C (j := 5) rfl ⟨by omega, by decide⟩ dX5_stall_147 ?_
                  refine qx_aload_n C dX5_stall_148 rfl rfl ?_
                  refine qx_getR C (j := 0) (k := 4) hiX5 rfl rfl (by decide) qw_586 rfl dX5_stall_149 ?_
                  refine qx_iload C dX5_stall_152 rfl ?_
                  refine qx_bipush C (v := 6) dX5_stall_154 rfl ?_
                  refine qx_iaddE C dX5_stall_156 (nI_add (11 * S) 6) ?_
                  refine qx_iconst C (v := (-1)) dX5_stall_157 rfl ?_
                  refine qx_iastN C (j := 5) rfl ⟨by omega, by decide⟩ dX5_stall_158 ?_
                  refine qx_aload_n C dX5_stall_159 rfl rfl ?_
                  refine qx_getR C (j := 0) (k := 4) hiX5 rfl rfl (by decide) qw_586 rfl dX5_stall_160 ?_
                  refine qx_iload C dX5_stall_163 rfl ?_
                  refine qx_bipush C (v := 7) dX5_stall_165 rfl ?_
                  refine qx_iaddE C dX5_stall_167 (nI_add (11 * S) 7) ?_
                  refine qx_iconst C (v := 0) dX5_stall_168 rfl ?_
                  refine qx_iastN C (j := 5) rfl ⟨by omega, by decide⟩ dX5_stall_169 ?_
                  refine qx_aload_n C dX5_stall_170 rfl rfl ?_
                  refine qx_getR C (j := 0) (k := 4) hiX5 rfl rfl (by decide) qw_586 rfl dX5_stall_171 ?_
                  refine qx_iload C dX5_stall_174 rfl ?_
                  refine qx_bipush C (v := 8) dX5_stall_176 rfl ?_
                  refine qx_iaddE C dX5_stall_178 (nI_add (11 * S) 8) ?_
                  refine qx_iconst C (v := 0) dX5_stall_179 rfl ?_
                  refine qx_iastN C (j := 5) rfl ⟨by omega, by decide⟩ dX5_stall_180 ?_
                  refine qx_aload_n C dX5_stall_181 rfl rfl ?_
                  refine qx_getR C (j := 0) (k := 4) hiX5 rfl rfl (by decide) qw_586 rfl dX5_stall_182 ?_
                  refine qx_iload C dX5_stall_185 rfl ?_
                  refine qx_bipush C (v := 9) dX5_stall_187 rfl ?_
                  refine qx_iaddE C dX5_stall_189 (nI_add (11 * S) 9) ?_
                  refine qx_iconst C (v := 0) dX5_stall_190 rfl ?_
                  refine qx_iastN C (j := 5) rfl ⟨by omega, by decide⟩ dX5_stall_191 ?_
                  refine qx_aload_n C dX5_stall_192 rfl rfl ?_
                  refine qx_getR C (j := 0) (k := 4) hiX5 rfl rfl (by decide) qw_586 rfl dX5_stall_193 ?_
                  refine qx_iload C dX5_stall_196 rfl ?_
                  refine qx_bipush C (v := 10) dX5_stall_198 rfl ?_
                  refine qx_iaddE C dX5_stall_200 (nI_add (11 * S) 10) ?_
                  refine qx_iconst C (v := (-1)) dX5_stall_201 rfl ?_
                  refine qx_iastN C (j := 5) rfl ⟨by omega, by decide⟩ dX5_stall_202 ?_
                  refine qx_aload_n C dX5_stall_203 rfl rfl ?_
                  refine qx_getR C (j := 0) (k := 0) hiX5 rfl rfl (by decide) qw_582 rfl dX5_stall_204 ?_
                  refine qx_iconst C (v := 1) dX5_stall_207 rfl ?_
                  refine qx_dup2 C dX5_stall_208 rfl rfl ?_
                  refine qx_ialdL C (j := 1) (a := 1) rfl rfl ⟨by decide, by decide⟩ dX5_stall_209 ?_
                  refine qx_iconst C (v := 1) dX5_stall_210 rfl ?_
                  refine qx_iadd C dX5_stall_211 ?_
                  refine qx_iastL C (j := 1) (a := 1) rfl rfl ⟨by decide, by decide⟩ dX5_stall_212 ?_
                  refine qx_aload_n C dX5_stall_213 rfl rfl ?_
                  refine qx_getR C (j := 0) (k := 0) hiX5 rfl rfl (by decide) qw_582 rfl dX5_stall_214 ?_
                  refine qx_iconst C (v := 1) dX5_stall_217 rfl ?_
                  refine qx_ialdL C (j := 1) (a := 1) rfl rfl ⟨by decide, by decide⟩ dX5_stall_218 ?_
                  refine qx_iconst C (v := 1) dX5_stall_219 rfl ?_
                  refine qx_isub C dX5_stall_220 ?_
                  exact qx_iret C dX5_stall_221 rfl (by unfold mStall; rw [if_neg h1, if_pos ⟨mTold0.mp h12, mTold1.mp h20, mTold2.mp h28, mTold3.mp h37, mTold4.mp h46, mTold5.mp h55⟩, if_neg h70]; first | done | rfl) (by unfold mStall; rw [if_neg h1, if_pos ⟨mTold0.mp h12, mTold1.mp h20, mTold2.mp h28, mTold3.mp h37, mTold4.mp h46, mTold5.mp h55⟩, if_neg h70]; first | done | rfl)
                · refine qx_bipush C (v := (-2)) dX5_stall_73 rfl ?_
                  exact qx_iret C dX5_stall_75 rfl (by unfold mStall; rw [if_neg h1, if_pos ⟨mTold0.mp h12, mTold1.mp h20, mTold2.mp h28, mTold3.mp h37, mTold4.mp h46, mTold5.mp h55⟩, if_pos h70]; first | done | rfl) (by unfold mStall; rw [if_neg h1, if_pos ⟨mTold0.mp h12, mTold1.mp h20, mTold2.mp h28, mTold3.mp h37, mTold4.mp h46, mTold5.mp h55⟩, if_pos h70]; first | done | rfl)
              · refine qx_if_ne_f C (tgt := 63) dX5_stall_58 (by decide) (by decide) ?_
                refine qx_iconst C (v := (-1)) dX5_stall_61 rfl ?_
                exact qx_iret C dX5_stall_62 rfl (by unfold mStall; rw [if_neg h1, if_neg (fun z => h55 (mTold5.mpr z.2.2.2.2.2))]) (by unfold mStall; rw [if_neg h1, if_neg (fun z => h55 (mTold5.mpr z.2.2.2.2.2))])
            · refine qx_if_eq_t C (tgt := 61) dX5_stall_49 (by decide) (by decide) ?_
              refine qx_iconst C (v := (-1)) dX5_stall_61 rfl ?_
              exact qx_iret C dX5_stall_62 rfl (by unfold mStall; rw [if_neg h1, if_neg (fun z => h46 (mTold4.mpr z.2.2.2.2.1))]) (by unfold mStall; rw [if_neg h1, if_neg (fun z => h46 (mTold4.mpr z.2.2.2.2.1))])
          · refine qx_if_eq_t C (tgt := 61) dX5_stall_40 (by decide) (by decide) ?_
            refine qx_iconst C (v := (-1)) dX5_stall_61 rfl ?_
            exact qx_iret C dX5_stall_62 rfl (by unfold mStall; rw [if_neg h1, if_neg (fun z => h37 (mTold3.mpr z.2.2.2.1))]) (by unfold mStall; rw [if_neg h1, if_neg (fun z => h37 (mTold3.mpr z.2.2.2.1))])
        · refine qx_if_eq_t C (tgt := 61) dX5_stall_31 (by decide) (by decide) ?_
          refine qx_iconst C (v := (-1)) dX5_stall_61 rfl ?_
          exact qx_iret C dX5_stall_62 rfl (by unfold mStall; rw [if_neg h1, if_neg (fun z => h28 (mTold2.mpr z.2.2.1))]) (by unfold mStall; rw [if_neg h1, if_neg (fun z => h28 (mTold2.mpr z.2.2.1))])
      · refine qx_if_eq_t C (tgt := 61) dX5_stall_23 (by decide) (by decide) ?_
        refine qx_iconst C (v := (-1)) dX5_stall_61 rfl ?_
        exact qx_iret C dX5_stall_62 rfl (by unfold mStall; rw [if_neg h1, if_neg (fun z => h20 (mTold1.mpr z.2.1))]) (by unfold mStall; rw [if_neg h1, if_neg (fun z => h20 (mTold1.mpr z.2.1))])
    · refine qx_if_eq_t C (tgt := 61) dX5_stall_15 (by decide) (by decide) ?_
      refine qx_iconst C (v := (-1)) dX5_stall_61 rfl ?_
      exact qx_iret C dX5_stall_62 rfl (by unfold mStall; rw [if_neg h1, if_neg (fun z => h12 (mTold0.mpr z.1))]) (by unfold mStall; rw [if_neg h1, if_neg (fun z => h12 (mTold0.mpr z.1))])
set_option maxRecDepth 20000 in
set_option maxHeartbeats 4000000 in
theorem c_X5_change (F : qx_F) (d : Nat) (σ : qx_S) (s w v : Int32) (S : Nat) (hS : σ 1 1 = nI S) (hS5 : S ≤ 5) : qx_cI F shM ⟨"NightStallsModel", "change", "(III)I"⟩ (.code ⟨"NightStallsModel", "change", "(III)I"⟩ prog_7_method_17_code 5 ((some FieldType.int)) :: qx_W) (qx_R (d + 3)) [.ref (fa F 0), .int s, .int w, .int v] σ ((mChange σ s w v).1) ((mChange σ s w v).2) := by
  refine qx_met (by decide) (Nat.le_of_ble_eq_true rfl) (by intro v hv; simp only [List.mem_cons, List.not_mem_nil, or_false] at hv; rcases hv with rfl | rfl | rfl | rfl <;> rfl) (fun K C => ?_)
  refine qx_aload_n C dX5_change_0 rfl rfl ?_
  refine qx_callVI C (b := 0) (As := []) (n := 0) (c_X5_isOpen F (d + 1) _ ) rfl rfl qw_626 qw_628 qw_14 qw_44 qw_629 ⟨rfl, by decide, by decide, by decide +kernel⟩ (qx_room (by omega) (by decide)) rfl rfl (Nat.le_of_ble_eq_true rfl) dX5_change_1 ?_
  refine qx_split _ (fun h1 => ?_) (fun h1 => ?_)
  · refine qx_if_eq_f C (tgt := 10) dX5_change_4 (by decide) (by decide) ?_
    refine qx_bipush C (v := (-3)) dX5_change_7 rfl ?_
    exact qx_iret C dX5_change_9 rfl (by first | rfl | simp [mOpen, mChange, h1]) (by first | rfl | simp [mOpen, mChange, h1])
  · refine qx_if_eq_t C (tgt := 10) dX5_change_4 (by decide) (by decide) ?_
    refine qx_aload_n C dX5_change_10 rfl rfl ?_
    refine qx_iload_n C dX5_change_11 rfl rfl ?_
    refine qx_callVI C (b := 0) (As := [_]) (n := 1) (c_X5_isStall F (d + 0) _ _) rfl rfl qw_671 qw_673 qw_17 qw_44 qw_674 ⟨rfl, by decide, by decide, by decide +kernel⟩ (qx_room (by omega) (by decide)) rfl rfl (Nat.le_of_ble_eq_true rfl) dX5_change_12 ?_
    refine qx_split _ (fun h12 => ?_) (fun h12 => ?_)
    · obtain ⟨s0, hs0, rfl⟩ := qx_has hS (by omega) h12
      have is0 : (nI s0).toNatClampNeg = s0 := nI_clamp (by omega)
      refine qx_if_eq_f C (tgt := 35) dX5_change_15 (by decide) (by decide) ?_
      refine qx_iload_n C dX5_change_18 rfl rfl ?_
      refine qx_iconst C (v := 0) dX5_change_19 rfl ?_
      refine qx_iconst C (v := 5) dX5_change_20 rfl ?_
      refine qx_callSI C (As := [_, _, _]) (n := 3) (c_X5_in F (d + 1) _ _ _ _) qw_630 qw_631 qw_44 qw_632 ⟨rfl, by decide, by decide, by decide +kernel⟩ (qx_room (by omega) (by decide)) rfl rfl (Nat.le_of_ble_eq_true rfl) dX5_change_21 ?_
      refine qx_split _ (fun h21 => ?_) (fun h21 => ?_)
      · obtain ⟨w0, hw0, rfl⟩ := qx_inI 5 (by decide) h21
        have iw0 : (nI w0).toNatClampNeg = w0 := nI_clamp (by omega)
        refine qx_if_eq_f C (tgt := 35) dX5_change_24 (by decide) (by decide) ?_
        refine qx_iload_n C dX5_change_27 rfl rfl ?_
        refine qx_iload_n C dX5_change_28 rfl rfl ?_
        refine qx_callSI C (As := [_, _]) (n := 2) (c_X5_isTold F (d + 0) _ _ _) qw_664 qw_665 qw_44 qw_666 ⟨rfl, by decide, by decide, by decide +kernel⟩ (qx_room (by omega) (by decide)) rfl rfl (Nat.le_of_ble_eq_true rfl) dX5_change_29 ?_
        refine qx_split _ (fun h29 => ?_) (fun h29 => ?_)
        · refine qx_if_ne_t C (tgt := 37) dX5_change_32 (by decide) (by decide) ?_
          refine qx_aload_n C dX5_change_37 rfl rfl ?_
          refine qx_getR C (j := 0) (k := 4) hiX5 rfl rfl (by decide) qw_586 rfl dX5_change_38 ?_
          refine qx_bipush C (v := 11) dX5_change_41 rfl ?_
          refine qx_iload_n C dX5_change_43 rfl rfl ?_
          refine qx_imulE C dX5_change_44 (pk_mul 11 s0) ?_
          refine qx_iload_n C dX5_change_45 rfl rfl ?_
          refine qx_iaddE C dX5_change_46 (nI_add (11 * s0) w0) ?_
          refine qx_ialdN C (j := 5) rfl ⟨by omega, by decide⟩ dX5_change_47 ?_
          refine qx_istore C dX5_change_48 (Nat.le_of_ble_eq_true rfl) ?_
          refine qx_aload_n C dX5_change_50 rfl rfl ?_
          refine qx_getR C (j := 0) (k := 4) hiX5 rfl rfl (by decide) qw_586 rfl dX5_change_51 ?_
          refine qx_bipush C (v := 11) dX5_change_54 rfl ?_
          refine qx_iload_n C dX5_change_56 rfl rfl ?_
          refine qx_imulE C dX5_change_57 (pk_mul 11 s0) ?_
          refine qx_iload_n C dX5_change_58 rfl rfl ?_
          refine qx_iaddE C dX5_change_59 (nI_add (11 * s0) w0) ?_
          refine qx_iload_n C dX5_change_60 rfl rfl ?_
          refine qx_iastN C (j := 5) rfl ⟨by omega, by decide⟩ dX5_change_61 ?_
          refine qx_iload C dX5_change_62 rfl ?_
          exact qx_iret C dX5_change_64 rfl (by unfold mChange; rw [if_neg h1, if_pos h12, if_pos h21, if_pos h29]; try simp only [ix, is0, iw0]) (by unfold mChange; rw [if_neg h1, if_pos h12, if_pos h21, if_pos h29]; try simp only [ix, is0, iw0])
        · refine qx_if_ne_f C (tgt := 37) dX5_change_32 (by decide) (by decide) ?_
          refine qx_iconst C (v := (-1)) dX5_change_35 rfl ?_
          exact qx_iret C dX5_change_36 rfl (by unfold mChange; rw [if_neg h1, if_pos h12, if_pos h21, if_neg h29]; try simp only [ix, is0, iw0]) (by unfold mChange; rw [if_neg h1, if_pos h12, if_pos h21, if_neg h29]; try simp only [ix, is0, iw0])
      · refine qx_if_eq_t C (tgt := 35) dX5_change_24 (by decide) (by decide) ?_
        refine qx_iconst C (v := (-1)) dX5_change_35 rfl ?_
        exact qx_iret C dX5_change_36 rfl (by first | rfl | simp [mChange, h1, h12, is0, h21]) (by first | rfl | simp [mChange, h1, h12, is0, h21])
    · refine qx_if_eq_t C (tgt := 35) dX5_change_15 (by decide) (by decide) ?_
      refine qx_iconst C (v := (-1)) dX5_change_35 rfl ?_
      exact qx_iret C dX5_change_36 rfl (by first | rfl | simp [mChange, h1, h12]) (by first | rfl | simp [mChange, h1, h12])
set_option maxRecDepth 20000 in
set_option maxHeartbeats 4000000 in
theorem c_X5_standing (F : qx_F) (d : Nat) (σ : qx_S) (S : Nat) (hS : σ 1 1 = nI S) (hS5 : S ≤ 5) : qx_cI F shM ⟨"NightStallsModel", "standing", "()I"⟩ (.code ⟨"NightStallsModel", "standing", "()I"⟩ prog_7_method_24_code 3 ((some FieldType.int)) :: qx_W) (qx_R (d + 2)) [.ref (fa F 0)] σ (mStd σ S) (σ) := by
  refine qx_met (by decide) (Nat.le_of_ble_eq_true rfl) (by intro v hv; simp only [List.mem_cons, List.not_mem_nil, or_false] at hv; rcases hv with rfl <;> rfl) (fun K C => ?_)
  refine qx_iconst C (v := 0) dX5_standing_0 rfl ?_
  refine qx_istore_n C dX5_standing_1 rfl (Nat.le_of_ble_eq_true rfl) ?_
  refine qx_iconst C (v := 0) dX5_standing_2 rfl ?_
  refine qx_istore_n C dX5_standing_3 rfl (Nat.le_of_ble_eq_true rfl) ?_
  refine qx_to (qx_up S (P := fun i => qx_X K F shM (σ) 4 [some (.ref (fa F 0)), some (.int (mStd σ i)), some (.int (nI i))] []) (fun i hi hki => ?_) ?_) rfl rfl
  · refine qx_iload_n C dX5_standing_4 rfl rfl ?_
    refine qx_aload_n C dX5_standing_5 rfl rfl ?_
    refine qx_getR C (j := 0) (k := 0) hiX5 rfl rfl (by decide) qw_582 rfl dX5_standing_6 ?_
    refine qx_iconst C (v := 1) dX5_standing_9 rfl ?_
    refine qx_ialdL C (j := 1) (a := 1) rfl rfl ⟨by decide, by decide⟩ dX5_standing_10 ?_
    refine qx_icmp_ge_f C (tgt := 36) dX5_standing_11 (by decide) (by rw [hS]; exact nI_ge hi (by omega)) ?_
    refine qx_iload_n C dX5_standing_14 rfl rfl ?_
    refine qx_aload_n C dX5_standing_15 rfl rfl ?_
    refine qx_iload_n C dX5_standing_16 rfl rfl ?_
    refine qx_callVI C (b := 0) (As := [_]) (n := 1) (c_X5_placeOf F (d + 0) _ i (by omega)) rfl rfl qw_709 qw_711 qw_22 qw_44 qw_712 ⟨rfl, by decide, by decide, by decide +kernel⟩ (qx_room (by omega) (by decide)) rfl rfl (Nat.le_of_ble_eq_true rfl) dX5_standing_17 ?_
    refine qx_if_lt C (tgt := 27) dX5_standing_20 (by decide) (fun h20 => ?_) (fun h20 => ?_)
    · refine qx_iconst C (v := 0) dX5_standing_27 rfl ?_
      refine qx_iadd C dX5_standing_28 ?_
      refine qx_istore_n C dX5_standing_29 rfl (Nat.le_of_ble_eq_true rfl) ?_
      refine qx_iincN C dX5_standing_30 rfl ?_
      refine qx_goto C (tgt := 4) dX5_standing_33 (by decide) ?_
      exact (qx_to hki (by first | rfl | simp [mStd, qf, h20]) (by first | rfl | simp [mStd, qf, h20]))
    · refine qx_iconst C (v := 1) dX5_standing_23 rfl ?_
      refine qx_goto C (tgt := 28) dX5_standing_24 (by decide) ?_
      refine qx_iadd C dX5_standing_28 ?_
      refine qx_istore_n C dX5_standing_29 rfl (Nat.le_of_ble_eq_true rfl) ?_
      refine qx_iincN C dX5_standing_30 rfl ?_
      refine qx_goto C (tgt := 4) dX5_standing_33 (by decide) ?_
      exact (qx_to hki (by first | rfl | simp [mStd, qf, h20]) (by first | rfl | simp [mStd, qf, h20]))
  · refine qx_iload_n C dX5_standing_4 rfl rfl ?_
    refine qx_aload_n C dX5_standing_5 rfl rfl ?_
    refine qx_getR C (j := 0) (k := 0) hiX5 rfl rfl (by decide) qw_582 rfl dX5_standing_6 ?_
    refine qx_iconst C (v := 1) dX5_standing_9 rfl ?_
    refine qx_ialdL C (j := 1) (a := 1) rfl rfl ⟨by decide, by decide⟩ dX5_standing_10 ?_
    refine qx_icmp_ge_t C (tgt := 36) dX5_standing_11 (by decide) (by rw [hS]; exact nI_le (Nat.le_refl _) (by omega)) ?_
    refine qx_iload_n C dX5_standing_36 rfl rfl ?_
    exact qx_iret C dX5_standing_37 rfl rfl rfl
set_option maxRecDepth 20000 in
set_option maxHeartbeats 4000000 in
theorem c_X5_shut (F : qx_F) (d : Nat) (σ : qx_S)  : qx_cI F shM ⟨"NightStallsModel", "shut", "()I"⟩ (.code ⟨"NightStallsModel", "shut", "()I"⟩ prog_7_method_26_code 1 ((some FieldType.int)) :: qx_W) (qx_R (d + 2)) [.ref (fa F 0)] σ ((mShut σ).1) ((mShut σ).2) := by
  refine qx_met (by decide) (Nat.le_of_ble_eq_true rfl) (by intro v hv; simp only [List.mem_cons, List.not_mem_nil, or_false] at hv; rcases hv with rfl <;> rfl) (fun K C => ?_)
  refine qx_aload_n C dX5_shut_0 rfl rfl ?_
  refine qx_callVI C (b := 0) (As := []) (n := 0) (c_X5_isOpen F (d + 0) _ ) rfl rfl qw_626 qw_628 qw_14 qw_44 qw_629 ⟨rfl, by decide, by decide, by decide +kernel⟩ (qx_room (by omega) (by decide)) rfl rfl (Nat.le_of_ble_eq_true rfl) dX5_shut_1 ?_
  refine qx_split _ (fun h1 => ?_) (fun h1 => ?_)
  · refine qx_if_ne_t C (tgt := 10) dX5_shut_4 (by decide) (by decide) ?_
    refine qx_aload_n C dX5_shut_10 rfl rfl ?_
    refine qx_getR C (j := 0) (k := 0) hiX5 rfl rfl (by decide) qw_582 rfl dX5_shut_11 ?_
    refine qx_iconst C (v := 2) dX5_shut_14 rfl ?_
    refine qx_iconst C (v := 0) dX5_shut_15 rfl ?_
    refine qx_iastL C (j := 1) (a := 2) rfl rfl ⟨by decide, by decide⟩ dX5_shut_16 ?_
    refine qx_aload_n C dX5_shut_17 rfl rfl ?_
    refine qx_getR C (j := 0) (k := 0) hiX5 rfl rfl (by decide) qw_582 rfl dX5_shut_18 ?_
    refine qx_iconst C (v := 3) dX5_shut_21 rfl ?_
    refine qx_ialdL C (j := 1) (a := 3) rfl rfl ⟨by decide, by decide⟩ dX5_shut_22 ?_
    exact qx_iret C dX5_shut_23 rfl (by first | rfl | simp [mOpen, mShut, h1]) (by first | rfl | simp [mOpen, mShut, h1])
  · refine qx_if_ne_f C (tgt := 10) dX5_shut_4 (by decide) (by decide) ?_
    refine qx_bipush C (v := (-3)) dX5_shut_7 rfl ?_
    exact qx_iret C dX5_shut_9 rfl (by first | rfl | simp [mOpen, mShut, h1]) (by first | rfl | simp [mOpen, mShut, h1])
set_option maxRecDepth 20000 in
set_option maxHeartbeats 4000000 in
theorem c_X5_guest (F : qx_F) (d : Nat) (σ : qx_S) (dish pat : Int32) (n : Nat) (hn : σ 1 4 = nI n) (hn20 : n ≤ 20) : qx_cI F shM ⟨"NightStallsModel", "guest", "(II)I"⟩ (.code ⟨"NightStallsModel", "guest", "(II)I"⟩ prog_7_method_27_code 4 ((some FieldType.int)) :: qx_W) (qx_R (d + 2)) [.ref (fa F 0), .int dish, .int pat] σ ((mGuest σ dish pat n).1) ((mGuest σ dish pat n).2) := by
  refine qx_met (by decide) (Nat.le_of_ble_eq_true rfl) (by intro v hv; simp only [List.mem_cons, List.not_mem_nil, or_false] at hv; rcases hv with rfl | rfl | rfl <;> rfl) (fun K C => ?_)
  refine qx_aload_n C dX5_guest_0 rfl rfl ?_
  refine qx_callVI C (b := 0) (As := []) (n := 0) (c_X5_isOpen F (d + 0) _ ) rfl rfl qw_626 qw_628 qw_14 qw_44 qw_629 ⟨rfl, by decide, by decide, by decide +kernel⟩ (qx_room (by omega) (by decide)) rfl rfl (Nat.le_of_ble_eq_true rfl) dX5_guest_1 ?_
  refine qx_split _ (fun h1 => ?_) (fun h1 => ?_)
  · refine qx_if_ne_t C (tgt := 10) dX5_guest_4 (by decide) (by decide) ?_
    refine qx_iload_n C dX5_guest_10 rfl rfl ?_
    refine qx_iconst C (v := 0) dX5_guest_11 rfl ?_
    refine qx_iconst C (v := 5) dX5_guest_12 rfl ?_
    refine qx_callSI C (As := [_, _, _]) (n := 3) (c_X5_in F (d + 0) _ _ _ _) qw_630 qw_631 qw_44 qw_632 ⟨rfl, by decide, by decide, by decide +kernel⟩ (qx_room (by omega) (by decide)) rfl rfl (Nat.le_of_ble_eq_true rfl) dX5_guest_13 ?_
    refine qx_split _ (fun h13 => ?_) (fun h13 => ?_)
    · refine qx_if_eq_f C (tgt := 29) dX5_guest_16 (by decide) (by decide) ?_
      refine qx_iload_n C dX5_guest_19 rfl rfl ?_
      refine qx_iconst C (v := 1) dX5_guest_20 rfl ?_
      refine qx_bipush C (v := 50) dX5_guest_21 rfl ?_
      refine qx_callSI C (As := [_, _, _]) (n := 3) (c_X5_in F (d + 0) _ _ _ _) qw_630 qw_631 qw_44 qw_632 ⟨rfl, by decide, by decide, by decide +kernel⟩ (qx_room (by omega) (by decide)) rfl rfl (Nat.le_of_ble_eq_true rfl) dX5_guest_23 ?_
      refine qx_split _ (fun h23 => ?_) (fun h23 => ?_)
      · refine qx_if_ne_t C (tgt := 31) dX5_guest_26 (by decide) (by decide) ?_
        refine qx_aload_n C dX5_guest_31 rfl rfl ?_
        refine qx_getR C (j := 0) (k := 0) hiX5 rfl rfl (by decide) qw_582 rfl dX5_guest_32 ?_
        refine qx_iconst C (v := 4) dX5_guest_35 rfl ?_
        refine qx_ialdL C (j := 1) (a := 4) rfl rfl ⟨by decide, by decide⟩ dX5_guest_36 ?_
        refine qx_bipush C (v := 20) dX5_guest_37 rfl ?_
        refine qx_icmp_ne C (tgt := 45) dX5_guest_39 (by decide) (fun h39 => ?_) (fun h39 => ?_)
        · have hn2 : n < 20 := by rcases Nat.lt_or_ge n 20 with q | q; exact q; exact absurd (by rw [hn, show n = 20 by omega]; rfl) h39
          refine qx_bipush C (v := 7) dX5_guest_45 rfl ?_
          refine qx_aload_n C dX5_guest_47 rfl rfl ?_
          refine qx_getR C (j := 0) (k := 0) hiX5 rfl rfl (by decide) qw_582 rfl dX5_guest_48 ?_
          refine qx_iconst C (v := 4) dX5_guest_51 rfl ?_
          refine qx_ialdL C (j := 1) (a := 4) rfl rfl ⟨by decide, by decide⟩ dX5_guest_52 ?_
          refine qx_top hn ?_
          refine qx_imulE C dX5_guest_53 (pk_mul 7 n) ?_
          refine qx_istore_n C dX5_guest_54 rfl (Nat.le_of_ble_eq_true rfl) ?_
          refine qx_aload_n C dX5_guest_55 rfl rfl ?_
          refine qx_getR C (j := 0) (k := 5) hiX5 rfl rfl (by decide) qw_587 rfl dX5_guest_56 ?_
          refine qx_iload_n C dX5_guest_59 rfl rfl ?_
          refine qx_iload_n C dX5_guest_60 rfl rfl ?_
          refine qx_iastN C (j := 6) rfl ⟨by omega, by decide⟩ dX5_guest_61 ?_
          refine qx_aload_n C dX5_guest_62 rfl rfl ?_
          refine qx_getR C (j := 0) (k := 5) hiX5 rfl rfl (by decide) qw_587 rfl dX5_guest_63 ?_
          refine qx_iload_n C dX5_guest_66 rfl rfl ?_
          refine qx_iconst C (v := 1) dX5_guest_67 rfl ?_
          refine qx_iaddE C dX5_guest_68 (nI_add (7 * n) 1) ?_
          refine qx_iload_n C dX5_guest_69 rfl rfl ?_
          refine qx_iastN C (j := 6) rfl ⟨by omega, by decide⟩ dX5_guest_70 ?_
          refine qx_aload_n C dX5_guest_71 rfl rfl ?_
          refine qx_getR C (j := 0) (k := 5) hiX5 rfl rfl (by decide) qw_587 rfl dX5_guest_72 ?_
          refine qx_iload_n C dX5_guest_75 rfl rfl ?_
          refine qx_iconst C (v := 2) dX5_guest_76 rfl ?_
          refine qx_iaddE C dX5_guest_77 (nI_add (7 * n) 2) ?_
          refine qx_iconst C (v := 0) dX5_guest_78 rfl ?_
          refine qx_iastN C (j := 6) rfl ⟨by omega, by decide⟩ dX5_guest_79 ?_
          refine qx_aload_n C dX5_guest_80 rfl rfl ?_
          refine qx_getR C (j := 0) (k := 5) hiX5 rfl rfl (by decide) qw_587 rfl dX5_guest_81 ?_
          refine qx_iload_n C dX5_guest_84 rfl rfl ?_
          refine qx_iconst C (v := 3) dX5_guest_85 rfl ?_
          refine qx_iaddE C dX5_guest_86 (nI_add (7 * n) 3) ?_
          refine qx_iconst C (v := 0) dX5_guest_87 rfl ?_
          refine qx_iastN C (j := 6) rfl ⟨by omega, by decide⟩ dX5_guest_88 ?_
          refine qx_aload_n C dX5_guest_89 rfl rfl ?_
          refine qx_getR C (j := 0) (k := 5) hiX5 rfl rfl (by decide) qw_587 rfl dX5_guest_90 ?_
          refine qx_iload_n C dX5_guest_93 rfl rfl ?_
          refine qx_iconst C (v := 4) dX5_guest_94 rfl ?_
          refine qx_iaddE C dX5_guest_95 (nI_add (7 * n) 4) ?_
          refine qx_iconst C (v := (-1)) dX5_guest_96 rfl ?_
          refine qx_iastN C (j := 6) rfl ⟨by omega, by decide⟩ dX5_guest_97 ?_
          refine qx_aload_n C dX5_guest_98 rfl rfl ?_
          refine qx_getR C (j := 0) (k := 5) hiX5 rfl rfl (by decide) qw_587 rfl dX5_guest_99 ?_
          refine qx_iload_n C dX5_guest_102 rfl rfl ?_
          refine qx_iconst C (v := 5) dX5_guest_103 rfl ?_
          refine qx_iaddE C dX5_guest_104 (nI_add (7 * n) 5) ?_
          refine qx_iconst C (v := 0) dX5_guest_105 rfl ?_
          refine qx_iastN C (j := 6) rfl ⟨by omega, by decide⟩ dX5_guest_106 ?_
          refine qx_aload_n C dX5_guest_107 rfl rfl ?_
          refine qx_getR C (j := 0) (k := 5) hiX5 rfl rfl (by decide) qw_587 rfl dX5_guest_108 ?_
          refine qx_iload_n C dX5_guest_111 rfl rfl ?_
          refine qx_bipush C (v := 6) dX5_guest_112 rfl ?_
          refine qx_iaddE C dX5_guest_114 (nI_add (7 * n) 6) ?_
          refine qx_iconst C (v := (-1)) dX5_guest_115 rfl ?_
          refine qx_iastN C (j := 6) rfl ⟨by omega, by decide⟩ dX5_guest_116 ?_
          refine qx_aload_n C dX5_guest_117 rfl rfl ?_
          refine qx_getR C (j := 0) (k := 0) hiX5 rfl rfl (by decide) qw_582 rfl dX5_guest_118 ?_
          refine qx_iconst C (v := 4) dX5_guest_121 rfl ?_
          refine qx_dup2 C dX5_guest_122 rfl rfl ?_
          refine qx_ialdL C (j := 1) (a := 4) rfl rfl ⟨by decide, by decide⟩ dX5_guest_123 ?_
          refine qx_iconst C (v := 1) dX5_guest_124 rfl ?_
          refine qx_iadd C dX5_guest_125 ?_
          refine qx_iastL C (j := 1) (a := 4) rfl rfl ⟨by decide, by decide⟩ dX5_guest_126 ?_
          refine qx_aload_n C dX5_guest_127 rfl rfl ?_
          refine qx_getR C (j := 0) (k := 0) hiX5 rfl rfl (by decide) qw_582 rfl dX5_guest_128 ?_
          refine qx_iconst C (v := 4) dX5_guest_131 rfl ?_
          refine qx_ialdL C (j := 1) (a := 4) rfl rfl ⟨by decide, by decide⟩ dX5_guest_132 ?_
          refine qx_iconst C (v := 1) dX5_guest_133 rfl ?_
          refine qx_isub C dX5_guest_134 ?_
          exact qx_iret C dX5_guest_135 rfl (by unfold mGuest; rw [if_pos h1, if_pos h13, if_pos h23, if_neg h39]; first | done | rfl) (by unfold mGuest; rw [if_pos h1, if_pos h13, if_pos h23, if_neg h39]; first | done | rfl)
        · refine qx_bipush C (v := (-2)) dX5_guest_42 rfl ?_
          exact qx_iret C dX5_guest_44 rfl (by unfold mGuest; rw [if_pos h1, if_pos h13, if_pos h23, if_pos h39]; first | done | rfl) (by unfold mGuest; rw [if_pos h1, if_pos h13, if_pos h23, if_pos h39]; first | done | rfl)
      · refine qx_if_ne_f C (tgt := 31) dX5_guest_26 (by decide) (by decide) ?_
        refine qx_iconst C (v := (-1)) dX5_guest_29 rfl ?_
        exact qx_iret C dX5_guest_30 rfl (by first | rfl | simp [mOpen, mGuest, mAdd2, mAdd, h1, h13, h23]) (by first | rfl | simp [mOpen, mGuest, mAdd2, mAdd, h1, h13, h23])
    · refine qx_if_eq_t C (tgt := 29) dX5_guest_16 (by decide) (by decide) ?_
      refine qx_iconst C (v := (-1)) dX5_guest_29 rfl ?_
      exact qx_iret C dX5_guest_30 rfl (by first | rfl | simp [mOpen, mGuest, mAdd2, mAdd, h1, h13]) (by first | rfl | simp [mOpen, mGuest, mAdd2, mAdd, h1, h13])
  · refine qx_if_ne_f C (tgt := 10) dX5_guest_4 (by decide) (by decide) ?_
    refine qx_bipush C (v := (-3)) dX5_guest_7 rfl ?_
    exact qx_iret C dX5_guest_9 rfl (by first | rfl | simp [mOpen, mGuest, mAdd2, mAdd, h1]) (by first | rfl | simp [mOpen, mGuest, mAdd2, mAdd, h1])
