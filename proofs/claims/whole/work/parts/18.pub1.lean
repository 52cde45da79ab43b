/-! the public methods of the class -/
def qz0 (j : Nat) : Int32 := if j = 0 then 99 else if j = 1 then 2 else 1
def qz1 (j : Nat) : Int32 := if j = 0 then 3 else 50
def qz2 (j : Nat) : Int32 := if j = 0 then 0 else if j = 1 then 0 else if j = 2 then 0 else if j = 3 then 1 else if j = 4 then 1 else 0
def qz3 (j : Nat) : Int32 := if j = 0 then 5 else if j = 1 then 3 else if j = 2 then 30 else if j = 3 then 9 else if j = 4 then 20 else 99
def qx_zC (tt : Nat → Nat) : qx_zs := [("PLACE_FACT_MOST", tt 0, 3, qz0), ("RULE_MOST", tt 1, 2, qz1), ("TRAIT_LEAST", tt 2, 6, qz2), ("TRAIT_MOST", tt 3, 6, qz3)]
theorem qz_0 {F : qx_F} {tt : Nat → Nat} (hz : fz F = qx_zC tt) : ("PLACE_FACT_MOST", tt 0, 3, qz0) ∈ fz F := by rw [hz]; exact List.mem_of_getElem? (i := 0) rfl
theorem qz_1 {F : qx_F} {tt : Nat → Nat} (hz : fz F = qx_zC tt) : ("RULE_MOST", tt 1, 2, qz1) ∈ fz F := by rw [hz]; exact List.mem_of_getElem? (i := 1) rfl
theorem qz_2 {F : qx_F} {tt : Nat → Nat} (hz : fz F = qx_zC tt) : ("TRAIT_LEAST", tt 2, 6, qz2) ∈ fz F := by rw [hz]; exact List.mem_of_getElem? (i := 2) rfl
theorem qz_3 {F : qx_F} {tt : Nat → Nat} (hz : fz F = qx_zC tt) : ("TRAIT_MOST", tt 3, 6, qz3) ∈ fz F := by rw [hz]; exact List.mem_of_getElem? (i := 3) rfl
theorem qx_inI {x : Int32} (k : Nat) (hk : k < 1000) (h : 0 ≤ x ∧ x ≤ nI k) : ∃ j, j < k + 1 ∧ x = nI j := by
  obtain ⟨j, hj, e⟩ := qx_in2 (by omega) h.1 h.2
  exact ⟨j, by omega, e⟩
theorem qx_in1 {x : Int32} (k : Nat) (hk : k < 1000) (h : 1 ≤ x ∧ x ≤ nI k) : ∃ j, j < k + 1 ∧ x = nI j :=
  qx_inI k hk ⟨Int32.le_trans (by decide) h.1, h.2⟩
theorem qx_vin {x : Int32} (k N : Nat) (hk : k < 1000) (hN : k + 1 = N) (h : 0 ≤ x ∧ x ≤ nI k) : vp_in x N := by
  obtain ⟨j, hj, rfl⟩ := qx_inI k hk h
  exact vp_in_nI (by omega) (by omega)
theorem qx_has {x z : Int32} {n : Nat} (hz : z = nI n) (hn : n < 1000) (h : 0 ≤ x ∧ x ≤ z - 1) : ∃ j, j < n ∧ x = nI j := by
  subst hz
  cases n with
  | zero =>
    have h2 : x ≤ -1 := h.2
    exact absurd (Int32.le_trans h.1 h2) (by decide)
  | succ n =>
    rw [nI_pred] at h
    exact qx_inI n (by omega) h
theorem qx_ltN {a b : Nat} (ha : a < 2 ^ 31) (hb : b < 2 ^ 31) (h : nI a < nI b) : a < b := (nI_ltI ha hb).mp h
abbrev tOk (what v : Int32) : Prop := (0 ≤ what ∧ what ≤ 5) ∧ (qz2 (ix what) ≤ v ∧ v ≤ qz3 (ix what))
def lay (σ : qx_S) (n : Int32) : qx_S := qf (fun k τ => qs τ 2 k 0) (qs σ 1 0 n) 24
def fStreet (σ : qx_S) (n : Int32) : Int32 × qx_S := if σ 7 2 = 0 then (if 1 ≤ n ∧ n ≤ 8 then (n, nClr (lay σ n)) else (-1, σ)) else (-3, σ)
def fPlace (σ : qx_S) (p w v : Int32) : Int32 × qx_S := if σ 7 2 = 0 then (if 0 ≤ p ∧ p ≤ σ 1 0 - 1 then (if 0 ≤ w ∧ w ≤ 2 then (if 0 ≤ v ∧ v ≤ qz0 (ix w) then (σ 2 (ix p * 3 + ix w), qs σ 2 (ix p * 3 + ix w) v) else (-1, σ)) else (-1, σ)) else (-1, σ)) else (-3, σ)
def fLimit (σ : qx_S) (k v : Int32) : Int32 × qx_S := if σ 7 2 = 0 then (if 0 ≤ k ∧ k ≤ 2 then (if 0 ≤ v ∧ v ≤ 99 then (σ 3 (ix k), qs σ 3 (ix k) v) else (-1, σ)) else (-1, σ)) else (-3, σ)
def fClash (σ : qx_S) (a b is : Int32) : Int32 × qx_S := if σ 7 2 = 0 then (if 0 ≤ a ∧ a ≤ 3 then (if 0 ≤ b ∧ b ≤ 3 then ((if σ 4 (ix a * 4 + ix b) = 1 then (if is = 1 then 0 else 1) else (if is = 1 then 1 else 0)), qs (qs σ 4 (ix a * 4 + ix b) is) 4 (ix b * 4 + ix a) is) else (-1, σ)) else (-1, σ)) else (-3, σ)
def fRule (σ : qx_S) (w v : Int32) : Int32 × qx_S := if σ 7 2 = 0 then (if 0 ≤ w ∧ w ≤ 1 then (if 0 ≤ v ∧ v ≤ qz1 (ix w) then (σ 5 (ix w), qs σ 5 (ix w) v) else (-1, σ)) else (-1, σ)) else (-3, σ)
def putStall (σ : qx_S) (S : Nat) (a b c d e f : Int32) : qx_S := qs (qs (qs (qs (qs (qs (qs σ 1 1 (nI (S + 1))) 6 (S * 6 + 0) a) 6 (S * 6 + 1) b) 6 (S * 6 + 2) c) 6 (S * 6 + 3) d) 6 (S * 6 + 4) e) 6 (S * 6 + 5) f
def fStall (σ : qx_S) (a b c d e f : Int32) (S : Nat) : Int32 × qx_S := if σ 7 2 = 0 then (if tOk 0 a ∧ tOk 1 b ∧ tOk 2 c ∧ tOk 3 d ∧ tOk 4 e ∧ tOk 5 f then (if σ 1 1 < 5 then (nI S, putStall σ S a b c d e f) else (-2, σ)) else (-1, σ)) else (-3, σ)
def fChange (σ : qx_S) (s w v : Int32) : Int32 × qx_S := if σ 7 2 = 0 then (if 0 ≤ s ∧ s ≤ σ 1 1 - 1 then (if tOk w v then (σ 6 (ix s * 6 + ix w), qs σ 6 (ix s * 6 + ix w) v) else (-1, σ)) else (-1, σ)) else (-3, σ)
def fLayout (σ : qx_S) (night s : Int32) (P S : Nat) : Int32 × qx_S := if 0 ≤ night ∧ night ≤ 99 then (if 0 ≤ s ∧ s ≤ σ 1 1 - 1 then (pFind σ night P S 23 (ix s), pFind σ night P S) else (-1, σ)) else (-1, σ)
def fWorth (σ : qx_S) (night : Int32) (P S : Nat) : Int32 × qx_S := if 0 ≤ night ∧ night ≤ 99 then (pFind σ night P S 21 5, pFind σ night P S) else (-1, σ)
def opn (σ : qx_S) (night : Int32) (P S : Nat) : qx_S := qs (nSet (nClr (pFind σ night P S)) 5) 7 2 1
def fOpen (σ : qx_S) (night : Int32) (P S : Nat) : Int32 × qx_S := if σ 7 2 = 0 then (if 0 ≤ night ∧ night ≤ 99 then (nStd (opn σ night P S) 5, opn σ night P S) else (-1, σ)) else (-3, σ)
def fShut (σ : qx_S) : Int32 × qx_S := if σ 7 2 = 0 then (-3, σ) else (qs σ 7 2 0 7 3, qs σ 7 2 0)
def fGuest (σ : qx_S) (dish pat : Int32) (n : Nat) : Int32 × qx_S := if σ 7 2 = 0 then (-3, σ) else if 0 ≤ dish ∧ dish ≤ 5 then (if 1 ≤ pat ∧ pat ≤ 50 then (if σ 14 0 < 20 then (nI n, gAdd σ n dish pat) else (-2, σ)) else (-1, σ)) else (-1, σ)
def goS (n : Nat) (_ : Nat) (a : qx_S × Int32) : qx_S × Int32 := (nTick a.1 n, a.2 + (qf (nCook n) (a.1, 0) 5).2)
def fGo (σ : qx_S) (k : Int32) (n : Nat) : Int32 × qx_S := if σ 7 2 = 0 then (-3, σ) else if 1 ≤ k ∧ k ≤ 50 then ((qf (goS n) (σ, 0) (ix k)).2, (qf (goS n) (σ, 0) (ix k)).1) else (-1, σ)
def plg (σ : qx_S) (k : Nat) (v : Int32) : qx_S := qs (qs σ 12 k v) 13 k (if nOver (qs σ 12 k v) k then 1 else 0)
def fPlug (σ : qx_S) (k v : Int32) : Int32 × qx_S := if σ 7 2 = 0 then (-3, σ) else if 0 ≤ k ∧ k ≤ 2 then (if 0 ≤ v ∧ v ≤ 99 then (if σ 13 (ix k) = 1 then (-5, σ) else (plg σ (ix k) v 13 (ix k), plg σ (ix k) v)) else (-1, σ)) else (-1, σ)
def fReset (σ : qx_S) (k : Int32) : Int32 × qx_S := if σ 7 2 = 0 then (-3, σ) else if 0 ≤ k ∧ k ≤ 2 then (if σ 13 (ix k) = 0 then (-4, σ) else if nOver σ (ix k) then (-5, σ) else (1, qs σ 13 (ix k) 0)) else (-1, σ)
def fPull (σ : qx_S) (k : Int32) : Int32 × qx_S := if σ 7 2 = 0 then (-3, σ) else if 0 ≤ k ∧ k ≤ 2 then (σ 12 (ix k), qs σ 12 (ix k) 0) else (-1, σ)
def fOf (σ : qx_S) (s w : Int32) (n : Nat) : Int32 := if 0 ≤ s ∧ s ≤ σ 1 1 - 1 then (if 0 ≤ w ∧ w ≤ 5 then σ 6 (ix s * 6 + ix w) else nFact σ (ix s) w n) else -1
def fGuestOf (σ : qx_S) (g w : Int32) : Int32 := if 0 ≤ g ∧ g ≤ σ 14 0 - 1 then gFact σ (ix g) w else -1
def fSusp (σ : qx_S) (dish fr to_ : Int32) (n : Nat) : Int32 := if 0 ≤ dish ∧ dish ≤ 5 then (if fr < 0 then -1 else if fr ≤ to_ then gSell σ dish fr to_ n else -1) else -1
def fLineOf (σ : qx_S) (k w : Int32) : Int32 := if 0 ≤ k ∧ k ≤ 2 then (if w = 0 then σ 3 (ix k) else if w = 1 then nWatts σ k 5 else if w = 2 then σ 12 (ix k) else if w = 3 then σ 13 (ix k) else -1) else -1
def fMany (σ : qx_S) (w : Int32) (P n : Nat) : Int32 := if w = 0 then σ 1 0 else if w = 1 then σ 1 1 else if w = 2 then nStd σ 5 else if w = 3 then (if σ 7 2 = 0 then 0 else 1) else if w = 4 then σ 7 3 else if w = 5 then σ 14 0 else if w = 6 then gOf σ 3 n else if w = 7 then gOf σ 4 n else if w = 8 then gOf σ 5 n else if w = 9 then qsum (fun s => σ 10 s) 5 else if w = 10 then qsum (nBill σ) 5 else if w = 11 then qsum (fun p => σ 2 (p * 3 + 2)) P else -1
def kpt (σ : qx_S) : qx_S := qs (bNk (bSk σ)) 0 5 1
def fBack (σ : qx_S) : Int32 × qx_S := if σ 0 5 = 0 then (-4, σ) else (1, bNb (bSb σ))
set_option maxRecDepth 20000 in
set_option maxHeartbeats 4000000 in
theorem c_X4_isTrait (F : qx_F) (d : Nat) (σ : qx_S) (what v : Int32) (tt : Nat → Nat) (hz : fz F = qx_zC tt) : qx_cI F shC ⟨"NightStalls", "isTrait", "(II)Z"⟩ (.code ⟨"NightStalls", "isTrait", "(II)Z"⟩ prog_1_method_28_code 2 ((some FieldType.boolean)) :: qx_W) (qx_R (d + 2)) [.int what, .int v] σ (if tOk what v then 1 else 0) (σ) := by
  refine qx_met (by decide) (Nat.le_of_ble_eq_true rfl) (by intro v hv; simp only [List.mem_cons, List.not_mem_nil, or_false] at hv; rcases hv with rfl | rfl <;> rfl) (fun K C => ?_)
  refine qx_iload_n C dX4_isTrait_0 rfl rfl ?_
  refine qx_iconst C (v := 0) dX4_isTrait_1 rfl ?_
  refine qx_iconst C (v := 5) dX4_isTrait_2 rfl ?_
  refine qx_callSI C (As := [_, _, _]) (n := 3) (c_X4_isWithin F (d + 0) _ _ _ _) qw_216 qw_217 qw_39 qw_218 ⟨rfl, by decide, by decide, by decide +kernel⟩ (qx_room (by omega) (by decide)) rfl rfl (Nat.le_of_ble_eq_true rfl) dX4_isTrait_3 ?_
  refine qx_split _ (fun h3 => ?_) (fun h3 => ?_)
  · refine qx_if_eq_f C (tgt := 30) dX4_isTrait_6 (by decide) (by decide) ?_
    refine qx_iload_n C dX4_isTrait_9 rfl rfl ?_
    refine qx_gets C (q := ("TRAIT_LEAST", tt 2, 6, qz2)) (qz_2 hz) qw_286 dX4_isTrait_10 ?_
    refine qx_iload_n C dX4_isTrait_13 rfl rfl ?_
    refine qx_sald C (q := ("TRAIT_LEAST", tt 2, 6, qz2)) (qz_2 hz) (qx_vin 5 6 (by decide) rfl h3) dX4_isTrait_14 ?_
    refine qx_top (z := qz2 _) rfl ?_
    refine qx_gets C (q := ("TRAIT_MOST", tt 3, 6, qz3)) (qz_3 hz) qw_288 dX4_isTrait_15 ?_
    refine qx_iload_n C dX4_isTrait_18 rfl rfl ?_
    refine qx_sald C (q := ("TRAIT_MOST", tt 3, 6, qz3)) (qz_3 hz) (qx_vin 5 6 (by decide) rfl h3) dX4_isTrait_19 ?_
    refine qx_top (z := qz3 _) rfl ?_
    refine qx_callSI C (As := [_, _, _]) (n := 3) (c_X4_isWithin F (d + 0) _ _ _ _) qw_216 qw_217 qw_39 qw_218 ⟨rfl, by decide, by decide, by decide +kernel⟩ (qx_room (by omega) (by decide)) rfl rfl (Nat.le_of_ble_eq_true rfl) dX4_isTrait_20 ?_
    refine qx_split _ (fun h20 => ?_) (fun h20 => ?_)
    · refine qx_if_eq_f C (tgt := 30) dX4_isTrait_23 (by decide) (by decide) ?_
      refine qx_iconst C (v := 1) dX4_isTrait_26 rfl ?_
      refine qx_goto C (tgt := 31) dX4_isTrait_27 (by decide) ?_
      exact qx_iret C dX4_isTrait_31 rfl (by first | exact (if_pos ⟨h3, h20⟩).symm | exact (if_neg (mt And.left h3)).symm | exact (if_neg (mt And.right h20)).symm) rfl
    · refine qx_if_eq_t C (tgt := 30) dX4_isTrait_23 (by decide) (by decide) ?_
      refine qx_iconst C (v := 0) dX4_isTrait_30 rfl ?_
      exact qx_iret C dX4_isTrait_31 rfl (by first | exact (if_pos ⟨h3, h20⟩).symm | exact (if_neg (mt And.left h3)).symm | exact (if_neg (mt And.right h20)).symm) rfl
  · refine qx_if_eq_t C (tgt := 30) dX4_isTrait_6 (by decide) (by decide) ?_
    refine qx_iconst C (v := 0) dX4_isTrait_30 rfl ?_
    exact qx_iret C dX4_isTrait_31 rfl (by first | exact (if_pos ⟨h3, h20⟩).symm | exact (if_neg (mt And.left h3)).symm | exact (if_neg (mt And.right h20)).symm) rfl
set_option maxRecDepth 20000 in
set_option maxHeartbeats 4000000 in
theorem c_X4_street (F : qx_F) (d : Nat) (σ : qx_S) (n : Int32) : qx_cI F shC ⟨"NightStalls", "street", "(I)I"⟩ (.code ⟨"NightStalls", "street", "(I)I"⟩ prog_1_method_2_code 2 ((some FieldType.int)) :: qx_W) (qx_R (d + 2)) [.ref (fa F 0), .int n] σ ((fStreet σ n).1) ((fStreet σ n).2) := by
  refine qx_met (by decide) (Nat.le_of_ble_eq_true rfl) (by intro v hv; simp only [List.mem_cons, List.not_mem_nil, or_false] at hv; rcases hv with rfl | rfl <;> rfl) (fun K C => ?_)
  refine qx_aload_n C dX4_street_0 rfl rfl ?_
  refine qx_getR C (j := 0) (k := 1) hiX4 rfl rfl (by decide) qw_194 rfl dX4_street_1 ?_
  refine qx_getIN C (j := 7) (k := 2) hiX1 rfl rfl (by decide) qn_7 rfl dX4_street_4 ?_
  refine qx_if_eq C (tgt := 13) dX4_street_7 (by decide) (fun h7 => ?_) (fun h7 => ?_)
  · refine qx_iload_n C dX4_street_13 rfl rfl ?_
    refine qx_iconst C (v := 1) dX4_street_14 rfl ?_
    refine qx_bipush C (v := 8) dX4_street_15 rfl ?_
    refine qx_callSI C (As := [_, _, _]) (n := 3) (c_X4_isWithin F (d + 0) _ _ _ _) qw_216 qw_217 qw_39 qw_218 ⟨rfl, by decide, by decide, by decide +kernel⟩ (qx_room (by omega) (by decide)) rfl rfl (Nat.le_of_ble_eq_true rfl) dX4_street_17 ?_
    refine qx_split _ (fun h17 => ?_) (fun h17 => ?_)
    · refine qx_if_ne_t C (tgt := 25) dX4_street_20 (by decide) (by decide) ?_
      refine qx_aload_n C dX4_street_25 rfl rfl ?_
      refine qx_getR C (j := 0) (k := 0) hiX4 rfl rfl (by decide) qw_193 rfl dX4_street_26 ?_
      refine qx_iload_n C dX4_street_29 rfl rfl ?_
      refine qx_callVv C (b := 1) (As := [_]) (n := 1) (c_X3_layOut F (d + 0) _ _) rfl rfl qw_219 qw_220 qw_221 qw_40 qw_222 ⟨rfl, by decide, by decide, by decide +kernel⟩ (qx_room (by omega) (by decide)) rfl rfl (Nat.le_of_ble_eq_true rfl) dX4_street_30 ?_
      refine qx_aload_n C dX4_street_33 rfl rfl ?_
      refine qx_getR C (j := 0) (k := 1) hiX4 rfl rfl (by decide) qw_194 rfl dX4_street_34 ?_
      refine qx_callVv C (b := 7) (As := []) (n := 0) (c_X1_clear F (d + 0) _ ) rfl rfl qw_223 qw_224 qw_225 qw_41 qw_226 ⟨rfl, by decide, by decide, by decide +kernel⟩ (qx_room (by omega) (by decide)) rfl rfl (Nat.le_of_ble_eq_true rfl) dX4_street_37 ?_
      refine qx_iload_n C dX4_street_40 rfl rfl ?_
      exact qx_iret C dX4_street_41 rfl (by first | rfl | simp [fStreet, lay, h7, h17]) (by first | rfl | simp [fStreet, lay, h7, h17])
    · refine qx_if_ne_f C (tgt := 25) dX4_street_20 (by decide) (by decide) ?_
      refine qx_iconst C (v := (-1)) dX4_street_23 rfl ?_
      exact qx_iret C dX4_street_24 rfl (by first | rfl | simp [fStreet, lay, h7, h17]) (by first | rfl | simp [fStreet, lay, h7, h17])
  · refine qx_bipush C (v := (-3)) dX4_street_10 rfl ?_
    exact qx_iret C dX4_street_12 rfl (by first | rfl | simp [fStreet, lay, h7]) (by first | rfl | simp [fStreet, lay, h7])
set_option maxRecDepth 20000 in
set_option maxHeartbeats 4000000 in
theorem c_X4_place (F : qx_F) (d : Nat) (σ : qx_S) (p w v : Int32) (P : Nat) (hP : σ 1 0 = nI P) (hP8 : P ≤ 8) (tt : Nat → Nat) (hz : fz F = qx_zC tt) : qx_cI F shC ⟨"NightStalls", "place", "(III)I"⟩ (.code ⟨"NightStalls", "place", "(III)I"⟩ prog_1_method_3_code 4 ((some FieldType.int)) :: qx_W) (qx_R (d + 3)) [.ref (fa F 0), .int p, .int w, .int v] σ ((fPlace σ p w v).1) ((fPlace σ p w v).2) := by
  refine qx_met (by decide) (Nat.le_of_ble_eq_true rfl) (by intro v hv; simp only [List.mem_cons, List.not_mem_nil, or_false] at hv; rcases hv with rfl | rfl | rfl | rfl <;> rfl) (fun K C => ?_)
  refine qx_aload_n C dX4_place_0 rfl rfl ?_
  refine qx_getR C (j := 0) (k := 1) hiX4 rfl rfl (by decide) qw_194 rfl dX4_place_1 ?_
  refine qx_getIN C (j := 7) (k := 2) hiX1 rfl rfl (by decide) qn_7 rfl dX4_place_4 ?_
  refine qx_if_eq C (tgt := 13) dX4_place_7 (by decide) (fun h7 => ?_) (fun h7 => ?_)
  · refine qx_aload_n C dX4_place_13 rfl rfl ?_
    refine qx_getR C (j := 0) (k := 0) hiX4 rfl rfl (by decide) qw_193 rfl dX4_place_14 ?_
    refine qx_iload_n C dX4_place_17 rfl rfl ?_
    refine qx_callVI C (b := 1) (As := [_]) (n := 1) (c_X3_hasPlace F (d + 0) _ _) rfl rfl qw_231 qw_232 qw_233 qw_40 qw_234 ⟨rfl, by decide, by decide, by decide +kernel⟩ (qx_room (by omega) (by decide)) rfl rfl (Nat.le_of_ble_eq_true rfl) dX4_place_18 ?_
    refine qx_split _ (fun h18 => ?_) (fun h18 => ?_)
    · obtain ⟨p0, hp0, rfl⟩ := qx_has hP (by omega) h18
      have ip0 : (nI p0).toNatClampNeg = p0 := nI_clamp (by omega)
      refine qx_if_eq_f C (tgt := 33) dX4_place_21 (by decide) (by decide) ?_
      refine qx_iload_n C dX4_place_24 rfl rfl ?_
      refine qx_iconst C (v := 0) dX4_place_25 rfl ?_
      refine qx_iconst C (v := 2) dX4_place_26 rfl ?_
      refine qx_callSI C (As := [_, _, _]) (n := 3) (c_X4_isWithin F (d + 1) _ _ _ _) qw_216 qw_217 qw_39 qw_218 ⟨rfl, by decide, by decide, by decide +kernel⟩ (qx_room (by omega) (by decide)) rfl rfl (Nat.le_of_ble_eq_true rfl) dX4_place_27 ?_
      refine qx_split _ (fun h27 => ?_) (fun h27 => ?_)
      · obtain ⟨w0, hw0, rfl⟩ := qx_inI 2 (by decide) h27
        have iw0 : (nI w0).toNatClampNeg = w0 := nI_clamp (by omega)
        refine qx_if_ne_t C (tgt := 35) dX4_place_30 (by decide) (by decide) ?_
        refine qx_iload_n C dX4_place_35 rfl rfl ?_
        refine qx_iconst C (v := 0) dX4_place_36 rfl ?_
        refine qx_gets C (q := ("PLACE_FACT_MOST", tt 0, 3, qz0)) (qz_0 hz) qw_236 dX4_place_37 ?_
        refine qx_iload_n C dX4_place_40 rfl rfl ?_
        refine qx_sald C (q := ("PLACE_FACT_MOST", tt 0, 3, qz0)) (qz_0 hz) (show vp_in (nI w0) 3 from vp_in_nI (by omega) (by decide)) dX4_place_41 ?_
        refine qx_top (z := qz0 _) rfl ?_
        refine qx_top (z := qz0 w0) (congrArg qz0 iw0) ?_
        refine qx_callSI C (As := [_, _, _]) (n := 3) (c_X4_isWithin F (d + 1) _ _ _ _) qw_216 qw_217 qw_39 qw_218 ⟨rfl, by decide, by decide, by decide +kernel⟩ (qx_room (by omega) (by decide)) rfl rfl (Nat.le_of_ble_eq_true rfl) dX4_place_42 ?_
        refine qx_split _ (fun h42 => ?_) (fun h42 => ?_)
        · refine qx_if_ne_t C (tgt := 50) dX4_place_45 (by decide) (by decide) ?_
          refine qx_aload_n C dX4_place_50 rfl rfl ?_
          refine qx_getR C (j := 0) (k := 0) hiX4 rfl rfl (by decide) qw_193 rfl dX4_place_51 ?_
          refine qx_iload_n C dX4_place_54 rfl rfl ?_
          refine qx_iload_n C dX4_place_55 rfl rfl ?_
          refine qx_iload_n C dX4_place_56 rfl rfl ?_
          refine qx_callVI C (b := 1) (As := [_, _, _]) (n := 3) (c_X3_setPlaceFact F (d + 0) _ p0 w0 _ (by omega) (by omega)) rfl rfl qw_238 qw_239 qw_240 qw_40 qw_241 ⟨rfl, by decide, by decide, by decide +kernel⟩ (qx_room (by omega) (by decide)) rfl rfl (Nat.le_of_ble_eq_true rfl) dX4_place_57 ?_
          exact qx_iret C dX4_place_60 rfl (by first | rfl | simp [fPlace, h7, h18, ip0, h27, iw0, h42]) (by first | rfl | simp [fPlace, h7, h18, ip0, h27, iw0, h42])
        · refine qx_if_ne_f C (tgt := 50) dX4_place_45 (by decide) (by decide) ?_
          refine qx_iconst C (v := (-1)) dX4_place_48 rfl ?_
          exact qx_iret C dX4_place_49 rfl (by first | rfl | simp [fPlace, h7, h18, ip0, h27, iw0, h42]) (by first | rfl | simp [fPlace, h7, h18, ip0, h27, iw0, h42])
      · refine qx_if_ne_f C (tgt := 35) dX4_place_30 (by decide) (by decide) ?_
        refine qx_iconst C (v := (-1)) dX4_place_33 rfl ?_
        exact qx_iret C dX4_place_34 rfl (by first | rfl | simp [fPlace, h7, h18, ip0, h27]) (by first | rfl | simp [fPlace, h7, h18, ip0, h27])
    · refine qx_if_eq_t C (tgt := 33) dX4_place_21 (by decide) (by decide) ?_
      refine qx_iconst C (v := (-1)) dX4_place_33 rfl ?_
      exact qx_iret C dX4_place_34 rfl (by first | rfl | simp [fPlace, h7, h18]) (by first | rfl | simp [fPlace, h7, h18])
  · refine qx_bipush C (v := (-3)) dX4_place_10 rfl ?_
    exact qx_iret C dX4_place_12 rfl (by first | rfl | simp [fPlace, h7]) (by first | rfl | simp [fPlace, h7])
set_option maxRecDepth 20000 in
set_option maxHeartbeats 4000000 in
theorem c_X4_limit (F : qx_F) (d : Nat) (σ : qx_S) (k v : Int32) : qx_cI F shC ⟨"NightStalls", "limit", "(II)I"⟩ (.code ⟨"NightStalls", "limit", "(II)I"⟩ prog_1_method_4_code 3 ((some FieldType.int)) :: qx_W) (qx_R (d + 3)) [.ref (fa F 0), .int k, .int v] σ ((fLimit σ k v).1) ((fLimit σ k v).2) := by
  refine qx_met (by decide) (Nat.le_of_ble_eq_true rfl) (by intro v hv; simp only [List.mem_cons, List.not_mem_nil, or_false] at hv; rcases hv with rfl | rfl | rfl <;> rfl) (fun K C => ?_)
  refine qx_aload_n C dX4_limit_0 rfl rfl ?_
  refine qx_getR C (j := 0) (k := 1) hiX4 rfl rfl (by decide) qw_194 rfl dX4_limit_1 ?_
  refine qx_getIN C (j := 7) (k := 2) hiX1 rfl rfl (by decide) qn_7 rfl dX4_limit_4 ?_
  refine qx_if_eq C (tgt := 13) dX4_limit_7 (by decide) (fun h7 => ?_) (fun h7 => ?_)
  · refine qx_iload_n C dX4_limit_13 rfl rfl ?_
    refine qx_callSI C (As := [_]) (n := 1) (c_X4_isLine F (d + 0) _ _) qw_250 qw_251 qw_39 qw_252 ⟨rfl, by decide, by decide, by decide +kernel⟩ (qx_room (by omega) (by decide)) rfl rfl (Nat.le_of_ble_eq_true rfl) dX4_limit_14 ?_
    refine qx_split _ (fun h14 => ?_) (fun h14 => ?_)
    · obtain ⟨k0, hk0, rfl⟩ := qx_inI 2 (by decide) h14
      have ik0 : (nI k0).toNatClampNeg = k0 := nI_clamp (by omega)
      refine qx_if_eq_f C (tgt := 30) dX4_limit_17 (by decide) (by decide) ?_
      refine qx_iload_n C dX4_limit_20 rfl rfl ?_
      refine qx_iconst C (v := 0) dX4_limit_21 rfl ?_
      refine qx_bipush C (v := 99) dX4_limit_22 rfl ?_
      refine qx_callSI C (As := [_, _, _]) (n := 3) (c_X4_isWithin F (d + 1) _ _ _ _) qw_216 qw_217 qw_39 qw_218 ⟨rfl, by decide, by decide, by decide +kernel⟩ (qx_room (by omega) (by decide)) rfl rfl (Nat.le_of_ble_eq_true rfl) dX4_limit_24 ?_
      refine qx_split _ (fun h24 => ?_) (fun h24 => ?_)
      · refine qx_if_ne_t C (tgt := 32) dX4_limit_27 (by decide) (by decide) ?_
        refine qx_aload_n C dX4_limit_32 rfl rfl ?_
        refine qx_getR C (j := 0) (k := 0) hiX4 rfl rfl (by decide) qw_193 rfl dX4_limit_33 ?_
        refine qx_iload_n C dX4_limit_36 rfl rfl ?_
        refine qx_iload_n C dX4_limit_37 rfl rfl ?_
        refine qx_callVI C (b := 1) (As := [_, _]) (n := 2) (c_X3_setLimit F (d + 1) _ k0 _ (by omega)) rfl rfl qw_253 qw_254 qw_255 qw_40 qw_256 ⟨rfl, by decide, by decide, by decide +kernel⟩ (qx_room (by omega) (by decide)) rfl rfl (Nat.le_of_ble_eq_true rfl) dX4_limit_38 ?_
        exact qx_iret C dX4_limit_41 rfl (by first | rfl | simp [fLimit, h7, h14, ik0, h24]) (by first | rfl | simp [fLimit, h7, h14, ik0, h24])
      · refine qx_if_ne_f C (tgt := 32) dX4_limit_27 (by decide) (by decide) ?_
        refine qx_iconst C (v := (-1)) dX4_limit_30 rfl ?_
        exact qx_iret C dX4_limit_31 rfl (by first | rfl | simp [fLimit, h7, h14, ik0, h24]) (by first | rfl | simp [fLimit, h7, h14, ik0, h24])
    · refine qx_if_eq_t C (tgt := 30) dX4_limit_17 (by decide) (by decide) ?_
      refine qx_iconst C (v := (-1)) dX4_limit_30 rfl ?_
      exact qx_iret C dX4_limit_31 rfl (by first | rfl | simp [fLimit, h7, h14]) (by first | rfl | simp [fLimit, h7, h14])
  · refine qx_bipush C (v := (-3)) dX4_limit_10 rfl ?_
    exact qx_iret C dX4_limit_12 rfl (by first | rfl | simp [fLimit, h7]) (by first | rfl | simp [fLimit, h7])
set_option maxRecDepth 20000 in
set_option maxHeartbeats 4000000 in
theorem c_X4_clash1 (F : qx_F) (d : Nat) (σ : qx_S) (a b : Int32) : qx_cI F shC ⟨"NightStalls", "clash", "(IIZ)I"⟩ (.code ⟨"NightStalls", "clash", "(IIZ)I"⟩ prog_1_method_5_code 4 ((some FieldType.int)) :: qx_W) (qx_R (d + 3)) [.ref (fa F 0), .int a, .int b, .int 1] σ ((fClash σ a b 1).1) ((fClash σ a b 1).2) := by
  refine qx_met (by decide) (Nat.le_of_ble_eq_true rfl) (by intro v hv; simp only [List.mem_cons, List.not_mem_nil, or_false] at hv; rcases hv with rfl | rfl | rfl | rfl <;> rfl) (fun K C => ?_)
  refine qx_aload_n C dX4_clash_0 rfl rfl ?_
  refine qx_getR C (j := 0) (k := 1) hiX4 rfl rfl (by decide) qw_194 rfl dX4_clash_1 ?_
  refine qx_getIN C (j := 7) (k := 2) hiX1 rfl rfl (by decide) qn_7 rfl dX4_clash_4 ?_
  refine qx_if_eq C (tgt := 13) dX4_clash_7 (by decide) (fun h7 => ?_) (fun h7 => ?_)
  · refine qx_iload_n C dX4_clash_13 rfl rfl ?_
    refine qx_iconst C (v := 0) dX4_clash_14 rfl ?_
    refine qx_iconst C (v := 3) dX4_clash_15 rfl ?_
    refine qx_callSI C (As := [_, _, _]) (n := 3) (c_X4_isWithin F (d + 1) _ _ _ _) qw_216 qw_217 qw_39 qw_218 ⟨rfl, by decide, by decide, by decide +kernel⟩ (qx_room (by omega) (by decide)) rfl rfl (Nat.le_of_ble_eq_true rfl) dX4_clash_16 ?_
    refine qx_split _ (fun h16 => ?_) (fun h16 => ?_)
    · obtain ⟨a0, ha0, rfl⟩ := qx_inI 3 (by decide) h16
      have ia0 : (nI a0).toNatClampNeg = a0 := nI_clamp (by omega)
      refine qx_if_eq_f C (tgt := 31) dX4_clash_19 (by decide) (by decide) ?_
      refine qx_iload_n C dX4_clash_22 rfl rfl ?_
      refine qx_iconst C (v := 0) dX4_clash_23 rfl ?_
      refine qx_iconst C (v := 3) dX4_clash_24 rfl ?_
      refine qx_callSI C (As := [_, _, _]) (n := 3) (c_X4_isWithin F (d + 1) _ _ _ _) qw_216 qw_217 qw_39 qw_218 ⟨rfl, by decide, by decide, by decide +kernel⟩ (qx_room (by omega) (by decide)) rfl rfl (Nat.le_of_ble_eq_true rfl) dX4_clash_25 ?_
      refine qx_split _ (fun h25 => ?_) (fun h25 => ?_)
      · obtain ⟨b0, hb0, rfl⟩ := qx_inI 3 (by decide) h25
        have ib0 : (nI b0).toNatClampNeg = b0 := nI_clamp (by omega)
        refine qx_if_ne_t C (tgt := 33) dX4_clash_28 (by decide) (by decide) ?_
        refine qx_aload_n C dX4_clash_33 rfl rfl ?_
        refine qx_getR C (j := 0) (k := 0) hiX4 rfl rfl (by decide) qw_193 rfl dX4_clash_34 ?_
        refine qx_iload_n C dX4_clash_37 rfl rfl ?_
        refine qx_iload_n C dX4_clash_38 rfl rfl ?_
        refine qx_iload_n C dX4_clash_39 rfl rfl ?_
        refine qx_callVI C (b := 1) (As := [_, _, _]) (n := 3) (c_X3_setClash1 F (d + 0) _ a0 b0 (by omega) (by omega)) rfl rfl qw_261 qw_262 qw_263 qw_40 qw_264 ⟨rfl, by decide, by decide, by decide +kernel⟩ (qx_room (by omega) (by decide)) rfl rfl (Nat.le_of_ble_eq_true rfl) dX4_clash_40 ?_
        refine qx_split _ (fun h40 => ?_) (fun h40 => ?_)
        · refine qx_if_eq_t C (tgt := 50) dX4_clash_43 (by decide) (by decide) ?_
          refine qx_iconst C (v := 0) dX4_clash_50 rfl ?_
          exact qx_iret C dX4_clash_51 rfl (by first | rfl | simp [fClash, h7, h16, ia0, h25, ib0, h40]) (by first | rfl | simp [fClash, h7, h16, ia0, h25, ib0, h40])
        · refine qx_if_eq_f C (tgt := 50) dX4_clash_43 (by decide) (by decide) ?_
          refine qx_iconst C (v := 1) dX4_clash_46 rfl ?_
          refine qx_goto C (tgt := 51) dX4_clash_47 (by decide) ?_
          exact qx_iret C dX4_clash_51 rfl (by first | rfl | simp [fClash, h7, h16, ia0, h25, ib0, h40]) (by first | rfl | simp [fClash, h7, h16, ia0, h25, ib0, h40])
      · refine qx_if_ne_f C (tgt := 33) dX4_clash_28 (by decide) (by decide) ?_
        refine qx_iconst C (v := (-1)) dX4_clash_31 rfl ?_
        exact qx_iret C dX4_clash_32 rfl (by first | rfl | simp [fClash, h7, h16, ia0, h25]) (by first | rfl | simp [fClash, h7, h16, ia0, h25])
    · refine qx_if_eq_t C (tgt := 31) dX4_clash_19 (by decide) (by decide) ?_
      refine qx_iconst C (v := (-1)) dX4_clash_31 rfl ?_
      exact qx_iret C dX4_clash_32 rfl (by first | rfl | simp [fClash, h7, h16]) (by first | rfl | simp [fClash, h7, h16])
  · refine qx_bipush C (v := (-3)) dX4_clash_10 rfl ?_
    exact qx_iret C dX4_clash_12 rfl (by first | rfl | simp [fClash, h7]) (by first | rfl | simp [fClash, h7])
set_option maxRecDepth 20000 in
set_option maxHeartbeats 4000000 in
theorem c_X4_clash0 (F : qx_F) (d : Nat) (σ : qx_S) (a b : Int32) : qx_cI F shC ⟨"NightStalls", "clash", "(IIZ)I"⟩ (.code ⟨"NightStalls", "clash", "(IIZ)I"⟩ prog_1_method_5_code 4 ((some FieldType.int)) :: qx_W) (qx_R (d + 3)) [.ref (fa F 0), .int a, .int b, .int 0] σ ((fClash σ a b 0).1) ((fClash σ a b 0).2) := by
  refine qx_met (by decide) (Nat.le_of_ble_eq_true rfl) (by intro v hv; simp only [List.mem_cons, List.not_mem_nil, or_false] at hv; rcases hv with rfl | rfl | rfl | rfl <;> rfl) (fun K C => ?_)
  refine qx_aload_n C dX4_clash_0 rfl rfl ?_
  refine qx_getR C (j := 0) (k := 1) hiX4 rfl rfl (by decide) qw_194 rfl dX4_clash_1 ?_
  refine qx_getIN C (j := 7) (k := 2) hiX1 rfl rfl (by decide) qn_7 rfl dX4_clash_4 ?_
  refine qx_if_eq C (tgt := 13) dX4_clash_7 (by decide) (fun h7 => ?_) (fun h7 => ?_)
  · refine qx_iload_n C dX4_clash_13 rfl rfl ?_
    refine qx_iconst C (v := 0) dX4_clash_14 rfl ?_
    refine qx_iconst C (v := 3) dX4_clash_15 rfl ?_
    refine qx_callSI C (As := [_, _, _]) (n := 3) (c_X4_isWithin F (d + 1) _ _ _ _) qw_216 qw_217 qw_39 qw_218 ⟨rfl, by decide, by decide, by decide +kernel⟩ (qx_room (by omega) (by decide)) rfl rfl (Nat.le_of_ble_eq_true rfl) dX4_clash_16 ?_
    refine qx_split _ (fun h16 => ?_) (fun h16 => ?_)
    · obtain ⟨a0, ha0, rfl⟩ := qx_inI 3 (by decide) h16
      have ia0 : (nI a0).toNatClampNeg = a0 := nI_clamp (by omega)
      refine qx_if_eq_f C (tgt := 31) dX4_clash_19 (by decide) (by decide) ?_
      refine qx_iload_n C dX4_clash_22 rfl rfl ?_
      refine qx_iconst C (v := 0) dX4_clash_23 rfl ?_
      refine qx_iconst C (v := 3) dX4_clash_24 rfl ?_
      refine qx_callSI C (As := [_, _, _]) (n := 3) (c_X4_isWithin F (d + 1) _ _ _ _) qw_216 qw_217 qw_39 qw_218 ⟨rfl, by decide, by decide, by decide +kernel⟩ (qx_room (by omega) (by decide)) rfl rfl (Nat.le_of_ble_eq_true rfl) dX4_clash_25 ?_
      refine qx_split _ (fun h25 => ?_) (fun h25 => ?_)
      · obtain ⟨b0, hb0, rfl⟩ := qx_inI 3 (by decide) h25
        have ib0 : (nI b0).toNatClampNeg = b0 := nI_clamp (by omega)
        refine qx_if_ne_t C (tgt := 33) dX4_clash_28 (by decide) (by decide) ?_
        refine qx_aload_n C dX4_clash_33 rfl rfl ?_
        refine qx_getR C (j := 0) (k := 0) hiX4 rfl rfl (by decide) qw_193 rfl dX4_clash_34 ?_
        refine qx_iload_n C dX4_clash_37 rfl rfl ?_
        refine qx_iload_n C dX4_clash_38 rfl rfl ?_
        refine qx_iload_n C dX4_clash_39 rfl rfl ?_
        refine qx_callVI C (b := 1) (As := [_, _, _]) (n := 3) (c_X3_setClash0 F (d + 0) _ a0 b0 (by omega) (by omega)) rfl rfl qw_261 qw_262 qw_263 qw_40 qw_264 ⟨rfl, by decide, by decide, by decide +kernel⟩ (qx_room (by omega) (by decide)) rfl rfl (Nat.le_of_ble_eq_true rfl) dX4_clash_40 ?_
        refine qx_split _ (fun h40 => ?_) (fun h40 => ?_)
        · refine qx_if_eq_f C (tgt := 50) dX4_clash_43 (by decide) (by decide) ?_
          refine qx_iconst C (v := 1) dX4_clash_46 rfl ?_
          refine qx_goto C (tgt := 51) dX4_clash_47 (by decide) ?_
          exact qx_iret C dX4_clash_51 rfl (by first | rfl | simp [fClash, h7, h16, ia0, h25, ib0, h40]) (by first | rfl | simp [fClash, h7, h16, ia0, h25, ib0, h40])
        · refine qx_if_eq_t C (tgt := 50) dX4_clash_43 (by decide) (by decide) ?_
          refine qx_iconst C (v := 0) dX4_clash_50 rfl ?_
          exact qx_iret C dX4_clash_51 rfl (by first | rfl | simp [fClash, h7, h16, ia0, h25, ib0, h40]) (by first | rfl | simp [fClash, h7, h16, ia0, h25, ib0, h40])
      · refine qx_if_ne_f C (tgt := 33) dX4_clash_28 (by decide) (by decide) ?_
        refine qx_iconst C (v := (-1)) dX4_clash_31 rfl ?_
        exact qx_iret C dX4_clash_32 rfl (by first | rfl | simp [fClash, h7, h16, ia0, h25]) (by first | rfl | simp [fClash, h7, h16, ia0, h25])
    · refine qx_if_eq_t C (tgt := 31) dX4_clash_19 (by decide) (by decide) ?_
      refine qx_iconst C (v := (-1)) dX4_clash_31 rfl ?_
      exact qx_iret C dX4_clash_32 rfl (by first | rfl | simp [fClash, h7, h16]) (by first | rfl | simp [fClash, h7, h16])
  · refine qx_bipush C (v := (-3)) dX4_clash_10 rfl ?_
    exact qx_iret C dX4_clash_12 rfl (by first | rfl | simp [fClash, h7]) (by first | rfl | simp [fClash, h7])
set_option maxRecDepth 20000 in
set_option maxHeartbeats 4000000 in
theorem c_X4_rule (F : qx_F) (d : Nat) (σ : qx_S) (w v : Int32) (tt : Nat → Nat) (hz : fz F = qx_zC tt) : qx_cI F shC ⟨"NightStalls", "rule", "(II)I"⟩ (.code ⟨"NightStalls", "rule", "(II)I"⟩ prog_1_method_6_code 3 ((some FieldType.int)) :: qx_W) (qx_R (d + 2)) [.ref (fa F 0), .int w, .int v] σ ((fRule σ w v).1) ((fRule σ w v).2) := by
  refine qx_met (by decide) (Nat.le_of_ble_eq_true rfl) (by intro v hv; simp only [List.mem_cons, List.not_mem_nil, or_false] at hv; rcases hv with rfl | rfl | rfl <;> rfl) (fun K C => ?_)
  refine qx_aload_n C dX4_rule_0 rfl rfl ?_
  refine qx_getR C (j := 0) (k := 1) hiX4 rfl rfl (by decide) qw_194 rfl dX4_rule_1 ?_
  refine qx_getIN C (j := 7) (k := 2) hiX1 rfl rfl (by decide) qn_7 rfl dX4_rule_4 ?_
  refine qx_if_eq C (tgt := 13) dX4_rule_7 (by decide) (fun h7 => ?_) (fun h7 => ?_)
  · refine qx_iload_n C dX4_rule_13 rfl rfl ?_
    refine qx_iconst C (v := 0) dX4_rule_14 rfl ?_
    refine qx_iconst C (v := 1) dX4_rule_15 rfl ?_
    refine qx_callSI C (As := [_, _, _]) (n := 3) (c_X4_isWithin F (d + 0) _ _ _ _) qw_216 qw_217 qw_39 qw_218 ⟨rfl, by decide, by decide, by decide +kernel⟩ (qx_room (by omega) (by decide)) rfl rfl (Nat.le_of_ble_eq_true rfl) dX4_rule_16 ?_
    refine qx_split _ (fun h16 => ?_) (fun h16 => ?_)
    · obtain ⟨w0, hw0, rfl⟩ := qx_inI 1 (by decide) h16
      have iw0 : (nI w0).toNatClampNeg = w0 := nI_clamp (by omega)
      refine qx_if_eq_f C (tgt := 35) dX4_rule_19 (by decide) (by decide) ?_
      refine qx_iload_n C dX4_rule_22 rfl rfl ?_
      refine qx_iconst C (v := 0) dX4_rule_23 rfl ?_
      refine qx_gets C (q := ("RULE_MOST", tt 1, 2, qz1)) (qz_1 hz) qw_273 dX4_rule_24 ?_
      refine qx_iload_n C dX4_rule_27 rfl rfl ?_
      refine qx_sald C (q := ("RULE_MOST", tt 1, 2, qz1)) (qz_1 hz) (show vp_in (nI w0) 2 from vp_in_nI (by omega) (by decide)) dX4_rule_28 ?_
      refine qx_top (z := qz1 _) rfl ?_
      refine qx_top (z := qz1 w0) (congrArg qz1 iw0) ?_
      refine qx_callSI C (As := [_, _, _]) (n := 3) (c_X4_isWithin F (d + 0) _ _ _ _) qw_216 qw_217 qw_39 qw_218 ⟨rfl, by decide, by decide, by decide +kernel⟩ (qx_room (by omega) (by decide)) rfl rfl (Nat.le_of_ble_eq_true rfl) dX4_rule_29 ?_
      refine qx_split _ (fun h29 => ?_) (fun h29 => ?_)
      · refine qx_if_ne_t C (tgt := 37) dX4_rule_32 (by decide) (by decide) ?_
        refine qx_aload_n C dX4_rule_37 rfl rfl ?_
        refine qx_getR C (j := 0) (k := 0) hiX4 rfl rfl (by decide) qw_193 rfl dX4_rule_38 ?_
        refine qx_iload_n C dX4_rule_41 rfl rfl ?_
        refine qx_iload_n C dX4_rule_42 rfl rfl ?_
        refine qx_callVI C (b := 1) (As := [_, _]) (n := 2) (c_X3_setRule F (d + 0) _ w0 _ (by omega)) rfl rfl qw_275 qw_276 qw_277 qw_40 qw_278 ⟨rfl, by decide, by decide, by decide +kernel⟩ (qx_room (by omega) (by decide)) rfl rfl (Nat.le_of_ble_eq_true rfl) dX4_rule_43 ?_
        exact qx_iret C dX4_rule_46 rfl (by first | rfl | simp [fRule, h7, h16, iw0, h29]) (by first | rfl | simp [fRule, h7, h16, iw0, h29])
      · refine qx_if_ne_f C (tgt := 37) dX4_rule_32 (by decide) (by decide) ?_
        refine qx_iconst C (v := (-1)) dX4_rule_35 rfl ?_
        exact qx_iret C dX4_rule_36 rfl (by first | rfl | simp [fRule, h7, h16, iw0, h29]) (by first | rfl | simp [fRule, h7, h16, iw0, h29])
    · refine qx_if_eq_t C (tgt := 35) dX4_rule_19 (by decide) (by decide) ?_
      refine qx_iconst C (v := (-1)) dX4_rule_35 rfl ?_
      exact qx_iret C dX4_rule_36 rfl (by first | rfl | simp [fRule, h7, h16]) (by first | rfl | simp [fRule, h7, h16])
  · refine qx_bipush C (v := (-3)) dX4_rule_10 rfl ?_
    exact qx_iret C dX4_rule_12 rfl (by first | rfl | simp [fRule, h7]) (by first | rfl | simp [fRule, h7])
set_option maxRecDepth 20000 in
set_option maxHeartbeats 4000000 in
theorem c_X4_stall (F : qx_F) (d : Nat) (σ : qx_S) (a b c e f g : Int32) (S : Nat) (hS : σ 1 1 = nI S) (hS5 : S ≤ 5) (tt : Nat → Nat) (hz : fz F = qx_zC tt) : qx_cI F shC ⟨"NightStalls", "stall", "(IIIIII)I"⟩ (.code ⟨"NightStalls", "stall", "(IIIIII)I"⟩ prog_1_method_7_code 8 ((some FieldType.int)) :: qx_W) (qx_R (d + 3)) [.ref (fa F 0), .int a, .int b, .int c, .int e, .int f, .int g] σ ((fStall σ a b c e f g S).1) ((fStall σ a b c e f g S).2) := by
  refine qx_met (by decide) (Nat.le_of_ble_eq_true rfl) (by intro v hv; simp only [List.mem_cons, List.not_mem_nil, or_false] at hv; rcases hv with rfl | rfl | rfl | rfl | rfl | rfl | rfl <;> rfl) (fun K C => ?_)
  refine qx_aload_n C dX4_stall_0 rfl rfl ?_
  refine qx_getR C (j := 0) (k := 1) hiX4 rfl rfl (by decide) qw_194 rfl dX4_stall_1 ?_
  refine qx_getIN C (j := 7) (k := 2) hiX1 rfl rfl (by decide) qn_7 rfl dX4_stall_4 ?_
  refine qx_if_eq C (tgt := 13) dX4_stall_7 (by decide) (fun h7 => ?_) (fun h7 => ?_)
  · refine qx_iconst C (v := 0) dX4_stall_13 rfl ?_
    refine qx_iload_n C dX4_stall_14 rfl rfl ?_
    refine qx_callSI C (As := [_, _]) (n := 2) (c_X4_isTrait F (d + 0) _ _ _ tt hz) qw_283 qw_284 qw_39 qw_285 ⟨rfl, by decide, by decide, by decide +kernel⟩ (qx_room (by omega) (by decide)) rfl rfl (Nat.le_of_ble_eq_true rfl) dX4_stall_15 ?_
    refine qx_split _ (fun h15 => ?_) (fun h15 => ?_)
    · refine qx_if_eq_f C (tgt := 64) dX4_stall_18 (by decide) (by decide) ?_
      refine qx_iconst C (v := 1) dX4_stall_21 rfl ?_
      refine qx_iload_n C dX4_stall_22 rfl rfl ?_
      refine qx_callSI C (As := [_, _]) (n := 2) (c_X4_isTrait F (d + 0) _ _ _ tt hz) qw_283 qw_284 qw_39 qw_285 ⟨rfl, by decide, by decide, by decide +kernel⟩ (qx_room (by omega) (by decide)) rfl rfl (Nat.le_of_ble_eq_true rfl) dX4_stall_23 ?_
      refine qx_split _ (fun h23 => ?_) (fun h23 => ?_)
      · refine qx_if_eq_f C (tgt := 64) dX4_stall_26 (by decide) (by decide) ?_
        refine qx_iconst C (v := 2) dX4_stall_29 rfl ?_
        refine qx_iload_n C dX4_stall_30 rfl rfl ?_
        refine qx_callSI C (As := [_, _]) (n := 2) (c_X4_isTrait F (d + 0) _ _ _ tt hz) qw_283 qw_284 qw_39 qw_285 ⟨rfl, by decide, by decide, by decide +kernel⟩ (qx_room (by omega) (by decide)) rfl rfl (Nat.le_of_ble_eq_true rfl) dX4_stall_31 ?_
        refine qx_split _ (fun h31 => ?_) (fun h31 => ?_)
        · refine qx_if_eq_f C (tgt := 64) dX4_stall_34 (by decide) (by decide) ?_
          refine qx_iconst C (v := 3) dX4_stall_37 rfl ?_
          refine qx_iload C dX4_stall_38 rfl ?_
          refine qx_callSI C (As := [_, _]) (n := 2) (c_X4_isTrait F (d + 0) _ _ _ tt hz) qw_283 qw_284 qw_39 qw_285 ⟨rfl, by decide, by decide, by decide +kernel⟩ (qx_room (by omega) (by decide)) rfl rfl (Nat.le_of_ble_eq_true rfl) dX4_stall_40 ?_
          refine qx_split _ (fun h40 => ?_) (fun h40 => ?_)
          · refine qx_if_eq_f C (tgt := 64) dX4_stall_43 (by decide) (by decide) ?_
            refine qx_iconst C (v := 4) dX4_stall_46 rfl ?_
            refine qx_iload C dX4_stall_47 rfl ?_
            refine qx_callSI C (As := [_, _]) (n := 2) (c_X4_isTrait F (d + 0) _ _ _ tt hz) qw_283 qw_284 qw_39 qw_285 ⟨rfl, by decide, by decide, by decide +kernel⟩ (qx_room (by omega) (by decide)) rfl rfl (Nat.le_of_ble_eq_true rfl) dX4_stall_49 ?_
            refine qx_split _ (fun h49 => ?_) (fun h49 => ?_)
            · refine qx_if_eq_f C (tgt := 64) dX4_stall_52 (by decide) (by decide) ?_
              refine qx_iconst C (v := 5) dX4_stall_55 rfl ?_
              refine qx_iload C dX4_stall_56 rfl ?_
              refine qx_callSI C (As := [_, _]) (n := 2) (c_X4_isTrait F (d + 0) _ _ _ tt hz) qw_283 qw_284 qw_39 qw_285 ⟨rfl, by decide, by decide, by decide +kernel⟩ (qx_room (by omega) (by decide)) rfl rfl (Nat.le_of_ble_eq_true rfl) dX4_stall_58 ?_
              refine qx_split _ (fun h58 => ?_) (fun h58 => ?_)
              · refine qx_if_ne_t C (tgt := 66) dX4_stall_61 (by decide) (by decide) ?_
                refine qx_aload_n C dX4_stall_66 rfl rfl ?_
                refine qx_getR C (j := 0) (k := 0) hiX4 rfl rfl (by decide) qw_193 rfl dX4_stall_67 ?_
                refine qx_getIN C (j := 1) (k := 1) hiX3 rfl rfl (by decide) qn_8 rfl dX4_stall_70 ?_
                refine qx_iconst C (v := 5) dX4_stall_73 rfl ?_
                refine qx_icmp_lt C (tgt := 80) dX4_stall_74 (by decide) (fun h74 => ?_) (fun h74 => ?_)
                · have hS5b : S < 5 := qx_ltN (by omega) (by decide) (by rw [← hS]; exact h74)
                  refine qx_aload_n C dX4_stall_80 rfl rfl ?_
                  refine qx_getR C (j := 0) (k := 0) hiX4 rfl rfl (by decide) qw_193 rfl dX4_stall_81 ?_
                  refine qx_getIN C (j := 1) (k := 1) hiX3 rfl rfl (by decide) qn_8 rfl dX4_stall_84 ?_
                  refine qx_top hS ?_
                  refine qx_istore C dX4_stall_87 (Nat.le_of_ble_eq_true rfl) ?_
                  refine qx_aload_n C dX4_stall_89 rfl rfl ?_
                  refine qx_getR C (j := 0) (k := 0) hiX4 rfl rfl (by decide) qw_193 rfl dX4_stall_90 ?_
                  refine qx_iload C dX4_stall_93 rfl ?_
                  refine qx_iconst C (v := 1) dX4_stall_95 rfl ?_
                  refine qx_iaddE C dX4_stall_96 (nI_add S 1) ?_
                  refine qx_putN C (j := 1) (k := 1) hiX3 rfl rfl (by decide) tyX3 tyX3_ok nmX3 qn_8 rfl rfl rfl rfl dX4_stall_97 ?_
                  refine qx_aload_n C dX4_stall_100 rfl rfl ?_
                  refine qx_getR C (j := 0) (k := 0) hiX4 rfl rfl (by decide) qw_193 rfl dX4_stall_101 ?_
                  refine qx_iload C dX4_stall_104 rfl ?_
                  refine qx_iconst C (v := 0) dX4_stall_106 rfl ?_
                  refine qx_iload_n C dX4_stall_107 rfl rfl ?_
                  refine qx_callVI C (b := 1) (As := [_, _, _]) (n := 3) (c_X3_setTrait F (d + 0) _ S 0 _ (by omega) (by omega)) rfl rfl qw_290 qw_291 qw_292 qw_40 qw_293 ⟨rfl, by decide, by decide, by decide +kernel⟩ (qx_room (by omega) (by decide)) rfl rfl (Nat.le_of_ble_eq_true rfl) dX4_stall_108 ?_
                  refine qx_pop C dX4_stall_111 rfl ?_
                  refine qx_aload_n C dX4_stall_112 rfl rfl ?_
                  refine qx_getR C (j := 0) (k := 0) hiX4 rfl rfl (by decide) qw_193 rfl dX4_stall_113 ?_
                  refine qx_iload C dX4_stall_116 rfl ?_
                  refine qx_iconst C (v := 1) dX4_stall_118 rfl ?_
                  refine qx_iload_n C dX4_stall_119 rfl rfl ?_
                  refine qx_callVI C (b := 1) (As := [_, _, _]) (n := 3) (c_X3_setTrait F (d + 0) _ S 1 _ (by omega) (by omega)) rfl rfl qw_290 qw_291 qw_292 qw_40 qw_293 ⟨rfl, by decide, by decide, by decide +kernel⟩ (qx_room (by omega) (by decide)) rfl rfl (Nat.le_of_ble_eq_true rfl) dX4_stall_120 ?_
                  refine qx_pop C dX4_stall_123 rfl ?_
                  refine qx_aload_n C dX4_stall_124 rfl rfl ?_
                  refine qx_getR C (j := 0) (k := 0) hiX4 rfl rfl (by decide) qw_193 rfl dX4_stall_125 ?_
                  refine qx_iload C dX4_stall_128 rfl ?_
                  refine qx_iconst C (v := 2) dX4_stall_130 rfl ?_
                  refine qx_iload_n C dX4_stall_131 rfl rfl ?_
                  refine qx_callVI C (b := 1) (As := [_, _, _]) (n := 3) (c_X3_setTrait F (d + 0) _ S 2 _ (by omega) (by omega)) rfl rfl qw_290 qw_291 qw_292 qw_40 qw_293 ⟨rfl, by decide, by decide, by decide +kernel⟩ (qx_room (by omega) (by decide)) rfl rfl (Nat.le_of_ble_eq_true rfl) dX4_stall_132 ?_
                  refine qx_pop C dX4_stall_135 rfl ?_
                  refine qx_aload_n C dX4_stall_136 rfl rfl ?_
                  refine qx_getR C (j := 0) (k := 0) hiX4 rfl rfl (by decide) qw_193 rfl dX4_stall_137 ?_
                  refine qx_iload C dX4_stall_140 rfl ?_
                  refine qx_iconst C (v := 3) dX4_stall_142 rfl ?_
                  refine qx_iload C dX4_stall_143 rfl ?_
                  refine qx_callVI C (b := 1) (As := [_, _, _]) (n := 3) (c_X3_setTrait F (d + 0) _ S 3 _ (by omega) (by omega)) rfl rfl qw_290 qw_291 qw_292 qw_40 qw_293 ⟨rfl, by decide, by decide, by decide +kernel⟩ (qx_room (by omega) (by decide)) rfl rfl (Nat.le_of_ble_eq_true rfl) dX4_stall_145 ?_
                  refine qx_pop C dX4_stall_148 rfl ?_
                  refine qx_aload_n C dX4_stall_149 rfl rfl ?_
                  refine qx_getR C (j := 0) (k := 0) hiX4 rfl rfl (by decide) qw_193 rfl dX4_stall_150 ?_
                  refine qx_iload C dX4_stall_153 rfl ?_
                  refine qx_iconst C (v := 4) dX4_stall_155 rfl ?_
                  refine qx_iload C dX4_stall_156 rfl ?_
                  refine qx_callVI C (b := 1) (As := [_, _, _]) (n := 3) (c_X3_setTrait F (d + 0) _ S 4 _ (by omega) (by omega)) rfl rfl qw_290 qw_291 qw_292 qw_40 qw_293 ⟨rfl, by decide, by decide, by decide +kernel⟩ (qx_room (by omega) (by decide)) rfl rfl (Nat.le_of_ble_eq_true rfl) dX4_stall_158 ?_
                  refine qx_pop C dX4_stall_161 rfl ?_
                  refine qx_aload_n C dX4_stall_162 rfl rfl ?_
                  refine qx_getR C (j := 0) (k := 0) hiX4 rfl rfl (by decide) qw_193 rfl dX4_stall_163 ?_
                  refine qx_iload C dX4_stall_166 rfl ?_
                  refine qx_iconst C (v := 5) dX4_stall_168 rfl ?_
                  refine qx_iload C dX4_stall_169 rfl ?_
                  refine qx_callVI C (b := 1) (As := [_, _, _]) (n := 3) (c_X3_setTrait F (d + 0) _ S 5 _ (by omega) (by omega)) rfl rfl qw_290 qw_291 qw_292 qw_40 qw_293 ⟨rfl, by decide, by decide, by decide +kernel⟩ (qx_room (by omega) (by decide)) rfl rfl (Nat.le_of_ble_eq_true rfl) dX4_stall_171 ?_
                  refine qx_pop C dX4_stall_174 rfl ?_
                  refine qx_iload C dX4_stall_175 rfl ?_
                  exact qx_iret C dX4_stall_177 rfl (by unfold fStall; rw [if_pos h7, if_pos ⟨h15, h23, h31, h40, h49, h58⟩, if_pos h74]; first | done | rfl) (by unfold fStall; rw [if_pos h7, if_pos ⟨h15, h23, h31, h40, h49, h58⟩, if_pos h74]; first | done | rfl)
                · refine qx_bipush C (v := (-2)) dX4_stall_77 rfl ?_
                  exact qx_iret C dX4_stall_79 rfl (by unfold fStall; rw [if_pos h7, if_pos ⟨h15, h23, h31, h40, h49, h58⟩, if_neg h74]; first | done | rfl) (by unfold fStall; rw [if_pos h7, if_pos ⟨h15, h23, h31, h40, h49, h58⟩, if_neg h74]; first | done | rfl)
              · refine qx_if_ne_f C (tgt := 66) dX4_stall_61 (by decide) (by decide) ?_
                refine qx_iconst C (v := (-1)) dX4_stall_64 rfl ?_
                exact qx_iret C dX4_stall_65 rfl (by first | rfl | simp [fStall, putStall, h7, h15, h23, h31, h40, h49, h58]) (by first | rfl | simp [fStall, putStall, h7, h15, h23, h31, h40, h49, h58])
            · refine qx_if_eq_t C (tgt := 64) dX4_stall_52 (by decide) (by decide) ?_
              refine qx_iconst C (v := (-1)) dX4_stall_64 rfl ?_
              exact qx_iret C dX4_stall_65 rfl (by first | rfl | simp [fStall, putStall, h7, h15, h23, h31, h40, h49]) (by first | rfl | simp [fStall, putStall, h7, h15, h23, h31, h40, h49])
          · refine qx_if_eq_t C (tgt := 64) dX4_stall_43 (by decide) (by decide) ?_
            refine qx_iconst C (v := (-1)) dX4_stall_64 rfl ?_
            exact qx_iret C dX4_stall_65 rfl (by first | rfl | simp [fStall, putStall, h7, h15, h23, h31, h40]) (by first | rfl | simp [fStall, putStall, h7, h15, h23, h31, h40])
        · refine qx_if_eq_t C (tgt := 64) dX4_stall_34 (by decide) (by decide) ?_
          refine qx_iconst C (v := (-1)) dX4_stall_64 rfl ?_
          exact qx_iret C dX4_stall_65 rfl (by first | rfl | simp [fStall, putStall, h7, h15, h23, h31]) (by first | rfl | simp [fStall, putStall, h7, h15, h23, h31])
      · refine qx_if_eq_t C (tgt := 64) dX4_stall_26 (by decide) (by decide) ?_
        refine qx_iconst C (v := (-1)) dX4_stall_64 rfl ?_
        exact qx_iret C dX4_stall_65 rfl (by first | rfl | simp [fStall, putStall, h7, h15, h23]) (by first | rfl | simp [fStall, putStall, h7, h15, h23])
    · refine qx_if_eq_t C (tgt := 64) dX4_stall_18 (by decide) (by decide) ?_
      refine qx_iconst C (v := (-1)) dX4_stall_64 rfl ?_
      exact qx_iret C dX4_stall_65 rfl (by first | rfl | simp [fStall, putStall, h7, h15]) (by first | rfl | simp [fStall, putStall, h7, h15])
  · refine qx_bipush C (v := (-3)) dX4_stall_10 rfl ?_
    exact qx_iret C dX4_stall_12 rfl (by first | rfl | simp [fStall, putStall, h7]) (by first | rfl | simp [fStall, putStall, h7])
set_option maxRecDepth 20000 in
set_option maxHeartbeats 4000000 in
theorem c_X4_change (F : qx_F) (d : Nat) (σ : qx_S) (s w v : Int32) (S : Nat) (hS : σ 1 1 = nI S) (hS5 : S ≤ 5) (tt : Nat → Nat) (hz : fz F = qx_zC tt) : qx_cI F shC ⟨"NightStalls", "change", "(III)I"⟩ (.code ⟨"NightStalls", "change", "(III)I"⟩ prog_1_method_8_code 4 ((some FieldType.int)) :: qx_W) (qx_R (d + 3)) [.ref (fa F 0), .int s, .int w, .int v] σ ((fChange σ s w v).1) ((fChange σ s w v).2) := by
  refine qx_met (by decide) (Nat.le_of_ble_eq_true rfl) (by intro v hv; simp only [List.mem_cons, List.not_mem_nil, or_false] at hv; rcases hv with rfl | rfl | rfl | rfl <;> rfl) (fun K C => ?_)
  refine qx_aload_n C dX4_change_0 rfl rfl ?_
  refine qx_getR C (j := 0) (k := 1) hiX4 rfl rfl (by decide) qw_194 rfl dX4_change_1 ?_
  refine qx_getIN C (j := 7) (k := 2) hiX1 rfl rfl (by decide) qn_7 rfl dX4_change_4 ?_
  refine qx_if_eq C (tgt := 13) dX4_change_7 (by decide) (fun h7 => ?_) (fun h7 => ?_)
  · refine qx_aload_n C dX4_change_13 rfl rfl ?_
    refine qx_getR C (j := 0) (k := 0) hiX4 rfl rfl (by decide) qw_193 rfl dX4_change_14 ?_
    refine qx_iload_n C dX4_change_17 rfl rfl ?_
    refine qx_callVI C (b := 1) (As := [_]) (n := 1) (c_X3_hasStall F (d + 0) _ _) rfl rfl qw_302 qw_303 qw_304 qw_40 qw_305 ⟨rfl, by decide, by decide, by decide +kernel⟩ (qx_room (by omega) (by decide)) rfl rfl (Nat.le_of_ble_eq_true rfl) dX4_change_18 ?_
    refine qx_split _ (fun h18 => ?_) (fun h18 => ?_)
    · obtain ⟨s0, hs0, rfl⟩ := qx_has hS (by omega) h18
      have is0 : (nI s0).toNatClampNeg = s0 := nI_clamp (by omega)
      refine qx_if_eq_f C (tgt := 32) dX4_change_21 (by decide) (by decide) ?_
      refine qx_iload_n C dX4_change_24 rfl rfl ?_
      refine qx_iload_n C dX4_change_25 rfl rfl ?_
      refine qx_callSI C (As := [_, _]) (n := 2) (c_X4_isTrait F (d + 0) _ _ _ tt hz) qw_283 qw_284 qw_39 qw_285 ⟨rfl, by decide, by decide, by decide +kernel⟩ (qx_room (by omega) (by decide)) rfl rfl (Nat.le_of_ble_eq_true rfl) dX4_change_26 ?_
      refine qx_split _ (fun h26 => ?_) (fun h26 => ?_)
      · obtain ⟨w0, hw0, rfl⟩ := qx_inI 5 (by decide) h26.1
        have iw0 : (nI w0).toNatClampNeg = w0 := nI_clamp (by omega)
        refine qx_if_ne_t C (tgt := 34) dX4_change_29 (by decide) (by decide) ?_
        refine qx_aload_n C dX4_change_34 rfl rfl ?_
        refine qx_getR C (j := 0) (k := 0) hiX4 rfl rfl (by decide) qw_193 rfl dX4_change_35 ?_
        refine qx_iload_n C dX4_change_38 rfl rfl ?_
        refine qx_iload_n C dX4_change_39 rfl rfl ?_
        refine qx_iload_n C dX4_change_40 rfl rfl ?_
        refine qx_callVI C (b := 1) (As := [_, _, _]) (n := 3) (c_X3_setTrait F (d + 0) _ s0 w0 _ (by omega) (by omega)) rfl rfl qw_290 qw_291 qw_292 qw_40 qw_293 ⟨rfl, by decide, by decide, by decide +kernel⟩ (qx_room (by omega) (by decide)) rfl rfl (Nat.le_of_ble_eq_true rfl) dX4_change_41 ?_
        exact qx_iret C dX4_change_44 rfl (by unfold fChange; rw [if_pos h7, if_pos h18, if_pos h26]; simp only [ix, is0, iw0]) (by unfold fChange; rw [if_pos h7, if_pos h18, if_pos h26]; simp only [ix, is0, iw0])
      · refine qx_if_ne_f C (tgt := 34) dX4_change_29 (by decide) (by decide) ?_
        refine qx_iconst C (v := (-1)) dX4_change_32 rfl ?_
        exact qx_iret C dX4_change_33 rfl (by first | rfl | simp [fChange, h7, h18, is0, h26]) (by first | rfl | simp [fChange, h7, h18, is0, h26])
    · refine qx_if_eq_t C (tgt := 32) dX4_change_21 (by decide) (by decide) ?_
      refine qx_iconst C (v := (-1)) dX4_change_32 rfl ?_
      exact qx_iret C dX4_change_33 rfl (by first | rfl | simp [fChange, h7, h18]) (by first | rfl | simp [fChange, h7, h18])
  · refine qx_bipush C (v := (-3)) dX4_change_10 rfl ?_
    exact qx_iret C dX4_change_12 rfl (by first | rfl | simp [fChange, h7]) (by first | rfl | simp [fChange, h7])
