set_option maxRecDepth 100000 in
set_option maxHeartbeats 8000000 in
theorem whole_open {p : Program} {e : Env} {s : State} {m : MethodId} {below : List Frame} {meth : Method} {c : Code} (l : Launch) {b L : Nat} {xs : Nat → Int32} (R : qx_S → qx_S → Prop) (hR : LawOK R) (h0 : R iC iM) (hL : L ≤ 3584) (C0 : lw_At p s m meth c b L xs) : W p l e room_1 s m #[Value.ref b] below meth c s.heap [] 0 0 (lw_Z below #[Value.ref b] s) (entryFrame m ([Value.ref b] : List Value).toArray 4) := by
  obtain ⟨hx, hb, hr, hml, hown, hts, hX, hbl, hlocks, hgv⟩ := C0
  have hA : ∀ q : Nat, s.heap.size ≤ q → (fun q : Nat => s.heap.size ≤ q) q := fun _ h => h
  have hW : ∀ w ∈ qx_W, w.before #[Value.ref b] s = true := fun w hw => hts w (List.mem_filter.mp hw).1
  have hN : ∀ w ∈ qx_N, va_Nw w s := by
    intro w hw
    have hk := qx_N_ok w hw
    have h2 : w ∈ lw_tbl := qx_N_tbl w hw
    have h3 := hts w h2
    cases w <;> first | exact va_Nw.of rfl h3 | (exact absurd hk (by simp [qx_Nk]))
  obtain ⟨tt, hZ⟩ := lw_statics hts hgv
  obtain ⟨D, hK⟩ := lw_known hW
  have hS : va_S (fun q : Nat => s.heap.size ≤ q) s.heap s.heap [] := va_S.rf
  have hP : va_P D vwCl [] s.heap := fun k q h => by simp at h
  have hD : va_D (fun q : Nat => s.heap.size ≤ q) [] := ⟨fun i j p q h => by simp at h, fun k q h => by simp at h⟩
  have hl := lv_entry ([.ref b]) (n := 4) (Nat.le_of_ble_eq_true rfl)
  rw [lg_entry_eq]
  generalize (lg_sl ([.ref b]) ++ List.replicate (4 - (lg_sl ([.ref b])).length) Slot.unset).toArray = ls at hl ⊢
  have hl : lv_has ls 4 [(0, .ref b)] := hl
  refine va_new (ci := 4) (fs := [.null, .null, .null, .null, .null, .int 0]) (C := RX4) (T := TX4) (N := 6) hx hb hW hiX4 tyX4 tyX4_ok hown (hW _ qw_47) (hW _ qw_48) (hW _ qw_39) hK hP hD hS hA rfl (by decide +kernel) (Nat.le_of_ble_eq_true rfl) (Nat.le_of_ble_eq_true rfl) dL_law_0 (fun x0 H hP hD hS => ?_)
  refine lv_dup hx hb dL_law_3 rfl ?_
  have hPc := hP.sub (ws' := [(x0, .inr (4, [.null, .null, .null, .null, .null, .int 0]))]) [0] rfl
  have hDc := hD.sub (ws' := [(x0, .inr (4, [.null, .null, .null, .null, .null, .int 0]))]) [0] (by decide) rfl
  have hFc := va_free (wc := [(x0, .inr (4, [.null, .null, .null, .null, .null, .int 0]))]) hD hS hA [0] rfl
  refine va_callv (va_runI (As := []) (rest := [.ref x0]) ⟨hx, hb, hml, hown, hW⟩ (c_X4_init l D x0 H.size) (cwI 0 hW (qx_gC qw_51) rfl rfl rfl (hW _ qw_39) (hW _ qw_49) (hW _ qw_50) rfl (by decide +kernel) ⟨Nat.le_of_ble_eq_true rfl, Nat.le_of_ble_eq_true rfl⟩) ⟨fun a U g mk q => by obtain ⟨q0, q1, qP, qK, qD⟩ := q; exact ⟨q0, q1, qP, va_K.moved (u := U) (U := U.calling g mk a) (Vm.Alike.refl U.vm) qK, qD⟩, fun U hU hW => ⟨rfl, by rw [hU], by rw [hU]; exact hPc, va_K.moved hW.alike hK, hDc.weaken (fun _ _ _ _ => trivial)⟩⟩ rfl rfl hl.1 rfl (lv_room (Nat.le_of_ble_eq_true rfl)) dL_law_4 ⟨Nat.le_of_ble_eq_true rfl, Nat.le_of_ble_eq_true rfl⟩) hS (fun q _ h => hFc q h) hFc (fun u t H1 locs ht hvm hw hB hz1 hk1 hS => ?_)
  obtain ⟨hP1, hK1, hD1⟩ := hB
  rw [ht] at hP1
  have hK1 := va_K.moved hvm.symm hK1
  obtain ⟨hP, hD⟩ := va_join (wr := []) (w1 := qx_w (xA x0 u.1) u.2 shC iC) hP hD [0] [] rfl rfl (by decide) (by decide) hk1 hFc hP1 hD1
  rw [List.nil_append] at hP hD
  generalize H1 = H at hP hS ⊢
  refine lv_astore_n (lv' := [(1, .ref x0), (0, .ref b)]) hx hb dL_law_7 rfl hl (by decide) rfl (fun ls hl => ?_)
  refine va_new (ci := 5) (fs := [.null, .null, .null, .null, .null, .null, .int 0, .null, .null, .null, .int 0, .int 0, .int 0]) (C := RX5) (T := TX5) (N := 13) hx hb hW hiX5 tyX5 tyX5_ok hown (hW _ qw_576) (hW _ qw_577) (hW _ qw_44) hK hP hD hS hA rfl (by decide +kernel) (Nat.le_of_ble_eq_true rfl) (Nat.le_of_ble_eq_true rfl) dL_law_8 (fun m0 H hP hD hS => ?_)
  refine lv_dup hx hb dL_law_11 rfl ?_
  have hlen : (qx_w (xA x0 u.1) u.2 shC iC).length = 46 := by rw [qx_w_len]; rfl
  have hat : (qx_w (xA x0 u.1) u.2 shC iC ++ [(m0, .inr (5, [.null, .null, .null, .null, .null, .null, .int 0, .null, .null, .null, .int 0, .int 0, .int 0]))])[46]? = some (m0, .inr (5, [.null, .null, .null, .null, .null, .null, .int 0, .null, .null, .null, .int 0, .int 0, .int 0])) := by rw [List.getElem?_append_right (by omega), hlen]; rfl
  have hPc : va_P D vwCl [(m0, .inr (5, [.null, .null, .null, .null, .null, .null, .int 0, .null, .null, .null, .int 0, .int 0, .int 0]))] H := hP.sub [46] (by simp only [List.filterMap_cons, hat, List.filterMap_nil])
  have hC1 : [46].map (fun i => (qx_w (xA x0 u.1) u.2 shC iC ++ [(m0, .inr (5, [.null, .null, .null, .null, .null, .null, .int 0, .null, .null, .null, .int 0, .int 0, .int 0]))])[i]?) = [(m0, .inr (5, [.null, .null, .null, .null, .null, .null, .int 0, .null, .null, .null, .int 0, .int 0, .int 0]))].map some := by simp only [List.map_cons, hat, List.map_nil]
  have hDc : va_D _ [(m0, .inr (5, [.null, .null, .null, .null, .null, .null, .int 0, .null, .null, .null, .int 0, .int 0, .int 0]))] := hD.sub [46] (by decide) hC1
  have hFc := va_free (wc := [(m0, .inr (5, [.null, .null, .null, .null, .null, .null, .int 0, .null, .null, .null, .int 0, .int 0, .int 0]))]) hD hS hA [46] hC1
  have hRr : (List.range 46).map (fun i => (qx_w (xA x0 u.1) u.2 shC iC ++ [(m0, .inr (5, [.null, .null, .null, .null, .null, .null, .int 0, .null, .null, .null, .int 0, .int 0, .int 0]))])[i]?) = (qx_w (xA x0 u.1) u.2 shC iC).map some := by rw [← hlen]; exact nx_rng _ _
  refine va_callv (va_runI (As := []) (rest := [.ref m0]) ⟨hx, hb, hml, hown, hW⟩ (c_X5_init l D m0 H.size) (cwI 0 hW (qx_gC qw_580) rfl rfl rfl (hW _ qw_44) (hW _ qw_578) (hW _ qw_579) rfl (by decide +kernel) ⟨Nat.le_of_ble_eq_true rfl, Nat.le_of_ble_eq_true rfl⟩) ⟨fun a U g mk q => by obtain ⟨q0, q1, qP, qK, qD⟩ := q; exact ⟨q0, q1, qP, va_K.moved (u := U) (U := U.calling g mk a) (Vm.Alike.refl U.vm) qK, qD⟩, fun U hU hW => ⟨rfl, by rw [hU], by rw [hU]; exact hPc, va_K.moved hW.alike hK, hDc.weaken (fun _ _ _ _ => trivial)⟩⟩ rfl rfl hl.1 rfl (lv_room (Nat.le_of_ble_eq_true rfl)) dL_law_12 ⟨Nat.le_of_ble_eq_true rfl, Nat.le_of_ble_eq_true rfl⟩) hS (fun q _ h => hFc q h) hFc (fun v t H1 locs ht hvm hw hB hz1 hk1 hS => ?_)
  obtain ⟨hP2, hK2, hD2⟩ := hB
  rw [ht] at hP2
  have hK2 := va_K.moved hvm.symm hK2
  obtain ⟨hP, hD⟩ := va_join (wr := qx_w (xA x0 u.1) u.2 shC iC) (w1 := qx_w (xA m0 v.1) v.2 shM iM) hP hD [46] (List.range 46) hC1 hRr (by decide +kernel) (by decide +kernel) hk1 hFc hP2 hD2
  generalize H1 = H at hP hS ⊢
  refine lv_astore_n (lv' := [(2, .ref m0), (1, .ref x0), (0, .ref b)]) hx hb dL_law_15 rfl hl (by decide) rfl (fun ls hl => ?_)
  refine lv_iconst (v := 0) hx hb dL_law_16 (by decide) ?_
  refine lv_istore_n (lv' := [(3, .int 0), (2, .ref m0), (1, .ref x0), (0, .ref b)]) hx hb dL_law_17 rfl hl (by decide) rfl (fun ls hl => ?_)
  have hC : lx_C (p, e, room_1, s, m, #[Value.ref b], below, meth, c, (fun _ => True), 4) (l, D, xA x0 u.1, u.2, (fun q => ∃ j, j < 46 ∧ q = xA x0 u.1 j), tt, xA m0 v.1, v.2, (fun q => ∃ j, j < 10 ∧ q = xA m0 v.1 j)) b L xs := ⟨hx, hb, hml, hown, hW, hr, hlocks, hK1, hK2, hN, hZ, hX, hbl, rfl⟩
  have hDd : lx_D (p, e, room_1, s, m, #[Value.ref b], below, meth, c, (fun _ => True), 4) (l, D, xA x0 u.1, u.2, (fun q => ∃ j, j < 46 ∧ q = xA x0 u.1 j), tt, xA m0 v.1, v.2, (fun q => ∃ j, j < 10 ∧ q = xA m0 v.1 j)) := lx_D_of hD
  refine lw_loop hC hDd ⟨by decide, by decide⟩ hL R hR (L + 1) 0 iC iM (Nat.zero_le L) (by omega) h0 H _ ls (va_P_l hP) (va_P_r hP) hS (lw_ls hl)
