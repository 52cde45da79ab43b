/-! THE CLAIM OUT OF ONE WALK OF THE LAW'S BODY. Your part is whole_start (and what it stands on); all else here is the same for every law, but numbers. -/
def R_law : String := "NightStallsLaw"
def lw_P (b : Addr) (xs : List Int32) (args : Array Value) (s : State) : Prop := args = #[.ref b] ∧ s.IntsAt b xs ∧ xs.length ≤ 3584 ∧ (Jvm.Cond.and given_1 narrow_1).before args s = true
def lw_Q (_ : Array Value) (s : State) (o : Outcome) (t : State) : Prop := o = .returned (some (.int 1)) ∧ Framed s o t [] 600000 7302250
def lw_Z (below : List Frame) (a : Array Value) (s : State) : State → Prop := fun t => ∃ o, t.status = .running ∧ Ended t below o ∧ lw_Q a s o t
/-- the law's own end, with 1 on the stack, nothing written that was there before, its room as the claim has it -/
theorem lw_ret {p : Program} {l : Launch} {e : Env} {s : State} {m : MethodId} {below : List Frame} {meth : Method} {c : Code} {b : Nat} (hx : p.tables.exec = Jvm.exec) (hb : c.code = code) (hr : meth.sig.returnType = ret) (hlocks : meth.locks = false) {pc : Nat} {H : Heap} {ls : Array Slot} (hdg : decode code pc = .ok (.ireturn, 1)) : W p l e room_1 s m #[Value.ref b] below meth c H [] 600000 7302250 (lw_Z below #[Value.ref b] s) (F0 m pc ls [.int 1]) := by
  intro T hT X
  obtain ⟨fs, hret, hrun, hended, hW, hframe⟩ := X.leave (v := some (.int 1)) (hlocks := hlocks) (fun h => by rw [hr] at h; cases h)
  have hmeth' : T.vm.method? m = some meth := X.method'
  refine ⟨T.setFrames fs, ?_, .returned (some (.int 1)), hrun, hended, rfl, ⟨_, rfl⟩, hW, hframe⟩
  jvm_step X.here [X.here.top, hx, hb, hdg, hmeth', hr, ret, narrow_b1]
  (try refine ⟨rfl, ?_⟩); (try refine ⟨rfl, ?_⟩)
  first | (intro acts; rw [hret _ acts rfl rfl rfl]) | rw [hret _ _ rfl rfl rfl]
  exact Steps.refl _
/-- what holds at the law's entry: the machine, the code, the tables' words (any of lw_tbl by 'hts w (by decide +kernel)'), the script of L ints xs at the cell b, what the Statement gives of the start (any of its parts by flat_of_before) -/
def lw_At (p : Program) (s : State) (m : MethodId) (meth : Method) (c : Code) (b L : Nat) (xs : Nat → Int32) : Prop :=
  p.tables.exec = Jvm.exec ∧ c.code = code ∧ meth.sig.returnType = ret ∧ c.maxLocals = 4 ∧ s.vm.findClass R_law = some m.cls ∧ (∀ w ∈ lw_tbl, w.before #[Value.ref b] s = true) ∧ va_X b L xs s s.heap ∧ b < s.heap.size ∧ meth.locks = false ∧ (Jvm.Cond.and given_1 narrow_1).before #[Value.ref b] s = true

/-! the law's own frame: both worlds, side by side -/
abbrev lx_G : Type := Launch × va_G × (Nat → Nat) × (Nat → ClassId) × (Nat → Prop) × (Nat → Nat) × (Nat → Nat) × (Nat → ClassId) × (Nat → Prop)
abbrev gC (G : lx_G) : qx_F := (G.1, G.2.1, G.2.2.1, G.2.2.2.1, G.2.2.2.2.1, qx_zC G.2.2.2.2.2.1)
abbrev gM (G : lx_G) : qx_F := (G.1, G.2.1, G.2.2.2.2.2.2.1, G.2.2.2.2.2.2.2.1, G.2.2.2.2.2.2.2.2, [])
abbrev wCl (G : lx_G) (σ : qx_S) : va_W := qx_w (fa (gC G)) (fc (gC G)) shC σ
abbrev wMo (G : lx_G) (τ : qx_S) : va_W := qx_w (fa (gM G)) (fc (gM G)) shM τ
abbrev lA (K : qx_K) : Nat → Prop := fun q => (ks K).heap.size ≤ q
def lx_C (K : qx_K) (G : lx_G) (b L : Nat) (xs : Nat → Int32) : Prop :=
  (kp K).tables.exec = Jvm.exec ∧ (kc K).code = code ∧ (kc K).maxLocals = 4 ∧ (ks K).vm.findClass R_law = some (km K).cls ∧ (∀ w ∈ qx_W, w.before (ka K) (ks K) = true) ∧ (kM K).sig.returnType = ret ∧ (kM K).locks = false ∧ va_K G.2.1 vwCl (qx_t (fc (gC G)) shC) (ks K) ∧ va_K G.2.1 vwCl (qx_t (fc (gM G)) shM) (ks K) ∧ (∀ w ∈ qx_N, va_Nw w (ks K)) ∧ qx_Z (fz (gC G)) (lA K) (ks K) (ks K).heap ∧ va_X b L xs (ks K) (ks K).heap ∧ b < (ks K).heap.size ∧ ka K = #[Value.ref b]
def lx_D (K : qx_K) (G : lx_G) : Prop := (∀ σ, va_D (fA (gC G)) (wCl G σ)) ∧ (∀ τ, va_D (fA (gM G)) (wMo G τ)) ∧ (∀ q, fA (gC G) q → lA K q) ∧ (∀ q, fA (gM G) q → lA K q) ∧ (∀ (τ : qx_S) (k : Nat) (q : Nat × va_E), (wMo G τ)[k]? = some q → ¬ fA (gC G) q.1) ∧ (∀ (σ : qx_S) (k : Nat) (q : Nat × va_E), (wCl G σ)[k]? = some q → ¬ fA (gM G) q.1)
def lx_X (K : qx_K) (G : lx_G) (cn sn : Nat) (σ τ : qx_S) (pc : Nat) (ls : List (Option Value)) (st : List Value) : Prop :=
  ∀ (H : Heap) (locs : List Loc) (arr : Array Slot), va_P G.2.1 vwCl (wCl G σ) H → va_P G.2.1 vwCl (wMo G τ) H → va_S (lA K) (ks K).heap H locs → qx_l arr 4 ls → W (kp K) G.1 (ke K) room_1 (ks K) (km K) (ka K) (kb K) (kM K) (kc K) H locs cn sn (lw_Z (kb K) (ka K) (ks K)) (F0 (km K) pc arr st)
section LXR
variable {K : qx_K} {G : lx_G} {b L cn sn : Nat} {xs : Nat → Int32} {σ τ : qx_S} {pc : Nat} {ls : List (Option Value)} {st : List Value}
theorem lx_iconst (C : lx_C K G b L xs) {n : Int} {v : Int32} (hd : decode code pc = .ok (.iconst n, 1)) (hv : Int32.ofInt n = v) (kk : lx_X K G cn sn σ τ (pc + 1) ls (.int v :: st)) : lx_X K G cn sn σ τ pc ls st := fun H locs arr hP hM hS hL => lv_iconst C.1 C.2.1 hd hv (kk H locs arr hP hM hS hL)
theorem lx_bipush (C : lx_C K G b L xs) {n : Int} {v : Int32} (hd : decode code pc = .ok (.bipush n, 2)) (hv : (Int8.ofInt n).toInt32 = v) (kk : lx_X K G cn sn σ τ (pc + 2) ls (.int v :: st)) : lx_X K G cn sn σ τ pc ls st := fun H locs arr hP hM hS hL => lv_bipush C.1 C.2.1 hd hv (kk H locs arr hP hM hS hL)
theorem lx_iload_n (C : lx_C K G b L xs) {k : Fin 4} {i : Nat} {x : Int32} (hd : decode code pc = .ok (.iload_n k, 1)) (hi : (k : Nat) = i) (hl : ls[i]? = some (some (.int x))) (kk : lx_X K G cn sn σ τ (pc + 1) ls (.int x :: st)) : lx_X K G cn sn σ τ pc ls st := fun H locs arr hP hM hS hL => lv_iload_n C.1 C.2.1 hd hi (qx_l_at hL hl) (kk H locs arr hP hM hS hL)
theorem lx_aload_n (C : lx_C K G b L xs) {k : Fin 4} {i : Nat} {x : Nat} (hd : decode code pc = .ok (.aload_n k, 1)) (hi : (k : Nat) = i) (hl : ls[i]? = some (some (.ref x))) (kk : lx_X K G cn sn σ τ (pc + 1) ls (.ref x :: st)) : lx_X K G cn sn σ τ pc ls st := fun H locs arr hP hM hS hL => lv_aload_n C.1 C.2.1 hd hi (qx_l_at hL hl) (kk H locs arr hP hM hS hL)
theorem lx_iinc (C : lx_C K G b L xs) {i : Nat} {n : Int} {x v : Int32} (hd : decode code pc = .ok (.iinc i n, 3)) (hl : ls[i]? = some (some (.int x))) (hv : x + Int32.ofInt n = v) (kk : lx_X K G cn sn σ τ (pc + 3) (ls.set i (some (.int v))) st) : lx_X K G cn sn σ τ pc ls st := by
  intro H locs arr hP hM hS hL
  obtain ⟨k, hk⟩ := List.getElem?_of_mem (qx_ll_mem.mpr hl)
  have hn : i < ls.length := (List.getElem?_eq_some_iff.mp hl).1
  exact lv_iinc C.1 C.2.1 hd hL.1 hk hv (Nat.lt_of_lt_of_le hn hL.2.2) rfl (fun arr2 h2 => kk H locs arr2 hP hM hS (qx_l_put hL rfl h2))
theorem lx_iadd (C : lx_C K G b L xs) {x y : Int32} (hd : decode code pc = .ok (.iadd, 1)) (kk : lx_X K G cn sn σ τ (pc + 1) ls (.int (x + y) :: st)) : lx_X K G cn sn σ τ pc ls (.int y :: .int x :: st) := fun H locs arr hP hM hS hL => lv_iadd C.1 C.2.1 hd (kk H locs arr hP hM hS hL)
theorem lx_isub (C : lx_C K G b L xs) {x y : Int32} (hd : decode code pc = .ok (.isub, 1)) (kk : lx_X K G cn sn σ τ (pc + 1) ls (.int (x - y) :: st)) : lx_X K G cn sn σ τ pc ls (.int y :: .int x :: st) := fun H locs arr hP hM hS hL => lv_isub C.1 C.2.1 hd (kk H locs arr hP hM hS hL)
theorem lx_iand (C : lx_C K G b L xs) {x y : Int32} (hd : decode code pc = .ok (.iand, 1)) (kk : lx_X K G cn sn σ τ (pc + 1) ls (.int (x &&& y) :: st)) : lx_X K G cn sn σ τ pc ls (.int y :: .int x :: st) := fun H locs arr hP hM hS hL => lv_iand C.1 C.2.1 hd (kk H locs arr hP hM hS hL)
theorem lx_iaddN (C : lx_C K G b L xs) {a k : Nat} {y : Int32} (hy : y = nI k) (hd : decode code pc = .ok (.iadd, 1)) (kk : lx_X K G cn sn σ τ (pc + 1) ls (.int (nI (a + k)) :: st)) : lx_X K G cn sn σ τ pc ls (.int y :: .int (nI a) :: st) := lx_iadd C hd (by rw [hy, nI_add]; exact kk)
theorem lx_top {x z : Int32} (h : x = z) (kk : lx_X K G cn sn σ τ pc ls (.int z :: st)) : lx_X K G cn sn σ τ pc ls (.int x :: st) := by rw [h]; exact kk
theorem lx_icmp_eq (C : lx_C K G b L xs) {x y : Int32} {off : Int} {tgt : Nat} (hd : decode code pc = .ok (.if_icmp .eq off, 3)) (ht : (pc : Int) + off = (tgt : Int)) (kt : x = y → lx_X K G cn sn σ τ tgt ls st) (kf : ¬ x = y → lx_X K G cn sn σ τ (pc + 3) ls st) : lx_X K G cn sn σ τ pc ls (.int y :: .int x :: st) := fun H locs arr hP hM hS hL => lv_icmp_eq C.1 C.2.1 hd ht (fun h => kt h H locs arr hP hM hS hL) (fun h => kf h H locs arr hP hM hS hL)
theorem lx_icmp_gt (C : lx_C K G b L xs) {x y : Int32} {off : Int} {tgt : Nat} (hd : decode code pc = .ok (.if_icmp .gt off, 3)) (ht : (pc : Int) + off = (tgt : Int)) (kt : y < x → lx_X K G cn sn σ τ tgt ls st) (kf : ¬ y < x → lx_X K G cn sn σ τ (pc + 3) ls st) : lx_X K G cn sn σ τ pc ls (.int y :: .int x :: st) := fun H locs arr hP hM hS hL => lv_icmp_gt C.1 C.2.1 hd ht (fun h => kt h H locs arr hP hM hS hL) (fun h => kf h H locs arr hP hM hS hL)
theorem lx_if_eq (C : lx_C K G b L xs) {x : Int32} {off : Int} {tgt : Nat} (hd : decode code pc = .ok (.ifCond .eq off, 3)) (ht : (pc : Int) + off = (tgt : Int)) (kt : x = 0 → lx_X K G cn sn σ τ tgt ls st) (kf : ¬ x = 0 → lx_X K G cn sn σ τ (pc + 3) ls st) : lx_X K G cn sn σ τ pc ls (.int x :: st) := fun H locs arr hP hM hS hL => lv_if_eq C.1 C.2.1 hd ht (fun h => kt h H locs arr hP hM hS hL) (fun h => kf h H locs arr hP hM hS hL)
theorem lx_goto (C : lx_C K G b L xs) {off : Int} {tgt : Nat} (hd : decode code pc = .ok (.goto off, 3)) (ht : (pc : Int) + off = (tgt : Int)) (kk : lx_X K G cn sn σ τ tgt ls st) : lx_X K G cn sn σ τ pc ls st := fun H locs arr hP hM hS hL => lv_goto C.1 C.2.1 hd ht (kk H locs arr hP hM hS hL)
theorem lx_tableIn (C : lx_C K G b L xs) {dflt lo hi : Int} {offs : Array Int} {len : Nat} {x : Int32} {off : Int} {tgt : Nat} (hd : decode code pc = .ok (.tableswitch dflt lo hi offs, len)) (h1 : ¬ x.toInt < lo) (h2 : ¬ hi < x.toInt) (ho : offs[(x.toInt - lo).toNat]? = some off) (ht : (pc : Int) + off = (tgt : Int)) (kk : lx_X K G cn sn σ τ tgt ls st) : lx_X K G cn sn σ τ pc ls (.int x :: st) := fun H locs arr hP hM hS hL => lv_tableIn C.1 C.2.1 hd h1 h2 ho ht (kk H locs arr hP hM hS hL)
theorem lx_tableOut (C : lx_C K G b L xs) {dflt lo hi : Int} {offs : Array Int} {len : Nat} {x : Int32} {tgt : Nat} (hd : decode code pc = .ok (.tableswitch dflt lo hi offs, len)) (h : x.toInt < lo ∨ hi < x.toInt) (ht : (pc : Int) + dflt = (tgt : Int)) (kk : lx_X K G cn sn σ τ tgt ls st) : lx_X K G cn sn σ τ pc ls (.int x :: st) := fun H locs arr hP hM hS hL => lv_tableOut C.1 C.2.1 hd h ht (kk H locs arr hP hM hS hL)
theorem lx_sld (C : lx_C K G b L xs) {a : Nat} (ha : a < L ∧ L ≤ 3584) (hd : decode code pc = .ok (.iaload, 1)) (kk : lx_X K G cn sn σ τ (pc + 1) ls (.int (xs a) :: st)) : lx_X K G cn sn σ τ pc ls (.int (nI a) :: .ref b :: st) := by
  intro H locs arr hP hM hS hL
  refine va_sld C.1 C.2.1 C.2.2.2.2.2.2.2.2.2.2.2.1 C.2.2.2.2.2.2.2.2.2.2.2.2.1 (Nat.not_le.mpr C.2.2.2.2.2.2.2.2.2.2.2.2.1) hS (vp_in_nI ha.1 (by omega)) hd ?_
  rw [nI_clamp (by omega)]
  exact kk H locs arr hP hM hS hL
theorem lx_slen (C : lx_C K G b L xs) (hd : decode code pc = .ok (.arraylength, 1)) (kk : lx_X K G cn sn σ τ (pc + 1) ls (.int (nI L) :: st)) : lx_X K G cn sn σ τ pc ls (.ref b :: st) := fun H locs arr hP hM hS hL => va_slen C.1 C.2.1 C.2.2.2.2.2.2.2.2.2.2.2.1 C.2.2.2.2.2.2.2.2.2.2.2.2.1 (Nat.not_le.mpr C.2.2.2.2.2.2.2.2.2.2.2.2.1) hS hd (kk H locs arr hP hM hS hL)
theorem lx_end (C : lx_C K G b L xs) (hc : cn ≤ 600000 ∧ sn ≤ 7302250) (hd : decode code pc = .ok (.ireturn, 1)) : lx_X K G cn sn σ τ pc ls ([.int 1]) := by
  intro H locs arr hP hM hS hL
  have ha : ka K = #[Value.ref b] := C.2.2.2.2.2.2.2.2.2.2.2.2.2
  rw [ha]
  refine va_forget (fun q hq => hS.2.2 q hq) ?_
  refine W.widen (k := 600000) (n := 7302250) hc.1 hc.2 ?_
  exact lw_ret C.1 C.2.1 C.2.2.2.2.2.1 C.2.2.2.2.2.2.1 hd
theorem lx_IC (C : lx_C K G b L xs) (Dd : lx_D K G) {H : Heap} {locs : List Loc} (hP : va_P G.2.1 vwCl (wCl G σ) H) (hS : va_S (lA K) (ks K).heap H locs) {U : State} (hU : U.heap = H) (hW : (ks K).WarmedH U.vm) : qx_I (gC G) shC σ U := by
  refine ⟨by rw [hU]; exact hP, va_K.moved hW.alike C.2.2.2.2.2.2.2.1, Dd.1 _, fun w hw => qx_N_warm hW (qx_N_ok w hw) (C.2.2.2.2.2.2.2.2.2.1 w hw), ?_⟩
  intro q hq
  have h1 := C.2.2.2.2.2.2.2.2.2.2.1 q hq
  rw [hU]
  exact ⟨va_Z.narrow (va_Z.moved hW.alike (va_Z.kept h1.1 hS.2.1)) Dd.2.2.1, va_T.narrow (va_T.moved hW.alike (va_T.kept h1.2 hS.2.1)) Dd.2.2.1⟩
set_option maxHeartbeats 1000000 in
theorem lx_callC (C : lx_C K G b L xs) (Dd : lx_D K G) {y : MethodName} {by_ : ByteArray} {maxL n idx : Nat} {rt : Option FieldType} {rm : Room} {As : List Value} {σ1 : qx_S} {r : Int32} {st0 : List Value} (hMt : qx_cI (gC G) shC y (.code y by_ maxL rt :: qx_W) rm (.ref (fa (gC G) 0) :: As) σ r σ1) (h1 : Cond.methodLink R_law idx y ∈ qx_W) (h2 : Cond.instanceMethod y ∈ qx_W) (h3 : Cond.selects "NightStalls" y y ∈ qx_W) (h4 : Cond.initialized "NightStalls" ∈ qx_W) (h5 : Cond.code y by_ maxL rt ∈ qx_W) (hy : y.cls = "NightStalls" ∧ y.cls ≠ "java/lang/invoke/MethodHandle" ∧ y.cls ≠ "java/lang/invoke/VarHandle" ∧ (parseMethodDescriptor y.desc).map (fun d => d.parameters.length) = some n) (hR : rm.cells = 0 ∧ rm.slots = 0 ∧ rm.frames + 1 ≤ 2048 ∧ 8 + (maxL + 11) + rm.locals ≤ 84000) (hc : cn ≤ 600000 ∧ sn ≤ 7302250) (hn : As.length = n) (hstk : st0 = As.reverse ++ .ref (fa (gC G) 0) :: st) (hroom : (st.map fun v => v.category).sum ≤ 8) (hd : decode code pc = .ok (.invokevirtual idx, 3)) (kk : lx_X K G cn sn σ1 τ (pc + 3) ls (.int r :: st)) : lx_X K G cn sn σ τ pc ls st0 := by
  intro H locs arr hP hM hS hL
  subst hstk
  refine va_calli (va_runV (As := As) (rest := st) ⟨C.1, C.2.1, C.2.2.1, C.2.2.2.1, C.2.2.2.2.1⟩ hMt (cwV n C.2.2.2.2.1 (qx_gV h1 h2 h3 h4 h5) rfl hR.1 hR.2.1 hy hR.2.2) ⟨qx_I_blind, va_recv C.2.2.2.2.2.2.2.1 hP (ci := 4) (q0 := 0) rfl (qx_wO _ rfl), fun U hU hW => ⟨rfl, lx_IC C Dd hP hS hU hW⟩⟩ rfl hn hL.1.1 rfl (lv_room hroom) hd ⟨hc.1, hc.2⟩) hS (fun q _ h => Dd.2.2.1 q h) (fun q h => Dd.2.2.1 q h) (fun r2 u t H1 locs1 ht hvm hw hB hz1 hk1 hS1 => ?_)
  obtain ⟨rfl, rfl⟩ := hw
  have hO := va_P.kept hM (fun k q hq => hk1 q.1 ((hM k q hq).lt) (Dd.2.2.2.2.1 τ k q hq))
  exact kk H1 locs1 arr (by rw [← ht]; exact hB.1) hO hS1 hL
theorem lx_IM (C : lx_C K G b L xs) (Dd : lx_D K G) {H : Heap} {locs : List Loc} (hP : va_P G.2.1 vwCl (wMo G τ) H) (hS : va_S (lA K) (ks K).heap H locs) {U : State} (hU : U.heap = H) (hW : (ks K).WarmedH U.vm) : qx_I (gM G) shM τ U := by
  refine ⟨by rw [hU]; exact hP, va_K.moved hW.alike C.2.2.2.2.2.2.2.2.1, Dd.2.1 _, fun w hw => qx_N_warm hW (qx_N_ok w hw) (C.2.2.2.2.2.2.2.2.2.1 w hw), ?_⟩
  intro q hq
  exact absurd hq List.not_mem_nil
set_option maxHeartbeats 1000000 in
theorem lx_callM (C : lx_C K G b L xs) (Dd : lx_D K G) {y : MethodName} {by_ : ByteArray} {maxL n idx : Nat} {rt : Option FieldType} {rm : Room} {As : List Value} {τ1 : qx_S} {r : Int32} {st0 : List Value} (hMt : qx_cI (gM G) shM y (.code y by_ maxL rt :: qx_W) rm (.ref (fa (gM G) 0) :: As) τ r τ1) (h1 : Cond.methodLink R_law idx y ∈ qx_W) (h2 : Cond.instanceMethod y ∈ qx_W) (h3 : Cond.selects "NightStallsModel" y y ∈ qx_W) (h4 : Cond.initialized "NightStallsModel" ∈ qx_W) (h5 : Cond.code y by_ maxL rt ∈ qx_W) (hy : y.cls = "NightStallsModel" ∧ y.cls ≠ "java/lang/invoke/MethodHandle" ∧ y.cls ≠ "java/lang/invoke/VarHandle" ∧ (parseMethodDescriptor y.desc).map (fun d => d.parameters.length) = some n) (hR : rm.cells = 0 ∧ rm.slots = 0 ∧ rm.frames + 1 ≤ 2048 ∧ 8 + (maxL + 11) + rm.locals ≤ 84000) (hc : cn ≤ 600000 ∧ sn ≤ 7302250) (hn : As.length = n) (hstk : st0 = As.reverse ++ .ref (fa (gM G) 0) :: st) (hroom : (st.map fun v => v.category).sum ≤ 8) (hd : decode code pc = .ok (.invokevirtual idx, 3)) (kk : lx_X K G cn sn σ τ1 (pc + 3) ls (.int r :: st)) : lx_X K G cn sn σ τ pc ls st0 := by
  intro H locs arr hP hM hS hL
  subst hstk
  refine va_calli (va_runV (As := As) (rest := st) ⟨C.1, C.2.1, C.2.2.1, C.2.2.2.1, C.2.2.2.2.1⟩ hMt (cwV n C.2.2.2.2.1 (qx_gV h1 h2 h3 h4 h5) rfl hR.1 hR.2.1 hy hR.2.2) ⟨qx_I_blind, va_recv C.2.2.2.2.2.2.2.2.1 hM (ci := 5) (q0 := 0) rfl (qx_wO _ rfl), fun U hU hW => ⟨rfl, lx_IM C Dd hM hS hU hW⟩⟩ rfl hn hL.1.1 rfl (lv_room hroom) hd ⟨hc.1, hc.2⟩) hS (fun q _ h => Dd.2.2.2.1 q h) (fun q h => Dd.2.2.2.1 q h) (fun r2 u t H1 locs1 ht hvm hw hB hz1 hk1 hS1 => ?_)
  obtain ⟨rfl, rfl⟩ := hw
  have hO := va_P.kept hP (fun k q hq => hk1 q.1 ((hP k q hq).lt) (Dd.2.2.2.2.2 σ k q hq))
  exact kk H1 locs1 arr hO (by rw [← ht]; exact hB.1) hS1 hL
end LXR
