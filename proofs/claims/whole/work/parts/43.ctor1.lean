/-! constructors: worlds that grow -/
abbrev nx_U : Type := (Nat → Nat) × (Nat → ClassId)
def nx_C (K : qx_K) (A : Nat → Prop) (cc : ByteArray) (own : String) (R : Room) : Prop :=
  (kp K).tables.exec = Jvm.exec ∧ (kc K).code = cc ∧ (kc K).maxLocals = kn K ∧ (ks K).vm.findClass own = some (km K).cls ∧ (∀ w ∈ qx_W, w.before (ka K) (ks K) = true) ∧ (kM K).name = "<init>" ∧ (kM K).locks = false ∧ (kM K).sig.returnType = none ∧ (∀ q : Nat, (ks K).heap.size ≤ q → A q) ∧ kR K = R
def nx_X (K : qx_K) (l : Launch) (D : va_G) (A : Nat → Prop) (tys : List (ClassId × FieldType)) (ws : va_W) (cells slots : Nat) (pc : Nat) (ls : List (Option Value)) (st : List Value) : Prop :=
  va_K D vwCl tys (ks K) → ∀ (H : Heap) (locs : List Loc) (arr : Array Slot), va_P D vwCl ws H → va_D A ws → va_S A (ks K).heap H locs → qx_l arr (kn K) ls → W (kp K) l (ke K) (kR K) (ks K) (km K) (ka K) (kb K) (kM K) (kc K) H locs cells slots (kQ K) (F0 (km K) pc arr st)
def nx_q (D : va_G) (wsF : nx_U → va_W) (tysF : nx_U → List (ClassId × FieldType)) (A : Nat → Prop) : Array Value → State → Outcome → State → Prop := va_Qv (fun _ : nx_U => True) (fun u t => va_P D vwCl (wsF u) t.heap ∧ va_K D vwCl (tysF u) t ∧ va_D A (wsF u)) A
def nx_p (D : va_G) (As : List Value) (ws0 : va_W) (sz : Nat) : Array Value → State → Prop := va_Pc As (fun U => U.heap.size = sz ∧ va_P D vwCl ws0 U.heap ∧ va_K D vwCl [] U ∧ va_D (fun _ => True) ws0)
def nx_c (l : Launch) (D : va_G) (y : MethodName) (wy : List Cond) (rm : Room) (As : List Value) (ws0 : va_W) (wsF : nx_U → va_W) (tysF : nx_U → List (ClassId × FieldType)) (mc ms : Nat) : Prop :=
  ∀ sz, Met l y wy rm (nx_p D As ws0 sz) (nx_q D wsF tysF (va_A ws0 sz)) mc ms (va_A ws0 sz)
theorem nx_met {l : Launch} {D : va_G} {y : MethodName} {cc : ByteArray} {maxL : Nat} {rm : Room} {As : List Value} {ws0 : va_W} {wsF : nx_U → va_W} {tysF : nx_U → List (ClassId × FieldType)} {mc ms : Nat}
    (hy : plainName y.cls = true) (hlen : As.length ≤ maxL) (hcat : ∀ v ∈ As, v.category = 1) (hyn : y.name = "<init>")
    (body : ∀ (K : qx_K) (A : Nat → Prop), nx_C K A cc y.cls rm → kQ K = MQ (kb K) (nx_q D wsF tysF A) (ka K) (ks K) mc ms A → nx_X K l D A [] ws0 0 0 0 (qx_ls As maxL) []) : nx_c l D y (Cond.code y cc maxL none :: qx_W) rm As ws0 wsF tysF mc ms := by
  intro sz
  refine Met.ofW (cc := cc) (maxL := maxL) (ret := none) hy rfl ?_
  intro p e s m args below meth c s₁ B hml hv
  obtain ⟨rfl, hsz, hP, hK, hD0⟩ := hv
  subst hsz
  have hts := atoms_spec (ws := Cond.code y cc maxL none :: qx_W) B.pre
  have hX := body (p, e, rm, s, m, As.toArray, below, meth, c, MQ below (nx_q D wsF tysF (va_A ws0 s.heap.size)) As.toArray s mc ms (va_A ws0 s.heap.size), maxL) (va_A ws0 s.heap.size) ⟨B.exec, B.bytes, hml, findClass_of_methodNamed B.named, fun w hw => hts w (List.mem_cons_of_mem _ hw), (name_of_methodNamed B.named B.method).1.trans hyn, B.notSynchronized, B.returns, fun q h => Or.inr h, rfl⟩ rfl
  rw [lg_entry_eq]
  exact hX hK s.heap [] _ hP hD0.self va_S.rf (qx_entry As maxL hcat hlen)
section NXR
variable {K : qx_K} {l : Launch} {D : va_G} {A : Nat → Prop} {cc : ByteArray} {own : String} {R : Room} {tys : List (ClassId × FieldType)} {ws : va_W} {cells slots : Nat} {pc : Nat} {ls : List (Option Value)} {st : List Value}
theorem nx_iconst (C : nx_C K A cc own R) {n : Int} {v : Int32} (hd : decode cc pc = .ok (.iconst n, 1)) (hv : Int32.ofInt n = v) (kk : nx_X K l D A tys ws cells slots (pc + 1) ls (.int v :: st)) : nx_X K l D A tys ws cells slots pc ls st := fun hK H locs arr hP hD hS hL => lv_iconst C.1 C.2.1 hd hv (kk hK H locs arr hP hD hS hL)
theorem nx_bipush (C : nx_C K A cc own R) {n : Int} {v : Int32} (hd : decode cc pc = .ok (.bipush n, 2)) (hv : (Int8.ofInt n).toInt32 = v) (kk : nx_X K l D A tys ws cells slots (pc + 2) ls (.int v :: st)) : nx_X K l D A tys ws cells slots pc ls st := fun hK H locs arr hP hD hS hL => lv_bipush C.1 C.2.1 hd hv (kk hK H locs arr hP hD hS hL)
theorem nx_sipush (C : nx_C K A cc own R) {n : Int} {v : Int32} (hd : decode cc pc = .ok (.sipush n, 3)) (hv : (Int16.ofInt n).toInt32 = v) (kk : nx_X K l D A tys ws cells slots (pc + 3) ls (.int v :: st)) : nx_X K l D A tys ws cells slots pc ls st := fun hK H locs arr hP hD hS hL => lv_sipush C.1 C.2.1 hd hv (kk hK H locs arr hP hD hS hL)
theorem nx_iload_n (C : nx_C K A cc own R) {k : Fin 4} {i : Nat} {x : Int32} (hd : decode cc pc = .ok (.iload_n k, 1)) (hi : (k : Nat) = i) (hl : ls[i]? = some (some (.int x))) (kk : nx_X K l D A tys ws cells slots (pc + 1) ls (.int x :: st)) : nx_X K l D A tys ws cells slots pc ls st := fun hK H locs arr hP hD hS hL => lv_iload_n C.1 C.2.1 hd hi (qx_l_at hL hl) (kk hK H locs arr hP hD hS hL)
theorem nx_aload_n (C : nx_C K A cc own R) {k : Fin 4} {i : Nat} {x : Nat} (hd : decode cc pc = .ok (.aload_n k, 1)) (hi : (k : Nat) = i) (hl : ls[i]? = some (some (.ref x))) (kk : nx_X K l D A tys ws cells slots (pc + 1) ls (.ref x :: st)) : nx_X K l D A tys ws cells slots pc ls st := fun hK H locs arr hP hD hS hL => lv_aload_n C.1 C.2.1 hd hi (qx_l_at hL hl) (kk hK H locs arr hP hD hS hL)
theorem nx_istore_n (C : nx_C K A cc own R) {k : Fin 4} {i : Nat} {x : Int32} (hd : decode cc pc = .ok (.istore_n k, 1)) (hi : (k : Nat) = i) (hn : i < ls.length) (kk : nx_X K l D A tys ws cells slots (pc + 1) (ls.set i (some (.int x))) st) : nx_X K l D A tys ws cells slots pc ls (.int x :: st) := fun hK H locs arr hP hD hS hL => lv_istore_n C.1 C.2.1 hd hi hL.1 (Nat.lt_of_lt_of_le hn hL.2.2) rfl (fun arr2 h2 => kk hK H locs arr2 hP hD hS (qx_l_put hL rfl h2))
theorem nx_astore_n (C : nx_C K A cc own R) {k : Fin 4} {i : Nat} {x : Nat} (hd : decode cc pc = .ok (.astore_n k, 1)) (hi : (k : Nat) = i) (hn : i < ls.length) (kk : nx_X K l D A tys ws cells slots (pc + 1) (ls.set i (some (.ref x))) st) : nx_X K l D A tys ws cells slots pc ls (.ref x :: st) := fun hK H locs arr hP hD hS hL => lv_astore_n C.1 C.2.1 hd hi hL.1 (Nat.lt_of_lt_of_le hn hL.2.2) rfl (fun arr2 h2 => kk hK H locs arr2 hP hD hS (qx_l_put hL rfl h2))
theorem nx_iinc (C : nx_C K A cc own R) {i : Nat} {n : Int} {x v : Int32} (hd : decode cc pc = .ok (.iinc i n, 3)) (hl : ls[i]? = some (some (.int x))) (hv : x + Int32.ofInt n = v) (kk : nx_X K l D A tys ws cells slots (pc + 3) (ls.set i (some (.int v))) st) : nx_X K l D A tys ws cells slots pc ls st := by
  intro hK H locs arr hP hD hS hL
  obtain ⟨k, hk⟩ := List.getElem?_of_mem (qx_ll_mem.mpr hl)
  have hn : i < ls.length := (List.getElem?_eq_some_iff.mp hl).1
  exact lv_iinc C.1 C.2.1 hd hL.1 hk hv (Nat.lt_of_lt_of_le hn hL.2.2) rfl (fun arr2 h2 => kk hK H locs arr2 hP hD hS (qx_l_put hL rfl h2))
theorem nx_icmp_ge_t (C : nx_C K A cc own R) {x y : Int32} {off : Int} {tgt : Nat} (hd : decode cc pc = .ok (.if_icmp .ge off, 3)) (ht : (pc : Int) + off = (tgt : Int)) (hc : y ≤ x) (kk : nx_X K l D A tys ws cells slots tgt ls st) : nx_X K l D A tys ws cells slots pc ls (.int y :: .int x :: st) := fun hK H locs arr hP hD hS hL => lv_icmp_ge C.1 C.2.1 hd ht (fun _ => (kk hK H locs arr hP hD hS hL)) (fun h => absurd hc h)
theorem nx_icmp_ge_f (C : nx_C K A cc own R) {x y : Int32} {off : Int} {tgt : Nat} (hd : decode cc pc = .ok (.if_icmp .ge off, 3)) (ht : (pc : Int) + off = (tgt : Int)) (hc : ¬ y ≤ x) (kk : nx_X K l D A tys ws cells slots (pc + 3) ls st) : nx_X K l D A tys ws cells slots pc ls (.int y :: .int x :: st) := fun hK H locs arr hP hD hS hL => lv_icmp_ge C.1 C.2.1 hd ht (fun h => absurd h hc) (fun _ => (kk hK H locs arr hP hD hS hL))
theorem nx_goto (C : nx_C K A cc own R) {off : Int} {tgt : Nat} (hd : decode cc pc = .ok (.goto off, 3)) (ht : (pc : Int) + off = (tgt : Int)) (kk : nx_X K l D A tys ws cells slots tgt ls st) : nx_X K l D A tys ws cells slots pc ls st := fun hK H locs arr hP hD hS hL => lv_goto C.1 C.2.1 hd ht (kk hK H locs arr hP hD hS hL)
theorem nx_dup (C : nx_C K A cc own R) {va : Value} (hd : decode cc pc = .ok (.dup, 1)) (hva : va.category = 1) (kk : nx_X K l D A tys ws cells slots (pc + 1) ls (va :: va :: st)) : nx_X K l D A tys ws cells slots pc ls (va :: st) := fun hK H locs arr hP hD hS hL => lv_dup C.1 C.2.1 hd hva (kk hK H locs arr hP hD hS hL)
theorem nx_objInit (C : nx_C K A cc own R) {idx a : Nat} (h1 : Cond.methodLink own idx Lib.objectInit ∈ qx_W) (h2 : Cond.instanceMethod Lib.objectInit ∈ qx_W) (h3 : Cond.code Lib.objectInit ⟨#[0xb1]⟩ 1 none ∈ qx_W) (hR : 1 ≤ R.frames ∧ 40 ≤ R.locals) (hroom : (st.map fun v => v.category).sum ≤ 8) (hd : decode cc pc = .ok (.invokespecial idx, 3)) (kk : nx_X K l D A tys ws cells slots (pc + 3) ls st) : nx_X K l D A tys ws cells slots pc ls (.ref a :: st) := by
  intro hK H locs arr hP hD hS hL
  have eR : kR K = R := C.2.2.2.2.2.2.2.2.2
  have hr := lv_room (m := km K) (pc := pc) (ls := arr) (rest := .ref a :: st) hroom
  refine W.objInit C.1 C.2.1 C.2.2.2.1 (C.2.2.2.2.1 _ h1) (C.2.2.2.2.1 _ h2) (C.2.2.2.2.1 _ h3) rfl (by rw [C.2.2.1]; exact hL.1.1) rfl hd (by rw [eR]; exact hR.1) (by rw [eR]; omega) ?_
  exact kk hK H locs arr hP hD hS hL
theorem nx_newa (C : nx_C K A cc own R) {n : Int32} {N : Nat} (h1 : Cond.arrayClass .int ∈ qx_W) (hn : ¬ n < 0) (hN : n.toNatClampNeg = N) (hN2 : N < 1000) (hcells : cells + 1 ≤ R.cells) (hslots : slots + N ≤ R.slots) (hd : decode cc pc = .ok (.newarray .int, 2)) (kk : ∀ (q : Nat) (cA : ClassId), nx_X K l D A (tys ++ [(cA, FieldType.int)]) (ws ++ [(q, .inl (cA, N, .inl (fun _ => 0)))]) (cells + 1) (slots + N) (pc + 2) ls (.ref q :: st)) : nx_X K l D A tys ws cells slots pc ls (.int n :: st) := by
  intro hK H locs arr hP hD hS hL
  have eR : kR K = R := C.2.2.2.2.2.2.2.2.2
  refine va_newa (atype := .int) C.1 C.2.1 (C.2.2.2.2.1 _ h1) rfl hK hP hD hS C.2.2.2.2.2.2.2.2.1 (a0 := (N, .inl (fun _ => 0))) (fun _ => rfl) hn hN (by show N * 4 ≤ _; omega) (by rw [eR]; exact hcells) (by rw [eR]; exact hslots) hd (fun q cA H1 hK1 hP1 hD1 hS1 => ?_)
  exact kk q cA hK1 H1 locs arr hP1 hD1 hS1 hL
theorem nx_new (C : nx_C K A cc own R) {Cn : String} {T : u_T} {N ci idx : Nat} {fs : List Value} (ty : Nat → FieldType) (hin : ∀ w ∈ u_ws Cn T N, w ∈ qx_W) (hty : ∀ k, k < N → parseFieldDescriptor (T k).2.2.1 = some (ty k)) (h1 : Cond.classLink own idx Cn ∈ qx_W) (h2 : Cond.instantiable Cn N ∈ qx_W) (h3 : Cond.initialized Cn ∈ qx_W) (hc : vwCl[ci]? = some (Cn, T, N)) (hfs : ∀ j, j < N → defaultValue (ty j) = vp_V fs j) (hcells : cells + 1 ≤ R.cells) (hslots : slots + N ≤ R.slots) (hd : decode cc pc = .ok (.new idx, 3)) (kk : ∀ q : Nat, nx_X K l D A tys (ws ++ [(q, .inr (ci, fs))]) (cells + 1) (slots + N) (pc + 3) ls (.ref q :: st)) : nx_X K l D A tys ws cells slots pc ls st := by
  intro hK H locs arr hP hD hS hL
  have eR : kR K = R := C.2.2.2.2.2.2.2.2.2
  refine va_new C.1 C.2.1 C.2.2.2.2.1 hin ty hty C.2.2.2.1 (C.2.2.2.2.1 _ h1) (C.2.2.2.2.1 _ h2) (C.2.2.2.2.1 _ h3) hK hP hD hS C.2.2.2.2.2.2.2.2.1 hc hfs (by rw [eR]; exact hcells) (by rw [eR]; exact hslots) hd (fun q H1 hP1 hD1 hS1 => ?_)
  exact kk q hK H1 locs arr hP1 hD1 hS1 hL
theorem nx_putF (C : nx_C K A cc own R) {Cn : String} {T : u_T} {N ci idx q0 k a : Nat} {fs : List Value} {v : Value} {ws2 : va_W} (ty0 : Nat → FieldType) (hin : ∀ w ∈ u_ws Cn T N, w ∈ qx_W) (hty : ∀ k, k < N → parseFieldDescriptor (T k).2.2.1 = some (ty0 k)) (hnm : ∀ a, a < N → ∀ b, b < N → a ≠ b → (T a).2.1 ≠ (T b).2.1) (he : ws[q0]? = some (a, .inr (ci, fs))) (hc : vwCl[ci]? = some (Cn, T, N)) (hk : k < N) (hlink : Cond.fieldLink own idx (T k).1 (T k).2.1 (T k).2.2.1 ∈ qx_W) (hfin : (T k).2.2.2 = true) (hdecl : (T k).1 = own) (hn : narrow (ty0 k) v = v) (hfit : fits (ty0 k) v = true) (hl : k < fs.length) (hd : decode cc pc = .ok (.putfield idx, 3)) (h2 : ws.set q0 (a, .inr (ci, fs.set k v)) = ws2) (kk : nx_X K l D A tys ws2 cells slots (pc + 3) ls st) : nx_X K l D A tys ws cells slots pc ls (v :: .ref a :: st) := by
  intro hK H locs arr hP hD hS hL
  subst h2
  exact va_putF C.1 C.2.1 C.2.2.2.2.1 hin ty0 hty hnm C.2.2.2.1 hK hP hD hS q0 he hc k hk (C.2.2.2.2.1 _ hlink) (fun _ h => h) hfin C.2.2.2.2.2.1 hdecl (hty k hk) hn hfit hl hd (fun H1 locs1 h1 h2 h3 => kk hK H1 locs1 arr h1 h2 h3 hL)
theorem nx_put (C : nx_C K A cc own R) {Cn : String} {T : u_T} {N ci idx q0 k a : Nat} {fs : List Value} {v : Value} {ws2 : va_W} (ty0 : Nat → FieldType) (hin : ∀ w ∈ u_ws Cn T N, w ∈ qx_W) (hty : ∀ k, k < N → parseFieldDescriptor (T k).2.2.1 = some (ty0 k)) (hnm : ∀ a, a < N → ∀ b, b < N → a ≠ b → (T a).2.1 ≠ (T b).2.1) (he : ws[q0]? = some (a, .inr (ci, fs))) (hc : vwCl[ci]? = some (Cn, T, N)) (hk : k < N) (hlink : Cond.fieldLink own idx (T k).1 (T k).2.1 (T k).2.2.1 ∈ qx_W) (hfin : (T k).2.2.2 = false) (hn : narrow (ty0 k) v = v) (hfit : fits (ty0 k) v = true) (hl : k < fs.length) (hd : decode cc pc = .ok (.putfield idx, 3)) (h2 : ws.set q0 (a, .inr (ci, fs.set k v)) = ws2) (kk : nx_X K l D A tys ws2 cells slots (pc + 3) ls st) : nx_X K l D A tys ws cells slots pc ls (v :: .ref a :: st) := by
  intro hK H locs arr hP hD hS hL
  subst h2
  exact va_put C.1 C.2.1 C.2.2.2.2.1 hin ty0 hty hnm C.2.2.2.1 hK hP hD hS q0 he hc k hk (C.2.2.2.2.1 _ hlink) (fun _ h => h) hfin (hty k hk) hn hfit hl hd (fun H1 locs1 h1 h2 h3 => kk hK H1 locs1 arr h1 h2 h3 hL)
theorem nx_get (C : nx_C K A cc own R) {Cn : String} {T : u_T} {N ci idx q0 k a : Nat} {fs : List Value} {v : Value} (hin : ∀ w ∈ u_ws Cn T N, w ∈ qx_W) (he : ws[q0]? = some (a, .inr (ci, fs))) (hc : vwCl[ci]? = some (Cn, T, N)) (hk : k < N) (hlink : Cond.fieldLink own idx (T k).1 (T k).2.1 (T k).2.2.1 ∈ qx_W) (hv : fs[k]? = some v) (hd : decode cc pc = .ok (.getfield idx, 3)) (kk : nx_X K l D A tys ws cells slots (pc + 3) ls (v :: st)) : nx_X K l D A tys ws cells slots pc ls (.ref a :: st) := fun hK H locs arr hP hD hS hL => va_get C.1 C.2.1 C.2.2.2.2.1 hin C.2.2.2.1 hK hP q0 he hc k hk (C.2.2.2.2.1 _ hlink) (fun _ h => h) hv hd (kk hK H locs arr hP hD hS hL)
theorem nx_iast (C : nx_C K A cc own R) {q0 t0 a n : Nat} {cA : ClassId} {f : Nat → Int32} {i x : Int32} {k : Nat} {ws2 : va_W} (ha : ws[q0]? = some (a, .inl (cA, n, .inl f))) (ht : tys[t0]? = some (cA, .int)) (hi : vp_in i n) (hk : i.toNatClampNeg = k) (hd : decode cc pc = .ok (.iastore, 1)) (h2 : ws.set q0 (a, .inl (cA, n, .inl (upd f k x))) = ws2) (kk : nx_X K l D A tys ws2 cells slots (pc + 1) ls st) : nx_X K l D A tys ws cells slots pc ls (.int x :: .int i :: .ref a :: st) := by
  intro hK H locs arr hP hD hS hL
  subst h2
  subst hk
  exact va_iast C.1 C.2.1 hK hP hD hS q0 t0 ha ht hi hd (fun H1 locs1 h1 h2 h3 => kk hK H1 locs1 arr h1 h2 h3 hL)
theorem nx_ws {ws2 : va_W} {tys2 : List (ClassId × FieldType)} (h : ws = ws2) (h3 : tys = tys2) (kk : nx_X K l D A tys2 ws2 cells slots pc ls st) : nx_X K l D A tys ws cells slots pc ls st := by subst h; subst h3; exact kk
theorem nx_ret {wsF : nx_U → va_W} {tysF : nx_U → List (ClassId × FieldType)} (C : nx_C K A cc own R) (hQ : kQ K = MQ (kb K) (nx_q D wsF tysF A) (ka K) (ks K) cells slots A) (hd : decode cc pc = .ok (.return_, 1)) (u : nx_U) (is ts : List Nat) (h1 : is.filterMap (fun i => ws[i]?) = wsF u) (h2 : is.map (fun i => ws[i]?) = (wsF u).map some) (h3 : va_nd is = true) (h4 : ts.filterMap (fun i => tys[i]?) = tysF u) : nx_X K l D A tys ws cells slots pc ls [] := by
  intro hK H locs arr hP hD hS hL
  rw [hQ]
  exact W.vret C.1 C.2.1 C.2.2.2.2.2.2.2.1 (fun t ht hW => ⟨⟨u, rfl, trivial, by rw [ht]; exact hP.sub is h1, va_K.moved hW.alike (hK.sub ts h4), hD.sub is h3 h2⟩, hS.F ht⟩) hS.2.2 hd C.2.2.2.2.2.2.1
set_option maxHeartbeats 1000000 in
theorem nx_call (C : nx_C K A cc own R) {y : MethodName} {by_ : ByteArray} {maxL n idx q mc ms : Nat} {rm : Room} {As : List Value} {e0 : va_E} {rest : va_W} {wsF : nx_U → va_W} {tysF : nx_U → List (ClassId × FieldType)} {st0 : List Value} (hM : nx_c l D y (.code y by_ maxL none :: qx_W) rm (.ref q :: As) [(q, e0)] wsF tysF mc ms) (h1 : Cond.methodLink own idx y ∈ qx_W) (h2 : Cond.instanceMethod y ∈ qx_W) (h3 : Cond.initialized y.cls ∈ qx_W) (h5 : Cond.code y by_ maxL none ∈ qx_W) (hy1 : y.name = "<init>") (hy : y.cls ≠ "java/lang/invoke/MethodHandle" ∧ y.cls ≠ "java/lang/invoke/VarHandle" ∧ (parseMethodDescriptor y.desc).map (fun d => d.parameters.length) = some n) (hR : rm.cells = mc ∧ rm.slots = ms ∧ rm.frames + 1 ≤ R.frames ∧ 8 + (maxL + 11) + rm.locals ≤ R.locals) (hn : As.length = n) (hstk : st0 = As.reverse ++ .ref q :: st) (hroom : (st.map fun v => v.category).sum ≤ 8) (hcs : cells + mc ≤ R.cells ∧ slots + ms ≤ R.slots) (isC isR : List Nat) (hC : isC.map (fun i => ws[i]?) = [(q, e0)].map some) (hC2 : isC.filterMap (fun i => ws[i]?) = [(q, e0)]) (hC3 : va_nd isC = true) (hRr : isR.map (fun i => ws[i]?) = rest.map some) (hnd : va_nd isR = true) (hdis : ∀ i ∈ isR, i ∉ isC) (hd : decode cc pc = .ok (.invokespecial idx, 3)) (kk : ∀ u : nx_U, nx_X K l D A (tys ++ tysF u) (rest ++ wsF u) (cells + mc) (slots + ms) (pc + 3) ls st) : nx_X K l D A tys ws cells slots pc ls st0 := by
  intro hK H locs arr hP hD hS hL
  subst hstk
  have eR : kR K = R := C.2.2.2.2.2.2.2.2.2
  have hPc := hP.sub isC hC2
  have hDc := hD.sub isC hC3 hC
  have hKc := hK.sub (tys' := []) [] rfl
  have hFc := va_free (wc := [(q, e0)]) hD hS C.2.2.2.2.2.2.2.2.1 isC hC
  refine va_callv (va_runI (As := As) (rest := st) ⟨C.1, C.2.1, C.2.2.1, C.2.2.2.1, C.2.2.2.2.1⟩ (hM H.size) (cwI n C.2.2.2.2.1 (qx_gC h5) rfl hR.1 hR.2.1 (C.2.2.2.2.1 _ h3) (C.2.2.2.2.1 _ h1) (C.2.2.2.2.1 _ h2) hy1 hy (by rw [eR]; exact hR.2.2)) ⟨fun a U g mk q => by obtain ⟨q0, q1, qP, qK, qD⟩ := q; exact ⟨q0, q1, qP, va_K.moved (u := U) (U := U.calling g mk a) (Vm.Alike.refl U.vm) qK, qD⟩, fun U hU hW => ⟨rfl, by rw [hU], by rw [hU]; exact hPc, va_K.moved hW.alike hKc, hDc.weaken (fun _ _ _ _ => trivial)⟩⟩ rfl hn hL.1.1 rfl (lv_room hroom) hd (by rw [eR]; exact hcs)) hS (fun q _ h => hFc q h) hFc (fun u t H1 locs1 ht hvm hw hB hz1 hk1 hS1 => ?_)
  obtain ⟨hP1, hK1, hD1⟩ := hB
  rw [ht] at hP1
  have hK1 := va_K.moved hvm.symm hK1
  obtain ⟨hP2, hD2⟩ := va_join (wr := rest) (w1 := wsF u) hP hD isC isR hC hRr hnd hdis hk1 hFc hP1 hD1
  exact kk u (hK.app hK1) H1 locs1 arr hP2 hD2 hS1 hL
end NXR
