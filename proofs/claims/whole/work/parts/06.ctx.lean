/-! the words on private members of nest mates, which go with the state -/
def qx_N : List Cond := [.fieldLinkNest "NightStalls" 109 "NightStalls$Plan" "bestRent" "I" "NightStalls",
  .fieldLinkNest "NightStalls" 120 "NightStalls$Night" "tick" "I" "NightStalls",
  .fieldLinkNest "NightStalls" 123 "NightStalls$Night" "guests" "LNightStalls$Guests;" "NightStalls",
  .fieldLinkNest "NightStalls" 127 "NightStalls$Guests" "count" "I" "NightStalls",
  .fieldLinkNest "NightStalls" 138 "NightStalls$Night" "tripped" "[I" "NightStalls",
  .fieldLinkNest "NightStalls" 141 "NightStalls$Night" "plugged" "[I" "NightStalls",
  .fieldLinkNest "NightStalls" 165 "NightStalls$Street" "places" "I" "NightStalls",
  .fieldLinkNest "NightStalls" 42 "NightStalls$Night" "isOpen" "Z" "NightStalls",
  .fieldLinkNest "NightStalls" 89 "NightStalls$Street" "stalls" "I" "NightStalls",
  .fieldLinkNest "NightStalls$Night" 109 "NightStalls$Guests" "state" "[I" "NightStalls",
  .fieldLinkNest "NightStalls$Night" 118 "NightStalls$Street" "places" "I" "NightStalls",
  .fieldLinkNest "NightStalls$Night" 124 "NightStalls$Guests" "place" "[I" "NightStalls",
  .fieldLinkNest "NightStalls$Night" 127 "NightStalls$Guests" "dish" "[I" "NightStalls",
  .fieldLinkNest "NightStalls$Night" 45 "NightStalls$Guests" "count" "I" "NightStalls",
  .fieldLinkNest "NightStalls$Plan" 35 "NightStalls$Street" "places" "I" "NightStalls",
  .fieldLinkNest "NightStalls$Plan" 56 "NightStalls$Street" "stalls" "I" "NightStalls",
  .methodLinkNest "NightStalls$Guests" 34 ⟨"NightStalls", "copyNumbers", "([I[I)V"⟩ "NightStalls",
  .methodLinkNest "NightStalls$Night" 138 ⟨"NightStalls", "copyNumbers", "([I[I)V"⟩ "NightStalls",
  .methodLinkNest "NightStalls$Plan" 79 ⟨"NightStalls", "copyNumbers", "([I[I)V"⟩ "NightStalls",
  .methodLinkNest "NightStalls$Street" 34 ⟨"NightStalls", "isWithin", "(III)Z"⟩ "NightStalls",
  .methodLinkNest "NightStalls$Street" 49 ⟨"NightStalls", "copyNumbers", "([I[I)V"⟩ "NightStalls"]
def qx_Nk : Cond → Bool
  | .fieldLinkNest _ _ _ _ _ _ => true
  | .methodLinkNest _ _ _ _ => true
  | _ => false
theorem qx_N_ok : ∀ w ∈ qx_N, qx_Nk w = true := by decide +kernel
theorem qx_N_warm {s U : State} (hW : s.WarmedH U.vm) {w : Cond} (hw : qx_Nk w = true) (h : va_Nw w s) : va_Nw w U := by
  cases w <;> first | exact va_Nw.warmF hW h | exact va_Nw.warmM hW h | (exact absurd hw (by simp [qx_Nk]))
theorem qx_N_same {u U : State} (hv : u.vm = U.vm) {w : Cond} (hw : qx_Nk w = true) (h : va_Nw w u) : va_Nw w U := by
  cases w <;> first | exact va_Nw.same rfl hv h | (exact absurd hw (by simp [qx_Nk]))
abbrev qx_zs : Type := List (String × Nat × Nat × (Nat → Int32))
def qx_Z (zs : qx_zs) (A : Nat → Prop) (U : State) (H : Heap) : Prop := ∀ q ∈ zs, va_Z RX4 q.1 "[I" (.ref q.2.1) A U H ∧ va_T .int q.2.1 q.2.2.1 (fun j => .int (q.2.2.2 j)) A U H
/-! the frame of the worlds: launch, classes, addresses, array classes, what may change, statics -/
abbrev qx_F : Type := Launch × va_G × (Nat → Nat) × (Nat → ClassId) × (Nat → Prop) × qx_zs
abbrev fl (F : qx_F) : Launch := F.1
abbrev fD (F : qx_F) : va_G := F.2.1
abbrev fa (F : qx_F) : Nat → Nat := F.2.2.1
abbrev fc (F : qx_F) : Nat → ClassId := F.2.2.2.1
abbrev fA (F : qx_F) : Nat → Prop := F.2.2.2.2.1
abbrev fz (F : qx_F) : qx_zs := F.2.2.2.2.2
/-! the machine in a method -/
abbrev qx_K : Type := Program × Env × Room × State × MethodId × Array Value × List Frame × Method × Code × (State → Prop) × Nat
abbrev kp (K : qx_K) : Program := K.1
abbrev ke (K : qx_K) : Env := K.2.1
abbrev kR (K : qx_K) : Room := K.2.2.1
abbrev ks (K : qx_K) : State := K.2.2.2.1
abbrev km (K : qx_K) : MethodId := K.2.2.2.2.1
abbrev ka (K : qx_K) : Array Value := K.2.2.2.2.2.1
abbrev kb (K : qx_K) : List Frame := K.2.2.2.2.2.2.1
abbrev kM (K : qx_K) : Method := K.2.2.2.2.2.2.2.1
abbrev kc (K : qx_K) : Code := K.2.2.2.2.2.2.2.2.1
abbrev kQ (K : qx_K) : State → Prop := K.2.2.2.2.2.2.2.2.2.1
abbrev kn (K : qx_K) : Nat := K.2.2.2.2.2.2.2.2.2.2
def qx_I (F : qx_F) (sh : qx_H) (σ : qx_S) (U : State) : Prop := va_P (fD F) vwCl (qx_w (fa F) (fc F) sh σ) U.heap ∧ va_K (fD F) vwCl (qx_t (fc F) sh) U ∧ va_D (fA F) (qx_w (fa F) (fc F) sh σ) ∧ (∀ w ∈ qx_N, va_Nw w U) ∧ qx_Z (fz F) (fA F) U U.heap
def qx_C (K : qx_K) (F : qx_F) (sh : qx_H) (cc : ByteArray) (own : String) (ret : Option FieldType) (R : Room) (Qc : Array Value → State → Outcome → State → Prop) : Prop :=
  (kp K).tables.exec = Jvm.exec ∧ (kc K).code = cc ∧ (kc K).maxLocals = kn K ∧ (ks K).vm.findClass own = some (km K).cls ∧ (∀ w ∈ qx_W, w.before (ka K) (ks K) = true) ∧ (kM K).sig.returnType = ret ∧ (kM K).locks = false ∧ va_K (fD F) vwCl (qx_t (fc F) sh) (ks K) ∧ (∀ w ∈ qx_N, va_Nw w (ks K)) ∧ qx_Z (fz F) (fA F) (ks K) (ks K).heap ∧ kR K = R ∧ kQ K = MQ (kb K) Qc (ka K) (ks K) 0 0 (fA F)
def qx_X (K : qx_K) (F : qx_F) (sh : qx_H) (σ : qx_S) (pc : Nat) (ls : List (Option Value)) (st : List Value) : Prop :=
  ∀ (H : Heap) (locs : List Loc) (arr : Array Slot), va_P (fD F) vwCl (qx_w (fa F) (fc F) sh σ) H → va_D (fA F) (qx_w (fa F) (fc F) sh σ) → va_S (fA F) (ks K).heap H locs → qx_l arr (kn K) ls → W (kp K) (fl F) (ke K) (kR K) (ks K) (km K) (ka K) (kb K) (kM K) (kc K) H locs 0 0 (kQ K) (F0 (km K) pc arr st)
theorem qx_Z.go {zs : qx_zs} {A : Nat → Prop} {s U : State} {H : Heap} {locs : List Loc} (h : qx_Z zs A s s.heap) (ha : s.vm.Alike U.vm) (hS : va_S A s.heap H locs) (hU : U.heap = H) : qx_Z zs A U U.heap := by
  intro q hq
  have h1 := h q hq
  rw [hU]
  exact ⟨va_Z.moved ha (va_Z.kept h1.1 hS.2.1), va_T.moved ha (va_T.kept h1.2 hS.2.1)⟩
theorem qx_I_of {K : qx_K} {F : qx_F} {sh : qx_H} {cc : ByteArray} {own : String} {ret : Option FieldType} {R : Room} {Qc : Array Value → State → Outcome → State → Prop} (C : qx_C K F sh cc own ret R Qc) {σ : qx_S} {H : Heap} {locs : List Loc}
    (hP : va_P (fD F) vwCl (qx_w (fa F) (fc F) sh σ) H) (hD : va_D (fA F) (qx_w (fa F) (fc F) sh σ)) (hS : va_S (fA F) (ks K).heap H locs) {U : State} (hU : U.heap = H) (hW : (ks K).WarmedH U.vm) : qx_I F sh σ U := by
  obtain ⟨h1, h2, h3, h4, h5, h6, h7, h8, h9, h10, -⟩ := C
  exact ⟨by rw [hU]; exact hP, va_K.moved hW.alike h8, hD, fun w hw => qx_N_warm hW (qx_N_ok w hw) (h9 w hw), h10.go hW.alike hS hU⟩
theorem qx_I_blind {F : qx_F} {sh : qx_H} {σ : qx_S} {As : List Value} : FrameBlind (va_Pc As (fun U => qx_I F sh σ U)) := by
  intro a U g mk h
  obtain ⟨h0, h1, h2, h3, h4, h5⟩ := h
  exact ⟨h0, h1, va_K.moved (u := U) (U := U.calling g mk a) (Vm.Alike.refl U.vm) h2, h3, fun w hw => qx_N_same (u := U) (U := U.calling g mk a) rfl (qx_N_ok w hw) (h4 w hw), fun q hq => ⟨va_Z.moved (u := U) (U := U.calling g mk a) (Vm.Alike.refl U.vm) (h5 q hq).1, va_T.moved (u := U) (U := U.calling g mk a) (Vm.Alike.refl U.vm) (h5 q hq).2⟩⟩
/-! contracts -/
abbrev qx_qI (F : qx_F) (sh : qx_H) (r : Int32) (σ1 : qx_S) : Array Value → State → Outcome → State → Prop := va_Qi (fun (r' : Int32) (u : qx_S) => r' = r ∧ u = σ1) (fun u t => qx_I F sh u t) (fA F)
abbrev qx_qV (F : qx_F) (sh : qx_H) (σ1 : qx_S) : Array Value → State → Outcome → State → Prop := va_Qv (fun (u : qx_S) => u = σ1) (fun u t => qx_I F sh u t) (fA F)
def qx_cI (F : qx_F) (sh : qx_H) (y : MethodName) (wy : List Cond) (rm : Room) (As : List Value) (σ : qx_S) (r : Int32) (σ1 : qx_S) : Prop := Met (fl F) y wy rm (va_Pc As (fun U => qx_I F sh σ U)) (qx_qI F sh r σ1) 0 0 (fA F)
def qx_cV (F : qx_F) (sh : qx_H) (y : MethodName) (wy : List Cond) (rm : Room) (As : List Value) (σ : qx_S) (σ1 : qx_S) : Prop := Met (fl F) y wy rm (va_Pc As (fun U => qx_I F sh σ U)) (qx_qV F sh σ1) 0 0 (fA F)
abbrev qx_R (d : Nat) : Room := { frames := d, cells := 0, slots := 0, locals := 40 * d }
abbrev qx_ls (As : List Value) (n : Nat) : List (Option Value) := As.map some ++ List.replicate (n - As.length) none
theorem qx_met {F : qx_F} {sh : qx_H} {y : MethodName} {rm : Room} {cc : ByteArray} {maxL : Nat} {ret : Option FieldType} {As : List Value} {σ : qx_S} {Qc : Array Value → State → Outcome → State → Prop}
    (hy : plainName y.cls = true) (hlen : As.length ≤ maxL) (hcat : ∀ v ∈ As, v.category = 1)
    (body : ∀ K : qx_K, qx_C K F sh cc y.cls ret rm Qc → qx_X K F sh σ 0 (qx_ls As maxL) []) : Met (fl F) y (Cond.code y cc maxL ret :: qx_W) rm (va_Pc As (fun U => qx_I F sh σ U)) Qc 0 0 (fA F) := by
  refine Met.ofW (cc := cc) (maxL := maxL) (ret := ret) hy rfl ?_
  intro p e s m args below meth c s₁ B hml hv
  obtain ⟨rfl, hP, hK, hD, hN, hZ⟩ := hv
  have hts := atoms_spec (ws := Cond.code y cc maxL ret :: qx_W) B.pre
  have hX := body (p, e, rm, s, m, As.toArray, below, meth, c, MQ below Qc As.toArray s 0 0 (fA F), maxL) ⟨B.exec, B.bytes, hml, findClass_of_methodNamed B.named, fun w hw => hts w (List.mem_cons_of_mem _ hw), B.returns, B.notSynchronized, hK, hN, hZ, rfl, rfl⟩
  rw [lg_entry_eq]
  exact hX s.heap [] _ hP hD va_S.rf (qx_entry As maxL hcat hlen)
