/-! stores, shapes, worlds: a store is the contents of the cells by their number in the world -/
abbrev qx_S : Type := Nat → Nat → Int32
abbrev qx_Q : Type := Nat ⊕ (Nat × List (Option Nat))
abbrev qx_H : Type := List qx_Q
def qx_u (σ : qx_S) (j : Nat) (f : Nat → Int32) : qx_S := fun i => if i = j then f else σ i
def qx_fv (ad : Nat → Nat) (f : Nat → Int32) (k : Nat) (t : Option Nat) : Value := match t with
  | none => .int (f k)
  | some r => .ref (ad r)
def qx_fs (ad : Nat → Nat) (f : Nat → Int32) (tm : List (Option Nat)) : List Value := tm.mapIdx (qx_fv ad f)
def qx_c (ad : Nat → Nat) (cA : Nat → ClassId) (σ : qx_S) (j : Nat) (q : qx_Q) : Nat × va_E := match q with
  | .inl n => (ad j, .inl (cA j, n, .inl (σ j)))
  | .inr (ci, tm) => (ad j, .inr (ci, qx_fs ad (σ j) tm))
def qx_w (ad : Nat → Nat) (cA : Nat → ClassId) (sh : qx_H) (σ : qx_S) : va_W := sh.mapIdx (qx_c ad cA σ)
def qx_t (cA : Nat → ClassId) (sh : qx_H) : List (ClassId × FieldType) := sh.mapIdx (fun j _ => (cA j, FieldType.int))
theorem qx_wA {ad : Nat → Nat} {cA : Nat → ClassId} {sh : qx_H} (σ : qx_S) {j n : Nat} (h : sh[j]? = some (.inl n)) : (qx_w ad cA sh σ)[j]? = some (ad j, .inl (cA j, n, .inl (σ j))) := by
  simp [qx_w, List.getElem?_mapIdx, h, qx_c]
theorem qx_wO {ad : Nat → Nat} {cA : Nat → ClassId} {sh : qx_H} (σ : qx_S) {j ci : Nat} {tm : List (Option Nat)} (h : sh[j]? = some (.inr (ci, tm))) : (qx_w ad cA sh σ)[j]? = some (ad j, .inr (ci, qx_fs ad (σ j) tm)) := by
  simp [qx_w, List.getElem?_mapIdx, h, qx_c]
theorem qx_tT {cA : Nat → ClassId} {sh : qx_H} {j : Nat} {q : qx_Q} (h : sh[j]? = some q) : (qx_t cA sh)[j]? = some (cA j, .int) := by
  simp [qx_t, List.getElem?_mapIdx, h]
theorem qx_fsI {ad : Nat → Nat} {f : Nat → Int32} {tm : List (Option Nat)} {k : Nat} (h : tm[k]? = some none) : (qx_fs ad f tm)[k]? = some (.int (f k)) := by
  simp [qx_fs, List.getElem?_mapIdx, h, qx_fv]
theorem qx_fsR {ad : Nat → Nat} {f : Nat → Int32} {tm : List (Option Nat)} {k r : Nat} (h : tm[k]? = some (some r)) : (qx_fs ad f tm)[k]? = some (.ref (ad r)) := by
  simp [qx_fs, List.getElem?_mapIdx, h, qx_fv]
theorem qx_us (σ : qx_S) (j : Nat) (f : Nat → Int32) : qx_u σ j f j = f := by simp [qx_u]
theorem qx_un (σ : qx_S) {i j : Nat} (f : Nat → Int32) (h : i ≠ j) : qx_u σ j f i = σ i := by simp [qx_u, h]
theorem qx_c_other {ad : Nat → Nat} {cA : Nat → ClassId} {σ : qx_S} {i j : Nat} (f : Nat → Int32) (q : qx_Q) (h : i ≠ j) : qx_c ad cA (qx_u σ j f) i q = qx_c ad cA σ i q := by
  cases q <;> simp [qx_c, qx_un σ f h]
theorem qx_wsA {ad : Nat → Nat} {cA : Nat → ClassId} {sh : qx_H} {σ : qx_S} {j n : Nat} (h : sh[j]? = some (.inl n)) (f : Nat → Int32) : (qx_w ad cA sh σ).set j (ad j, .inl (cA j, n, .inl f)) = qx_w ad cA sh (qx_u σ j f) := by
  have hj : j < sh.length := (List.getElem?_eq_some_iff.mp h).1
  apply List.ext_getElem?
  intro i
  rw [List.getElem?_set]
  by_cases e : j = i
  · subst e
    rw [if_pos rfl, if_pos (by simp [qx_w, hj]), qx_wA _ h, qx_us]
  · rw [if_neg e]
    simp only [qx_w, List.getElem?_mapIdx]
    cases sh[i]? with
    | none => rfl
    | some q => exact congrArg some (qx_c_other f q (fun z => e z.symm)).symm
theorem qx_fs_set {ad : Nat → Nat} {f : Nat → Int32} {tm : List (Option Nat)} {k : Nat} (h : tm[k]? = some none) (v : Int32) : (qx_fs ad f tm).set k (.int v) = qx_fs ad (upd f k v) tm := by
  have hk : k < tm.length := (List.getElem?_eq_some_iff.mp h).1
  apply List.ext_getElem?
  intro i
  rw [List.getElem?_set]
  by_cases e : k = i
  · subst e
    rw [if_pos rfl, if_pos (by simp [qx_fs, hk]), qx_fsI h]
    simp [upd]
  · rw [if_neg e]
    simp only [qx_fs, List.getElem?_mapIdx]
    cases tm[i]? with
    | none => rfl
    | some t => cases t <;> simp [qx_fv, upd, Ne.symm e]
theorem qx_wsO {ad : Nat → Nat} {cA : Nat → ClassId} {sh : qx_H} {σ : qx_S} {j ci k : Nat} {tm : List (Option Nat)} (h : sh[j]? = some (.inr (ci, tm))) (hk : tm[k]? = some none) (v : Int32) : (qx_w ad cA sh σ).set j (ad j, .inr (ci, (qx_fs ad (σ j) tm).set k (.int v))) = qx_w ad cA sh (qx_u σ j (upd (σ j) k v)) := by
  have hj : j < sh.length := (List.getElem?_eq_some_iff.mp h).1
  apply List.ext_getElem?
  intro i
  rw [List.getElem?_set]
  by_cases e : j = i
  · subst e
    rw [if_pos rfl, if_pos (by simp [qx_w, hj]), qx_wO _ h, qx_us, qx_fs_set hk]
  · rw [if_neg e]
    simp only [qx_w, List.getElem?_mapIdx]
    cases sh[i]? with
    | none => rfl
    | some q => exact congrArg some (qx_c_other _ q (fun z => e z.symm)).symm
/-! locals: a list by place; none where nothing is known -/
def qx_ll (ls : List (Option Value)) : List (Nat × Value) := (List.range ls.length).filterMap (fun k => (ls.getD k none).map (fun v => (k, v)))
def qx_l (arr : Array Slot) (nL : Nat) (ls : List (Option Value)) : Prop := lv_has arr nL (qx_ll ls) ∧ (∀ (k : Nat) (v : Value), ls[k]? = some (some v) → v.category = 1) ∧ ls.length ≤ nL
theorem qx_ll_mem {ls : List (Option Value)} {k : Nat} {v : Value} : (k, v) ∈ qx_ll ls ↔ ls[k]? = some (some v) := by
  simp only [qx_ll, List.mem_filterMap, List.mem_range, Option.map_eq_some_iff, Prod.mk.injEq]
  constructor
  · rintro ⟨a, ha, w, hw, rfl, rfl⟩
    rw [List.getD_eq_getElem?_getD] at hw
    rw [List.getElem?_eq_getElem ha] at hw ⊢
    simpa using hw
  · intro h
    have hk : k < ls.length := (List.getElem?_eq_some_iff.mp h).1
    exact ⟨k, hk, v, by rw [List.getD_eq_getElem?_getD, h]; rfl, rfl, rfl⟩
theorem qx_l_at {arr : Array Slot} {nL : Nat} {ls : List (Option Value)} (h : qx_l arr nL ls) {k : Nat} {v : Value} (hk : ls[k]? = some (some v)) : arr[k]? = some (.val v) := h.1.2.2 (k, v) (qx_ll_mem.mpr hk)
theorem qx_l_put {arr arr' : Array Slot} {nL : Nat} {ls : List (Option Value)} {i : Nat} {x : Value} (h : qx_l arr nL ls) (hx : x.category = 1)
    (h' : lv_has arr' nL ((i, x) :: (qx_ll ls).filter (fun q => !(q.1 == i) && !(q.1 + 1 == i && q.2.category == 2)))) : qx_l arr' nL (ls.set i (some x)) := by
  have key : ∀ (k : Nat) (v : Value), (ls.set i (some x))[k]? = some (some v) → (k = i ∧ v = x) ∨ (k ≠ i ∧ ls[k]? = some (some v)) := by
    intro k v hk
    rw [List.getElem?_set] at hk
    by_cases e : i = k
    · rw [if_pos e] at hk
      split at hk
      · exact Or.inl ⟨e.symm, by simpa using hk.symm⟩
      · cases hk
    · rw [if_neg e] at hk
      exact Or.inr ⟨fun z => e z.symm, hk⟩
  refine ⟨⟨h'.1, h'.2.1, fun q hq => ?_⟩, fun k v hk => ?_, by simpa using h.2.2⟩
  · obtain ⟨k, v⟩ := q
    rcases key k v (qx_ll_mem.mp hq) with ⟨rfl, rfl⟩ | ⟨hne, hk⟩
    · exact h'.2.2 (k, v) List.mem_cons_self
    · refine h'.2.2 (k, v) (List.mem_cons_of_mem _ (List.mem_filter.mpr ⟨qx_ll_mem.mpr hk, ?_⟩))
      have hc := h.2.1 k v hk
      simp [hne, hc]
  · rcases key k v hk with ⟨rfl, rfl⟩ | ⟨hne, hk⟩
    · exact hx
    · exact h.2.1 k v hk
theorem qx_args_mem : ∀ (vs : List Value) (n : Nat), (∀ v ∈ vs, v.category = 1) → ∀ (k : Nat) (v : Value), vs[k]? = some v → (n + k, v) ∈ lv_args n vs
  | [], _, _, k, v, h => by simp at h
  | a :: vs, n, hc, k, v, h => by
    have ha : a.category = 1 := hc a List.mem_cons_self
    cases k with
    | zero =>
      have e : a = v := by simpa using h
      subst e
      exact List.mem_cons_self
    | succ k =>
      have h2 : vs[k]? = some v := by simpa using h
      have ih := qx_args_mem vs (n + 1) (fun w hw => hc w (List.mem_cons_of_mem _ hw)) k v h2
      have e : n + 1 + k = n + (k + 1) := by omega
      rw [e] at ih
      show _ ∈ (n, a) :: lv_args (if a.category = 2 then n + 2 else n + 1) vs
      rw [if_neg (by rw [ha]; decide)]
      exact List.mem_cons_of_mem _ ih
theorem qx_sl_len : ∀ (vs : List Value), (∀ v ∈ vs, v.category = 1) → (lg_sl vs).length = vs.length
  | [], _ => rfl
  | a :: vs, h => by
    have ha : a.category = 1 := h a List.mem_cons_self
    have ih := qx_sl_len vs (fun w hw => h w (List.mem_cons_of_mem _ hw))
    unfold lg_sl at ih ⊢
    rw [List.flatMap_cons, List.length_append, ih, if_neg (by rw [ha]; decide)]
    simp; omega
theorem qx_entry (vs : List Value) (n : Nat) (hc : ∀ v ∈ vs, v.category = 1) (hn : vs.length ≤ n) : qx_l ((lg_sl vs ++ List.replicate (n - (lg_sl vs).length) Slot.unset).toArray) n (vs.map some ++ List.replicate (n - vs.length) none) := by
  have h := lv_entry vs (n := n) (by rw [qx_sl_len vs hc]; exact hn)
  have key : ∀ (k : Nat) (v : Value), (vs.map some ++ List.replicate (n - vs.length) (none : Option Value))[k]? = some (some v) → vs[k]? = some v := by
    intro k v hk
    rw [List.getElem?_append] at hk
    split at hk
    · simpa using hk
    · rw [List.getElem?_replicate] at hk
      split at hk <;> simp at hk
  refine ⟨⟨h.1, h.2.1, fun q hq => ?_⟩, fun k v hk => hc v (List.mem_of_getElem? (key k v hk)), by simp; omega⟩
  obtain ⟨k, v⟩ := q
  have := qx_args_mem vs 0 hc k v (key k v (qx_ll_mem.mp hq))
  rw [Nat.zero_add] at this
  exact h.2.2 (k, v) this
/-- one write -/
def qs (σ : qx_S) (j k : Nat) (v : Int32) : qx_S := qx_u σ j (upd (σ j) k v)
