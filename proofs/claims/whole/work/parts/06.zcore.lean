/-! The layer Z over W: a world is a function of addresses counted from the law's start; every method's contract is a Z at its entry. -/
abbrev ZO : Type := (Nat × List Value) ⊕ ((Nat × (Nat → Int32)) ⊕ (Nat × Nat × (Nat → Option Nat)))
abbrev ZW : Type := (Nat → ZO) × Nat
/-- name, code, maxLocals, return type, frames, locals -/
abbrev ZD : Type := MethodName × ByteArray × Nat × Option FieldType × Nat × Nat
def zup {α : Type} (f : Nat → α) (k : Nat) (v : α) : Nat → α := fun j => if j = k then v else f j
theorem zup_same {α : Type} (f : Nat → α) (k : Nat) (v : α) : zup f k v k = v := by simp [zup]
theorem zup_ne {α : Type} (f : Nat → α) {k j : Nat} (v : α) (h : j ≠ k) : zup f k v j = f j := by simp [zup, h]
def vsh (lo : Nat) (v : Value) : Value := match v with
  | .ref a => .ref (lo + a)
  | v => v
theorem vsh_cat (lo : Nat) (v : Value) : (vsh lo v).category = v.category := by cases v <;> rfl
def vE (lo : Nat) (cA : Nat → ClassId) (o : ZO) : va_E := match o with
  | .inl (ci, fs) => .inr (ci, fs.map (vsh lo))
  | .inr (.inl (n, f)) => .inl (cA 0, n, .inl f)
  | .inr (.inr (t, n, f)) => .inl (cA t, n, .inr (.inr (.inr (.inr (fun i => (f i).map (lo + ·))))))
def vws (lo : Nat) (cA : Nat → ClassId) (ω : ZW) : va_W := (List.range ω.2).map fun i => (lo + i, vE lo cA (ω.1 i))
def vtys (cA : Nat → ClassId) : List (ClassId × FieldType) := [(cA 0, .int), (cA 1, .object RX9), (cA 2, .object RX6)]
def vA (lo : Nat) : Nat → Prop := fun q => lo ≤ q
def vls (lo : Nat) (ls : List (Option Value)) : List (Nat × Value) := (List.range ls.length).filterMap fun k => (ls.getD k none).map fun v => (k, vsh lo v)
theorem vls_mem {lo : Nat} {ls : List (Option Value)} {q : Nat × Value} : q ∈ vls lo ls ↔ ∃ v, ls[q.1]? = some (some v) ∧ q.2 = vsh lo v := by
  unfold vls
  rw [List.mem_filterMap]
  constructor
  · rintro ⟨k, hk, h⟩
    rw [List.mem_range] at hk
    cases hg : ls.getD k none with
    | none => rw [hg] at h; cases h
    | some v =>
      rw [hg] at h
      cases h
      refine ⟨v, ?_, rfl⟩
      rw [List.getD_eq_getElem?_getD] at hg
      rw [List.getElem?_eq_getElem hk] at hg ⊢
      exact congrArg some hg
  · rintro ⟨v, h1, h2⟩
    refine ⟨q.1, List.mem_range.mpr (List.getElem?_eq_some_iff.mp h1).1, ?_⟩
    rw [List.getD_eq_getElem?_getD, h1]
    show some (q.1, vsh lo v) = some q
    rw [← h2]
theorem vls_at {lo nL : Nat} {lsA : Array Slot} {ls : List (Option Value)} (h : lv_has lsA nL (vls lo ls)) {k : Nat} {v : Value} (hk : ls[k]? = some (some v)) : lsA[k]? = some (.val (vsh lo v)) := h.2.2 (k, vsh lo v) (vls_mem.mpr ⟨v, hk, rfl⟩)
theorem vls_to {lo nL : Nat} {lsA : Array Slot} {l : List (Nat × Value)} {ls : List (Option Value)} (h : lv_has lsA nL l) (hm : ∀ k v, ls[k]? = some (some v) → (k, vsh lo v) ∈ l) : lv_has lsA nL (vls lo ls) := by
  refine ⟨h.1, h.2.1, fun q hq => ?_⟩
  obtain ⟨v, h1, h2⟩ := vls_mem.mp hq
  have h3 := h.2.2 _ (hm q.1 v h1)
  rw [h2]
  exact h3
theorem vws_get {lo : Nat} {cA : Nat → ClassId} {ω : ZW} {a : Nat} (h : a < ω.2) : (vws lo cA ω)[a]? = some (lo + a, vE lo cA (ω.1 a)) := by
  simp [vws, List.getElem?_range h]
theorem vws_len {lo : Nat} {cA : Nat → ClassId} {ω : ZW} : (vws lo cA ω).length = ω.2 := by simp [vws]
theorem vws_some {lo : Nat} {cA : Nat → ClassId} {ω : ZW} {a : Nat} {q : Nat × va_E} (h : (vws lo cA ω)[a]? = some q) : a < ω.2 ∧ q = (lo + a, vE lo cA (ω.1 a)) := by
  have hl := (List.getElem?_eq_some_iff.mp h).1
  rw [vws_len] at hl
  rw [vws_get hl] at h
  exact ⟨hl, (Option.some.inj h).symm⟩
theorem vws_set {lo : Nat} {cA : Nat → ClassId} {σ : Nat → ZO} {n a : Nat} {o : ZO} (h : a < n) : (vws lo cA (σ, n)).set a (lo + a, vE lo cA o) = vws lo cA (zup σ a o, n) := by
  apply List.ext_getElem?
  intro i
  rw [List.getElem?_set, vws_len]
  by_cases hi : a = i
  · subst hi
    rw [if_pos rfl, if_pos h, vws_get (ω := (zup σ a o, n)) h]
    show _ = some (lo + a, vE lo cA (zup σ a o a))
    rw [zup_same]
  · rw [if_neg hi]
    by_cases hn : i < n
    · rw [vws_get (ω := (σ, n)) hn, vws_get (ω := (zup σ a o, n)) hn]
      show some (lo + i, vE lo cA (σ i)) = some (lo + i, vE lo cA (zup σ a o i))
      rw [zup_ne _ _ (fun e => hi e.symm)]
    · rw [List.getElem?_eq_none (by rw [vws_len]; exact Nat.not_lt.mp hn), List.getElem?_eq_none (by rw [vws_len]; exact Nat.not_lt.mp hn)]
theorem vws_push {lo : Nat} {cA : Nat → ClassId} {σ : Nat → ZO} {n : Nat} {o : ZO} : vws lo cA (σ, n) ++ [(lo + n, vE lo cA o)] = vws lo cA (zup σ n o, n + 1) := by
  unfold vws
  show List.map _ (List.range n) ++ _ = List.map _ (List.range (n + 1))
  rw [List.range_succ, List.map_append]
  congr 1
  · apply List.map_congr_left
    intro i hi
    rw [List.mem_range] at hi
    show (lo + i, vE lo cA (σ i)) = (lo + i, vE lo cA (zup σ n o i))
    rw [zup_ne _ _ (Nat.ne_of_lt hi)]
  · show [(lo + n, vE lo cA o)] = [(lo + n, vE lo cA (zup σ n o n))]
    rw [zup_same]
theorem vws_congr {lo : Nat} {cA : Nat → ClassId} {σ τ : Nat → ZO} {n : Nat} (h : ∀ a, a < n → σ a = τ a) : vws lo cA (σ, n) = vws lo cA (τ, n) := by
  unfold vws
  apply List.map_congr_left
  intro i hi
  show (lo + i, vE lo cA (σ i)) = (lo + i, vE lo cA (τ i))
  rw [h i (List.mem_range.mp hi)]
theorem vws_D {lo : Nat} {cA : Nat → ClassId} {ω : ZW} : va_D (vA lo) (vws lo cA ω) := by
  refine ⟨fun i j p q hp hq h => ?_, fun k q hq => ?_⟩
  · obtain ⟨-, rfl⟩ := vws_some hp
    obtain ⟨-, rfl⟩ := vws_some hq
    exact Nat.add_left_cancel h
  · obtain ⟨-, rfl⟩ := vws_some hq
    exact Nat.le_add_right _ _
/-! the tables' words: those that any call keeps, and the others -/
def ztb : List Cond := lw_tbl.filter goodWord
def zisN (w : Cond) : Bool := match w with
  | .fieldLinkNest .. => true
  | .methodLinkNest .. => true
  | .declares .. => true
  | .castable .. => true
  | .arrayOver (.object _) => true
  | _ => false
def ztbN : List Cond := lw_tbl.filter zisN
theorem zgm {w : Cond} (i : Nat) (h : lw_tbl[i]? = some w) (hg : goodWord w = true) : w ∈ ztb := List.mem_filter.mpr ⟨List.mem_of_getElem? h, hg⟩
theorem zgn {w : Cond} (i : Nat) (h : lw_tbl[i]? = some w) (hg : zisN w = true) : w ∈ ztbN := List.mem_filter.mpr ⟨List.mem_of_getElem? h, hg⟩
theorem zgood {ws : List Cond} (h : ∀ w ∈ ws, w ∈ ztb) : GoodIn ztb ws := fun w hw => ⟨h w hw, good_of_word (List.mem_filter.mp (h w hw)).2⟩
theorem zN_warm {s U : State} (hW : s.WarmedH U.vm) (h : ∀ w ∈ ztbN, va_Nw w s) : ∀ w ∈ ztbN, va_Nw w U := by
  intro w hw
  have h1 := h w hw
  have h2 : zisN w = true := (List.mem_filter.mp hw).2
  cases w <;> first | exact va_Nw.warmF hW h1 | exact va_Nw.warmM hW h1 | exact va_Nw.warmD hW h1 | exact va_Nw.warmC hW h1 | (simp [zisN] at h2; done) | (rename_i t; cases t <;> first | exact va_AO.moved hW.alike h1 | (simp [zisN] at h2; done))
theorem zN_same {u U : State} (hv : u.vm = U.vm) (h : ∀ w ∈ ztbN, va_Nw w u) : ∀ w ∈ ztbN, va_Nw w U := by
  intro w hw
  have h1 := h w hw
  have h2 : zisN w = true := (List.mem_filter.mp hw).2
  cases w <;> first | exact va_Nw.same rfl hv h1 | (simp [zisN] at h2; done) | (rename_i t; cases t <;> first | exact va_AO.moved (by rw [hv]; exact Vm.Alike.refl _) h1 | (simp [zisN] at h2; done))
/-! the judgement -/
abbrev zC (d : ZD) (args : Array Value) (s : State) (p : Program) (m : MethodId) (meth : Method) (c : Code) (lo : Nat) (cA : Nat → ClassId) (D : va_G) : Prop :=
  p.tables.exec = Jvm.exec ∧ c.code = d.2.1 ∧ meth.sig.returnType = d.2.2.2.1 ∧ c.maxLocals = d.2.2.1 ∧ s.vm.findClass d.1.cls = some m.cls ∧ meth.locks = false ∧ meth.name = d.1.name ∧ (∀ w ∈ ztb, w.before args s = true) ∧ (∀ w ∈ ztbN, va_Nw w s) ∧ va_K D vwCl (vtys cA) s ∧ lo ≤ s.heap.size
def zQ (lo : Nat) (cA : Nat → ClassId) (D : va_G) (R : Option Value → ZW → Prop) : Array Value → State → Outcome → State → Prop := fun _ s o t => (∃ (r : Option Value) (ω : ZW), o = .returned (r.map (vsh lo)) ∧ R r ω ∧ t.heap.size = lo + ω.2 ∧ va_P D vwCl (vws lo cA ω) t.heap) ∧ va_F (vA lo) s t
abbrev zR (d : ZD) (RC RS : Nat) : Room := { frames := d.2.2.2.2.1, cells := RC, slots := RS, locals := d.2.2.2.2.2 }
def Z (d : ZD) (kc ks : Nat) (R : Option Value → ZW → Prop) (pc : Nat) (ls : List (Option Value)) (st : List Value) (ω : ZW) : Prop :=
  ∀ (p : Program) (l : Launch) (e : Env) (s : State) (m : MethodId) (args : Array Value) (below : List Frame) (meth : Method) (c : Code) (H : Heap) (locs : List Loc) (cells slots RC RS lo : Nat) (cA : Nat → ClassId) (D : va_G) (lsA : Array Slot),
    zC d args s p m meth c lo cA D → cells + kc ≤ RC → slots + ks ≤ RS → H.size = lo + ω.2 → va_P D vwCl (vws lo cA ω) H → va_S (vA lo) s.heap H locs → lv_has lsA d.2.2.1 (vls lo ls) →
    W p l e (zR d RC RS) s m args below meth c H locs cells slots (MQ below (zQ lo cA D R) args s RC RS (vA lo)) (F0 m pc lsA (st.map (vsh lo)))
section ZROWS
variable {d : ZD} {kc ks : Nat} {R : Option Value → ZW → Prop} {pc pc' : Nat} {ls ls' : List (Option Value)} {st : List Value} {ω : ZW}
theorem Z_iconst {n : Int} {v : Int32} (hd : decode d.2.1 pc = .ok (.iconst n, 1)) (hv : Int32.ofInt n = v) (hp : pc + 1 = pc') (k : Z d kc ks R pc' ls (.int v :: st) ω) : Z d kc ks R pc ls (st) ω := by
  subst hp
  intro p l e s m args below meth c H locs cells slots RC RS lo cA D lsA C h1 h2 h3 h4 h5 h6
  exact lv_iconst C.1 C.2.1 hd hv (k p l e s m args below meth c H locs cells slots RC RS lo cA D lsA C h1 h2 h3 h4 h5 h6)
theorem Z_bipush {n : Int} {v : Int32} (hd : decode d.2.1 pc = .ok (.bipush n, 2)) (hv : (Int8.ofInt n).toInt32 = v) (hp : pc + 2 = pc') (k : Z d kc ks R pc' ls (.int v :: st) ω) : Z d kc ks R pc ls (st) ω := by
  subst hp
  intro p l e s m args below meth c H locs cells slots RC RS lo cA D lsA C h1 h2 h3 h4 h5 h6
  exact lv_bipush C.1 C.2.1 hd hv (k p l e s m args below meth c H locs cells slots RC RS lo cA D lsA C h1 h2 h3 h4 h5 h6)
theorem Z_sipush {n : Int} {v : Int32} (hd : decode d.2.1 pc = .ok (.sipush n, 3)) (hv : (Int16.ofInt n).toInt32 = v) (hp : pc + 3 = pc') (k : Z d kc ks R pc' ls (.int v :: st) ω) : Z d kc ks R pc ls (st) ω := by
  subst hp
  intro p l e s m args below meth c H locs cells slots RC RS lo cA D lsA C h1 h2 h3 h4 h5 h6
  exact lv_sipush C.1 C.2.1 hd hv (k p l e s m args below meth c H locs cells slots RC RS lo cA D lsA C h1 h2 h3 h4 h5 h6)
theorem Z_lconst {n : Fin 2} {v : Int64} (hd : decode d.2.1 pc = .ok (.lconst n, 1)) (hv : Int64.ofNat (n : Nat) = v) (hp : pc + 1 = pc') (k : Z d kc ks R pc' ls (.long v :: st) ω) : Z d kc ks R pc ls (st) ω := by
  subst hp
  intro p l e s m args below meth c H locs cells slots RC RS lo cA D lsA C h1 h2 h3 h4 h5 h6
  exact lv_lconst C.1 C.2.1 hd hv (k p l e s m args below meth c H locs cells slots RC RS lo cA D lsA C h1 h2 h3 h4 h5 h6)
theorem Z_iload_n {n : Fin 4} {x : Int32} (hd : decode d.2.1 pc = .ok (.iload_n n, 1)) (hl : ls[(n : Nat)]? = some (some (.int x))) (hp : pc + 1 = pc') (k : Z d kc ks R pc' ls (.int x :: st) ω) : Z d kc ks R pc ls st ω := by
  subst hp
  intro p l e s m args below meth c H locs cells slots RC RS lo cA D lsA C h1 h2 h3 h4 h5 h6
  exact lv_iload_n C.1 C.2.1 hd rfl (vls_at h6 hl) (k p l e s m args below meth c H locs cells slots RC RS lo cA D lsA C h1 h2 h3 h4 h5 h6)
theorem Z_iload {n : Nat} {x : Int32} (hd : decode d.2.1 pc = .ok (.iload n, 2)) (hl : ls[n]? = some (some (.int x))) (hp : pc + 2 = pc') (k : Z d kc ks R pc' ls (.int x :: st) ω) : Z d kc ks R pc ls st ω := by
  subst hp
  intro p l e s m args below meth c H locs cells slots RC RS lo cA D lsA C h1 h2 h3 h4 h5 h6
  exact lv_iload C.1 C.2.1 hd (vls_at h6 hl) (k p l e s m args below meth c H locs cells slots RC RS lo cA D lsA C h1 h2 h3 h4 h5 h6)
theorem Z_lload_n {n : Fin 4} {x : Int64} (hd : decode d.2.1 pc = .ok (.lload_n n, 1)) (hl : ls[(n : Nat)]? = some (some (.long x))) (hp : pc + 1 = pc') (k : Z d kc ks R pc' ls (.long x :: st) ω) : Z d kc ks R pc ls st ω := by
  subst hp
  intro p l e s m args below meth c H locs cells slots RC RS lo cA D lsA C h1 h2 h3 h4 h5 h6
  exact lv_lload_n C.1 C.2.1 hd rfl (vls_at h6 hl) (k p l e s m args below meth c H locs cells slots RC RS lo cA D lsA C h1 h2 h3 h4 h5 h6)
theorem Z_lload {n : Nat} {x : Int64} (hd : decode d.2.1 pc = .ok (.lload n, 2)) (hl : ls[n]? = some (some (.long x))) (hp : pc + 2 = pc') (k : Z d kc ks R pc' ls (.long x :: st) ω) : Z d kc ks R pc ls st ω := by
  subst hp
  intro p l e s m args below meth c H locs cells slots RC RS lo cA D lsA C h1 h2 h3 h4 h5 h6
  exact lv_lload C.1 C.2.1 hd (vls_at h6 hl) (k p l e s m args below meth c H locs cells slots RC RS lo cA D lsA C h1 h2 h3 h4 h5 h6)
theorem Z_aload_n {n : Fin 4} {v : Value} (hd : decode d.2.1 pc = .ok (.aload_n n, 1)) (hl : ls[(n : Nat)]? = some (some v)) (hr : v = .null ∨ ∃ a, v = .ref a) (hp : pc + 1 = pc') (k : Z d kc ks R pc' ls (v :: st) ω) : Z d kc ks R pc ls st ω := by
  subst hp
  intro p l e s m args below meth c H locs cells slots RC RS lo cA D lsA C h1 h2 h3 h4 h5 h6
  rcases hr with rfl | ⟨a, rfl⟩
  · exact lv_aload_nN C.1 C.2.1 hd rfl (vls_at h6 hl) (k p l e s m args below meth c H locs cells slots RC RS lo cA D lsA C h1 h2 h3 h4 h5 h6)
  · exact lv_aload_n C.1 C.2.1 hd rfl (vls_at h6 hl) (k p l e s m args below meth c H locs cells slots RC RS lo cA D lsA C h1 h2 h3 h4 h5 h6)
theorem Z_aload {n : Nat} {v : Value} (hd : decode d.2.1 pc = .ok (.aload n, 2)) (hl : ls[n]? = some (some v)) (hr : v = .null ∨ ∃ a, v = .ref a) (hp : pc + 2 = pc') (k : Z d kc ks R pc' ls (v :: st) ω) : Z d kc ks R pc ls st ω := by
  subst hp
  intro p l e s m args below meth c H locs cells slots RC RS lo cA D lsA C h1 h2 h3 h4 h5 h6
  rcases hr with rfl | ⟨a, rfl⟩
  · exact lv_aloadN C.1 C.2.1 hd (vls_at h6 hl) (k p l e s m args below meth c H locs cells slots RC RS lo cA D lsA C h1 h2 h3 h4 h5 h6)
  · exact lv_aload C.1 C.2.1 hd (vls_at h6 hl) (k p l e s m args below meth c H locs cells slots RC RS lo cA D lsA C h1 h2 h3 h4 h5 h6)
theorem z_isref (a : Nat) : Value.ref a = .null ∨ ∃ b, Value.ref a = .ref b := Or.inr ⟨a, rfl⟩
theorem z_isrf (r : Option Nat) : va_rf r = .null ∨ ∃ b, va_rf r = .ref b := by
  cases r with
  | none => exact Or.inl rfl
  | some a => exact Or.inr ⟨a, rfl⟩
/-- a store of one word at place k: nothing before it may be a long -/
def zok (ls : List (Option Value)) (k : Nat) : Bool := match k with
  | 0 => true
  | k + 1 => match ls[k]? with
    | some (some (.long _)) => false
    | some (some (.double _)) => false
    | _ => true
def lset1 (ls : List (Option Value)) (k : Nat) (v : Value) : List (Option Value) := ls.take k ++ some v :: ls.drop (k + 1)
def lset2 (ls : List (Option Value)) (k : Nat) (v : Value) : List (Option Value) := ls.take k ++ some v :: none :: ls.drop (k + 2)
theorem lset1_get {ls : List (Option Value)} {k : Nat} {v : Value} (hk : k ≤ ls.length) {j : Nat} {u : Value} (h : (lset1 ls k v)[j]? = some (some u)) : (j = k ∧ u = v) ∨ (j ≠ k ∧ ls[j]? = some (some u)) := by
  unfold lset1 at h
  have hl : (ls.take k).length = k := by rw [List.length_take]; omega
  rcases Nat.lt_trichotomy j k with q | q | q
  · right
    rw [List.getElem?_append_left (by rw [hl]; exact q), List.getElem?_take_of_lt q] at h
    exact ⟨Nat.ne_of_lt q, h⟩
  · left
    subst q
    rw [List.getElem?_append_right (by rw [hl]; exact Nat.le_refl _), hl, Nat.sub_self] at h
    simp at h
    exact ⟨rfl, h.symm⟩
  · right
    rw [List.getElem?_append_right (by rw [hl]; omega), hl] at h
    obtain ⟨i, rfl⟩ : ∃ i, j = k + 1 + i := ⟨j - (k + 1), by omega⟩
    rw [show k + 1 + i - k = i + 1 by omega, List.getElem?_cons_succ, List.getElem?_drop] at h
    exact ⟨by omega, h⟩
theorem lset2_get {ls : List (Option Value)} {k : Nat} {v : Value} (hk : k ≤ ls.length) {j : Nat} {u : Value} (h : (lset2 ls k v)[j]? = some (some u)) : (j = k ∧ u = v) ∨ (j ≠ k ∧ j ≠ k + 1 ∧ ls[j]? = some (some u)) := by
  unfold lset2 at h
  have hl : (ls.take k).length = k := by rw [List.length_take]; omega
  rcases Nat.lt_trichotomy j k with q | q | q
  · right
    rw [List.getElem?_append_left (by rw [hl]; exact q), List.getElem?_take_of_lt q] at h
    exact ⟨Nat.ne_of_lt q, by omega, h⟩
  · left
    subst q
    rw [List.getElem?_append_right (by rw [hl]; exact Nat.le_refl _), hl, Nat.sub_self] at h
    simp at h
    exact ⟨rfl, h.symm⟩
  · right
    rw [List.getElem?_append_right (by rw [hl]; omega), hl] at h
    obtain ⟨i, rfl⟩ : ∃ i, j = k + 1 + i := ⟨j - (k + 1), by omega⟩
    rw [show k + 1 + i - k = i + 1 by omega, List.getElem?_cons_succ] at h
    cases i with
    | zero => simp at h
    | succ i =>
      rw [List.getElem?_cons_succ, List.getElem?_drop] at h
      exact ⟨by omega, by omega, by rw [show k + 1 + (i + 1) = k + 2 + i by omega]; exact h⟩
theorem zok_cat {ls : List (Option Value)} {k j : Nat} {u : Value} (h : zok ls k = true) (hj : j + 1 = k) (hu : ls[j]? = some (some u)) : u.category = 1 := by
  subst hj
  simp only [zok, hu] at h
  cases u <;> first | rfl | (simp at h)
theorem zst1 {lo nL : Nat} {ls : List (Option Value)} {i : Nat} {v : Value} (hk : i ≤ ls.length) (hz : zok ls i = true) {lsA : Array Slot} (h : lv_has lsA nL ((i, vsh lo v) :: (vls lo ls).filter (fun q => !(q.1 == i) && !(q.1 + 1 == i && q.2.category == 2)))) : lv_has lsA nL (vls lo (lset1 ls i v)) := by
  refine vls_to h fun k u hku => ?_
  rcases lset1_get hk hku with ⟨rfl, rfl⟩ | ⟨hne, hu⟩
  · exact List.mem_cons_self
  · refine List.mem_cons_of_mem _ (List.mem_filter.mpr ⟨vls_mem.mpr ⟨u, hu, rfl⟩, ?_⟩)
    by_cases hj : k + 1 = i
    · have hc := zok_cat hz hj hu
      simp [hne, vsh_cat, hc]
    · simp [hne, hj]
theorem zst2 {lo nL : Nat} {ls : List (Option Value)} {i : Nat} {v : Value} (hk : i ≤ ls.length) (hz : zok ls i = true) {lsA : Array Slot} (h : lv_has lsA nL ((i, vsh lo v) :: (vls lo ls).filter (fun q => !(q.1 == i) && (!(q.1 == i + 1) && !(q.1 + 1 == i && q.2.category == 2))))) : lv_has lsA nL (vls lo (lset2 ls i v)) := by
  refine vls_to h fun k u hku => ?_
  rcases lset2_get hk hku with ⟨rfl, rfl⟩ | ⟨hne, hne2, hu⟩
  · exact List.mem_cons_self
  · refine List.mem_cons_of_mem _ (List.mem_filter.mpr ⟨vls_mem.mpr ⟨u, hu, rfl⟩, ?_⟩)
    by_cases hj : k + 1 = i
    · have hc := zok_cat hz hj hu
      simp [hne, hne2, vsh_cat, hc]
    · simp [hne, hne2, hj]
theorem Z_istore_n {n : Fin 4} {x : Int32} (hd : decode d.2.1 pc = .ok (.istore_n n, 1)) (hn : (n : Nat) < d.2.2.1) (hk : (n : Nat) ≤ ls.length) (hz : zok ls (n : Nat) = true) (hl : lset1 ls (n : Nat) (.int x) = ls') (hp : pc + 1 = pc') (k : Z d kc ks R pc' ls' st ω) : Z d kc ks R pc ls (.int x :: st) ω := by
  subst hp; subst hl
  intro p l e s m args below meth c H locs cells slots RC RS lo cA D lsA C h1 h2 h3 h4 h5 h6
  exact lv_istore_n C.1 C.2.1 hd rfl h6 hn rfl (fun lsB hB => (k p l e s m args below meth c H locs cells slots RC RS lo cA D lsB C h1 h2 h3 h4 h5 (zst1 hk hz hB)))
theorem Z_istore {n : Nat} {x : Int32} (hd : decode d.2.1 pc = .ok (.istore n, 2)) (hn : n < d.2.2.1) (hk : n ≤ ls.length) (hz : zok ls n = true) (hl : lset1 ls n (.int x) = ls') (hp : pc + 2 = pc') (k : Z d kc ks R pc' ls' st ω) : Z d kc ks R pc ls (.int x :: st) ω := by
  subst hp; subst hl
  intro p l e s m args below meth c H locs cells slots RC RS lo cA D lsA C h1 h2 h3 h4 h5 h6
  exact lv_istore C.1 C.2.1 hd h6 hn rfl (fun lsB hB => (k p l e s m args below meth c H locs cells slots RC RS lo cA D lsB C h1 h2 h3 h4 h5 (zst1 hk hz hB)))
theorem Z_lstore_n {n : Fin 4} {x : Int64} (hd : decode d.2.1 pc = .ok (.lstore_n n, 1)) (hn : (n : Nat) + 1 < d.2.2.1) (hk : (n : Nat) ≤ ls.length) (hz : zok ls (n : Nat) = true) (hl : lset2 ls (n : Nat) (.long x) = ls') (hp : pc + 1 = pc') (k : Z d kc ks R pc' ls' st ω) : Z d kc ks R pc ls (.long x :: st) ω := by
  subst hp; subst hl
  intro p l e s m args below meth c H locs cells slots RC RS lo cA D lsA C h1 h2 h3 h4 h5 h6
  exact lv_lstore_n C.1 C.2.1 hd rfl h6 hn rfl (fun lsB hB => (k p l e s m args below meth c H locs cells slots RC RS lo cA D lsB C h1 h2 h3 h4 h5 (zst2 hk hz hB)))
theorem Z_lstore {n : Nat} {x : Int64} (hd : decode d.2.1 pc = .ok (.lstore n, 2)) (hn : n + 1 < d.2.2.1) (hk : n ≤ ls.length) (hz : zok ls n = true) (hl : lset2 ls n (.long x) = ls') (hp : pc + 2 = pc') (k : Z d kc ks R pc' ls' st ω) : Z d kc ks R pc ls (.long x :: st) ω := by
  subst hp; subst hl
  intro p l e s m args below meth c H locs cells slots RC RS lo cA D lsA C h1 h2 h3 h4 h5 h6
  exact lv_lstore C.1 C.2.1 hd h6 hn rfl (fun lsB hB => (k p l e s m args below meth c H locs cells slots RC RS lo cA D lsB C h1 h2 h3 h4 h5 (zst2 hk hz hB)))
theorem Z_astore_n {n : Fin 4} {v : Value} (hd : decode d.2.1 pc = .ok (.astore_n n, 1)) (hn : (n : Nat) < d.2.2.1) (hk : (n : Nat) ≤ ls.length) (hz : zok ls (n : Nat) = true) (hl : lset1 ls (n : Nat) (v) = ls') (hr : v = .null ∨ ∃ a, v = .ref a) (hp : pc + 1 = pc') (k : Z d kc ks R pc' ls' st ω) : Z d kc ks R pc ls (v :: st) ω := by
  subst hp; subst hl
  intro p l e s m args below meth c H locs cells slots RC RS lo cA D lsA C h1 h2 h3 h4 h5 h6
  rcases hr with rfl | ⟨a, rfl⟩
  · exact lv_astore_nN C.1 C.2.1 hd rfl h6 hn rfl (fun lsB hB => (k p l e s m args below meth c H locs cells slots RC RS lo cA D lsB C h1 h2 h3 h4 h5 (zst1 hk hz hB)))
  · exact lv_astore_n C.1 C.2.1 hd rfl h6 hn rfl (fun lsB hB => (k p l e s m args below meth c H locs cells slots RC RS lo cA D lsB C h1 h2 h3 h4 h5 (zst1 hk hz hB)))
theorem Z_astore {n : Nat} {v : Value} (hd : decode d.2.1 pc = .ok (.astore n, 2)) (hn : n < d.2.2.1) (hk : n ≤ ls.length) (hz : zok ls n = true) (hl : lset1 ls n (v) = ls') (hr : v = .null ∨ ∃ a, v = .ref a) (hp : pc + 2 = pc') (k : Z d kc ks R pc' ls' st ω) : Z d kc ks R pc ls (v :: st) ω := by
  subst hp; subst hl
  intro p l e s m args below meth c H locs cells slots RC RS lo cA D lsA C h1 h2 h3 h4 h5 h6
  rcases hr with rfl | ⟨a, rfl⟩
  · exact lv_astoreN C.1 C.2.1 hd h6 hn rfl (fun lsB hB => (k p l e s m args below meth c H locs cells slots RC RS lo cA D lsB C h1 h2 h3 h4 h5 (zst1 hk hz hB)))
  · exact lv_astore C.1 C.2.1 hd h6 hn rfl (fun lsB hB => (k p l e s m args below meth c H locs cells slots RC RS lo cA D lsB C h1 h2 h3 h4 h5 (zst1 hk hz hB)))
theorem Z_iinc {i : Nat} {n : Int} {x v : Int32} (hd : decode d.2.1 pc = .ok (.iinc i n, 3)) (hx : ls[i]? = some (some (.int x))) (hv : x + Int32.ofInt n = v) (hn : i < d.2.2.1) (hz : zok ls i = true) (hl : lset1 ls i (.int v) = ls') (hp : pc + 3 = pc') (k : Z d kc ks R pc' ls' st ω) : Z d kc ks R pc ls st ω := by
  subst hp; subst hl
  intro p l e s m args below meth c H locs cells slots RC RS lo cA D lsA C h1 h2 h3 h4 h5 h6
  obtain ⟨k0, hk0⟩ := List.getElem?_of_mem (vls_mem (lo := lo) (q := (i, .int x)) |>.mpr ⟨_, hx, rfl⟩)
  exact lv_iinc C.1 C.2.1 hd h6 hk0 hv hn rfl (fun lsB hB => (k p l e s m args below meth c H locs cells slots RC RS lo cA D lsB C h1 h2 h3 h4 h5 (zst1 (Nat.le_of_lt (List.getElem?_eq_some_iff.mp hx).1) hz hB)))
/-- fewer locals are told -/
theorem Z_fewer (hl : ∀ (k : Nat) (v : Value), ls'[k]? = some (some v) → ls[k]? = some (some v)) (k : Z d kc ks R pc ls' st ω) : Z d kc ks R pc ls st ω := by
  intro p l e s m args below meth c H locs cells slots RC RS lo cA D lsA C h1 h2 h3 h4 h5 h6
  exact k p l e s m args below meth c H locs cells slots RC RS lo cA D lsA C h1 h2 h3 h4 h5 (vls_to h6 fun j v hj => vls_mem.mpr ⟨v, hl j v hj, rfl⟩)
theorem Z_take (n : Nat) (hl : ls.take n = ls') (k : Z d kc ks R pc ls' st ω) : Z d kc ks R pc ls st ω := by
  subst hl
  refine Z_fewer (fun j v hj => ?_) k
  rw [List.getElem?_take] at hj
  split at hj
  · exact hj
  · cases hj
theorem Z_iadd {x y : Int32} (hd : decode d.2.1 pc = .ok (.iadd, 1)) (hp : pc + 1 = pc') (k : Z d kc ks R pc' ls (.int (x + y) :: st) ω) : Z d kc ks R pc ls (.int y :: .int x :: st) ω := by
  subst hp
  intro p l e s m args below meth c H locs cells slots RC RS lo cA D lsA C h1 h2 h3 h4 h5 h6
  exact lv_iadd C.1 C.2.1 hd  (k p l e s m args below meth c H locs cells slots RC RS lo cA D lsA C h1 h2 h3 h4 h5 h6)
theorem Z_isub {x y : Int32} (hd : decode d.2.1 pc = .ok (.isub, 1)) (hp : pc + 1 = pc') (k : Z d kc ks R pc' ls (.int (x - y) :: st) ω) : Z d kc ks R pc ls (.int y :: .int x :: st) ω := by
  subst hp
  intro p l e s m args below meth c H locs cells slots RC RS lo cA D lsA C h1 h2 h3 h4 h5 h6
  exact lv_isub C.1 C.2.1 hd  (k p l e s m args below meth c H locs cells slots RC RS lo cA D lsA C h1 h2 h3 h4 h5 h6)
theorem Z_imul {x y : Int32} (hd : decode d.2.1 pc = .ok (.imul, 1)) (hp : pc + 1 = pc') (k : Z d kc ks R pc' ls (.int (x * y) :: st) ω) : Z d kc ks R pc ls (.int y :: .int x :: st) ω := by
  subst hp
  intro p l e s m args below meth c H locs cells slots RC RS lo cA D lsA C h1 h2 h3 h4 h5 h6
  exact lv_imul C.1 C.2.1 hd  (k p l e s m args below meth c H locs cells slots RC RS lo cA D lsA C h1 h2 h3 h4 h5 h6)
theorem Z_iand {x y : Int32} (hd : decode d.2.1 pc = .ok (.iand, 1)) (hp : pc + 1 = pc') (k : Z d kc ks R pc' ls (.int (x &&& y) :: st) ω) : Z d kc ks R pc ls (.int y :: .int x :: st) ω := by
  subst hp
  intro p l e s m args below meth c H locs cells slots RC RS lo cA D lsA C h1 h2 h3 h4 h5 h6
  exact lv_iand C.1 C.2.1 hd  (k p l e s m args below meth c H locs cells slots RC RS lo cA D lsA C h1 h2 h3 h4 h5 h6)
theorem Z_ior {x y : Int32} (hd : decode d.2.1 pc = .ok (.ior, 1)) (hp : pc + 1 = pc') (k : Z d kc ks R pc' ls (.int (x ||| y) :: st) ω) : Z d kc ks R pc ls (.int y :: .int x :: st) ω := by
  subst hp
  intro p l e s m args below meth c H locs cells slots RC RS lo cA D lsA C h1 h2 h3 h4 h5 h6
  exact lv_ior C.1 C.2.1 hd  (k p l e s m args below meth c H locs cells slots RC RS lo cA D lsA C h1 h2 h3 h4 h5 h6)
theorem Z_ixor {x y : Int32} (hd : decode d.2.1 pc = .ok (.ixor, 1)) (hp : pc + 1 = pc') (k : Z d kc ks R pc' ls (.int (x ^^^ y) :: st) ω) : Z d kc ks R pc ls (.int y :: .int x :: st) ω := by
  subst hp
  intro p l e s m args below meth c H locs cells slots RC RS lo cA D lsA C h1 h2 h3 h4 h5 h6
  exact lv_ixor C.1 C.2.1 hd  (k p l e s m args below meth c H locs cells slots RC RS lo cA D lsA C h1 h2 h3 h4 h5 h6)
theorem Z_idiv {x y : Int32} (hd : decode d.2.1 pc = .ok (.idiv, 1)) (hne : ¬ y = 0) (hp : pc + 1 = pc') (k : Z d kc ks R pc' ls (.int (x / y) :: st) ω) : Z d kc ks R pc ls (.int y :: .int x :: st) ω := by
  subst hp
  intro p l e s m args below meth c H locs cells slots RC RS lo cA D lsA C h1 h2 h3 h4 h5 h6
  exact lv_idiv C.1 C.2.1 hd hne (k p l e s m args below meth c H locs cells slots RC RS lo cA D lsA C h1 h2 h3 h4 h5 h6)
theorem Z_irem {x y : Int32} (hd : decode d.2.1 pc = .ok (.irem, 1)) (hne : ¬ y = 0) (hp : pc + 1 = pc') (k : Z d kc ks R pc' ls (.int (x - x / y * y) :: st) ω) : Z d kc ks R pc ls (.int y :: .int x :: st) ω := by
  subst hp
  intro p l e s m args below meth c H locs cells slots RC RS lo cA D lsA C h1 h2 h3 h4 h5 h6
  exact lv_irem C.1 C.2.1 hd hne (k p l e s m args below meth c H locs cells slots RC RS lo cA D lsA C h1 h2 h3 h4 h5 h6)
theorem Z_ineg {x : Int32} (hd : decode d.2.1 pc = .ok (.ineg, 1)) (hp : pc + 1 = pc') (k : Z d kc ks R pc' ls (.int (-x) :: st) ω) : Z d kc ks R pc ls (.int x :: st) ω := by
  subst hp
  intro p l e s m args below meth c H locs cells slots RC RS lo cA D lsA C h1 h2 h3 h4 h5 h6
  exact lv_ineg C.1 C.2.1 hd  (k p l e s m args below meth c H locs cells slots RC RS lo cA D lsA C h1 h2 h3 h4 h5 h6)
theorem Z_ladd {x y : Int64} (hd : decode d.2.1 pc = .ok (.ladd, 1)) (hp : pc + 1 = pc') (k : Z d kc ks R pc' ls (.long (x + y) :: st) ω) : Z d kc ks R pc ls (.long y :: .long x :: st) ω := by
  subst hp
  intro p l e s m args below meth c H locs cells slots RC RS lo cA D lsA C h1 h2 h3 h4 h5 h6
  exact lv_ladd C.1 C.2.1 hd  (k p l e s m args below meth c H locs cells slots RC RS lo cA D lsA C h1 h2 h3 h4 h5 h6)
theorem Z_lsub {x y : Int64} (hd : decode d.2.1 pc = .ok (.lsub, 1)) (hp : pc + 1 = pc') (k : Z d kc ks R pc' ls (.long (x - y) :: st) ω) : Z d kc ks R pc ls (.long y :: .long x :: st) ω := by
  subst hp
  intro p l e s m args below meth c H locs cells slots RC RS lo cA D lsA C h1 h2 h3 h4 h5 h6
  exact lv_lsub C.1 C.2.1 hd  (k p l e s m args below meth c H locs cells slots RC RS lo cA D lsA C h1 h2 h3 h4 h5 h6)
theorem Z_land {x y : Int64} (hd : decode d.2.1 pc = .ok (.land, 1)) (hp : pc + 1 = pc') (k : Z d kc ks R pc' ls (.long (x &&& y) :: st) ω) : Z d kc ks R pc ls (.long y :: .long x :: st) ω := by
  subst hp
  intro p l e s m args below meth c H locs cells slots RC RS lo cA D lsA C h1 h2 h3 h4 h5 h6
  exact lv_land C.1 C.2.1 hd  (k p l e s m args below meth c H locs cells slots RC RS lo cA D lsA C h1 h2 h3 h4 h5 h6)
theorem Z_lor {x y : Int64} (hd : decode d.2.1 pc = .ok (.lor, 1)) (hp : pc + 1 = pc') (k : Z d kc ks R pc' ls (.long (x ||| y) :: st) ω) : Z d kc ks R pc ls (.long y :: .long x :: st) ω := by
  subst hp
  intro p l e s m args below meth c H locs cells slots RC RS lo cA D lsA C h1 h2 h3 h4 h5 h6
  exact lv_lor C.1 C.2.1 hd  (k p l e s m args below meth c H locs cells slots RC RS lo cA D lsA C h1 h2 h3 h4 h5 h6)
theorem Z_lxor {x y : Int64} (hd : decode d.2.1 pc = .ok (.lxor, 1)) (hp : pc + 1 = pc') (k : Z d kc ks R pc' ls (.long (x ^^^ y) :: st) ω) : Z d kc ks R pc ls (.long y :: .long x :: st) ω := by
  subst hp
  intro p l e s m args below meth c H locs cells slots RC RS lo cA D lsA C h1 h2 h3 h4 h5 h6
  exact lv_lxor C.1 C.2.1 hd  (k p l e s m args below meth c H locs cells slots RC RS lo cA D lsA C h1 h2 h3 h4 h5 h6)
theorem Z_ishl {x y : Int32} (hd : decode d.2.1 pc = .ok (.ishl, 1)) (hp : pc + 1 = pc') (k : Z d kc ks R pc' ls (.int (x <<< (y &&& 31)) :: st) ω) : Z d kc ks R pc ls (.int y :: .int x :: st) ω := by
  subst hp
  intro p l e s m args below meth c H locs cells slots RC RS lo cA D lsA C h1 h2 h3 h4 h5 h6
  exact lv_ishl C.1 C.2.1 hd  (k p l e s m args below meth c H locs cells slots RC RS lo cA D lsA C h1 h2 h3 h4 h5 h6)
theorem Z_ishr {x y : Int32} (hd : decode d.2.1 pc = .ok (.ishr, 1)) (hp : pc + 1 = pc') (k : Z d kc ks R pc' ls (.int (x >>> (y &&& 31)) :: st) ω) : Z d kc ks R pc ls (.int y :: .int x :: st) ω := by
  subst hp
  intro p l e s m args below meth c H locs cells slots RC RS lo cA D lsA C h1 h2 h3 h4 h5 h6
  exact lv_ishr C.1 C.2.1 hd  (k p l e s m args below meth c H locs cells slots RC RS lo cA D lsA C h1 h2 h3 h4 h5 h6)
theorem Z_iushr {x y : Int32} (hd : decode d.2.1 pc = .ok (.iushr, 1)) (hp : pc + 1 = pc') (k : Z d kc ks R pc' ls (.int (x.toUInt32 >>> (y.toUInt32 &&& Int32.toUInt32 31)).toInt32 :: st) ω) : Z d kc ks R pc ls (.int y :: .int x :: st) ω := by
  subst hp
  intro p l e s m args below meth c H locs cells slots RC RS lo cA D lsA C h1 h2 h3 h4 h5 h6
  exact lv_iushr C.1 C.2.1 hd rfl (k p l e s m args below meth c H locs cells slots RC RS lo cA D lsA C h1 h2 h3 h4 h5 h6)
theorem Z_lushr {x : Int64} {y : Int32} (hd : decode d.2.1 pc = .ok (.lushr, 1)) (hp : pc + 1 = pc') (k : Z d kc ks R pc' ls (.long (x.toUInt64 >>> (y.toInt64.toUInt64 &&& Int64.toUInt64 63)).toInt64 :: st) ω) : Z d kc ks R pc ls (.int y :: .long x :: st) ω := by
  subst hp
  intro p l e s m args below meth c H locs cells slots RC RS lo cA D lsA C h1 h2 h3 h4 h5 h6
  exact lv_lushr C.1 C.2.1 hd rfl (k p l e s m args below meth c H locs cells slots RC RS lo cA D lsA C h1 h2 h3 h4 h5 h6)
theorem Z_lshl {x : Int64} {y : Int32} (hd : decode d.2.1 pc = .ok (.lshl, 1)) (hp : pc + 1 = pc') (k : Z d kc ks R pc' ls (.long (x <<< (y.toInt64 &&& 63)) :: st) ω) : Z d kc ks R pc ls (.int y :: .long x :: st) ω := by
  subst hp
  intro p l e s m args below meth c H locs cells slots RC RS lo cA D lsA C h1 h2 h3 h4 h5 h6
  exact lv_lshl C.1 C.2.1 hd rfl (k p l e s m args below meth c H locs cells slots RC RS lo cA D lsA C h1 h2 h3 h4 h5 h6)
theorem Z_lshr {x : Int64} {y : Int32} (hd : decode d.2.1 pc = .ok (.lshr, 1)) (hp : pc + 1 = pc') (k : Z d kc ks R pc' ls (.long (x >>> (y.toInt64 &&& 63)) :: st) ω) : Z d kc ks R pc ls (.int y :: .long x :: st) ω := by
  subst hp
  intro p l e s m args below meth c H locs cells slots RC RS lo cA D lsA C h1 h2 h3 h4 h5 h6
  exact lv_lshr C.1 C.2.1 hd rfl (k p l e s m args below meth c H locs cells slots RC RS lo cA D lsA C h1 h2 h3 h4 h5 h6)
theorem Z_l2i {x : Int64} (hd : decode d.2.1 pc = .ok (.l2i, 1)) (hp : pc + 1 = pc') (k : Z d kc ks R pc' ls (.int x.toInt32 :: st) ω) : Z d kc ks R pc ls (.long x :: st) ω := by
  subst hp
  intro p l e s m args below meth c H locs cells slots RC RS lo cA D lsA C h1 h2 h3 h4 h5 h6
  exact lv_l2i C.1 C.2.1 hd rfl (k p l e s m args below meth c H locs cells slots RC RS lo cA D lsA C h1 h2 h3 h4 h5 h6)
theorem Z_lcmp {x y : Int64} (hd : decode d.2.1 pc = .ok (.lcmp, 1)) (hp : pc + 1 = pc') (k : Z d kc ks R pc' ls (.int (lg_cmp x y) :: st) ω) : Z d kc ks R pc ls (.long y :: .long x :: st) ω := by
  subst hp
  intro p l e s m args below meth c H locs cells slots RC RS lo cA D lsA C h1 h2 h3 h4 h5 h6
  exact W.lcmp C.1 C.2.1 hd  (k p l e s m args below meth c H locs cells slots RC RS lo cA D lsA C h1 h2 h3 h4 h5 h6)
theorem Z_null  (hd : decode d.2.1 pc = .ok (.aconst_null, 1)) (hp : pc + 1 = pc') (k : Z d kc ks R pc' ls (.null :: st) ω) : Z d kc ks R pc ls (st) ω := by
  subst hp
  intro p l e s m args below meth c H locs cells slots RC RS lo cA D lsA C h1 h2 h3 h4 h5 h6
  exact lv_null C.1 C.2.1 hd  (k p l e s m args below meth c H locs cells slots RC RS lo cA D lsA C h1 h2 h3 h4 h5 h6)
theorem Z_dup {v : Value} (hd : decode d.2.1 pc = .ok (.dup, 1)) (hv : v.category = 1) (hp : pc + 1 = pc') (k : Z d kc ks R pc' ls (v :: v :: st) ω) : Z d kc ks R pc ls (v :: st) ω := by
  subst hp
  intro p l e s m args below meth c H locs cells slots RC RS lo cA D lsA C h1 h2 h3 h4 h5 h6
  exact lv_dup C.1 C.2.1 hd ((vsh_cat lo v).trans hv) (k p l e s m args below meth c H locs cells slots RC RS lo cA D lsA C h1 h2 h3 h4 h5 h6)
theorem Z_pop {v : Value} (hd : decode d.2.1 pc = .ok (.pop, 1)) (hv : v.category = 1) (hp : pc + 1 = pc') (k : Z d kc ks R pc' ls st ω) : Z d kc ks R pc ls (v :: st) ω := by
  subst hp
  intro p l e s m args below meth c H locs cells slots RC RS lo cA D lsA C h1 h2 h3 h4 h5 h6
  exact lv_pop C.1 C.2.1 hd ((vsh_cat lo v).trans hv) (k p l e s m args below meth c H locs cells slots RC RS lo cA D lsA C h1 h2 h3 h4 h5 h6)
theorem Z_dup2 {v u : Value} (hd : decode d.2.1 pc = .ok (.dup2, 1)) (hv : v.category = 1) (hu : u.category = 1) (hp : pc + 1 = pc') (k : Z d kc ks R pc' ls (v :: u :: v :: u :: st) ω) : Z d kc ks R pc ls (v :: u :: st) ω := by
  subst hp
  intro p l e s m args below meth c H locs cells slots RC RS lo cA D lsA C h1 h2 h3 h4 h5 h6
  exact lv_dup2_11 C.1 C.2.1 hd ((vsh_cat lo v).trans hv) ((vsh_cat lo u).trans hu) (k p l e s m args below meth c H locs cells slots RC RS lo cA D lsA C h1 h2 h3 h4 h5 h6)
theorem Z_goto {off : Int} {tgt : Nat} (hd : decode d.2.1 pc = .ok (.goto off, 3)) (ht : (pc : Int) + off = (tgt : Int)) (k : Z d kc ks R tgt ls st ω) : Z d kc ks R pc ls st ω := by
  intro p l e s m args below meth c H locs cells slots RC RS lo cA D lsA C h1 h2 h3 h4 h5 h6
  exact lv_goto C.1 C.2.1 hd ht (k p l e s m args below meth c H locs cells slots RC RS lo cA D lsA C h1 h2 h3 h4 h5 h6)
theorem Z_ldc {own : String} {index : Nat} {v : Int32} (hd : decode d.2.1 pc = .ok (.ldc index, 2)) (ho : d.1.cls = own) (hw : Cond.constant own index v ∈ ztb) (hp : pc + 2 = pc') (k : Z d kc ks R pc' ls (.int v :: st) ω) : Z d kc ks R pc ls st ω := by
  subst hp; subst ho
  intro p l e s m args below meth c H locs cells slots RC RS lo cA D lsA C h1 h2 h3 h4 h5 h6
  exact lv_ldc C.1 C.2.1 C.2.2.2.2.1 (C.2.2.2.2.2.2.2.1 _ hw) hd (k p l e s m args below meth c H locs cells slots RC RS lo cA D lsA C h1 h2 h3 h4 h5 h6)
theorem Z_ldcw {own : String} {index : Nat} {v : Int32} (hd : decode d.2.1 pc = .ok (.ldc_w index, 3)) (ho : d.1.cls = own) (hw : Cond.constant own index v ∈ ztb) (hp : pc + 3 = pc') (k : Z d kc ks R pc' ls (.int v :: st) ω) : Z d kc ks R pc ls st ω := by
  subst hp; subst ho
  intro p l e s m args below meth c H locs cells slots RC RS lo cA D lsA C h1 h2 h3 h4 h5 h6
  exact lv_ldcw C.1 C.2.1 C.2.2.2.2.1 (C.2.2.2.2.2.2.2.1 _ hw) hd (k p l e s m args below meth c H locs cells slots RC RS lo cA D lsA C h1 h2 h3 h4 h5 h6)
theorem Z_ldc2 {own : String} {index : Nat} {v : Int64} (hd : decode d.2.1 pc = .ok (.ldc2_w index, 3)) (ho : d.1.cls = own) (hw : Cond.constantLong own index v ∈ ztb) (hp : pc + 3 = pc') (k : Z d kc ks R pc' ls (.long v :: st) ω) : Z d kc ks R pc ls st ω := by
  subst hp; subst ho
  intro p l e s m args below meth c H locs cells slots RC RS lo cA D lsA C h1 h2 h3 h4 h5 h6
  exact lv_ldc2 C.1 C.2.1 C.2.2.2.2.1 (C.2.2.2.2.2.2.2.1 _ hw) hd (k p l e s m args below meth c H locs cells slots RC RS lo cA D lsA C h1 h2 h3 h4 h5 h6)
theorem Z_if_eq {x : Int32} {off : Int} {tgt : Nat} (hd : decode d.2.1 pc = .ok (.ifCond .eq off, 3)) (ht : (pc : Int) + off = (tgt : Int)) (hp : pc + 3 = pc') (kt : x = 0 → Z d kc ks R tgt ls st ω) (kf : ¬ x = 0 → Z d kc ks R pc' ls st ω) : Z d kc ks R pc ls (.int x :: st) ω := by
  subst hp
  intro p l e s m args below meth c H locs cells slots RC RS lo cA D lsA C h1 h2 h3 h4 h5 h6
  exact lv_if_eq C.1 C.2.1 hd ht (fun q => kt q p l e s m args below meth c H locs cells slots RC RS lo cA D lsA C h1 h2 h3 h4 h5 h6) (fun q => kf q p l e s m args below meth c H locs cells slots RC RS lo cA D lsA C h1 h2 h3 h4 h5 h6)
theorem Z_icmp_eq {x y : Int32} {off : Int} {tgt : Nat} (hd : decode d.2.1 pc = .ok (.if_icmp .eq off, 3)) (ht : (pc : Int) + off = (tgt : Int)) (hp : pc + 3 = pc') (kt : x = y → Z d kc ks R tgt ls st ω) (kf : ¬ x = y → Z d kc ks R pc' ls st ω) : Z d kc ks R pc ls (.int y :: .int x :: st) ω := by
  subst hp
  intro p l e s m args below meth c H locs cells slots RC RS lo cA D lsA C h1 h2 h3 h4 h5 h6
  exact lv_icmp_eq C.1 C.2.1 hd ht (fun q => kt q p l e s m args below meth c H locs cells slots RC RS lo cA D lsA C h1 h2 h3 h4 h5 h6) (fun q => kf q p l e s m args below meth c H locs cells slots RC RS lo cA D lsA C h1 h2 h3 h4 h5 h6)
theorem Z_if_ne {x : Int32} {off : Int} {tgt : Nat} (hd : decode d.2.1 pc = .ok (.ifCond .ne off, 3)) (ht : (pc : Int) + off = (tgt : Int)) (hp : pc + 3 = pc') (kt : ¬ x = 0 → Z d kc ks R tgt ls st ω) (kf : x = 0 → Z d kc ks R pc' ls st ω) : Z d kc ks R pc ls (.int x :: st) ω := by
  subst hp
  intro p l e s m args below meth c H locs cells slots RC RS lo cA D lsA C h1 h2 h3 h4 h5 h6
  exact lv_if_ne C.1 C.2.1 hd ht (fun q => kt q p l e s m args below meth c H locs cells slots RC RS lo cA D lsA C h1 h2 h3 h4 h5 h6) (fun q => kf q p l e s m args below meth c H locs cells slots RC RS lo cA D lsA C h1 h2 h3 h4 h5 h6)
theorem Z_icmp_ne {x y : Int32} {off : Int} {tgt : Nat} (hd : decode d.2.1 pc = .ok (.if_icmp .ne off, 3)) (ht : (pc : Int) + off = (tgt : Int)) (hp : pc + 3 = pc') (kt : ¬ x = y → Z d kc ks R tgt ls st ω) (kf : x = y → Z d kc ks R pc' ls st ω) : Z d kc ks R pc ls (.int y :: .int x :: st) ω := by
  subst hp
  intro p l e s m args below meth c H locs cells slots RC RS lo cA D lsA C h1 h2 h3 h4 h5 h6
  exact lv_icmp_ne C.1 C.2.1 hd ht (fun q => kt q p l e s m args below meth c H locs cells slots RC RS lo cA D lsA C h1 h2 h3 h4 h5 h6) (fun q => kf q p l e s m args below meth c H locs cells slots RC RS lo cA D lsA C h1 h2 h3 h4 h5 h6)
theorem Z_if_lt {x : Int32} {off : Int} {tgt : Nat} (hd : decode d.2.1 pc = .ok (.ifCond .lt off, 3)) (ht : (pc : Int) + off = (tgt : Int)) (hp : pc + 3 = pc') (kt : x < 0 → Z d kc ks R tgt ls st ω) (kf : ¬ x < 0 → Z d kc ks R pc' ls st ω) : Z d kc ks R pc ls (.int x :: st) ω := by
  subst hp
  intro p l e s m args below meth c H locs cells slots RC RS lo cA D lsA C h1 h2 h3 h4 h5 h6
  exact lv_if_lt C.1 C.2.1 hd ht (fun q => kt q p l e s m args below meth c H locs cells slots RC RS lo cA D lsA C h1 h2 h3 h4 h5 h6) (fun q => kf q p l e s m args below meth c H locs cells slots RC RS lo cA D lsA C h1 h2 h3 h4 h5 h6)
theorem Z_icmp_lt {x y : Int32} {off : Int} {tgt : Nat} (hd : decode d.2.1 pc = .ok (.if_icmp .lt off, 3)) (ht : (pc : Int) + off = (tgt : Int)) (hp : pc + 3 = pc') (kt : x < y → Z d kc ks R tgt ls st ω) (kf : ¬ x < y → Z d kc ks R pc' ls st ω) : Z d kc ks R pc ls (.int y :: .int x :: st) ω := by
  subst hp
  intro p l e s m args below meth c H locs cells slots RC RS lo cA D lsA C h1 h2 h3 h4 h5 h6
  exact lv_icmp_lt C.1 C.2.1 hd ht (fun q => kt q p l e s m args below meth c H locs cells slots RC RS lo cA D lsA C h1 h2 h3 h4 h5 h6) (fun q => kf q p l e s m args below meth c H locs cells slots RC RS lo cA D lsA C h1 h2 h3 h4 h5 h6)
theorem Z_if_ge {x : Int32} {off : Int} {tgt : Nat} (hd : decode d.2.1 pc = .ok (.ifCond .ge off, 3)) (ht : (pc : Int) + off = (tgt : Int)) (hp : pc + 3 = pc') (kt : 0 ≤ x → Z d kc ks R tgt ls st ω) (kf : ¬ 0 ≤ x → Z d kc ks R pc' ls st ω) : Z d kc ks R pc ls (.int x :: st) ω := by
  subst hp
  intro p l e s m args below meth c H locs cells slots RC RS lo cA D lsA C h1 h2 h3 h4 h5 h6
  exact lv_if_ge C.1 C.2.1 hd ht (fun q => kt q p l e s m args below meth c H locs cells slots RC RS lo cA D lsA C h1 h2 h3 h4 h5 h6) (fun q => kf q p l e s m args below meth c H locs cells slots RC RS lo cA D lsA C h1 h2 h3 h4 h5 h6)
theorem Z_icmp_ge {x y : Int32} {off : Int} {tgt : Nat} (hd : decode d.2.1 pc = .ok (.if_icmp .ge off, 3)) (ht : (pc : Int) + off = (tgt : Int)) (hp : pc + 3 = pc') (kt : y ≤ x → Z d kc ks R tgt ls st ω) (kf : ¬ y ≤ x → Z d kc ks R pc' ls st ω) : Z d kc ks R pc ls (.int y :: .int x :: st) ω := by
  subst hp
  intro p l e s m args below meth c H locs cells slots RC RS lo cA D lsA C h1 h2 h3 h4 h5 h6
  exact lv_icmp_ge C.1 C.2.1 hd ht (fun q => kt q p l e s m args below meth c H locs cells slots RC RS lo cA D lsA C h1 h2 h3 h4 h5 h6) (fun q => kf q p l e s m args below meth c H locs cells slots RC RS lo cA D lsA C h1 h2 h3 h4 h5 h6)
theorem Z_if_gt {x : Int32} {off : Int} {tgt : Nat} (hd : decode d.2.1 pc = .ok (.ifCond .gt off, 3)) (ht : (pc : Int) + off = (tgt : Int)) (hp : pc + 3 = pc') (kt : 0 < x → Z d kc ks R tgt ls st ω) (kf : ¬ 0 < x → Z d kc ks R pc' ls st ω) : Z d kc ks R pc ls (.int x :: st) ω := by
  subst hp
  intro p l e s m args below meth c H locs cells slots RC RS lo cA D lsA C h1 h2 h3 h4 h5 h6
  exact lv_if_gt C.1 C.2.1 hd ht (fun q => kt q p l e s m args below meth c H locs cells slots RC RS lo cA D lsA C h1 h2 h3 h4 h5 h6) (fun q => kf q p l e s m args below meth c H locs cells slots RC RS lo cA D lsA C h1 h2 h3 h4 h5 h6)
theorem Z_icmp_gt {x y : Int32} {off : Int} {tgt : Nat} (hd : decode d.2.1 pc = .ok (.if_icmp .gt off, 3)) (ht : (pc : Int) + off = (tgt : Int)) (hp : pc + 3 = pc') (kt : y < x → Z d kc ks R tgt ls st ω) (kf : ¬ y < x → Z d kc ks R pc' ls st ω) : Z d kc ks R pc ls (.int y :: .int x :: st) ω := by
  subst hp
  intro p l e s m args below meth c H locs cells slots RC RS lo cA D lsA C h1 h2 h3 h4 h5 h6
  exact lv_icmp_gt C.1 C.2.1 hd ht (fun q => kt q p l e s m args below meth c H locs cells slots RC RS lo cA D lsA C h1 h2 h3 h4 h5 h6) (fun q => kf q p l e s m args below meth c H locs cells slots RC RS lo cA D lsA C h1 h2 h3 h4 h5 h6)
theorem Z_if_le {x : Int32} {off : Int} {tgt : Nat} (hd : decode d.2.1 pc = .ok (.ifCond .le off, 3)) (ht : (pc : Int) + off = (tgt : Int)) (hp : pc + 3 = pc') (kt : x ≤ 0 → Z d kc ks R tgt ls st ω) (kf : ¬ x ≤ 0 → Z d kc ks R pc' ls st ω) : Z d kc ks R pc ls (.int x :: st) ω := by
  subst hp
  intro p l e s m args below meth c H locs cells slots RC RS lo cA D lsA C h1 h2 h3 h4 h5 h6
  exact lv_if_le C.1 C.2.1 hd ht (fun q => kt q p l e s m args below meth c H locs cells slots RC RS lo cA D lsA C h1 h2 h3 h4 h5 h6) (fun q => kf q p l e s m args below meth c H locs cells slots RC RS lo cA D lsA C h1 h2 h3 h4 h5 h6)
theorem Z_icmp_le {x y : Int32} {off : Int} {tgt : Nat} (hd : decode d.2.1 pc = .ok (.if_icmp .le off, 3)) (ht : (pc : Int) + off = (tgt : Int)) (hp : pc + 3 = pc') (kt : x ≤ y → Z d kc ks R tgt ls st ω) (kf : ¬ x ≤ y → Z d kc ks R pc' ls st ω) : Z d kc ks R pc ls (.int y :: .int x :: st) ω := by
  subst hp
  intro p l e s m args below meth c H locs cells slots RC RS lo cA D lsA C h1 h2 h3 h4 h5 h6
  exact lv_icmp_le C.1 C.2.1 hd ht (fun q => kt q p l e s m args below meth c H locs cells slots RC RS lo cA D lsA C h1 h2 h3 h4 h5 h6) (fun q => kf q p l e s m args below meth c H locs cells slots RC RS lo cA D lsA C h1 h2 h3 h4 h5 h6)
theorem Z_ifnonnull {off : Int} {tgt : Nat} {r : Option Nat} (hd : decode d.2.1 pc = .ok (.ifnonnull off, 3)) (ht : (pc : Int) + off = (tgt : Int)) (hp : pc + 3 = pc') (kt : ∀ a, r = some a → Z d kc ks R tgt ls st ω) (kf : r = none → Z d kc ks R pc' ls st ω) : Z d kc ks R pc ls (va_rf r :: st) ω := by
  subst hp
  intro p l e s m args below meth c H locs cells slots RC RS lo cA D lsA C h1 h2 h3 h4 h5 h6
  cases r with
  | none => exact lv_ifnonnullN C.1 C.2.1 hd (kf rfl p l e s m args below meth c H locs cells slots RC RS lo cA D lsA C h1 h2 h3 h4 h5 h6)
  | some a => exact lv_ifnonnull C.1 C.2.1 hd ht (kt a rfl p l e s m args below meth c H locs cells slots RC RS lo cA D lsA C h1 h2 h3 h4 h5 h6)
theorem Z_ifnull {off : Int} {tgt : Nat} {r : Option Nat} (hd : decode d.2.1 pc = .ok (.ifnull off, 3)) (ht : (pc : Int) + off = (tgt : Int)) (hp : pc + 3 = pc') (kt : r = none → Z d kc ks R tgt ls st ω) (kf : ∀ a, r = some a → Z d kc ks R pc' ls st ω) : Z d kc ks R pc ls (va_rf r :: st) ω := by
  subst hp
  intro p l e s m args below meth c H locs cells slots RC RS lo cA D lsA C h1 h2 h3 h4 h5 h6
  cases r with
  | none => exact lv_ifnullN C.1 C.2.1 hd ht (kt rfl p l e s m args below meth c H locs cells slots RC RS lo cA D lsA C h1 h2 h3 h4 h5 h6)
  | some a => exact lv_ifnull C.1 C.2.1 hd (kf a rfl p l e s m args below meth c H locs cells slots RC RS lo cA D lsA C h1 h2 h3 h4 h5 h6)
theorem Z_lookup {dflt : Int} {ps : Array (Int × Int)} {len : Nat} {x : Int32} {off : Int} {tgt : Nat} (hd : decode d.2.1 pc = .ok (.lookupswitch dflt ps, len)) (hq : (ps.toList.zip (ps.toList.drop 1)).all (fun (a, next) => a.1 < next.1) = true) (ho : Op.lookupswitch.offset ps.toList dflt x.toInt = off) (ht : (pc : Int) + off = (tgt : Int)) (k : Z d kc ks R tgt ls st ω) : Z d kc ks R pc ls (.int x :: st) ω := by
  intro p l e s m args below meth c H locs cells slots RC RS lo cA D lsA C h1 h2 h3 h4 h5 h6
  exact lv_lookup C.1 C.2.1 hd hq ho ht (k p l e s m args below meth c H locs cells slots RC RS lo cA D lsA C h1 h2 h3 h4 h5 h6)
theorem Z_tableOut {dflt lo hi : Int} {offs : Array Int} {len : Nat} {x : Int32} {tgt : Nat} (hd : decode d.2.1 pc = .ok (.tableswitch dflt lo hi offs, len)) (h : x.toInt < lo ∨ hi < x.toInt) (ht : (pc : Int) + dflt = (tgt : Int)) (k : Z d kc ks R tgt ls st ω) : Z d kc ks R pc ls (.int x :: st) ω := by
  intro p l e s m args below meth c H locs cells slots RC RS lo0 cA D lsA C h1 h2 h3 h4 h5 h6
  exact lv_tableOut C.1 C.2.1 hd h ht (k p l e s m args below meth c H locs cells slots RC RS lo0 cA D lsA C h1 h2 h3 h4 h5 h6)
theorem Z_tableIn {dflt lo hi : Int} {offs : Array Int} {len : Nat} {x : Int32} {off : Int} {tgt : Nat} (hd : decode d.2.1 pc = .ok (.tableswitch dflt lo hi offs, len)) (g1 : ¬ x.toInt < lo) (g2 : ¬ hi < x.toInt) (ho : offs[(x.toInt - lo).toNat]? = some off) (ht : (pc : Int) + off = (tgt : Int)) (k : Z d kc ks R tgt ls st ω) : Z d kc ks R pc ls (.int x :: st) ω := by
  intro p l e s m args below meth c H locs cells slots RC RS lo0 cA D lsA C h1 h2 h3 h4 h5 h6
  exact lv_tableIn C.1 C.2.1 hd g1 g2 ho ht (k p l e s m args below meth c H locs cells slots RC RS lo0 cA D lsA C h1 h2 h3 h4 h5 h6)
theorem Z_widen {kc' ks' : Nat} (hc : kc' ≤ kc) (hs : ks' ≤ ks) (k : Z d kc' ks' R pc ls st ω) : Z d kc ks R pc ls st ω := by
  intro p l e s m args below meth c H locs cells slots RC RS lo cA D lsA C h1 h2 h3 h4 h5 h6
  exact k p l e s m args below meth c H locs cells slots RC RS lo cA D lsA C (Nat.le_trans (Nat.add_le_add_left hc _) h1) (Nat.le_trans (Nat.add_le_add_left hs _) h2) h3 h4 h5 h6
theorem Z_world {σ τ : Nat → ZO} {n : Nat} (hσ : ∀ a, a < n → σ a = τ a) (k : Z d kc ks R pc ls st (τ, n)) : Z d kc ks R pc ls st (σ, n) := by
  intro p l e s m args below meth c H locs cells slots RC RS lo cA D lsA C h1 h2 h3 h4 h5 h6
  exact k p l e s m args below meth c H locs cells slots RC RS lo cA D lsA C h1 h2 h3 (by rw [← vws_congr hσ]; exact h4) h5 h6
theorem Z_ireturn {x : Int32} {ty : FieldType} (hd : decode d.2.1 pc = .ok (.ireturn, 1)) (hr : d.2.2.2.1 = some ty) (hn : narrow ty (.int x) = .int x) (hR : R (some (.int x)) ω) : Z d kc ks R pc ls [.int x] ω := by
  intro p l e s m args below meth c H locs cells slots RC RS lo cA D lsA C h1 h2 h3 h4 h5 h6
  refine W.widen (k := RC) (n := RS) (Nat.le_trans (Nat.le_add_right _ _) h1) (Nat.le_trans (Nat.le_add_right _ _) h2) ?_
  exact W.zret C.1 C.2.1 (C.2.2.1.trans hr) hn (fun t ht hW => ⟨⟨some (.int x), ω, rfl, hR, by rw [ht]; exact h3, by rw [ht]; exact h4⟩, h5.F ht⟩) h5.2.2 hd C.2.2.2.2.2.1
theorem Z_lreturn {x : Int64} (hd : decode d.2.1 pc = .ok (.lreturn, 1)) (hr : d.2.2.2.1 = some .long) (hR : R (some (.long x)) ω) : Z d kc ks R pc ls [.long x] ω := by
  intro p l e s m args below meth c H locs cells slots RC RS lo cA D lsA C h1 h2 h3 h4 h5 h6
  refine W.widen (k := RC) (n := RS) (Nat.le_trans (Nat.le_add_right _ _) h1) (Nat.le_trans (Nat.le_add_right _ _) h2) ?_
  exact W.lret C.1 C.2.1 (C.2.2.1.trans hr) (fun t ht hW => ⟨⟨some (.long x), ω, rfl, hR, by rw [ht]; exact h3, by rw [ht]; exact h4⟩, h5.F ht⟩) h5.2.2 hd C.2.2.2.2.2.1
theorem Z_return (hd : decode d.2.1 pc = .ok (.return_, 1)) (hr : d.2.2.2.1 = none) (hR : R none ω) : Z d kc ks R pc ls [] ω := by
  intro p l e s m args below meth c H locs cells slots RC RS lo cA D lsA C h1 h2 h3 h4 h5 h6
  refine W.widen (k := RC) (n := RS) (Nat.le_trans (Nat.le_add_right _ _) h1) (Nat.le_trans (Nat.le_add_right _ _) h2) ?_
  exact W.vret C.1 C.2.1 (C.2.2.1.trans hr) (fun t ht hW => ⟨⟨none, ω, rfl, hR, by rw [ht]; exact h3, by rw [ht]; exact h4⟩, h5.F ht⟩) h5.2.2 hd C.2.2.2.2.2.1
theorem Z_areturn {v : Value} {rt : FieldType} (hd : decode d.2.1 pc = .ok (.areturn, 1)) (hr : d.2.2.2.1 = some rt) (hrt : (∃ n, rt = .object n) ∨ ∃ t, rt = .array t) (hv : v = .null ∨ ∃ a, v = .ref a) (hR : R (some v) ω) : Z d kc ks R pc ls [v] ω := by
  intro p l e s m args below meth c H locs cells slots RC RS lo cA D lsA C h1 h2 h3 h4 h5 h6
  refine W.widen (k := RC) (n := RS) (Nat.le_trans (Nat.le_add_right _ _) h1) (Nat.le_trans (Nat.le_add_right _ _) h2) ?_
  have hv' : vsh lo v = .null ∨ ∃ a, vsh lo v = .ref a := by
    rcases hv with rfl | ⟨a, rfl⟩
    · exact Or.inl rfl
    · exact Or.inr ⟨lo + a, rfl⟩
  exact W.aret C.1 C.2.1 (C.2.2.1.trans hr) hrt hv' (fun t ht hW => ⟨⟨some v, ω, rfl, hR, by rw [ht]; exact h3, by rw [ht]; exact h4⟩, h5.F ht⟩) h5.2.2 hd C.2.2.2.2.2.1
end ZROWS
