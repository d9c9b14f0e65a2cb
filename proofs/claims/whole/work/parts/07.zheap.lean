theorem vsh_rf (lo : Nat) (r : Option Nat) : vsh lo (va_rf r) = va_rf (r.map (lo + ·)) := by cases r <;> rfl
/-- field k of the objects of class number ci, as the entry 'index' of the class 'own' names it -/
def zFd (own : String) (index ci k : Nat) (T : u_T) (N : Nat) (C : String) : Prop :=
  vwCl[ci]? = some (C, T, N) ∧ (∀ w ∈ u_ws C T N, w ∈ ztb) ∧ k < N ∧ ∃ ref, (Cond.fieldLink own index ref (T k).2.1 (T k).2.2.1 ∈ ztb) ∧ (ref = (T k).1 ∨ Cond.sameField ref (T k).1 (T k).2.1 (T k).2.2.1 ∈ ztb)
/-- the same across nest mates -/
def zFn (own : String) (index ci k : Nat) (T : u_T) (N : Nat) (C : String) : Prop :=
  vwCl[ci]? = some (C, T, N) ∧ (∀ w ∈ u_ws C T N, w ∈ ztb) ∧ k < N ∧ ∃ ref host, (Cond.fieldLinkNest own index ref (T k).2.1 (T k).2.2.1 host ∈ ztbN) ∧ (ref = (T k).1 ∨ Cond.sameField ref (T k).1 (T k).2.1 (T k).2.2.1 ∈ ztb)
/-- what a class's table says of its fields, for a store -/
def zFt (T : u_T) (N : Nat) (ty : Nat → FieldType) : Prop := (∀ k, k < N → parseFieldDescriptor (T k).2.2.1 = some (ty k)) ∧ (∀ a, a < N → ∀ b, b < N → a ≠ b → (T a).2.1 ≠ (T b).2.1)
theorem zsame {args : Array Value} {s : State} {ref owner n t : String} (hts : ∀ w ∈ ztb, w.before args s = true) (h : ref = owner ∨ Cond.sameField ref owner n t ∈ ztb) (x : ClassId × Class × Nat × Field) (hx : s.fieldFound? owner n t = some x) : s.fieldFound? ref n t = some x := by
  rcases h with rfl | h
  · exact hx
  · exact u_same (hts _ h) x hx
theorem z_putP {lo : Nat} {cA : Nat → ClassId} {D : va_G} {σ : Nat → ZO} {n o ci k N : Nat} {fs : List Value} {v : Value} {T : u_T} {C : String} {H H' : Heap} {cell : Cell} (h4 : va_P D vwCl (vws lo cA (σ, n)) H) (hlt : o < n) (hσ : σ o = .inl (ci, fs)) (hc : vwCl[ci]? = some (C, T, N)) (hl : k < fs.length) (hk : k < N) (hap : ∀ x y, x < N → y < N → x ≠ y → D.2 ci x ≠ D.2 ci y)
    (q2 : cell.cls = D.1 ci) (q3 : cell.vm = .none) (q4 : ∀ j, j < N → cell.slots[D.2 ci j]? = some (vp_V (fs.map (vsh lo)) j)) (e1 : H'[lo + o]? = some (cell.setSlot (D.2 ci k) (vsh lo v))) (e3 : ∀ q, q ≠ lo + o → H'[q]? = H[q]?) : va_P D vwCl (vws lo cA (zup σ o (.inl (ci, fs.set k v)), n)) H' := by
  have he := vws_get (lo := lo) (cA := cA) (ω := (σ, n)) hlt
  rw [← vws_set hlt]
  refine h4.set vws_D he ?_ e3
  refine ⟨_, hc, t_OB.to (V := updV (vp_V (fs.map (vsh lo))) k (vsh lo v)) ⟨_, e1, q2, q3, t_set q4 hap hk _⟩ (fun j _ => ?_)⟩
  rw [vp_updV_set (by simpa using hl) (vsh lo v) j, List.map_set]
section ZHEAP
variable {d : ZD} {kc ks : Nat} {R : Option Value → ZW → Prop} {pc pc' : Nat} {ls ls' : List (Option Value)} {st : List Value} {ω : ZW} {σ : Nat → ZO} {n : Nat}
theorem Z_getfield {own C0 : String} {T : u_T} {N ci k index o : Nat} {fs : List Value} {v : Value} (hd : decode d.2.1 pc = .ok (.getfield index, 3)) (ho : d.1.cls = own) (F : zFd own index ci k T N C0) (hlt : o < n) (hσ : σ o = .inl (ci, fs)) (hv : fs[k]? = some v) (hp : pc + 3 = pc') (kk : Z d kc ks R pc' ls (v :: st) (σ, n)) : Z d kc ks R pc ls (.ref o :: st) (σ, n) := by
  subst hp; subst ho
  intro p l e s m args below meth c H locs cells slots RC RS lo cA D lsA C h1 h2 h3 h4 h5 h6
  obtain ⟨hc, hin, hk, ref, hlink, hsame⟩ := F
  have hts := C.2.2.2.2.2.2.2.1
  have he := vws_get (lo := lo) (cA := cA) (ω := (σ, n)) hlt
  have hh : vE lo cA (σ o) = .inr (ci, fs.map (vsh lo)) := by rw [hσ]; rfl
  rw [show (σ, n).1 o = σ o from rfl, hh] at he
  exact va_get C.1 C.2.1 hts hin C.2.2.2.2.1 C.2.2.2.2.2.2.2.2.2.1 h4 o he hc k hk (hts _ hlink) (zsame hts hsame) (v := vsh lo v) (by rw [List.getElem?_map, hv]; rfl) hd (kk p l e s m args below meth c H locs cells slots RC RS lo cA D lsA C h1 h2 h3 h4 h5 h6)
theorem Z_getfieldN {own C0 : String} {T : u_T} {N ci k index o : Nat} {fs : List Value} {v : Value} (hd : decode d.2.1 pc = .ok (.getfield index, 3)) (ho : d.1.cls = own) (F : zFn own index ci k T N C0) (hlt : o < n) (hσ : σ o = .inl (ci, fs)) (hv : fs[k]? = some v) (hp : pc + 3 = pc') (kk : Z d kc ks R pc' ls (v :: st) (σ, n)) : Z d kc ks R pc ls (.ref o :: st) (σ, n) := by
  subst hp; subst ho
  intro p l e s m args below meth c H locs cells slots RC RS lo cA D lsA C h1 h2 h3 h4 h5 h6
  obtain ⟨hc, hin, hk, ref, host, hlink, hsame⟩ := F
  have hts := C.2.2.2.2.2.2.2.1
  have he := vws_get (lo := lo) (cA := cA) (ω := (σ, n)) hlt
  have hh : vE lo cA (σ o) = .inr (ci, fs.map (vsh lo)) := by rw [hσ]; rfl
  rw [show (σ, n).1 o = σ o from rfl, hh] at he
  exact va_getN C.1 C.2.1 hts hin C.2.2.2.2.1 C.2.2.2.2.2.2.2.2.2.1 h4 o he hc k hk (va_Nw.use rfl (C.2.2.2.2.2.2.2.2.1 _ hlink)) (zsame hts hsame) (v := vsh lo v) (by rw [List.getElem?_map, hv]; rfl) hd (kk p l e s m args below meth c H locs cells slots RC RS lo cA D lsA C h1 h2 h3 h4 h5 h6)
theorem Z_putfield {own C0 : String} {T : u_T} {N ci k index o : Nat} {fs : List Value} {v : Value} {ty0 : Nat → FieldType} (hd : decode d.2.1 pc = .ok (.putfield index, 3)) (ho : d.1.cls = own) (F : zFd own index ci k T N C0) (hty : zFt T N ty0) (hfin : (T k).2.2.2 = false) (hlt : o < n) (hσ : σ o = .inl (ci, fs)) (hl : k < fs.length) (hnv : ∀ lo, narrow (ty0 k) (vsh lo v) = vsh lo v) (hfv : ∀ lo, fits (ty0 k) (vsh lo v) = true) (hp : pc + 3 = pc') (kk : Z d kc ks R pc' ls st (zup σ o (.inl (ci, fs.set k v)), n)) : Z d kc ks R pc ls (v :: .ref o :: st) (σ, n) := by
  subst hp; subst ho
  intro p l e s m args below meth c H locs cells slots RC RS lo cA D lsA C h1 h2 h3 h4 h5 h6
  obtain ⟨hc, hin, hk, ref, hlink, hsame⟩ := F
  have hts := C.2.2.2.2.2.2.2.1
  have hK := C.2.2.2.2.2.2.2.2.2.1
  have he := vws_get (lo := lo) (cA := cA) (ω := (σ, n)) hlt
  have hh : vE lo cA (σ o) = .inr (ci, fs.map (vsh lo)) := by rw [hσ]; rfl
  rw [show (σ, n).1 o = σ o from rfl, hh] at he
  have hap := va_apart (own := d.1.cls) hts hin ty0 hty.1 hty.2 hK hc
  obtain ⟨r, g1, cell, q1, q2, q3, q4⟩ := h4 o _ he
  have hr : r = (C0, T, N) := Option.some.inj (g1.symm.trans hc)
  subst hr
  obtain ⟨hSl, hfc, kC, hkC, hkind⟩ := hK.1 ci _ hc
  obtain ⟨cf, kf, fi, f, hi, hsl⟩ := hSl k hk
  have hlay := hts _ (hin _ (u_in_lay hk))
  unfold u_lay at hlay
  have hst := (u_facts hfc hkC (u_lays hts hin hk) hi).1
  have hdt := hty.1 k hk
  rw [if_neg (by rw [hfin]; decide)] at hlay
  have h9 := u_store hfc hkC hkind hlay hi hdt (hnv lo) (hfv lo)
  refine W.putK C.1 C.2.1 (f := f) ⟨C.2.2.2.2.1, hts _ hlink, ⟨_, _, _, zsame hts hsame _ hi⟩, hst⟩ (by rw [q2]; exact h9) q1 q3 (by rw [hsl]; exact k2_hasslot (q4 k hk)) rfl rfl hd fun H' e1 e2 e3 => ?_
  rw [hsl] at e1 ⊢
  exact kk p l e s m args below meth c H' _ cells slots RC RS lo cA D lsA C h1 h2 (by rw [e2]; exact h3) (z_putP h4 hlt hσ hc hl hk hap q2 q3 q4 e1 e3) (h5.put e2 e3 (Nat.le_add_right _ _)) h6
theorem Z_putfieldN {own C0 : String} {T : u_T} {N ci k index o : Nat} {fs : List Value} {v : Value} {ty0 : Nat → FieldType} (hd : decode d.2.1 pc = .ok (.putfield index, 3)) (ho : d.1.cls = own) (F : zFn own index ci k T N C0) (hty : zFt T N ty0) (hfin : (T k).2.2.2 = false) (hlt : o < n) (hσ : σ o = .inl (ci, fs)) (hl : k < fs.length) (hnv : ∀ lo, narrow (ty0 k) (vsh lo v) = vsh lo v) (hfv : ∀ lo, fits (ty0 k) (vsh lo v) = true) (hp : pc + 3 = pc') (kk : Z d kc ks R pc' ls st (zup σ o (.inl (ci, fs.set k v)), n)) : Z d kc ks R pc ls (v :: .ref o :: st) (σ, n) := by
  subst hp; subst ho
  intro p l e s m args below meth c H locs cells slots RC RS lo cA D lsA C h1 h2 h3 h4 h5 h6
  obtain ⟨hc, hin, hk, ref, host, hlink, hsame⟩ := F
  have hts := C.2.2.2.2.2.2.2.1
  have hK := C.2.2.2.2.2.2.2.2.2.1
  have he := vws_get (lo := lo) (cA := cA) (ω := (σ, n)) hlt
  have hh : vE lo cA (σ o) = .inr (ci, fs.map (vsh lo)) := by rw [hσ]; rfl
  rw [show (σ, n).1 o = σ o from rfl, hh] at he
  have hap := va_apart (own := d.1.cls) hts hin ty0 hty.1 hty.2 hK hc
  obtain ⟨r, g1, cell, q1, q2, q3, q4⟩ := h4 o _ he
  have hr : r = (C0, T, N) := Option.some.inj (g1.symm.trans hc)
  subst hr
  obtain ⟨hSl, hfc, kC, hkC, hkind⟩ := hK.1 ci _ hc
  obtain ⟨cf, kf, fi, f, hi, hsl⟩ := hSl k hk
  have hlay := hts _ (hin _ (u_in_lay hk))
  unfold u_lay at hlay
  have hst := (u_facts hfc hkC (u_lays hts hin hk) hi).1
  have hdt := hty.1 k hk
  rw [if_neg (by rw [hfin]; decide)] at hlay
  have h9 := u_store hfc hkC hkind hlay hi hdt (hnv lo) (hfv lo)
  refine va_WputK C.1 C.2.1 (f := f) C.2.2.2.2.1 (va_Nw.use rfl (C.2.2.2.2.2.2.2.2.1 _ hlink)) (zsame hts hsame _ hi) hst (by rw [q2]; exact h9) q1 q3 (by rw [hsl]; exact k2_hasslot (q4 k hk)) rfl rfl hd fun H' e1 e2 e3 => ?_
  rw [hsl] at e1 ⊢
  exact kk p l e s m args below meth c H' _ cells slots RC RS lo cA D lsA C h1 h2 (by rw [e2]; exact h3) (z_putP h4 hlt hσ hc hl hk hap q2 q3 q4 e1 e3) (h5.put e2 e3 (Nat.le_add_right _ _)) h6
theorem Z_putfieldF {own C0 : String} {T : u_T} {N ci k index o : Nat} {fs : List Value} {v : Value} {ty0 : Nat → FieldType} (hd : decode d.2.1 pc = .ok (.putfield index, 3)) (ho : d.1.cls = own) (F : zFd own index ci k T N C0) (hty : zFt T N ty0) (hfin : (T k).2.2.2 = true) (hini : d.1.name = "<init>") (hdecl : (T k).1 = own) (hlt : o < n) (hσ : σ o = .inl (ci, fs)) (hl : k < fs.length) (hnv : ∀ lo, narrow (ty0 k) (vsh lo v) = vsh lo v) (hfv : ∀ lo, fits (ty0 k) (vsh lo v) = true) (hp : pc + 3 = pc') (kk : Z d kc ks R pc' ls st (zup σ o (.inl (ci, fs.set k v)), n)) : Z d kc ks R pc ls (v :: .ref o :: st) (σ, n) := by
  subst hp; subst ho
  intro p l e s m args below meth c H locs cells slots RC RS lo cA D lsA C h1 h2 h3 h4 h5 h6
  obtain ⟨hc, hin, hk, ref, hlink, hsame⟩ := F
  have hts := C.2.2.2.2.2.2.2.1
  have hK := C.2.2.2.2.2.2.2.2.2.1
  have he := vws_get (lo := lo) (cA := cA) (ω := (σ, n)) hlt
  have hh : vE lo cA (σ o) = .inr (ci, fs.map (vsh lo)) := by rw [hσ]; rfl
  rw [show (σ, n).1 o = σ o from rfl, hh] at he
  have hap := va_apart (own := d.1.cls) hts hin ty0 hty.1 hty.2 hK hc
  obtain ⟨r, g1, cell, q1, q2, q3, q4⟩ := h4 o _ he
  have hr : r = (C0, T, N) := Option.some.inj (g1.symm.trans hc)
  subst hr
  obtain ⟨hSl, hfc, kC, hkC, hkind⟩ := hK.1 ci _ hc
  obtain ⟨cf, kf, fi, f, hi, hsl⟩ := hSl k hk
  have hlay := hts _ (hin _ (u_in_lay hk))
  unfold u_lay at hlay
  have hst := (u_facts hfc hkC (u_lays hts hin hk) hi).1
  have hdt := hty.1 k hk
  rw [if_pos hfin] at hlay
  have hcf : m.cls = cf := by
    obtain ⟨_, _, c', _, _, _, -, -, hf', -, -, -, hown2, -⟩ := Cond.laysFinal_spec hlay
    have e1 : c' = cf := by have := hi.symm.trans hf'; simp at this; exact this.1.symm
    rw [hdecl] at hown2
    rw [← e1]; exact Option.some.inj (C.2.2.2.2.1.symm.trans hown2)
  have h9 := u_fits hfc hkC hkind (Or.inr hlay) hi hdt (hnv lo) (hfv lo)
  refine W.putFinK C.1 C.2.1 C.2.2.2.2.1 (hts _ hlink) (zsame hts hsame _ hi) hst hcf (C.2.2.2.2.2.2.1.trans hini) (by rw [q2]; exact h9) q1 q3 (by rw [hsl]; exact k2_hasslot (q4 k hk)) rfl rfl hd fun H' e1 e2 e3 => ?_
  rw [hsl] at e1 ⊢
  exact kk p l e s m args below meth c H' _ cells slots RC RS lo cA D lsA C h1 h2 (by rw [e2]; exact h3) (z_putP h4 hlt hσ hc hl hk hap q2 q3 q4 e1 e3) (h5.put e2 e3 (Nat.le_add_right _ _)) h6
theorem Z_alen {o N : Nat} {f : Nat → Int32} {v : Int32} (hd : decode d.2.1 pc = .ok (.arraylength, 1)) (hlt : o < n) (hσ : σ o = .inr (.inl (N, f))) (hv : Int32.ofNat N = v) (hp : pc + 1 = pc') (k : Z d kc ks R pc' ls (.int v :: st) (σ, n)) : Z d kc ks R pc ls (.ref o :: st) (σ, n) := by
  subst hp
  intro p l e s m args below meth c H locs cells slots RC RS lo cA D lsA C h1 h2 h3 h4 h5 h6
  have he := vws_get (lo := lo) (cA := cA) (ω := (σ, n)) hlt
  rw [show (σ, n).1 o = σ o from rfl, hσ] at he
  exact va_alen C.1 C.2.1 C.2.2.2.2.2.2.2.2.2.1 h4 o 0 (x := (N, .inl f)) he (ty := .int) rfl hv hd (k p l e s m args below meth c H locs cells slots RC RS lo cA D lsA C h1 h2 h3 h4 h5 h6)
theorem Z_alenq {o N t : Nat} {f : Nat → Option Nat} {v : Int32} {ty : FieldType} (hd : decode d.2.1 pc = .ok (.arraylength, 1)) (hlt : o < n) (hσ : σ o = .inr (.inr (t, N, f))) (ht : ∀ cA : Nat → ClassId, (vtys cA)[t]? = some (cA t, ty)) (hv : Int32.ofNat N = v) (hp : pc + 1 = pc') (k : Z d kc ks R pc' ls (.int v :: st) (σ, n)) : Z d kc ks R pc ls (.ref o :: st) (σ, n) := by
  subst hp
  intro p l e s m args below meth c H locs cells slots RC RS lo cA D lsA C h1 h2 h3 h4 h5 h6
  have he := vws_get (lo := lo) (cA := cA) (ω := (σ, n)) hlt
  rw [show (σ, n).1 o = σ o from rfl, hσ] at he
  exact va_alen C.1 C.2.1 C.2.2.2.2.2.2.2.2.2.1 h4 o t (x := (N, .inr (.inr (.inr (.inr (fun i => (f i).map (lo + ·))))))) he (ht cA) hv hd (k p l e s m args below meth c H locs cells slots RC RS lo cA D lsA C h1 h2 h3 h4 h5 h6)
theorem Z_iaload {o N : Nat} {f : Nat → Int32} {i : Int32} (hd : decode d.2.1 pc = .ok (.iaload, 1)) (hlt : o < n) (hσ : σ o = .inr (.inl (N, f))) (hi : vp_in i N) (hp : pc + 1 = pc') (k : Z d kc ks R pc' ls (.int (f i.toNatClampNeg) :: st) (σ, n)) : Z d kc ks R pc ls (.int i :: .ref o :: st) (σ, n) := by
  subst hp
  intro p l e s m args below meth c H locs cells slots RC RS lo cA D lsA C h1 h2 h3 h4 h5 h6
  have he := vws_get (lo := lo) (cA := cA) (ω := (σ, n)) hlt
  rw [show (σ, n).1 o = σ o from rfl, hσ] at he
  exact va_iald C.1 C.2.1 C.2.2.2.2.2.2.2.2.2.1 h4 o 0 he rfl hi hd (k p l e s m args below meth c H locs cells slots RC RS lo cA D lsA C h1 h2 h3 h4 h5 h6)
theorem Z_iastore {o N : Nat} {f : Nat → Int32} {i x : Int32} (hd : decode d.2.1 pc = .ok (.iastore, 1)) (hlt : o < n) (hσ : σ o = .inr (.inl (N, f))) (hi : vp_in i N) (hp : pc + 1 = pc') (k : Z d kc ks R pc' ls st (zup σ o (.inr (.inl (N, zup f i.toNatClampNeg x))), n)) : Z d kc ks R pc ls (.int x :: .int i :: .ref o :: st) (σ, n) := by
  subst hp
  intro p l e s m args below meth c H locs cells slots RC RS lo cA D lsA C h1 h2 h3 h4 h5 h6
  have he := vws_get (lo := lo) (cA := cA) (ω := (σ, n)) hlt
  rw [show (σ, n).1 o = σ o from rfl, hσ] at he
  refine W.iast C.1 C.2.1 (h4 o _ he) ((C.2.2.2.2.2.2.2.2.2.1.2 0 _ rfl).1 N (fun j => .int (f j))) (fun q => by cases q) (by show ¬ (i < 0 ∨ (arrV _ _ _).slots.size ≤ _); rw [arrV_size]; exact hi) rfl rfl hd fun H1 e1 z oq => ?_
  refine k p l e s m args below meth c H1 _ cells slots RC RS lo cA D lsA C h1 h2 (by rw [z]; exact h3) ?_ (h5.put z oq (Nat.le_add_right _ _)) h6
  rw [← vws_set hlt]
  refine h4.set vws_D (vws_get (lo := lo) (cA := cA) (ω := (σ, n)) hlt) ?_ oq
  show H1[lo + o]? = some (vp_cell _ _)
  rw [e1, vp_cell_i, vp_cell_i, arrV_store]
  congr 2
  funext q
  by_cases hq : q = i.toNatClampNeg
  · subst hq
    simp [updV, zup]
  · simp [updV, zup, hq]
theorem Z_aaload {o N t : Nat} {f : Nat → Option Nat} {i : Int32} {E : String} (hd : decode d.2.1 pc = .ok (.aaload, 1)) (hlt : o < n) (hσ : σ o = .inr (.inr (t, N, f))) (ht : ∀ cA : Nat → ClassId, (vtys cA)[t]? = some (cA t, .object E)) (hi : vp_in i N) (hp : pc + 1 = pc') (k : Z d kc ks R pc' ls (va_rf (f i.toNatClampNeg) :: st) (σ, n)) : Z d kc ks R pc ls (.int i :: .ref o :: st) (σ, n) := by
  subst hp
  intro p l e s m args below meth c H locs cells slots RC RS lo cA D lsA C h1 h2 h3 h4 h5 h6
  have he := vws_get (lo := lo) (cA := cA) (ω := (σ, n)) hlt
  rw [show (σ, n).1 o = σ o from rfl, hσ] at he
  have kk := k p l e s m args below meth c H locs cells slots RC RS lo cA D lsA C h1 h2 h3 h4 h5 h6
  rw [List.map_cons, vsh_rf] at kk
  exact va_aldq C.1 C.2.1 C.2.2.2.2.2.2.2.2.2.1 h4 o t he (ht cA) hi hd kk
theorem Z_aastoreN {o N t : Nat} {f : Nat → Option Nat} {i : Int32} {E : String} (hd : decode d.2.1 pc = .ok (.aastore, 1)) (hlt : o < n) (hσ : σ o = .inr (.inr (t, N, f))) (ht : ∀ cA : Nat → ClassId, (vtys cA)[t]? = some (cA t, .object E)) (hi : vp_in i N) (hp : pc + 1 = pc') (k : Z d kc ks R pc' ls st (zup σ o (.inr (.inr (t, N, zup f i.toNatClampNeg none))), n)) : Z d kc ks R pc ls (.null :: .int i :: .ref o :: st) (σ, n) := by
  subst hp
  intro p l e s m args below meth c H locs cells slots RC RS lo cA D lsA C h1 h2 h3 h4 h5 h6
  have he := vws_get (lo := lo) (cA := cA) (ω := (σ, n)) hlt
  rw [show (σ, n).1 o = σ o from rfl, hσ] at he
  refine va_WaastN C.1 C.2.1 (h4 o _ he) ((C.2.2.2.2.2.2.2.2.2.1.2 t _ (ht cA)).1 N (fun j => va_rf ((f j).map (lo + ·)))) (fun q => by cases q) (by show ¬ (i < 0 ∨ (arrV _ _ _).slots.size ≤ _); rw [arrV_size]; exact hi) rfl rfl hd fun H1 e1 z oq => ?_
  refine k p l e s m args below meth c H1 _ cells slots RC RS lo cA D lsA C h1 h2 (by rw [z]; exact h3) ?_ (h5.put z oq (Nat.le_add_right _ _)) h6
  rw [← vws_set hlt]
  refine h4.set vws_D (vws_get (lo := lo) (cA := cA) (ω := (σ, n)) hlt) ?_ oq
  show H1[lo + o]? = some (vp_cell _ _)
  rw [e1, vp_cell_q, vp_cell_q, arrV_store]
  congr 2
  funext q
  by_cases hq : q = i.toNatClampNeg
  · subst hq
    simp [updV, zup, va_rf]
  · simp [updV, zup, hq]
theorem Z_aastore {o N t a ci : Nat} {f : Nat → Option Nat} {i : Int32} {E : String} {fs : List Value} {r : vw_C} (hd : decode d.2.1 pc = .ok (.aastore, 1)) (hlt : o < n) (hσ : σ o = .inr (.inr (t, N, f))) (ht : ∀ cA : Nat → ClassId, (vtys cA)[t]? = some (cA t, .object E)) (hla : a < n) (hσa : σ a = .inl (ci, fs)) (hc : vwCl[ci]? = some r) (hca : r.1 = E ∨ Cond.castable r.1 E ∈ ztbN) (hi : vp_in i N) (hp : pc + 1 = pc') (k : Z d kc ks R pc' ls st (zup σ o (.inr (.inr (t, N, zup f i.toNatClampNeg (some a)))), n)) : Z d kc ks R pc ls (.ref a :: .int i :: .ref o :: st) (σ, n) := by
  subst hp
  intro p l e s m args below meth c H locs cells slots RC RS lo cA D lsA C h1 h2 h3 h4 h5 h6
  have hK := C.2.2.2.2.2.2.2.2.2.1
  have he := vws_get (lo := lo) (cA := cA) (ω := (σ, n)) hlt
  rw [show (σ, n).1 o = σ o from rfl, hσ] at he
  have hea := vws_get (lo := lo) (cA := cA) (ω := (σ, n)) hla
  rw [show (σ, n).1 a = σ a from rfl, hσa] at hea
  have hlt' : i.toNatClampNeg < N := Nat.not_le.mp fun q => hi (Or.inr q)
  have h0 : ¬ i < 0 := fun q => hi (Or.inl q)
  obtain ⟨cellV, g1, g3, ⟨kC, hkC⟩, hasg⟩ := va_rAny (E := E) hK h4 hea hc (by
    rcases hca with rfl | hca
    · intro comp c0 z1 z2
      cases z1.symm.trans z2
      exact va_assign (hK.1 ci r hc).2 |> fun z => by rw [← Option.some.inj ((hK.1 ci r hc).2.1.symm.trans z1)]; exact z
    · exact vb_asgC (C.2.2.2.2.2.2.2.2.1 _ hca))
  obtain ⟨kA, comp, k1, k2, k3, -⟩ := (hK.2 t _ (ht cA)).2
  obtain ⟨kE, hkE, -⟩ := Vm.findClass_spec k3
  refine W.aast C.1 C.2.1 (h4 o _ he) (fun q h => by cases h) (fun h => by cases h) k1 k2 rfl hkE ⟨h0, by show _ < (arrV _ _ _).slots.size; rw [arrV_size]; exact hlt'⟩ g1 (fun q h => by rw [h] at g3; cases g3) hkC (hasg _ k3) rfl rfl hd fun H1 e1 z oq => ?_
  refine k p l e s m args below meth c H1 _ cells slots RC RS lo cA D lsA C h1 h2 (by rw [z]; exact h3) ?_ (h5.put z oq (Nat.le_add_right _ _)) h6
  rw [← vws_set hlt]
  refine h4.set vws_D (vws_get (lo := lo) (cA := cA) (ω := (σ, n)) hlt) ?_ oq
  show H1[lo + o]? = some (vp_cell _ _)
  rw [e1, vp_cell_q, vp_cell_q, arrV_store]
  congr 2
  funext q
  by_cases hq : q = i.toNatClampNeg
  · subst hq
    simp [updV, zup, va_rf]
  · simp [updV, zup, hq]
theorem z_pushP {lo : Nat} {cA : Nat → ClassId} {D : va_G} {x : ZO} {H H1 : Heap} (h3 : H.size = lo + n) (h4 : va_P D vwCl (vws lo cA (σ, n)) H) (o1 : ∀ q, q < H.size → H1[q]? = H[q]?) (hx : va_at D vwCl (lo + n, vE lo cA x) H1) : va_P D vwCl (vws lo cA (zup σ n x, n + 1)) H1 := by
  rw [← vws_push]
  refine (h4.kept fun k q hq => ?_).app fun k q hq => ?_
  · obtain ⟨hl, rfl⟩ := vws_some hq
    exact o1 _ (by rw [h3]; exact Nat.add_lt_add_left hl lo)
  · have hz : k < 1 := (List.getElem?_eq_some_iff.mp hq).1
    rw [show k = 0 by omega] at hq
    cases hq
    exact hx
theorem z_pushS {lo : Nat} {H0 H H1 : Heap} {locs : List Loc} (h5 : va_S (vA lo) H0 H locs) (z1 : H1.size = H.size + 1) (o1 : ∀ q, q < H.size → H1[q]? = H[q]?) : va_S (vA lo) H0 H1 locs := ⟨Nat.le_trans h5.1 (by omega), fun x g1 g2 => (o1 x (Nat.lt_of_lt_of_le g1 h5.1)).trans (h5.2.1 x g1 g2), h5.2.2⟩
theorem Z_new {own C0 : String} {T : u_T} {N ci index : Nat} {fs : List Value} {ty : Nat → FieldType} (hd : decode d.2.1 pc = .ok (.new index, 3)) (ho : d.1.cls = own) (hc : vwCl[ci]? = some (C0, T, N)) (hin : ∀ w ∈ u_ws C0 T N, w ∈ ztb) (hty : zFt T N ty) (hcl : Cond.classLink own index C0 ∈ ztb) (hinst : Cond.instantiable C0 N ∈ ztb) (hini : Cond.initialized C0 ∈ ztb) (hfs : ∀ lo j, j < N → defaultValue (ty j) = vp_V (fs.map (vsh lo)) j) (hp : pc + 3 = pc') (k : Z d kc ks R pc' ls (.ref n :: st) (zup σ n (.inl (ci, fs)), n + 1)) : Z d (kc + 1) (ks + N) R pc ls st (σ, n) := by
  subst hp; subst ho
  intro p l e s m args below meth c H locs cells slots RC RS lo cA D lsA C h1 h2 h3 h4 h5 h6
  have hts := C.2.2.2.2.2.2.2.1
  have hK := C.2.2.2.2.2.2.2.2.2.1
  have hKn := hK.1 ci _ hc
  refine W.newcK C.1 C.2.1 C.2.2.2.2.1 (hts _ hcl) (hts _ hinst) (hts _ hini) rfl hd (by show cells + 1 ≤ RC; omega) (by show slots + N ≤ RS; omega) hKn.2.1 h3 fun H1 kC hkC e1 z1 o1 => ?_
  have o1' : ∀ q, q < H.size → H1[q]? = H[q]? := fun q hq => o1 q (by rw [← h3]; exact hq)
  exact k p l e s m args below meth c H1 locs (cells + 1) (slots + N) RC RS lo cA D lsA C (by omega) (by omega) (by rw [z1]; rfl) (z_pushP h3 h4 o1' ⟨_, hc, (u_born ty hts hin hKn hkC e1 hty.1).to (hfs lo)⟩) (z_pushS h5 (by rw [z1, h3]) o1') h6
theorem Z_newint {v : Int32} {N : Nat} (hd : decode d.2.1 pc = .ok (.newarray .int, 2)) (hw : Cond.arrayClass .int ∈ ztb) (hv : ¬ v < 0) (hN : v.toNatClampNeg = N) (hb : N ≤ 100000) (hp : pc + 2 = pc') (k : Z d kc ks R pc' ls (.ref n :: st) (zup σ n (.inr (.inl (N, fun _ => 0))), n + 1)) : Z d (kc + 1) (ks + N) R pc ls (.int v :: st) (σ, n) := by
  subst hp
  intro p l e s m args below meth c H locs cells slots RC RS lo cA D lsA C h1 h2 h3 h4 h5 h6
  have hts := C.2.2.2.2.2.2.2.1
  have hK := C.2.2.2.2.2.2.2.2.2.1
  refine va_newaK C.1 C.2.1 (atype := .int) (hts _ hw) rfl hd rfl hv hN (by show N * 4 ≤ 536870912; omega) (by show cells + 1 ≤ RC; omega) (by show slots + N ≤ RS; omega) h3 fun H1 cX e1 z1 o1 hAr hNm => ?_
  have hcX : cX = cA 0 := Option.some.inj (hNm.symm.trans (hK.2 0 _ rfl).2)
  subst hcX
  have o1' : ∀ q, q < H.size → H1[q]? = H[q]? := fun q hq => o1 q (by rw [← h3]; exact hq)
  exact k p l e s m args below meth c H1 locs (cells + 1) (slots + N) RC RS lo cA D lsA C (by omega) (by omega) (by rw [z1]; rfl) (z_pushP h3 h4 o1' (by
    show H1[lo + n]? = some (vp_cell _ _)
    rw [e1, vp_cell_i]; rfl)) (z_pushS h5 (by rw [z1, h3]) o1') h6
theorem Z_newref {own E : String} {index t : Nat} {v : Int32} {N : Nat} (hd : decode d.2.1 pc = .ok (.anewarray index, 3)) (ho : d.1.cls = own) (hcl : Cond.classLink own index E ∈ ztb) (hov : Cond.arrayOver (.object E) ∈ ztbN) (ht : ∀ cA : Nat → ClassId, (vtys cA)[t]? = some (cA t, .object E)) (h1t : 1 ≤ t) (hv : ¬ v < 0) (hN : v.toNatClampNeg = N) (hb : N ≤ 100000) (hp : pc + 3 = pc') (k : Z d kc ks R pc' ls (.ref n :: st) (zup σ n (.inr (.inr (t, N, fun _ => none))), n + 1)) : Z d (kc + 1) (ks + N) R pc ls (.int v :: st) (σ, n) := by
  subst hp; subst ho; subst hN
  intro p l e s m args below meth c H locs cells slots RC RS lo cA D lsA C h1 h2 h3 h4 h5 h6
  have hts := C.2.2.2.2.2.2.2.1
  have hK := C.2.2.2.2.2.2.2.2.2.1
  refine W.anew C.1 C.2.1 C.2.2.2.2.1 (hts _ hcl) (va_AO.use (C.2.2.2.2.2.2.2.2.1 _ hov)) rfl hd rfl hv (by omega) (by show cells + 1 ≤ RC; omega) (by show slots + _ ≤ RS; omega) fun cX kA comp f1 f2 f3 f4 => ?_
  obtain ⟨kA', comp', k1, k2, k3, k4⟩ := (hK.2 t _ (ht cA)).2
  have hcX : cX = cA t := Option.some.inj (f1.symm.trans k4)
  subst hcX
  generalize hH1 : H.push ({ cls := cA t, slots := Array.replicate v.toNatClampNeg .null, vm := .none } : Cell) = H1
  have z1 : H1.size = H.size + 1 := by rw [← hH1, Array.size_push]
  have e1 : H1[H.size]? = some (arrV (cA t) v.toNatClampNeg (fun _ => .null)) := by rw [← hH1, Array.getElem?_push_size, ← arrV_new]
  have o1 : ∀ q : Nat, q < H.size → H1[q]? = H[q]? := fun q hq => by rw [← hH1, Array.getElem?_push, if_neg (Nat.ne_of_lt hq)]
  have kk := k p l e s m args below meth c H1 locs (cells + 1) (slots + v.toNatClampNeg) RC RS lo cA D lsA C (by omega) (by omega) (by rw [z1, h3]; rfl) (z_pushP h3 h4 o1 (by
    show H1[lo + n]? = some (vp_cell _ _)
    rw [h3] at e1
    rw [e1, vp_cell_q]; rfl)) (z_pushS h5 z1 o1) h6
  rw [h3]
  exact kk
theorem Z_objInit {own : String} {idx o : Nat} (hd : decode d.2.1 pc = .ok (.invokespecial idx, 3)) (ho : d.1.cls = own) (hl : Cond.methodLink own idx Lib.objectInit ∈ ztb) (hi : Cond.instanceMethod Lib.objectInit ∈ ztb) (hcd : Cond.code Lib.objectInit ⟨#[0xb1]⟩ 1 none ∈ ztb) (hf : 1 ≤ d.2.2.2.2.1) (hc : (st.map fun v => v.category).sum + 12 ≤ d.2.2.2.2.2) (hp : pc + 3 = pc') (k : Z d kc ks R pc' ls st ω) : Z d kc ks R pc ls (.ref o :: st) ω := by
  subst hp; subst ho
  intro p l e s m args below meth c H locs cells slots RC RS lo cA D lsA C h1 h2 h3 h4 h5 h6
  have hts := C.2.2.2.2.2.2.2.1
  refine W.objInit C.1 C.2.1 C.2.2.2.2.1 (hts _ hl) (hts _ hi) (hts _ hcd) rfl (h6.1.trans C.2.2.2.1.symm) rfl hd hf ?_ (k p l e s m args below meth c H locs cells slots RC RS lo cA D lsA C h1 h2 h3 h4 h5 h6)
  show 2 * 0 + _ + 12 ≤ d.2.2.2.2.2
  rw [List.map_map]
  have e9 : ((fun v : Value => v.category) ∘ vsh lo) = fun v : Value => v.category := funext fun v => vsh_cat lo v
  rw [e9]
  omega
end ZHEAP
