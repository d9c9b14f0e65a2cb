/-- the locals with which a method begins -/
def zent : List Value → List (Option Value)
  | [] => []
  | v :: r => if v.category = 2 then some v :: none :: zent r else some v :: zent r
theorem zent_mem (lo : Nat) : ∀ (vs : List Value) (i k : Nat) (v : Value), (zent vs)[k]? = some (some v) → (i + k, vsh lo v) ∈ lv_args i (vs.map (vsh lo))
  | [], _, _, _, h => by cases h
  | u :: r, i, k, v, h => by
    unfold zent at h
    rw [List.map_cons, lv_args, vsh_cat]
    split at h
    · rename_i hc
      rw [if_pos hc]
      cases k with
      | zero => cases h; exact List.mem_cons_self
      | succ k =>
        cases k with
        | zero => simp at h
        | succ k =>
          rw [List.getElem?_cons_succ, List.getElem?_cons_succ] at h
          have := zent_mem lo r (i + 2) k v h
          rw [show i + 2 + k = i + (k + 1 + 1) by omega] at this
          exact List.mem_cons_of_mem _ this
    · rename_i hc
      rw [if_neg hc]
      cases k with
      | zero => cases h; exact List.mem_cons_self
      | succ k =>
        rw [List.getElem?_cons_succ] at h
        have := zent_mem lo r (i + 1) k v h
        rw [show i + 1 + k = i + (k + 1) by omega] at this
        exact List.mem_cons_of_mem _ this
theorem zsl_len (lo : Nat) : ∀ vs : List Value, (lg_sl (vs.map (vsh lo))).length = (lg_sl vs).length
  | [] => rfl
  | u :: r => by
    unfold lg_sl
    rw [List.map_cons, List.flatMap_cons, List.flatMap_cons, List.length_append, List.length_append, vsh_cat]
    have := zsl_len lo r
    unfold lg_sl at this
    rw [this]
    split <;> rfl
/-- a contract: the method d, called with args in the world ω, may make kc cells of ks slots, and returns so that R -/
def zM (d : ZD) (kc ks : Nat) (As : List Value) (ω : ZW) (R : Option Value → ZW → Prop) : Prop := Z d kc ks R 0 (zent As) [] ω
abbrev zws (d : ZD) : List Cond := Cond.code d.1 d.2.1 d.2.2.1 d.2.2.2.1 :: ztb
def zP (lo : Nat) (cA : Nat → ClassId) (D : va_G) (As : List Value) (ω : ZW) : Array Value → State → Prop := fun a U =>
  a = (As.map (vsh lo)).toArray ∧ U.heap.size = lo + ω.2 ∧ va_P D vwCl (vws lo cA ω) U.heap ∧ va_K D vwCl (vtys cA) U ∧ ∀ w ∈ ztbN, va_Nw w U
theorem zP_blind (lo : Nat) (cA : Nat → ClassId) (D : va_G) (As : List Value) (ω : ZW) : FrameBlind (zP lo cA D As ω) := fun a U g mk q => by
  obtain ⟨q1, q2, q3, q4, q5⟩ := q
  exact ⟨q1, q2, q3, va_K.moved (u := U) (U := U.calling g mk a) (Vm.Alike.refl U.vm) q4, zN_same (u := U) (U := U.calling g mk a) rfl q5⟩
/-- what a method's own numbers must be -/
def zOK (d : ZD) (As : List Value) : Prop := plainName d.1.cls = true ∧ (lg_sl As).length ≤ d.2.2.1
theorem zMet {d : ZD} {kc ks : Nat} {As : List Value} {ω : ZW} {R : Option Value → ZW → Prop} (h : zM d kc ks As ω R) (ok : zOK d As) (l : Launch) (lo : Nat) (cA : Nat → ClassId) (D : va_G) : Met l d.1 (zws d) (zR d kc ks) (zP lo cA D As ω) (zQ lo cA D R) kc ks (vA lo) := by
  refine Met.ofW (cc := d.2.1) (maxL := d.2.2.1) (ret := d.2.2.2.1) (ws' := ztb) ok.1 rfl ?_
  intro p e s m args below meth c s₁ B hml hv
  obtain ⟨rfl, hsz, hP, hK, hN⟩ := hv
  have hts := atoms_spec (ws := zws d) B.pre
  have hown : s.vm.findClass d.1.cls = some m.cls := findClass_of_methodNamed B.named
  have hl := lv_entry (As.map (vsh lo)) (n := d.2.2.1) (by rw [zsl_len]; exact ok.2)
  rw [lg_entry_eq]
  generalize (lg_sl (As.map (vsh lo)) ++ List.replicate (d.2.2.1 - (lg_sl (As.map (vsh lo))).length) Slot.unset).toArray = ls at hl ⊢
  exact h p l e s m _ below meth c s.heap [] 0 0 kc ks lo cA D ls ⟨B.exec, B.bytes, B.returns, hml, hown, B.notSynchronized, (name_of_methodNamed B.named B.method).1, fun w hw => hts w (List.mem_cons_of_mem _ hw), hN, hK, by rw [hsz]; exact Nat.le_add_right _ _⟩ (by omega) (by omega) hsz hP va_S.rf
    (vls_to hl fun k v hk => by
      have := zent_mem lo As 0 k v hk
      rw [Nat.zero_add] at this
      exact this)
section ZCALL
variable {d d' : ZD} {kc ks kc' ks' : Nat} {R R' : Option Value → ZW → Prop} {pc pc' : Nat} {ls : List (Option Value)} {As st rest : List Value} {ω : ZW}
/-- behind a call of any kind -/
theorem Z_ran (st0 : List Value)
    (hrun : ∀ (p : Program) (l : Launch) (e : Env) (s : State) (m : MethodId) (args : Array Value) (below : List Frame) (meth : Method) (c : Code) (H : Heap) (locs : List Loc) (cells slots RC RS lo : Nat) (cA : Nat → ClassId) (D : va_G) (lsA : Array Slot),
      zC d args s p m meth c lo cA D → cells + kc' ≤ RC → slots + ks' ≤ RS → H.size = lo + ω.2 → va_P D vwCl (vws lo cA ω) H → lv_has lsA d.2.2.1 (vls lo ls) → ∃ a : Array Value,
      va_Run p l e (zR d RC RS) s m args below meth c H locs cells slots kc' ks' (F0 m pc lsA (st0.map (vsh lo))) (rest.map (vsh lo)) (zQ lo cA D R' a) (vA lo))
    (hp : pc + 3 = pc') (kk : ∀ (r : Option Value) (ω' : ZW), R' r ω' → Z d kc ks R pc' ls (r.toList ++ rest) ω') : Z d (kc' + kc) (ks' + ks) R pc ls st0 ω := by
  subst hp
  intro p l e s m args below meth c H locs cells slots RC RS lo cA D lsA C h1 h2 h3 h4 h5 h6
  intro T hT X
  obtain ⟨a, hr⟩ := hrun p l e s m args below meth c H locs cells slots RC RS lo cA D lsA C (by omega) (by omega) h3 h4 h6
  obtain ⟨v, st₀, t, T', L, e0, X', hL, e1, e2, ⟨⟨r, ω', hv, hR, hs, hP⟩, hz, hk⟩, hgo⟩ := hr T hT X
  cases hv
  rw [e0] at hz hk
  have h3' : T'.heap.size = lo + ω'.2 := by rw [e1]; exact hs
  have h4' : va_P D vwCl (vws lo cA ω') T'.heap := by rw [e1]; exact hP
  have h5' : va_S (vA lo) s.heap T'.heap (locs ++ L) := by
    refine ⟨Nat.le_trans h5.1 (by rw [e1]; exact hz), fun q g1 g2 => ?_, fun q hq => ?_⟩
    · rw [e1, hk q (Nat.lt_of_lt_of_le g1 h5.1) g2]; exact h5.2.1 q g1 g2
    · rcases List.mem_append.mp hq with h | h
      · exact h5.2.2 q h
      · exact hL q h
  obtain ⟨t2, a1, b1⟩ := kk r ω' hR p l e s m args below meth c T'.heap (locs ++ L) (cells + kc') (slots + ks') RC RS lo cA D lsA C (by omega) (by omega) h3' h4' h5' h6 T' rfl X'
  refine ⟨t2, hgo t2 ?_, b1⟩
  have e9 : (r.map (vsh lo)).toList ++ rest.map (vsh lo) = (r.toList ++ rest).map (vsh lo) := by cases r <;> simp
  rw [e9]
  exact a1
def zrest (rest : List Value) : Nat := (rest.map fun v => v.category).sum
theorem zrest_map (lo : Nat) (rest : List Value) : ((rest.map (vsh lo)).map fun v => v.category).sum = zrest rest := by
  unfold zrest
  rw [List.map_map]
  have e9 : ((fun v : Value => v.category) ∘ vsh lo) = fun v : Value => v.category := funext fun v => vsh_cat lo v
  rw [e9]
/-- the words of a call, apart from the link -/
def zCw (d' : ZD) (n : Nat) : Prop := Cond.code d'.1 d'.2.1 d'.2.2.1 d'.2.2.2.1 ∈ ztb ∧ Cond.initialized d'.1.cls ∈ ztb ∧ (d'.1.cls ≠ "java/lang/invoke/MethodHandle" ∧ d'.1.cls ≠ "java/lang/invoke/VarHandle") ∧ (parseMethodDescriptor d'.1.desc).map (fun q => q.parameters.length) = some n ∧ plainName d'.1.cls = true
/-- the callee's room fits into the caller's -/
def zFit (d d' : ZD) : Prop := d'.2.2.2.2.1 + 1 ≤ d.2.2.2.2.1 ∧ 8 + (d'.2.2.1 + 11) + d'.2.2.2.2.2 ≤ d.2.2.2.2.2
theorem zws_good {w : Cond} (h : w ∈ ztb) {ws : List Cond} (hw : GoodIn ztb ws) : GoodIn ztb (w :: ws) := fun v hv => (List.mem_cons.mp hv).elim (fun e => e ▸ ⟨h, good_of_word (List.mem_filter.mp h).2⟩) (hw v)
theorem ztb_good : GoodIn ztb ztb := zgood fun _ h => h
theorem zfix {args : Array Value} {s : State} {p : Program} {m : MethodId} {meth : Method} {c : Code} {lo : Nat} {cA : Nat → ClassId} {D : va_G} (C : zC d args s p m meth c lo cA D) : CallFix p m c d.2.1 d.2.2.1 s args ztb d.1.cls := ⟨C.1, C.2.1, C.2.2.2.1, C.2.2.2.2.1, C.2.2.2.2.2.2.2.1⟩
theorem zpre {args : Array Value} {s : State} {p : Program} {m : MethodId} {meth : Method} {c : Code} {H : Heap} {lo : Nat} {cA : Nat → ClassId} {D : va_G} (C : zC d args s p m meth c lo cA D) (h3 : H.size = lo + ω.2) (h4 : va_P D vwCl (vws lo cA ω) H) (As : List Value) (U : State) (hU : U.heap = H) (hW : s.WarmedH U.vm) : zP lo cA D As ω (As.map (vsh lo)).toArray U :=
  ⟨rfl, by rw [hU]; exact h3, by rw [hU]; exact h4, va_K.moved hW.alike C.2.2.2.2.2.2.2.2.2.1, zN_warm hW C.2.2.2.2.2.2.2.2.1⟩
theorem zrev (lo : Nat) (As rest : List Value) : (As.reverse ++ rest).map (vsh lo) = (As.map (vsh lo)).reverse ++ rest.map (vsh lo) := by rw [List.map_append, List.map_reverse]
theorem Z_static {own : String} {index nn : Nat} (hd : decode d.2.1 pc = .ok (.invokestatic index, 3)) (ho : d.1.cls = own) (cw : zCw d' nn) (hn : As.length = nn) (hfit : zFit d d') (hrest : zrest rest ≤ 8) (ok : zOK d' As) (hl : Cond.methodLink own index d'.1 ∈ ztb) (hst : Cond.static d'.1 ∈ ztb) (hm : zM d' kc' ks' As ω R') (hp : pc + 3 = pc') (kk : ∀ (r : Option Value) (ω' : ZW), R' r ω' → Z d kc ks R pc' ls (r.toList ++ rest) ω') : Z d (kc' + kc) (ks' + ks) R pc ls (As.reverse ++ rest) ω := by
  obtain ⟨cw1, cw2, cw3, cw4, cw5⟩ := cw
  subst ho
  refine Z_ran (R' := R') (rest := rest) _ (fun p l e s m args below meth c H locs cells slots RC RS lo cA D lsA C h1 h2 h3 h4 h6 => ?_) hp kk
  have hM := zMet hm ok l lo cA D
  have hts := C.2.2.2.2.2.2.2.1
  have cwS' := va_cwS (R := zR d RC RS) (own := d.1.cls) (index := index) (y := d'.1) (bytes := d'.2.1) (maxL := d'.2.2.1) (ret := d'.2.2.2.1) (rm := zR d' kc' ks') (mc := kc') (ms := ks') nn hts (ws := zws d') (zws_good hl (zws_good hst (zws_good cw2 (zws_good cw1 ztb_good)))) rfl rfl rfl ⟨cw3.1, cw3.2, cw4⟩ hfit
  exact ⟨_, va_runS (As := As.map (vsh lo)) (zfix C) hM cwS' ⟨zP_blind _ _ _ _ _, fun U hU hW => zpre C h3 h4 As U hU hW⟩ rfl (by rw [List.length_map]; exact hn) h6.1 (by show List.map _ _ = _; rw [zrev]) (by show 2 * 0 + _ ≤ 8; rw [zrest_map]; omega) hd ⟨h1, h2⟩⟩
theorem Z_staticN {own host : String} {index nn : Nat} (hd : decode d.2.1 pc = .ok (.invokestatic index, 3)) (ho : d.1.cls = own) (cw : zCw d' nn) (hn : As.length = nn) (hfit : zFit d d') (hrest : zrest rest ≤ 8) (ok : zOK d' As) (hl : Cond.methodLinkNest own index d'.1 host ∈ ztbN) (hst : Cond.static d'.1 ∈ ztb) (hm : zM d' kc' ks' As ω R') (hp : pc + 3 = pc') (kk : ∀ (r : Option Value) (ω' : ZW), R' r ω' → Z d kc ks R pc' ls (r.toList ++ rest) ω') : Z d (kc' + kc) (ks' + ks) R pc ls (As.reverse ++ rest) ω := by
  obtain ⟨cw1, cw2, cw3, cw4, cw5⟩ := cw
  subst ho
  refine Z_ran (R' := R') (rest := rest) _ (fun p l e s m args below meth c H locs cells slots RC RS lo cA D lsA C h1 h2 h3 h4 h6 => ?_) hp kk
  have hM := zMet hm ok l lo cA D
  have hts := C.2.2.2.2.2.2.2.1
  have cwN := va_cnB (R := zR d RC RS) (own := d.1.cls) (index := index) (y := d'.1) (bytes := d'.2.1) (maxL := d'.2.2.1) (ret := d'.2.2.2.1) (rm := zR d' kc' ks') (mc := kc') (ms := ks') nn hts (ws := zws d') (zws_good cw1 ztb_good) rfl rfl rfl (C.2.2.2.2.2.2.2.2.1 _ hl) (hts _ cw2) ⟨cw3.1, cw3.2, cw4⟩ hfit
  exact ⟨_, va_runSN (As := As.map (vsh lo)) (zfix C) hM ⟨cwN, hts _ hst, trivial⟩ ⟨zP_blind _ _ _ _ _, fun U hU hW => zpre C h3 h4 As U hU hW⟩ rfl (by rw [List.length_map]; exact hn) h6.1 (by show List.map _ _ = _; rw [zrev]) (by show 2 * 0 + _ ≤ 8; rw [zrest_map]; omega) hd ⟨h1, h2⟩⟩
theorem Z_virtual {own : String} {index nn : Nat} (hd : decode d.2.1 pc = .ok (.invokevirtual index, 3)) (ho : d.1.cls = own) (cw : zCw d' nn) (hn : As.length = nn) (hfit : zFit d d') (hrest : zrest rest ≤ 8) {o ci : Nat} {fs : List Value} {r : vw_C} (hrc : o < ω.2 ∧ ω.1 o = .inl (ci, fs) ∧ vwCl[ci]? = some r) (hcls : r.1 = d'.1.cls) (ok : zOK d' (.ref o :: As)) (hl : Cond.methodLink own index d'.1 ∈ ztb) (hin : Cond.instanceMethod d'.1 ∈ ztb) (hse : Cond.selects d'.1.cls d'.1 d'.1 ∈ ztb) (hm : zM d' kc' ks' (.ref o :: As) ω R') (hp : pc + 3 = pc') (kk : ∀ (r : Option Value) (ω' : ZW), R' r ω' → Z d kc ks R pc' ls (r.toList ++ rest) ω') : Z d (kc' + kc) (ks' + ks) R pc ls (As.reverse ++ .ref o :: rest) ω := by
  obtain ⟨cw1, cw2, cw3, cw4, cw5⟩ := cw
  subst ho
  refine Z_ran (R' := R') (rest := rest) _ (fun p l e s m args below meth c H locs cells slots RC RS lo cA D lsA C h1 h2 h3 h4 h6 => ?_) hp kk
  have hM := zMet hm ok l lo cA D
  have hts := C.2.2.2.2.2.2.2.1
  obtain ⟨hlt, hσ, hc⟩ := hrc
  have he := vws_get (lo := lo) (cA := cA) (ω := ω) hlt
  have hh : vE lo cA (ω.1 o) = .inr (ci, fs.map (vsh lo)) := by rw [hσ]; rfl
  rw [hh] at he
  have hw2 : Cond.initialized d'.1.cls ∈ ztb := cw2
  have cwV' := cwV (R := zR d RC RS) (own := d.1.cls) (C := d'.1.cls) (index := index) (y := d'.1) (bytes := d'.2.1) (maxL := d'.2.2.1) (ret := d'.2.2.2.1) (rm := zR d' kc' ks') (mc := kc') (ms := ks') nn hts (ws := zws d') (zws_good hl (zws_good hin (zws_good hse (zws_good cw2 (zws_good cw1 ztb_good))))) rfl rfl rfl ⟨rfl, cw3.1, cw3.2, cw4⟩ hfit
  exact ⟨_, va_runV (As := As.map (vsh lo)) (b := lo + o) (zfix C) hM cwV' ⟨zP_blind _ _ _ _ _, hcls ▸ va_recv C.2.2.2.2.2.2.2.2.2.1 h4 hc he, fun U hU hW => zpre C h3 h4 (.ref o :: As) U hU hW⟩ rfl (by rw [List.length_map]; exact hn) h6.1 (by show List.map _ _ = _; rw [zrev]; rfl) (by show 2 * 0 + _ ≤ 8; rw [zrest_map]; omega) hd ⟨h1, h2⟩⟩
theorem Z_virtualN {own host : String} {index nn : Nat} (hd : decode d.2.1 pc = .ok (.invokevirtual index, 3)) (ho : d.1.cls = own) (cw : zCw d' nn) (hn : As.length = nn) (hfit : zFit d d') (hrest : zrest rest ≤ 8) {o ci : Nat} {fs : List Value} {r : vw_C} (hrc : o < ω.2 ∧ ω.1 o = .inl (ci, fs) ∧ vwCl[ci]? = some r) (hcls : r.1 = d'.1.cls) (ok : zOK d' (.ref o :: As)) (hl : Cond.methodLinkNest own index d'.1 host ∈ ztbN) (hin : Cond.instanceMethod d'.1 ∈ ztb) (hse : Cond.selects d'.1.cls d'.1 d'.1 ∈ ztb) (hm : zM d' kc' ks' (.ref o :: As) ω R') (hp : pc + 3 = pc') (kk : ∀ (r : Option Value) (ω' : ZW), R' r ω' → Z d kc ks R pc' ls (r.toList ++ rest) ω') : Z d (kc' + kc) (ks' + ks) R pc ls (As.reverse ++ .ref o :: rest) ω := by
  obtain ⟨cw1, cw2, cw3, cw4, cw5⟩ := cw
  subst ho
  refine Z_ran (R' := R') (rest := rest) _ (fun p l e s m args below meth c H locs cells slots RC RS lo cA D lsA C h1 h2 h3 h4 h6 => ?_) hp kk
  have hM := zMet hm ok l lo cA D
  have hts := C.2.2.2.2.2.2.2.1
  obtain ⟨hlt, hσ, hc⟩ := hrc
  have he := vws_get (lo := lo) (cA := cA) (ω := ω) hlt
  have hh : vE lo cA (ω.1 o) = .inr (ci, fs.map (vsh lo)) := by rw [hσ]; rfl
  rw [hh] at he
  have cwN := va_cnB (R := zR d RC RS) (own := d.1.cls) (index := index) (y := d'.1) (bytes := d'.2.1) (maxL := d'.2.2.1) (ret := d'.2.2.2.1) (rm := zR d' kc' ks') (mc := kc') (ms := ks') nn hts (ws := zws d') (zws_good cw1 ztb_good) rfl rfl rfl (C.2.2.2.2.2.2.2.2.1 _ hl) (hts _ cw2) ⟨cw3.1, cw3.2, cw4⟩ hfit
  exact ⟨_, va_runVN (As := As.map (vsh lo)) (b := lo + o) (zfix C) hM ⟨cwN, hts _ hin, hts _ hse⟩ ⟨zP_blind _ _ _ _ _, hcls ▸ va_recv C.2.2.2.2.2.2.2.2.2.1 h4 hc he, fun U hU hW => zpre C h3 h4 (.ref o :: As) U hU hW⟩ rfl (by rw [List.length_map]; exact hn) h6.1 (by show List.map _ _ = _; rw [zrev]; rfl) (by show 2 * 0 + _ ≤ 8; rw [zrest_map]; omega) hd ⟨h1, h2⟩⟩
/-- a method that the receiver's class has from above or overrides: x as the call names it, d' what runs; 'decl' is known by code or by a declares word -/
theorem Z_over {own owner : String} {x : MethodName} {index nn : Nat} (hd : decode d.2.1 pc = .ok (.invokevirtual index, 3)) (ho : d.1.cls = own) (cw : zCw d' nn) (hn : As.length = nn) (hfit : zFit d d') (hrest : zrest rest ≤ 8) {o ci : Nat} {fs : List Value} {r : vw_C} (hrc : o < ω.2 ∧ ω.1 o = .inl (ci, fs) ∧ vwCl[ci]? = some r) (ok : zOK d' (.ref o :: As)) (hl : Cond.methodLink own index x ∈ ztb) (hsm : Cond.sameMethod x.cls owner x.name x.desc ∈ ztb) (hin : Cond.instanceMethod d'.1 ∈ ztb) (hse : Cond.selects r.1 x d'.1 ∈ ztb) (how : owner ≠ "java/lang/invoke/MethodHandle" ∧ owner ≠ "java/lang/invoke/VarHandle") (hxd : (parseMethodDescriptor x.desc).map (fun q => q.parameters.length) = some nn)
    (hdecl : (∃ b0 m0 r0, Cond.code ⟨owner, x.name, x.desc⟩ b0 m0 r0 ∈ ztb ∧ Cond.instanceMethod ⟨owner, x.name, x.desc⟩ ∈ ztb) ∨ Cond.declares ⟨owner, x.name, x.desc⟩ ∈ ztbN) (hm : zM d' kc' ks' (.ref o :: As) ω R') (hp : pc + 3 = pc') (kk : ∀ (r : Option Value) (ω' : ZW), R' r ω' → Z d kc ks R pc' ls (r.toList ++ rest) ω') : Z d (kc' + kc) (ks' + ks) R pc ls (As.reverse ++ .ref o :: rest) ω := by
  obtain ⟨cw1, cw2, cw3, cw4, cw5⟩ := cw
  subst ho
  refine Z_ran (R' := R') (rest := rest) _ (fun p l e s m args below meth c H locs cells slots RC RS lo cA D lsA C h1 h2 h3 h4 h6 => ?_) hp kk
  have hM := zMet hm ok l lo cA D
  have hts := C.2.2.2.2.2.2.2.1
  obtain ⟨hlt, hσ, hc⟩ := hrc
  have he := vws_get (lo := lo) (cA := cA) (ω := ω) hlt
  have hh : vE lo cA (ω.1 o) = .inr (ci, fs.map (vsh lo)) := by rw [hσ]; rfl
  rw [hh] at he
  have cwU : va_CU (zR d RC RS) s args d.1.cls r.1 owner index x d'.1 d'.2.1 d'.2.2.1 d'.2.2.2.1 (zws d') (zR d' kc' ks') kc' ks' nn := by
    rcases hdecl with ⟨b0, m0, r0, hcode, hinst⟩ | hdecl
    · exact va_cwO nn hts (zws_good hl (zws_good hsm (zws_good hinst (zws_good hse (zws_good hin (zws_good cw2 (zws_good cw1 ztb_good))))))) rfl rfl rfl hcode ⟨how.1, how.2, hxd⟩ hfit
    · exact va_cwA nn hts (zws_good hl (zws_good hsm (zws_good hse (zws_good hin (zws_good cw2 (zws_good cw1 ztb_good)))))) rfl rfl rfl (C.2.2.2.2.2.2.2.2.1 _ hdecl) ⟨how.1, how.2, hxd⟩ hfit
  exact ⟨_, va_runU (As := As.map (vsh lo)) (b := lo + o) (zfix C) hM cwU ⟨zP_blind _ _ _ _ _, va_recv C.2.2.2.2.2.2.2.2.2.1 h4 hc he, fun U hU hW => zpre C h3 h4 (.ref o :: As) U hU hW⟩ rfl (by rw [List.length_map]; exact hn) h6.1 (by show List.map _ _ = _; rw [zrev]; rfl) (by show 2 * 0 + _ ≤ 8; rw [zrest_map]; omega) hd ⟨h1, h2⟩⟩
/-- a constructor -/
theorem Z_init {own : String} {index nn o : Nat} (hd : decode d.2.1 pc = .ok (.invokespecial index, 3)) (ho : d.1.cls = own) (cw : zCw d' nn) (hn : As.length = nn) (hfit : zFit d d') (hrest : zrest rest ≤ 8) (ok : zOK d' (.ref o :: As)) (hret : d'.2.2.2.1 = none) (hl : Cond.methodLink own index d'.1 ∈ ztb) (hin : Cond.instanceMethod d'.1 ∈ ztb) (hy1 : d'.1.name = "<init>") (hm : zM d' kc' ks' (.ref o :: As) ω R') (hp : pc + 3 = pc') (kk : ∀ (r : Option Value) (ω' : ZW), R' r ω' → Z d kc ks R pc' ls (r.toList ++ rest) ω') : Z d (kc' + kc) (ks' + ks) R pc ls (As.reverse ++ .ref o :: rest) ω := by
  obtain ⟨cw1, cw2, cw3, cw4, cw5⟩ := cw
  subst ho
  refine Z_ran (R' := R') (rest := rest) _ (fun p l e s m args below meth c H locs cells slots RC RS lo cA D lsA C h1 h2 h3 h4 h6 => ?_) hp kk
  have hM := zMet hm ok l lo cA D
  have hts := C.2.2.2.2.2.2.2.1
  have cwI' := cwI (R := zR d RC RS) (own := d.1.cls) (index := index) (y := d'.1) (bytes := d'.2.1) (maxL := d'.2.2.1) (rm := zR d' kc' ks') (mc := kc') (ms := ks') nn hts (ws := zws d') (ws' := ztb) (zws_good cw1 ztb_good) (by rw [← hret]) rfl rfl (hts _ cw2) (hts _ hl) (hts _ hin) hy1 ⟨cw3.1, cw3.2, cw4⟩ hfit
  exact ⟨_, va_runI (As := As.map (vsh lo)) (b := lo + o) (zfix C) hM cwI' ⟨zP_blind _ _ _ _ _, fun U hU hW => zpre C h3 h4 (.ref o :: As) U hU hW⟩ rfl (by rw [List.length_map]; exact hn) h6.1 (by show List.map _ _ = _; rw [zrev]; rfl) (by show 2 * 0 + _ ≤ 8; rw [zrest_map]; omega) hd ⟨h1, h2⟩⟩
theorem Z_initN {own host : String} {index nn o : Nat} (hd : decode d.2.1 pc = .ok (.invokespecial index, 3)) (ho : d.1.cls = own) (cw : zCw d' nn) (hn : As.length = nn) (hfit : zFit d d') (hrest : zrest rest ≤ 8) (ok : zOK d' (.ref o :: As)) (hret : d'.2.2.2.1 = none) (hl : Cond.methodLinkNest own index d'.1 host ∈ ztbN) (hin : Cond.instanceMethod d'.1 ∈ ztb) (hy1 : d'.1.name = "<init>") (hm : zM d' kc' ks' (.ref o :: As) ω R') (hp : pc + 3 = pc') (kk : ∀ (r : Option Value) (ω' : ZW), R' r ω' → Z d kc ks R pc' ls (r.toList ++ rest) ω') : Z d (kc' + kc) (ks' + ks) R pc ls (As.reverse ++ .ref o :: rest) ω := by
  obtain ⟨cw1, cw2, cw3, cw4, cw5⟩ := cw
  subst ho
  refine Z_ran (R' := R') (rest := rest) _ (fun p l e s m args below meth c H locs cells slots RC RS lo cA D lsA C h1 h2 h3 h4 h6 => ?_) hp kk
  have hM := zMet hm ok l lo cA D
  have hts := C.2.2.2.2.2.2.2.1
  have cwN := va_cnB (R := zR d RC RS) (own := d.1.cls) (index := index) (y := d'.1) (bytes := d'.2.1) (maxL := d'.2.2.1) (ret := none) (rm := zR d' kc' ks') (mc := kc') (ms := ks') nn hts (ws := zws d') (ws' := ztb) (zws_good cw1 ztb_good) (by rw [← hret]) rfl rfl (C.2.2.2.2.2.2.2.2.1 _ hl) (hts _ cw2) ⟨cw3.1, cw3.2, cw4⟩ hfit
  exact ⟨_, va_runIN (As := As.map (vsh lo)) (b := lo + o) (zfix C) hM ⟨cwN, hy1, hts _ hin⟩ ⟨zP_blind _ _ _ _ _, fun U hU hW => zpre C h3 h4 (.ref o :: As) U hU hW⟩ rfl (by rw [List.length_map]; exact hn) h6.1 (by show List.map _ _ = _; rw [zrev]; rfl) (by show 2 * 0 + _ ≤ 8; rw [zrest_map]; omega) hd ⟨h1, h2⟩⟩
/-- super.m(..) -/
theorem Z_super {own : String} {index nn : Nat} (hd : decode d.2.1 pc = .ok (.invokespecial index, 3)) (ho : d.1.cls = own) (cw : zCw d' nn) (hn : As.length = nn) (hfit : zFit d d') (hrest : zrest rest ≤ 8) {o ci : Nat} {fs : List Value} {r : vw_C} (hrc : o < ω.2 ∧ ω.1 o = .inl (ci, fs) ∧ vwCl[ci]? = some r) (ok : zOK d' (.ref o :: As)) (hl : Cond.methodLink own index d'.1 ∈ ztb) (hsm : Cond.sameMethod d'.1.cls d'.1.cls d'.1.name d'.1.desc ∈ ztb) (hsu : Cond.superclass own d'.1.cls ∈ ztb) (hin : Cond.instanceMethod d'.1 ∈ ztb) (hy1 : d'.1.name ≠ "<init>") (hm : zM d' kc' ks' (.ref o :: As) ω R') (hp : pc + 3 = pc') (kk : ∀ (r : Option Value) (ω' : ZW), R' r ω' → Z d kc ks R pc' ls (r.toList ++ rest) ω') : Z d (kc' + kc) (ks' + ks) R pc ls (As.reverse ++ .ref o :: rest) ω := by
  obtain ⟨cw1, cw2, cw3, cw4, cw5⟩ := cw
  subst ho
  refine Z_ran (R' := R') (rest := rest) _ (fun p l e s m args below meth c H locs cells slots RC RS lo cA D lsA C h1 h2 h3 h4 h6 => ?_) hp kk
  have hM := zMet hm ok l lo cA D
  have hts := C.2.2.2.2.2.2.2.1
  obtain ⟨hlt, hσ, hc⟩ := hrc
  have he := vws_get (lo := lo) (cA := cA) (ω := ω) hlt
  have hh : vE lo cA (ω.1 o) = .inr (ci, fs.map (vsh lo)) := by rw [hσ]; rfl
  rw [hh] at he
  have cwSU := va_cwSU (R := zR d RC RS) (own := d.1.cls) (index := index) (y := d'.1) (bytes := d'.2.1) (maxL := d'.2.2.1) (ret := d'.2.2.2.1) (rm := zR d' kc' ks') (mc := kc') (ms := ks') nn hts (ws := zws d') (zws_good hl (zws_good hsm (zws_good hsu (zws_good hin (zws_good cw2 (zws_good cw1 ztb_good)))))) rfl rfl rfl ⟨hy1, cw4⟩ hfit
  exact ⟨_, va_runSU (As := As.map (vsh lo)) (b := lo + o) (C.2.2.2.2.2.2.2.2.2.1.1 ci r hc).2 (zfix C) hM cwSU ⟨zP_blind _ _ _ _ _, va_recv C.2.2.2.2.2.2.2.2.2.1 h4 hc he, fun U hU hW => zpre C h3 h4 (.ref o :: As) U hU hW⟩ rfl (by rw [List.length_map]; exact hn) h6.1 (by show List.map _ _ = _; rw [zrev]; rfl) (by show 2 * 0 + _ ≤ 8; rw [zrest_map]; omega) hd ⟨h1, h2⟩⟩
/-- super.m(..) that the superclass itself has from above -/
theorem Z_superUp {own x up : String} {nm ds : String} {index nn : Nat} (hd : decode d.2.1 pc = .ok (.invokespecial index, 3)) (ho : d.1.cls = own) (cw : zCw d' nn) (hn : As.length = nn) (hfit : zFit d d') (hrest : zrest rest ≤ 8) {o ci : Nat} {fs : List Value} {r : vw_C} (hrc : o < ω.2 ∧ ω.1 o = .inl (ci, fs) ∧ vwCl[ci]? = some r) (hd1 : d'.1 = ⟨up, nm, ds⟩) (ok : zOK d' (.ref o :: As)) (hl : Cond.methodLink own index ⟨x, nm, ds⟩ ∈ ztb) (hsm : Cond.sameMethod x up nm ds ∈ ztb) (hsu : Cond.superclass own x ∈ ztb) (hsu2 : Cond.superclass x up ∈ ztb) (hin : Cond.instanceMethod d'.1 ∈ ztb) (hy1 : nm ≠ "<init>") (hm : zM d' kc' ks' (.ref o :: As) ω R') (hp : pc + 3 = pc') (kk : ∀ (r : Option Value) (ω' : ZW), R' r ω' → Z d kc ks R pc' ls (r.toList ++ rest) ω') : Z d (kc' + kc) (ks' + ks) R pc ls (As.reverse ++ .ref o :: rest) ω := by
  obtain ⟨cw1, cw2, cw3, cw4, cw5⟩ := cw
  subst ho
  refine Z_ran (R' := R') (rest := rest) _ (fun p l e s m args below meth c H locs cells slots RC RS lo cA D lsA C h1 h2 h3 h4 h6 => ?_) hp kk
  have hM := zMet hm ok l lo cA D
  have hts := C.2.2.2.2.2.2.2.1
  obtain ⟨hlt, hσ, hc⟩ := hrc
  have he := vws_get (lo := lo) (cA := cA) (ω := ω) hlt
  have hh : vE lo cA (ω.1 o) = .inr (ci, fs.map (vsh lo)) := by rw [hσ]; rfl
  rw [hh] at he
  have hcode := hts _ cw1
  have hinst := hts _ hin
  have hK : Back l (zR d RC RS) p e below s args d'.1 3 8 (PreOf (zR d RC RS) kc' ks' (zP lo cA D (.ref o :: As) ω)) (PostOf (zQ lo cA D R') kc' ks' (vA lo)) := back_of (bytes := d'.2.1) (maxL := d'.2.2.1) (ret := d'.2.2.2.1) hM (zP_blind _ _ _ _ _) rfl rfl hfit.1 hfit.2 (pay_in hts (zws_good cw1 ztb_good)) List.mem_cons_self (fun a' U hW => word_at hW (Or.inl (by first | rfl | simp [Cond.onTables, Cond.keeps, Cond.steady])) (hts _ cw2))
  obtain ⟨cellB, hcB, hoB, hclB⟩ := va_recv C.2.2.2.2.2.2.2.2.2.1 h4 hc he
  obtain ⟨hfc, kB, hkB, -⟩ := (C.2.2.2.2.2.2.2.2.2.1.1 ci r hc).2
  rw [Option.some.inj (hfc.symm.trans hclB)] at hkB
  obtain ⟨mk, methM, hnamed, hmethM, hstM, habM⟩ := Cond.instanceMethod_spec hinst
  obtain ⟨methM', cM, hmethM', -, -, -, -, -, -, hsigM⟩ := Cond.code_spec hnamed hcode
  cases hmethM.symm.trans hmethM'
  obtain ⟨ps, dk, kp, hps, hdk, hkp, hsuper, -, -, hnid⟩ := Cond.superclass_spec C.2.2.2.2.1 (hts _ hsu)
  obtain ⟨ps2, dk2, kp2, hps2, hdk2, hkp2, hsuper2, -, -, -⟩ := Cond.superclass_spec hps (hts _ hsu2)
  have hpm : ps2 = mk.cls := Option.some.inj (hps2.symm.trans (by have := findClass_of_methodNamed hnamed; rw [hd1] at this; exact this))
  have hsz : 0 < s.vm.classes.size := Nat.lt_of_le_of_lt (Nat.zero_le _) (Array.getElem?_eq_some_iff.mp hdk2).1
  have hsub : s.vm.isSubclass ps mk.cls = true := by
    obtain ⟨k0, hk0⟩ : ∃ k0, s.vm.classes.size = k0 + 1 := ⟨s.vm.classes.size - 1, by omega⟩
    rw [← hpm]
    simp [Vm.isSubclass, Vm.isSubclassAux, hk0, hdk2, hsuper2]
  have hn2 : s.methodNamed? ⟨up, nm, ds⟩ = some mk := by rw [← hd1]; exact hnamed
  refine ⟨(Value.ref (lo + o) :: As.map (vsh lo)).toArray, ?_⟩
  intro T hT X
  obtain ⟨vm₁, X₁, hstep₁⟩ := X.invokespecialUp (x := ⟨x, nm, ds⟩) C.1 C.2.2.2.2.1 (hts _ hl) (hts _ hsm) hn2 hmethM hstM habM hy1 hdk hnid hps hsuper hsub (a := lo + o) (cell := cellB) (by rw [hT]; exact hcB)
    (fun z h => by rw [h] at hoB; cases hoB) hkB (g := F0 m pc lsA ((As.reverse ++ .ref o :: rest).map (vsh lo))) rfl (argsL := As.map (vsh lo)) (rest := rest.map (vsh lo)) (by rw [List.length_map, hn]; have h9 := hsigM; rw [h9] at cw4; exact (Option.some.inj cw4).symm) (by show List.map _ _ = _; rw [zrev]; rfl) (by rw [C.2.1]; exact hd)
  obtain ⟨v, B, X', hpost, hsteps⟩ := hK m meth c ⟨T.setVm vm₁, locs, cells, slots⟩ { F0 m pc lsA ((As.reverse ++ .ref o :: rest).map (vsh lo)) with stack := rest.map (vsh lo) } (.invokespecial index) mk (Value.ref (lo + o) :: As.map (vsh lo)).toArray X₁ rfl (h6.1.trans C.2.2.2.1.symm) (by rw [C.2.1]; exact hd) (by show 2 * 0 + _ ≤ 8; rw [zrest_map]; omega) (X₁.named hnamed) ⟨h1, h2, zpre C h3 h4 (.ref o :: As) (T.setVm vm₁) hT X₁.warmed⟩
  obtain ⟨g', mk', t, L, e1, e2, hq, z1, hL, z2, z3⟩ := hpost
  obtain ⟨U', l2, c2, s2⟩ := B
  dsimp only [Pt.U, Pt.locs, Pt.cells, Pt.slots] at X' e1 e2 z1 z2 z3 hsteps
  subst z1; subst z2; subst z3
  exact ⟨v, (T.setVm vm₁).calling g' mk' (Value.ref (lo + o) :: As.map (vsh lo)).toArray, t, U', L, hT, X', hL, e1, e2, hq, fun target h => hstep₁ _ (by rw [doInvoke_state]; exact hsteps.trans h)⟩
end ZCALL
