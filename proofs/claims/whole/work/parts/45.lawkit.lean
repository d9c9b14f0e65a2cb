/-! THE CLAIM OUT OF ONE WALK OF THE LAW'S BODY. Your part is whole_start (and what it stands on); all else here is the same for every law, but numbers. -/
def R_law : String := "PaidByCoastLaw"
def lw_P (b : Addr) (xs : List Int32) (args : Array Value) (s : State) : Prop := args = #[.ref b] ∧ s.IntsAt b xs ∧ xs.length ≤ 256 ∧ (Jvm.Cond.and given_1 narrow_1).before args s = true
def lw_Q (_ : Array Value) (s : State) (o : Outcome) (t : State) : Prop := o = .returned (some (.int 1)) ∧ Framed s o t [] 600000 7302249
def lw_Z (below : List Frame) (a : Array Value) (s : State) : State → Prop := fun t => ∃ o, t.status = .running ∧ Ended t below o ∧ lw_Q a s o t
/-- the law's own end, with 1 on the stack, nothing written that was there before, its room as the claim has it -/
theorem lw_ret {p : Program} {l : Launch} {e : Env} {s : State} {m : MethodId} {below : List Frame} {meth : Method} {c : Code} {b : Nat} (hx : p.tables.exec = Jvm.exec) (hb : c.code = code) (hr : meth.sig.returnType = ret) (hlocks : meth.locks = false) {pc : Nat} {H : Heap} {ls : Array Slot} (hdg : decode code pc = .ok (.ireturn, 1)) : W p l e room_1 s m #[Value.ref b] below meth c H [] 600000 7302249 (lw_Z below #[Value.ref b] s) (F0 m pc ls [.int 1]) := by
  intro T hT X
  obtain ⟨fs, hret, hrun, hended, hW, hframe⟩ := X.leave (v := some (.int 1)) (hlocks := hlocks) (fun h => by rw [hr] at h; cases h)
  have hmeth' : T.vm.method? m = some meth := X.method'
  refine ⟨T.setFrames fs, ?_, .returned (some (.int 1)), hrun, hended, rfl, ⟨_, rfl⟩, hW, hframe⟩
  jvm_step X.here [X.here.top, hx, hb, hdg, hmeth', hr, ret, narrow_b1]
  (try refine ⟨rfl, ?_⟩); (try refine ⟨rfl, ?_⟩)
  first | (intro acts; rw [hret _ acts rfl rfl rfl]) | rw [hret _ _ rfl rfl rfl]
  exact Steps.refl _
/-- what holds at the law's entry: the machine, the code, the tables' words (any of lw_tbl by 'hts w (by decide +kernel)'), the script of L ints xs at the cell b, what the Statement gives of the start (any of its parts by flat_of_before) -/
def lw_At (p : Program) (s : State) (m : MethodId) (meth : Method) (c : Code) (b L : Nat) (xs : Nat → Int32) : Prop :=
  p.tables.exec = Jvm.exec ∧ c.code = code ∧ meth.sig.returnType = ret ∧ c.maxLocals = 4 ∧ s.vm.findClass R_law = some m.cls ∧ (∀ w ∈ lw_tbl, w.before #[Value.ref b] s = true) ∧ va_X b L xs s s.heap ∧ b < s.heap.size ∧ meth.locks = false ∧ (Jvm.Cond.and given_1 narrow_1).before #[Value.ref b] s = true

/-- what holds at each of the law's instructions -/
def LC (p : Program) (s : State) (m : MethodId) (meth : Method) (c : Code) (b L : Nat) (xs : Nat → Int32) (cA : Nat → ClassId) (D : va_G) : Prop :=
  p.tables.exec = Jvm.exec ∧ c.code = code ∧ meth.sig.returnType = ret ∧ c.maxLocals = 4 ∧ s.vm.findClass "PaidByCoastLaw" = some m.cls ∧ meth.locks = false ∧ (∀ w ∈ ztb, w.before #[Value.ref b] s = true) ∧ (∀ w ∈ ztbN, va_Nw w s) ∧ va_K D vwCl (vtys cA) s ∧ va_X b L xs s s.heap ∧ b < s.heap.size
/-- the law goes on to its end from pc -/
def LZ (p : Program) (l : Launch) (e : Env) (s : State) (m : MethodId) (below : List Frame) (meth : Method) (c : Code) (b : Nat) (cA : Nat → ClassId) (D : va_G) (kc ks pc : Nat) (ls : List (Option Value)) (st : List Value) (ω : ZW) : Prop :=
  ∀ (H : Heap) (locs : List Loc) (cells slots : Nat) (lsA : Array Slot), cells + kc ≤ 600000 → slots + ks ≤ 7302249 → H.size = s.heap.size + ω.2 → va_P D vwCl (vws s.heap.size cA ω) H → va_S (vA s.heap.size) s.heap H locs → lv_has lsA 4 (vls s.heap.size ls) → lsA[0]? = some (.val (.ref b)) →
    W p l e room_1 s m #[Value.ref b] below meth c H locs cells slots (lw_Z below #[Value.ref b] s) (F0 m pc lsA (st.map (vsh s.heap.size)))
theorem lv_0 {lsA : Array Slot} {nL b : Nat} {l : List (Nat × Value)} (h : lv_has lsA nL l) (h0 : lsA[0]? = some (.val (.ref b))) : lv_has lsA nL ((0, Value.ref b) :: l) := ⟨h.1, h.2.1, fun q hq => by
  rcases List.mem_cons.mp hq with rfl | g
  · exact h0
  · exact h.2.2 q g⟩
theorem lv_B {lsB : Array Slot} {nL b i : Nat} {v : Value} {l : List (Nat × Value)} {q : Nat × Value → Bool} (h : lv_has lsB nL ((i, v) :: ((0, Value.ref b) :: l).filter q)) : lv_has lsB nL ((i, v) :: l.filter q) := ⟨h.1, h.2.1, fun x hx => h.2.2 x (by
  rcases List.mem_cons.mp hx with g | g
  · rw [g]; exact List.mem_cons_self ..
  · obtain ⟨g1, g2⟩ := List.mem_filter.mp g
    exact List.mem_cons_of_mem _ (List.mem_filter.mpr ⟨List.mem_cons_of_mem _ g1, g2⟩))⟩
theorem lv_B0 {lsB : Array Slot} {nL b i : Nat} {v : Value} {l : List (Nat × Value)} (hi : i ≠ 0) (h : lv_has lsB nL ((i, v) :: ((0, Value.ref b) :: l).filter (fun q => !(q.1 == i) && !(q.1 + 1 == i && q.2.category == 2)))) : lsB[0]? = some (.val (.ref b)) := by
  refine h.2.2 (0, Value.ref b) (List.mem_cons_of_mem _ (List.mem_filter.mpr ⟨List.mem_cons_self .., ?_⟩))
  have h1 : (0 == i) = false := by simpa using fun g : 0 = i => hi g.symm
  have h2 : (Value.ref b).category = 1 := rfl
  simp [h1, h2]
section LZROWS
variable {p : Program} {l : Launch} {e : Env} {s : State} {m : MethodId} {below : List Frame} {meth : Method} {c : Code} {b L : Nat} {xs : Nat → Int32} {cA : Nat → ClassId} {D : va_G} {kc ks pc pc' : Nat} {ls ls' : List (Option Value)} {st rest As : List Value} {ω : ZW}
theorem LZ_iconst (C : LC p s m meth c b L xs cA D) {n : Int} {v : Int32} (hd : decode code pc = .ok (.iconst n, 1)) (hv : Int32.ofInt n = v) (hp : pc + 1 = pc') (k : LZ p l e s m below meth c b cA D kc ks pc' ls (.int v :: st) ω) : LZ p l e s m below meth c b cA D kc ks pc ls st ω := by
  subst hp
  intro H locs cells slots lsA h1 h2 h3 h4 h5 h6 h7
  exact lv_iconst C.1 C.2.1 hd hv (k H locs cells slots lsA h1 h2 h3 h4 h5 h6 h7)
theorem LZ_bipush (C : LC p s m meth c b L xs cA D) {n : Int} {v : Int32} (hd : decode code pc = .ok (.bipush n, 2)) (hv : (Int8.ofInt n).toInt32 = v) (hp : pc + 2 = pc') (k : LZ p l e s m below meth c b cA D kc ks pc' ls (.int v :: st) ω) : LZ p l e s m below meth c b cA D kc ks pc ls st ω := by
  subst hp
  intro H locs cells slots lsA h1 h2 h3 h4 h5 h6 h7
  exact lv_bipush C.1 C.2.1 hd hv (k H locs cells slots lsA h1 h2 h3 h4 h5 h6 h7)
theorem LZ_iload_n (C : LC p s m meth c b L xs cA D) {n : Fin 4} {x : Int32} (hd : decode code pc = .ok (.iload_n n, 1)) (hl : ls[(n : Nat)]? = some (some (.int x))) (hp : pc + 1 = pc') (k : LZ p l e s m below meth c b cA D kc ks pc' ls (.int x :: st) ω) : LZ p l e s m below meth c b cA D kc ks pc ls st ω := by
  subst hp
  intro H locs cells slots lsA h1 h2 h3 h4 h5 h6 h7
  exact lv_iload_n C.1 C.2.1 hd rfl (vls_at h6 hl) (k H locs cells slots lsA h1 h2 h3 h4 h5 h6 h7)
theorem LZ_aload_n (C : LC p s m meth c b L xs cA D) {n : Fin 4} {a : Nat} (hd : decode code pc = .ok (.aload_n n, 1)) (hl : ls[(n : Nat)]? = some (some (.ref a))) (hp : pc + 1 = pc') (k : LZ p l e s m below meth c b cA D kc ks pc' ls (.ref a :: st) ω) : LZ p l e s m below meth c b cA D kc ks pc ls st ω := by
  subst hp
  intro H locs cells slots lsA h1 h2 h3 h4 h5 h6 h7
  exact lv_aload_n C.1 C.2.1 hd rfl (vls_at h6 hl) (k H locs cells slots lsA h1 h2 h3 h4 h5 h6 h7)
theorem LZ_astore_n (C : LC p s m meth c b L xs cA D) {n : Fin 4} {a : Nat} (hd : decode code pc = .ok (.astore_n n, 1)) (hn0 : (n : Nat) ≠ 0) (hn : (n : Nat) < 4) (hk : (n : Nat) ≤ ls.length) (hz : zok ls (n : Nat) = true) (hl : lset1 ls (n : Nat) (.ref a) = ls') (hp : pc + 1 = pc') (k : LZ p l e s m below meth c b cA D kc ks pc' ls' st ω) : LZ p l e s m below meth c b cA D kc ks pc ls (.ref a :: st) ω := by
  subst hp; subst hl
  intro H locs cells slots lsA h1 h2 h3 h4 h5 h6 h7
  exact lv_astore_n C.1 C.2.1 hd rfl (lv_0 h6 h7) hn rfl (fun lsB hB => k H locs cells slots lsB h1 h2 h3 h4 h5 (zst1 hk hz (lv_B hB)) (lv_B0 hn0 hB))
theorem LZ_istore_n (C : LC p s m meth c b L xs cA D) {n : Fin 4} {x : Int32} (hd : decode code pc = .ok (.istore_n n, 1)) (hn0 : (n : Nat) ≠ 0) (hn : (n : Nat) < 4) (hk : (n : Nat) ≤ ls.length) (hz : zok ls (n : Nat) = true) (hl : lset1 ls (n : Nat) (.int x) = ls') (hp : pc + 1 = pc') (k : LZ p l e s m below meth c b cA D kc ks pc' ls' st ω) : LZ p l e s m below meth c b cA D kc ks pc ls (.int x :: st) ω := by
  subst hp; subst hl
  intro H locs cells slots lsA h1 h2 h3 h4 h5 h6 h7
  exact lv_istore_n C.1 C.2.1 hd rfl (lv_0 h6 h7) hn rfl (fun lsB hB => k H locs cells slots lsB h1 h2 h3 h4 h5 (zst1 hk hz (lv_B hB)) (lv_B0 hn0 hB))
theorem LZ_iinc (C : LC p s m meth c b L xs cA D) {i : Nat} {n : Int} {x v : Int32} (hd : decode code pc = .ok (.iinc i n, 3)) (hx : ls[i]? = some (some (.int x))) (hv : x + Int32.ofInt n = v) (hn0 : i ≠ 0) (hn : i < 4) (hz : zok ls i = true) (hl : lset1 ls i (.int v) = ls') (hp : pc + 3 = pc') (k : LZ p l e s m below meth c b cA D kc ks pc' ls' st ω) : LZ p l e s m below meth c b cA D kc ks pc ls st ω := by
  subst hp; subst hl
  intro H locs cells slots lsA h1 h2 h3 h4 h5 h6 h7
  obtain ⟨k0, hk0⟩ := List.getElem?_of_mem (List.mem_cons_of_mem (0, Value.ref b) (vls_mem (lo := s.heap.size) (q := (i, .int x)) |>.mpr ⟨_, hx, rfl⟩))
  exact lv_iinc C.1 C.2.1 hd (lv_0 h6 h7) hk0 hv hn rfl (fun lsB hB => k H locs cells slots lsB h1 h2 h3 h4 h5 (zst1 (Nat.le_of_lt (List.getElem?_eq_some_iff.mp hx).1) hz (lv_B hB)) (lv_B0 hn0 hB))
theorem LZ_dup (C : LC p s m meth c b L xs cA D) {v : Value} (hd : decode code pc = .ok (.dup, 1)) (hv : v.category = 1) (hp : pc + 1 = pc') (k : LZ p l e s m below meth c b cA D kc ks pc' ls (v :: v :: st) ω) : LZ p l e s m below meth c b cA D kc ks pc ls (v :: st) ω := by
  subst hp
  intro H locs cells slots lsA h1 h2 h3 h4 h5 h6 h7
  exact lv_dup C.1 C.2.1 hd (by rw [vsh_cat]; exact hv) (k H locs cells slots lsA h1 h2 h3 h4 h5 h6 h7)
theorem LZ_isub (C : LC p s m meth c b L xs cA D) {x y : Int32} (hd : decode code pc = .ok (.isub, 1)) (hp : pc + 1 = pc') (k : LZ p l e s m below meth c b cA D kc ks pc' ls (.int (x - y) :: st) ω) : LZ p l e s m below meth c b cA D kc ks pc ls (.int y :: .int x :: st) ω := by
  subst hp
  intro H locs cells slots lsA h1 h2 h3 h4 h5 h6 h7
  exact lv_isub C.1 C.2.1 hd (k H locs cells slots lsA h1 h2 h3 h4 h5 h6 h7)
theorem LZ_iand (C : LC p s m meth c b L xs cA D) {x y : Int32} (hd : decode code pc = .ok (.iand, 1)) (hp : pc + 1 = pc') (k : LZ p l e s m below meth c b cA D kc ks pc' ls (.int (x &&& y) :: st) ω) : LZ p l e s m below meth c b cA D kc ks pc ls (.int y :: .int x :: st) ω := by
  subst hp
  intro H locs cells slots lsA h1 h2 h3 h4 h5 h6 h7
  exact lv_iand C.1 C.2.1 hd (k H locs cells slots lsA h1 h2 h3 h4 h5 h6 h7)
theorem LZ_goto (C : LC p s m meth c b L xs cA D) {off : Int} {tgt : Nat} (hd : decode code pc = .ok (.goto off, 3)) (ht : (pc : Int) + off = (tgt : Int)) (k : LZ p l e s m below meth c b cA D kc ks tgt ls st ω) : LZ p l e s m below meth c b cA D kc ks pc ls st ω := by
  intro H locs cells slots lsA h1 h2 h3 h4 h5 h6 h7
  exact lv_goto C.1 C.2.1 hd ht (k H locs cells slots lsA h1 h2 h3 h4 h5 h6 h7)
theorem LZ_icmp_eq (C : LC p s m meth c b L xs cA D) {x y : Int32} {off : Int} {tgt : Nat} (hd : decode code pc = .ok (.if_icmp .eq off, 3)) (ht : (pc : Int) + off = (tgt : Int)) (hp : pc + 3 = pc') (kt : x = y → LZ p l e s m below meth c b cA D kc ks tgt ls st ω) (kf : ¬ x = y → LZ p l e s m below meth c b cA D kc ks pc' ls st ω) : LZ p l e s m below meth c b cA D kc ks pc ls (.int y :: .int x :: st) ω := by
  subst hp
  intro H locs cells slots lsA h1 h2 h3 h4 h5 h6 h7
  exact lv_icmp_eq C.1 C.2.1 hd ht (fun q => kt q H locs cells slots lsA h1 h2 h3 h4 h5 h6 h7) (fun q => kf q H locs cells slots lsA h1 h2 h3 h4 h5 h6 h7)
theorem LZ_icmp_gt (C : LC p s m meth c b L xs cA D) {x y : Int32} {off : Int} {tgt : Nat} (hd : decode code pc = .ok (.if_icmp .gt off, 3)) (ht : (pc : Int) + off = (tgt : Int)) (hp : pc + 3 = pc') (kt : y < x → LZ p l e s m below meth c b cA D kc ks tgt ls st ω) (kf : ¬ y < x → LZ p l e s m below meth c b cA D kc ks pc' ls st ω) : LZ p l e s m below meth c b cA D kc ks pc ls (.int y :: .int x :: st) ω := by
  subst hp
  intro H locs cells slots lsA h1 h2 h3 h4 h5 h6 h7
  exact lv_icmp_gt C.1 C.2.1 hd ht (fun q => kt q H locs cells slots lsA h1 h2 h3 h4 h5 h6 h7) (fun q => kf q H locs cells slots lsA h1 h2 h3 h4 h5 h6 h7)
theorem LZ_tableOut (C : LC p s m meth c b L xs cA D) {dflt lo hi : Int} {offs : Array Int} {len : Nat} {x : Int32} {tgt : Nat} (hd : decode code pc = .ok (.tableswitch dflt lo hi offs, len)) (h : x.toInt < lo ∨ hi < x.toInt) (ht : (pc : Int) + dflt = (tgt : Int)) (k : LZ p l e s m below meth c b cA D kc ks tgt ls st ω) : LZ p l e s m below meth c b cA D kc ks pc ls (.int x :: st) ω := by
  intro H locs cells slots lsA h1 h2 h3 h4 h5 h6 h7
  exact lv_tableOut C.1 C.2.1 hd h ht (k H locs cells slots lsA h1 h2 h3 h4 h5 h6 h7)
theorem LZ_tableIn (C : LC p s m meth c b L xs cA D) {dflt lo hi : Int} {offs : Array Int} {len : Nat} {x : Int32} {off : Int} {tgt : Nat} (hd : decode code pc = .ok (.tableswitch dflt lo hi offs, len)) (g1 : ¬ x.toInt < lo) (g2 : ¬ hi < x.toInt) (ho : offs[(x.toInt - lo).toNat]? = some off) (ht : (pc : Int) + off = (tgt : Int)) (k : LZ p l e s m below meth c b cA D kc ks tgt ls st ω) : LZ p l e s m below meth c b cA D kc ks pc ls (.int x :: st) ω := by
  intro H locs cells slots lsA h1 h2 h3 h4 h5 h6 h7
  exact lv_tableIn C.1 C.2.1 hd g1 g2 ho ht (k H locs cells slots lsA h1 h2 h3 h4 h5 h6 h7)
theorem LZ_widen {kc' ks' : Nat} (hc : kc' ≤ kc) (hs : ks' ≤ ks) (k : LZ p l e s m below meth c b cA D kc' ks' pc ls st ω) : LZ p l e s m below meth c b cA D kc ks pc ls st ω := by
  intro H locs cells slots lsA h1 h2 h3 h4 h5 h6 h7
  exact k H locs cells slots lsA (Nat.le_trans (Nat.add_le_add_left hc _) h1) (Nat.le_trans (Nat.add_le_add_left hs _) h2) h3 h4 h5 h6 h7
theorem LZ_world {σ τ : Nat → ZO} {n : Nat} (hσ : ∀ a, a < n → σ a = τ a) (k : LZ p l e s m below meth c b cA D kc ks pc ls st (τ, n)) : LZ p l e s m below meth c b cA D kc ks pc ls st (σ, n) := by
  intro H locs cells slots lsA h1 h2 h3 h4 h5 h6 h7
  exact k H locs cells slots lsA h1 h2 h3 (by rw [← vws_congr hσ]; exact h4) h5 h6 h7
theorem LZ_fewer (hl : ∀ (k : Nat) (v : Value), ls'[k]? = some (some v) → ls[k]? = some (some v)) (k : LZ p l e s m below meth c b cA D kc ks pc ls' st ω) : LZ p l e s m below meth c b cA D kc ks pc ls st ω := by
  intro H locs cells slots lsA h1 h2 h3 h4 h5 h6 h7
  exact k H locs cells slots lsA h1 h2 h3 h4 h5 (vls_to h6 fun j v hj => vls_mem.mpr ⟨v, hl j v hj, rfl⟩) h7
/-- the script's length -/
theorem LZ_len (C : LC p s m meth c b L xs cA D) (hd : decode code pc = .ok (.aload_n 0, 1)) (hd1 : decode code (pc + 1) = .ok (.arraylength, 1)) (hp : pc + 2 = pc') (k : LZ p l e s m below meth c b cA D kc ks pc' ls (.int (nI L) :: st) ω) : LZ p l e s m below meth c b cA D kc ks pc ls st ω := by
  subst hp
  intro H locs cells slots lsA h1 h2 h3 h4 h5 h6 h7
  refine lv_aload_n C.1 C.2.1 hd rfl h7 ?_
  exact va_slen C.1 C.2.1 C.2.2.2.2.2.2.2.2.2.1 C.2.2.2.2.2.2.2.2.2.2 (Nat.not_le.mpr C.2.2.2.2.2.2.2.2.2.2) h5 hd1 (k H locs cells slots lsA h1 h2 h3 h4 h5 h6 h7)
/-- the script's number at i -/
theorem LZ_at (C : LC p s m meth c b L xs cA D) {i : Nat} (hi : i < L) (hL : L < 1000) (hl : ls[3]? = some (some (.int (nI i)))) (hd : decode code pc = .ok (.aload_n 0, 1)) (hd1 : decode code (pc + 1) = .ok (.iload_n 3, 1)) (hd2 : decode code (pc + 2) = .ok (.iaload, 1)) (hp : pc + 3 = pc') (k : LZ p l e s m below meth c b cA D kc ks pc' ls (.int (xs i) :: st) ω) : LZ p l e s m below meth c b cA D kc ks pc ls st ω := by
  subst hp
  intro H locs cells slots lsA h1 h2 h3 h4 h5 h6 h7
  refine lv_aload_n C.1 C.2.1 hd rfl h7 ?_
  refine lv_iload_n C.1 C.2.1 hd1 rfl (vls_at h6 hl) ?_
  refine va_sld C.1 C.2.1 C.2.2.2.2.2.2.2.2.2.1 C.2.2.2.2.2.2.2.2.2.2 (Nat.not_le.mpr C.2.2.2.2.2.2.2.2.2.2) h5 (zin hi (by omega)) hd2 ?_
  rw [nI_nat (by omega)]
  exact (k H locs cells slots lsA h1 h2 h3 h4 h5 h6 h7)
/-- the script's number at i + j -/
theorem LZ_arg (C : LC p s m meth c b L xs cA D) {i j : Nat} {n : Int} (hi : i + j < L) (hL : L < 1000) (hl : ls[3]? = some (some (.int (nI i)))) (hn : Int32.ofInt n = nI j) (hd : decode code pc = .ok (.aload_n 0, 1)) (hd1 : decode code (pc + 1) = .ok (.iload_n 3, 1)) (hd2 : decode code (pc + 2) = .ok (.iconst n, 1)) (hd3 : decode code (pc + 3) = .ok (.iadd, 1)) (hd4 : decode code (pc + 4) = .ok (.iaload, 1)) (hp : pc + 5 = pc') (k : LZ p l e s m below meth c b cA D kc ks pc' ls (.int (xs (i + j)) :: st) ω) : LZ p l e s m below meth c b cA D kc ks pc ls st ω := by
  subst hp
  intro H locs cells slots lsA h1 h2 h3 h4 h5 h6 h7
  refine lv_aload_n C.1 C.2.1 hd rfl h7 ?_
  refine lv_iload_n C.1 C.2.1 hd1 rfl (vls_at h6 hl) ?_
  refine lv_iconst C.1 C.2.1 hd2 hn ?_
  refine lv_iadd C.1 C.2.1 hd3 ?_
  rw [nI_add]
  refine va_sld C.1 C.2.1 C.2.2.2.2.2.2.2.2.2.1 C.2.2.2.2.2.2.2.2.2.2 (Nat.not_le.mpr C.2.2.2.2.2.2.2.2.2.2) h5 (zin hi (by omega)) hd4 ?_
  rw [nI_nat (by omega)]
  exact (k H locs cells slots lsA h1 h2 h3 h4 h5 h6 h7)
theorem LZ_ret (C : LC p s m meth c b L xs cA D) (hd : decode code pc = .ok (.ireturn, 1)) : LZ p l e s m below meth c b cA D kc ks pc ls [.int 1] ω := by
  intro H locs cells slots lsA h1 h2 h3 h4 h5 h6 h7
  refine va_forget (fun q hq => h5.2.2 q hq) ?_
  refine W.widen (k := 600000) (n := 7302249) (Nat.le_trans (Nat.le_add_right _ _) h1) (Nat.le_trans (Nat.le_add_right _ _) h2) ?_
  exact lw_ret C.1 C.2.1 C.2.2.1 C.2.2.2.2.2.1 hd
theorem LZ_new (C : LC p s m meth c b L xs cA D) {σ : Nat → ZO} {n : Nat} {C0 : String} {T : u_T} {N ci index : Nat} {fs : List Value} {ty : Nat → FieldType} (hd : decode code pc = .ok (.new index, 3)) (hc : vwCl[ci]? = some (C0, T, N)) (hin : ∀ w ∈ u_ws C0 T N, w ∈ ztb) (hty : zFt T N ty) (hcl : Cond.classLink "PaidByCoastLaw" index C0 ∈ ztb) (hinst : Cond.instantiable C0 N ∈ ztb) (hini : Cond.initialized C0 ∈ ztb) (hfs : ∀ lo j, j < N → defaultValue (ty j) = vp_V (fs.map (vsh lo)) j) (hp : pc + 3 = pc') (k : LZ p l e s m below meth c b cA D kc ks pc' ls (.ref n :: st) (zup σ n (.inl (ci, fs)), n + 1)) : LZ p l e s m below meth c b cA D (kc + 1) (ks + N) pc ls st (σ, n) := by
  subst hp
  intro H locs cells slots lsA h1 h2 h3 h4 h5 h6 h7
  have hts := C.2.2.2.2.2.2.1
  have hK := C.2.2.2.2.2.2.2.2.1
  have hKn := hK.1 ci _ hc
  refine W.newcK C.1 C.2.1 C.2.2.2.2.1 (hts _ hcl) (hts _ hinst) (hts _ hini) rfl hd (by show cells + 1 ≤ 600000; omega) (by show slots + N ≤ 7302249; omega) hKn.2.1 h3 fun H1 kC hkC e1 z1 o1 => ?_
  have o1' : ∀ q, q < H.size → H1[q]? = H[q]? := fun q hq => o1 q (by rw [← h3]; exact hq)
  exact k H1 locs (cells + 1) (slots + N) lsA (by omega) (by omega) (by rw [z1]; rfl) (z_pushP h3 h4 o1' ⟨_, hc, (u_born ty hts hin hKn hkC e1 hty.1).to (hfs s.heap.size)⟩) (z_pushS h5 (by rw [z1, h3]) o1') h6 h7
variable {d' : ZD} {kc' ks' : Nat} {R' : Option Value → ZW → Prop}
theorem LC.fix (C : LC p s m meth c b L xs cA D) : CallFix p m c code 4 s #[Value.ref b] ztb "PaidByCoastLaw" := ⟨C.1, C.2.1, C.2.2.2.1, C.2.2.2.2.1, C.2.2.2.2.2.2.1⟩
theorem LC.pre (C : LC p s m meth c b L xs cA D) {H : Heap} (h3 : H.size = s.heap.size + ω.2) (h4 : va_P D vwCl (vws s.heap.size cA ω) H) (As : List Value) (U : State) (hU : U.heap = H) (hW : s.WarmedH U.vm) : zP s.heap.size cA D As ω (As.map (vsh s.heap.size)).toArray U :=
  ⟨rfl, by rw [hU]; exact h3, by rw [hU]; exact h4, va_K.moved hW.alike C.2.2.2.2.2.2.2.2.1, zN_warm hW C.2.2.2.2.2.2.2.1⟩
theorem LZ_ran (st0 : List Value)
    (hrun : ∀ (H : Heap) (locs : List Loc) (cells slots : Nat) (lsA : Array Slot), cells + kc' ≤ 600000 → slots + ks' ≤ 7302249 → H.size = s.heap.size + ω.2 → va_P D vwCl (vws s.heap.size cA ω) H → lv_has lsA 4 (vls s.heap.size ls) → ∃ a : Array Value,
      va_Run p l e room_1 s m #[Value.ref b] below meth c H locs cells slots kc' ks' (F0 m pc lsA (st0.map (vsh s.heap.size))) (rest.map (vsh s.heap.size)) (zQ s.heap.size cA D R' a) (vA s.heap.size))
    (hp : pc + 3 = pc') (kk : ∀ (r : Option Value) (ω' : ZW), R' r ω' → LZ p l e s m below meth c b cA D kc ks pc' ls (r.toList ++ rest) ω') : LZ p l e s m below meth c b cA D (kc' + kc) (ks' + ks) pc ls st0 ω := by
  subst hp
  intro H locs cells slots lsA h1 h2 h3 h4 h5 h6 h7
  intro T hT X
  obtain ⟨a, hr⟩ := hrun H locs cells slots lsA (by omega) (by omega) h3 h4 h6
  obtain ⟨v, st₀, t, T', L', e0, X', hL, e1, e2, ⟨⟨r, ω', hv, hR, hs, hP⟩, hz, hk⟩, hgo⟩ := hr T hT X
  cases hv
  rw [e0] at hz hk
  have h3' : T'.heap.size = s.heap.size + ω'.2 := by rw [e1]; exact hs
  have h4' : va_P D vwCl (vws s.heap.size cA ω') T'.heap := by rw [e1]; exact hP
  have h5' : va_S (vA s.heap.size) s.heap T'.heap (locs ++ L') := by
    refine ⟨Nat.le_trans h5.1 (by rw [e1]; exact hz), fun q g1 g2 => ?_, fun q hq => ?_⟩
    · rw [e1, hk q (Nat.lt_of_lt_of_le g1 h5.1) g2]; exact h5.2.1 q g1 g2
    · rcases List.mem_append.mp hq with h | h
      · exact h5.2.2 q h
      · exact hL q h
  obtain ⟨t2, a1, b1⟩ := kk r ω' hR T'.heap (locs ++ L') (cells + kc') (slots + ks') lsA (by omega) (by omega) h3' h4' h5' h6 h7 T' rfl X'
  refine ⟨t2, hgo t2 ?_, b1⟩
  have e9 : (r.map (vsh s.heap.size)).toList ++ rest.map (vsh s.heap.size) = (r.toList ++ rest).map (vsh s.heap.size) := by cases r <;> simp
  rw [e9]
  exact a1
/-- the callee's room fits into the law's -/
def lFit (d' : ZD) : Prop := d'.2.2.2.2.1 + 1 ≤ 10 ∧ 8 + (d'.2.2.1 + 11) + d'.2.2.2.2.2 ≤ 352
theorem LZ_callI (C : LC p s m meth c b L xs cA D) {index nn o : Nat} (hd : decode code pc = .ok (.invokespecial index, 3)) (cw : zCw d' nn) (hn : As.length = nn) (hfit : lFit d') (hrest : zrest rest ≤ 8) (ok : zOK d' (.ref o :: As)) (hret : d'.2.2.2.1 = none) (hy1 : d'.1.name = "<init>") (kb : zKI "PaidByCoastLaw" index d') (hm : zM d' kc' ks' (.ref o :: As) ω R') (hp : pc + 3 = pc') (kk : ∀ (r : Option Value) (ω' : ZW), R' r ω' → LZ p l e s m below meth c b cA D kc ks pc' ls (r.toList ++ rest) ω') : LZ p l e s m below meth c b cA D (kc' + kc) (ks' + ks) pc ls (As.reverse ++ .ref o :: rest) ω := by
  obtain ⟨cw1, cw2, cw3, cw4, cw5⟩ := cw
  obtain ⟨hl, hin⟩ := kb
  refine LZ_ran (R' := R') (rest := rest) _ (fun H locs cells slots lsA h1 h2 h3 h4 h6 => ?_) hp kk
  have hM := zMet hm ok l s.heap.size cA D
  have hts := C.2.2.2.2.2.2.1
  have cwI' := cwI (R := room_1) (own := "PaidByCoastLaw") (index := index) (y := d'.1) (bytes := d'.2.1) (maxL := d'.2.2.1) (rm := zR d' kc' ks') (mc := kc') (ms := ks') nn hts (ws := zws d') (ws' := ztb) (zws_good cw1 ztb_good) (by rw [← hret]) rfl rfl (hts _ cw2) (hts _ hl) (hts _ hin) hy1 ⟨cw3.1, cw3.2, cw4⟩ hfit
  exact ⟨_, va_runI (As := As.map (vsh s.heap.size)) (b := s.heap.size + o) C.fix hM cwI' ⟨zP_blind _ _ _ _ _, fun U hU hW => C.pre h3 h4 (.ref o :: As) U hU hW⟩ rfl (by rw [List.length_map]; exact hn) h6.1 (by show List.map _ _ = _; rw [zrev]; rfl) (by show 2 * 0 + _ ≤ 8; rw [zrest_map]; omega) hd ⟨h1, h2⟩⟩
theorem LZ_callV (C : LC p s m meth c b L xs cA D) {index nn o : Nat} (hd : decode code pc = .ok (.invokevirtual index, 3)) (cw : zCw d' nn) (hn : As.length = nn) (hfit : lFit d') (hrest : zrest rest ≤ 8) (hr : zRcv ω o d'.1.cls) (ok : zOK d' (.ref o :: As)) (kb : zKV "PaidByCoastLaw" index d') (hm : zM d' kc' ks' (.ref o :: As) ω R') (hp : pc + 3 = pc') (kk : ∀ (r : Option Value) (ω' : ZW), R' r ω' → LZ p l e s m below meth c b cA D kc ks pc' ls (r.toList ++ rest) ω') : LZ p l e s m below meth c b cA D (kc' + kc) (ks' + ks) pc ls (As.reverse ++ .ref o :: rest) ω := by
  obtain ⟨cw1, cw2, cw3, cw4, cw5⟩ := cw
  obtain ⟨hl, hin, hse⟩ := kb
  refine LZ_ran (R' := R') (rest := rest) _ (fun H locs cells slots lsA h1 h2 h3 h4 h6 => ?_) hp kk
  have hM := zMet hm ok l s.heap.size cA D
  have hts := C.2.2.2.2.2.2.1
  obtain ⟨ci, fs, r, hlt, hσ, hc, hcls⟩ := hr
  have he := vws_get (lo := s.heap.size) (cA := cA) (ω := ω) hlt
  have hh : vE s.heap.size cA (ω.1 o) = .inr (ci, fs.map (vsh s.heap.size)) := by rw [hσ]; rfl
  rw [hh] at he
  have cwV' := cwV (R := room_1) (own := "PaidByCoastLaw") (C := d'.1.cls) (index := index) (y := d'.1) (bytes := d'.2.1) (maxL := d'.2.2.1) (ret := d'.2.2.2.1) (rm := zR d' kc' ks') (mc := kc') (ms := ks') nn hts (ws := zws d') (zws_good hl (zws_good hin (zws_good hse (zws_good cw2 (zws_good cw1 ztb_good))))) rfl rfl rfl ⟨rfl, cw3.1, cw3.2, cw4⟩ hfit
  exact ⟨_, va_runV (As := As.map (vsh s.heap.size)) (b := s.heap.size + o) C.fix hM cwV' ⟨zP_blind _ _ _ _ _, hcls ▸ va_recv C.2.2.2.2.2.2.2.2.1 h4 hc he, fun U hU hW => C.pre h3 h4 (.ref o :: As) U hU hW⟩ rfl (by rw [List.length_map]; exact hn) h6.1 (by show List.map _ _ = _; rw [zrev]; rfl) (by show 2 * 0 + _ ≤ 8; rw [zrest_map]; omega) hd ⟨h1, h2⟩⟩
theorem LZ_callV0 (C : LC p s m meth c b L xs cA D) {index nn o : Nat} (hd : decode code pc = .ok (.invokevirtual index, 3)) (cw : zCw d' nn) (hn : As.length = nn) (hfit : lFit d') (hrest : zrest rest ≤ 8) (hr : zRcv ω o d'.1.cls) (ok : zOK d' (.ref o :: As)) (kb : zKV "PaidByCoastLaw" index d') (hm : zM d' 0 0 (.ref o :: As) ω R') (hp : pc + 3 = pc') (kk : ∀ (r : Option Value) (ω' : ZW), R' r ω' → LZ p l e s m below meth c b cA D kc ks pc' ls (r.toList ++ rest) ω') : LZ p l e s m below meth c b cA D kc ks pc ls (As.reverse ++ .ref o :: rest) ω := by
  have h := LZ_callV (kc := kc) (ks := ks) C hd cw hn hfit hrest hr ok kb hm hp kk
  rw [Nat.zero_add, Nat.zero_add] at h
  exact h
end LZROWS
