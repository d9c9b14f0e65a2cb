/-! the layout: address, and what stands there; f: the whole numbers of the object or the row, g: the references of a row -/
def shp (a : Nat) (f : Nat → Int32) (g : Nat → Option Nat) : ZO := match a with
  | 0 => .inl (11, [.ref 1, .ref 7, .ref 13, .int (f 3), .ref 19, .ref 21, .ref 23, .int (f 7), .ref 24])
  | 1 => .inl (2, [.ref 2, .int (f 1), .ref 3, .ref 4, .int (f 4), .ref 5, .int (f 6)])
  | 2 => .inr (.inr (1, 8, g))
  | 3 => .inr (.inl (49, f))
  | 4 => .inr (.inl (49, f))
  | 5 => .inl (7, [.ref 6, .int (f 1)])
  | 6 => .inr (.inr (2, 6, g))
  | 7 => .inl (2, [.ref 8, .int (f 1), .ref 9, .ref 10, .int (f 4), .ref 11, .int (f 6)])
  | 8 => .inr (.inr (1, 8, g))
  | 9 => .inr (.inl (49, f))
  | 10 => .inr (.inl (49, f))
  | 11 => .inl (7, [.ref 12, .int (f 1)])
  | 12 => .inr (.inr (2, 6, g))
  | 13 => .inl (2, [.ref 14, .int (f 1), .ref 15, .ref 16, .int (f 4), .ref 17, .int (f 6)])
  | 14 => .inr (.inr (1, 8, g))
  | 15 => .inr (.inl (49, f))
  | 16 => .inr (.inl (49, f))
  | 17 => .inl (7, [.ref 18, .int (f 1)])
  | 18 => .inr (.inr (2, 6, g))
  | 19 => .inl (0, [.ref 20])
  | 20 => .inr (.inl (384, f))
  | 21 => .inl (3, [.ref 22, .int (f 1)])
  | 22 => .inr (.inl (80, f))
  | 23 => .inr (.inl (12, f))
  | 24 => .inr (.inl (7, f))
  | 25 => .inl (12, [.ref 26, .ref 27, .ref 28, .ref 29, .ref 30, .ref 31, .ref 32, .ref 33, .ref 34, .ref 35, .ref 36, .ref 37, .int (f 12), .int (f 13), .int (f 14), .int (f 15), .ref 38, .ref 39, .ref 40, .ref 41, .int (f 20), .int (f 21), .int (f 22), .ref 42, .int (f 24), .int (f 25), .int (f 26), .ref 43, .ref 44, .int (f 29), .int (f 30), .ref 45, .int (f 32), .ref 46, .ref 47, .int (f 35), .int (f 36)])
  | 26 => .inr (.inl (7, f))
  | 27 => .inr (.inl (8, f))
  | 28 => .inr (.inl (8, f))
  | 29 => .inr (.inl (8, f))
  | 30 => .inr (.inl (8, f))
  | 31 => .inr (.inl (49, f))
  | 32 => .inr (.inl (49, f))
  | 33 => .inr (.inl (49, f))
  | 34 => .inr (.inl (6, f))
  | 35 => .inr (.inl (6, f))
  | 36 => .inr (.inl (6, f))
  | 37 => .inr (.inl (6, f))
  | 38 => .inr (.inl (80, f))
  | 39 => .inr (.inl (40, f))
  | 40 => .inr (.inl (40, f))
  | 41 => .inr (.inl (640, f))
  | 42 => .inr (.inl (440, f))
  | 43 => .inr (.inl (49, f))
  | 44 => .inr (.inl (49, f))
  | 45 => .inr (.inl (6, f))
  | 46 => .inr (.inl (49, f))
  | _ => .inr (.inl (12, f))
/-- whole numbers by cell and place, references by row and place, made objects by number -/
abbrev ZS : Type := (Nat → Nat → Int32) × (Nat → Nat → Option Nat) × (Nat → Nat × List Int32)
def zW (S : ZS) : Nat → ZO := fun a => if a < 48 then shp a (S.1 a) (S.2.1 a) else .inl ((S.2.2 (a - 48)).1, (S.2.2 (a - 48)).2.map Value.int)
abbrev zw (S : ZS) (n : Nat) : ZW := (zW S, 48 + n)
def sA (S : ZS) (a k : Nat) (x : Int32) : ZS := (zup S.1 a (zup (S.1 a) k x), S.2)
def sB (S : ZS) (a k : Nat) (r : Option Nat) : ZS := (S.1, zup S.2.1 a (zup (S.2.1 a) k r), S.2.2)
def sP (S : ZS) (j : Nat) (x : Nat × List Int32) : ZS := (S.1, S.2.1, zup S.2.2 j x)
theorem zW_lo {S : ZS} {a : Nat} (h : a < 48) : zW S a = shp a (S.1 a) (S.2.1 a) := if_pos h
theorem zW_hi {S : ZS} {j : Nat} : zW S (48 + j) = .inl ((S.2.2 j).1, (S.2.2 j).2.map Value.int) := by
  unfold zW
  rw [if_neg (by omega), Nat.add_sub_cancel_left]
theorem zW_sA {S : ZS} {a k : Nat} {x : Int32} (h : a < 48) : zup (zW S) a (shp a (zup (S.1 a) k x) (S.2.1 a)) = zW (sA S a k x) := by
  funext j
  by_cases hj : j = a
  · subst hj
    rw [zup_same, zW_lo h]
    show _ = shp j (zup S.1 j (zup (S.1 j) k x) j) (S.2.1 j)
    rw [zup_same]
  · rw [zup_ne _ _ hj]
    unfold zW sA
    show (if j < 48 then shp j (S.1 j) (S.2.1 j) else _) = if j < 48 then shp j (zup S.1 a (zup (S.1 a) k x) j) (S.2.1 j) else _
    rw [zup_ne _ _ hj]
theorem zW_sB {S : ZS} {a k : Nat} {r : Option Nat} (h : a < 48) : zup (zW S) a (shp a (S.1 a) (zup (S.2.1 a) k r)) = zW (sB S a k r) := by
  funext j
  by_cases hj : j = a
  · subst hj
    rw [zup_same, zW_lo h]
    show _ = shp j (S.1 j) (zup S.2.1 j (zup (S.2.1 j) k r) j)
    rw [zup_same]
  · rw [zup_ne _ _ hj]
    unfold zW sB
    show (if j < 48 then shp j (S.1 j) (S.2.1 j) else _) = if j < 48 then shp j (S.1 j) (zup S.2.1 a (zup (S.2.1 a) k r) j) else _
    rw [zup_ne _ _ hj]
theorem zW_sP {S : ZS} {i : Nat} {x : Nat × List Int32} : zup (zW S) (48 + i) (.inl (x.1, x.2.map Value.int)) = zW (sP S i x) := by
  funext j
  by_cases hj : j = 48 + i
  · subst hj
    rw [zup_same, zW_hi]
    show _ = Sum.inl ((zup S.2.2 i x i).1, (zup S.2.2 i x i).2.map Value.int)
    rw [zup_same]
  · rw [zup_ne _ _ hj]
    unfold zW sP
    by_cases h : j < 48
    · rw [if_pos h, if_pos h]
    · rw [if_neg h, if_neg h]
      show _ = Sum.inl ((zup S.2.2 i x (j - 48)).1, (zup S.2.2 i x (j - 48)).2.map Value.int)
      rw [zup_ne _ _ (by omega)]
/-- a field of the object at a, as the entry 'index' of 'own' names it: a whole number -/
def zGI (own : String) (index a k : Nat) : Prop := a < 48 ∧ ∃ ci T N C, (zFd own index ci k T N C ∨ zFn own index ci k T N C) ∧ ∀ f g, ∃ fs, shp a f g = .inl (ci, fs) ∧ fs[k]? = some (.int (f k))
/-- .. a reference that never changes -/
def zGR (own : String) (index a r : Nat) : Prop := a < 48 ∧ ∃ ci k T N C, (zFd own index ci k T N C ∨ zFn own index ci k T N C) ∧ ∀ f g, ∃ fs, shp a f g = .inl (ci, fs) ∧ fs[k]? = some (.ref r)
/-- .. a whole number that may be written -/
def zPI (own : String) (index a k : Nat) (ty : FieldType) : Prop := a < 48 ∧ ∃ ci T N C ty0, (zFd own index ci k T N C ∨ zFn own index ci k T N C) ∧ zFt T N ty0 ∧ (T k).2.2.2 = false ∧ ty0 k = ty ∧ ∀ f g x, ∃ fs, shp a f g = .inl (ci, fs) ∧ k < fs.length ∧ shp a (zup f k x) g = .inl (ci, fs.set k (.int x))
def zAr (a N : Nat) : Prop := a < 48 ∧ ∀ f g, shp a f g = .inr (.inl (N, f))
def zAq (a t N : Nat) (E : String) : Prop := a < 48 ∧ (∀ f g, shp a f g = .inr (.inr (t, N, g))) ∧ ∀ cA : Nat → ClassId, (vtys cA)[t]? = some (cA t, .object E)
def zOb (a : Nat) (C : String) : Prop := a < 48 ∧ ∃ ci T N, vwCl[ci]? = some (C, T, N) ∧ ∀ f g, ∃ fs, shp a f g = .inl (ci, fs)
section ZLAY
variable {d d' : ZD} {kc ks kc' ks' : Nat} {R R' : Option Value → ZW → Prop} {pc pc' : Nat} {ls ls' : List (Option Value)} {As st rest : List Value} {ω : ZW} {S : ZS} {n : Nat}
theorem zlt {a : Nat} (h : a < 48) : a < 48 + n := Nat.lt_of_lt_of_le h (Nat.le_add_right _ _)
theorem Z_gI {own : String} {index a k : Nat} (hd : decode d.2.1 pc = .ok (.getfield index, 3)) (ho : d.1.cls = own) (G : zGI own index a k) (hp : pc + 3 = pc') (kk : Z d kc ks R pc' ls (.int (S.1 a k) :: st) (zw S n)) : Z d kc ks R pc ls (.ref a :: st) (zw S n) := by
  obtain ⟨ha, ci, T, N, C, F, hs⟩ := G
  obtain ⟨fs, h1, h2⟩ := hs (S.1 a) (S.2.1 a)
  rcases F with F | F
  · exact Z_getfield hd ho F (zlt ha) ((zW_lo ha).trans h1) h2 hp kk
  · exact Z_getfieldN hd ho F (zlt ha) ((zW_lo ha).trans h1) h2 hp kk
theorem Z_gR {own : String} {index a r : Nat} (hd : decode d.2.1 pc = .ok (.getfield index, 3)) (ho : d.1.cls = own) (G : zGR own index a r) (hp : pc + 3 = pc') (kk : Z d kc ks R pc' ls (.ref r :: st) (zw S n)) : Z d kc ks R pc ls (.ref a :: st) (zw S n) := by
  obtain ⟨ha, ci, k, T, N, C, F, hs⟩ := G
  obtain ⟨fs, h1, h2⟩ := hs (S.1 a) (S.2.1 a)
  rcases F with F | F
  · exact Z_getfield hd ho F (zlt ha) ((zW_lo ha).trans h1) h2 hp kk
  · exact Z_getfieldN hd ho F (zlt ha) ((zW_lo ha).trans h1) h2 hp kk
theorem Z_pI {own : String} {index a k : Nat} {x : Int32} (hd : decode d.2.1 pc = .ok (.putfield index, 3)) (ho : d.1.cls = own) (G : zPI own index a k .int) (hp : pc + 3 = pc') (kk : Z d kc ks R pc' ls st (zw (sA S a k x) n)) : Z d kc ks R pc ls (.int x :: .ref a :: st) (zw S n) := by
  obtain ⟨ha, ci, T, N, C, ty0, F, hty, hfin, ht, hs⟩ := G
  obtain ⟨fs, h1, h2, h3⟩ := hs (S.1 a) (S.2.1 a) x
  have kk2 : Z d kc ks R pc' ls st (zup (zW S) a (.inl (ci, fs.set k (.int x))), 48 + n) := by rw [← h3, zW_sA ha]; exact kk
  rcases F with F | F
  · exact Z_putfield hd ho F hty hfin (zlt ha) ((zW_lo ha).trans h1) h2 (fun _ => by rw [ht]; rfl) (fun _ => by rw [ht]; rfl) hp kk2
  · exact Z_putfieldN hd ho F hty hfin (zlt ha) ((zW_lo ha).trans h1) h2 (fun _ => by rw [ht]; rfl) (fun _ => by rw [ht]; rfl) hp kk2
theorem Z_pZ {own : String} {index a k : Nat} {x : Int32} (hd : decode d.2.1 pc = .ok (.putfield index, 3)) (ho : d.1.cls = own) (G : zPI own index a k .boolean) (hx : x = 0 ∨ x = 1) (hp : pc + 3 = pc') (kk : Z d kc ks R pc' ls st (zw (sA S a k x) n)) : Z d kc ks R pc ls (.int x :: .ref a :: st) (zw S n) := by
  obtain ⟨ha, ci, T, N, C, ty0, F, hty, hfin, ht, hs⟩ := G
  obtain ⟨fs, h1, h2, h3⟩ := hs (S.1 a) (S.2.1 a) x
  have kk2 : Z d kc ks R pc' ls st (zup (zW S) a (.inl (ci, fs.set k (.int x))), 48 + n) := by rw [← h3, zW_sA ha]; exact kk
  have g1 : narrow .boolean (.int x) = .int x := by rcases hx with rfl | rfl <;> decide
  have g2 : fits .boolean (.int x) = true := by rcases hx with rfl | rfl <;> decide
  rcases F with F | F
  · exact Z_putfield hd ho F hty hfin (zlt ha) ((zW_lo ha).trans h1) h2 (fun _ => by rw [ht]; exact g1) (fun _ => by rw [ht]; exact g2) hp kk2
  · exact Z_putfieldN hd ho F hty hfin (zlt ha) ((zW_lo ha).trans h1) h2 (fun _ => by rw [ht]; exact g1) (fun _ => by rw [ht]; exact g2) hp kk2
theorem Z_al {a N : Nat} {v : Int32} (hd : decode d.2.1 pc = .ok (.arraylength, 1)) (G : zAr a N) (hv : Int32.ofNat N = v) (hp : pc + 1 = pc') (k : Z d kc ks R pc' ls (.int v :: st) (zw S n)) : Z d kc ks R pc ls (.ref a :: st) (zw S n) := Z_alen hd (zlt G.1) ((zW_lo G.1).trans (G.2 _ _)) hv hp k
theorem Z_alq {a t N : Nat} {E : String} {v : Int32} (hd : decode d.2.1 pc = .ok (.arraylength, 1)) (G : zAq a t N E) (hv : Int32.ofNat N = v) (hp : pc + 1 = pc') (k : Z d kc ks R pc' ls (.int v :: st) (zw S n)) : Z d kc ks R pc ls (.ref a :: st) (zw S n) := Z_alenq hd (zlt G.1) ((zW_lo G.1).trans (G.2.1 _ _)) G.2.2 hv hp k
theorem Z_il {a N : Nat} {i : Int32} (hd : decode d.2.1 pc = .ok (.iaload, 1)) (G : zAr a N) (hi : vp_in i N) (hp : pc + 1 = pc') (k : Z d kc ks R pc' ls (.int (S.1 a i.toNatClampNeg) :: st) (zw S n)) : Z d kc ks R pc ls (.int i :: .ref a :: st) (zw S n) := Z_iaload hd (zlt G.1) ((zW_lo G.1).trans (G.2 _ _)) hi hp k
theorem Z_is {a N : Nat} {i x : Int32} (hd : decode d.2.1 pc = .ok (.iastore, 1)) (G : zAr a N) (hi : vp_in i N) (hp : pc + 1 = pc') (k : Z d kc ks R pc' ls st (zw (sA S a i.toNatClampNeg x) n)) : Z d kc ks R pc ls (.int x :: .int i :: .ref a :: st) (zw S n) := by
  refine Z_iastore hd (zlt G.1) ((zW_lo G.1).trans (G.2 _ _)) hi hp ?_
  rw [← G.2 (zup (S.1 a) i.toNatClampNeg x) (S.2.1 a), zW_sA G.1]
  exact k
theorem Z_ql {a t N : Nat} {E : String} {i : Int32} (hd : decode d.2.1 pc = .ok (.aaload, 1)) (G : zAq a t N E) (hi : vp_in i N) (hp : pc + 1 = pc') (k : Z d kc ks R pc' ls (va_rf (S.2.1 a i.toNatClampNeg) :: st) (zw S n)) : Z d kc ks R pc ls (.int i :: .ref a :: st) (zw S n) := Z_aaload hd (zlt G.1) ((zW_lo G.1).trans (G.2.1 _ _)) G.2.2 hi hp k
theorem Z_qsN {a t N : Nat} {E : String} {i : Int32} (hd : decode d.2.1 pc = .ok (.aastore, 1)) (G : zAq a t N E) (hi : vp_in i N) (hp : pc + 1 = pc') (k : Z d kc ks R pc' ls st (zw (sB S a i.toNatClampNeg none) n)) : Z d kc ks R pc ls (.null :: .int i :: .ref a :: st) (zw S n) := by
  refine Z_aastoreN hd (zlt G.1) ((zW_lo G.1).trans (G.2.1 _ _)) G.2.2 hi hp ?_
  rw [← G.2.1 (S.1 a) (zup (S.2.1 a) i.toNatClampNeg none), zW_sB G.1]
  exact k
theorem Z_qs {a t N j : Nat} {E : String} {i : Int32} {r : vw_C} (hd : decode d.2.1 pc = .ok (.aastore, 1)) (G : zAq a t N E) (hj : j < n) (hc : vwCl[(S.2.2 j).1]? = some r) (hca : r.1 = E ∨ Cond.castable r.1 E ∈ ztbN) (hi : vp_in i N) (hp : pc + 1 = pc') (k : Z d kc ks R pc' ls st (zw (sB S a i.toNatClampNeg (some (48 + j))) n)) : Z d kc ks R pc ls (.ref (48 + j) :: .int i :: .ref a :: st) (zw S n) := by
  refine Z_aastore hd (zlt G.1) ((zW_lo G.1).trans (G.2.1 _ _)) G.2.2 (a := 48 + j) (by omega) zW_hi hc hca hi hp ?_
  rw [← G.2.1 (S.1 a) (zup (S.2.1 a) i.toNatClampNeg (some (48 + j))), zW_sB G.1]
  exact k
/-- a field of a made object -/
theorem Z_gP {own C0 : String} {T : u_T} {N ci k index j : Nat} {x : Int32} {fs : List Int32} (hd : decode d.2.1 pc = .ok (.getfield index, 3)) (ho : d.1.cls = own) (F : zFd own index ci k T N C0) (hj : j < n) (hP : S.2.2 j = (ci, fs)) (hv : fs[k]? = some x) (hp : pc + 3 = pc') (kk : Z d kc ks R pc' ls (.int x :: st) (zw S n)) : Z d kc ks R pc ls (.ref (48 + j) :: st) (zw S n) :=
  Z_getfield hd ho F (by omega) (zW_hi.trans (by rw [hP])) (by rw [List.getElem?_map, hv]; rfl) hp kk
theorem Z_pP {own C0 : String} {T : u_T} {N ci k index j : Nat} {x : Int32} {fs : List Int32} {ty0 : Nat → FieldType} (hd : decode d.2.1 pc = .ok (.putfield index, 3)) (ho : d.1.cls = own) (F : zFd own index ci k T N C0) (hty : zFt T N ty0) (hfin : (T k).2.2.2 = true) (hini : d.1.name = "<init>") (hdecl : (T k).1 = own) (ht : ty0 k = .int) (hj : j < n) (hP : S.2.2 j = (ci, fs)) (hl : k < fs.length) (hp : pc + 3 = pc') (kk : Z d kc ks R pc' ls st (zw (sP S j (ci, fs.set k x)) n)) : Z d kc ks R pc ls (.int x :: .ref (48 + j) :: st) (zw S n) := by
  refine Z_putfieldF hd ho F hty hfin hini hdecl (by omega) (zW_hi.trans (by rw [hP])) (by simpa using hl) (fun _ => by rw [ht]; rfl) (fun _ => by rw [ht]; rfl) hp ?_
  have e9 : (fs.map Value.int).set k (.int x) = (fs.set k x).map Value.int := by rw [List.map_set]
  rw [e9, zW_sP (x := (ci, fs.set k x))]
  exact kk
/-- a new object behind the constructors -/
theorem Z_nP {own C0 : String} {T : u_T} {N ci index : Nat} {fs : List Int32} {ty : Nat → FieldType} (hd : decode d.2.1 pc = .ok (.new index, 3)) (ho : d.1.cls = own) (hc : vwCl[ci]? = some (C0, T, N)) (hin : ∀ w ∈ u_ws C0 T N, w ∈ ztb) (hty : zFt T N ty) (hcl : Cond.classLink own index C0 ∈ ztb) (hinst : Cond.instantiable C0 N ∈ ztb) (hini : Cond.initialized C0 ∈ ztb) (hfs : ∀ j, j < N → defaultValue (ty j) = vp_V (fs.map Value.int) j) (hp : pc + 3 = pc') (k : Z d kc ks R pc' ls (.ref (48 + n) :: st) (zw (sP S n (ci, fs)) (n + 1))) : Z d (kc + 1) (ks + N) R pc ls st (zw S n) := by
  refine Z_new hd ho hc hin hty hcl hinst hini (fs := fs.map Value.int) (fun lo j hj => ?_) hp ?_
  · rw [hfs j hj, List.map_map]; rfl
  · rw [zW_sP (x := (ci, fs))]; exact k
/-- the receiver: an object of the layout, or a made one -/
abbrev zRcv (ω : ZW) (o : Nat) (C : String) : Prop := ∃ ci fs r, o < ω.2 ∧ ω.1 o = .inl (ci, fs) ∧ vwCl[ci]? = some r ∧ r.1 = C
theorem zRcv.lay {a : Nat} {C : String} (G : zOb a C) : zRcv (zw S n) a C := by
  obtain ⟨ha, ci, T, N, hc, hs⟩ := G
  obtain ⟨fs, h⟩ := hs (S.1 a) (S.2.1 a)
  exact ⟨ci, fs, _, zlt ha, (zW_lo ha).trans h, hc, rfl⟩
theorem zRcv.made {j ci : Nat} {fs : List Int32} {r : vw_C} (hj : j < n) (hP : S.2.2 j = (ci, fs)) (hc : vwCl[ci]? = some r) : zRcv (zw S n) (48 + j) r.1 := ⟨ci, _, r, by show 48 + j < 48 + n; omega, zW_hi.trans (by rw [hP]), hc, rfl⟩
/-- what a method that answers v and leaves the world ω1 says -/
def zE (v : Option Value) (ω1 : ZW) : Option Value → ZW → Prop := fun q ω2 => q = v ∧ ω2 = ω1
theorem Z_cVa {own : String} {index nn : Nat} {o : Nat} (hd : decode d.2.1 pc = .ok (.invokevirtual index, 3)) (ho : d.1.cls = own) (cw : zCw d' nn) (hn : As.length = nn) (hfit : zFit d d') (hrest : zrest rest ≤ 8) (hr : zRcv ω o d'.1.cls) (ok : zOK d' (.ref o :: As)) (kb : zKV own index d') (hm : zM d' kc' ks' (.ref o :: As) ω R') (hp : pc + 3 = pc') (kk : ∀ (r : Option Value) (ω' : ZW), R' r ω' → Z d kc ks R pc' ls (r.toList ++ rest) ω') : Z d (kc' + kc) (ks' + ks) R pc ls (As.reverse ++ .ref o :: rest) ω := by
  obtain ⟨ci, fs, r, g1, g2, g3, g4⟩ := hr
  exact Z_virtual hd ho cw hn hfit hrest ⟨g1, g2, g3⟩ g4 ok kb.1 kb.2.1 kb.2.2 hm hp kk
theorem Z_cV {own : String} {index nn : Nat} {o : Nat} (hd : decode d.2.1 pc = .ok (.invokevirtual index, 3)) (ho : d.1.cls = own) (cw : zCw d' nn) (hn : As.length = nn) (hfit : zFit d d') (hrest : zrest rest ≤ 8) (hr : zRcv ω o d'.1.cls) (ok : zOK d' (.ref o :: As)) (kb : zKV own index d') (hm : zM d' 0 0 (.ref o :: As) ω R') (hp : pc + 3 = pc') (kk : ∀ (r : Option Value) (ω' : ZW), R' r ω' → Z d kc ks R pc' ls (r.toList ++ rest) ω') : Z d kc ks R pc ls (As.reverse ++ .ref o :: rest) ω := by
  have h := Z_cVa (kc := kc) (ks := ks) hd ho cw hn hfit hrest hr ok kb hm hp kk
  rw [Nat.zero_add, Nat.zero_add] at h
  exact h
theorem Z_cVe {v : Value} {ω1 : ZW} {own : String} {index nn : Nat} {o : Nat} (hd : decode d.2.1 pc = .ok (.invokevirtual index, 3)) (ho : d.1.cls = own) (cw : zCw d' nn) (hn : As.length = nn) (hfit : zFit d d') (hrest : zrest rest ≤ 8) (hr : zRcv ω o d'.1.cls) (ok : zOK d' (.ref o :: As)) (kb : zKV own index d') (hm : zM d' 0 0 (.ref o :: As) ω (zE (some v) ω1)) (hp : pc + 3 = pc') (kk : Z d kc ks R pc' ls (v :: rest) ω1) : Z d kc ks R pc ls (As.reverse ++ .ref o :: rest) ω :=
  Z_cV hd ho cw hn hfit hrest hr ok kb hm hp (fun r ω' h => by obtain ⟨rfl, rfl⟩ := h; exact kk)
theorem Z_cVv {ω1 : ZW} {own : String} {index nn : Nat} {o : Nat} (hd : decode d.2.1 pc = .ok (.invokevirtual index, 3)) (ho : d.1.cls = own) (cw : zCw d' nn) (hn : As.length = nn) (hfit : zFit d d') (hrest : zrest rest ≤ 8) (hr : zRcv ω o d'.1.cls) (ok : zOK d' (.ref o :: As)) (kb : zKV own index d') (hm : zM d' 0 0 (.ref o :: As) ω (zE none ω1)) (hp : pc + 3 = pc') (kk : Z d kc ks R pc' ls rest ω1) : Z d kc ks R pc ls (As.reverse ++ .ref o :: rest) ω :=
  Z_cV hd ho cw hn hfit hrest hr ok kb hm hp (fun r ω' h => by obtain ⟨rfl, rfl⟩ := h; exact kk)
theorem Z_cSa {own : String} {index nn : Nat} (hd : decode d.2.1 pc = .ok (.invokestatic index, 3)) (ho : d.1.cls = own) (cw : zCw d' nn) (hn : As.length = nn) (hfit : zFit d d') (hrest : zrest rest ≤ 8) (ok : zOK d' (As)) (kb : zKS own index d') (hm : zM d' kc' ks' (As) ω R') (hp : pc + 3 = pc') (kk : ∀ (r : Option Value) (ω' : ZW), R' r ω' → Z d kc ks R pc' ls (r.toList ++ rest) ω') : Z d (kc' + kc) (ks' + ks) R pc ls (As.reverse ++ rest) ω := Z_static hd ho cw hn hfit hrest ok kb.1 kb.2 hm hp kk
theorem Z_cS {own : String} {index nn : Nat} (hd : decode d.2.1 pc = .ok (.invokestatic index, 3)) (ho : d.1.cls = own) (cw : zCw d' nn) (hn : As.length = nn) (hfit : zFit d d') (hrest : zrest rest ≤ 8) (ok : zOK d' (As)) (kb : zKS own index d') (hm : zM d' 0 0 (As) ω R') (hp : pc + 3 = pc') (kk : ∀ (r : Option Value) (ω' : ZW), R' r ω' → Z d kc ks R pc' ls (r.toList ++ rest) ω') : Z d kc ks R pc ls (As.reverse ++ rest) ω := by
  have h := Z_cSa (kc := kc) (ks := ks) hd ho cw hn hfit hrest ok kb hm hp kk
  rw [Nat.zero_add, Nat.zero_add] at h
  exact h
theorem Z_cSe {v : Value} {ω1 : ZW} {own : String} {index nn : Nat} (hd : decode d.2.1 pc = .ok (.invokestatic index, 3)) (ho : d.1.cls = own) (cw : zCw d' nn) (hn : As.length = nn) (hfit : zFit d d') (hrest : zrest rest ≤ 8) (ok : zOK d' (As)) (kb : zKS own index d') (hm : zM d' 0 0 (As) ω (zE (some v) ω1)) (hp : pc + 3 = pc') (kk : Z d kc ks R pc' ls (v :: rest) ω1) : Z d kc ks R pc ls (As.reverse ++ rest) ω :=
  Z_cS hd ho cw hn hfit hrest ok kb hm hp (fun r ω' h => by obtain ⟨rfl, rfl⟩ := h; exact kk)
theorem Z_cSv {ω1 : ZW} {own : String} {index nn : Nat} (hd : decode d.2.1 pc = .ok (.invokestatic index, 3)) (ho : d.1.cls = own) (cw : zCw d' nn) (hn : As.length = nn) (hfit : zFit d d') (hrest : zrest rest ≤ 8) (ok : zOK d' (As)) (kb : zKS own index d') (hm : zM d' 0 0 (As) ω (zE none ω1)) (hp : pc + 3 = pc') (kk : Z d kc ks R pc' ls rest ω1) : Z d kc ks R pc ls (As.reverse ++ rest) ω :=
  Z_cS hd ho cw hn hfit hrest ok kb hm hp (fun r ω' h => by obtain ⟨rfl, rfl⟩ := h; exact kk)
theorem Z_cSNa {own : String} {index nn : Nat} (hd : decode d.2.1 pc = .ok (.invokestatic index, 3)) (ho : d.1.cls = own) (cw : zCw d' nn) (hn : As.length = nn) (hfit : zFit d d') (hrest : zrest rest ≤ 8) (ok : zOK d' (As)) (kb : zKSN own index d') (hm : zM d' kc' ks' (As) ω R') (hp : pc + 3 = pc') (kk : ∀ (r : Option Value) (ω' : ZW), R' r ω' → Z d kc ks R pc' ls (r.toList ++ rest) ω') : Z d (kc' + kc) (ks' + ks) R pc ls (As.reverse ++ rest) ω := by
  obtain ⟨⟨host, kb1⟩, kb2⟩ := kb
  exact Z_staticN hd ho cw hn hfit hrest ok kb1 kb2 hm hp kk
theorem Z_cSN {own : String} {index nn : Nat} (hd : decode d.2.1 pc = .ok (.invokestatic index, 3)) (ho : d.1.cls = own) (cw : zCw d' nn) (hn : As.length = nn) (hfit : zFit d d') (hrest : zrest rest ≤ 8) (ok : zOK d' (As)) (kb : zKSN own index d') (hm : zM d' 0 0 (As) ω R') (hp : pc + 3 = pc') (kk : ∀ (r : Option Value) (ω' : ZW), R' r ω' → Z d kc ks R pc' ls (r.toList ++ rest) ω') : Z d kc ks R pc ls (As.reverse ++ rest) ω := by
  have h := Z_cSNa (kc := kc) (ks := ks) hd ho cw hn hfit hrest ok kb hm hp kk
  rw [Nat.zero_add, Nat.zero_add] at h
  exact h
theorem Z_cSNe {v : Value} {ω1 : ZW} {own : String} {index nn : Nat} (hd : decode d.2.1 pc = .ok (.invokestatic index, 3)) (ho : d.1.cls = own) (cw : zCw d' nn) (hn : As.length = nn) (hfit : zFit d d') (hrest : zrest rest ≤ 8) (ok : zOK d' (As)) (kb : zKSN own index d') (hm : zM d' 0 0 (As) ω (zE (some v) ω1)) (hp : pc + 3 = pc') (kk : Z d kc ks R pc' ls (v :: rest) ω1) : Z d kc ks R pc ls (As.reverse ++ rest) ω :=
  Z_cSN hd ho cw hn hfit hrest ok kb hm hp (fun r ω' h => by obtain ⟨rfl, rfl⟩ := h; exact kk)
theorem Z_cSNv {ω1 : ZW} {own : String} {index nn : Nat} (hd : decode d.2.1 pc = .ok (.invokestatic index, 3)) (ho : d.1.cls = own) (cw : zCw d' nn) (hn : As.length = nn) (hfit : zFit d d') (hrest : zrest rest ≤ 8) (ok : zOK d' (As)) (kb : zKSN own index d') (hm : zM d' 0 0 (As) ω (zE none ω1)) (hp : pc + 3 = pc') (kk : Z d kc ks R pc' ls rest ω1) : Z d kc ks R pc ls (As.reverse ++ rest) ω :=
  Z_cSN hd ho cw hn hfit hrest ok kb hm hp (fun r ω' h => by obtain ⟨rfl, rfl⟩ := h; exact kk)
theorem Z_cIa {own : String} {index nn : Nat} {o : Nat} (hd : decode d.2.1 pc = .ok (.invokespecial index, 3)) (ho : d.1.cls = own) (cw : zCw d' nn) (hn : As.length = nn) (hfit : zFit d d') (hrest : zrest rest ≤ 8) (hret : d'.2.2.2.1 = none) (hy1 : d'.1.name = "<init>") (ok : zOK d' (.ref o :: As)) (kb : zKI own index d') (hm : zM d' kc' ks' (.ref o :: As) ω R') (hp : pc + 3 = pc') (kk : ∀ (r : Option Value) (ω' : ZW), R' r ω' → Z d kc ks R pc' ls (r.toList ++ rest) ω') : Z d (kc' + kc) (ks' + ks) R pc ls (As.reverse ++ .ref o :: rest) ω := Z_init hd ho cw hn hfit hrest ok hret kb.1 kb.2 hy1 hm hp kk
theorem Z_cI {own : String} {index nn : Nat} {o : Nat} (hd : decode d.2.1 pc = .ok (.invokespecial index, 3)) (ho : d.1.cls = own) (cw : zCw d' nn) (hn : As.length = nn) (hfit : zFit d d') (hrest : zrest rest ≤ 8) (hret : d'.2.2.2.1 = none) (hy1 : d'.1.name = "<init>") (ok : zOK d' (.ref o :: As)) (kb : zKI own index d') (hm : zM d' 0 0 (.ref o :: As) ω R') (hp : pc + 3 = pc') (kk : ∀ (r : Option Value) (ω' : ZW), R' r ω' → Z d kc ks R pc' ls (r.toList ++ rest) ω') : Z d kc ks R pc ls (As.reverse ++ .ref o :: rest) ω := by
  have h := Z_cIa (kc := kc) (ks := ks) hd ho cw hn hfit hrest hret hy1 ok kb hm hp kk
  rw [Nat.zero_add, Nat.zero_add] at h
  exact h
theorem Z_cIe {v : Value} {ω1 : ZW} {own : String} {index nn : Nat} {o : Nat} (hd : decode d.2.1 pc = .ok (.invokespecial index, 3)) (ho : d.1.cls = own) (cw : zCw d' nn) (hn : As.length = nn) (hfit : zFit d d') (hrest : zrest rest ≤ 8) (hret : d'.2.2.2.1 = none) (hy1 : d'.1.name = "<init>") (ok : zOK d' (.ref o :: As)) (kb : zKI own index d') (hm : zM d' 0 0 (.ref o :: As) ω (zE (some v) ω1)) (hp : pc + 3 = pc') (kk : Z d kc ks R pc' ls (v :: rest) ω1) : Z d kc ks R pc ls (As.reverse ++ .ref o :: rest) ω :=
  Z_cI hd ho cw hn hfit hrest hret hy1 ok kb hm hp (fun r ω' h => by obtain ⟨rfl, rfl⟩ := h; exact kk)
theorem Z_cIv {ω1 : ZW} {own : String} {index nn : Nat} {o : Nat} (hd : decode d.2.1 pc = .ok (.invokespecial index, 3)) (ho : d.1.cls = own) (cw : zCw d' nn) (hn : As.length = nn) (hfit : zFit d d') (hrest : zrest rest ≤ 8) (hret : d'.2.2.2.1 = none) (hy1 : d'.1.name = "<init>") (ok : zOK d' (.ref o :: As)) (kb : zKI own index d') (hm : zM d' 0 0 (.ref o :: As) ω (zE none ω1)) (hp : pc + 3 = pc') (kk : Z d kc ks R pc' ls rest ω1) : Z d kc ks R pc ls (As.reverse ++ .ref o :: rest) ω :=
  Z_cI hd ho cw hn hfit hrest hret hy1 ok kb hm hp (fun r ω' h => by obtain ⟨rfl, rfl⟩ := h; exact kk)
theorem Z_cINa {own : String} {index nn : Nat} {o : Nat} (hd : decode d.2.1 pc = .ok (.invokespecial index, 3)) (ho : d.1.cls = own) (cw : zCw d' nn) (hn : As.length = nn) (hfit : zFit d d') (hrest : zrest rest ≤ 8) (hret : d'.2.2.2.1 = none) (hy1 : d'.1.name = "<init>") (ok : zOK d' (.ref o :: As)) (kb : zKIN own index d') (hm : zM d' kc' ks' (.ref o :: As) ω R') (hp : pc + 3 = pc') (kk : ∀ (r : Option Value) (ω' : ZW), R' r ω' → Z d kc ks R pc' ls (r.toList ++ rest) ω') : Z d (kc' + kc) (ks' + ks) R pc ls (As.reverse ++ .ref o :: rest) ω := by
  obtain ⟨⟨host, kb1⟩, kb2⟩ := kb
  exact Z_initN hd ho cw hn hfit hrest ok hret kb1 kb2 hy1 hm hp kk
theorem Z_cIN {own : String} {index nn : Nat} {o : Nat} (hd : decode d.2.1 pc = .ok (.invokespecial index, 3)) (ho : d.1.cls = own) (cw : zCw d' nn) (hn : As.length = nn) (hfit : zFit d d') (hrest : zrest rest ≤ 8) (hret : d'.2.2.2.1 = none) (hy1 : d'.1.name = "<init>") (ok : zOK d' (.ref o :: As)) (kb : zKIN own index d') (hm : zM d' 0 0 (.ref o :: As) ω R') (hp : pc + 3 = pc') (kk : ∀ (r : Option Value) (ω' : ZW), R' r ω' → Z d kc ks R pc' ls (r.toList ++ rest) ω') : Z d kc ks R pc ls (As.reverse ++ .ref o :: rest) ω := by
  have h := Z_cINa (kc := kc) (ks := ks) hd ho cw hn hfit hrest hret hy1 ok kb hm hp kk
  rw [Nat.zero_add, Nat.zero_add] at h
  exact h
theorem Z_cINe {v : Value} {ω1 : ZW} {own : String} {index nn : Nat} {o : Nat} (hd : decode d.2.1 pc = .ok (.invokespecial index, 3)) (ho : d.1.cls = own) (cw : zCw d' nn) (hn : As.length = nn) (hfit : zFit d d') (hrest : zrest rest ≤ 8) (hret : d'.2.2.2.1 = none) (hy1 : d'.1.name = "<init>") (ok : zOK d' (.ref o :: As)) (kb : zKIN own index d') (hm : zM d' 0 0 (.ref o :: As) ω (zE (some v) ω1)) (hp : pc + 3 = pc') (kk : Z d kc ks R pc' ls (v :: rest) ω1) : Z d kc ks R pc ls (As.reverse ++ .ref o :: rest) ω :=
  Z_cIN hd ho cw hn hfit hrest hret hy1 ok kb hm hp (fun r ω' h => by obtain ⟨rfl, rfl⟩ := h; exact kk)
theorem Z_cINv {ω1 : ZW} {own : String} {index nn : Nat} {o : Nat} (hd : decode d.2.1 pc = .ok (.invokespecial index, 3)) (ho : d.1.cls = own) (cw : zCw d' nn) (hn : As.length = nn) (hfit : zFit d d') (hrest : zrest rest ≤ 8) (hret : d'.2.2.2.1 = none) (hy1 : d'.1.name = "<init>") (ok : zOK d' (.ref o :: As)) (kb : zKIN own index d') (hm : zM d' 0 0 (.ref o :: As) ω (zE none ω1)) (hp : pc + 3 = pc') (kk : Z d kc ks R pc' ls rest ω1) : Z d kc ks R pc ls (As.reverse ++ .ref o :: rest) ω :=
  Z_cIN hd ho cw hn hfit hrest hret hy1 ok kb hm hp (fun r ω' h => by obtain ⟨rfl, rfl⟩ := h; exact kk)
theorem Z_cUa {own : String} {index nn : Nat} {o : Nat} {C : String} (hd : decode d.2.1 pc = .ok (.invokespecial index, 3)) (ho : d.1.cls = own) (cw : zCw d' nn) (hn : As.length = nn) (hfit : zFit d d') (hrest : zrest rest ≤ 8) (hr : zRcv ω o C) (hy1 : d'.1.name ≠ "<init>") (ok : zOK d' (.ref o :: As)) (kb : zKsuper own index d') (hm : zM d' kc' ks' (.ref o :: As) ω R') (hp : pc + 3 = pc') (kk : ∀ (r : Option Value) (ω' : ZW), R' r ω' → Z d kc ks R pc' ls (r.toList ++ rest) ω') : Z d (kc' + kc) (ks' + ks) R pc ls (As.reverse ++ .ref o :: rest) ω := by
  obtain ⟨ci, fs, r, g1, g2, g3, g4⟩ := hr
  exact Z_super hd ho cw hn hfit hrest ⟨g1, g2, g3⟩ ok kb.1 kb.2.1 kb.2.2.1 kb.2.2.2 hy1 hm hp kk
theorem Z_cU {own : String} {index nn : Nat} {o : Nat} {C : String} (hd : decode d.2.1 pc = .ok (.invokespecial index, 3)) (ho : d.1.cls = own) (cw : zCw d' nn) (hn : As.length = nn) (hfit : zFit d d') (hrest : zrest rest ≤ 8) (hr : zRcv ω o C) (hy1 : d'.1.name ≠ "<init>") (ok : zOK d' (.ref o :: As)) (kb : zKsuper own index d') (hm : zM d' 0 0 (.ref o :: As) ω R') (hp : pc + 3 = pc') (kk : ∀ (r : Option Value) (ω' : ZW), R' r ω' → Z d kc ks R pc' ls (r.toList ++ rest) ω') : Z d kc ks R pc ls (As.reverse ++ .ref o :: rest) ω := by
  have h := Z_cUa (kc := kc) (ks := ks) hd ho cw hn hfit hrest hr hy1 ok kb hm hp kk
  rw [Nat.zero_add, Nat.zero_add] at h
  exact h
theorem Z_cUe {v : Value} {ω1 : ZW} {own : String} {index nn : Nat} {o : Nat} {C : String} (hd : decode d.2.1 pc = .ok (.invokespecial index, 3)) (ho : d.1.cls = own) (cw : zCw d' nn) (hn : As.length = nn) (hfit : zFit d d') (hrest : zrest rest ≤ 8) (hr : zRcv ω o C) (hy1 : d'.1.name ≠ "<init>") (ok : zOK d' (.ref o :: As)) (kb : zKsuper own index d') (hm : zM d' 0 0 (.ref o :: As) ω (zE (some v) ω1)) (hp : pc + 3 = pc') (kk : Z d kc ks R pc' ls (v :: rest) ω1) : Z d kc ks R pc ls (As.reverse ++ .ref o :: rest) ω :=
  Z_cU hd ho cw hn hfit hrest hr hy1 ok kb hm hp (fun r ω' h => by obtain ⟨rfl, rfl⟩ := h; exact kk)
theorem Z_cUv {ω1 : ZW} {own : String} {index nn : Nat} {o : Nat} {C : String} (hd : decode d.2.1 pc = .ok (.invokespecial index, 3)) (ho : d.1.cls = own) (cw : zCw d' nn) (hn : As.length = nn) (hfit : zFit d d') (hrest : zrest rest ≤ 8) (hr : zRcv ω o C) (hy1 : d'.1.name ≠ "<init>") (ok : zOK d' (.ref o :: As)) (kb : zKsuper own index d') (hm : zM d' 0 0 (.ref o :: As) ω (zE none ω1)) (hp : pc + 3 = pc') (kk : Z d kc ks R pc' ls rest ω1) : Z d kc ks R pc ls (As.reverse ++ .ref o :: rest) ω :=
  Z_cU hd ho cw hn hfit hrest hr hy1 ok kb hm hp (fun r ω' h => by obtain ⟨rfl, rfl⟩ := h; exact kk)
theorem Z_cOa {own : String} {index nn : Nat} {o : Nat} {C : String} {x : MethodName} (hd : decode d.2.1 pc = .ok (.invokevirtual index, 3)) (ho : d.1.cls = own) (cw : zCw d' nn) (hn : As.length = nn) (hfit : zFit d d') (hrest : zrest rest ≤ 8) (hr : zRcv ω o C) (ok : zOK d' (.ref o :: As)) (kb : zKO own index C x d' nn) (hm : zM d' kc' ks' (.ref o :: As) ω R') (hp : pc + 3 = pc') (kk : ∀ (r : Option Value) (ω' : ZW), R' r ω' → Z d kc ks R pc' ls (r.toList ++ rest) ω') : Z d (kc' + kc) (ks' + ks) R pc ls (As.reverse ++ .ref o :: rest) ω := by
  obtain ⟨ci, fs, r, g1, g2, g3, rfl⟩ := hr
  obtain ⟨owner, k1, k2, k3, k4, k5, k6, k7⟩ := kb
  exact Z_over hd ho cw hn hfit hrest ⟨g1, g2, g3⟩ ok k1 k2 k3 k4 k5 k6 k7 hm hp kk
theorem Z_cO {own : String} {index nn : Nat} {o : Nat} {C : String} {x : MethodName} (hd : decode d.2.1 pc = .ok (.invokevirtual index, 3)) (ho : d.1.cls = own) (cw : zCw d' nn) (hn : As.length = nn) (hfit : zFit d d') (hrest : zrest rest ≤ 8) (hr : zRcv ω o C) (ok : zOK d' (.ref o :: As)) (kb : zKO own index C x d' nn) (hm : zM d' 0 0 (.ref o :: As) ω R') (hp : pc + 3 = pc') (kk : ∀ (r : Option Value) (ω' : ZW), R' r ω' → Z d kc ks R pc' ls (r.toList ++ rest) ω') : Z d kc ks R pc ls (As.reverse ++ .ref o :: rest) ω := by
  have h := Z_cOa (kc := kc) (ks := ks) hd ho cw hn hfit hrest hr ok kb hm hp kk
  rw [Nat.zero_add, Nat.zero_add] at h
  exact h
theorem Z_cOe {v : Value} {ω1 : ZW} {own : String} {index nn : Nat} {o : Nat} {C : String} {x : MethodName} (hd : decode d.2.1 pc = .ok (.invokevirtual index, 3)) (ho : d.1.cls = own) (cw : zCw d' nn) (hn : As.length = nn) (hfit : zFit d d') (hrest : zrest rest ≤ 8) (hr : zRcv ω o C) (ok : zOK d' (.ref o :: As)) (kb : zKO own index C x d' nn) (hm : zM d' 0 0 (.ref o :: As) ω (zE (some v) ω1)) (hp : pc + 3 = pc') (kk : Z d kc ks R pc' ls (v :: rest) ω1) : Z d kc ks R pc ls (As.reverse ++ .ref o :: rest) ω :=
  Z_cO hd ho cw hn hfit hrest hr ok kb hm hp (fun r ω' h => by obtain ⟨rfl, rfl⟩ := h; exact kk)
theorem Z_cOv {ω1 : ZW} {own : String} {index nn : Nat} {o : Nat} {C : String} {x : MethodName} (hd : decode d.2.1 pc = .ok (.invokevirtual index, 3)) (ho : d.1.cls = own) (cw : zCw d' nn) (hn : As.length = nn) (hfit : zFit d d') (hrest : zrest rest ≤ 8) (hr : zRcv ω o C) (ok : zOK d' (.ref o :: As)) (kb : zKO own index C x d' nn) (hm : zM d' 0 0 (.ref o :: As) ω (zE none ω1)) (hp : pc + 3 = pc') (kk : Z d kc ks R pc' ls rest ω1) : Z d kc ks R pc ls (As.reverse ++ .ref o :: rest) ω :=
  Z_cO hd ho cw hn hfit hrest hr ok kb hm hp (fun r ω' h => by obtain ⟨rfl, rfl⟩ := h; exact kk)
theorem Z_mmax {own : String} {index : Nat} {x y : Int32} (hd : decode d.2.1 pc = .ok (.invokestatic index, 3)) (ho : d.1.cls = own) (kb : zKS own index m_J9_max_7cf53) (hf : 1 ≤ d.2.2.2.2.1) (hc : zrest st + 13 ≤ d.2.2.2.2.2) (hp : pc + 3 = pc') (k : Z d kc ks R pc' ls (.int (if x < y then y else x) :: st) ω) : Z d kc ks R pc ls (.int y :: .int x :: st) ω := by
  subst hp; subst ho
  intro p l e s m args below meth c H locs cells slots RC RS lo cA D lsA C h1 h2 h3 h4 h5 h6
  have hts := C.2.2.2.2.2.2.2.1
  exact va_mmax C.1 C.2.1 (C.2.2.2.1.trans h6.1.symm) C.2.2.2.2.1 (hts _ kb.1) (hts _ kb.2) (hts _ zw_62) (hts _ zwc_J9_max_7cf53) hf (by show (List.map _ (List.map _ st)).sum + 13 ≤ _; rw [zrest_map]; exact hc) (Nat.le_trans (Nat.le_add_right _ _) h1) (Nat.le_trans (Nat.le_add_right _ _) h2) hd (k p l e s m args below meth c H locs cells slots RC RS lo cA D lsA C h1 h2 h3 h4 h5 h6)
theorem Z_mmin {own : String} {index : Nat} {x y : Int32} (hd : decode d.2.1 pc = .ok (.invokestatic index, 3)) (ho : d.1.cls = own) (kb : zKS own index m_J9_min_7cf53) (hf : 1 ≤ d.2.2.2.2.1) (hc : zrest st + 13 ≤ d.2.2.2.2.2) (hp : pc + 3 = pc') (k : Z d kc ks R pc' ls (.int (if y < x then y else x) :: st) ω) : Z d kc ks R pc ls (.int y :: .int x :: st) ω := by
  subst hp; subst ho
  intro p l e s m args below meth c H locs cells slots RC RS lo cA D lsA C h1 h2 h3 h4 h5 h6
  have hts := C.2.2.2.2.2.2.2.1
  exact va_mmin C.1 C.2.1 (C.2.2.2.1.trans h6.1.symm) C.2.2.2.2.1 (hts _ kb.1) (hts _ kb.2) (hts _ zw_62) (hts _ zwc_J9_min_7cf53) hf (by show (List.map _ (List.map _ st)).sum + 13 ≤ _; rw [zrest_map]; exact hc) (Nat.le_trans (Nat.le_add_right _ _) h1) (Nat.le_trans (Nat.le_add_right _ _) h2) hd (k p l e s m args below meth c H locs cells slots RC RS lo cA D lsA C h1 h2 h3 h4 h5 h6)
theorem Z_mabs {own : String} {index : Nat} {x : Int32} (hd : decode d.2.1 pc = .ok (.invokestatic index, 3)) (ho : d.1.cls = own) (kb : zKS own index m_J9_abs_0f7a4) (hf : 1 ≤ d.2.2.2.2.1) (hc : zrest st + 13 ≤ d.2.2.2.2.2) (hp : pc + 3 = pc') (k : Z d kc ks R pc' ls (.int (if 0 ≤ x then x else 0 - x) :: st) ω) : Z d kc ks R pc ls (.int x :: st) ω := by
  subst hp; subst ho
  intro p l e s m args below meth c H locs cells slots RC RS lo cA D lsA C h1 h2 h3 h4 h5 h6
  have hts := C.2.2.2.2.2.2.2.1
  exact va_mabs C.1 C.2.1 (C.2.2.2.1.trans h6.1.symm) C.2.2.2.2.1 (hts _ kb.1) (hts _ kb.2) (hts _ zw_62) (hts _ zwc_J9_abs_0f7a4) hf (by show (List.map _ (List.map _ st)).sum + 13 ≤ _; rw [zrest_map]; exact hc) (Nat.le_trans (Nat.le_add_right _ _) h1) (Nat.le_trans (Nat.le_add_right _ _) h2) hd (k p l e s m args below meth c H locs cells slots RC RS lo cA D lsA C h1 h2 h3 h4 h5 h6)
end ZLAY
theorem zob_0 : zOb 0 RX11 := ⟨by decide, 11, TX11, 9, rfl, fun _ _ => ⟨_, rfl⟩⟩
theorem zob_1 : zOb 1 RX2 := ⟨by decide, 2, TX2, 7, rfl, fun _ _ => ⟨_, rfl⟩⟩
theorem zaq_2 : zAq 2 1 8 RX9 := ⟨by decide, fun _ _ => rfl, fun _ => rfl⟩
theorem zar_3 : zAr 3 49 := ⟨by decide, fun _ _ => rfl⟩
theorem zar_4 : zAr 4 49 := ⟨by decide, fun _ _ => rfl⟩
theorem zob_5 : zOb 5 RX7 := ⟨by decide, 7, TX7, 2, rfl, fun _ _ => ⟨_, rfl⟩⟩
theorem zaq_6 : zAq 6 2 6 RX6 := ⟨by decide, fun _ _ => rfl, fun _ => rfl⟩
theorem zob_7 : zOb 7 RX2 := ⟨by decide, 2, TX2, 7, rfl, fun _ _ => ⟨_, rfl⟩⟩
theorem zaq_8 : zAq 8 1 8 RX9 := ⟨by decide, fun _ _ => rfl, fun _ => rfl⟩
theorem zar_9 : zAr 9 49 := ⟨by decide, fun _ _ => rfl⟩
theorem zar_10 : zAr 10 49 := ⟨by decide, fun _ _ => rfl⟩
theorem zob_11 : zOb 11 RX7 := ⟨by decide, 7, TX7, 2, rfl, fun _ _ => ⟨_, rfl⟩⟩
theorem zaq_12 : zAq 12 2 6 RX6 := ⟨by decide, fun _ _ => rfl, fun _ => rfl⟩
theorem zob_13 : zOb 13 RX2 := ⟨by decide, 2, TX2, 7, rfl, fun _ _ => ⟨_, rfl⟩⟩
theorem zaq_14 : zAq 14 1 8 RX9 := ⟨by decide, fun _ _ => rfl, fun _ => rfl⟩
theorem zar_15 : zAr 15 49 := ⟨by decide, fun _ _ => rfl⟩
theorem zar_16 : zAr 16 49 := ⟨by decide, fun _ _ => rfl⟩
theorem zob_17 : zOb 17 RX7 := ⟨by decide, 7, TX7, 2, rfl, fun _ _ => ⟨_, rfl⟩⟩
theorem zaq_18 : zAq 18 2 6 RX6 := ⟨by decide, fun _ _ => rfl, fun _ => rfl⟩
theorem zob_19 : zOb 19 RX0 := ⟨by decide, 0, TX0, 1, rfl, fun _ _ => ⟨_, rfl⟩⟩
theorem zar_20 : zAr 20 384 := ⟨by decide, fun _ _ => rfl⟩
theorem zob_21 : zOb 21 RX3 := ⟨by decide, 3, TX3, 2, rfl, fun _ _ => ⟨_, rfl⟩⟩
theorem zar_22 : zAr 22 80 := ⟨by decide, fun _ _ => rfl⟩
theorem zar_23 : zAr 23 12 := ⟨by decide, fun _ _ => rfl⟩
theorem zar_24 : zAr 24 7 := ⟨by decide, fun _ _ => rfl⟩
theorem zob_25 : zOb 25 RX12 := ⟨by decide, 12, TX12, 37, rfl, fun _ _ => ⟨_, rfl⟩⟩
theorem zar_26 : zAr 26 7 := ⟨by decide, fun _ _ => rfl⟩
theorem zar_27 : zAr 27 8 := ⟨by decide, fun _ _ => rfl⟩
theorem zar_28 : zAr 28 8 := ⟨by decide, fun _ _ => rfl⟩
theorem zar_29 : zAr 29 8 := ⟨by decide, fun _ _ => rfl⟩
theorem zar_30 : zAr 30 8 := ⟨by decide, fun _ _ => rfl⟩
theorem zar_31 : zAr 31 49 := ⟨by decide, fun _ _ => rfl⟩
theorem zar_32 : zAr 32 49 := ⟨by decide, fun _ _ => rfl⟩
theorem zar_33 : zAr 33 49 := ⟨by decide, fun _ _ => rfl⟩
theorem zar_34 : zAr 34 6 := ⟨by decide, fun _ _ => rfl⟩
theorem zar_35 : zAr 35 6 := ⟨by decide, fun _ _ => rfl⟩
theorem zar_36 : zAr 36 6 := ⟨by decide, fun _ _ => rfl⟩
theorem zar_37 : zAr 37 6 := ⟨by decide, fun _ _ => rfl⟩
theorem zar_38 : zAr 38 80 := ⟨by decide, fun _ _ => rfl⟩
theorem zar_39 : zAr 39 40 := ⟨by decide, fun _ _ => rfl⟩
theorem zar_40 : zAr 40 40 := ⟨by decide, fun _ _ => rfl⟩
theorem zar_41 : zAr 41 640 := ⟨by decide, fun _ _ => rfl⟩
theorem zar_42 : zAr 42 440 := ⟨by decide, fun _ _ => rfl⟩
theorem zar_43 : zAr 43 49 := ⟨by decide, fun _ _ => rfl⟩
theorem zar_44 : zAr 44 49 := ⟨by decide, fun _ _ => rfl⟩
theorem zar_45 : zAr 45 6 := ⟨by decide, fun _ _ => rfl⟩
theorem zar_46 : zAr 46 49 := ⟨by decide, fun _ _ => rfl⟩
theorem zar_47 : zAr 47 12 := ⟨by decide, fun _ _ => rfl⟩
theorem zgr_RX11_10_0 : zGR RX11 10 0 1 := ⟨by decide, 11, 0, _, _, _, Or.inl zfd_RX11_10_11, fun _ _ => ⟨_, rfl, rfl⟩⟩
theorem zgr_RX11_16_0 : zGR RX11 16 0 7 := ⟨by decide, 11, 1, _, _, _, Or.inl zfd_RX11_16_11, fun _ _ => ⟨_, rfl, rfl⟩⟩
theorem zgr_RX11_19_0 : zGR RX11 19 0 13 := ⟨by decide, 11, 2, _, _, _, Or.inl zfd_RX11_19_11, fun _ _ => ⟨_, rfl, rfl⟩⟩
theorem zgr_RX11_25_0 : zGR RX11 25 0 19 := ⟨by decide, 11, 4, _, _, _, Or.inl zfd_RX11_25_11, fun _ _ => ⟨_, rfl, rfl⟩⟩
theorem zgr_RX11_32_0 : zGR RX11 32 0 21 := ⟨by decide, 11, 5, _, _, _, Or.inl zfd_RX11_32_11, fun _ _ => ⟨_, rfl, rfl⟩⟩
theorem zgr_RX11_36_0 : zGR RX11 36 0 23 := ⟨by decide, 11, 6, _, _, _, Or.inl zfd_RX11_36_11, fun _ _ => ⟨_, rfl, rfl⟩⟩
theorem zgr_RX11_40_0 : zGR RX11 40 0 24 := ⟨by decide, 11, 8, _, _, _, Or.inl zfd_RX11_40_11, fun _ _ => ⟨_, rfl, rfl⟩⟩
theorem zgi_RX11_51_21 : zGI RX11 51 21 1 := ⟨by decide, 3, _, _, _, Or.inr zfd_RX11_51_3, fun _ _ => ⟨_, rfl, rfl⟩⟩
theorem zpi_RX11_51_21 : zPI RX11 51 21 1 .int := ⟨by decide, 3, _, _, _, _, Or.inr zfd_RX11_51_3, zft_3, rfl, rfl, fun _ _ _ => ⟨_, rfl, Nat.le_of_ble_eq_true rfl, rfl⟩⟩
theorem zgi_RX11_80_1 : zGI RX11 80 1 6 := ⟨by decide, 2, _, _, _, Or.inr zfd_RX11_80_2, fun _ _ => ⟨_, rfl, rfl⟩⟩
theorem zpi_RX11_80_1 : zPI RX11 80 1 6 .int := ⟨by decide, 2, _, _, _, _, Or.inr zfd_RX11_80_2, zft_2, rfl, rfl, fun _ _ _ => ⟨_, rfl, Nat.le_of_ble_eq_true rfl, rfl⟩⟩
theorem zgi_RX11_80_7 : zGI RX11 80 7 6 := ⟨by decide, 2, _, _, _, Or.inr zfd_RX11_80_2, fun _ _ => ⟨_, rfl, rfl⟩⟩
theorem zpi_RX11_80_7 : zPI RX11 80 7 6 .int := ⟨by decide, 2, _, _, _, _, Or.inr zfd_RX11_80_2, zft_2, rfl, rfl, fun _ _ _ => ⟨_, rfl, Nat.le_of_ble_eq_true rfl, rfl⟩⟩
theorem zgi_RX11_80_13 : zGI RX11 80 13 6 := ⟨by decide, 2, _, _, _, Or.inr zfd_RX11_80_2, fun _ _ => ⟨_, rfl, rfl⟩⟩
theorem zpi_RX11_80_13 : zPI RX11 80 13 6 .int := ⟨by decide, 2, _, _, _, _, Or.inr zfd_RX11_80_2, zft_2, rfl, rfl, fun _ _ _ => ⟨_, rfl, Nat.le_of_ble_eq_true rfl, rfl⟩⟩
theorem zgr_RX11_156_1 : zGR RX11 156 1 5 := ⟨by decide, 2, 5, _, _, _, Or.inr zfd_RX11_156_2, fun _ _ => ⟨_, rfl, rfl⟩⟩
theorem zgr_RX11_156_7 : zGR RX11 156 7 11 := ⟨by decide, 2, 5, _, _, _, Or.inr zfd_RX11_156_2, fun _ _ => ⟨_, rfl, rfl⟩⟩
theorem zgr_RX11_156_13 : zGR RX11 156 13 17 := ⟨by decide, 2, 5, _, _, _, Or.inr zfd_RX11_156_2, fun _ _ => ⟨_, rfl, rfl⟩⟩
theorem zgi_RX11_210_0 : zGI RX11 210 0 7 := ⟨by decide, 11, _, _, _, Or.inl zfd_RX11_210_11, fun _ _ => ⟨_, rfl, rfl⟩⟩
theorem zpi_RX11_210_0 : zPI RX11 210 0 7 .int := ⟨by decide, 11, _, _, _, _, Or.inl zfd_RX11_210_11, zft_11, rfl, rfl, fun _ _ _ => ⟨_, rfl, Nat.le_of_ble_eq_true rfl, rfl⟩⟩
theorem zgi_RX11_223_0 : zGI RX11 223 0 3 := ⟨by decide, 11, _, _, _, Or.inl zfd_RX11_223_11, fun _ _ => ⟨_, rfl, rfl⟩⟩
theorem zpi_RX11_223_0 : zPI RX11 223 0 3 .boolean := ⟨by decide, 11, _, _, _, _, Or.inl zfd_RX11_223_11, zft_11, rfl, rfl, fun _ _ _ => ⟨_, rfl, Nat.le_of_ble_eq_true rfl, rfl⟩⟩
theorem zgi_RX11_227_1 : zGI RX11 227 1 4 := ⟨by decide, 2, _, _, _, Or.inr zfd_RX11_227_2, fun _ _ => ⟨_, rfl, rfl⟩⟩
theorem zpi_RX11_227_1 : zPI RX11 227 1 4 .int := ⟨by decide, 2, _, _, _, _, Or.inr zfd_RX11_227_2, zft_2, rfl, rfl, fun _ _ _ => ⟨_, rfl, Nat.le_of_ble_eq_true rfl, rfl⟩⟩
theorem zgi_RX11_227_7 : zGI RX11 227 7 4 := ⟨by decide, 2, _, _, _, Or.inr zfd_RX11_227_2, fun _ _ => ⟨_, rfl, rfl⟩⟩
theorem zpi_RX11_227_7 : zPI RX11 227 7 4 .int := ⟨by decide, 2, _, _, _, _, Or.inr zfd_RX11_227_2, zft_2, rfl, rfl, fun _ _ _ => ⟨_, rfl, Nat.le_of_ble_eq_true rfl, rfl⟩⟩
theorem zgi_RX11_227_13 : zGI RX11 227 13 4 := ⟨by decide, 2, _, _, _, Or.inr zfd_RX11_227_2, fun _ _ => ⟨_, rfl, rfl⟩⟩
theorem zpi_RX11_227_13 : zPI RX11 227 13 4 .int := ⟨by decide, 2, _, _, _, _, Or.inr zfd_RX11_227_2, zft_2, rfl, rfl, fun _ _ _ => ⟨_, rfl, Nat.le_of_ble_eq_true rfl, rfl⟩⟩
theorem zgi_RX11_230_1 : zGI RX11 230 1 1 := ⟨by decide, 2, _, _, _, Or.inr zfd_RX11_230_2, fun _ _ => ⟨_, rfl, rfl⟩⟩
theorem zpi_RX11_230_1 : zPI RX11 230 1 1 .int := ⟨by decide, 2, _, _, _, _, Or.inr zfd_RX11_230_2, zft_2, rfl, rfl, fun _ _ _ => ⟨_, rfl, Nat.le_of_ble_eq_true rfl, rfl⟩⟩
theorem zgi_RX11_230_7 : zGI RX11 230 7 1 := ⟨by decide, 2, _, _, _, Or.inr zfd_RX11_230_2, fun _ _ => ⟨_, rfl, rfl⟩⟩
theorem zpi_RX11_230_7 : zPI RX11 230 7 1 .int := ⟨by decide, 2, _, _, _, _, Or.inr zfd_RX11_230_2, zft_2, rfl, rfl, fun _ _ _ => ⟨_, rfl, Nat.le_of_ble_eq_true rfl, rfl⟩⟩
theorem zgi_RX11_230_13 : zGI RX11 230 13 1 := ⟨by decide, 2, _, _, _, Or.inr zfd_RX11_230_2, fun _ _ => ⟨_, rfl, rfl⟩⟩
theorem zpi_RX11_230_13 : zPI RX11 230 13 1 .int := ⟨by decide, 2, _, _, _, _, Or.inr zfd_RX11_230_2, zft_2, rfl, rfl, fun _ _ _ => ⟨_, rfl, Nat.le_of_ble_eq_true rfl, rfl⟩⟩
theorem zgi_RX11_233_5 : zGI RX11 233 5 1 := ⟨by decide, 7, _, _, _, Or.inr zfd_RX11_233_7, fun _ _ => ⟨_, rfl, rfl⟩⟩
theorem zpi_RX11_233_5 : zPI RX11 233 5 1 .int := ⟨by decide, 7, _, _, _, _, Or.inr zfd_RX11_233_7, zft_7, rfl, rfl, fun _ _ _ => ⟨_, rfl, Nat.le_of_ble_eq_true rfl, rfl⟩⟩
theorem zgi_RX11_233_11 : zGI RX11 233 11 1 := ⟨by decide, 7, _, _, _, Or.inr zfd_RX11_233_7, fun _ _ => ⟨_, rfl, rfl⟩⟩
theorem zpi_RX11_233_11 : zPI RX11 233 11 1 .int := ⟨by decide, 7, _, _, _, _, Or.inr zfd_RX11_233_7, zft_7, rfl, rfl, fun _ _ _ => ⟨_, rfl, Nat.le_of_ble_eq_true rfl, rfl⟩⟩
theorem zgi_RX11_233_17 : zGI RX11 233 17 1 := ⟨by decide, 7, _, _, _, Or.inr zfd_RX11_233_7, fun _ _ => ⟨_, rfl, rfl⟩⟩
theorem zpi_RX11_233_17 : zPI RX11 233 17 1 .int := ⟨by decide, 7, _, _, _, _, Or.inr zfd_RX11_233_7, zft_7, rfl, rfl, fun _ _ _ => ⟨_, rfl, Nat.le_of_ble_eq_true rfl, rfl⟩⟩
theorem zgr_RX0_9_19 : zGR RX0 9 19 20 := ⟨by decide, 0, 0, _, _, _, Or.inl zfd_RX0_9_0, fun _ _ => ⟨_, rfl, rfl⟩⟩
theorem zgr_RX2_11_1 : zGR RX2 11 1 2 := ⟨by decide, 2, 0, _, _, _, Or.inl zfd_RX2_11_2, fun _ _ => ⟨_, rfl, rfl⟩⟩
theorem zgr_RX2_11_7 : zGR RX2 11 7 8 := ⟨by decide, 2, 0, _, _, _, Or.inl zfd_RX2_11_2, fun _ _ => ⟨_, rfl, rfl⟩⟩
theorem zgr_RX2_11_13 : zGR RX2 11 13 14 := ⟨by decide, 2, 0, _, _, _, Or.inl zfd_RX2_11_2, fun _ _ => ⟨_, rfl, rfl⟩⟩
theorem zgr_RX2_17_1 : zGR RX2 17 1 3 := ⟨by decide, 2, 2, _, _, _, Or.inl zfd_RX2_17_2, fun _ _ => ⟨_, rfl, rfl⟩⟩
theorem zgr_RX2_17_7 : zGR RX2 17 7 9 := ⟨by decide, 2, 2, _, _, _, Or.inl zfd_RX2_17_2, fun _ _ => ⟨_, rfl, rfl⟩⟩
theorem zgr_RX2_17_13 : zGR RX2 17 13 15 := ⟨by decide, 2, 2, _, _, _, Or.inl zfd_RX2_17_2, fun _ _ => ⟨_, rfl, rfl⟩⟩
theorem zgr_RX2_21_1 : zGR RX2 21 1 4 := ⟨by decide, 2, 3, _, _, _, Or.inl zfd_RX2_21_2, fun _ _ => ⟨_, rfl, rfl⟩⟩
theorem zgr_RX2_21_7 : zGR RX2 21 7 10 := ⟨by decide, 2, 3, _, _, _, Or.inl zfd_RX2_21_2, fun _ _ => ⟨_, rfl, rfl⟩⟩
theorem zgr_RX2_21_13 : zGR RX2 21 13 16 := ⟨by decide, 2, 3, _, _, _, Or.inl zfd_RX2_21_2, fun _ _ => ⟨_, rfl, rfl⟩⟩
theorem zgr_RX2_27_1 : zGR RX2 27 1 5 := ⟨by decide, 2, 5, _, _, _, Or.inl zfd_RX2_27_2, fun _ _ => ⟨_, rfl, rfl⟩⟩
theorem zgr_RX2_27_7 : zGR RX2 27 7 11 := ⟨by decide, 2, 5, _, _, _, Or.inl zfd_RX2_27_2, fun _ _ => ⟨_, rfl, rfl⟩⟩
theorem zgr_RX2_27_13 : zGR RX2 27 13 17 := ⟨by decide, 2, 5, _, _, _, Or.inl zfd_RX2_27_2, fun _ _ => ⟨_, rfl, rfl⟩⟩
theorem zgi_RX2_31_1 : zGI RX2 31 1 1 := ⟨by decide, 2, _, _, _, Or.inl zfd_RX2_31_2, fun _ _ => ⟨_, rfl, rfl⟩⟩
theorem zpi_RX2_31_1 : zPI RX2 31 1 1 .int := ⟨by decide, 2, _, _, _, _, Or.inl zfd_RX2_31_2, zft_2, rfl, rfl, fun _ _ _ => ⟨_, rfl, Nat.le_of_ble_eq_true rfl, rfl⟩⟩
theorem zgi_RX2_31_7 : zGI RX2 31 7 1 := ⟨by decide, 2, _, _, _, Or.inl zfd_RX2_31_2, fun _ _ => ⟨_, rfl, rfl⟩⟩
theorem zpi_RX2_31_7 : zPI RX2 31 7 1 .int := ⟨by decide, 2, _, _, _, _, Or.inl zfd_RX2_31_2, zft_2, rfl, rfl, fun _ _ _ => ⟨_, rfl, Nat.le_of_ble_eq_true rfl, rfl⟩⟩
theorem zgi_RX2_31_13 : zGI RX2 31 13 1 := ⟨by decide, 2, _, _, _, Or.inl zfd_RX2_31_2, fun _ _ => ⟨_, rfl, rfl⟩⟩
theorem zpi_RX2_31_13 : zPI RX2 31 13 1 .int := ⟨by decide, 2, _, _, _, _, Or.inl zfd_RX2_31_2, zft_2, rfl, rfl, fun _ _ _ => ⟨_, rfl, Nat.le_of_ble_eq_true rfl, rfl⟩⟩
theorem zgi_RX2_39_1 : zGI RX2 39 1 4 := ⟨by decide, 2, _, _, _, Or.inl zfd_RX2_39_2, fun _ _ => ⟨_, rfl, rfl⟩⟩
theorem zpi_RX2_39_1 : zPI RX2 39 1 4 .int := ⟨by decide, 2, _, _, _, _, Or.inl zfd_RX2_39_2, zft_2, rfl, rfl, fun _ _ _ => ⟨_, rfl, Nat.le_of_ble_eq_true rfl, rfl⟩⟩
theorem zgi_RX2_39_7 : zGI RX2 39 7 4 := ⟨by decide, 2, _, _, _, Or.inl zfd_RX2_39_2, fun _ _ => ⟨_, rfl, rfl⟩⟩
theorem zpi_RX2_39_7 : zPI RX2 39 7 4 .int := ⟨by decide, 2, _, _, _, _, Or.inl zfd_RX2_39_2, zft_2, rfl, rfl, fun _ _ _ => ⟨_, rfl, Nat.le_of_ble_eq_true rfl, rfl⟩⟩
theorem zgi_RX2_39_13 : zGI RX2 39 13 4 := ⟨by decide, 2, _, _, _, Or.inl zfd_RX2_39_2, fun _ _ => ⟨_, rfl, rfl⟩⟩
theorem zpi_RX2_39_13 : zPI RX2 39 13 4 .int := ⟨by decide, 2, _, _, _, _, Or.inl zfd_RX2_39_2, zft_2, rfl, rfl, fun _ _ _ => ⟨_, rfl, Nat.le_of_ble_eq_true rfl, rfl⟩⟩
theorem zgi_RX2_53_1 : zGI RX2 53 1 6 := ⟨by decide, 2, _, _, _, Or.inl zfd_RX2_53_2, fun _ _ => ⟨_, rfl, rfl⟩⟩
theorem zpi_RX2_53_1 : zPI RX2 53 1 6 .int := ⟨by decide, 2, _, _, _, _, Or.inl zfd_RX2_53_2, zft_2, rfl, rfl, fun _ _ _ => ⟨_, rfl, Nat.le_of_ble_eq_true rfl, rfl⟩⟩
theorem zgi_RX2_53_7 : zGI RX2 53 7 6 := ⟨by decide, 2, _, _, _, Or.inl zfd_RX2_53_2, fun _ _ => ⟨_, rfl, rfl⟩⟩
theorem zpi_RX2_53_7 : zPI RX2 53 7 6 .int := ⟨by decide, 2, _, _, _, _, Or.inl zfd_RX2_53_2, zft_2, rfl, rfl, fun _ _ _ => ⟨_, rfl, Nat.le_of_ble_eq_true rfl, rfl⟩⟩
theorem zgi_RX2_53_13 : zGI RX2 53 13 6 := ⟨by decide, 2, _, _, _, Or.inl zfd_RX2_53_2, fun _ _ => ⟨_, rfl, rfl⟩⟩
theorem zpi_RX2_53_13 : zPI RX2 53 13 6 .int := ⟨by decide, 2, _, _, _, _, Or.inl zfd_RX2_53_2, zft_2, rfl, rfl, fun _ _ _ => ⟨_, rfl, Nat.le_of_ble_eq_true rfl, rfl⟩⟩
theorem zgr_RX3_9_21 : zGR RX3 9 21 22 := ⟨by decide, 3, 0, _, _, _, Or.inl zfd_RX3_9_3, fun _ _ => ⟨_, rfl, rfl⟩⟩
theorem zgi_RX3_15_21 : zGI RX3 15 21 1 := ⟨by decide, 3, _, _, _, Or.inl zfd_RX3_15_3, fun _ _ => ⟨_, rfl, rfl⟩⟩
theorem zpi_RX3_15_21 : zPI RX3 15 21 1 .int := ⟨by decide, 3, _, _, _, _, Or.inl zfd_RX3_15_3, zft_3, rfl, rfl, fun _ _ _ => ⟨_, rfl, Nat.le_of_ble_eq_true rfl, rfl⟩⟩
theorem zgr_RX3_52_1 : zGR RX3 52 1 5 := ⟨by decide, 2, 5, _, _, _, Or.inr zfd_RX3_52_2, fun _ _ => ⟨_, rfl, rfl⟩⟩
theorem zgr_RX3_52_7 : zGR RX3 52 7 11 := ⟨by decide, 2, 5, _, _, _, Or.inr zfd_RX3_52_2, fun _ _ => ⟨_, rfl, rfl⟩⟩
theorem zgr_RX3_52_13 : zGR RX3 52 13 17 := ⟨by decide, 2, 5, _, _, _, Or.inr zfd_RX3_52_2, fun _ _ => ⟨_, rfl, rfl⟩⟩
theorem zgi_RX3_65_1 : zGI RX3 65 1 6 := ⟨by decide, 2, _, _, _, Or.inr zfd_RX3_65_2, fun _ _ => ⟨_, rfl, rfl⟩⟩
theorem zpi_RX3_65_1 : zPI RX3 65 1 6 .int := ⟨by decide, 2, _, _, _, _, Or.inr zfd_RX3_65_2, zft_2, rfl, rfl, fun _ _ _ => ⟨_, rfl, Nat.le_of_ble_eq_true rfl, rfl⟩⟩
theorem zgi_RX3_65_7 : zGI RX3 65 7 6 := ⟨by decide, 2, _, _, _, Or.inr zfd_RX3_65_2, fun _ _ => ⟨_, rfl, rfl⟩⟩
theorem zpi_RX3_65_7 : zPI RX3 65 7 6 .int := ⟨by decide, 2, _, _, _, _, Or.inr zfd_RX3_65_2, zft_2, rfl, rfl, fun _ _ _ => ⟨_, rfl, Nat.le_of_ble_eq_true rfl, rfl⟩⟩
theorem zgi_RX3_65_13 : zGI RX3 65 13 6 := ⟨by decide, 2, _, _, _, Or.inr zfd_RX3_65_2, fun _ _ => ⟨_, rfl, rfl⟩⟩
theorem zpi_RX3_65_13 : zPI RX3 65 13 6 .int := ⟨by decide, 2, _, _, _, _, Or.inr zfd_RX3_65_2, zft_2, rfl, rfl, fun _ _ _ => ⟨_, rfl, Nat.le_of_ble_eq_true rfl, rfl⟩⟩
theorem zgr_RX7_11_5 : zGR RX7 11 5 6 := ⟨by decide, 7, 0, _, _, _, Or.inl zfd_RX7_11_7, fun _ _ => ⟨_, rfl, rfl⟩⟩
theorem zgr_RX7_11_11 : zGR RX7 11 11 12 := ⟨by decide, 7, 0, _, _, _, Or.inl zfd_RX7_11_7, fun _ _ => ⟨_, rfl, rfl⟩⟩
theorem zgr_RX7_11_17 : zGR RX7 11 17 18 := ⟨by decide, 7, 0, _, _, _, Or.inl zfd_RX7_11_7, fun _ _ => ⟨_, rfl, rfl⟩⟩
theorem zgi_RX7_17_5 : zGI RX7 17 5 1 := ⟨by decide, 7, _, _, _, Or.inl zfd_RX7_17_7, fun _ _ => ⟨_, rfl, rfl⟩⟩
theorem zpi_RX7_17_5 : zPI RX7 17 5 1 .int := ⟨by decide, 7, _, _, _, _, Or.inl zfd_RX7_17_7, zft_7, rfl, rfl, fun _ _ _ => ⟨_, rfl, Nat.le_of_ble_eq_true rfl, rfl⟩⟩
theorem zgi_RX7_17_11 : zGI RX7 17 11 1 := ⟨by decide, 7, _, _, _, Or.inl zfd_RX7_17_7, fun _ _ => ⟨_, rfl, rfl⟩⟩
theorem zpi_RX7_17_11 : zPI RX7 17 11 1 .int := ⟨by decide, 7, _, _, _, _, Or.inl zfd_RX7_17_7, zft_7, rfl, rfl, fun _ _ _ => ⟨_, rfl, Nat.le_of_ble_eq_true rfl, rfl⟩⟩
theorem zgi_RX7_17_17 : zGI RX7 17 17 1 := ⟨by decide, 7, _, _, _, Or.inl zfd_RX7_17_7, fun _ _ => ⟨_, rfl, rfl⟩⟩
theorem zpi_RX7_17_17 : zPI RX7 17 17 1 .int := ⟨by decide, 7, _, _, _, _, Or.inl zfd_RX7_17_7, zft_7, rfl, rfl, fun _ _ _ => ⟨_, rfl, Nat.le_of_ble_eq_true rfl, rfl⟩⟩
theorem zgr_RX12_7_25 : zGR RX12 7 25 26 := ⟨by decide, 12, 0, _, _, _, Or.inl zfd_RX12_7_12, fun _ _ => ⟨_, rfl, rfl⟩⟩
theorem zgr_RX12_13_25 : zGR RX12 13 25 27 := ⟨by decide, 12, 1, _, _, _, Or.inl zfd_RX12_13_12, fun _ _ => ⟨_, rfl, rfl⟩⟩
theorem zgr_RX12_16_25 : zGR RX12 16 25 28 := ⟨by decide, 12, 2, _, _, _, Or.inl zfd_RX12_16_12, fun _ _ => ⟨_, rfl, rfl⟩⟩
theorem zgr_RX12_19_25 : zGR RX12 19 25 29 := ⟨by decide, 12, 3, _, _, _, Or.inl zfd_RX12_19_12, fun _ _ => ⟨_, rfl, rfl⟩⟩
theorem zgr_RX12_22_25 : zGR RX12 22 25 30 := ⟨by decide, 12, 4, _, _, _, Or.inl zfd_RX12_22_12, fun _ _ => ⟨_, rfl, rfl⟩⟩
theorem zgr_RX12_25_25 : zGR RX12 25 25 31 := ⟨by decide, 12, 5, _, _, _, Or.inl zfd_RX12_25_12, fun _ _ => ⟨_, rfl, rfl⟩⟩
theorem zgr_RX12_28_25 : zGR RX12 28 25 32 := ⟨by decide, 12, 6, _, _, _, Or.inl zfd_RX12_28_12, fun _ _ => ⟨_, rfl, rfl⟩⟩
theorem zgr_RX12_31_25 : zGR RX12 31 25 33 := ⟨by decide, 12, 7, _, _, _, Or.inl zfd_RX12_31_12, fun _ _ => ⟨_, rfl, rfl⟩⟩
theorem zgr_RX12_34_25 : zGR RX12 34 25 34 := ⟨by decide, 12, 8, _, _, _, Or.inl zfd_RX12_34_12, fun _ _ => ⟨_, rfl, rfl⟩⟩
theorem zgr_RX12_37_25 : zGR RX12 37 25 35 := ⟨by decide, 12, 9, _, _, _, Or.inl zfd_RX12_37_12, fun _ _ => ⟨_, rfl, rfl⟩⟩
theorem zgr_RX12_40_25 : zGR RX12 40 25 36 := ⟨by decide, 12, 10, _, _, _, Or.inl zfd_RX12_40_12, fun _ _ => ⟨_, rfl, rfl⟩⟩
theorem zgr_RX12_43_25 : zGR RX12 43 25 37 := ⟨by decide, 12, 11, _, _, _, Or.inl zfd_RX12_43_12, fun _ _ => ⟨_, rfl, rfl⟩⟩
theorem zgr_RX12_46_25 : zGR RX12 46 25 38 := ⟨by decide, 12, 16, _, _, _, Or.inl zfd_RX12_46_12, fun _ _ => ⟨_, rfl, rfl⟩⟩
theorem zgr_RX12_49_25 : zGR RX12 49 25 39 := ⟨by decide, 12, 17, _, _, _, Or.inl zfd_RX12_49_12, fun _ _ => ⟨_, rfl, rfl⟩⟩
theorem zgr_RX12_52_25 : zGR RX12 52 25 40 := ⟨by decide, 12, 18, _, _, _, Or.inl zfd_RX12_52_12, fun _ _ => ⟨_, rfl, rfl⟩⟩
theorem zgr_RX12_55_25 : zGR RX12 55 25 41 := ⟨by decide, 12, 19, _, _, _, Or.inl zfd_RX12_55_12, fun _ _ => ⟨_, rfl, rfl⟩⟩
theorem zgr_RX12_58_25 : zGR RX12 58 25 42 := ⟨by decide, 12, 23, _, _, _, Or.inl zfd_RX12_58_12, fun _ _ => ⟨_, rfl, rfl⟩⟩
theorem zgr_RX12_61_25 : zGR RX12 61 25 43 := ⟨by decide, 12, 27, _, _, _, Or.inl zfd_RX12_61_12, fun _ _ => ⟨_, rfl, rfl⟩⟩
theorem zgr_RX12_64_25 : zGR RX12 64 25 44 := ⟨by decide, 12, 28, _, _, _, Or.inl zfd_RX12_64_12, fun _ _ => ⟨_, rfl, rfl⟩⟩
theorem zgr_RX12_67_25 : zGR RX12 67 25 45 := ⟨by decide, 12, 31, _, _, _, Or.inl zfd_RX12_67_12, fun _ _ => ⟨_, rfl, rfl⟩⟩
theorem zgr_RX12_70_25 : zGR RX12 70 25 46 := ⟨by decide, 12, 33, _, _, _, Or.inl zfd_RX12_70_12, fun _ _ => ⟨_, rfl, rfl⟩⟩
theorem zgr_RX12_73_25 : zGR RX12 73 25 47 := ⟨by decide, 12, 34, _, _, _, Or.inl zfd_RX12_73_12, fun _ _ => ⟨_, rfl, rfl⟩⟩
theorem zgi_RX12_81_25 : zGI RX12 81 25 20 := ⟨by decide, 12, _, _, _, Or.inl zfd_RX12_81_12, fun _ _ => ⟨_, rfl, rfl⟩⟩
theorem zpi_RX12_81_25 : zPI RX12 81 25 20 .int := ⟨by decide, 12, _, _, _, _, Or.inl zfd_RX12_81_12, zft_12, rfl, rfl, fun _ _ _ => ⟨_, rfl, Nat.le_of_ble_eq_true rfl, rfl⟩⟩
theorem zgi_RX12_89_25 : zGI RX12 89 25 21 := ⟨by decide, 12, _, _, _, Or.inl zfd_RX12_89_12, fun _ _ => ⟨_, rfl, rfl⟩⟩
theorem zpi_RX12_89_25 : zPI RX12 89 25 21 .int := ⟨by decide, 12, _, _, _, _, Or.inl zfd_RX12_89_12, zft_12, rfl, rfl, fun _ _ _ => ⟨_, rfl, Nat.le_of_ble_eq_true rfl, rfl⟩⟩
theorem zgi_RX12_107_25 : zGI RX12 107 25 22 := ⟨by decide, 12, _, _, _, Or.inl zfd_RX12_107_12, fun _ _ => ⟨_, rfl, rfl⟩⟩
theorem zpi_RX12_107_25 : zPI RX12 107 25 22 .int := ⟨by decide, 12, _, _, _, _, Or.inl zfd_RX12_107_12, zft_12, rfl, rfl, fun _ _ _ => ⟨_, rfl, Nat.le_of_ble_eq_true rfl, rfl⟩⟩
theorem zgi_RX12_114_25 : zGI RX12 114 25 12 := ⟨by decide, 12, _, _, _, Or.inl zfd_RX12_114_12, fun _ _ => ⟨_, rfl, rfl⟩⟩
theorem zpi_RX12_114_25 : zPI RX12 114 25 12 .int := ⟨by decide, 12, _, _, _, _, Or.inl zfd_RX12_114_12, zft_12, rfl, rfl, fun _ _ _ => ⟨_, rfl, Nat.le_of_ble_eq_true rfl, rfl⟩⟩
theorem zgi_RX12_117_25 : zGI RX12 117 25 13 := ⟨by decide, 12, _, _, _, Or.inl zfd_RX12_117_12, fun _ _ => ⟨_, rfl, rfl⟩⟩
theorem zpi_RX12_117_25 : zPI RX12 117 25 13 .int := ⟨by decide, 12, _, _, _, _, Or.inl zfd_RX12_117_12, zft_12, rfl, rfl, fun _ _ _ => ⟨_, rfl, Nat.le_of_ble_eq_true rfl, rfl⟩⟩
theorem zgi_RX12_120_25 : zGI RX12 120 25 14 := ⟨by decide, 12, _, _, _, Or.inl zfd_RX12_120_12, fun _ _ => ⟨_, rfl, rfl⟩⟩
theorem zpi_RX12_120_25 : zPI RX12 120 25 14 .int := ⟨by decide, 12, _, _, _, _, Or.inl zfd_RX12_120_12, zft_12, rfl, rfl, fun _ _ _ => ⟨_, rfl, Nat.le_of_ble_eq_true rfl, rfl⟩⟩
theorem zgi_RX12_129_25 : zGI RX12 129 25 15 := ⟨by decide, 12, _, _, _, Or.inl zfd_RX12_129_12, fun _ _ => ⟨_, rfl, rfl⟩⟩
theorem zpi_RX12_129_25 : zPI RX12 129 25 15 .int := ⟨by decide, 12, _, _, _, _, Or.inl zfd_RX12_129_12, zft_12, rfl, rfl, fun _ _ _ => ⟨_, rfl, Nat.le_of_ble_eq_true rfl, rfl⟩⟩
theorem zgi_RX12_143_25 : zGI RX12 143 25 25 := ⟨by decide, 12, _, _, _, Or.inl zfd_RX12_143_12, fun _ _ => ⟨_, rfl, rfl⟩⟩
theorem zpi_RX12_143_25 : zPI RX12 143 25 25 .boolean := ⟨by decide, 12, _, _, _, _, Or.inl zfd_RX12_143_12, zft_12, rfl, rfl, fun _ _ _ => ⟨_, rfl, Nat.le_of_ble_eq_true rfl, rfl⟩⟩
theorem zgi_RX12_147_25 : zGI RX12 147 25 26 := ⟨by decide, 12, _, _, _, Or.inl zfd_RX12_147_12, fun _ _ => ⟨_, rfl, rfl⟩⟩
theorem zpi_RX12_147_25 : zPI RX12 147 25 26 .int := ⟨by decide, 12, _, _, _, _, Or.inl zfd_RX12_147_12, zft_12, rfl, rfl, fun _ _ _ => ⟨_, rfl, Nat.le_of_ble_eq_true rfl, rfl⟩⟩
theorem zgi_RX12_157_25 : zGI RX12 157 25 24 := ⟨by decide, 12, _, _, _, Or.inl zfd_RX12_157_12, fun _ _ => ⟨_, rfl, rfl⟩⟩
theorem zpi_RX12_157_25 : zPI RX12 157 25 24 .boolean := ⟨by decide, 12, _, _, _, _, Or.inl zfd_RX12_157_12, zft_12, rfl, rfl, fun _ _ _ => ⟨_, rfl, Nat.le_of_ble_eq_true rfl, rfl⟩⟩
theorem zgi_RX12_175_25 : zGI RX12 175 25 29 := ⟨by decide, 12, _, _, _, Or.inl zfd_RX12_175_12, fun _ _ => ⟨_, rfl, rfl⟩⟩
theorem zpi_RX12_175_25 : zPI RX12 175 25 29 .int := ⟨by decide, 12, _, _, _, _, Or.inl zfd_RX12_175_12, zft_12, rfl, rfl, fun _ _ _ => ⟨_, rfl, Nat.le_of_ble_eq_true rfl, rfl⟩⟩
theorem zgi_RX12_178_25 : zGI RX12 178 25 30 := ⟨by decide, 12, _, _, _, Or.inl zfd_RX12_178_12, fun _ _ => ⟨_, rfl, rfl⟩⟩
theorem zpi_RX12_178_25 : zPI RX12 178 25 30 .int := ⟨by decide, 12, _, _, _, _, Or.inl zfd_RX12_178_12, zft_12, rfl, rfl, fun _ _ _ => ⟨_, rfl, Nat.le_of_ble_eq_true rfl, rfl⟩⟩
theorem zgi_RX12_216_25 : zGI RX12 216 25 32 := ⟨by decide, 12, _, _, _, Or.inl zfd_RX12_216_12, fun _ _ => ⟨_, rfl, rfl⟩⟩
theorem zpi_RX12_216_25 : zPI RX12 216 25 32 .int := ⟨by decide, 12, _, _, _, _, Or.inl zfd_RX12_216_12, zft_12, rfl, rfl, fun _ _ _ => ⟨_, rfl, Nat.le_of_ble_eq_true rfl, rfl⟩⟩
theorem zgi_RX12_234_25 : zGI RX12 234 25 35 := ⟨by decide, 12, _, _, _, Or.inl zfd_RX12_234_12, fun _ _ => ⟨_, rfl, rfl⟩⟩
theorem zpi_RX12_234_25 : zPI RX12 234 25 35 .int := ⟨by decide, 12, _, _, _, _, Or.inl zfd_RX12_234_12, zft_12, rfl, rfl, fun _ _ _ => ⟨_, rfl, Nat.le_of_ble_eq_true rfl, rfl⟩⟩
theorem zgi_RX12_237_25 : zGI RX12 237 25 36 := ⟨by decide, 12, _, _, _, Or.inl zfd_RX12_237_12, fun _ _ => ⟨_, rfl, rfl⟩⟩
theorem zpi_RX12_237_25 : zPI RX12 237 25 36 .int := ⟨by decide, 12, _, _, _, _, Or.inl zfd_RX12_237_12, zft_12, rfl, rfl, fun _ _ _ => ⟨_, rfl, Nat.le_of_ble_eq_true rfl, rfl⟩⟩
