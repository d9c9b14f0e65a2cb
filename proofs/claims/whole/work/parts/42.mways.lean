/-- the rocks of a set, upwards -/
def bitsL (s : Nat) : List Nat := (List.range 6).filter (fun k => s.testBit k)
/-- all orders of a set's rocks -/
def allN : Nat → Nat → List (List Nat)
  | 0, _ => [[]]
  | m + 1, s => if s = 0 then [[]] else (bitsL s).flatMap fun r => (allN m (s - 2 ^ r)).map (r :: ·)
def ordA (s : Nat) : List (List Nat) := allN 6 s
set_option maxRecDepth 100000 in
theorem ordA_s : ∀ s, s < 64 → s ≠ 0 → ordA s = (bitsL s).flatMap fun r => (ordA (s - 2 ^ r)).map (r :: ·) := by decide +kernel
theorem ordA_0 : ordA 0 = [[]] := rfl
/-- a way from home by these rocks, the last first -/
def wc (c : Co) : List Nat → Nat
  | [] => 0
  | [r] => hmN c r
  | l :: b :: t => wc c (b :: t) + btN c b l
/-- and home -/
def wW (c : Co) : List Nat → Nat
  | [] => 0
  | l :: t => wc c (l :: t) + hmN c l
def mnL : List Nat → Nat
  | [] => 1000000
  | a :: t => min a (mnL t)
theorem mnL_le : ∀ l, mnL l ≤ 1000000
  | [] => Nat.le_refl _
  | a :: t => by unfold mnL; have := mnL_le t; omega
theorem mnL_app : ∀ x y, mnL (x ++ y) = min (mnL x) (mnL y)
  | [], y => by have := mnL_le y; show mnL y = min 1000000 (mnL y); omega
  | a :: t, y => by
    show min a (mnL (t ++ y)) = min (min a (mnL t)) (mnL y)
    rw [mnL_app t y]; omega
theorem mnL_add (k : Nat) : ∀ l : List Nat, mnL (l.map fun a => a + k) = min 1000000 (mnL l + k)
  | [] => by show 1000000 = min 1000000 (1000000 + k); omega
  | a :: t => by
    show min (a + k) (mnL (t.map fun a => a + k)) = min 1000000 (min a (mnL t) + k)
    rw [mnL_add k t]
    have := mnL_le t
    omega
/-- a minimum over sets' rocks, one by one -/
def mB (h : Nat → Nat) : Nat → Nat
  | 0 => 1000000
  | b + 1 => min (mB h b) (h b)
theorem mB_le (h : Nat → Nat) : ∀ m, mB h m ≤ 1000000
  | 0 => Nat.le_refl _
  | m + 1 => by unfold mB; have := mB_le h m; omega
theorem mB_flat (q : Nat → Bool) (F : Nat → List (List Nat)) (h : List Nat → Nat) : ∀ m, mnL ((((List.range m).filter q).flatMap F).map h) = mB (fun b => if q b then mnL ((F b).map h) else 1000000) m
  | 0 => rfl
  | m + 1 => by
    rw [List.range_succ, List.filter_append, List.flatMap_append, List.map_append, mnL_app, mB_flat q F h m, mB]
    congr 1
    cases e : q m with
    | true => simp [e]
    | false => simp [e, mnL]
theorem mB_cong {h g : Nat → Nat} : ∀ m, (∀ b, b < m → min 1000000 (h b) = min 1000000 (g b)) → mB h m = mB g m
  | 0, _ => rfl
  | m + 1, e => by
    have e1 := mB_cong m fun b hb => e b (by omega)
    have e2 := e m (by omega)
    have := mB_le g m
    unfold mB
    rw [e1]; omega
/-- the least way by the set s that ends at l -/
def dW (c : Co) (s l : Nat) : Nat := if s.testBit l then mnL ((ordA (s - 2 ^ l)).map fun o => wc c (l :: o)) else 1000000
theorem dW_le (c : Co) (s l : Nat) : dW c s l ≤ 1000000 := by unfold dW; split; exact mnL_le _; exact Nat.le_refl _
theorem sub64 : ∀ s, s < 64 → ∀ l, l < 6 → s.testBit l = true → s - 2 ^ l < s := by decide +kernel
theorem dW_step {c : Co} {s : Nat} (hs : s < 64) (h0 : s ≠ 0) (l : Nat) : mnL ((ordA s).map fun o => wc c (l :: o)) = mB (fun b => dW c s b + btN c b l) 6 := by
  rw [ordA_s s hs h0]
  unfold bitsL
  rw [mB_flat]
  refine mB_cong 6 fun b hb => ?_
  unfold dW
  cases e : s.testBit b with
  | false =>
    simp only [Bool.false_eq_true, if_false]
    omega
  | true =>
    simp only [if_true]
    have h1 : (((ordA (s - 2 ^ b)).map (b :: ·)).map fun o => wc c (l :: o)) = ((ordA (s - 2 ^ b)).map fun o => wc c (b :: o)).map fun a => a + btN c b l := by
      rw [List.map_map, List.map_map]
      rfl
    rw [h1, mnL_add]
    omega
theorem nI_min {a b : Nat} (ha : a < 2147483648) (hb : b < 2147483648) : minI (nI a) (nI b) = nI (min a b) := by
  unfold minI
  by_cases h : b < a
  · rw [if_pos ((nI_ltn hb ha).mpr h), Nat.min_eq_right (by omega)]
  · rw [if_neg (fun q => h ((nI_ltn hb ha).mp q)), Nat.min_eq_left (by omega)]
theorem mnI_B {c : Co} (ok : Cok c) {g : Nat → Int32} {r l : Nat} (h : ∀ b, b < 6 → g (6 * r + b) = nI (dW c r b)) : ∀ m, m ≤ 6 → mnI c g r l m = nI (mB (fun b => dW c r b + btN c b l) m)
  | 0, _ => rfl
  | m + 1, hm => by
    have h1 := dW_le c r m
    have h2 := btN_le ok m l
    have h3 := mB_le (fun b => dW c r b + btN c b l) m
    unfold mnI mB
    rw [mnI_B ok h m (by omega), h m (by omega), nI_add, nI_min (by omega) (by omega)]
theorem wyN_D {c : Co} (ok : Cok c) : ∀ (s : Nat), 1 ≤ s → s < 64 → ∀ l, l < 6 → wyN c s l = nI (dW c s l) := by
  intro s
  induction s using Nat.strongRecOn with
  | ind s ih =>
    intro h1 h64 l hl
    rw [wyN_eq c h1]
    unfold lwI
    cases e : s.testBit l with
    | false =>
      unfold dW
      rw [e]; rfl
    | true =>
      rw [if_neg (by decide)]
      have hlt := sub64 s h64 l hl e
      by_cases h0 : s - 2 ^ l = 0
      · rw [if_pos h0]
        unfold dW
        rw [e, if_pos rfl, h0, ordA_0]
        have := hmN_le ok l
        show nI (hmN c l) = nI (min (hmN c l) 1000000)
        rw [Nat.min_eq_left (by omega)]
      · have hg : ∀ b, b < 6 → (fun x => wyN c (x / 6) (x % 6)) (6 * (s - 2 ^ l) + b) = nI (dW c (s - 2 ^ l) b) := fun b hb => by
          simp only [d6 hb]
          exact ih _ hlt (by omega) (by omega) b hb
        rw [if_neg h0, mnI_B ok hg 6 (Nat.le_refl _), ← dW_step (by omega) h0 l]
        unfold dW
        rw [e, if_pos rfl]
theorem rtM_B {c : Co} (ok : Cok c) {g : Nat → Int32} {r : Nat} (h : ∀ b, b < 6 → g (6 * r + b) = nI (dW c r b)) : ∀ m, m ≤ 6 → rtM c g r m = nI (mB (fun b => dW c r b + hmN c b) m)
  | 0, _ => rfl
  | m + 1, hm => by
    have h1 := dW_le c r m
    have h2 := hmN_le ok m
    have h3 := mB_le (fun b => dW c r b + hmN c b) m
    unfold rtM mB
    rw [rtM_B ok h m (by omega), h m (by omega), nI_add, nI_min (by omega) (by omega)]
theorem wW_min {c : Co} {s : Nat} (hs : s < 64) (h0 : s ≠ 0) : mnL ((ordA s).map (wW c)) = mB (fun b => dW c s b + hmN c b) 6 := by
  rw [ordA_s s hs h0]
  unfold bitsL
  rw [mB_flat]
  refine mB_cong 6 fun b hb => ?_
  unfold dW
  cases e : s.testBit b with
  | false =>
    simp only [Bool.false_eq_true, if_false]
    omega
  | true =>
    simp only [if_true]
    have h1 : (((ordA (s - 2 ^ b)).map (b :: ·)).map (wW c)) = ((ordA (s - 2 ^ b)).map fun o => wc c (b :: o)).map fun a => a + hmN c b := by
      rw [List.map_map, List.map_map]
      rfl
    rw [h1, mnL_add]
    omega
theorem wyR_D {c : Co} (ok : Cok c) {s : Nat} (hs : s < 64) : wyR c s = nI (mnL ((ordA s).map (wW c))) := by
  unfold wyR
  by_cases h0 : s = 0
  · subst h0; rw [if_pos rfl]; rfl
  · have hg : ∀ b, b < 6 → (fun x => wyN c (x / 6) (x % 6)) (6 * s + b) = nI (dW c s b) := fun b hb => by
      simp only [d6 hb]
      exact wyN_D ok s (by omega) hs b hb
    rw [if_neg h0, wW_min hs h0, rtM_B ok hg 6 (Nat.le_refl _)]
/-! ===== the next order ===== -/
def swp (f : Nat → Nat) (i j : Nat) : Nat → Nat := zup (zup f i (f j)) j (f i)
/-- the greatest i below m with f i no more than f (i + 1) -/
def fnI (f : Nat → Nat) : Nat → Option Nat
  | 0 => none
  | m + 1 => if f (m + 1) < f m then fnI f m else some m
/-- the greatest j below m with f j no less than x -/
def fnJ (f : Nat → Nat) (x : Nat) : Nat → Nat
  | 0 => 0
  | m + 1 => if f m < x then fnJ f x m else m
def rvF : Nat → (Nat → Nat) → Nat → Nat → (Nat → Nat)
  | 0, f, _, _ => f
  | m + 1, f, a, b => if a < b then rvF m (swp f a b) (a + 1) (b - 1) else f
def nxF (n : Nat) (f : Nat → Nat) : Option (Nat → Nat) := match fnI f (n - 1) with
  | none => none
  | some i => some (rvF 6 (swp f i (fnJ f (f i) n)) (i + 1) (n - 1))
def fnL (l : List Nat) (k : Nat) : Nat := l.getD k 0
def nxL (l : List Nat) : Option (List Nat) := match nxF l.length (fnL l) with
  | none => none
  | some f => some ((List.range l.length).map f)
/-- the orders behind this one -/
def visN : Nat → List Nat → List (List Nat)
  | 0, _ => [[99]]
  | m + 1, l => match nxL l with
    | none => []
    | some t => t :: visN m t
set_option maxRecDepth 1000000 in
theorem vis_all : ∀ s, s < 64 → bitsL s :: visN 720 (bitsL s) = ordA s := by decide +kernel
set_option maxRecDepth 1000000 in
theorem ord_ok : ∀ s, s < 64 → ∀ l ∈ ordA s, l.length ≤ 6 ∧ l ≠ [99] ∧ ∀ x ∈ l, x < 6 ∧ s.testBit x = true := by decide +kernel
/-- the way round as the model reckons it -/
def wrF (c : Co) : List Nat → Nat → Nat → Nat → Nat
  | [], x, y, v => v + x + y
  | r :: t, x, y, v => wrF c t (crx c r) (cry c r) (v + (adN x (crx c r) + adN y (cry c r)))
def wrN (c : Co) (l : List Nat) : Nat := wrF c l 0 0 0
theorem adN_sym (a b : Nat) : adN a b = adN b a := by unfold adN; split <;> split <;> omega
theorem adN_0 (a : Nat) : adN 0 a = a := by unfold adN; split <;> omega
/-- home from the last of a row behind r -/
def wl (c : Co) (r : Nat) : List Nat → Nat
  | [] => hmN c r
  | b :: t => btN c r b + wl c b t
theorem wrF_l {c : Co} : ∀ (t : List Nat) (r v : Nat), r < cnr c → (∀ x ∈ t, x < cnr c) → wrF c t (crx c r) (cry c r) v = v + wl c r t
  | [], r, v, hr, _ => by
    unfold wrF wl hmN
    rw [if_pos hr, Nat.add_assoc]
  | b :: t, r, v, hr, h => by
    have hb := h b (List.mem_cons_self ..)
    rw [wrF, wrF_l t b _ hb (fun x hx => h x (List.mem_cons_of_mem _ hx)), wl]
    unfold btN
    rw [if_pos ⟨hr, hb⟩, Nat.add_assoc]
theorem wc_l {c : Co} : ∀ (t : List Nat) (r : Nat), r < cnr c → (∀ x ∈ t, x < cnr c) → wc c (r :: t) = wl c r t
  | [], _, _, _ => rfl
  | b :: t, r, hr, h => by
    have hb := h b (List.mem_cons_self ..)
    rw [wc, wc_l t b hb (fun x hx => h x (List.mem_cons_of_mem _ hx)), wl, Nat.add_comm]
    congr 1
    unfold btN
    rw [if_pos ⟨hb, hr⟩, if_pos ⟨hr, hb⟩, adN_sym, adN_sym (cry c b)]
theorem wrN_W {c : Co} {l : List Nat} (h : ∀ x ∈ l, x < cnr c) : wrN c l = wW c l := by
  cases l with
  | nil => rfl
  | cons r t =>
    have hr := h r (List.mem_cons_self ..)
    have ht : ∀ x ∈ t, x < cnr c := fun x hx => h x (List.mem_cons_of_mem _ hx)
    show wrF c (r :: t) 0 0 0 = wc c (r :: t) + hmN c r
    rw [wrF, wrF_l t r _ hr ht, wc_l t r hr ht, adN_0, adN_0, Nat.zero_add]
    unfold hmN
    rw [if_pos hr, Nat.add_comm]
/-- the least so far -/
def mlF (c : Co) : List (List Nat) → Nat → Nat
  | [], a => a
  | o :: t, a => mlF c t (if wrN c o < a then wrN c o else a)
theorem mlF_min {c : Co} : ∀ (L : List (List Nat)) (a : Nat), a ≤ 1000000 → mlF c L a = min a (mnL (L.map (wrN c)))
  | [], a, h => by show a = min a 1000000; omega
  | o :: t, a, h => by
    show mlF c t (if wrN c o < a then wrN c o else a) = min a (min (wrN c o) (mnL (t.map (wrN c))))
    rw [mlF_min t _ (by split <;> omega)]
    split <;> omega
theorem wrF_le {c : Co} (ok : Cok c) : ∀ (l : List Nat) (x y v : Nat), (∀ r ∈ l, r < cnr c) → x ≤ 99 → y ≤ 99 → wrF c l x y v ≤ v + 198 + 198 * l.length
  | [], x, y, v, _, hx, hy => by show v + x + y ≤ v + 198 + 198 * 0; omega
  | r :: t, x, y, v, h, hx, hy => by
    have hr := h r (List.mem_cons_self ..)
    have hk := ok.2.2.2.2.2.2.2 r hr
    have h1 := adN_le hx hk.1
    have h2 := adN_le hy hk.2.1
    have := wrF_le ok t (crx c r) (cry c r) (v + (adN x (crx c r) + adN y (cry c r))) (fun q hq => h q (List.mem_cons_of_mem _ hq)) hk.1 hk.2.1
    show wrF c t _ _ _ ≤ v + 198 + 198 * (t.length + 1)
    omega
theorem boat_eq {c : Co} (ok : Cok c) {s : Nat} (hs : s < 64) (hin : ∀ x, s.testBit x = true → x < cnr c) : nI (mlF c (visN 720 (bitsL s)) (wrN c (bitsL s))) = wyR c s := by
  have hall : ∀ l ∈ ordA s, ∀ x ∈ l, x < cnr c := fun l hl x hx => hin x ((ord_ok s hs l hl).2.2 x hx).2
  have hv := vis_all s hs
  have h0 : bitsL s ∈ ordA s := by rw [← hv]; exact List.mem_cons_self ..
  have hle : wrN c (bitsL s) ≤ 1000000 := by
    have h1 := wrF_le ok (bitsL s) 0 0 0 (hall _ h0) (by decide) (by decide)
    have h2 := (ord_ok s hs _ h0).1
    have : wrN c (bitsL s) = wrF c (bitsL s) 0 0 0 := rfl
    omega
  rw [wyR_D ok hs, mlF_min _ _ hle]
  congr 1
  have e : (ordA s).map (wW c) = (ordA s).map (wrN c) := List.map_congr_left fun l hl => (wrN_W (hall l hl)).symm
  rw [e, ← hv]
  rfl
