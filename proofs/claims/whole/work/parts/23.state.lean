/-! ===== all that the class keeps, as a value ===== -/
abbrev Ms : Type := (Co × Option Co) × ((Nat → Int32) × Nat) × ((Nat → Nat) × Nat) × (Nat → Int32)
def mc (M : Ms) : Co := M.1.1
def mi (M : Ms) : Option Co := M.1.2
def mtx (M : Ms) : Nat → Int32 := M.2.1.1
def mL (M : Ms) : Nat := M.2.1.2
def mrw (M : Ms) : Nat → Nat := M.2.2.1.1
def mrl (M : Ms) : Nat := M.2.2.1.2
def mrf (M : Ms) : Nat → Int32 := M.2.2.2
def wC (M : Ms) (c : Co) : Ms := ((c, M.1.2), M.2)
def wI (M : Ms) (i : Option Co) : Ms := ((M.1.1, i), M.2)
def wT (M : Ms) (tx : Nat → Int32) (L : Nat) : Ms := (M.1, (tx, L), M.2.2)
def wR (M : Ms) (rw : Nat → Nat) (rl : Nat) : Ms := (M.1, M.2.1, (rw, rl), M.2.2.2)
def wF (M : Ms) (rf : Nat → Int32) : Ms := (M.1, M.2.1, M.2.2.1, rf)
/-- a refusal of kind k, told as v -/
def no (M : Ms) (k : Nat) (v : Int32) : Int32 × Ms := (v, wF M (zup (mrf M) k (mrf M k + 1)))
/-- a refusal by its number -/
def noV (M : Ms) (v : Int32) : Int32 × Ms := no M (0 - v).toNatClampNeg v
/-- the class as it stands in the world -/
def CI (S : ZS) (n : Nat) (M : Ms) : Prop := (cV S n 1 (mc M) ∧ Cok (mc M)) ∧ (S.1 0 3 = zb (mi M).isSome ∧ ∀ c, mi M = some c → cV S n 13 c ∧ Cok c) ∧ lV S (mtx M) (mL M) ∧
  (S.1 0 7 = nI (mrl M) ∧ mrl M ≤ 12 ∧ ∀ k, k < mrl M → S.1 23 k = nI (mrw M k) ∧ mrw M k ≤ 48) ∧ ∀ k, k < 7 → S.1 24 k = mrf M k
theorem CI.cv {S : ZS} {n : Nat} {M : Ms} (h : CI S n M) : cV S n 1 (mc M) := h.1.1
theorem CI.ok {S : ZS} {n : Nat} {M : Ms} (h : CI S n M) : Cok (mc M) := h.1.2
def pR (S : ZS) (n : Nat) (p : Int32 × Ms) (r : Option Value) (ω : ZW) : Prop := r = some (.int p.1) ∧ ∃ S' n', ω = zw S' n' ∧ frm 0 24 S n S' n' ∧ CI S' n' p.2
theorem pR.st {S : ZS} {n : Nat} {M : Ms} (h : CI S n M) {v : Int32} {p : Int32 × Ms} (e : p = (v, M)) : pR S n p (some (.int v)) (zw S n) := by
  subst e
  exact ⟨rfl, S, n, rfl, frm.rf, h⟩
theorem lV_frm2 {lo hi : Nat} {S S' : ZS} {n n' : Nat} {tx : Nat → Int32} {L : Nat} (h : lV S tx L) (f : frm lo hi S n S' n') (hh : 22 < lo ∨ hi < 21) : lV S' tx L :=
  ⟨by rw [(f.2.2 21 (by omega)).1]; exact h.1, h.2.1, fun k hk => by rw [(f.2.2 22 (by omega)).1]; exact h.2.2 k hk⟩
theorem CI_no {S : ZS} {n : Nat} {M : Ms} (h : CI S n M) {k : Nat} (hk : k < 7) (v : Int32) : CI (sA S 24 k (S.1 24 k + 1)) n (no M k v).2 := by
  obtain ⟨h1, h2, h3, h4, h5⟩ := h
  have f : frm 24 24 S n (sA S 24 k (S.1 24 k + 1)) n := frm.rf.sA k _ (by decide) (by decide)
  have g := f.2.2
  refine ⟨⟨cV_frm h1.1 f (by decide), h1.2⟩, ⟨by rw [(g 0 (by decide)).1]; exact h2.1, fun c hc => ⟨cV_frm (h2.2 c hc).1 f (by decide), (h2.2 c hc).2⟩⟩, lV_frm2 h3 f (by decide), ⟨by rw [(g 0 (by decide)).1]; exact h4.1, h4.2.1, fun j hj => by rw [(g 23 (by decide)).1]; exact h4.2.2 j hj⟩, fun j hj => ?_⟩
  show zup S.1 24 (zup (S.1 24) k (S.1 24 k + 1)) 24 j = zup (mrf M) k (mrf M k + 1) j
  rw [zup_same]
  by_cases e : j = k
  · subst e; rw [zup_same, zup_same, h5 j hj]
  · rw [zup_ne _ _ e, zup_ne _ _ e, h5 j hj]
theorem pR.no {S : ZS} {n : Nat} {M : Ms} (h : CI S n M) {k : Nat} (hk : k < 7) {v : Int32} {p : Int32 × Ms} (e : p = no M k v) : pR S n p (some (.int v)) (zw (sA S 24 k (S.1 24 k + 1)) n) := by
  subst e
  exact ⟨rfl, _, n, rfl, frm.rf.sA k _ (by decide) (by decide), CI_no h hk v⟩
/-! ===== the shore, as the document has it ===== -/
def shS (c : Co) (t p : Nat) : Bool := decide (p = 0) || (decide (p ≤ cny c) && dryS c t (cso c p))
theorem inS_so {c : Co} (ok : Cok c) {k p : Nat} (hk : k < cns c) (h1 : 1 ≤ p) (h2 : p ≤ cny c) : inS c k p = decide (cso c p = k) := by
  have := ok.2.2.2.2.2.2.1 k hk p h1 h2
  unfold inS plF
  rw [← Bool.decide_and]
  exact decide_eq_decide.mpr (by rw [← this])
theorem inS_rng {c : Co} (ok : Cok c) {k p : Nat} (hk : k < cns c) (h : inS c k p = true) : 1 ≤ p ∧ p ≤ cny c := by
  have := ok.2.2.2.2.1 k hk
  unfold inS plF at h
  simp at h
  omega
theorem shF_ge {c : Co} {t : Nat} (ok : Cok c) : ∀ i p, shF c t i p = (decide (p = 0) || (decide (1 ≤ p ∧ p ≤ cny c ∧ cso c p < i) && dryS c t (cso c p)))
  | 0, p => by simp [shF]
  | i + 1, p => by
    rw [shF, shF_ge ok i p]
    by_cases h0 : p = 0
    · simp [h0]
    by_cases hp : 1 ≤ p ∧ p ≤ cny c
    · by_cases hi : i < cns c
      · rw [inS_so ok hi hp.1 hp.2]
        by_cases e : cso c p = i
        · simp [h0, hi, e, hp.2]; omega
        · have : cso c p < i + 1 ↔ cso c p < i := by omega
          simp [h0, hi, e, this]
      · have := ok.2.2.2.2.2.1 p hp.1 hp.2
        have h1 : cso c p < i := by omega
        have h2 : cso c p < i + 1 := by omega
        simp [h0, hi, h1, h2]
    · have : ∀ x : Prop, ¬ (1 ≤ p ∧ p ≤ cny c ∧ x) := fun x h => hp ⟨h.1, h.2.1⟩
      simp only [this, h0, decide_false, Bool.false_and, Bool.or_false, Bool.false_or]
      by_cases hi : i < cns c
      · have : inS c i p = false := by
          cases e : inS c i p
          · rfl
          · exact absurd (inS_rng ok hi e) hp
        rw [this]; simp
      · simp [hi]
theorem shF_8 {c : Co} (ok : Cok c) (t : Nat) : shF c t 8 = shS c t := by
  funext p
  rw [shF_ge ok]
  unfold shS
  by_cases h0 : p = 0
  · simp [h0]
  by_cases hp : p ≤ cny c
  · have := ok.2.2.2.2.2.1 p (by omega) hp
    have := ok.1
    have h1 : 1 ≤ p ∧ p ≤ cny c ∧ cso c p < 8 := ⟨by omega, hp, by omega⟩
    simp [h0, h1]
  · have h1 : ¬ (1 ≤ p ∧ p ≤ cny c ∧ cso c p < 8) := fun h => hp h.2.1
    simp [h0, h1, hp]
theorem shS_le {c : Co} {t p : Nat} (h : shS c t p = true) : p ≤ cny c := by
  unfold shS at h
  simp at h
  omega
theorem shS_0 (c : Co) (t : Nat) : shS c t 0 = true := rfl
/-! ===== sets of places as lists ===== -/
theorem mbF_list (f : Nat → Bool) : ∀ (m p : Nat) (l : List Nat) (i : Nat), l.Pairwise (· < ·) → (∀ x ∈ l, p ≤ x ∧ x < p + m) → (∀ x, p ≤ x → x < p + m → f x = decide (x ∈ l)) → i < 1000 → mbF f m p (nI i) = oI l[i]?
  | 0, p, l, i, _, h, _, _ => by
    cases l with
    | nil => rfl
    | cons a t => have := h a (List.mem_cons_self ..); omega
  | m + 1, p, l, i, hp, h, hf, hi => by
    unfold mbF
    rw [hf p (by omega) (by omega)]
    by_cases hm : p ∈ l
    · cases l with
      | nil => cases hm
      | cons a t =>
        have e : a = p := by
          rcases List.mem_cons.mp hm with e | e
          · exact e.symm
          · have := List.rel_of_pairwise_cons hp e
            have := h a (List.mem_cons_self ..)
            omega
        subst e
        rw [if_pos (by simp)]
        cases i with
        | zero => rw [if_pos (show nI 0 = 0 from rfl)]; rfl
        | succ i =>
          rw [if_neg (fun h => by have := (nI_eqn (a := i + 1) (b := 0) (by omega) (by decide)).mp h; omega), nI_dec (by omega)]
          rw [mbF_list f m (a + 1) t (i + 1 - 1) hp.of_cons (fun x hx => ?_) (fun x h1 h2 => ?_) (by omega)]
          · rfl
          · have := List.rel_of_pairwise_cons hp hx
            have := h x (List.mem_cons_of_mem _ hx)
            omega
          · rw [hf x (by omega) (by omega)]
            refine decide_eq_decide.mpr ⟨fun hx => ?_, fun hx => List.mem_cons_of_mem _ hx⟩
            rcases List.mem_cons.mp hx with e | e
            · omega
            · exact e
    · rw [if_neg (by simp [hm])]
      refine mbF_list f m (p + 1) l i hp (fun x hx => ?_) (fun x h1 h2 => hf x (by omega) (by omega)) hi
      have := h x hx
      have : x ≠ p := fun e => hm (e ▸ hx)
      omega
theorem getLast_max : ∀ {l : List Nat} {a : Nat}, l.Pairwise (· < ·) → l.getLast? = some a → a ∈ l ∧ ∀ x ∈ l, x ≤ a
  | [], a, _, h => by cases h
  | [b], a, _, h => by
    have h1 : b = a := by simpa using h
    subst h1
    exact ⟨List.mem_cons_self .., fun x hx => by simp at hx; omega⟩
  | b :: d :: t, a, hp, h => by
    rw [List.getLast?_cons_cons] at h
    obtain ⟨h1, h2⟩ := getLast_max hp.of_cons h
    refine ⟨List.mem_cons_of_mem _ h1, fun x hx => ?_⟩
    rcases List.mem_cons.mp hx with e | e
    · subst e
      exact Nat.le_of_lt (List.rel_of_pairwise_cons hp h1)
    · exact h2 x e
theorem lsF_max (f : Nat → Bool) {a : Nat} (ha : f a = true) : ∀ m, a < m → (∀ x, x < m → f x = true → x ≤ a) → lsF f m = nI a
  | 0, h, _ => by omega
  | m + 1, h, hm => by
    unfold lsF
    by_cases e : a = m
    · subst e; rw [if_pos ha]
    · have h1 : ¬ f m = true := fun h2 => by have := hm m (by omega) h2; omega
      rw [if_neg h1]
      exact lsF_max f ha m (by omega) fun x hx h2 => hm x (by omega) h2
theorem lsF_none (f : Nat → Bool) : ∀ m, (∀ x, x < m → f x = false) → lsF f m = -9
  | 0, _ => rfl
  | m + 1, h => by unfold lsF; rw [if_neg (by rw [h m (by omega)]; decide)]; exact lsF_none f m fun x hx => h x (by omega)
theorem lsF_list {l : List Nat} (hp : l.Pairwise (· < ·)) (hb : ∀ x ∈ l, x < 49) : lsF (fun k => decide (k ∈ l)) 49 = oI l.getLast? := by
  cases e : l.getLast? with
  | none =>
    have : l = [] := by simpa using e
    subst this
    exact lsF_none _ _ fun x _ => by simp
  | some a =>
    obtain ⟨h1, h2⟩ := getLast_max hp e
    exact lsF_max _ (by simpa using h1) _ (hb a h1) fun x _ hx => h2 x (by simpa using hx)
theorem zct_add (f : Nat → Bool) (a : Nat) : ∀ m, zct f (a + m) = zct f a + zct (fun i => f (a + i)) m
  | 0 => rfl
  | m + 1 => by rw [← Nat.add_assoc, zct, zct, zct_add f a m]; omega
theorem zct_off (f : Nat → Bool) (a : Nat) : ∀ m, (∀ i, i < m → f (a + i) = false) → zct f (a + m) = zct f a := fun m h => by
  rw [zct_add, zct_cong (g := fun _ => false) m (fun k hk => h k hk), zct_none]; rfl
theorem zmk_shr {f : Nat → Bool} {k : Nat} (hk : k < 64) (h63 : f 63 = false) : zmk f >>> ((nI k).toInt64 &&& 63) = zmk (fun i => decide (k + i < 64) && f (k + i)) := zmk_of fun i hi => by
  rw [zbt_shr hk _ hi]
  split
  · rename_i h; rw [zmk_bt f h]; simp [h]
  · rename_i h; rw [zmk_bt f (by decide), h63]; simp [h]
theorem low_and {f : Nat → Bool} {a : Nat} (ha : a < 64) (hf : f a = true) (hl : ∀ k, k < a → f k = false) : zmk f &&& (zmk f - 1) = zmk (fun k => f k && !decide (k = a)) := by
  have hb := znb_bit f 64
  have hN : znb f 64 % 2 ^ (a + 1) = 2 ^ a := by
    refine Nat.eq_of_testBit_eq fun j => ?_
    rw [Nat.testBit_mod_two_pow, hb, Nat.testBit_two_pow]
    by_cases h1 : j < a
    · rw [hl j h1]; have : a ≠ j := by omega
      simp [this]
    · by_cases h2 : j = a
      · subst h2; simp [hf, ha]
      · have h3 : ¬ j < a + 1 := by omega
        have h4 : a ≠ j := by omega
        simp [h3, h4]
  have hd := Nat.div_add_mod (znb f 64) (2 ^ (a + 1))
  have hp := Nat.two_pow_pos a
  have hp2 : 2 ^ (a + 1) = 2 * 2 ^ a := by rw [Nat.pow_succ, Nat.mul_comm]
  have h1 : zmk f - 1 = Int64.ofBitVec (BitVec.ofNat 64 (znb f 64 - 1)) := by
    refine Int64.toBitVec_inj.mp ?_
    show BitVec.ofNat 64 (znb f 64) - 1#64 = BitVec.ofNat 64 (znb f 64 - 1)
    have hlt := znb_lt f 64
    apply BitVec.eq_of_toNat_eq
    rw [BitVec.toNat_sub, BitVec.toNat_ofNat, BitVec.toNat_ofNat, BitVec.toNat_ofNat]
    omega
  refine zmk_of fun i hi => ?_
  rw [zbt_and, zmk_bt f hi, h1]
  show (f i && (BitVec.ofNat 64 (znb f 64 - 1)).getLsbD i) = _
  rw [BitVec.getLsbD_ofNat, show znb f 64 - 1 = 2 ^ (a + 1) * (znb f 64 / 2 ^ (a + 1)) + (2 ^ a - 1) by omega, Nat.testBit_two_pow_mul_add _ (by omega)]
  by_cases h2 : i < a + 1
  · rw [if_pos h2, Nat.testBit_two_pow_sub_one]
    by_cases h3 : i = a
    · subst h3; simp
    · rw [hl i (by omega)]; simp
  · rw [if_neg h2, Nat.testBit_div_two_pow, hb]
    have h3 : i ≠ a := by omega
    rw [show i - (a + 1) + (a + 1) = i by omega]
    simp [hi, h3]
theorem low_list {l : List Nat} (hp : l.Pairwise (· < ·)) (hb : ∀ x ∈ l, x < 64) : lmk l &&& (lmk l - 1) = lmk l.tail := by
  cases l with
  | nil => unfold lmk; rw [show (fun k => decide (k ∈ ([] : List Nat))) = (fun _ => false) from funext fun k => by simp, ← zmk_0]; decide
  | cons a t =>
    unfold lmk
    rw [low_and (a := a) (hb a (List.mem_cons_self ..)) (by simp) (fun k hk => ?_)]
    · congr 1
      funext k
      have : a ∉ t := fun h => by have := List.rel_of_pairwise_cons hp h; omega
      rw [Bool.eq_iff_iff]
      by_cases e : k = a
      · subst e; simp [this]
      · simp [e]; exact decide_eq_true_iff.symm
    · have : k ∉ a :: t := fun h => by
        rcases List.mem_cons.mp h with e | e
        · omega
        · have := List.rel_of_pairwise_cons hp e; omega
      simp [this]
/-- what is due for steps that end at these places -/
def feL (c : Co) (l : List Nat) : Nat := (l.map fun p => feeS c (cso c p)).sum
theorem zct_filter {l : List Nat} (g : Nat → Bool) (hp : l.Pairwise (· < ·)) (hb : ∀ x ∈ l, x < 64) : zct (fun k => decide (k ∈ l) && g k) 64 = (l.filter g).length := by
  rw [← zct_list (l.filter g) 64 (hp.sublist (List.filter_sublist ..)) (fun x hx => hb x (List.mem_filter.mp hx).1)]
  refine zct_cong 64 fun k _ => ?_
  rw [← Bool.decide_coe (g k), ← Bool.decide_and]
  exact decide_eq_decide.mpr (by rw [List.mem_filter])
theorem sum_at (fe so : Nat → Nat) (i : Nat) : ∀ l : List Nat, (l.map fun p => if so p < i + 1 then fe (so p) else 0).sum = (l.map fun p => if so p < i then fe (so p) else 0).sum + fe i * (l.filter fun p => decide (so p = i)).length
  | [] => by simp
  | a :: t => by
    have := sum_at fe so i t
    rw [List.map_cons, List.map_cons, List.sum_cons, List.sum_cons, this, List.filter_cons]
    by_cases h : so a = i
    · rw [if_pos (by omega), if_neg (by omega), if_pos (by simpa using h), List.length_cons, Nat.mul_add, h]; omega
    · by_cases h2 : so a < i
      · rw [if_pos (by omega), if_pos h2, if_neg (by simpa using h)]; omega
      · rw [if_neg (by omega), if_neg h2, if_neg (by simpa using h)]; omega
theorem fsF_list {c : Co} (ok : Cok c) {l : List Nat} (hp : l.Pairwise (· < ·)) (hb : ∀ x ∈ l, 1 ≤ x ∧ x ≤ cny c) : ∀ i, fsF c (fun k => decide (k ∈ l)) i = (l.map fun p => if cso c p < i then feeS c (cso c p) else 0).sum
  | 0 => by
    unfold fsF
    induction l with
    | nil => rfl
    | cons a t ih => rw [List.map_cons, List.sum_cons, ← ih hp.of_cons fun x hx => hb x (List.mem_cons_of_mem _ hx)]; rfl
  | i + 1 => by
    rw [sum_at (feeS c) (cso c) i l, ← fsF_list ok hp hb i, fsF]
    congr 1
    by_cases hi : i < cns c
    · rw [if_pos hi]
      congr 1
      rw [zct_filter _ hp fun x hx => by have := hb x hx; have := ok.2.1; omega]
      congr 1
      refine List.filter_congr fun x hx => ?_
      exact inS_so ok hi (hb x hx).1 (hb x hx).2
    · rw [if_neg hi]
      have : (l.filter fun p => decide (cso c p = i)) = [] := by
        rw [List.filter_eq_nil_iff]
        intro x hx
        have := ok.2.2.2.2.2.1 x (hb x hx).1 (hb x hx).2
        simp; omega
      rw [this]; rfl
theorem fsF_8 {c : Co} (ok : Cok c) {l : List Nat} (hp : l.Pairwise (· < ·)) (hb : ∀ x ∈ l, 1 ≤ x ∧ x ≤ cny c) : fsF c (fun k => decide (k ∈ l)) 8 = feL c l := by
  rw [fsF_list ok hp hb 8]
  unfold feL
  congr 1
  refine List.map_congr_left fun x hx => ?_
  have := ok.2.2.2.2.2.1 x (hb x hx).1 (hb x hx).2
  have := ok.1
  rw [if_pos (by omega)]
/-! ===== what each call answers, and what is then kept ===== -/
def idx (a : Int32) (n : Nat) : Option Nat := if a < 0 ∨ nI n ≤ a then none else some a.toNatClampNeg
theorem idx_none {a : Int32} {n : Nat} (h : a < 0 ∨ nI n ≤ a) : idx a n = none := by unfold idx; rw [if_pos h]
theorem idx_some {k n : Nat} (hk : k < n) (hn : n < 2147483648) : idx (nI k) n = some k := by
  unfold idx
  rw [if_neg (by rw [nI_len hn (by omega)]; have := nI_neg (k := k) (by omega); simp [this]; omega), nI_nat (by omega)]
def mcf (M : Ms) : Nat → Bool := shS (mc M) (ctd (mc M))
def spFeed (M : Ms) (a : Int32) : Int32 × Ms := if a < 0 then no M 4 (-4) else if 255 < a ∨ mL M = 80 then no M 6 (-6) else (nI (mL M + 1), wT M (zup (mtx M) (mL M) a) (mL M + 1))
def spCoast (M : Ms) : Int32 × Ms := match psF (mtx M) (mL M) 80 0 with
  | .inr q => (-1000 - nI q, wT M (mtx M) 0)
  | .inl l => match rdF (mtx M) (mL M) l (mc M) 0 with
    | .inl (k, c) => (nI k, wC (wT M (mtx M) 0) c)
    | .inr p => (-2000 - nI p, wT M (mtx M) 0)
def spStretch (M : Ms) (s w : Int32) : Int32 × Ms := match idx s (cns (mc M)) with
  | none => no M 1 (-1)
  | some k => if w = 0 then (nI (ckd (mc M) k), M) else if w = 1 then (nI (cfg (mc M) k), M) else if w = 2 then (nI (cln (mc M) k), M) else if w = 3 then (nI (cfs (mc M) k), M)
    else if w = 4 then (zb (dryS (mc M) (ctd (mc M)) k), M) else if w = 5 then (nI (feeS (mc M) k), M) else no M 2 (-2)
def spPoint (M : Ms) (p w : Int32) : Int32 × Ms := match idx p (cny (mc M) + 1) with
  | none => (1000000001, (no M 1 0).2)
  | some k => if w = 0 then (cxs (mc M) k, M) else if w = 1 then (cys (mc M) k, M) else (1000000002, (no M 2 0).2)
def spShore (M : Ms) (p : Int32) : Int32 × Ms := match idx p (cny (mc M) + 1) with
  | none => no M 1 (-1)
  | some k => (zb (mcf M k), M)
def spTide (M : Ms) (v : Int32) : Int32 × Ms := if v < 0 then no M 4 (-4) else if 9 < v then no M 6 (-6) else (nI (ctd (mc M)), wC M (setTd (mc M) v.toNatClampNeg))
/-- PAY -/
def pyS (c : Co) (f : Nat → Bool) (r : Int32) (b : Nat) : Int32 := r * nI ((WL c f r b).length - 1) + nI (feL c (WL c f r b).tail)
/-- how many places of shore lie behind the walk's last -/
def ovS (f : Nat → Bool) (l : List Nat) : Nat := match l.getLast? with
  | none => 0
  | some a => zct (fun p => decide (a < p) && f p) 49
def spWalk (M : Ms) (r b w : Int32) : Int32 × Ms := if w < 0 ∨ 4 < w then no M 2 (-2) else if ¬ wrI r b = 0 then noV M (wrI r b) else
  if w = 0 then (nI ((WL (mc M) (mcf M) r b.toNatClampNeg).length - 1), M) else if w = 1 then (mlS (mc M) (mcf M) r b.toNatClampNeg, M)
  else if w = 2 then (pyS (mc M) (mcf M) r b.toNatClampNeg, M) else if w = 3 then (oI (WL (mc M) (mcf M) r b.toNatClampNeg).getLast?, M) else (nI (ovS (mcf M) (WL (mc M) (mcf M) r b.toNatClampNeg)), M)
def spPlace (M : Ms) (r b i : Int32) : Int32 × Ms := if i < 0 then no M 4 (-4) else if ¬ wrI r b = 0 then noV M (wrI r b) else (oI (WL (mc M) (mcf M) r b.toNatClampNeg)[i.toNatClampNeg]?, M)
/-- the best so far, over the m kinds of walk from k on -/
def bsF (v : Nat → Int32) (w : Int32) : Nat → Nat → Option (Nat × Int32) → Option (Nat × Int32)
  | 0, _, s => s
  | m + 1, k, s => bsF v w m (k + 1) (match s with
    | none => some (10 + k, v k)
    | some (q, a) => if (if w = 1 then v k < a else a < v k) then some (10 + k, v k) else some (q, a))
def bsW (s : Option (Nat × Int32)) : Int32 := match s with
  | none => -9
  | some (q, _) => nI q
def bsA (s : Option (Nat × Int32)) : Int32 := match s with
  | none => 0
  | some (_, a) => a
def bsV (M : Ms) (w : Int32) (k : Nat) : Int32 := if w = 2 then mlS (mc M) (mcf M) (nI (1 + k / 10)) (k % 10) else pyS (mc M) (mcf M) (nI (1 + k / 10)) (k % 10)
def spBest (M : Ms) (w h : Int32) : Int32 × Ms := if w < 0 ∨ 2 < w ∨ h < 0 ∨ 1 < h then no M 2 (-2) else (if h = 0 then bsW (bsF (bsV M w) w 90 0 none) else bsA (bsF (bsV M w) w 90 0 none), M)
def snF (v : Nat → Int32) : Nat → Nat → Int32 × Int32 → Int32 × Int32
  | 0, _, s => s
  | m + 1, b, s => snF v m (b + 1) (if s.1 < v b then v b else s.1, if v b < s.2 then v b else s.2)
def spSpan (M : Ms) (r : Int32) : Int32 × Ms := if ¬ wrI r 0 = 0 then noV M (wrI r 0) else
  ((snF (mlS (mc M) (mcf M) r) 9 1 (mlS (mc M) (mcf M) r 0, mlS (mc M) (mcf M) r 0)).1 - (snF (mlS (mc M) (mcf M) r) 9 1 (mlS (mc M) (mcf M) r 0, mlS (mc M) (mcf M) r 0)).2, M)
def fnF (v : Nat → Int32) : Nat → Nat → Nat → Nat
  | 0, _, q => q
  | m + 1, r, q => fnF v m (r + 1) (if v (r - 1) < v r then q + 1 else q)
def spFiner (M : Ms) (b : Int32) : Int32 × Ms := if ¬ wrI 1 b = 0 then noV M (wrI 1 b) else (nI (fnF (fun r => mlS (mc M) (mcf M) (nI r) b.toNatClampNeg) 8 2 0), M)
def t2I (r o : Int32) : Int32 := if r < 1 ∨ o < 1 then -4 else if 9 < r ∨ 9 < o then -6 else 0
def twS (M : Ms) (r o : Int32) : Tw := twN (mcf M) (frS (mc M) r) (frS (mc M) o) (cny (mc M)) 48 (0, (lsF (mcf M) 49).toNatClampNeg, 0, 0)
def spTwo (M : Ms) (r o w : Int32) : Int32 × Ms := if w < 0 ∨ 1 < w then no M 2 (-2) else if ¬ t2I r o = 0 then noV M (t2I r o) else (if w = 0 then r * nI (twS M r o).2.2.1 else o * nI (twS M r o).2.2.2, M)
def mpF (v : Nat → Int32) (w : Int32) : Nat → Nat → Nat × Option Nat → Nat × Option Nat
  | 0, _, s => s
  | m + 1, k, s => mpF v w m (k + 1) (if v k = w then (s.1 + 1, match s.2 with
    | none => some (100 + k)
    | some x => some x) else s)
def mpV (M : Ms) (k : Nat) : Int32 := mlS (mc M) (shS (mc M) (k % 10)) (nI (1 + k / 100)) (k / 10 % 10)
def spMap (M : Ms) (m w : Int32) : Int32 × Ms := if w < 0 ∨ 1 < w then no M 2 (-2) else if m < 0 then no M 4 (-4) else
  (if w = 0 then nI (mpF (mpV M) m 900 0 (0, none)).1 else oI (mpF (mpV M) m 900 0 (0, none)).2, M)
def spRock (M : Ms) (s w : Int32) : Int32 × Ms := match idx s (cnr (mc M)) with
  | none => no M 1 (-1)
  | some k => if w = 0 then (nI (crx (mc M) k), M) else if w = 1 then (nI (cry (mc M) k), M) else if w = 2 then (nI (clw (mc M) k), M) else if w = 3 then (nI (chg (mc M) k), M)
    else if w = 4 then (zb (islB (mc M) (ctd (mc M)) k), M) else no M 2 (-2)
def isN (M : Ms) : Nat := znb (islB (mc M) (ctd (mc M))) 6
def spIslands (M : Ms) : Int32 × Ms := (nI (isN M), M)
def spHours (M : Ms) (w : Int32) : Int32 × Ms := if w < 0 ∨ 1 < w then no M 2 (-2) else
  (if w = 0 then nI (bc (fhF (shA (mc M)) 1024 0 1023)) else nI (fhF (shA (mc M)) 1024 0 1023), M)
def spBoat (M : Ms) : Int32 × Ms := (rtV (mc M) (fun _ => 0) (isN M), M)
def cuS (M : Ms) (k : Nat) (r : Int32) : Int32 := mlS (mc M) (fun p => mcf M p && !inS (mc M) k p) r 0
def spCut (M : Ms) (s r : Int32) : Int32 × Ms := match idx s (cns (mc M)) with
  | none => no M 1 (-1)
  | some k => if ¬ wrI r 0 = 0 then noV M (wrI r 0) else (cuS M k r, M)
def wcF (v : Nat → Int32) : Nat → Nat → Option (Nat × Int32) → Option (Nat × Int32)
  | 0, _, s => s
  | m + 1, k, s => wcF v m (k + 1) (match s with
    | none => some (k, v k)
    | some (q, a) => if v k < a then some (k, v k) else some (q, a))
def spWorst (M : Ms) (r : Int32) : Int32 × Ms := if ¬ wrI r 0 = 0 then noV M (wrI r 0) else (bsW (wcF (fun k => cuS M k r) (cns (mc M)) 0 none), M)
def spCopy (M : Ms) (k r : Int32) : Int32 × Ms := if ¬ t2I k r = 0 then noV M (t2I k r) else (mlS (mc M) (evF (mcf M) k.toNatClampNeg 49 0 0 (fun _ => false)) r 0, M)
def suF (c : Co) (f : Nat → Bool) : Nat → Nat → Bool
  | 0, p => f p
  | r + 1, p => suF c f r p && decide (p ∈ WL c f (nI (r + 1)) 0)
def spSure (M : Ms) (r : Int32) : Int32 × Ms := if ¬ wrI r 0 = 0 then noV M (wrI r 0) else (nI (zct (suF (mc M) (mcf M) r.toNatClampNeg) 64), M)
def spRow (M : Ms) (p : Int32) : Int32 × Ms := if p < 0 then no M 4 (-4) else if 48 < p ∨ mrl M = 12 then no M 6 (-6) else (nI (mrl M + 1), wR M (zup (mrw M) (mrl M) p.toNatClampNeg) (mrl M + 1))
def jdF (l : List Nat) (rw : Nat → Nat) : Nat → Nat → Option Nat
  | 0, _ => none
  | m + 1, k => if l[k]? = some (rw k) then jdF l rw m (k + 1) else some k
def spJudge (M : Ms) (r b : Int32) : Int32 × Ms := if ¬ wrI r b = 0 then noV M (wrI r b) else (oI (jdF (WL (mc M) (mcf M) r b.toNatClampNeg) (mrw M) (mrl M) 0), wR M (mrw M) 0)
/-- the next state of the lots -/
def lt1 (z : Int32) : Int32 := z * 1103515245 + 12345
/-- the state's lower bits as a number -/
def loN (z : Int32) : Nat := z.toBitVec.toNat % 2147483648
/-- a draw below k -/
def drN (k : Nat) (z : Int32) : Nat := loN z / 65536 % k
/-- one walk by lot: rod, begin, hour, in this order -/
def sdS (c : Co) (s : Int32 × Int32) : Int32 × Int32 := (lt1 (lt1 (lt1 s.1)), s.2 + mlS c (shS c (drN 10 (lt1 (lt1 (lt1 s.1))))) (1 + nI (drN 9 (lt1 s.1))) (drN 10 (lt1 (lt1 s.1))))
def itF {α : Type} (g : α → α) : Nat → α → α
  | 0, s => s
  | m + 1, s => itF g m (g s)
def sdF (c : Co) (m : Nat) (s : Int32 × Int32) : Int32 := (itF (sdS c) m s).2
def spSeeds (M : Ms) (q z : Int32) : Int32 × Ms := if q < 1 then no M 4 (-4) else if 60 < q then no M 6 (-6) else (sdF (mc M) q.toNatClampNeg (z, 0), M)
def spImage (M : Ms) : Int32 × Ms := (nI (cny (mc M)), wI M (some (mc M)))
def spRestore (M : Ms) : Int32 × Ms := match mi M with
  | none => no M 3 (-3)
  | some c => (nI (cny c), wC M c)
def spCount (M : Ms) (w : Int32) : Int32 × Ms := if w = 0 then (nI (cns (mc M)), M) else if w = 1 then (nI (cny (mc M)), M) else if w = 2 then (nI (ctd (mc M)), M) else if w = 3 then (nI (zct (mcf M) 64), M)
  else if w = 4 then (nI (cnr (mc M)), M) else if w = 5 then (nI (mL M), M) else if w = 6 then (nI (mrl M), M) else if w = 7 then (nI (faF (mc M) 8), M) else (roI (mrf M) (w - 10), M)
