theorem frS_sym (c : Co) (r : Int32) (a p : Nat) : frS c r a p = frS c r p a := by
  have h : ∀ x y : Int32, (x - y) * (x - y) = (y - x) * (y - x) := fun x y => by
    rw [show x - y = -(y - x) from Int32.neg_sub.symm, Int32.neg_mul, Int32.mul_neg, Int32.neg_neg]
  unfold frS
  rw [h (cxs c a), h (cys c a)]
theorem srt_lt {l : List Nat} (hp : l.Pairwise (· < ·)) {i j a b : Nat} (h1 : l[i]? = some a) (h2 : l[j]? = some b) : i < j ↔ a < b := by
  have g1 := List.getElem?_eq_some_iff.mp h1
  have g2 := List.getElem?_eq_some_iff.mp h2
  obtain ⟨i1, e1⟩ := g1
  obtain ⟨j1, e2⟩ := g2
  have hpw := List.pairwise_iff_getElem.mp hp
  constructor
  · intro h
    have := hpw i j i1 j1 h
    omega
  · intro h
    rcases Nat.lt_trichotomy i j with g | g | g
    · exact g
    · subst g; omega
    · have := hpw j i j1 i1 g; omega
def siF (l : List Nat) (q : Nat → Bool) : Nat → Nat → Option Nat
  | 0, _ => none
  | m + 1, i => if q (l.getD i 0) then some i else siF l q m (i + 1)
def siB (l : List Nat) (q : Nat → Bool) : Nat → Option Nat
  | 0 => none
  | m + 1 => if q (l.getD m 0) then some m else siB l q m
theorem siF_some {l : List Nat} {q : Nat → Bool} : ∀ {m i j : Nat}, siF l q m i = some j → i ≤ j ∧ j < i + m ∧ q (l.getD j 0) = true ∧ ∀ k, i ≤ k → k < j → q (l.getD k 0) = false
  | 0, _, _, h => by cases h
  | m + 1, i, j, h => by
    unfold siF at h
    cases hq : q (l.getD i 0) with
    | true =>
      rw [hq, if_pos rfl] at h
      cases h
      exact ⟨Nat.le_refl _, by omega, hq, fun k h1 h2 => by omega⟩
    | false =>
      rw [hq, if_neg (by decide)] at h
      obtain ⟨h1, h2, h3, h4⟩ := siF_some h
      refine ⟨by omega, by omega, h3, fun k k1 k2 => ?_⟩
      rcases Nat.eq_or_lt_of_le k1 with e | e
      · rw [← e]; exact hq
      · exact h4 k (by omega) k2
theorem siF_none {l : List Nat} {q : Nat → Bool} : ∀ {m i : Nat}, siF l q m i = none → ∀ k, i ≤ k → k < i + m → q (l.getD k 0) = false
  | 0, i, _, k, h1, h2 => by omega
  | m + 1, i, h, k, h1, h2 => by
    unfold siF at h
    cases hq : q (l.getD i 0) with
    | true => rw [hq, if_pos rfl] at h; cases h
    | false =>
      rw [hq, if_neg (by decide)] at h
      rcases Nat.eq_or_lt_of_le h1 with e | e
      · rw [← e]; exact hq
      · exact siF_none h k (by omega) (by omega)
theorem siB_some {l : List Nat} {q : Nat → Bool} : ∀ {m j : Nat}, siB l q m = some j → j < m ∧ q (l.getD j 0) = true ∧ ∀ k, j < k → k < m → q (l.getD k 0) = false
  | 0, _, h => by cases h
  | m + 1, j, h => by
    unfold siB at h
    cases hq : q (l.getD m 0) with
    | true =>
      rw [hq, if_pos rfl] at h
      cases h
      exact ⟨by omega, hq, fun k h1 h2 => by omega⟩
    | false =>
      rw [hq, if_neg (by decide)] at h
      obtain ⟨h2, h3, h4⟩ := siB_some h
      refine ⟨by omega, h3, fun k k1 k2 => ?_⟩
      rcases Nat.lt_succ_iff_lt_or_eq.mp k2 with e | e
      · exact h4 k k1 e
      · rw [e]; exact hq
theorem siB_none {l : List Nat} {q : Nat → Bool} : ∀ {m : Nat}, siB l q m = none → ∀ k, k < m → q (l.getD k 0) = false
  | 0, _, k, h2 => by omega
  | m + 1, h, k, h2 => by
    unfold siB at h
    cases hq : q (l.getD m 0) with
    | true => rw [hq, if_pos rfl] at h; cases h
    | false =>
      rw [hq, if_neg (by decide)] at h
      rcases Nat.lt_succ_iff_lt_or_eq.mp h2 with e | e
      · exact siB_none h k e
      · rw [e]; exact hq
theorem sfF_eq {f q : Nat → Bool} {x : Nat} : ∀ {m p : Nat}, p ≤ x → x < p + m → f x = true → q x = true → (∀ y, p ≤ y → y < x → f y = true → q y = false) → sfF f q m p = some x
  | 0, p, h1, h2, _, _, _ => by omega
  | m + 1, p, h1, h2, hf, hq, h => by
    unfold sfF
    rcases Nat.eq_or_lt_of_le h1 with e | e
    · subst e; rw [hf, hq]; rfl
    · have : (f p && q p) = false := by
        cases hfp : f p
        · rfl
        · rw [h p (Nat.le_refl _) e hfp]; rfl
      rw [this, if_neg (by decide)]
      exact sfF_eq (by omega) (by omega) hf hq fun y h3 h4 => h y (by omega) h4
theorem sfF_no {f q : Nat → Bool} : ∀ {m p : Nat}, (∀ y, p ≤ y → y < p + m → f y = true → q y = false) → sfF f q m p = none
  | 0, _, _ => rfl
  | m + 1, p, h => by
    unfold sfF
    have : (f p && q p) = false := by
      cases hfp : f p
      · rfl
      · rw [h p (Nat.le_refl _) (by omega) hfp]; rfl
    rw [this, if_neg (by decide)]
    exact sfF_no fun y h3 h4 => h y (by omega) (by omega)
theorem sbF_eq {f q : Nat → Bool} {a x : Nat} : ∀ {m i : Nat}, x + i ≤ a → a < x + i + m → f x = true → q x = true → (∀ y, x < y → y + i ≤ a → f y = true → q y = false) → sbF f q a m i = some x
  | 0, i, h1, h2, _, _, _ => by omega
  | m + 1, i, h1, h2, hf, hq, h => by
    have hi : i ≤ a := by omega
    unfold sbF
    rw [decide_eq_true hi, Bool.true_and]
    rcases Nat.eq_or_lt_of_le h1 with e | e
    · have e2 : a - i = x := by omega
      rw [e2, hf, hq]; rfl
    · have : (f (a - i) && q (a - i)) = false := by
        cases hfp : f (a - i)
        · rfl
        · rw [h (a - i) (by omega) (by omega) hfp]; rfl
      rw [this, if_neg (by decide)]
      exact sbF_eq (by omega) (by omega) hf hq fun y h3 h4 => h y h3 (by omega)
theorem sbF_no {f q : Nat → Bool} {a : Nat} : ∀ {m i : Nat}, (∀ y, y + i ≤ a → f y = true → q y = false) → sbF f q a m i = none
  | 0, _, _ => rfl
  | m + 1, i, h => by
    unfold sbF
    have : (decide (i ≤ a) && (f (a - i) && q (a - i))) = false := by
      by_cases hi : i ≤ a
      · cases hfp : f (a - i)
        · simp
        · rw [h (a - i) (by omega) hfp]; simp
      · rw [decide_eq_false hi]; rfl
    rw [this, if_neg (by decide)]
    exact sbF_no fun y h3 => h y (by omega)
theorem gD {l : List Nat} {i x : Nat} (h : l[i]? = some x) : l.getD i 0 = x := by rw [List.getD_eq_getElem?_getD, h]; rfl
section TW
variable {l : List Nat} {f : Nat → Bool} {q : Nat → Bool} {ny : Nat} (hp : l.Pairwise (· < ·)) (hf : ∀ x, f x = true → x ∈ l) (hl : ∀ x ∈ l, f x = true ∧ x ≤ ny)
theorem mem_at {x : Nat} (h : x ∈ l) : ∃ k : Nat, l[k]? = some x := List.getElem?_of_mem h
theorem two_fn (hp : l.Pairwise (· < ·)) (hf : ∀ x, f x = true → x ∈ l) {i a : Nat} (hi : l[i]? = some a) (h : siF l q (l.length - (i + 1)) (i + 1) = none) : sfF f q ny (a + 1) = none := by
  refine sfF_no fun y h1 _ hfy => ?_
  obtain ⟨k, hk⟩ := mem_at (hf y hfy)
  have hk2 := (List.getElem?_eq_some_iff.mp hk).1
  have := (srt_lt hp hi hk).mpr (by omega)
  have := siF_none h k (by omega) (by omega)
  rw [gD hk] at this
  exact this
theorem two_fs (hp : l.Pairwise (· < ·)) (hf : ∀ x, f x = true → x ∈ l) (hl : ∀ x ∈ l, f x = true ∧ x ≤ ny) {i a j : Nat} (hi : l[i]? = some a) (h : siF l q (l.length - (i + 1)) (i + 1) = some j) : i < j ∧ ∃ x, l[j]? = some x ∧ sfF f q ny (a + 1) = some x := by
  obtain ⟨h1, h2, h3, h4⟩ := siF_some h
  have hj : l[j]? = some (l[j]'(by omega)) := List.getElem?_eq_getElem (by omega)
  generalize l[j]'(by omega) = x at hj
  rw [gD hj] at h3
  have hx := hl x (List.mem_of_getElem? hj)
  have hax := (srt_lt hp hi hj).mp (by omega)
  refine ⟨by omega, x, hj, sfF_eq (by omega) (by omega) hx.1 h3 fun y y1 y2 hfy => ?_⟩
  obtain ⟨k, hk⟩ := mem_at (hf y hfy)
  have k1 := (srt_lt hp hi hk).mpr (by omega)
  have k2 := (srt_lt hp hk hj).mpr y2
  have := h4 k (by omega) k2
  rw [gD hk] at this
  exact this
theorem two_bn (hp : l.Pairwise (· < ·)) (hf : ∀ x, f x = true → x ∈ l) {j b : Nat} (hj : l[j]? = some b) (h : siB l q j = none) : sbF f q b ny 1 = none := by
  refine sbF_no fun y h1 hfy => ?_
  obtain ⟨k, hk⟩ := mem_at (hf y hfy)
  have := siB_none h k ((srt_lt hp hk hj).mpr (by omega))
  rw [gD hk] at this
  exact this
theorem two_bs (hp : l.Pairwise (· < ·)) (hf : ∀ x, f x = true → x ∈ l) (hl : ∀ x ∈ l, f x = true ∧ x ≤ ny) {i b j : Nat} (hj : l[j]? = some b) (h : siB l q j = some i) : i < j ∧ ∃ x, l[i]? = some x ∧ sbF f q b ny 1 = some x := by
  obtain ⟨h2, h3, h4⟩ := siB_some h
  have hjl := (List.getElem?_eq_some_iff.mp hj).1
  have hi : l[i]? = some (l[i]'(by omega)) := List.getElem?_eq_getElem (by omega)
  generalize l[i]'(by omega) = x at hi
  rw [gD hi] at h3
  have hx := hl x (List.mem_of_getElem? hi)
  have hxb := (srt_lt hp hi hj).mp h2
  have hb := hl b (List.mem_of_getElem? hj)
  refine ⟨h2, x, hi, sbF_eq (by omega) (by omega) hx.1 h3 fun y y1 y2 hfy => ?_⟩
  obtain ⟨k, hk⟩ := mem_at (hf y hfy)
  have k1 := (srt_lt hp hi hk).mpr y1
  have k2 := (srt_lt hp hk hj).mpr (by omega)
  have := h4 k k1 k2
  rw [gD hk] at this
  exact this
end TW
section TN
variable {f : Nat → Bool} {q1 q2 : Nat → Nat → Bool} {ny : Nat}
theorem sfF_ge {f q : Nat → Bool} : ∀ {m p x : Nat}, sfF f q m p = some x → p ≤ x
  | 0, _, _, h => by cases h
  | m + 1, p, x, h => by
    unfold sfF at h
    split at h
    · cases h; exact Nat.le_refl _
    · have := sfF_ge h; omega
theorem sbF_lt {f q : Nat → Bool} {a : Nat} : ∀ {m i x : Nat}, 1 ≤ i → sbF f q a m i = some x → x < a
  | 0, _, _, _, h => by cases h
  | m + 1, i, x, h1, h => by
    unfold sbF at h
    split at h
    · rename_i hc
      have := of_decide_eq_true (Bool.and_eq_true_iff.mp hc).1
      cases h; omega
    · exact sbF_lt (by omega) h
theorem tw1_n {s : Tw} (h : sfF f (q1 s.1) ny (s.1 + 1) = none) : tw1 f q1 ny s = s := by unfold tw1; rw [h]
theorem tw1_s {s : Tw} {p : Nat} (h : sfF f (q1 s.1) ny (s.1 + 1) = some p) (hp : p < s.2.1) : tw1 f q1 ny s = (p, s.2.1, s.2.2.1 + 1, s.2.2.2) := by unfold tw1; rw [h]; simp only []; rw [if_pos hp]
theorem tw1_o {s : Tw} {p : Nat} (h : sfF f (q1 s.1) ny (s.1 + 1) = some p) (hp : ¬ p < s.2.1) : tw1 f q1 ny s = s := by unfold tw1; rw [h]; simp only []; rw [if_neg hp]
theorem tw2_n {s : Tw} (h : sbF f (q2 s.2.1) s.2.1 ny 1 = none) : tw2 f q2 ny s = s := by unfold tw2; rw [h]
theorem tw2_s {s : Tw} {p : Nat} (h : sbF f (q2 s.2.1) s.2.1 ny 1 = some p) (hp : s.1 < p) : tw2 f q2 ny s = (s.1, p, s.2.2.1, s.2.2.2 + 1) := by unfold tw2; rw [h]; simp only []; rw [if_pos hp]
theorem tw2_o {s : Tw} {p : Nat} (h : sbF f (q2 s.2.1) s.2.1 ny 1 = some p) (hp : ¬ s.1 < p) : tw2 f q2 ny s = s := by unfold tw2; rw [h]; simp only []; rw [if_neg hp]
theorem tw1_c (f : Nat → Bool) (q1 : Nat → Nat → Bool) (ny : Nat) (s : Tw) : tw1 f q1 ny s = s ∨ ∃ p, s.1 < p ∧ p < s.2.1 ∧ tw1 f q1 ny s = (p, s.2.1, s.2.2.1 + 1, s.2.2.2) := by
  cases h : sfF f (q1 s.1) ny (s.1 + 1) with
  | none => exact Or.inl (tw1_n h)
  | some p =>
    by_cases hp : p < s.2.1
    · have := sfF_ge h
      exact Or.inr ⟨p, by omega, hp, tw1_s h hp⟩
    · exact Or.inl (tw1_o h hp)
theorem tw1_k (f : Nat → Bool) (q1 : Nat → Nat → Bool) (ny : Nat) (s : Tw) : (tw1 f q1 ny s).2.1 = s.2.1 ∧ (tw1 f q1 ny s).2.2.2 = s.2.2.2 := by
  rcases tw1_c f q1 ny s with e | ⟨p, _, _, e⟩
  · rw [e]; exact ⟨rfl, rfl⟩
  · rw [e]; exact ⟨rfl, rfl⟩
theorem tw2_c (f : Nat → Bool) (q2 : Nat → Nat → Bool) (ny : Nat) (s : Tw) : tw2 f q2 ny s = s ∨ ∃ p, s.1 < p ∧ p < s.2.1 ∧ tw2 f q2 ny s = (s.1, p, s.2.2.1, s.2.2.2 + 1) := by
  cases h : sbF f (q2 s.2.1) s.2.1 ny 1 with
  | none => exact Or.inl (tw2_n h)
  | some p =>
    by_cases hp : s.1 < p
    · have := sbF_lt (Nat.le_refl 1) h
      exact Or.inr ⟨p, hp, this, tw2_s h hp⟩
    · exact Or.inl (tw2_o h hp)
theorem tw2_k (f : Nat → Bool) (q2 : Nat → Nat → Bool) (ny : Nat) (s : Tw) : (tw2 f q2 ny s).1 = s.1 ∧ (tw2 f q2 ny s).2.2.1 = s.2.2.1 := by
  rcases tw2_c f q2 ny s with e | ⟨p, _, _, e⟩
  · rw [e]; exact ⟨rfl, rfl⟩
  · rw [e]; exact ⟨rfl, rfl⟩
theorem tw1_keep {s t : Tw} (h : tw1 f q1 ny s = s) (h1 : t.1 = s.1) (h2 : t.2.1 ≤ s.2.1) : tw1 f q1 ny t = t := by
  cases e : sfF f (q1 t.1) ny (t.1 + 1) with
  | none => exact tw1_n e
  | some p =>
    by_cases hp : p < t.2.1
    · rw [h1] at e
      have e2 := tw1_s e (show p < s.2.1 by omega)
      rw [h] at e2
      have := congrArg (fun x : Tw => x.2.2.1) e2
      simp only [] at this
      omega
    · exact tw1_o e hp
theorem tw2_keep {s t : Tw} (h : tw2 f q2 ny s = s) (h1 : t.2.1 = s.2.1) (h2 : s.1 ≤ t.1) : tw2 f q2 ny t = t := by
  cases e : sbF f (q2 t.2.1) t.2.1 ny 1 with
  | none => exact tw2_n e
  | some p =>
    by_cases hp : t.1 < p
    · rw [h1] at e
      have e2 := tw2_s e (show s.1 < p by omega)
      rw [h] at e2
      have := congrArg (fun x : Tw => x.2.2.2) e2
      simp only [] at this
      omega
    · exact tw2_o e hp
theorem tw_A {s : Tw} (h : tw1 f q1 ny s = s) : tw1 f q1 ny (tw2 f q2 ny s) = tw2 f q2 ny s := by
  rcases tw2_c f q2 ny s with e | ⟨p, p1, p2, e⟩
  · rw [e]; exact h
  · rw [e]; exact tw1_keep h rfl (Nat.le_of_lt p2)
theorem tw_B {s : Tw} (h : tw2 f q2 ny s = s) : tw2 f q2 ny (tw1 f q1 ny s) = tw1 f q1 ny s := by
  rcases tw1_c f q1 ny s with e | ⟨p, p1, p2, e⟩
  · rw [e]; exact h
  · rw [e]; exact tw2_keep h rfl (Nat.le_of_lt p1)
def twT (f : Nat → Bool) (q1 q2 : Nat → Nat → Bool) (ny : Nat) (s : Tw) : Tw := tw2 f q2 ny (tw1 f q1 ny s)
theorem twT_c (s : Tw) : twT f q1 q2 ny s = s ∨ (twT f q1 q2 ny s).2.1 - (twT f q1 q2 ny s).1 < s.2.1 - s.1 := by
  unfold twT
  rcases tw1_c f q1 ny s with e | ⟨p, p1, p2, e⟩
  · rw [e]
    rcases tw2_c f q2 ny s with e2 | ⟨x, x1, x2, e2⟩
    · exact Or.inl e2
    · rw [e2]; exact Or.inr (by show x - s.1 < s.2.1 - s.1; omega)
  · rw [e]
    rcases tw2_c f q2 ny (p, s.2.1, s.2.2.1 + 1, s.2.2.2) with e2 | ⟨x, x1, x2, e2⟩
    · rw [e2]; exact Or.inr (by show s.2.1 - p < s.2.1 - s.1; omega)
    · rw [e2]
      have x1 : p < x := x1
      have x2 : x < s.2.1 := x2
      exact Or.inr (by show x - p < s.2.1 - s.1; omega)
theorem twN_fix {s : Tw} (h : twT f q1 q2 ny s = s) : ∀ m, twN f q1 q2 ny m s = s
  | 0 => rfl
  | m + 1 => by
    show twN f q1 q2 ny m (twT f q1 q2 ny s) = s
    rw [h]; exact twN_fix h m
theorem twN_st : ∀ (m : Nat) (s : Tw), s.2.1 - s.1 ≤ m → twT f q1 q2 ny (twN f q1 q2 ny m s) = twN f q1 q2 ny m s
  | 0, s, h => by
    rcases twT_c (f := f) (q1 := q1) (q2 := q2) (ny := ny) s with e | e
    · exact e
    · omega
  | m + 1, s, h => by
    show twT f q1 q2 ny (twN f q1 q2 ny m (twT f q1 q2 ny s)) = twN f q1 q2 ny m (twT f q1 q2 ny s)
    rcases twT_c (f := f) (q1 := q1) (q2 := q2) (ny := ny) s with e | e
    · rw [e, twN_fix e m]; exact e
    · exact twN_st m _ (by omega)
theorem twN_cm : ∀ (m : Nat) (s : Tw), twN f q1 q2 ny m (twT f q1 q2 ny s) = twT f q1 q2 ny (twN f q1 q2 ny m s)
  | 0, _ => rfl
  | m + 1, s => twN_cm m (twT f q1 q2 ny s)
theorem twN_48 {s : Tw} (h : s.2.1 - s.1 ≤ 48) : twN f q1 q2 ny 48 (twT f q1 q2 ny s) = twN f q1 q2 ny 48 s := by rw [twN_cm, twN_st 48 s h]
end TN
set_option maxRecDepth 100000 in
set_option maxHeartbeats 4000000 in
theorem lp_X12_stepF {S : ZS} {n k a : Nat} {c : Co} {l : List Nat} {r : Int32} (hV : mV S c) (ok : Cok c) (hs : shR S l) (hlc : ∀ x ∈ l, x ≤ cny c) (hk : l[k]? = some a) {R : Option Value → ZW → Prop} : ∀ (m i : Nat), i + m = l.length → R (some (.int (oI (siF l (fun x => frS c r x a) m i)))) (zw S n) → Z m_X12_stepFrom 0 0 R 5 [some (.ref 25), some (.int (nI k)), some (.int r), some (.int 1), some (.int (nI i))] [] (zw S n) := by
  intro m
  induction m with
  | zero =>
    intro i h hR
    have hll := hs.2.1
    obtain rfl : i = l.length := by omega
    refine Z_iload dX12_stepFrom_5 rfl (pc' := 7) rfl ?_
    refine Z_if_lt dX12_stepFrom_7 (tgt := 49) rfl (pc' := 10) rfl (fun c_7 => absurd c_7 (nI_neg (by omega))) (fun c_7 => ?_)
    refine Z_iload dX12_stepFrom_10 rfl (pc' := 12) rfl ?_
    refine Z_aload_n dX12_stepFrom_12 rfl (z_isref _) (pc' := 13) rfl ?_
    refine Z_gI dX12_stepFrom_13 rfl zgi_RX12_175_25 (pc' := 16) rfl ?_
    rw [hs.1]
    refine Z_icmp_ge dX12_stepFrom_16 (tgt := 49) rfl (pc' := 19) rfl (fun c_16 => ?_) (fun c_16 => absurd c_16 (fun c => c ((nI_len (by omega) (by omega)).mpr (Nat.le_refl _))))
    refine Z_iload dX12_stepFrom_49 rfl (pc' := 51) rfl ?_
    refine Z_if_lt dX12_stepFrom_51 (tgt := 68) rfl (pc' := 54) rfl (fun c_51 => absurd c_51 (nI_neg (by omega))) (fun c_51 => ?_)
    refine Z_iload dX12_stepFrom_54 rfl (pc' := 56) rfl ?_
    refine Z_aload_n dX12_stepFrom_56 rfl (z_isref _) (pc' := 57) rfl ?_
    refine Z_gI dX12_stepFrom_57 rfl zgi_RX12_175_25 (pc' := 60) rfl ?_
    rw [hs.1]
    refine Z_icmp_ge dX12_stepFrom_60 (tgt := 68) rfl (pc' := 63) rfl (fun c_60 => ?_) (fun c_60 => absurd c_60 (fun c => c ((nI_len (by omega) (by omega)).mpr (Nat.le_refl _))))
    refine Z_bipush dX12_stepFrom_68 (v := (-9)) (by decide) (pc' := 70) rfl ?_
    exact Z_ireturn dX12_stepFrom_70 rfl rfl hR
  | succ m ih =>
    intro i h hR
    have hll := hs.2.1
    have hkl := (List.getElem?_eq_some_iff.mp hk).1
    obtain ⟨x, hx⟩ : ∃ x, l[i]? = some x := ⟨l[i]'(by omega), List.getElem?_eq_getElem _⟩
    unfold siF at hR
    rw [gD hx] at hR
    refine Z_iload dX12_stepFrom_5 rfl (pc' := 7) rfl ?_
    refine Z_if_lt dX12_stepFrom_7 (tgt := 49) rfl (pc' := 10) rfl (fun c_7 => absurd c_7 (nI_neg (by omega))) (fun c_7 => ?_)
    refine Z_iload dX12_stepFrom_10 rfl (pc' := 12) rfl ?_
    refine Z_aload_n dX12_stepFrom_12 rfl (z_isref _) (pc' := 13) rfl ?_
    refine Z_gI dX12_stepFrom_13 rfl zgi_RX12_175_25 (pc' := 16) rfl ?_
    rw [hs.1]
    refine Z_icmp_ge dX12_stepFrom_16 (tgt := 49) rfl (pc' := 19) rfl (fun c_16 => absurd c_16 (by rw [nI_len (by omega) (by omega)]; omega)) (fun c_16 => ?_)
    refine Z_aload_n dX12_stepFrom_19 rfl (z_isref _) (pc' := 20) rfl ?_
    refine Z_aload_n dX12_stepFrom_20 rfl (z_isref _) (pc' := 21) rfl ?_
    refine Z_gR dX12_stepFrom_21 rfl zgr_RX12_61_25 (pc' := 24) rfl ?_
    refine Z_iload dX12_stepFrom_24 rfl (pc' := 26) rfl ?_
    refine Z_il dX12_stepFrom_26 zar_43 (zin (by omega) (by decide)) (pc' := 27) rfl ?_
    rw [nI_nat (by omega), hs.2.2 i x hx]
    refine Z_aload_n dX12_stepFrom_27 rfl (z_isref _) (pc' := 28) rfl ?_
    refine Z_gR dX12_stepFrom_28 rfl zgr_RX12_61_25 (pc' := 31) rfl ?_
    refine Z_iload_n dX12_stepFrom_31 rfl (pc' := 32) rfl ?_
    refine Z_il dX12_stepFrom_32 zar_43 (zin (by omega) (by decide)) (pc' := 33) rfl ?_
    rw [nI_nat (by omega), hs.2.2 k a hk]
    refine Z_iload_n dX12_stepFrom_33 rfl (pc' := 34) rfl ?_
    refine Z_cVe dX12_stepFrom_34 rfl zcw_X12_isFar (As := [_, _, _]) (rest := []) rfl ⟨Nat.le_of_ble_eq_true rfl, Nat.le_of_ble_eq_true rfl⟩ (Nat.le_of_ble_eq_true rfl) (zRcv.lay zob_25) ⟨zcw_X12_isFar.2.2.2.2, Nat.le_of_ble_eq_true rfl⟩ zk_RX12_181 (c_X12_isFar hV ok (hlc _ (List.mem_of_getElem? hx)) (hlc _ (List.mem_of_getElem? hk))) (pc' := 37) rfl ?_
    refine Z_if_ne dX12_stepFrom_37 (tgt := 49) rfl (pc' := 40) rfl (fun c_37 => ?_) (fun c_37 => ?_)
    · refine Z_iload dX12_stepFrom_49 rfl (pc' := 51) rfl ?_
      refine Z_if_lt dX12_stepFrom_51 (tgt := 68) rfl (pc' := 54) rfl (fun c_51 => absurd c_51 (nI_neg (by omega))) (fun c_51 => ?_)
      refine Z_iload dX12_stepFrom_54 rfl (pc' := 56) rfl ?_
      refine Z_aload_n dX12_stepFrom_56 rfl (z_isref _) (pc' := 57) rfl ?_
      refine Z_gI dX12_stepFrom_57 rfl zgi_RX12_175_25 (pc' := 60) rfl ?_
      rw [hs.1]
      refine Z_icmp_ge dX12_stepFrom_60 (tgt := 68) rfl (pc' := 63) rfl (fun c_60 => absurd c_60 (by rw [nI_len (by omega) (by omega)]; omega)) (fun c_60 => ?_)
      refine Z_iload dX12_stepFrom_63 rfl (pc' := 65) rfl ?_
      refine Z_goto dX12_stepFrom_65 (tgt := 70) rfl ?_
      exact Z_ireturn dX12_stepFrom_70 rfl rfl (by rw [show frS c r x a = true from (zb_ne0 _).mp c_37, if_pos rfl] at hR; exact hR)
    · refine Z_iload dX12_stepFrom_40 rfl (pc' := 42) rfl ?_
      refine Z_iload_n dX12_stepFrom_42 rfl (pc' := 43) rfl ?_
      refine Z_iadd dX12_stepFrom_43 (pc' := 44) rfl ?_
      rw [show nI i + 1 = nI (i + 1) from nI_inc i]
      refine Z_istore dX12_stepFrom_44 (Nat.le_of_ble_eq_true rfl) (Nat.le_of_ble_eq_true rfl) rfl (ls' := [_, _, _, _, _]) rfl (pc' := 46) rfl ?_
      refine Z_goto dX12_stepFrom_46 (tgt := 5) rfl ?_
      rw [show frS c r x a = false from (zb_eq0 _).mp c_37, if_neg (by decide)] at hR
      exact ih (i + 1) (by omega) hR
set_option maxRecDepth 100000 in
set_option maxHeartbeats 4000000 in
theorem c_X12_stepFrom_f {S : ZS} {n k a : Nat} {c : Co} {l : List Nat} {r : Int32} (hV : mV S c) (ok : Cok c) (hs : shR S l) (hlc : ∀ x ∈ l, x ≤ cny c) (hk : l[k]? = some a) : zM m_X12_stepFrom 0 0 [.ref 25, .int (nI k), .int r, .int 1] (zw S n) (zE (some (.int (oI (siF l (fun x => frS c r x a) (l.length - (k + 1)) (k + 1))))) (zw S n)) := by
  show Z m_X12_stepFrom _ _ _ 0 [some (.ref _), some (.int _), some (.int _), some (.int _)] [] _
  refine Z_iload_n dX12_stepFrom_0 rfl (pc' := 1) rfl ?_
  refine Z_iload_n dX12_stepFrom_1 rfl (pc' := 2) rfl ?_
  refine Z_iadd dX12_stepFrom_2 (pc' := 3) rfl ?_
  have hkl := (List.getElem?_eq_some_iff.mp hk).1
  rw [show nI k + 1 = nI (k + 1) from nI_inc k]
  refine Z_istore dX12_stepFrom_3 (Nat.le_of_ble_eq_true rfl) (Nat.le_of_ble_eq_true rfl) rfl (ls' := [_, _, _, _, _]) rfl (pc' := 5) rfl ?_
  exact lp_X12_stepF hV ok hs hlc hk _ (k + 1) (by omega) ⟨rfl, rfl⟩
set_option maxRecDepth 100000 in
set_option maxHeartbeats 4000000 in
theorem lp_X12_stepB {S : ZS} {n k a : Nat} {c : Co} {l : List Nat} {r : Int32} (hV : mV S c) (ok : Cok c) (hs : shR S l) (hlc : ∀ x ∈ l, x ≤ cny c) (hk : l[k]? = some a) {R : Option Value → ZW → Prop} : ∀ (m : Nat) (z : Int32), m ≤ k → z + 1 = nI m → R (some (.int (oI (siB l (fun x => frS c r x a) m)))) (zw S n) → Z m_X12_stepFrom 0 0 R 5 [some (.ref 25), some (.int (nI k)), some (.int r), some (.int (-1)), some (.int z)] [] (zw S n) := by
  intro m
  induction m with
  | zero =>
    intro z hm hz hR
    have hz1 : z = -1 := by rw [← Int32.add_sub_cancel z 1, hz]; decide
    refine Z_iload dX12_stepFrom_5 rfl (pc' := 7) rfl ?_
    refine Z_if_lt dX12_stepFrom_7 (tgt := 49) rfl (pc' := 10) rfl (fun c_7 => ?_) (fun c_7 => absurd c_7 (fun c => c (by rw [hz1]; decide)))
    refine Z_iload dX12_stepFrom_49 rfl (pc' := 51) rfl ?_
    refine Z_if_lt dX12_stepFrom_51 (tgt := 68) rfl (pc' := 54) rfl (fun c_51 => ?_) (fun c_51 => absurd c_51 (fun c => c (by rw [hz1]; decide)))
    refine Z_bipush dX12_stepFrom_68 (v := (-9)) (by decide) (pc' := 70) rfl ?_
    exact Z_ireturn dX12_stepFrom_70 rfl rfl hR
  | succ m ih =>
    intro z hm hz hR
    obtain rfl : z = nI m := by rw [← Int32.add_sub_cancel z 1, hz, nI_pred]
    have hll := hs.2.1
    have hkl := (List.getElem?_eq_some_iff.mp hk).1
    obtain ⟨x, hx⟩ : ∃ x, l[m]? = some x := ⟨l[m]'(by omega), List.getElem?_eq_getElem _⟩
    unfold siB at hR
    rw [gD hx] at hR
    refine Z_iload dX12_stepFrom_5 rfl (pc' := 7) rfl ?_
    refine Z_if_lt dX12_stepFrom_7 (tgt := 49) rfl (pc' := 10) rfl (fun c_7 => absurd c_7 (nI_neg (by omega))) (fun c_7 => ?_)
    refine Z_iload dX12_stepFrom_10 rfl (pc' := 12) rfl ?_
    refine Z_aload_n dX12_stepFrom_12 rfl (z_isref _) (pc' := 13) rfl ?_
    refine Z_gI dX12_stepFrom_13 rfl zgi_RX12_175_25 (pc' := 16) rfl ?_
    rw [hs.1]
    refine Z_icmp_ge dX12_stepFrom_16 (tgt := 49) rfl (pc' := 19) rfl (fun c_16 => absurd c_16 (by rw [nI_len (by omega) (by omega)]; omega)) (fun c_16 => ?_)
    refine Z_aload_n dX12_stepFrom_19 rfl (z_isref _) (pc' := 20) rfl ?_
    refine Z_aload_n dX12_stepFrom_20 rfl (z_isref _) (pc' := 21) rfl ?_
    refine Z_gR dX12_stepFrom_21 rfl zgr_RX12_61_25 (pc' := 24) rfl ?_
    refine Z_iload dX12_stepFrom_24 rfl (pc' := 26) rfl ?_
    refine Z_il dX12_stepFrom_26 zar_43 (zin (by omega) (by decide)) (pc' := 27) rfl ?_
    rw [nI_nat (by omega), hs.2.2 m x hx]
    refine Z_aload_n dX12_stepFrom_27 rfl (z_isref _) (pc' := 28) rfl ?_
    refine Z_gR dX12_stepFrom_28 rfl zgr_RX12_61_25 (pc' := 31) rfl ?_
    refine Z_iload_n dX12_stepFrom_31 rfl (pc' := 32) rfl ?_
    refine Z_il dX12_stepFrom_32 zar_43 (zin (by omega) (by decide)) (pc' := 33) rfl ?_
    rw [nI_nat (by omega), hs.2.2 k a hk]
    refine Z_iload_n dX12_stepFrom_33 rfl (pc' := 34) rfl ?_
    refine Z_cVe dX12_stepFrom_34 rfl zcw_X12_isFar (As := [_, _, _]) (rest := []) rfl ⟨Nat.le_of_ble_eq_true rfl, Nat.le_of_ble_eq_true rfl⟩ (Nat.le_of_ble_eq_true rfl) (zRcv.lay zob_25) ⟨zcw_X12_isFar.2.2.2.2, Nat.le_of_ble_eq_true rfl⟩ zk_RX12_181 (c_X12_isFar hV ok (hlc _ (List.mem_of_getElem? hx)) (hlc _ (List.mem_of_getElem? hk))) (pc' := 37) rfl ?_
    refine Z_if_ne dX12_stepFrom_37 (tgt := 49) rfl (pc' := 40) rfl (fun c_37 => ?_) (fun c_37 => ?_)
    · refine Z_iload dX12_stepFrom_49 rfl (pc' := 51) rfl ?_
      refine Z_if_lt dX12_stepFrom_51 (tgt := 68) rfl (pc' := 54) rfl (fun c_51 => absurd c_51 (nI_neg (by omega))) (fun c_51 => ?_)
      refine Z_iload dX12_stepFrom_54 rfl (pc' := 56) rfl ?_
      refine Z_aload_n dX12_stepFrom_56 rfl (z_isref _) (pc' := 57) rfl ?_
      refine Z_gI dX12_stepFrom_57 rfl zgi_RX12_175_25 (pc' := 60) rfl ?_
      rw [hs.1]
      refine Z_icmp_ge dX12_stepFrom_60 (tgt := 68) rfl (pc' := 63) rfl (fun c_60 => absurd c_60 (by rw [nI_len (by omega) (by omega)]; omega)) (fun c_60 => ?_)
      refine Z_iload dX12_stepFrom_63 rfl (pc' := 65) rfl ?_
      refine Z_goto dX12_stepFrom_65 (tgt := 70) rfl ?_
      exact Z_ireturn dX12_stepFrom_70 rfl rfl (by rw [show frS c r x a = true from (zb_ne0 _).mp c_37, if_pos rfl] at hR; exact hR)
    · refine Z_iload dX12_stepFrom_40 rfl (pc' := 42) rfl ?_
      refine Z_iload_n dX12_stepFrom_42 rfl (pc' := 43) rfl ?_
      refine Z_iadd dX12_stepFrom_43 (pc' := 44) rfl ?_
      refine Z_istore dX12_stepFrom_44 (Nat.le_of_ble_eq_true rfl) (Nat.le_of_ble_eq_true rfl) rfl (ls' := [_, _, _, _, _]) rfl (pc' := 46) rfl ?_
      refine Z_goto dX12_stepFrom_46 (tgt := 5) rfl ?_
      rw [show frS c r x a = false from (zb_eq0 _).mp c_37, if_neg (by decide)] at hR
      exact ih _ (by omega) (by rw [Int32.add_assoc]; exact Int32.add_zero _) hR
set_option maxRecDepth 100000 in
set_option maxHeartbeats 4000000 in
theorem c_X12_stepFrom_b {S : ZS} {n k a : Nat} {c : Co} {l : List Nat} {r : Int32} (hV : mV S c) (ok : Cok c) (hs : shR S l) (hlc : ∀ x ∈ l, x ≤ cny c) (hk : l[k]? = some a) : zM m_X12_stepFrom 0 0 [.ref 25, .int (nI k), .int r, .int (-1)] (zw S n) (zE (some (.int (oI (siB l (fun x => frS c r x a) k)))) (zw S n)) := by
  show Z m_X12_stepFrom _ _ _ 0 [some (.ref _), some (.int _), some (.int _), some (.int _)] [] _
  refine Z_iload_n dX12_stepFrom_0 rfl (pc' := 1) rfl ?_
  refine Z_iload_n dX12_stepFrom_1 rfl (pc' := 2) rfl ?_
  refine Z_iadd dX12_stepFrom_2 (pc' := 3) rfl ?_
  refine Z_istore dX12_stepFrom_3 (Nat.le_of_ble_eq_true rfl) (Nat.le_of_ble_eq_true rfl) rfl (ls' := [_, _, _, _, _]) rfl (pc' := 5) rfl ?_
  exact lp_X12_stepB hV ok hs hlc hk k _ (Nat.le_refl _) (by rw [Int32.add_assoc]; exact Int32.add_zero _) ⟨rfl, rfl⟩
theorem mul_in (r : Int32) (k : Nat) : r * nI k + r = r * nI (k + 1) := by
  rw [← nI_inc k, show Int32.ofInt 1 = 1 from rfl, Int32.mul_add, Int32.mul_one]
theorem frS_f (c : Co) (r : Int32) (a : Nat) : (fun x => frS c r x a) = frS c r a := funext fun x => frS_sym c r x a
theorem SL_f {c : Co} (ok : Cok c) : ∀ x, shS c (ctd c) x = true → x ∈ SL c := fun x h => (SL_mem ok).mpr h
theorem SL_l {c : Co} (ok : Cok c) : ∀ x ∈ SL c, shS c (ctd c) x = true ∧ x ≤ cny c := fun x h => ⟨(SL_mem ok).mp h, SL_le h⟩
set_option maxRecDepth 100000 in
set_option maxHeartbeats 4000000 in
theorem lp_X12_two_a1 {S : ZS} {n : Nat} {c : Co} (hV : mV S c) (ok : Cok c) (hs : shR S (SL c)) {R : Option Value → ZW → Prop} {r1 r2 x y : Int32} {s : Tw} {i j : Nat} {u v : Int32} (hi : (SL c)[i]? = some s.1) (hj : (SL c)[j]? = some s.2.1) {b : Bool} (hu : u = r1 * nI s.2.2.1) (hK : ∀ (i2 : Nat) (u2 : Int32) (g2 : Bool), (SL c)[i2]? = some (tw1 (shS c (ctd c)) (frS c r1) (cny c) s).1 → (g2 = false → tw1 (shS c (ctd c)) (frS c r1) (cny c) (tw1 (shS c (ctd c)) (frS c r1) (cny c) s) = (tw1 (shS c (ctd c)) (frS c r1) (cny c) s)) → ((g2 = true ∧ i < i2 ∧ i2 < j) ∨ (g2 = false ∧ i2 = i)) → u2 = r1 * nI (tw1 (shS c (ctd c)) (frS c r1) (cny c) s).2.2.1 → Z m_X12_two 0 0 R 166 [some (.ref 25), some (.int r1), some (.int r2), some (.int x), some (.int y), some (.int (nI i2)), some (.int (nI j)), some (.int u2), some (.int v), some (.int (zb g2)), some (.int (zb b))] [] (zw S n)) : Z m_X12_two 0 0 R 103 [some (.ref 25), some (.int r1), some (.int r2), some (.int x), some (.int y), some (.int (nI i)), some (.int (nI j)), some (.int u), some (.int v), some (.int (zb true)), some (.int (zb b))] [] (zw S n) := by
  have hll := hs.2.1
  have hil := (List.getElem?_eq_some_iff.mp hi).1
  have hjl := (List.getElem?_eq_some_iff.mp hj).1
  refine Z_iload dX12_two_103 rfl (pc' := 105) rfl ?_
  refine Z_if_eq dX12_two_105 (tgt := 166) rfl (pc' := 108) rfl (fun c_105 => absurd c_105 (by decide)) (fun c_105 => ?_)
  refine Z_aload_n dX12_two_108 rfl (z_isref _) (pc' := 109) rfl ?_
  refine Z_iload dX12_two_109 rfl (pc' := 111) rfl ?_
  refine Z_iload_n dX12_two_111 rfl (pc' := 112) rfl ?_
  refine Z_iconst dX12_two_112 (v := 1) (by decide) (pc' := 113) rfl ?_
  refine Z_cVe dX12_two_113 rfl zcw_X12_stepFrom (As := [_, _, _]) (rest := []) rfl ⟨Nat.le_of_ble_eq_true rfl, Nat.le_of_ble_eq_true rfl⟩ (Nat.le_of_ble_eq_true rfl) (zRcv.lay zob_25) ⟨zcw_X12_stepFrom.2.2.2.2, Nat.le_of_ble_eq_true rfl⟩ zk_RX12_204 (c_X12_stepFrom_f hV ok hs (fun x hx => SL_le hx) hi) (pc' := 116) rfl ?_
  cases e : siF (SL c) (fun x => frS c r1 x s.1) ((SL c).length - (i + 1)) (i + 1) with
  | none =>
    show Z _ _ _ _ _ _ (.int (-9) :: []) _
    have e0 := two_fn (ny := cny c) (SL_nd c) (SL_f ok) hi e
    rw [frS_f] at e0
    have e2 := tw1_n (q1 := frS c r1) (s := s) e0
    refine Z_istore dX12_two_116 (Nat.le_of_ble_eq_true rfl) (Nat.le_of_ble_eq_true rfl) rfl (ls' := [_, _, _, _, _, _, _, _, _, _, _, _]) rfl (pc' := 118) rfl ?_
    refine Z_iload dX12_two_118 rfl (pc' := 120) rfl ?_
    refine Z_if_lt dX12_two_120 (tgt := 134) rfl (pc' := 123) rfl (fun c_120 => ?_) (fun c_120 => absurd c_120 (fun c => c (by decide)))
    refine Z_iconst dX12_two_134 (v := 0) (by decide) (pc' := 135) rfl ?_
    refine Z_istore dX12_two_135 (Nat.le_of_ble_eq_true rfl) (Nat.le_of_ble_eq_true rfl) rfl (ls' := [_, _, _, _, _, _, _, _, _, _, _, _]) rfl (pc' := 137) rfl ?_
    refine Z_iload dX12_two_137 rfl (pc' := 139) rfl ?_
    refine Z_if_eq dX12_two_139 (tgt := 147) rfl (pc' := 142) rfl (fun c_139 => ?_) (fun c_139 => absurd c_139 (fun c => c rfl))
    refine Z_iload dX12_two_147 rfl (pc' := 149) rfl ?_
    refine Z_istore dX12_two_149 (Nat.le_of_ble_eq_true rfl) (Nat.le_of_ble_eq_true rfl) rfl (ls' := [_, _, _, _, _, _, _, _, _, _, _, _]) rfl (pc' := 151) rfl ?_
    refine Z_iload dX12_two_151 rfl (pc' := 153) rfl ?_
    refine Z_iload dX12_two_153 rfl (pc' := 155) rfl ?_
    refine Z_if_eq dX12_two_155 (tgt := 162) rfl (pc' := 158) rfl (fun c_155 => ?_) (fun c_155 => absurd c_155 (fun c => c rfl))
    refine Z_iconst dX12_two_162 (v := 0) (by decide) (pc' := 163) rfl ?_
    refine Z_iadd dX12_two_163 (pc' := 164) rfl ?_
    refine Z_istore dX12_two_164 (Nat.le_of_ble_eq_true rfl) (Nat.le_of_ble_eq_true rfl) rfl (ls' := [_, _, _, _, _, _, _, _, _, _, _, _]) rfl (pc' := 166) rfl ?_
    refine Z_take 11 (ls' := [_, _, _, _, _, _, _, _, _, _, _]) rfl ?_
    exact hK i _ false (by rw [e2]; exact hi) (fun _ => by rw [e2]; exact e2) (Or.inr ⟨rfl, rfl⟩) (by rw [Int32.add_zero, e2]; exact hu)
  | some i2 =>
    obtain ⟨hii, p, hp, e3⟩ := two_fs (ny := cny c) (SL_nd c) (SL_f ok) (SL_l ok) hi e
    rw [frS_f] at e3
    have hi2l := (List.getElem?_eq_some_iff.mp hp).1
    show Z _ _ _ _ _ _ (.int (nI i2) :: []) _
    refine Z_istore dX12_two_116 (Nat.le_of_ble_eq_true rfl) (Nat.le_of_ble_eq_true rfl) rfl (ls' := [_, _, _, _, _, _, _, _, _, _, _, _]) rfl (pc' := 118) rfl ?_
    refine Z_iload dX12_two_118 rfl (pc' := 120) rfl ?_
    refine Z_if_lt dX12_two_120 (tgt := 134) rfl (pc' := 123) rfl (fun c_120 => absurd c_120 (nI_neg (by omega))) (fun c_120 => ?_)
    refine Z_iload dX12_two_123 rfl (pc' := 125) rfl ?_
    refine Z_iload dX12_two_125 rfl (pc' := 127) rfl ?_
    refine Z_icmp_ge dX12_two_127 (tgt := 134) rfl (pc' := 130) rfl (fun c_127 => ?_) (fun c_127 => ?_)
    · refine Z_iconst dX12_two_134 (v := 0) (by decide) (pc' := 135) rfl ?_
      refine Z_istore dX12_two_135 (Nat.le_of_ble_eq_true rfl) (Nat.le_of_ble_eq_true rfl) rfl (ls' := [_, _, _, _, _, _, _, _, _, _, _, _]) rfl (pc' := 137) rfl ?_
      refine Z_iload dX12_two_137 rfl (pc' := 139) rfl ?_
      refine Z_if_eq dX12_two_139 (tgt := 147) rfl (pc' := 142) rfl (fun c_139 => ?_) (fun c_139 => absurd c_139 (fun c => c rfl))
      refine Z_iload dX12_two_147 rfl (pc' := 149) rfl ?_
      refine Z_istore dX12_two_149 (Nat.le_of_ble_eq_true rfl) (Nat.le_of_ble_eq_true rfl) rfl (ls' := [_, _, _, _, _, _, _, _, _, _, _, _]) rfl (pc' := 151) rfl ?_
      refine Z_iload dX12_two_151 rfl (pc' := 153) rfl ?_
      refine Z_iload dX12_two_153 rfl (pc' := 155) rfl ?_
      refine Z_if_eq dX12_two_155 (tgt := 162) rfl (pc' := 158) rfl (fun c_155 => ?_) (fun c_155 => absurd c_155 (fun c => c rfl))
      refine Z_iconst dX12_two_162 (v := 0) (by decide) (pc' := 163) rfl ?_
      refine Z_iadd dX12_two_163 (pc' := 164) rfl ?_
      refine Z_istore dX12_two_164 (Nat.le_of_ble_eq_true rfl) (Nat.le_of_ble_eq_true rfl) rfl (ls' := [_, _, _, _, _, _, _, _, _, _, _, _]) rfl (pc' := 166) rfl ?_
      refine Z_take 11 (ls' := [_, _, _, _, _, _, _, _, _, _, _]) rfl ?_
      have hn : ¬ p < s.2.1 := fun q => by
        have q2 := (srt_lt (SL_nd c) hp hj).mpr q
        rw [nI_len (by omega) (by omega)] at c_127; omega
      have e2 := tw1_o (q1 := frS c r1) e3 hn
      exact hK i _ false (by rw [e2]; exact hi) (fun _ => by rw [e2]; exact e2) (Or.inr ⟨rfl, rfl⟩) (by rw [Int32.add_zero, e2]; exact hu)
    · refine Z_iconst dX12_two_130 (v := 1) (by decide) (pc' := 131) rfl ?_
      refine Z_goto dX12_two_131 (tgt := 135) rfl ?_
      refine Z_istore dX12_two_135 (Nat.le_of_ble_eq_true rfl) (Nat.le_of_ble_eq_true rfl) rfl (ls' := [_, _, _, _, _, _, _, _, _, _, _, _]) rfl (pc' := 137) rfl ?_
      refine Z_iload dX12_two_137 rfl (pc' := 139) rfl ?_
      refine Z_if_eq dX12_two_139 (tgt := 147) rfl (pc' := 142) rfl (fun c_139 => absurd c_139 (by decide)) (fun c_139 => ?_)
      refine Z_iload dX12_two_142 rfl (pc' := 144) rfl ?_
      refine Z_goto dX12_two_144 (tgt := 149) rfl ?_
      refine Z_istore dX12_two_149 (Nat.le_of_ble_eq_true rfl) (Nat.le_of_ble_eq_true rfl) rfl (ls' := [_, _, _, _, _, _, _, _, _, _, _, _]) rfl (pc' := 151) rfl ?_
      refine Z_iload dX12_two_151 rfl (pc' := 153) rfl ?_
      refine Z_iload dX12_two_153 rfl (pc' := 155) rfl ?_
      refine Z_if_eq dX12_two_155 (tgt := 162) rfl (pc' := 158) rfl (fun c_155 => absurd c_155 (by decide)) (fun c_155 => ?_)
      refine Z_iload_n dX12_two_158 rfl (pc' := 159) rfl ?_
      refine Z_goto dX12_two_159 (tgt := 163) rfl ?_
      refine Z_iadd dX12_two_163 (pc' := 164) rfl ?_
      refine Z_istore dX12_two_164 (Nat.le_of_ble_eq_true rfl) (Nat.le_of_ble_eq_true rfl) rfl (ls' := [_, _, _, _, _, _, _, _, _, _, _, _]) rfl (pc' := 166) rfl ?_
      refine Z_take 11 (ls' := [_, _, _, _, _, _, _, _, _, _, _]) rfl ?_
      have hij : i2 < j := by
        rw [nI_len (by omega) (by omega)] at c_127; omega
      have hn : p < s.2.1 := (srt_lt (SL_nd c) hp hj).mp hij
      have e2 := tw1_s (q1 := frS c r1) e3 hn
      exact hK i2 _ true (by rw [e2]; exact hp) (fun q => by cases q) (Or.inl ⟨rfl, by omega, hij⟩) (by rw [e2, hu]; exact mul_in _ _)
set_option maxRecDepth 100000 in
set_option maxHeartbeats 4000000 in
theorem lp_X12_two_a0 {S : ZS} {n : Nat} {c : Co} (hV : mV S c) (ok : Cok c) (hs : shR S (SL c)) {R : Option Value → ZW → Prop} {r1 r2 x y : Int32} {s : Tw} {i j : Nat} {u v : Int32} (hi : (SL c)[i]? = some s.1) (hj : (SL c)[j]? = some s.2.1) {b : Bool} (hu : u = r1 * nI s.2.2.1) (hg : tw1 (shS c (ctd c)) (frS c r1) (cny c) s = s) (hK : ∀ (i2 : Nat) (u2 : Int32) (g2 : Bool), (SL c)[i2]? = some (tw1 (shS c (ctd c)) (frS c r1) (cny c) s).1 → (g2 = false → tw1 (shS c (ctd c)) (frS c r1) (cny c) (tw1 (shS c (ctd c)) (frS c r1) (cny c) s) = (tw1 (shS c (ctd c)) (frS c r1) (cny c) s)) → ((g2 = true ∧ i < i2 ∧ i2 < j) ∨ (g2 = false ∧ i2 = i)) → u2 = r1 * nI (tw1 (shS c (ctd c)) (frS c r1) (cny c) s).2.2.1 → Z m_X12_two 0 0 R 166 [some (.ref 25), some (.int r1), some (.int r2), some (.int x), some (.int y), some (.int (nI i2)), some (.int (nI j)), some (.int u2), some (.int v), some (.int (zb g2)), some (.int (zb b))] [] (zw S n)) : Z m_X12_two 0 0 R 103 [some (.ref 25), some (.int r1), some (.int r2), some (.int x), some (.int y), some (.int (nI i)), some (.int (nI j)), some (.int u), some (.int v), some (.int (zb false)), some (.int (zb b))] [] (zw S n) := by
  refine Z_iload dX12_two_103 rfl (pc' := 105) rfl ?_
  refine Z_if_eq dX12_two_105 (tgt := 166) rfl (pc' := 108) rfl (fun c_105 => ?_) (fun c_105 => absurd c_105 (fun c => c rfl))
  exact hK i u false (by rw [hg]; exact hi) (fun _ => by rw [hg]; exact hg) (Or.inr ⟨rfl, rfl⟩) (by rw [hg]; exact hu)
set_option maxRecDepth 100000 in
set_option maxHeartbeats 4000000 in
theorem lp_X12_two_b1 {S : ZS} {n : Nat} {c : Co} (hV : mV S c) (ok : Cok c) (hs : shR S (SL c)) {R : Option Value → ZW → Prop} {r1 r2 x y : Int32} {s : Tw} {i j : Nat} {u v : Int32} (hi : (SL c)[i]? = some s.1) (hj : (SL c)[j]? = some s.2.1) {g : Bool} (hv : v = r2 * nI s.2.2.2) (hK : ∀ (j2 : Nat) (v2 : Int32) (b2 : Bool), (SL c)[j2]? = some (tw2 (shS c (ctd c)) (frS c r2) (cny c) s).2.1 → (b2 = false → tw2 (shS c (ctd c)) (frS c r2) (cny c) (tw2 (shS c (ctd c)) (frS c r2) (cny c) s) = (tw2 (shS c (ctd c)) (frS c r2) (cny c) s)) → ((b2 = true ∧ i < j2 ∧ j2 < j) ∨ (b2 = false ∧ j2 = j)) → v2 = r2 * nI (tw2 (shS c (ctd c)) (frS c r2) (cny c) s).2.2.2 → Z m_X12_two 0 0 R 93 [some (.ref 25), some (.int r1), some (.int r2), some (.int x), some (.int y), some (.int (nI i)), some (.int (nI j2)), some (.int u), some (.int v2), some (.int (zb g)), some (.int (zb b2))] [] (zw S n)) : Z m_X12_two 0 0 R 166 [some (.ref 25), some (.int r1), some (.int r2), some (.int x), some (.int y), some (.int (nI i)), some (.int (nI j)), some (.int u), some (.int v), some (.int (zb g)), some (.int (zb true))] [] (zw S n) := by
  have hll := hs.2.1
  have hil := (List.getElem?_eq_some_iff.mp hi).1
  have hjl := (List.getElem?_eq_some_iff.mp hj).1
  refine Z_iload dX12_two_166 rfl (pc' := 168) rfl ?_
  refine Z_if_eq dX12_two_168 (tgt := 93) rfl (pc' := 171) rfl (fun c_168 => absurd c_168 (by decide)) (fun c_168 => ?_)
  refine Z_aload_n dX12_two_171 rfl (z_isref _) (pc' := 172) rfl ?_
  refine Z_iload dX12_two_172 rfl (pc' := 174) rfl ?_
  refine Z_iload_n dX12_two_174 rfl (pc' := 175) rfl ?_
  refine Z_iconst dX12_two_175 (v := (-1)) (by decide) (pc' := 176) rfl ?_
  refine Z_cVe dX12_two_176 rfl zcw_X12_stepFrom (As := [_, _, _]) (rest := []) rfl ⟨Nat.le_of_ble_eq_true rfl, Nat.le_of_ble_eq_true rfl⟩ (Nat.le_of_ble_eq_true rfl) (zRcv.lay zob_25) ⟨zcw_X12_stepFrom.2.2.2.2, Nat.le_of_ble_eq_true rfl⟩ zk_RX12_204 (c_X12_stepFrom_b hV ok hs (fun x hx => SL_le hx) hj) (pc' := 179) rfl ?_
  cases e : siB (SL c) (fun x => frS c r2 x s.2.1) j with
  | none =>
    show Z _ _ _ _ _ _ (.int (-9) :: []) _
    have e0 := two_bn (ny := cny c) (SL_nd c) (SL_f ok) hj e
    rw [frS_f] at e0
    have e2 := tw2_n (q2 := frS c r2) (s := s) e0
    refine Z_istore dX12_two_179 (Nat.le_of_ble_eq_true rfl) (Nat.le_of_ble_eq_true rfl) rfl (ls' := [_, _, _, _, _, _, _, _, _, _, _, _]) rfl (pc' := 181) rfl ?_
    refine Z_iload dX12_two_181 rfl (pc' := 183) rfl ?_
    refine Z_if_lt dX12_two_183 (tgt := 197) rfl (pc' := 186) rfl (fun c_183 => ?_) (fun c_183 => absurd c_183 (fun c => c (by decide)))
    refine Z_iconst dX12_two_197 (v := 0) (by decide) (pc' := 198) rfl ?_
    refine Z_istore dX12_two_198 (Nat.le_of_ble_eq_true rfl) (Nat.le_of_ble_eq_true rfl) rfl (ls' := [_, _, _, _, _, _, _, _, _, _, _, _]) rfl (pc' := 200) rfl ?_
    refine Z_iload dX12_two_200 rfl (pc' := 202) rfl ?_
    refine Z_if_eq dX12_two_202 (tgt := 210) rfl (pc' := 205) rfl (fun c_202 => ?_) (fun c_202 => absurd c_202 (fun c => c rfl))
    refine Z_iload dX12_two_210 rfl (pc' := 212) rfl ?_
    refine Z_istore dX12_two_212 (Nat.le_of_ble_eq_true rfl) (Nat.le_of_ble_eq_true rfl) rfl (ls' := [_, _, _, _, _, _, _, _, _, _, _, _]) rfl (pc' := 214) rfl ?_
    refine Z_iload dX12_two_214 rfl (pc' := 216) rfl ?_
    refine Z_iload dX12_two_216 rfl (pc' := 218) rfl ?_
    refine Z_if_eq dX12_two_218 (tgt := 225) rfl (pc' := 221) rfl (fun c_218 => ?_) (fun c_218 => absurd c_218 (fun c => c rfl))
    refine Z_iconst dX12_two_225 (v := 0) (by decide) (pc' := 226) rfl ?_
    refine Z_iadd dX12_two_226 (pc' := 227) rfl ?_
    refine Z_istore dX12_two_227 (Nat.le_of_ble_eq_true rfl) (Nat.le_of_ble_eq_true rfl) rfl (ls' := [_, _, _, _, _, _, _, _, _, _, _, _]) rfl (pc' := 229) rfl ?_
    refine Z_goto dX12_two_229 (tgt := 93) rfl ?_
    refine Z_take 11 (ls' := [_, _, _, _, _, _, _, _, _, _, _]) rfl ?_
    exact hK j _ false (by rw [e2]; exact hj) (fun _ => by rw [e2]; exact e2) (Or.inr ⟨rfl, rfl⟩) (by rw [Int32.add_zero, e2]; exact hv)
  | some j2 =>
    obtain ⟨hii, p, hp, e3⟩ := two_bs (ny := cny c) (SL_nd c) (SL_f ok) (SL_l ok) hj e
    rw [frS_f] at e3
    have hi2l := (List.getElem?_eq_some_iff.mp hp).1
    show Z _ _ _ _ _ _ (.int (nI j2) :: []) _
    refine Z_istore dX12_two_179 (Nat.le_of_ble_eq_true rfl) (Nat.le_of_ble_eq_true rfl) rfl (ls' := [_, _, _, _, _, _, _, _, _, _, _, _]) rfl (pc' := 181) rfl ?_
    refine Z_iload dX12_two_181 rfl (pc' := 183) rfl ?_
    refine Z_if_lt dX12_two_183 (tgt := 197) rfl (pc' := 186) rfl (fun c_183 => absurd c_183 (nI_neg (by omega))) (fun c_183 => ?_)
    refine Z_iload dX12_two_186 rfl (pc' := 188) rfl ?_
    refine Z_iload dX12_two_188 rfl (pc' := 190) rfl ?_
    refine Z_icmp_le dX12_two_190 (tgt := 197) rfl (pc' := 193) rfl (fun c_190 => ?_) (fun c_190 => ?_)
    · refine Z_iconst dX12_two_197 (v := 0) (by decide) (pc' := 198) rfl ?_
      refine Z_istore dX12_two_198 (Nat.le_of_ble_eq_true rfl) (Nat.le_of_ble_eq_true rfl) rfl (ls' := [_, _, _, _, _, _, _, _, _, _, _, _]) rfl (pc' := 200) rfl ?_
      refine Z_iload dX12_two_200 rfl (pc' := 202) rfl ?_
      refine Z_if_eq dX12_two_202 (tgt := 210) rfl (pc' := 205) rfl (fun c_202 => ?_) (fun c_202 => absurd c_202 (fun c => c rfl))
      refine Z_iload dX12_two_210 rfl (pc' := 212) rfl ?_
      refine Z_istore dX12_two_212 (Nat.le_of_ble_eq_true rfl) (Nat.le_of_ble_eq_true rfl) rfl (ls' := [_, _, _, _, _, _, _, _, _, _, _, _]) rfl (pc' := 214) rfl ?_
      refine Z_iload dX12_two_214 rfl (pc' := 216) rfl ?_
      refine Z_iload dX12_two_216 rfl (pc' := 218) rfl ?_
      refine Z_if_eq dX12_two_218 (tgt := 225) rfl (pc' := 221) rfl (fun c_218 => ?_) (fun c_218 => absurd c_218 (fun c => c rfl))
      refine Z_iconst dX12_two_225 (v := 0) (by decide) (pc' := 226) rfl ?_
      refine Z_iadd dX12_two_226 (pc' := 227) rfl ?_
      refine Z_istore dX12_two_227 (Nat.le_of_ble_eq_true rfl) (Nat.le_of_ble_eq_true rfl) rfl (ls' := [_, _, _, _, _, _, _, _, _, _, _, _]) rfl (pc' := 229) rfl ?_
      refine Z_goto dX12_two_229 (tgt := 93) rfl ?_
      refine Z_take 11 (ls' := [_, _, _, _, _, _, _, _, _, _, _]) rfl ?_
      have hn : ¬ s.1 < p := fun q => by
        have q2 := (srt_lt (SL_nd c) hi hp).mpr q
        rw [nI_len (by omega) (by omega)] at c_190; omega
      have e2 := tw2_o (q2 := frS c r2) e3 hn
      exact hK j _ false (by rw [e2]; exact hj) (fun _ => by rw [e2]; exact e2) (Or.inr ⟨rfl, rfl⟩) (by rw [Int32.add_zero, e2]; exact hv)
    · refine Z_iconst dX12_two_193 (v := 1) (by decide) (pc' := 194) rfl ?_
      refine Z_goto dX12_two_194 (tgt := 198) rfl ?_
      refine Z_istore dX12_two_198 (Nat.le_of_ble_eq_true rfl) (Nat.le_of_ble_eq_true rfl) rfl (ls' := [_, _, _, _, _, _, _, _, _, _, _, _]) rfl (pc' := 200) rfl ?_
      refine Z_iload dX12_two_200 rfl (pc' := 202) rfl ?_
      refine Z_if_eq dX12_two_202 (tgt := 210) rfl (pc' := 205) rfl (fun c_202 => absurd c_202 (by decide)) (fun c_202 => ?_)
      refine Z_iload dX12_two_205 rfl (pc' := 207) rfl ?_
      refine Z_goto dX12_two_207 (tgt := 212) rfl ?_
      refine Z_istore dX12_two_212 (Nat.le_of_ble_eq_true rfl) (Nat.le_of_ble_eq_true rfl) rfl (ls' := [_, _, _, _, _, _, _, _, _, _, _, _]) rfl (pc' := 214) rfl ?_
      refine Z_iload dX12_two_214 rfl (pc' := 216) rfl ?_
      refine Z_iload dX12_two_216 rfl (pc' := 218) rfl ?_
      refine Z_if_eq dX12_two_218 (tgt := 225) rfl (pc' := 221) rfl (fun c_218 => absurd c_218 (by decide)) (fun c_218 => ?_)
      refine Z_iload_n dX12_two_221 rfl (pc' := 222) rfl ?_
      refine Z_goto dX12_two_222 (tgt := 226) rfl ?_
      refine Z_iadd dX12_two_226 (pc' := 227) rfl ?_
      refine Z_istore dX12_two_227 (Nat.le_of_ble_eq_true rfl) (Nat.le_of_ble_eq_true rfl) rfl (ls' := [_, _, _, _, _, _, _, _, _, _, _, _]) rfl (pc' := 229) rfl ?_
      refine Z_goto dX12_two_229 (tgt := 93) rfl ?_
      refine Z_take 11 (ls' := [_, _, _, _, _, _, _, _, _, _, _]) rfl ?_
      have hij : i < j2 := by
        rw [nI_len (by omega) (by omega)] at c_190; omega
      have hn : s.1 < p := (srt_lt (SL_nd c) hi hp).mp hij
      have e2 := tw2_s (q2 := frS c r2) e3 hn
      exact hK j2 _ true (by rw [e2]; exact hp) (fun q => by cases q) (Or.inl ⟨rfl, hij, hii⟩) (by rw [e2, hv]; exact mul_in _ _)
set_option maxRecDepth 100000 in
set_option maxHeartbeats 4000000 in
theorem lp_X12_two_b0 {S : ZS} {n : Nat} {c : Co} (hV : mV S c) (ok : Cok c) (hs : shR S (SL c)) {R : Option Value → ZW → Prop} {r1 r2 x y : Int32} {s : Tw} {i j : Nat} {u v : Int32} (hi : (SL c)[i]? = some s.1) (hj : (SL c)[j]? = some s.2.1) {g : Bool} (hv : v = r2 * nI s.2.2.2) (hg : tw2 (shS c (ctd c)) (frS c r2) (cny c) s = s) (hK : ∀ (j2 : Nat) (v2 : Int32) (b2 : Bool), (SL c)[j2]? = some (tw2 (shS c (ctd c)) (frS c r2) (cny c) s).2.1 → (b2 = false → tw2 (shS c (ctd c)) (frS c r2) (cny c) (tw2 (shS c (ctd c)) (frS c r2) (cny c) s) = (tw2 (shS c (ctd c)) (frS c r2) (cny c) s)) → ((b2 = true ∧ i < j2 ∧ j2 < j) ∨ (b2 = false ∧ j2 = j)) → v2 = r2 * nI (tw2 (shS c (ctd c)) (frS c r2) (cny c) s).2.2.2 → Z m_X12_two 0 0 R 93 [some (.ref 25), some (.int r1), some (.int r2), some (.int x), some (.int y), some (.int (nI i)), some (.int (nI j2)), some (.int u), some (.int v2), some (.int (zb g)), some (.int (zb b2))] [] (zw S n)) : Z m_X12_two 0 0 R 166 [some (.ref 25), some (.int r1), some (.int r2), some (.int x), some (.int y), some (.int (nI i)), some (.int (nI j)), some (.int u), some (.int v), some (.int (zb g)), some (.int (zb false))] [] (zw S n) := by
  refine Z_iload dX12_two_166 rfl (pc' := 168) rfl ?_
  refine Z_if_eq dX12_two_168 (tgt := 93) rfl (pc' := 171) rfl (fun c_168 => ?_) (fun c_168 => absurd c_168 (fun c => c rfl))
  exact hK j v false (by rw [hg]; exact hj) (fun _ => by rw [hg]; exact hg) (Or.inr ⟨rfl, rfl⟩) (by rw [hg]; exact hv)
set_option maxRecDepth 100000 in
set_option maxHeartbeats 4000000 in
theorem lp_X12_two_93 {S : ZS} {n i j : Nat} {R : Option Value → ZW → Prop} {r1 r2 x y u v : Int32} {g b : Bool} (hgo : g = true ∨ b = true) (hK : Z m_X12_two 0 0 R 103 [some (.ref 25), some (.int r1), some (.int r2), some (.int x), some (.int y), some (.int (nI i)), some (.int (nI j)), some (.int u), some (.int v), some (.int (zb g)), some (.int (zb b))] [] (zw S n)) : Z m_X12_two 0 0 R 93 [some (.ref 25), some (.int r1), some (.int r2), some (.int x), some (.int y), some (.int (nI i)), some (.int (nI j)), some (.int u), some (.int v), some (.int (zb g)), some (.int (zb b))] [] (zw S n) := by
  refine Z_iload dX12_two_93 rfl (pc' := 95) rfl ?_
  refine Z_if_ne dX12_two_95 (tgt := 103) rfl (pc' := 98) rfl (fun c_95 => ?_) (fun c_95 => ?_)
  · exact hK
  · refine Z_iload dX12_two_98 rfl (pc' := 100) rfl ?_
    refine Z_if_eq dX12_two_100 (tgt := 232) rfl (pc' := 103) rfl (fun c_100 => ?_) (fun c_100 => ?_)
    · exfalso
      rcases hgo with q | q
      · rw [q] at c_95; exact absurd c_95 (by decide)
      · rw [q] at c_100; exact absurd c_100 (by decide)
    · exact hK
set_option maxRecDepth 100000 in
set_option maxHeartbeats 4000000 in
theorem lp_X12_two_end {S : ZS} {n i j : Nat} {R : Option Value → ZW → Prop} {r1 r2 x y u v : Int32} (hR : R (some (.int (if x = 0 then u else v))) (zw S n)) : Z m_X12_two 0 0 R 93 [some (.ref 25), some (.int r1), some (.int r2), some (.int x), some (.int y), some (.int (nI i)), some (.int (nI j)), some (.int u), some (.int v), some (.int (zb false)), some (.int (zb false))] [] (zw S n) := by
  refine Z_iload dX12_two_93 rfl (pc' := 95) rfl ?_
  refine Z_if_ne dX12_two_95 (tgt := 103) rfl (pc' := 98) rfl (fun c_95 => absurd c_95 (fun c => c rfl)) (fun c_95 => ?_)
  refine Z_iload dX12_two_98 rfl (pc' := 100) rfl ?_
  refine Z_if_eq dX12_two_100 (tgt := 232) rfl (pc' := 103) rfl (fun c_100 => ?_) (fun c_100 => absurd c_100 (fun c => c rfl))
  refine Z_iload_n dX12_two_232 rfl (pc' := 233) rfl ?_
  refine Z_if_ne dX12_two_233 (tgt := 241) rfl (pc' := 236) rfl (fun c_233 => ?_) (fun c_233 => ?_)
  · refine Z_iload dX12_two_241 rfl (pc' := 243) rfl ?_
    exact Z_ireturn dX12_two_243 rfl rfl (by rw [if_neg c_233] at hR; exact hR)
  · refine Z_iload dX12_two_236 rfl (pc' := 238) rfl ?_
    refine Z_goto dX12_two_238 (tgt := 243) rfl ?_
    exact Z_ireturn dX12_two_243 rfl rfl (by rw [if_pos c_233] at hR; exact hR)
theorem lp_X12_two {S : ZS} {n : Nat} {c : Co} (hV : mV S c) (ok : Cok c) (hs : shR S (SL c)) {R : Option Value → ZW → Prop} {r1 r2 x y : Int32} {T : Tw} (hR : R (some (.int (if x = 0 then r1 * nI T.2.2.1 else r2 * nI T.2.2.2))) (zw S n)) : ∀ (m : Nat) (s : Tw) (i j : Nat) (u v : Int32) (g b : Bool), (SL c)[i]? = some s.1 → (SL c)[j]? = some s.2.1 → (j - i) + g.toNat + b.toNat ≤ m → (g = false → tw1 (shS c (ctd c)) (frS c r1) (cny c) s = s) → (b = false → tw2 (shS c (ctd c)) (frS c r2) (cny c) s = s) → u = r1 * nI s.2.2.1 → v = r2 * nI s.2.2.2 → twN (shS c (ctd c)) (frS c r1) (frS c r2) (cny c) 48 s = T → Z m_X12_two 0 0 R 93 [some (.ref 25), some (.int r1), some (.int r2), some (.int x), some (.int y), some (.int (nI i)), some (.int (nI j)), some (.int u), some (.int v), some (.int (zb g)), some (.int (zb b))] [] (zw S n) := by
  intro m
  induction m with
  | zero =>
    intro s i j u v g b hi hj hm hg hb hu hv hT
    cases g with
    | true => exact absurd hm (by show ¬ _ + 1 + _ ≤ 0; omega)
    | false =>
      cases b with
      | true => exact absurd hm (by show ¬ _ + _ + 1 ≤ 0; omega)
      | false =>
        refine lp_X12_two_end ?_
        rw [twN_fix (show twT (shS c (ctd c)) (frS c r1) (frS c r2) (cny c) s = s by unfold twT; rw [hg rfl, hb rfl])] at hT
        subst hT; rw [hu, hv]; exact hR
  | succ m ih =>
    intro s i j u v g b hi hj hm hg hb hu hv hT
    by_cases hgo : g = true ∨ b = true
    · refine lp_X12_two_93 hgo ?_
      have hd : s.2.1 - s.1 ≤ 48 := by
        have := SL_le (List.mem_of_getElem? hj)
        have := ok.2.1
        omega
      have hT2 : twN (shS c (ctd c)) (frS c r1) (frS c r2) (cny c) 48 (twT (shS c (ctd c)) (frS c r1) (frS c r2) (cny c) s) = T := by rw [twN_48 hd]; exact hT
      have step : ∀ (i2 : Nat) (u2 : Int32) (g2 : Bool), (SL c)[i2]? = some (tw1 (shS c (ctd c)) (frS c r1) (cny c) s).1 → (g2 = false → tw1 (shS c (ctd c)) (frS c r1) (cny c) (tw1 (shS c (ctd c)) (frS c r1) (cny c) s) = (tw1 (shS c (ctd c)) (frS c r1) (cny c) s)) → ((g2 = true ∧ i < i2 ∧ i2 < j) ∨ (g2 = false ∧ i2 = i)) → u2 = r1 * nI (tw1 (shS c (ctd c)) (frS c r1) (cny c) s).2.2.1 → Z m_X12_two 0 0 R 166 [some (.ref 25), some (.int r1), some (.int r2), some (.int x), some (.int y), some (.int (nI i2)), some (.int (nI j)), some (.int u2), some (.int v), some (.int (zb g2)), some (.int (zb b))] [] (zw S n) := by
        intro i2 u2 g2 hi2 hg2 hc2 hu2
        have hk1 := tw1_k (shS c (ctd c)) (frS c r1) (cny c) s
        have fin : ∀ (j2 : Nat) (v2 : Int32) (b2 : Bool), (SL c)[j2]? = some (tw2 (shS c (ctd c)) (frS c r2) (cny c) (tw1 (shS c (ctd c)) (frS c r1) (cny c) s)).2.1 → (b2 = false → tw2 (shS c (ctd c)) (frS c r2) (cny c) (tw2 (shS c (ctd c)) (frS c r2) (cny c) (tw1 (shS c (ctd c)) (frS c r1) (cny c) s)) = tw2 (shS c (ctd c)) (frS c r2) (cny c) (tw1 (shS c (ctd c)) (frS c r1) (cny c) s)) → ((b2 = true ∧ i2 < j2 ∧ j2 < j) ∨ (b2 = false ∧ j2 = j)) → v2 = r2 * nI (tw2 (shS c (ctd c)) (frS c r2) (cny c) (tw1 (shS c (ctd c)) (frS c r1) (cny c) s)).2.2.2 → (b2 = true → b = true) → Z m_X12_two 0 0 R 93 [some (.ref 25), some (.int r1), some (.int r2), some (.int x), some (.int y), some (.int (nI i2)), some (.int (nI j2)), some (.int u2), some (.int v2), some (.int (zb g2)), some (.int (zb b2))] [] (zw S n) := by
          intro j2 v2 b2 hj2 hb2 hd2 hv2 hbb
          have hk2 := tw2_k (shS c (ctd c)) (frS c r2) (cny c) (tw1 (shS c (ctd c)) (frS c r1) (cny c) s)
          refine ih _ i2 j2 u2 v2 g2 b2 (by rw [hk2.1]; exact hi2) hj2 ?_ (fun q => tw_A (hg2 q)) hb2 (by rw [hk2.2]; exact hu2) hv2 hT2
          have t1 : g2.toNat ≤ 1 := by cases g2 <;> decide
          have t2 : b2.toNat ≤ 1 := by cases b2 <;> decide
          have t3 : b2.toNat ≤ b.toNat := by
            cases b2
            · exact Nat.zero_le _
            · rw [hbb rfl]; exact Nat.le_refl _
          have hg3 : g2 = true → g = true := fun q => by
            cases g
            · exfalso
              rcases hc2 with ⟨_, e, _⟩ | ⟨e, _⟩
              · have h1 := hg rfl
                rw [h1] at hi2
                have := (List.getElem?_eq_some_iff.mp hi2)
                have := (srt_lt (SL_nd c) hi hi2).mp e
                omega
              · rw [q] at e; cases e
            · rfl
          have t4 : g2.toNat ≤ g.toNat := by
            cases g2
            · exact Nat.zero_le _
            · rw [hg3 rfl]; exact Nat.le_refl _
          have key : (j2 - i2) + g2.toNat + b2.toNat < (j - i) + g.toNat + b.toNat := by
            rcases hc2 with ⟨e1, e2, e3⟩ | ⟨e1, e2⟩
            · rcases hd2 with ⟨d1, d2, d3⟩ | ⟨d1, d2⟩
              · omega
              · subst d2; omega
            · subst e2
              rcases hd2 with ⟨d1, d2, d3⟩ | ⟨d1, d2⟩
              · omega
              · subst d2
                subst e1; subst d1
                rcases hgo with q | q
                · rw [q]; show _ + 0 + 0 < _ + 1 + _; omega
                · rw [q]; show _ + 0 + 0 < _ + _ + 1; omega
          omega
        have hj' : (SL c)[j]? = some (tw1 (shS c (ctd c)) (frS c r1) (cny c) s).2.1 := by rw [hk1.1]; exact hj
        have hv' : v = r2 * nI (tw1 (shS c (ctd c)) (frS c r1) (cny c) s).2.2.2 := by rw [hk1.2]; exact hv
        cases b with
        | true => exact lp_X12_two_b1 hV ok hs hi2 hj' hv' (fun j2 v2 b2 p1 p2 p3 p4 => fin j2 v2 b2 p1 p2 p3 p4 (fun _ => rfl))
        | false => exact lp_X12_two_b0 hV ok hs hi2 hj' hv' (tw_B (hb rfl)) (fun j2 v2 b2 p1 p2 p3 p4 => fin j2 v2 b2 p1 p2 p3 p4 (fun q => by
            rcases p3 with ⟨_, _, e⟩ | ⟨e, _⟩
            · rw [tw_B (hb rfl)] at p1
              have := (srt_lt (SL_nd c) p1 hj').mp e
              omega
            · rw [q] at e; cases e))
      cases g with
      | true => exact lp_X12_two_a1 hV ok hs hi hj hu step
      | false => exact lp_X12_two_a0 hV ok hs hi hj hu (hg rfl) step
    · have h1 : g = false := by
        cases g
        · rfl
        · exact absurd (Or.inl rfl) hgo
      have h2 : b = false := by
        cases b
        · rfl
        · exact absurd (Or.inr rfl) hgo
      subst h1; subst h2
      refine lp_X12_two_end ?_
      rw [twN_fix (show twT (shS c (ctd c)) (frS c r1) (frS c r2) (cny c) s = s by unfold twT; rw [hg rfl, hb rfl])] at hT
      subst hT; rw [hu, hv]; exact hR
theorem SL_0 (c : Co) : (SL c)[0]? = some 0 := by
  unfold SL
  rw [fsL_t (gS_0 c (-9)) (Nat.zero_mod 1)]
  rfl
theorem SL_last {c : Co} (ok : Cok c) : ∃ h, (SL c)[(SL c).length - 1]? = some h ∧ lsF (shS c (ctd c)) 49 = nI h ∧ h ≤ 48 := by
  have h48 := ok.2.1
  have e : (shS c (ctd c)) = fun k => decide (k ∈ SL c) := funext fun k => by
    rw [Bool.eq_iff_iff, decide_eq_true_iff]
    exact (SL_mem ok).symm
  have h0 := (List.getElem?_eq_some_iff.mp (SL_0 c)).1
  have hl := lsF_list (SL_nd c) (fun x hx => by have := SL_le hx; omega)
  rw [List.getLast?_eq_getElem?] at hl
  have hx : (SL c)[(SL c).length - 1]? = some ((SL c)[(SL c).length - 1]'(by omega)) := List.getElem?_eq_getElem (by omega)
  generalize (SL c)[(SL c).length - 1]'(by omega) = h at hx
  rw [hx] at hl
  rw [e]
  exact ⟨h, hx, hl, by have := SL_le (List.mem_of_getElem? hx); omega⟩
set_option maxRecDepth 100000 in
set_option maxHeartbeats 4000000 in
theorem lp_X12_two_49 {S : ZS} {n : Nat} {M : Ms} (hI : MI S M) {a b0 x : Int32} (hx0 : ¬ (x < 0 ∨ 1 < x)) {v : Int32} (hv : t2I a b0 = v) : Z m_X12_two 0 0 (qR S n (spTwo M a b0 x)) 49 [some (.ref 25), some (.int a), some (.int b0), some (.int x)] [.int v] (zw S n) := by
  refine Z_istore dX12_two_49 (Nat.le_of_ble_eq_true rfl) (Nat.le_of_ble_eq_true rfl) rfl (ls' := [_, _, _, _, _]) rfl (pc' := 51) rfl ?_
  refine Z_iload dX12_two_51 rfl (pc' := 53) rfl ?_
  refine Z_if_eq dX12_two_53 (tgt := 63) rfl (pc' := 56) rfl (fun c_53 => ?_) (fun c_53 => ?_)
  · subst hv
    refine Z_aload_n dX12_two_63 rfl (z_isref _) (pc' := 64) rfl ?_
    refine Z_bipush dX12_two_64 (v := (-9)) (by decide) (pc' := 66) rfl ?_
    refine Z_iconst dX12_two_66 (v := 1) (by decide) (pc' := 67) rfl ?_
    refine Z_cV dX12_two_67 rfl zcw_X12_findShore (As := [_, _]) (rest := []) rfl ⟨Nat.le_of_ble_eq_true rfl, Nat.le_of_ble_eq_true rfl⟩ (Nat.le_of_ble_eq_true rfl) (zRcv.lay zob_25) ⟨zcw_X12_findShore.2.2.2.2, Nat.le_of_ble_eq_true rfl⟩ zk_RX12_184 (c_X12_findShore1 hI.mv hI.ok) (pc' := 70) rfl (fun r_67 w_67 h_67 => ?_)
    obtain ⟨rfl, S1, rfl, f1, s1⟩ := h_67
    have hsl := s1.2.1
    have hs0 := (List.getElem?_eq_some_iff.mp (SL_0 (mc M))).1
    obtain ⟨h, hh1, hh2, hh3⟩ := SL_last hI.ok
    show Z _ _ _ _ _ _ [] _
    refine Z_iconst dX12_two_70 (v := 0) (by decide) (pc' := 71) rfl ?_
    refine Z_istore dX12_two_71 (Nat.le_of_ble_eq_true rfl) (Nat.le_of_ble_eq_true rfl) rfl (ls' := [_, _, _, _, _, _]) rfl (pc' := 73) rfl ?_
    refine Z_aload_n dX12_two_73 rfl (z_isref _) (pc' := 74) rfl ?_
    refine Z_gI dX12_two_74 rfl zgi_RX12_175_25 (pc' := 77) rfl ?_
    rw [s1.1]
    refine Z_iconst dX12_two_77 (v := 1) (by decide) (pc' := 78) rfl ?_
    refine Z_isub dX12_two_78 (pc' := 79) rfl ?_
    rw [nI_sub1 (by omega)]
    refine Z_istore dX12_two_79 (Nat.le_of_ble_eq_true rfl) (Nat.le_of_ble_eq_true rfl) rfl (ls' := [_, _, _, _, _, _, _]) rfl (pc' := 81) rfl ?_
    refine Z_iconst dX12_two_81 (v := 0) (by decide) (pc' := 82) rfl ?_
    refine Z_istore dX12_two_82 (Nat.le_of_ble_eq_true rfl) (Nat.le_of_ble_eq_true rfl) rfl (ls' := [_, _, _, _, _, _, _, _]) rfl (pc' := 84) rfl ?_
    refine Z_iconst dX12_two_84 (v := 0) (by decide) (pc' := 85) rfl ?_
    refine Z_istore dX12_two_85 (Nat.le_of_ble_eq_true rfl) (Nat.le_of_ble_eq_true rfl) rfl (ls' := [_, _, _, _, _, _, _, _, _]) rfl (pc' := 87) rfl ?_
    refine Z_iconst dX12_two_87 (v := 1) (by decide) (pc' := 88) rfl ?_
    refine Z_istore dX12_two_88 (Nat.le_of_ble_eq_true rfl) (Nat.le_of_ble_eq_true rfl) rfl (ls' := [_, _, _, _, _, _, _, _, _, _]) rfl (pc' := 90) rfl ?_
    refine Z_iconst dX12_two_90 (v := 1) (by decide) (pc' := 91) rfl ?_
    refine Z_istore dX12_two_91 (Nat.le_of_ble_eq_true rfl) (Nat.le_of_ble_eq_true rfl) rfl (ls' := [_, _, _, _, _, _, _, _, _, _, _]) rfl (pc' := 93) rfl ?_
    have e0 : (lsF (mcf M) 49).toNatClampNeg = h := by
      rw [show lsF (mcf M) 49 = nI h from hh2, nI_nat (by omega)]
    exact lp_X12_two (f1.mv hI.mv) hI.ok s1 (T := twS M a b0) (qR.st hI f1 (by unfold spTwo; rw [if_neg hx0, if_neg (fun q => q c_53)])) _ (0, h, 0, 0) 0 ((SL (mc M)).length - 1) 0 0 true true (SL_0 _) hh1 (Nat.le_refl _) (fun q => by cases q) (fun q => by cases q) (Int32.mul_zero).symm (Int32.mul_zero).symm (by unfold twS; rw [e0]; rfl)
  · subst hv
    obtain ⟨k, hk, hx, hy⟩ := t2I_k c_53
    refine Z_aload_n dX12_two_56 rfl (z_isref _) (pc' := 57) rfl ?_
    refine Z_iload dX12_two_57 rfl (pc' := 59) rfl ?_
    refine Z_cVe dX12_two_59 rfl zcw_X12_no (As := [_]) (rest := []) rfl ⟨Nat.le_of_ble_eq_true rfl, Nat.le_of_ble_eq_true rfl⟩ (Nat.le_of_ble_eq_true rfl) (zRcv.lay zob_25) ⟨zcw_X12_no.2.2.2.2, Nat.le_of_ble_eq_true rfl⟩ zk_RX12_85 (c_X12_no hk hx) (pc' := 62) rfl ?_
    exact Z_ireturn dX12_two_62 rfl rfl (qR.no hI sfr.rf hk (by unfold spTwo noV; rw [if_neg hx0, if_pos c_53, hy]))
set_option maxRecDepth 100000 in
set_option maxHeartbeats 4000000 in
theorem c_X12_two {S : ZS} {n : Nat} {M : Ms} (hI : MI S M) {a b0 x : Int32} : zM m_X12_two 0 0 [.ref 25, .int a, .int b0, .int x] (zw S n) (qR S n (spTwo M a b0 x)) := by
  show Z m_X12_two _ _ _ 0 [some (.ref _), some (.int _), some (.int _), some (.int _)] [] _
  refine Z_iload_n dX12_two_0 rfl (pc' := 1) rfl ?_
  refine Z_iconst dX12_two_1 (v := 0) (by decide) (pc' := 2) rfl ?_
  refine Z_iconst dX12_two_2 (v := 1) (by decide) (pc' := 3) rfl ?_
  refine Z_cSe dX12_two_3 rfl zcw_X12_isIn (As := [_, _, _]) (rest := []) rfl ⟨Nat.le_of_ble_eq_true rfl, Nat.le_of_ble_eq_true rfl⟩ (Nat.le_of_ble_eq_true rfl) ⟨zcw_X12_isIn.2.2.2.2, Nat.le_of_ble_eq_true rfl⟩ zk_RX12_96 c_X12_isIn (pc' := 6) rfl ?_
  rcases in_cases x 0 1 with ⟨e, h1, h2⟩ | ⟨e, h⟩
  · rw [e]
    have hx0 := n_or h1 h2
    refine Z_if_ne dX12_two_6 (tgt := 16) rfl (pc' := 9) rfl (fun c_6 => ?_) (fun c_6 => absurd c_6 (by decide))
    refine Z_iload_n dX12_two_16 rfl (pc' := 17) rfl ?_
    refine Z_iconst dX12_two_17 (v := 1) (by decide) (pc' := 18) rfl ?_
    refine Z_icmp_lt dX12_two_18 (tgt := 26) rfl (pc' := 21) rfl (fun c_18 => ?_) (fun c_18 => ?_)
    · refine Z_bipush dX12_two_26 (v := (-4)) (by decide) (pc' := 28) rfl ?_
      refine Z_goto dX12_two_28 (tgt := 49) rfl ?_
      exact lp_X12_two_49 hI hx0 (t2_lt (Or.inl c_18))
    · refine Z_iload_n dX12_two_21 rfl (pc' := 22) rfl ?_
      refine Z_iconst dX12_two_22 (v := 1) (by decide) (pc' := 23) rfl ?_
      refine Z_icmp_ge dX12_two_23 (tgt := 31) rfl (pc' := 26) rfl (fun c_23 => ?_) (fun c_23 => ?_)
      · refine Z_iload_n dX12_two_31 rfl (pc' := 32) rfl ?_
        refine Z_bipush dX12_two_32 (v := 9) (by decide) (pc' := 34) rfl ?_
        refine Z_icmp_gt dX12_two_34 (tgt := 43) rfl (pc' := 37) rfl (fun c_34 => ?_) (fun c_34 => ?_)
        · refine Z_bipush dX12_two_43 (v := (-6)) (by decide) (pc' := 45) rfl ?_
          refine Z_goto dX12_two_45 (tgt := 49) rfl ?_
          exact lp_X12_two_49 hI hx0 (t2_gt (n_or c_18 (i_nlt c_23)) (Or.inl c_34))
        · refine Z_iload_n dX12_two_37 rfl (pc' := 38) rfl ?_
          refine Z_bipush dX12_two_38 (v := 9) (by decide) (pc' := 40) rfl ?_
          refine Z_icmp_le dX12_two_40 (tgt := 48) rfl (pc' := 43) rfl (fun c_40 => ?_) (fun c_40 => ?_)
          · refine Z_iconst dX12_two_48 (v := 0) (by decide) (pc' := 49) rfl ?_
            exact lp_X12_two_49 hI hx0 (t2_ok (n_or c_18 (i_nlt c_23)) (n_or c_34 (i_nlt c_40)))
          · refine Z_bipush dX12_two_43 (v := (-6)) (by decide) (pc' := 45) rfl ?_
            refine Z_goto dX12_two_45 (tgt := 49) rfl ?_
            exact lp_X12_two_49 hI hx0 (t2_gt (n_or c_18 (i_nlt c_23)) (Or.inr (i_lt c_40)))
      · refine Z_bipush dX12_two_26 (v := (-4)) (by decide) (pc' := 28) rfl ?_
        refine Z_goto dX12_two_28 (tgt := 49) rfl ?_
        exact lp_X12_two_49 hI hx0 (t2_lt (Or.inr (i_lt c_23)))
  · rw [e]
    refine Z_if_ne dX12_two_6 (tgt := 16) rfl (pc' := 9) rfl (fun c_6 => absurd c_6 (fun q => q rfl)) (fun c_6 => ?_)
    refine Z_aload_n dX12_two_9 rfl (z_isref _) (pc' := 10) rfl ?_
    refine Z_bipush dX12_two_10 (v := (-2)) (by decide) (pc' := 12) rfl ?_
    refine Z_cVe dX12_two_12 rfl zcw_X12_no (As := [_]) (rest := []) rfl ⟨Nat.le_of_ble_eq_true rfl, Nat.le_of_ble_eq_true rfl⟩ (Nat.le_of_ble_eq_true rfl) (zRcv.lay zob_25) ⟨zcw_X12_no.2.2.2.2, Nat.le_of_ble_eq_true rfl⟩ zk_RX12_85 (c_X12_no (k := 2) (by decide) (by decide)) (pc' := 15) rfl ?_
    exact Z_ireturn dX12_two_15 rfl rfl (qR.no hI sfr.rf (by decide) (by unfold spTwo; rw [if_pos h]))
