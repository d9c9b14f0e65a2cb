/-! ===== the model's scratch: what no call leaves to the next ===== -/
def scr (a k : Nat) : Bool := (decide (39 ≤ a) && decide (a ≤ 41)) || (decide (43 ≤ a) && decide (a ≤ 45)) || (decide (a = 25) && (k == 21 || k == 22 || k == 25 || k == 26 || k == 29 || k == 30 || k == 32)) || (decide (a = 42) && decide (220 ≤ k))
def sfr (S S' : ZS) : Prop := S'.2 = S.2 ∧ ∀ a k, scr a k = false → S'.1 a k = S.1 a k
theorem sfr.rf {S : ZS} : sfr S S := ⟨rfl, fun _ _ _ => rfl⟩
theorem sfr.tr {S S1 S2 : ZS} (h : sfr S S1) (h2 : sfr S1 S2) : sfr S S2 := ⟨h2.1.trans h.1, fun a k q => (h2.2 a k q).trans (h.2 a k q)⟩
theorem sA_get (S : ZS) (a k : Nat) (x : Int32) (b j : Nat) : (sA S a k x).1 b j = if b = a ∧ j = k then x else S.1 b j := by
  by_cases e : b = a
  · subst e
    rw [sA_same]
    by_cases e2 : j = k
    · subst e2; rw [zup_same, if_pos ⟨rfl, rfl⟩]
    · rw [zup_ne _ _ e2, if_neg (fun h => e2 h.2)]
  · rw [sA_ne _ _ _ e, if_neg (fun h => e h.1)]
theorem sA_nk (S : ZS) {a k : Nat} (x : Int32) {b j : Nat} (h : ¬ (b = a ∧ j = k)) : (sA S a k x).1 b j = S.1 b j := by rw [sA_get, if_neg h]
theorem sA_eq (S : ZS) (a k : Nat) (x : Int32) : (sA S a k x).1 a k = x := by rw [sA_same, zup_same]
theorem sfr.sA {S S' : ZS} (h : sfr S S') {a k : Nat} (x : Int32) (hs : scr a k = true) : sfr S (sA S' a k x) := ⟨h.1, fun b j q => by
  rw [sA_nk]
  · exact h.2 b j q
  · rintro ⟨rfl, rfl⟩; rw [hs] at q; cases q⟩
/-- the lots, too -/
def scw (a k : Nat) : Bool := scr a k || ((decide (a = 25) && decide (k = 36)) || decide (a = 46))
def sfw (S S' : ZS) : Prop := S'.2 = S.2 ∧ ∀ a k, scw a k = false → S'.1 a k = S.1 a k
theorem sfr.w {S S' : ZS} (h : sfr S S') : sfw S S' := ⟨h.1, fun a k q => h.2 a k (by unfold scw at q; exact (Bool.or_eq_false_iff.mp q).1)⟩
theorem sfw.rf {S : ZS} : sfw S S := ⟨rfl, fun _ _ _ => rfl⟩
theorem sfw.tr {S S1 S2 : ZS} (h : sfw S S1) (h2 : sfw S1 S2) : sfw S S2 := ⟨h2.1.trans h.1, fun a k q => (h2.2 a k q).trans (h.2 a k q)⟩
theorem sfw.sA {S S' : ZS} (h : sfw S S') {a k : Nat} (x : Int32) (hs : scw a k = true) : sfw S (sA S' a k x) := ⟨h.1, fun b j q => by
  rw [sA_nk]
  · exact h.2 b j q
  · rintro ⟨rfl, rfl⟩; rw [hs] at q; cases q⟩
theorem scr_f {a k : Nat} (h : a < 39) (h2 : a ≠ 25) : scw a k = false := by
  have h1 : ¬ 39 ≤ a := by omega
  have h3 : ¬ 43 ≤ a := by omega
  have h4 : ¬ a = 42 := by omega
  have h5 : ¬ a = 46 := by omega
  simp [scw, scr, h1, h2, h3, h4, h5]
theorem sfw.lo {S S' : ZS} (h : sfw S S') {a : Nat} (h1 : a < 39) (h2 : a ≠ 25) : S'.1 a = S.1 a := funext fun k => h.2 a k (scr_f h1 h2)
theorem sfw.f {S S' : ZS} (h : sfw S S') (k : Nat) (hk : scw 25 k = false) : S'.1 25 k = S.1 25 k := h.2 25 k hk
theorem sfw.frm {S S' : ZS} {n : Nat} (h : sfw S S') : frm 25 47 S n S' n := by
  refine ⟨Nat.le_refl _, fun j _ => by rw [h.1], fun a ha => ⟨funext fun k => h.2 a k ?_, by rw [h.1]⟩⟩
  rcases ha with q | q
  · exact scr_f (by omega) (by omega)
  · have h1 : ¬ a ≤ 41 := by omega
    have h2 : ¬ a ≤ 45 := by omega
    have h5 : ¬ a = 46 := by omega
    have h3 : ¬ a = 25 := by omega
    have h4 : ¬ a = 42 := by omega
    simp [scw, scr, h1, h2, h3, h4, h5]
theorem sfw.mv {S S' : ZS} {c : Co} (h : sfw S S') (v : mV S c) : mV S' c := by
  obtain ⟨⟨a1, a2, a3, a4⟩, b, d, e, r⟩ := v
  refine ⟨⟨?_, ?_, ?_, ?_⟩, ?_, ?_, ?_, ?_⟩
  · rw [h.f _ (by decide)]; exact a1
  · rw [h.f _ (by decide)]; exact a2
  · rw [h.f _ (by decide)]; exact a3
  · rw [h.f _ (by decide)]; exact a4
  · rw [h.lo (by decide) (by decide), h.lo (by decide) (by decide), h.lo (by decide) (by decide), h.lo (by decide) (by decide)]; exact b
  · rw [h.lo (by decide) (by decide), h.lo (by decide) (by decide)]; exact d
  · rw [h.lo (by decide) (by decide)]; exact e
  · rw [h.lo (by decide) (by decide), h.lo (by decide) (by decide), h.lo (by decide) (by decide), h.lo (by decide) (by decide)]; exact r
theorem scr_47 (k : Nat) : scw 47 k = false := by simp [scw, scr]
theorem scr_42 {k : Nat} (h : k < 220) : scw 42 k = false := by
  have h1 : ¬ 220 ≤ k := by omega
  simp [scw, scr, h1]
theorem kV_cong {f g : Nat → Int32} {c : Co} (ok : Cok c) (h : ∀ k, k < 220 → g k = f k) (v : kV f c) : kV g c := by
  obtain ⟨⟨a1, a2, a3, a4⟩, b, d, e, r⟩ := v
  have o1 := ok.1; have o2 := ok.2.1; have o3 := ok.2.2.1
  refine ⟨⟨?_, ?_, ?_, ?_⟩, fun k hk => ?_, fun p hp => ?_, fun p h1 hp => ?_, fun k hk => ?_⟩
  · rw [h _ (by decide)]; exact a1
  · rw [h _ (by decide)]; exact a2
  · rw [h _ (by decide)]; exact a3
  · rw [h _ (by decide)]; exact a4
  · rw [h _ (by omega), h _ (by omega), h _ (by omega), h _ (by omega)]; exact b k hk
  · rw [h _ (by omega), h _ (by omega)]; exact d p hp
  · rw [h _ (by omega)]; exact e p h1 hp
  · rw [h _ (by omega), h _ (by omega), h _ (by omega), h _ (by omega)]; exact r k hk
theorem sfw.mi {S S' : ZS} {M : Ms} (h : sfw S S') (v : MI S M) : MI S' M := by
  obtain ⟨v1, i, t, r, q⟩ := v
  refine ⟨⟨h.mv v1.1, v1.2⟩, ⟨?_, fun c hc => ?_⟩, ⟨?_, t.2.1, fun k hk => ?_⟩, ⟨?_, r.2.1, fun k hk => ?_⟩, fun k hk => ?_⟩
  · rw [h.f _ (by decide)]; exact i.1
  · exact ⟨kV_cong (i.2 c hc).2 (fun k hk => h.2 42 k (scr_42 hk)) (i.2 c hc).1, (i.2 c hc).2⟩
  · rw [h.f _ (by decide)]; exact t.1
  · rw [h.lo (by decide) (by decide)]; exact t.2.2 k hk
  · rw [h.f _ (by decide)]; exact r.1
  · rw [h.2 47 k (scr_47 k)]; exact r.2.2 k hk
  · rw [h.lo (by decide) (by decide)]; exact q k hk
theorem sfr.frm {S S' : ZS} {n : Nat} (h : sfr S S') : frm 25 47 S n S' n := h.w.frm
theorem sfr.mv {S S' : ZS} {c : Co} (h : sfr S S') (v : mV S c) : mV S' c := h.w.mv v
theorem sfr.mi {S S' : ZS} {M : Ms} (h : sfr S S') (v : MI S M) : MI S' M := h.w.mi v
theorem qR.stw {S S' : ZS} {n : Nat} {M : Ms} (h : MI S M) (f : sfw S S') {v : Int32} {p : Int32 × Ms} (e : p = (v, M)) : qR S n p (some (.int v)) (zw S' n) := by
  subst e
  exact ⟨rfl, S', rfl, f.frm, f.mi h⟩
theorem qR.st {S S' : ZS} {n : Nat} {M : Ms} (h : MI S M) (f : sfr S S') {v : Int32} {p : Int32 × Ms} (e : p = (v, M)) : qR S n p (some (.int v)) (zw S' n) := by
  subst e
  exact ⟨rfl, S', rfl, f.frm, f.mi h⟩
theorem MI_no {S : ZS} {M : Ms} (h : MI S M) {k : Nat} (hk : k < 7) (v : Int32) : MI (sA S 26 k (S.1 26 k + 1)) (no M k v).2 := by
  obtain ⟨⟨⟨⟨a1, a2, a3, a4⟩, b, d, e, r0⟩, ok⟩, i, t, r, q⟩ := h
  have g : ∀ a, a ≠ 26 → (sA S 26 k (S.1 26 k + 1)).1 a = S.1 a := fun a ha => sA_ne _ _ _ ha
  refine ⟨⟨⟨⟨?_, ?_, ?_, ?_⟩, ?_, ?_, ?_, ?_⟩, ok⟩, ?_, ?_, ?_, fun j hj => ?_⟩
  · rw [g _ (by decide)]; exact a1
  · rw [g _ (by decide)]; exact a2
  · rw [g _ (by decide)]; exact a3
  · rw [g _ (by decide)]; exact a4
  · rw [g _ (by decide), g _ (by decide), g _ (by decide), g _ (by decide)]; exact b
  · rw [g _ (by decide), g _ (by decide)]; exact d
  · rw [g _ (by decide)]; exact e
  · rw [g _ (by decide), g _ (by decide), g _ (by decide), g _ (by decide)]; exact r0
  · rw [g _ (by decide), g _ (by decide)]; exact i
  · rw [g _ (by decide), g _ (by decide)]; exact t
  · rw [g _ (by decide), g _ (by decide)]; exact r
  · rw [sA_same]
    show zup (S.1 26) k (S.1 26 k + 1) j = zup (mrf M) k (mrf M k + 1) j
    by_cases e : j = k
    · subst e; rw [zup_same, zup_same, q j hj]
    · rw [zup_ne _ _ e, zup_ne _ _ e, q j hj]
theorem qR.no {S S' : ZS} {n : Nat} {M : Ms} (h : MI S M) (f : sfr S S') {k : Nat} (hk : k < 7) {v : Int32} {p : Int32 × Ms} (e : p = no M k v) : qR S n p (some (.int v)) (zw (sA S' 26 k (S'.1 26 k + 1)) n) := by
  subst e
  exact ⟨rfl, _, rfl, f.frm.sA k _ (by decide) (by decide), MI_no (f.mi h) hk v⟩
/-! ===== the rows of places ===== -/
def shR (S : ZS) (l : List Nat) : Prop := S.1 25 29 = nI l.length ∧ l.length ≤ 49 ∧ ∀ i p, l[i]? = some p → S.1 43 i = nI p
def wdR (S : ZS) (l : List Nat) : Prop := S.1 25 30 = nI l.length ∧ l.length ≤ 49 ∧ ∀ i p, l[i]? = some p → S.1 44 i = nI p
theorem push_at {l : List Nat} {q i p : Nat} (h : (l ++ [q])[i]? = some p) : (i < l.length ∧ l[i]? = some p) ∨ (i = l.length ∧ p = q) := by
  rcases Nat.lt_or_ge i l.length with g | g
  · rw [List.getElem?_append_left g] at h; exact Or.inl ⟨g, h⟩
  · rw [List.getElem?_append_right g] at h
    have h1 : i - l.length < 1 := by
      have := (List.getElem?_eq_some_iff.mp h).1
      simpa using this
    have h2 : i - l.length = 0 := by omega
    rw [h2] at h
    exact Or.inr ⟨by omega, by simpa using h.symm⟩
theorem shR.nil {S : ZS} : shR (sA S 25 29 0) [] := ⟨sA_eq .., by decide, fun i p h => by simp at h⟩
theorem wdR.nil {S : ZS} : wdR (sA S 25 30 0) [] := ⟨sA_eq .., by decide, fun i p h => by simp at h⟩
theorem shR.push {S : ZS} {l : List Nat} {p : Nat} (h : shR S l) (hl : l.length < 49) : shR (sA (sA S 43 l.length (nI p)) 25 29 (nI (l.length + 1))) (l ++ [p]) := by
  refine ⟨by rw [sA_eq, List.length_append]; rfl, by rw [List.length_append]; show l.length + 1 ≤ 49; omega, fun i q hq => ?_⟩
  rw [sA_ne _ _ _ (by decide)]
  rcases push_at hq with ⟨h1, h2⟩ | ⟨rfl, rfl⟩
  · rw [sA_nk _ _ (by omega)]; exact h.2.2 i q h2
  · exact sA_eq ..
theorem wdR.push {S : ZS} {l : List Nat} {p : Nat} (h : wdR S l) (hl : l.length < 49) : wdR (sA (sA S 44 l.length (nI p)) 25 30 (nI (l.length + 1))) (l ++ [p]) := by
  refine ⟨by rw [sA_eq, List.length_append]; rfl, by rw [List.length_append]; show l.length + 1 ≤ 49; omega, fun i q hq => ?_⟩
  rw [sA_ne _ _ _ (by decide)]
  rcases push_at hq with ⟨h1, h2⟩ | ⟨rfl, rfl⟩
  · rw [sA_nk _ _ (by omega)]; exact h.2.2 i q h2
  · exact sA_eq ..
theorem shR.cg {S S' : ZS} {l : List Nat} (h : shR S l) (h1 : S'.1 25 29 = S.1 25 29) (h2 : S'.1 43 = S.1 43) : shR S' l := ⟨by rw [h1]; exact h.1, h.2.1, fun i p q => by rw [h2]; exact h.2.2 i p q⟩
theorem wdR.cg {S S' : ZS} {l : List Nat} (h : wdR S l) (h1 : S'.1 25 30 = S.1 25 30) (h2 : S'.1 44 = S.1 44) : wdR S' l := ⟨by rw [h1]; exact h.1, h.2.1, fun i p q => by rw [h2]; exact h.2.2 i p q⟩
/-- each e-th of the places from p on that g has -/
def fsL (g : Nat → Bool) (e : Nat) : Nat → Nat → Nat → List Nat
  | 0, _, _ => []
  | m + 1, p, k => if g p then (if k % e = 0 then p :: fsL g e m (p + 1) (k + 1) else fsL g e m (p + 1) (k + 1)) else fsL g e m (p + 1) k
theorem fsL_f {g : Nat → Bool} {e m p k : Nat} (h : g p = false) : fsL g e (m + 1) p k = fsL g e m (p + 1) k := by rw [fsL, h]; rfl
theorem fsL_s {g : Nat → Bool} {e m p k : Nat} (h : g p = true) (h2 : ¬ k % e = 0) : fsL g e (m + 1) p k = fsL g e m (p + 1) (k + 1) := by rw [fsL, if_pos h, if_neg h2]
theorem fsL_t {g : Nat → Bool} {e m p k : Nat} (h : g p = true) (h2 : k % e = 0) : fsL g e (m + 1) p k = p :: fsL g e m (p + 1) (k + 1) := by rw [fsL, if_pos h, if_pos h2]
theorem fsL_rng {g : Nat → Bool} {e : Nat} : ∀ {m p k x : Nat}, x ∈ fsL g e m p k → p ≤ x ∧ x < p + m ∧ g x = true
  | 0, _, _, _, h => by cases h
  | m + 1, p, k, x, h => by
    unfold fsL at h
    split at h
    · rename_i hg
      split at h
      · rcases List.mem_cons.mp h with rfl | h
        · exact ⟨Nat.le_refl _, by omega, hg⟩
        · have := fsL_rng h; exact ⟨by omega, by omega, this.2.2⟩
      · have := fsL_rng h; exact ⟨by omega, by omega, this.2.2⟩
    · have := fsL_rng h; exact ⟨by omega, by omega, this.2.2⟩
/-- the places of shore, but those of the stretch left out -/
def gS (c : Co) (lo : Int32) (p : Nat) : Bool := decide (p = 0) || (dryS c (ctd c) (cso c p) && !decide (nI (cso c p) = lo))
theorem gS_0 (c : Co) (lo : Int32) : gS c lo 0 = true := rfl
theorem gS_dry {c : Co} {lo : Int32} {p : Nat} (h0 : p ≠ 0) (h : dryS c (ctd c) (cso c p) = false) : gS c lo p = false := by simp [gS, h0, h]
theorem gS_out {c : Co} {lo : Int32} {p : Nat} (h0 : p ≠ 0) (h : nI (cso c p) = lo) : gS c lo p = false := by simp [gS, h0, h]
theorem gS_in {c : Co} {lo : Int32} {p : Nat} (h : dryS c (ctd c) (cso c p) = true) (h2 : ¬ nI (cso c p) = lo) : gS c lo p = true := by simp [gS, h, h2]
theorem app_1 {l t : List Nat} {p : Nat} : (l ++ [p]) ++ t = l ++ p :: t := by simp
set_option maxRecDepth 100000 in
set_option maxHeartbeats 4000000 in
theorem lp_X12_findShore {S0 : ZS} {n : Nat} {c : Co} {lo : Int32} {e : Nat} (hV0 : mV S0 c) (ok : Cok c) (he : 0 < e) (he9 : e ≤ 9) {R : Option Value → ZW → Prop} : ∀ (m p k : Nat) (l : List Nat) (S : ZS), p + m = cny c + 1 → k ≤ p → l.length ≤ p → sfr S0 S → shR S l → (∀ S1, sfr S0 S1 → shR S1 (l ++ fsL (gS c lo) e m p k) → R none (zw S1 n)) → Z m_X12_findShore 0 0 R 10 [some (.ref 25), some (.int lo), some (.int (nI e)), some (.int (nI k)), some (.int (nI p))] [] (zw S n) := by
  intro m
  induction m with
  | zero =>
    intro p k l S h hk hlp f hl hR
    have hV := f.mv hV0
    have h48 := ok.2.1
    obtain rfl : p = cny c + 1 := by omega
    refine Z_iload dX12_findShore_10 rfl (pc' := 12) rfl ?_
    refine Z_aload_n dX12_findShore_12 rfl (z_isref _) (pc' := 13) rfl ?_
    refine Z_gI dX12_findShore_13 rfl zgi_RX12_117_25 (pc' := 16) rfl ?_
    rw [hV.1.2.1]
    refine Z_icmp_gt dX12_findShore_16 (tgt := 88) rfl (pc' := 19) rfl (fun c_16 => ?_) (fun c_16 => absurd c_16 (fun c => c ((nI_ltn (by omega) (by omega)).mpr (by omega))))
    exact Z_return dX12_findShore_88 rfl (hR S f (by rw [fsL, List.append_nil]; exact hl))
  | succ m ih =>
    intro p k l S h hk hlp f hl hR
    have hV := f.mv hV0
    have h48 := ok.2.1
    have h8 := ok.1
    refine Z_iload dX12_findShore_10 rfl (pc' := 12) rfl ?_
    refine Z_aload_n dX12_findShore_12 rfl (z_isref _) (pc' := 13) rfl ?_
    refine Z_gI dX12_findShore_13 rfl zgi_RX12_117_25 (pc' := 16) rfl ?_
    rw [hV.1.2.1]
    refine Z_icmp_gt dX12_findShore_16 (tgt := 88) rfl (pc' := 19) rfl (fun c_16 => absurd c_16 (by rw [nI_ltn (by omega) (by omega)]; omega)) (fun c_16 => ?_)
    refine Z_iload dX12_findShore_19 rfl (pc' := 21) rfl ?_
    refine Z_if_le dX12_findShore_21 (tgt := 52) rfl (pc' := 24) rfl (fun c_21 => ?_) (fun c_21 => ?_)
    · refine Z_iload_n dX12_findShore_52 rfl (pc' := 53) rfl ?_
      refine Z_iload_n dX12_findShore_53 rfl (pc' := 54) rfl ?_
      refine Z_irem dX12_findShore_54 (fun q => by have := (nI_eqn (a := e) (b := 0) (by omega) (by decide)).mp q; omega) (pc' := 55) rfl ?_
      rw [nI_rem (by omega) (by omega)]
      refine Z_if_ne dX12_findShore_55 (tgt := 79) rfl (pc' := 58) rfl (fun c_55 => ?_) (fun c_55 => ?_)
      · refine Z_iinc dX12_findShore_79 rfl (nI_inc k) (Nat.le_of_ble_eq_true rfl) rfl (ls' := [_, _, _, _, _]) rfl (pc' := 82) rfl ?_
        refine Z_iinc dX12_findShore_82 rfl (nI_inc p) (Nat.le_of_ble_eq_true rfl) rfl (ls' := [_, _, _, _, _]) rfl (pc' := 85) rfl ?_
        refine Z_goto dX12_findShore_85 (tgt := 10) rfl ?_
        exact ih (p + 1) (k + 1) l S (by omega) (by omega) (by omega) f hl (fun S1 a b => hR S1 a (by rw [fsL_s (show gS c lo p = true by rw [show p = 0 by rw [show (0 : Int32) = nI 0 from rfl, nI_len (by omega) (by decide)] at c_21; omega]; rfl) (fun q => c_55 (by rw [q]; rfl))]; exact b))
      · refine Z_aload_n dX12_findShore_58 rfl (z_isref _) (pc' := 59) rfl ?_
        refine Z_gR dX12_findShore_59 rfl zgr_RX12_61_25 (pc' := 62) rfl ?_
        refine Z_aload_n dX12_findShore_62 rfl (z_isref _) (pc' := 63) rfl ?_
        refine Z_gI dX12_findShore_63 rfl zgi_RX12_175_25 (pc' := 66) rfl ?_
        rw [hl.1]
        refine Z_iload dX12_findShore_66 rfl (pc' := 68) rfl ?_
        refine Z_is dX12_findShore_68 zar_43 (zin (by omega) (by decide)) (pc' := 69) rfl ?_
        rw [nI_nat (by omega)]
        refine Z_aload_n dX12_findShore_69 rfl (z_isref _) (pc' := 70) rfl ?_
        refine Z_dup dX12_findShore_70 rfl (pc' := 71) rfl ?_
        refine Z_gI dX12_findShore_71 rfl zgi_RX12_175_25 (pc' := 74) rfl ?_
        rw [sA_ne _ _ _ (by decide), hl.1]
        refine Z_iconst dX12_findShore_74 (v := 1) (by decide) (pc' := 75) rfl ?_
        refine Z_iadd dX12_findShore_75 (pc' := 76) rfl ?_
        rw [show (1 : Int32) = nI 1 from rfl, nI_add]
        refine Z_pI dX12_findShore_76 rfl zpi_RX12_175_25 (pc' := 79) rfl ?_
        refine Z_iinc dX12_findShore_79 rfl (nI_inc k) (Nat.le_of_ble_eq_true rfl) rfl (ls' := [_, _, _, _, _]) rfl (pc' := 82) rfl ?_
        refine Z_iinc dX12_findShore_82 rfl (nI_inc p) (Nat.le_of_ble_eq_true rfl) rfl (ls' := [_, _, _, _, _]) rfl (pc' := 85) rfl ?_
        refine Z_goto dX12_findShore_85 (tgt := 10) rfl ?_
        have ek := (nI_eqn (b := 0) (by have := Nat.mod_lt k he; omega) (by decide)).mp c_55
        exact ih (p + 1) (k + 1) (l ++ [p]) _ (by omega) (by omega) (by rw [List.length_append]; show l.length + 1 ≤ _; omega) ((f.sA _ (by rfl)).sA _ (by rfl)) (hl.push (by omega)) (fun S1 a b => hR S1 a (by rw [fsL_t (show gS c lo p = true by rw [show p = 0 by rw [show (0 : Int32) = nI 0 from rfl, nI_len (by omega) (by decide)] at c_21; omega]; rfl) ek, ← app_1]; exact b))
    · have hp0 : p ≠ 0 := (show p ≠ 0 by rw [show (0 : Int32) = nI 0 from rfl, nI_len (by omega) (by decide)] at c_21; omega)
      have hso := ok.2.2.2.2.2.1 p (by omega) (by omega)
      refine Z_aload_n dX12_findShore_24 rfl (z_isref _) (pc' := 25) rfl ?_
      refine Z_aload_n dX12_findShore_25 rfl (z_isref _) (pc' := 26) rfl ?_
      refine Z_gR dX12_findShore_26 rfl zgr_RX12_31_25 (pc' := 29) rfl ?_
      refine Z_iload dX12_findShore_29 rfl (pc' := 31) rfl ?_
      refine Z_il dX12_findShore_31 zar_33 (zin (by omega) (by decide)) (pc' := 32) rfl ?_
      rw [nI_nat (by omega), hV.2.2.2.1 p (by omega) (by omega)]
      refine Z_cVe dX12_findShore_32 rfl zcw_X12_isDry (As := [_]) (rest := []) rfl ⟨Nat.le_of_ble_eq_true rfl, Nat.le_of_ble_eq_true rfl⟩ (Nat.le_of_ble_eq_true rfl) (zRcv.lay zob_25) ⟨zcw_X12_isDry.2.2.2.2, Nat.le_of_ble_eq_true rfl⟩ zk_RX12_163 (c_X12_isDry hV ok hso) (pc' := 35) rfl ?_
      refine Z_if_eq dX12_findShore_35 (tgt := 82) rfl (pc' := 38) rfl (fun c_35 => ?_) (fun c_35 => ?_)
      · refine Z_iinc dX12_findShore_82 rfl (nI_inc p) (Nat.le_of_ble_eq_true rfl) rfl (ls' := [_, _, _, _, _]) rfl (pc' := 85) rfl ?_
        refine Z_goto dX12_findShore_85 (tgt := 10) rfl ?_
        exact ih (p + 1) k l S (by omega) (by omega) (by omega) f hl (fun S1 a b => hR S1 a (by rw [fsL_f (gS_dry hp0 ((zb_eq0 _).mp c_35))]; exact b))
      · refine Z_aload_n dX12_findShore_38 rfl (z_isref _) (pc' := 39) rfl ?_
        refine Z_gR dX12_findShore_39 rfl zgr_RX12_31_25 (pc' := 42) rfl ?_
        refine Z_iload dX12_findShore_42 rfl (pc' := 44) rfl ?_
        refine Z_il dX12_findShore_44 zar_33 (zin (by omega) (by decide)) (pc' := 45) rfl ?_
        rw [nI_nat (by omega), hV.2.2.2.1 p (by omega) (by omega)]
        refine Z_iload_n dX12_findShore_45 rfl (pc' := 46) rfl ?_
        refine Z_icmp_ne dX12_findShore_46 (tgt := 52) rfl (pc' := 49) rfl (fun c_46 => ?_) (fun c_46 => ?_)
        · refine Z_iload_n dX12_findShore_52 rfl (pc' := 53) rfl ?_
          refine Z_iload_n dX12_findShore_53 rfl (pc' := 54) rfl ?_
          refine Z_irem dX12_findShore_54 (fun q => by have := (nI_eqn (a := e) (b := 0) (by omega) (by decide)).mp q; omega) (pc' := 55) rfl ?_
          rw [nI_rem (by omega) (by omega)]
          refine Z_if_ne dX12_findShore_55 (tgt := 79) rfl (pc' := 58) rfl (fun c_55 => ?_) (fun c_55 => ?_)
          · refine Z_iinc dX12_findShore_79 rfl (nI_inc k) (Nat.le_of_ble_eq_true rfl) rfl (ls' := [_, _, _, _, _]) rfl (pc' := 82) rfl ?_
            refine Z_iinc dX12_findShore_82 rfl (nI_inc p) (Nat.le_of_ble_eq_true rfl) rfl (ls' := [_, _, _, _, _]) rfl (pc' := 85) rfl ?_
            refine Z_goto dX12_findShore_85 (tgt := 10) rfl ?_
            exact ih (p + 1) (k + 1) l S (by omega) (by omega) (by omega) f hl (fun S1 a b => hR S1 a (by rw [fsL_s (gS_in ((zb_ne0 _).mp c_35) c_46) (fun q => c_55 (by rw [q]; rfl))]; exact b))
          · refine Z_aload_n dX12_findShore_58 rfl (z_isref _) (pc' := 59) rfl ?_
            refine Z_gR dX12_findShore_59 rfl zgr_RX12_61_25 (pc' := 62) rfl ?_
            refine Z_aload_n dX12_findShore_62 rfl (z_isref _) (pc' := 63) rfl ?_
            refine Z_gI dX12_findShore_63 rfl zgi_RX12_175_25 (pc' := 66) rfl ?_
            rw [hl.1]
            refine Z_iload dX12_findShore_66 rfl (pc' := 68) rfl ?_
            refine Z_is dX12_findShore_68 zar_43 (zin (by omega) (by decide)) (pc' := 69) rfl ?_
            rw [nI_nat (by omega)]
            refine Z_aload_n dX12_findShore_69 rfl (z_isref _) (pc' := 70) rfl ?_
            refine Z_dup dX12_findShore_70 rfl (pc' := 71) rfl ?_
            refine Z_gI dX12_findShore_71 rfl zgi_RX12_175_25 (pc' := 74) rfl ?_
            rw [sA_ne _ _ _ (by decide), hl.1]
            refine Z_iconst dX12_findShore_74 (v := 1) (by decide) (pc' := 75) rfl ?_
            refine Z_iadd dX12_findShore_75 (pc' := 76) rfl ?_
            rw [show (1 : Int32) = nI 1 from rfl, nI_add]
            refine Z_pI dX12_findShore_76 rfl zpi_RX12_175_25 (pc' := 79) rfl ?_
            refine Z_iinc dX12_findShore_79 rfl (nI_inc k) (Nat.le_of_ble_eq_true rfl) rfl (ls' := [_, _, _, _, _]) rfl (pc' := 82) rfl ?_
            refine Z_iinc dX12_findShore_82 rfl (nI_inc p) (Nat.le_of_ble_eq_true rfl) rfl (ls' := [_, _, _, _, _]) rfl (pc' := 85) rfl ?_
            refine Z_goto dX12_findShore_85 (tgt := 10) rfl ?_
            have ek := (nI_eqn (b := 0) (by have := Nat.mod_lt k he; omega) (by decide)).mp c_55
            exact ih (p + 1) (k + 1) (l ++ [p]) _ (by omega) (by omega) (by rw [List.length_append]; show l.length + 1 ≤ _; omega) ((f.sA _ (by rfl)).sA _ (by rfl)) (hl.push (by omega)) (fun S1 a b => hR S1 a (by rw [fsL_t (gS_in ((zb_ne0 _).mp c_35) c_46) ek, ← app_1]; exact b))
        · refine Z_goto dX12_findShore_49 (tgt := 82) rfl ?_
          refine Z_iinc dX12_findShore_82 rfl (nI_inc p) (Nat.le_of_ble_eq_true rfl) rfl (ls' := [_, _, _, _, _]) rfl (pc' := 85) rfl ?_
          refine Z_goto dX12_findShore_85 (tgt := 10) rfl ?_
          exact ih (p + 1) k l S (by omega) (by omega) (by omega) f hl (fun S1 a b => hR S1 a (by rw [fsL_f (gS_out hp0 c_46)]; exact b))
set_option maxRecDepth 100000 in
set_option maxHeartbeats 4000000 in
theorem c_X12_findShore {S : ZS} {n : Nat} {c : Co} {lo : Int32} {e : Nat} (hV : mV S c) (ok : Cok c) (he : 0 < e) (he9 : e ≤ 9) : zM m_X12_findShore 0 0 [.ref 25, .int lo, .int (nI e)] (zw S n) (fun r ω => r = none ∧ ∃ S1, ω = zw S1 n ∧ sfr S S1 ∧ shR S1 (fsL (gS c lo) e (cny c + 1) 0 0)) := by
  show Z m_X12_findShore _ _ _ 0 [some (.ref _), some (.int _), some (.int _)] [] _
  refine Z_aload_n dX12_findShore_0 rfl (z_isref _) (pc' := 1) rfl ?_
  refine Z_iconst dX12_findShore_1 (v := 0) (by decide) (pc' := 2) rfl ?_
  refine Z_pI dX12_findShore_2 rfl zpi_RX12_175_25 (pc' := 5) rfl ?_
  refine Z_iconst dX12_findShore_5 (v := 0) (by decide) (pc' := 6) rfl ?_
  refine Z_istore_n dX12_findShore_6 (Nat.le_of_ble_eq_true rfl) (Nat.le_of_ble_eq_true rfl) rfl (ls' := [_, _, _, _]) rfl (pc' := 7) rfl ?_
  refine Z_iconst dX12_findShore_7 (v := 0) (by decide) (pc' := 8) rfl ?_
  refine Z_istore dX12_findShore_8 (Nat.le_of_ble_eq_true rfl) (Nat.le_of_ble_eq_true rfl) rfl (ls' := [_, _, _, _, _]) rfl (pc' := 10) rfl ?_
  exact lp_X12_findShore hV ok he he9 (cny c + 1) 0 0 [] _ (by omega) (by omega) (by decide) (sfr.rf.sA _ (by rfl)) shR.nil (fun S1 a b => ⟨rfl, S1, rfl, a, b⟩)
def goB (fr : Nat → Nat → Bool) (b : Nat) (s : Option Nat) (p : Nat) : Bool := match s with
  | none => decide (b ≤ p)
  | some a => fr a p
/-- the walk over a row of places -/
def wlk (fr : Nat → Nat → Bool) (b : Nat) : List Nat → Option Nat → List Nat
  | [], _ => []
  | p :: t, s => if goB fr b s p then p :: wlk fr b t (some p) else wlk fr b t s
theorem wlk_sub (fr : Nat → Nat → Bool) (b : Nat) : ∀ (l : List Nat) (s : Option Nat) (x : Nat), x ∈ wlk fr b l s → x ∈ l
  | [], _, _, h => by cases h
  | p :: t, s, x, h => by
    unfold wlk at h
    split at h
    · rcases List.mem_cons.mp h with e | h
      · rw [e]; exact List.mem_cons_self ..
      · exact List.mem_cons_of_mem _ (wlk_sub fr b t _ x h)
    · exact List.mem_cons_of_mem _ (wlk_sub fr b t _ x h)
theorem wlk_t {fr : Nat → Nat → Bool} {b p : Nat} {t : List Nat} {s : Option Nat} (h : goB fr b s p = true) : wlk fr b (p :: t) s = p :: wlk fr b t (some p) := by rw [wlk, if_pos h]
theorem wlk_f {fr : Nat → Nat → Bool} {b p : Nat} {t : List Nat} {s : Option Nat} (h : goB fr b s p = false) : wlk fr b (p :: t) s = wlk fr b t s := by rw [wlk, h]; rfl
theorem last_push (w : List Nat) (p : Nat) : (w ++ [p]).getLast? = some p := by simp
theorem last_at {S : ZS} {w : List Nat} (h : wdR S w) (h0 : w.length ≠ 0) : ∃ a, w.getLast? = some a ∧ a ∈ w ∧ S.1 44 (w.length - 1) = nI a := by
  cases e : w.getLast? with
  | none => rw [List.getLast?_eq_none_iff] at e; rw [e] at h0; exact absurd rfl h0
  | some a =>
    refine ⟨a, rfl, List.mem_of_getLast? e, h.2.2 _ a ?_⟩
    rw [← e, List.getLast?_eq_getElem?]
set_option maxRecDepth 100000 in
set_option maxHeartbeats 4000000 in
theorem lp_X12_walks {S0 : ZS} {n : Nat} {c : Co} {r : Int32} {b : Nat} {l T : List Nat} (hV0 : mV S0 c) (ok : Cok c) (hb : b < 100) (hlc : ∀ x ∈ l, x ≤ cny c) {R : Option Value → ZW → Prop} (hR : ∀ S1, sfr S0 S1 → shR S1 l → wdR S1 T → R (some (.int (nI (T.length - 1)))) (zw S1 n)) : ∀ (m i : Nat) (u : List Nat) (S : ZS), i + m = l.length → sfr S0 S → shR S l → wdR S u → u.length ≤ i → (∀ x ∈ u, x ≤ cny c) → u ++ wlk (frS c r) b (l.drop i) u.getLast? = T → Z m_X12_walks 0 0 R 7 [some (.ref 25), some (.int r), some (.int (nI b)), some (.int (nI i))] [] (zw S n) := by
  intro m
  induction m with
  | zero =>
    intro i u S h f hs hw hui hx0 hT
    have hV := f.mv hV0
    have hll := hs.2.1
    have hwl := hw.2.1
    rw [List.drop_eq_nil_of_le (by omega), show wlk (frS c r) b [] u.getLast? = [] from rfl, List.append_nil] at hT
    subst hT
    refine Z_iload_n dX12_walks_7 rfl (pc' := 8) rfl ?_
    refine Z_aload_n dX12_walks_8 rfl (z_isref _) (pc' := 9) rfl ?_
    refine Z_gI dX12_walks_9 rfl zgi_RX12_175_25 (pc' := 12) rfl ?_
    rw [hs.1]
    refine Z_icmp_ge dX12_walks_12 (tgt := 90) rfl (pc' := 15) rfl (fun c_12 => ?_) (fun c_12 => absurd c_12 (fun c => c ((nI_len (by omega) (by omega)).mpr (by omega))))
    refine Z_aload_n dX12_walks_90 rfl (z_isref _) (pc' := 91) rfl ?_
    refine Z_gI dX12_walks_91 rfl zgi_RX12_178_25 (pc' := 94) rfl ?_
    rw [hw.1]
    refine Z_if_ne dX12_walks_94 (tgt := 101) rfl (pc' := 97) rfl (fun c_94 => ?_) (fun c_94 => ?_)
    · refine Z_aload_n dX12_walks_101 rfl (z_isref _) (pc' := 102) rfl ?_
      refine Z_gI dX12_walks_102 rfl zgi_RX12_178_25 (pc' := 105) rfl ?_
      have hu0 : u.length ≠ 0 := fun q => c_94 (by rw [q]; rfl)
      rw [hw.1]
      refine Z_iconst dX12_walks_105 (v := 1) (by decide) (pc' := 106) rfl ?_
      refine Z_isub dX12_walks_106 (pc' := 107) rfl ?_
      first | rw [show (1 : Int32) = nI 1 from rfl, nI_sub (by omega)] | skip
      exact Z_ireturn dX12_walks_107 rfl rfl (hR S f hs hw)
    · refine Z_iconst dX12_walks_97 (v := 0) (by decide) (pc' := 98) rfl ?_
      refine Z_goto dX12_walks_98 (tgt := 107) rfl ?_
      first | rw [show (1 : Int32) = nI 1 from rfl, nI_sub (by omega)] | skip
      exact Z_ireturn dX12_walks_107 rfl rfl (by have := hR S f hs hw; rw [show u.length = 0 from (nI_eqn (b := 0) (by omega) (by decide)).mp c_94] at this; exact this)
  | succ m ih =>
    intro i u S h f hs hw hui hx0 hT
    have hV := f.mv hV0
    have hll := hs.2.1
    have hwl := hw.2.1
    have h48 := ok.2.1
    obtain ⟨p, hp⟩ : ∃ p, l[i]? = some p := ⟨l[i]'(by omega), List.getElem?_eq_getElem _⟩
    have hpc := hlc p (List.mem_of_getElem? hp)
    have hdr : l.drop i = p :: l.drop (i + 1) := by
      rw [List.drop_eq_getElem_cons (by omega), (List.getElem?_eq_some_iff.mp hp).2]
    refine Z_iload_n dX12_walks_7 rfl (pc' := 8) rfl ?_
    refine Z_aload_n dX12_walks_8 rfl (z_isref _) (pc' := 9) rfl ?_
    refine Z_gI dX12_walks_9 rfl zgi_RX12_175_25 (pc' := 12) rfl ?_
    rw [hs.1]
    refine Z_icmp_ge dX12_walks_12 (tgt := 90) rfl (pc' := 15) rfl (fun c_12 => absurd c_12 (by rw [nI_len (by omega) (by omega)]; omega)) (fun c_12 => ?_)
    refine Z_aload_n dX12_walks_15 rfl (z_isref _) (pc' := 16) rfl ?_
    refine Z_gR dX12_walks_16 rfl zgr_RX12_61_25 (pc' := 19) rfl ?_
    refine Z_iload_n dX12_walks_19 rfl (pc' := 20) rfl ?_
    refine Z_il dX12_walks_20 zar_43 (zin (by omega) (by decide)) (pc' := 21) rfl ?_
    rw [nI_nat (by omega), hs.2.2 i p hp]
    refine Z_istore dX12_walks_21 (Nat.le_of_ble_eq_true rfl) (Nat.le_of_ble_eq_true rfl) rfl (ls' := [_, _, _, _, _]) rfl (pc' := 23) rfl ?_
    refine Z_aload_n dX12_walks_23 rfl (z_isref _) (pc' := 24) rfl ?_
    refine Z_gI dX12_walks_24 rfl zgi_RX12_178_25 (pc' := 27) rfl ?_
    rw [hw.1]
    refine Z_if_ne dX12_walks_27 (tgt := 39) rfl (pc' := 30) rfl (fun c_27 => ?_) (fun c_27 => ?_)
    · have hu0 : u.length ≠ 0 := fun q => c_27 (by rw [q]; rfl)
      obtain ⟨a, ha, ham, hat⟩ := last_at hw hu0
      have hac := hx0 a ham
      refine Z_aload_n dX12_walks_39 rfl (z_isref _) (pc' := 40) rfl ?_
      refine Z_aload_n dX12_walks_40 rfl (z_isref _) (pc' := 41) rfl ?_
      refine Z_gR dX12_walks_41 rfl zgr_RX12_64_25 (pc' := 44) rfl ?_
      refine Z_aload_n dX12_walks_44 rfl (z_isref _) (pc' := 45) rfl ?_
      refine Z_gI dX12_walks_45 rfl zgi_RX12_178_25 (pc' := 48) rfl ?_
      rw [hw.1]
      refine Z_iconst dX12_walks_48 (v := 1) (by decide) (pc' := 49) rfl ?_
      refine Z_isub dX12_walks_49 (pc' := 50) rfl ?_
      rw [show (1 : Int32) = nI 1 from rfl, nI_sub (by omega)]
      refine Z_il dX12_walks_50 zar_44 (zin (by omega) (by decide)) (pc' := 51) rfl ?_
      rw [nI_nat (by omega), hat]
      refine Z_iload dX12_walks_51 rfl (pc' := 53) rfl ?_
      refine Z_iload_n dX12_walks_53 rfl (pc' := 54) rfl ?_
      refine Z_cVe dX12_walks_54 rfl zcw_X12_isFar (As := [_, _, _]) (rest := []) rfl ⟨Nat.le_of_ble_eq_true rfl, Nat.le_of_ble_eq_true rfl⟩ (Nat.le_of_ble_eq_true rfl) (zRcv.lay zob_25) ⟨zcw_X12_isFar.2.2.2.2, Nat.le_of_ble_eq_true rfl⟩ zk_RX12_181 (c_X12_isFar hV ok hac hpc) (pc' := 57) rfl ?_
      refine Z_if_ne dX12_walks_57 (tgt := 63) rfl (pc' := 60) rfl (fun c_57 => ?_) (fun c_57 => ?_)
      · refine Z_aload_n dX12_walks_63 rfl (z_isref _) (pc' := 64) rfl ?_
        refine Z_gR dX12_walks_64 rfl zgr_RX12_64_25 (pc' := 67) rfl ?_
        refine Z_aload_n dX12_walks_67 rfl (z_isref _) (pc' := 68) rfl ?_
        refine Z_gI dX12_walks_68 rfl zgi_RX12_178_25 (pc' := 71) rfl ?_
        rw [hw.1]
        refine Z_iload dX12_walks_71 rfl (pc' := 73) rfl ?_
        refine Z_is dX12_walks_73 zar_44 (zin (by omega) (by decide)) (pc' := 74) rfl ?_
        rw [nI_nat (by omega)]
        refine Z_aload_n dX12_walks_74 rfl (z_isref _) (pc' := 75) rfl ?_
        refine Z_dup dX12_walks_75 rfl (pc' := 76) rfl ?_
        refine Z_gI dX12_walks_76 rfl zgi_RX12_178_25 (pc' := 79) rfl ?_
        rw [sA_ne _ _ _ (by decide), hw.1]
        refine Z_iconst dX12_walks_79 (v := 1) (by decide) (pc' := 80) rfl ?_
        refine Z_iadd dX12_walks_80 (pc' := 81) rfl ?_
        rw [show (1 : Int32) = nI 1 from rfl, nI_add]
        refine Z_pI dX12_walks_81 rfl zpi_RX12_178_25 (pc' := 84) rfl ?_
        refine Z_iinc dX12_walks_84 rfl (nI_inc i) (Nat.le_of_ble_eq_true rfl) rfl (ls' := [_, _, _, _, _]) rfl (pc' := 87) rfl ?_
        refine Z_goto dX12_walks_87 (tgt := 7) rfl ?_
        refine Z_take 4 (ls' := [_, _, _, _]) rfl ?_
        exact ih (i + 1) (u ++ [p]) _ (by omega) ((f.sA _ (by rfl)).sA _ (by rfl)) ((hs.cg (congrFun (sA_ne _ _ _ (by decide)) _) (sA_ne _ _ _ (by decide))).cg (by rfl) (sA_ne _ _ _ (by decide))) (hw.push (by omega)) (by rw [List.length_append]; show u.length + 1 ≤ _; omega) (fun x hx => (List.mem_append.mp hx).elim (hx0 x) (fun h => by rw [List.mem_singleton.mp h]; exact hpc)) (by rw [last_push, app_1, ← wlk_t (show goB (frS c r) b u.getLast? p = true by rw [ha]; exact (zb_ne0 _).mp c_57), ← hdr]; exact hT)
      · refine Z_goto dX12_walks_60 (tgt := 84) rfl ?_
        refine Z_iinc dX12_walks_84 rfl (nI_inc i) (Nat.le_of_ble_eq_true rfl) rfl (ls' := [_, _, _, _, _]) rfl (pc' := 87) rfl ?_
        refine Z_goto dX12_walks_87 (tgt := 7) rfl ?_
        refine Z_take 4 (ls' := [_, _, _, _]) rfl ?_
        exact ih (i + 1) u S (by omega) f hs hw (by omega) hx0 (by rw [← wlk_f (show goB (frS c r) b u.getLast? p = false by rw [ha]; exact (zb_eq0 _).mp c_57), ← hdr]; exact hT)
    · have hu0 : u = [] := List.length_eq_zero_iff.mp ((nI_eqn (b := 0) (by omega) (by decide)).mp c_27)
      refine Z_iload dX12_walks_30 rfl (pc' := 32) rfl ?_
      refine Z_iload_n dX12_walks_32 rfl (pc' := 33) rfl ?_
      refine Z_icmp_ge dX12_walks_33 (tgt := 63) rfl (pc' := 36) rfl (fun c_33 => ?_) (fun c_33 => ?_)
      · refine Z_aload_n dX12_walks_63 rfl (z_isref _) (pc' := 64) rfl ?_
        refine Z_gR dX12_walks_64 rfl zgr_RX12_64_25 (pc' := 67) rfl ?_
        refine Z_aload_n dX12_walks_67 rfl (z_isref _) (pc' := 68) rfl ?_
        refine Z_gI dX12_walks_68 rfl zgi_RX12_178_25 (pc' := 71) rfl ?_
        rw [hw.1]
        refine Z_iload dX12_walks_71 rfl (pc' := 73) rfl ?_
        refine Z_is dX12_walks_73 zar_44 (zin (by omega) (by decide)) (pc' := 74) rfl ?_
        rw [nI_nat (by omega)]
        refine Z_aload_n dX12_walks_74 rfl (z_isref _) (pc' := 75) rfl ?_
        refine Z_dup dX12_walks_75 rfl (pc' := 76) rfl ?_
        refine Z_gI dX12_walks_76 rfl zgi_RX12_178_25 (pc' := 79) rfl ?_
        rw [sA_ne _ _ _ (by decide), hw.1]
        refine Z_iconst dX12_walks_79 (v := 1) (by decide) (pc' := 80) rfl ?_
        refine Z_iadd dX12_walks_80 (pc' := 81) rfl ?_
        rw [show (1 : Int32) = nI 1 from rfl, nI_add]
        refine Z_pI dX12_walks_81 rfl zpi_RX12_178_25 (pc' := 84) rfl ?_
        refine Z_iinc dX12_walks_84 rfl (nI_inc i) (Nat.le_of_ble_eq_true rfl) rfl (ls' := [_, _, _, _, _]) rfl (pc' := 87) rfl ?_
        refine Z_goto dX12_walks_87 (tgt := 7) rfl ?_
        refine Z_take 4 (ls' := [_, _, _, _]) rfl ?_
        exact ih (i + 1) (u ++ [p]) _ (by omega) ((f.sA _ (by rfl)).sA _ (by rfl)) ((hs.cg (congrFun (sA_ne _ _ _ (by decide)) _) (sA_ne _ _ _ (by decide))).cg (by rfl) (sA_ne _ _ _ (by decide))) (hw.push (by omega)) (by rw [List.length_append]; show u.length + 1 ≤ _; omega) (fun x hx => (List.mem_append.mp hx).elim (hx0 x) (fun h => by rw [List.mem_singleton.mp h]; exact hpc)) (by rw [last_push, app_1, ← wlk_t (show goB (frS c r) b u.getLast? p = true by rw [hu0]; exact decide_eq_true ((nI_len (by omega) (by omega)).mp c_33)), ← hdr]; exact hT)
      · refine Z_goto dX12_walks_36 (tgt := 84) rfl ?_
        refine Z_iinc dX12_walks_84 rfl (nI_inc i) (Nat.le_of_ble_eq_true rfl) rfl (ls' := [_, _, _, _, _]) rfl (pc' := 87) rfl ?_
        refine Z_goto dX12_walks_87 (tgt := 7) rfl ?_
        refine Z_take 4 (ls' := [_, _, _, _]) rfl ?_
        exact ih (i + 1) u S (by omega) f hs hw (by omega) hx0 (by rw [← wlk_f (show goB (frS c r) b u.getLast? p = false by rw [hu0]; exact decide_eq_false (fun q => c_33 ((nI_len (by omega) (by omega)).mpr q))), ← hdr]; exact hT)
set_option maxRecDepth 100000 in
set_option maxHeartbeats 4000000 in
theorem c_X12_walks {S : ZS} {n : Nat} {c : Co} {r : Int32} {b : Nat} {l : List Nat} (hV : mV S c) (ok : Cok c) (hb : b < 100) (hs : shR S l) (hlc : ∀ x ∈ l, x ≤ cny c) : zM m_X12_walks 0 0 [.ref 25, .int r, .int (nI b)] (zw S n) (fun q ω => q = some (.int (nI ((wlk (frS c r) b l none).length - 1))) ∧ ∃ S1, ω = zw S1 n ∧ sfr S S1 ∧ shR S1 l ∧ wdR S1 (wlk (frS c r) b l none)) := by
  show Z m_X12_walks _ _ _ 0 [some (.ref _), some (.int _), some (.int _)] [] _
  refine Z_aload_n dX12_walks_0 rfl (z_isref _) (pc' := 1) rfl ?_
  refine Z_iconst dX12_walks_1 (v := 0) (by decide) (pc' := 2) rfl ?_
  refine Z_pI dX12_walks_2 rfl zpi_RX12_178_25 (pc' := 5) rfl ?_
  refine Z_iconst dX12_walks_5 (v := 0) (by decide) (pc' := 6) rfl ?_
  refine Z_istore_n dX12_walks_6 (Nat.le_of_ble_eq_true rfl) (Nat.le_of_ble_eq_true rfl) rfl (ls' := [_, _, _, _]) rfl (pc' := 7) rfl ?_
  exact lp_X12_walks hV ok hb hlc (fun S1 a s d => ⟨rfl, S1, rfl, a, s, d⟩) l.length 0 [] _ (by omega) (sfr.rf.sA _ (by rfl)) (hs.cg (by rfl) (sA_ne _ _ _ (by decide))) wdR.nil (by decide) (fun x hx => by cases hx) rfl
