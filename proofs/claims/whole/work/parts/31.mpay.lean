theorem wlk_fs {g : Nat → Bool} {fr : Nat → Nat → Bool} {b : Nat} : ∀ (m p k : Nat) (s : Option Nat), (s = none → b ≤ p) → wlk fr b (fsL g 1 m p k) s = wkL g fr m p s
  | 0, _, _, _, _ => rfl
  | m + 1, p, k, s, h => by
    have hs : goB fr b s p = goS fr s p := by
      cases s with
      | none => exact decide_eq_true (h rfl)
      | some a => rfl
    cases hg : g p with
    | false =>
      rw [fsL_f hg, wlk_fs m (p + 1) k s (fun e => by have := h e; omega), wkL, hg]
      rfl
    | true =>
      rw [fsL_t hg (Nat.mod_one k)]
      cases hq : goB fr b s p with
      | false =>
        rw [wlk_f hq, wlk_fs m (p + 1) (k + 1) s (fun e => by have := h e; omega), wkL, hg, ← hs, hq]
        rfl
      | true =>
        rw [wlk_t hq, wlk_fs m (p + 1) (k + 1) (some p) (fun e => by cases e), wkL, hg, ← hs, hq]
        rfl
theorem wlk_skip {g : Nat → Bool} {fr : Nat → Nat → Bool} {b : Nat} : ∀ (m p k : Nat), p ≤ b → wlk fr b (fsL g 1 m p k) none = wkL g fr (p + m - b) b none
  | 0, p, k, h => by rw [show p + 0 - b = 0 by omega]; rfl
  | m + 1, p, k, h => by
    by_cases e : p = b
    · subst e
      rw [wlk_fs (m + 1) p k none (fun _ => Nat.le_refl _), show p + (m + 1) - p = m + 1 by omega]
    · cases hg : g p with
      | false => rw [fsL_f hg, wlk_skip m (p + 1) k (by omega), show p + 1 + m - b = p + (m + 1) - b by omega]
      | true =>
        rw [fsL_t hg (Nat.mod_one k), wlk_f (show goB fr b none p = false from decide_eq_false (by omega)), wlk_skip m (p + 1) (k + 1) (by omega), show p + 1 + m - b = p + (m + 1) - b by omega]
theorem wkL_cong {f g : Nat → Bool} {fr : Nat → Nat → Bool} : ∀ (m p : Nat) (s : Option Nat), (∀ x, p ≤ x → x < p + m → f x = g x) → wkL f fr m p s = wkL g fr m p s
  | 0, _, _, _ => rfl
  | m + 1, p, s, h => by
    rw [wkL, wkL, h p (by omega) (by omega), wkL_cong m (p + 1) (some p) (fun x h1 h2 => h x (by omega) (by omega)), wkL_cong m (p + 1) s (fun x h1 h2 => h x (by omega) (by omega))]
theorem WL_cong {c : Co} {f g : Nat → Bool} (h : ∀ x, x ≤ cny c → f x = g x) (r : Int32) (b : Nat) : WL c f r b = WL c g r b := wkL_cong _ _ _ fun x h1 h2 => h x (by omega)
theorem fsL_cong {f g : Nat → Bool} {e : Nat} : ∀ (m p k : Nat), (∀ x, p ≤ x → x < p + m → f x = g x) → fsL f e m p k = fsL g e m p k
  | 0, _, _, _ => rfl
  | m + 1, p, k, h => by
    rw [fsL, fsL, h p (by omega) (by omega), fsL_cong m (p + 1) (k + 1) (fun x h1 h2 => h x (by omega) (by omega)), fsL_cong m (p + 1) k (fun x h1 h2 => h x (by omega) (by omega))]
theorem fsL_nd {g : Nat → Bool} {e : Nat} : ∀ (m p k : Nat), (fsL g e m p k).Pairwise (· < ·)
  | 0, _, _ => List.Pairwise.nil
  | m + 1, p, k => by
    unfold fsL
    split
    · split
      · refine List.pairwise_cons.mpr ⟨fun x hx => ?_, fsL_nd m _ _⟩
        have := fsL_rng hx
        omega
      · exact fsL_nd m _ _
    · exact fsL_nd m _ _
theorem fsL_mem {g : Nat → Bool} : ∀ {m p k x : Nat}, p ≤ x → x < p + m → g x = true → x ∈ fsL g 1 m p k
  | 0, p, k, x, h1, h2, _ => by omega
  | m + 1, p, k, x, h1, h2, hx => by
    by_cases e : x = p
    · subst e; rw [fsL_t hx (Nat.mod_one k)]; exact List.mem_cons_self ..
    · have ih := fun k => fsL_mem (m := m) (p := p + 1) (k := k) (x := x) (by omega) (by omega) hx
      unfold fsL
      split
      · rw [if_pos (Nat.mod_one k)]; exact List.mem_cons_of_mem _ (ih _)
      · exact ih _
/-- the places of shore now, as a row -/
def SL (c : Co) : List Nat := fsL (gS c (-9)) 1 (cny c + 1) 0 0
theorem gS_m9 {c : Co} {p : Nat} (ok : Cok c) (h : p ≤ cny c) : gS c (-9) p = shS c (ctd c) p := by
  by_cases h0 : p = 0
  · subst h0; rfl
  · have h1 := ok.2.2.2.2.2.1 p (by omega) h
    have h8 := ok.1
    unfold gS shS
    rw [decide_eq_false (p := nI (cso c p) = -9) (nI_nm9 (by omega))]
    simp [h]
theorem gS_cut {c : Co} {p k : Nat} (ok : Cok c) (hk : k < cns c) (h : p ≤ cny c) : gS c (nI k) p = (shS c (ctd c) p && !inS c k p) := by
  by_cases h0 : p = 0
  · subst h0
    have : inS c k 0 = false := by
      cases e : inS c k 0
      · rfl
      · have := inS_rng ok hk e; omega
    rw [this]; rfl
  · have h1 := ok.2.2.2.2.2.1 p (by omega) h
    have h8 := ok.1
    rw [inS_so ok hk (by omega) h]
    unfold gS shS
    rw [show decide (nI (cso c p) = nI k) = decide (cso c p = k) from decide_eq_decide.mpr (nI_eqn (by omega) (by omega))]
    simp [h0, h]
theorem SL_mem {c : Co} (ok : Cok c) {p : Nat} : p ∈ SL c ↔ shS c (ctd c) p = true := by
  constructor
  · intro h
    have := fsL_rng h
    rw [← gS_m9 ok (by omega)]
    exact this.2.2
  · intro h
    have := shS_le h
    exact fsL_mem (by omega) (by omega) (by rw [gS_m9 ok this]; exact h)
theorem SL_le {c : Co} {p : Nat} (h : p ∈ SL c) : p ≤ cny c := by have := fsL_rng h; omega
theorem SL_nd (c : Co) : (SL c).Pairwise (· < ·) := fsL_nd _ _ _
theorem wlk_SL {c : Co} (ok : Cok c) (r : Int32) (b : Nat) : wlk (frS c r) b (SL c) none = WL c (shS c (ctd c)) r b := by
  unfold SL
  rw [wlk_skip (cny c + 1) 0 0 (Nat.zero_le _), Nat.zero_add]
  exact WL_cong (c := c) (fun x hx => gS_m9 ok hx) r b
theorem wlk_cut {c : Co} (ok : Cok c) {k : Nat} (hk : k < cns c) (r : Int32) (b : Nat) : wlk (frS c r) b (fsL (gS c (nI k)) 1 (cny c + 1) 0 0) none = WL c (fun p => shS c (ctd c) p && !inS c k p) r b := by
  rw [wlk_skip (cny c + 1) 0 0 (Nat.zero_le _), Nat.zero_add]
  exact WL_cong (c := c) (fun x hx => gS_cut ok hk hx) r b
theorem WL_len {c : Co} (ok : Cok c) (f : Nat → Bool) (r : Int32) (b : Nat) : (WL c f r b).length ≤ 49 := by
  rw [← zct_list (WL c f r b) 49 (WL_nd ..) (fun x hx => by have := WL_rng hx; have := ok.2.1; omega)]
  exact zct_le _ 49
theorem c_X12_findShore1 {S : ZS} {n : Nat} {c : Co} (hV : mV S c) (ok : Cok c) : zM m_X12_findShore 0 0 [.ref 25, .int (-9), .int (nI 1)] (zw S n) (fun r ω => r = none ∧ ∃ S1, ω = zw S1 n ∧ sfr S S1 ∧ shR S1 (SL c)) := c_X12_findShore hV ok (by decide) (by decide)
theorem c_X12_walksSL {S : ZS} {n : Nat} {c : Co} {r : Int32} {b : Nat} (hV : mV S c) (ok : Cok c) (hb : b < 100) (hs : shR S (SL c)) : zM m_X12_walks 0 0 [.ref 25, .int r, .int (nI b)] (zw S n) (fun q ω => q = some (.int (nI ((WL c (shS c (ctd c)) r b).length - 1))) ∧ ∃ S1, ω = zw S1 n ∧ sfr S S1 ∧ shR S1 (SL c) ∧ wdR S1 (WL c (shS c (ctd c)) r b)) := by
  have := c_X12_walks (r := r) (n := n) hV ok hb hs (fun x hx => SL_le hx)
  rw [wlk_SL ok] at this
  exact this
set_option maxRecDepth 100000 in
set_option maxHeartbeats 4000000 in
theorem c_X12_miles {S : ZS} {n : Nat} {c : Co} {r : Int32} {b : Nat} (hV : mV S c) (ok : Cok c) (hb : b < 100) : zM m_X12_miles 0 0 [.ref 25, .int r, .int (nI b)] (zw S n) (fun q ω => q = some (.int (mlS c (shS c (ctd c)) r b)) ∧ ∃ S1, ω = zw S1 n ∧ sfr S S1 ∧ shR S1 (SL c) ∧ wdR S1 (WL c (shS c (ctd c)) r b)) := by
  show Z m_X12_miles _ _ _ 0 [some (.ref _), some (.int _), some (.int _)] [] _
  refine Z_aload_n dX12_miles_0 rfl (z_isref _) (pc' := 1) rfl ?_
  refine Z_bipush dX12_miles_1 (v := (-9)) (by decide) (pc' := 3) rfl ?_
  refine Z_iconst dX12_miles_3 (v := 1) (by decide) (pc' := 4) rfl ?_
  refine Z_cV dX12_miles_4 rfl zcw_X12_findShore (As := [_, _]) (rest := []) rfl ⟨Nat.le_of_ble_eq_true rfl, Nat.le_of_ble_eq_true rfl⟩ (Nat.le_of_ble_eq_true rfl) (zRcv.lay zob_25) ⟨zcw_X12_findShore.2.2.2.2, Nat.le_of_ble_eq_true rfl⟩ zk_RX12_184 (c_X12_findShore1 hV ok) (pc' := 7) rfl (fun r_4 w_4 h_4 => ?_)
  obtain ⟨rfl, S1, rfl, f1, s1⟩ := h_4
  show Z _ _ _ _ _ _ [] _
  refine Z_iload_n dX12_miles_7 rfl (pc' := 8) rfl ?_
  refine Z_aload_n dX12_miles_8 rfl (z_isref _) (pc' := 9) rfl ?_
  refine Z_iload_n dX12_miles_9 rfl (pc' := 10) rfl ?_
  refine Z_iload_n dX12_miles_10 rfl (pc' := 11) rfl ?_
  refine Z_cV dX12_miles_11 rfl zcw_X12_walks (As := [_, _]) (rest := [_]) rfl ⟨Nat.le_of_ble_eq_true rfl, Nat.le_of_ble_eq_true rfl⟩ (Nat.le_of_ble_eq_true rfl) (zRcv.lay zob_25) ⟨zcw_X12_walks.2.2.2.2, Nat.le_of_ble_eq_true rfl⟩ zk_RX12_188 (c_X12_walksSL (f1.mv hV) ok (by omega) s1) (pc' := 14) rfl (fun r_11 w_11 h_11 => ?_)
  obtain ⟨rfl, S2, rfl, f2, s2, w2⟩ := h_11
  show Z _ _ _ _ _ _ (_ :: [_]) _
  refine Z_imul dX12_miles_14 (pc' := 15) rfl ?_
  exact Z_ireturn dX12_miles_15 rfl rfl ⟨rfl, S2, rfl, f1.tr f2, s2, w2⟩
theorem feL_drop {c : Co} {l : List Nat} {k x : Nat} (h : l[k]? = some x) : feL c (l.drop k) = feeS c (cso c x) + feL c (l.drop (k + 1)) := by
  have hk := (List.getElem?_eq_some_iff.mp h)
  rw [List.drop_eq_getElem_cons hk.1, hk.2]
  unfold feL
  rw [List.map_cons, List.sum_cons]
set_option maxRecDepth 100000 in
set_option maxHeartbeats 4000000 in
theorem lp_X12_pay {S : ZS} {n : Nat} {c : Co} {r : Int32} {b : Nat} {l : List Nat} (hV : mV S c) (ok : Cok c) (hw : wdR S l) (hl : ∀ i x, 1 ≤ i → l[i]? = some x → 1 ≤ x ∧ x ≤ cny c) {T : Int32} {R : Option Value → ZW → Prop} (hR : R (some (.int T)) (zw S n)) : ∀ (m k : Nat) (v : Int32), l.length - k = m → 1 ≤ k → k < 1000 → v + nI (feL c (l.drop k)) = T → Z m_X12_pay 0 0 R 10 [some (.ref 25), some (.int r), some (.int (nI b)), some (.int v), some (.int (nI k))] [] (zw S n) := by
  intro m
  induction m with
  | zero =>
    intro k v h h1 hk hT
    have hwl := hw.2.1
    rw [List.drop_eq_nil_of_le (by omega), show nI (feL c []) = 0 from rfl, Int32.add_zero] at hT
    subst hT
    refine Z_iload dX12_pay_10 rfl (pc' := 12) rfl ?_
    refine Z_aload_n dX12_pay_12 rfl (z_isref _) (pc' := 13) rfl ?_
    refine Z_gI dX12_pay_13 rfl zgi_RX12_178_25 (pc' := 16) rfl ?_
    rw [hw.1]
    refine Z_icmp_ge dX12_pay_16 (tgt := 44) rfl (pc' := 19) rfl (fun c_16 => ?_) (fun c_16 => absurd c_16 (fun c => c ((nI_len (by omega) (by omega)).mpr (by omega))))
    refine Z_iload_n dX12_pay_44 rfl (pc' := 45) rfl ?_
    exact Z_ireturn dX12_pay_45 rfl rfl hR
  | succ m ih =>
    intro k v h h1 hk hT
    have hwl := hw.2.1
    obtain ⟨x, hx⟩ : ∃ x, l[k]? = some x := ⟨l[k]'(by omega), List.getElem?_eq_getElem _⟩
    obtain ⟨hx1, hxc⟩ := hl k x h1 hx
    have h48 := ok.2.1
    have hso := ok.2.2.2.2.2.1 x hx1 hxc
    refine Z_iload dX12_pay_10 rfl (pc' := 12) rfl ?_
    refine Z_aload_n dX12_pay_12 rfl (z_isref _) (pc' := 13) rfl ?_
    refine Z_gI dX12_pay_13 rfl zgi_RX12_178_25 (pc' := 16) rfl ?_
    rw [hw.1]
    refine Z_icmp_ge dX12_pay_16 (tgt := 44) rfl (pc' := 19) rfl (fun c_16 => absurd c_16 (by rw [nI_len (by omega) (by omega)]; omega)) (fun c_16 => ?_)
    refine Z_iload_n dX12_pay_19 rfl (pc' := 20) rfl ?_
    refine Z_aload_n dX12_pay_20 rfl (z_isref _) (pc' := 21) rfl ?_
    refine Z_aload_n dX12_pay_21 rfl (z_isref _) (pc' := 22) rfl ?_
    refine Z_gR dX12_pay_22 rfl zgr_RX12_31_25 (pc' := 25) rfl ?_
    refine Z_aload_n dX12_pay_25 rfl (z_isref _) (pc' := 26) rfl ?_
    refine Z_gR dX12_pay_26 rfl zgr_RX12_64_25 (pc' := 29) rfl ?_
    refine Z_iload dX12_pay_29 rfl (pc' := 31) rfl ?_
    refine Z_il dX12_pay_31 zar_44 (zin (by omega) (by decide)) (pc' := 32) rfl ?_
    rw [nI_nat (by omega), hw.2.2 k x hx]
    refine Z_il dX12_pay_32 zar_33 (zin (by omega) (by decide)) (pc' := 33) rfl ?_
    rw [nI_nat (by omega), hV.2.2.2.1 x hx1 hxc]
    refine Z_cVe dX12_pay_33 rfl zcw_X12_feeOf (As := [_]) (rest := [_]) rfl ⟨Nat.le_of_ble_eq_true rfl, Nat.le_of_ble_eq_true rfl⟩ (Nat.le_of_ble_eq_true rfl) (zRcv.lay zob_25) ⟨zcw_X12_feeOf.2.2.2.2, Nat.le_of_ble_eq_true rfl⟩ zk_RX12_166 (c_X12_feeOf hV ok hso) (pc' := 36) rfl ?_
    refine Z_iadd dX12_pay_36 (pc' := 37) rfl ?_
    refine Z_istore_n dX12_pay_37 (Nat.le_of_ble_eq_true rfl) (Nat.le_of_ble_eq_true rfl) rfl (ls' := [_, _, _, _, _]) rfl (pc' := 38) rfl ?_
    refine Z_iinc dX12_pay_38 rfl (nI_inc k) (Nat.le_of_ble_eq_true rfl) rfl (ls' := [_, _, _, _, _]) rfl (pc' := 41) rfl ?_
    refine Z_goto dX12_pay_41 (tgt := 10) rfl ?_
    exact ih (k + 1) _ (by omega) (by omega) (by omega) (by rw [← hT, feL_drop hx, ← nI_add, Int32.add_assoc])
set_option maxRecDepth 100000 in
set_option maxHeartbeats 4000000 in
theorem c_X12_pay {S : ZS} {n : Nat} {c : Co} {r : Int32} {b : Nat} (hV : mV S c) (ok : Cok c) (hb : b < 100) : zM m_X12_pay 0 0 [.ref 25, .int r, .int (nI b)] (zw S n) (fun q ω => q = some (.int (pyS c (shS c (ctd c)) r b)) ∧ ∃ S1, ω = zw S1 n ∧ sfr S S1 ∧ shR S1 (SL c) ∧ wdR S1 (WL c (shS c (ctd c)) r b)) := by
  show Z m_X12_pay _ _ _ 0 [some (.ref _), some (.int _), some (.int _)] [] _
  refine Z_aload_n dX12_pay_0 rfl (z_isref _) (pc' := 1) rfl ?_
  refine Z_iload_n dX12_pay_1 rfl (pc' := 2) rfl ?_
  refine Z_iload_n dX12_pay_2 rfl (pc' := 3) rfl ?_
  refine Z_cV dX12_pay_3 rfl zcw_X12_miles (As := [_, _]) (rest := []) rfl ⟨Nat.le_of_ble_eq_true rfl, Nat.le_of_ble_eq_true rfl⟩ (Nat.le_of_ble_eq_true rfl) (zRcv.lay zob_25) ⟨zcw_X12_miles.2.2.2.2, Nat.le_of_ble_eq_true rfl⟩ zk_RX12_192 (c_X12_miles hV ok hb) (pc' := 6) rfl (fun r_3 w_3 h_3 => ?_)
  obtain ⟨rfl, S1, rfl, f1, s1, w1⟩ := h_3
  show Z _ _ _ _ _ _ (_ :: []) _
  refine Z_istore_n dX12_pay_6 (Nat.le_of_ble_eq_true rfl) (Nat.le_of_ble_eq_true rfl) rfl (ls' := [_, _, _, _]) rfl (pc' := 7) rfl ?_
  refine Z_iconst dX12_pay_7 (v := 1) (by decide) (pc' := 8) rfl ?_
  refine Z_istore dX12_pay_8 (Nat.le_of_ble_eq_true rfl) (Nat.le_of_ble_eq_true rfl) rfl (ls' := [_, _, _, _, _]) rfl (pc' := 10) rfl ?_
  refine lp_X12_pay (T := pyS c (shS c (ctd c)) r b) (f1.mv hV) ok w1 ?_ ⟨rfl, S1, rfl, f1, s1, w1⟩ _ 1 _ rfl (by decide) (by decide) (by unfold pyS mlS; rw [List.drop_one])
  intro i x h1 hx
  have hm := WL_rng (List.mem_of_getElem? hx)
  refine ⟨?_, hm.2.1⟩
  have hx2 := List.getElem?_eq_some_iff.mp hx
  have := List.pairwise_iff_getElem.mp (WL_nd c (shS c (ctd c)) r b) 0 i (Nat.lt_of_le_of_lt (Nat.zero_le _) hx2.1) hx2.1 (by omega)
  rw [hx2.2] at this
  omega
theorem ov_SL {c : Co} (ok : Cok c) (a : Nat) : ((SL c).filter fun p => decide (a < p)).length = zct (fun p => decide (a < p) && shS c (ctd c) p) 49 := by
  have h48 := ok.2.1
  rw [← zct_filter _ (SL_nd c) (fun x hx => by have := SL_le hx; omega), show 64 = 49 + 15 from rfl, zct_off _ 49 15 (fun i _ => ?_)]
  · refine zct_cong 49 fun k _ => ?_
    rw [Bool.and_comm]
    congr 1
    rw [Bool.eq_iff_iff, decide_eq_true_iff]
    exact SL_mem ok
  · have : 49 + i ∉ SL c := fun h => by have := SL_le h; omega
    simp [this]
theorem flt_drop {l : List Nat} {k x : Nat} (q : Nat → Bool) (h : l[k]? = some x) : ((l.drop k).filter q).length = (if q x then 1 else 0) + ((l.drop (k + 1)).filter q).length := by
  have hk := (List.getElem?_eq_some_iff.mp h)
  rw [List.drop_eq_getElem_cons hk.1, hk.2, List.filter_cons]
  split
  · rw [List.length_cons, Nat.add_comm]
  · rw [Nat.zero_add]
set_option maxRecDepth 100000 in
set_option maxHeartbeats 4000000 in
theorem lp_X12_over {S : ZS} {n : Nat} {c : Co} {l : List Nat} {a : Nat} (ok : Cok c) (hs : shR S (SL c)) (hw : wdR S l) (hl0 : l.length ≠ 0) (ha : a ≤ cny c) (hat : S.1 44 (l.length - 1) = nI a) {T : Nat} {R : Option Value → ZW → Prop} (hR : R (some (.int (nI T))) (zw S n)) : ∀ (m k v : Nat), k + m = (SL c).length → v + (((SL c).drop k).filter fun p => decide (a < p)).length = T → Z m_X12_over 0 0 R 4 [some (.ref 25), some (.int (nI v)), some (.int (nI k))] [] (zw S n) := by
  intro m
  induction m with
  | zero =>
    intro k v h hT
    have hll := hs.2.1
    rw [List.drop_eq_nil_of_le (by omega)] at hT
    obtain rfl : v = T := hT
    refine Z_iload_n dX12_over_4 rfl (pc' := 5) rfl ?_
    refine Z_aload_n dX12_over_5 rfl (z_isref _) (pc' := 6) rfl ?_
    refine Z_gI dX12_over_6 rfl zgi_RX12_175_25 (pc' := 9) rfl ?_
    rw [hs.1]
    refine Z_icmp_ge dX12_over_9 (tgt := 53) rfl (pc' := 12) rfl (fun c_9 => ?_) (fun c_9 => absurd c_9 (fun c => c ((nI_len (by omega) (by omega)).mpr (by omega))))
    refine Z_iload_n dX12_over_53 rfl (pc' := 54) rfl ?_
    exact Z_ireturn dX12_over_54 rfl rfl hR
  | succ m ih =>
    intro k v h hT
    have hll := hs.2.1
    have hwl := hw.2.1
    have h48 := ok.2.1
    obtain ⟨x, hx⟩ : ∃ x, (SL c)[k]? = some x := ⟨(SL c)[k]'(by omega), List.getElem?_eq_getElem _⟩
    have hxc := SL_le (List.mem_of_getElem? hx)
    refine Z_iload_n dX12_over_4 rfl (pc' := 5) rfl ?_
    refine Z_aload_n dX12_over_5 rfl (z_isref _) (pc' := 6) rfl ?_
    refine Z_gI dX12_over_6 rfl zgi_RX12_175_25 (pc' := 9) rfl ?_
    rw [hs.1]
    refine Z_icmp_ge dX12_over_9 (tgt := 53) rfl (pc' := 12) rfl (fun c_9 => absurd c_9 (by rw [nI_len (by omega) (by omega)]; omega)) (fun c_9 => ?_)
    refine Z_aload_n dX12_over_12 rfl (z_isref _) (pc' := 13) rfl ?_
    refine Z_gI dX12_over_13 rfl zgi_RX12_178_25 (pc' := 16) rfl ?_
    rw [hw.1]
    refine Z_if_le dX12_over_16 (tgt := 53) rfl (pc' := 19) rfl (fun c_16 => absurd c_16 (fun q => by rw [show (0 : Int32) = nI 0 from rfl, nI_len (by omega) (by decide)] at q; omega)) (fun c_16 => ?_)
    refine Z_iload_n dX12_over_19 rfl (pc' := 20) rfl ?_
    refine Z_aload_n dX12_over_20 rfl (z_isref _) (pc' := 21) rfl ?_
    refine Z_gR dX12_over_21 rfl zgr_RX12_61_25 (pc' := 24) rfl ?_
    refine Z_iload_n dX12_over_24 rfl (pc' := 25) rfl ?_
    refine Z_il dX12_over_25 zar_43 (zin (by omega) (by decide)) (pc' := 26) rfl ?_
    rw [nI_nat (by omega), hs.2.2 k x hx]
    refine Z_aload_n dX12_over_26 rfl (z_isref _) (pc' := 27) rfl ?_
    refine Z_gR dX12_over_27 rfl zgr_RX12_64_25 (pc' := 30) rfl ?_
    refine Z_aload_n dX12_over_30 rfl (z_isref _) (pc' := 31) rfl ?_
    refine Z_gI dX12_over_31 rfl zgi_RX12_178_25 (pc' := 34) rfl ?_
    rw [hw.1]
    refine Z_iconst dX12_over_34 (v := 1) (by decide) (pc' := 35) rfl ?_
    refine Z_isub dX12_over_35 (pc' := 36) rfl ?_
    rw [show (1 : Int32) = nI 1 from rfl, nI_sub (by omega)]
    refine Z_il dX12_over_36 zar_44 (zin (by omega) (by decide)) (pc' := 37) rfl ?_
    rw [nI_nat (by omega), hat]
    refine Z_icmp_le dX12_over_37 (tgt := 44) rfl (pc' := 40) rfl (fun c_37 => ?_) (fun c_37 => ?_)
    · refine Z_iconst dX12_over_44 (v := 0) (by decide) (pc' := 45) rfl ?_
      refine Z_iadd dX12_over_45 (pc' := 46) rfl ?_
      first | rw [show (1 : Int32) = nI 1 from rfl, nI_add] | rw [show (0 : Int32) = nI 0 from rfl, nI_add]
      refine Z_istore_n dX12_over_46 (Nat.le_of_ble_eq_true rfl) (Nat.le_of_ble_eq_true rfl) rfl (ls' := [_, _, _]) rfl (pc' := 47) rfl ?_
      refine Z_iinc dX12_over_47 rfl (nI_inc k) (Nat.le_of_ble_eq_true rfl) rfl (ls' := [_, _, _]) rfl (pc' := 50) rfl ?_
      refine Z_goto dX12_over_50 (tgt := 4) rfl ?_
      exact ih (k + 1) (v + 0) (by omega) (by rw [← hT, flt_drop _ hx, if_neg (by rw [nI_len (by omega) (by omega)] at c_37; simp; omega)]; omega)
    · refine Z_iconst dX12_over_40 (v := 1) (by decide) (pc' := 41) rfl ?_
      refine Z_goto dX12_over_41 (tgt := 45) rfl ?_
      refine Z_iadd dX12_over_45 (pc' := 46) rfl ?_
      first | rw [show (1 : Int32) = nI 1 from rfl, nI_add] | rw [show (0 : Int32) = nI 0 from rfl, nI_add]
      refine Z_istore_n dX12_over_46 (Nat.le_of_ble_eq_true rfl) (Nat.le_of_ble_eq_true rfl) rfl (ls' := [_, _, _]) rfl (pc' := 47) rfl ?_
      refine Z_iinc dX12_over_47 rfl (nI_inc k) (Nat.le_of_ble_eq_true rfl) rfl (ls' := [_, _, _]) rfl (pc' := 50) rfl ?_
      refine Z_goto dX12_over_50 (tgt := 4) rfl ?_
      exact ih (k + 1) (v + 1) (by omega) (by rw [← hT, flt_drop _ hx, if_pos (by rw [nI_len (by omega) (by omega)] at c_37; simp; omega)]; omega)
set_option maxRecDepth 100000 in
set_option maxHeartbeats 4000000 in
theorem lp_X12_over_0 {S : ZS} {n : Nat} {c : Co} (hs : shR S (SL c)) (hw : wdR S []) {R : Option Value → ZW → Prop} (hR : R (some (.int 0)) (zw S n)) : Z m_X12_over 0 0 R 4 [some (.ref 25), some (.int (nI 0)), some (.int (nI 0))] [] (zw S n) := by
  refine Z_iload_n dX12_over_4 rfl (pc' := 5) rfl ?_
  refine Z_aload_n dX12_over_5 rfl (z_isref _) (pc' := 6) rfl ?_
  refine Z_gI dX12_over_6 rfl zgi_RX12_175_25 (pc' := 9) rfl ?_
  refine Z_icmp_ge dX12_over_9 (tgt := 53) rfl (pc' := 12) rfl (fun c_9 => ?_) (fun c_9 => ?_)
  · refine Z_iload_n dX12_over_53 rfl (pc' := 54) rfl ?_
    exact Z_ireturn dX12_over_54 rfl rfl hR
  · refine Z_aload_n dX12_over_12 rfl (z_isref _) (pc' := 13) rfl ?_
    refine Z_gI dX12_over_13 rfl zgi_RX12_178_25 (pc' := 16) rfl ?_
    rw [hw.1]
    refine Z_if_le dX12_over_16 (tgt := 53) rfl (pc' := 19) rfl (fun c_16 => ?_) (fun c_16 => absurd c_16 (fun q => q (by decide)))
    refine Z_iload_n dX12_over_53 rfl (pc' := 54) rfl ?_
    exact Z_ireturn dX12_over_54 rfl rfl hR
set_option maxRecDepth 100000 in
set_option maxHeartbeats 4000000 in
theorem c_X12_over {S : ZS} {n : Nat} {c : Co} {l : List Nat} (ok : Cok c) (hs : shR S (SL c)) (hw : wdR S l) (hl : ∀ x ∈ l, x ≤ cny c) : zM m_X12_over 0 0 [.ref 25] (zw S n) (zE (some (.int (nI (ovS (shS c (ctd c)) l)))) (zw S n)) := by
  show Z m_X12_over _ _ _ 0 [some (.ref _)] [] _
  refine Z_iconst dX12_over_0 (v := 0) (by decide) (pc' := 1) rfl ?_
  refine Z_istore_n dX12_over_1 (Nat.le_of_ble_eq_true rfl) (Nat.le_of_ble_eq_true rfl) rfl (ls' := [_, _]) rfl (pc' := 2) rfl ?_
  refine Z_iconst dX12_over_2 (v := 0) (by decide) (pc' := 3) rfl ?_
  refine Z_istore_n dX12_over_3 (Nat.le_of_ble_eq_true rfl) (Nat.le_of_ble_eq_true rfl) rfl (ls' := [_, _, _]) rfl (pc' := 4) rfl ?_
  have hll := hs.2.1
  have hwl := hw.2.1
  by_cases h0 : l.length = 0
  · have e : l = [] := List.length_eq_zero_iff.mp h0
    subst e
    exact lp_X12_over_0 hs hw ⟨rfl, rfl⟩
  · obtain ⟨a, ha, ham, hat⟩ := last_at hw h0
    exact lp_X12_over ok hs hw h0 (hl a ham) hat (T := ovS (shS c (ctd c)) l) ⟨rfl, rfl⟩ (SL c).length 0 0 (by omega) (by rw [List.drop_zero, ov_SL ok, Nat.zero_add]; unfold ovS; rw [ha])
set_option maxRecDepth 100000 in
set_option maxHeartbeats 4000000 in
theorem c_X12_milesWithout {S : ZS} {n k : Nat} {c : Co} {r : Int32} (hV : mV S c) (ok : Cok c) (hk : k < cns c) : zM m_X12_milesWithout 0 0 [.ref 25, .int (nI k), .int r] (zw S n) (fun q ω => q = some (.int (mlS c (fun p => shS c (ctd c) p && !inS c k p) r 0)) ∧ ∃ S1, ω = zw S1 n ∧ sfr S S1) := by
  show Z m_X12_milesWithout _ _ _ 0 [some (.ref _), some (.int _), some (.int _)] [] _
  refine Z_aload_n dX12_milesWithout_0 rfl (z_isref _) (pc' := 1) rfl ?_
  refine Z_iload_n dX12_milesWithout_1 rfl (pc' := 2) rfl ?_
  refine Z_iconst dX12_milesWithout_2 (v := 1) (by decide) (pc' := 3) rfl ?_
  refine Z_cV dX12_milesWithout_3 rfl zcw_X12_findShore (As := [_, _]) (rest := []) rfl ⟨Nat.le_of_ble_eq_true rfl, Nat.le_of_ble_eq_true rfl⟩ (Nat.le_of_ble_eq_true rfl) (zRcv.lay zob_25) ⟨zcw_X12_findShore.2.2.2.2, Nat.le_of_ble_eq_true rfl⟩ zk_RX12_184 (c_X12_findShore (e := 1) hV ok (by decide) (by decide)) (pc' := 6) rfl (fun r_3 w_3 h_3 => ?_)
  obtain ⟨rfl, S1, rfl, f1, s1⟩ := h_3
  show Z _ _ _ _ _ _ [] _
  refine Z_iload_n dX12_milesWithout_6 rfl (pc' := 7) rfl ?_
  refine Z_aload_n dX12_milesWithout_7 rfl (z_isref _) (pc' := 8) rfl ?_
  refine Z_iload_n dX12_milesWithout_8 rfl (pc' := 9) rfl ?_
  refine Z_iconst dX12_milesWithout_9 (v := 0) (by decide) (pc' := 10) rfl ?_
  refine Z_cV dX12_milesWithout_10 rfl zcw_X12_walks (As := [_, _]) (rest := [_]) rfl ⟨Nat.le_of_ble_eq_true rfl, Nat.le_of_ble_eq_true rfl⟩ (Nat.le_of_ble_eq_true rfl) (zRcv.lay zob_25) ⟨zcw_X12_walks.2.2.2.2, Nat.le_of_ble_eq_true rfl⟩ zk_RX12_188 (c_X12_walks (b := 0) (f1.mv hV) ok (by decide) s1 (fun x hx => by have := fsL_rng hx; omega)) (pc' := 13) rfl (fun r_10 w_10 h_10 => ?_)
  obtain ⟨rfl, S2, rfl, f2, s2, w2⟩ := h_10
  rw [wlk_cut ok hk]
  show Z _ _ _ _ _ _ (_ :: [_]) _
  refine Z_imul dX12_milesWithout_13 (pc' := 14) rfl ?_
  exact Z_ireturn dX12_milesWithout_14 rfl rfl ⟨rfl, S2, rfl, f1.tr f2⟩
