theorem mV_cg {S S' : ZS} {c : Co} (v : mV S c) (h1 : ∀ k, 12 ≤ k → k ≤ 15 → S'.1 25 k = S.1 25 k) (g : ∀ a, 27 ≤ a → a ≤ 37 → S'.1 a = S.1 a) : mV S' c := by
  obtain ⟨⟨a1, a2, a3, a4⟩, b, d, e, r0⟩ := v
  refine ⟨⟨?_, ?_, ?_, ?_⟩, ?_, ?_, ?_, ?_⟩
  · rw [h1 _ (by decide) (by decide)]; exact a1
  · rw [h1 _ (by decide) (by decide)]; exact a2
  · rw [h1 _ (by decide) (by decide)]; exact a3
  · rw [h1 _ (by decide) (by decide)]; exact a4
  · rw [g _ (by decide) (by decide), g _ (by decide) (by decide), g _ (by decide) (by decide), g _ (by decide) (by decide)]; exact b
  · rw [g _ (by decide) (by decide), g _ (by decide) (by decide)]; exact d
  · rw [g _ (by decide) (by decide)]; exact e
  · rw [g _ (by decide) (by decide), g _ (by decide) (by decide), g _ (by decide) (by decide), g _ (by decide) (by decide)]; exact r0
theorem MI_tx {S S' : ZS} {M : Ms} {tx : Nat → Int32} {L : Nat} (h : MI S M) (gr : ∀ a, a ≠ 38 → a ≠ 25 → S'.1 a = S.1 a) (gf : ∀ k, k ≠ 20 → S'.1 25 k = S.1 25 k) (t : S'.1 25 20 = nI L ∧ L ≤ 80 ∧ ∀ k, k < L → S'.1 38 k = tx k) : MI S' (wT M tx L) := by
  obtain ⟨v, i, _, r, q⟩ := h
  refine ⟨⟨mV_cg v.1 (fun k h1 h2 => gf k (by omega)) (fun a h1 h2 => gr a (by omega) (by omega)), v.2⟩, ?_, t, ?_, fun k hk => ?_⟩
  · rw [gf 24 (by decide), gr 42 (by decide) (by decide)]; exact i
  · rw [gf 35 (by decide), gr 47 (by decide) (by decide)]; exact r
  · rw [gr 26 (by decide) (by decide)]; exact q k hk
theorem MI_rw {S S' : ZS} {M : Ms} {rw0 : Nat → Nat} {L : Nat} (h : MI S M) (gr : ∀ a, a ≠ 47 → a ≠ 25 → S'.1 a = S.1 a) (gf : ∀ k, k ≠ 35 → S'.1 25 k = S.1 25 k) (r : S'.1 25 35 = nI L ∧ L ≤ 12 ∧ ∀ k, k < L → S'.1 47 k = nI (rw0 k) ∧ rw0 k ≤ 48) : MI S' (wR M rw0 L) := by
  obtain ⟨v, i, t, _, q⟩ := h
  refine ⟨⟨mV_cg v.1 (fun k h1 h2 => gf k (by omega)) (fun a h1 h2 => gr a (by omega) (by omega)), v.2⟩, ?_, ?_, r, fun k hk => ?_⟩
  · rw [gf 24 (by decide), gr 42 (by decide) (by decide)]; exact i
  · rw [gf 20 (by decide), gr 38 (by decide) (by decide)]; exact t
  · rw [gr 26 (by decide) (by decide)]; exact q k hk
theorem mV_td {S : ZS} {c : Co} (v : mV S c) (t : Nat) : mV (sA S 25 15 (nI t)) (setTd c t) := by
  have gr : ∀ a, a ≠ 25 → (sA S 25 15 (nI t)).1 a = S.1 a := fun a ha => sA_ne _ _ _ ha
  have gf : ∀ k, k ≠ 15 → (sA S 25 15 (nI t)).1 25 k = S.1 25 k := fun k hk => sA_nk _ _ (fun e => hk e.2)
  obtain ⟨⟨a1, a2, a3, a4⟩, b, d, e, r0⟩ := v
  refine ⟨⟨?_, ?_, ?_, sA_eq ..⟩, ?_, ?_, ?_, ?_⟩
  · rw [gf _ (by decide)]; exact a1
  · rw [gf _ (by decide)]; exact a2
  · rw [gf _ (by decide)]; exact a3
  · rw [gr _ (by decide), gr _ (by decide), gr _ (by decide), gr _ (by decide)]; exact b
  · rw [gr _ (by decide), gr _ (by decide)]; exact d
  · rw [gr _ (by decide)]; exact e
  · rw [gr _ (by decide), gr _ (by decide), gr _ (by decide), gr _ (by decide)]; exact r0
theorem MI_td {S : ZS} {M : Ms} {t : Nat} (h : MI S M) (ht : t ≤ 9) : MI (sA S 25 15 (nI t)) (wC M (setTd (mc M) t)) := by
  obtain ⟨v, i, tt, r, q⟩ := h
  have gr : ∀ a, a ≠ 25 → (sA S 25 15 (nI t)).1 a = S.1 a := fun a ha => sA_ne _ _ _ ha
  have gf : ∀ k, k ≠ 15 → (sA S 25 15 (nI t)).1 25 k = S.1 25 k := fun k hk => sA_nk _ _ (fun e => hk e.2)
  refine ⟨⟨mV_td v.1 t, Cok_td v.2 ht⟩, ?_, ?_, ?_, fun k hk => ?_⟩
  · rw [gf 24 (by decide), gr 42 (by decide)]; exact i
  · rw [gf 20 (by decide), gr 38 (by decide)]; exact tt
  · rw [gf 35 (by decide), gr 47 (by decide)]; exact r
  · rw [gr 26 (by decide)]; exact q k hk
theorem qR.mk {S S' : ZS} {n : Nat} {p : Int32 × Ms} {v : Int32} {M' : Ms} (e : p = (v, M')) (f : frm 25 47 S n S' n) (h : MI S' M') : qR S n p (some (.int v)) (zw S' n) := by
  subst e
  exact ⟨rfl, S', rfl, f, h⟩
theorem bo_cases (a lo hi : Int32) : (boI a lo hi = -4 ∧ a < lo) ∨ (boI a lo hi = -6 ∧ ¬ a < lo ∧ hi < a) ∨ (boI a lo hi = 0 ∧ ¬ a < lo ∧ ¬ hi < a) := by
  unfold boI
  by_cases h1 : a < lo
  · rw [if_pos h1]; exact Or.inl ⟨rfl, h1⟩
  · rw [if_neg h1]
    by_cases h2 : hi < a
    · rw [if_pos h2]; exact Or.inr (Or.inl ⟨rfl, h1, h2⟩)
    · rw [if_neg h2]; exact Or.inr (Or.inr ⟨rfl, h1, h2⟩)
theorem in_cases (a lo hi : Int32) : (inI a lo hi = true ∧ ¬ a < lo ∧ ¬ hi < a) ∨ (inI a lo hi = false ∧ (a < lo ∨ hi < a)) := by
  unfold inI
  by_cases h1 : a < lo
  · rw [decide_eq_true h1]; exact Or.inr ⟨rfl, Or.inl h1⟩
  · rw [decide_eq_false h1]
    by_cases h2 : hi < a
    · rw [decide_eq_true h2]; exact Or.inr ⟨rfl, Or.inr h2⟩
    · rw [decide_eq_false h2]; exact Or.inl ⟨rfl, h1, h2⟩
theorem in01 (a : Int32) : (inI a 0 1 = true ∧ a = 0) ∨ (inI a 0 1 = true ∧ a = 1) ∨ (inI a 0 1 = false ∧ (a < 0 ∨ 1 < a) ∧ ¬ a = 0 ∧ ¬ a = 1) := by
  rcases in_cases a 0 1 with ⟨e, h1, h2⟩ | ⟨e, h⟩
  · obtain ⟨k, hk, rfl⟩ := i_rng (a := a) (m := 1) (by decide) h1 h2
    rcases (show k = 0 ∨ k = 1 by omega) with rfl | rfl
    · exact Or.inl ⟨e, rfl⟩
    · exact Or.inr (Or.inl ⟨e, rfl⟩)
  · refine Or.inr (Or.inr ⟨e, h, ?_, ?_⟩)
    · rintro rfl; rcases h with h | h <;> exact absurd h (by decide)
    · rintro rfl; rcases h with h | h <;> exact absurd h (by decide)
theorem zb_1 {b : Bool} (h : ¬ zb b = 0) : zb b = 1 := by cases b; exact absurd rfl h; rfl
theorem nI_sub1 {a : Nat} (h : 0 < a) : nI a - 1 = nI (a - 1) := nI_sub (i := 1) h
theorem zb_st {α : Type} {k : α} : ¬ zb (some k).isSome = 0 := by show ¬ (1 : Int32) = 0; decide
theorem MI.ok {S : ZS} {M : Ms} (h : MI S M) : Cok (mc M) := h.1.2
theorem MI.mv {S : ZS} {M : Ms} (h : MI S M) : mV S (mc M) := h.1.1
theorem rk_in (s : Int32) {N : Nat} (hN : N ≤ 6) : inI s 0 (nI N - 1) = (idx s N).isSome := by
  rcases i32_cases s with h | ⟨k, hk, rfl⟩
  · rw [idx_none (Or.inl h)]
    unfold inI
    rw [decide_eq_true h]; rfl
  · have h0 := nI_neg hk
    rcases Nat.lt_or_ge k N with q | q
    · have h2 : ¬ nI N - 1 < nI k := by
        obtain ⟨m, rfl⟩ : ∃ m, N = m + 1 := ⟨N - 1, by omega⟩
        rw [nI_pred, nI_ltn (by omega) (by omega)]; omega
      rw [idx_some q (by omega)]
      unfold inI
      rw [decide_eq_false h0, decide_eq_false h2]; rfl
    · have h2 : nI N - 1 < nI k := by
        cases N with
        | zero => exact Int32.lt_of_lt_of_le (show (nI 0 - 1 : Int32) < 0 by decide) (i_le h0)
        | succ m => rw [nI_pred, nI_ltn (by omega) (by omega)]; omega
      rw [idx_none (Or.inr ((nI_len (by omega) hk).mpr q))]
      unfold inI
      rw [decide_eq_false h0, decide_eq_true h2]; rfl
theorem roI_out {f : Nat → Int32} {a : Int32} (h : a < 11 ∨ 16 < a) : roI f (a - 10) = -9 := by
  unfold roI
  by_cases h1 : a - 10 < 1 ∨ 7 ≤ a - 10
  · rw [if_pos h1]
  · exfalso
    have h2 : ¬ a - 10 < 1 := fun q => h1 (Or.inl q)
    have h3 : ¬ 7 ≤ a - 10 := fun q => h1 (Or.inr q)
    obtain ⟨j, hj, e⟩ := i_nat (a := a - 10) (i_le (fun q => h2 (Int32.lt_trans q (by decide))))
    rw [e, show (1 : Int32) = nI 1 from rfl, nI_ltn (by omega) (by decide)] at h2
    rw [e, show (7 : Int32) = nI 7 from rfl, nI_len (by decide) (by omega)] at h3
    have e2 : a = nI (j + 10) := by
      rw [← nI_add, ← e, show nI 10 = (10 : Int32) from rfl, Int32.sub_add_cancel]
    subst e2
    rcases h with h | h
    · rw [show (11 : Int32) = nI 11 from rfl, nI_ltn (by omega) (by decide)] at h; omega
    · rw [show (16 : Int32) = nI 16 from rfl, nI_ltn (by decide) (by omega)] at h; omega
theorem znb_6 {c : Co} (ok : Cok c) (t : Nat) : znb (islB c t) (cnr c) = znb (islB c t) 6 := by
  have h6 := ok.2.2.1
  refine Nat.eq_of_testBit_eq fun k => ?_
  rw [znb_bit, znb_bit]
  by_cases h : k < cnr c
  · have : k < 6 := by omega
    simp [h, this]
  · have : islB c t k = false := by unfold islB; simp [h]
    simp [this]
theorem faF_8 {c : Co} (ok : Cok c) : faF c (cns c) = faF c 8 := by
  have h8 := ok.1
  have key : ∀ m, faF c (cns c + m) = faF c (cns c) := by
    intro m
    induction m with
    | zero => rfl
    | succ m ih => rw [← Nat.add_assoc, faF, ih, if_neg (by omega), Nat.add_zero]
  have := key (8 - cns c)
  rw [show cns c + (8 - cns c) = 8 by omega] at this
  exact this.symm
theorem SL_cnt {c : Co} (ok : Cok c) : (SL c).length = zct (shS c (ctd c)) 64 := by
  have h48 := ok.2.1
  rw [← zct_list (SL c) 64 (SL_nd c) (fun x hx => by have := SL_le hx; omega)]
  refine zct_cong 64 fun k _ => ?_
  rw [Bool.eq_iff_iff, decide_eq_true_iff]
  exact SL_mem ok
theorem hpI_idx {N : Nat} {s : Int32} (hN : N < 1000) : hpI (nI N) s = (idx s (N + 1)).isSome := by
  rcases idx_cases s (N := N + 1) (by omega) with ⟨k, hk, rfl, e⟩ | ⟨h, e⟩
  · rw [e, hpI_some hN hk]; rfl
  · rw [e, hpI_none hN h]; rfl
theorem MI_feed {S : ZS} {M : Ms} (hI : MI S M) (hL : mL M < 80) (x : Int32) : MI (sA (sA S 38 (mL M) x) 25 20 (nI (mL M + 1))) (wT M (zup (mtx M) (mL M) x) (mL M + 1)) := by
  refine MI_tx hI (fun a h1 h2 => by rw [sA_ne _ _ _ h2, sA_ne _ _ _ h1]) (fun k hk => by rw [sA_nk _ _ (fun e => hk e.2), sA_ne _ _ _ (by decide)]) ⟨sA_eq .., by omega, fun k hk => ?_⟩
  rw [sA_ne _ _ _ (by decide), sA_same]
  by_cases e : k = mL M
  · subst e; rw [zup_same, zup_same]
  · rw [zup_ne _ _ e, zup_ne _ _ e, hI.2.2.1.2.2 k (by omega)]
theorem MI_row1 {S : ZS} {M : Ms} (hI : MI S M) (hl : mrl M < 12) {p : Nat} (hp : p ≤ 48) : MI (sA (sA S 47 (mrl M) (nI p)) 25 35 (nI (mrl M + 1))) (wR M (zup (mrw M) (mrl M) p) (mrl M + 1)) := by
  refine MI_rw hI (fun a h1 h2 => by rw [sA_ne _ _ _ h2, sA_ne _ _ _ h1]) (fun k hk => by rw [sA_nk _ _ (fun e => hk e.2), sA_ne _ _ _ (by decide)]) ⟨sA_eq .., by omega, fun k hk => ?_⟩
  rw [sA_ne _ _ _ (by decide), sA_same]
  by_cases e : k = mrl M
  · subst e; rw [zup_same, zup_same]; exact ⟨rfl, hp⟩
  · rw [zup_ne _ _ e, zup_ne _ _ e]; exact hI.2.2.2.1.2.2 k (by omega)
theorem MI_row0 {S : ZS} {M : Ms} (hI : MI S M) : MI (sA S 25 35 0) (wR M (mrw M) 0) :=
  MI_rw hI (fun a h1 h2 => by rw [sA_ne _ _ _ h2]) (fun k hk => by rw [sA_nk _ _ (fun e => hk e.2)]) ⟨sA_eq .., by omega, fun k hk => by omega⟩
theorem h11 {a : Int32} {k : Nat} (h : a = nI k) (h1 : ¬ a < 11) (h2 : ¬ 16 < a) (hk : k < 2147483648) : k = 11 ∨ k = 12 ∨ k = 13 ∨ k = 14 ∨ k = 15 ∨ k = 16 := by
  subst h
  rw [show (11 : Int32) = nI 11 from rfl, nI_ltn (by omega) (by decide)] at h1
  rw [show (16 : Int32) = nI 16 from rfl, nI_ltn (by decide) (by omega)] at h2
  omega
theorem in11 (a : Int32) : (inI a 11 16 = true ∧ a = 11) ∨ (inI a 11 16 = true ∧ a = 12) ∨ (inI a 11 16 = true ∧ a = 13) ∨ (inI a 11 16 = true ∧ a = 14) ∨ (inI a 11 16 = true ∧ a = 15) ∨ (inI a 11 16 = true ∧ a = 16) ∨ (inI a 11 16 = false ∧ (a < 11 ∨ 16 < a)) := by
  rcases in_cases a 11 16 with ⟨e, h1, h2⟩ | ⟨e, h⟩
  · obtain ⟨k, hk, rfl⟩ := i_nat (a := a) (i_le (fun q => h1 (Int32.lt_trans q (by decide))))
    rcases h11 rfl h1 h2 hk with rfl | rfl | rfl | rfl | rfl | rfl
    · exact Or.inl ⟨e, rfl⟩
    · exact Or.inr (Or.inl ⟨e, rfl⟩)
    · exact Or.inr (Or.inr (Or.inl ⟨e, rfl⟩))
    · exact Or.inr (Or.inr (Or.inr (Or.inl ⟨e, rfl⟩)))
    · exact Or.inr (Or.inr (Or.inr (Or.inr (Or.inl ⟨e, rfl⟩))))
    · exact Or.inr (Or.inr (Or.inr (Or.inr (Or.inr (Or.inl ⟨e, rfl⟩)))))
  · exact Or.inr (Or.inr (Or.inr (Or.inr (Or.inr (Or.inr ⟨e, h⟩)))))
set_option maxRecDepth 100000 in
set_option maxHeartbeats 4000000 in
theorem c_X12_feed {S : ZS} {n : Nat} {M : Ms} (hI : MI S M) {a : Int32} : zM m_X12_feed 0 0 [.ref 25, .int a] (zw S n) (qR S n (spFeed M a)) := by
  show Z m_X12_feed _ _ _ 0 [some (.ref _), some (.int _)] [] _
  refine Z_iload_n dX12_feed_0 rfl (pc' := 1) rfl ?_
  refine Z_iconst dX12_feed_1 (v := 0) (by decide) (pc' := 2) rfl ?_
  refine Z_sipush dX12_feed_2 (v := 255) (by decide) (pc' := 5) rfl ?_
  refine Z_cSe dX12_feed_5 rfl zcw_X12_bound (As := [_, _, _]) (rest := []) rfl ⟨Nat.le_of_ble_eq_true rfl, Nat.le_of_ble_eq_true rfl⟩ (Nat.le_of_ble_eq_true rfl) ⟨zcw_X12_bound.2.2.2.2, Nat.le_of_ble_eq_true rfl⟩ zk_RX12_77 c_X12_bound (pc' := 8) rfl ?_
  rcases bo_cases a 0 255 with ⟨e, h1⟩ | ⟨e, h1, h2⟩ | ⟨e, h1, h2⟩
  · rw [e]
    refine Z_istore_n dX12_feed_8 (Nat.le_of_ble_eq_true rfl) (Nat.le_of_ble_eq_true rfl) rfl (ls' := [_, _, _]) rfl (pc' := 9) rfl ?_
    refine Z_iload_n dX12_feed_9 rfl (pc' := 10) rfl ?_
    refine Z_if_ne dX12_feed_10 (tgt := 25) rfl (pc' := 13) rfl (fun c_10 => ?_) (fun c_10 => absurd c_10 (by decide))
    refine Z_iload_n dX12_feed_25 rfl (pc' := 26) rfl ?_
    refine Z_if_eq dX12_feed_26 (tgt := 35) rfl (pc' := 29) rfl (fun c_26 => absurd c_26 (by decide)) (fun c_26 => ?_)
    refine Z_aload_n dX12_feed_29 rfl (z_isref _) (pc' := 30) rfl ?_
    refine Z_iload_n dX12_feed_30 rfl (pc' := 31) rfl ?_
    refine Z_cVe dX12_feed_31 rfl zcw_X12_no (As := [_]) (rest := []) rfl ⟨Nat.le_of_ble_eq_true rfl, Nat.le_of_ble_eq_true rfl⟩ (Nat.le_of_ble_eq_true rfl) (zRcv.lay zob_25) ⟨zcw_X12_no.2.2.2.2, Nat.le_of_ble_eq_true rfl⟩ zk_RX12_85 (c_X12_no (k := 4) (by decide) (by decide)) (pc' := 34) rfl ?_
    exact Z_ireturn dX12_feed_34 rfl rfl (qR.no hI sfr.rf (by decide) (by unfold spFeed; rw [if_pos h1]))
  · rw [e]
    refine Z_istore_n dX12_feed_8 (Nat.le_of_ble_eq_true rfl) (Nat.le_of_ble_eq_true rfl) rfl (ls' := [_, _, _]) rfl (pc' := 9) rfl ?_
    refine Z_iload_n dX12_feed_9 rfl (pc' := 10) rfl ?_
    refine Z_if_ne dX12_feed_10 (tgt := 25) rfl (pc' := 13) rfl (fun c_10 => ?_) (fun c_10 => absurd c_10 (by decide))
    refine Z_iload_n dX12_feed_25 rfl (pc' := 26) rfl ?_
    refine Z_if_eq dX12_feed_26 (tgt := 35) rfl (pc' := 29) rfl (fun c_26 => absurd c_26 (by decide)) (fun c_26 => ?_)
    refine Z_aload_n dX12_feed_29 rfl (z_isref _) (pc' := 30) rfl ?_
    refine Z_iload_n dX12_feed_30 rfl (pc' := 31) rfl ?_
    refine Z_cVe dX12_feed_31 rfl zcw_X12_no (As := [_]) (rest := []) rfl ⟨Nat.le_of_ble_eq_true rfl, Nat.le_of_ble_eq_true rfl⟩ (Nat.le_of_ble_eq_true rfl) (zRcv.lay zob_25) ⟨zcw_X12_no.2.2.2.2, Nat.le_of_ble_eq_true rfl⟩ zk_RX12_85 (c_X12_no (k := 6) (by decide) (by decide)) (pc' := 34) rfl ?_
    exact Z_ireturn dX12_feed_34 rfl rfl (qR.no hI sfr.rf (by decide) (by unfold spFeed; rw [if_neg h1, if_pos (Or.inl h2)]))
  · rw [e]
    have hL := hI.2.2.1.2.1
    refine Z_istore_n dX12_feed_8 (Nat.le_of_ble_eq_true rfl) (Nat.le_of_ble_eq_true rfl) rfl (ls' := [_, _, _]) rfl (pc' := 9) rfl ?_
    refine Z_iload_n dX12_feed_9 rfl (pc' := 10) rfl ?_
    refine Z_if_ne dX12_feed_10 (tgt := 25) rfl (pc' := 13) rfl (fun c_10 => absurd c_10 (fun q => q rfl)) (fun c_10 => ?_)
    refine Z_aload_n dX12_feed_13 rfl (z_isref _) (pc' := 14) rfl ?_
    refine Z_gI dX12_feed_14 rfl zgi_RX12_81_25 (pc' := 17) rfl ?_
    rw [hI.2.2.1.1]
    refine Z_bipush dX12_feed_17 (v := 80) (by decide) (pc' := 19) rfl ?_
    refine Z_icmp_ne dX12_feed_19 (tgt := 25) rfl (pc' := 22) rfl (fun c_19 => ?_) (fun c_19 => ?_)
    · refine Z_iload_n dX12_feed_25 rfl (pc' := 26) rfl ?_
      refine Z_if_eq dX12_feed_26 (tgt := 35) rfl (pc' := 29) rfl (fun c_26 => ?_) (fun c_26 => absurd c_26 (fun q => q rfl))
      have hL8 : mL M < 80 := by
        have : mL M ≠ 80 := fun q => c_19 (by rw [q]; rfl)
        omega
      refine Z_aload_n dX12_feed_35 rfl (z_isref _) (pc' := 36) rfl ?_
      refine Z_gR dX12_feed_36 rfl zgr_RX12_46_25 (pc' := 39) rfl ?_
      refine Z_aload_n dX12_feed_39 rfl (z_isref _) (pc' := 40) rfl ?_
      refine Z_gI dX12_feed_40 rfl zgi_RX12_81_25 (pc' := 43) rfl ?_
      rw [hI.2.2.1.1]
      refine Z_iload_n dX12_feed_43 rfl (pc' := 44) rfl ?_
      refine Z_is dX12_feed_44 zar_38 (zin hL8 (by decide)) (pc' := 45) rfl ?_
      rw [nI_nat (by omega)]
      refine Z_aload_n dX12_feed_45 rfl (z_isref _) (pc' := 46) rfl ?_
      refine Z_dup dX12_feed_46 rfl (pc' := 47) rfl ?_
      refine Z_gI dX12_feed_47 rfl zgi_RX12_81_25 (pc' := 50) rfl ?_
      rw [sA_ne _ _ _ (by decide), hI.2.2.1.1]
      refine Z_iconst dX12_feed_50 (v := 1) (by decide) (pc' := 51) rfl ?_
      refine Z_iadd dX12_feed_51 (pc' := 52) rfl ?_
      rw [show (1 : Int32) = nI 1 from rfl, nI_add]
      refine Z_pI dX12_feed_52 rfl zpi_RX12_81_25 (pc' := 55) rfl ?_
      refine Z_aload_n dX12_feed_55 rfl (z_isref _) (pc' := 56) rfl ?_
      refine Z_gI dX12_feed_56 rfl zgi_RX12_81_25 (pc' := 59) rfl ?_
      rw [sA_eq]
      exact Z_ireturn dX12_feed_59 rfl rfl (qR.mk (M' := wT M (zup (mtx M) (mL M) a) (mL M + 1)) (by unfold spFeed; rw [if_neg h1, if_neg (n_or h2 (by omega))]) ((frm.rf.sA _ _ (by decide) (by decide)).sA _ _ (by decide) (by decide)) (MI_feed hI hL8 a))
    · have hL80 : mL M = 80 := (nI_eqn (by omega) (by decide)).mp (c_19)
      refine Z_bipush dX12_feed_22 (v := (-6)) (by decide) (pc' := 24) rfl ?_
      refine Z_istore_n dX12_feed_24 (Nat.le_of_ble_eq_true rfl) (Nat.le_of_ble_eq_true rfl) rfl (ls' := [_, _, _]) rfl (pc' := 25) rfl ?_
      refine Z_iload_n dX12_feed_25 rfl (pc' := 26) rfl ?_
      refine Z_if_eq dX12_feed_26 (tgt := 35) rfl (pc' := 29) rfl (fun c_26 => absurd c_26 (by decide)) (fun c_26 => ?_)
      refine Z_aload_n dX12_feed_29 rfl (z_isref _) (pc' := 30) rfl ?_
      refine Z_iload_n dX12_feed_30 rfl (pc' := 31) rfl ?_
      refine Z_cVe dX12_feed_31 rfl zcw_X12_no (As := [_]) (rest := []) rfl ⟨Nat.le_of_ble_eq_true rfl, Nat.le_of_ble_eq_true rfl⟩ (Nat.le_of_ble_eq_true rfl) (zRcv.lay zob_25) ⟨zcw_X12_no.2.2.2.2, Nat.le_of_ble_eq_true rfl⟩ zk_RX12_85 (c_X12_no (k := 6) (by decide) (by decide)) (pc' := 34) rfl ?_
      exact Z_ireturn dX12_feed_34 rfl rfl (qR.no hI sfr.rf (by decide) (by unfold spFeed; rw [if_neg h1, if_pos (Or.inr hL80)]))
set_option maxRecDepth 100000 in
set_option maxHeartbeats 4000000 in
theorem c_X12_row {S : ZS} {n : Nat} {M : Ms} (hI : MI S M) {a : Int32} : zM m_X12_row 0 0 [.ref 25, .int a] (zw S n) (qR S n (spRow M a)) := by
  show Z m_X12_row _ _ _ 0 [some (.ref _), some (.int _)] [] _
  refine Z_iload_n dX12_row_0 rfl (pc' := 1) rfl ?_
  refine Z_iconst dX12_row_1 (v := 0) (by decide) (pc' := 2) rfl ?_
  refine Z_bipush dX12_row_2 (v := 48) (by decide) (pc' := 4) rfl ?_
  refine Z_cSe dX12_row_4 rfl zcw_X12_bound (As := [_, _, _]) (rest := []) rfl ⟨Nat.le_of_ble_eq_true rfl, Nat.le_of_ble_eq_true rfl⟩ (Nat.le_of_ble_eq_true rfl) ⟨zcw_X12_bound.2.2.2.2, Nat.le_of_ble_eq_true rfl⟩ zk_RX12_77 c_X12_bound (pc' := 7) rfl ?_
  rcases bo_cases a 0 48 with ⟨e, h1⟩ | ⟨e, h1, h2⟩ | ⟨e, h1, h2⟩
  · rw [e]
    refine Z_istore_n dX12_row_7 (Nat.le_of_ble_eq_true rfl) (Nat.le_of_ble_eq_true rfl) rfl (ls' := [_, _, _]) rfl (pc' := 8) rfl ?_
    refine Z_iload_n dX12_row_8 rfl (pc' := 9) rfl ?_
    refine Z_if_ne dX12_row_9 (tgt := 24) rfl (pc' := 12) rfl (fun c_9 => ?_) (fun c_9 => absurd c_9 (by decide))
    refine Z_iload_n dX12_row_24 rfl (pc' := 25) rfl ?_
    refine Z_if_eq dX12_row_25 (tgt := 34) rfl (pc' := 28) rfl (fun c_25 => absurd c_25 (by decide)) (fun c_25 => ?_)
    refine Z_aload_n dX12_row_28 rfl (z_isref _) (pc' := 29) rfl ?_
    refine Z_iload_n dX12_row_29 rfl (pc' := 30) rfl ?_
    refine Z_cVe dX12_row_30 rfl zcw_X12_no (As := [_]) (rest := []) rfl ⟨Nat.le_of_ble_eq_true rfl, Nat.le_of_ble_eq_true rfl⟩ (Nat.le_of_ble_eq_true rfl) (zRcv.lay zob_25) ⟨zcw_X12_no.2.2.2.2, Nat.le_of_ble_eq_true rfl⟩ zk_RX12_85 (c_X12_no (k := 4) (by decide) (by decide)) (pc' := 33) rfl ?_
    exact Z_ireturn dX12_row_33 rfl rfl (qR.no hI sfr.rf (by decide) (by unfold spRow; rw [if_pos h1]))
  · rw [e]
    refine Z_istore_n dX12_row_7 (Nat.le_of_ble_eq_true rfl) (Nat.le_of_ble_eq_true rfl) rfl (ls' := [_, _, _]) rfl (pc' := 8) rfl ?_
    refine Z_iload_n dX12_row_8 rfl (pc' := 9) rfl ?_
    refine Z_if_ne dX12_row_9 (tgt := 24) rfl (pc' := 12) rfl (fun c_9 => ?_) (fun c_9 => absurd c_9 (by decide))
    refine Z_iload_n dX12_row_24 rfl (pc' := 25) rfl ?_
    refine Z_if_eq dX12_row_25 (tgt := 34) rfl (pc' := 28) rfl (fun c_25 => absurd c_25 (by decide)) (fun c_25 => ?_)
    refine Z_aload_n dX12_row_28 rfl (z_isref _) (pc' := 29) rfl ?_
    refine Z_iload_n dX12_row_29 rfl (pc' := 30) rfl ?_
    refine Z_cVe dX12_row_30 rfl zcw_X12_no (As := [_]) (rest := []) rfl ⟨Nat.le_of_ble_eq_true rfl, Nat.le_of_ble_eq_true rfl⟩ (Nat.le_of_ble_eq_true rfl) (zRcv.lay zob_25) ⟨zcw_X12_no.2.2.2.2, Nat.le_of_ble_eq_true rfl⟩ zk_RX12_85 (c_X12_no (k := 6) (by decide) (by decide)) (pc' := 33) rfl ?_
    exact Z_ireturn dX12_row_33 rfl rfl (qR.no hI sfr.rf (by decide) (by unfold spRow; rw [if_neg h1, if_pos (Or.inl h2)]))
  · rw [e]
    have hL := hI.2.2.2.1.2.1
    refine Z_istore_n dX12_row_7 (Nat.le_of_ble_eq_true rfl) (Nat.le_of_ble_eq_true rfl) rfl (ls' := [_, _, _]) rfl (pc' := 8) rfl ?_
    refine Z_iload_n dX12_row_8 rfl (pc' := 9) rfl ?_
    refine Z_if_ne dX12_row_9 (tgt := 24) rfl (pc' := 12) rfl (fun c_9 => absurd c_9 (fun q => q rfl)) (fun c_9 => ?_)
    refine Z_aload_n dX12_row_12 rfl (z_isref _) (pc' := 13) rfl ?_
    refine Z_gI dX12_row_13 rfl zgi_RX12_234_25 (pc' := 16) rfl ?_
    rw [hI.2.2.2.1.1]
    refine Z_bipush dX12_row_16 (v := 12) (by decide) (pc' := 18) rfl ?_
    refine Z_icmp_ne dX12_row_18 (tgt := 24) rfl (pc' := 21) rfl (fun c_18 => ?_) (fun c_18 => ?_)
    · refine Z_iload_n dX12_row_24 rfl (pc' := 25) rfl ?_
      refine Z_if_eq dX12_row_25 (tgt := 34) rfl (pc' := 28) rfl (fun c_25 => ?_) (fun c_25 => absurd c_25 (fun q => q rfl))
      have hL8 : mrl M < 12 := by
        have : mrl M ≠ 12 := fun q => c_18 (by rw [q]; rfl)
        omega
      obtain ⟨p, hp, rfl⟩ := i_rng (a := a) (m := 48) (by decide) h1 h2
      refine Z_aload_n dX12_row_34 rfl (z_isref _) (pc' := 35) rfl ?_
      refine Z_gR dX12_row_35 rfl zgr_RX12_73_25 (pc' := 38) rfl ?_
      refine Z_aload_n dX12_row_38 rfl (z_isref _) (pc' := 39) rfl ?_
      refine Z_gI dX12_row_39 rfl zgi_RX12_234_25 (pc' := 42) rfl ?_
      rw [hI.2.2.2.1.1]
      refine Z_iload_n dX12_row_42 rfl (pc' := 43) rfl ?_
      refine Z_is dX12_row_43 zar_47 (zin hL8 (by decide)) (pc' := 44) rfl ?_
      rw [nI_nat (by omega)]
      refine Z_aload_n dX12_row_44 rfl (z_isref _) (pc' := 45) rfl ?_
      refine Z_dup dX12_row_45 rfl (pc' := 46) rfl ?_
      refine Z_gI dX12_row_46 rfl zgi_RX12_234_25 (pc' := 49) rfl ?_
      rw [sA_ne _ _ _ (by decide), hI.2.2.2.1.1]
      refine Z_iconst dX12_row_49 (v := 1) (by decide) (pc' := 50) rfl ?_
      refine Z_iadd dX12_row_50 (pc' := 51) rfl ?_
      rw [show (1 : Int32) = nI 1 from rfl, nI_add]
      refine Z_pI dX12_row_51 rfl zpi_RX12_234_25 (pc' := 54) rfl ?_
      refine Z_aload_n dX12_row_54 rfl (z_isref _) (pc' := 55) rfl ?_
      refine Z_gI dX12_row_55 rfl zgi_RX12_234_25 (pc' := 58) rfl ?_
      rw [sA_eq]
      exact Z_ireturn dX12_row_58 rfl rfl (qR.mk (M' := wR M (zup (mrw M) (mrl M) p) (mrl M + 1)) (by unfold spRow; rw [if_neg h1, if_neg (n_or h2 (by omega)), nI_nat (by omega)]) ((frm.rf.sA _ _ (by decide) (by decide)).sA _ _ (by decide) (by decide)) (MI_row1 hI hL8 hp))
    · have hL80 : mrl M = 12 := (nI_eqn (by omega) (by decide)).mp (c_18)
      refine Z_bipush dX12_row_21 (v := (-6)) (by decide) (pc' := 23) rfl ?_
      refine Z_istore_n dX12_row_23 (Nat.le_of_ble_eq_true rfl) (Nat.le_of_ble_eq_true rfl) rfl (ls' := [_, _, _]) rfl (pc' := 24) rfl ?_
      refine Z_iload_n dX12_row_24 rfl (pc' := 25) rfl ?_
      refine Z_if_eq dX12_row_25 (tgt := 34) rfl (pc' := 28) rfl (fun c_25 => absurd c_25 (by decide)) (fun c_25 => ?_)
      refine Z_aload_n dX12_row_28 rfl (z_isref _) (pc' := 29) rfl ?_
      refine Z_iload_n dX12_row_29 rfl (pc' := 30) rfl ?_
      refine Z_cVe dX12_row_30 rfl zcw_X12_no (As := [_]) (rest := []) rfl ⟨Nat.le_of_ble_eq_true rfl, Nat.le_of_ble_eq_true rfl⟩ (Nat.le_of_ble_eq_true rfl) (zRcv.lay zob_25) ⟨zcw_X12_no.2.2.2.2, Nat.le_of_ble_eq_true rfl⟩ zk_RX12_85 (c_X12_no (k := 6) (by decide) (by decide)) (pc' := 33) rfl ?_
      exact Z_ireturn dX12_row_33 rfl rfl (qR.no hI sfr.rf (by decide) (by unfold spRow; rw [if_neg h1, if_pos (Or.inr hL80)]))
set_option maxRecDepth 100000 in
set_option maxHeartbeats 4000000 in
theorem c_X12_stretch {S : ZS} {n : Nat} {M : Ms} (hI : MI S M) {s a : Int32} : zM m_X12_stretch 0 0 [.ref 25, .int s, .int a] (zw S n) (qR S n (spStretch M s a)) := by
  show Z m_X12_stretch _ _ _ 0 [some (.ref _), some (.int _), some (.int _)] [] _
  refine Z_aload_n dX12_stretch_0 rfl (z_isref _) (pc' := 1) rfl ?_
  refine Z_iload_n dX12_stretch_1 rfl (pc' := 2) rfl ?_
  refine Z_cVe dX12_stretch_2 rfl zcw_X12_isStretch (As := [_]) (rest := []) rfl ⟨Nat.le_of_ble_eq_true rfl, Nat.le_of_ble_eq_true rfl⟩ (Nat.le_of_ble_eq_true rfl) (zRcv.lay zob_25) ⟨zcw_X12_isStretch.2.2.2.2, Nat.le_of_ble_eq_true rfl⟩ zk_RX12_160 (c_X12_isStretch hI.mv hI.ok) (pc' := 5) rfl ?_
  rcases idx_cases s (N := cns (mc M)) (by have := hI.ok.1; have := hI.ok.2.1; have := hI.ok.2.2.1; omega) with ⟨k, hk, rfl, e1⟩ | ⟨h, e1⟩
  · rw [e1]
    have h8 := hI.ok.1
    refine Z_if_ne dX12_stretch_5 (tgt := 14) rfl (pc' := 8) rfl (fun c_5 => ?_) (fun c_5 => absurd c_5 (zb_st))
    refine Z_iload_n dX12_stretch_14 rfl (pc' := 15) rfl ?_
    refine Z_topi (fun x_15 e_15 => ?_)
    by_cases k_15_0 : x_15 = 0
    · subst k_15_0
      subst e_15
      refine Z_tableIn dX12_stretch_15 (by decide) (by decide) (off := 37) rfl (tgt := 52) rfl ?_
      refine Z_aload_n dX12_stretch_52 rfl (z_isref _) (pc' := 53) rfl ?_
      refine Z_gR dX12_stretch_53 rfl zgr_RX12_13_25 (pc' := 56) rfl ?_
      refine Z_iload_n dX12_stretch_56 rfl (pc' := 57) rfl ?_
      refine Z_il dX12_stretch_57 zar_27 (zin (by omega) (by decide)) (pc' := 58) rfl ?_
      rw [nI_nat (by omega), (hI.mv.2.1 k hk).1]
      exact Z_ireturn dX12_stretch_58 rfl rfl (qR.st hI sfr.rf (by unfold spStretch; rw [e1]; rfl))
    by_cases k_15_1 : x_15 = 1
    · subst k_15_1
      subst e_15
      refine Z_tableIn dX12_stretch_15 (by decide) (by decide) (off := 44) rfl (tgt := 59) rfl ?_
      refine Z_aload_n dX12_stretch_59 rfl (z_isref _) (pc' := 60) rfl ?_
      refine Z_gR dX12_stretch_60 rfl zgr_RX12_16_25 (pc' := 63) rfl ?_
      refine Z_iload_n dX12_stretch_63 rfl (pc' := 64) rfl ?_
      refine Z_il dX12_stretch_64 zar_28 (zin (by omega) (by decide)) (pc' := 65) rfl ?_
      rw [nI_nat (by omega), (hI.mv.2.1 k hk).2.1]
      exact Z_ireturn dX12_stretch_65 rfl rfl (qR.st hI sfr.rf (by unfold spStretch; rw [e1]; rfl))
    by_cases k_15_2 : x_15 = 2
    · subst k_15_2
      subst e_15
      refine Z_tableIn dX12_stretch_15 (by decide) (by decide) (off := 51) rfl (tgt := 66) rfl ?_
      refine Z_aload_n dX12_stretch_66 rfl (z_isref _) (pc' := 67) rfl ?_
      refine Z_gR dX12_stretch_67 rfl zgr_RX12_22_25 (pc' := 70) rfl ?_
      refine Z_iload_n dX12_stretch_70 rfl (pc' := 71) rfl ?_
      refine Z_il dX12_stretch_71 zar_30 (zin (by omega) (by decide)) (pc' := 72) rfl ?_
      rw [nI_nat (by omega), (hI.mv.2.1 k hk).2.2.2]
      exact Z_ireturn dX12_stretch_72 rfl rfl (qR.st hI sfr.rf (by unfold spStretch; rw [e1]; rfl))
    by_cases k_15_3 : x_15 = 3
    · subst k_15_3
      subst e_15
      refine Z_tableIn dX12_stretch_15 (by decide) (by decide) (off := 58) rfl (tgt := 73) rfl ?_
      refine Z_aload_n dX12_stretch_73 rfl (z_isref _) (pc' := 74) rfl ?_
      refine Z_gR dX12_stretch_74 rfl zgr_RX12_19_25 (pc' := 77) rfl ?_
      refine Z_iload_n dX12_stretch_77 rfl (pc' := 78) rfl ?_
      refine Z_il dX12_stretch_78 zar_29 (zin (by omega) (by decide)) (pc' := 79) rfl ?_
      rw [nI_nat (by omega), (hI.mv.2.1 k hk).2.2.1]
      exact Z_ireturn dX12_stretch_79 rfl rfl (qR.st hI sfr.rf (by unfold spStretch; rw [e1]; rfl))
    by_cases k_15_4 : x_15 = 4
    · subst k_15_4
      subst e_15
      refine Z_tableIn dX12_stretch_15 (by decide) (by decide) (off := 65) rfl (tgt := 80) rfl ?_
      refine Z_aload_n dX12_stretch_80 rfl (z_isref _) (pc' := 81) rfl ?_
      refine Z_iload_n dX12_stretch_81 rfl (pc' := 82) rfl ?_
      refine Z_cVe dX12_stretch_82 rfl zcw_X12_isDry (As := [_]) (rest := []) rfl ⟨Nat.le_of_ble_eq_true rfl, Nat.le_of_ble_eq_true rfl⟩ (Nat.le_of_ble_eq_true rfl) (zRcv.lay zob_25) ⟨zcw_X12_isDry.2.2.2.2, Nat.le_of_ble_eq_true rfl⟩ zk_RX12_163 (c_X12_isDry hI.mv hI.ok hk) (pc' := 85) rfl ?_
      refine Z_if_eq dX12_stretch_85 (tgt := 92) rfl (pc' := 88) rfl (fun c_85 => ?_) (fun c_85 => ?_)
      · refine Z_iconst dX12_stretch_92 (v := 0) (by decide) (pc' := 93) rfl ?_
        exact Z_ireturn dX12_stretch_93 rfl rfl (qR.st hI sfr.rf (by unfold spStretch; rw [e1]; show (zb (dryS (mc M) (ctd (mc M)) k), M) = _; rw [c_85]))
      · refine Z_iconst dX12_stretch_88 (v := 1) (by decide) (pc' := 89) rfl ?_
        refine Z_goto dX12_stretch_89 (tgt := 93) rfl ?_
        exact Z_ireturn dX12_stretch_93 rfl rfl (qR.st hI sfr.rf (by unfold spStretch; rw [e1]; show (zb (dryS (mc M) (ctd (mc M)) k), M) = _; rw [zb_1 c_85]))
    by_cases k_15_5 : x_15 = 5
    · subst k_15_5
      subst e_15
      refine Z_tableIn dX12_stretch_15 (by decide) (by decide) (off := 79) rfl (tgt := 94) rfl ?_
      refine Z_aload_n dX12_stretch_94 rfl (z_isref _) (pc' := 95) rfl ?_
      refine Z_iload_n dX12_stretch_95 rfl (pc' := 96) rfl ?_
      refine Z_cVe dX12_stretch_96 rfl zcw_X12_feeOf (As := [_]) (rest := []) rfl ⟨Nat.le_of_ble_eq_true rfl, Nat.le_of_ble_eq_true rfl⟩ (Nat.le_of_ble_eq_true rfl) (zRcv.lay zob_25) ⟨zcw_X12_feeOf.2.2.2.2, Nat.le_of_ble_eq_true rfl⟩ zk_RX12_166 (c_X12_feeOf hI.mv hI.ok hk) (pc' := 99) rfl ?_
      exact Z_ireturn dX12_stretch_99 rfl rfl (qR.st hI sfr.rf (by unfold spStretch; rw [e1]; rfl))
    refine Z_tableOut dX12_stretch_15 (by have h0 := i32_nev k_15_0 (v := 0) (by decide); have h1 := i32_nev k_15_1 (v := 1) (by decide); have h2 := i32_nev k_15_2 (v := 2) (by decide); have h3 := i32_nev k_15_3 (v := 3) (by decide); have h4 := i32_nev k_15_4 (v := 4) (by decide); have h5 := i32_nev k_15_5 (v := 5) (by decide); omega) (tgt := 100) rfl ?_
    subst e_15
    refine Z_aload_n dX12_stretch_100 rfl (z_isref _) (pc' := 101) rfl ?_
    refine Z_bipush dX12_stretch_101 (v := (-2)) (by decide) (pc' := 103) rfl ?_
    refine Z_cVe dX12_stretch_103 rfl zcw_X12_no (As := [_]) (rest := []) rfl ⟨Nat.le_of_ble_eq_true rfl, Nat.le_of_ble_eq_true rfl⟩ (Nat.le_of_ble_eq_true rfl) (zRcv.lay zob_25) ⟨zcw_X12_no.2.2.2.2, Nat.le_of_ble_eq_true rfl⟩ zk_RX12_85 (c_X12_no (k := 2) (by decide) (by decide)) (pc' := 106) rfl ?_
    exact Z_ireturn dX12_stretch_106 rfl rfl (qR.no hI sfr.rf (by decide) (by unfold spStretch; rw [e1]; simp only []; rw [if_neg k_15_0, if_neg k_15_1, if_neg k_15_2, if_neg k_15_3, if_neg k_15_4, if_neg k_15_5]))
  · rw [e1]
    refine Z_if_ne dX12_stretch_5 (tgt := 14) rfl (pc' := 8) rfl (fun c_5 => absurd c_5 (fun q => q rfl)) (fun c_5 => ?_)
    refine Z_aload_n dX12_stretch_8 rfl (z_isref _) (pc' := 9) rfl ?_
    refine Z_iconst dX12_stretch_9 (v := (-1)) (by decide) (pc' := 10) rfl ?_
    refine Z_cVe dX12_stretch_10 rfl zcw_X12_no (As := [_]) (rest := []) rfl ⟨Nat.le_of_ble_eq_true rfl, Nat.le_of_ble_eq_true rfl⟩ (Nat.le_of_ble_eq_true rfl) (zRcv.lay zob_25) ⟨zcw_X12_no.2.2.2.2, Nat.le_of_ble_eq_true rfl⟩ zk_RX12_85 (c_X12_no (k := 1) (by decide) (by decide)) (pc' := 13) rfl ?_
    exact Z_ireturn dX12_stretch_13 rfl rfl (qR.no hI sfr.rf (by decide) (by unfold spStretch; rw [e1]))
set_option maxRecDepth 100000 in
set_option maxHeartbeats 4000000 in
theorem c_X12_point {S : ZS} {n : Nat} {M : Ms} (hI : MI S M) {s a : Int32} : zM m_X12_point 0 0 [.ref 25, .int s, .int a] (zw S n) (qR S n (spPoint M s a)) := by
  show Z m_X12_point _ _ _ 0 [some (.ref _), some (.int _), some (.int _)] [] _
  refine Z_aload_n dX12_point_0 rfl (z_isref _) (pc' := 1) rfl ?_
  refine Z_iload_n dX12_point_1 rfl (pc' := 2) rfl ?_
  refine Z_cVe dX12_point_2 rfl zcw_X12_isPlace (As := [_]) (rest := []) rfl ⟨Nat.le_of_ble_eq_true rfl, Nat.le_of_ble_eq_true rfl⟩ (Nat.le_of_ble_eq_true rfl) (zRcv.lay zob_25) ⟨zcw_X12_isPlace.2.2.2.2, Nat.le_of_ble_eq_true rfl⟩ zk_RX12_169 (c_X12_isPlace hI.mv hI.ok) (pc' := 5) rfl ?_
  have h48 := hI.ok.2.1
  rw [hpI_idx (by omega)]
  rcases idx_cases s (N := cny (mc M) + 1) (by have := hI.ok.1; have := hI.ok.2.1; have := hI.ok.2.2.1; omega) with ⟨k, hk, rfl, e1⟩ | ⟨h, e1⟩
  · rw [e1]
    refine Z_if_ne dX12_point_5 (tgt := 14) rfl (pc' := 8) rfl (fun c_5 => ?_) (fun c_5 => absurd c_5 (zb_st))
    refine Z_iload_n dX12_point_14 rfl (pc' := 15) rfl ?_
    refine Z_iconst dX12_point_15 (v := 0) (by decide) (pc' := 16) rfl ?_
    refine Z_iconst dX12_point_16 (v := 1) (by decide) (pc' := 17) rfl ?_
    refine Z_cSe dX12_point_17 rfl zcw_X12_isIn (As := [_, _, _]) (rest := []) rfl ⟨Nat.le_of_ble_eq_true rfl, Nat.le_of_ble_eq_true rfl⟩ (Nat.le_of_ble_eq_true rfl) ⟨zcw_X12_isIn.2.2.2.2, Nat.le_of_ble_eq_true rfl⟩ zk_RX12_96 c_X12_isIn (pc' := 20) rfl ?_
    rcases in01 a with ⟨e2, h2⟩ | ⟨e2, h2⟩ | ⟨e2, h3, h4, h5⟩
    · rw [e2]
      subst h2
      refine Z_if_ne dX12_point_20 (tgt := 30) rfl (pc' := 23) rfl (fun c_20 => ?_) (fun c_20 => absurd c_20 (by decide))
      refine Z_iload_n dX12_point_30 rfl (pc' := 31) rfl ?_
      refine Z_if_ne dX12_point_31 (tgt := 43) rfl (pc' := 34) rfl (fun c_31 => absurd c_31 (fun q => q rfl)) (fun c_31 => ?_)
      refine Z_aload_n dX12_point_34 rfl (z_isref _) (pc' := 35) rfl ?_
      refine Z_gR dX12_point_35 rfl zgr_RX12_25_25 (pc' := 38) rfl ?_
      refine Z_iload_n dX12_point_38 rfl (pc' := 39) rfl ?_
      refine Z_il dX12_point_39 zar_31 (zin (by omega) (by decide)) (pc' := 40) rfl ?_
      rw [nI_nat (by omega), (hI.mv.2.2.1 k (by omega)).1]
      refine Z_goto dX12_point_40 (tgt := 49) rfl ?_
      exact Z_ireturn dX12_point_49 rfl rfl (qR.st hI sfr.rf (by unfold spPoint; rw [e1]; rfl))
    · rw [e2]
      subst h2
      refine Z_if_ne dX12_point_20 (tgt := 30) rfl (pc' := 23) rfl (fun c_20 => ?_) (fun c_20 => absurd c_20 (by decide))
      refine Z_iload_n dX12_point_30 rfl (pc' := 31) rfl ?_
      refine Z_if_ne dX12_point_31 (tgt := 43) rfl (pc' := 34) rfl (fun c_31 => ?_) (fun c_31 => absurd c_31 (by decide))
      refine Z_aload_n dX12_point_43 rfl (z_isref _) (pc' := 44) rfl ?_
      refine Z_gR dX12_point_44 rfl zgr_RX12_28_25 (pc' := 47) rfl ?_
      refine Z_iload_n dX12_point_47 rfl (pc' := 48) rfl ?_
      refine Z_il dX12_point_48 zar_32 (zin (by omega) (by decide)) (pc' := 49) rfl ?_
      rw [nI_nat (by omega), (hI.mv.2.2.1 k (by omega)).2]
      exact Z_ireturn dX12_point_49 rfl rfl (qR.st hI sfr.rf (by unfold spPoint; rw [e1]; rfl))
    · rw [e2]
      refine Z_if_ne dX12_point_20 (tgt := 30) rfl (pc' := 23) rfl (fun c_20 => absurd c_20 (fun q => q rfl)) (fun c_20 => ?_)
      refine Z_aload_n dX12_point_23 rfl (z_isref _) (pc' := 24) rfl ?_
      refine Z_bipush dX12_point_24 (v := (-2)) (by decide) (pc' := 26) rfl ?_
      refine Z_cVe dX12_point_26 rfl zcw_X12_lower (As := [_]) (rest := []) rfl ⟨Nat.le_of_ble_eq_true rfl, Nat.le_of_ble_eq_true rfl⟩ (Nat.le_of_ble_eq_true rfl) (zRcv.lay zob_25) ⟨zcw_X12_lower.2.2.2.2, Nat.le_of_ble_eq_true rfl⟩ zk_RX12_172 (c_X12_lower (k := 2) (by decide) (by decide)) (pc' := 29) rfl ?_
      rw [show (1000000000 : Int32) - (-2) = 1000000002 from by decide]
      exact Z_ireturn dX12_point_29 rfl rfl (qR.no (v := 1000000002) hI sfr.rf (by decide) (by unfold spPoint; rw [e1]; simp only []; rw [if_neg h4, if_neg h5]; rfl))
  · rw [e1]
    refine Z_if_ne dX12_point_5 (tgt := 14) rfl (pc' := 8) rfl (fun c_5 => absurd c_5 (fun q => q rfl)) (fun c_5 => ?_)
    refine Z_aload_n dX12_point_8 rfl (z_isref _) (pc' := 9) rfl ?_
    refine Z_iconst dX12_point_9 (v := (-1)) (by decide) (pc' := 10) rfl ?_
    refine Z_cVe dX12_point_10 rfl zcw_X12_lower (As := [_]) (rest := []) rfl ⟨Nat.le_of_ble_eq_true rfl, Nat.le_of_ble_eq_true rfl⟩ (Nat.le_of_ble_eq_true rfl) (zRcv.lay zob_25) ⟨zcw_X12_lower.2.2.2.2, Nat.le_of_ble_eq_true rfl⟩ zk_RX12_172 (c_X12_lower (k := 1) (by decide) (by decide)) (pc' := 13) rfl ?_
    rw [show (1000000000 : Int32) - (-1) = 1000000001 from by decide]
    exact Z_ireturn dX12_point_13 rfl rfl (qR.no (v := 1000000001) hI sfr.rf (by decide) (by unfold spPoint; rw [e1]; rfl))
set_option maxRecDepth 100000 in
set_option maxHeartbeats 4000000 in
theorem c_X12_tide {S : ZS} {n : Nat} {M : Ms} (hI : MI S M) {a : Int32} : zM m_X12_tide 0 0 [.ref 25, .int a] (zw S n) (qR S n (spTide M a)) := by
  show Z m_X12_tide _ _ _ 0 [some (.ref _), some (.int _)] [] _
  refine Z_iload_n dX12_tide_0 rfl (pc' := 1) rfl ?_
  refine Z_iconst dX12_tide_1 (v := 0) (by decide) (pc' := 2) rfl ?_
  refine Z_bipush dX12_tide_2 (v := 9) (by decide) (pc' := 4) rfl ?_
  refine Z_cSe dX12_tide_4 rfl zcw_X12_bound (As := [_, _, _]) (rest := []) rfl ⟨Nat.le_of_ble_eq_true rfl, Nat.le_of_ble_eq_true rfl⟩ (Nat.le_of_ble_eq_true rfl) ⟨zcw_X12_bound.2.2.2.2, Nat.le_of_ble_eq_true rfl⟩ zk_RX12_77 c_X12_bound (pc' := 7) rfl ?_
  rcases bo_cases a 0 9 with ⟨e, h1⟩ | ⟨e, h1, h2⟩ | ⟨e, h1, h2⟩
  · rw [e]
    refine Z_istore_n dX12_tide_7 (Nat.le_of_ble_eq_true rfl) (Nat.le_of_ble_eq_true rfl) rfl (ls' := [_, _, _]) rfl (pc' := 8) rfl ?_
    refine Z_iload_n dX12_tide_8 rfl (pc' := 9) rfl ?_
    refine Z_if_eq dX12_tide_9 (tgt := 18) rfl (pc' := 12) rfl (fun c_9 => absurd c_9 (by decide)) (fun c_9 => ?_)
    refine Z_aload_n dX12_tide_12 rfl (z_isref _) (pc' := 13) rfl ?_
    refine Z_iload_n dX12_tide_13 rfl (pc' := 14) rfl ?_
    refine Z_cVe dX12_tide_14 rfl zcw_X12_no (As := [_]) (rest := []) rfl ⟨Nat.le_of_ble_eq_true rfl, Nat.le_of_ble_eq_true rfl⟩ (Nat.le_of_ble_eq_true rfl) (zRcv.lay zob_25) ⟨zcw_X12_no.2.2.2.2, Nat.le_of_ble_eq_true rfl⟩ zk_RX12_85 (c_X12_no (k := 4) (by decide) (by decide)) (pc' := 17) rfl ?_
    exact Z_ireturn dX12_tide_17 rfl rfl (qR.no hI sfr.rf (by decide) (by unfold spTide; rw [if_pos h1]))
  · rw [e]
    refine Z_istore_n dX12_tide_7 (Nat.le_of_ble_eq_true rfl) (Nat.le_of_ble_eq_true rfl) rfl (ls' := [_, _, _]) rfl (pc' := 8) rfl ?_
    refine Z_iload_n dX12_tide_8 rfl (pc' := 9) rfl ?_
    refine Z_if_eq dX12_tide_9 (tgt := 18) rfl (pc' := 12) rfl (fun c_9 => absurd c_9 (by decide)) (fun c_9 => ?_)
    refine Z_aload_n dX12_tide_12 rfl (z_isref _) (pc' := 13) rfl ?_
    refine Z_iload_n dX12_tide_13 rfl (pc' := 14) rfl ?_
    refine Z_cVe dX12_tide_14 rfl zcw_X12_no (As := [_]) (rest := []) rfl ⟨Nat.le_of_ble_eq_true rfl, Nat.le_of_ble_eq_true rfl⟩ (Nat.le_of_ble_eq_true rfl) (zRcv.lay zob_25) ⟨zcw_X12_no.2.2.2.2, Nat.le_of_ble_eq_true rfl⟩ zk_RX12_85 (c_X12_no (k := 6) (by decide) (by decide)) (pc' := 17) rfl ?_
    exact Z_ireturn dX12_tide_17 rfl rfl (qR.no hI sfr.rf (by decide) (by unfold spTide; rw [if_neg h1, if_pos h2]))
  · rw [e]
    obtain ⟨t, ht, rfl⟩ := i_rng (a := a) (m := 9) (by decide) h1 h2
    refine Z_istore_n dX12_tide_7 (Nat.le_of_ble_eq_true rfl) (Nat.le_of_ble_eq_true rfl) rfl (ls' := [_, _, _]) rfl (pc' := 8) rfl ?_
    refine Z_iload_n dX12_tide_8 rfl (pc' := 9) rfl ?_
    refine Z_if_eq dX12_tide_9 (tgt := 18) rfl (pc' := 12) rfl (fun c_9 => ?_) (fun c_9 => absurd c_9 (fun q => q rfl))
    refine Z_aload_n dX12_tide_18 rfl (z_isref _) (pc' := 19) rfl ?_
    refine Z_gI dX12_tide_19 rfl zgi_RX12_129_25 (pc' := 22) rfl ?_
    rw [hI.mv.1.2.2.2]
    refine Z_istore_n dX12_tide_22 (Nat.le_of_ble_eq_true rfl) (Nat.le_of_ble_eq_true rfl) rfl (ls' := [_, _, _, _]) rfl (pc' := 23) rfl ?_
    refine Z_aload_n dX12_tide_23 rfl (z_isref _) (pc' := 24) rfl ?_
    refine Z_iload_n dX12_tide_24 rfl (pc' := 25) rfl ?_
    refine Z_pI dX12_tide_25 rfl zpi_RX12_129_25 (pc' := 28) rfl ?_
    refine Z_iload_n dX12_tide_28 rfl (pc' := 29) rfl ?_
    exact Z_ireturn dX12_tide_29 rfl rfl (qR.mk (M' := wC M (setTd (mc M) t)) (by unfold spTide; rw [if_neg h1, if_neg h2, nI_nat (by omega)]) (frm.rf.sA _ _ (by decide) (by decide)) (MI_td hI ht))
set_option maxRecDepth 100000 in
set_option maxHeartbeats 4000000 in
theorem c_X12_shore {S : ZS} {n : Nat} {M : Ms} (hI : MI S M) {s : Int32} : zM m_X12_shore 0 0 [.ref 25, .int s] (zw S n) (qR S n (spShore M s)) := by
  show Z m_X12_shore _ _ _ 0 [some (.ref _), some (.int _)] [] _
  refine Z_aload_n dX12_shore_0 rfl (z_isref _) (pc' := 1) rfl ?_
  refine Z_iload_n dX12_shore_1 rfl (pc' := 2) rfl ?_
  refine Z_cVe dX12_shore_2 rfl zcw_X12_isPlace (As := [_]) (rest := []) rfl ⟨Nat.le_of_ble_eq_true rfl, Nat.le_of_ble_eq_true rfl⟩ (Nat.le_of_ble_eq_true rfl) (zRcv.lay zob_25) ⟨zcw_X12_isPlace.2.2.2.2, Nat.le_of_ble_eq_true rfl⟩ zk_RX12_169 (c_X12_isPlace hI.mv hI.ok) (pc' := 5) rfl ?_
  have h48 := hI.ok.2.1
  rw [hpI_idx (by omega)]
  rcases idx_cases s (N := cny (mc M) + 1) (by have := hI.ok.1; have := hI.ok.2.1; have := hI.ok.2.2.1; omega) with ⟨k, hk, rfl, e1⟩ | ⟨h, e1⟩
  · rw [e1]
    refine Z_if_ne dX12_shore_5 (tgt := 16) rfl (pc' := 8) rfl (fun c_5 => ?_) (fun c_5 => absurd c_5 (zb_st))
    refine Z_iload_n dX12_shore_16 rfl (pc' := 17) rfl ?_
    refine Z_if_eq dX12_shore_17 (tgt := 33) rfl (pc' := 20) rfl (fun c_17 => ?_) (fun c_17 => ?_)
    · refine Z_iconst dX12_shore_33 (v := 1) (by decide) (pc' := 34) rfl ?_
      refine Z_goto dX12_shore_34 (tgt := 38) rfl ?_
      exact Z_ireturn dX12_shore_38 rfl rfl (qR.st hI sfr.rf (by have h0 := (nI_eqn (b := 0) (by omega) (by decide)).mp c_17; subst h0; unfold spShore; rw [e1]; rfl))
    · have h0 : k ≠ 0 := fun q => c_17 (by rw [q]; rfl)
      have hso := hI.ok.2.2.2.2.2.1 k (by omega) (by omega)
      have e3 : mcf M k = dryS (mc M) (ctd (mc M)) (cso (mc M) k) := by
        unfold mcf shS
        rw [decide_eq_false h0, decide_eq_true (show k ≤ cny (mc M) by omega)]; rfl
      refine Z_aload_n dX12_shore_20 rfl (z_isref _) (pc' := 21) rfl ?_
      refine Z_aload_n dX12_shore_21 rfl (z_isref _) (pc' := 22) rfl ?_
      refine Z_gR dX12_shore_22 rfl zgr_RX12_31_25 (pc' := 25) rfl ?_
      refine Z_iload_n dX12_shore_25 rfl (pc' := 26) rfl ?_
      refine Z_il dX12_shore_26 zar_33 (zin (by omega) (by decide)) (pc' := 27) rfl ?_
      rw [nI_nat (by omega), hI.mv.2.2.2.1 k (by omega) (by omega)]
      refine Z_cVe dX12_shore_27 rfl zcw_X12_isDry (As := [_]) (rest := []) rfl ⟨Nat.le_of_ble_eq_true rfl, Nat.le_of_ble_eq_true rfl⟩ (Nat.le_of_ble_eq_true rfl) (zRcv.lay zob_25) ⟨zcw_X12_isDry.2.2.2.2, Nat.le_of_ble_eq_true rfl⟩ zk_RX12_163 (c_X12_isDry hI.mv hI.ok hso) (pc' := 30) rfl ?_
      refine Z_if_eq dX12_shore_30 (tgt := 37) rfl (pc' := 33) rfl (fun c_30 => ?_) (fun c_30 => ?_)
      · refine Z_iconst dX12_shore_37 (v := 0) (by decide) (pc' := 38) rfl ?_
        exact Z_ireturn dX12_shore_38 rfl rfl (qR.st hI sfr.rf (by unfold spShore; rw [e1]; simp only []; rw [e3, c_30]))
      · refine Z_iconst dX12_shore_33 (v := 1) (by decide) (pc' := 34) rfl ?_
        refine Z_goto dX12_shore_34 (tgt := 38) rfl ?_
        exact Z_ireturn dX12_shore_38 rfl rfl (qR.st hI sfr.rf (by unfold spShore; rw [e1]; simp only []; rw [e3, zb_1 c_30]))
  · rw [e1]
    refine Z_if_ne dX12_shore_5 (tgt := 16) rfl (pc' := 8) rfl (fun c_5 => absurd c_5 (fun q => q rfl)) (fun c_5 => ?_)
    refine Z_aload_n dX12_shore_8 rfl (z_isref _) (pc' := 9) rfl ?_
    refine Z_iconst dX12_shore_9 (v := (-1)) (by decide) (pc' := 10) rfl ?_
    refine Z_cVe dX12_shore_10 rfl zcw_X12_no (As := [_]) (rest := []) rfl ⟨Nat.le_of_ble_eq_true rfl, Nat.le_of_ble_eq_true rfl⟩ (Nat.le_of_ble_eq_true rfl) (zRcv.lay zob_25) ⟨zcw_X12_no.2.2.2.2, Nat.le_of_ble_eq_true rfl⟩ zk_RX12_85 (c_X12_no (k := 1) (by decide) (by decide)) (pc' := 13) rfl ?_
    refine Z_goto dX12_shore_13 (tgt := 38) rfl ?_
    exact Z_ireturn dX12_shore_38 rfl rfl (qR.no hI sfr.rf (by decide) (by unfold spShore; rw [e1]))
set_option maxRecDepth 100000 in
set_option maxHeartbeats 4000000 in
theorem c_X12_rock {S : ZS} {n : Nat} {M : Ms} (hI : MI S M) {s a : Int32} : zM m_X12_rock 0 0 [.ref 25, .int s, .int a] (zw S n) (qR S n (spRock M s a)) := by
  show Z m_X12_rock _ _ _ 0 [some (.ref _), some (.int _), some (.int _)] [] _
  refine Z_iload_n dX12_rock_0 rfl (pc' := 1) rfl ?_
  refine Z_iconst dX12_rock_1 (v := 0) (by decide) (pc' := 2) rfl ?_
  refine Z_aload_n dX12_rock_2 rfl (z_isref _) (pc' := 3) rfl ?_
  refine Z_gI dX12_rock_3 rfl zgi_RX12_120_25 (pc' := 6) rfl ?_
  rw [hI.mv.1.2.2.1]
  refine Z_iconst dX12_rock_6 (v := 1) (by decide) (pc' := 7) rfl ?_
  refine Z_isub dX12_rock_7 (pc' := 8) rfl ?_
  refine Z_cSe dX12_rock_8 rfl zcw_X12_isIn (As := [_, _, _]) (rest := []) rfl ⟨Nat.le_of_ble_eq_true rfl, Nat.le_of_ble_eq_true rfl⟩ (Nat.le_of_ble_eq_true rfl) ⟨zcw_X12_isIn.2.2.2.2, Nat.le_of_ble_eq_true rfl⟩ zk_RX12_96 c_X12_isIn (pc' := 11) rfl ?_
  rw [rk_in s hI.ok.2.2.1]
  rcases idx_cases s (N := cnr (mc M)) (by have := hI.ok.1; have := hI.ok.2.1; have := hI.ok.2.2.1; omega) with ⟨k, hk, rfl, e1⟩ | ⟨h, e1⟩
  · rw [e1]
    have h6 := hI.ok.2.2.1
    have h9 := hI.ok.2.2.2.1
    refine Z_if_ne dX12_rock_11 (tgt := 20) rfl (pc' := 14) rfl (fun c_11 => ?_) (fun c_11 => absurd c_11 (zb_st))
    refine Z_iload_n dX12_rock_20 rfl (pc' := 21) rfl ?_
    refine Z_topi (fun x_21 e_21 => ?_)
    by_cases k_21_0 : x_21 = 0
    · subst k_21_0
      subst e_21
      refine Z_tableIn dX12_rock_21 (by decide) (by decide) (off := 35) rfl (tgt := 56) rfl ?_
      refine Z_aload_n dX12_rock_56 rfl (z_isref _) (pc' := 57) rfl ?_
      refine Z_gR dX12_rock_57 rfl zgr_RX12_34_25 (pc' := 60) rfl ?_
      refine Z_iload_n dX12_rock_60 rfl (pc' := 61) rfl ?_
      refine Z_il dX12_rock_61 zar_34 (zin (by omega) (by decide)) (pc' := 62) rfl ?_
      rw [nI_nat (by omega), (hI.mv.2.2.2.2 k hk).1]
      exact Z_ireturn dX12_rock_62 rfl rfl (qR.st hI sfr.rf (by unfold spRock; rw [e1]; rfl))
    by_cases k_21_1 : x_21 = 1
    · subst k_21_1
      subst e_21
      refine Z_tableIn dX12_rock_21 (by decide) (by decide) (off := 42) rfl (tgt := 63) rfl ?_
      refine Z_aload_n dX12_rock_63 rfl (z_isref _) (pc' := 64) rfl ?_
      refine Z_gR dX12_rock_64 rfl zgr_RX12_37_25 (pc' := 67) rfl ?_
      refine Z_iload_n dX12_rock_67 rfl (pc' := 68) rfl ?_
      refine Z_il dX12_rock_68 zar_35 (zin (by omega) (by decide)) (pc' := 69) rfl ?_
      rw [nI_nat (by omega), (hI.mv.2.2.2.2 k hk).2.1]
      exact Z_ireturn dX12_rock_69 rfl rfl (qR.st hI sfr.rf (by unfold spRock; rw [e1]; rfl))
    by_cases k_21_2 : x_21 = 2
    · subst k_21_2
      subst e_21
      refine Z_tableIn dX12_rock_21 (by decide) (by decide) (off := 49) rfl (tgt := 70) rfl ?_
      refine Z_aload_n dX12_rock_70 rfl (z_isref _) (pc' := 71) rfl ?_
      refine Z_gR dX12_rock_71 rfl zgr_RX12_40_25 (pc' := 74) rfl ?_
      refine Z_iload_n dX12_rock_74 rfl (pc' := 75) rfl ?_
      refine Z_il dX12_rock_75 zar_36 (zin (by omega) (by decide)) (pc' := 76) rfl ?_
      rw [nI_nat (by omega), (hI.mv.2.2.2.2 k hk).2.2.1]
      exact Z_ireturn dX12_rock_76 rfl rfl (qR.st hI sfr.rf (by unfold spRock; rw [e1]; rfl))
    by_cases k_21_3 : x_21 = 3
    · subst k_21_3
      subst e_21
      refine Z_tableIn dX12_rock_21 (by decide) (by decide) (off := 56) rfl (tgt := 77) rfl ?_
      refine Z_aload_n dX12_rock_77 rfl (z_isref _) (pc' := 78) rfl ?_
      refine Z_gR dX12_rock_78 rfl zgr_RX12_43_25 (pc' := 81) rfl ?_
      refine Z_iload_n dX12_rock_81 rfl (pc' := 82) rfl ?_
      refine Z_il dX12_rock_82 zar_37 (zin (by omega) (by decide)) (pc' := 83) rfl ?_
      rw [nI_nat (by omega), (hI.mv.2.2.2.2 k hk).2.2.2]
      exact Z_ireturn dX12_rock_83 rfl rfl (qR.st hI sfr.rf (by unfold spRock; rw [e1]; rfl))
    by_cases k_21_4 : x_21 = 4
    · subst k_21_4
      subst e_21
      refine Z_tableIn dX12_rock_21 (by decide) (by decide) (off := 63) rfl (tgt := 84) rfl ?_
      refine Z_aload_n dX12_rock_84 rfl (z_isref _) (pc' := 85) rfl ?_
      refine Z_iload_n dX12_rock_85 rfl (pc' := 86) rfl ?_
      refine Z_aload_n dX12_rock_86 rfl (z_isref _) (pc' := 87) rfl ?_
      refine Z_gI dX12_rock_87 rfl zgi_RX12_129_25 (pc' := 90) rfl ?_
      rw [hI.mv.1.2.2.2]
      refine Z_cVe dX12_rock_90 rfl zcw_X12_isIsland (As := [_, _]) (rest := []) rfl ⟨Nat.le_of_ble_eq_true rfl, Nat.le_of_ble_eq_true rfl⟩ (Nat.le_of_ble_eq_true rfl) (zRcv.lay zob_25) ⟨zcw_X12_isIsland.2.2.2.2, Nat.le_of_ble_eq_true rfl⟩ zk_RX12_207 (c_X12_isIsland hI.mv hI.ok hk (by omega)) (pc' := 93) rfl ?_
      refine Z_if_eq dX12_rock_93 (tgt := 100) rfl (pc' := 96) rfl (fun c_93 => ?_) (fun c_93 => ?_)
      · refine Z_iconst dX12_rock_100 (v := 0) (by decide) (pc' := 101) rfl ?_
        exact Z_ireturn dX12_rock_101 rfl rfl (qR.st hI sfr.rf (by unfold spRock; rw [e1]; show (zb (islB (mc M) (ctd (mc M)) k), M) = _; rw [c_93]))
      · refine Z_iconst dX12_rock_96 (v := 1) (by decide) (pc' := 97) rfl ?_
        refine Z_goto dX12_rock_97 (tgt := 101) rfl ?_
        exact Z_ireturn dX12_rock_101 rfl rfl (qR.st hI sfr.rf (by unfold spRock; rw [e1]; show (zb (islB (mc M) (ctd (mc M)) k), M) = _; rw [zb_1 c_93]))
    refine Z_tableOut dX12_rock_21 (by have h0 := i32_nev k_21_0 (v := 0) (by decide); have h1 := i32_nev k_21_1 (v := 1) (by decide); have h2 := i32_nev k_21_2 (v := 2) (by decide); have h3 := i32_nev k_21_3 (v := 3) (by decide); have h4 := i32_nev k_21_4 (v := 4) (by decide); omega) (tgt := 102) rfl ?_
    subst e_21
    refine Z_aload_n dX12_rock_102 rfl (z_isref _) (pc' := 103) rfl ?_
    refine Z_bipush dX12_rock_103 (v := (-2)) (by decide) (pc' := 105) rfl ?_
    refine Z_cVe dX12_rock_105 rfl zcw_X12_no (As := [_]) (rest := []) rfl ⟨Nat.le_of_ble_eq_true rfl, Nat.le_of_ble_eq_true rfl⟩ (Nat.le_of_ble_eq_true rfl) (zRcv.lay zob_25) ⟨zcw_X12_no.2.2.2.2, Nat.le_of_ble_eq_true rfl⟩ zk_RX12_85 (c_X12_no (k := 2) (by decide) (by decide)) (pc' := 108) rfl ?_
    exact Z_ireturn dX12_rock_108 rfl rfl (qR.no hI sfr.rf (by decide) (by unfold spRock; rw [e1]; simp only []; rw [if_neg k_21_0, if_neg k_21_1, if_neg k_21_2, if_neg k_21_3, if_neg k_21_4]))
  · rw [e1]
    refine Z_if_ne dX12_rock_11 (tgt := 20) rfl (pc' := 14) rfl (fun c_11 => absurd c_11 (fun q => q rfl)) (fun c_11 => ?_)
    refine Z_aload_n dX12_rock_14 rfl (z_isref _) (pc' := 15) rfl ?_
    refine Z_iconst dX12_rock_15 (v := (-1)) (by decide) (pc' := 16) rfl ?_
    refine Z_cVe dX12_rock_16 rfl zcw_X12_no (As := [_]) (rest := []) rfl ⟨Nat.le_of_ble_eq_true rfl, Nat.le_of_ble_eq_true rfl⟩ (Nat.le_of_ble_eq_true rfl) (zRcv.lay zob_25) ⟨zcw_X12_no.2.2.2.2, Nat.le_of_ble_eq_true rfl⟩ zk_RX12_85 (c_X12_no (k := 1) (by decide) (by decide)) (pc' := 19) rfl ?_
    exact Z_ireturn dX12_rock_19 rfl rfl (qR.no hI sfr.rf (by decide) (by unfold spRock; rw [e1]))
set_option maxRecDepth 100000 in
set_option maxHeartbeats 4000000 in
theorem lp_X12_islands {S : ZS} {n : Nat} {c : Co} (hV : mV S c) (ok : Cok c) {R : Option Value → ZW → Prop} (hR : R (some (.int (nI (znb (islB c (ctd c)) 6)))) (zw S n)) : ∀ (m i : Nat), i + m = cnr c → Z m_X12_islands 0 0 R 4 [some (.ref 25), some (.int (nI (znb (islB c (ctd c)) i))), some (.int (nI i))] [] (zw S n) := by
  intro m
  induction m with
  | zero =>
    intro i h
    have h6 := ok.2.2.1
    obtain rfl : i = cnr c := by omega
    refine Z_iload_n dX12_islands_4 rfl (pc' := 5) rfl ?_
    refine Z_aload_n dX12_islands_5 rfl (z_isref _) (pc' := 6) rfl ?_
    refine Z_gI dX12_islands_6 rfl zgi_RX12_120_25 (pc' := 9) rfl ?_
    rw [hV.1.2.2.1]
    refine Z_icmp_ge dX12_islands_9 (tgt := 40) rfl (pc' := 12) rfl (fun c_9 => ?_) (fun c_9 => absurd c_9 (fun c => c ((nI_len (by omega) (by omega)).mpr (by omega))))
    refine Z_iload_n dX12_islands_40 rfl (pc' := 41) rfl ?_
    exact Z_ireturn dX12_islands_41 rfl rfl (by rw [znb_6 ok]; exact hR)
  | succ m ih =>
    intro i h
    have h6 := ok.2.2.1
    have h9 := ok.2.2.2.1
    have hk : i < cnr c := by omega
    refine Z_iload_n dX12_islands_4 rfl (pc' := 5) rfl ?_
    refine Z_aload_n dX12_islands_5 rfl (z_isref _) (pc' := 6) rfl ?_
    refine Z_gI dX12_islands_6 rfl zgi_RX12_120_25 (pc' := 9) rfl ?_
    rw [hV.1.2.2.1]
    refine Z_icmp_ge dX12_islands_9 (tgt := 40) rfl (pc' := 12) rfl (fun c_9 => absurd c_9 (by rw [nI_len (by omega) (by omega)]; omega)) (fun c_9 => ?_)
    refine Z_iload_n dX12_islands_12 rfl (pc' := 13) rfl ?_
    refine Z_aload_n dX12_islands_13 rfl (z_isref _) (pc' := 14) rfl ?_
    refine Z_iload_n dX12_islands_14 rfl (pc' := 15) rfl ?_
    refine Z_aload_n dX12_islands_15 rfl (z_isref _) (pc' := 16) rfl ?_
    refine Z_gI dX12_islands_16 rfl zgi_RX12_129_25 (pc' := 19) rfl ?_
    rw [hV.1.2.2.2]
    refine Z_cVe dX12_islands_19 rfl zcw_X12_isIsland (As := [_, _]) (rest := [_]) rfl ⟨Nat.le_of_ble_eq_true rfl, Nat.le_of_ble_eq_true rfl⟩ (Nat.le_of_ble_eq_true rfl) (zRcv.lay zob_25) ⟨zcw_X12_isIsland.2.2.2.2, Nat.le_of_ble_eq_true rfl⟩ zk_RX12_207 (c_X12_isIsland hV ok hk (by omega)) (pc' := 22) rfl ?_
    refine Z_if_eq dX12_islands_22 (tgt := 31) rfl (pc' := 25) rfl (fun c_22 => ?_) (fun c_22 => ?_)
    · refine Z_iconst dX12_islands_31 (v := 0) (by decide) (pc' := 32) rfl ?_
      refine Z_ior dX12_islands_32 (pc' := 33) rfl ?_
      first | rw [nI_or, show znb (islB c (ctd c)) i ||| 2 ^ i = znb (islB c (ctd c)) (i + 1) from by rw [znb, if_pos ((zb_ne0 _).mp c_22)]] | rw [show nI (znb (islB c (ctd c)) i) ||| 0 = nI (znb (islB c (ctd c)) (i + 1)) from by rw [show (0 : Int32) = nI 0 from rfl, nI_or, znb, (zb_eq0 _).mp c_22]; rfl]
      refine Z_istore_n dX12_islands_33 (Nat.le_of_ble_eq_true rfl) (Nat.le_of_ble_eq_true rfl) rfl (ls' := [_, _, _]) rfl (pc' := 34) rfl ?_
      refine Z_iinc dX12_islands_34 rfl (nI_inc i) (Nat.le_of_ble_eq_true rfl) rfl (ls' := [_, _, _]) rfl (pc' := 37) rfl ?_
      refine Z_goto dX12_islands_37 (tgt := 4) rfl ?_
      exact ih (i + 1) (by omega)
    · refine Z_iconst dX12_islands_25 (v := 1) (by decide) (pc' := 26) rfl ?_
      refine Z_iload_n dX12_islands_26 rfl (pc' := 27) rfl ?_
      refine Z_ishl dX12_islands_27 (pc' := 28) rfl ?_
      rw [nI_sh1 i (by omega)]
      refine Z_goto dX12_islands_28 (tgt := 32) rfl ?_
      refine Z_ior dX12_islands_32 (pc' := 33) rfl ?_
      first | rw [nI_or, show znb (islB c (ctd c)) i ||| 2 ^ i = znb (islB c (ctd c)) (i + 1) from by rw [znb, if_pos ((zb_ne0 _).mp c_22)]] | rw [show nI (znb (islB c (ctd c)) i) ||| 0 = nI (znb (islB c (ctd c)) (i + 1)) from by rw [show (0 : Int32) = nI 0 from rfl, nI_or, znb, (zb_eq0 _).mp c_22]; rfl]
      refine Z_istore_n dX12_islands_33 (Nat.le_of_ble_eq_true rfl) (Nat.le_of_ble_eq_true rfl) rfl (ls' := [_, _, _]) rfl (pc' := 34) rfl ?_
      refine Z_iinc dX12_islands_34 rfl (nI_inc i) (Nat.le_of_ble_eq_true rfl) rfl (ls' := [_, _, _]) rfl (pc' := 37) rfl ?_
      refine Z_goto dX12_islands_37 (tgt := 4) rfl ?_
      exact ih (i + 1) (by omega)
set_option maxRecDepth 100000 in
set_option maxHeartbeats 4000000 in
theorem c_X12_islands {S : ZS} {n : Nat} {M : Ms} (hI : MI S M) : zM m_X12_islands 0 0 [.ref 25] (zw S n) (qR S n (spIslands M)) := by
  show Z m_X12_islands _ _ _ 0 [some (.ref _)] [] _
  refine Z_iconst dX12_islands_0 (v := 0) (by decide) (pc' := 1) rfl ?_
  refine Z_istore_n dX12_islands_1 (Nat.le_of_ble_eq_true rfl) (Nat.le_of_ble_eq_true rfl) rfl (ls' := [_, _]) rfl (pc' := 2) rfl ?_
  refine Z_iconst dX12_islands_2 (v := 0) (by decide) (pc' := 3) rfl ?_
  refine Z_istore_n dX12_islands_3 (Nat.le_of_ble_eq_true rfl) (Nat.le_of_ble_eq_true rfl) rfl (ls' := [_, _, _]) rfl (pc' := 4) rfl ?_
  exact lp_X12_islands hI.mv hI.ok (qR.st hI sfr.rf rfl) (cnr (mc M)) 0 (by omega)
set_option maxRecDepth 100000 in
set_option maxHeartbeats 4000000 in
theorem lp_X12_fees {S : ZS} {n : Nat} {c : Co} (hV : mV S c) (ok : Cok c) {R : Option Value → ZW → Prop} (hR : R (some (.int (nI (faF c 8)))) (zw S n)) : ∀ (m i : Nat), i + m = cns c → Z m_X12_fees 0 0 R 4 [some (.ref 25), some (.int (nI (faF c i))), some (.int (nI i))] [] (zw S n) := by
  intro m
  induction m with
  | zero =>
    intro i h
    have h8 := ok.1
    obtain rfl : i = cns c := by omega
    refine Z_iload_n dX12_fees_4 rfl (pc' := 5) rfl ?_
    refine Z_aload_n dX12_fees_5 rfl (z_isref _) (pc' := 6) rfl ?_
    refine Z_gI dX12_fees_6 rfl zgi_RX12_114_25 (pc' := 9) rfl ?_
    rw [hV.1.1]
    refine Z_icmp_ge dX12_fees_9 (tgt := 26) rfl (pc' := 12) rfl (fun c_9 => ?_) (fun c_9 => absurd c_9 (fun c => c ((nI_len (by omega) (by omega)).mpr (by omega))))
    refine Z_iload_n dX12_fees_26 rfl (pc' := 27) rfl ?_
    exact Z_ireturn dX12_fees_27 rfl rfl (by rw [faF_8 ok]; exact hR)
  | succ m ih =>
    intro i h
    have h8 := ok.1
    have hk : i < cns c := by omega
    refine Z_iload_n dX12_fees_4 rfl (pc' := 5) rfl ?_
    refine Z_aload_n dX12_fees_5 rfl (z_isref _) (pc' := 6) rfl ?_
    refine Z_gI dX12_fees_6 rfl zgi_RX12_114_25 (pc' := 9) rfl ?_
    rw [hV.1.1]
    refine Z_icmp_ge dX12_fees_9 (tgt := 26) rfl (pc' := 12) rfl (fun c_9 => absurd c_9 (by rw [nI_len (by omega) (by omega)]; omega)) (fun c_9 => ?_)
    refine Z_iload_n dX12_fees_12 rfl (pc' := 13) rfl ?_
    refine Z_aload_n dX12_fees_13 rfl (z_isref _) (pc' := 14) rfl ?_
    refine Z_iload_n dX12_fees_14 rfl (pc' := 15) rfl ?_
    refine Z_cVe dX12_fees_15 rfl zcw_X12_feeOf (As := [_]) (rest := [_]) rfl ⟨Nat.le_of_ble_eq_true rfl, Nat.le_of_ble_eq_true rfl⟩ (Nat.le_of_ble_eq_true rfl) (zRcv.lay zob_25) ⟨zcw_X12_feeOf.2.2.2.2, Nat.le_of_ble_eq_true rfl⟩ zk_RX12_166 (c_X12_feeOf hV ok hk) (pc' := 18) rfl ?_
    refine Z_iadd dX12_fees_18 (pc' := 19) rfl ?_
    rw [nI_add, show faF c i + feeS c i = faF c (i + 1) from by rw [faF, if_pos hk]]
    refine Z_istore_n dX12_fees_19 (Nat.le_of_ble_eq_true rfl) (Nat.le_of_ble_eq_true rfl) rfl (ls' := [_, _, _]) rfl (pc' := 20) rfl ?_
    refine Z_iinc dX12_fees_20 rfl (nI_inc i) (Nat.le_of_ble_eq_true rfl) rfl (ls' := [_, _, _]) rfl (pc' := 23) rfl ?_
    refine Z_goto dX12_fees_23 (tgt := 4) rfl ?_
    exact ih (i + 1) (by omega)
set_option maxRecDepth 100000 in
set_option maxHeartbeats 4000000 in
theorem c_X12_fees {S : ZS} {n : Nat} {c : Co} (hV : mV S c) (ok : Cok c) : zM m_X12_fees 0 0 [.ref 25] (zw S n) (zE (some (.int (nI (faF c 8)))) (zw S n)) := by
  show Z m_X12_fees _ _ _ 0 [some (.ref _)] [] _
  refine Z_iconst dX12_fees_0 (v := 0) (by decide) (pc' := 1) rfl ?_
  refine Z_istore_n dX12_fees_1 (Nat.le_of_ble_eq_true rfl) (Nat.le_of_ble_eq_true rfl) rfl (ls' := [_, _]) rfl (pc' := 2) rfl ?_
  refine Z_iconst dX12_fees_2 (v := 0) (by decide) (pc' := 3) rfl ?_
  refine Z_istore_n dX12_fees_3 (Nat.le_of_ble_eq_true rfl) (Nat.le_of_ble_eq_true rfl) rfl (ls' := [_, _, _]) rfl (pc' := 4) rfl ?_
  exact lp_X12_fees hV ok ⟨rfl, rfl⟩ (cns c) 0 (by omega)
set_option maxRecDepth 100000 in
set_option maxHeartbeats 4000000 in
theorem c_X12_count {S : ZS} {n : Nat} {M : Ms} (hI : MI S M) {a : Int32} : zM m_X12_count 0 0 [.ref 25, .int a] (zw S n) (qR S n (spCount M a)) := by
  show Z m_X12_count _ _ _ 0 [some (.ref _), some (.int _)] [] _
  refine Z_iload_n dX12_count_0 rfl (pc' := 1) rfl ?_
  refine Z_bipush dX12_count_1 (v := 11) (by decide) (pc' := 3) rfl ?_
  refine Z_bipush dX12_count_3 (v := 16) (by decide) (pc' := 5) rfl ?_
  refine Z_cSe dX12_count_5 rfl zcw_X12_isIn (As := [_, _, _]) (rest := []) rfl ⟨Nat.le_of_ble_eq_true rfl, Nat.le_of_ble_eq_true rfl⟩ (Nat.le_of_ble_eq_true rfl) ⟨zcw_X12_isIn.2.2.2.2, Nat.le_of_ble_eq_true rfl⟩ zk_RX12_96 c_X12_isIn (pc' := 8) rfl ?_
  rcases in11 a with ⟨e, h⟩ | ⟨e, h⟩ | ⟨e, h⟩ | ⟨e, h⟩ | ⟨e, h⟩ | ⟨e, h⟩ | ⟨e, h⟩
  · rw [e]
    subst h
    refine Z_if_eq dX12_count_8 (tgt := 21) rfl (pc' := 11) rfl (fun c_8 => absurd c_8 (by decide)) (fun c_8 => ?_)
    refine Z_aload_n dX12_count_11 rfl (z_isref _) (pc' := 12) rfl ?_
    refine Z_gR dX12_count_12 rfl zgr_RX12_7_25 (pc' := 15) rfl ?_
    refine Z_iload_n dX12_count_15 rfl (pc' := 16) rfl ?_
    refine Z_bipush dX12_count_16 (v := 10) (by decide) (pc' := 18) rfl ?_
    refine Z_isub dX12_count_18 (pc' := 19) rfl ?_
    refine Z_il dX12_count_19 zar_26 (by rw [show ((11 : Int32) - 10) = nI 1 from by decide]; exact zin (by decide) (by decide)) (pc' := 20) rfl ?_
    exact Z_ireturn dX12_count_20 rfl rfl (by rw [show S.1 26 ((11 : Int32) - 10).toNatClampNeg = mrf M 1 from hI.2.2.2.2 1 (by decide)]; exact qR.st hI sfr.rf rfl)
  · rw [e]
    subst h
    refine Z_if_eq dX12_count_8 (tgt := 21) rfl (pc' := 11) rfl (fun c_8 => absurd c_8 (by decide)) (fun c_8 => ?_)
    refine Z_aload_n dX12_count_11 rfl (z_isref _) (pc' := 12) rfl ?_
    refine Z_gR dX12_count_12 rfl zgr_RX12_7_25 (pc' := 15) rfl ?_
    refine Z_iload_n dX12_count_15 rfl (pc' := 16) rfl ?_
    refine Z_bipush dX12_count_16 (v := 10) (by decide) (pc' := 18) rfl ?_
    refine Z_isub dX12_count_18 (pc' := 19) rfl ?_
    refine Z_il dX12_count_19 zar_26 (by rw [show ((12 : Int32) - 10) = nI 2 from by decide]; exact zin (by decide) (by decide)) (pc' := 20) rfl ?_
    exact Z_ireturn dX12_count_20 rfl rfl (by rw [show S.1 26 ((12 : Int32) - 10).toNatClampNeg = mrf M 2 from hI.2.2.2.2 2 (by decide)]; exact qR.st hI sfr.rf rfl)
  · rw [e]
    subst h
    refine Z_if_eq dX12_count_8 (tgt := 21) rfl (pc' := 11) rfl (fun c_8 => absurd c_8 (by decide)) (fun c_8 => ?_)
    refine Z_aload_n dX12_count_11 rfl (z_isref _) (pc' := 12) rfl ?_
    refine Z_gR dX12_count_12 rfl zgr_RX12_7_25 (pc' := 15) rfl ?_
    refine Z_iload_n dX12_count_15 rfl (pc' := 16) rfl ?_
    refine Z_bipush dX12_count_16 (v := 10) (by decide) (pc' := 18) rfl ?_
    refine Z_isub dX12_count_18 (pc' := 19) rfl ?_
    refine Z_il dX12_count_19 zar_26 (by rw [show ((13 : Int32) - 10) = nI 3 from by decide]; exact zin (by decide) (by decide)) (pc' := 20) rfl ?_
    exact Z_ireturn dX12_count_20 rfl rfl (by rw [show S.1 26 ((13 : Int32) - 10).toNatClampNeg = mrf M 3 from hI.2.2.2.2 3 (by decide)]; exact qR.st hI sfr.rf rfl)
  · rw [e]
    subst h
    refine Z_if_eq dX12_count_8 (tgt := 21) rfl (pc' := 11) rfl (fun c_8 => absurd c_8 (by decide)) (fun c_8 => ?_)
    refine Z_aload_n dX12_count_11 rfl (z_isref _) (pc' := 12) rfl ?_
    refine Z_gR dX12_count_12 rfl zgr_RX12_7_25 (pc' := 15) rfl ?_
    refine Z_iload_n dX12_count_15 rfl (pc' := 16) rfl ?_
    refine Z_bipush dX12_count_16 (v := 10) (by decide) (pc' := 18) rfl ?_
    refine Z_isub dX12_count_18 (pc' := 19) rfl ?_
    refine Z_il dX12_count_19 zar_26 (by rw [show ((14 : Int32) - 10) = nI 4 from by decide]; exact zin (by decide) (by decide)) (pc' := 20) rfl ?_
    exact Z_ireturn dX12_count_20 rfl rfl (by rw [show S.1 26 ((14 : Int32) - 10).toNatClampNeg = mrf M 4 from hI.2.2.2.2 4 (by decide)]; exact qR.st hI sfr.rf rfl)
  · rw [e]
    subst h
    refine Z_if_eq dX12_count_8 (tgt := 21) rfl (pc' := 11) rfl (fun c_8 => absurd c_8 (by decide)) (fun c_8 => ?_)
    refine Z_aload_n dX12_count_11 rfl (z_isref _) (pc' := 12) rfl ?_
    refine Z_gR dX12_count_12 rfl zgr_RX12_7_25 (pc' := 15) rfl ?_
    refine Z_iload_n dX12_count_15 rfl (pc' := 16) rfl ?_
    refine Z_bipush dX12_count_16 (v := 10) (by decide) (pc' := 18) rfl ?_
    refine Z_isub dX12_count_18 (pc' := 19) rfl ?_
    refine Z_il dX12_count_19 zar_26 (by rw [show ((15 : Int32) - 10) = nI 5 from by decide]; exact zin (by decide) (by decide)) (pc' := 20) rfl ?_
    exact Z_ireturn dX12_count_20 rfl rfl (by rw [show S.1 26 ((15 : Int32) - 10).toNatClampNeg = mrf M 5 from hI.2.2.2.2 5 (by decide)]; exact qR.st hI sfr.rf rfl)
  · rw [e]
    subst h
    refine Z_if_eq dX12_count_8 (tgt := 21) rfl (pc' := 11) rfl (fun c_8 => absurd c_8 (by decide)) (fun c_8 => ?_)
    refine Z_aload_n dX12_count_11 rfl (z_isref _) (pc' := 12) rfl ?_
    refine Z_gR dX12_count_12 rfl zgr_RX12_7_25 (pc' := 15) rfl ?_
    refine Z_iload_n dX12_count_15 rfl (pc' := 16) rfl ?_
    refine Z_bipush dX12_count_16 (v := 10) (by decide) (pc' := 18) rfl ?_
    refine Z_isub dX12_count_18 (pc' := 19) rfl ?_
    refine Z_il dX12_count_19 zar_26 (by rw [show ((16 : Int32) - 10) = nI 6 from by decide]; exact zin (by decide) (by decide)) (pc' := 20) rfl ?_
    exact Z_ireturn dX12_count_20 rfl rfl (by rw [show S.1 26 ((16 : Int32) - 10).toNatClampNeg = mrf M 6 from hI.2.2.2.2 6 (by decide)]; exact qR.st hI sfr.rf rfl)
  · rw [e]
    refine Z_if_eq dX12_count_8 (tgt := 21) rfl (pc' := 11) rfl (fun c_8 => ?_) (fun c_8 => absurd c_8 (fun q => q rfl))
    refine Z_iload_n dX12_count_21 rfl (pc' := 22) rfl ?_
    refine Z_topi (fun x_22 e_22 => ?_)
    by_cases k_22_0 : x_22 = 0
    · subst k_22_0
      subst e_22
      refine Z_tableIn dX12_count_22 (by decide) (by decide) (off := 46) rfl (tgt := 68) rfl ?_
      refine Z_aload_n dX12_count_68 rfl (z_isref _) (pc' := 69) rfl ?_
      refine Z_gI dX12_count_69 rfl zgi_RX12_114_25 (pc' := 72) rfl ?_
      rw [hI.mv.1.1]
      exact Z_ireturn dX12_count_72 rfl rfl (qR.st hI sfr.rf rfl)
    by_cases k_22_1 : x_22 = 1
    · subst k_22_1
      subst e_22
      refine Z_tableIn dX12_count_22 (by decide) (by decide) (off := 51) rfl (tgt := 73) rfl ?_
      refine Z_aload_n dX12_count_73 rfl (z_isref _) (pc' := 74) rfl ?_
      refine Z_gI dX12_count_74 rfl zgi_RX12_117_25 (pc' := 77) rfl ?_
      rw [hI.mv.1.2.1]
      exact Z_ireturn dX12_count_77 rfl rfl (qR.st hI sfr.rf rfl)
    by_cases k_22_2 : x_22 = 2
    · subst k_22_2
      subst e_22
      refine Z_tableIn dX12_count_22 (by decide) (by decide) (off := 56) rfl (tgt := 78) rfl ?_
      refine Z_aload_n dX12_count_78 rfl (z_isref _) (pc' := 79) rfl ?_
      refine Z_gI dX12_count_79 rfl zgi_RX12_129_25 (pc' := 82) rfl ?_
      rw [hI.mv.1.2.2.2]
      exact Z_ireturn dX12_count_82 rfl rfl (qR.st hI sfr.rf rfl)
    by_cases k_22_3 : x_22 = 3
    · subst k_22_3
      subst e_22
      refine Z_tableIn dX12_count_22 (by decide) (by decide) (off := 61) rfl (tgt := 83) rfl ?_
      refine Z_aload_n dX12_count_83 rfl (z_isref _) (pc' := 84) rfl ?_
      refine Z_bipush dX12_count_84 (v := (-9)) (by decide) (pc' := 86) rfl ?_
      refine Z_iconst dX12_count_86 (v := 1) (by decide) (pc' := 87) rfl ?_
      refine Z_cV dX12_count_87 rfl zcw_X12_findShore (As := [_, _]) (rest := []) rfl ⟨Nat.le_of_ble_eq_true rfl, Nat.le_of_ble_eq_true rfl⟩ (Nat.le_of_ble_eq_true rfl) (zRcv.lay zob_25) ⟨zcw_X12_findShore.2.2.2.2, Nat.le_of_ble_eq_true rfl⟩ zk_RX12_184 (c_X12_findShore1 hI.mv hI.ok) (pc' := 90) rfl (fun r_87 w_87 h_87 => ?_)
      obtain ⟨rfl, S1, rfl, f1, s1⟩ := h_87
      show Z _ _ _ _ _ _ [] _
      refine Z_aload_n dX12_count_90 rfl (z_isref _) (pc' := 91) rfl ?_
      refine Z_gI dX12_count_91 rfl zgi_RX12_175_25 (pc' := 94) rfl ?_
      rw [s1.1, SL_cnt hI.ok]
      exact Z_ireturn dX12_count_94 rfl rfl (qR.st hI f1 rfl)
    by_cases k_22_4 : x_22 = 4
    · subst k_22_4
      subst e_22
      refine Z_tableIn dX12_count_22 (by decide) (by decide) (off := 73) rfl (tgt := 95) rfl ?_
      refine Z_aload_n dX12_count_95 rfl (z_isref _) (pc' := 96) rfl ?_
      refine Z_gI dX12_count_96 rfl zgi_RX12_120_25 (pc' := 99) rfl ?_
      rw [hI.mv.1.2.2.1]
      exact Z_ireturn dX12_count_99 rfl rfl (qR.st hI sfr.rf rfl)
    by_cases k_22_5 : x_22 = 5
    · subst k_22_5
      subst e_22
      refine Z_tableIn dX12_count_22 (by decide) (by decide) (off := 78) rfl (tgt := 100) rfl ?_
      refine Z_aload_n dX12_count_100 rfl (z_isref _) (pc' := 101) rfl ?_
      refine Z_gI dX12_count_101 rfl zgi_RX12_81_25 (pc' := 104) rfl ?_
      rw [hI.2.2.1.1]
      exact Z_ireturn dX12_count_104 rfl rfl (qR.st hI sfr.rf rfl)
    by_cases k_22_6 : x_22 = 6
    · subst k_22_6
      subst e_22
      refine Z_tableIn dX12_count_22 (by decide) (by decide) (off := 83) rfl (tgt := 105) rfl ?_
      refine Z_aload_n dX12_count_105 rfl (z_isref _) (pc' := 106) rfl ?_
      refine Z_gI dX12_count_106 rfl zgi_RX12_234_25 (pc' := 109) rfl ?_
      rw [hI.2.2.2.1.1]
      exact Z_ireturn dX12_count_109 rfl rfl (qR.st hI sfr.rf rfl)
    by_cases k_22_7 : x_22 = 7
    · subst k_22_7
      subst e_22
      refine Z_tableIn dX12_count_22 (by decide) (by decide) (off := 88) rfl (tgt := 110) rfl ?_
      refine Z_aload_n dX12_count_110 rfl (z_isref _) (pc' := 111) rfl ?_
      refine Z_cVe dX12_count_111 rfl zcw_X12_fees (As := []) (rest := []) rfl ⟨Nat.le_of_ble_eq_true rfl, Nat.le_of_ble_eq_true rfl⟩ (Nat.le_of_ble_eq_true rfl) (zRcv.lay zob_25) ⟨zcw_X12_fees.2.2.2.2, Nat.le_of_ble_eq_true rfl⟩ zk_RX12_246 (c_X12_fees hI.mv hI.ok) (pc' := 114) rfl ?_
      exact Z_ireturn dX12_count_114 rfl rfl (qR.st hI sfr.rf rfl)
    refine Z_tableOut dX12_count_22 (by have h0 := i32_nev k_22_0 (v := 0) (by decide); have h1 := i32_nev k_22_1 (v := 1) (by decide); have h2 := i32_nev k_22_2 (v := 2) (by decide); have h3 := i32_nev k_22_3 (v := 3) (by decide); have h4 := i32_nev k_22_4 (v := 4) (by decide); have h5 := i32_nev k_22_5 (v := 5) (by decide); have h6 := i32_nev k_22_6 (v := 6) (by decide); have h7 := i32_nev k_22_7 (v := 7) (by decide); omega) (tgt := 115) rfl ?_
    subst e_22
    refine Z_bipush dX12_count_115 (v := (-9)) (by decide) (pc' := 117) rfl ?_
    exact Z_ireturn dX12_count_117 rfl rfl (qR.st hI sfr.rf (by unfold spCount; rw [if_neg k_22_0, if_neg k_22_1, if_neg k_22_2, if_neg k_22_3, if_neg k_22_4, if_neg k_22_5, if_neg k_22_6, if_neg k_22_7, roI_out h]))
theorem oI_last {S : ZS} {l : List Nat} (h : wdR S l) (h0 : l.length ≠ 0) : S.1 44 (l.length - 1) = oI l.getLast? := by
  obtain ⟨a, ha, _, hat⟩ := last_at h h0
  rw [ha, hat]; rfl
theorem mlS_0 {c : Co} {f : Nat → Bool} {r : Int32} {b : Nat} (h : (WL c f r b).length = 0) : mlS c f r b = 0 := by
  unfold mlS
  rw [h]
  exact Int32.mul_zero
set_option maxRecDepth 100000 in
set_option maxHeartbeats 4000000 in
theorem c_X12_walk {S : ZS} {n : Nat} {M : Ms} (hI : MI S M) {a b0 x : Int32} : zM m_X12_walk 0 0 [.ref 25, .int a, .int b0, .int x] (zw S n) (qR S n (spWalk M a b0 x)) := by
  show Z m_X12_walk _ _ _ 0 [some (.ref _), some (.int _), some (.int _), some (.int _)] [] _
  refine Z_iload_n dX12_walk_0 rfl (pc' := 1) rfl ?_
  refine Z_iconst dX12_walk_1 (v := 0) (by decide) (pc' := 2) rfl ?_
  refine Z_iconst dX12_walk_2 (v := 4) (by decide) (pc' := 3) rfl ?_
  refine Z_cSe dX12_walk_3 rfl zcw_X12_isIn (As := [_, _, _]) (rest := []) rfl ⟨Nat.le_of_ble_eq_true rfl, Nat.le_of_ble_eq_true rfl⟩ (Nat.le_of_ble_eq_true rfl) ⟨zcw_X12_isIn.2.2.2.2, Nat.le_of_ble_eq_true rfl⟩ zk_RX12_96 c_X12_isIn (pc' := 6) rfl ?_
  rcases in_cases x 0 4 with ⟨e, h1, h2⟩ | ⟨e, h⟩
  · rw [e]
    have hw4 := n_or h1 h2
    refine Z_if_ne dX12_walk_6 (tgt := 14) rfl (pc' := 9) rfl (fun c_6 => ?_) (fun c_6 => absurd c_6 (by decide))
    refine Z_iload_n dX12_walk_14 rfl (pc' := 15) rfl ?_
    refine Z_iload_n dX12_walk_15 rfl (pc' := 16) rfl ?_
    refine Z_cSe dX12_walk_16 rfl zcw_X12_notWalk (As := [_, _]) (rest := []) rfl ⟨Nat.le_of_ble_eq_true rfl, Nat.le_of_ble_eq_true rfl⟩ (Nat.le_of_ble_eq_true rfl) ⟨zcw_X12_notWalk.2.2.2.2, Nat.le_of_ble_eq_true rfl⟩ zk_RX12_195 c_X12_notWalk (pc' := 19) rfl ?_
    refine Z_istore dX12_walk_19 (Nat.le_of_ble_eq_true rfl) (Nat.le_of_ble_eq_true rfl) rfl (ls' := [_, _, _, _, _]) rfl (pc' := 21) rfl ?_
    refine Z_iload dX12_walk_21 rfl (pc' := 23) rfl ?_
    refine Z_if_eq dX12_walk_23 (tgt := 33) rfl (pc' := 26) rfl (fun c_23 => ?_) (fun c_23 => ?_)
    · have c25 := c_23
      obtain ⟨r, b, hr1, hr9, hb9, rfl, rfl⟩ := wrI_0 c_23
      refine Z_aload_n dX12_walk_33 rfl (z_isref _) (pc' := 34) rfl ?_
      refine Z_iload_n dX12_walk_34 rfl (pc' := 35) rfl ?_
      refine Z_iload_n dX12_walk_35 rfl (pc' := 36) rfl ?_
      refine Z_cV dX12_walk_36 rfl zcw_X12_pay (As := [_, _]) (rest := []) rfl ⟨Nat.le_of_ble_eq_true rfl, Nat.le_of_ble_eq_true rfl⟩ (Nat.le_of_ble_eq_true rfl) (zRcv.lay zob_25) ⟨zcw_X12_pay.2.2.2.2, Nat.le_of_ble_eq_true rfl⟩ zk_RX12_198 (c_X12_pay hI.mv hI.ok (by omega)) (pc' := 39) rfl (fun r_36 w_36 h_36 => ?_)
      obtain ⟨rfl, S1, rfl, f1, s1, w1⟩ := h_36
      change wdR S1 (WL (mc M) (mcf M) (nI r) b) at w1
      have hwl := w1.2.1
      show Z _ _ _ _ _ _ [_] _
      refine Z_istore dX12_walk_39 (Nat.le_of_ble_eq_true rfl) (Nat.le_of_ble_eq_true rfl) rfl (ls' := [_, _, _, _, _, _]) rfl (pc' := 41) rfl ?_
      refine Z_iload_n dX12_walk_41 rfl (pc' := 42) rfl ?_
      refine Z_topi (fun x_42 e_42 => ?_)
      by_cases k_42_0 : x_42 = 0
      · subst k_42_0
        subst e_42
        refine Z_tableIn dX12_walk_42 (by decide) (by decide) (off := 30) rfl (tgt := 72) rfl ?_
        refine Z_aload_n dX12_walk_72 rfl (z_isref _) (pc' := 73) rfl ?_
        refine Z_gI dX12_walk_73 rfl zgi_RX12_178_25 (pc' := 76) rfl ?_
        rw [w1.1]
        refine Z_if_ne dX12_walk_76 (tgt := 83) rfl (pc' := 79) rfl (fun c_76 => ?_) (fun c_76 => ?_)
        · refine Z_aload_n dX12_walk_83 rfl (z_isref _) (pc' := 84) rfl ?_
          refine Z_gI dX12_walk_84 rfl zgi_RX12_178_25 (pc' := 87) rfl ?_
          refine Z_iconst dX12_walk_87 (v := 1) (by decide) (pc' := 88) rfl ?_
          have hl0 : (WL (mc M) (mcf M) (nI r) b).length ≠ 0 := fun q => c_76 (by show nI (WL (mc M) (mcf M) (nI r) b).length = 0; rw [q]; rfl)
          rw [w1.1, show (1 : Int32) = nI 1 from rfl]
          refine Z_isub dX12_walk_88 (pc' := 89) rfl ?_
          first | rw [nI_sub (by omega)] | skip
          exact Z_ireturn dX12_walk_89 rfl rfl (qR.st hI f1 (by unfold spWalk; rw [if_neg hw4, if_neg (fun h => h c25), nI_nat (by omega)]; rfl))
        · refine Z_iconst dX12_walk_79 (v := 0) (by decide) (pc' := 80) rfl ?_
          refine Z_goto dX12_walk_80 (tgt := 89) rfl ?_
          first | rw [nI_sub (by omega)] | skip
          exact Z_ireturn dX12_walk_89 rfl rfl (by have hl0 : (WL (mc M) (mcf M) (nI r) b).length = 0 := (nI_eqn (b := 0) (by omega) (by decide)).mp c_76; exact (qR.st hI f1 (by unfold spWalk; rw [if_neg hw4, if_neg (fun h => h c25), nI_nat (by omega)]; show (nI ((WL (mc M) (mcf M) (nI r) b).length - 1), M) = _; rw [hl0]; rfl)))
      by_cases k_42_1 : x_42 = 1
      · subst k_42_1
        subst e_42
        refine Z_tableIn dX12_walk_42 (by decide) (by decide) (off := 48) rfl (tgt := 90) rfl ?_
        refine Z_aload_n dX12_walk_90 rfl (z_isref _) (pc' := 91) rfl ?_
        refine Z_gI dX12_walk_91 rfl zgi_RX12_178_25 (pc' := 94) rfl ?_
        rw [w1.1]
        refine Z_if_ne dX12_walk_94 (tgt := 101) rfl (pc' := 97) rfl (fun c_94 => ?_) (fun c_94 => ?_)
        · refine Z_iload_n dX12_walk_101 rfl (pc' := 102) rfl ?_
          refine Z_aload_n dX12_walk_102 rfl (z_isref _) (pc' := 103) rfl ?_
          refine Z_gI dX12_walk_103 rfl zgi_RX12_178_25 (pc' := 106) rfl ?_
          have hl0 : (WL (mc M) (mcf M) (nI r) b).length ≠ 0 := fun q => c_94 (by show nI (WL (mc M) (mcf M) (nI r) b).length = 0; rw [q]; rfl)
          rw [w1.1]
          refine Z_iconst dX12_walk_106 (v := 1) (by decide) (pc' := 107) rfl ?_
          refine Z_isub dX12_walk_107 (pc' := 108) rfl ?_
          first | rw [nI_sub1 (by omega)] | skip
          refine Z_imul dX12_walk_108 (pc' := 109) rfl ?_
          exact Z_ireturn dX12_walk_109 rfl rfl (qR.st hI f1 (by unfold spWalk; rw [if_neg hw4, if_neg (fun h => h c25), nI_nat (by omega)]; rfl))
        · refine Z_iconst dX12_walk_97 (v := 0) (by decide) (pc' := 98) rfl ?_
          refine Z_goto dX12_walk_98 (tgt := 109) rfl ?_
          exact Z_ireturn dX12_walk_109 rfl rfl (by have hl0 : (WL (mc M) (mcf M) (nI r) b).length = 0 := (nI_eqn (b := 0) (by omega) (by decide)).mp c_94; exact (qR.st hI f1 (by unfold spWalk; rw [if_neg hw4, if_neg (fun h => h c25), nI_nat (by omega)]; show (mlS (mc M) (mcf M) (nI r) b, M) = _; rw [mlS_0 hl0])))
      by_cases k_42_2 : x_42 = 2
      · subst k_42_2
        subst e_42
        refine Z_tableIn dX12_walk_42 (by decide) (by decide) (off := 68) rfl (tgt := 110) rfl ?_
        refine Z_iload dX12_walk_110 rfl (pc' := 112) rfl ?_
        exact Z_ireturn dX12_walk_112 rfl rfl (qR.st hI f1 (by unfold spWalk; rw [if_neg hw4, if_neg (fun h => h c25), nI_nat (by omega)]; rfl))
      by_cases k_42_3 : x_42 = 3
      · subst k_42_3
        subst e_42
        refine Z_tableIn dX12_walk_42 (by decide) (by decide) (off := 71) rfl (tgt := 113) rfl ?_
        refine Z_aload_n dX12_walk_113 rfl (z_isref _) (pc' := 114) rfl ?_
        refine Z_gI dX12_walk_114 rfl zgi_RX12_178_25 (pc' := 117) rfl ?_
        rw [w1.1]
        refine Z_if_ne dX12_walk_117 (tgt := 125) rfl (pc' := 120) rfl (fun c_117 => ?_) (fun c_117 => ?_)
        · refine Z_aload_n dX12_walk_125 rfl (z_isref _) (pc' := 126) rfl ?_
          refine Z_gR dX12_walk_126 rfl zgr_RX12_64_25 (pc' := 129) rfl ?_
          refine Z_aload_n dX12_walk_129 rfl (z_isref _) (pc' := 130) rfl ?_
          refine Z_gI dX12_walk_130 rfl zgi_RX12_178_25 (pc' := 133) rfl ?_
          refine Z_iconst dX12_walk_133 (v := 1) (by decide) (pc' := 134) rfl ?_
          have hl0 : (WL (mc M) (mcf M) (nI r) b).length ≠ 0 := fun q => c_117 (by show nI (WL (mc M) (mcf M) (nI r) b).length = 0; rw [q]; rfl)
          rw [w1.1, show (1 : Int32) = nI 1 from rfl]
          refine Z_isub dX12_walk_134 (pc' := 135) rfl ?_
          rw [nI_sub (by omega)]
          refine Z_il dX12_walk_135 zar_44 (zin (by omega) (by decide)) (pc' := 136) rfl ?_
          first | rw [nI_nat (by omega), oI_last w1 hl0] | skip
          exact Z_ireturn dX12_walk_136 rfl rfl (qR.st hI f1 (by unfold spWalk; rw [if_neg hw4, if_neg (fun h => h c25), nI_nat (by omega)]; rfl))
        · refine Z_bipush dX12_walk_120 (v := (-9)) (by decide) (pc' := 122) rfl ?_
          refine Z_goto dX12_walk_122 (tgt := 136) rfl ?_
          first | rw [nI_nat (by omega), oI_last w1 hl0] | skip
          exact Z_ireturn dX12_walk_136 rfl rfl (by have hl0 : (WL (mc M) (mcf M) (nI r) b).length = 0 := (nI_eqn (b := 0) (by omega) (by decide)).mp c_117; exact (qR.st hI f1 (by unfold spWalk; rw [if_neg hw4, if_neg (fun h => h c25), nI_nat (by omega)]; show (oI (WL (mc M) (mcf M) (nI r) b).getLast?, M) = _; rw [List.length_eq_zero_iff.mp hl0]; rfl)))
      refine Z_tableOut dX12_walk_42 (by have h0 := i32_nev k_42_0 (v := 0) (by decide); have h1 := i32_nev k_42_1 (v := 1) (by decide); have h2 := i32_nev k_42_2 (v := 2) (by decide); have h3 := i32_nev k_42_3 (v := 3) (by decide); omega) (tgt := 137) rfl ?_
      subst e_42
      refine Z_aload_n dX12_walk_137 rfl (z_isref _) (pc' := 138) rfl ?_
      refine Z_cVe dX12_walk_138 rfl zcw_X12_over (As := []) (rest := []) rfl ⟨Nat.le_of_ble_eq_true rfl, Nat.le_of_ble_eq_true rfl⟩ (Nat.le_of_ble_eq_true rfl) (zRcv.lay zob_25) ⟨zcw_X12_over.2.2.2.2, Nat.le_of_ble_eq_true rfl⟩ zk_RX12_201 (c_X12_over hI.ok s1 w1 (fun x hx => (WL_rng hx).2.1)) (pc' := 141) rfl ?_
      exact Z_ireturn dX12_walk_141 rfl rfl (qR.st hI f1 (by unfold spWalk; rw [if_neg hw4, if_neg (fun h => h c25), nI_nat (by omega), if_neg k_42_0, if_neg k_42_1, if_neg k_42_2, if_neg k_42_3]; rfl))
    · obtain ⟨k, hk, hx, hy⟩ := wrI_k c_23
      refine Z_aload_n dX12_walk_26 rfl (z_isref _) (pc' := 27) rfl ?_
      refine Z_iload dX12_walk_27 rfl (pc' := 29) rfl ?_
      refine Z_cVe dX12_walk_29 rfl zcw_X12_no (As := [_]) (rest := []) rfl ⟨Nat.le_of_ble_eq_true rfl, Nat.le_of_ble_eq_true rfl⟩ (Nat.le_of_ble_eq_true rfl) (zRcv.lay zob_25) ⟨zcw_X12_no.2.2.2.2, Nat.le_of_ble_eq_true rfl⟩ zk_RX12_85 (c_X12_no hk hx) (pc' := 32) rfl ?_
      exact Z_ireturn dX12_walk_32 rfl rfl (qR.no hI sfr.rf hk (by unfold spWalk noV; rw [if_neg hw4, if_pos c_23, hy]))
  · rw [e]
    refine Z_if_ne dX12_walk_6 (tgt := 14) rfl (pc' := 9) rfl (fun c_6 => absurd c_6 (fun q => q rfl)) (fun c_6 => ?_)
    refine Z_bipush dX12_walk_9 (v := (-2)) (by decide) (pc' := 11) rfl ?_
    refine Z_goto dX12_walk_11 (tgt := 19) rfl ?_
    refine Z_istore dX12_walk_19 (Nat.le_of_ble_eq_true rfl) (Nat.le_of_ble_eq_true rfl) rfl (ls' := [_, _, _, _, _]) rfl (pc' := 21) rfl ?_
    refine Z_iload dX12_walk_21 rfl (pc' := 23) rfl ?_
    refine Z_if_eq dX12_walk_23 (tgt := 33) rfl (pc' := 26) rfl (fun c_23 => absurd c_23 (by decide)) (fun c_23 => ?_)
    refine Z_aload_n dX12_walk_26 rfl (z_isref _) (pc' := 27) rfl ?_
    refine Z_iload dX12_walk_27 rfl (pc' := 29) rfl ?_
    refine Z_cVe dX12_walk_29 rfl zcw_X12_no (As := [_]) (rest := []) rfl ⟨Nat.le_of_ble_eq_true rfl, Nat.le_of_ble_eq_true rfl⟩ (Nat.le_of_ble_eq_true rfl) (zRcv.lay zob_25) ⟨zcw_X12_no.2.2.2.2, Nat.le_of_ble_eq_true rfl⟩ zk_RX12_85 (c_X12_no (k := 2) (by decide) (by decide)) (pc' := 32) rfl ?_
    exact Z_ireturn dX12_walk_32 rfl rfl (qR.no hI sfr.rf (by decide) (by unfold spWalk; rw [if_pos h]))
set_option maxRecDepth 100000 in
set_option maxHeartbeats 4000000 in
theorem c_X12_place {S : ZS} {n : Nat} {M : Ms} (hI : MI S M) {a b0 x : Int32} : zM m_X12_place 0 0 [.ref 25, .int a, .int b0, .int x] (zw S n) (qR S n (spPlace M a b0 x)) := by
  show Z m_X12_place _ _ _ 0 [some (.ref _), some (.int _), some (.int _), some (.int _)] [] _
  refine Z_iload_n dX12_place_0 rfl (pc' := 1) rfl ?_
  rcases Classical.em (x < 0) with h1 | h1
  · skip
    refine Z_if_ge dX12_place_1 (tgt := 9) rfl (pc' := 4) rfl (fun c_1 => absurd c_1 (fun q => i_nlt q h1)) (fun c_1 => ?_)
    refine Z_bipush dX12_place_4 (v := (-4)) (by decide) (pc' := 6) rfl ?_
    refine Z_goto dX12_place_6 (tgt := 14) rfl ?_
    refine Z_istore dX12_place_14 (Nat.le_of_ble_eq_true rfl) (Nat.le_of_ble_eq_true rfl) rfl (ls' := [_, _, _, _, _]) rfl (pc' := 16) rfl ?_
    refine Z_iload dX12_place_16 rfl (pc' := 18) rfl ?_
    refine Z_if_eq dX12_place_18 (tgt := 28) rfl (pc' := 21) rfl (fun c_18 => absurd c_18 (by decide)) (fun c_18 => ?_)
    refine Z_aload_n dX12_place_21 rfl (z_isref _) (pc' := 22) rfl ?_
    refine Z_iload dX12_place_22 rfl (pc' := 24) rfl ?_
    refine Z_cVe dX12_place_24 rfl zcw_X12_no (As := [_]) (rest := []) rfl ⟨Nat.le_of_ble_eq_true rfl, Nat.le_of_ble_eq_true rfl⟩ (Nat.le_of_ble_eq_true rfl) (zRcv.lay zob_25) ⟨zcw_X12_no.2.2.2.2, Nat.le_of_ble_eq_true rfl⟩ zk_RX12_85 (c_X12_no (k := 4) (by decide) (by decide)) (pc' := 27) rfl ?_
    exact Z_ireturn dX12_place_27 rfl rfl (qR.no hI sfr.rf (by decide) (by unfold spPlace; rw [if_pos h1]))
  · skip
    refine Z_if_ge dX12_place_1 (tgt := 9) rfl (pc' := 4) rfl (fun c_1 => ?_) (fun c_1 => absurd c_1 (fun q => q (i_le h1)))
    refine Z_iload_n dX12_place_9 rfl (pc' := 10) rfl ?_
    refine Z_iload_n dX12_place_10 rfl (pc' := 11) rfl ?_
    refine Z_cSe dX12_place_11 rfl zcw_X12_notWalk (As := [_, _]) (rest := []) rfl ⟨Nat.le_of_ble_eq_true rfl, Nat.le_of_ble_eq_true rfl⟩ (Nat.le_of_ble_eq_true rfl) ⟨zcw_X12_notWalk.2.2.2.2, Nat.le_of_ble_eq_true rfl⟩ zk_RX12_195 c_X12_notWalk (pc' := 14) rfl ?_
    refine Z_istore dX12_place_14 (Nat.le_of_ble_eq_true rfl) (Nat.le_of_ble_eq_true rfl) rfl (ls' := [_, _, _, _, _]) rfl (pc' := 16) rfl ?_
    refine Z_iload dX12_place_16 rfl (pc' := 18) rfl ?_
    refine Z_if_eq dX12_place_18 (tgt := 28) rfl (pc' := 21) rfl (fun c_18 => ?_) (fun c_18 => ?_)
    · have c25 := c_18
      obtain ⟨r, b, hr1, hr9, hb9, rfl, rfl⟩ := wrI_0 c_18
      obtain ⟨i, hi, rfl⟩ := i_nat (i_le h1)
      refine Z_aload_n dX12_place_28 rfl (z_isref _) (pc' := 29) rfl ?_
      refine Z_bipush dX12_place_29 (v := (-9)) (by decide) (pc' := 31) rfl ?_
      refine Z_iconst dX12_place_31 (v := 1) (by decide) (pc' := 32) rfl ?_
      refine Z_cV dX12_place_32 rfl zcw_X12_findShore (As := [_, _]) (rest := []) rfl ⟨Nat.le_of_ble_eq_true rfl, Nat.le_of_ble_eq_true rfl⟩ (Nat.le_of_ble_eq_true rfl) (zRcv.lay zob_25) ⟨zcw_X12_findShore.2.2.2.2, Nat.le_of_ble_eq_true rfl⟩ zk_RX12_184 (c_X12_findShore1 hI.mv hI.ok) (pc' := 35) rfl (fun r_32 w_32 h_32 => ?_)
      obtain ⟨rfl, S1, rfl, f1, s1⟩ := h_32
      show Z _ _ _ _ _ _ [] _
      refine Z_aload_n dX12_place_35 rfl (z_isref _) (pc' := 36) rfl ?_
      refine Z_iload_n dX12_place_36 rfl (pc' := 37) rfl ?_
      refine Z_iload_n dX12_place_37 rfl (pc' := 38) rfl ?_
      refine Z_cV dX12_place_38 rfl zcw_X12_walks (As := [_, _]) (rest := []) rfl ⟨Nat.le_of_ble_eq_true rfl, Nat.le_of_ble_eq_true rfl⟩ (Nat.le_of_ble_eq_true rfl) (zRcv.lay zob_25) ⟨zcw_X12_walks.2.2.2.2, Nat.le_of_ble_eq_true rfl⟩ zk_RX12_188 (c_X12_walksSL (f1.mv hI.mv) hI.ok (by omega) s1) (pc' := 41) rfl (fun r_38 w_38 h_38 => ?_)
      obtain ⟨rfl, S2, rfl, f2, s2, w2⟩ := h_38
      change wdR S2 (WL (mc M) (mcf M) (nI r) b) at w2
      have hwl := w2.2.1
      show Z _ _ _ _ _ _ [_] _
      refine Z_pop dX12_place_41 rfl (pc' := 42) rfl ?_
      refine Z_iload_n dX12_place_42 rfl (pc' := 43) rfl ?_
      refine Z_aload_n dX12_place_43 rfl (z_isref _) (pc' := 44) rfl ?_
      refine Z_gI dX12_place_44 rfl zgi_RX12_178_25 (pc' := 47) rfl ?_
      rw [w2.1]
      refine Z_icmp_ge dX12_place_47 (tgt := 59) rfl (pc' := 50) rfl (fun c_47 => ?_) (fun c_47 => ?_)
      · refine Z_bipush dX12_place_59 (v := (-9)) (by decide) (pc' := 61) rfl ?_
        exact Z_ireturn dX12_place_61 rfl rfl (qR.st hI (f1.tr f2) (by unfold spPlace; rw [if_neg h1, if_neg (fun h => h c25), nI_nat (by omega), nI_nat hi, List.getElem?_eq_none ((nI_len (by omega) hi).mp c_47)]; rfl))
      · have hlt : i < (WL (mc M) (mcf M) (nI r) b).length := by
          have := i_lt c_47
          rw [nI_ltn hi (by omega)] at this; exact this
        obtain ⟨p, hp⟩ : ∃ p, (WL (mc M) (mcf M) (nI r) b)[i]? = some p := ⟨(WL (mc M) (mcf M) (nI r) b)[i], List.getElem?_eq_getElem hlt⟩
        refine Z_aload_n dX12_place_50 rfl (z_isref _) (pc' := 51) rfl ?_
        refine Z_gR dX12_place_51 rfl zgr_RX12_64_25 (pc' := 54) rfl ?_
        refine Z_iload_n dX12_place_54 rfl (pc' := 55) rfl ?_
        refine Z_il dX12_place_55 zar_44 (zin (Nat.lt_of_lt_of_le hlt hwl) (by decide)) (pc' := 56) rfl ?_
        rw [nI_nat hi, w2.2.2 i p hp]
        refine Z_goto dX12_place_56 (tgt := 61) rfl ?_
        exact Z_ireturn dX12_place_61 rfl rfl (qR.st hI (f1.tr f2) (by unfold spPlace; rw [if_neg h1, if_neg (fun h => h c25), nI_nat (by omega), nI_nat hi, hp]; rfl))
    · obtain ⟨k, hk, hx, hy⟩ := wrI_k c_18
      refine Z_aload_n dX12_place_21 rfl (z_isref _) (pc' := 22) rfl ?_
      refine Z_iload dX12_place_22 rfl (pc' := 24) rfl ?_
      refine Z_cVe dX12_place_24 rfl zcw_X12_no (As := [_]) (rest := []) rfl ⟨Nat.le_of_ble_eq_true rfl, Nat.le_of_ble_eq_true rfl⟩ (Nat.le_of_ble_eq_true rfl) (zRcv.lay zob_25) ⟨zcw_X12_no.2.2.2.2, Nat.le_of_ble_eq_true rfl⟩ zk_RX12_85 (c_X12_no hk hx) (pc' := 27) rfl ?_
      exact Z_ireturn dX12_place_27 rfl rfl (qR.no hI sfr.rf hk (by unfold spPlace noV; rw [if_neg h1, if_pos c_18, hy]))
