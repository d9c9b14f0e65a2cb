/-! ===== frames by a predicate ===== -/
def fw (q : Nat → Nat → Bool) (S S' : ZS) : Prop := S'.2 = S.2 ∧ ∀ b k, q b k = false → S'.1 b k = S.1 b k
theorem fw.rf {q : Nat → Nat → Bool} {S : ZS} : fw q S S := ⟨rfl, fun _ _ _ => rfl⟩
theorem fw.tr {q : Nat → Nat → Bool} {S S1 S2 : ZS} (h : fw q S S1) (h2 : fw q S1 S2) : fw q S S2 := ⟨h2.1.trans h.1, fun a k e => (h2.2 a k e).trans (h.2 a k e)⟩
theorem fw.wd {q q2 : Nat → Nat → Bool} {S S1 : ZS} (h : fw q S S1) (hq : ∀ b k, q2 b k = false → q b k = false) : fw q2 S S1 := ⟨h.1, fun b k e => h.2 b k (hq b k e)⟩
theorem fw_sA {q : Nat → Nat → Bool} {S S' : ZS} (h : fw q S S') {a k : Nat} (x : Int32) (hs : q a k = true) : fw q S (sA S' a k x) := ⟨h.1, fun b j e => by
  rw [sA_nk]
  · exact h.2 b j e
  · rintro ⟨rfl, rfl⟩; rw [hs] at e; cases e⟩
/-- what the reading of the k-th statement may write -/
def qSt (k b j : Nat) : Bool := (decide (b = 41) && decide (16 * k ≤ j)) || ((decide (b = 39) || decide (b = 40)) && decide (k ≤ j)) || (decide (b = 25) && decide (j = 21))
/-- the numbers alone -/
def qNm (k b j : Nat) : Bool := (decide (b = 41) && decide (16 * k ≤ j)) || (decide (b = 25) && decide (j = 21))
theorem qNm_41 {k j : Nat} (h : 16 * k ≤ j) : qNm k 41 j = true := by unfold qNm; rw [decide_eq_true h]; rfl
theorem qNm_21 (k : Nat) : qNm k 25 21 = true := rfl
theorem qNm_no {k b j : Nat} (h1 : b ≠ 41) (h2 : b ≠ 25) : qNm k b j = false := by simp [qNm, h1, h2]
theorem fw.nm {k : Nat} {S S1 : ZS} (h : fw (qNm k) S S1) : fw (qSt k) S S1 := h.wd fun b j e => by
  unfold qSt at e
  unfold qNm
  obtain ⟨e1, e2⟩ := Bool.or_eq_false_iff.mp e
  rw [(Bool.or_eq_false_iff.mp e1).1, e2]; rfl
theorem qSt_41 {k j : Nat} (h : 16 * k ≤ j) : qSt k 41 j = true := by unfold qSt; rw [decide_eq_true h]; rfl
theorem qSt_21 (k : Nat) : qSt k 25 21 = true := rfl
theorem qSt_39 {k j : Nat} (h : k ≤ j) : qSt k 39 j = true := by unfold qSt; rw [decide_eq_true h]; rfl
theorem qSt_40 {k j : Nat} (h : k ≤ j) : qSt k 40 j = true := by unfold qSt; rw [decide_eq_true h]; rfl
theorem qSt_no {k b j : Nat} (h1 : b < 39 ∨ 41 < b) (h2 : b ≠ 25) : qSt k b j = false := by
  have a1 : ¬ b = 41 := by omega
  have a2 : ¬ b = 39 := by omega
  have a3 : ¬ b = 40 := by omega
  simp [qSt, a1, a2, a3, h2]
theorem qSt_25 {k j : Nat} (h : j ≠ 21) : qSt k 25 j = false := by simp [qSt, h]
def tpV (S : ZS) (tx : Nat → Int32) (L : Nat) : Prop := S.1 25 20 = nI L ∧ L ≤ 80 ∧ ∀ k, k < L → S.1 38 k = tx k
theorem tpV.fw {S S' : ZS} {tx : Nat → Int32} {L k : Nat} (h : tpV S tx L) (f : fw (qSt k) S S') : tpV S' tx L := ⟨by rw [f.2 25 20 (qSt_25 (by decide))]; exact h.1, h.2.1, fun j hj => by rw [f.2 38 j (qSt_no (Or.inl (by decide)) (by decide))]; exact h.2.2 j hj⟩
theorem ltr_in {tx : Nat → Int32} {L p : Nat} (h : p < L) : ltr tx L p = tx p := if_pos h
theorem ltr_out {tx : Nat → Int32} {L p : Nat} (h : ¬ p < L) : ltr tx L p = -1 := if_neg h
theorem dg_in (x : Int32) : inI x 48 57 = isDg x := by
  unfold inI isDg
  rw [← decide_not, ← decide_not]
  congr 1
  · exact decide_eq_decide.mpr Int32.not_lt
  · exact decide_eq_decide.mpr Int32.not_lt
theorem wy_in (x : Int32) : isWy x = true ↔ 0 ≤ wyI2 x := by
  unfold isWy wyI2
  rw [decide_eq_true_iff]
  by_cases h1 : x = 101
  · simp [h1]
  · by_cases h2 : x = 110
    · simp [h2]
    · by_cases h3 : x = 115
      · simp [h3]
      · by_cases h4 : x = 119
        · simp [h4]
        · simp [h1, h2, h3, h4]
set_option maxRecDepth 100000 in
set_option maxHeartbeats 4000000 in
theorem c_X12_next {S : ZS} {n p L : Nat} {tx : Nat → Int32} (ht : tpV S tx L) (hp : S.1 25 21 = nI p) (hp2 : p < 500) : zM m_X12_next 0 0 [.ref 25] (zw S n) (zE (some (.int (ltr tx L p))) (zw S n)) := by
  show Z m_X12_next _ _ _ 0 [some (.ref _)] [] _
  refine Z_aload_n dX12_next_0 rfl (z_isref _) (pc' := 1) rfl ?_
  refine Z_gI dX12_next_1 rfl zgi_RX12_89_25 (pc' := 4) rfl ?_
  refine Z_aload_n dX12_next_4 rfl (z_isref _) (pc' := 5) rfl ?_
  refine Z_gI dX12_next_5 rfl zgi_RX12_81_25 (pc' := 8) rfl ?_
  rw [hp, ht.1]
  refine Z_icmp_ge dX12_next_8 (tgt := 23) rfl (pc' := 11) rfl (fun c_8 => ?_) (fun c_8 => ?_)
  · refine Z_iconst dX12_next_23 (v := (-1)) (by decide) (pc' := 24) rfl ?_
    exact Z_ireturn dX12_next_24 rfl rfl ⟨by rw [ltr_out (by have := ht.2.1; rw [nI_len (by omega) (by omega)] at c_8; omega)], rfl⟩
  · refine Z_aload_n dX12_next_11 rfl (z_isref _) (pc' := 12) rfl ?_
    refine Z_gR dX12_next_12 rfl zgr_RX12_46_25 (pc' := 15) rfl ?_
    refine Z_aload_n dX12_next_15 rfl (z_isref _) (pc' := 16) rfl ?_
    refine Z_gI dX12_next_16 rfl zgi_RX12_89_25 (pc' := 19) rfl ?_
    rw [hp]
    refine Z_il dX12_next_19 zar_38 (zin (by rw [nI_len (by have := ht.2.1; omega) (by omega)] at c_8; have := ht.2.1; omega) (by decide)) (pc' := 20) rfl ?_
    have hlt : p < L := by
      have := ht.2.1
      rw [nI_len (by omega) (by omega)] at c_8; omega
    rw [nI_nat (by omega), ht.2.2 p hlt, ← ltr_in (tx := tx) hlt]
    refine Z_goto dX12_next_20 (tgt := 24) rfl ?_
    exact Z_ireturn dX12_next_24 rfl rfl ⟨rfl, rfl⟩
set_option maxRecDepth 100000 in
set_option maxHeartbeats 4000000 in
theorem lp_X12_ones {S0 : ZS} {n p q L N kk : Nat} {tx : Nat → Int32} (ht : tpV S0 tx L) (hp2 : p < 400) (hN : N ≤ 6) (hq : 16 * kk ≤ q) (hq2 : q + N ≤ 640) {R : Option Value → ZW → Prop} {T : Option Nat} (h1 : ∀ S x, T = some x → fw (qNm kk) S0 S → S.1 25 21 = nI x → R (some (.int 0)) (zw S n)) (h2 : ∀ S, T = none → fw (qNm kk) S0 S → S.1 25 21 = nI (p + N) → (∀ j, j < N → S.1 41 (q + j) = nI (dgN tx L (p + j))) → R (some (.int 1)) (zw S n)) : ∀ (m i : Nat) (S : ZS), i + m = N → fw (qNm kk) S0 S → S.1 25 21 = nI (p + i) → (∀ j, j < i → S.1 41 (q + j) = nI (dgN tx L (p + j))) → dgsF tx L m (p + i) = T → Z m_X12_readsOnes 0 0 R 2 [some (.ref 25), some (.int (nI q)), some (.int (nI N)), some (.int (nI i))] [] (zw S n) := by
  intro m
  induction m with
  | zero =>
    intro i S h f hat hn hT
    obtain rfl : i = N := by omega
    obtain rfl : none = T := hT
    refine Z_iload_n dX12_readsOnes_2 rfl (pc' := 3) rfl ?_
    refine Z_iload_n dX12_readsOnes_3 rfl (pc' := 4) rfl ?_
    refine Z_icmp_ge dX12_readsOnes_4 (tgt := 54) rfl (pc' := 7) rfl (fun c_4 => ?_) (fun c_4 => absurd c_4 (fun c => c ((nI_len (by omega) (by omega)).mpr (Nat.le_refl _))))
    refine Z_iconst dX12_readsOnes_54 (v := 1) (by decide) (pc' := 55) rfl ?_
    exact Z_ireturn dX12_readsOnes_55 rfl (by first | rfl | exact narrow_zb _) (h2 S rfl f hat hn)
  | succ m ih =>
    intro i S h f hat hn hT
    unfold dgsF at hT
    refine Z_iload_n dX12_readsOnes_2 rfl (pc' := 3) rfl ?_
    refine Z_iload_n dX12_readsOnes_3 rfl (pc' := 4) rfl ?_
    refine Z_icmp_ge dX12_readsOnes_4 (tgt := 54) rfl (pc' := 7) rfl (fun c_4 => absurd c_4 (by rw [nI_len (by omega) (by omega)]; omega)) (fun c_4 => ?_)
    refine Z_aload_n dX12_readsOnes_7 rfl (z_isref _) (pc' := 8) rfl ?_
    refine Z_cVe dX12_readsOnes_8 rfl zcw_X12_next (As := []) (rest := []) rfl ⟨Nat.le_of_ble_eq_true rfl, Nat.le_of_ble_eq_true rfl⟩ (Nat.le_of_ble_eq_true rfl) (zRcv.lay zob_25) ⟨zcw_X12_next.2.2.2.2, Nat.le_of_ble_eq_true rfl⟩ zk_RX12_92 (c_X12_next (ht.fw f.nm) hat (by omega)) (pc' := 11) rfl ?_
    refine Z_bipush dX12_readsOnes_11 (v := 48) (by decide) (pc' := 13) rfl ?_
    refine Z_bipush dX12_readsOnes_13 (v := 57) (by decide) (pc' := 15) rfl ?_
    refine Z_cSe dX12_readsOnes_15 rfl zcw_X12_isIn (As := [_, _, _]) (rest := []) rfl ⟨Nat.le_of_ble_eq_true rfl, Nat.le_of_ble_eq_true rfl⟩ (Nat.le_of_ble_eq_true rfl) ⟨zcw_X12_isIn.2.2.2.2, Nat.le_of_ble_eq_true rfl⟩ zk_RX12_96 c_X12_isIn (pc' := 18) rfl ?_
    rw [dg_in]
    refine Z_if_ne dX12_readsOnes_18 (tgt := 23) rfl (pc' := 21) rfl (fun c_18 => ?_) (fun c_18 => ?_)
    · have hd := (zb_ne0 _).mp c_18
      rw [hd, if_pos rfl] at hT
      refine Z_aload_n dX12_readsOnes_23 rfl (z_isref _) (pc' := 24) rfl ?_
      refine Z_gR dX12_readsOnes_24 rfl zgr_RX12_55_25 (pc' := 27) rfl ?_
      refine Z_iload_n dX12_readsOnes_27 rfl (pc' := 28) rfl ?_
      refine Z_iload_n dX12_readsOnes_28 rfl (pc' := 29) rfl ?_
      refine Z_iadd dX12_readsOnes_29 (pc' := 30) rfl ?_
      rw [nI_add]
      refine Z_aload_n dX12_readsOnes_30 rfl (z_isref _) (pc' := 31) rfl ?_
      refine Z_cVe dX12_readsOnes_31 rfl zcw_X12_next (As := []) (rest := [_, _]) rfl ⟨Nat.le_of_ble_eq_true rfl, Nat.le_of_ble_eq_true rfl⟩ (Nat.le_of_ble_eq_true rfl) (zRcv.lay zob_25) ⟨zcw_X12_next.2.2.2.2, Nat.le_of_ble_eq_true rfl⟩ zk_RX12_92 (c_X12_next (ht.fw f.nm) hat (by omega)) (pc' := 34) rfl ?_
      refine Z_bipush dX12_readsOnes_34 (v := 48) (by decide) (pc' := 36) rfl ?_
      refine Z_isub dX12_readsOnes_36 (pc' := 37) rfl ?_
      rw [(dgN_ok hd).1]
      refine Z_is dX12_readsOnes_37 zar_41 (zin (by omega) (by decide)) (pc' := 38) rfl ?_
      rw [nI_nat (by omega)]
      refine Z_aload_n dX12_readsOnes_38 rfl (z_isref _) (pc' := 39) rfl ?_
      refine Z_dup dX12_readsOnes_39 rfl (pc' := 40) rfl ?_
      refine Z_gI dX12_readsOnes_40 rfl zgi_RX12_89_25 (pc' := 43) rfl ?_
      rw [sA_ne _ _ _ (by decide), hat]
      refine Z_iconst dX12_readsOnes_43 (v := 1) (by decide) (pc' := 44) rfl ?_
      refine Z_iadd dX12_readsOnes_44 (pc' := 45) rfl ?_
      rw [show nI (p + i) + 1 = nI (p + (i + 1)) from nI_inc _]
      refine Z_pI dX12_readsOnes_45 rfl zpi_RX12_89_25 (pc' := 48) rfl ?_
      refine Z_iinc dX12_readsOnes_48 rfl (nI_inc i) (Nat.le_of_ble_eq_true rfl) rfl (ls' := [_, _, _, _]) rfl (pc' := 51) rfl ?_
      refine Z_goto dX12_readsOnes_51 (tgt := 2) rfl ?_
      exact ih (i + 1) _ (by omega) (fw_sA (fw_sA f _ (qNm_41 (by omega))) _ (qNm_21 kk)) (sA_eq ..) (fun j hj => by
        rw [sA_ne _ _ _ (by decide), sA_get]
        by_cases e : j = i
        · rw [e, if_pos ⟨rfl, rfl⟩]
        · rw [if_neg (fun g => e (by omega))]; exact hn j (by omega)) hT
    · refine Z_iconst dX12_readsOnes_21 (v := 0) (by decide) (pc' := 22) rfl ?_
      exact Z_ireturn dX12_readsOnes_22 rfl (by first | rfl | exact narrow_zb _) (h1 S (p + i) (by rw [if_neg (by rw [(zb_eq0 _).mp c_18]; decide)] at hT; exact hT.symm) f hat)
set_option maxRecDepth 100000 in
set_option maxHeartbeats 4000000 in
theorem c_X12_readsOnes {S0 : ZS} {n p q L N kk : Nat} {tx : Nat → Int32} (ht : tpV S0 tx L) (hp2 : p < 400) (hN : N ≤ 6) (hq : 16 * kk ≤ q) (hq2 : q + N ≤ 640) (hat : S0.1 25 21 = nI p) : zM m_X12_readsOnes 0 0 [.ref 25, .int (nI q), .int (nI N)] (zw S0 n) (fun r ω => ∃ S, ω = zw S n ∧ fw (qNm kk) S0 S ∧ ((∃ x, dgsF tx L N p = some x ∧ r = some (.int 0) ∧ S.1 25 21 = nI x) ∨ (dgsF tx L N p = none ∧ r = some (.int 1) ∧ S.1 25 21 = nI (p + N) ∧ ∀ j, j < N → S.1 41 (q + j) = nI (dgN tx L (p + j))))) := by
  show Z m_X12_readsOnes _ _ _ 0 [some (.ref _), some (.int _), some (.int _)] [] _
  refine Z_iconst dX12_readsOnes_0 (v := 0) (by decide) (pc' := 1) rfl ?_
  refine Z_istore_n dX12_readsOnes_1 (Nat.le_of_ble_eq_true rfl) (Nat.le_of_ble_eq_true rfl) rfl (ls' := [_, _, _, _]) rfl (pc' := 2) rfl ?_
  exact lp_X12_ones (T := dgsF tx L N p) ht hp2 hN hq hq2 (fun S x e f ha => ⟨S, rfl, f, Or.inl ⟨x, e, rfl, ha⟩⟩) (fun S e f ha hn => ⟨S, rfl, f, Or.inr ⟨e, rfl, ha, hn⟩⟩) N 0 S0 (by omega) fw.rf hat (fun j hj => absurd hj (Nat.not_lt_zero j)) rfl
set_option maxRecDepth 100000 in
set_option maxHeartbeats 4000000 in
theorem lp_X12_ways {S0 : ZS} {n p q L kk : Nat} {tx : Nat → Int32} (ht : tpV S0 tx L) (hp2 : p < 400) (hq : 16 * kk ≤ q) (hq2 : q + 12 ≤ 640) {R : Option Value → ZW → Prop} {T : Nat} (hK : ∀ S, T ≤ 9 → fw (qNm kk) S0 S → S.1 25 21 = nI (p + T) → S.1 41 q = S0.1 41 q → S.1 41 (q + 1) = S0.1 41 (q + 1) → (∀ j, j < T → S.1 41 (q + 3 + j) = wyI2 (ltr tx L (p + j))) → Z m_X12_readsStretch 0 0 R 62 [some (.ref 25), some (.int (nI q)), some (.int (nI T))] [] (zw S n)) : ∀ (m i : Nat) (S : ZS), i + m = 9 → fw (qNm kk) S0 S → S.1 25 21 = nI (p + i) → S.1 41 q = S0.1 41 q → S.1 41 (q + 1) = S0.1 41 (q + 1) → (∀ j, j < i → S.1 41 (q + 3 + j) = wyI2 (ltr tx L (p + j))) → wysN (fun w => isWy (ltr tx L (p + w))) m i = T → Z m_X12_readsStretch 0 0 R 13 [some (.ref 25), some (.int (nI q)), some (.int (nI i))] [] (zw S n) := by
  intro m
  induction m with
  | zero =>
    intro i S h f hat e1 e2 hn hT
    obtain rfl : i = 9 := by omega
    obtain rfl : 9 = T := hT
    refine Z_iload_n dX12_readsStretch_13 rfl (pc' := 14) rfl ?_
    refine Z_bipush dX12_readsStretch_14 (v := 9) (by decide) (pc' := 16) rfl ?_
    refine Z_icmp_ge dX12_readsStretch_16 (tgt := 62) rfl (pc' := 19) rfl (fun c_16 => ?_) (fun c_16 => absurd c_16 (fun c => c (by decide)))
    exact hK S (Nat.le_refl _) f hat e1 e2 hn
  | succ m ih =>
    intro i S h f hat e1 e2 hn hT
    unfold wysN at hT
    refine Z_iload_n dX12_readsStretch_13 rfl (pc' := 14) rfl ?_
    refine Z_bipush dX12_readsStretch_14 (v := 9) (by decide) (pc' := 16) rfl ?_
    refine Z_icmp_ge dX12_readsStretch_16 (tgt := 62) rfl (pc' := 19) rfl (fun c_16 => absurd c_16 (by rw [nI9, nI_len (by decide) (by omega)]; omega)) (fun c_16 => ?_)
    refine Z_aload_n dX12_readsStretch_19 rfl (z_isref _) (pc' := 20) rfl ?_
    refine Z_cVe dX12_readsStretch_20 rfl zcw_X12_next (As := []) (rest := []) rfl ⟨Nat.le_of_ble_eq_true rfl, Nat.le_of_ble_eq_true rfl⟩ (Nat.le_of_ble_eq_true rfl) (zRcv.lay zob_25) ⟨zcw_X12_next.2.2.2.2, Nat.le_of_ble_eq_true rfl⟩ zk_RX12_92 (c_X12_next (ht.fw f.nm) hat (by omega)) (pc' := 23) rfl ?_
    refine Z_cSe dX12_readsStretch_23 rfl zcw_X12_wayOf (As := [_]) (rest := []) rfl ⟨Nat.le_of_ble_eq_true rfl, Nat.le_of_ble_eq_true rfl⟩ (Nat.le_of_ble_eq_true rfl) ⟨zcw_X12_wayOf.2.2.2.2, Nat.le_of_ble_eq_true rfl⟩ zk_RX12_104 c_X12_wayOf (pc' := 26) rfl ?_
    refine Z_if_lt dX12_readsStretch_26 (tgt := 62) rfl (pc' := 29) rfl (fun c_26 => ?_) (fun c_26 => ?_)
    · rw [if_neg (fun g => i_nlt ((wy_in _).mp g) c_26)] at hT
      subst hT
      exact hK S (by omega) f hat e1 e2 hn
    · rw [if_pos ((wy_in _).mpr (i_le c_26))] at hT
      refine Z_aload_n dX12_readsStretch_29 rfl (z_isref _) (pc' := 30) rfl ?_
      refine Z_gR dX12_readsStretch_30 rfl zgr_RX12_55_25 (pc' := 33) rfl ?_
      refine Z_iload_n dX12_readsStretch_33 rfl (pc' := 34) rfl ?_
      refine Z_iconst dX12_readsStretch_34 (v := 3) (by decide) (pc' := 35) rfl ?_
      refine Z_iadd dX12_readsStretch_35 (pc' := 36) rfl ?_
      rw [show nI q + 3 = nI (q + 3) from by rw [show (3 : Int32) = nI 3 from rfl, nI_add]]
      refine Z_iload_n dX12_readsStretch_36 rfl (pc' := 37) rfl ?_
      refine Z_iadd dX12_readsStretch_37 (pc' := 38) rfl ?_
      rw [nI_add]
      refine Z_aload_n dX12_readsStretch_38 rfl (z_isref _) (pc' := 39) rfl ?_
      refine Z_cVe dX12_readsStretch_39 rfl zcw_X12_next (As := []) (rest := [_, _]) rfl ⟨Nat.le_of_ble_eq_true rfl, Nat.le_of_ble_eq_true rfl⟩ (Nat.le_of_ble_eq_true rfl) (zRcv.lay zob_25) ⟨zcw_X12_next.2.2.2.2, Nat.le_of_ble_eq_true rfl⟩ zk_RX12_92 (c_X12_next (ht.fw f.nm) hat (by omega)) (pc' := 42) rfl ?_
      refine Z_cSe dX12_readsStretch_42 rfl zcw_X12_wayOf (As := [_]) (rest := [_, _]) rfl ⟨Nat.le_of_ble_eq_true rfl, Nat.le_of_ble_eq_true rfl⟩ (Nat.le_of_ble_eq_true rfl) ⟨zcw_X12_wayOf.2.2.2.2, Nat.le_of_ble_eq_true rfl⟩ zk_RX12_104 c_X12_wayOf (pc' := 45) rfl ?_
      refine Z_is dX12_readsStretch_45 zar_41 (zin (by omega) (by decide)) (pc' := 46) rfl ?_
      rw [nI_nat (by omega)]
      refine Z_aload_n dX12_readsStretch_46 rfl (z_isref _) (pc' := 47) rfl ?_
      refine Z_dup dX12_readsStretch_47 rfl (pc' := 48) rfl ?_
      refine Z_gI dX12_readsStretch_48 rfl zgi_RX12_89_25 (pc' := 51) rfl ?_
      rw [sA_ne _ _ _ (by decide), hat]
      refine Z_iconst dX12_readsStretch_51 (v := 1) (by decide) (pc' := 52) rfl ?_
      refine Z_iadd dX12_readsStretch_52 (pc' := 53) rfl ?_
      rw [show nI (p + i) + 1 = nI (p + (i + 1)) from nI_inc _]
      refine Z_pI dX12_readsStretch_53 rfl zpi_RX12_89_25 (pc' := 56) rfl ?_
      refine Z_iinc dX12_readsStretch_56 rfl (nI_inc i) (Nat.le_of_ble_eq_true rfl) rfl (ls' := [_, _, _]) rfl (pc' := 59) rfl ?_
      refine Z_goto dX12_readsStretch_59 (tgt := 13) rfl ?_
      exact ih (i + 1) _ (by omega) (fw_sA (fw_sA f _ (qNm_41 (by omega))) _ (qNm_21 kk)) (sA_eq ..) (by rw [sA_ne _ _ _ (by decide), sA_nk _ _ (by omega)]; exact e1) (by rw [sA_ne _ _ _ (by decide), sA_nk _ _ (by omega)]; exact e2) (fun j hj => by
        rw [sA_ne _ _ _ (by decide), sA_get]
        by_cases e : j = i
        · rw [e, if_pos ⟨rfl, rfl⟩]
        · rw [if_neg (fun g => e (by omega))]; exact hn j (by omega)) hT
/-- what readsStretch leaves behind -/
def rsR (S0 : ZS) (n p q L kk : Nat) (tx : Nat → Int32) (r : Option Value) (ω : ZW) : Prop := ∃ S, ω = zw S n ∧ fw (qNm kk) S0 S ∧
  ((∃ x, dgsF tx L 2 p = some x ∧ r = some (.int 0) ∧ S.1 25 21 = nI x) ∨
   (dgsF tx L 2 p = none ∧ r = some (.int (if wys tx L (p + 2) = 0 then 0 else 1)) ∧ S.1 25 21 = nI (p + 2 + wys tx L (p + 2)) ∧ S.1 41 q = nI (dgN tx L p) ∧ S.1 41 (q + 1) = nI (dgN tx L (p + 1)) ∧ S.1 41 (q + 2) = nI (wys tx L (p + 2)) ∧ ∀ j, j < wys tx L (p + 2) → S.1 41 (q + 3 + j) = wyI2 (ltr tx L (p + 2 + j))))
theorem rs_ret {S0 S : ZS} {n p q L kk : Nat} {tx : Nat → Int32} {x : Int32} (hq : 16 * kk ≤ q) (hd : dgsF tx L 2 p = none) (f : fw (qNm kk) S0 S) (hat : S.1 25 21 = nI (p + 2 + wys tx L (p + 2))) (e1 : S.1 41 q = nI (dgN tx L p)) (e2 : S.1 41 (q + 1) = nI (dgN tx L (p + 1))) (hn : ∀ j, j < wys tx L (p + 2) → S.1 41 (q + 3 + j) = wyI2 (ltr tx L (p + 2 + j))) (hx : (wys tx L (p + 2) = 0 ∧ x = 0) ∨ (wys tx L (p + 2) ≠ 0 ∧ x = 1)) : rsR S0 n p q L kk tx (some (.int x)) (zw (sA S 41 (q + 2) (nI (wys tx L (p + 2)))) n) := by
  refine ⟨_, rfl, fw_sA f _ (qNm_41 (by omega)), Or.inr ⟨hd, ?_, ?_, ?_, ?_, sA_eq .., fun j hj => ?_⟩⟩
  · rcases hx with ⟨h1, rfl⟩ | ⟨h1, rfl⟩
    · rw [if_pos h1]
    · rw [if_neg h1]
  · rw [sA_ne _ _ _ (by decide)]; exact hat
  · rw [sA_nk _ _ (by omega)]; exact e1
  · rw [sA_nk _ _ (by omega)]; exact e2
  · rw [sA_nk _ _ (by omega)]; exact hn j hj
set_option maxRecDepth 100000 in
set_option maxHeartbeats 4000000 in
theorem c_X12_rs_62 {S0 : ZS} {n p q L kk : Nat} {tx : Nat → Int32} (ht : tpV S0 tx L) (hp2 : p < 390) (hq : 16 * kk ≤ q) (hq2 : q + 12 ≤ 640) {S : ZS} (hd : dgsF tx L 2 p = none) (f : fw (qNm kk) S0 S) (hat : S.1 25 21 = nI (p + 2 + wys tx L (p + 2))) (e1 : S.1 41 q = nI (dgN tx L p)) (e2 : S.1 41 (q + 1) = nI (dgN tx L (p + 1))) (hn : ∀ j, j < wys tx L (p + 2) → S.1 41 (q + 3 + j) = wyI2 (ltr tx L (p + 2 + j))) : Z m_X12_readsStretch 0 0 (rsR S0 n p q L kk tx) 62 [some (.ref 25), some (.int (nI q)), some (.int (nI (wys tx L (p + 2))))] [] (zw S n) := by
  have hw9 := wys_le tx L (p + 2)
  refine Z_aload_n dX12_readsStretch_62 rfl (z_isref _) (pc' := 63) rfl ?_
  refine Z_gR dX12_readsStretch_63 rfl zgr_RX12_55_25 (pc' := 66) rfl ?_
  refine Z_iload_n dX12_readsStretch_66 rfl (pc' := 67) rfl ?_
  refine Z_iconst dX12_readsStretch_67 (v := 2) (by decide) (pc' := 68) rfl ?_
  refine Z_iadd dX12_readsStretch_68 (pc' := 69) rfl ?_
  rw [show nI q + 2 = nI (q + 2) from by rw [show (2 : Int32) = nI 2 from rfl, nI_add]]
  refine Z_iload_n dX12_readsStretch_69 rfl (pc' := 70) rfl ?_
  refine Z_is dX12_readsStretch_70 zar_41 (zin (by omega) (by decide)) (pc' := 71) rfl ?_
  rw [nI_nat (by omega)]
  refine Z_iload_n dX12_readsStretch_71 rfl (pc' := 72) rfl ?_
  refine Z_if_le dX12_readsStretch_72 (tgt := 79) rfl (pc' := 75) rfl (fun c_72 => ?_) (fun c_72 => ?_)
  · refine Z_iconst dX12_readsStretch_79 (v := 0) (by decide) (pc' := 80) rfl ?_
    exact Z_ireturn dX12_readsStretch_80 rfl (by first | rfl | exact narrow_zb _) (rs_ret hq hd f hat e1 e2 hn (Or.inl ⟨by rw [show (0 : Int32) = nI 0 from rfl, nI_len (by omega) (by decide)] at c_72; omega, rfl⟩))
  · refine Z_iconst dX12_readsStretch_75 (v := 1) (by decide) (pc' := 76) rfl ?_
    refine Z_goto dX12_readsStretch_76 (tgt := 80) rfl ?_
    exact Z_ireturn dX12_readsStretch_80 rfl (by first | rfl | exact narrow_zb _) (rs_ret hq hd f hat e1 e2 hn (Or.inr ⟨fun g => c_72 (by rw [g]; decide), rfl⟩))
set_option maxRecDepth 100000 in
set_option maxHeartbeats 4000000 in
theorem c_X12_readsStretch {S0 : ZS} {n p q L kk : Nat} {tx : Nat → Int32} (ht : tpV S0 tx L) (hp2 : p < 390) (hq : 16 * kk ≤ q) (hq2 : q + 12 ≤ 640) (hat : S0.1 25 21 = nI p) : zM m_X12_readsStretch 0 0 [.ref 25, .int (nI q)] (zw S0 n) (rsR S0 n p q L kk tx) := by
  show Z m_X12_readsStretch _ _ _ 0 [some (.ref _), some (.int _)] [] _
  refine Z_aload_n dX12_readsStretch_0 rfl (z_isref _) (pc' := 1) rfl ?_
  refine Z_iload_n dX12_readsStretch_1 rfl (pc' := 2) rfl ?_
  refine Z_iconst dX12_readsStretch_2 (v := 2) (by decide) (pc' := 3) rfl ?_
  refine Z_cV dX12_readsStretch_3 rfl zcw_X12_readsOnes (As := [_, _]) (rest := []) rfl ⟨Nat.le_of_ble_eq_true rfl, Nat.le_of_ble_eq_true rfl⟩ (Nat.le_of_ble_eq_true rfl) (zRcv.lay zob_25) ⟨zcw_X12_readsOnes.2.2.2.2, Nat.le_of_ble_eq_true rfl⟩ zk_RX12_100 (c_X12_readsOnes (N := 2) ht (by omega) (by decide) hq (by omega) hat) (pc' := 6) rfl (fun r_3 w_3 h_3 => ?_)
  obtain ⟨S, rfl, f, h⟩ := h_3
  rcases h with ⟨x, hx, rfl, ha⟩ | ⟨hd, rfl, ha, hn⟩
  · show Z _ _ _ _ _ _ (.int 0 :: []) _
    refine Z_if_ne dX12_readsStretch_6 (tgt := 11) rfl (pc' := 9) rfl (fun c_6 => absurd c_6 (fun q => q rfl)) (fun c_6 => ?_)
    refine Z_iconst dX12_readsStretch_9 (v := 0) (by decide) (pc' := 10) rfl ?_
    exact Z_ireturn dX12_readsStretch_10 rfl (by first | rfl | exact narrow_zb _) ⟨S, rfl, f, Or.inl ⟨x, hx, rfl, ha⟩⟩
  · show Z _ _ _ _ _ _ (.int 1 :: []) _
    refine Z_if_ne dX12_readsStretch_6 (tgt := 11) rfl (pc' := 9) rfl (fun c_6 => ?_) (fun c_6 => absurd c_6 (by decide))
    refine Z_iconst dX12_readsStretch_11 (v := 0) (by decide) (pc' := 12) rfl ?_
    refine Z_istore_n dX12_readsStretch_12 (Nat.le_of_ble_eq_true rfl) (Nat.le_of_ble_eq_true rfl) rfl (ls' := [_, _, _]) rfl (pc' := 13) rfl ?_
    refine lp_X12_ways (p := p + 2) (kk := kk) (T := wys tx L (p + 2)) (ht.fw f.nm) (by omega) hq hq2 (fun S2 h9 f2 ha2 g1 g2 hn2 => ?_) 9 0 S (by omega) fw.rf ha rfl rfl (fun j hj => absurd hj (Nat.not_lt_zero j)) rfl
    exact c_X12_rs_62 ht hp2 hq hq2 hd (f.tr f2) ha2 (by rw [g1]; exact hn 0 (by decide)) (by rw [g2]; exact hn 1 (by decide)) hn2
/-- the numbers of the i-th statement, which begins at p -/
def nmV (S : ZS) (tx : Nat → Int32) (L i p : Nat) : Prop := S.1 39 i = ltr tx L p ∧ S.1 40 i = nI p ∧
  (ltr tx L p = 99 → S.1 41 (16 * i) = nI (dgN tx L (p + 1)) ∧ S.1 41 (16 * i + 1) = nI (dgN tx L (p + 2)) ∧ S.1 41 (16 * i + 2) = nI (wys tx L (p + 3)) ∧ ∀ j, j < wys tx L (p + 3) → S.1 41 (16 * i + 3 + j) = wyI2 (ltr tx L (p + 3 + j))) ∧
  (ltr tx L p = 114 → ∀ j, j < 6 → S.1 41 (16 * i + j) = nI (dgN tx L (p + 1 + j))) ∧
  (ltr tx L p = 116 → S.1 41 (16 * i) = nI (dgN tx L (p + 1)))
/-- what statement leaves behind -/
def stR (S0 : ZS) (n p L kk : Nat) (tx : Nat → Int32) (r : Option Value) (ω : ZW) : Prop := ∃ S, ω = zw S n ∧ fw (qSt kk) S0 S ∧
  ((∃ x, bsO tx L p = .inr x ∧ r = some (.int 0) ∧ S.1 25 21 = nI x) ∨ (∃ x, bsO tx L p = .inl x ∧ r = some (.int 1) ∧ S.1 25 21 = nI x ∧ nmV S tx L kk p))
theorem nmV.at {S : ZS} {tx : Nat → Int32} {L i p : Nat} (h : nmV S tx L i p) (x : Int32) : nmV (sA S 25 21 x) tx L i p := by
  unfold nmV
  rw [sA_ne _ _ _ (by decide), sA_ne _ _ _ (by decide), sA_ne _ _ _ (by decide)]
  exact h
theorem nmV.fw {S S' : ZS} {tx : Nat → Int32} {L i p k : Nat} (h : nmV S tx L i p) (hi : i < k) (f : fw (qSt k) S S') : nmV S' tx L i p := by
  obtain ⟨h1, h2, h3, h4, h5⟩ := h
  have g : ∀ j, j < 16 → S'.1 41 (16 * i + j) = S.1 41 (16 * i + j) := fun j hj => f.2 41 _ (by
    have : ¬ 16 * k ≤ 16 * i + j := by omega
    simp [qSt, this])
  have hk : ¬ k ≤ i := by omega
  have hw := wys_le tx L (p + 3)
  refine ⟨by rw [f.2 39 i (by simp [qSt, hk])]; exact h1, by rw [f.2 40 i (by simp [qSt, hk])]; exact h2, fun e => ?_, fun e j hj => ?_, fun e => ?_⟩
  · obtain ⟨a, b, c, d⟩ := h3 e
    have g0 := g 0 (by decide)
    rw [Nat.add_zero] at g0
    exact ⟨by rw [g0]; exact a, by rw [g 1 (by decide)]; exact b, by rw [g 2 (by decide)]; exact c, fun j hj => by rw [Nat.add_assoc, g (3 + j) (by omega), ← Nat.add_assoc]; exact d j hj⟩
  · rw [g j (by omega)]; exact h4 e j hj
  · have g0 := g 0 (by decide)
    rw [Nat.add_zero] at g0
    rw [g0]; exact h5 e
theorem bsO_none {tx : Nat → Int32} {L p : Nat} (h1 : ¬ ltr tx L p = 99) (h2 : ¬ ltr tx L p = 114) (h3 : ¬ ltr tx L p = 116) : bsO tx L p = .inr p := by
  unfold bsO doN
  rw [if_neg h1, if_neg h2, if_neg h3]
theorem bsO_c {tx : Nat → Int32} {L p : Nat} (h : ltr tx L p = 99) : bsO tx L p = match dgsF tx L 2 (p + 1) with
    | some q => .inr q
    | none => if wys tx L (p + 3) = 0 then .inr (p + 3) else if ltr tx L (p + 3 + wys tx L (p + 3)) = 59 then .inl (p + 3 + wys tx L (p + 3) + 1) else .inr (p + 3 + wys tx L (p + 3)) := by
  unfold bsO doN bsT
  rw [if_pos h]
  simp only [if_pos h]
  cases dgsF tx L 2 (p + 1) <;> rfl
theorem bsO_r {tx : Nat → Int32} {L p : Nat} (h : ltr tx L p = 114) : bsO tx L p = match dgsF tx L 6 (p + 1) with
    | some q => .inr q
    | none => if ltr tx L (p + 1 + 6) = 59 then .inl (p + 1 + 6 + 1) else .inr (p + 1 + 6) := by
  have h1 : ¬ ltr tx L p = 99 := by rw [h]; decide
  unfold bsO doN bsT
  rw [if_neg h1, if_pos h]
  simp only [if_neg h1]
  cases dgsF tx L 6 (p + 1) <;> rfl
theorem bsO_t {tx : Nat → Int32} {L p : Nat} (h : ltr tx L p = 116) : bsO tx L p = match dgsF tx L 1 (p + 1) with
    | some q => .inr q
    | none => if ltr tx L (p + 1 + 1) = 59 then .inl (p + 1 + 1 + 1) else .inr (p + 1 + 1) := by
  have h1 : ¬ ltr tx L p = 99 := by rw [h]; decide
  have h2 : ¬ ltr tx L p = 114 := by rw [h]; decide
  unfold bsO doN bsT
  rw [if_neg h1, if_neg h2, if_pos h]
  simp only [if_neg h1]
  cases dgsF tx L 1 (p + 1) <;> rfl
theorem nmV_c {S1 S2 : ZS} {tx : Nat → Int32} {L kk p : Nat} (hb : ltr tx L p = 99) (l1 : S1.1 39 kk = ltr tx L p) (l2 : S1.1 40 kk = nI p) (f2 : fw (qNm kk) S1 S2) (e1 : S2.1 41 (16 * kk) = nI (dgN tx L (p + 1))) (e2 : S2.1 41 (16 * kk + 1) = nI (dgN tx L (p + 2))) (e3 : S2.1 41 (16 * kk + 2) = nI (wys tx L (p + 3))) (e4 : ∀ j, j < wys tx L (p + 3) → S2.1 41 (16 * kk + 3 + j) = wyI2 (ltr tx L (p + 3 + j))) : nmV S2 tx L kk p :=
  ⟨by rw [f2.2 39 kk (qNm_no (by decide) (by decide))]; exact l1, by rw [f2.2 40 kk (qNm_no (by decide) (by decide))]; exact l2, fun _ => ⟨e1, e2, e3, e4⟩, fun q => by rw [hb] at q; exact absurd q (by decide), fun q => by rw [hb] at q; exact absurd q (by decide)⟩
theorem nmV_r {S1 S2 : ZS} {tx : Nat → Int32} {L kk p : Nat} (hb : ltr tx L p = 114) (l1 : S1.1 39 kk = ltr tx L p) (l2 : S1.1 40 kk = nI p) (f2 : fw (qNm kk) S1 S2) (hn : ∀ j, j < 6 → S2.1 41 (16 * kk + j) = nI (dgN tx L (p + 1 + j))) : nmV S2 tx L kk p :=
  ⟨by rw [f2.2 39 kk (qNm_no (by decide) (by decide))]; exact l1, by rw [f2.2 40 kk (qNm_no (by decide) (by decide))]; exact l2, fun q => by rw [hb] at q; exact absurd q (by decide), fun _ => hn, fun q => by rw [hb] at q; exact absurd q (by decide)⟩
theorem nmV_t {S1 S2 : ZS} {tx : Nat → Int32} {L kk p : Nat} (hb : ltr tx L p = 116) (l1 : S1.1 39 kk = ltr tx L p) (l2 : S1.1 40 kk = nI p) (f2 : fw (qNm kk) S1 S2) (hn : ∀ j, j < 1 → S2.1 41 (16 * kk + j) = nI (dgN tx L (p + 1 + j))) : nmV S2 tx L kk p :=
  ⟨by rw [f2.2 39 kk (qNm_no (by decide) (by decide))]; exact l1, by rw [f2.2 40 kk (qNm_no (by decide) (by decide))]; exact l2, fun q => by rw [hb] at q; exact absurd q (by decide), fun q => by rw [hb] at q; exact absurd q (by decide), fun _ => hn 0 (by decide)⟩
set_option maxRecDepth 100000 in
set_option maxHeartbeats 4000000 in
theorem c_X12_st_103 {S0 : ZS} {n p L kk : Nat} {tx : Nat → Int32} (ht : tpV S0 tx L) (hp2 : p < 300) (hkk : kk < 40) {S : ZS} {y z : Int32} {e : Nat} (he : e < 400) (f : fw (qSt kk) S0 S) (hat : S.1 25 21 = nI e) (h1 : ¬ ltr tx L e = 59 → bsO tx L p = .inr e) (h2 : ltr tx L e = 59 → bsO tx L p = .inl (e + 1) ∧ nmV S tx L kk p) : Z m_X12_statement 0 0 (stR S0 n p L kk tx) 103 [some (.ref 25), some (.int y), some (.int z)] [] (zw S n) := by
  refine Z_aload_n dX12_statement_103 rfl (z_isref _) (pc' := 104) rfl ?_
  refine Z_cVe dX12_statement_104 rfl zcw_X12_next (As := []) (rest := []) rfl ⟨Nat.le_of_ble_eq_true rfl, Nat.le_of_ble_eq_true rfl⟩ (Nat.le_of_ble_eq_true rfl) (zRcv.lay zob_25) ⟨zcw_X12_next.2.2.2.2, Nat.le_of_ble_eq_true rfl⟩ zk_RX12_92 (c_X12_next (ht.fw f) hat (by omega)) (pc' := 107) rfl ?_
  refine Z_bipush dX12_statement_107 (v := 59) (by decide) (pc' := 109) rfl ?_
  refine Z_icmp_eq dX12_statement_109 (tgt := 114) rfl (pc' := 112) rfl (fun c_109 => ?_) (fun c_109 => ?_)
  · refine Z_aload_n dX12_statement_114 rfl (z_isref _) (pc' := 115) rfl ?_
    refine Z_dup dX12_statement_115 rfl (pc' := 116) rfl ?_
    refine Z_gI dX12_statement_116 rfl zgi_RX12_89_25 (pc' := 119) rfl ?_
    rw [hat]
    refine Z_iconst dX12_statement_119 (v := 1) (by decide) (pc' := 120) rfl ?_
    refine Z_iadd dX12_statement_120 (pc' := 121) rfl ?_
    rw [show nI e + 1 = nI (e + 1) from nI_inc e]
    refine Z_pI dX12_statement_121 rfl zpi_RX12_89_25 (pc' := 124) rfl ?_
    refine Z_iconst dX12_statement_124 (v := 1) (by decide) (pc' := 125) rfl ?_
    exact Z_ireturn dX12_statement_125 rfl (by first | rfl | exact narrow_zb _) ⟨_, rfl, fw_sA f _ (qSt_21 kk), Or.inr ⟨e + 1, (h2 c_109).1, rfl, sA_eq .., (h2 c_109).2.at _⟩⟩
  · refine Z_iconst dX12_statement_112 (v := 0) (by decide) (pc' := 113) rfl ?_
    exact Z_ireturn dX12_statement_113 rfl (by first | rfl | exact narrow_zb _) ⟨S, rfl, f, Or.inl ⟨e, h1 c_109, rfl, hat⟩⟩
set_option maxRecDepth 100000 in
set_option maxHeartbeats 4000000 in
theorem c_X12_st_112 {S0 : ZS} {n p L kk : Nat} {tx : Nat → Int32} (ht : tpV S0 tx L) (hp2 : p < 300) (hkk : kk < 40) {S : ZS} {y z : Int32} {e : Nat} (f : fw (qSt kk) S0 S) (hat : S.1 25 21 = nI e) (h1 : bsO tx L p = .inr e) : Z m_X12_statement 0 0 (stR S0 n p L kk tx) 112 [some (.ref 25), some (.int y), some (.int z)] [] (zw S n) := by
  refine Z_iconst dX12_statement_112 (v := 0) (by decide) (pc' := 113) rfl ?_
  exact Z_ireturn dX12_statement_113 rfl (by first | rfl | exact narrow_zb _) ⟨S, rfl, f, Or.inl ⟨e, h1, rfl, hat⟩⟩
set_option maxRecDepth 100000 in
set_option maxHeartbeats 4000000 in
theorem c_X12_st_66c {S0 : ZS} {n p L kk : Nat} {tx : Nat → Int32} (ht : tpV S0 tx L) (hp2 : p < 300) (hkk : kk < 40) (hb : ltr tx L p = 99) {S1 : ZS} (f1 : fw (qSt kk) S0 S1) (a1 : S1.1 25 21 = nI (p + 1)) (l1 : S1.1 39 kk = ltr tx L p) (l2 : S1.1 40 kk = nI p) : Z m_X12_statement 0 0 (stR S0 n p L kk tx) 66 [some (.ref 25), some (.int (ltr tx L p)), some (.int (nI (16 * kk)))] [] (zw S1 n) := by
  refine Z_iload_n dX12_statement_66 rfl (pc' := 67) rfl ?_
  refine Z_bipush dX12_statement_67 (v := 99) (by decide) (pc' := 69) rfl ?_
  refine Z_icmp_ne dX12_statement_69 (tgt := 83) rfl (pc' := 72) rfl (fun c_69 => absurd c_69 (fun q => q hb)) (fun c_69 => ?_)
  refine Z_aload_n dX12_statement_72 rfl (z_isref _) (pc' := 73) rfl ?_
  refine Z_iload_n dX12_statement_73 rfl (pc' := 74) rfl ?_
  refine Z_cV dX12_statement_74 rfl zcw_X12_readsStretch (As := [_]) (rest := []) rfl ⟨Nat.le_of_ble_eq_true rfl, Nat.le_of_ble_eq_true rfl⟩ (Nat.le_of_ble_eq_true rfl) (zRcv.lay zob_25) ⟨zcw_X12_readsStretch.2.2.2.2, Nat.le_of_ble_eq_true rfl⟩ zk_RX12_110 (c_X12_readsStretch (p := p + 1) (kk := kk) (ht.fw f1) (by omega) (Nat.le_refl _) (by omega) a1) (pc' := 77) rfl (fun r_74 w_74 h_74 => ?_)
  obtain ⟨S2, rfl, f2, h⟩ := h_74
  rcases h with ⟨x, hx, rfl, ha⟩ | ⟨hd, rfl, ha, e1, e2, e3, e4⟩
  · show Z _ _ _ _ _ _ (.int 0 :: []) _
    refine Z_if_eq dX12_statement_77 (tgt := 112) rfl (pc' := 80) rfl (fun c_77 => ?_) (fun c_77 => absurd c_77 (fun q => q rfl))
    exact c_X12_st_112 ht hp2 hkk (f1.tr f2.nm) ha (by rw [bsO_c hb, hx])
  · skip
    by_cases hw : wys tx L (p + 1 + 2) = 0
    · rw [if_pos hw]
      show Z _ _ _ _ _ _ (.int 0 :: []) _
      refine Z_if_eq dX12_statement_77 (tgt := 112) rfl (pc' := 80) rfl (fun c_77 => ?_) (fun c_77 => absurd c_77 (fun q => q rfl))
      rw [hw] at ha
      exact c_X12_st_112 (e := p + 3) ht hp2 hkk (f1.tr f2.nm) ha (by rw [bsO_c hb, hd]; simp only []; rw [if_pos hw])
    · rw [if_neg hw]
      show Z _ _ _ _ _ _ (.int 1 :: []) _
      refine Z_if_eq dX12_statement_77 (tgt := 112) rfl (pc' := 80) rfl (fun c_77 => absurd c_77 (by decide)) (fun c_77 => ?_)
      refine Z_goto dX12_statement_80 (tgt := 103) rfl ?_
      exact c_X12_st_103 (e := p + 3 + wys tx L (p + 3)) ht hp2 hkk (by have := wys_le tx L (p + 3); omega) (f1.tr f2.nm) ha (fun q => by rw [bsO_c hb, hd]; simp only []; rw [if_neg hw, if_neg q]) (fun q => ⟨by rw [bsO_c hb, hd]; simp only []; rw [if_neg hw, if_pos q], nmV_c hb l1 l2 f2 e1 e2 e3 e4⟩)
set_option maxRecDepth 100000 in
set_option maxHeartbeats 4000000 in
theorem c_X12_st_66r {S0 : ZS} {n p L kk : Nat} {tx : Nat → Int32} (ht : tpV S0 tx L) (hp2 : p < 300) (hkk : kk < 40) (hb : ltr tx L p = 114) {S1 : ZS} (f1 : fw (qSt kk) S0 S1) (a1 : S1.1 25 21 = nI (p + 1)) (l1 : S1.1 39 kk = ltr tx L p) (l2 : S1.1 40 kk = nI p) : Z m_X12_statement 0 0 (stR S0 n p L kk tx) 66 [some (.ref 25), some (.int (ltr tx L p)), some (.int (nI (16 * kk)))] [] (zw S1 n) := by
  refine Z_iload_n dX12_statement_66 rfl (pc' := 67) rfl ?_
  refine Z_bipush dX12_statement_67 (v := 99) (by decide) (pc' := 69) rfl ?_
  refine Z_icmp_ne dX12_statement_69 (tgt := 83) rfl (pc' := 72) rfl (fun c_69 => ?_) (fun c_69 => absurd c_69 (fun q => by rw [hb] at q; exact absurd q (by decide)))
  refine Z_aload_n dX12_statement_83 rfl (z_isref _) (pc' := 84) rfl ?_
  refine Z_iload_n dX12_statement_84 rfl (pc' := 85) rfl ?_
  refine Z_iload_n dX12_statement_85 rfl (pc' := 86) rfl ?_
  refine Z_bipush dX12_statement_86 (v := 114) (by decide) (pc' := 88) rfl ?_
  refine Z_icmp_ne dX12_statement_88 (tgt := 96) rfl (pc' := 91) rfl (fun c_88 => absurd c_88 (fun q => q hb)) (fun c_88 => ?_)
  refine Z_bipush dX12_statement_91 (v := 6) (by decide) (pc' := 93) rfl ?_
  refine Z_goto dX12_statement_93 (tgt := 97) rfl ?_
  refine Z_cV dX12_statement_97 rfl zcw_X12_readsOnes (As := [_, _]) (rest := []) rfl ⟨Nat.le_of_ble_eq_true rfl, Nat.le_of_ble_eq_true rfl⟩ (Nat.le_of_ble_eq_true rfl) (zRcv.lay zob_25) ⟨zcw_X12_readsOnes.2.2.2.2, Nat.le_of_ble_eq_true rfl⟩ zk_RX12_100 (c_X12_readsOnes (p := p + 1) (kk := kk) (N := 6) (ht.fw f1) (by omega) (by decide) (Nat.le_refl _) (by omega) a1) (pc' := 100) rfl (fun r_97 w_97 h_97 => ?_)
  obtain ⟨S2, rfl, f2, h⟩ := h_97
  rcases h with ⟨x, hx, rfl, ha⟩ | ⟨hd, rfl, ha, hn⟩
  · show Z _ _ _ _ _ _ (.int 0 :: []) _
    refine Z_if_eq dX12_statement_100 (tgt := 112) rfl (pc' := 103) rfl (fun c_100 => ?_) (fun c_100 => absurd c_100 (fun q => q rfl))
    exact c_X12_st_112 ht hp2 hkk (f1.tr f2.nm) ha (by rw [bsO_r hb, hx])
  · show Z _ _ _ _ _ _ (.int 1 :: []) _
    refine Z_if_eq dX12_statement_100 (tgt := 112) rfl (pc' := 103) rfl (fun c_100 => absurd c_100 (by decide)) (fun c_100 => ?_)
    exact c_X12_st_103 ht hp2 hkk (by omega) (f1.tr f2.nm) ha (fun q => by rw [bsO_r hb, hd]; simp only []; rw [if_neg q]) (fun q => ⟨by rw [bsO_r hb, hd]; simp only []; rw [if_pos q], nmV_r hb l1 l2 f2 hn⟩)
set_option maxRecDepth 100000 in
set_option maxHeartbeats 4000000 in
theorem c_X12_st_66t {S0 : ZS} {n p L kk : Nat} {tx : Nat → Int32} (ht : tpV S0 tx L) (hp2 : p < 300) (hkk : kk < 40) (hb : ltr tx L p = 116) {S1 : ZS} (f1 : fw (qSt kk) S0 S1) (a1 : S1.1 25 21 = nI (p + 1)) (l1 : S1.1 39 kk = ltr tx L p) (l2 : S1.1 40 kk = nI p) : Z m_X12_statement 0 0 (stR S0 n p L kk tx) 66 [some (.ref 25), some (.int (ltr tx L p)), some (.int (nI (16 * kk)))] [] (zw S1 n) := by
  refine Z_iload_n dX12_statement_66 rfl (pc' := 67) rfl ?_
  refine Z_bipush dX12_statement_67 (v := 99) (by decide) (pc' := 69) rfl ?_
  refine Z_icmp_ne dX12_statement_69 (tgt := 83) rfl (pc' := 72) rfl (fun c_69 => ?_) (fun c_69 => absurd c_69 (fun q => by rw [hb] at q; exact absurd q (by decide)))
  refine Z_aload_n dX12_statement_83 rfl (z_isref _) (pc' := 84) rfl ?_
  refine Z_iload_n dX12_statement_84 rfl (pc' := 85) rfl ?_
  refine Z_iload_n dX12_statement_85 rfl (pc' := 86) rfl ?_
  refine Z_bipush dX12_statement_86 (v := 114) (by decide) (pc' := 88) rfl ?_
  refine Z_icmp_ne dX12_statement_88 (tgt := 96) rfl (pc' := 91) rfl (fun c_88 => ?_) (fun c_88 => absurd c_88 (fun q => by rw [hb] at q; exact absurd q (by decide)))
  refine Z_iconst dX12_statement_96 (v := 1) (by decide) (pc' := 97) rfl ?_
  refine Z_cV dX12_statement_97 rfl zcw_X12_readsOnes (As := [_, _]) (rest := []) rfl ⟨Nat.le_of_ble_eq_true rfl, Nat.le_of_ble_eq_true rfl⟩ (Nat.le_of_ble_eq_true rfl) (zRcv.lay zob_25) ⟨zcw_X12_readsOnes.2.2.2.2, Nat.le_of_ble_eq_true rfl⟩ zk_RX12_100 (c_X12_readsOnes (p := p + 1) (kk := kk) (N := 1) (ht.fw f1) (by omega) (by decide) (Nat.le_refl _) (by omega) a1) (pc' := 100) rfl (fun r_97 w_97 h_97 => ?_)
  obtain ⟨S2, rfl, f2, h⟩ := h_97
  rcases h with ⟨x, hx, rfl, ha⟩ | ⟨hd, rfl, ha, hn⟩
  · show Z _ _ _ _ _ _ (.int 0 :: []) _
    refine Z_if_eq dX12_statement_100 (tgt := 112) rfl (pc' := 103) rfl (fun c_100 => ?_) (fun c_100 => absurd c_100 (fun q => q rfl))
    exact c_X12_st_112 ht hp2 hkk (f1.tr f2.nm) ha (by rw [bsO_t hb, hx])
  · show Z _ _ _ _ _ _ (.int 1 :: []) _
    refine Z_if_eq dX12_statement_100 (tgt := 112) rfl (pc' := 103) rfl (fun c_100 => absurd c_100 (by decide)) (fun c_100 => ?_)
    exact c_X12_st_103 ht hp2 hkk (by omega) (f1.tr f2.nm) ha (fun q => by rw [bsO_t hb, hd]; simp only []; rw [if_neg q]) (fun q => ⟨by rw [bsO_t hb, hd]; simp only []; rw [if_pos q], nmV_t hb l1 l2 f2 hn⟩)
set_option maxRecDepth 100000 in
set_option maxHeartbeats 4000000 in
theorem c_X12_statement {S0 : ZS} {n p L kk : Nat} {tx : Nat → Int32} (ht : tpV S0 tx L) (hp2 : p < 300) (hkk : kk < 40) (hat : S0.1 25 21 = nI p) (hst : S0.1 25 22 = nI kk) : zM m_X12_statement 0 0 [.ref 25] (zw S0 n) (stR S0 n p L kk tx) := by
  show Z m_X12_statement _ _ _ 0 [some (.ref _)] [] _
  refine Z_aload_n dX12_statement_0 rfl (z_isref _) (pc' := 1) rfl ?_
  refine Z_cVe dX12_statement_1 rfl zcw_X12_next (As := []) (rest := []) rfl ⟨Nat.le_of_ble_eq_true rfl, Nat.le_of_ble_eq_true rfl⟩ (Nat.le_of_ble_eq_true rfl) (zRcv.lay zob_25) ⟨zcw_X12_next.2.2.2.2, Nat.le_of_ble_eq_true rfl⟩ zk_RX12_92 (c_X12_next ht hat (by omega)) (pc' := 4) rfl ?_
  refine Z_istore_n dX12_statement_4 (Nat.le_of_ble_eq_true rfl) (Nat.le_of_ble_eq_true rfl) rfl (ls' := [_, _]) rfl (pc' := 5) rfl ?_
  refine Z_iload_n dX12_statement_5 rfl (pc' := 6) rfl ?_
  refine Z_bipush dX12_statement_6 (v := 99) (by decide) (pc' := 8) rfl ?_
  refine Z_icmp_eq dX12_statement_8 (tgt := 25) rfl (pc' := 11) rfl (fun c_8 => ?_) (fun c_8 => ?_)
  · refine Z_aload_n dX12_statement_25 rfl (z_isref _) (pc' := 26) rfl ?_
    refine Z_gR dX12_statement_26 rfl zgr_RX12_49_25 (pc' := 29) rfl ?_
    refine Z_aload_n dX12_statement_29 rfl (z_isref _) (pc' := 30) rfl ?_
    refine Z_gI dX12_statement_30 rfl zgi_RX12_107_25 (pc' := 33) rfl ?_
    rw [hst]
    refine Z_iload_n dX12_statement_33 rfl (pc' := 34) rfl ?_
    refine Z_is dX12_statement_34 zar_39 (zin (by omega) (by decide)) (pc' := 35) rfl ?_
    rw [nI_nat (by omega)]
    refine Z_aload_n dX12_statement_35 rfl (z_isref _) (pc' := 36) rfl ?_
    refine Z_gR dX12_statement_36 rfl zgr_RX12_52_25 (pc' := 39) rfl ?_
    refine Z_aload_n dX12_statement_39 rfl (z_isref _) (pc' := 40) rfl ?_
    refine Z_gI dX12_statement_40 rfl zgi_RX12_107_25 (pc' := 43) rfl ?_
    rw [sA_ne _ _ _ (by decide), hst]
    refine Z_aload_n dX12_statement_43 rfl (z_isref _) (pc' := 44) rfl ?_
    refine Z_gI dX12_statement_44 rfl zgi_RX12_89_25 (pc' := 47) rfl ?_
    rw [sA_ne _ _ _ (by decide), hat]
    refine Z_is dX12_statement_47 zar_40 (zin (by omega) (by decide)) (pc' := 48) rfl ?_
    rw [nI_nat (by omega)]
    refine Z_aload_n dX12_statement_48 rfl (z_isref _) (pc' := 49) rfl ?_
    refine Z_dup dX12_statement_49 rfl (pc' := 50) rfl ?_
    refine Z_gI dX12_statement_50 rfl zgi_RX12_89_25 (pc' := 53) rfl ?_
    rw [sA_ne _ _ _ (by decide), sA_ne _ _ _ (by decide), hat]
    refine Z_iconst dX12_statement_53 (v := 1) (by decide) (pc' := 54) rfl ?_
    refine Z_iadd dX12_statement_54 (pc' := 55) rfl ?_
    rw [show nI p + 1 = nI (p + 1) from nI_inc p]
    refine Z_pI dX12_statement_55 rfl zpi_RX12_89_25 (pc' := 58) rfl ?_
    refine Z_bipush dX12_statement_58 (v := 16) (by decide) (pc' := 60) rfl ?_
    refine Z_aload_n dX12_statement_60 rfl (z_isref _) (pc' := 61) rfl ?_
    refine Z_gI dX12_statement_61 rfl zgi_RX12_107_25 (pc' := 64) rfl ?_
    rw [sA_nk _ _ (by decide), sA_ne _ _ _ (by decide), sA_ne _ _ _ (by decide), hst]
    refine Z_imul dX12_statement_64 (pc' := 65) rfl ?_
    rw [show (16 : Int32) * nI kk = nI (16 * kk) from by rw [show (16 : Int32) = nI 16 from rfl, nI_mul]]
    refine Z_istore_n dX12_statement_65 (Nat.le_of_ble_eq_true rfl) (Nat.le_of_ble_eq_true rfl) rfl (ls' := [_, _, _]) rfl (pc' := 66) rfl ?_
    exact c_X12_st_66c ht hp2 hkk c_8 (fw_sA (fw_sA (fw_sA fw.rf _ (qSt_39 (Nat.le_refl kk))) _ (qSt_40 (Nat.le_refl kk))) _ (qSt_21 kk)) (sA_eq ..) (by rw [sA_ne _ _ _ (by decide), sA_ne _ _ _ (by decide), sA_eq]) (by rw [sA_ne _ _ _ (by decide), sA_eq])
  · refine Z_iload_n dX12_statement_11 rfl (pc' := 12) rfl ?_
    refine Z_bipush dX12_statement_12 (v := 114) (by decide) (pc' := 14) rfl ?_
    refine Z_icmp_eq dX12_statement_14 (tgt := 25) rfl (pc' := 17) rfl (fun c_14 => ?_) (fun c_14 => ?_)
    · refine Z_aload_n dX12_statement_25 rfl (z_isref _) (pc' := 26) rfl ?_
      refine Z_gR dX12_statement_26 rfl zgr_RX12_49_25 (pc' := 29) rfl ?_
      refine Z_aload_n dX12_statement_29 rfl (z_isref _) (pc' := 30) rfl ?_
      refine Z_gI dX12_statement_30 rfl zgi_RX12_107_25 (pc' := 33) rfl ?_
      rw [hst]
      refine Z_iload_n dX12_statement_33 rfl (pc' := 34) rfl ?_
      refine Z_is dX12_statement_34 zar_39 (zin (by omega) (by decide)) (pc' := 35) rfl ?_
      rw [nI_nat (by omega)]
      refine Z_aload_n dX12_statement_35 rfl (z_isref _) (pc' := 36) rfl ?_
      refine Z_gR dX12_statement_36 rfl zgr_RX12_52_25 (pc' := 39) rfl ?_
      refine Z_aload_n dX12_statement_39 rfl (z_isref _) (pc' := 40) rfl ?_
      refine Z_gI dX12_statement_40 rfl zgi_RX12_107_25 (pc' := 43) rfl ?_
      rw [sA_ne _ _ _ (by decide), hst]
      refine Z_aload_n dX12_statement_43 rfl (z_isref _) (pc' := 44) rfl ?_
      refine Z_gI dX12_statement_44 rfl zgi_RX12_89_25 (pc' := 47) rfl ?_
      rw [sA_ne _ _ _ (by decide), hat]
      refine Z_is dX12_statement_47 zar_40 (zin (by omega) (by decide)) (pc' := 48) rfl ?_
      rw [nI_nat (by omega)]
      refine Z_aload_n dX12_statement_48 rfl (z_isref _) (pc' := 49) rfl ?_
      refine Z_dup dX12_statement_49 rfl (pc' := 50) rfl ?_
      refine Z_gI dX12_statement_50 rfl zgi_RX12_89_25 (pc' := 53) rfl ?_
      rw [sA_ne _ _ _ (by decide), sA_ne _ _ _ (by decide), hat]
      refine Z_iconst dX12_statement_53 (v := 1) (by decide) (pc' := 54) rfl ?_
      refine Z_iadd dX12_statement_54 (pc' := 55) rfl ?_
      rw [show nI p + 1 = nI (p + 1) from nI_inc p]
      refine Z_pI dX12_statement_55 rfl zpi_RX12_89_25 (pc' := 58) rfl ?_
      refine Z_bipush dX12_statement_58 (v := 16) (by decide) (pc' := 60) rfl ?_
      refine Z_aload_n dX12_statement_60 rfl (z_isref _) (pc' := 61) rfl ?_
      refine Z_gI dX12_statement_61 rfl zgi_RX12_107_25 (pc' := 64) rfl ?_
      rw [sA_nk _ _ (by decide), sA_ne _ _ _ (by decide), sA_ne _ _ _ (by decide), hst]
      refine Z_imul dX12_statement_64 (pc' := 65) rfl ?_
      rw [show (16 : Int32) * nI kk = nI (16 * kk) from by rw [show (16 : Int32) = nI 16 from rfl, nI_mul]]
      refine Z_istore_n dX12_statement_65 (Nat.le_of_ble_eq_true rfl) (Nat.le_of_ble_eq_true rfl) rfl (ls' := [_, _, _]) rfl (pc' := 66) rfl ?_
      exact c_X12_st_66r ht hp2 hkk c_14 (fw_sA (fw_sA (fw_sA fw.rf _ (qSt_39 (Nat.le_refl kk))) _ (qSt_40 (Nat.le_refl kk))) _ (qSt_21 kk)) (sA_eq ..) (by rw [sA_ne _ _ _ (by decide), sA_ne _ _ _ (by decide), sA_eq]) (by rw [sA_ne _ _ _ (by decide), sA_eq])
    · refine Z_iload_n dX12_statement_17 rfl (pc' := 18) rfl ?_
      refine Z_bipush dX12_statement_18 (v := 116) (by decide) (pc' := 20) rfl ?_
      refine Z_icmp_eq dX12_statement_20 (tgt := 25) rfl (pc' := 23) rfl (fun c_20 => ?_) (fun c_20 => ?_)
      · refine Z_aload_n dX12_statement_25 rfl (z_isref _) (pc' := 26) rfl ?_
        refine Z_gR dX12_statement_26 rfl zgr_RX12_49_25 (pc' := 29) rfl ?_
        refine Z_aload_n dX12_statement_29 rfl (z_isref _) (pc' := 30) rfl ?_
        refine Z_gI dX12_statement_30 rfl zgi_RX12_107_25 (pc' := 33) rfl ?_
        rw [hst]
        refine Z_iload_n dX12_statement_33 rfl (pc' := 34) rfl ?_
        refine Z_is dX12_statement_34 zar_39 (zin (by omega) (by decide)) (pc' := 35) rfl ?_
        rw [nI_nat (by omega)]
        refine Z_aload_n dX12_statement_35 rfl (z_isref _) (pc' := 36) rfl ?_
        refine Z_gR dX12_statement_36 rfl zgr_RX12_52_25 (pc' := 39) rfl ?_
        refine Z_aload_n dX12_statement_39 rfl (z_isref _) (pc' := 40) rfl ?_
        refine Z_gI dX12_statement_40 rfl zgi_RX12_107_25 (pc' := 43) rfl ?_
        rw [sA_ne _ _ _ (by decide), hst]
        refine Z_aload_n dX12_statement_43 rfl (z_isref _) (pc' := 44) rfl ?_
        refine Z_gI dX12_statement_44 rfl zgi_RX12_89_25 (pc' := 47) rfl ?_
        rw [sA_ne _ _ _ (by decide), hat]
        refine Z_is dX12_statement_47 zar_40 (zin (by omega) (by decide)) (pc' := 48) rfl ?_
        rw [nI_nat (by omega)]
        refine Z_aload_n dX12_statement_48 rfl (z_isref _) (pc' := 49) rfl ?_
        refine Z_dup dX12_statement_49 rfl (pc' := 50) rfl ?_
        refine Z_gI dX12_statement_50 rfl zgi_RX12_89_25 (pc' := 53) rfl ?_
        rw [sA_ne _ _ _ (by decide), sA_ne _ _ _ (by decide), hat]
        refine Z_iconst dX12_statement_53 (v := 1) (by decide) (pc' := 54) rfl ?_
        refine Z_iadd dX12_statement_54 (pc' := 55) rfl ?_
        rw [show nI p + 1 = nI (p + 1) from nI_inc p]
        refine Z_pI dX12_statement_55 rfl zpi_RX12_89_25 (pc' := 58) rfl ?_
        refine Z_bipush dX12_statement_58 (v := 16) (by decide) (pc' := 60) rfl ?_
        refine Z_aload_n dX12_statement_60 rfl (z_isref _) (pc' := 61) rfl ?_
        refine Z_gI dX12_statement_61 rfl zgi_RX12_107_25 (pc' := 64) rfl ?_
        rw [sA_nk _ _ (by decide), sA_ne _ _ _ (by decide), sA_ne _ _ _ (by decide), hst]
        refine Z_imul dX12_statement_64 (pc' := 65) rfl ?_
        rw [show (16 : Int32) * nI kk = nI (16 * kk) from by rw [show (16 : Int32) = nI 16 from rfl, nI_mul]]
        refine Z_istore_n dX12_statement_65 (Nat.le_of_ble_eq_true rfl) (Nat.le_of_ble_eq_true rfl) rfl (ls' := [_, _, _]) rfl (pc' := 66) rfl ?_
        exact c_X12_st_66t ht hp2 hkk c_20 (fw_sA (fw_sA (fw_sA fw.rf _ (qSt_39 (Nat.le_refl kk))) _ (qSt_40 (Nat.le_refl kk))) _ (qSt_21 kk)) (sA_eq ..) (by rw [sA_ne _ _ _ (by decide), sA_ne _ _ _ (by decide), sA_eq]) (by rw [sA_ne _ _ _ (by decide), sA_eq])
      · refine Z_iconst dX12_statement_23 (v := 0) (by decide) (pc' := 24) rfl ?_
        exact Z_ireturn dX12_statement_24 rfl (by first | rfl | exact narrow_zb _) ⟨S0, rfl, fw.rf, Or.inl ⟨p, bsO_none c_8 c_14 c_20, rfl, hat⟩⟩
