theorem sA_same (S : ZS) (a k : Nat) (x : Int32) : (sA S a k x).1 a = zup (S.1 a) k x := zup_same _ _ _
theorem sA_ne (S : ZS) {a b : Nat} (k : Nat) (x : Int32) (h : b ≠ a) : (sA S a k x).1 b = S.1 b := zup_ne _ _ h
theorem sA_2 (S : ZS) (a k : Nat) (x : Int32) : (sA S a k x).2 = S.2 := rfl
/-- the letters: L of them, tx -/
def lV (S : ZS) (tx : Nat → Int32) (L : Nat) : Prop := S.1 21 1 = nI L ∧ L ≤ 80 ∧ ∀ k, k < L → S.1 22 k = tx k
def ltr (tx : Nat → Int32) (L k : Nat) : Int32 := if k < L then tx k else -1
theorem lV.at {S : ZS} {tx : Nat → Int32} {L : Nat} (h : lV S tx L) {k : Nat} (hk : k < 1000) : lI (S.1 22) (S.1 21 1) (nI k) = ltr tx L k := by
  have hL := h.2.1
  unfold lI ltr
  rw [h.1]
  rcases Nat.lt_or_ge k L with q | q
  · rw [if_pos q, if_neg, nI_nat (by omega), h.2.2 k q]
    simp only [not_or]
    exact ⟨nI_neg (by omega), by rw [nI_len (by omega) (by omega)]; omega, by rw [show (80 : Int32) = nI 80 from rfl, nI_len (by omega) (by omega)]; omega⟩
  · rw [if_neg (show ¬ k < L by omega), if_pos (show nI k < 0 ∨ nI L ≤ nI k ∨ 80 ≤ nI k from Or.inr (Or.inl (by rw [nI_len (by omega) (by omega)]; exact q)))]
set_option maxRecDepth 100000 in
set_option maxHeartbeats 4000000 in
theorem c_X3_append {S : ZS} {n L : Nat} {x : Int32} (hs : S.1 21 1 = nI L) (hL : L ≤ 80) : zM m_X3_append 0 0 [.ref 21, .int x] (zw S n) (fun r ω => (L < 80 ∧ r = some (.int 1) ∧ ω = zw (sA (sA S 22 L x) 21 1 (nI (L + 1))) n) ∨ (L = 80 ∧ r = some (.int 0) ∧ ω = zw S n)) := by
  show Z m_X3_append _ _ _ 0 [some (.ref _), some (.int _)] [] _
  refine Z_aload_n dX3_append_0 rfl (z_isref _) (pc' := 1) rfl ?_
  refine Z_gI dX3_append_1 rfl zgi_RX3_15_21 (pc' := 4) rfl ?_
  rw [hs]
  refine Z_if_lt dX3_append_4 (tgt := 19) rfl (pc' := 7) rfl (fun c_4 => absurd c_4 (nI_neg (by omega))) (fun c_4 => ?_)
  refine Z_aload_n dX3_append_7 rfl (z_isref _) (pc' := 8) rfl ?_
  refine Z_gI dX3_append_8 rfl zgi_RX3_15_21 (pc' := 11) rfl ?_
  refine Z_aload_n dX3_append_11 rfl (z_isref _) (pc' := 12) rfl ?_
  refine Z_gR dX3_append_12 rfl zgr_RX3_9_21 (pc' := 15) rfl ?_
  refine Z_al dX3_append_15 zar_22 (v := 80) (by decide) (pc' := 16) rfl ?_
  rw [hs]
  refine Z_icmp_lt dX3_append_16 (tgt := 21) rfl (pc' := 19) rfl (fun c_16 => ?_) (fun c_16 => ?_)
  · have hlt : L < 80 := by rw [show (80 : Int32) = nI 80 from rfl, nI_ltn (by omega) (by omega)] at c_16; exact c_16
    refine Z_aload_n dX3_append_21 rfl (z_isref _) (pc' := 22) rfl ?_
    refine Z_gR dX3_append_22 rfl zgr_RX3_9_21 (pc' := 25) rfl ?_
    refine Z_aload_n dX3_append_25 rfl (z_isref _) (pc' := 26) rfl ?_
    refine Z_gI dX3_append_26 rfl zgi_RX3_15_21 (pc' := 29) rfl ?_
    rw [hs]
    refine Z_iload_n dX3_append_29 rfl (pc' := 30) rfl ?_
    refine Z_is dX3_append_30 zar_22 (zin hlt (by decide)) (pc' := 31) rfl ?_
    rw [nI_nat (by omega)]
    refine Z_aload_n dX3_append_31 rfl (z_isref _) (pc' := 32) rfl ?_
    refine Z_dup dX3_append_32 rfl (pc' := 33) rfl ?_
    refine Z_gI dX3_append_33 rfl zgi_RX3_15_21 (pc' := 36) rfl ?_
    rw [show (sA S 22 L x).1 21 1 = nI L from hs]
    refine Z_iconst dX3_append_36 (v := 1) (by decide) (pc' := 37) rfl ?_
    refine Z_iadd dX3_append_37 (pc' := 38) rfl ?_
    rw [nI_1]
    refine Z_pI dX3_append_38 rfl zpi_RX3_15_21 (pc' := 41) rfl ?_
    refine Z_iconst dX3_append_41 (v := 1) (by decide) (pc' := 42) rfl ?_
    exact Z_ireturn dX3_append_42 rfl rfl (Or.inl ⟨hlt, rfl, rfl⟩)
  · refine Z_iconst dX3_append_19 (v := 0) (by decide) (pc' := 20) rfl ?_
    exact Z_ireturn dX3_append_20 rfl rfl (Or.inr ⟨by rw [show (80 : Int32) = nI 80 from rfl, nI_ltn (by omega) (by omega)] at c_16; omega, rfl, rfl⟩)
def wysN (q : Nat → Bool) : Nat → Nat → Nat
  | 0, w => w
  | m + 1, w => if q w then wysN q m (w + 1) else w
theorem wysN_le (q : Nat → Bool) : ∀ m w, wysN q m w ≤ w + m
  | 0, w => Nat.le_refl _
  | m + 1, w => by
    unfold wysN
    split
    · have := wysN_le q m (w + 1); omega
    · omega
/-- how many ways from p on -/
def wys (tx : Nat → Int32) (L p : Nat) : Nat := wysN (fun w => isWy (ltr tx L (p + w))) 9 0
theorem wys_le (tx : Nat → Int32) (L p : Nat) : wys tx L p ≤ 9 := by have := wysN_le (fun w => isWy (ltr tx L (p + w))) 9 0; unfold wys; omega
set_option maxRecDepth 100000 in
set_option maxHeartbeats 4000000 in
theorem lp_X3_waysFrom {S : ZS} {n p L : Nat} {tx : Nat → Int32} (hl : lV S tx L) (hp : p < 500) {R : Option Value → ZW → Prop} : ∀ (m k : Nat), k + m = 9 → R (some (.int (nI (wysN (fun w => isWy (ltr tx L (p + w))) m k)))) (zw S n) → Z m_X3_waysFrom 0 0 R 2 [some (.ref 21), some (.int (nI p)), some (.int (nI k))] [] (zw S n) := by
  intro m
  induction m with
  | zero =>
    intro k e hR
    obtain rfl : k = 9 := by omega
    refine Z_iload_n dX3_waysFrom_2 rfl (pc' := 3) rfl ?_
    refine Z_bipush dX3_waysFrom_3 (v := 9) (by decide) (pc' := 5) rfl ?_
    refine Z_icmp_ge dX3_waysFrom_5 (tgt := 24) rfl (pc' := 8) rfl (fun c_5 => ?_) (fun c_5 => absurd c_5 (fun c => c (by decide)))
    refine Z_iload_n dX3_waysFrom_24 rfl (pc' := 25) rfl ?_
    exact Z_ireturn dX3_waysFrom_25 rfl rfl hR
  | succ m ih =>
    intro k e hR
    unfold wysN at hR
    refine Z_iload_n dX3_waysFrom_2 rfl (pc' := 3) rfl ?_
    refine Z_bipush dX3_waysFrom_3 (v := 9) (by decide) (pc' := 5) rfl ?_
    refine Z_icmp_ge dX3_waysFrom_5 (tgt := 24) rfl (pc' := 8) rfl (fun c_5 => absurd c_5 (by rw [nI9, nI_len (by omega) (by omega)]; omega)) (fun c_5 => ?_)
    refine Z_aload_n dX3_waysFrom_8 rfl (z_isref _) (pc' := 9) rfl ?_
    refine Z_iload_n dX3_waysFrom_9 rfl (pc' := 10) rfl ?_
    refine Z_iload_n dX3_waysFrom_10 rfl (pc' := 11) rfl ?_
    refine Z_iadd dX3_waysFrom_11 (pc' := 12) rfl ?_
    rw [nI_add]
    refine Z_cVe dX3_waysFrom_12 rfl zcw_X3_isWay (As := [_]) (rest := []) rfl ⟨Nat.le_of_ble_eq_true rfl, Nat.le_of_ble_eq_true rfl⟩ (Nat.le_of_ble_eq_true rfl) (zRcv.lay zob_21) ⟨zcw_X3_isWay.2.2.2.2, Nat.le_of_ble_eq_true rfl⟩ zk_RX3_26 c_X3_isWay (pc' := 15) rfl ?_
    rw [hl.at (by omega)]
    refine Z_if_eq dX3_waysFrom_15 (tgt := 24) rfl (pc' := 18) rfl (fun c_15 => ?_) (fun c_15 => ?_)
    · refine Z_iload_n dX3_waysFrom_24 rfl (pc' := 25) rfl ?_
      exact Z_ireturn dX3_waysFrom_25 rfl rfl (by rw [if_neg (by rw [(zb_eq0 _).mp c_15]; simp)] at hR; exact hR)
    · refine Z_iinc dX3_waysFrom_18 rfl (nI_inc k) (Nat.le_of_ble_eq_true rfl) rfl (ls' := [_, _, _]) rfl (pc' := 21) rfl ?_
      refine Z_goto dX3_waysFrom_21 (tgt := 2) rfl ?_
      refine Z_take 3 (ls' := [_, _, _]) rfl ?_
      exact ih (k + 1) (by omega) (by rw [if_pos ((zb_ne0 _).mp c_15)] at hR; exact hR)
set_option maxRecDepth 100000 in
set_option maxHeartbeats 4000000 in
theorem c_X3_waysFrom {S : ZS} {n p L : Nat} {tx : Nat → Int32} (hl : lV S tx L) (hp : p < 500) : zM m_X3_waysFrom 0 0 [.ref 21, .int (nI p)] (zw S n) (zE (some (.int (nI (wys tx L p)))) (zw S n)) := by
  show Z m_X3_waysFrom _ _ _ 0 [some (.ref _), some (.int _)] [] _
  refine Z_iconst dX3_waysFrom_0 (v := 0) (by decide) (pc' := 1) rfl ?_
  refine Z_istore_n dX3_waysFrom_1 (Nat.le_of_ble_eq_true rfl) (Nat.le_of_ble_eq_true rfl) rfl (ls' := [_, _, _]) rfl (pc' := 2) rfl ?_
  exact lp_X3_waysFrom hl hp 9 0 rfl ⟨rfl, rfl⟩
/-- m digits from p on: none is wrong, or the place of the first that is -/
def dgsF (tx : Nat → Int32) (L : Nat) : Nat → Nat → Option Nat
  | 0, _ => none
  | m + 1, p => if isDg (ltr tx L p) then dgsF tx L m (p + 1) else some p
def doN (x : Int32) : Option Nat := if x = 99 then some 2 else if x = 114 then some 6 else if x = 116 then some 1 else none
/-- behind the digits at p, of a statement that begins with x -/
def bsT (tx : Nat → Int32) (L : Nat) (x : Int32) (p : Nat) : Nat ⊕ Nat :=
  if x = 99 then (if wys tx L p = 0 then .inr p else if ltr tx L (p + wys tx L p) = 59 then .inl (p + wys tx L p + 1) else .inr (p + wys tx L p))
  else if ltr tx L p = 59 then .inl (p + 1) else .inr p
/-- behind the statement at p, or the place of its first wrong letter -/
def bsO (tx : Nat → Int32) (L p : Nat) : Nat ⊕ Nat := match doN (ltr tx L p) with
  | none => .inr p
  | some k => match dgsF tx L k (p + 1) with
    | some q => .inr q
    | none => bsT tx L (ltr tx L p) (p + 1 + k)
def bsI (r : Nat ⊕ Nat) : Int32 := match r with
  | .inl q => nI q
  | .inr q => -1 - nI q
theorem doI_N (x : Int32) : doI x = match doN x with
    | none => -1
    | some k => nI k := by
  unfold doI doN
  by_cases h1 : x = 99
  · simp [h1]; rfl
  · by_cases h2 : x = 114
    · simp [h2]; rfl
    · by_cases h3 : x = 116
      · simp [h3]; rfl
      · simp [h1, h2, h3]
theorem doN_le {x : Int32} {k : Nat} (h : doN x = some k) : k ≤ 6 := by
  unfold doN at h
  split at h
  · cases h; omega
  · split at h
    · cases h; omega
    · split at h
      · cases h; omega
      · cases h
set_option maxRecDepth 100000 in
set_option maxHeartbeats 4000000 in
theorem lp_X3_behind {S : ZS} {n p L k : Nat} {tx : Nat → Int32} (hl : lV S tx L) (hp : p < 400) (hk : k ≤ 6) {R : Option Value → ZW → Prop} : ∀ (m i q : Nat), i + m = k → q < 450 + i → (∀ x, dgsF tx L m q = some x → R (some (.int (-1 - nI x))) (zw S n)) → (dgsF tx L m q = none → Z m_X3_behindStatement 0 0 R 51 [some (.ref 21), some (.int (nI p)), some (.int (nI k)), some (.int (nI (q + m))), some (.int (nI k))] [] (zw S n)) → Z m_X3_behindStatement 0 0 R 24 [some (.ref 21), some (.int (nI p)), some (.int (nI k)), some (.int (nI q)), some (.int (nI i))] [] (zw S n) := by
  intro m
  induction m with
  | zero =>
    intro i q e hq hR hK
    obtain rfl : i = k := by omega
    refine Z_iload dX3_behindStatement_24 rfl (pc' := 26) rfl ?_
    refine Z_iload_n dX3_behindStatement_26 rfl (pc' := 27) rfl ?_
    refine Z_icmp_ge dX3_behindStatement_27 (tgt := 51) rfl (pc' := 30) rfl (fun c_27 => ?_) (fun c_27 => absurd c_27 (fun c => c (Int32.le_refl _)))
    exact hK rfl
  | succ m ih =>
    intro i q e hq hR hK
    unfold dgsF at hR hK
    refine Z_iload dX3_behindStatement_24 rfl (pc' := 26) rfl ?_
    refine Z_iload_n dX3_behindStatement_26 rfl (pc' := 27) rfl ?_
    refine Z_icmp_ge dX3_behindStatement_27 (tgt := 51) rfl (pc' := 30) rfl (fun c_27 => absurd c_27 (by rw [nI_len (by omega) (by omega)]; omega)) (fun c_27 => ?_)
    refine Z_aload_n dX3_behindStatement_30 rfl (z_isref _) (pc' := 31) rfl ?_
    refine Z_iload_n dX3_behindStatement_31 rfl (pc' := 32) rfl ?_
    refine Z_cVe dX3_behindStatement_32 rfl zcw_X3_isDigit (As := [_]) (rest := []) rfl ⟨Nat.le_of_ble_eq_true rfl, Nat.le_of_ble_eq_true rfl⟩ (Nat.le_of_ble_eq_true rfl) (zRcv.lay zob_21) ⟨zcw_X3_isDigit.2.2.2.2, Nat.le_of_ble_eq_true rfl⟩ zk_RX3_33 c_X3_isDigit (pc' := 35) rfl ?_
    rw [hl.at (by omega)]
    refine Z_if_ne dX3_behindStatement_35 (tgt := 42) rfl (pc' := 38) rfl (fun c_35 => ?_) (fun c_35 => ?_)
    · refine Z_iinc dX3_behindStatement_42 rfl (nI_inc q) (Nat.le_of_ble_eq_true rfl) rfl (ls' := [_, _, _, _, _]) rfl (pc' := 45) rfl ?_
      refine Z_iinc dX3_behindStatement_45 rfl (nI_inc i) (Nat.le_of_ble_eq_true rfl) rfl (ls' := [_, _, _, _, _]) rfl (pc' := 48) rfl ?_
      refine Z_goto dX3_behindStatement_48 (tgt := 24) rfl ?_
      rw [if_pos ((zb_ne0 _).mp c_35)] at hR hK
      exact ih (i + 1) (q + 1) (by omega) (by omega) hR (by rw [show q + 1 + m = q + (m + 1) by omega]; exact hK)
    · refine Z_iconst dX3_behindStatement_38 (v := (-1)) (by decide) (pc' := 39) rfl ?_
      refine Z_iload_n dX3_behindStatement_39 rfl (pc' := 40) rfl ?_
      refine Z_isub dX3_behindStatement_40 (pc' := 41) rfl ?_
      exact Z_ireturn dX3_behindStatement_41 rfl rfl (hR q (by rw [if_neg (by rw [(zb_eq0 _).mp c_35]; simp)]))
set_option maxRecDepth 100000 in
set_option maxHeartbeats 4000000 in
theorem c_X3_behind_3 {S : ZS} {n p L k : Nat} {tx : Nat → Int32} (hl : lV S tx L) (hp : p < 400) (hk : k ≤ 6) : Z m_X3_behindStatement 0 0 (zE (some (.int (bsI (bsT tx L (ltr tx L p) (p + 1 + k))))) (zw S n)) 51 [some (.ref 21), some (.int (nI p)), some (.int (nI k)), some (.int (nI (p + 1 + k))), some (.int (nI k))] [] (zw S n) := by
  refine Z_aload_n dX3_behindStatement_51 rfl (z_isref _) (pc' := 52) rfl ?_
  refine Z_iload_n dX3_behindStatement_52 rfl (pc' := 53) rfl ?_
  refine Z_cVe dX3_behindStatement_53 rfl zcw_X3_letterAt (As := [_]) (rest := []) rfl ⟨Nat.le_of_ble_eq_true rfl, Nat.le_of_ble_eq_true rfl⟩ (Nat.le_of_ble_eq_true rfl) (zRcv.lay zob_21) ⟨zcw_X3_letterAt.2.2.2.2, Nat.le_of_ble_eq_true rfl⟩ zk_RX3_19 c_X3_letterAt (pc' := 56) rfl ?_
  rw [hl.at (by omega)]
  refine Z_bipush dX3_behindStatement_56 (v := 99) (by decide) (pc' := 58) rfl ?_
  refine Z_icmp_ne dX3_behindStatement_58 (tgt := 82) rfl (pc' := 61) rfl (fun c_58 => ?_) (fun c_58 => ?_)
  · refine Z_aload_n dX3_behindStatement_82 rfl (z_isref _) (pc' := 83) rfl ?_
    refine Z_iload_n dX3_behindStatement_83 rfl (pc' := 84) rfl ?_
    refine Z_cVe dX3_behindStatement_84 rfl zcw_X3_letterAt (As := [_]) (rest := []) rfl ⟨Nat.le_of_ble_eq_true rfl, Nat.le_of_ble_eq_true rfl⟩ (Nat.le_of_ble_eq_true rfl) (zRcv.lay zob_21) ⟨zcw_X3_letterAt.2.2.2.2, Nat.le_of_ble_eq_true rfl⟩ zk_RX3_19 c_X3_letterAt (pc' := 87) rfl ?_
    rw [hl.at (by omega)]
    refine Z_bipush dX3_behindStatement_87 (v := 59) (by decide) (pc' := 89) rfl ?_
    refine Z_icmp_ne dX3_behindStatement_89 (tgt := 98) rfl (pc' := 92) rfl (fun c_89 => ?_) (fun c_89 => ?_)
    · refine Z_iconst dX3_behindStatement_98 (v := (-1)) (by decide) (pc' := 99) rfl ?_
      refine Z_iload_n dX3_behindStatement_99 rfl (pc' := 100) rfl ?_
      refine Z_isub dX3_behindStatement_100 (pc' := 101) rfl ?_
      exact Z_ireturn dX3_behindStatement_101 rfl rfl ⟨by unfold bsT; rw [if_neg c_58, if_neg c_89]; rfl, rfl⟩
    · refine Z_iload_n dX3_behindStatement_92 rfl (pc' := 93) rfl ?_
      refine Z_iconst dX3_behindStatement_93 (v := 1) (by decide) (pc' := 94) rfl ?_
      refine Z_iadd dX3_behindStatement_94 (pc' := 95) rfl ?_
      refine Z_goto dX3_behindStatement_95 (tgt := 101) rfl ?_
      exact Z_ireturn dX3_behindStatement_101 rfl rfl ⟨by unfold bsT; rw [if_neg c_58, if_pos c_89, nI_1]; rfl, rfl⟩
  · refine Z_aload_n dX3_behindStatement_61 rfl (z_isref _) (pc' := 62) rfl ?_
    refine Z_iload_n dX3_behindStatement_62 rfl (pc' := 63) rfl ?_
    refine Z_cVe dX3_behindStatement_63 rfl zcw_X3_waysFrom (As := [_]) (rest := []) rfl ⟨Nat.le_of_ble_eq_true rfl, Nat.le_of_ble_eq_true rfl⟩ (Nat.le_of_ble_eq_true rfl) (zRcv.lay zob_21) ⟨zcw_X3_waysFrom.2.2.2.2, Nat.le_of_ble_eq_true rfl⟩ zk_RX3_36 (c_X3_waysFrom hl (by omega)) (pc' := 66) rfl ?_
    refine Z_istore dX3_behindStatement_66 (Nat.le_of_ble_eq_true rfl) (Nat.le_of_ble_eq_true rfl) rfl (ls' := [_, _, _, _, _]) rfl (pc' := 68) rfl ?_
    refine Z_iload dX3_behindStatement_68 rfl (pc' := 70) rfl ?_
    refine Z_if_ne dX3_behindStatement_70 (tgt := 77) rfl (pc' := 73) rfl (fun c_70 => ?_) (fun c_70 => ?_)
    · have hw9 := wys_le tx L (p + 1 + k)
      have hw0 : ¬ wys tx L (p + 1 + k) = 0 := fun z => c_70 (by rw [z]; rfl)
      refine Z_iload_n dX3_behindStatement_77 rfl (pc' := 78) rfl ?_
      refine Z_iload dX3_behindStatement_78 rfl (pc' := 80) rfl ?_
      refine Z_iadd dX3_behindStatement_80 (pc' := 81) rfl ?_
      rw [nI_add]
      refine Z_istore_n dX3_behindStatement_81 (Nat.le_of_ble_eq_true rfl) (Nat.le_of_ble_eq_true rfl) rfl (ls' := [_, _, _, _, _]) rfl (pc' := 82) rfl ?_
      refine Z_aload_n dX3_behindStatement_82 rfl (z_isref _) (pc' := 83) rfl ?_
      refine Z_iload_n dX3_behindStatement_83 rfl (pc' := 84) rfl ?_
      refine Z_cVe dX3_behindStatement_84 rfl zcw_X3_letterAt (As := [_]) (rest := []) rfl ⟨Nat.le_of_ble_eq_true rfl, Nat.le_of_ble_eq_true rfl⟩ (Nat.le_of_ble_eq_true rfl) (zRcv.lay zob_21) ⟨zcw_X3_letterAt.2.2.2.2, Nat.le_of_ble_eq_true rfl⟩ zk_RX3_19 c_X3_letterAt (pc' := 87) rfl ?_
      rw [hl.at (by omega)]
      refine Z_bipush dX3_behindStatement_87 (v := 59) (by decide) (pc' := 89) rfl ?_
      refine Z_icmp_ne dX3_behindStatement_89 (tgt := 98) rfl (pc' := 92) rfl (fun c_89 => ?_) (fun c_89 => ?_)
      · refine Z_iconst dX3_behindStatement_98 (v := (-1)) (by decide) (pc' := 99) rfl ?_
        refine Z_iload_n dX3_behindStatement_99 rfl (pc' := 100) rfl ?_
        refine Z_isub dX3_behindStatement_100 (pc' := 101) rfl ?_
        exact Z_ireturn dX3_behindStatement_101 rfl rfl ⟨by unfold bsT; rw [if_pos c_58, if_neg hw0, if_neg c_89]; rfl, rfl⟩
      · refine Z_iload_n dX3_behindStatement_92 rfl (pc' := 93) rfl ?_
        refine Z_iconst dX3_behindStatement_93 (v := 1) (by decide) (pc' := 94) rfl ?_
        refine Z_iadd dX3_behindStatement_94 (pc' := 95) rfl ?_
        refine Z_goto dX3_behindStatement_95 (tgt := 101) rfl ?_
        exact Z_ireturn dX3_behindStatement_101 rfl rfl ⟨by unfold bsT; rw [if_pos c_58, if_neg hw0, if_pos c_89, nI_1]; rfl, rfl⟩
    · refine Z_iconst dX3_behindStatement_73 (v := (-1)) (by decide) (pc' := 74) rfl ?_
      refine Z_iload_n dX3_behindStatement_74 rfl (pc' := 75) rfl ?_
      refine Z_isub dX3_behindStatement_75 (pc' := 76) rfl ?_
      exact Z_ireturn dX3_behindStatement_76 rfl rfl ⟨by unfold bsT; rw [if_pos c_58, if_pos ((nI_eqn (b := 0) (by have := wys_le tx L (p + 1 + k); omega) (by omega)).mp c_70)]; rfl, rfl⟩
set_option maxRecDepth 100000 in
set_option maxHeartbeats 4000000 in
theorem c_X3_behind_2 {S : ZS} {n p L k : Nat} {tx : Nat → Int32} (hl : lV S tx L) (hp : p < 400) (hdo : doN (ltr tx L p) = some k) (hk : k ≤ 6) : Z m_X3_behindStatement 0 0 (zE (some (.int (bsI (bsO tx L p)))) (zw S n)) 8 [some (.ref 21), some (.int (nI p))] [.int (nI k)] (zw S n) := by
  refine Z_istore_n dX3_behindStatement_8 (Nat.le_of_ble_eq_true rfl) (Nat.le_of_ble_eq_true rfl) rfl (ls' := [_, _, _]) rfl (pc' := 9) rfl ?_
  refine Z_iload_n dX3_behindStatement_9 rfl (pc' := 10) rfl ?_
  refine Z_if_ge dX3_behindStatement_10 (tgt := 17) rfl (pc' := 13) rfl (fun c_10 => ?_) (fun c_10 => absurd c_10 (fun c => c (by rw [show (0 : Int32) = nI 0 from rfl, nI_len (by omega) (by omega)]; omega)))
  refine Z_iload_n dX3_behindStatement_17 rfl (pc' := 18) rfl ?_
  refine Z_iconst dX3_behindStatement_18 (v := 1) (by decide) (pc' := 19) rfl ?_
  refine Z_iadd dX3_behindStatement_19 (pc' := 20) rfl ?_
  rw [nI_1]
  refine Z_istore_n dX3_behindStatement_20 (Nat.le_of_ble_eq_true rfl) (Nat.le_of_ble_eq_true rfl) rfl (ls' := [_, _, _, _]) rfl (pc' := 21) rfl ?_
  refine Z_iconst dX3_behindStatement_21 (v := 0) (by decide) (pc' := 22) rfl ?_
  refine Z_istore dX3_behindStatement_22 (Nat.le_of_ble_eq_true rfl) (Nat.le_of_ble_eq_true rfl) rfl (ls' := [_, _, _, _, _]) rfl (pc' := 24) rfl ?_
  refine lp_X3_behind hl hp hk k 0 (p + 1) (by omega) (by omega) (fun x hx => ⟨by unfold bsO; rw [hdo]; simp only [hx]; rfl, rfl⟩) (fun hn => ?_)
  have hb : bsO tx L p = bsT tx L (ltr tx L p) (p + 1 + k) := by unfold bsO; rw [hdo]; simp only [hn]
  rw [hb]
  exact c_X3_behind_3 hl hp hk
set_option maxRecDepth 100000 in
set_option maxHeartbeats 4000000 in
theorem c_X3_behindStatement {S : ZS} {n p L : Nat} {tx : Nat → Int32} (hl : lV S tx L) (hp : p < 400) : zM m_X3_behindStatement 0 0 [.ref 21, .int (nI p)] (zw S n) (zE (some (.int (bsI (bsO tx L p)))) (zw S n)) := by
  show Z m_X3_behindStatement _ _ _ 0 [some (.ref _), some (.int _)] [] _
  refine Z_aload_n dX3_behindStatement_0 rfl (z_isref _) (pc' := 1) rfl ?_
  refine Z_iload_n dX3_behindStatement_1 rfl (pc' := 2) rfl ?_
  refine Z_cVe dX3_behindStatement_2 rfl zcw_X3_letterAt (As := [_]) (rest := []) rfl ⟨Nat.le_of_ble_eq_true rfl, Nat.le_of_ble_eq_true rfl⟩ (Nat.le_of_ble_eq_true rfl) (zRcv.lay zob_21) ⟨zcw_X3_letterAt.2.2.2.2, Nat.le_of_ble_eq_true rfl⟩ zk_RX3_19 c_X3_letterAt (pc' := 5) rfl ?_
  rw [hl.at (by omega)]
  refine Z_cSe dX3_behindStatement_5 rfl zcw_X3_digitsOf (As := [_]) (rest := []) rfl ⟨Nat.le_of_ble_eq_true rfl, Nat.le_of_ble_eq_true rfl⟩ (Nat.le_of_ble_eq_true rfl) ⟨zcw_X3_digitsOf.2.2.2.2, Nat.le_of_ble_eq_true rfl⟩ zk_RX3_30 c_X3_digitsOf (pc' := 8) rfl ?_
  rw [doI_N]
  cases hdo : doN (ltr tx L p) with
  | none =>
    show Z _ _ _ _ _ _ (.int (-1) :: _) _
    refine Z_istore_n dX3_behindStatement_8 (Nat.le_of_ble_eq_true rfl) (Nat.le_of_ble_eq_true rfl) rfl (ls' := [_, _, _]) rfl (pc' := 9) rfl ?_
    refine Z_iload_n dX3_behindStatement_9 rfl (pc' := 10) rfl ?_
    refine Z_if_ge dX3_behindStatement_10 (tgt := 17) rfl (pc' := 13) rfl (fun c => absurd c (by decide)) (fun c => ?_)
    refine Z_iconst dX3_behindStatement_13 (v := (-1)) (by decide) (pc' := 14) rfl ?_
    refine Z_iload_n dX3_behindStatement_14 rfl (pc' := 15) rfl ?_
    refine Z_isub dX3_behindStatement_15 (pc' := 16) rfl ?_
    exact Z_ireturn dX3_behindStatement_16 rfl rfl ⟨by unfold bsO; rw [hdo]; rfl, rfl⟩
  | some k =>
    have hk := doN_le hdo
    show Z _ _ _ _ _ _ (.int (nI k) :: _) _
    exact c_X3_behind_2 hl hp hdo hk
/-- the statements' beginnings, or the place of the first wrong letter -/
def psF (tx : Nat → Int32) (L : Nat) : Nat → Nat → List Nat ⊕ Nat
  | 0, _ => .inl []
  | m + 1, p => match bsO tx L p with
    | .inr q => .inr q
    | .inl q => if q < L then (match psF tx L m q with
        | .inl l => .inl (p :: l)
        | .inr x => .inr x) else .inl [p]
def psI (r : List Nat ⊕ Nat) : Int32 := match r with
  | .inl _ => -1
  | .inr q => nI q
theorem bsT_le {tx : Nat → Int32} {L p : Nat} {x : Int32} {q : Nat} (h : bsT tx L x p = .inl q ∨ bsT tx L x p = .inr q) : q ≤ p + 10 := by
  have := wys_le tx L p
  unfold bsT at h
  split at h
  · split at h
    · rcases h with h | h <;> cases h; omega
    · split at h
      · rcases h with h | h <;> cases h; omega
      · rcases h with h | h <;> cases h; omega
  · split at h
    · rcases h with h | h <;> cases h; omega
    · rcases h with h | h <;> cases h; omega
theorem dgsF_le {tx : Nat → Int32} {L : Nat} : ∀ {m p q : Nat}, dgsF tx L m p = some q → q < p + m
  | 0, _, _, h => by cases h
  | m + 1, p, q, h => by
    unfold dgsF at h
    split at h
    · have := dgsF_le h; omega
    · cases h; omega
theorem bsO_le {tx : Nat → Int32} {L p q : Nat} (h : bsO tx L p = .inl q ∨ bsO tx L p = .inr q) : q ≤ p + 17 := by
  unfold bsO at h
  cases hd : doN (ltr tx L p) with
  | none => rw [hd] at h; rcases h with h | h <;> cases h; omega
  | some k =>
    have hk := doN_le hd
    rw [hd] at h
    simp only [] at h
    cases hg : dgsF tx L k (p + 1) with
    | some z =>
      rw [hg] at h
      have := dgsF_le hg
      rcases h with h | h <;> cases h; omega
    | none =>
      rw [hg] at h
      have := bsT_le h
      omega
theorem nI_m1lt {q : Nat} (h : q < 1000000) : -1 - nI q < 0 := by
  rw [Int32.lt_iff_toInt_lt, Int32.toInt_sub, nI_toInt (by omega)]
  show Int.bmod (-1 - (q : Int)) (2 ^ 32) < 0
  simp only [Int.bmod]
  omega
theorem nI_m1m1 (q : Nat) : (-1 : Int32) - (-1 - nI q) = nI q := by rw [Int32.sub_eq_add_neg (-1), Int32.neg_sub, Int32.add_comm, Int32.sub_add_cancel]
set_option maxRecDepth 100000 in
set_option maxHeartbeats 4000000 in
theorem lp_X3_wrong {S : ZS} {n L : Nat} {tx : Nat → Int32} (hl : lV S tx L) {R : Option Value → ZW → Prop} : ∀ (m i p : Nat), i + m = 80 → 0 < i → p < 250 → R (some (.int (psI (if p < L then psF tx L m p else .inl [])))) (zw S n) → Z m_X3_wrongLetter 0 0 R 4 [some (.ref 21), some (.int (nI p)), some (.int (nI i))] [] (zw S n) := by
  intro m
  induction m with
  | zero =>
    intro i p e hi hp hR
    obtain rfl : i = 80 := by omega
    refine Z_iload_n dX3_wrongLetter_4 rfl (pc' := 5) rfl ?_
    refine Z_bipush dX3_wrongLetter_5 (v := 80) (by decide) (pc' := 7) rfl ?_
    refine Z_icmp_ge dX3_wrongLetter_7 (tgt := 44) rfl (pc' := 10) rfl (fun c_7 => ?_) (fun c_7 => absurd c_7 (fun c => c (by decide)))
    refine Z_iconst dX3_wrongLetter_44 (v := (-1)) (by decide) (pc' := 45) rfl ?_
    exact Z_ireturn dX3_wrongLetter_45 rfl rfl (by split at hR <;> exact hR)
  | succ m ih =>
    intro i p e hi hp hR
    have hL := hl.2.1
    refine Z_iload_n dX3_wrongLetter_4 rfl (pc' := 5) rfl ?_
    refine Z_bipush dX3_wrongLetter_5 (v := 80) (by decide) (pc' := 7) rfl ?_
    refine Z_icmp_ge dX3_wrongLetter_7 (tgt := 44) rfl (pc' := 10) rfl (fun c_7 => absurd c_7 (by rw [show (80 : Int32) = nI 80 from rfl, nI_len (by omega) (by omega)]; omega)) (fun c_7 => ?_)
    refine Z_iload_n dX3_wrongLetter_10 rfl (pc' := 11) rfl ?_
    refine Z_if_eq dX3_wrongLetter_11 (tgt := 22) rfl (pc' := 14) rfl (fun c_11 => absurd c_11 (fun z => by have := (nI_eqn (b := 0) (by omega) (by omega)).mp z; omega)) (fun c_11 => ?_)
    refine Z_iload_n dX3_wrongLetter_14 rfl (pc' := 15) rfl ?_
    refine Z_aload_n dX3_wrongLetter_15 rfl (z_isref _) (pc' := 16) rfl ?_
    refine Z_gI dX3_wrongLetter_16 rfl zgi_RX3_15_21 (pc' := 19) rfl ?_
    rw [hl.1]
    refine Z_icmp_ge dX3_wrongLetter_19 (tgt := 44) rfl (pc' := 22) rfl (fun c_19 => ?_) (fun c_19 => ?_)
    · refine Z_iconst dX3_wrongLetter_44 (v := (-1)) (by decide) (pc' := 45) rfl ?_
      exact Z_ireturn dX3_wrongLetter_45 rfl rfl (by rw [if_neg (by rw [nI_len (by omega) (by omega)] at c_19; omega)] at hR; exact hR)
    · have hpL : p < L := by rw [nI_len (by omega) (by omega)] at c_19; omega
      rw [if_pos hpL] at hR
      unfold psF at hR
      refine Z_aload_n dX3_wrongLetter_22 rfl (z_isref _) (pc' := 23) rfl ?_
      refine Z_iload_n dX3_wrongLetter_23 rfl (pc' := 24) rfl ?_
      refine Z_cVe dX3_wrongLetter_24 rfl zcw_X3_behindStatement (As := [_]) (rest := []) rfl ⟨Nat.le_of_ble_eq_true rfl, Nat.le_of_ble_eq_true rfl⟩ (Nat.le_of_ble_eq_true rfl) (zRcv.lay zob_21) ⟨zcw_X3_behindStatement.2.2.2.2, Nat.le_of_ble_eq_true rfl⟩ zk_RX3_39 (c_X3_behindStatement hl (by omega)) (pc' := 27) rfl ?_
      cases hb : bsO tx L p with
      | inl q =>
        have hq17 := bsO_le (tx := tx) (L := L) (p := p) (q := q) (Or.inl hb)
        show Z _ _ _ _ _ _ (.int (nI q) :: _) _
        refine Z_istore_n dX3_wrongLetter_27 (Nat.le_of_ble_eq_true rfl) (Nat.le_of_ble_eq_true rfl) rfl (ls' := [_, _, _, _]) rfl (pc' := 28) rfl ?_
        refine Z_iload_n dX3_wrongLetter_28 rfl (pc' := 29) rfl ?_
        refine Z_if_ge dX3_wrongLetter_29 (tgt := 36) rfl (pc' := 32) rfl (fun c_29 => ?_) (fun c_29 => absurd c_29 (fun c => c (by rw [show (0 : Int32) = nI 0 from rfl, nI_len (by omega) (by omega)]; omega)))
        refine Z_iload_n dX3_wrongLetter_36 rfl (pc' := 37) rfl ?_
        refine Z_istore_n dX3_wrongLetter_37 (Nat.le_of_ble_eq_true rfl) (Nat.le_of_ble_eq_true rfl) rfl (ls' := [_, _, _, _]) rfl (pc' := 38) rfl ?_
        refine Z_iinc dX3_wrongLetter_38 rfl (nI_inc i) (Nat.le_of_ble_eq_true rfl) rfl (ls' := [_, _, _, _]) rfl (pc' := 41) rfl ?_
        refine Z_goto dX3_wrongLetter_41 (tgt := 4) rfl ?_
        refine Z_take 3 (ls' := [_, _, _]) rfl ?_
        refine ih (i + 1) q (by omega) (by omega) (by omega) ?_
        rw [hb] at hR
        simp only [] at hR
        split at hR
        · rename_i hqL
          rw [if_pos hqL]
          cases hp2 : psF tx L m q with
          | inl l => rw [hp2] at hR; exact hR
          | inr x => rw [hp2] at hR; exact hR
        · rename_i hqL
          rw [if_neg hqL]
          exact hR
      | inr q =>
        have hq17 := bsO_le (tx := tx) (L := L) (p := p) (q := q) (Or.inr hb)
        show Z _ _ _ _ _ _ (.int (-1 - nI q) :: _) _
        refine Z_istore_n dX3_wrongLetter_27 (Nat.le_of_ble_eq_true rfl) (Nat.le_of_ble_eq_true rfl) rfl (ls' := [_, _, _, _]) rfl (pc' := 28) rfl ?_
        refine Z_iload_n dX3_wrongLetter_28 rfl (pc' := 29) rfl ?_
        refine Z_if_ge dX3_wrongLetter_29 (tgt := 36) rfl (pc' := 32) rfl (fun c_29 => absurd c_29 (Int32.not_le.mpr (nI_m1lt (by omega)))) (fun c_29 => ?_)
        refine Z_iconst dX3_wrongLetter_32 (v := (-1)) (by decide) (pc' := 33) rfl ?_
        refine Z_iload_n dX3_wrongLetter_33 rfl (pc' := 34) rfl ?_
        refine Z_isub dX3_wrongLetter_34 (pc' := 35) rfl ?_
        exact Z_ireturn dX3_wrongLetter_35 rfl rfl (by rw [nI_m1m1]; rw [hb] at hR; exact hR)
set_option maxRecDepth 100000 in
set_option maxHeartbeats 4000000 in
theorem c_X3_wrongLetter {S : ZS} {n L : Nat} {tx : Nat → Int32} (hl : lV S tx L) : zM m_X3_wrongLetter 0 0 [.ref 21] (zw S n) (zE (some (.int (psI (psF tx L 80 0)))) (zw S n)) := by
  show Z m_X3_wrongLetter _ _ _ 0 [some (.ref _)] [] _
  have hL := hl.2.1
  obtain ⟨p, hp0⟩ : ∃ p : Nat, p = 0 := ⟨0, rfl⟩
  refine Z_iconst dX3_wrongLetter_0 (v := 0) (by decide) (pc' := 1) rfl ?_
  refine Z_istore_n dX3_wrongLetter_1 (Nat.le_of_ble_eq_true rfl) (Nat.le_of_ble_eq_true rfl) rfl (ls' := [_, _]) rfl (pc' := 2) rfl ?_
  refine Z_iconst dX3_wrongLetter_2 (v := 0) (by decide) (pc' := 3) rfl ?_
  refine Z_istore_n dX3_wrongLetter_3 (Nat.le_of_ble_eq_true rfl) (Nat.le_of_ble_eq_true rfl) rfl (ls' := [_, _, _]) rfl (pc' := 4) rfl ?_
  refine Z_iload_n dX3_wrongLetter_4 rfl (pc' := 5) rfl ?_
  refine Z_bipush dX3_wrongLetter_5 (v := 80) (by decide) (pc' := 7) rfl ?_
  refine Z_icmp_ge dX3_wrongLetter_7 (tgt := 44) rfl (pc' := 10) rfl (fun c_7 => absurd c_7 (by decide)) (fun c_7 => ?_)
  refine Z_iload_n dX3_wrongLetter_10 rfl (pc' := 11) rfl ?_
  refine Z_if_eq dX3_wrongLetter_11 (tgt := 22) rfl (pc' := 14) rfl (fun c_11 => ?_) (fun c_11 => absurd c_11 (fun c => c rfl))
  refine Z_aload_n dX3_wrongLetter_22 rfl (z_isref _) (pc' := 23) rfl ?_
  refine Z_iload_n dX3_wrongLetter_23 rfl (pc' := 24) rfl ?_
  refine Z_cVe dX3_wrongLetter_24 rfl zcw_X3_behindStatement (As := [_]) (rest := []) rfl ⟨Nat.le_of_ble_eq_true rfl, Nat.le_of_ble_eq_true rfl⟩ (Nat.le_of_ble_eq_true rfl) (zRcv.lay zob_21) ⟨zcw_X3_behindStatement.2.2.2.2, Nat.le_of_ble_eq_true rfl⟩ zk_RX3_39 (c_X3_behindStatement hl (p := 0) (by omega)) (pc' := 27) rfl ?_
  cases hb : bsO tx L 0 with
  | inl q =>
    have hq17 := bsO_le (tx := tx) (L := L) (p := 0) (q := q) (Or.inl hb)
    show Z _ _ _ _ _ _ (.int (nI q) :: _) _
    refine Z_istore_n dX3_wrongLetter_27 (Nat.le_of_ble_eq_true rfl) (Nat.le_of_ble_eq_true rfl) rfl (ls' := [_, _, _, _]) rfl (pc' := 28) rfl ?_
    refine Z_iload_n dX3_wrongLetter_28 rfl (pc' := 29) rfl ?_
    refine Z_if_ge dX3_wrongLetter_29 (tgt := 36) rfl (pc' := 32) rfl (fun c_29 => ?_) (fun c_29 => absurd c_29 (fun c => c (by rw [show (0 : Int32) = nI 0 from rfl, nI_len (by omega) (by omega)]; omega)))
    refine Z_iload_n dX3_wrongLetter_36 rfl (pc' := 37) rfl ?_
    refine Z_istore_n dX3_wrongLetter_37 (Nat.le_of_ble_eq_true rfl) (Nat.le_of_ble_eq_true rfl) rfl (ls' := [_, _, _, _]) rfl (pc' := 38) rfl ?_
    refine Z_iinc dX3_wrongLetter_38 rfl (nI_inc 0) (Nat.le_of_ble_eq_true rfl) rfl (ls' := [_, _, _, _]) rfl (pc' := 41) rfl ?_
    refine Z_goto dX3_wrongLetter_41 (tgt := 4) rfl ?_
    refine Z_take 3 (ls' := [_, _, _]) rfl ?_
    refine lp_X3_wrong hl 79 1 q (by omega) (by omega) (by omega) ⟨?_, rfl⟩
    conv => rhs; unfold psF
    rw [hb]
    simp only []
    split
    · rename_i hqL
      cases hp2 : psF tx L 79 q with
      | inl l => rfl
      | inr x => rfl
    · rfl
  | inr q =>
    have hq17 := bsO_le (tx := tx) (L := L) (p := 0) (q := q) (Or.inr hb)
    show Z _ _ _ _ _ _ (.int (-1 - nI q) :: _) _
    refine Z_istore_n dX3_wrongLetter_27 (Nat.le_of_ble_eq_true rfl) (Nat.le_of_ble_eq_true rfl) rfl (ls' := [_, _, _, _]) rfl (pc' := 28) rfl ?_
    refine Z_iload_n dX3_wrongLetter_28 rfl (pc' := 29) rfl ?_
    refine Z_if_ge dX3_wrongLetter_29 (tgt := 36) rfl (pc' := 32) rfl (fun c_29 => absurd c_29 (Int32.not_le.mpr (nI_m1lt (by omega)))) (fun c_29 => ?_)
    refine Z_iconst dX3_wrongLetter_32 (v := (-1)) (by decide) (pc' := 33) rfl ?_
    refine Z_iload_n dX3_wrongLetter_33 rfl (pc' := 34) rfl ?_
    refine Z_isub dX3_wrongLetter_34 (pc' := 35) rfl ?_
    exact Z_ireturn dX3_wrongLetter_35 rfl rfl ⟨by rw [nI_m1m1]; unfold psF; rw [hb]; rfl, rfl⟩
