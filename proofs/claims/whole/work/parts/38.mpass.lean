/-- where the k-th kept thing stands -/
def pa (k : Nat) : Nat := if k < 8 then 27 else if k < 16 then 28 else if k < 24 then 29 else if k < 32 then 30 else if k < 81 then 31 else if k < 130 then 32 else if k < 179 then 33 else if k < 185 then 34 else if k < 191 then 35 else if k < 197 then 36 else if k < 203 then 37 else 25
def pj (k : Nat) : Nat := if k < 8 then k - 0 else if k < 16 then k - 8 else if k < 24 then k - 16 else if k < 32 then k - 24 else if k < 81 then k - 32 else if k < 130 then k - 81 else if k < 179 then k - 130 else if k < 185 then k - 179 else if k < 191 then k - 185 else if k < 197 then k - 191 else if k < 203 then k - 197 else k - 203 + 12
set_option maxRecDepth 100000 in
theorem pa_inj : ∀ k, k < 207 → ∀ j, j < 207 → pa k = pa j → pj k = pj j → k = j := by decide +kernel
set_option maxRecDepth 100000 in
theorem pa_ne : ∀ k, k < 207 → pa k ≠ 42 ∧ ¬ (pa k = 25 ∧ (pj k = 25 ∨ pj k = 26)) := by decide +kernel
def scK (b k wh : Nat) : Bool := (decide (b = 42) && (decide (220 * wh ≤ k) && decide (k < 220 * wh + 220))) || (decide (b = 25) && (decide (k = 26) || decide (k = 25)))
def scR (b k : Nat) : Bool := (decide (27 ≤ b) && decide (b ≤ 37)) || (decide (b = 25) && ((decide (12 ≤ k) && decide (k ≤ 15)) || (decide (k = 26) || decide (k = 25))))
def KI (wh : Nat) (S0 S : ZS) (cur : Nat) : Prop := S.2 = S0.2 ∧ (∀ b k, scK b k wh = false → S.1 b k = S0.1 b k) ∧ S.1 25 26 = nI (220 * wh + cur) ∧ S.1 25 25 = 1 ∧ ∀ k, k < cur → S.1 42 (220 * wh + k) = S0.1 (pa k) (pj k)
def RI (wh : Nat) (S0 S : ZS) (cur : Nat) : Prop := S.2 = S0.2 ∧ (∀ b k, scR b k = false → S.1 b k = S0.1 b k) ∧ S.1 25 26 = nI (220 * wh + cur) ∧ S.1 25 25 = 0 ∧ ∀ k, k < cur → S.1 (pa k) (pj k) = S0.1 42 (220 * wh + k)
theorem scK_pa {k wh : Nat} (h : k < 207) : scK (pa k) (pj k) wh = false := by
  have h1 := pa_ne k h
  unfold scK
  rw [decide_eq_false h1.1, Bool.false_and, Bool.false_or]
  by_cases e : pa k = 25
  · have h2 : ¬ pj k = 26 := fun q => h1.2 ⟨e, Or.inr q⟩
    have h3 : ¬ pj k = 25 := fun q => h1.2 ⟨e, Or.inl q⟩
    rw [decide_eq_false h2, decide_eq_false h3]; simp
  · rw [decide_eq_false e]; rfl
theorem KI.step {wh : Nat} {S0 S : ZS} {cur : Nat} (h : KI wh S0 S cur) (hc : cur < 207) {x : Int32} (hx : x = S0.1 (pa cur) (pj cur)) : KI wh S0 (sA (sA S 42 (220 * wh + cur) x) 25 26 (nI (220 * wh + cur + 1))) (cur + 1) := by
  obtain ⟨h1, h2, h3, h4, h5⟩ := h
  refine ⟨h1, fun b k hs => ?_, sA_eq .., by rw [sA_nk _ _ (by decide), sA_ne _ _ _ (by decide)]; exact h4, fun k hk => ?_⟩
  · rw [sA_nk, sA_nk]
    · exact h2 b k hs
    · rintro ⟨rfl, rfl⟩
      have a1 : 220 * wh ≤ 220 * wh + cur := by omega
      have a2 : 220 * wh + cur < 220 * wh + 220 := by omega
      unfold scK at hs
      rw [decide_eq_true a1, decide_eq_true a2] at hs
      cases hs
    · rintro ⟨rfl, rfl⟩
      unfold scK at hs
      cases hs
  · rw [sA_ne _ _ _ (by decide), sA_get]
    by_cases e : k = cur
    · subst e; rw [if_pos ⟨rfl, rfl⟩]; exact hx
    · rw [if_neg (fun g => e (by omega))]; exact h5 k (by omega)
theorem RI.get {wh : Nat} {S0 S : ZS} {cur : Nat} (h : RI wh S0 S cur) (k : Nat) : S.1 42 k = S0.1 42 k := h.2.1 42 k rfl
theorem KI.get {wh : Nat} {S0 S : ZS} {cur k : Nat} (h : KI wh S0 S cur) (hk : k < 207) : S.1 (pa k) (pj k) = S0.1 (pa k) (pj k) := h.2.1 _ _ (scK_pa hk)
set_option maxRecDepth 100000 in
theorem scR_pa : ∀ k, k < 207 → scR (pa k) (pj k) = true := by decide +kernel
theorem RI.cur1 {wh : Nat} {S0 S : ZS} {cur : Nat} (h : RI wh S0 S cur) (y : Int32) {k : Nat} (hk : k < 207) : (sA S 25 26 y).1 (pa k) (pj k) = S.1 (pa k) (pj k) := sA_nk _ _ fun g => (pa_ne k hk).2 ⟨g.1, Or.inr g.2⟩
theorem RI.step {wh : Nat} {S0 S : ZS} {cur : Nat} (h : RI wh S0 S cur) (hc : cur < 207) {a j : Nat} (ha : pa cur = a) (hj : pj cur = j) {x : Int32} (hx : x = S0.1 42 (220 * wh + cur)) {S2 : ZS} (e2 : S2.2 = S.2) (e : ∀ b k, S2.1 b k = if b = a ∧ k = j then x else if b = 25 ∧ k = 26 then nI (220 * wh + cur + 1) else S.1 b k) : RI wh S0 S2 (cur + 1) := by
  obtain ⟨h1, h2, h3, h4, h5⟩ := h
  have hn := pa_ne cur hc
  rw [ha, hj] at hn
  refine ⟨e2.trans h1, fun b k hs => ?_, ?_, ?_, fun k hk => ?_⟩
  · rw [e, if_neg, if_neg]
    · exact h2 b k hs
    · rintro ⟨rfl, rfl⟩
      cases hs
    · rintro ⟨rfl, rfl⟩
      have := scR_pa cur hc
      rw [ha, hj, hs] at this
      cases this
  · rw [e, if_neg (fun g => hn.2 ⟨g.1.symm, Or.inr g.2.symm⟩), if_pos ⟨rfl, rfl⟩]; rfl
  · rw [e, if_neg (fun g => hn.2 ⟨g.1.symm, Or.inl g.2.symm⟩), if_neg (by decide)]; exact h4
  · rw [e]
    by_cases q : k = cur
    · subst q; rw [if_pos ⟨ha, hj⟩]; exact hx
    · rw [if_neg (fun g => q (pa_inj k (by omega) cur hc (g.1.trans ha.symm) (g.2.trans hj.symm))), if_neg (fun g => (pa_ne k (by omega)).2 ⟨g.1, Or.inr g.2⟩)]
      exact h5 k (by omega)
theorem rs_get {S : ZS} {a j b k : Nat} {x y : Int32} (h : a ≠ 25) : (sA (sA S a j x) 25 26 y).1 b k = if b = a ∧ k = j then x else if b = 25 ∧ k = 26 then y else S.1 b k := by
  rw [sA_get, sA_get]
  by_cases g : b = a ∧ k = j
  · rw [if_pos g, if_neg (fun q => h (g.1.symm.trans q.1)), if_pos g]
  · rw [if_neg g, if_neg g]
set_option maxRecDepth 100000 in
theorem pp_27 : ∀ j, j < 8 → pa (0 + j) = 27 ∧ pj (0 + j) = j := by decide +kernel
set_option maxRecDepth 100000 in
set_option maxHeartbeats 4000000 in
theorem lp_X12_pk_27 {S0 : ZS} {n wh : Nat} (hw : wh ≤ 1) {R : Option Value → ZW → Prop} (hR : ∀ S, KI wh S0 S 8 → R none (zw S n)) : ∀ (m j : Nat) (S : ZS), j + m = 8 → KI wh S0 S (0 + j) → Z m_X12_passes 0 0 R 2 [some (.ref 25), some (.ref 27), some (.int (nI j))] [] (zw S n) := by
  intro m
  induction m with
  | zero =>
    intro j S h k
    obtain rfl : j = 8 := by omega
    refine Z_iload_n dX12_passes_2 rfl (pc' := 3) rfl ?_
    refine Z_aload_n dX12_passes_3 rfl (z_isref _) (pc' := 4) rfl ?_
    refine Z_al dX12_passes_4 zar_27 (v := 8) (by decide) (pc' := 5) rfl ?_
    refine Z_icmp_ge dX12_passes_5 (tgt := 58) rfl (pc' := 8) rfl (fun c_5 => ?_) (fun c_5 => absurd c_5 (fun c => c (by decide)))
    exact Z_return dX12_passes_58 rfl (hR S k)
  | succ m ih =>
    intro j S h k
    have hp : pa (0 + j) = 27 ∧ pj (0 + j) = j := pp_27 j (by omega)
    have hg := k.get (k := 0 + j) (by omega)
    rw [hp.1, hp.2] at hg
    refine Z_iload_n dX12_passes_2 rfl (pc' := 3) rfl ?_
    refine Z_aload_n dX12_passes_3 rfl (z_isref _) (pc' := 4) rfl ?_
    refine Z_al dX12_passes_4 zar_27 (v := 8) (by decide) (pc' := 5) rfl ?_
    refine Z_icmp_ge dX12_passes_5 (tgt := 58) rfl (pc' := 8) rfl (fun c_5 => absurd c_5 (by rw [show (8 : Int32) = nI 8 from rfl, nI_len (by decide) (by omega)]; omega)) (fun c_5 => ?_)
    refine Z_aload_n dX12_passes_8 rfl (z_isref _) (pc' := 9) rfl ?_
    refine Z_gI dX12_passes_9 rfl zgi_RX12_143_25 (pc' := 12) rfl ?_
    rw [k.2.2.2.1]
    refine Z_if_eq dX12_passes_12 (tgt := 30) rfl (pc' := 15) rfl (fun c_12 => absurd c_12 (by decide)) (fun c_12 => ?_)
    refine Z_aload_n dX12_passes_15 rfl (z_isref _) (pc' := 16) rfl ?_
    refine Z_gR dX12_passes_16 rfl zgr_RX12_58_25 (pc' := 19) rfl ?_
    refine Z_aload_n dX12_passes_19 rfl (z_isref _) (pc' := 20) rfl ?_
    refine Z_gI dX12_passes_20 rfl zgi_RX12_147_25 (pc' := 23) rfl ?_
    rw [k.2.2.1]
    refine Z_aload_n dX12_passes_23 rfl (z_isref _) (pc' := 24) rfl ?_
    refine Z_iload_n dX12_passes_24 rfl (pc' := 25) rfl ?_
    refine Z_il dX12_passes_25 zar_27 (zin (by omega) (by decide)) (pc' := 26) rfl ?_
    refine Z_is dX12_passes_26 zar_42 (zin (by omega) (by decide)) (pc' := 27) rfl ?_
    rw [nI_nat (by omega), nI_nat (by omega)]
    refine Z_goto dX12_passes_27 (tgt := 42) rfl ?_
    refine Z_aload_n dX12_passes_42 rfl (z_isref _) (pc' := 43) rfl ?_
    refine Z_dup dX12_passes_43 rfl (pc' := 44) rfl ?_
    refine Z_gI dX12_passes_44 rfl zgi_RX12_147_25 (pc' := 47) rfl ?_
    rw [sA_ne _ _ _ (by decide), k.2.2.1]
    refine Z_iconst dX12_passes_47 (v := 1) (by decide) (pc' := 48) rfl ?_
    refine Z_iadd dX12_passes_48 (pc' := 49) rfl ?_
    rw [show nI (220 * wh + (0 + j)) + 1 = nI (220 * wh + (0 + j) + 1) from nI_inc _]
    refine Z_pI dX12_passes_49 rfl zpi_RX12_147_25 (pc' := 52) rfl ?_
    refine Z_iinc dX12_passes_52 rfl (nI_inc j) (Nat.le_of_ble_eq_true rfl) rfl (ls' := [_, _, _]) rfl (pc' := 55) rfl ?_
    refine Z_goto dX12_passes_55 (tgt := 2) rfl ?_
    refine Z_take 3 (ls' := [_, _, _]) rfl ?_
    exact ih (j + 1) _ (by omega) (k.step (by omega) (by rw [hp.1, hp.2]; exact hg))
set_option maxRecDepth 100000 in
set_option maxHeartbeats 4000000 in
theorem c_X12_pk_27 {S0 S : ZS} {n wh : Nat} (hw : wh ≤ 1) (k : KI wh S0 S 0) : zM m_X12_passes 0 0 [.ref 25, .ref 27] (zw S n) (fun r ω => r = none ∧ ∃ S1, ω = zw S1 n ∧ KI wh S0 S1 8) := by
  show Z m_X12_passes _ _ _ 0 [some (.ref _), some (.ref _)] [] _
  refine Z_iconst dX12_passes_0 (v := 0) (by decide) (pc' := 1) rfl ?_
  refine Z_istore_n dX12_passes_1 (Nat.le_of_ble_eq_true rfl) (Nat.le_of_ble_eq_true rfl) rfl (ls' := [_, _, _]) rfl (pc' := 2) rfl ?_
  exact lp_X12_pk_27 hw (fun S1 h => ⟨rfl, S1, rfl, h⟩) 8 0 S rfl k
set_option maxRecDepth 100000 in
set_option maxHeartbeats 4000000 in
theorem lp_X12_pr_27 {S0 : ZS} {n wh : Nat} (hw : wh ≤ 1) {R : Option Value → ZW → Prop} (hR : ∀ S, RI wh S0 S 8 → R none (zw S n)) : ∀ (m j : Nat) (S : ZS), j + m = 8 → RI wh S0 S (0 + j) → Z m_X12_passes 0 0 R 2 [some (.ref 25), some (.ref 27), some (.int (nI j))] [] (zw S n) := by
  intro m
  induction m with
  | zero =>
    intro j S h k
    obtain rfl : j = 8 := by omega
    refine Z_iload_n dX12_passes_2 rfl (pc' := 3) rfl ?_
    refine Z_aload_n dX12_passes_3 rfl (z_isref _) (pc' := 4) rfl ?_
    refine Z_al dX12_passes_4 zar_27 (v := 8) (by decide) (pc' := 5) rfl ?_
    refine Z_icmp_ge dX12_passes_5 (tgt := 58) rfl (pc' := 8) rfl (fun c_5 => ?_) (fun c_5 => absurd c_5 (fun c => c (by decide)))
    exact Z_return dX12_passes_58 rfl (hR S k)
  | succ m ih =>
    intro j S h k
    have hp : pa (0 + j) = 27 ∧ pj (0 + j) = j := pp_27 j (by omega)
    refine Z_iload_n dX12_passes_2 rfl (pc' := 3) rfl ?_
    refine Z_aload_n dX12_passes_3 rfl (z_isref _) (pc' := 4) rfl ?_
    refine Z_al dX12_passes_4 zar_27 (v := 8) (by decide) (pc' := 5) rfl ?_
    refine Z_icmp_ge dX12_passes_5 (tgt := 58) rfl (pc' := 8) rfl (fun c_5 => absurd c_5 (by rw [show (8 : Int32) = nI 8 from rfl, nI_len (by decide) (by omega)]; omega)) (fun c_5 => ?_)
    refine Z_aload_n dX12_passes_8 rfl (z_isref _) (pc' := 9) rfl ?_
    refine Z_gI dX12_passes_9 rfl zgi_RX12_143_25 (pc' := 12) rfl ?_
    rw [k.2.2.2.1]
    refine Z_if_eq dX12_passes_12 (tgt := 30) rfl (pc' := 15) rfl (fun c_12 => ?_) (fun c_12 => absurd c_12 (fun c => c rfl))
    refine Z_aload_n dX12_passes_30 rfl (z_isref _) (pc' := 31) rfl ?_
    refine Z_iload_n dX12_passes_31 rfl (pc' := 32) rfl ?_
    refine Z_aload_n dX12_passes_32 rfl (z_isref _) (pc' := 33) rfl ?_
    refine Z_gR dX12_passes_33 rfl zgr_RX12_58_25 (pc' := 36) rfl ?_
    refine Z_aload_n dX12_passes_36 rfl (z_isref _) (pc' := 37) rfl ?_
    refine Z_gI dX12_passes_37 rfl zgi_RX12_147_25 (pc' := 40) rfl ?_
    rw [k.2.2.1]
    refine Z_il dX12_passes_40 zar_42 (zin (by omega) (by decide)) (pc' := 41) rfl ?_
    rw [nI_nat (by omega)]
    refine Z_is dX12_passes_41 zar_27 (zin (by omega) (by decide)) (pc' := 42) rfl ?_
    rw [nI_nat (by omega)]
    refine Z_aload_n dX12_passes_42 rfl (z_isref _) (pc' := 43) rfl ?_
    refine Z_dup dX12_passes_43 rfl (pc' := 44) rfl ?_
    refine Z_gI dX12_passes_44 rfl zgi_RX12_147_25 (pc' := 47) rfl ?_
    rw [sA_ne _ _ _ (by decide), k.2.2.1]
    refine Z_iconst dX12_passes_47 (v := 1) (by decide) (pc' := 48) rfl ?_
    refine Z_iadd dX12_passes_48 (pc' := 49) rfl ?_
    rw [show nI (220 * wh + (0 + j)) + 1 = nI (220 * wh + (0 + j) + 1) from nI_inc _]
    refine Z_pI dX12_passes_49 rfl zpi_RX12_147_25 (pc' := 52) rfl ?_
    refine Z_iinc dX12_passes_52 rfl (nI_inc j) (Nat.le_of_ble_eq_true rfl) rfl (ls' := [_, _, _]) rfl (pc' := 55) rfl ?_
    refine Z_goto dX12_passes_55 (tgt := 2) rfl ?_
    refine Z_take 3 (ls' := [_, _, _]) rfl ?_
    exact ih (j + 1) _ (by omega) (k.step (by omega) hp.1 hp.2 (x := S.1 42 (220 * wh + (0 + j))) (k.get _) rfl (fun b i => rs_get (by decide)))
set_option maxRecDepth 100000 in
set_option maxHeartbeats 4000000 in
theorem c_X12_pr_27 {S0 S : ZS} {n wh : Nat} (hw : wh ≤ 1) (k : RI wh S0 S 0) : zM m_X12_passes 0 0 [.ref 25, .ref 27] (zw S n) (fun r ω => r = none ∧ ∃ S1, ω = zw S1 n ∧ RI wh S0 S1 8) := by
  show Z m_X12_passes _ _ _ 0 [some (.ref _), some (.ref _)] [] _
  refine Z_iconst dX12_passes_0 (v := 0) (by decide) (pc' := 1) rfl ?_
  refine Z_istore_n dX12_passes_1 (Nat.le_of_ble_eq_true rfl) (Nat.le_of_ble_eq_true rfl) rfl (ls' := [_, _, _]) rfl (pc' := 2) rfl ?_
  exact lp_X12_pr_27 hw (fun S1 h => ⟨rfl, S1, rfl, h⟩) 8 0 S rfl k
set_option maxRecDepth 100000 in
theorem pp_28 : ∀ j, j < 8 → pa (8 + j) = 28 ∧ pj (8 + j) = j := by decide +kernel
set_option maxRecDepth 100000 in
set_option maxHeartbeats 4000000 in
theorem lp_X12_pk_28 {S0 : ZS} {n wh : Nat} (hw : wh ≤ 1) {R : Option Value → ZW → Prop} (hR : ∀ S, KI wh S0 S 16 → R none (zw S n)) : ∀ (m j : Nat) (S : ZS), j + m = 8 → KI wh S0 S (8 + j) → Z m_X12_passes 0 0 R 2 [some (.ref 25), some (.ref 28), some (.int (nI j))] [] (zw S n) := by
  intro m
  induction m with
  | zero =>
    intro j S h k
    obtain rfl : j = 8 := by omega
    refine Z_iload_n dX12_passes_2 rfl (pc' := 3) rfl ?_
    refine Z_aload_n dX12_passes_3 rfl (z_isref _) (pc' := 4) rfl ?_
    refine Z_al dX12_passes_4 zar_28 (v := 8) (by decide) (pc' := 5) rfl ?_
    refine Z_icmp_ge dX12_passes_5 (tgt := 58) rfl (pc' := 8) rfl (fun c_5 => ?_) (fun c_5 => absurd c_5 (fun c => c (by decide)))
    exact Z_return dX12_passes_58 rfl (hR S k)
  | succ m ih =>
    intro j S h k
    have hp : pa (8 + j) = 28 ∧ pj (8 + j) = j := pp_28 j (by omega)
    have hg := k.get (k := 8 + j) (by omega)
    rw [hp.1, hp.2] at hg
    refine Z_iload_n dX12_passes_2 rfl (pc' := 3) rfl ?_
    refine Z_aload_n dX12_passes_3 rfl (z_isref _) (pc' := 4) rfl ?_
    refine Z_al dX12_passes_4 zar_28 (v := 8) (by decide) (pc' := 5) rfl ?_
    refine Z_icmp_ge dX12_passes_5 (tgt := 58) rfl (pc' := 8) rfl (fun c_5 => absurd c_5 (by rw [show (8 : Int32) = nI 8 from rfl, nI_len (by decide) (by omega)]; omega)) (fun c_5 => ?_)
    refine Z_aload_n dX12_passes_8 rfl (z_isref _) (pc' := 9) rfl ?_
    refine Z_gI dX12_passes_9 rfl zgi_RX12_143_25 (pc' := 12) rfl ?_
    rw [k.2.2.2.1]
    refine Z_if_eq dX12_passes_12 (tgt := 30) rfl (pc' := 15) rfl (fun c_12 => absurd c_12 (by decide)) (fun c_12 => ?_)
    refine Z_aload_n dX12_passes_15 rfl (z_isref _) (pc' := 16) rfl ?_
    refine Z_gR dX12_passes_16 rfl zgr_RX12_58_25 (pc' := 19) rfl ?_
    refine Z_aload_n dX12_passes_19 rfl (z_isref _) (pc' := 20) rfl ?_
    refine Z_gI dX12_passes_20 rfl zgi_RX12_147_25 (pc' := 23) rfl ?_
    rw [k.2.2.1]
    refine Z_aload_n dX12_passes_23 rfl (z_isref _) (pc' := 24) rfl ?_
    refine Z_iload_n dX12_passes_24 rfl (pc' := 25) rfl ?_
    refine Z_il dX12_passes_25 zar_28 (zin (by omega) (by decide)) (pc' := 26) rfl ?_
    refine Z_is dX12_passes_26 zar_42 (zin (by omega) (by decide)) (pc' := 27) rfl ?_
    rw [nI_nat (by omega), nI_nat (by omega)]
    refine Z_goto dX12_passes_27 (tgt := 42) rfl ?_
    refine Z_aload_n dX12_passes_42 rfl (z_isref _) (pc' := 43) rfl ?_
    refine Z_dup dX12_passes_43 rfl (pc' := 44) rfl ?_
    refine Z_gI dX12_passes_44 rfl zgi_RX12_147_25 (pc' := 47) rfl ?_
    rw [sA_ne _ _ _ (by decide), k.2.2.1]
    refine Z_iconst dX12_passes_47 (v := 1) (by decide) (pc' := 48) rfl ?_
    refine Z_iadd dX12_passes_48 (pc' := 49) rfl ?_
    rw [show nI (220 * wh + (8 + j)) + 1 = nI (220 * wh + (8 + j) + 1) from nI_inc _]
    refine Z_pI dX12_passes_49 rfl zpi_RX12_147_25 (pc' := 52) rfl ?_
    refine Z_iinc dX12_passes_52 rfl (nI_inc j) (Nat.le_of_ble_eq_true rfl) rfl (ls' := [_, _, _]) rfl (pc' := 55) rfl ?_
    refine Z_goto dX12_passes_55 (tgt := 2) rfl ?_
    refine Z_take 3 (ls' := [_, _, _]) rfl ?_
    exact ih (j + 1) _ (by omega) (k.step (by omega) (by rw [hp.1, hp.2]; exact hg))
set_option maxRecDepth 100000 in
set_option maxHeartbeats 4000000 in
theorem c_X12_pk_28 {S0 S : ZS} {n wh : Nat} (hw : wh ≤ 1) (k : KI wh S0 S 8) : zM m_X12_passes 0 0 [.ref 25, .ref 28] (zw S n) (fun r ω => r = none ∧ ∃ S1, ω = zw S1 n ∧ KI wh S0 S1 16) := by
  show Z m_X12_passes _ _ _ 0 [some (.ref _), some (.ref _)] [] _
  refine Z_iconst dX12_passes_0 (v := 0) (by decide) (pc' := 1) rfl ?_
  refine Z_istore_n dX12_passes_1 (Nat.le_of_ble_eq_true rfl) (Nat.le_of_ble_eq_true rfl) rfl (ls' := [_, _, _]) rfl (pc' := 2) rfl ?_
  exact lp_X12_pk_28 hw (fun S1 h => ⟨rfl, S1, rfl, h⟩) 8 0 S rfl k
set_option maxRecDepth 100000 in
set_option maxHeartbeats 4000000 in
theorem lp_X12_pr_28 {S0 : ZS} {n wh : Nat} (hw : wh ≤ 1) {R : Option Value → ZW → Prop} (hR : ∀ S, RI wh S0 S 16 → R none (zw S n)) : ∀ (m j : Nat) (S : ZS), j + m = 8 → RI wh S0 S (8 + j) → Z m_X12_passes 0 0 R 2 [some (.ref 25), some (.ref 28), some (.int (nI j))] [] (zw S n) := by
  intro m
  induction m with
  | zero =>
    intro j S h k
    obtain rfl : j = 8 := by omega
    refine Z_iload_n dX12_passes_2 rfl (pc' := 3) rfl ?_
    refine Z_aload_n dX12_passes_3 rfl (z_isref _) (pc' := 4) rfl ?_
    refine Z_al dX12_passes_4 zar_28 (v := 8) (by decide) (pc' := 5) rfl ?_
    refine Z_icmp_ge dX12_passes_5 (tgt := 58) rfl (pc' := 8) rfl (fun c_5 => ?_) (fun c_5 => absurd c_5 (fun c => c (by decide)))
    exact Z_return dX12_passes_58 rfl (hR S k)
  | succ m ih =>
    intro j S h k
    have hp : pa (8 + j) = 28 ∧ pj (8 + j) = j := pp_28 j (by omega)
    refine Z_iload_n dX12_passes_2 rfl (pc' := 3) rfl ?_
    refine Z_aload_n dX12_passes_3 rfl (z_isref _) (pc' := 4) rfl ?_
    refine Z_al dX12_passes_4 zar_28 (v := 8) (by decide) (pc' := 5) rfl ?_
    refine Z_icmp_ge dX12_passes_5 (tgt := 58) rfl (pc' := 8) rfl (fun c_5 => absurd c_5 (by rw [show (8 : Int32) = nI 8 from rfl, nI_len (by decide) (by omega)]; omega)) (fun c_5 => ?_)
    refine Z_aload_n dX12_passes_8 rfl (z_isref _) (pc' := 9) rfl ?_
    refine Z_gI dX12_passes_9 rfl zgi_RX12_143_25 (pc' := 12) rfl ?_
    rw [k.2.2.2.1]
    refine Z_if_eq dX12_passes_12 (tgt := 30) rfl (pc' := 15) rfl (fun c_12 => ?_) (fun c_12 => absurd c_12 (fun c => c rfl))
    refine Z_aload_n dX12_passes_30 rfl (z_isref _) (pc' := 31) rfl ?_
    refine Z_iload_n dX12_passes_31 rfl (pc' := 32) rfl ?_
    refine Z_aload_n dX12_passes_32 rfl (z_isref _) (pc' := 33) rfl ?_
    refine Z_gR dX12_passes_33 rfl zgr_RX12_58_25 (pc' := 36) rfl ?_
    refine Z_aload_n dX12_passes_36 rfl (z_isref _) (pc' := 37) rfl ?_
    refine Z_gI dX12_passes_37 rfl zgi_RX12_147_25 (pc' := 40) rfl ?_
    rw [k.2.2.1]
    refine Z_il dX12_passes_40 zar_42 (zin (by omega) (by decide)) (pc' := 41) rfl ?_
    rw [nI_nat (by omega)]
    refine Z_is dX12_passes_41 zar_28 (zin (by omega) (by decide)) (pc' := 42) rfl ?_
    rw [nI_nat (by omega)]
    refine Z_aload_n dX12_passes_42 rfl (z_isref _) (pc' := 43) rfl ?_
    refine Z_dup dX12_passes_43 rfl (pc' := 44) rfl ?_
    refine Z_gI dX12_passes_44 rfl zgi_RX12_147_25 (pc' := 47) rfl ?_
    rw [sA_ne _ _ _ (by decide), k.2.2.1]
    refine Z_iconst dX12_passes_47 (v := 1) (by decide) (pc' := 48) rfl ?_
    refine Z_iadd dX12_passes_48 (pc' := 49) rfl ?_
    rw [show nI (220 * wh + (8 + j)) + 1 = nI (220 * wh + (8 + j) + 1) from nI_inc _]
    refine Z_pI dX12_passes_49 rfl zpi_RX12_147_25 (pc' := 52) rfl ?_
    refine Z_iinc dX12_passes_52 rfl (nI_inc j) (Nat.le_of_ble_eq_true rfl) rfl (ls' := [_, _, _]) rfl (pc' := 55) rfl ?_
    refine Z_goto dX12_passes_55 (tgt := 2) rfl ?_
    refine Z_take 3 (ls' := [_, _, _]) rfl ?_
    exact ih (j + 1) _ (by omega) (k.step (by omega) hp.1 hp.2 (x := S.1 42 (220 * wh + (8 + j))) (k.get _) rfl (fun b i => rs_get (by decide)))
set_option maxRecDepth 100000 in
set_option maxHeartbeats 4000000 in
theorem c_X12_pr_28 {S0 S : ZS} {n wh : Nat} (hw : wh ≤ 1) (k : RI wh S0 S 8) : zM m_X12_passes 0 0 [.ref 25, .ref 28] (zw S n) (fun r ω => r = none ∧ ∃ S1, ω = zw S1 n ∧ RI wh S0 S1 16) := by
  show Z m_X12_passes _ _ _ 0 [some (.ref _), some (.ref _)] [] _
  refine Z_iconst dX12_passes_0 (v := 0) (by decide) (pc' := 1) rfl ?_
  refine Z_istore_n dX12_passes_1 (Nat.le_of_ble_eq_true rfl) (Nat.le_of_ble_eq_true rfl) rfl (ls' := [_, _, _]) rfl (pc' := 2) rfl ?_
  exact lp_X12_pr_28 hw (fun S1 h => ⟨rfl, S1, rfl, h⟩) 8 0 S rfl k
set_option maxRecDepth 100000 in
theorem pp_29 : ∀ j, j < 8 → pa (16 + j) = 29 ∧ pj (16 + j) = j := by decide +kernel
set_option maxRecDepth 100000 in
set_option maxHeartbeats 4000000 in
theorem lp_X12_pk_29 {S0 : ZS} {n wh : Nat} (hw : wh ≤ 1) {R : Option Value → ZW → Prop} (hR : ∀ S, KI wh S0 S 24 → R none (zw S n)) : ∀ (m j : Nat) (S : ZS), j + m = 8 → KI wh S0 S (16 + j) → Z m_X12_passes 0 0 R 2 [some (.ref 25), some (.ref 29), some (.int (nI j))] [] (zw S n) := by
  intro m
  induction m with
  | zero =>
    intro j S h k
    obtain rfl : j = 8 := by omega
    refine Z_iload_n dX12_passes_2 rfl (pc' := 3) rfl ?_
    refine Z_aload_n dX12_passes_3 rfl (z_isref _) (pc' := 4) rfl ?_
    refine Z_al dX12_passes_4 zar_29 (v := 8) (by decide) (pc' := 5) rfl ?_
    refine Z_icmp_ge dX12_passes_5 (tgt := 58) rfl (pc' := 8) rfl (fun c_5 => ?_) (fun c_5 => absurd c_5 (fun c => c (by decide)))
    exact Z_return dX12_passes_58 rfl (hR S k)
  | succ m ih =>
    intro j S h k
    have hp : pa (16 + j) = 29 ∧ pj (16 + j) = j := pp_29 j (by omega)
    have hg := k.get (k := 16 + j) (by omega)
    rw [hp.1, hp.2] at hg
    refine Z_iload_n dX12_passes_2 rfl (pc' := 3) rfl ?_
    refine Z_aload_n dX12_passes_3 rfl (z_isref _) (pc' := 4) rfl ?_
    refine Z_al dX12_passes_4 zar_29 (v := 8) (by decide) (pc' := 5) rfl ?_
    refine Z_icmp_ge dX12_passes_5 (tgt := 58) rfl (pc' := 8) rfl (fun c_5 => absurd c_5 (by rw [show (8 : Int32) = nI 8 from rfl, nI_len (by decide) (by omega)]; omega)) (fun c_5 => ?_)
    refine Z_aload_n dX12_passes_8 rfl (z_isref _) (pc' := 9) rfl ?_
    refine Z_gI dX12_passes_9 rfl zgi_RX12_143_25 (pc' := 12) rfl ?_
    rw [k.2.2.2.1]
    refine Z_if_eq dX12_passes_12 (tgt := 30) rfl (pc' := 15) rfl (fun c_12 => absurd c_12 (by decide)) (fun c_12 => ?_)
    refine Z_aload_n dX12_passes_15 rfl (z_isref _) (pc' := 16) rfl ?_
    refine Z_gR dX12_passes_16 rfl zgr_RX12_58_25 (pc' := 19) rfl ?_
    refine Z_aload_n dX12_passes_19 rfl (z_isref _) (pc' := 20) rfl ?_
    refine Z_gI dX12_passes_20 rfl zgi_RX12_147_25 (pc' := 23) rfl ?_
    rw [k.2.2.1]
    refine Z_aload_n dX12_passes_23 rfl (z_isref _) (pc' := 24) rfl ?_
    refine Z_iload_n dX12_passes_24 rfl (pc' := 25) rfl ?_
    refine Z_il dX12_passes_25 zar_29 (zin (by omega) (by decide)) (pc' := 26) rfl ?_
    refine Z_is dX12_passes_26 zar_42 (zin (by omega) (by decide)) (pc' := 27) rfl ?_
    rw [nI_nat (by omega), nI_nat (by omega)]
    refine Z_goto dX12_passes_27 (tgt := 42) rfl ?_
    refine Z_aload_n dX12_passes_42 rfl (z_isref _) (pc' := 43) rfl ?_
    refine Z_dup dX12_passes_43 rfl (pc' := 44) rfl ?_
    refine Z_gI dX12_passes_44 rfl zgi_RX12_147_25 (pc' := 47) rfl ?_
    rw [sA_ne _ _ _ (by decide), k.2.2.1]
    refine Z_iconst dX12_passes_47 (v := 1) (by decide) (pc' := 48) rfl ?_
    refine Z_iadd dX12_passes_48 (pc' := 49) rfl ?_
    rw [show nI (220 * wh + (16 + j)) + 1 = nI (220 * wh + (16 + j) + 1) from nI_inc _]
    refine Z_pI dX12_passes_49 rfl zpi_RX12_147_25 (pc' := 52) rfl ?_
    refine Z_iinc dX12_passes_52 rfl (nI_inc j) (Nat.le_of_ble_eq_true rfl) rfl (ls' := [_, _, _]) rfl (pc' := 55) rfl ?_
    refine Z_goto dX12_passes_55 (tgt := 2) rfl ?_
    refine Z_take 3 (ls' := [_, _, _]) rfl ?_
    exact ih (j + 1) _ (by omega) (k.step (by omega) (by rw [hp.1, hp.2]; exact hg))
set_option maxRecDepth 100000 in
set_option maxHeartbeats 4000000 in
theorem c_X12_pk_29 {S0 S : ZS} {n wh : Nat} (hw : wh ≤ 1) (k : KI wh S0 S 16) : zM m_X12_passes 0 0 [.ref 25, .ref 29] (zw S n) (fun r ω => r = none ∧ ∃ S1, ω = zw S1 n ∧ KI wh S0 S1 24) := by
  show Z m_X12_passes _ _ _ 0 [some (.ref _), some (.ref _)] [] _
  refine Z_iconst dX12_passes_0 (v := 0) (by decide) (pc' := 1) rfl ?_
  refine Z_istore_n dX12_passes_1 (Nat.le_of_ble_eq_true rfl) (Nat.le_of_ble_eq_true rfl) rfl (ls' := [_, _, _]) rfl (pc' := 2) rfl ?_
  exact lp_X12_pk_29 hw (fun S1 h => ⟨rfl, S1, rfl, h⟩) 8 0 S rfl k
set_option maxRecDepth 100000 in
set_option maxHeartbeats 4000000 in
theorem lp_X12_pr_29 {S0 : ZS} {n wh : Nat} (hw : wh ≤ 1) {R : Option Value → ZW → Prop} (hR : ∀ S, RI wh S0 S 24 → R none (zw S n)) : ∀ (m j : Nat) (S : ZS), j + m = 8 → RI wh S0 S (16 + j) → Z m_X12_passes 0 0 R 2 [some (.ref 25), some (.ref 29), some (.int (nI j))] [] (zw S n) := by
  intro m
  induction m with
  | zero =>
    intro j S h k
    obtain rfl : j = 8 := by omega
    refine Z_iload_n dX12_passes_2 rfl (pc' := 3) rfl ?_
    refine Z_aload_n dX12_passes_3 rfl (z_isref _) (pc' := 4) rfl ?_
    refine Z_al dX12_passes_4 zar_29 (v := 8) (by decide) (pc' := 5) rfl ?_
    refine Z_icmp_ge dX12_passes_5 (tgt := 58) rfl (pc' := 8) rfl (fun c_5 => ?_) (fun c_5 => absurd c_5 (fun c => c (by decide)))
    exact Z_return dX12_passes_58 rfl (hR S k)
  | succ m ih =>
    intro j S h k
    have hp : pa (16 + j) = 29 ∧ pj (16 + j) = j := pp_29 j (by omega)
    refine Z_iload_n dX12_passes_2 rfl (pc' := 3) rfl ?_
    refine Z_aload_n dX12_passes_3 rfl (z_isref _) (pc' := 4) rfl ?_
    refine Z_al dX12_passes_4 zar_29 (v := 8) (by decide) (pc' := 5) rfl ?_
    refine Z_icmp_ge dX12_passes_5 (tgt := 58) rfl (pc' := 8) rfl (fun c_5 => absurd c_5 (by rw [show (8 : Int32) = nI 8 from rfl, nI_len (by decide) (by omega)]; omega)) (fun c_5 => ?_)
    refine Z_aload_n dX12_passes_8 rfl (z_isref _) (pc' := 9) rfl ?_
    refine Z_gI dX12_passes_9 rfl zgi_RX12_143_25 (pc' := 12) rfl ?_
    rw [k.2.2.2.1]
    refine Z_if_eq dX12_passes_12 (tgt := 30) rfl (pc' := 15) rfl (fun c_12 => ?_) (fun c_12 => absurd c_12 (fun c => c rfl))
    refine Z_aload_n dX12_passes_30 rfl (z_isref _) (pc' := 31) rfl ?_
    refine Z_iload_n dX12_passes_31 rfl (pc' := 32) rfl ?_
    refine Z_aload_n dX12_passes_32 rfl (z_isref _) (pc' := 33) rfl ?_
    refine Z_gR dX12_passes_33 rfl zgr_RX12_58_25 (pc' := 36) rfl ?_
    refine Z_aload_n dX12_passes_36 rfl (z_isref _) (pc' := 37) rfl ?_
    refine Z_gI dX12_passes_37 rfl zgi_RX12_147_25 (pc' := 40) rfl ?_
    rw [k.2.2.1]
    refine Z_il dX12_passes_40 zar_42 (zin (by omega) (by decide)) (pc' := 41) rfl ?_
    rw [nI_nat (by omega)]
    refine Z_is dX12_passes_41 zar_29 (zin (by omega) (by decide)) (pc' := 42) rfl ?_
    rw [nI_nat (by omega)]
    refine Z_aload_n dX12_passes_42 rfl (z_isref _) (pc' := 43) rfl ?_
    refine Z_dup dX12_passes_43 rfl (pc' := 44) rfl ?_
    refine Z_gI dX12_passes_44 rfl zgi_RX12_147_25 (pc' := 47) rfl ?_
    rw [sA_ne _ _ _ (by decide), k.2.2.1]
    refine Z_iconst dX12_passes_47 (v := 1) (by decide) (pc' := 48) rfl ?_
    refine Z_iadd dX12_passes_48 (pc' := 49) rfl ?_
    rw [show nI (220 * wh + (16 + j)) + 1 = nI (220 * wh + (16 + j) + 1) from nI_inc _]
    refine Z_pI dX12_passes_49 rfl zpi_RX12_147_25 (pc' := 52) rfl ?_
    refine Z_iinc dX12_passes_52 rfl (nI_inc j) (Nat.le_of_ble_eq_true rfl) rfl (ls' := [_, _, _]) rfl (pc' := 55) rfl ?_
    refine Z_goto dX12_passes_55 (tgt := 2) rfl ?_
    refine Z_take 3 (ls' := [_, _, _]) rfl ?_
    exact ih (j + 1) _ (by omega) (k.step (by omega) hp.1 hp.2 (x := S.1 42 (220 * wh + (16 + j))) (k.get _) rfl (fun b i => rs_get (by decide)))
set_option maxRecDepth 100000 in
set_option maxHeartbeats 4000000 in
theorem c_X12_pr_29 {S0 S : ZS} {n wh : Nat} (hw : wh ≤ 1) (k : RI wh S0 S 16) : zM m_X12_passes 0 0 [.ref 25, .ref 29] (zw S n) (fun r ω => r = none ∧ ∃ S1, ω = zw S1 n ∧ RI wh S0 S1 24) := by
  show Z m_X12_passes _ _ _ 0 [some (.ref _), some (.ref _)] [] _
  refine Z_iconst dX12_passes_0 (v := 0) (by decide) (pc' := 1) rfl ?_
  refine Z_istore_n dX12_passes_1 (Nat.le_of_ble_eq_true rfl) (Nat.le_of_ble_eq_true rfl) rfl (ls' := [_, _, _]) rfl (pc' := 2) rfl ?_
  exact lp_X12_pr_29 hw (fun S1 h => ⟨rfl, S1, rfl, h⟩) 8 0 S rfl k
set_option maxRecDepth 100000 in
theorem pp_30 : ∀ j, j < 8 → pa (24 + j) = 30 ∧ pj (24 + j) = j := by decide +kernel
set_option maxRecDepth 100000 in
set_option maxHeartbeats 4000000 in
theorem lp_X12_pk_30 {S0 : ZS} {n wh : Nat} (hw : wh ≤ 1) {R : Option Value → ZW → Prop} (hR : ∀ S, KI wh S0 S 32 → R none (zw S n)) : ∀ (m j : Nat) (S : ZS), j + m = 8 → KI wh S0 S (24 + j) → Z m_X12_passes 0 0 R 2 [some (.ref 25), some (.ref 30), some (.int (nI j))] [] (zw S n) := by
  intro m
  induction m with
  | zero =>
    intro j S h k
    obtain rfl : j = 8 := by omega
    refine Z_iload_n dX12_passes_2 rfl (pc' := 3) rfl ?_
    refine Z_aload_n dX12_passes_3 rfl (z_isref _) (pc' := 4) rfl ?_
    refine Z_al dX12_passes_4 zar_30 (v := 8) (by decide) (pc' := 5) rfl ?_
    refine Z_icmp_ge dX12_passes_5 (tgt := 58) rfl (pc' := 8) rfl (fun c_5 => ?_) (fun c_5 => absurd c_5 (fun c => c (by decide)))
    exact Z_return dX12_passes_58 rfl (hR S k)
  | succ m ih =>
    intro j S h k
    have hp : pa (24 + j) = 30 ∧ pj (24 + j) = j := pp_30 j (by omega)
    have hg := k.get (k := 24 + j) (by omega)
    rw [hp.1, hp.2] at hg
    refine Z_iload_n dX12_passes_2 rfl (pc' := 3) rfl ?_
    refine Z_aload_n dX12_passes_3 rfl (z_isref _) (pc' := 4) rfl ?_
    refine Z_al dX12_passes_4 zar_30 (v := 8) (by decide) (pc' := 5) rfl ?_
    refine Z_icmp_ge dX12_passes_5 (tgt := 58) rfl (pc' := 8) rfl (fun c_5 => absurd c_5 (by rw [show (8 : Int32) = nI 8 from rfl, nI_len (by decide) (by omega)]; omega)) (fun c_5 => ?_)
    refine Z_aload_n dX12_passes_8 rfl (z_isref _) (pc' := 9) rfl ?_
    refine Z_gI dX12_passes_9 rfl zgi_RX12_143_25 (pc' := 12) rfl ?_
    rw [k.2.2.2.1]
    refine Z_if_eq dX12_passes_12 (tgt := 30) rfl (pc' := 15) rfl (fun c_12 => absurd c_12 (by decide)) (fun c_12 => ?_)
    refine Z_aload_n dX12_passes_15 rfl (z_isref _) (pc' := 16) rfl ?_
    refine Z_gR dX12_passes_16 rfl zgr_RX12_58_25 (pc' := 19) rfl ?_
    refine Z_aload_n dX12_passes_19 rfl (z_isref _) (pc' := 20) rfl ?_
    refine Z_gI dX12_passes_20 rfl zgi_RX12_147_25 (pc' := 23) rfl ?_
    rw [k.2.2.1]
    refine Z_aload_n dX12_passes_23 rfl (z_isref _) (pc' := 24) rfl ?_
    refine Z_iload_n dX12_passes_24 rfl (pc' := 25) rfl ?_
    refine Z_il dX12_passes_25 zar_30 (zin (by omega) (by decide)) (pc' := 26) rfl ?_
    refine Z_is dX12_passes_26 zar_42 (zin (by omega) (by decide)) (pc' := 27) rfl ?_
    rw [nI_nat (by omega), nI_nat (by omega)]
    refine Z_goto dX12_passes_27 (tgt := 42) rfl ?_
    refine Z_aload_n dX12_passes_42 rfl (z_isref _) (pc' := 43) rfl ?_
    refine Z_dup dX12_passes_43 rfl (pc' := 44) rfl ?_
    refine Z_gI dX12_passes_44 rfl zgi_RX12_147_25 (pc' := 47) rfl ?_
    rw [sA_ne _ _ _ (by decide), k.2.2.1]
    refine Z_iconst dX12_passes_47 (v := 1) (by decide) (pc' := 48) rfl ?_
    refine Z_iadd dX12_passes_48 (pc' := 49) rfl ?_
    rw [show nI (220 * wh + (24 + j)) + 1 = nI (220 * wh + (24 + j) + 1) from nI_inc _]
    refine Z_pI dX12_passes_49 rfl zpi_RX12_147_25 (pc' := 52) rfl ?_
    refine Z_iinc dX12_passes_52 rfl (nI_inc j) (Nat.le_of_ble_eq_true rfl) rfl (ls' := [_, _, _]) rfl (pc' := 55) rfl ?_
    refine Z_goto dX12_passes_55 (tgt := 2) rfl ?_
    refine Z_take 3 (ls' := [_, _, _]) rfl ?_
    exact ih (j + 1) _ (by omega) (k.step (by omega) (by rw [hp.1, hp.2]; exact hg))
set_option maxRecDepth 100000 in
set_option maxHeartbeats 4000000 in
theorem c_X12_pk_30 {S0 S : ZS} {n wh : Nat} (hw : wh ≤ 1) (k : KI wh S0 S 24) : zM m_X12_passes 0 0 [.ref 25, .ref 30] (zw S n) (fun r ω => r = none ∧ ∃ S1, ω = zw S1 n ∧ KI wh S0 S1 32) := by
  show Z m_X12_passes _ _ _ 0 [some (.ref _), some (.ref _)] [] _
  refine Z_iconst dX12_passes_0 (v := 0) (by decide) (pc' := 1) rfl ?_
  refine Z_istore_n dX12_passes_1 (Nat.le_of_ble_eq_true rfl) (Nat.le_of_ble_eq_true rfl) rfl (ls' := [_, _, _]) rfl (pc' := 2) rfl ?_
  exact lp_X12_pk_30 hw (fun S1 h => ⟨rfl, S1, rfl, h⟩) 8 0 S rfl k
set_option maxRecDepth 100000 in
set_option maxHeartbeats 4000000 in
theorem lp_X12_pr_30 {S0 : ZS} {n wh : Nat} (hw : wh ≤ 1) {R : Option Value → ZW → Prop} (hR : ∀ S, RI wh S0 S 32 → R none (zw S n)) : ∀ (m j : Nat) (S : ZS), j + m = 8 → RI wh S0 S (24 + j) → Z m_X12_passes 0 0 R 2 [some (.ref 25), some (.ref 30), some (.int (nI j))] [] (zw S n) := by
  intro m
  induction m with
  | zero =>
    intro j S h k
    obtain rfl : j = 8 := by omega
    refine Z_iload_n dX12_passes_2 rfl (pc' := 3) rfl ?_
    refine Z_aload_n dX12_passes_3 rfl (z_isref _) (pc' := 4) rfl ?_
    refine Z_al dX12_passes_4 zar_30 (v := 8) (by decide) (pc' := 5) rfl ?_
    refine Z_icmp_ge dX12_passes_5 (tgt := 58) rfl (pc' := 8) rfl (fun c_5 => ?_) (fun c_5 => absurd c_5 (fun c => c (by decide)))
    exact Z_return dX12_passes_58 rfl (hR S k)
  | succ m ih =>
    intro j S h k
    have hp : pa (24 + j) = 30 ∧ pj (24 + j) = j := pp_30 j (by omega)
    refine Z_iload_n dX12_passes_2 rfl (pc' := 3) rfl ?_
    refine Z_aload_n dX12_passes_3 rfl (z_isref _) (pc' := 4) rfl ?_
    refine Z_al dX12_passes_4 zar_30 (v := 8) (by decide) (pc' := 5) rfl ?_
    refine Z_icmp_ge dX12_passes_5 (tgt := 58) rfl (pc' := 8) rfl (fun c_5 => absurd c_5 (by rw [show (8 : Int32) = nI 8 from rfl, nI_len (by decide) (by omega)]; omega)) (fun c_5 => ?_)
    refine Z_aload_n dX12_passes_8 rfl (z_isref _) (pc' := 9) rfl ?_
    refine Z_gI dX12_passes_9 rfl zgi_RX12_143_25 (pc' := 12) rfl ?_
    rw [k.2.2.2.1]
    refine Z_if_eq dX12_passes_12 (tgt := 30) rfl (pc' := 15) rfl (fun c_12 => ?_) (fun c_12 => absurd c_12 (fun c => c rfl))
    refine Z_aload_n dX12_passes_30 rfl (z_isref _) (pc' := 31) rfl ?_
    refine Z_iload_n dX12_passes_31 rfl (pc' := 32) rfl ?_
    refine Z_aload_n dX12_passes_32 rfl (z_isref _) (pc' := 33) rfl ?_
    refine Z_gR dX12_passes_33 rfl zgr_RX12_58_25 (pc' := 36) rfl ?_
    refine Z_aload_n dX12_passes_36 rfl (z_isref _) (pc' := 37) rfl ?_
    refine Z_gI dX12_passes_37 rfl zgi_RX12_147_25 (pc' := 40) rfl ?_
    rw [k.2.2.1]
    refine Z_il dX12_passes_40 zar_42 (zin (by omega) (by decide)) (pc' := 41) rfl ?_
    rw [nI_nat (by omega)]
    refine Z_is dX12_passes_41 zar_30 (zin (by omega) (by decide)) (pc' := 42) rfl ?_
    rw [nI_nat (by omega)]
    refine Z_aload_n dX12_passes_42 rfl (z_isref _) (pc' := 43) rfl ?_
    refine Z_dup dX12_passes_43 rfl (pc' := 44) rfl ?_
    refine Z_gI dX12_passes_44 rfl zgi_RX12_147_25 (pc' := 47) rfl ?_
    rw [sA_ne _ _ _ (by decide), k.2.2.1]
    refine Z_iconst dX12_passes_47 (v := 1) (by decide) (pc' := 48) rfl ?_
    refine Z_iadd dX12_passes_48 (pc' := 49) rfl ?_
    rw [show nI (220 * wh + (24 + j)) + 1 = nI (220 * wh + (24 + j) + 1) from nI_inc _]
    refine Z_pI dX12_passes_49 rfl zpi_RX12_147_25 (pc' := 52) rfl ?_
    refine Z_iinc dX12_passes_52 rfl (nI_inc j) (Nat.le_of_ble_eq_true rfl) rfl (ls' := [_, _, _]) rfl (pc' := 55) rfl ?_
    refine Z_goto dX12_passes_55 (tgt := 2) rfl ?_
    refine Z_take 3 (ls' := [_, _, _]) rfl ?_
    exact ih (j + 1) _ (by omega) (k.step (by omega) hp.1 hp.2 (x := S.1 42 (220 * wh + (24 + j))) (k.get _) rfl (fun b i => rs_get (by decide)))
set_option maxRecDepth 100000 in
set_option maxHeartbeats 4000000 in
theorem c_X12_pr_30 {S0 S : ZS} {n wh : Nat} (hw : wh ≤ 1) (k : RI wh S0 S 24) : zM m_X12_passes 0 0 [.ref 25, .ref 30] (zw S n) (fun r ω => r = none ∧ ∃ S1, ω = zw S1 n ∧ RI wh S0 S1 32) := by
  show Z m_X12_passes _ _ _ 0 [some (.ref _), some (.ref _)] [] _
  refine Z_iconst dX12_passes_0 (v := 0) (by decide) (pc' := 1) rfl ?_
  refine Z_istore_n dX12_passes_1 (Nat.le_of_ble_eq_true rfl) (Nat.le_of_ble_eq_true rfl) rfl (ls' := [_, _, _]) rfl (pc' := 2) rfl ?_
  exact lp_X12_pr_30 hw (fun S1 h => ⟨rfl, S1, rfl, h⟩) 8 0 S rfl k
set_option maxRecDepth 100000 in
theorem pp_31 : ∀ j, j < 49 → pa (32 + j) = 31 ∧ pj (32 + j) = j := by decide +kernel
set_option maxRecDepth 100000 in
set_option maxHeartbeats 4000000 in
theorem lp_X12_pk_31 {S0 : ZS} {n wh : Nat} (hw : wh ≤ 1) {R : Option Value → ZW → Prop} (hR : ∀ S, KI wh S0 S 81 → R none (zw S n)) : ∀ (m j : Nat) (S : ZS), j + m = 49 → KI wh S0 S (32 + j) → Z m_X12_passes 0 0 R 2 [some (.ref 25), some (.ref 31), some (.int (nI j))] [] (zw S n) := by
  intro m
  induction m with
  | zero =>
    intro j S h k
    obtain rfl : j = 49 := by omega
    refine Z_iload_n dX12_passes_2 rfl (pc' := 3) rfl ?_
    refine Z_aload_n dX12_passes_3 rfl (z_isref _) (pc' := 4) rfl ?_
    refine Z_al dX12_passes_4 zar_31 (v := 49) (by decide) (pc' := 5) rfl ?_
    refine Z_icmp_ge dX12_passes_5 (tgt := 58) rfl (pc' := 8) rfl (fun c_5 => ?_) (fun c_5 => absurd c_5 (fun c => c (by decide)))
    exact Z_return dX12_passes_58 rfl (hR S k)
  | succ m ih =>
    intro j S h k
    have hp : pa (32 + j) = 31 ∧ pj (32 + j) = j := pp_31 j (by omega)
    have hg := k.get (k := 32 + j) (by omega)
    rw [hp.1, hp.2] at hg
    refine Z_iload_n dX12_passes_2 rfl (pc' := 3) rfl ?_
    refine Z_aload_n dX12_passes_3 rfl (z_isref _) (pc' := 4) rfl ?_
    refine Z_al dX12_passes_4 zar_31 (v := 49) (by decide) (pc' := 5) rfl ?_
    refine Z_icmp_ge dX12_passes_5 (tgt := 58) rfl (pc' := 8) rfl (fun c_5 => absurd c_5 (by rw [show (49 : Int32) = nI 49 from rfl, nI_len (by decide) (by omega)]; omega)) (fun c_5 => ?_)
    refine Z_aload_n dX12_passes_8 rfl (z_isref _) (pc' := 9) rfl ?_
    refine Z_gI dX12_passes_9 rfl zgi_RX12_143_25 (pc' := 12) rfl ?_
    rw [k.2.2.2.1]
    refine Z_if_eq dX12_passes_12 (tgt := 30) rfl (pc' := 15) rfl (fun c_12 => absurd c_12 (by decide)) (fun c_12 => ?_)
    refine Z_aload_n dX12_passes_15 rfl (z_isref _) (pc' := 16) rfl ?_
    refine Z_gR dX12_passes_16 rfl zgr_RX12_58_25 (pc' := 19) rfl ?_
    refine Z_aload_n dX12_passes_19 rfl (z_isref _) (pc' := 20) rfl ?_
    refine Z_gI dX12_passes_20 rfl zgi_RX12_147_25 (pc' := 23) rfl ?_
    rw [k.2.2.1]
    refine Z_aload_n dX12_passes_23 rfl (z_isref _) (pc' := 24) rfl ?_
    refine Z_iload_n dX12_passes_24 rfl (pc' := 25) rfl ?_
    refine Z_il dX12_passes_25 zar_31 (zin (by omega) (by decide)) (pc' := 26) rfl ?_
    refine Z_is dX12_passes_26 zar_42 (zin (by omega) (by decide)) (pc' := 27) rfl ?_
    rw [nI_nat (by omega), nI_nat (by omega)]
    refine Z_goto dX12_passes_27 (tgt := 42) rfl ?_
    refine Z_aload_n dX12_passes_42 rfl (z_isref _) (pc' := 43) rfl ?_
    refine Z_dup dX12_passes_43 rfl (pc' := 44) rfl ?_
    refine Z_gI dX12_passes_44 rfl zgi_RX12_147_25 (pc' := 47) rfl ?_
    rw [sA_ne _ _ _ (by decide), k.2.2.1]
    refine Z_iconst dX12_passes_47 (v := 1) (by decide) (pc' := 48) rfl ?_
    refine Z_iadd dX12_passes_48 (pc' := 49) rfl ?_
    rw [show nI (220 * wh + (32 + j)) + 1 = nI (220 * wh + (32 + j) + 1) from nI_inc _]
    refine Z_pI dX12_passes_49 rfl zpi_RX12_147_25 (pc' := 52) rfl ?_
    refine Z_iinc dX12_passes_52 rfl (nI_inc j) (Nat.le_of_ble_eq_true rfl) rfl (ls' := [_, _, _]) rfl (pc' := 55) rfl ?_
    refine Z_goto dX12_passes_55 (tgt := 2) rfl ?_
    refine Z_take 3 (ls' := [_, _, _]) rfl ?_
    exact ih (j + 1) _ (by omega) (k.step (by omega) (by rw [hp.1, hp.2]; exact hg))
set_option maxRecDepth 100000 in
set_option maxHeartbeats 4000000 in
theorem c_X12_pk_31 {S0 S : ZS} {n wh : Nat} (hw : wh ≤ 1) (k : KI wh S0 S 32) : zM m_X12_passes 0 0 [.ref 25, .ref 31] (zw S n) (fun r ω => r = none ∧ ∃ S1, ω = zw S1 n ∧ KI wh S0 S1 81) := by
  show Z m_X12_passes _ _ _ 0 [some (.ref _), some (.ref _)] [] _
  refine Z_iconst dX12_passes_0 (v := 0) (by decide) (pc' := 1) rfl ?_
  refine Z_istore_n dX12_passes_1 (Nat.le_of_ble_eq_true rfl) (Nat.le_of_ble_eq_true rfl) rfl (ls' := [_, _, _]) rfl (pc' := 2) rfl ?_
  exact lp_X12_pk_31 hw (fun S1 h => ⟨rfl, S1, rfl, h⟩) 49 0 S rfl k
set_option maxRecDepth 100000 in
set_option maxHeartbeats 4000000 in
theorem lp_X12_pr_31 {S0 : ZS} {n wh : Nat} (hw : wh ≤ 1) {R : Option Value → ZW → Prop} (hR : ∀ S, RI wh S0 S 81 → R none (zw S n)) : ∀ (m j : Nat) (S : ZS), j + m = 49 → RI wh S0 S (32 + j) → Z m_X12_passes 0 0 R 2 [some (.ref 25), some (.ref 31), some (.int (nI j))] [] (zw S n) := by
  intro m
  induction m with
  | zero =>
    intro j S h k
    obtain rfl : j = 49 := by omega
    refine Z_iload_n dX12_passes_2 rfl (pc' := 3) rfl ?_
    refine Z_aload_n dX12_passes_3 rfl (z_isref _) (pc' := 4) rfl ?_
    refine Z_al dX12_passes_4 zar_31 (v := 49) (by decide) (pc' := 5) rfl ?_
    refine Z_icmp_ge dX12_passes_5 (tgt := 58) rfl (pc' := 8) rfl (fun c_5 => ?_) (fun c_5 => absurd c_5 (fun c => c (by decide)))
    exact Z_return dX12_passes_58 rfl (hR S k)
  | succ m ih =>
    intro j S h k
    have hp : pa (32 + j) = 31 ∧ pj (32 + j) = j := pp_31 j (by omega)
    refine Z_iload_n dX12_passes_2 rfl (pc' := 3) rfl ?_
    refine Z_aload_n dX12_passes_3 rfl (z_isref _) (pc' := 4) rfl ?_
    refine Z_al dX12_passes_4 zar_31 (v := 49) (by decide) (pc' := 5) rfl ?_
    refine Z_icmp_ge dX12_passes_5 (tgt := 58) rfl (pc' := 8) rfl (fun c_5 => absurd c_5 (by rw [show (49 : Int32) = nI 49 from rfl, nI_len (by decide) (by omega)]; omega)) (fun c_5 => ?_)
    refine Z_aload_n dX12_passes_8 rfl (z_isref _) (pc' := 9) rfl ?_
    refine Z_gI dX12_passes_9 rfl zgi_RX12_143_25 (pc' := 12) rfl ?_
    rw [k.2.2.2.1]
    refine Z_if_eq dX12_passes_12 (tgt := 30) rfl (pc' := 15) rfl (fun c_12 => ?_) (fun c_12 => absurd c_12 (fun c => c rfl))
    refine Z_aload_n dX12_passes_30 rfl (z_isref _) (pc' := 31) rfl ?_
    refine Z_iload_n dX12_passes_31 rfl (pc' := 32) rfl ?_
    refine Z_aload_n dX12_passes_32 rfl (z_isref _) (pc' := 33) rfl ?_
    refine Z_gR dX12_passes_33 rfl zgr_RX12_58_25 (pc' := 36) rfl ?_
    refine Z_aload_n dX12_passes_36 rfl (z_isref _) (pc' := 37) rfl ?_
    refine Z_gI dX12_passes_37 rfl zgi_RX12_147_25 (pc' := 40) rfl ?_
    rw [k.2.2.1]
    refine Z_il dX12_passes_40 zar_42 (zin (by omega) (by decide)) (pc' := 41) rfl ?_
    rw [nI_nat (by omega)]
    refine Z_is dX12_passes_41 zar_31 (zin (by omega) (by decide)) (pc' := 42) rfl ?_
    rw [nI_nat (by omega)]
    refine Z_aload_n dX12_passes_42 rfl (z_isref _) (pc' := 43) rfl ?_
    refine Z_dup dX12_passes_43 rfl (pc' := 44) rfl ?_
    refine Z_gI dX12_passes_44 rfl zgi_RX12_147_25 (pc' := 47) rfl ?_
    rw [sA_ne _ _ _ (by decide), k.2.2.1]
    refine Z_iconst dX12_passes_47 (v := 1) (by decide) (pc' := 48) rfl ?_
    refine Z_iadd dX12_passes_48 (pc' := 49) rfl ?_
    rw [show nI (220 * wh + (32 + j)) + 1 = nI (220 * wh + (32 + j) + 1) from nI_inc _]
    refine Z_pI dX12_passes_49 rfl zpi_RX12_147_25 (pc' := 52) rfl ?_
    refine Z_iinc dX12_passes_52 rfl (nI_inc j) (Nat.le_of_ble_eq_true rfl) rfl (ls' := [_, _, _]) rfl (pc' := 55) rfl ?_
    refine Z_goto dX12_passes_55 (tgt := 2) rfl ?_
    refine Z_take 3 (ls' := [_, _, _]) rfl ?_
    exact ih (j + 1) _ (by omega) (k.step (by omega) hp.1 hp.2 (x := S.1 42 (220 * wh + (32 + j))) (k.get _) rfl (fun b i => rs_get (by decide)))
set_option maxRecDepth 100000 in
set_option maxHeartbeats 4000000 in
theorem c_X12_pr_31 {S0 S : ZS} {n wh : Nat} (hw : wh ≤ 1) (k : RI wh S0 S 32) : zM m_X12_passes 0 0 [.ref 25, .ref 31] (zw S n) (fun r ω => r = none ∧ ∃ S1, ω = zw S1 n ∧ RI wh S0 S1 81) := by
  show Z m_X12_passes _ _ _ 0 [some (.ref _), some (.ref _)] [] _
  refine Z_iconst dX12_passes_0 (v := 0) (by decide) (pc' := 1) rfl ?_
  refine Z_istore_n dX12_passes_1 (Nat.le_of_ble_eq_true rfl) (Nat.le_of_ble_eq_true rfl) rfl (ls' := [_, _, _]) rfl (pc' := 2) rfl ?_
  exact lp_X12_pr_31 hw (fun S1 h => ⟨rfl, S1, rfl, h⟩) 49 0 S rfl k
set_option maxRecDepth 100000 in
theorem pp_32 : ∀ j, j < 49 → pa (81 + j) = 32 ∧ pj (81 + j) = j := by decide +kernel
set_option maxRecDepth 100000 in
set_option maxHeartbeats 4000000 in
theorem lp_X12_pk_32 {S0 : ZS} {n wh : Nat} (hw : wh ≤ 1) {R : Option Value → ZW → Prop} (hR : ∀ S, KI wh S0 S 130 → R none (zw S n)) : ∀ (m j : Nat) (S : ZS), j + m = 49 → KI wh S0 S (81 + j) → Z m_X12_passes 0 0 R 2 [some (.ref 25), some (.ref 32), some (.int (nI j))] [] (zw S n) := by
  intro m
  induction m with
  | zero =>
    intro j S h k
    obtain rfl : j = 49 := by omega
    refine Z_iload_n dX12_passes_2 rfl (pc' := 3) rfl ?_
    refine Z_aload_n dX12_passes_3 rfl (z_isref _) (pc' := 4) rfl ?_
    refine Z_al dX12_passes_4 zar_32 (v := 49) (by decide) (pc' := 5) rfl ?_
    refine Z_icmp_ge dX12_passes_5 (tgt := 58) rfl (pc' := 8) rfl (fun c_5 => ?_) (fun c_5 => absurd c_5 (fun c => c (by decide)))
    exact Z_return dX12_passes_58 rfl (hR S k)
  | succ m ih =>
    intro j S h k
    have hp : pa (81 + j) = 32 ∧ pj (81 + j) = j := pp_32 j (by omega)
    have hg := k.get (k := 81 + j) (by omega)
    rw [hp.1, hp.2] at hg
    refine Z_iload_n dX12_passes_2 rfl (pc' := 3) rfl ?_
    refine Z_aload_n dX12_passes_3 rfl (z_isref _) (pc' := 4) rfl ?_
    refine Z_al dX12_passes_4 zar_32 (v := 49) (by decide) (pc' := 5) rfl ?_
    refine Z_icmp_ge dX12_passes_5 (tgt := 58) rfl (pc' := 8) rfl (fun c_5 => absurd c_5 (by rw [show (49 : Int32) = nI 49 from rfl, nI_len (by decide) (by omega)]; omega)) (fun c_5 => ?_)
    refine Z_aload_n dX12_passes_8 rfl (z_isref _) (pc' := 9) rfl ?_
    refine Z_gI dX12_passes_9 rfl zgi_RX12_143_25 (pc' := 12) rfl ?_
    rw [k.2.2.2.1]
    refine Z_if_eq dX12_passes_12 (tgt := 30) rfl (pc' := 15) rfl (fun c_12 => absurd c_12 (by decide)) (fun c_12 => ?_)
    refine Z_aload_n dX12_passes_15 rfl (z_isref _) (pc' := 16) rfl ?_
    refine Z_gR dX12_passes_16 rfl zgr_RX12_58_25 (pc' := 19) rfl ?_
    refine Z_aload_n dX12_passes_19 rfl (z_isref _) (pc' := 20) rfl ?_
    refine Z_gI dX12_passes_20 rfl zgi_RX12_147_25 (pc' := 23) rfl ?_
    rw [k.2.2.1]
    refine Z_aload_n dX12_passes_23 rfl (z_isref _) (pc' := 24) rfl ?_
    refine Z_iload_n dX12_passes_24 rfl (pc' := 25) rfl ?_
    refine Z_il dX12_passes_25 zar_32 (zin (by omega) (by decide)) (pc' := 26) rfl ?_
    refine Z_is dX12_passes_26 zar_42 (zin (by omega) (by decide)) (pc' := 27) rfl ?_
    rw [nI_nat (by omega), nI_nat (by omega)]
    refine Z_goto dX12_passes_27 (tgt := 42) rfl ?_
    refine Z_aload_n dX12_passes_42 rfl (z_isref _) (pc' := 43) rfl ?_
    refine Z_dup dX12_passes_43 rfl (pc' := 44) rfl ?_
    refine Z_gI dX12_passes_44 rfl zgi_RX12_147_25 (pc' := 47) rfl ?_
    rw [sA_ne _ _ _ (by decide), k.2.2.1]
    refine Z_iconst dX12_passes_47 (v := 1) (by decide) (pc' := 48) rfl ?_
    refine Z_iadd dX12_passes_48 (pc' := 49) rfl ?_
    rw [show nI (220 * wh + (81 + j)) + 1 = nI (220 * wh + (81 + j) + 1) from nI_inc _]
    refine Z_pI dX12_passes_49 rfl zpi_RX12_147_25 (pc' := 52) rfl ?_
    refine Z_iinc dX12_passes_52 rfl (nI_inc j) (Nat.le_of_ble_eq_true rfl) rfl (ls' := [_, _, _]) rfl (pc' := 55) rfl ?_
    refine Z_goto dX12_passes_55 (tgt := 2) rfl ?_
    refine Z_take 3 (ls' := [_, _, _]) rfl ?_
    exact ih (j + 1) _ (by omega) (k.step (by omega) (by rw [hp.1, hp.2]; exact hg))
set_option maxRecDepth 100000 in
set_option maxHeartbeats 4000000 in
theorem c_X12_pk_32 {S0 S : ZS} {n wh : Nat} (hw : wh ≤ 1) (k : KI wh S0 S 81) : zM m_X12_passes 0 0 [.ref 25, .ref 32] (zw S n) (fun r ω => r = none ∧ ∃ S1, ω = zw S1 n ∧ KI wh S0 S1 130) := by
  show Z m_X12_passes _ _ _ 0 [some (.ref _), some (.ref _)] [] _
  refine Z_iconst dX12_passes_0 (v := 0) (by decide) (pc' := 1) rfl ?_
  refine Z_istore_n dX12_passes_1 (Nat.le_of_ble_eq_true rfl) (Nat.le_of_ble_eq_true rfl) rfl (ls' := [_, _, _]) rfl (pc' := 2) rfl ?_
  exact lp_X12_pk_32 hw (fun S1 h => ⟨rfl, S1, rfl, h⟩) 49 0 S rfl k
set_option maxRecDepth 100000 in
set_option maxHeartbeats 4000000 in
theorem lp_X12_pr_32 {S0 : ZS} {n wh : Nat} (hw : wh ≤ 1) {R : Option Value → ZW → Prop} (hR : ∀ S, RI wh S0 S 130 → R none (zw S n)) : ∀ (m j : Nat) (S : ZS), j + m = 49 → RI wh S0 S (81 + j) → Z m_X12_passes 0 0 R 2 [some (.ref 25), some (.ref 32), some (.int (nI j))] [] (zw S n) := by
  intro m
  induction m with
  | zero =>
    intro j S h k
    obtain rfl : j = 49 := by omega
    refine Z_iload_n dX12_passes_2 rfl (pc' := 3) rfl ?_
    refine Z_aload_n dX12_passes_3 rfl (z_isref _) (pc' := 4) rfl ?_
    refine Z_al dX12_passes_4 zar_32 (v := 49) (by decide) (pc' := 5) rfl ?_
    refine Z_icmp_ge dX12_passes_5 (tgt := 58) rfl (pc' := 8) rfl (fun c_5 => ?_) (fun c_5 => absurd c_5 (fun c => c (by decide)))
    exact Z_return dX12_passes_58 rfl (hR S k)
  | succ m ih =>
    intro j S h k
    have hp : pa (81 + j) = 32 ∧ pj (81 + j) = j := pp_32 j (by omega)
    refine Z_iload_n dX12_passes_2 rfl (pc' := 3) rfl ?_
    refine Z_aload_n dX12_passes_3 rfl (z_isref _) (pc' := 4) rfl ?_
    refine Z_al dX12_passes_4 zar_32 (v := 49) (by decide) (pc' := 5) rfl ?_
    refine Z_icmp_ge dX12_passes_5 (tgt := 58) rfl (pc' := 8) rfl (fun c_5 => absurd c_5 (by rw [show (49 : Int32) = nI 49 from rfl, nI_len (by decide) (by omega)]; omega)) (fun c_5 => ?_)
    refine Z_aload_n dX12_passes_8 rfl (z_isref _) (pc' := 9) rfl ?_
    refine Z_gI dX12_passes_9 rfl zgi_RX12_143_25 (pc' := 12) rfl ?_
    rw [k.2.2.2.1]
    refine Z_if_eq dX12_passes_12 (tgt := 30) rfl (pc' := 15) rfl (fun c_12 => ?_) (fun c_12 => absurd c_12 (fun c => c rfl))
    refine Z_aload_n dX12_passes_30 rfl (z_isref _) (pc' := 31) rfl ?_
    refine Z_iload_n dX12_passes_31 rfl (pc' := 32) rfl ?_
    refine Z_aload_n dX12_passes_32 rfl (z_isref _) (pc' := 33) rfl ?_
    refine Z_gR dX12_passes_33 rfl zgr_RX12_58_25 (pc' := 36) rfl ?_
    refine Z_aload_n dX12_passes_36 rfl (z_isref _) (pc' := 37) rfl ?_
    refine Z_gI dX12_passes_37 rfl zgi_RX12_147_25 (pc' := 40) rfl ?_
    rw [k.2.2.1]
    refine Z_il dX12_passes_40 zar_42 (zin (by omega) (by decide)) (pc' := 41) rfl ?_
    rw [nI_nat (by omega)]
    refine Z_is dX12_passes_41 zar_32 (zin (by omega) (by decide)) (pc' := 42) rfl ?_
    rw [nI_nat (by omega)]
    refine Z_aload_n dX12_passes_42 rfl (z_isref _) (pc' := 43) rfl ?_
    refine Z_dup dX12_passes_43 rfl (pc' := 44) rfl ?_
    refine Z_gI dX12_passes_44 rfl zgi_RX12_147_25 (pc' := 47) rfl ?_
    rw [sA_ne _ _ _ (by decide), k.2.2.1]
    refine Z_iconst dX12_passes_47 (v := 1) (by decide) (pc' := 48) rfl ?_
    refine Z_iadd dX12_passes_48 (pc' := 49) rfl ?_
    rw [show nI (220 * wh + (81 + j)) + 1 = nI (220 * wh + (81 + j) + 1) from nI_inc _]
    refine Z_pI dX12_passes_49 rfl zpi_RX12_147_25 (pc' := 52) rfl ?_
    refine Z_iinc dX12_passes_52 rfl (nI_inc j) (Nat.le_of_ble_eq_true rfl) rfl (ls' := [_, _, _]) rfl (pc' := 55) rfl ?_
    refine Z_goto dX12_passes_55 (tgt := 2) rfl ?_
    refine Z_take 3 (ls' := [_, _, _]) rfl ?_
    exact ih (j + 1) _ (by omega) (k.step (by omega) hp.1 hp.2 (x := S.1 42 (220 * wh + (81 + j))) (k.get _) rfl (fun b i => rs_get (by decide)))
set_option maxRecDepth 100000 in
set_option maxHeartbeats 4000000 in
theorem c_X12_pr_32 {S0 S : ZS} {n wh : Nat} (hw : wh ≤ 1) (k : RI wh S0 S 81) : zM m_X12_passes 0 0 [.ref 25, .ref 32] (zw S n) (fun r ω => r = none ∧ ∃ S1, ω = zw S1 n ∧ RI wh S0 S1 130) := by
  show Z m_X12_passes _ _ _ 0 [some (.ref _), some (.ref _)] [] _
  refine Z_iconst dX12_passes_0 (v := 0) (by decide) (pc' := 1) rfl ?_
  refine Z_istore_n dX12_passes_1 (Nat.le_of_ble_eq_true rfl) (Nat.le_of_ble_eq_true rfl) rfl (ls' := [_, _, _]) rfl (pc' := 2) rfl ?_
  exact lp_X12_pr_32 hw (fun S1 h => ⟨rfl, S1, rfl, h⟩) 49 0 S rfl k
set_option maxRecDepth 100000 in
theorem pp_33 : ∀ j, j < 49 → pa (130 + j) = 33 ∧ pj (130 + j) = j := by decide +kernel
set_option maxRecDepth 100000 in
set_option maxHeartbeats 4000000 in
theorem lp_X12_pk_33 {S0 : ZS} {n wh : Nat} (hw : wh ≤ 1) {R : Option Value → ZW → Prop} (hR : ∀ S, KI wh S0 S 179 → R none (zw S n)) : ∀ (m j : Nat) (S : ZS), j + m = 49 → KI wh S0 S (130 + j) → Z m_X12_passes 0 0 R 2 [some (.ref 25), some (.ref 33), some (.int (nI j))] [] (zw S n) := by
  intro m
  induction m with
  | zero =>
    intro j S h k
    obtain rfl : j = 49 := by omega
    refine Z_iload_n dX12_passes_2 rfl (pc' := 3) rfl ?_
    refine Z_aload_n dX12_passes_3 rfl (z_isref _) (pc' := 4) rfl ?_
    refine Z_al dX12_passes_4 zar_33 (v := 49) (by decide) (pc' := 5) rfl ?_
    refine Z_icmp_ge dX12_passes_5 (tgt := 58) rfl (pc' := 8) rfl (fun c_5 => ?_) (fun c_5 => absurd c_5 (fun c => c (by decide)))
    exact Z_return dX12_passes_58 rfl (hR S k)
  | succ m ih =>
    intro j S h k
    have hp : pa (130 + j) = 33 ∧ pj (130 + j) = j := pp_33 j (by omega)
    have hg := k.get (k := 130 + j) (by omega)
    rw [hp.1, hp.2] at hg
    refine Z_iload_n dX12_passes_2 rfl (pc' := 3) rfl ?_
    refine Z_aload_n dX12_passes_3 rfl (z_isref _) (pc' := 4) rfl ?_
    refine Z_al dX12_passes_4 zar_33 (v := 49) (by decide) (pc' := 5) rfl ?_
    refine Z_icmp_ge dX12_passes_5 (tgt := 58) rfl (pc' := 8) rfl (fun c_5 => absurd c_5 (by rw [show (49 : Int32) = nI 49 from rfl, nI_len (by decide) (by omega)]; omega)) (fun c_5 => ?_)
    refine Z_aload_n dX12_passes_8 rfl (z_isref _) (pc' := 9) rfl ?_
    refine Z_gI dX12_passes_9 rfl zgi_RX12_143_25 (pc' := 12) rfl ?_
    rw [k.2.2.2.1]
    refine Z_if_eq dX12_passes_12 (tgt := 30) rfl (pc' := 15) rfl (fun c_12 => absurd c_12 (by decide)) (fun c_12 => ?_)
    refine Z_aload_n dX12_passes_15 rfl (z_isref _) (pc' := 16) rfl ?_
    refine Z_gR dX12_passes_16 rfl zgr_RX12_58_25 (pc' := 19) rfl ?_
    refine Z_aload_n dX12_passes_19 rfl (z_isref _) (pc' := 20) rfl ?_
    refine Z_gI dX12_passes_20 rfl zgi_RX12_147_25 (pc' := 23) rfl ?_
    rw [k.2.2.1]
    refine Z_aload_n dX12_passes_23 rfl (z_isref _) (pc' := 24) rfl ?_
    refine Z_iload_n dX12_passes_24 rfl (pc' := 25) rfl ?_
    refine Z_il dX12_passes_25 zar_33 (zin (by omega) (by decide)) (pc' := 26) rfl ?_
    refine Z_is dX12_passes_26 zar_42 (zin (by omega) (by decide)) (pc' := 27) rfl ?_
    rw [nI_nat (by omega), nI_nat (by omega)]
    refine Z_goto dX12_passes_27 (tgt := 42) rfl ?_
    refine Z_aload_n dX12_passes_42 rfl (z_isref _) (pc' := 43) rfl ?_
    refine Z_dup dX12_passes_43 rfl (pc' := 44) rfl ?_
    refine Z_gI dX12_passes_44 rfl zgi_RX12_147_25 (pc' := 47) rfl ?_
    rw [sA_ne _ _ _ (by decide), k.2.2.1]
    refine Z_iconst dX12_passes_47 (v := 1) (by decide) (pc' := 48) rfl ?_
    refine Z_iadd dX12_passes_48 (pc' := 49) rfl ?_
    rw [show nI (220 * wh + (130 + j)) + 1 = nI (220 * wh + (130 + j) + 1) from nI_inc _]
    refine Z_pI dX12_passes_49 rfl zpi_RX12_147_25 (pc' := 52) rfl ?_
    refine Z_iinc dX12_passes_52 rfl (nI_inc j) (Nat.le_of_ble_eq_true rfl) rfl (ls' := [_, _, _]) rfl (pc' := 55) rfl ?_
    refine Z_goto dX12_passes_55 (tgt := 2) rfl ?_
    refine Z_take 3 (ls' := [_, _, _]) rfl ?_
    exact ih (j + 1) _ (by omega) (k.step (by omega) (by rw [hp.1, hp.2]; exact hg))
set_option maxRecDepth 100000 in
set_option maxHeartbeats 4000000 in
theorem c_X12_pk_33 {S0 S : ZS} {n wh : Nat} (hw : wh ≤ 1) (k : KI wh S0 S 130) : zM m_X12_passes 0 0 [.ref 25, .ref 33] (zw S n) (fun r ω => r = none ∧ ∃ S1, ω = zw S1 n ∧ KI wh S0 S1 179) := by
  show Z m_X12_passes _ _ _ 0 [some (.ref _), some (.ref _)] [] _
  refine Z_iconst dX12_passes_0 (v := 0) (by decide) (pc' := 1) rfl ?_
  refine Z_istore_n dX12_passes_1 (Nat.le_of_ble_eq_true rfl) (Nat.le_of_ble_eq_true rfl) rfl (ls' := [_, _, _]) rfl (pc' := 2) rfl ?_
  exact lp_X12_pk_33 hw (fun S1 h => ⟨rfl, S1, rfl, h⟩) 49 0 S rfl k
set_option maxRecDepth 100000 in
set_option maxHeartbeats 4000000 in
theorem lp_X12_pr_33 {S0 : ZS} {n wh : Nat} (hw : wh ≤ 1) {R : Option Value → ZW → Prop} (hR : ∀ S, RI wh S0 S 179 → R none (zw S n)) : ∀ (m j : Nat) (S : ZS), j + m = 49 → RI wh S0 S (130 + j) → Z m_X12_passes 0 0 R 2 [some (.ref 25), some (.ref 33), some (.int (nI j))] [] (zw S n) := by
  intro m
  induction m with
  | zero =>
    intro j S h k
    obtain rfl : j = 49 := by omega
    refine Z_iload_n dX12_passes_2 rfl (pc' := 3) rfl ?_
    refine Z_aload_n dX12_passes_3 rfl (z_isref _) (pc' := 4) rfl ?_
    refine Z_al dX12_passes_4 zar_33 (v := 49) (by decide) (pc' := 5) rfl ?_
    refine Z_icmp_ge dX12_passes_5 (tgt := 58) rfl (pc' := 8) rfl (fun c_5 => ?_) (fun c_5 => absurd c_5 (fun c => c (by decide)))
    exact Z_return dX12_passes_58 rfl (hR S k)
  | succ m ih =>
    intro j S h k
    have hp : pa (130 + j) = 33 ∧ pj (130 + j) = j := pp_33 j (by omega)
    refine Z_iload_n dX12_passes_2 rfl (pc' := 3) rfl ?_
    refine Z_aload_n dX12_passes_3 rfl (z_isref _) (pc' := 4) rfl ?_
    refine Z_al dX12_passes_4 zar_33 (v := 49) (by decide) (pc' := 5) rfl ?_
    refine Z_icmp_ge dX12_passes_5 (tgt := 58) rfl (pc' := 8) rfl (fun c_5 => absurd c_5 (by rw [show (49 : Int32) = nI 49 from rfl, nI_len (by decide) (by omega)]; omega)) (fun c_5 => ?_)
    refine Z_aload_n dX12_passes_8 rfl (z_isref _) (pc' := 9) rfl ?_
    refine Z_gI dX12_passes_9 rfl zgi_RX12_143_25 (pc' := 12) rfl ?_
    rw [k.2.2.2.1]
    refine Z_if_eq dX12_passes_12 (tgt := 30) rfl (pc' := 15) rfl (fun c_12 => ?_) (fun c_12 => absurd c_12 (fun c => c rfl))
    refine Z_aload_n dX12_passes_30 rfl (z_isref _) (pc' := 31) rfl ?_
    refine Z_iload_n dX12_passes_31 rfl (pc' := 32) rfl ?_
    refine Z_aload_n dX12_passes_32 rfl (z_isref _) (pc' := 33) rfl ?_
    refine Z_gR dX12_passes_33 rfl zgr_RX12_58_25 (pc' := 36) rfl ?_
    refine Z_aload_n dX12_passes_36 rfl (z_isref _) (pc' := 37) rfl ?_
    refine Z_gI dX12_passes_37 rfl zgi_RX12_147_25 (pc' := 40) rfl ?_
    rw [k.2.2.1]
    refine Z_il dX12_passes_40 zar_42 (zin (by omega) (by decide)) (pc' := 41) rfl ?_
    rw [nI_nat (by omega)]
    refine Z_is dX12_passes_41 zar_33 (zin (by omega) (by decide)) (pc' := 42) rfl ?_
    rw [nI_nat (by omega)]
    refine Z_aload_n dX12_passes_42 rfl (z_isref _) (pc' := 43) rfl ?_
    refine Z_dup dX12_passes_43 rfl (pc' := 44) rfl ?_
    refine Z_gI dX12_passes_44 rfl zgi_RX12_147_25 (pc' := 47) rfl ?_
    rw [sA_ne _ _ _ (by decide), k.2.2.1]
    refine Z_iconst dX12_passes_47 (v := 1) (by decide) (pc' := 48) rfl ?_
    refine Z_iadd dX12_passes_48 (pc' := 49) rfl ?_
    rw [show nI (220 * wh + (130 + j)) + 1 = nI (220 * wh + (130 + j) + 1) from nI_inc _]
    refine Z_pI dX12_passes_49 rfl zpi_RX12_147_25 (pc' := 52) rfl ?_
    refine Z_iinc dX12_passes_52 rfl (nI_inc j) (Nat.le_of_ble_eq_true rfl) rfl (ls' := [_, _, _]) rfl (pc' := 55) rfl ?_
    refine Z_goto dX12_passes_55 (tgt := 2) rfl ?_
    refine Z_take 3 (ls' := [_, _, _]) rfl ?_
    exact ih (j + 1) _ (by omega) (k.step (by omega) hp.1 hp.2 (x := S.1 42 (220 * wh + (130 + j))) (k.get _) rfl (fun b i => rs_get (by decide)))
set_option maxRecDepth 100000 in
set_option maxHeartbeats 4000000 in
theorem c_X12_pr_33 {S0 S : ZS} {n wh : Nat} (hw : wh ≤ 1) (k : RI wh S0 S 130) : zM m_X12_passes 0 0 [.ref 25, .ref 33] (zw S n) (fun r ω => r = none ∧ ∃ S1, ω = zw S1 n ∧ RI wh S0 S1 179) := by
  show Z m_X12_passes _ _ _ 0 [some (.ref _), some (.ref _)] [] _
  refine Z_iconst dX12_passes_0 (v := 0) (by decide) (pc' := 1) rfl ?_
  refine Z_istore_n dX12_passes_1 (Nat.le_of_ble_eq_true rfl) (Nat.le_of_ble_eq_true rfl) rfl (ls' := [_, _, _]) rfl (pc' := 2) rfl ?_
  exact lp_X12_pr_33 hw (fun S1 h => ⟨rfl, S1, rfl, h⟩) 49 0 S rfl k
set_option maxRecDepth 100000 in
theorem pp_34 : ∀ j, j < 6 → pa (179 + j) = 34 ∧ pj (179 + j) = j := by decide +kernel
set_option maxRecDepth 100000 in
set_option maxHeartbeats 4000000 in
theorem lp_X12_pk_34 {S0 : ZS} {n wh : Nat} (hw : wh ≤ 1) {R : Option Value → ZW → Prop} (hR : ∀ S, KI wh S0 S 185 → R none (zw S n)) : ∀ (m j : Nat) (S : ZS), j + m = 6 → KI wh S0 S (179 + j) → Z m_X12_passes 0 0 R 2 [some (.ref 25), some (.ref 34), some (.int (nI j))] [] (zw S n) := by
  intro m
  induction m with
  | zero =>
    intro j S h k
    obtain rfl : j = 6 := by omega
    refine Z_iload_n dX12_passes_2 rfl (pc' := 3) rfl ?_
    refine Z_aload_n dX12_passes_3 rfl (z_isref _) (pc' := 4) rfl ?_
    refine Z_al dX12_passes_4 zar_34 (v := 6) (by decide) (pc' := 5) rfl ?_
    refine Z_icmp_ge dX12_passes_5 (tgt := 58) rfl (pc' := 8) rfl (fun c_5 => ?_) (fun c_5 => absurd c_5 (fun c => c (by decide)))
    exact Z_return dX12_passes_58 rfl (hR S k)
  | succ m ih =>
    intro j S h k
    have hp : pa (179 + j) = 34 ∧ pj (179 + j) = j := pp_34 j (by omega)
    have hg := k.get (k := 179 + j) (by omega)
    rw [hp.1, hp.2] at hg
    refine Z_iload_n dX12_passes_2 rfl (pc' := 3) rfl ?_
    refine Z_aload_n dX12_passes_3 rfl (z_isref _) (pc' := 4) rfl ?_
    refine Z_al dX12_passes_4 zar_34 (v := 6) (by decide) (pc' := 5) rfl ?_
    refine Z_icmp_ge dX12_passes_5 (tgt := 58) rfl (pc' := 8) rfl (fun c_5 => absurd c_5 (by rw [show (6 : Int32) = nI 6 from rfl, nI_len (by decide) (by omega)]; omega)) (fun c_5 => ?_)
    refine Z_aload_n dX12_passes_8 rfl (z_isref _) (pc' := 9) rfl ?_
    refine Z_gI dX12_passes_9 rfl zgi_RX12_143_25 (pc' := 12) rfl ?_
    rw [k.2.2.2.1]
    refine Z_if_eq dX12_passes_12 (tgt := 30) rfl (pc' := 15) rfl (fun c_12 => absurd c_12 (by decide)) (fun c_12 => ?_)
    refine Z_aload_n dX12_passes_15 rfl (z_isref _) (pc' := 16) rfl ?_
    refine Z_gR dX12_passes_16 rfl zgr_RX12_58_25 (pc' := 19) rfl ?_
    refine Z_aload_n dX12_passes_19 rfl (z_isref _) (pc' := 20) rfl ?_
    refine Z_gI dX12_passes_20 rfl zgi_RX12_147_25 (pc' := 23) rfl ?_
    rw [k.2.2.1]
    refine Z_aload_n dX12_passes_23 rfl (z_isref _) (pc' := 24) rfl ?_
    refine Z_iload_n dX12_passes_24 rfl (pc' := 25) rfl ?_
    refine Z_il dX12_passes_25 zar_34 (zin (by omega) (by decide)) (pc' := 26) rfl ?_
    refine Z_is dX12_passes_26 zar_42 (zin (by omega) (by decide)) (pc' := 27) rfl ?_
    rw [nI_nat (by omega), nI_nat (by omega)]
    refine Z_goto dX12_passes_27 (tgt := 42) rfl ?_
    refine Z_aload_n dX12_passes_42 rfl (z_isref _) (pc' := 43) rfl ?_
    refine Z_dup dX12_passes_43 rfl (pc' := 44) rfl ?_
    refine Z_gI dX12_passes_44 rfl zgi_RX12_147_25 (pc' := 47) rfl ?_
    rw [sA_ne _ _ _ (by decide), k.2.2.1]
    refine Z_iconst dX12_passes_47 (v := 1) (by decide) (pc' := 48) rfl ?_
    refine Z_iadd dX12_passes_48 (pc' := 49) rfl ?_
    rw [show nI (220 * wh + (179 + j)) + 1 = nI (220 * wh + (179 + j) + 1) from nI_inc _]
    refine Z_pI dX12_passes_49 rfl zpi_RX12_147_25 (pc' := 52) rfl ?_
    refine Z_iinc dX12_passes_52 rfl (nI_inc j) (Nat.le_of_ble_eq_true rfl) rfl (ls' := [_, _, _]) rfl (pc' := 55) rfl ?_
    refine Z_goto dX12_passes_55 (tgt := 2) rfl ?_
    refine Z_take 3 (ls' := [_, _, _]) rfl ?_
    exact ih (j + 1) _ (by omega) (k.step (by omega) (by rw [hp.1, hp.2]; exact hg))
set_option maxRecDepth 100000 in
set_option maxHeartbeats 4000000 in
theorem c_X12_pk_34 {S0 S : ZS} {n wh : Nat} (hw : wh ≤ 1) (k : KI wh S0 S 179) : zM m_X12_passes 0 0 [.ref 25, .ref 34] (zw S n) (fun r ω => r = none ∧ ∃ S1, ω = zw S1 n ∧ KI wh S0 S1 185) := by
  show Z m_X12_passes _ _ _ 0 [some (.ref _), some (.ref _)] [] _
  refine Z_iconst dX12_passes_0 (v := 0) (by decide) (pc' := 1) rfl ?_
  refine Z_istore_n dX12_passes_1 (Nat.le_of_ble_eq_true rfl) (Nat.le_of_ble_eq_true rfl) rfl (ls' := [_, _, _]) rfl (pc' := 2) rfl ?_
  exact lp_X12_pk_34 hw (fun S1 h => ⟨rfl, S1, rfl, h⟩) 6 0 S rfl k
set_option maxRecDepth 100000 in
set_option maxHeartbeats 4000000 in
theorem lp_X12_pr_34 {S0 : ZS} {n wh : Nat} (hw : wh ≤ 1) {R : Option Value → ZW → Prop} (hR : ∀ S, RI wh S0 S 185 → R none (zw S n)) : ∀ (m j : Nat) (S : ZS), j + m = 6 → RI wh S0 S (179 + j) → Z m_X12_passes 0 0 R 2 [some (.ref 25), some (.ref 34), some (.int (nI j))] [] (zw S n) := by
  intro m
  induction m with
  | zero =>
    intro j S h k
    obtain rfl : j = 6 := by omega
    refine Z_iload_n dX12_passes_2 rfl (pc' := 3) rfl ?_
    refine Z_aload_n dX12_passes_3 rfl (z_isref _) (pc' := 4) rfl ?_
    refine Z_al dX12_passes_4 zar_34 (v := 6) (by decide) (pc' := 5) rfl ?_
    refine Z_icmp_ge dX12_passes_5 (tgt := 58) rfl (pc' := 8) rfl (fun c_5 => ?_) (fun c_5 => absurd c_5 (fun c => c (by decide)))
    exact Z_return dX12_passes_58 rfl (hR S k)
  | succ m ih =>
    intro j S h k
    have hp : pa (179 + j) = 34 ∧ pj (179 + j) = j := pp_34 j (by omega)
    refine Z_iload_n dX12_passes_2 rfl (pc' := 3) rfl ?_
    refine Z_aload_n dX12_passes_3 rfl (z_isref _) (pc' := 4) rfl ?_
    refine Z_al dX12_passes_4 zar_34 (v := 6) (by decide) (pc' := 5) rfl ?_
    refine Z_icmp_ge dX12_passes_5 (tgt := 58) rfl (pc' := 8) rfl (fun c_5 => absurd c_5 (by rw [show (6 : Int32) = nI 6 from rfl, nI_len (by decide) (by omega)]; omega)) (fun c_5 => ?_)
    refine Z_aload_n dX12_passes_8 rfl (z_isref _) (pc' := 9) rfl ?_
    refine Z_gI dX12_passes_9 rfl zgi_RX12_143_25 (pc' := 12) rfl ?_
    rw [k.2.2.2.1]
    refine Z_if_eq dX12_passes_12 (tgt := 30) rfl (pc' := 15) rfl (fun c_12 => ?_) (fun c_12 => absurd c_12 (fun c => c rfl))
    refine Z_aload_n dX12_passes_30 rfl (z_isref _) (pc' := 31) rfl ?_
    refine Z_iload_n dX12_passes_31 rfl (pc' := 32) rfl ?_
    refine Z_aload_n dX12_passes_32 rfl (z_isref _) (pc' := 33) rfl ?_
    refine Z_gR dX12_passes_33 rfl zgr_RX12_58_25 (pc' := 36) rfl ?_
    refine Z_aload_n dX12_passes_36 rfl (z_isref _) (pc' := 37) rfl ?_
    refine Z_gI dX12_passes_37 rfl zgi_RX12_147_25 (pc' := 40) rfl ?_
    rw [k.2.2.1]
    refine Z_il dX12_passes_40 zar_42 (zin (by omega) (by decide)) (pc' := 41) rfl ?_
    rw [nI_nat (by omega)]
    refine Z_is dX12_passes_41 zar_34 (zin (by omega) (by decide)) (pc' := 42) rfl ?_
    rw [nI_nat (by omega)]
    refine Z_aload_n dX12_passes_42 rfl (z_isref _) (pc' := 43) rfl ?_
    refine Z_dup dX12_passes_43 rfl (pc' := 44) rfl ?_
    refine Z_gI dX12_passes_44 rfl zgi_RX12_147_25 (pc' := 47) rfl ?_
    rw [sA_ne _ _ _ (by decide), k.2.2.1]
    refine Z_iconst dX12_passes_47 (v := 1) (by decide) (pc' := 48) rfl ?_
    refine Z_iadd dX12_passes_48 (pc' := 49) rfl ?_
    rw [show nI (220 * wh + (179 + j)) + 1 = nI (220 * wh + (179 + j) + 1) from nI_inc _]
    refine Z_pI dX12_passes_49 rfl zpi_RX12_147_25 (pc' := 52) rfl ?_
    refine Z_iinc dX12_passes_52 rfl (nI_inc j) (Nat.le_of_ble_eq_true rfl) rfl (ls' := [_, _, _]) rfl (pc' := 55) rfl ?_
    refine Z_goto dX12_passes_55 (tgt := 2) rfl ?_
    refine Z_take 3 (ls' := [_, _, _]) rfl ?_
    exact ih (j + 1) _ (by omega) (k.step (by omega) hp.1 hp.2 (x := S.1 42 (220 * wh + (179 + j))) (k.get _) rfl (fun b i => rs_get (by decide)))
set_option maxRecDepth 100000 in
set_option maxHeartbeats 4000000 in
theorem c_X12_pr_34 {S0 S : ZS} {n wh : Nat} (hw : wh ≤ 1) (k : RI wh S0 S 179) : zM m_X12_passes 0 0 [.ref 25, .ref 34] (zw S n) (fun r ω => r = none ∧ ∃ S1, ω = zw S1 n ∧ RI wh S0 S1 185) := by
  show Z m_X12_passes _ _ _ 0 [some (.ref _), some (.ref _)] [] _
  refine Z_iconst dX12_passes_0 (v := 0) (by decide) (pc' := 1) rfl ?_
  refine Z_istore_n dX12_passes_1 (Nat.le_of_ble_eq_true rfl) (Nat.le_of_ble_eq_true rfl) rfl (ls' := [_, _, _]) rfl (pc' := 2) rfl ?_
  exact lp_X12_pr_34 hw (fun S1 h => ⟨rfl, S1, rfl, h⟩) 6 0 S rfl k
set_option maxRecDepth 100000 in
theorem pp_35 : ∀ j, j < 6 → pa (185 + j) = 35 ∧ pj (185 + j) = j := by decide +kernel
set_option maxRecDepth 100000 in
set_option maxHeartbeats 4000000 in
theorem lp_X12_pk_35 {S0 : ZS} {n wh : Nat} (hw : wh ≤ 1) {R : Option Value → ZW → Prop} (hR : ∀ S, KI wh S0 S 191 → R none (zw S n)) : ∀ (m j : Nat) (S : ZS), j + m = 6 → KI wh S0 S (185 + j) → Z m_X12_passes 0 0 R 2 [some (.ref 25), some (.ref 35), some (.int (nI j))] [] (zw S n) := by
  intro m
  induction m with
  | zero =>
    intro j S h k
    obtain rfl : j = 6 := by omega
    refine Z_iload_n dX12_passes_2 rfl (pc' := 3) rfl ?_
    refine Z_aload_n dX12_passes_3 rfl (z_isref _) (pc' := 4) rfl ?_
    refine Z_al dX12_passes_4 zar_35 (v := 6) (by decide) (pc' := 5) rfl ?_
    refine Z_icmp_ge dX12_passes_5 (tgt := 58) rfl (pc' := 8) rfl (fun c_5 => ?_) (fun c_5 => absurd c_5 (fun c => c (by decide)))
    exact Z_return dX12_passes_58 rfl (hR S k)
  | succ m ih =>
    intro j S h k
    have hp : pa (185 + j) = 35 ∧ pj (185 + j) = j := pp_35 j (by omega)
    have hg := k.get (k := 185 + j) (by omega)
    rw [hp.1, hp.2] at hg
    refine Z_iload_n dX12_passes_2 rfl (pc' := 3) rfl ?_
    refine Z_aload_n dX12_passes_3 rfl (z_isref _) (pc' := 4) rfl ?_
    refine Z_al dX12_passes_4 zar_35 (v := 6) (by decide) (pc' := 5) rfl ?_
    refine Z_icmp_ge dX12_passes_5 (tgt := 58) rfl (pc' := 8) rfl (fun c_5 => absurd c_5 (by rw [show (6 : Int32) = nI 6 from rfl, nI_len (by decide) (by omega)]; omega)) (fun c_5 => ?_)
    refine Z_aload_n dX12_passes_8 rfl (z_isref _) (pc' := 9) rfl ?_
    refine Z_gI dX12_passes_9 rfl zgi_RX12_143_25 (pc' := 12) rfl ?_
    rw [k.2.2.2.1]
    refine Z_if_eq dX12_passes_12 (tgt := 30) rfl (pc' := 15) rfl (fun c_12 => absurd c_12 (by decide)) (fun c_12 => ?_)
    refine Z_aload_n dX12_passes_15 rfl (z_isref _) (pc' := 16) rfl ?_
    refine Z_gR dX12_passes_16 rfl zgr_RX12_58_25 (pc' := 19) rfl ?_
    refine Z_aload_n dX12_passes_19 rfl (z_isref _) (pc' := 20) rfl ?_
    refine Z_gI dX12_passes_20 rfl zgi_RX12_147_25 (pc' := 23) rfl ?_
    rw [k.2.2.1]
    refine Z_aload_n dX12_passes_23 rfl (z_isref _) (pc' := 24) rfl ?_
    refine Z_iload_n dX12_passes_24 rfl (pc' := 25) rfl ?_
    refine Z_il dX12_passes_25 zar_35 (zin (by omega) (by decide)) (pc' := 26) rfl ?_
    refine Z_is dX12_passes_26 zar_42 (zin (by omega) (by decide)) (pc' := 27) rfl ?_
    rw [nI_nat (by omega), nI_nat (by omega)]
    refine Z_goto dX12_passes_27 (tgt := 42) rfl ?_
    refine Z_aload_n dX12_passes_42 rfl (z_isref _) (pc' := 43) rfl ?_
    refine Z_dup dX12_passes_43 rfl (pc' := 44) rfl ?_
    refine Z_gI dX12_passes_44 rfl zgi_RX12_147_25 (pc' := 47) rfl ?_
    rw [sA_ne _ _ _ (by decide), k.2.2.1]
    refine Z_iconst dX12_passes_47 (v := 1) (by decide) (pc' := 48) rfl ?_
    refine Z_iadd dX12_passes_48 (pc' := 49) rfl ?_
    rw [show nI (220 * wh + (185 + j)) + 1 = nI (220 * wh + (185 + j) + 1) from nI_inc _]
    refine Z_pI dX12_passes_49 rfl zpi_RX12_147_25 (pc' := 52) rfl ?_
    refine Z_iinc dX12_passes_52 rfl (nI_inc j) (Nat.le_of_ble_eq_true rfl) rfl (ls' := [_, _, _]) rfl (pc' := 55) rfl ?_
    refine Z_goto dX12_passes_55 (tgt := 2) rfl ?_
    refine Z_take 3 (ls' := [_, _, _]) rfl ?_
    exact ih (j + 1) _ (by omega) (k.step (by omega) (by rw [hp.1, hp.2]; exact hg))
set_option maxRecDepth 100000 in
set_option maxHeartbeats 4000000 in
theorem c_X12_pk_35 {S0 S : ZS} {n wh : Nat} (hw : wh ≤ 1) (k : KI wh S0 S 185) : zM m_X12_passes 0 0 [.ref 25, .ref 35] (zw S n) (fun r ω => r = none ∧ ∃ S1, ω = zw S1 n ∧ KI wh S0 S1 191) := by
  show Z m_X12_passes _ _ _ 0 [some (.ref _), some (.ref _)] [] _
  refine Z_iconst dX12_passes_0 (v := 0) (by decide) (pc' := 1) rfl ?_
  refine Z_istore_n dX12_passes_1 (Nat.le_of_ble_eq_true rfl) (Nat.le_of_ble_eq_true rfl) rfl (ls' := [_, _, _]) rfl (pc' := 2) rfl ?_
  exact lp_X12_pk_35 hw (fun S1 h => ⟨rfl, S1, rfl, h⟩) 6 0 S rfl k
set_option maxRecDepth 100000 in
set_option maxHeartbeats 4000000 in
theorem lp_X12_pr_35 {S0 : ZS} {n wh : Nat} (hw : wh ≤ 1) {R : Option Value → ZW → Prop} (hR : ∀ S, RI wh S0 S 191 → R none (zw S n)) : ∀ (m j : Nat) (S : ZS), j + m = 6 → RI wh S0 S (185 + j) → Z m_X12_passes 0 0 R 2 [some (.ref 25), some (.ref 35), some (.int (nI j))] [] (zw S n) := by
  intro m
  induction m with
  | zero =>
    intro j S h k
    obtain rfl : j = 6 := by omega
    refine Z_iload_n dX12_passes_2 rfl (pc' := 3) rfl ?_
    refine Z_aload_n dX12_passes_3 rfl (z_isref _) (pc' := 4) rfl ?_
    refine Z_al dX12_passes_4 zar_35 (v := 6) (by decide) (pc' := 5) rfl ?_
    refine Z_icmp_ge dX12_passes_5 (tgt := 58) rfl (pc' := 8) rfl (fun c_5 => ?_) (fun c_5 => absurd c_5 (fun c => c (by decide)))
    exact Z_return dX12_passes_58 rfl (hR S k)
  | succ m ih =>
    intro j S h k
    have hp : pa (185 + j) = 35 ∧ pj (185 + j) = j := pp_35 j (by omega)
    refine Z_iload_n dX12_passes_2 rfl (pc' := 3) rfl ?_
    refine Z_aload_n dX12_passes_3 rfl (z_isref _) (pc' := 4) rfl ?_
    refine Z_al dX12_passes_4 zar_35 (v := 6) (by decide) (pc' := 5) rfl ?_
    refine Z_icmp_ge dX12_passes_5 (tgt := 58) rfl (pc' := 8) rfl (fun c_5 => absurd c_5 (by rw [show (6 : Int32) = nI 6 from rfl, nI_len (by decide) (by omega)]; omega)) (fun c_5 => ?_)
    refine Z_aload_n dX12_passes_8 rfl (z_isref _) (pc' := 9) rfl ?_
    refine Z_gI dX12_passes_9 rfl zgi_RX12_143_25 (pc' := 12) rfl ?_
    rw [k.2.2.2.1]
    refine Z_if_eq dX12_passes_12 (tgt := 30) rfl (pc' := 15) rfl (fun c_12 => ?_) (fun c_12 => absurd c_12 (fun c => c rfl))
    refine Z_aload_n dX12_passes_30 rfl (z_isref _) (pc' := 31) rfl ?_
    refine Z_iload_n dX12_passes_31 rfl (pc' := 32) rfl ?_
    refine Z_aload_n dX12_passes_32 rfl (z_isref _) (pc' := 33) rfl ?_
    refine Z_gR dX12_passes_33 rfl zgr_RX12_58_25 (pc' := 36) rfl ?_
    refine Z_aload_n dX12_passes_36 rfl (z_isref _) (pc' := 37) rfl ?_
    refine Z_gI dX12_passes_37 rfl zgi_RX12_147_25 (pc' := 40) rfl ?_
    rw [k.2.2.1]
    refine Z_il dX12_passes_40 zar_42 (zin (by omega) (by decide)) (pc' := 41) rfl ?_
    rw [nI_nat (by omega)]
    refine Z_is dX12_passes_41 zar_35 (zin (by omega) (by decide)) (pc' := 42) rfl ?_
    rw [nI_nat (by omega)]
    refine Z_aload_n dX12_passes_42 rfl (z_isref _) (pc' := 43) rfl ?_
    refine Z_dup dX12_passes_43 rfl (pc' := 44) rfl ?_
    refine Z_gI dX12_passes_44 rfl zgi_RX12_147_25 (pc' := 47) rfl ?_
    rw [sA_ne _ _ _ (by decide), k.2.2.1]
    refine Z_iconst dX12_passes_47 (v := 1) (by decide) (pc' := 48) rfl ?_
    refine Z_iadd dX12_passes_48 (pc' := 49) rfl ?_
    rw [show nI (220 * wh + (185 + j)) + 1 = nI (220 * wh + (185 + j) + 1) from nI_inc _]
    refine Z_pI dX12_passes_49 rfl zpi_RX12_147_25 (pc' := 52) rfl ?_
    refine Z_iinc dX12_passes_52 rfl (nI_inc j) (Nat.le_of_ble_eq_true rfl) rfl (ls' := [_, _, _]) rfl (pc' := 55) rfl ?_
    refine Z_goto dX12_passes_55 (tgt := 2) rfl ?_
    refine Z_take 3 (ls' := [_, _, _]) rfl ?_
    exact ih (j + 1) _ (by omega) (k.step (by omega) hp.1 hp.2 (x := S.1 42 (220 * wh + (185 + j))) (k.get _) rfl (fun b i => rs_get (by decide)))
set_option maxRecDepth 100000 in
set_option maxHeartbeats 4000000 in
theorem c_X12_pr_35 {S0 S : ZS} {n wh : Nat} (hw : wh ≤ 1) (k : RI wh S0 S 185) : zM m_X12_passes 0 0 [.ref 25, .ref 35] (zw S n) (fun r ω => r = none ∧ ∃ S1, ω = zw S1 n ∧ RI wh S0 S1 191) := by
  show Z m_X12_passes _ _ _ 0 [some (.ref _), some (.ref _)] [] _
  refine Z_iconst dX12_passes_0 (v := 0) (by decide) (pc' := 1) rfl ?_
  refine Z_istore_n dX12_passes_1 (Nat.le_of_ble_eq_true rfl) (Nat.le_of_ble_eq_true rfl) rfl (ls' := [_, _, _]) rfl (pc' := 2) rfl ?_
  exact lp_X12_pr_35 hw (fun S1 h => ⟨rfl, S1, rfl, h⟩) 6 0 S rfl k
set_option maxRecDepth 100000 in
theorem pp_36 : ∀ j, j < 6 → pa (191 + j) = 36 ∧ pj (191 + j) = j := by decide +kernel
set_option maxRecDepth 100000 in
set_option maxHeartbeats 4000000 in
theorem lp_X12_pk_36 {S0 : ZS} {n wh : Nat} (hw : wh ≤ 1) {R : Option Value → ZW → Prop} (hR : ∀ S, KI wh S0 S 197 → R none (zw S n)) : ∀ (m j : Nat) (S : ZS), j + m = 6 → KI wh S0 S (191 + j) → Z m_X12_passes 0 0 R 2 [some (.ref 25), some (.ref 36), some (.int (nI j))] [] (zw S n) := by
  intro m
  induction m with
  | zero =>
    intro j S h k
    obtain rfl : j = 6 := by omega
    refine Z_iload_n dX12_passes_2 rfl (pc' := 3) rfl ?_
    refine Z_aload_n dX12_passes_3 rfl (z_isref _) (pc' := 4) rfl ?_
    refine Z_al dX12_passes_4 zar_36 (v := 6) (by decide) (pc' := 5) rfl ?_
    refine Z_icmp_ge dX12_passes_5 (tgt := 58) rfl (pc' := 8) rfl (fun c_5 => ?_) (fun c_5 => absurd c_5 (fun c => c (by decide)))
    exact Z_return dX12_passes_58 rfl (hR S k)
  | succ m ih =>
    intro j S h k
    have hp : pa (191 + j) = 36 ∧ pj (191 + j) = j := pp_36 j (by omega)
    have hg := k.get (k := 191 + j) (by omega)
    rw [hp.1, hp.2] at hg
    refine Z_iload_n dX12_passes_2 rfl (pc' := 3) rfl ?_
    refine Z_aload_n dX12_passes_3 rfl (z_isref _) (pc' := 4) rfl ?_
    refine Z_al dX12_passes_4 zar_36 (v := 6) (by decide) (pc' := 5) rfl ?_
    refine Z_icmp_ge dX12_passes_5 (tgt := 58) rfl (pc' := 8) rfl (fun c_5 => absurd c_5 (by rw [show (6 : Int32) = nI 6 from rfl, nI_len (by decide) (by omega)]; omega)) (fun c_5 => ?_)
    refine Z_aload_n dX12_passes_8 rfl (z_isref _) (pc' := 9) rfl ?_
    refine Z_gI dX12_passes_9 rfl zgi_RX12_143_25 (pc' := 12) rfl ?_
    rw [k.2.2.2.1]
    refine Z_if_eq dX12_passes_12 (tgt := 30) rfl (pc' := 15) rfl (fun c_12 => absurd c_12 (by decide)) (fun c_12 => ?_)
    refine Z_aload_n dX12_passes_15 rfl (z_isref _) (pc' := 16) rfl ?_
    refine Z_gR dX12_passes_16 rfl zgr_RX12_58_25 (pc' := 19) rfl ?_
    refine Z_aload_n dX12_passes_19 rfl (z_isref _) (pc' := 20) rfl ?_
    refine Z_gI dX12_passes_20 rfl zgi_RX12_147_25 (pc' := 23) rfl ?_
    rw [k.2.2.1]
    refine Z_aload_n dX12_passes_23 rfl (z_isref _) (pc' := 24) rfl ?_
    refine Z_iload_n dX12_passes_24 rfl (pc' := 25) rfl ?_
    refine Z_il dX12_passes_25 zar_36 (zin (by omega) (by decide)) (pc' := 26) rfl ?_
    refine Z_is dX12_passes_26 zar_42 (zin (by omega) (by decide)) (pc' := 27) rfl ?_
    rw [nI_nat (by omega), nI_nat (by omega)]
    refine Z_goto dX12_passes_27 (tgt := 42) rfl ?_
    refine Z_aload_n dX12_passes_42 rfl (z_isref _) (pc' := 43) rfl ?_
    refine Z_dup dX12_passes_43 rfl (pc' := 44) rfl ?_
    refine Z_gI dX12_passes_44 rfl zgi_RX12_147_25 (pc' := 47) rfl ?_
    rw [sA_ne _ _ _ (by decide), k.2.2.1]
    refine Z_iconst dX12_passes_47 (v := 1) (by decide) (pc' := 48) rfl ?_
    refine Z_iadd dX12_passes_48 (pc' := 49) rfl ?_
    rw [show nI (220 * wh + (191 + j)) + 1 = nI (220 * wh + (191 + j) + 1) from nI_inc _]
    refine Z_pI dX12_passes_49 rfl zpi_RX12_147_25 (pc' := 52) rfl ?_
    refine Z_iinc dX12_passes_52 rfl (nI_inc j) (Nat.le_of_ble_eq_true rfl) rfl (ls' := [_, _, _]) rfl (pc' := 55) rfl ?_
    refine Z_goto dX12_passes_55 (tgt := 2) rfl ?_
    refine Z_take 3 (ls' := [_, _, _]) rfl ?_
    exact ih (j + 1) _ (by omega) (k.step (by omega) (by rw [hp.1, hp.2]; exact hg))
set_option maxRecDepth 100000 in
set_option maxHeartbeats 4000000 in
theorem c_X12_pk_36 {S0 S : ZS} {n wh : Nat} (hw : wh ≤ 1) (k : KI wh S0 S 191) : zM m_X12_passes 0 0 [.ref 25, .ref 36] (zw S n) (fun r ω => r = none ∧ ∃ S1, ω = zw S1 n ∧ KI wh S0 S1 197) := by
  show Z m_X12_passes _ _ _ 0 [some (.ref _), some (.ref _)] [] _
  refine Z_iconst dX12_passes_0 (v := 0) (by decide) (pc' := 1) rfl ?_
  refine Z_istore_n dX12_passes_1 (Nat.le_of_ble_eq_true rfl) (Nat.le_of_ble_eq_true rfl) rfl (ls' := [_, _, _]) rfl (pc' := 2) rfl ?_
  exact lp_X12_pk_36 hw (fun S1 h => ⟨rfl, S1, rfl, h⟩) 6 0 S rfl k
set_option maxRecDepth 100000 in
set_option maxHeartbeats 4000000 in
theorem lp_X12_pr_36 {S0 : ZS} {n wh : Nat} (hw : wh ≤ 1) {R : Option Value → ZW → Prop} (hR : ∀ S, RI wh S0 S 197 → R none (zw S n)) : ∀ (m j : Nat) (S : ZS), j + m = 6 → RI wh S0 S (191 + j) → Z m_X12_passes 0 0 R 2 [some (.ref 25), some (.ref 36), some (.int (nI j))] [] (zw S n) := by
  intro m
  induction m with
  | zero =>
    intro j S h k
    obtain rfl : j = 6 := by omega
    refine Z_iload_n dX12_passes_2 rfl (pc' := 3) rfl ?_
    refine Z_aload_n dX12_passes_3 rfl (z_isref _) (pc' := 4) rfl ?_
    refine Z_al dX12_passes_4 zar_36 (v := 6) (by decide) (pc' := 5) rfl ?_
    refine Z_icmp_ge dX12_passes_5 (tgt := 58) rfl (pc' := 8) rfl (fun c_5 => ?_) (fun c_5 => absurd c_5 (fun c => c (by decide)))
    exact Z_return dX12_passes_58 rfl (hR S k)
  | succ m ih =>
    intro j S h k
    have hp : pa (191 + j) = 36 ∧ pj (191 + j) = j := pp_36 j (by omega)
    refine Z_iload_n dX12_passes_2 rfl (pc' := 3) rfl ?_
    refine Z_aload_n dX12_passes_3 rfl (z_isref _) (pc' := 4) rfl ?_
    refine Z_al dX12_passes_4 zar_36 (v := 6) (by decide) (pc' := 5) rfl ?_
    refine Z_icmp_ge dX12_passes_5 (tgt := 58) rfl (pc' := 8) rfl (fun c_5 => absurd c_5 (by rw [show (6 : Int32) = nI 6 from rfl, nI_len (by decide) (by omega)]; omega)) (fun c_5 => ?_)
    refine Z_aload_n dX12_passes_8 rfl (z_isref _) (pc' := 9) rfl ?_
    refine Z_gI dX12_passes_9 rfl zgi_RX12_143_25 (pc' := 12) rfl ?_
    rw [k.2.2.2.1]
    refine Z_if_eq dX12_passes_12 (tgt := 30) rfl (pc' := 15) rfl (fun c_12 => ?_) (fun c_12 => absurd c_12 (fun c => c rfl))
    refine Z_aload_n dX12_passes_30 rfl (z_isref _) (pc' := 31) rfl ?_
    refine Z_iload_n dX12_passes_31 rfl (pc' := 32) rfl ?_
    refine Z_aload_n dX12_passes_32 rfl (z_isref _) (pc' := 33) rfl ?_
    refine Z_gR dX12_passes_33 rfl zgr_RX12_58_25 (pc' := 36) rfl ?_
    refine Z_aload_n dX12_passes_36 rfl (z_isref _) (pc' := 37) rfl ?_
    refine Z_gI dX12_passes_37 rfl zgi_RX12_147_25 (pc' := 40) rfl ?_
    rw [k.2.2.1]
    refine Z_il dX12_passes_40 zar_42 (zin (by omega) (by decide)) (pc' := 41) rfl ?_
    rw [nI_nat (by omega)]
    refine Z_is dX12_passes_41 zar_36 (zin (by omega) (by decide)) (pc' := 42) rfl ?_
    rw [nI_nat (by omega)]
    refine Z_aload_n dX12_passes_42 rfl (z_isref _) (pc' := 43) rfl ?_
    refine Z_dup dX12_passes_43 rfl (pc' := 44) rfl ?_
    refine Z_gI dX12_passes_44 rfl zgi_RX12_147_25 (pc' := 47) rfl ?_
    rw [sA_ne _ _ _ (by decide), k.2.2.1]
    refine Z_iconst dX12_passes_47 (v := 1) (by decide) (pc' := 48) rfl ?_
    refine Z_iadd dX12_passes_48 (pc' := 49) rfl ?_
    rw [show nI (220 * wh + (191 + j)) + 1 = nI (220 * wh + (191 + j) + 1) from nI_inc _]
    refine Z_pI dX12_passes_49 rfl zpi_RX12_147_25 (pc' := 52) rfl ?_
    refine Z_iinc dX12_passes_52 rfl (nI_inc j) (Nat.le_of_ble_eq_true rfl) rfl (ls' := [_, _, _]) rfl (pc' := 55) rfl ?_
    refine Z_goto dX12_passes_55 (tgt := 2) rfl ?_
    refine Z_take 3 (ls' := [_, _, _]) rfl ?_
    exact ih (j + 1) _ (by omega) (k.step (by omega) hp.1 hp.2 (x := S.1 42 (220 * wh + (191 + j))) (k.get _) rfl (fun b i => rs_get (by decide)))
set_option maxRecDepth 100000 in
set_option maxHeartbeats 4000000 in
theorem c_X12_pr_36 {S0 S : ZS} {n wh : Nat} (hw : wh ≤ 1) (k : RI wh S0 S 191) : zM m_X12_passes 0 0 [.ref 25, .ref 36] (zw S n) (fun r ω => r = none ∧ ∃ S1, ω = zw S1 n ∧ RI wh S0 S1 197) := by
  show Z m_X12_passes _ _ _ 0 [some (.ref _), some (.ref _)] [] _
  refine Z_iconst dX12_passes_0 (v := 0) (by decide) (pc' := 1) rfl ?_
  refine Z_istore_n dX12_passes_1 (Nat.le_of_ble_eq_true rfl) (Nat.le_of_ble_eq_true rfl) rfl (ls' := [_, _, _]) rfl (pc' := 2) rfl ?_
  exact lp_X12_pr_36 hw (fun S1 h => ⟨rfl, S1, rfl, h⟩) 6 0 S rfl k
set_option maxRecDepth 100000 in
theorem pp_37 : ∀ j, j < 6 → pa (197 + j) = 37 ∧ pj (197 + j) = j := by decide +kernel
set_option maxRecDepth 100000 in
set_option maxHeartbeats 4000000 in
theorem lp_X12_pk_37 {S0 : ZS} {n wh : Nat} (hw : wh ≤ 1) {R : Option Value → ZW → Prop} (hR : ∀ S, KI wh S0 S 203 → R none (zw S n)) : ∀ (m j : Nat) (S : ZS), j + m = 6 → KI wh S0 S (197 + j) → Z m_X12_passes 0 0 R 2 [some (.ref 25), some (.ref 37), some (.int (nI j))] [] (zw S n) := by
  intro m
  induction m with
  | zero =>
    intro j S h k
    obtain rfl : j = 6 := by omega
    refine Z_iload_n dX12_passes_2 rfl (pc' := 3) rfl ?_
    refine Z_aload_n dX12_passes_3 rfl (z_isref _) (pc' := 4) rfl ?_
    refine Z_al dX12_passes_4 zar_37 (v := 6) (by decide) (pc' := 5) rfl ?_
    refine Z_icmp_ge dX12_passes_5 (tgt := 58) rfl (pc' := 8) rfl (fun c_5 => ?_) (fun c_5 => absurd c_5 (fun c => c (by decide)))
    exact Z_return dX12_passes_58 rfl (hR S k)
  | succ m ih =>
    intro j S h k
    have hp : pa (197 + j) = 37 ∧ pj (197 + j) = j := pp_37 j (by omega)
    have hg := k.get (k := 197 + j) (by omega)
    rw [hp.1, hp.2] at hg
    refine Z_iload_n dX12_passes_2 rfl (pc' := 3) rfl ?_
    refine Z_aload_n dX12_passes_3 rfl (z_isref _) (pc' := 4) rfl ?_
    refine Z_al dX12_passes_4 zar_37 (v := 6) (by decide) (pc' := 5) rfl ?_
    refine Z_icmp_ge dX12_passes_5 (tgt := 58) rfl (pc' := 8) rfl (fun c_5 => absurd c_5 (by rw [show (6 : Int32) = nI 6 from rfl, nI_len (by decide) (by omega)]; omega)) (fun c_5 => ?_)
    refine Z_aload_n dX12_passes_8 rfl (z_isref _) (pc' := 9) rfl ?_
    refine Z_gI dX12_passes_9 rfl zgi_RX12_143_25 (pc' := 12) rfl ?_
    rw [k.2.2.2.1]
    refine Z_if_eq dX12_passes_12 (tgt := 30) rfl (pc' := 15) rfl (fun c_12 => absurd c_12 (by decide)) (fun c_12 => ?_)
    refine Z_aload_n dX12_passes_15 rfl (z_isref _) (pc' := 16) rfl ?_
    refine Z_gR dX12_passes_16 rfl zgr_RX12_58_25 (pc' := 19) rfl ?_
    refine Z_aload_n dX12_passes_19 rfl (z_isref _) (pc' := 20) rfl ?_
    refine Z_gI dX12_passes_20 rfl zgi_RX12_147_25 (pc' := 23) rfl ?_
    rw [k.2.2.1]
    refine Z_aload_n dX12_passes_23 rfl (z_isref _) (pc' := 24) rfl ?_
    refine Z_iload_n dX12_passes_24 rfl (pc' := 25) rfl ?_
    refine Z_il dX12_passes_25 zar_37 (zin (by omega) (by decide)) (pc' := 26) rfl ?_
    refine Z_is dX12_passes_26 zar_42 (zin (by omega) (by decide)) (pc' := 27) rfl ?_
    rw [nI_nat (by omega), nI_nat (by omega)]
    refine Z_goto dX12_passes_27 (tgt := 42) rfl ?_
    refine Z_aload_n dX12_passes_42 rfl (z_isref _) (pc' := 43) rfl ?_
    refine Z_dup dX12_passes_43 rfl (pc' := 44) rfl ?_
    refine Z_gI dX12_passes_44 rfl zgi_RX12_147_25 (pc' := 47) rfl ?_
    rw [sA_ne _ _ _ (by decide), k.2.2.1]
    refine Z_iconst dX12_passes_47 (v := 1) (by decide) (pc' := 48) rfl ?_
    refine Z_iadd dX12_passes_48 (pc' := 49) rfl ?_
    rw [show nI (220 * wh + (197 + j)) + 1 = nI (220 * wh + (197 + j) + 1) from nI_inc _]
    refine Z_pI dX12_passes_49 rfl zpi_RX12_147_25 (pc' := 52) rfl ?_
    refine Z_iinc dX12_passes_52 rfl (nI_inc j) (Nat.le_of_ble_eq_true rfl) rfl (ls' := [_, _, _]) rfl (pc' := 55) rfl ?_
    refine Z_goto dX12_passes_55 (tgt := 2) rfl ?_
    refine Z_take 3 (ls' := [_, _, _]) rfl ?_
    exact ih (j + 1) _ (by omega) (k.step (by omega) (by rw [hp.1, hp.2]; exact hg))
set_option maxRecDepth 100000 in
set_option maxHeartbeats 4000000 in
theorem c_X12_pk_37 {S0 S : ZS} {n wh : Nat} (hw : wh ≤ 1) (k : KI wh S0 S 197) : zM m_X12_passes 0 0 [.ref 25, .ref 37] (zw S n) (fun r ω => r = none ∧ ∃ S1, ω = zw S1 n ∧ KI wh S0 S1 203) := by
  show Z m_X12_passes _ _ _ 0 [some (.ref _), some (.ref _)] [] _
  refine Z_iconst dX12_passes_0 (v := 0) (by decide) (pc' := 1) rfl ?_
  refine Z_istore_n dX12_passes_1 (Nat.le_of_ble_eq_true rfl) (Nat.le_of_ble_eq_true rfl) rfl (ls' := [_, _, _]) rfl (pc' := 2) rfl ?_
  exact lp_X12_pk_37 hw (fun S1 h => ⟨rfl, S1, rfl, h⟩) 6 0 S rfl k
set_option maxRecDepth 100000 in
set_option maxHeartbeats 4000000 in
theorem lp_X12_pr_37 {S0 : ZS} {n wh : Nat} (hw : wh ≤ 1) {R : Option Value → ZW → Prop} (hR : ∀ S, RI wh S0 S 203 → R none (zw S n)) : ∀ (m j : Nat) (S : ZS), j + m = 6 → RI wh S0 S (197 + j) → Z m_X12_passes 0 0 R 2 [some (.ref 25), some (.ref 37), some (.int (nI j))] [] (zw S n) := by
  intro m
  induction m with
  | zero =>
    intro j S h k
    obtain rfl : j = 6 := by omega
    refine Z_iload_n dX12_passes_2 rfl (pc' := 3) rfl ?_
    refine Z_aload_n dX12_passes_3 rfl (z_isref _) (pc' := 4) rfl ?_
    refine Z_al dX12_passes_4 zar_37 (v := 6) (by decide) (pc' := 5) rfl ?_
    refine Z_icmp_ge dX12_passes_5 (tgt := 58) rfl (pc' := 8) rfl (fun c_5 => ?_) (fun c_5 => absurd c_5 (fun c => c (by decide)))
    exact Z_return dX12_passes_58 rfl (hR S k)
  | succ m ih =>
    intro j S h k
    have hp : pa (197 + j) = 37 ∧ pj (197 + j) = j := pp_37 j (by omega)
    refine Z_iload_n dX12_passes_2 rfl (pc' := 3) rfl ?_
    refine Z_aload_n dX12_passes_3 rfl (z_isref _) (pc' := 4) rfl ?_
    refine Z_al dX12_passes_4 zar_37 (v := 6) (by decide) (pc' := 5) rfl ?_
    refine Z_icmp_ge dX12_passes_5 (tgt := 58) rfl (pc' := 8) rfl (fun c_5 => absurd c_5 (by rw [show (6 : Int32) = nI 6 from rfl, nI_len (by decide) (by omega)]; omega)) (fun c_5 => ?_)
    refine Z_aload_n dX12_passes_8 rfl (z_isref _) (pc' := 9) rfl ?_
    refine Z_gI dX12_passes_9 rfl zgi_RX12_143_25 (pc' := 12) rfl ?_
    rw [k.2.2.2.1]
    refine Z_if_eq dX12_passes_12 (tgt := 30) rfl (pc' := 15) rfl (fun c_12 => ?_) (fun c_12 => absurd c_12 (fun c => c rfl))
    refine Z_aload_n dX12_passes_30 rfl (z_isref _) (pc' := 31) rfl ?_
    refine Z_iload_n dX12_passes_31 rfl (pc' := 32) rfl ?_
    refine Z_aload_n dX12_passes_32 rfl (z_isref _) (pc' := 33) rfl ?_
    refine Z_gR dX12_passes_33 rfl zgr_RX12_58_25 (pc' := 36) rfl ?_
    refine Z_aload_n dX12_passes_36 rfl (z_isref _) (pc' := 37) rfl ?_
    refine Z_gI dX12_passes_37 rfl zgi_RX12_147_25 (pc' := 40) rfl ?_
    rw [k.2.2.1]
    refine Z_il dX12_passes_40 zar_42 (zin (by omega) (by decide)) (pc' := 41) rfl ?_
    rw [nI_nat (by omega)]
    refine Z_is dX12_passes_41 zar_37 (zin (by omega) (by decide)) (pc' := 42) rfl ?_
    rw [nI_nat (by omega)]
    refine Z_aload_n dX12_passes_42 rfl (z_isref _) (pc' := 43) rfl ?_
    refine Z_dup dX12_passes_43 rfl (pc' := 44) rfl ?_
    refine Z_gI dX12_passes_44 rfl zgi_RX12_147_25 (pc' := 47) rfl ?_
    rw [sA_ne _ _ _ (by decide), k.2.2.1]
    refine Z_iconst dX12_passes_47 (v := 1) (by decide) (pc' := 48) rfl ?_
    refine Z_iadd dX12_passes_48 (pc' := 49) rfl ?_
    rw [show nI (220 * wh + (197 + j)) + 1 = nI (220 * wh + (197 + j) + 1) from nI_inc _]
    refine Z_pI dX12_passes_49 rfl zpi_RX12_147_25 (pc' := 52) rfl ?_
    refine Z_iinc dX12_passes_52 rfl (nI_inc j) (Nat.le_of_ble_eq_true rfl) rfl (ls' := [_, _, _]) rfl (pc' := 55) rfl ?_
    refine Z_goto dX12_passes_55 (tgt := 2) rfl ?_
    refine Z_take 3 (ls' := [_, _, _]) rfl ?_
    exact ih (j + 1) _ (by omega) (k.step (by omega) hp.1 hp.2 (x := S.1 42 (220 * wh + (197 + j))) (k.get _) rfl (fun b i => rs_get (by decide)))
set_option maxRecDepth 100000 in
set_option maxHeartbeats 4000000 in
theorem c_X12_pr_37 {S0 S : ZS} {n wh : Nat} (hw : wh ≤ 1) (k : RI wh S0 S 197) : zM m_X12_passes 0 0 [.ref 25, .ref 37] (zw S n) (fun r ω => r = none ∧ ∃ S1, ω = zw S1 n ∧ RI wh S0 S1 203) := by
  show Z m_X12_passes _ _ _ 0 [some (.ref _), some (.ref _)] [] _
  refine Z_iconst dX12_passes_0 (v := 0) (by decide) (pc' := 1) rfl ?_
  refine Z_istore_n dX12_passes_1 (Nat.le_of_ble_eq_true rfl) (Nat.le_of_ble_eq_true rfl) rfl (ls' := [_, _, _]) rfl (pc' := 2) rfl ?_
  exact lp_X12_pr_37 hw (fun S1 h => ⟨rfl, S1, rfl, h⟩) 6 0 S rfl k
set_option maxRecDepth 100000 in
set_option maxHeartbeats 4000000 in
theorem c_X12_passOne_k {S0 S : ZS} {n wh p : Nat} (hw : wh ≤ 1) (hp : p < 207) (k : KI wh S0 S p) {x : Int32} : zM m_X12_passOne 0 0 [.ref 25, .int x] (zw S n) (zE (some (.int x)) (zw (sA (sA S 42 (220 * wh + p) x) 25 26 (nI (220 * wh + p + 1))) n)) := by
  show Z m_X12_passOne _ _ _ 0 [some (.ref _), some (.int _)] [] _
  refine Z_aload_n dX12_passOne_0 rfl (z_isref _) (pc' := 1) rfl ?_
  refine Z_gI dX12_passOne_1 rfl zgi_RX12_143_25 (pc' := 4) rfl ?_
  rw [k.2.2.2.1]
  refine Z_if_eq dX12_passOne_4 (tgt := 11) rfl (pc' := 7) rfl (fun c_4 => absurd c_4 (by decide)) (fun c_4 => ?_)
  refine Z_iload_n dX12_passOne_7 rfl (pc' := 8) rfl ?_
  refine Z_goto dX12_passOne_8 (tgt := 20) rfl ?_
  refine Z_istore_n dX12_passOne_20 (Nat.le_of_ble_eq_true rfl) (Nat.le_of_ble_eq_true rfl) rfl (ls' := [_, _, _]) rfl (pc' := 21) rfl ?_
  refine Z_aload_n dX12_passOne_21 rfl (z_isref _) (pc' := 22) rfl ?_
  refine Z_gI dX12_passOne_22 rfl zgi_RX12_143_25 (pc' := 25) rfl ?_
  rw [k.2.2.2.1]
  refine Z_if_eq dX12_passOne_25 (tgt := 38) rfl (pc' := 28) rfl (fun c_25 => absurd c_25 (by decide)) (fun c_25 => ?_)
  refine Z_aload_n dX12_passOne_28 rfl (z_isref _) (pc' := 29) rfl ?_
  refine Z_gR dX12_passOne_29 rfl zgr_RX12_58_25 (pc' := 32) rfl ?_
  refine Z_aload_n dX12_passOne_32 rfl (z_isref _) (pc' := 33) rfl ?_
  refine Z_gI dX12_passOne_33 rfl zgi_RX12_147_25 (pc' := 36) rfl ?_
  rw [k.2.2.1]
  refine Z_iload_n dX12_passOne_36 rfl (pc' := 37) rfl ?_
  refine Z_is dX12_passOne_37 zar_42 (zin (by omega) (by decide)) (pc' := 38) rfl ?_
  rw [nI_nat (by omega)]
  refine Z_aload_n dX12_passOne_38 rfl (z_isref _) (pc' := 39) rfl ?_
  refine Z_dup dX12_passOne_39 rfl (pc' := 40) rfl ?_
  refine Z_gI dX12_passOne_40 rfl zgi_RX12_147_25 (pc' := 43) rfl ?_
  rw [sA_ne _ _ _ (by decide), k.2.2.1]
  refine Z_iconst dX12_passOne_43 (v := 1) (by decide) (pc' := 44) rfl ?_
  refine Z_iadd dX12_passOne_44 (pc' := 45) rfl ?_
  rw [show nI (220 * wh + p) + 1 = nI (220 * wh + p + 1) from nI_inc _]
  refine Z_pI dX12_passOne_45 rfl zpi_RX12_147_25 (pc' := 48) rfl ?_
  refine Z_iload_n dX12_passOne_48 rfl (pc' := 49) rfl ?_
  exact Z_ireturn dX12_passOne_49 rfl rfl ⟨rfl, rfl⟩
set_option maxRecDepth 100000 in
set_option maxHeartbeats 4000000 in
theorem c_X12_passOne_r {S0 S : ZS} {n wh p : Nat} (hw : wh ≤ 1) (hp : p < 207) (k : RI wh S0 S p) {x : Int32} : zM m_X12_passOne 0 0 [.ref 25, .int x] (zw S n) (zE (some (.int (S0.1 42 (220 * wh + p)))) (zw (sA S 25 26 (nI (220 * wh + p + 1))) n)) := by
  show Z m_X12_passOne _ _ _ 0 [some (.ref _), some (.int _)] [] _
  refine Z_aload_n dX12_passOne_0 rfl (z_isref _) (pc' := 1) rfl ?_
  refine Z_gI dX12_passOne_1 rfl zgi_RX12_143_25 (pc' := 4) rfl ?_
  rw [k.2.2.2.1]
  refine Z_if_eq dX12_passOne_4 (tgt := 11) rfl (pc' := 7) rfl (fun c_4 => ?_) (fun c_4 => absurd c_4 (fun c => c rfl))
  refine Z_aload_n dX12_passOne_11 rfl (z_isref _) (pc' := 12) rfl ?_
  refine Z_gR dX12_passOne_12 rfl zgr_RX12_58_25 (pc' := 15) rfl ?_
  refine Z_aload_n dX12_passOne_15 rfl (z_isref _) (pc' := 16) rfl ?_
  refine Z_gI dX12_passOne_16 rfl zgi_RX12_147_25 (pc' := 19) rfl ?_
  rw [k.2.2.1]
  refine Z_il dX12_passOne_19 zar_42 (zin (by omega) (by decide)) (pc' := 20) rfl ?_
  rw [nI_nat (by omega), k.get]
  refine Z_istore_n dX12_passOne_20 (Nat.le_of_ble_eq_true rfl) (Nat.le_of_ble_eq_true rfl) rfl (ls' := [_, _, _]) rfl (pc' := 21) rfl ?_
  refine Z_aload_n dX12_passOne_21 rfl (z_isref _) (pc' := 22) rfl ?_
  refine Z_gI dX12_passOne_22 rfl zgi_RX12_143_25 (pc' := 25) rfl ?_
  rw [k.2.2.2.1]
  refine Z_if_eq dX12_passOne_25 (tgt := 38) rfl (pc' := 28) rfl (fun c_25 => ?_) (fun c_25 => absurd c_25 (fun c => c rfl))
  refine Z_aload_n dX12_passOne_38 rfl (z_isref _) (pc' := 39) rfl ?_
  refine Z_dup dX12_passOne_39 rfl (pc' := 40) rfl ?_
  refine Z_gI dX12_passOne_40 rfl zgi_RX12_147_25 (pc' := 43) rfl ?_
  rw [k.2.2.1]
  refine Z_iconst dX12_passOne_43 (v := 1) (by decide) (pc' := 44) rfl ?_
  refine Z_iadd dX12_passOne_44 (pc' := 45) rfl ?_
  rw [show nI (220 * wh + p) + 1 = nI (220 * wh + p + 1) from nI_inc _]
  refine Z_pI dX12_passOne_45 rfl zpi_RX12_147_25 (pc' := 48) rfl ?_
  refine Z_iload_n dX12_passOne_48 rfl (pc' := 49) rfl ?_
  exact Z_ireturn dX12_passOne_49 rfl rfl ⟨rfl, rfl⟩
theorem sA_idv {S : ZS} {a k : Nat} {x : Int32} (h : S.1 a k = x) : sA S a k x = S := by
  subst h
  refine Prod.ext (funext fun b => funext fun j => ?_) rfl
  rw [sA_get]
  by_cases e : b = a ∧ j = k
  · rw [if_pos e, e.1, e.2]
  · rw [if_neg e]
theorem KI_0 (S : ZS) (wh : Nat) : KI wh (sA (sA S 25 26 (nI (220 * wh))) 25 25 1) (sA (sA S 25 26 (nI (220 * wh))) 25 25 1) 0 := ⟨rfl, fun _ _ _ => rfl, by rw [sA_nk _ _ (by decide), sA_eq]; rfl, sA_eq .., fun k hk => absurd hk (Nat.not_lt_zero k)⟩
theorem RI_0 (S : ZS) (wh : Nat) : RI wh (sA (sA S 25 26 (nI (220 * wh))) 25 25 0) (sA (sA S 25 26 (nI (220 * wh))) 25 25 0) 0 := ⟨rfl, fun _ _ _ => rfl, by rw [sA_nk _ _ (by decide), sA_eq]; rfl, sA_eq .., fun k hk => absurd hk (Nat.not_lt_zero k)⟩
set_option maxRecDepth 100000 in
set_option maxHeartbeats 4000000 in
theorem c_X12_passesAll_k {S : ZS} {n wh : Nat} (hw : wh ≤ 1) : zM m_X12_passesAll 0 0 [.ref 25, .int (nI wh), .int 1] (zw S n) (fun r ω => r = none ∧ ∃ S1, ω = zw S1 n ∧ KI wh (sA (sA S 25 26 (nI (220 * wh))) 25 25 1) S1 207) := by
  show Z m_X12_passesAll _ _ _ 0 [some (.ref _), some (.int _), some (.int _)] [] _
  refine Z_aload_n dX12_passesAll_0 rfl (z_isref _) (pc' := 1) rfl ?_
  refine Z_sipush dX12_passesAll_1 (v := 220) (by decide) (pc' := 4) rfl ?_
  refine Z_iload_n dX12_passesAll_4 rfl (pc' := 5) rfl ?_
  refine Z_imul dX12_passesAll_5 (pc' := 6) rfl ?_
  rw [show (220 : Int32) * nI wh = nI (220 * wh) from by rw [show (220 : Int32) = nI 220 from rfl, nI_mul]]
  refine Z_pI dX12_passesAll_6 rfl zpi_RX12_147_25 (pc' := 9) rfl ?_
  refine Z_aload_n dX12_passesAll_9 rfl (z_isref _) (pc' := 10) rfl ?_
  refine Z_iload_n dX12_passesAll_10 rfl (pc' := 11) rfl ?_
  refine Z_pZ dX12_passesAll_11 rfl zpi_RX12_143_25 (by decide) (pc' := 14) rfl ?_
  have k0 := KI_0 S wh
  generalize sA (sA S 25 26 (nI (220 * wh))) 25 25 1 = S0 at k0 ⊢
  refine Z_aload_n dX12_passesAll_14 rfl (z_isref _) (pc' := 15) rfl ?_
  refine Z_aload_n dX12_passesAll_15 rfl (z_isref _) (pc' := 16) rfl ?_
  refine Z_gR dX12_passesAll_16 rfl zgr_RX12_13_25 (pc' := 19) rfl ?_
  refine Z_cV dX12_passesAll_19 rfl zcw_X12_passes (As := [_]) (rest := []) rfl ⟨Nat.le_of_ble_eq_true rfl, Nat.le_of_ble_eq_true rfl⟩ (Nat.le_of_ble_eq_true rfl) (zRcv.lay zob_25) ⟨zcw_X12_passes.2.2.2.2, Nat.le_of_ble_eq_true rfl⟩ zk_RX12_150 (c_X12_pk_27 hw k0) (pc' := 22) rfl (fun r_19 w_19 h_19 => ?_)
  obtain ⟨rfl, S1, rfl, k1⟩ := h_19
  show Z _ _ _ _ _ _ [] _
  refine Z_aload_n dX12_passesAll_22 rfl (z_isref _) (pc' := 23) rfl ?_
  refine Z_aload_n dX12_passesAll_23 rfl (z_isref _) (pc' := 24) rfl ?_
  refine Z_gR dX12_passesAll_24 rfl zgr_RX12_16_25 (pc' := 27) rfl ?_
  refine Z_cV dX12_passesAll_27 rfl zcw_X12_passes (As := [_]) (rest := []) rfl ⟨Nat.le_of_ble_eq_true rfl, Nat.le_of_ble_eq_true rfl⟩ (Nat.le_of_ble_eq_true rfl) (zRcv.lay zob_25) ⟨zcw_X12_passes.2.2.2.2, Nat.le_of_ble_eq_true rfl⟩ zk_RX12_150 (c_X12_pk_28 hw k1) (pc' := 30) rfl (fun r_27 w_27 h_27 => ?_)
  obtain ⟨rfl, S2, rfl, k2⟩ := h_27
  show Z _ _ _ _ _ _ [] _
  refine Z_aload_n dX12_passesAll_30 rfl (z_isref _) (pc' := 31) rfl ?_
  refine Z_aload_n dX12_passesAll_31 rfl (z_isref _) (pc' := 32) rfl ?_
  refine Z_gR dX12_passesAll_32 rfl zgr_RX12_19_25 (pc' := 35) rfl ?_
  refine Z_cV dX12_passesAll_35 rfl zcw_X12_passes (As := [_]) (rest := []) rfl ⟨Nat.le_of_ble_eq_true rfl, Nat.le_of_ble_eq_true rfl⟩ (Nat.le_of_ble_eq_true rfl) (zRcv.lay zob_25) ⟨zcw_X12_passes.2.2.2.2, Nat.le_of_ble_eq_true rfl⟩ zk_RX12_150 (c_X12_pk_29 hw k2) (pc' := 38) rfl (fun r_35 w_35 h_35 => ?_)
  obtain ⟨rfl, S3, rfl, k3⟩ := h_35
  show Z _ _ _ _ _ _ [] _
  refine Z_aload_n dX12_passesAll_38 rfl (z_isref _) (pc' := 39) rfl ?_
  refine Z_aload_n dX12_passesAll_39 rfl (z_isref _) (pc' := 40) rfl ?_
  refine Z_gR dX12_passesAll_40 rfl zgr_RX12_22_25 (pc' := 43) rfl ?_
  refine Z_cV dX12_passesAll_43 rfl zcw_X12_passes (As := [_]) (rest := []) rfl ⟨Nat.le_of_ble_eq_true rfl, Nat.le_of_ble_eq_true rfl⟩ (Nat.le_of_ble_eq_true rfl) (zRcv.lay zob_25) ⟨zcw_X12_passes.2.2.2.2, Nat.le_of_ble_eq_true rfl⟩ zk_RX12_150 (c_X12_pk_30 hw k3) (pc' := 46) rfl (fun r_43 w_43 h_43 => ?_)
  obtain ⟨rfl, S4, rfl, k4⟩ := h_43
  show Z _ _ _ _ _ _ [] _
  refine Z_aload_n dX12_passesAll_46 rfl (z_isref _) (pc' := 47) rfl ?_
  refine Z_aload_n dX12_passesAll_47 rfl (z_isref _) (pc' := 48) rfl ?_
  refine Z_gR dX12_passesAll_48 rfl zgr_RX12_25_25 (pc' := 51) rfl ?_
  refine Z_cV dX12_passesAll_51 rfl zcw_X12_passes (As := [_]) (rest := []) rfl ⟨Nat.le_of_ble_eq_true rfl, Nat.le_of_ble_eq_true rfl⟩ (Nat.le_of_ble_eq_true rfl) (zRcv.lay zob_25) ⟨zcw_X12_passes.2.2.2.2, Nat.le_of_ble_eq_true rfl⟩ zk_RX12_150 (c_X12_pk_31 hw k4) (pc' := 54) rfl (fun r_51 w_51 h_51 => ?_)
  obtain ⟨rfl, S5, rfl, k5⟩ := h_51
  show Z _ _ _ _ _ _ [] _
  refine Z_aload_n dX12_passesAll_54 rfl (z_isref _) (pc' := 55) rfl ?_
  refine Z_aload_n dX12_passesAll_55 rfl (z_isref _) (pc' := 56) rfl ?_
  refine Z_gR dX12_passesAll_56 rfl zgr_RX12_28_25 (pc' := 59) rfl ?_
  refine Z_cV dX12_passesAll_59 rfl zcw_X12_passes (As := [_]) (rest := []) rfl ⟨Nat.le_of_ble_eq_true rfl, Nat.le_of_ble_eq_true rfl⟩ (Nat.le_of_ble_eq_true rfl) (zRcv.lay zob_25) ⟨zcw_X12_passes.2.2.2.2, Nat.le_of_ble_eq_true rfl⟩ zk_RX12_150 (c_X12_pk_32 hw k5) (pc' := 62) rfl (fun r_59 w_59 h_59 => ?_)
  obtain ⟨rfl, S6, rfl, k6⟩ := h_59
  show Z _ _ _ _ _ _ [] _
  refine Z_aload_n dX12_passesAll_62 rfl (z_isref _) (pc' := 63) rfl ?_
  refine Z_aload_n dX12_passesAll_63 rfl (z_isref _) (pc' := 64) rfl ?_
  refine Z_gR dX12_passesAll_64 rfl zgr_RX12_31_25 (pc' := 67) rfl ?_
  refine Z_cV dX12_passesAll_67 rfl zcw_X12_passes (As := [_]) (rest := []) rfl ⟨Nat.le_of_ble_eq_true rfl, Nat.le_of_ble_eq_true rfl⟩ (Nat.le_of_ble_eq_true rfl) (zRcv.lay zob_25) ⟨zcw_X12_passes.2.2.2.2, Nat.le_of_ble_eq_true rfl⟩ zk_RX12_150 (c_X12_pk_33 hw k6) (pc' := 70) rfl (fun r_67 w_67 h_67 => ?_)
  obtain ⟨rfl, S7, rfl, k7⟩ := h_67
  show Z _ _ _ _ _ _ [] _
  refine Z_aload_n dX12_passesAll_70 rfl (z_isref _) (pc' := 71) rfl ?_
  refine Z_aload_n dX12_passesAll_71 rfl (z_isref _) (pc' := 72) rfl ?_
  refine Z_gR dX12_passesAll_72 rfl zgr_RX12_34_25 (pc' := 75) rfl ?_
  refine Z_cV dX12_passesAll_75 rfl zcw_X12_passes (As := [_]) (rest := []) rfl ⟨Nat.le_of_ble_eq_true rfl, Nat.le_of_ble_eq_true rfl⟩ (Nat.le_of_ble_eq_true rfl) (zRcv.lay zob_25) ⟨zcw_X12_passes.2.2.2.2, Nat.le_of_ble_eq_true rfl⟩ zk_RX12_150 (c_X12_pk_34 hw k7) (pc' := 78) rfl (fun r_75 w_75 h_75 => ?_)
  obtain ⟨rfl, S8, rfl, k8⟩ := h_75
  show Z _ _ _ _ _ _ [] _
  refine Z_aload_n dX12_passesAll_78 rfl (z_isref _) (pc' := 79) rfl ?_
  refine Z_aload_n dX12_passesAll_79 rfl (z_isref _) (pc' := 80) rfl ?_
  refine Z_gR dX12_passesAll_80 rfl zgr_RX12_37_25 (pc' := 83) rfl ?_
  refine Z_cV dX12_passesAll_83 rfl zcw_X12_passes (As := [_]) (rest := []) rfl ⟨Nat.le_of_ble_eq_true rfl, Nat.le_of_ble_eq_true rfl⟩ (Nat.le_of_ble_eq_true rfl) (zRcv.lay zob_25) ⟨zcw_X12_passes.2.2.2.2, Nat.le_of_ble_eq_true rfl⟩ zk_RX12_150 (c_X12_pk_35 hw k8) (pc' := 86) rfl (fun r_83 w_83 h_83 => ?_)
  obtain ⟨rfl, S9, rfl, k9⟩ := h_83
  show Z _ _ _ _ _ _ [] _
  refine Z_aload_n dX12_passesAll_86 rfl (z_isref _) (pc' := 87) rfl ?_
  refine Z_aload_n dX12_passesAll_87 rfl (z_isref _) (pc' := 88) rfl ?_
  refine Z_gR dX12_passesAll_88 rfl zgr_RX12_40_25 (pc' := 91) rfl ?_
  refine Z_cV dX12_passesAll_91 rfl zcw_X12_passes (As := [_]) (rest := []) rfl ⟨Nat.le_of_ble_eq_true rfl, Nat.le_of_ble_eq_true rfl⟩ (Nat.le_of_ble_eq_true rfl) (zRcv.lay zob_25) ⟨zcw_X12_passes.2.2.2.2, Nat.le_of_ble_eq_true rfl⟩ zk_RX12_150 (c_X12_pk_36 hw k9) (pc' := 94) rfl (fun r_91 w_91 h_91 => ?_)
  obtain ⟨rfl, S10, rfl, k10⟩ := h_91
  show Z _ _ _ _ _ _ [] _
  refine Z_aload_n dX12_passesAll_94 rfl (z_isref _) (pc' := 95) rfl ?_
  refine Z_aload_n dX12_passesAll_95 rfl (z_isref _) (pc' := 96) rfl ?_
  refine Z_gR dX12_passesAll_96 rfl zgr_RX12_43_25 (pc' := 99) rfl ?_
  refine Z_cV dX12_passesAll_99 rfl zcw_X12_passes (As := [_]) (rest := []) rfl ⟨Nat.le_of_ble_eq_true rfl, Nat.le_of_ble_eq_true rfl⟩ (Nat.le_of_ble_eq_true rfl) (zRcv.lay zob_25) ⟨zcw_X12_passes.2.2.2.2, Nat.le_of_ble_eq_true rfl⟩ zk_RX12_150 (c_X12_pk_37 hw k10) (pc' := 102) rfl (fun r_99 w_99 h_99 => ?_)
  obtain ⟨rfl, S11, rfl, k11⟩ := h_99
  show Z _ _ _ _ _ _ [] _
  refine Z_aload_n dX12_passesAll_102 rfl (z_isref _) (pc' := 103) rfl ?_
  refine Z_aload_n dX12_passesAll_103 rfl (z_isref _) (pc' := 104) rfl ?_
  refine Z_aload_n dX12_passesAll_104 rfl (z_isref _) (pc' := 105) rfl ?_
  refine Z_gI dX12_passesAll_105 rfl zgi_RX12_114_25 (pc' := 108) rfl ?_
  rw [show S11.1 25 12 = S0.1 25 12 from k11.get (k := 203) (by decide)]
  refine Z_cVe dX12_passesAll_108 rfl zcw_X12_passOne (As := [_]) (rest := [_]) rfl ⟨Nat.le_of_ble_eq_true rfl, Nat.le_of_ble_eq_true rfl⟩ (Nat.le_of_ble_eq_true rfl) (zRcv.lay zob_25) ⟨zcw_X12_passOne.2.2.2.2, Nat.le_of_ble_eq_true rfl⟩ zk_RX12_154 (c_X12_passOne_k hw (by decide) k11) (pc' := 111) rfl ?_
  have k12 := k11.step (by decide) (x := S0.1 25 12) rfl
  generalize sA (sA S11 42 (220 * wh + 203) (S0.1 25 12)) 25 26 (nI (220 * wh + 203 + 1)) = S12 at k12 ⊢
  refine Z_pI dX12_passesAll_111 rfl zpi_RX12_114_25 (pc' := 114) rfl ?_
  rw [show sA S12 25 12 (S0.1 25 12) = S12 from sA_idv (k12.get (k := 203) (by decide))]
  refine Z_aload_n dX12_passesAll_114 rfl (z_isref _) (pc' := 115) rfl ?_
  refine Z_aload_n dX12_passesAll_115 rfl (z_isref _) (pc' := 116) rfl ?_
  refine Z_aload_n dX12_passesAll_116 rfl (z_isref _) (pc' := 117) rfl ?_
  refine Z_gI dX12_passesAll_117 rfl zgi_RX12_117_25 (pc' := 120) rfl ?_
  rw [show S12.1 25 13 = S0.1 25 13 from k12.get (k := 204) (by decide)]
  refine Z_cVe dX12_passesAll_120 rfl zcw_X12_passOne (As := [_]) (rest := [_]) rfl ⟨Nat.le_of_ble_eq_true rfl, Nat.le_of_ble_eq_true rfl⟩ (Nat.le_of_ble_eq_true rfl) (zRcv.lay zob_25) ⟨zcw_X12_passOne.2.2.2.2, Nat.le_of_ble_eq_true rfl⟩ zk_RX12_154 (c_X12_passOne_k hw (by decide) k12) (pc' := 123) rfl ?_
  have k13 := k12.step (by decide) (x := S0.1 25 13) rfl
  generalize sA (sA S12 42 (220 * wh + 204) (S0.1 25 13)) 25 26 (nI (220 * wh + 204 + 1)) = S13 at k13 ⊢
  refine Z_pI dX12_passesAll_123 rfl zpi_RX12_117_25 (pc' := 126) rfl ?_
  rw [show sA S13 25 13 (S0.1 25 13) = S13 from sA_idv (k13.get (k := 204) (by decide))]
  refine Z_aload_n dX12_passesAll_126 rfl (z_isref _) (pc' := 127) rfl ?_
  refine Z_aload_n dX12_passesAll_127 rfl (z_isref _) (pc' := 128) rfl ?_
  refine Z_aload_n dX12_passesAll_128 rfl (z_isref _) (pc' := 129) rfl ?_
  refine Z_gI dX12_passesAll_129 rfl zgi_RX12_120_25 (pc' := 132) rfl ?_
  rw [show S13.1 25 14 = S0.1 25 14 from k13.get (k := 205) (by decide)]
  refine Z_cVe dX12_passesAll_132 rfl zcw_X12_passOne (As := [_]) (rest := [_]) rfl ⟨Nat.le_of_ble_eq_true rfl, Nat.le_of_ble_eq_true rfl⟩ (Nat.le_of_ble_eq_true rfl) (zRcv.lay zob_25) ⟨zcw_X12_passOne.2.2.2.2, Nat.le_of_ble_eq_true rfl⟩ zk_RX12_154 (c_X12_passOne_k hw (by decide) k13) (pc' := 135) rfl ?_
  have k14 := k13.step (by decide) (x := S0.1 25 14) rfl
  generalize sA (sA S13 42 (220 * wh + 205) (S0.1 25 14)) 25 26 (nI (220 * wh + 205 + 1)) = S14 at k14 ⊢
  refine Z_pI dX12_passesAll_135 rfl zpi_RX12_120_25 (pc' := 138) rfl ?_
  rw [show sA S14 25 14 (S0.1 25 14) = S14 from sA_idv (k14.get (k := 205) (by decide))]
  refine Z_aload_n dX12_passesAll_138 rfl (z_isref _) (pc' := 139) rfl ?_
  refine Z_aload_n dX12_passesAll_139 rfl (z_isref _) (pc' := 140) rfl ?_
  refine Z_aload_n dX12_passesAll_140 rfl (z_isref _) (pc' := 141) rfl ?_
  refine Z_gI dX12_passesAll_141 rfl zgi_RX12_129_25 (pc' := 144) rfl ?_
  rw [show S14.1 25 15 = S0.1 25 15 from k14.get (k := 206) (by decide)]
  refine Z_cVe dX12_passesAll_144 rfl zcw_X12_passOne (As := [_]) (rest := [_]) rfl ⟨Nat.le_of_ble_eq_true rfl, Nat.le_of_ble_eq_true rfl⟩ (Nat.le_of_ble_eq_true rfl) (zRcv.lay zob_25) ⟨zcw_X12_passOne.2.2.2.2, Nat.le_of_ble_eq_true rfl⟩ zk_RX12_154 (c_X12_passOne_k hw (by decide) k14) (pc' := 147) rfl ?_
  have k15 := k14.step (by decide) (x := S0.1 25 15) rfl
  generalize sA (sA S14 42 (220 * wh + 206) (S0.1 25 15)) 25 26 (nI (220 * wh + 206 + 1)) = S15 at k15 ⊢
  refine Z_pI dX12_passesAll_147 rfl zpi_RX12_129_25 (pc' := 150) rfl ?_
  rw [show sA S15 25 15 (S0.1 25 15) = S15 from sA_idv (k15.get (k := 206) (by decide))]
  exact Z_return dX12_passesAll_150 rfl ⟨rfl, S15, rfl, k15⟩
set_option maxRecDepth 100000 in
set_option maxHeartbeats 4000000 in
theorem c_X12_passesAll_r {S : ZS} {n wh : Nat} (hw : wh ≤ 1) : zM m_X12_passesAll 0 0 [.ref 25, .int (nI wh), .int 0] (zw S n) (fun r ω => r = none ∧ ∃ S1, ω = zw S1 n ∧ RI wh (sA (sA S 25 26 (nI (220 * wh))) 25 25 0) S1 207) := by
  show Z m_X12_passesAll _ _ _ 0 [some (.ref _), some (.int _), some (.int _)] [] _
  refine Z_aload_n dX12_passesAll_0 rfl (z_isref _) (pc' := 1) rfl ?_
  refine Z_sipush dX12_passesAll_1 (v := 220) (by decide) (pc' := 4) rfl ?_
  refine Z_iload_n dX12_passesAll_4 rfl (pc' := 5) rfl ?_
  refine Z_imul dX12_passesAll_5 (pc' := 6) rfl ?_
  rw [show (220 : Int32) * nI wh = nI (220 * wh) from by rw [show (220 : Int32) = nI 220 from rfl, nI_mul]]
  refine Z_pI dX12_passesAll_6 rfl zpi_RX12_147_25 (pc' := 9) rfl ?_
  refine Z_aload_n dX12_passesAll_9 rfl (z_isref _) (pc' := 10) rfl ?_
  refine Z_iload_n dX12_passesAll_10 rfl (pc' := 11) rfl ?_
  refine Z_pZ dX12_passesAll_11 rfl zpi_RX12_143_25 (by decide) (pc' := 14) rfl ?_
  have k0 := RI_0 S wh
  generalize sA (sA S 25 26 (nI (220 * wh))) 25 25 0 = S0 at k0 ⊢
  refine Z_aload_n dX12_passesAll_14 rfl (z_isref _) (pc' := 15) rfl ?_
  refine Z_aload_n dX12_passesAll_15 rfl (z_isref _) (pc' := 16) rfl ?_
  refine Z_gR dX12_passesAll_16 rfl zgr_RX12_13_25 (pc' := 19) rfl ?_
  refine Z_cV dX12_passesAll_19 rfl zcw_X12_passes (As := [_]) (rest := []) rfl ⟨Nat.le_of_ble_eq_true rfl, Nat.le_of_ble_eq_true rfl⟩ (Nat.le_of_ble_eq_true rfl) (zRcv.lay zob_25) ⟨zcw_X12_passes.2.2.2.2, Nat.le_of_ble_eq_true rfl⟩ zk_RX12_150 (c_X12_pr_27 hw k0) (pc' := 22) rfl (fun r_19 w_19 h_19 => ?_)
  obtain ⟨rfl, S1, rfl, k1⟩ := h_19
  show Z _ _ _ _ _ _ [] _
  refine Z_aload_n dX12_passesAll_22 rfl (z_isref _) (pc' := 23) rfl ?_
  refine Z_aload_n dX12_passesAll_23 rfl (z_isref _) (pc' := 24) rfl ?_
  refine Z_gR dX12_passesAll_24 rfl zgr_RX12_16_25 (pc' := 27) rfl ?_
  refine Z_cV dX12_passesAll_27 rfl zcw_X12_passes (As := [_]) (rest := []) rfl ⟨Nat.le_of_ble_eq_true rfl, Nat.le_of_ble_eq_true rfl⟩ (Nat.le_of_ble_eq_true rfl) (zRcv.lay zob_25) ⟨zcw_X12_passes.2.2.2.2, Nat.le_of_ble_eq_true rfl⟩ zk_RX12_150 (c_X12_pr_28 hw k1) (pc' := 30) rfl (fun r_27 w_27 h_27 => ?_)
  obtain ⟨rfl, S2, rfl, k2⟩ := h_27
  show Z _ _ _ _ _ _ [] _
  refine Z_aload_n dX12_passesAll_30 rfl (z_isref _) (pc' := 31) rfl ?_
  refine Z_aload_n dX12_passesAll_31 rfl (z_isref _) (pc' := 32) rfl ?_
  refine Z_gR dX12_passesAll_32 rfl zgr_RX12_19_25 (pc' := 35) rfl ?_
  refine Z_cV dX12_passesAll_35 rfl zcw_X12_passes (As := [_]) (rest := []) rfl ⟨Nat.le_of_ble_eq_true rfl, Nat.le_of_ble_eq_true rfl⟩ (Nat.le_of_ble_eq_true rfl) (zRcv.lay zob_25) ⟨zcw_X12_passes.2.2.2.2, Nat.le_of_ble_eq_true rfl⟩ zk_RX12_150 (c_X12_pr_29 hw k2) (pc' := 38) rfl (fun r_35 w_35 h_35 => ?_)
  obtain ⟨rfl, S3, rfl, k3⟩ := h_35
  show Z _ _ _ _ _ _ [] _
  refine Z_aload_n dX12_passesAll_38 rfl (z_isref _) (pc' := 39) rfl ?_
  refine Z_aload_n dX12_passesAll_39 rfl (z_isref _) (pc' := 40) rfl ?_
  refine Z_gR dX12_passesAll_40 rfl zgr_RX12_22_25 (pc' := 43) rfl ?_
  refine Z_cV dX12_passesAll_43 rfl zcw_X12_passes (As := [_]) (rest := []) rfl ⟨Nat.le_of_ble_eq_true rfl, Nat.le_of_ble_eq_true rfl⟩ (Nat.le_of_ble_eq_true rfl) (zRcv.lay zob_25) ⟨zcw_X12_passes.2.2.2.2, Nat.le_of_ble_eq_true rfl⟩ zk_RX12_150 (c_X12_pr_30 hw k3) (pc' := 46) rfl (fun r_43 w_43 h_43 => ?_)
  obtain ⟨rfl, S4, rfl, k4⟩ := h_43
  show Z _ _ _ _ _ _ [] _
  refine Z_aload_n dX12_passesAll_46 rfl (z_isref _) (pc' := 47) rfl ?_
  refine Z_aload_n dX12_passesAll_47 rfl (z_isref _) (pc' := 48) rfl ?_
  refine Z_gR dX12_passesAll_48 rfl zgr_RX12_25_25 (pc' := 51) rfl ?_
  refine Z_cV dX12_passesAll_51 rfl zcw_X12_passes (As := [_]) (rest := []) rfl ⟨Nat.le_of_ble_eq_true rfl, Nat.le_of_ble_eq_true rfl⟩ (Nat.le_of_ble_eq_true rfl) (zRcv.lay zob_25) ⟨zcw_X12_passes.2.2.2.2, Nat.le_of_ble_eq_true rfl⟩ zk_RX12_150 (c_X12_pr_31 hw k4) (pc' := 54) rfl (fun r_51 w_51 h_51 => ?_)
  obtain ⟨rfl, S5, rfl, k5⟩ := h_51
  show Z _ _ _ _ _ _ [] _
  refine Z_aload_n dX12_passesAll_54 rfl (z_isref _) (pc' := 55) rfl ?_
  refine Z_aload_n dX12_passesAll_55 rfl (z_isref _) (pc' := 56) rfl ?_
  refine Z_gR dX12_passesAll_56 rfl zgr_RX12_28_25 (pc' := 59) rfl ?_
  refine Z_cV dX12_passesAll_59 rfl zcw_X12_passes (As := [_]) (rest := []) rfl ⟨Nat.le_of_ble_eq_true rfl, Nat.le_of_ble_eq_true rfl⟩ (Nat.le_of_ble_eq_true rfl) (zRcv.lay zob_25) ⟨zcw_X12_passes.2.2.2.2, Nat.le_of_ble_eq_true rfl⟩ zk_RX12_150 (c_X12_pr_32 hw k5) (pc' := 62) rfl (fun r_59 w_59 h_59 => ?_)
  obtain ⟨rfl, S6, rfl, k6⟩ := h_59
  show Z _ _ _ _ _ _ [] _
  refine Z_aload_n dX12_passesAll_62 rfl (z_isref _) (pc' := 63) rfl ?_
  refine Z_aload_n dX12_passesAll_63 rfl (z_isref _) (pc' := 64) rfl ?_
  refine Z_gR dX12_passesAll_64 rfl zgr_RX12_31_25 (pc' := 67) rfl ?_
  refine Z_cV dX12_passesAll_67 rfl zcw_X12_passes (As := [_]) (rest := []) rfl ⟨Nat.le_of_ble_eq_true rfl, Nat.le_of_ble_eq_true rfl⟩ (Nat.le_of_ble_eq_true rfl) (zRcv.lay zob_25) ⟨zcw_X12_passes.2.2.2.2, Nat.le_of_ble_eq_true rfl⟩ zk_RX12_150 (c_X12_pr_33 hw k6) (pc' := 70) rfl (fun r_67 w_67 h_67 => ?_)
  obtain ⟨rfl, S7, rfl, k7⟩ := h_67
  show Z _ _ _ _ _ _ [] _
  refine Z_aload_n dX12_passesAll_70 rfl (z_isref _) (pc' := 71) rfl ?_
  refine Z_aload_n dX12_passesAll_71 rfl (z_isref _) (pc' := 72) rfl ?_
  refine Z_gR dX12_passesAll_72 rfl zgr_RX12_34_25 (pc' := 75) rfl ?_
  refine Z_cV dX12_passesAll_75 rfl zcw_X12_passes (As := [_]) (rest := []) rfl ⟨Nat.le_of_ble_eq_true rfl, Nat.le_of_ble_eq_true rfl⟩ (Nat.le_of_ble_eq_true rfl) (zRcv.lay zob_25) ⟨zcw_X12_passes.2.2.2.2, Nat.le_of_ble_eq_true rfl⟩ zk_RX12_150 (c_X12_pr_34 hw k7) (pc' := 78) rfl (fun r_75 w_75 h_75 => ?_)
  obtain ⟨rfl, S8, rfl, k8⟩ := h_75
  show Z _ _ _ _ _ _ [] _
  refine Z_aload_n dX12_passesAll_78 rfl (z_isref _) (pc' := 79) rfl ?_
  refine Z_aload_n dX12_passesAll_79 rfl (z_isref _) (pc' := 80) rfl ?_
  refine Z_gR dX12_passesAll_80 rfl zgr_RX12_37_25 (pc' := 83) rfl ?_
  refine Z_cV dX12_passesAll_83 rfl zcw_X12_passes (As := [_]) (rest := []) rfl ⟨Nat.le_of_ble_eq_true rfl, Nat.le_of_ble_eq_true rfl⟩ (Nat.le_of_ble_eq_true rfl) (zRcv.lay zob_25) ⟨zcw_X12_passes.2.2.2.2, Nat.le_of_ble_eq_true rfl⟩ zk_RX12_150 (c_X12_pr_35 hw k8) (pc' := 86) rfl (fun r_83 w_83 h_83 => ?_)
  obtain ⟨rfl, S9, rfl, k9⟩ := h_83
  show Z _ _ _ _ _ _ [] _
  refine Z_aload_n dX12_passesAll_86 rfl (z_isref _) (pc' := 87) rfl ?_
  refine Z_aload_n dX12_passesAll_87 rfl (z_isref _) (pc' := 88) rfl ?_
  refine Z_gR dX12_passesAll_88 rfl zgr_RX12_40_25 (pc' := 91) rfl ?_
  refine Z_cV dX12_passesAll_91 rfl zcw_X12_passes (As := [_]) (rest := []) rfl ⟨Nat.le_of_ble_eq_true rfl, Nat.le_of_ble_eq_true rfl⟩ (Nat.le_of_ble_eq_true rfl) (zRcv.lay zob_25) ⟨zcw_X12_passes.2.2.2.2, Nat.le_of_ble_eq_true rfl⟩ zk_RX12_150 (c_X12_pr_36 hw k9) (pc' := 94) rfl (fun r_91 w_91 h_91 => ?_)
  obtain ⟨rfl, S10, rfl, k10⟩ := h_91
  show Z _ _ _ _ _ _ [] _
  refine Z_aload_n dX12_passesAll_94 rfl (z_isref _) (pc' := 95) rfl ?_
  refine Z_aload_n dX12_passesAll_95 rfl (z_isref _) (pc' := 96) rfl ?_
  refine Z_gR dX12_passesAll_96 rfl zgr_RX12_43_25 (pc' := 99) rfl ?_
  refine Z_cV dX12_passesAll_99 rfl zcw_X12_passes (As := [_]) (rest := []) rfl ⟨Nat.le_of_ble_eq_true rfl, Nat.le_of_ble_eq_true rfl⟩ (Nat.le_of_ble_eq_true rfl) (zRcv.lay zob_25) ⟨zcw_X12_passes.2.2.2.2, Nat.le_of_ble_eq_true rfl⟩ zk_RX12_150 (c_X12_pr_37 hw k10) (pc' := 102) rfl (fun r_99 w_99 h_99 => ?_)
  obtain ⟨rfl, S11, rfl, k11⟩ := h_99
  show Z _ _ _ _ _ _ [] _
  refine Z_aload_n dX12_passesAll_102 rfl (z_isref _) (pc' := 103) rfl ?_
  refine Z_aload_n dX12_passesAll_103 rfl (z_isref _) (pc' := 104) rfl ?_
  refine Z_aload_n dX12_passesAll_104 rfl (z_isref _) (pc' := 105) rfl ?_
  refine Z_gI dX12_passesAll_105 rfl zgi_RX12_114_25 (pc' := 108) rfl ?_
  refine Z_cVe dX12_passesAll_108 rfl zcw_X12_passOne (As := [_]) (rest := [_]) rfl ⟨Nat.le_of_ble_eq_true rfl, Nat.le_of_ble_eq_true rfl⟩ (Nat.le_of_ble_eq_true rfl) (zRcv.lay zob_25) ⟨zcw_X12_passOne.2.2.2.2, Nat.le_of_ble_eq_true rfl⟩ zk_RX12_154 (c_X12_passOne_r hw (by decide) k11) (pc' := 111) rfl ?_
  refine Z_pI dX12_passesAll_111 rfl zpi_RX12_114_25 (pc' := 114) rfl ?_
  have k12 := k11.step (by decide) (a := 25) (j := 12) rfl rfl (x := S0.1 42 (220 * wh + 203)) rfl (S2 := sA (sA S11 25 26 (nI (220 * wh + 203 + 1))) 25 12 (S0.1 42 (220 * wh + 203))) rfl (fun b i => by rw [sA_get, sA_get])
  generalize sA (sA S11 25 26 (nI (220 * wh + 203 + 1))) 25 12 (S0.1 42 (220 * wh + 203)) = S12 at k12 ⊢
  refine Z_aload_n dX12_passesAll_114 rfl (z_isref _) (pc' := 115) rfl ?_
  refine Z_aload_n dX12_passesAll_115 rfl (z_isref _) (pc' := 116) rfl ?_
  refine Z_aload_n dX12_passesAll_116 rfl (z_isref _) (pc' := 117) rfl ?_
  refine Z_gI dX12_passesAll_117 rfl zgi_RX12_117_25 (pc' := 120) rfl ?_
  refine Z_cVe dX12_passesAll_120 rfl zcw_X12_passOne (As := [_]) (rest := [_]) rfl ⟨Nat.le_of_ble_eq_true rfl, Nat.le_of_ble_eq_true rfl⟩ (Nat.le_of_ble_eq_true rfl) (zRcv.lay zob_25) ⟨zcw_X12_passOne.2.2.2.2, Nat.le_of_ble_eq_true rfl⟩ zk_RX12_154 (c_X12_passOne_r hw (by decide) k12) (pc' := 123) rfl ?_
  refine Z_pI dX12_passesAll_123 rfl zpi_RX12_117_25 (pc' := 126) rfl ?_
  have k13 := k12.step (by decide) (a := 25) (j := 13) rfl rfl (x := S0.1 42 (220 * wh + 204)) rfl (S2 := sA (sA S12 25 26 (nI (220 * wh + 204 + 1))) 25 13 (S0.1 42 (220 * wh + 204))) rfl (fun b i => by rw [sA_get, sA_get])
  generalize sA (sA S12 25 26 (nI (220 * wh + 204 + 1))) 25 13 (S0.1 42 (220 * wh + 204)) = S13 at k13 ⊢
  refine Z_aload_n dX12_passesAll_126 rfl (z_isref _) (pc' := 127) rfl ?_
  refine Z_aload_n dX12_passesAll_127 rfl (z_isref _) (pc' := 128) rfl ?_
  refine Z_aload_n dX12_passesAll_128 rfl (z_isref _) (pc' := 129) rfl ?_
  refine Z_gI dX12_passesAll_129 rfl zgi_RX12_120_25 (pc' := 132) rfl ?_
  refine Z_cVe dX12_passesAll_132 rfl zcw_X12_passOne (As := [_]) (rest := [_]) rfl ⟨Nat.le_of_ble_eq_true rfl, Nat.le_of_ble_eq_true rfl⟩ (Nat.le_of_ble_eq_true rfl) (zRcv.lay zob_25) ⟨zcw_X12_passOne.2.2.2.2, Nat.le_of_ble_eq_true rfl⟩ zk_RX12_154 (c_X12_passOne_r hw (by decide) k13) (pc' := 135) rfl ?_
  refine Z_pI dX12_passesAll_135 rfl zpi_RX12_120_25 (pc' := 138) rfl ?_
  have k14 := k13.step (by decide) (a := 25) (j := 14) rfl rfl (x := S0.1 42 (220 * wh + 205)) rfl (S2 := sA (sA S13 25 26 (nI (220 * wh + 205 + 1))) 25 14 (S0.1 42 (220 * wh + 205))) rfl (fun b i => by rw [sA_get, sA_get])
  generalize sA (sA S13 25 26 (nI (220 * wh + 205 + 1))) 25 14 (S0.1 42 (220 * wh + 205)) = S14 at k14 ⊢
  refine Z_aload_n dX12_passesAll_138 rfl (z_isref _) (pc' := 139) rfl ?_
  refine Z_aload_n dX12_passesAll_139 rfl (z_isref _) (pc' := 140) rfl ?_
  refine Z_aload_n dX12_passesAll_140 rfl (z_isref _) (pc' := 141) rfl ?_
  refine Z_gI dX12_passesAll_141 rfl zgi_RX12_129_25 (pc' := 144) rfl ?_
  refine Z_cVe dX12_passesAll_144 rfl zcw_X12_passOne (As := [_]) (rest := [_]) rfl ⟨Nat.le_of_ble_eq_true rfl, Nat.le_of_ble_eq_true rfl⟩ (Nat.le_of_ble_eq_true rfl) (zRcv.lay zob_25) ⟨zcw_X12_passOne.2.2.2.2, Nat.le_of_ble_eq_true rfl⟩ zk_RX12_154 (c_X12_passOne_r hw (by decide) k14) (pc' := 147) rfl ?_
  refine Z_pI dX12_passesAll_147 rfl zpi_RX12_129_25 (pc' := 150) rfl ?_
  have k15 := k14.step (by decide) (a := 25) (j := 15) rfl rfl (x := S0.1 42 (220 * wh + 206)) rfl (S2 := sA (sA S14 25 26 (nI (220 * wh + 206 + 1))) 25 15 (S0.1 42 (220 * wh + 206))) rfl (fun b i => by rw [sA_get, sA_get])
  generalize sA (sA S14 25 26 (nI (220 * wh + 206 + 1))) 25 15 (S0.1 42 (220 * wh + 206)) = S15 at k15 ⊢
  exact Z_return dX12_passesAll_150 rfl ⟨rfl, S15, rfl, k15⟩
theorem KI.lo {wh : Nat} {S0 S : ZS} {cur : Nat} (h : KI wh S0 S cur) {a : Nat} (h1 : a ≠ 42) (h2 : a ≠ 25) : S.1 a = S0.1 a := funext fun k => h.2.1 a k (by unfold scK; rw [decide_eq_false h1, decide_eq_false h2]; rfl)
theorem KI.f {wh : Nat} {S0 S : ZS} {cur : Nat} (h : KI wh S0 S cur) {k : Nat} (h1 : k ≠ 25) (h2 : k ≠ 26) : S.1 25 k = S0.1 25 k := h.2.1 25 k (by unfold scK; rw [decide_eq_false h1, decide_eq_false h2]; rfl)
theorem RI.lo {wh : Nat} {S0 S : ZS} {cur : Nat} (h : RI wh S0 S cur) {a : Nat} (h1 : a < 27 ∨ 37 < a) (h2 : a ≠ 25) : S.1 a = S0.1 a := funext fun k => h.2.1 a k (by
  unfold scR
  rw [decide_eq_false h2]
  rcases h1 with q | q
  · have : ¬ 27 ≤ a := by omega
    simp [this]
  · have : ¬ a ≤ 37 := by omega
    simp [this])
theorem RI.f {wh : Nat} {S0 S : ZS} {cur : Nat} (h : RI wh S0 S cur) {k : Nat} (h1 : 26 < k ∨ (15 < k ∧ k < 25)) : S.1 25 k = S0.1 25 k := h.2.1 25 k (by
  have a1 : ¬ k ≤ 15 := by omega
  have a2 : ¬ k = 26 := by omega
  have a3 : ¬ k = 25 := by omega
  unfold scR
  simp [a1, a2, a3])
theorem KI.mv {wh : Nat} {S0 S : ZS} {cur : Nat} {c : Co} (h : KI wh S0 S cur) (v : mV S0 c) : mV S c := mV_cg v (fun k h1 h2 => h.f (by omega) (by omega)) (fun a h1 h2 => h.lo (by omega) (by omega))
theorem kV_of {f : Nat → Int32} {S : ZS} {c : Co} (ok : Cok c) (h : ∀ k, k < 207 → f k = S.1 (pa k) (pj k)) (v : mV S c) : kV f c := by
  obtain ⟨⟨a1, a2, a3, a4⟩, b, d, e, r⟩ := v
  have o1 := ok.1; have o2 := ok.2.1; have o3 := ok.2.2.1
  have g : ∀ (o a N j : Nat), (∀ j, j < N → pa (o + j) = a ∧ pj (o + j) = j) → j < N → o + j < 207 → f (o + j) = S.1 a j := fun o a N j hp hj hl => by
    rw [h _ hl, (hp j hj).1, (hp j hj).2]
  refine ⟨⟨(h 203 (by decide)).trans a1, (h 204 (by decide)).trans a2, (h 205 (by decide)).trans a3, (h 206 (by decide)).trans a4⟩, fun k hk => ?_, fun p hp => ?_, fun p h1 hp => ?_, fun k hk => ?_⟩
  · have q := b k hk
    have e0 := g 0 27 8 k pp_27 (by omega) (by omega)
    rw [Nat.zero_add] at e0
    rw [e0, g 8 28 8 k pp_28 (by omega) (by omega), g 16 29 8 k pp_29 (by omega) (by omega), g 24 30 8 k pp_30 (by omega) (by omega)]
    exact q
  · rw [g 32 31 49 p pp_31 (by omega) (by omega), g 81 32 49 p pp_32 (by omega) (by omega)]; exact d p hp
  · rw [g 130 33 49 p pp_33 (by omega) (by omega)]; exact e p h1 hp
  · rw [g 179 34 6 k pp_34 (by omega) (by omega), g 185 35 6 k pp_35 (by omega) (by omega), g 191 36 6 k pp_36 (by omega) (by omega), g 197 37 6 k pp_37 (by omega) (by omega)]; exact r k hk
theorem mV_of {f : Nat → Int32} {S : ZS} {c : Co} (ok : Cok c) (h : ∀ k, k < 207 → S.1 (pa k) (pj k) = f k) (v : kV f c) : mV S c := by
  obtain ⟨⟨a1, a2, a3, a4⟩, b, d, e, r⟩ := v
  have o1 := ok.1; have o2 := ok.2.1; have o3 := ok.2.2.1
  have g : ∀ (o a N j : Nat), (∀ j, j < N → pa (o + j) = a ∧ pj (o + j) = j) → j < N → o + j < 207 → S.1 a j = f (o + j) := fun o a N j hp hj hl => by
    rw [← h _ hl, (hp j hj).1, (hp j hj).2]
  refine ⟨⟨(h 203 (by decide)).trans a1, (h 204 (by decide)).trans a2, (h 205 (by decide)).trans a3, (h 206 (by decide)).trans a4⟩, fun k hk => ?_, fun p hp => ?_, fun p h1 hp => ?_, fun k hk => ?_⟩
  · have q := b k hk
    have e0 := g 0 27 8 k pp_27 (by omega) (by omega)
    rw [Nat.zero_add] at e0
    rw [e0, g 8 28 8 k pp_28 (by omega) (by omega), g 16 29 8 k pp_29 (by omega) (by omega), g 24 30 8 k pp_30 (by omega) (by omega)]
    exact q
  · rw [g 32 31 49 p pp_31 (by omega) (by omega), g 81 32 49 p pp_32 (by omega) (by omega)]; exact d p hp
  · rw [g 130 33 49 p pp_33 (by omega) (by omega)]; exact e p h1 hp
  · rw [g 179 34 6 k pp_34 (by omega) (by omega), g 185 35 6 k pp_35 (by omega) (by omega), g 191 36 6 k pp_36 (by omega) (by omega), g 197 37 6 k pp_37 (by omega) (by omega)]; exact r k hk
/-- the two first rows of passesAll -/
def pst (S : ZS) (wh : Nat) (v : Int32) : ZS := sA (sA S 25 26 (nI (220 * wh))) 25 25 v
theorem pst_lo (S : ZS) (wh : Nat) (v : Int32) {a : Nat} (h : a ≠ 25) : (pst S wh v).1 a = S.1 a := (sA_ne _ _ _ h).trans (sA_ne _ _ _ h)
theorem pst_f (S : ZS) (wh : Nat) (v : Int32) {k : Nat} (h1 : k ≠ 25) (h2 : k ≠ 26) : (pst S wh v).1 25 k = S.1 25 k := (sA_nk _ _ fun g => h1 g.2).trans (sA_nk _ _ fun g => h2 g.2)
theorem pst_mv {S : ZS} {c : Co} (v : mV S c) (wh : Nat) (x : Int32) : mV (pst S wh x) c := mV_cg v (fun k h1 h2 => pst_f _ _ _ (by omega) (by omega)) (fun a h1 h2 => pst_lo _ _ _ (by omega))
theorem pst_fr {S : ZS} {n wh : Nat} {x : Int32} : frm 25 47 S n (pst S wh x) n := (frm.rf.sA _ _ (by decide) (by decide)).sA _ _ (by decide) (by decide)
theorem KI.fr {wh n : Nat} {S0 S : ZS} {cur : Nat} (h : KI wh S0 S cur) : frm 25 47 S0 n S n := ⟨Nat.le_refl _, fun j _ => by rw [h.1], fun a ha => ⟨h.lo (by omega) (by omega), by rw [h.1]⟩⟩
theorem RI.fr {wh n : Nat} {S0 S : ZS} {cur : Nat} (h : RI wh S0 S cur) : frm 25 47 S0 n S n := ⟨Nat.le_refl _, fun j _ => by rw [h.1], fun a ha => ⟨h.lo (by omega) (by omega), by rw [h.1]⟩⟩
theorem MI_image {S S1 : ZS} {M : Ms} (hI : MI S M) (k : KI 0 (pst (sA S 25 24 1) 0 1) S1 207) : MI S1 (wI M (some (mc M))) := by
  obtain ⟨v, i, t, r, q⟩ := hI
  have gr : ∀ a, a ≠ 42 → a ≠ 25 → S1.1 a = S.1 a := fun a h1 h2 => by rw [k.lo h1 h2, pst_lo _ _ _ h2, sA_ne _ _ _ h2]
  have gf : ∀ j, j ≠ 25 → j ≠ 26 → j ≠ 24 → S1.1 25 j = S.1 25 j := fun j h1 h2 h3 => by rw [k.f h1 h2, pst_f _ _ _ h1 h2, sA_nk _ _ fun g => h3 g.2]
  have mv : mV (pst (sA S 25 24 1) 0 1) (mc M) := pst_mv (mV_cg v.1 (fun j h1 h2 => sA_nk _ _ fun g => by omega) (fun a h1 h2 => sA_ne _ _ _ (by omega))) _ _
  refine ⟨⟨k.mv mv, v.2⟩, ⟨?_, fun c hc => ?_⟩, ?_, ?_, fun j hj => ?_⟩
  · rw [k.f (by decide) (by decide), pst_f _ _ _ (by decide) (by decide), sA_eq]; rfl
  · cases hc
    refine ⟨kV_of v.2 (fun j hj => ?_) mv, v.2⟩
    have := k.2.2.2.2 j hj
    rw [show 220 * 0 + j = j by omega] at this
    exact this
  · rw [gf 20 (by decide) (by decide) (by decide), gr 38 (by decide) (by decide)]; exact t
  · rw [gf 35 (by decide) (by decide) (by decide), gr 47 (by decide) (by decide)]; exact r
  · rw [gr 26 (by decide) (by decide)]; exact q j hj
theorem MI_restore {S S1 : ZS} {M : Ms} {c : Co} (hI : MI S M) (hc : mi M = some c) (k : RI 0 (pst S 0 0) S1 207) : MI S1 (wC M c) := by
  obtain ⟨v, i, t, r, q⟩ := hI
  obtain ⟨kv, ok⟩ := i.2 c hc
  have gr : ∀ a, (a < 27 ∨ 37 < a) → a ≠ 25 → S1.1 a = S.1 a := fun a h1 h2 => by rw [k.lo h1 h2, pst_lo _ _ _ h2]
  have gf : ∀ j, (26 < j ∨ (15 < j ∧ j < 25)) → S1.1 25 j = S.1 25 j := fun j h1 => by rw [k.f h1, pst_f _ _ _ (by omega) (by omega)]
  refine ⟨⟨mV_of ok (f := S.1 42) (fun j hj => ?_) kv, ok⟩, ⟨?_, fun c2 hc2 => ?_⟩, ?_, ?_, fun j hj => ?_⟩
  · rw [k.2.2.2.2 j hj, show 220 * 0 + j = j by omega, pst_lo _ _ _ (by decide)]
  · rw [gf 24 (by decide)]; exact i.1
  · rw [gr 42 (by decide) (by decide)]; exact i.2 c2 hc2
  · rw [gf 20 (by decide), gr 38 (by decide) (by decide)]; exact t
  · rw [gf 35 (by decide), gr 47 (by decide) (by decide)]; exact r
  · rw [gr 26 (by decide) (by decide)]; exact q j hj
set_option maxRecDepth 100000 in
set_option maxHeartbeats 4000000 in
theorem c_X12_image {S : ZS} {n : Nat} {M : Ms} (hI : MI S M) : zM m_X12_image 0 0 [.ref 25] (zw S n) (qR S n (spImage M)) := by
  show Z m_X12_image _ _ _ 0 [some (.ref _)] [] _
  refine Z_aload_n dX12_image_0 rfl (z_isref _) (pc' := 1) rfl ?_
  refine Z_iconst dX12_image_1 (v := 1) (by decide) (pc' := 2) rfl ?_
  refine Z_pZ dX12_image_2 rfl zpi_RX12_157_25 (by decide) (pc' := 5) rfl ?_
  refine Z_aload_n dX12_image_5 rfl (z_isref _) (pc' := 6) rfl ?_
  refine Z_iconst dX12_image_6 (v := 0) (by decide) (pc' := 7) rfl ?_
  refine Z_iconst dX12_image_7 (v := 1) (by decide) (pc' := 8) rfl ?_
  refine Z_cV dX12_image_8 rfl zcw_X12_passesAll (As := [_, _]) (rest := []) rfl ⟨Nat.le_of_ble_eq_true rfl, Nat.le_of_ble_eq_true rfl⟩ (Nat.le_of_ble_eq_true rfl) (zRcv.lay zob_25) ⟨zcw_X12_passesAll.2.2.2.2, Nat.le_of_ble_eq_true rfl⟩ zk_RX12_136 (c_X12_passesAll_k (wh := 0) (by decide)) (pc' := 11) rfl (fun r_8 w_8 h_8 => ?_)
  obtain ⟨rfl, S1, rfl, k1⟩ := h_8
  have h1 := MI_image hI k1
  show Z _ _ _ _ _ _ [] _
  refine Z_aload_n dX12_image_11 rfl (z_isref _) (pc' := 12) rfl ?_
  refine Z_gI dX12_image_12 rfl zgi_RX12_117_25 (pc' := 15) rfl ?_
  rw [h1.mv.1.2.1]
  exact Z_ireturn dX12_image_15 rfl rfl (qR.mk (M' := wI M (some (mc M))) rfl ((frm.rf.sA _ _ (by decide) (by decide)).tr ((pst_fr (wh := 0) (x := 1)).tr k1.fr)) h1)
set_option maxRecDepth 100000 in
set_option maxHeartbeats 4000000 in
theorem c_X12_restore {S : ZS} {n : Nat} {M : Ms} (hI : MI S M) : zM m_X12_restore 0 0 [.ref 25] (zw S n) (qR S n (spRestore M)) := by
  show Z m_X12_restore _ _ _ 0 [some (.ref _)] [] _
  refine Z_aload_n dX12_restore_0 rfl (z_isref _) (pc' := 1) rfl ?_
  refine Z_gI dX12_restore_1 rfl zgi_RX12_157_25 (pc' := 4) rfl ?_
  rw [hI.2.1.1]
  cases e : mi M with
  | none =>
    refine Z_if_ne dX12_restore_4 (tgt := 14) rfl (pc' := 7) rfl (fun c_4 => absurd c_4 (fun q => q rfl)) (fun c_4 => ?_)
    refine Z_aload_n dX12_restore_7 rfl (z_isref _) (pc' := 8) rfl ?_
    refine Z_bipush dX12_restore_8 (v := (-3)) (by decide) (pc' := 10) rfl ?_
    refine Z_cVe dX12_restore_10 rfl zcw_X12_no (As := [_]) (rest := []) rfl ⟨Nat.le_of_ble_eq_true rfl, Nat.le_of_ble_eq_true rfl⟩ (Nat.le_of_ble_eq_true rfl) (zRcv.lay zob_25) ⟨zcw_X12_no.2.2.2.2, Nat.le_of_ble_eq_true rfl⟩ zk_RX12_85 (c_X12_no (k := 3) (by decide) (by decide)) (pc' := 13) rfl ?_
    exact Z_ireturn dX12_restore_13 rfl rfl (qR.no hI sfr.rf (by decide) (by unfold spRestore; rw [e]))
  | some c =>
    refine Z_if_ne dX12_restore_4 (tgt := 14) rfl (pc' := 7) rfl (fun c_4 => ?_) (fun c_4 => absurd c_4 (zb_st))
    refine Z_aload_n dX12_restore_14 rfl (z_isref _) (pc' := 15) rfl ?_
    refine Z_iconst dX12_restore_15 (v := 0) (by decide) (pc' := 16) rfl ?_
    refine Z_iconst dX12_restore_16 (v := 0) (by decide) (pc' := 17) rfl ?_
    refine Z_cV dX12_restore_17 rfl zcw_X12_passesAll (As := [_, _]) (rest := []) rfl ⟨Nat.le_of_ble_eq_true rfl, Nat.le_of_ble_eq_true rfl⟩ (Nat.le_of_ble_eq_true rfl) (zRcv.lay zob_25) ⟨zcw_X12_passesAll.2.2.2.2, Nat.le_of_ble_eq_true rfl⟩ zk_RX12_136 (c_X12_passesAll_r (wh := 0) (by decide)) (pc' := 20) rfl (fun r_17 w_17 h_17 => ?_)
    obtain ⟨rfl, S1, rfl, k1⟩ := h_17
    have h1 := MI_restore hI e k1
    show Z _ _ _ _ _ _ [] _
    refine Z_aload_n dX12_restore_20 rfl (z_isref _) (pc' := 21) rfl ?_
    refine Z_gI dX12_restore_21 rfl zgi_RX12_117_25 (pc' := 24) rfl ?_
    rw [h1.mv.1.2.1]
    exact Z_ireturn dX12_restore_24 rfl rfl (qR.mk (M' := wC M c) (by unfold spRestore; rw [e]; rfl) ((pst_fr (wh := 0) (x := 0)).tr k1.fr) h1)
