theorem i32_rng {x : Int32} {N : Nat} (hN : N < 2147483648) (h0 : ¬ x < 0) (h : ¬ nI N < x) : ∃ k : Nat, k ≤ N ∧ x = nI k := by
  obtain ⟨k, hk, rfl⟩ := (i32_cases x).resolve_left h0
  exact ⟨k, by rw [nI_ltn hN hk] at h; omega, rfl⟩
theorem zin_of {i : Int32} {N : Nat} (hN : N < 2147483648) (h0 : ¬ i < 0) (h : i < nI N) : vp_in i N := by
  obtain ⟨k, hk, rfl⟩ := (i32_cases i).resolve_left h0
  rw [nI_ltn hk hN] at h
  exact zin h hN
theorem nle_lt {a b : Int32} (h : ¬ a ≤ b) : b < a := Int32.not_le.mp h
def hI (f : Nat → Bool) (p : Int32) : Bool := if p < 0 ∨ 48 < p then false else f p.toNatClampNeg
theorem hI_nat (f : Nat → Bool) {k : Nat} (h : k ≤ 48) : hI f (nI k) = f k := by
  unfold hI
  have h1 : ¬ nI k < 0 := nI_neg (by omega)
  have h2 : ¬ (48 : Int32) < nI k := by rw [show (48 : Int32) = nI 48 from rfl, nI_ltn (by omega) (by omega)]; omega
  rw [if_neg (by simp [h1, h2]), nI_nat (by omega)]
/-- a guarded read of a row of N whole numbers -/
def gI (f : Nat → Int32) (N z i : Int32) : Int32 := if i < 0 ∨ N ≤ i then z else f i.toNatClampNeg
theorem gI_nat (f : Nat → Int32) {N k : Nat} (z : Int32) (hN : N < 2147483648) (h : k < N) : gI f (nI N) z (nI k) = f k := by
  unfold gI
  rw [if_neg (by rw [nI_len hN (by omega)]; have := nI_neg (k := k) (by omega); simp [this]; omega), nI_nat (by omega)]
/-- a guarded read of what is there -/
def sI (g : Nat → Option Nat) (cnt N i : Int32) : Option Nat := if i < 0 ∨ cnt ≤ i ∨ N ≤ i then none else g i.toNatClampNeg
theorem sI_nat (g : Nat → Option Nat) {c N k : Nat} (hc : c < 2147483648) (hN : N < 2147483648) (hk : k < 2147483648) : sI g (nI c) (nI N) (nI k) = if k < c ∧ k < N then g k else none := by
  unfold sI
  have h1 := nI_neg hk
  simp only [nI_len hc hk, nI_len hN hk, nI_nat hk]
  by_cases h : k < c ∧ k < N
  · rw [if_pos h, if_neg (by simp [h1]; omega)]
  · rw [if_neg h, if_pos (by omega)]
def hpI (ys p : Int32) : Bool := !decide (p < 0) && !decide (ys < p)
def lI (f : Nat → Int32) (sz i : Int32) : Int32 := if i < 0 ∨ sz ≤ i ∨ 80 ≤ i then -1 else f i.toNatClampNeg
set_option maxRecDepth 100000 in
set_option maxHeartbeats 4000000 in
theorem c_X11_holds {f : Nat → Bool} {p : Int32} {ω : ZW} : zM m_X11_holds 0 0 [.long (zmk f), .int p] ω (zE (some (.int (zb (hI f p)))) ω) := by
  show Z m_X11_holds _ _ _ 0 [some (.long _), none, some (.int _)] [] _
  refine Z_iload_n dX11_holds_0 rfl (pc' := 1) rfl ?_
  refine Z_if_lt dX11_holds_1 (tgt := 24) rfl (pc' := 4) rfl (fun c_1 => ?_) (fun c_1 => ?_)
  · refine Z_iconst dX11_holds_24 (v := 0) (by decide) (pc' := 25) rfl ?_
    exact Z_ireturn dX11_holds_25 rfl (by first | rfl | exact narrow_zb _) ⟨by unfold hI; rw [if_pos (Or.inl c_1)]; rfl, rfl⟩
  · refine Z_iload_n dX11_holds_4 rfl (pc' := 5) rfl ?_
    refine Z_bipush dX11_holds_5 (v := 48) (by decide) (pc' := 7) rfl ?_
    refine Z_icmp_gt dX11_holds_7 (tgt := 24) rfl (pc' := 10) rfl (fun c_7 => ?_) (fun c_7 => ?_)
    · refine Z_iconst dX11_holds_24 (v := 0) (by decide) (pc' := 25) rfl ?_
      exact Z_ireturn dX11_holds_25 rfl (by first | rfl | exact narrow_zb _) ⟨by unfold hI; rw [if_pos (Or.inr c_7)]; rfl, rfl⟩
    · obtain ⟨k, hk, rfl⟩ := i32_rng (N := 48) (by decide) c_1 c_7
      refine Z_lload_n dX11_holds_10 rfl (pc' := 11) rfl ?_
      refine Z_iload_n dX11_holds_11 rfl (pc' := 12) rfl ?_
      refine Z_lshr dX11_holds_12 (pc' := 13) rfl ?_
      refine Z_lconst dX11_holds_13 (v := 1) (by decide) (pc' := 14) rfl ?_
      refine Z_land dX11_holds_14 (pc' := 15) rfl ?_
      refine Z_lconst dX11_holds_15 (v := 0) (by decide) (pc' := 16) rfl ?_
      refine Z_lcmp dX11_holds_16 (pc' := 17) rfl ?_
      refine Z_if_eq dX11_holds_17 (tgt := 24) rfl (pc' := 20) rfl (fun c_17 => ?_) (fun c_17 => ?_)
      · refine Z_iconst dX11_holds_24 (v := 0) (by decide) (pc' := 25) rfl ?_
        exact Z_ireturn dX11_holds_25 rfl (by first | rfl | exact narrow_zb _) ⟨by rw [hI_nat f hk, ← zmk_bt f (by omega), (zholds (by omega)).mp c_17]; rfl, rfl⟩
      · refine Z_iconst dX11_holds_20 (v := 1) (by decide) (pc' := 21) rfl ?_
        refine Z_goto dX11_holds_21 (tgt := 25) rfl ?_
        exact Z_ireturn dX11_holds_25 rfl (by first | rfl | exact narrow_zb _) ⟨by rw [hI_nat f hk, ← zmk_bt f (by omega), Bool.not_eq_false _ |>.mp (fun h => c_17 ((zholds (by omega)).mpr h))]; rfl, rfl⟩
set_option maxRecDepth 100000 in
set_option maxHeartbeats 4000000 in
theorem c_X2_xAt {S : ZS} {n b : Nat} (hb : cB b) {i : Int32} : zM m_X2_xAt 0 0 [.ref b, .int i] (zw S n) (zE (some (.int (gI (S.1 (b + 2)) 49 0 i))) (zw S n)) := by
  show Z m_X2_xAt _ _ _ 0 [some (.ref _), some (.int _)] [] _
  refine Z_iload_n dX2_xAt_0 rfl (pc' := 1) rfl ?_
  refine Z_if_lt dX2_xAt_1 (tgt := 13) rfl (pc' := 4) rfl (fun c_1 => ?_) (fun c_1 => ?_)
  · refine Z_iconst dX2_xAt_13 (v := 0) (by decide) (pc' := 14) rfl ?_
    refine Z_goto dX2_xAt_14 (tgt := 23) rfl ?_
    exact Z_ireturn dX2_xAt_23 rfl rfl ⟨by unfold gI; rw [if_pos (Or.inl c_1)], rfl⟩
  · refine Z_iload_n dX2_xAt_4 rfl (pc' := 5) rfl ?_
    refine Z_aload_n dX2_xAt_5 rfl (z_isref _) (pc' := 6) rfl ?_
    refine Z_gR dX2_xAt_6 rfl (zgr_RX2_17_b_0 hb) (pc' := 9) rfl ?_
    refine Z_al dX2_xAt_9 (zar_b_2 hb) (v := 49) (by decide) (pc' := 10) rfl ?_
    refine Z_icmp_lt dX2_xAt_10 (tgt := 17) rfl (pc' := 13) rfl (fun c_10 => ?_) (fun c_10 => ?_)
    · refine Z_aload_n dX2_xAt_17 rfl (z_isref _) (pc' := 18) rfl ?_
      refine Z_gR dX2_xAt_18 rfl (zgr_RX2_17_b_0 hb) (pc' := 21) rfl ?_
      refine Z_iload_n dX2_xAt_21 rfl (pc' := 22) rfl ?_
      refine Z_il dX2_xAt_22 (zar_b_2 hb) (zin_of (by decide) c_1 c_10) (pc' := 23) rfl ?_
      exact Z_ireturn dX2_xAt_23 rfl rfl ⟨by unfold gI; rw [if_neg (by simp [c_1]; exact c_10)], rfl⟩
    · refine Z_iconst dX2_xAt_13 (v := 0) (by decide) (pc' := 14) rfl ?_
      refine Z_goto dX2_xAt_14 (tgt := 23) rfl ?_
      exact Z_ireturn dX2_xAt_23 rfl rfl ⟨by unfold gI; rw [if_pos (Or.inr (Int32.not_lt.mp c_10))], rfl⟩
set_option maxRecDepth 100000 in
set_option maxHeartbeats 4000000 in
theorem c_X2_yAt {S : ZS} {n b : Nat} (hb : cB b) {i : Int32} : zM m_X2_yAt 0 0 [.ref b, .int i] (zw S n) (zE (some (.int (gI (S.1 (b + 3)) 49 0 i))) (zw S n)) := by
  show Z m_X2_yAt _ _ _ 0 [some (.ref _), some (.int _)] [] _
  refine Z_iload_n dX2_yAt_0 rfl (pc' := 1) rfl ?_
  refine Z_if_lt dX2_yAt_1 (tgt := 13) rfl (pc' := 4) rfl (fun c_1 => ?_) (fun c_1 => ?_)
  · refine Z_iconst dX2_yAt_13 (v := 0) (by decide) (pc' := 14) rfl ?_
    refine Z_goto dX2_yAt_14 (tgt := 23) rfl ?_
    exact Z_ireturn dX2_yAt_23 rfl rfl ⟨by unfold gI; rw [if_pos (Or.inl c_1)], rfl⟩
  · refine Z_iload_n dX2_yAt_4 rfl (pc' := 5) rfl ?_
    refine Z_aload_n dX2_yAt_5 rfl (z_isref _) (pc' := 6) rfl ?_
    refine Z_gR dX2_yAt_6 rfl (zgr_RX2_21_b_0 hb) (pc' := 9) rfl ?_
    refine Z_al dX2_yAt_9 (zar_b_3 hb) (v := 49) (by decide) (pc' := 10) rfl ?_
    refine Z_icmp_lt dX2_yAt_10 (tgt := 17) rfl (pc' := 13) rfl (fun c_10 => ?_) (fun c_10 => ?_)
    · refine Z_aload_n dX2_yAt_17 rfl (z_isref _) (pc' := 18) rfl ?_
      refine Z_gR dX2_yAt_18 rfl (zgr_RX2_21_b_0 hb) (pc' := 21) rfl ?_
      refine Z_iload_n dX2_yAt_21 rfl (pc' := 22) rfl ?_
      refine Z_il dX2_yAt_22 (zar_b_3 hb) (zin_of (by decide) c_1 c_10) (pc' := 23) rfl ?_
      exact Z_ireturn dX2_yAt_23 rfl rfl ⟨by unfold gI; rw [if_neg (by simp [c_1]; exact c_10)], rfl⟩
    · refine Z_iconst dX2_yAt_13 (v := 0) (by decide) (pc' := 14) rfl ?_
      refine Z_goto dX2_yAt_14 (tgt := 23) rfl ?_
      exact Z_ireturn dX2_yAt_23 rfl rfl ⟨by unfold gI; rw [if_pos (Or.inr (Int32.not_lt.mp c_10))], rfl⟩
set_option maxRecDepth 100000 in
set_option maxHeartbeats 4000000 in
theorem c_X2_stretchAt {S : ZS} {n b : Nat} (hb : cB b) {i : Int32} : zM m_X2_stretchAt 0 0 [.ref b, .int i] (zw S n) (zE (some (va_rf (sI (S.2.1 (b + 1)) (S.1 b 1) 8 i))) (zw S n)) := by
  show Z m_X2_stretchAt _ _ _ 0 [some (.ref _), some (.int _)] [] _
  refine Z_iload_n dX2_stretchAt_0 rfl (pc' := 1) rfl ?_
  refine Z_if_lt dX2_stretchAt_1 (tgt := 21) rfl (pc' := 4) rfl (fun c_1 => ?_) (fun c_1 => ?_)
  · refine Z_null dX2_stretchAt_21 (pc' := 22) rfl ?_
    refine Z_goto dX2_stretchAt_22 (tgt := 31) rfl ?_
    exact Z_areturn dX2_stretchAt_31 rfl (Or.inl ⟨_, rfl⟩) (Or.inl rfl) ⟨by unfold sI; rw [if_pos (Or.inl c_1)]; rfl, rfl⟩
  · refine Z_iload_n dX2_stretchAt_4 rfl (pc' := 5) rfl ?_
    refine Z_aload_n dX2_stretchAt_5 rfl (z_isref _) (pc' := 6) rfl ?_
    refine Z_gI dX2_stretchAt_6 rfl (zgi_RX2_31_b_0 hb) (pc' := 9) rfl ?_
    refine Z_icmp_ge dX2_stretchAt_9 (tgt := 21) rfl (pc' := 12) rfl (fun c_9 => ?_) (fun c_9 => ?_)
    · refine Z_null dX2_stretchAt_21 (pc' := 22) rfl ?_
      refine Z_goto dX2_stretchAt_22 (tgt := 31) rfl ?_
      exact Z_areturn dX2_stretchAt_31 rfl (Or.inl ⟨_, rfl⟩) (Or.inl rfl) ⟨by unfold sI; rw [if_pos (Or.inr (Or.inl c_9))]; rfl, rfl⟩
    · refine Z_iload_n dX2_stretchAt_12 rfl (pc' := 13) rfl ?_
      refine Z_aload_n dX2_stretchAt_13 rfl (z_isref _) (pc' := 14) rfl ?_
      refine Z_gR dX2_stretchAt_14 rfl (zgr_RX2_11_b_0 hb) (pc' := 17) rfl ?_
      refine Z_alq dX2_stretchAt_17 (zaq_b_1 hb) (v := 8) (by decide) (pc' := 18) rfl ?_
      refine Z_icmp_lt dX2_stretchAt_18 (tgt := 25) rfl (pc' := 21) rfl (fun c_18 => ?_) (fun c_18 => ?_)
      · refine Z_aload_n dX2_stretchAt_25 rfl (z_isref _) (pc' := 26) rfl ?_
        refine Z_gR dX2_stretchAt_26 rfl (zgr_RX2_11_b_0 hb) (pc' := 29) rfl ?_
        refine Z_iload_n dX2_stretchAt_29 rfl (pc' := 30) rfl ?_
        refine Z_ql dX2_stretchAt_30 (zaq_b_1 hb) (zin_of (by decide) c_1 c_18) (pc' := 31) rfl ?_
        exact Z_areturn dX2_stretchAt_31 rfl (Or.inl ⟨_, rfl⟩) (z_isrf _) ⟨by unfold sI; rw [if_neg (by simp only [not_or]; exact ⟨c_1, c_9, Int32.not_le.mpr c_18⟩)], rfl⟩
      · refine Z_null dX2_stretchAt_21 (pc' := 22) rfl ?_
        refine Z_goto dX2_stretchAt_22 (tgt := 31) rfl ?_
        exact Z_areturn dX2_stretchAt_31 rfl (Or.inl ⟨_, rfl⟩) (Or.inl rfl) ⟨by unfold sI; rw [if_pos (Or.inr (Or.inr (Int32.not_lt.mp c_18)))]; rfl, rfl⟩
set_option maxRecDepth 100000 in
set_option maxHeartbeats 4000000 in
theorem c_X7_rockAt {S : ZS} {n q : Nat} (hq : cR q) {i : Int32} : zM m_X7_rockAt 0 0 [.ref q, .int i] (zw S n) (zE (some (va_rf (sI (S.2.1 (q + 1)) (S.1 q 1) 6 i))) (zw S n)) := by
  show Z m_X7_rockAt _ _ _ 0 [some (.ref _), some (.int _)] [] _
  refine Z_iload_n dX7_rockAt_0 rfl (pc' := 1) rfl ?_
  refine Z_if_lt dX7_rockAt_1 (tgt := 21) rfl (pc' := 4) rfl (fun c_1 => ?_) (fun c_1 => ?_)
  · refine Z_null dX7_rockAt_21 (pc' := 22) rfl ?_
    refine Z_goto dX7_rockAt_22 (tgt := 31) rfl ?_
    exact Z_areturn dX7_rockAt_31 rfl (Or.inl ⟨_, rfl⟩) (Or.inl rfl) ⟨by unfold sI; rw [if_pos (Or.inl c_1)]; rfl, rfl⟩
  · refine Z_iload_n dX7_rockAt_4 rfl (pc' := 5) rfl ?_
    refine Z_aload_n dX7_rockAt_5 rfl (z_isref _) (pc' := 6) rfl ?_
    refine Z_gI dX7_rockAt_6 rfl (zgi_RX7_17_q_0 hq) (pc' := 9) rfl ?_
    refine Z_icmp_ge dX7_rockAt_9 (tgt := 21) rfl (pc' := 12) rfl (fun c_9 => ?_) (fun c_9 => ?_)
    · refine Z_null dX7_rockAt_21 (pc' := 22) rfl ?_
      refine Z_goto dX7_rockAt_22 (tgt := 31) rfl ?_
      exact Z_areturn dX7_rockAt_31 rfl (Or.inl ⟨_, rfl⟩) (Or.inl rfl) ⟨by unfold sI; rw [if_pos (Or.inr (Or.inl c_9))]; rfl, rfl⟩
    · refine Z_iload_n dX7_rockAt_12 rfl (pc' := 13) rfl ?_
      refine Z_aload_n dX7_rockAt_13 rfl (z_isref _) (pc' := 14) rfl ?_
      refine Z_gR dX7_rockAt_14 rfl (zgr_RX7_11_q_0 hq) (pc' := 17) rfl ?_
      refine Z_alq dX7_rockAt_17 (zaq_q_1 hq) (v := 6) (by decide) (pc' := 18) rfl ?_
      refine Z_icmp_lt dX7_rockAt_18 (tgt := 25) rfl (pc' := 21) rfl (fun c_18 => ?_) (fun c_18 => ?_)
      · refine Z_aload_n dX7_rockAt_25 rfl (z_isref _) (pc' := 26) rfl ?_
        refine Z_gR dX7_rockAt_26 rfl (zgr_RX7_11_q_0 hq) (pc' := 29) rfl ?_
        refine Z_iload_n dX7_rockAt_29 rfl (pc' := 30) rfl ?_
        refine Z_ql dX7_rockAt_30 (zaq_q_1 hq) (zin_of (by decide) c_1 c_18) (pc' := 31) rfl ?_
        exact Z_areturn dX7_rockAt_31 rfl (Or.inl ⟨_, rfl⟩) (z_isrf _) ⟨by unfold sI; rw [if_neg (by simp only [not_or]; exact ⟨c_1, c_9, Int32.not_le.mpr c_18⟩)], rfl⟩
      · refine Z_null dX7_rockAt_21 (pc' := 22) rfl ?_
        refine Z_goto dX7_rockAt_22 (tgt := 31) rfl ?_
        exact Z_areturn dX7_rockAt_31 rfl (Or.inl ⟨_, rfl⟩) (Or.inl rfl) ⟨by unfold sI; rw [if_pos (Or.inr (Or.inr (Int32.not_lt.mp c_18)))]; rfl, rfl⟩
set_option maxRecDepth 100000 in
set_option maxHeartbeats 4000000 in
theorem c_X2_hasPlace {S : ZS} {n b : Nat} (hb : cB b) {p : Int32} : zM m_X2_hasPlace 0 0 [.ref b, .int p] (zw S n) (zE (some (.int (zb (hpI (S.1 b 4) p)))) (zw S n)) := by
  show Z m_X2_hasPlace _ _ _ 0 [some (.ref _), some (.int _)] [] _
  refine Z_iload_n dX2_hasPlace_0 rfl (pc' := 1) rfl ?_
  refine Z_if_lt dX2_hasPlace_1 (tgt := 16) rfl (pc' := 4) rfl (fun c_1 => ?_) (fun c_1 => ?_)
  · refine Z_iconst dX2_hasPlace_16 (v := 0) (by decide) (pc' := 17) rfl ?_
    exact Z_ireturn dX2_hasPlace_17 rfl (by first | rfl | exact narrow_zb _) ⟨by unfold hpI; simp [c_1, zb], rfl⟩
  · refine Z_iload_n dX2_hasPlace_4 rfl (pc' := 5) rfl ?_
    refine Z_aload_n dX2_hasPlace_5 rfl (z_isref _) (pc' := 6) rfl ?_
    refine Z_gI dX2_hasPlace_6 rfl (zgi_RX2_39_b_0 hb) (pc' := 9) rfl ?_
    refine Z_icmp_gt dX2_hasPlace_9 (tgt := 16) rfl (pc' := 12) rfl (fun c_9 => ?_) (fun c_9 => ?_)
    · refine Z_iconst dX2_hasPlace_16 (v := 0) (by decide) (pc' := 17) rfl ?_
      exact Z_ireturn dX2_hasPlace_17 rfl (by first | rfl | exact narrow_zb _) ⟨by unfold hpI; simp [c_9, zb], rfl⟩
    · refine Z_iconst dX2_hasPlace_12 (v := 1) (by decide) (pc' := 13) rfl ?_
      refine Z_goto dX2_hasPlace_13 (tgt := 17) rfl ?_
      exact Z_ireturn dX2_hasPlace_17 rfl (by first | rfl | exact narrow_zb _) ⟨by unfold hpI; simp [c_1, c_9, zb], rfl⟩
set_option maxRecDepth 100000 in
set_option maxHeartbeats 4000000 in
theorem c_X3_letterAt {S : ZS} {n : Nat} {i : Int32} : zM m_X3_letterAt 0 0 [.ref 21, .int i] (zw S n) (zE (some (.int (lI (S.1 22) (S.1 21 1) i))) (zw S n)) := by
  show Z m_X3_letterAt _ _ _ 0 [some (.ref _), some (.int _)] [] _
  refine Z_iload_n dX3_letterAt_0 rfl (pc' := 1) rfl ?_
  refine Z_if_lt dX3_letterAt_1 (tgt := 21) rfl (pc' := 4) rfl (fun c_1 => ?_) (fun c_1 => ?_)
  · refine Z_iconst dX3_letterAt_21 (v := (-1)) (by decide) (pc' := 22) rfl ?_
    refine Z_goto dX3_letterAt_22 (tgt := 31) rfl ?_
    exact Z_ireturn dX3_letterAt_31 rfl rfl ⟨by unfold lI; rw [if_pos (Or.inl c_1)], rfl⟩
  · refine Z_iload_n dX3_letterAt_4 rfl (pc' := 5) rfl ?_
    refine Z_aload_n dX3_letterAt_5 rfl (z_isref _) (pc' := 6) rfl ?_
    refine Z_gI dX3_letterAt_6 rfl zgi_RX3_15_21 (pc' := 9) rfl ?_
    refine Z_icmp_ge dX3_letterAt_9 (tgt := 21) rfl (pc' := 12) rfl (fun c_9 => ?_) (fun c_9 => ?_)
    · refine Z_iconst dX3_letterAt_21 (v := (-1)) (by decide) (pc' := 22) rfl ?_
      refine Z_goto dX3_letterAt_22 (tgt := 31) rfl ?_
      exact Z_ireturn dX3_letterAt_31 rfl rfl ⟨by unfold lI; rw [if_pos (Or.inr (Or.inl c_9))], rfl⟩
    · refine Z_iload_n dX3_letterAt_12 rfl (pc' := 13) rfl ?_
      refine Z_aload_n dX3_letterAt_13 rfl (z_isref _) (pc' := 14) rfl ?_
      refine Z_gR dX3_letterAt_14 rfl zgr_RX3_9_21 (pc' := 17) rfl ?_
      refine Z_al dX3_letterAt_17 zar_22 (v := 80) (by decide) (pc' := 18) rfl ?_
      refine Z_icmp_lt dX3_letterAt_18 (tgt := 25) rfl (pc' := 21) rfl (fun c_18 => ?_) (fun c_18 => ?_)
      · refine Z_aload_n dX3_letterAt_25 rfl (z_isref _) (pc' := 26) rfl ?_
        refine Z_gR dX3_letterAt_26 rfl zgr_RX3_9_21 (pc' := 29) rfl ?_
        refine Z_iload_n dX3_letterAt_29 rfl (pc' := 30) rfl ?_
        refine Z_il dX3_letterAt_30 zar_22 (zin_of (by decide) c_1 c_18) (pc' := 31) rfl ?_
        exact Z_ireturn dX3_letterAt_31 rfl rfl ⟨by unfold lI; rw [if_neg (by simp only [not_or]; exact ⟨c_1, c_9, Int32.not_le.mpr c_18⟩)], rfl⟩
      · refine Z_iconst dX3_letterAt_21 (v := (-1)) (by decide) (pc' := 22) rfl ?_
        refine Z_goto dX3_letterAt_22 (tgt := 31) rfl ?_
        exact Z_ireturn dX3_letterAt_31 rfl rfl ⟨by unfold lI; rw [if_pos (Or.inr (Or.inr (Int32.not_lt.mp c_18)))], rfl⟩
def isDg (x : Int32) : Bool := decide (48 ≤ x) && decide (x ≤ 57)
def isWy (x : Int32) : Bool := decide (x = 110 ∨ x = 101 ∨ x = 115 ∨ x = 119)
set_option maxRecDepth 100000 in
set_option maxHeartbeats 4000000 in
theorem c_X3_isDigit {S : ZS} {n : Nat} {i : Int32} : zM m_X3_isDigit 0 0 [.ref 21, .int i] (zw S n) (zE (some (.int (zb (isDg (lI (S.1 22) (S.1 21 1) i))))) (zw S n)) := by
  show Z m_X3_isDigit _ _ _ 0 [some (.ref _), some (.int _)] [] _
  refine Z_aload_n dX3_isDigit_0 rfl (z_isref _) (pc' := 1) rfl ?_
  refine Z_iload_n dX3_isDigit_1 rfl (pc' := 2) rfl ?_
  refine Z_cVe dX3_isDigit_2 rfl zcw_X3_letterAt (As := [_]) (rest := []) rfl ⟨Nat.le_of_ble_eq_true rfl, Nat.le_of_ble_eq_true rfl⟩ (Nat.le_of_ble_eq_true rfl) (zRcv.lay zob_21) ⟨zcw_X3_letterAt.2.2.2.2, Nat.le_of_ble_eq_true rfl⟩ zk_RX3_19 c_X3_letterAt (pc' := 5) rfl ?_
  refine Z_istore_n dX3_isDigit_5 (Nat.le_of_ble_eq_true rfl) (Nat.le_of_ble_eq_true rfl) rfl (ls' := [_, _, _]) rfl (pc' := 6) rfl ?_
  refine Z_iload_n dX3_isDigit_6 rfl (pc' := 7) rfl ?_
  refine Z_bipush dX3_isDigit_7 (v := 48) (by decide) (pc' := 9) rfl ?_
  refine Z_icmp_lt dX3_isDigit_9 (tgt := 22) rfl (pc' := 12) rfl (fun c_9 => ?_) (fun c_9 => ?_)
  · refine Z_iconst dX3_isDigit_22 (v := 0) (by decide) (pc' := 23) rfl ?_
    exact Z_ireturn dX3_isDigit_23 rfl (by first | rfl | exact narrow_zb _) ⟨by unfold isDg; rw [decide_eq_false (Int32.not_le.mpr c_9)]; rfl, rfl⟩
  · refine Z_iload_n dX3_isDigit_12 rfl (pc' := 13) rfl ?_
    refine Z_bipush dX3_isDigit_13 (v := 57) (by decide) (pc' := 15) rfl ?_
    refine Z_icmp_gt dX3_isDigit_15 (tgt := 22) rfl (pc' := 18) rfl (fun c_15 => ?_) (fun c_15 => ?_)
    · refine Z_iconst dX3_isDigit_22 (v := 0) (by decide) (pc' := 23) rfl ?_
      exact Z_ireturn dX3_isDigit_23 rfl (by first | rfl | exact narrow_zb _) ⟨by unfold isDg; rw [decide_eq_false (p := _ ≤ (57 : Int32)) (Int32.not_le.mpr c_15), Bool.and_false]; rfl, rfl⟩
    · refine Z_iconst dX3_isDigit_18 (v := 1) (by decide) (pc' := 19) rfl ?_
      refine Z_goto dX3_isDigit_19 (tgt := 23) rfl ?_
      exact Z_ireturn dX3_isDigit_23 rfl (by first | rfl | exact narrow_zb _) ⟨by unfold isDg; rw [decide_eq_true (Int32.not_lt.mp c_9), decide_eq_true (Int32.not_lt.mp c_15)]; rfl, rfl⟩
set_option maxRecDepth 100000 in
set_option maxHeartbeats 4000000 in
theorem c_X3_digitAt {S : ZS} {n : Nat} {i : Int32} : zM m_X3_digitAt 0 0 [.ref 21, .int i] (zw S n) (zE (some (.int (lI (S.1 22) (S.1 21 1) i - 48))) (zw S n)) := by
  show Z m_X3_digitAt _ _ _ 0 [some (.ref _), some (.int _)] [] _
  refine Z_aload_n dX3_digitAt_0 rfl (z_isref _) (pc' := 1) rfl ?_
  refine Z_iload_n dX3_digitAt_1 rfl (pc' := 2) rfl ?_
  refine Z_cVe dX3_digitAt_2 rfl zcw_X3_letterAt (As := [_]) (rest := []) rfl ⟨Nat.le_of_ble_eq_true rfl, Nat.le_of_ble_eq_true rfl⟩ (Nat.le_of_ble_eq_true rfl) (zRcv.lay zob_21) ⟨zcw_X3_letterAt.2.2.2.2, Nat.le_of_ble_eq_true rfl⟩ zk_RX3_19 c_X3_letterAt (pc' := 5) rfl ?_
  refine Z_bipush dX3_digitAt_5 (v := 48) (by decide) (pc' := 7) rfl ?_
  refine Z_isub dX3_digitAt_7 (pc' := 8) rfl ?_
  exact Z_ireturn dX3_digitAt_8 rfl rfl ⟨rfl, rfl⟩
set_option maxRecDepth 100000 in
set_option maxHeartbeats 4000000 in
theorem c_X3_pairAt {S : ZS} {n : Nat} {i : Int32} : zM m_X3_pairAt 0 0 [.ref 21, .int i] (zw S n) (zE (some (.int (10 * (lI (S.1 22) (S.1 21 1) i - 48) + (lI (S.1 22) (S.1 21 1) (i + 1) - 48)))) (zw S n)) := by
  show Z m_X3_pairAt _ _ _ 0 [some (.ref _), some (.int _)] [] _
  refine Z_bipush dX3_pairAt_0 (v := 10) (by decide) (pc' := 2) rfl ?_
  refine Z_aload_n dX3_pairAt_2 rfl (z_isref _) (pc' := 3) rfl ?_
  refine Z_iload_n dX3_pairAt_3 rfl (pc' := 4) rfl ?_
  refine Z_cVe dX3_pairAt_4 rfl zcw_X3_digitAt (As := [_]) (rest := [_]) rfl ⟨Nat.le_of_ble_eq_true rfl, Nat.le_of_ble_eq_true rfl⟩ (Nat.le_of_ble_eq_true rfl) (zRcv.lay zob_21) ⟨zcw_X3_digitAt.2.2.2.2, Nat.le_of_ble_eq_true rfl⟩ zk_RX3_23 c_X3_digitAt (pc' := 7) rfl ?_
  refine Z_imul dX3_pairAt_7 (pc' := 8) rfl ?_
  refine Z_aload_n dX3_pairAt_8 rfl (z_isref _) (pc' := 9) rfl ?_
  refine Z_iload_n dX3_pairAt_9 rfl (pc' := 10) rfl ?_
  refine Z_iconst dX3_pairAt_10 (v := 1) (by decide) (pc' := 11) rfl ?_
  refine Z_iadd dX3_pairAt_11 (pc' := 12) rfl ?_
  refine Z_cVe dX3_pairAt_12 rfl zcw_X3_digitAt (As := [_]) (rest := [_]) rfl ⟨Nat.le_of_ble_eq_true rfl, Nat.le_of_ble_eq_true rfl⟩ (Nat.le_of_ble_eq_true rfl) (zRcv.lay zob_21) ⟨zcw_X3_digitAt.2.2.2.2, Nat.le_of_ble_eq_true rfl⟩ zk_RX3_23 c_X3_digitAt (pc' := 15) rfl ?_
  refine Z_iadd dX3_pairAt_15 (pc' := 16) rfl ?_
  exact Z_ireturn dX3_pairAt_16 rfl rfl ⟨rfl, rfl⟩
set_option maxRecDepth 100000 in
set_option maxHeartbeats 4000000 in
theorem c_X3_isWay {S : ZS} {n : Nat} {i : Int32} : zM m_X3_isWay 0 0 [.ref 21, .int i] (zw S n) (zE (some (.int (zb (isWy (lI (S.1 22) (S.1 21 1) i))))) (zw S n)) := by
  show Z m_X3_isWay _ _ _ 0 [some (.ref _), some (.int _)] [] _
  refine Z_aload_n dX3_isWay_0 rfl (z_isref _) (pc' := 1) rfl ?_
  refine Z_iload_n dX3_isWay_1 rfl (pc' := 2) rfl ?_
  refine Z_cVe dX3_isWay_2 rfl zcw_X3_letterAt (As := [_]) (rest := []) rfl ⟨Nat.le_of_ble_eq_true rfl, Nat.le_of_ble_eq_true rfl⟩ (Nat.le_of_ble_eq_true rfl) (zRcv.lay zob_21) ⟨zcw_X3_letterAt.2.2.2.2, Nat.le_of_ble_eq_true rfl⟩ zk_RX3_19 c_X3_letterAt (pc' := 5) rfl ?_
  refine Z_istore_n dX3_isWay_5 (Nat.le_of_ble_eq_true rfl) (Nat.le_of_ble_eq_true rfl) rfl (ls' := [_, _, _]) rfl (pc' := 6) rfl ?_
  refine Z_iload_n dX3_isWay_6 rfl (pc' := 7) rfl ?_
  refine Z_bipush dX3_isWay_7 (v := 110) (by decide) (pc' := 9) rfl ?_
  refine Z_icmp_eq dX3_isWay_9 (tgt := 30) rfl (pc' := 12) rfl (fun c_9 => ?_) (fun c_9 => ?_)
  · refine Z_iconst dX3_isWay_30 (v := 1) (by decide) (pc' := 31) rfl ?_
    refine Z_goto dX3_isWay_31 (tgt := 35) rfl ?_
    exact Z_ireturn dX3_isWay_35 rfl (by first | rfl | exact narrow_zb _) ⟨by unfold isWy; rw [decide_eq_true (Or.inl c_9)]; rfl, rfl⟩
  · refine Z_iload_n dX3_isWay_12 rfl (pc' := 13) rfl ?_
    refine Z_bipush dX3_isWay_13 (v := 101) (by decide) (pc' := 15) rfl ?_
    refine Z_icmp_eq dX3_isWay_15 (tgt := 30) rfl (pc' := 18) rfl (fun c_15 => ?_) (fun c_15 => ?_)
    · refine Z_iconst dX3_isWay_30 (v := 1) (by decide) (pc' := 31) rfl ?_
      refine Z_goto dX3_isWay_31 (tgt := 35) rfl ?_
      exact Z_ireturn dX3_isWay_35 rfl (by first | rfl | exact narrow_zb _) ⟨by unfold isWy; rw [decide_eq_true (Or.inr (Or.inl c_15))]; rfl, rfl⟩
    · refine Z_iload_n dX3_isWay_18 rfl (pc' := 19) rfl ?_
      refine Z_bipush dX3_isWay_19 (v := 115) (by decide) (pc' := 21) rfl ?_
      refine Z_icmp_eq dX3_isWay_21 (tgt := 30) rfl (pc' := 24) rfl (fun c_21 => ?_) (fun c_21 => ?_)
      · refine Z_iconst dX3_isWay_30 (v := 1) (by decide) (pc' := 31) rfl ?_
        refine Z_goto dX3_isWay_31 (tgt := 35) rfl ?_
        exact Z_ireturn dX3_isWay_35 rfl (by first | rfl | exact narrow_zb _) ⟨by unfold isWy; rw [decide_eq_true (Or.inr (Or.inr (Or.inl c_21)))]; rfl, rfl⟩
      · refine Z_iload_n dX3_isWay_24 rfl (pc' := 25) rfl ?_
        refine Z_bipush dX3_isWay_25 (v := 119) (by decide) (pc' := 27) rfl ?_
        refine Z_icmp_ne dX3_isWay_27 (tgt := 34) rfl (pc' := 30) rfl (fun c_27 => ?_) (fun c_27 => ?_)
        · refine Z_iconst dX3_isWay_34 (v := 0) (by decide) (pc' := 35) rfl ?_
          exact Z_ireturn dX3_isWay_35 rfl (by first | rfl | exact narrow_zb _) ⟨by unfold isWy; rw [decide_eq_false (by simp only [not_or]; exact ⟨c_9, c_15, c_21, c_27⟩)]; rfl, rfl⟩
        · refine Z_iconst dX3_isWay_30 (v := 1) (by decide) (pc' := 31) rfl ?_
          refine Z_goto dX3_isWay_31 (tgt := 35) rfl ?_
          exact Z_ireturn dX3_isWay_35 rfl (by first | rfl | exact narrow_zb _) ⟨by unfold isWy; rw [decide_eq_true (Or.inr (Or.inr (Or.inr c_27)))]; rfl, rfl⟩
def fI (xs ys : Nat → Int32) (r a b : Int32) : Bool := decide (r * r ≤ (gI xs 49 0 a - gI xs 49 0 b) * (gI xs 49 0 a - gI xs 49 0 b) + (gI ys 49 0 a - gI ys 49 0 b) * (gI ys 49 0 a - gI ys 49 0 b))
set_option maxRecDepth 100000 in
set_option maxHeartbeats 4000000 in
theorem c_X2_isRodApart {S : ZS} {n b : Nat} (hb : cB b) {i j r : Int32} : zM m_X2_isRodApart 0 0 [.ref b, .int i, .int j, .int r] (zw S n) (zE (some (.int (zb (fI (S.1 (b + 2)) (S.1 (b + 3)) r i j)))) (zw S n)) := by
  show Z m_X2_isRodApart _ _ _ 0 [some (.ref _), some (.int _), some (.int _), some (.int _)] [] _
  refine Z_aload_n dX2_isRodApart_0 rfl (z_isref _) (pc' := 1) rfl ?_
  refine Z_iload_n dX2_isRodApart_1 rfl (pc' := 2) rfl ?_
  refine Z_cVe dX2_isRodApart_2 rfl zcw_X2_xAt (As := [_]) (rest := []) rfl ⟨Nat.le_of_ble_eq_true rfl, Nat.le_of_ble_eq_true rfl⟩ (Nat.le_of_ble_eq_true rfl) (zRcv.lay (zob_b_0 hb)) ⟨zcw_X2_xAt.2.2.2.2, Nat.le_of_ble_eq_true rfl⟩ zk_RX2_42 (c_X2_xAt hb) (pc' := 5) rfl ?_
  refine Z_aload_n dX2_isRodApart_5 rfl (z_isref _) (pc' := 6) rfl ?_
  refine Z_iload_n dX2_isRodApart_6 rfl (pc' := 7) rfl ?_
  refine Z_cVe dX2_isRodApart_7 rfl zcw_X2_xAt (As := [_]) (rest := [_]) rfl ⟨Nat.le_of_ble_eq_true rfl, Nat.le_of_ble_eq_true rfl⟩ (Nat.le_of_ble_eq_true rfl) (zRcv.lay (zob_b_0 hb)) ⟨zcw_X2_xAt.2.2.2.2, Nat.le_of_ble_eq_true rfl⟩ zk_RX2_42 (c_X2_xAt hb) (pc' := 10) rfl ?_
  refine Z_isub dX2_isRodApart_10 (pc' := 11) rfl ?_
  refine Z_istore dX2_isRodApart_11 (Nat.le_of_ble_eq_true rfl) (Nat.le_of_ble_eq_true rfl) rfl (ls' := [_, _, _, _, _]) rfl (pc' := 13) rfl ?_
  refine Z_aload_n dX2_isRodApart_13 rfl (z_isref _) (pc' := 14) rfl ?_
  refine Z_iload_n dX2_isRodApart_14 rfl (pc' := 15) rfl ?_
  refine Z_cVe dX2_isRodApart_15 rfl zcw_X2_yAt (As := [_]) (rest := []) rfl ⟨Nat.le_of_ble_eq_true rfl, Nat.le_of_ble_eq_true rfl⟩ (Nat.le_of_ble_eq_true rfl) (zRcv.lay (zob_b_0 hb)) ⟨zcw_X2_yAt.2.2.2.2, Nat.le_of_ble_eq_true rfl⟩ zk_RX2_46 (c_X2_yAt hb) (pc' := 18) rfl ?_
  refine Z_aload_n dX2_isRodApart_18 rfl (z_isref _) (pc' := 19) rfl ?_
  refine Z_iload_n dX2_isRodApart_19 rfl (pc' := 20) rfl ?_
  refine Z_cVe dX2_isRodApart_20 rfl zcw_X2_yAt (As := [_]) (rest := [_]) rfl ⟨Nat.le_of_ble_eq_true rfl, Nat.le_of_ble_eq_true rfl⟩ (Nat.le_of_ble_eq_true rfl) (zRcv.lay (zob_b_0 hb)) ⟨zcw_X2_yAt.2.2.2.2, Nat.le_of_ble_eq_true rfl⟩ zk_RX2_46 (c_X2_yAt hb) (pc' := 23) rfl ?_
  refine Z_isub dX2_isRodApart_23 (pc' := 24) rfl ?_
  refine Z_istore dX2_isRodApart_24 (Nat.le_of_ble_eq_true rfl) (Nat.le_of_ble_eq_true rfl) rfl (ls' := [_, _, _, _, _, _]) rfl (pc' := 26) rfl ?_
  refine Z_iload dX2_isRodApart_26 rfl (pc' := 28) rfl ?_
  refine Z_iload dX2_isRodApart_28 rfl (pc' := 30) rfl ?_
  refine Z_imul dX2_isRodApart_30 (pc' := 31) rfl ?_
  refine Z_iload dX2_isRodApart_31 rfl (pc' := 33) rfl ?_
  refine Z_iload dX2_isRodApart_33 rfl (pc' := 35) rfl ?_
  refine Z_imul dX2_isRodApart_35 (pc' := 36) rfl ?_
  refine Z_iadd dX2_isRodApart_36 (pc' := 37) rfl ?_
  refine Z_iload_n dX2_isRodApart_37 rfl (pc' := 38) rfl ?_
  refine Z_iload_n dX2_isRodApart_38 rfl (pc' := 39) rfl ?_
  refine Z_imul dX2_isRodApart_39 (pc' := 40) rfl ?_
  refine Z_icmp_lt dX2_isRodApart_40 (tgt := 47) rfl (pc' := 43) rfl (fun c_40 => ?_) (fun c_40 => ?_)
  · refine Z_iconst dX2_isRodApart_47 (v := 0) (by decide) (pc' := 48) rfl ?_
    exact Z_ireturn dX2_isRodApart_48 rfl (by first | rfl | exact narrow_zb _) ⟨by unfold fI; rw [decide_eq_false (Int32.not_le.mpr c_40)]; rfl, rfl⟩
  · refine Z_iconst dX2_isRodApart_43 (v := 1) (by decide) (pc' := 44) rfl ?_
    refine Z_goto dX2_isRodApart_44 (tgt := 48) rfl ?_
    exact Z_ireturn dX2_isRodApart_48 rfl (by first | rfl | exact narrow_zb _) ⟨by unfold fI; rw [decide_eq_true (Int32.not_lt.mp c_40)]; rfl, rfl⟩
set_option maxRecDepth 100000 in
set_option maxHeartbeats 4000000 in
theorem c_X0_wayBy {S : ZS} {n : Nat} {i j : Int32} : zM m_X0_wayBy 0 0 [.ref 19, .int i, .int j] (zw S n) (zE (some (.int (gI (S.1 20) 384 1000000 (i * 6 + j)))) (zw S n)) := by
  show Z m_X0_wayBy _ _ _ 0 [some (.ref _), some (.int _), some (.int _)] [] _
  refine Z_iload_n dX0_wayBy_0 rfl (pc' := 1) rfl ?_
  refine Z_bipush dX0_wayBy_1 (v := 6) (by decide) (pc' := 3) rfl ?_
  refine Z_imul dX0_wayBy_3 (pc' := 4) rfl ?_
  refine Z_iload_n dX0_wayBy_4 rfl (pc' := 5) rfl ?_
  refine Z_iadd dX0_wayBy_5 (pc' := 6) rfl ?_
  refine Z_istore_n dX0_wayBy_6 (Nat.le_of_ble_eq_true rfl) (Nat.le_of_ble_eq_true rfl) rfl (ls' := [_, _, _, _]) rfl (pc' := 7) rfl ?_
  refine Z_iload_n dX0_wayBy_7 rfl (pc' := 8) rfl ?_
  refine Z_if_lt dX0_wayBy_8 (tgt := 20) rfl (pc' := 11) rfl (fun c_8 => ?_) (fun c_8 => ?_)
  · refine Z_ldc dX0_wayBy_20 rfl zw_631 (pc' := 22) rfl ?_
    refine Z_goto dX0_wayBy_22 (tgt := 31) rfl ?_
    exact Z_ireturn dX0_wayBy_31 rfl rfl ⟨by unfold gI; rw [if_pos (Or.inl c_8)], rfl⟩
  · refine Z_iload_n dX0_wayBy_11 rfl (pc' := 12) rfl ?_
    refine Z_aload_n dX0_wayBy_12 rfl (z_isref _) (pc' := 13) rfl ?_
    refine Z_gR dX0_wayBy_13 rfl zgr_RX0_9_19 (pc' := 16) rfl ?_
    refine Z_al dX0_wayBy_16 zar_20 (v := 384) (by decide) (pc' := 17) rfl ?_
    refine Z_icmp_lt dX0_wayBy_17 (tgt := 25) rfl (pc' := 20) rfl (fun c_17 => ?_) (fun c_17 => ?_)
    · refine Z_aload_n dX0_wayBy_25 rfl (z_isref _) (pc' := 26) rfl ?_
      refine Z_gR dX0_wayBy_26 rfl zgr_RX0_9_19 (pc' := 29) rfl ?_
      refine Z_iload_n dX0_wayBy_29 rfl (pc' := 30) rfl ?_
      refine Z_il dX0_wayBy_30 zar_20 (zin_of (by decide) c_8 c_17) (pc' := 31) rfl ?_
      exact Z_ireturn dX0_wayBy_31 rfl rfl ⟨by unfold gI; rw [if_neg (by simp only [not_or]; exact ⟨c_8, Int32.not_le.mpr c_17⟩)], rfl⟩
    · refine Z_ldc dX0_wayBy_20 rfl zw_631 (pc' := 22) rfl ?_
      refine Z_goto dX0_wayBy_22 (tgt := 31) rfl ?_
      exact Z_ireturn dX0_wayBy_31 rfl rfl ⟨by unfold gI; rw [if_pos (Or.inr (Int32.not_lt.mp c_17))], rfl⟩
set_option maxRecDepth 100000 in
set_option maxHeartbeats 4000000 in
theorem c_X11_nextState {z : Int32} {ω : ZW} : zM m_X11_nextState 0 0 [.int z] ω (zE (some (.int (z * 1103515245 + 12345))) ω) := by
  show Z m_X11_nextState _ _ _ 0 [some (.int _)] [] _
  refine Z_iload_n dX11_nextState_0 rfl (pc' := 1) rfl ?_
  refine Z_ldc dX11_nextState_1 rfl zw_688 (pc' := 3) rfl ?_
  refine Z_imul dX11_nextState_3 (pc' := 4) rfl ?_
  refine Z_sipush dX11_nextState_4 (v := 12345) (by decide) (pc' := 7) rfl ?_
  refine Z_iadd dX11_nextState_7 (pc' := 8) rfl ?_
  exact Z_ireturn dX11_nextState_8 rfl rfl ⟨rfl, rfl⟩
def dwI (k z : Int32) : Int32 := ((z &&& 2147483647) >>> ((16 : Int32) &&& 31)) - ((z &&& 2147483647) >>> ((16 : Int32) &&& 31)) / k * k
set_option maxRecDepth 100000 in
set_option maxHeartbeats 4000000 in
theorem c_X11_drawBelow {k z : Int32} (hk : ¬ k < 1) {ω : ZW} : zM m_X11_drawBelow 0 0 [.int k, .int z] ω (zE (some (.int (dwI k z))) ω) := by
  show Z m_X11_drawBelow _ _ _ 0 [some (.int _), some (.int _)] [] _
  refine Z_iload_n dX11_drawBelow_0 rfl (pc' := 1) rfl ?_
  refine Z_iconst dX11_drawBelow_1 (v := 1) (by decide) (pc' := 2) rfl ?_
  refine Z_icmp_ge dX11_drawBelow_2 (tgt := 9) rfl (pc' := 5) rfl (fun c_2 => ?_) (fun c_2 => absurd c_2 (fun h => h (Int32.not_lt.mp hk)))
  refine Z_iload_n dX11_drawBelow_9 rfl (pc' := 10) rfl ?_
  refine Z_ldc dX11_drawBelow_10 rfl zw_692 (pc' := 12) rfl ?_
  refine Z_iand dX11_drawBelow_12 (pc' := 13) rfl ?_
  refine Z_bipush dX11_drawBelow_13 (v := 16) (by decide) (pc' := 15) rfl ?_
  refine Z_ishr dX11_drawBelow_15 (pc' := 16) rfl ?_
  refine Z_iload_n dX11_drawBelow_16 rfl (pc' := 17) rfl ?_
  refine Z_irem dX11_drawBelow_17 (fun h => hk (by rw [h]; decide)) (pc' := 18) rfl ?_
  exact Z_ireturn dX11_drawBelow_18 rfl rfl ⟨rfl, rfl⟩
def wrI (r b : Int32) : Int32 := if r < 1 ∨ b < 0 then -4 else if 9 < r ∨ 9 < b then -6 else 0
set_option maxRecDepth 100000 in
set_option maxHeartbeats 4000000 in
theorem c_X11_walkRefusal {r b : Int32} {ω : ZW} : zM m_X11_walkRefusal 0 0 [.int r, .int b] ω (zE (some (.int (wrI r b))) ω) := by
  show Z m_X11_walkRefusal _ _ _ 0 [some (.int _), some (.int _)] [] _
  refine Z_iload_n dX11_walkRefusal_0 rfl (pc' := 1) rfl ?_
  refine Z_iconst dX11_walkRefusal_1 (v := 1) (by decide) (pc' := 2) rfl ?_
  refine Z_icmp_lt dX11_walkRefusal_2 (tgt := 9) rfl (pc' := 5) rfl (fun c_2 => ?_) (fun c_2 => ?_)
  · refine Z_bipush dX11_walkRefusal_9 (v := (-4)) (by decide) (pc' := 11) rfl ?_
    exact Z_ireturn dX11_walkRefusal_11 rfl rfl ⟨by unfold wrI; rw [if_pos (Or.inl c_2)], rfl⟩
  · refine Z_iload_n dX11_walkRefusal_5 rfl (pc' := 6) rfl ?_
    refine Z_if_ge dX11_walkRefusal_6 (tgt := 12) rfl (pc' := 9) rfl (fun c_6 => ?_) (fun c_6 => ?_)
    · refine Z_iload_n dX11_walkRefusal_12 rfl (pc' := 13) rfl ?_
      refine Z_bipush dX11_walkRefusal_13 (v := 9) (by decide) (pc' := 15) rfl ?_
      refine Z_icmp_gt dX11_walkRefusal_15 (tgt := 24) rfl (pc' := 18) rfl (fun c_15 => ?_) (fun c_15 => ?_)
      · refine Z_bipush dX11_walkRefusal_24 (v := (-6)) (by decide) (pc' := 26) rfl ?_
        refine Z_goto dX11_walkRefusal_26 (tgt := 30) rfl ?_
        exact Z_ireturn dX11_walkRefusal_30 rfl rfl ⟨by unfold wrI; rw [if_neg (by simp only [not_or]; exact ⟨c_2, Int32.not_lt.mpr c_6⟩), if_pos (Or.inl c_15)], rfl⟩
      · refine Z_iload_n dX11_walkRefusal_18 rfl (pc' := 19) rfl ?_
        refine Z_bipush dX11_walkRefusal_19 (v := 9) (by decide) (pc' := 21) rfl ?_
        refine Z_icmp_le dX11_walkRefusal_21 (tgt := 29) rfl (pc' := 24) rfl (fun c_21 => ?_) (fun c_21 => ?_)
        · refine Z_iconst dX11_walkRefusal_29 (v := 0) (by decide) (pc' := 30) rfl ?_
          exact Z_ireturn dX11_walkRefusal_30 rfl rfl ⟨by unfold wrI; rw [if_neg (by simp only [not_or]; exact ⟨c_2, Int32.not_lt.mpr c_6⟩), if_neg (by simp only [not_or]; exact ⟨c_15, Int32.not_lt.mpr c_21⟩)], rfl⟩
        · refine Z_bipush dX11_walkRefusal_24 (v := (-6)) (by decide) (pc' := 26) rfl ?_
          refine Z_goto dX11_walkRefusal_26 (tgt := 30) rfl ?_
          exact Z_ireturn dX11_walkRefusal_30 rfl rfl ⟨by unfold wrI; rw [if_neg (by simp only [not_or]; exact ⟨c_2, Int32.not_lt.mpr c_6⟩), if_pos (Or.inr (Int32.not_le.mp c_21))], rfl⟩
    · refine Z_bipush dX11_walkRefusal_9 (v := (-4)) (by decide) (pc' := 11) rfl ?_
      exact Z_ireturn dX11_walkRefusal_11 rfl rfl ⟨by unfold wrI; rw [if_pos (Or.inr (Int32.not_le.mp c_6))], rfl⟩
set_option maxRecDepth 100000 in
set_option maxHeartbeats 4000000 in
theorem c_X11_rodRefusal {r : Int32} {ω : ZW} : zM m_X11_rodRefusal 0 0 [.int r] ω (zE (some (.int (wrI r 0))) ω) := by
  show Z m_X11_rodRefusal _ _ _ 0 [some (.int _)] [] _
  refine Z_iload_n dX11_rodRefusal_0 rfl (pc' := 1) rfl ?_
  refine Z_iconst dX11_rodRefusal_1 (v := 0) (by decide) (pc' := 2) rfl ?_
  refine Z_cSe dX11_rodRefusal_2 rfl zcw_X11_walkRefusal (As := [_, _]) (rest := []) rfl ⟨Nat.le_of_ble_eq_true rfl, Nat.le_of_ble_eq_true rfl⟩ (Nat.le_of_ble_eq_true rfl) ⟨zcw_X11_walkRefusal.2.2.2.2, Nat.le_of_ble_eq_true rfl⟩ zk_RX11_107 c_X11_walkRefusal (pc' := 5) rfl ?_
  exact Z_ireturn dX11_rodRefusal_5 rfl rfl ⟨rfl, rfl⟩
theorem i32_ne {x k : Int32} (h : ¬ x = k) : x.toInt ≠ k.toInt := fun e => h (Int32.toInt_inj.mp e)
theorem i32_nev {x k : Int32} (h : ¬ x = k) {v : Int} (hv : k.toInt = v) : ¬ v = x.toInt := fun e => h (Int32.toInt_inj.mp (by rw [← e, hv]))
section ZTOP
variable {d : ZD} {kc ks : Nat} {R : Option Value → ZW → Prop} {pc : Nat} {ls : List (Option Value)} {st : List Value} {ω : ZW}
theorem Z_topi {v : Int32} (k : ∀ x : Int32, x = v → Z d kc ks R pc ls (.int x :: st) ω) : Z d kc ks R pc ls (.int v :: st) ω := k v rfl
end ZTOP
theorem nI_inc (p : Nat) : nI p + Int32.ofInt 1 = nI (p + 1) := (nI_succ p).symm
theorem nI_and1 (t : Nat) : nI t &&& 1 = nI (t % 2) := by
  apply Int32.toBitVec_inj.1
  show BitVec.ofNat 32 t &&& 1#32 = BitVec.ofNat 32 (t % 2)
  apply BitVec.eq_of_toNat_eq
  rw [BitVec.toNat_and, BitVec.toNat_ofNat, BitVec.toNat_ofNat, BitVec.toNat_ofNat]
  show (t % 2 ^ 32) &&& 1 = _
  rw [Nat.and_one_is_mod]
  omega
set_option maxRecDepth 100000 in
set_option maxHeartbeats 4000000 in
theorem c_X11_refuse {S : ZS} {n k : Nat} (hk : k < 7) {x : Int32} (hx : -x = nI k) : zM m_X11_refuse 0 0 [.ref 0, .int x] (zw S n) (zE (some (.int x)) (zw (sA S 24 k (S.1 24 k + 1)) n)) := by
  show Z m_X11_refuse _ _ _ 0 [some (.ref _), some (.int _)] [] _
  refine Z_iload_n dX11_refuse_0 rfl (pc' := 1) rfl ?_
  refine Z_ineg dX11_refuse_1 (pc' := 2) rfl ?_
  refine Z_istore_n dX11_refuse_2 (Nat.le_of_ble_eq_true rfl) (Nat.le_of_ble_eq_true rfl) rfl (ls' := [_, _, _]) rfl (pc' := 3) rfl ?_
  refine Z_iload_n dX11_refuse_3 rfl (pc' := 4) rfl ?_
  refine Z_if_lt dX11_refuse_4 (tgt := 26) rfl (pc' := 7) rfl (fun c_4 => absurd c_4 (by rw [hx]; exact nI_neg (by omega))) (fun c_4 => ?_)
  refine Z_iload_n dX11_refuse_7 rfl (pc' := 8) rfl ?_
  refine Z_aload_n dX11_refuse_8 rfl (z_isref _) (pc' := 9) rfl ?_
  refine Z_gR dX11_refuse_9 rfl zgr_RX11_40_0 (pc' := 12) rfl ?_
  refine Z_al dX11_refuse_12 zar_24 (v := 7) (by decide) (pc' := 13) rfl ?_
  refine Z_icmp_ge dX11_refuse_13 (tgt := 26) rfl (pc' := 16) rfl (fun c_13 => absurd c_13 (by rw [hx, show (7 : Int32) = nI 7 from rfl, nI_len (by omega) (by omega)]; omega)) (fun c_13 => ?_)
  refine Z_aload_n dX11_refuse_16 rfl (z_isref _) (pc' := 17) rfl ?_
  refine Z_gR dX11_refuse_17 rfl zgr_RX11_40_0 (pc' := 20) rfl ?_
  refine Z_iload_n dX11_refuse_20 rfl (pc' := 21) rfl ?_
  refine Z_dup2 dX11_refuse_21 rfl rfl (pc' := 22) rfl ?_
  refine Z_il dX11_refuse_22 zar_24 (by rw [hx]; exact zin hk (by decide)) (pc' := 23) rfl ?_
  refine Z_iconst dX11_refuse_23 (v := 1) (by decide) (pc' := 24) rfl ?_
  refine Z_iadd dX11_refuse_24 (pc' := 25) rfl ?_
  refine Z_is dX11_refuse_25 zar_24 (by rw [hx]; exact zin hk (by decide)) (pc' := 26) rfl ?_
  refine Z_iload_n dX11_refuse_26 rfl (pc' := 27) rfl ?_
  exact Z_ireturn dX11_refuse_27 rfl rfl ⟨rfl, by rw [hx, nI_nat (by omega)]⟩
def roI (f : Nat → Int32) (i : Int32) : Int32 := if i < 1 ∨ 7 ≤ i then -9 else f i.toNatClampNeg
set_option maxRecDepth 100000 in
set_option maxHeartbeats 4000000 in
theorem c_X11_refusalsOf {S : ZS} {n : Nat} {i : Int32} : zM m_X11_refusalsOf 0 0 [.ref 0, .int i] (zw S n) (zE (some (.int (roI (S.1 24) i))) (zw S n)) := by
  show Z m_X11_refusalsOf _ _ _ 0 [some (.ref _), some (.int _)] [] _
  refine Z_iload_n dX11_refusalsOf_0 rfl (pc' := 1) rfl ?_
  refine Z_iconst dX11_refusalsOf_1 (v := 1) (by decide) (pc' := 2) rfl ?_
  refine Z_icmp_lt dX11_refusalsOf_2 (tgt := 14) rfl (pc' := 5) rfl (fun c_2 => ?_) (fun c_2 => ?_)
  · refine Z_bipush dX11_refusalsOf_14 (v := (-9)) (by decide) (pc' := 16) rfl ?_
    exact Z_ireturn dX11_refusalsOf_16 rfl rfl ⟨by unfold roI; rw [if_pos (Or.inl c_2)], rfl⟩
  · refine Z_iload_n dX11_refusalsOf_5 rfl (pc' := 6) rfl ?_
    refine Z_aload_n dX11_refusalsOf_6 rfl (z_isref _) (pc' := 7) rfl ?_
    refine Z_gR dX11_refusalsOf_7 rfl zgr_RX11_40_0 (pc' := 10) rfl ?_
    refine Z_al dX11_refusalsOf_10 zar_24 (v := 7) (by decide) (pc' := 11) rfl ?_
    refine Z_icmp_lt dX11_refusalsOf_11 (tgt := 17) rfl (pc' := 14) rfl (fun c_11 => ?_) (fun c_11 => ?_)
    · refine Z_aload_n dX11_refusalsOf_17 rfl (z_isref _) (pc' := 18) rfl ?_
      refine Z_gR dX11_refusalsOf_18 rfl zgr_RX11_40_0 (pc' := 21) rfl ?_
      refine Z_iload_n dX11_refusalsOf_21 rfl (pc' := 22) rfl ?_
      refine Z_il dX11_refusalsOf_22 zar_24 (zin_of (by decide) (fun h => c_2 (Int32.lt_trans h (by decide))) c_11) (pc' := 23) rfl ?_
      exact Z_ireturn dX11_refusalsOf_23 rfl rfl ⟨by unfold roI; rw [if_neg (by simp only [not_or]; exact ⟨c_2, Int32.not_le.mpr c_11⟩)], rfl⟩
    · refine Z_bipush dX11_refusalsOf_14 (v := (-9)) (by decide) (pc' := 16) rfl ?_
      exact Z_ireturn dX11_refusalsOf_16 rfl rfl ⟨by unfold roI; rw [if_pos (Or.inr (Int32.not_lt.mp c_11))], rfl⟩
def doI (x : Int32) : Int32 := if x = 99 then 2 else if x = 114 then 6 else if x = 116 then 1 else -1
set_option maxRecDepth 100000 in
set_option maxHeartbeats 4000000 in
theorem c_X3_digitsOf {x : Int32} {ω : ZW} : zM m_X3_digitsOf 0 0 [.int x] ω (zE (some (.int (doI x))) ω) := by
  show Z m_X3_digitsOf _ _ _ 0 [some (.int _)] [] _
  refine Z_iload_n dX3_digitsOf_0 rfl (pc' := 1) rfl ?_
  refine Z_topi (fun x_1 e_1 => ?_)
  by_cases k_1_99 : x_1 = 99
  · subst k_1_99
    refine Z_lookup dX3_digitsOf_1 (by decide) (off := 35) (by decide) (tgt := 36) rfl ?_
    refine Z_iconst dX3_digitsOf_36 (v := 2) (by decide) (pc' := 37) rfl ?_
    exact Z_ireturn dX3_digitsOf_37 rfl rfl ⟨by rw [← e_1]; rfl, rfl⟩
  by_cases k_1_114 : x_1 = 114
  · subst k_1_114
    refine Z_lookup dX3_digitsOf_1 (by decide) (off := 37) (by decide) (tgt := 38) rfl ?_
    refine Z_bipush dX3_digitsOf_38 (v := 6) (by decide) (pc' := 40) rfl ?_
    exact Z_ireturn dX3_digitsOf_40 rfl rfl ⟨by rw [← e_1]; rfl, rfl⟩
  by_cases k_1_116 : x_1 = 116
  · subst k_1_116
    refine Z_lookup dX3_digitsOf_1 (by decide) (off := 40) (by decide) (tgt := 41) rfl ?_
    refine Z_iconst dX3_digitsOf_41 (v := 1) (by decide) (pc' := 42) rfl ?_
    exact Z_ireturn dX3_digitsOf_42 rfl rfl ⟨by rw [← e_1]; rfl, rfl⟩
  refine Z_lookup dX3_digitsOf_1 (by decide) (off := 42) (by simp [Op.lookupswitch.offset, i32_nev k_1_99 (v := 99) (by decide), i32_nev k_1_114 (v := 114) (by decide), i32_nev k_1_116 (v := 116) (by decide)]) (tgt := 43) rfl ?_
  refine Z_iconst dX3_digitsOf_43 (v := (-1)) (by decide) (pc' := 44) rfl ?_
  exact Z_ireturn dX3_digitsOf_44 rfl rfl ⟨by rw [← e_1]; simp [doI, k_1_99, k_1_114, k_1_116], rfl⟩
set_option maxRecDepth 100000 in
set_option maxHeartbeats 4000000 in
theorem c_X6_isIsland {S : ZS} {n j t lo hi : Nat} {x y : Int32} (ht : t < 2147483648) (hlo : lo < 2147483648) (hhi : hi < 2147483648) (hj : j < n) (hP : S.2.2 j = (6, [x, y, nI lo, nI hi])) : zM m_X6_isIsland 0 0 [.ref (48 + j), .int (nI t)] (zw S n) (zE (some (.int (zb (decide (lo ≤ t) && decide (t ≤ hi))))) (zw S n)) := by
  show Z m_X6_isIsland _ _ _ 0 [some (.ref _), some (.int _)] [] _
  refine Z_iload_n dX6_isIsland_0 rfl (pc' := 1) rfl ?_
  refine Z_aload_n dX6_isIsland_1 rfl (z_isref _) (pc' := 2) rfl ?_
  refine Z_gP dX6_isIsland_2 rfl zfd_RX6_16_6 hj hP rfl (pc' := 5) rfl ?_
  refine Z_icmp_lt dX6_isIsland_5 (tgt := 20) rfl (pc' := 8) rfl (fun c_5 => ?_) (fun c_5 => ?_)
  · refine Z_iconst dX6_isIsland_20 (v := 0) (by decide) (pc' := 21) rfl ?_
    exact Z_ireturn dX6_isIsland_21 rfl (by first | rfl | exact narrow_zb _) ⟨by rw [decide_eq_false (by rw [nI_ltn ht hlo] at c_5; omega)]; rfl, rfl⟩
  · refine Z_iload_n dX6_isIsland_8 rfl (pc' := 9) rfl ?_
    refine Z_aload_n dX6_isIsland_9 rfl (z_isref _) (pc' := 10) rfl ?_
    refine Z_gP dX6_isIsland_10 rfl zfd_RX6_19_6 hj hP rfl (pc' := 13) rfl ?_
    refine Z_icmp_gt dX6_isIsland_13 (tgt := 20) rfl (pc' := 16) rfl (fun c_13 => ?_) (fun c_13 => ?_)
    · refine Z_iconst dX6_isIsland_20 (v := 0) (by decide) (pc' := 21) rfl ?_
      exact Z_ireturn dX6_isIsland_21 rfl (by first | rfl | exact narrow_zb _) ⟨by rw [decide_eq_false (p := t ≤ hi) (by rw [nI_ltn hhi ht] at c_13; omega), Bool.and_false]; rfl, rfl⟩
    · refine Z_iconst dX6_isIsland_16 (v := 1) (by decide) (pc' := 17) rfl ?_
      refine Z_goto dX6_isIsland_17 (tgt := 21) rfl ?_
      exact Z_ireturn dX6_isIsland_21 rfl (by first | rfl | exact narrow_zb _) ⟨by rw [decide_eq_true (by rw [nI_ltn ht hlo] at c_5; omega), decide_eq_true (by rw [nI_ltn hhi ht] at c_13; omega)]; rfl, rfl⟩
/-- the class of a stretch's kind -/
def zcl (kd : Nat) : Nat := match kd with
  | 0 => 9
  | 1 => 8
  | 2 => 5
  | 3 => 1
  | 4 => 4
  | _ => 10
def dryN (kd fg t : Nat) : Bool := match kd with
  | 0 => true
  | 1 => decide (t ≤ fg)
  | 2 => false
  | 3 => true
  | 4 => decide (t ≤ fg) && decide (t % 2 = 0)
  | _ => !decide (t = fg)
def feeN (kd fg : Nat) : Nat := match kd with
  | 0 => 1
  | 1 => 2
  | 2 => 0
  | 3 => 1 + fg
  | 4 => 4
  | _ => fg
set_option maxRecDepth 100000 in
set_option maxHeartbeats 4000000 in
theorem c_X9_kind {o : Nat} {ω : ZW} : zM m_X9_kind 0 0 [.ref o] ω (zE (some (.int 0)) ω) := by
  show Z m_X9_kind _ _ _ 0 [some (.ref _)] [] _
  refine Z_iconst dX9_kind_0 (v := 0) (by decide) (pc' := 1) rfl ?_
  exact Z_ireturn dX9_kind_1 rfl rfl ⟨rfl, rfl⟩
set_option maxRecDepth 100000 in
set_option maxHeartbeats 4000000 in
theorem c_X8_kind {o : Nat} {ω : ZW} : zM m_X8_kind 0 0 [.ref o] ω (zE (some (.int 1)) ω) := by
  show Z m_X8_kind _ _ _ 0 [some (.ref _)] [] _
  refine Z_iconst dX8_kind_0 (v := 1) (by decide) (pc' := 1) rfl ?_
  exact Z_ireturn dX8_kind_1 rfl rfl ⟨rfl, rfl⟩
set_option maxRecDepth 100000 in
set_option maxHeartbeats 4000000 in
theorem c_X5_kind {o : Nat} {ω : ZW} : zM m_X5_kind 0 0 [.ref o] ω (zE (some (.int 2)) ω) := by
  show Z m_X5_kind _ _ _ 0 [some (.ref _)] [] _
  refine Z_iconst dX5_kind_0 (v := 2) (by decide) (pc' := 1) rfl ?_
  exact Z_ireturn dX5_kind_1 rfl rfl ⟨rfl, rfl⟩
set_option maxRecDepth 100000 in
set_option maxHeartbeats 4000000 in
theorem c_X1_kind {o : Nat} {ω : ZW} : zM m_X1_kind 0 0 [.ref o] ω (zE (some (.int 3)) ω) := by
  show Z m_X1_kind _ _ _ 0 [some (.ref _)] [] _
  refine Z_iconst dX1_kind_0 (v := 3) (by decide) (pc' := 1) rfl ?_
  exact Z_ireturn dX1_kind_1 rfl rfl ⟨rfl, rfl⟩
set_option maxRecDepth 100000 in
set_option maxHeartbeats 4000000 in
theorem c_X4_kind {o : Nat} {ω : ZW} : zM m_X4_kind 0 0 [.ref o] ω (zE (some (.int 4)) ω) := by
  show Z m_X4_kind _ _ _ 0 [some (.ref _)] [] _
  refine Z_iconst dX4_kind_0 (v := 4) (by decide) (pc' := 1) rfl ?_
  exact Z_ireturn dX4_kind_1 rfl rfl ⟨rfl, rfl⟩
set_option maxRecDepth 100000 in
set_option maxHeartbeats 4000000 in
theorem c_X10_kind {o : Nat} {ω : ZW} : zM m_X10_kind 0 0 [.ref o] ω (zE (some (.int 5)) ω) := by
  show Z m_X10_kind _ _ _ 0 [some (.ref _)] [] _
  refine Z_iconst dX10_kind_0 (v := 5) (by decide) (pc' := 1) rfl ?_
  exact Z_ireturn dX10_kind_1 rfl rfl ⟨rfl, rfl⟩
set_option maxRecDepth 100000 in
set_option maxHeartbeats 4000000 in
theorem c_X9_isDry {o : Nat} {t : Int32} {ω : ZW} : zM m_X9_isDry 0 0 [.ref o, .int t] ω (zE (some (.int (zb true))) ω) := by
  show Z m_X9_isDry _ _ _ 0 [some (.ref _), some (.int _)] [] _
  refine Z_iconst dX9_isDry_0 (v := 1) (by decide) (pc' := 1) rfl ?_
  exact Z_ireturn dX9_isDry_1 rfl (by first | rfl | exact narrow_zb _) ⟨rfl, rfl⟩
set_option maxRecDepth 100000 in
set_option maxHeartbeats 4000000 in
theorem c_X5_isDry {o : Nat} {t : Int32} {ω : ZW} : zM m_X5_isDry 0 0 [.ref o, .int t] ω (zE (some (.int (zb false))) ω) := by
  show Z m_X5_isDry _ _ _ 0 [some (.ref _), some (.int _)] [] _
  refine Z_iconst dX5_isDry_0 (v := 0) (by decide) (pc' := 1) rfl ?_
  exact Z_ireturn dX5_isDry_1 rfl (by first | rfl | exact narrow_zb _) ⟨rfl, rfl⟩
set_option maxRecDepth 100000 in
set_option maxHeartbeats 4000000 in
theorem c_X8_isDry_8 {S : ZS} {n j fg : Nat} {a b : Int32} (hfg : fg < 2147483648) (hj : j < n) (hP : S.2.2 j = (8, [nI fg, a, b])) {t : Nat} (ht : t < 2147483648) : zM m_X8_isDry 0 0 [.ref (48 + j), .int (nI t)] (zw S n) (zE (some (.int (zb (decide (t ≤ fg))))) (zw S n)) := by
  show Z m_X8_isDry _ _ _ 0 [some (.ref _), some (.int _)] [] _
  refine Z_iload_n dX8_isDry_0 rfl (pc' := 1) rfl ?_
  refine Z_aload_n dX8_isDry_1 rfl (z_isref _) (pc' := 2) rfl ?_
  refine Z_gP dX8_isDry_2 rfl zfd_RX8_7_8 hj hP rfl (pc' := 5) rfl ?_
  refine Z_icmp_gt dX8_isDry_5 (tgt := 12) rfl (pc' := 8) rfl (fun c_5 => ?_) (fun c_5 => ?_)
  · refine Z_iconst dX8_isDry_12 (v := 0) (by decide) (pc' := 13) rfl ?_
    exact Z_ireturn dX8_isDry_13 rfl (by first | rfl | exact narrow_zb _) ⟨by rw [decide_eq_false (by rw [nI_ltn hfg ht] at c_5; omega)]; rfl, rfl⟩
  · refine Z_iconst dX8_isDry_8 (v := 1) (by decide) (pc' := 9) rfl ?_
    refine Z_goto dX8_isDry_9 (tgt := 13) rfl ?_
    exact Z_ireturn dX8_isDry_13 rfl (by first | rfl | exact narrow_zb _) ⟨by rw [decide_eq_true (by rw [nI_ltn hfg ht] at c_5; omega)]; rfl, rfl⟩
set_option maxRecDepth 100000 in
set_option maxHeartbeats 4000000 in
theorem c_X8_isDry_4 {S : ZS} {n j fg : Nat} {a b : Int32} (hfg : fg < 2147483648) (hj : j < n) (hP : S.2.2 j = (4, [nI fg, a, b])) {t : Nat} (ht : t < 2147483648) : zM m_X8_isDry 0 0 [.ref (48 + j), .int (nI t)] (zw S n) (zE (some (.int (zb (decide (t ≤ fg))))) (zw S n)) := by
  show Z m_X8_isDry _ _ _ 0 [some (.ref _), some (.int _)] [] _
  refine Z_iload_n dX8_isDry_0 rfl (pc' := 1) rfl ?_
  refine Z_aload_n dX8_isDry_1 rfl (z_isref _) (pc' := 2) rfl ?_
  refine Z_gP dX8_isDry_2 rfl zfd_RX8_7_4 hj hP rfl (pc' := 5) rfl ?_
  refine Z_icmp_gt dX8_isDry_5 (tgt := 12) rfl (pc' := 8) rfl (fun c_5 => ?_) (fun c_5 => ?_)
  · refine Z_iconst dX8_isDry_12 (v := 0) (by decide) (pc' := 13) rfl ?_
    exact Z_ireturn dX8_isDry_13 rfl (by first | rfl | exact narrow_zb _) ⟨by rw [decide_eq_false (by rw [nI_ltn hfg ht] at c_5; omega)]; rfl, rfl⟩
  · refine Z_iconst dX8_isDry_8 (v := 1) (by decide) (pc' := 9) rfl ?_
    refine Z_goto dX8_isDry_9 (tgt := 13) rfl ?_
    exact Z_ireturn dX8_isDry_13 rfl (by first | rfl | exact narrow_zb _) ⟨by rw [decide_eq_true (by rw [nI_ltn hfg ht] at c_5; omega)]; rfl, rfl⟩
set_option maxRecDepth 100000 in
set_option maxHeartbeats 4000000 in
theorem c_X4_isDry {S : ZS} {n j fg : Nat} {a b : Int32} (hfg : fg < 2147483648) (hj : j < n) (hP : S.2.2 j = (4, [nI fg, a, b])) {t : Nat} (ht : t < 2147483648) : zM m_X4_isDry 0 0 [.ref (48 + j), .int (nI t)] (zw S n) (zE (some (.int (zb (dryN 4 fg t)))) (zw S n)) := by
  show Z m_X4_isDry _ _ _ 0 [some (.ref _), some (.int _)] [] _
  refine Z_aload_n dX4_isDry_0 rfl (z_isref _) (pc' := 1) rfl ?_
  refine Z_iload_n dX4_isDry_1 rfl (pc' := 2) rfl ?_
  refine Z_cUe dX4_isDry_2 rfl zcw_X8_isDry (As := [_]) (rest := []) rfl ⟨Nat.le_of_ble_eq_true rfl, Nat.le_of_ble_eq_true rfl⟩ (Nat.le_of_ble_eq_true rfl) (zRcv.made hj hP (r := (RX4, TX4, 3)) rfl) (by decide) ⟨zcw_X8_isDry.2.2.2.2, Nat.le_of_ble_eq_true rfl⟩ zk_RX4_7 (c_X8_isDry_4 hfg hj hP ht) (pc' := 5) rfl ?_
  refine Z_if_eq dX4_isDry_5 (tgt := 18) rfl (pc' := 8) rfl (fun c_5 => ?_) (fun c_5 => ?_)
  · refine Z_iconst dX4_isDry_18 (v := 0) (by decide) (pc' := 19) rfl ?_
    exact Z_ireturn dX4_isDry_19 rfl (by first | rfl | exact narrow_zb _) ⟨by unfold dryN; rw [(zb_eq0 _).mp c_5]; rfl, rfl⟩
  · refine Z_iload_n dX4_isDry_8 rfl (pc' := 9) rfl ?_
    refine Z_iconst dX4_isDry_9 (v := 1) (by decide) (pc' := 10) rfl ?_
    refine Z_iand dX4_isDry_10 (pc' := 11) rfl ?_
    refine Z_if_ne dX4_isDry_11 (tgt := 18) rfl (pc' := 14) rfl (fun c_11 => ?_) (fun c_11 => ?_)
    · refine Z_iconst dX4_isDry_18 (v := 0) (by decide) (pc' := 19) rfl ?_
      exact Z_ireturn dX4_isDry_19 rfl (by first | rfl | exact narrow_zb _) ⟨by unfold dryN; rw [decide_eq_false (p := t % 2 = 0) (fun h => c_11 (by rw [nI_and1, h]; rfl)), Bool.and_false]; rfl, rfl⟩
    · refine Z_iconst dX4_isDry_14 (v := 1) (by decide) (pc' := 15) rfl ?_
      refine Z_goto dX4_isDry_15 (tgt := 19) rfl ?_
      exact Z_ireturn dX4_isDry_19 rfl (by first | rfl | exact narrow_zb _) ⟨by unfold dryN; rw [(zb_ne0 _).mp c_5, decide_eq_true (by rw [nI_and1, show (0 : Int32) = nI 0 from rfl, nI_eqn (by omega) (by omega)] at c_11; exact c_11)]; rfl, rfl⟩
set_option maxRecDepth 100000 in
set_option maxHeartbeats 4000000 in
theorem c_X10_isDry {S : ZS} {n j fg : Nat} {a b : Int32} (hfg : fg < 2147483648) (hj : j < n) (hP : S.2.2 j = (10, [nI fg, a, b])) {t : Nat} (ht : t < 2147483648) : zM m_X10_isDry 0 0 [.ref (48 + j), .int (nI t)] (zw S n) (zE (some (.int (zb (dryN 5 fg t)))) (zw S n)) := by
  show Z m_X10_isDry _ _ _ 0 [some (.ref _), some (.int _)] [] _
  refine Z_aload_n dX10_isDry_0 rfl (z_isref _) (pc' := 1) rfl ?_
  refine Z_iload_n dX10_isDry_1 rfl (pc' := 2) rfl ?_
  refine Z_superUp (kc := 0) (ks := 0) (kc' := 0) (ks' := 0) dX10_isDry_2 rfl zcw_X9_isDry (As := [_]) (rest := []) rfl ⟨Nat.le_of_ble_eq_true rfl, Nat.le_of_ble_eq_true rfl⟩ (Nat.le_of_ble_eq_true rfl) (show 48 + j < (zw S n).2 ∧ (zw S n).1 (48 + j) = _ ∧ vwCl[10]? = some (RX10, TX10, 3) from ⟨by show 48 + j < 48 + n; omega, zW_hi.trans (by rw [hP]), rfl⟩) (x := "PaidByCoast$Cliff") (up := "PaidByCoast$Shore") (nm := "isDry") (ds := "(I)Z") rfl ⟨zcw_X9_isDry.2.2.2.2, Nat.le_of_ble_eq_true rfl⟩ zk_RX10_7.1 zk_RX10_7.2.1 zk_RX10_7.2.2.1 zk_RX10_7.2.2.2.1 zk_RX10_7.2.2.2.2 (by decide) c_X9_isDry (pc' := 5) rfl (fun r ω' h => ?_)
  obtain ⟨rfl, rfl⟩ := h
  show Z _ _ _ _ _ _ (.int (zb true) :: []) _
  refine Z_if_eq dX10_isDry_5 (tgt := 20) rfl (pc' := 8) rfl (fun c_5 => absurd c_5 (by decide)) (fun c_5 => ?_)
  refine Z_iload_n dX10_isDry_8 rfl (pc' := 9) rfl ?_
  refine Z_aload_n dX10_isDry_9 rfl (z_isref _) (pc' := 10) rfl ?_
  refine Z_gP dX10_isDry_10 rfl zfd_RX10_11_10 hj hP rfl (pc' := 13) rfl ?_
  refine Z_icmp_eq dX10_isDry_13 (tgt := 20) rfl (pc' := 16) rfl (fun c_13 => ?_) (fun c_13 => ?_)
  · refine Z_iconst dX10_isDry_20 (v := 0) (by decide) (pc' := 21) rfl ?_
    exact Z_ireturn dX10_isDry_21 rfl (by first | rfl | exact narrow_zb _) ⟨by unfold dryN; rw [decide_eq_true ((nI_eqn ht hfg).mp c_13)]; rfl, rfl⟩
  · refine Z_iconst dX10_isDry_16 (v := 1) (by decide) (pc' := 17) rfl ?_
    refine Z_goto dX10_isDry_17 (tgt := 21) rfl ?_
    exact Z_ireturn dX10_isDry_21 rfl (by first | rfl | exact narrow_zb _) ⟨by unfold dryN; rw [decide_eq_false (p := t = fg) (fun h => c_13 (by rw [h]))]; rfl, rfl⟩
set_option maxRecDepth 100000 in
set_option maxHeartbeats 4000000 in
theorem c_X9_fee {o : Nat} {ω : ZW} : zM m_X9_fee 0 0 [.ref o] ω (zE (some (.int 1)) ω) := by
  show Z m_X9_fee _ _ _ 0 [some (.ref _)] [] _
  refine Z_iconst dX9_fee_0 (v := 1) (by decide) (pc' := 1) rfl ?_
  exact Z_ireturn dX9_fee_1 rfl rfl ⟨rfl, rfl⟩
set_option maxRecDepth 100000 in
set_option maxHeartbeats 4000000 in
theorem c_X5_fee {o : Nat} {ω : ZW} : zM m_X5_fee 0 0 [.ref o] ω (zE (some (.int 0)) ω) := by
  show Z m_X5_fee _ _ _ 0 [some (.ref _)] [] _
  refine Z_iconst dX5_fee_0 (v := 0) (by decide) (pc' := 1) rfl ?_
  exact Z_ireturn dX5_fee_1 rfl rfl ⟨rfl, rfl⟩
set_option maxRecDepth 100000 in
set_option maxHeartbeats 4000000 in
theorem c_X8_fee_8 {S : ZS} {n j fg : Nat} {a b : Int32} (hfg : fg < 2147483648) (hj : j < n) (hP : S.2.2 j = (8, [nI fg, a, b])) : zM m_X8_fee 0 0 [.ref (48 + j)] (zw S n) (zE (some (.int 2)) (zw S n)) := by
  show Z m_X8_fee _ _ _ 0 [some (.ref _)] [] _
  refine Z_aload_n dX8_fee_0 rfl (z_isref _) (pc' := 1) rfl ?_
  refine Z_cUe dX8_fee_1 rfl zcw_X9_fee (As := []) (rest := []) rfl ⟨Nat.le_of_ble_eq_true rfl, Nat.le_of_ble_eq_true rfl⟩ (Nat.le_of_ble_eq_true rfl) (zRcv.made hj hP (r := (RX8, TX8, 3)) rfl) (by decide) ⟨zcw_X9_fee.2.2.2.2, Nat.le_of_ble_eq_true rfl⟩ zk_RX8_13 c_X9_fee (pc' := 4) rfl ?_
  refine Z_iconst dX8_fee_4 (v := 1) (by decide) (pc' := 5) rfl ?_
  refine Z_iadd dX8_fee_5 (pc' := 6) rfl ?_
  exact Z_ireturn dX8_fee_6 rfl rfl ⟨rfl, rfl⟩
set_option maxRecDepth 100000 in
set_option maxHeartbeats 4000000 in
theorem c_X8_fee_4 {S : ZS} {n j fg : Nat} {a b : Int32} (hfg : fg < 2147483648) (hj : j < n) (hP : S.2.2 j = (4, [nI fg, a, b])) : zM m_X8_fee 0 0 [.ref (48 + j)] (zw S n) (zE (some (.int 2)) (zw S n)) := by
  show Z m_X8_fee _ _ _ 0 [some (.ref _)] [] _
  refine Z_aload_n dX8_fee_0 rfl (z_isref _) (pc' := 1) rfl ?_
  refine Z_cUe dX8_fee_1 rfl zcw_X9_fee (As := []) (rest := []) rfl ⟨Nat.le_of_ble_eq_true rfl, Nat.le_of_ble_eq_true rfl⟩ (Nat.le_of_ble_eq_true rfl) (zRcv.made hj hP (r := (RX4, TX4, 3)) rfl) (by decide) ⟨zcw_X9_fee.2.2.2.2, Nat.le_of_ble_eq_true rfl⟩ zk_RX8_13 c_X9_fee (pc' := 4) rfl ?_
  refine Z_iconst dX8_fee_4 (v := 1) (by decide) (pc' := 5) rfl ?_
  refine Z_iadd dX8_fee_5 (pc' := 6) rfl ?_
  exact Z_ireturn dX8_fee_6 rfl rfl ⟨rfl, rfl⟩
set_option maxRecDepth 100000 in
set_option maxHeartbeats 4000000 in
theorem c_X1_fee_1 {S : ZS} {n j fg : Nat} {a b : Int32} (hfg : fg < 2147483648) (hj : j < n) (hP : S.2.2 j = (1, [nI fg, a, b])) : zM m_X1_fee 0 0 [.ref (48 + j)] (zw S n) (zE (some (.int (1 + nI fg))) (zw S n)) := by
  show Z m_X1_fee _ _ _ 0 [some (.ref _)] [] _
  refine Z_aload_n dX1_fee_0 rfl (z_isref _) (pc' := 1) rfl ?_
  refine Z_cUe dX1_fee_1 rfl zcw_X9_fee (As := []) (rest := []) rfl ⟨Nat.le_of_ble_eq_true rfl, Nat.le_of_ble_eq_true rfl⟩ (Nat.le_of_ble_eq_true rfl) (zRcv.made hj hP (r := (RX1, TX1, 3)) rfl) (by decide) ⟨zcw_X9_fee.2.2.2.2, Nat.le_of_ble_eq_true rfl⟩ zk_RX1_7 c_X9_fee (pc' := 4) rfl ?_
  refine Z_aload_n dX1_fee_4 rfl (z_isref _) (pc' := 5) rfl ?_
  refine Z_gP dX1_fee_5 rfl zfd_RX1_11_1 hj hP rfl (pc' := 8) rfl ?_
  refine Z_iadd dX1_fee_8 (pc' := 9) rfl ?_
  exact Z_ireturn dX1_fee_9 rfl rfl ⟨rfl, rfl⟩
set_option maxRecDepth 100000 in
set_option maxHeartbeats 4000000 in
theorem c_X1_fee_10 {S : ZS} {n j fg : Nat} {a b : Int32} (hfg : fg < 2147483648) (hj : j < n) (hP : S.2.2 j = (10, [nI fg, a, b])) : zM m_X1_fee 0 0 [.ref (48 + j)] (zw S n) (zE (some (.int (1 + nI fg))) (zw S n)) := by
  show Z m_X1_fee _ _ _ 0 [some (.ref _)] [] _
  refine Z_aload_n dX1_fee_0 rfl (z_isref _) (pc' := 1) rfl ?_
  refine Z_cUe dX1_fee_1 rfl zcw_X9_fee (As := []) (rest := []) rfl ⟨Nat.le_of_ble_eq_true rfl, Nat.le_of_ble_eq_true rfl⟩ (Nat.le_of_ble_eq_true rfl) (zRcv.made hj hP (r := (RX10, TX10, 3)) rfl) (by decide) ⟨zcw_X9_fee.2.2.2.2, Nat.le_of_ble_eq_true rfl⟩ zk_RX1_7 c_X9_fee (pc' := 4) rfl ?_
  refine Z_aload_n dX1_fee_4 rfl (z_isref _) (pc' := 5) rfl ?_
  refine Z_gP dX1_fee_5 rfl zfd_RX1_11_10 hj hP rfl (pc' := 8) rfl ?_
  refine Z_iadd dX1_fee_8 (pc' := 9) rfl ?_
  exact Z_ireturn dX1_fee_9 rfl rfl ⟨rfl, rfl⟩
set_option maxRecDepth 100000 in
set_option maxHeartbeats 4000000 in
theorem c_X4_fee {S : ZS} {n j fg : Nat} {a b : Int32} (hfg : fg < 2147483648) (hj : j < n) (hP : S.2.2 j = (4, [nI fg, a, b])) : zM m_X4_fee 0 0 [.ref (48 + j)] (zw S n) (zE (some (.int 4)) (zw S n)) := by
  show Z m_X4_fee _ _ _ 0 [some (.ref _)] [] _
  refine Z_iconst dX4_fee_0 (v := 2) (by decide) (pc' := 1) rfl ?_
  refine Z_aload_n dX4_fee_1 rfl (z_isref _) (pc' := 2) rfl ?_
  refine Z_cUe dX4_fee_2 rfl zcw_X8_fee (As := []) (rest := [_]) rfl ⟨Nat.le_of_ble_eq_true rfl, Nat.le_of_ble_eq_true rfl⟩ (Nat.le_of_ble_eq_true rfl) (zRcv.made hj hP (r := (RX4, TX4, 3)) rfl) (by decide) ⟨zcw_X8_fee.2.2.2.2, Nat.le_of_ble_eq_true rfl⟩ zk_RX4_11 (c_X8_fee_4 hfg hj hP) (pc' := 5) rfl ?_
  refine Z_imul dX4_fee_5 (pc' := 6) rfl ?_
  exact Z_ireturn dX4_fee_6 rfl rfl ⟨rfl, rfl⟩
set_option maxRecDepth 100000 in
set_option maxHeartbeats 4000000 in
theorem c_X10_fee {S : ZS} {n j fg : Nat} {a b : Int32} (hfg : fg < 2147483648) (hj : j < n) (hP : S.2.2 j = (10, [nI fg, a, b])) : zM m_X10_fee 0 0 [.ref (48 + j)] (zw S n) (zE (some (.int (nI fg))) (zw S n)) := by
  show Z m_X10_fee _ _ _ 0 [some (.ref _)] [] _
  refine Z_aload_n dX10_fee_0 rfl (z_isref _) (pc' := 1) rfl ?_
  refine Z_cUe dX10_fee_1 rfl zcw_X1_fee (As := []) (rest := []) rfl ⟨Nat.le_of_ble_eq_true rfl, Nat.le_of_ble_eq_true rfl⟩ (Nat.le_of_ble_eq_true rfl) (zRcv.made hj hP (r := (RX10, TX10, 3)) rfl) (by decide) ⟨zcw_X1_fee.2.2.2.2, Nat.le_of_ble_eq_true rfl⟩ zk_RX10_17 (c_X1_fee_10 hfg hj hP) (pc' := 4) rfl ?_
  refine Z_iconst dX10_fee_4 (v := 1) (by decide) (pc' := 5) rfl ?_
  refine Z_isub dX10_fee_5 (pc' := 6) rfl ?_
  exact Z_ireturn dX10_fee_6 rfl rfl ⟨by rw [show (1 : Int32) = nI 1 from rfl, nI_add, show (1 + fg) = fg + 1 by omega, show nI 1 = (1 : Int32) from rfl, nI_pred], rfl⟩
def plF (a b : Nat) : Nat → Bool := fun k => decide (b ≤ k) && decide (k < b + a)
theorem zpl1 : ∀ a, a < 10 → ((1 : Int64) <<< ((nI a).toInt64 &&& 63)) - 1 = zmk (plF a 0) := by decide +kernel
theorem zpl {a b : Nat} (ha : a < 10) (hb : b < 50) : ((((1 : Int64) <<< ((nI a).toInt64 &&& 63)) - 1) <<< ((nI b).toInt64 &&& 63)) = zmk (plF a b) := by
  refine zmk_of fun k hk => ?_
  rw [zbt_shl (by omega) _ hk, zpl1 a ha]
  by_cases h : b ≤ k
  · rw [zmk_bt _ (by omega)]
    unfold plF
    simp [h]
    omega
  · unfold plF
    simp [h]
set_option maxRecDepth 100000 in
set_option maxHeartbeats 4000000 in
theorem c_X9_places_9 {S : ZS} {n j a b : Nat} {fg : Int32} (ha : a < 10) (hb : b < 50) (hj : j < n) (hP : S.2.2 j = (9, [fg, nI b, nI a])) : zM m_X9_places 0 0 [.ref (48 + j)] (zw S n) (zE (some (.long (zmk (plF a b)))) (zw S n)) := by
  show Z m_X9_places _ _ _ 0 [some (.ref _)] [] _
  refine Z_lconst dX9_places_0 (v := 1) (by decide) (pc' := 1) rfl ?_
  refine Z_aload_n dX9_places_1 rfl (z_isref _) (pc' := 2) rfl ?_
  refine Z_gP dX9_places_2 rfl zfd_RX9_16_9 hj hP rfl (pc' := 5) rfl ?_
  refine Z_lshl dX9_places_5 (pc' := 6) rfl ?_
  refine Z_lconst dX9_places_6 (v := 1) (by decide) (pc' := 7) rfl ?_
  refine Z_lsub dX9_places_7 (pc' := 8) rfl ?_
  refine Z_aload_n dX9_places_8 rfl (z_isref _) (pc' := 9) rfl ?_
  refine Z_gP dX9_places_9 rfl zfd_RX9_13_9 hj hP rfl (pc' := 12) rfl ?_
  refine Z_lshl dX9_places_12 (pc' := 13) rfl ?_
  exact Z_lreturn dX9_places_13 rfl ⟨by rw [zpl ha hb], rfl⟩
set_option maxRecDepth 100000 in
set_option maxHeartbeats 4000000 in
theorem c_X9_places_8 {S : ZS} {n j a b : Nat} {fg : Int32} (ha : a < 10) (hb : b < 50) (hj : j < n) (hP : S.2.2 j = (8, [fg, nI b, nI a])) : zM m_X9_places 0 0 [.ref (48 + j)] (zw S n) (zE (some (.long (zmk (plF a b)))) (zw S n)) := by
  show Z m_X9_places _ _ _ 0 [some (.ref _)] [] _
  refine Z_lconst dX9_places_0 (v := 1) (by decide) (pc' := 1) rfl ?_
  refine Z_aload_n dX9_places_1 rfl (z_isref _) (pc' := 2) rfl ?_
  refine Z_gP dX9_places_2 rfl zfd_RX9_16_8 hj hP rfl (pc' := 5) rfl ?_
  refine Z_lshl dX9_places_5 (pc' := 6) rfl ?_
  refine Z_lconst dX9_places_6 (v := 1) (by decide) (pc' := 7) rfl ?_
  refine Z_lsub dX9_places_7 (pc' := 8) rfl ?_
  refine Z_aload_n dX9_places_8 rfl (z_isref _) (pc' := 9) rfl ?_
  refine Z_gP dX9_places_9 rfl zfd_RX9_13_8 hj hP rfl (pc' := 12) rfl ?_
  refine Z_lshl dX9_places_12 (pc' := 13) rfl ?_
  exact Z_lreturn dX9_places_13 rfl ⟨by rw [zpl ha hb], rfl⟩
set_option maxRecDepth 100000 in
set_option maxHeartbeats 4000000 in
theorem c_X9_places_5 {S : ZS} {n j a b : Nat} {fg : Int32} (ha : a < 10) (hb : b < 50) (hj : j < n) (hP : S.2.2 j = (5, [fg, nI b, nI a])) : zM m_X9_places 0 0 [.ref (48 + j)] (zw S n) (zE (some (.long (zmk (plF a b)))) (zw S n)) := by
  show Z m_X9_places _ _ _ 0 [some (.ref _)] [] _
  refine Z_lconst dX9_places_0 (v := 1) (by decide) (pc' := 1) rfl ?_
  refine Z_aload_n dX9_places_1 rfl (z_isref _) (pc' := 2) rfl ?_
  refine Z_gP dX9_places_2 rfl zfd_RX9_16_5 hj hP rfl (pc' := 5) rfl ?_
  refine Z_lshl dX9_places_5 (pc' := 6) rfl ?_
  refine Z_lconst dX9_places_6 (v := 1) (by decide) (pc' := 7) rfl ?_
  refine Z_lsub dX9_places_7 (pc' := 8) rfl ?_
  refine Z_aload_n dX9_places_8 rfl (z_isref _) (pc' := 9) rfl ?_
  refine Z_gP dX9_places_9 rfl zfd_RX9_13_5 hj hP rfl (pc' := 12) rfl ?_
  refine Z_lshl dX9_places_12 (pc' := 13) rfl ?_
  exact Z_lreturn dX9_places_13 rfl ⟨by rw [zpl ha hb], rfl⟩
set_option maxRecDepth 100000 in
set_option maxHeartbeats 4000000 in
theorem c_X9_places_1 {S : ZS} {n j a b : Nat} {fg : Int32} (ha : a < 10) (hb : b < 50) (hj : j < n) (hP : S.2.2 j = (1, [fg, nI b, nI a])) : zM m_X9_places 0 0 [.ref (48 + j)] (zw S n) (zE (some (.long (zmk (plF a b)))) (zw S n)) := by
  show Z m_X9_places _ _ _ 0 [some (.ref _)] [] _
  refine Z_lconst dX9_places_0 (v := 1) (by decide) (pc' := 1) rfl ?_
  refine Z_aload_n dX9_places_1 rfl (z_isref _) (pc' := 2) rfl ?_
  refine Z_gP dX9_places_2 rfl zfd_RX9_16_1 hj hP rfl (pc' := 5) rfl ?_
  refine Z_lshl dX9_places_5 (pc' := 6) rfl ?_
  refine Z_lconst dX9_places_6 (v := 1) (by decide) (pc' := 7) rfl ?_
  refine Z_lsub dX9_places_7 (pc' := 8) rfl ?_
  refine Z_aload_n dX9_places_8 rfl (z_isref _) (pc' := 9) rfl ?_
  refine Z_gP dX9_places_9 rfl zfd_RX9_13_1 hj hP rfl (pc' := 12) rfl ?_
  refine Z_lshl dX9_places_12 (pc' := 13) rfl ?_
  exact Z_lreturn dX9_places_13 rfl ⟨by rw [zpl ha hb], rfl⟩
set_option maxRecDepth 100000 in
set_option maxHeartbeats 4000000 in
theorem c_X9_places_4 {S : ZS} {n j a b : Nat} {fg : Int32} (ha : a < 10) (hb : b < 50) (hj : j < n) (hP : S.2.2 j = (4, [fg, nI b, nI a])) : zM m_X9_places 0 0 [.ref (48 + j)] (zw S n) (zE (some (.long (zmk (plF a b)))) (zw S n)) := by
  show Z m_X9_places _ _ _ 0 [some (.ref _)] [] _
  refine Z_lconst dX9_places_0 (v := 1) (by decide) (pc' := 1) rfl ?_
  refine Z_aload_n dX9_places_1 rfl (z_isref _) (pc' := 2) rfl ?_
  refine Z_gP dX9_places_2 rfl zfd_RX9_16_4 hj hP rfl (pc' := 5) rfl ?_
  refine Z_lshl dX9_places_5 (pc' := 6) rfl ?_
  refine Z_lconst dX9_places_6 (v := 1) (by decide) (pc' := 7) rfl ?_
  refine Z_lsub dX9_places_7 (pc' := 8) rfl ?_
  refine Z_aload_n dX9_places_8 rfl (z_isref _) (pc' := 9) rfl ?_
  refine Z_gP dX9_places_9 rfl zfd_RX9_13_4 hj hP rfl (pc' := 12) rfl ?_
  refine Z_lshl dX9_places_12 (pc' := 13) rfl ?_
  exact Z_lreturn dX9_places_13 rfl ⟨by rw [zpl ha hb], rfl⟩
set_option maxRecDepth 100000 in
set_option maxHeartbeats 4000000 in
theorem c_X9_places_10 {S : ZS} {n j a b : Nat} {fg : Int32} (ha : a < 10) (hb : b < 50) (hj : j < n) (hP : S.2.2 j = (10, [fg, nI b, nI a])) : zM m_X9_places 0 0 [.ref (48 + j)] (zw S n) (zE (some (.long (zmk (plF a b)))) (zw S n)) := by
  show Z m_X9_places _ _ _ 0 [some (.ref _)] [] _
  refine Z_lconst dX9_places_0 (v := 1) (by decide) (pc' := 1) rfl ?_
  refine Z_aload_n dX9_places_1 rfl (z_isref _) (pc' := 2) rfl ?_
  refine Z_gP dX9_places_2 rfl zfd_RX9_16_10 hj hP rfl (pc' := 5) rfl ?_
  refine Z_lshl dX9_places_5 (pc' := 6) rfl ?_
  refine Z_lconst dX9_places_6 (v := 1) (by decide) (pc' := 7) rfl ?_
  refine Z_lsub dX9_places_7 (pc' := 8) rfl ?_
  refine Z_aload_n dX9_places_8 rfl (z_isref _) (pc' := 9) rfl ?_
  refine Z_gP dX9_places_9 rfl zfd_RX9_13_10 hj hP rfl (pc' := 12) rfl ?_
  refine Z_lshl dX9_places_12 (pc' := 13) rfl ?_
  exact Z_lreturn dX9_places_13 rfl ⟨by rw [zpl ha hb], rfl⟩
