/-- the row of orders -/
def oV (S : ZS) (f : Nat → Nat) (N : Nat) : Prop := S.1 25 32 = nI N ∧ N ≤ 6 ∧ ∀ k, k < N → S.1 45 k = nI (f k) ∧ f k < 6
theorem oV_swp {S : ZS} {f : Nat → Nat} {N i j : Nat} (h : oV S f N) (hi : i < N) (hj : j < N) : oV (sA (sA S 45 i (nI (f j))) 45 j (nI (f i))) (swp f i j) N := by
  refine ⟨by rw [sA_ne _ _ _ (by decide), sA_ne _ _ _ (by decide)]; exact h.1, h.2.1, fun k hk => ?_⟩
  unfold swp
  rw [sA_same, sA_same]
  by_cases e : k = j
  · subst e; rw [zup_same, zup_same]; exact ⟨rfl, (h.2.2 i hi).2⟩
  · rw [zup_ne _ _ e, zup_ne _ _ e]
    by_cases e2 : k = i
    · subst e2; rw [zup_same, zup_same]; exact ⟨rfl, (h.2.2 j hj).2⟩
    · rw [zup_ne _ _ e2, zup_ne _ _ e2]; exact h.2.2 k hk
theorem oV_cg {S S' : ZS} {f g : Nat → Nat} {N : Nat} (h : oV S f N) (h1 : S'.1 25 32 = S.1 25 32) (h2 : S'.1 45 = S.1 45) (h3 : ∀ k, k < N → g k = f k) : oV S' g N := ⟨by rw [h1]; exact h.1, h.2.1, fun k hk => by rw [h2, h3 k hk]; exact h.2.2 k hk⟩
set_option maxRecDepth 100000 in
set_option maxHeartbeats 4000000 in
theorem c_X12_changes {S : ZS} {n N i j : Nat} {f : Nat → Nat} (h : oV S f N) (hi : i < N) (hj : j < N) : zM m_X12_changes 0 0 [.ref 25, .int (nI i), .int (nI j)] (zw S n) (zE none (zw (sA (sA S 45 i (nI (f j))) 45 j (nI (f i))) n)) := by
  have h6 := h.2.1
  show Z m_X12_changes _ _ _ 0 [some (.ref _), some (.int _), some (.int _)] [] _
  refine Z_aload_n dX12_changes_0 rfl (z_isref _) (pc' := 1) rfl ?_
  refine Z_gR dX12_changes_1 rfl zgr_RX12_67_25 (pc' := 4) rfl ?_
  refine Z_iload_n dX12_changes_4 rfl (pc' := 5) rfl ?_
  refine Z_il dX12_changes_5 zar_45 (zin (by omega) (by decide)) (pc' := 6) rfl ?_
  rw [nI_nat (by omega), (h.2.2 i hi).1]
  refine Z_istore_n dX12_changes_6 (Nat.le_of_ble_eq_true rfl) (Nat.le_of_ble_eq_true rfl) rfl (ls' := [_, _, _, _]) rfl (pc' := 7) rfl ?_
  refine Z_aload_n dX12_changes_7 rfl (z_isref _) (pc' := 8) rfl ?_
  refine Z_gR dX12_changes_8 rfl zgr_RX12_67_25 (pc' := 11) rfl ?_
  refine Z_iload_n dX12_changes_11 rfl (pc' := 12) rfl ?_
  refine Z_aload_n dX12_changes_12 rfl (z_isref _) (pc' := 13) rfl ?_
  refine Z_gR dX12_changes_13 rfl zgr_RX12_67_25 (pc' := 16) rfl ?_
  refine Z_iload_n dX12_changes_16 rfl (pc' := 17) rfl ?_
  refine Z_il dX12_changes_17 zar_45 (zin (by omega) (by decide)) (pc' := 18) rfl ?_
  rw [nI_nat (by omega), (h.2.2 j hj).1]
  refine Z_is dX12_changes_18 zar_45 (zin (by omega) (by decide)) (pc' := 19) rfl ?_
  rw [nI_nat (by omega)]
  refine Z_aload_n dX12_changes_19 rfl (z_isref _) (pc' := 20) rfl ?_
  refine Z_gR dX12_changes_20 rfl zgr_RX12_67_25 (pc' := 23) rfl ?_
  refine Z_iload_n dX12_changes_23 rfl (pc' := 24) rfl ?_
  refine Z_iload_n dX12_changes_24 rfl (pc' := 25) rfl ?_
  refine Z_is dX12_changes_25 zar_45 (zin (by omega) (by decide)) (pc' := 26) rfl ?_
  rw [nI_nat (by omega)]
  exact Z_return dX12_changes_26 rfl ⟨rfl, rfl⟩
set_option maxRecDepth 100000 in
set_option maxHeartbeats 4000000 in
theorem lp_X12_nx1 {S : ZS} {n N : Nat} {f : Nat → Nat} (h : oV S f N) {R : Option Value → ZW → Prop} : ∀ (m : Nat) (z : Int32), m < N → (m = 0 → z < 0) → (0 < m → z = nI (m - 1)) → (fnI f m = none → R (some (.int 0)) (zw S n)) → (∀ i, fnI f m = some i → Z m_X12_nextOrder 0 0 R 40 [some (.ref 25), some (.int (nI i))] [] (zw S n)) → Z m_X12_nextOrder 0 0 R 7 [some (.ref 25), some (.int z)] [] (zw S n) := by
  intro m
  induction m with
  | zero =>
    intro z hm h0 h1 hR hK
    have hz := h0 rfl
    refine Z_iload_n dX12_nextOrder_7 rfl (pc' := 8) rfl ?_
    refine Z_if_lt dX12_nextOrder_8 (tgt := 34) rfl (pc' := 11) rfl (fun c_8 => ?_) (fun c_8 => absurd c_8 (fun g => g hz))
    refine Z_iload_n dX12_nextOrder_34 rfl (pc' := 35) rfl ?_
    refine Z_if_ge dX12_nextOrder_35 (tgt := 40) rfl (pc' := 38) rfl (fun c_35 => absurd c_35 (fun g => i_nlt g hz)) (fun c_35 => ?_)
    refine Z_iconst dX12_nextOrder_38 (v := 0) (by decide) (pc' := 39) rfl ?_
    exact Z_ireturn dX12_nextOrder_39 rfl (by first | rfl | exact narrow_zb _) (hR rfl)
  | succ m ih =>
    intro z hm h0 h1 hR hK
    obtain rfl : z = nI m := h1 (Nat.succ_pos m)
    have h6 := h.2.1
    unfold fnI at hR hK
    refine Z_iload_n dX12_nextOrder_7 rfl (pc' := 8) rfl ?_
    refine Z_if_lt dX12_nextOrder_8 (tgt := 34) rfl (pc' := 11) rfl (fun c_8 => absurd c_8 (nI_neg (by omega))) (fun c_8 => ?_)
    refine Z_aload_n dX12_nextOrder_11 rfl (z_isref _) (pc' := 12) rfl ?_
    refine Z_gR dX12_nextOrder_12 rfl zgr_RX12_67_25 (pc' := 15) rfl ?_
    refine Z_iload_n dX12_nextOrder_15 rfl (pc' := 16) rfl ?_
    refine Z_il dX12_nextOrder_16 zar_45 (zin (by omega) (by decide)) (pc' := 17) rfl ?_
    rw [nI_nat (by omega), (h.2.2 m (by omega)).1]
    refine Z_aload_n dX12_nextOrder_17 rfl (z_isref _) (pc' := 18) rfl ?_
    refine Z_gR dX12_nextOrder_18 rfl zgr_RX12_67_25 (pc' := 21) rfl ?_
    refine Z_iload_n dX12_nextOrder_21 rfl (pc' := 22) rfl ?_
    refine Z_iconst dX12_nextOrder_22 (v := 1) (by decide) (pc' := 23) rfl ?_
    refine Z_iadd dX12_nextOrder_23 (pc' := 24) rfl ?_
    rw [show nI m + 1 = nI (m + 1) from nI_inc m]
    refine Z_il dX12_nextOrder_24 zar_45 (zin (by omega) (by decide)) (pc' := 25) rfl ?_
    rw [nI_nat (by omega), (h.2.2 (m + 1) (by omega)).1]
    have b1 := (h.2.2 m (by omega)).2
    have b2 := (h.2.2 (m + 1) (by omega)).2
    refine Z_icmp_le dX12_nextOrder_25 (tgt := 34) rfl (pc' := 28) rfl (fun c_25 => ?_) (fun c_25 => ?_)
    · refine Z_iload_n dX12_nextOrder_34 rfl (pc' := 35) rfl ?_
      refine Z_if_ge dX12_nextOrder_35 (tgt := 40) rfl (pc' := 38) rfl (fun c_35 => ?_) (fun c_35 => absurd c_35 (fun g => g (i_le (nI_neg (by omega)))))
      rw [nI_len (by omega) (by omega)] at c_25
      exact hK m (by rw [if_neg (by omega)])
    · refine Z_iinc dX12_nextOrder_28 rfl rfl (Nat.le_of_ble_eq_true rfl) rfl (ls' := [_, _]) rfl (pc' := 31) rfl ?_
      refine Z_goto dX12_nextOrder_31 (tgt := 7) rfl ?_
      have hlt : f (m + 1) < f m := by
        rw [nI_len (by omega) (by omega)] at c_25; omega
      rw [if_pos hlt] at hR hK
      refine ih _ (by omega) (fun e => by subst e; decide) (fun e => nI_dec e) hR hK
set_option maxRecDepth 100000 in
set_option maxHeartbeats 4000000 in
theorem lp_X12_nx2 {S : ZS} {n N : Nat} {f : Nat → Nat} (h : oV S f N) {R : Option Value → ZW → Prop} {i : Nat} (hi1 : i + 1 < N) (hii : f i ≤ f (i + 1)) : ∀ (m : Nat), i + 1 ≤ m → m < N → (i + 1 ≤ fnJ f (f i) (m + 1) → fnJ f (f i) (m + 1) < N → Z m_X12_nextOrder 0 0 R 68 [some (.ref 25), some (.int (nI i)), some (.int (nI (fnJ f (f i) (m + 1))))] [] (zw S n)) → Z m_X12_nextOrder 0 0 R 47 [some (.ref 25), some (.int (nI i)), some (.int (nI m))] [] (zw S n) := by
  intro m
  induction m with
  | zero =>
    intro h1 h2 hK
    omega
  | succ m ih =>
    intro h1 h2 hK
    have h6 := h.2.1
    have b1 := (h.2.2 (m + 1) h2).2
    have b2 := (h.2.2 i (by omega)).2
    refine Z_aload_n dX12_nextOrder_47 rfl (z_isref _) (pc' := 48) rfl ?_
    refine Z_gR dX12_nextOrder_48 rfl zgr_RX12_67_25 (pc' := 51) rfl ?_
    refine Z_iload_n dX12_nextOrder_51 rfl (pc' := 52) rfl ?_
    refine Z_il dX12_nextOrder_52 zar_45 (zin (by omega) (by decide)) (pc' := 53) rfl ?_
    rw [nI_nat (by omega), (h.2.2 (m + 1) h2).1]
    refine Z_aload_n dX12_nextOrder_53 rfl (z_isref _) (pc' := 54) rfl ?_
    refine Z_gR dX12_nextOrder_54 rfl zgr_RX12_67_25 (pc' := 57) rfl ?_
    refine Z_iload_n dX12_nextOrder_57 rfl (pc' := 58) rfl ?_
    refine Z_il dX12_nextOrder_58 zar_45 (zin (by omega) (by decide)) (pc' := 59) rfl ?_
    rw [nI_nat (by omega), (h.2.2 i (by omega)).1]
    refine Z_icmp_ge dX12_nextOrder_59 (tgt := 68) rfl (pc' := 62) rfl (fun c_59 => ?_) (fun c_59 => ?_)
    · rw [nI_len (by omega) (by omega)] at c_59
      rw [show fnJ f (f i) (m + 1 + 1) = m + 1 from by rw [fnJ, if_neg (by omega)]] at hK
      exact hK h1 h2
    · refine Z_iinc dX12_nextOrder_62 rfl rfl (Nat.le_of_ble_eq_true rfl) rfl (ls' := [_, _, _]) rfl (pc' := 65) rfl ?_
      refine Z_goto dX12_nextOrder_65 (tgt := 47) rfl ?_
      have hlt : f (m + 1) < f i := by
        rw [nI_len (by omega) (by omega)] at c_59; omega
      have hne : i + 1 ≠ m + 1 := fun e => by rw [e] at hii; omega
      rw [show fnJ f (f i) (m + 1 + 1) = fnJ f (f i) (m + 1) from by rw [fnJ, if_pos hlt]] at hK
      rw [nI_dec (Nat.succ_pos m), show m.succ - 1 = m from rfl]
      exact ih (by omega) (by omega) hK
set_option maxRecDepth 100000 in
set_option maxHeartbeats 4000000 in
theorem lp_X12_nx3 {S0 : ZS} {n N : Nat} {R : Option Value → ZW → Prop} {x y : Int32} {T : Nat → Nat} (hR : ∀ S, sfr S0 S → oV S T N → R (some (.int 1)) (zw S n)) : ∀ (m a b : Nat) (f : Nat → Nat) (S : ZS), a ≤ N → b < N → b ≤ a + 2 * m → sfr S0 S → oV S f N → rvF m f a b = T → Z m_X12_nextOrder 0 0 R 86 [some (.ref 25), some (.int x), some (.int y), some (.int (nI a)), some (.int (nI b))] [] (zw S n) := by
  intro m
  induction m with
  | zero =>
    intro a b f S ha hb hm s h hT
    have h6 := h.2.1
    subst hT
    refine Z_iload_n dX12_nextOrder_86 rfl (pc' := 87) rfl ?_
    refine Z_iload dX12_nextOrder_87 rfl (pc' := 89) rfl ?_
    refine Z_icmp_ge dX12_nextOrder_89 (tgt := 108) rfl (pc' := 92) rfl (fun c_89 => ?_) (fun c_89 => absurd c_89 (fun c => c ((nI_len (by omega) (by omega)).mpr (by omega))))
    refine Z_iconst dX12_nextOrder_108 (v := 1) (by decide) (pc' := 109) rfl ?_
    exact Z_ireturn dX12_nextOrder_109 rfl (by first | rfl | exact narrow_zb _) (hR S s h)
  | succ m ih =>
    intro a b f S ha hb hm s h hT
    have h6 := h.2.1
    unfold rvF at hT
    refine Z_iload_n dX12_nextOrder_86 rfl (pc' := 87) rfl ?_
    refine Z_iload dX12_nextOrder_87 rfl (pc' := 89) rfl ?_
    refine Z_icmp_ge dX12_nextOrder_89 (tgt := 108) rfl (pc' := 92) rfl (fun c_89 => ?_) (fun c_89 => ?_)
    · refine Z_iconst dX12_nextOrder_108 (v := 1) (by decide) (pc' := 109) rfl ?_
      exact Z_ireturn dX12_nextOrder_109 rfl (by first | rfl | exact narrow_zb _) (by rw [nI_len (by omega) (by omega)] at c_89; rw [if_neg (by omega)] at hT; subst hT; exact hR S s h)
    · have hab : a < b := by
        rw [nI_len (by omega) (by omega)] at c_89; omega
      rw [if_pos hab] at hT
      refine Z_aload_n dX12_nextOrder_92 rfl (z_isref _) (pc' := 93) rfl ?_
      refine Z_iload_n dX12_nextOrder_93 rfl (pc' := 94) rfl ?_
      refine Z_iload dX12_nextOrder_94 rfl (pc' := 96) rfl ?_
      refine Z_cVv dX12_nextOrder_96 rfl zcw_X12_changes (As := [_, _]) (rest := []) rfl ⟨Nat.le_of_ble_eq_true rfl, Nat.le_of_ble_eq_true rfl⟩ (Nat.le_of_ble_eq_true rfl) (zRcv.lay zob_25) ⟨zcw_X12_changes.2.2.2.2, Nat.le_of_ble_eq_true rfl⟩ zk_RX12_219 (c_X12_changes h (by omega) hb) (pc' := 99) rfl ?_
      refine Z_iinc dX12_nextOrder_99 rfl (nI_inc a) (Nat.le_of_ble_eq_true rfl) rfl (ls' := [_, _, _, _, _]) rfl (pc' := 102) rfl ?_
      refine Z_iinc dX12_nextOrder_102 rfl (nI_dec (by omega)) (Nat.le_of_ble_eq_true rfl) rfl (ls' := [_, _, _, _, _]) rfl (pc' := 105) rfl ?_
      refine Z_goto dX12_nextOrder_105 (tgt := 86) rfl ?_
      exact ih (a + 1) (b - 1) (swp f a b) _ (by omega) (by omega) (by omega) ((s.sA _ (by rfl)).sA _ (by rfl)) (oV_swp h (by omega) hb) hT
set_option maxRecDepth 100000 in
set_option maxHeartbeats 4000000 in
theorem lp_X12_nx68 {S : ZS} {n N : Nat} {f : Nat → Nat} (h : oV S f N) {i j : Nat} (hi : i + 1 < N) (hj : j < N) (e : nxF N f = some (rvF 6 (swp f i j) (i + 1) (N - 1))) : Z m_X12_nextOrder 0 0 (fun r ω => (nxF N f = none ∧ r = some (.int 0) ∧ ω = zw S n) ∨ (∃ g, nxF N f = some g ∧ r = some (.int 1) ∧ ∃ S1, ω = zw S1 n ∧ sfr S S1 ∧ oV S1 g N)) 68 [some (.ref 25), some (.int (nI i)), some (.int (nI j))] [] (zw S n) := by
  have h6 := h.2.1
  refine Z_aload_n dX12_nextOrder_68 rfl (z_isref _) (pc' := 69) rfl ?_
  refine Z_iload_n dX12_nextOrder_69 rfl (pc' := 70) rfl ?_
  refine Z_iload_n dX12_nextOrder_70 rfl (pc' := 71) rfl ?_
  refine Z_cVv dX12_nextOrder_71 rfl zcw_X12_changes (As := [_, _]) (rest := []) rfl ⟨Nat.le_of_ble_eq_true rfl, Nat.le_of_ble_eq_true rfl⟩ (Nat.le_of_ble_eq_true rfl) (zRcv.lay zob_25) ⟨zcw_X12_changes.2.2.2.2, Nat.le_of_ble_eq_true rfl⟩ zk_RX12_219 (c_X12_changes h (by omega) hj) (pc' := 74) rfl ?_
  have h1 := oV_swp h (show i < N by omega) hj
  have s1 : sfr S (sA (sA S 45 i (nI (f j))) 45 j (nI (f i))) := (sfr.rf.sA _ (by rfl)).sA _ (by rfl)
  generalize sA (sA S 45 i (nI (f j))) 45 j (nI (f i)) = S1 at h1 s1 ⊢
  show Z _ _ _ _ _ _ [] _
  refine Z_iload_n dX12_nextOrder_74 rfl (pc' := 75) rfl ?_
  refine Z_iconst dX12_nextOrder_75 (v := 1) (by decide) (pc' := 76) rfl ?_
  refine Z_iadd dX12_nextOrder_76 (pc' := 77) rfl ?_
  rw [show nI i + 1 = nI (i + 1) from nI_inc i]
  refine Z_istore_n dX12_nextOrder_77 (Nat.le_of_ble_eq_true rfl) (Nat.le_of_ble_eq_true rfl) rfl (ls' := [_, _, _, _]) rfl (pc' := 78) rfl ?_
  refine Z_aload_n dX12_nextOrder_78 rfl (z_isref _) (pc' := 79) rfl ?_
  refine Z_gI dX12_nextOrder_79 rfl zgi_RX12_216_25 (pc' := 82) rfl ?_
  rw [h1.1]
  refine Z_iconst dX12_nextOrder_82 (v := 1) (by decide) (pc' := 83) rfl ?_
  refine Z_isub dX12_nextOrder_83 (pc' := 84) rfl ?_
  rw [nI_sub1 (by omega)]
  refine Z_istore dX12_nextOrder_84 (Nat.le_of_ble_eq_true rfl) (Nat.le_of_ble_eq_true rfl) rfl (ls' := [_, _, _, _, _]) rfl (pc' := 86) rfl ?_
  exact lp_X12_nx3 (S0 := S) (T := rvF 6 (swp f i j) (i + 1) (N - 1)) (fun S2 s2 h2 => Or.inr ⟨_, e, rfl, S2, rfl, s2, h2⟩) 6 (i + 1) (N - 1) _ S1 (by omega) (by omega) (by omega) s1 h1 rfl
theorem fnI_some {f : Nat → Nat} : ∀ {m i : Nat}, fnI f m = some i → i < m ∧ f i ≤ f (i + 1)
  | 0, _, h => by cases h
  | m + 1, i, h => by
    unfold fnI at h
    by_cases e : f (m + 1) < f m
    · rw [if_pos e] at h
      have := fnI_some h
      exact ⟨by omega, this.2⟩
    · rw [if_neg e] at h
      cases h
      exact ⟨by omega, by omega⟩
set_option maxRecDepth 100000 in
set_option maxHeartbeats 4000000 in
theorem lp_X12_nx40 {S : ZS} {n N : Nat} {f : Nat → Nat} (h : oV S f N) {i : Nat} (e : fnI f (N - 1) = some i) : Z m_X12_nextOrder 0 0 (fun r ω => (nxF N f = none ∧ r = some (.int 0) ∧ ω = zw S n) ∨ (∃ g, nxF N f = some g ∧ r = some (.int 1) ∧ ∃ S1, ω = zw S1 n ∧ sfr S S1 ∧ oV S1 g N)) 40 [some (.ref 25), some (.int (nI i))] [] (zw S n) := by
  have h6 := h.2.1
  have hi := fnI_some e
  refine Z_aload_n dX12_nextOrder_40 rfl (z_isref _) (pc' := 41) rfl ?_
  refine Z_gI dX12_nextOrder_41 rfl zgi_RX12_216_25 (pc' := 44) rfl ?_
  rw [h.1]
  refine Z_iconst dX12_nextOrder_44 (v := 1) (by decide) (pc' := 45) rfl ?_
  refine Z_isub dX12_nextOrder_45 (pc' := 46) rfl ?_
  rw [nI_sub1 (by omega)]
  refine Z_istore_n dX12_nextOrder_46 (Nat.le_of_ble_eq_true rfl) (Nat.le_of_ble_eq_true rfl) rfl (ls' := [_, _, _]) rfl (pc' := 47) rfl ?_
  exact lp_X12_nx2 h (by omega) hi.2 (N - 1) (by omega) (by omega) (fun g1 g2 => by
    rw [show N - 1 + 1 = N by omega] at g1 g2 ⊢
    exact lp_X12_nx68 h (by omega) g2 (by unfold nxF; rw [e]))
set_option maxRecDepth 100000 in
set_option maxHeartbeats 4000000 in
theorem lp_X12_nx0 {S : ZS} {n : Nat} {z : Int32} (hz : z < 0) {R : Option Value → ZW → Prop} (hR : R (some (.int 0)) (zw S n)) : Z m_X12_nextOrder 0 0 R 7 [some (.ref 25), some (.int z)] [] (zw S n) := by
  refine Z_iload_n dX12_nextOrder_7 rfl (pc' := 8) rfl ?_
  refine Z_if_lt dX12_nextOrder_8 (tgt := 34) rfl (pc' := 11) rfl (fun c_8 => ?_) (fun c_8 => absurd c_8 (fun g => g hz))
  refine Z_iload_n dX12_nextOrder_34 rfl (pc' := 35) rfl ?_
  refine Z_if_ge dX12_nextOrder_35 (tgt := 40) rfl (pc' := 38) rfl (fun c_35 => absurd c_35 (fun g => i_nlt g hz)) (fun c_35 => ?_)
  refine Z_iconst dX12_nextOrder_38 (v := 0) (by decide) (pc' := 39) rfl ?_
  exact Z_ireturn dX12_nextOrder_39 rfl (by first | rfl | exact narrow_zb _) hR
set_option maxRecDepth 100000 in
set_option maxHeartbeats 4000000 in
theorem c_X12_nextOrder {S : ZS} {n N : Nat} {f : Nat → Nat} (h : oV S f N) : zM m_X12_nextOrder 0 0 [.ref 25] (zw S n) (fun r ω => (nxF N f = none ∧ r = some (.int 0) ∧ ω = zw S n) ∨ (∃ g, nxF N f = some g ∧ r = some (.int 1) ∧ ∃ S1, ω = zw S1 n ∧ sfr S S1 ∧ oV S1 g N)) := by
  have h6 := h.2.1
  show Z m_X12_nextOrder _ _ _ 0 [some (.ref _)] [] _
  refine Z_aload_n dX12_nextOrder_0 rfl (z_isref _) (pc' := 1) rfl ?_
  refine Z_gI dX12_nextOrder_1 rfl zgi_RX12_216_25 (pc' := 4) rfl ?_
  rw [h.1]
  refine Z_iconst dX12_nextOrder_4 (v := 2) (by decide) (pc' := 5) rfl ?_
  refine Z_isub dX12_nextOrder_5 (pc' := 6) rfl ?_
  refine Z_istore_n dX12_nextOrder_6 (Nat.le_of_ble_eq_true rfl) (Nat.le_of_ble_eq_true rfl) rfl (ls' := [_, _]) rfl (pc' := 7) rfl ?_
  by_cases h0 : N = 0
  · subst h0
    exact lp_X12_nx0 (by decide) (Or.inl ⟨rfl, rfl, rfl⟩)
  · exact lp_X12_nx1 h (N - 1) _ (by omega) (fun e1 => by rw [show N = 1 by omega]; decide) (fun e1 => by rw [show (2 : Int32) = nI 2 from rfl, nI_sub (by omega)]; rfl) (fun e1 => Or.inl ⟨by unfold nxF; rw [e1], rfl, rfl⟩) (fun i e1 => lp_X12_nx40 h e1)
theorem fnL_at {l : List Nat} {k x : Nat} (h : l[k]? = some x) : fnL l k = x := gD h
set_option maxRecDepth 100000 in
set_option maxHeartbeats 4000000 in
theorem lp_X12_round {S : ZS} {n : Nat} {c : Co} {l : List Nat} (hV : mV S c) (ok : Cok c) (h : oV S (fnL l) l.length) (hl : ∀ x ∈ l, x < cnr c) {R : Option Value → ZW → Prop} {T : Nat} (hR : R (some (.int (nI T))) (zw S n)) : ∀ (m k x y v : Nat), k + m = l.length → x ≤ 99 → y ≤ 99 → wrF c (l.drop k) x y v = T → Z m_X12_wayRound 0 0 R 9 [some (.ref 25), some (.int (nI v)), some (.int (nI x)), some (.int (nI y)), some (.int (nI k))] [] (zw S n) := by
  intro m
  induction m with
  | zero =>
    intro k x y v hk hx hy hT
    have h6 := h.2.1
    rw [List.drop_eq_nil_of_le (by omega)] at hT
    refine Z_iload dX12_wayRound_9 rfl (pc' := 11) rfl ?_
    refine Z_aload_n dX12_wayRound_11 rfl (z_isref _) (pc' := 12) rfl ?_
    refine Z_gI dX12_wayRound_12 rfl zgi_RX12_216_25 (pc' := 15) rfl ?_
    rw [h.1]
    refine Z_icmp_ge dX12_wayRound_15 (tgt := 86) rfl (pc' := 18) rfl (fun c_15 => ?_) (fun c_15 => absurd c_15 (fun c => c ((nI_len (by omega) (by omega)).mpr (by omega))))
    refine Z_iload_n dX12_wayRound_86 rfl (pc' := 87) rfl ?_
    refine Z_iload_n dX12_wayRound_87 rfl (pc' := 88) rfl ?_
    refine Z_iadd dX12_wayRound_88 (pc' := 89) rfl ?_
    rw [nI_add]
    refine Z_iload_n dX12_wayRound_89 rfl (pc' := 90) rfl ?_
    refine Z_iadd dX12_wayRound_90 (pc' := 91) rfl ?_
    rw [nI_add]
    exact Z_ireturn dX12_wayRound_91 rfl rfl (by rw [show v + x + y = T from hT]; exact hR)
  | succ m ih =>
    intro k x y v hk hx hy hT
    have h6 := h.2.1
    obtain ⟨r, hr⟩ : ∃ r, l[k]? = some r := ⟨l[k]'(by omega), List.getElem?_eq_getElem _⟩
    have hrc := hl r (List.mem_of_getElem? hr)
    have ho : S.1 45 k = nI r := by
      have := (h.2.2 k (by omega)).1; rw [fnL_at hr] at this; exact this
    have hrk := ok.2.2.2.2.2.2.2 r hrc
    have c6 := ok.2.2.1
    rw [List.drop_eq_getElem_cons (by omega), (List.getElem?_eq_some_iff.mp hr).2, wrF] at hT
    refine Z_iload dX12_wayRound_9 rfl (pc' := 11) rfl ?_
    refine Z_aload_n dX12_wayRound_11 rfl (z_isref _) (pc' := 12) rfl ?_
    refine Z_gI dX12_wayRound_12 rfl zgi_RX12_216_25 (pc' := 15) rfl ?_
    rw [h.1]
    refine Z_icmp_ge dX12_wayRound_15 (tgt := 86) rfl (pc' := 18) rfl (fun c_15 => absurd c_15 (by rw [nI_len (by omega) (by omega)]; omega)) (fun c_15 => ?_)
    refine Z_iload_n dX12_wayRound_18 rfl (pc' := 19) rfl ?_
    refine Z_iload_n dX12_wayRound_19 rfl (pc' := 20) rfl ?_
    refine Z_aload_n dX12_wayRound_20 rfl (z_isref _) (pc' := 21) rfl ?_
    refine Z_gR dX12_wayRound_21 rfl zgr_RX12_34_25 (pc' := 24) rfl ?_
    refine Z_aload_n dX12_wayRound_24 rfl (z_isref _) (pc' := 25) rfl ?_
    refine Z_gR dX12_wayRound_25 rfl zgr_RX12_67_25 (pc' := 28) rfl ?_
    refine Z_iload dX12_wayRound_28 rfl (pc' := 30) rfl ?_
    refine Z_il dX12_wayRound_30 zar_45 (zin (by omega) (by decide)) (pc' := 31) rfl ?_
    rw [nI_nat (by omega), ho]
    refine Z_il dX12_wayRound_31 zar_34 (zin (by omega) (by decide)) (pc' := 32) rfl ?_
    rw [nI_nat (by omega), (hV.2.2.2.2 r hrc).1]
    refine Z_cSe dX12_wayRound_32 rfl zcw_X12_apart (As := [_, _]) (rest := [_]) rfl ⟨Nat.le_of_ble_eq_true rfl, Nat.le_of_ble_eq_true rfl⟩ (Nat.le_of_ble_eq_true rfl) ⟨zcw_X12_apart.2.2.2.2, Nat.le_of_ble_eq_true rfl⟩ zk_RX12_222 (c_X12_apart (by omega) (by omega)) (pc' := 35) rfl ?_
    refine Z_iload_n dX12_wayRound_35 rfl (pc' := 36) rfl ?_
    refine Z_aload_n dX12_wayRound_36 rfl (z_isref _) (pc' := 37) rfl ?_
    refine Z_gR dX12_wayRound_37 rfl zgr_RX12_37_25 (pc' := 40) rfl ?_
    refine Z_aload_n dX12_wayRound_40 rfl (z_isref _) (pc' := 41) rfl ?_
    refine Z_gR dX12_wayRound_41 rfl zgr_RX12_67_25 (pc' := 44) rfl ?_
    refine Z_iload dX12_wayRound_44 rfl (pc' := 46) rfl ?_
    refine Z_il dX12_wayRound_46 zar_45 (zin (by omega) (by decide)) (pc' := 47) rfl ?_
    rw [nI_nat (by omega), ho]
    refine Z_il dX12_wayRound_47 zar_35 (zin (by omega) (by decide)) (pc' := 48) rfl ?_
    rw [nI_nat (by omega), (hV.2.2.2.2 r hrc).2.1]
    refine Z_cSe dX12_wayRound_48 rfl zcw_X12_apart (As := [_, _]) (rest := [_, _]) rfl ⟨Nat.le_of_ble_eq_true rfl, Nat.le_of_ble_eq_true rfl⟩ (Nat.le_of_ble_eq_true rfl) ⟨zcw_X12_apart.2.2.2.2, Nat.le_of_ble_eq_true rfl⟩ zk_RX12_222 (c_X12_apart (by omega) (by omega)) (pc' := 51) rfl ?_
    refine Z_iadd dX12_wayRound_51 (pc' := 52) rfl ?_
    rw [nI_add]
    refine Z_iadd dX12_wayRound_52 (pc' := 53) rfl ?_
    rw [nI_add]
    refine Z_istore_n dX12_wayRound_53 (Nat.le_of_ble_eq_true rfl) (Nat.le_of_ble_eq_true rfl) rfl (ls' := [_, _, _, _, _]) rfl (pc' := 54) rfl ?_
    refine Z_aload_n dX12_wayRound_54 rfl (z_isref _) (pc' := 55) rfl ?_
    refine Z_gR dX12_wayRound_55 rfl zgr_RX12_34_25 (pc' := 58) rfl ?_
    refine Z_aload_n dX12_wayRound_58 rfl (z_isref _) (pc' := 59) rfl ?_
    refine Z_gR dX12_wayRound_59 rfl zgr_RX12_67_25 (pc' := 62) rfl ?_
    refine Z_iload dX12_wayRound_62 rfl (pc' := 64) rfl ?_
    refine Z_il dX12_wayRound_64 zar_45 (zin (by omega) (by decide)) (pc' := 65) rfl ?_
    rw [nI_nat (by omega), ho]
    refine Z_il dX12_wayRound_65 zar_34 (zin (by omega) (by decide)) (pc' := 66) rfl ?_
    rw [nI_nat (by omega), (hV.2.2.2.2 r hrc).1]
    refine Z_istore_n dX12_wayRound_66 (Nat.le_of_ble_eq_true rfl) (Nat.le_of_ble_eq_true rfl) rfl (ls' := [_, _, _, _, _]) rfl (pc' := 67) rfl ?_
    refine Z_aload_n dX12_wayRound_67 rfl (z_isref _) (pc' := 68) rfl ?_
    refine Z_gR dX12_wayRound_68 rfl zgr_RX12_37_25 (pc' := 71) rfl ?_
    refine Z_aload_n dX12_wayRound_71 rfl (z_isref _) (pc' := 72) rfl ?_
    refine Z_gR dX12_wayRound_72 rfl zgr_RX12_67_25 (pc' := 75) rfl ?_
    refine Z_iload dX12_wayRound_75 rfl (pc' := 77) rfl ?_
    refine Z_il dX12_wayRound_77 zar_45 (zin (by omega) (by decide)) (pc' := 78) rfl ?_
    rw [nI_nat (by omega), ho]
    refine Z_il dX12_wayRound_78 zar_35 (zin (by omega) (by decide)) (pc' := 79) rfl ?_
    rw [nI_nat (by omega), (hV.2.2.2.2 r hrc).2.1]
    refine Z_istore_n dX12_wayRound_79 (Nat.le_of_ble_eq_true rfl) (Nat.le_of_ble_eq_true rfl) rfl (ls' := [_, _, _, _, _]) rfl (pc' := 80) rfl ?_
    refine Z_iinc dX12_wayRound_80 rfl (nI_inc k) (Nat.le_of_ble_eq_true rfl) rfl (ls' := [_, _, _, _, _]) rfl (pc' := 83) rfl ?_
    refine Z_goto dX12_wayRound_83 (tgt := 9) rfl ?_
    exact ih (k + 1) _ _ _ (by omega) hrk.1 hrk.2.1 hT
set_option maxRecDepth 100000 in
set_option maxHeartbeats 4000000 in
theorem c_X12_wayRound {S : ZS} {n : Nat} {c : Co} {l : List Nat} (hV : mV S c) (ok : Cok c) (h : oV S (fnL l) l.length) (hl : ∀ x ∈ l, x < cnr c) : zM m_X12_wayRound 0 0 [.ref 25] (zw S n) (zE (some (.int (nI (wrN c l)))) (zw S n)) := by
  show Z m_X12_wayRound _ _ _ 0 [some (.ref _)] [] _
  refine Z_iconst dX12_wayRound_0 (v := 0) (by decide) (pc' := 1) rfl ?_
  refine Z_istore_n dX12_wayRound_1 (Nat.le_of_ble_eq_true rfl) (Nat.le_of_ble_eq_true rfl) rfl (ls' := [_, _]) rfl (pc' := 2) rfl ?_
  refine Z_iconst dX12_wayRound_2 (v := 0) (by decide) (pc' := 3) rfl ?_
  refine Z_istore_n dX12_wayRound_3 (Nat.le_of_ble_eq_true rfl) (Nat.le_of_ble_eq_true rfl) rfl (ls' := [_, _, _]) rfl (pc' := 4) rfl ?_
  refine Z_iconst dX12_wayRound_4 (v := 0) (by decide) (pc' := 5) rfl ?_
  refine Z_istore_n dX12_wayRound_5 (Nat.le_of_ble_eq_true rfl) (Nat.le_of_ble_eq_true rfl) rfl (ls' := [_, _, _, _]) rfl (pc' := 6) rfl ?_
  refine Z_iconst dX12_wayRound_6 (v := 0) (by decide) (pc' := 7) rfl ?_
  refine Z_istore dX12_wayRound_7 (Nat.le_of_ble_eq_true rfl) (Nat.le_of_ble_eq_true rfl) rfl (ls' := [_, _, _, _, _]) rfl (pc' := 9) rfl ?_
  exact lp_X12_round hV ok h hl (T := wrN c l) ⟨rfl, rfl⟩ l.length 0 0 0 0 (by omega) (by decide) (by decide) rfl
theorem oV_nx {S : ZS} {g : Nat → Nat} {l : List Nat} (h : oV S g l.length) : oV S (fnL ((List.range l.length).map g)) ((List.range l.length).map g).length := by
  have e : ((List.range l.length).map g).length = l.length := by rw [List.length_map, List.length_range]
  rw [e]
  refine oV_cg h rfl rfl fun k hk => fnL_at ?_
  rw [List.getElem?_map, List.getElem?_range hk]
  rfl
theorem oV_6 {S : ZS} {g : Nat → Nat} {N : Nat} (h : oV S g N) : ∀ x ∈ (List.range N).map g, x < 6 := fun x hx => by
  obtain ⟨k, hk, rfl⟩ := List.mem_map.mp hx
  exact (h.2.2 k (List.mem_range.mp hk)).2
set_option maxRecDepth 100000 in
set_option maxHeartbeats 4000000 in
theorem lp_X12_boat {S0 : ZS} {n : Nat} {c : Co} (hV0 : mV S0 c) (ok : Cok c) {R : Option Value → ZW → Prop} {T : Nat} (hR : ∀ S, sfr S0 S → R (some (.int (nI T))) (zw S n)) : ∀ (m : Nat) (l : List Nat) (a : Nat) (S : ZS), sfr S0 S → oV S (fnL l) l.length → (∀ t ∈ visN m l, t ≠ [99] ∧ ∀ x ∈ t, x < cnr c) → a ≤ 1000000 → mlF c (visN m l) a = T → Z m_X12_boat 0 0 R 61 [some (.ref 25), some (.int (nI a))] [] (zw S n) := by
  intro m
  induction m with
  | zero =>
    intro l a S s h hv ha hT
    exact absurd rfl (hv [99] (List.mem_singleton_self _)).1
  | succ m ih =>
    intro l a S s h hv ha hT
    have hV := s.mv hV0
    refine Z_aload_n dX12_boat_61 rfl (z_isref _) (pc' := 62) rfl ?_
    refine Z_cV dX12_boat_62 rfl zcw_X12_nextOrder (As := []) (rest := []) rfl ⟨Nat.le_of_ble_eq_true rfl, Nat.le_of_ble_eq_true rfl⟩ (Nat.le_of_ble_eq_true rfl) (zRcv.lay zob_25) ⟨zcw_X12_nextOrder.2.2.2.2, Nat.le_of_ble_eq_true rfl⟩ zk_RX12_228 (c_X12_nextOrder h) (pc' := 65) rfl (fun r_62 w_62 h_62 => ?_)
    rcases h_62 with ⟨e, rfl, rfl⟩ | ⟨g, e, rfl, S2, rfl, s2, h2⟩
    · show Z _ _ _ _ _ _ (.int 0 :: []) _
      refine Z_if_eq dX12_boat_65 (tgt := 87) rfl (pc' := 68) rfl (fun c_65 => ?_) (fun c_65 => absurd c_65 (fun g => g rfl))
      refine Z_iload_n dX12_boat_87 rfl (pc' := 88) rfl ?_
      exact Z_ireturn dX12_boat_88 rfl rfl (by unfold visN nxL at hT; rw [e] at hT; subst hT; exact hR S s)
    · show Z _ _ _ _ _ _ (.int 1 :: []) _
      have e2 : nxL l = some ((List.range l.length).map g) := by unfold nxL; rw [e]
      have h3 := oV_nx h2
      generalize (List.range l.length).map g = t at e2 h3
      rw [visN, e2] at hv hT
      simp only [] at hv hT
      have ht := hv t (List.mem_cons_self ..)
      rw [mlF] at hT
      refine Z_if_eq dX12_boat_65 (tgt := 87) rfl (pc' := 68) rfl (fun c_65 => absurd c_65 (by decide)) (fun c_65 => ?_)
      refine Z_aload_n dX12_boat_68 rfl (z_isref _) (pc' := 69) rfl ?_
      refine Z_cVe dX12_boat_69 rfl zcw_X12_wayRound (As := []) (rest := []) rfl ⟨Nat.le_of_ble_eq_true rfl, Nat.le_of_ble_eq_true rfl⟩ (Nat.le_of_ble_eq_true rfl) (zRcv.lay zob_25) ⟨zcw_X12_wayRound.2.2.2.2, Nat.le_of_ble_eq_true rfl⟩ zk_RX12_225 (c_X12_wayRound (s2.mv hV) ok h3 ht.2) (pc' := 72) rfl ?_
      have hwb := wrF_le ok t 0 0 0 ht.2 (by decide) (by decide)
      have ht6 := h3.2.1
      have hwn : wrN c t ≤ 1000000 := by
        have : wrN c t = wrF c t 0 0 0 := rfl
        omega
      refine Z_istore_n dX12_boat_72 (Nat.le_of_ble_eq_true rfl) (Nat.le_of_ble_eq_true rfl) rfl (ls' := [_, _, _]) rfl (pc' := 73) rfl ?_
      refine Z_iload_n dX12_boat_73 rfl (pc' := 74) rfl ?_
      refine Z_iload_n dX12_boat_74 rfl (pc' := 75) rfl ?_
      refine Z_icmp_ge dX12_boat_75 (tgt := 82) rfl (pc' := 78) rfl (fun c_75 => ?_) (fun c_75 => ?_)
      · refine Z_iload_n dX12_boat_82 rfl (pc' := 83) rfl ?_
        refine Z_istore_n dX12_boat_83 (Nat.le_of_ble_eq_true rfl) (Nat.le_of_ble_eq_true rfl) rfl (ls' := [_, _, _]) rfl (pc' := 84) rfl ?_
        refine Z_goto dX12_boat_84 (tgt := 61) rfl ?_
        refine Z_take 2 (ls' := [_, _]) rfl ?_
        have hn : ¬ wrN c t < a := by
          rw [nI_len (by omega) (by omega)] at c_75; omega
        rw [if_neg hn] at hT
        exact ih t a S2 (s.tr s2) h3 (fun u hu => hv u (List.mem_cons_of_mem _ hu)) ha hT
      · refine Z_iload_n dX12_boat_78 rfl (pc' := 79) rfl ?_
        refine Z_goto dX12_boat_79 (tgt := 83) rfl ?_
        refine Z_istore_n dX12_boat_83 (Nat.le_of_ble_eq_true rfl) (Nat.le_of_ble_eq_true rfl) rfl (ls' := [_, _, _]) rfl (pc' := 84) rfl ?_
        refine Z_goto dX12_boat_84 (tgt := 61) rfl ?_
        refine Z_take 2 (ls' := [_, _]) rfl ?_
        have hn : wrN c t < a := by
          rw [nI_len (by omega) (by omega)] at c_75; omega
        rw [if_pos hn] at hT
        exact ih t _ S2 (s.tr s2) h3 (fun u hu => hv u (List.mem_cons_of_mem _ hu)) hwn hT
theorem flt_1 (q : Nat → Bool) (r : Nat) : (List.range (r + 1)).filter q = (List.range r).filter q ++ (if q r then [r] else []) := by
  rw [List.range_succ, List.filter_append]
  congr 1
  cases e : q r <;> simp [e]
theorem flt_len (q : Nat → Bool) (r : Nat) : ((List.range r).filter q).length ≤ r := by
  have := List.length_filter_le q (List.range r)
  rw [List.length_range] at this
  exact this
theorem bits_isl {c : Co} (ok : Cok c) (t : Nat) : bitsL (znb (islB c t) 6) = (List.range (cnr c)).filter (islB c t) := by
  have h6 := ok.2.2.1
  unfold bitsL
  have e1 : (List.range 6).filter (fun k => (znb (islB c t) 6).testBit k) = (List.range 6).filter (islB c t) := List.filter_congr fun x hx => by
    rw [znb_bit, decide_eq_true (List.mem_range.mp hx), Bool.true_and]
  rw [e1]
  have key : ∀ m, (List.range (cnr c + m)).filter (islB c t) = (List.range (cnr c)).filter (islB c t) := by
    intro m
    induction m with
    | zero => rfl
    | succ m ih =>
      rw [← Nat.add_assoc, flt_1, ih]
      have : islB c t (cnr c + m) = false := by
        unfold islB
        rw [decide_eq_false (p := cnr c + m < cnr c) (by omega)]; rfl
      rw [this]
      simp
  have := key (6 - cnr c)
  rw [show cnr c + (6 - cnr c) = 6 by omega] at this
  exact this
theorem oV_push {S : ZS} {l : List Nat} {r : Nat} (h : oV S (fnL l) l.length) (hl : l.length < 6) (hr : r < 6) : oV (sA (sA S 45 l.length (nI r)) 25 32 (nI (l.length + 1))) (fnL (l ++ [r])) (l ++ [r]).length := by
  have e : (l ++ [r]).length = l.length + 1 := by rw [List.length_append]; rfl
  rw [e]
  refine ⟨sA_eq .., hl, fun k hk => ?_⟩
  rw [sA_ne _ _ _ (by decide), sA_same]
  rcases Nat.lt_succ_iff_lt_or_eq.mp hk with q | q
  · have h1 : fnL (l ++ [r]) k = fnL l k := by
      unfold fnL
      rw [List.getD_eq_getElem?_getD, List.getD_eq_getElem?_getD, List.getElem?_append_left q]
    rw [zup_ne _ _ (by omega), h1]; exact h.2.2 k q
  · subst q
    have h1 : fnL (l ++ [r]) l.length = r := fnL_at (by simp)
    rw [zup_same, h1]; exact ⟨rfl, hr⟩
set_option maxRecDepth 100000 in
set_option maxHeartbeats 4000000 in
theorem lp_X12_boat1 {S0 : ZS} {n : Nat} {c : Co} (hV0 : mV S0 c) (ok : Cok c) {R : Option Value → ZW → Prop} (hK : ∀ S z, sfr S0 S → oV S (fnL ((List.range (cnr c)).filter (islB c (ctd c)))) ((List.range (cnr c)).filter (islB c (ctd c))).length → Z m_X12_boat 0 0 R 56 [some (.ref 25), some (.int z)] [] (zw S n)) : ∀ (m r : Nat) (S : ZS), r + m = cnr c → sfr S0 S → oV S (fnL ((List.range r).filter (islB c (ctd c)))) ((List.range r).filter (islB c (ctd c))).length → Z m_X12_boat 0 0 R 7 [some (.ref 25), some (.int (nI r))] [] (zw S n) := by
  intro m
  induction m with
  | zero =>
    intro r S hr s h
    have hV := s.mv hV0
    have c6 := ok.2.2.1
    obtain rfl : r = cnr c := by omega
    refine Z_iload_n dX12_boat_7 rfl (pc' := 8) rfl ?_
    refine Z_aload_n dX12_boat_8 rfl (z_isref _) (pc' := 9) rfl ?_
    refine Z_gI dX12_boat_9 rfl zgi_RX12_120_25 (pc' := 12) rfl ?_
    rw [hV.1.2.2.1]
    refine Z_icmp_ge dX12_boat_12 (tgt := 56) rfl (pc' := 15) rfl (fun c_12 => ?_) (fun c_12 => absurd c_12 (fun c => c ((nI_len (by omega) (by omega)).mpr (by omega))))
    exact hK S _ s h
  | succ m ih =>
    intro r S hr s h
    have hV := s.mv hV0
    have c6 := ok.2.2.1
    have t9 := ok.2.2.2.1
    have hk : r < cnr c := by omega
    have hle := flt_len (islB c (ctd c)) r
    have hf := flt_1 (islB c (ctd c)) r
    refine Z_iload_n dX12_boat_7 rfl (pc' := 8) rfl ?_
    refine Z_aload_n dX12_boat_8 rfl (z_isref _) (pc' := 9) rfl ?_
    refine Z_gI dX12_boat_9 rfl zgi_RX12_120_25 (pc' := 12) rfl ?_
    rw [hV.1.2.2.1]
    refine Z_icmp_ge dX12_boat_12 (tgt := 56) rfl (pc' := 15) rfl (fun c_12 => absurd c_12 (by rw [nI_len (by omega) (by omega)]; omega)) (fun c_12 => ?_)
    refine Z_aload_n dX12_boat_15 rfl (z_isref _) (pc' := 16) rfl ?_
    refine Z_iload_n dX12_boat_16 rfl (pc' := 17) rfl ?_
    refine Z_aload_n dX12_boat_17 rfl (z_isref _) (pc' := 18) rfl ?_
    refine Z_gI dX12_boat_18 rfl zgi_RX12_129_25 (pc' := 21) rfl ?_
    rw [hV.1.2.2.2]
    refine Z_cVe dX12_boat_21 rfl zcw_X12_isIsland (As := [_, _]) (rest := []) rfl ⟨Nat.le_of_ble_eq_true rfl, Nat.le_of_ble_eq_true rfl⟩ (Nat.le_of_ble_eq_true rfl) (zRcv.lay zob_25) ⟨zcw_X12_isIsland.2.2.2.2, Nat.le_of_ble_eq_true rfl⟩ zk_RX12_207 (c_X12_isIsland hV ok hk (by omega)) (pc' := 24) rfl ?_
    refine Z_if_ne dX12_boat_24 (tgt := 30) rfl (pc' := 27) rfl (fun c_24 => ?_) (fun c_24 => ?_)
    · refine Z_aload_n dX12_boat_30 rfl (z_isref _) (pc' := 31) rfl ?_
      refine Z_gR dX12_boat_31 rfl zgr_RX12_67_25 (pc' := 34) rfl ?_
      refine Z_aload_n dX12_boat_34 rfl (z_isref _) (pc' := 35) rfl ?_
      refine Z_gI dX12_boat_35 rfl zgi_RX12_216_25 (pc' := 38) rfl ?_
      rw [h.1]
      refine Z_iload_n dX12_boat_38 rfl (pc' := 39) rfl ?_
      refine Z_is dX12_boat_39 zar_45 (zin (by omega) (by decide)) (pc' := 40) rfl ?_
      rw [nI_nat (by omega)]
      refine Z_aload_n dX12_boat_40 rfl (z_isref _) (pc' := 41) rfl ?_
      refine Z_dup dX12_boat_41 rfl (pc' := 42) rfl ?_
      refine Z_gI dX12_boat_42 rfl zgi_RX12_216_25 (pc' := 45) rfl ?_
      rw [sA_ne _ _ _ (by decide), h.1]
      refine Z_iconst dX12_boat_45 (v := 1) (by decide) (pc' := 46) rfl ?_
      refine Z_iadd dX12_boat_46 (pc' := 47) rfl ?_
      rw [show nI ((List.range r).filter (islB c (ctd c))).length + 1 = nI (((List.range r).filter (islB c (ctd c))).length + 1) from nI_inc _]
      refine Z_pI dX12_boat_47 rfl zpi_RX12_216_25 (pc' := 50) rfl ?_
      refine Z_iinc dX12_boat_50 rfl (nI_inc r) (Nat.le_of_ble_eq_true rfl) rfl (ls' := [_, _]) rfl (pc' := 53) rfl ?_
      refine Z_goto dX12_boat_53 (tgt := 7) rfl ?_
      refine ih (r + 1) _ (by omega) ((s.sA _ (by rfl)).sA _ (by rfl)) ?_
      rw [hf, (zb_ne0 _).mp c_24, if_pos rfl]
      exact oV_push h (by omega) (by omega)
    · refine Z_goto dX12_boat_27 (tgt := 50) rfl ?_
      refine Z_iinc dX12_boat_50 rfl (nI_inc r) (Nat.le_of_ble_eq_true rfl) rfl (ls' := [_, _]) rfl (pc' := 53) rfl ?_
      refine Z_goto dX12_boat_53 (tgt := 7) rfl ?_
      refine ih (r + 1) S (by omega) s ?_
      rw [hf, (zb_eq0 _).mp c_24, if_neg (by decide), List.append_nil]
      exact h
set_option maxRecDepth 100000 in
set_option maxHeartbeats 4000000 in
theorem lp_X12_boat_56 {S : ZS} {n : Nat} {M : Ms} (hI : MI S M) {S1 : ZS} {z : Int32} (s1 : sfr S S1) (h1 : oV S1 (fnL ((List.range (cnr (mc M))).filter (islB (mc M) (ctd (mc M))))) ((List.range (cnr (mc M))).filter (islB (mc M) (ctd (mc M)))).length) : Z m_X12_boat 0 0 (qR S n (spBoat M)) 56 [some (.ref 25), some (.int z)] [] (zw S1 n) := by
  have hb : bitsL (isN M) = (List.range (cnr (mc M))).filter (islB (mc M) (ctd (mc M))) := bits_isl hI.ok _
  have hs64 : isN M < 64 := znb_lt _ 6
  have h0 : ∀ x ∈ (List.range (cnr (mc M))).filter (islB (mc M) (ctd (mc M))), x < cnr (mc M) := fun x hx => List.mem_range.mp (List.mem_filter.mp hx).1
  have hin : ∀ x, (isN M).testBit x = true → x < cnr (mc M) := fun x hx => by
    unfold isN at hx
    rw [znb_bit, Bool.and_eq_true] at hx
    have := hx.2
    unfold islB at this
    exact of_decide_eq_true (Bool.and_eq_true_iff.mp this).1
  refine Z_aload_n dX12_boat_56 rfl (z_isref _) (pc' := 57) rfl ?_
  refine Z_cVe dX12_boat_57 rfl zcw_X12_wayRound (As := []) (rest := []) rfl ⟨Nat.le_of_ble_eq_true rfl, Nat.le_of_ble_eq_true rfl⟩ (Nat.le_of_ble_eq_true rfl) (zRcv.lay zob_25) ⟨zcw_X12_wayRound.2.2.2.2, Nat.le_of_ble_eq_true rfl⟩ zk_RX12_225 (c_X12_wayRound (s1.mv hI.mv) hI.ok h1 h0) (pc' := 60) rfl ?_
  refine Z_istore_n dX12_boat_60 (Nat.le_of_ble_eq_true rfl) (Nat.le_of_ble_eq_true rfl) rfl (ls' := [_, _]) rfl (pc' := 61) rfl ?_
  rw [← hb] at h1 h0 ⊢
  refine lp_X12_boat (S0 := S) hI.mv hI.ok (T := mlF (mc M) (visN 720 (bitsL (isN M))) (wrN (mc M) (bitsL (isN M)))) (fun S2 s2 => qR.st hI s2 ?_) 720 (bitsL (isN M)) _ S1 s1 h1 (fun t ht => ?_) ?_ rfl
  · unfold spBoat
    rw [rtV_eq _ _ hs64, boat_eq hI.ok hs64 hin]
  · have hm : t ∈ ordA (isN M) := by rw [← vis_all _ hs64]; exact List.mem_cons_of_mem _ ht
    have := ord_ok _ hs64 t hm
    exact ⟨this.2.1, fun x hx => hin x (this.2.2 x hx).2⟩
  · have hw := wrF_le hI.ok (bitsL (isN M)) 0 0 0 h0 (by decide) (by decide)
    have h6 := h1.2.1
    have : wrN (mc M) (bitsL (isN M)) = wrF (mc M) (bitsL (isN M)) 0 0 0 := rfl
    omega
set_option maxRecDepth 100000 in
set_option maxHeartbeats 4000000 in
theorem c_X12_boat {S : ZS} {n : Nat} {M : Ms} (hI : MI S M) : zM m_X12_boat 0 0 [.ref 25] (zw S n) (qR S n (spBoat M)) := by
  show Z m_X12_boat _ _ _ 0 [some (.ref _)] [] _
  refine Z_aload_n dX12_boat_0 rfl (z_isref _) (pc' := 1) rfl ?_
  refine Z_iconst dX12_boat_1 (v := 0) (by decide) (pc' := 2) rfl ?_
  refine Z_pI dX12_boat_2 rfl zpi_RX12_216_25 (pc' := 5) rfl ?_
  refine Z_iconst dX12_boat_5 (v := 0) (by decide) (pc' := 6) rfl ?_
  refine Z_istore_n dX12_boat_6 (Nat.le_of_ble_eq_true rfl) (Nat.le_of_ble_eq_true rfl) rfl (ls' := [_, _]) rfl (pc' := 7) rfl ?_
  refine lp_X12_boat1 (S0 := S) hI.mv hI.ok (fun S1 z s1 h1 => ?_) (cnr (mc M)) 0 _ (by omega) (sfr.rf.sA _ (by rfl)) ⟨sA_eq .., (show (0 : Nat) ≤ 6 by decide), fun k hk => absurd hk (Nat.not_lt_zero k)⟩
  exact lp_X12_boat_56 hI s1 h1
