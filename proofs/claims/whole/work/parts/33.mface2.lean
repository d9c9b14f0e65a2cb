theorem bo_wr1 (r : Int32) : boI r 1 9 = wrI r 0 := by
  have h1 : ¬ (0 : Int32) < 0 := by decide
  have h2 : ¬ (9 : Int32) < 0 := by decide
  unfold boI wrI
  simp only [h1, h2, or_false]
theorem bo_wr2 (b : Int32) : boI b 0 9 = wrI 1 b := by
  have h1 : ¬ (1 : Int32) < 1 := by decide
  have h2 : ¬ (9 : Int32) < 1 := by decide
  unfold boI wrI
  simp only [h1, h2, false_or]
def bsM (s : Option (Nat × Int32)) : Int32 := match s with
  | none => 0
  | some (q, _) => nI q
theorem bsF_sm (v : Nat → Int32) (x : Int32) : ∀ (m k : Nat) (s : Option (Nat × Int32)), (0 < m ∨ ∃ p, s = some p) → ∃ p, bsF v x m k s = some p
  | 0, _, s, h => by rcases h with h | h; omega; exact h
  | m + 1, k, s, _ => by
    rw [bsF_s]
    refine bsF_sm v x m (k + 1) _ (Or.inr ?_)
    cases s with
    | none => exact ⟨_, rfl⟩
    | some p =>
      obtain ⟨q, a⟩ := p
      show ∃ p, (if (if x = 1 then v k < a else a < v k) then some (10 + k, v k) else some (q, a)) = some p
      by_cases hP : (if x = 1 then v k < a else a < v k)
      · rw [if_pos hP]; exact ⟨_, rfl⟩
      · rw [if_neg hP]; exact ⟨_, rfl⟩
def bsJ (s : Option (Nat × Int32)) : Prop := ∀ q a, s = some (q, a) → 10 ≤ q ∧ q < 100
theorem bsJ_n : bsJ none := fun q a h => by cases h
theorem bsJ_s {q : Nat} {a : Int32} (h1 : 10 ≤ q) (h2 : q < 100) : bsJ (some (q, a)) := fun q a h => by cases h; exact ⟨h1, h2⟩
set_option maxRecDepth 100000 in
set_option maxHeartbeats 4000000 in
theorem lp_X12_best_b {S0 : ZS} {n : Nat} {M : Ms} (hI : MI S0 M) {R : Option Value → ZW → Prop} {x y : Int32} {T : Option (Nat × Int32)} {r : Nat} (hr1 : 1 ≤ r) (hr : r ≤ 9) (hK : ∀ s S, sfr S0 S → bsJ s → bsF (bsV M x) x (90 - 10 * r) (10 * r) s = T → Z m_X12_best 0 0 R 124 [some (.ref 25), some (.int x), some (.int y), some (.int (bsM s)), some (.int (bsA s)), some (.int (nI r)), some (.int (nI 10))] [] (zw S n)) : ∀ (m b : Nat) (s : Option (Nat × Int32)) (S : ZS), b + m = 10 → sfr S0 S → bsJ s → bsF (bsV M x) x (90 - 10 * r + m) (10 * (r - 1) + b) s = T → Z m_X12_best 0 0 R 43 [some (.ref 25), some (.int x), some (.int y), some (.int (bsM s)), some (.int (bsA s)), some (.int (nI r)), some (.int (nI b))] [] (zw S n) := by
  intro m
  induction m with
  | zero =>
    intro b s S h f hs hT
    obtain rfl : b = 10 := by omega
    rw [Nat.add_zero, show 10 * (r - 1) + 10 = 10 * r by omega] at hT
    refine Z_iload dX12_best_43 rfl (pc' := 45) rfl ?_
    refine Z_bipush dX12_best_45 (v := 9) (by decide) (pc' := 47) rfl ?_
    refine Z_icmp_gt dX12_best_47 (tgt := 124) rfl (pc' := 50) rfl (fun c_47 => ?_) (fun c_47 => absurd c_47 (fun c => c (by decide)))
    exact hK s S f hs hT
  | succ m ih =>
    intro b s S h f hs hT
    have hk : (10 * (r - 1) + b) < 90 := by omega
    have hd : 1 + (10 * (r - 1) + b) / 10 = r ∧ (10 * (r - 1) + b) % 10 = b := by omega
    rw [← Nat.add_assoc, bsF_s] at hT
    refine Z_iload dX12_best_43 rfl (pc' := 45) rfl ?_
    refine Z_bipush dX12_best_45 (v := 9) (by decide) (pc' := 47) rfl ?_
    refine Z_icmp_gt dX12_best_47 (tgt := 124) rfl (pc' := 50) rfl (fun c_47 => absurd c_47 (by rw [nI9, nI_ltn (by omega) (by omega)]; omega)) (fun c_47 => ?_)
    refine Z_iload_n dX12_best_50 rfl (pc' := 51) rfl ?_
    refine Z_iconst dX12_best_51 (v := 2) (by decide) (pc' := 52) rfl ?_
    refine Z_icmp_ne dX12_best_52 (tgt := 66) rfl (pc' := 55) rfl (fun c_52 => ?_) (fun c_52 => ?_)
    · refine Z_aload_n dX12_best_66 rfl (z_isref _) (pc' := 67) rfl ?_
      refine Z_iload dX12_best_67 rfl (pc' := 69) rfl ?_
      refine Z_iload dX12_best_69 rfl (pc' := 71) rfl ?_
      refine Z_cV dX12_best_71 rfl zcw_X12_pay (As := [_, _]) (rest := []) rfl ⟨Nat.le_of_ble_eq_true rfl, Nat.le_of_ble_eq_true rfl⟩ (Nat.le_of_ble_eq_true rfl) (zRcv.lay zob_25) ⟨zcw_X12_pay.2.2.2.2, Nat.le_of_ble_eq_true rfl⟩ zk_RX12_198 (c_X12_pay (f.mv hI.mv) hI.ok (by omega)) (pc' := 74) rfl (fun r_71 w_71 h_71 => ?_)
      obtain ⟨rfl, S2, rfl, f2, s2, w2⟩ := h_71
      rw [show pyS (mc M) (shS (mc M) (ctd (mc M))) (nI r) b = bsV M x (10 * (r - 1) + b) by unfold bsV; rw [if_neg c_52, hd.1, hd.2]; rfl]
      show Z _ _ _ _ _ _ (.int (bsV M x (10 * (r - 1) + b)) :: []) _
      refine Z_istore dX12_best_74 (Nat.le_of_ble_eq_true rfl) (Nat.le_of_ble_eq_true rfl) rfl (ls' := [_, _, _, _, _, _, _, _]) rfl (pc' := 76) rfl ?_
      refine Z_iload_n dX12_best_76 rfl (pc' := 77) rfl ?_
      cases s with
      | none =>
        refine Z_if_le dX12_best_77 (tgt := 105) rfl (pc' := 80) rfl (fun c_77 => ?_) (fun c_77 => absurd c_77 (fun c => c (by decide)))
        refine Z_bipush dX12_best_105 (v := 10) (by decide) (pc' := 107) rfl ?_
        refine Z_iload dX12_best_107 rfl (pc' := 109) rfl ?_
        refine Z_imul dX12_best_109 (pc' := 110) rfl ?_
        refine Z_iload dX12_best_110 rfl (pc' := 112) rfl ?_
        refine Z_iadd dX12_best_112 (pc' := 113) rfl ?_
        rw [show (10 : Int32) * nI r + nI b = nI (10 + (10 * (r - 1) + b)) from by rw [show (10 : Int32) = nI 10 from rfl, nI_mul, nI_add, show 10 * r + b = 10 + (10 * (r - 1) + b) by omega]]
        refine Z_istore_n dX12_best_113 (Nat.le_of_ble_eq_true rfl) (Nat.le_of_ble_eq_true rfl) rfl (ls' := [_, _, _, _, _, _, _, _]) rfl (pc' := 114) rfl ?_
        refine Z_iload dX12_best_114 rfl (pc' := 116) rfl ?_
        refine Z_istore dX12_best_116 (Nat.le_of_ble_eq_true rfl) (Nat.le_of_ble_eq_true rfl) rfl (ls' := [_, _, _, _, _, _, _, _]) rfl (pc' := 118) rfl ?_
        refine Z_iinc dX12_best_118 rfl (nI_inc b) (Nat.le_of_ble_eq_true rfl) rfl (ls' := [_, _, _, _, _, _, _, _]) rfl (pc' := 121) rfl ?_
        refine Z_goto dX12_best_121 (tgt := 43) rfl ?_
        refine Z_take 7 (ls' := [_, _, _, _, _, _, _]) rfl ?_
        rw [bsS_none] at hT
        exact ih (b + 1) (some (10 + (10 * (r - 1) + b), bsV M x (10 * (r - 1) + b))) S2 (by omega) (f.tr f2) (bsJ_s (by omega) (by omega)) hT
      | some p =>
        obtain ⟨q, a⟩ := p
        obtain ⟨hq1, hq2⟩ := hs q a rfl
        refine Z_if_le dX12_best_77 (tgt := 105) rfl (pc' := 80) rfl (fun c_77 => absurd c_77 (fun c => by have := (nI_len (b := 0) (by omega) (by decide)).mp c; omega)) (fun c_77 => ?_)
        refine Z_iload_n dX12_best_80 rfl (pc' := 81) rfl ?_
        refine Z_iconst dX12_best_81 (v := 1) (by decide) (pc' := 82) rfl ?_
        refine Z_icmp_ne dX12_best_82 (tgt := 95) rfl (pc' := 85) rfl (fun c_82 => ?_) (fun c_82 => ?_)
        · refine Z_iload dX12_best_95 rfl (pc' := 97) rfl ?_
          refine Z_iload dX12_best_97 rfl (pc' := 99) rfl ?_
          refine Z_icmp_gt dX12_best_99 (tgt := 105) rfl (pc' := 102) rfl (fun c_99 => ?_) (fun c_99 => ?_)
          · refine Z_bipush dX12_best_105 (v := 10) (by decide) (pc' := 107) rfl ?_
            refine Z_iload dX12_best_107 rfl (pc' := 109) rfl ?_
            refine Z_imul dX12_best_109 (pc' := 110) rfl ?_
            refine Z_iload dX12_best_110 rfl (pc' := 112) rfl ?_
            refine Z_iadd dX12_best_112 (pc' := 113) rfl ?_
            rw [show (10 : Int32) * nI r + nI b = nI (10 + (10 * (r - 1) + b)) from by rw [show (10 : Int32) = nI 10 from rfl, nI_mul, nI_add, show 10 * r + b = 10 + (10 * (r - 1) + b) by omega]]
            refine Z_istore_n dX12_best_113 (Nat.le_of_ble_eq_true rfl) (Nat.le_of_ble_eq_true rfl) rfl (ls' := [_, _, _, _, _, _, _, _]) rfl (pc' := 114) rfl ?_
            refine Z_iload dX12_best_114 rfl (pc' := 116) rfl ?_
            refine Z_istore dX12_best_116 (Nat.le_of_ble_eq_true rfl) (Nat.le_of_ble_eq_true rfl) rfl (ls' := [_, _, _, _, _, _, _, _]) rfl (pc' := 118) rfl ?_
            refine Z_iinc dX12_best_118 rfl (nI_inc b) (Nat.le_of_ble_eq_true rfl) rfl (ls' := [_, _, _, _, _, _, _, _]) rfl (pc' := 121) rfl ?_
            refine Z_goto dX12_best_121 (tgt := 43) rfl ?_
            refine Z_take 7 (ls' := [_, _, _, _, _, _, _]) rfl ?_
            rw [bsS_n c_82, if_pos (show a < bsV M x (10 * (r - 1) + b) from c_99)] at hT
            exact ih (b + 1) (some (10 + (10 * (r - 1) + b), bsV M x (10 * (r - 1) + b))) S2 (by omega) (f.tr f2) (bsJ_s (by omega) (by omega)) hT
          · refine Z_goto dX12_best_102 (tgt := 118) rfl ?_
            refine Z_iinc dX12_best_118 rfl (nI_inc b) (Nat.le_of_ble_eq_true rfl) rfl (ls' := [_, _, _, _, _, _, _, _]) rfl (pc' := 121) rfl ?_
            refine Z_goto dX12_best_121 (tgt := 43) rfl ?_
            refine Z_take 7 (ls' := [_, _, _, _, _, _, _]) rfl ?_
            rw [bsS_n c_82, if_neg (show ¬ a < bsV M x (10 * (r - 1) + b) from c_99)] at hT
            exact ih (b + 1) (some (q, a)) S2 (by omega) (f.tr f2) hs hT
        · refine Z_iload dX12_best_85 rfl (pc' := 87) rfl ?_
          refine Z_iload dX12_best_87 rfl (pc' := 89) rfl ?_
          refine Z_icmp_lt dX12_best_89 (tgt := 105) rfl (pc' := 92) rfl (fun c_89 => ?_) (fun c_89 => ?_)
          · refine Z_bipush dX12_best_105 (v := 10) (by decide) (pc' := 107) rfl ?_
            refine Z_iload dX12_best_107 rfl (pc' := 109) rfl ?_
            refine Z_imul dX12_best_109 (pc' := 110) rfl ?_
            refine Z_iload dX12_best_110 rfl (pc' := 112) rfl ?_
            refine Z_iadd dX12_best_112 (pc' := 113) rfl ?_
            rw [show (10 : Int32) * nI r + nI b = nI (10 + (10 * (r - 1) + b)) from by rw [show (10 : Int32) = nI 10 from rfl, nI_mul, nI_add, show 10 * r + b = 10 + (10 * (r - 1) + b) by omega]]
            refine Z_istore_n dX12_best_113 (Nat.le_of_ble_eq_true rfl) (Nat.le_of_ble_eq_true rfl) rfl (ls' := [_, _, _, _, _, _, _, _]) rfl (pc' := 114) rfl ?_
            refine Z_iload dX12_best_114 rfl (pc' := 116) rfl ?_
            refine Z_istore dX12_best_116 (Nat.le_of_ble_eq_true rfl) (Nat.le_of_ble_eq_true rfl) rfl (ls' := [_, _, _, _, _, _, _, _]) rfl (pc' := 118) rfl ?_
            refine Z_iinc dX12_best_118 rfl (nI_inc b) (Nat.le_of_ble_eq_true rfl) rfl (ls' := [_, _, _, _, _, _, _, _]) rfl (pc' := 121) rfl ?_
            refine Z_goto dX12_best_121 (tgt := 43) rfl ?_
            refine Z_take 7 (ls' := [_, _, _, _, _, _, _]) rfl ?_
            obtain rfl : x = 1 := c_82
            rw [bsS_1, if_pos (show bsV M 1 (10 * (r - 1) + b) < a from c_89)] at hT
            exact ih (b + 1) (some (10 + (10 * (r - 1) + b), bsV M 1 (10 * (r - 1) + b))) S2 (by omega) (f.tr f2) (bsJ_s (by omega) (by omega)) hT
          · refine Z_goto dX12_best_92 (tgt := 118) rfl ?_
            refine Z_iinc dX12_best_118 rfl (nI_inc b) (Nat.le_of_ble_eq_true rfl) rfl (ls' := [_, _, _, _, _, _, _, _]) rfl (pc' := 121) rfl ?_
            refine Z_goto dX12_best_121 (tgt := 43) rfl ?_
            refine Z_take 7 (ls' := [_, _, _, _, _, _, _]) rfl ?_
            obtain rfl : x = 1 := c_82
            rw [bsS_1, if_neg (show ¬ bsV M 1 (10 * (r - 1) + b) < a from c_89)] at hT
            exact ih (b + 1) (some (q, a)) S2 (by omega) (f.tr f2) hs hT
    · refine Z_aload_n dX12_best_55 rfl (z_isref _) (pc' := 56) rfl ?_
      refine Z_iload dX12_best_56 rfl (pc' := 58) rfl ?_
      refine Z_iload dX12_best_58 rfl (pc' := 60) rfl ?_
      refine Z_cV dX12_best_60 rfl zcw_X12_miles (As := [_, _]) (rest := []) rfl ⟨Nat.le_of_ble_eq_true rfl, Nat.le_of_ble_eq_true rfl⟩ (Nat.le_of_ble_eq_true rfl) (zRcv.lay zob_25) ⟨zcw_X12_miles.2.2.2.2, Nat.le_of_ble_eq_true rfl⟩ zk_RX12_192 (c_X12_miles (f.mv hI.mv) hI.ok (by omega)) (pc' := 63) rfl (fun r_60 w_60 h_60 => ?_)
      obtain ⟨rfl, S2, rfl, f2, s2, w2⟩ := h_60
      rw [show mlS (mc M) (shS (mc M) (ctd (mc M))) (nI r) b = bsV M x (10 * (r - 1) + b) by unfold bsV; rw [if_pos c_52, hd.1, hd.2]; rfl]
      refine Z_goto dX12_best_63 (tgt := 74) rfl ?_
      show Z _ _ _ _ _ _ (.int (bsV M x (10 * (r - 1) + b)) :: []) _
      refine Z_istore dX12_best_74 (Nat.le_of_ble_eq_true rfl) (Nat.le_of_ble_eq_true rfl) rfl (ls' := [_, _, _, _, _, _, _, _]) rfl (pc' := 76) rfl ?_
      refine Z_iload_n dX12_best_76 rfl (pc' := 77) rfl ?_
      cases s with
      | none =>
        refine Z_if_le dX12_best_77 (tgt := 105) rfl (pc' := 80) rfl (fun c_77 => ?_) (fun c_77 => absurd c_77 (fun c => c (by decide)))
        refine Z_bipush dX12_best_105 (v := 10) (by decide) (pc' := 107) rfl ?_
        refine Z_iload dX12_best_107 rfl (pc' := 109) rfl ?_
        refine Z_imul dX12_best_109 (pc' := 110) rfl ?_
        refine Z_iload dX12_best_110 rfl (pc' := 112) rfl ?_
        refine Z_iadd dX12_best_112 (pc' := 113) rfl ?_
        rw [show (10 : Int32) * nI r + nI b = nI (10 + (10 * (r - 1) + b)) from by rw [show (10 : Int32) = nI 10 from rfl, nI_mul, nI_add, show 10 * r + b = 10 + (10 * (r - 1) + b) by omega]]
        refine Z_istore_n dX12_best_113 (Nat.le_of_ble_eq_true rfl) (Nat.le_of_ble_eq_true rfl) rfl (ls' := [_, _, _, _, _, _, _, _]) rfl (pc' := 114) rfl ?_
        refine Z_iload dX12_best_114 rfl (pc' := 116) rfl ?_
        refine Z_istore dX12_best_116 (Nat.le_of_ble_eq_true rfl) (Nat.le_of_ble_eq_true rfl) rfl (ls' := [_, _, _, _, _, _, _, _]) rfl (pc' := 118) rfl ?_
        refine Z_iinc dX12_best_118 rfl (nI_inc b) (Nat.le_of_ble_eq_true rfl) rfl (ls' := [_, _, _, _, _, _, _, _]) rfl (pc' := 121) rfl ?_
        refine Z_goto dX12_best_121 (tgt := 43) rfl ?_
        refine Z_take 7 (ls' := [_, _, _, _, _, _, _]) rfl ?_
        rw [bsS_none] at hT
        exact ih (b + 1) (some (10 + (10 * (r - 1) + b), bsV M x (10 * (r - 1) + b))) S2 (by omega) (f.tr f2) (bsJ_s (by omega) (by omega)) hT
      | some p =>
        obtain ⟨q, a⟩ := p
        obtain ⟨hq1, hq2⟩ := hs q a rfl
        refine Z_if_le dX12_best_77 (tgt := 105) rfl (pc' := 80) rfl (fun c_77 => absurd c_77 (fun c => by have := (nI_len (b := 0) (by omega) (by decide)).mp c; omega)) (fun c_77 => ?_)
        refine Z_iload_n dX12_best_80 rfl (pc' := 81) rfl ?_
        refine Z_iconst dX12_best_81 (v := 1) (by decide) (pc' := 82) rfl ?_
        refine Z_icmp_ne dX12_best_82 (tgt := 95) rfl (pc' := 85) rfl (fun c_82 => ?_) (fun c_82 => ?_)
        · refine Z_iload dX12_best_95 rfl (pc' := 97) rfl ?_
          refine Z_iload dX12_best_97 rfl (pc' := 99) rfl ?_
          refine Z_icmp_gt dX12_best_99 (tgt := 105) rfl (pc' := 102) rfl (fun c_99 => ?_) (fun c_99 => ?_)
          · refine Z_bipush dX12_best_105 (v := 10) (by decide) (pc' := 107) rfl ?_
            refine Z_iload dX12_best_107 rfl (pc' := 109) rfl ?_
            refine Z_imul dX12_best_109 (pc' := 110) rfl ?_
            refine Z_iload dX12_best_110 rfl (pc' := 112) rfl ?_
            refine Z_iadd dX12_best_112 (pc' := 113) rfl ?_
            rw [show (10 : Int32) * nI r + nI b = nI (10 + (10 * (r - 1) + b)) from by rw [show (10 : Int32) = nI 10 from rfl, nI_mul, nI_add, show 10 * r + b = 10 + (10 * (r - 1) + b) by omega]]
            refine Z_istore_n dX12_best_113 (Nat.le_of_ble_eq_true rfl) (Nat.le_of_ble_eq_true rfl) rfl (ls' := [_, _, _, _, _, _, _, _]) rfl (pc' := 114) rfl ?_
            refine Z_iload dX12_best_114 rfl (pc' := 116) rfl ?_
            refine Z_istore dX12_best_116 (Nat.le_of_ble_eq_true rfl) (Nat.le_of_ble_eq_true rfl) rfl (ls' := [_, _, _, _, _, _, _, _]) rfl (pc' := 118) rfl ?_
            refine Z_iinc dX12_best_118 rfl (nI_inc b) (Nat.le_of_ble_eq_true rfl) rfl (ls' := [_, _, _, _, _, _, _, _]) rfl (pc' := 121) rfl ?_
            refine Z_goto dX12_best_121 (tgt := 43) rfl ?_
            refine Z_take 7 (ls' := [_, _, _, _, _, _, _]) rfl ?_
            rw [bsS_n c_82, if_pos (show a < bsV M x (10 * (r - 1) + b) from c_99)] at hT
            exact ih (b + 1) (some (10 + (10 * (r - 1) + b), bsV M x (10 * (r - 1) + b))) S2 (by omega) (f.tr f2) (bsJ_s (by omega) (by omega)) hT
          · refine Z_goto dX12_best_102 (tgt := 118) rfl ?_
            refine Z_iinc dX12_best_118 rfl (nI_inc b) (Nat.le_of_ble_eq_true rfl) rfl (ls' := [_, _, _, _, _, _, _, _]) rfl (pc' := 121) rfl ?_
            refine Z_goto dX12_best_121 (tgt := 43) rfl ?_
            refine Z_take 7 (ls' := [_, _, _, _, _, _, _]) rfl ?_
            rw [bsS_n c_82, if_neg (show ¬ a < bsV M x (10 * (r - 1) + b) from c_99)] at hT
            exact ih (b + 1) (some (q, a)) S2 (by omega) (f.tr f2) hs hT
        · refine Z_iload dX12_best_85 rfl (pc' := 87) rfl ?_
          refine Z_iload dX12_best_87 rfl (pc' := 89) rfl ?_
          refine Z_icmp_lt dX12_best_89 (tgt := 105) rfl (pc' := 92) rfl (fun c_89 => ?_) (fun c_89 => ?_)
          · refine Z_bipush dX12_best_105 (v := 10) (by decide) (pc' := 107) rfl ?_
            refine Z_iload dX12_best_107 rfl (pc' := 109) rfl ?_
            refine Z_imul dX12_best_109 (pc' := 110) rfl ?_
            refine Z_iload dX12_best_110 rfl (pc' := 112) rfl ?_
            refine Z_iadd dX12_best_112 (pc' := 113) rfl ?_
            rw [show (10 : Int32) * nI r + nI b = nI (10 + (10 * (r - 1) + b)) from by rw [show (10 : Int32) = nI 10 from rfl, nI_mul, nI_add, show 10 * r + b = 10 + (10 * (r - 1) + b) by omega]]
            refine Z_istore_n dX12_best_113 (Nat.le_of_ble_eq_true rfl) (Nat.le_of_ble_eq_true rfl) rfl (ls' := [_, _, _, _, _, _, _, _]) rfl (pc' := 114) rfl ?_
            refine Z_iload dX12_best_114 rfl (pc' := 116) rfl ?_
            refine Z_istore dX12_best_116 (Nat.le_of_ble_eq_true rfl) (Nat.le_of_ble_eq_true rfl) rfl (ls' := [_, _, _, _, _, _, _, _]) rfl (pc' := 118) rfl ?_
            refine Z_iinc dX12_best_118 rfl (nI_inc b) (Nat.le_of_ble_eq_true rfl) rfl (ls' := [_, _, _, _, _, _, _, _]) rfl (pc' := 121) rfl ?_
            refine Z_goto dX12_best_121 (tgt := 43) rfl ?_
            refine Z_take 7 (ls' := [_, _, _, _, _, _, _]) rfl ?_
            obtain rfl : x = 1 := c_82
            rw [bsS_1, if_pos (show bsV M 1 (10 * (r - 1) + b) < a from c_89)] at hT
            exact ih (b + 1) (some (10 + (10 * (r - 1) + b), bsV M 1 (10 * (r - 1) + b))) S2 (by omega) (f.tr f2) (bsJ_s (by omega) (by omega)) hT
          · refine Z_goto dX12_best_92 (tgt := 118) rfl ?_
            refine Z_iinc dX12_best_118 rfl (nI_inc b) (Nat.le_of_ble_eq_true rfl) rfl (ls' := [_, _, _, _, _, _, _, _]) rfl (pc' := 121) rfl ?_
            refine Z_goto dX12_best_121 (tgt := 43) rfl ?_
            refine Z_take 7 (ls' := [_, _, _, _, _, _, _]) rfl ?_
            obtain rfl : x = 1 := c_82
            rw [bsS_1, if_neg (show ¬ bsV M 1 (10 * (r - 1) + b) < a from c_89)] at hT
            exact ih (b + 1) (some (q, a)) S2 (by omega) (f.tr f2) hs hT
set_option maxRecDepth 100000 in
set_option maxHeartbeats 4000000 in
theorem lp_X12_best_124 {S : ZS} {n : Nat} {R : Option Value → ZW → Prop} {x y u1 u2 z : Int32} {r : Nat} (hK : Z m_X12_best 0 0 R 33 [some (.ref 25), some (.int x), some (.int y), some (.int u1), some (.int u2), some (.int (nI (r + 1)))] [] (zw S n)) : Z m_X12_best 0 0 R 124 [some (.ref 25), some (.int x), some (.int y), some (.int u1), some (.int u2), some (.int (nI r)), some (.int z)] [] (zw S n) := by
  refine Z_iinc dX12_best_124 rfl (nI_inc r) (Nat.le_of_ble_eq_true rfl) rfl (ls' := [_, _, _, _, _, _, _]) rfl (pc' := 127) rfl ?_
  refine Z_goto dX12_best_127 (tgt := 33) rfl ?_
  refine Z_take 6 (ls' := [_, _, _, _, _, _]) rfl ?_
  exact hK
set_option maxRecDepth 100000 in
set_option maxHeartbeats 4000000 in
theorem lp_X12_best {S0 : ZS} {n : Nat} {M : Ms} (hI : MI S0 M) {R : Option Value → ZW → Prop} {x y : Int32} {T : Option (Nat × Int32)} (hR : ∀ S, sfr S0 S → R (some (.int (if y = 0 then bsM T else bsA T))) (zw S n)) : ∀ (m r : Nat) (s : Option (Nat × Int32)) (S : ZS), r + m = 10 → 1 ≤ r → sfr S0 S → bsJ s → bsF (bsV M x) x (10 * m) (10 * (r - 1)) s = T → Z m_X12_best 0 0 R 33 [some (.ref 25), some (.int x), some (.int y), some (.int (bsM s)), some (.int (bsA s)), some (.int (nI r))] [] (zw S n) := by
  intro m
  induction m with
  | zero =>
    intro r s S h h1 f hs hT
    obtain rfl : r = 10 := by omega
    obtain rfl : s = T := by rw [Nat.mul_zero] at hT; exact hT
    refine Z_iload dX12_best_33 rfl (pc' := 35) rfl ?_
    refine Z_bipush dX12_best_35 (v := 9) (by decide) (pc' := 37) rfl ?_
    refine Z_icmp_gt dX12_best_37 (tgt := 130) rfl (pc' := 40) rfl (fun c_37 => ?_) (fun c_37 => absurd c_37 (fun c => c (by decide)))
    refine Z_iload_n dX12_best_130 rfl (pc' := 131) rfl ?_
    refine Z_if_ne dX12_best_131 (tgt := 138) rfl (pc' := 134) rfl (fun c_131 => ?_) (fun c_131 => ?_)
    · refine Z_iload dX12_best_138 rfl (pc' := 140) rfl ?_
      exact Z_ireturn dX12_best_140 rfl rfl (by have := hR S f; rw [if_neg c_131] at this; exact this)
    · refine Z_iload_n dX12_best_134 rfl (pc' := 135) rfl ?_
      refine Z_goto dX12_best_135 (tgt := 140) rfl ?_
      exact Z_ireturn dX12_best_140 rfl rfl (by have := hR S f; rw [if_pos c_131] at this; exact this)
  | succ m ih =>
    intro r s S h h1 f hs hT
    refine Z_iload dX12_best_33 rfl (pc' := 35) rfl ?_
    refine Z_bipush dX12_best_35 (v := 9) (by decide) (pc' := 37) rfl ?_
    refine Z_icmp_gt dX12_best_37 (tgt := 130) rfl (pc' := 40) rfl (fun c_37 => absurd c_37 (by rw [nI9, nI_ltn (by omega) (by omega)]; omega)) (fun c_37 => ?_)
    refine Z_iconst dX12_best_40 (v := 0) (by decide) (pc' := 41) rfl ?_
    refine Z_istore dX12_best_41 (Nat.le_of_ble_eq_true rfl) (Nat.le_of_ble_eq_true rfl) rfl (ls' := [_, _, _, _, _, _, _]) rfl (pc' := 43) rfl ?_
    refine lp_X12_best_b hI (T := T) h1 (by omega) (fun s2 S2 f2 hs2 hT2 => ?_) 10 0 s S rfl f hs (by rw [show 90 - 10 * r + 10 = 10 * (m + 1) by omega]; exact hT)
    exact lp_X12_best_124 (ih (r + 1) s2 S2 (by omega) (by omega) f2 hs2 (by rw [show 10 * m = 90 - 10 * r by omega, show 10 * (r + 1 - 1) = 10 * r by omega]; exact hT2))
set_option maxRecDepth 100000 in
set_option maxHeartbeats 4000000 in
theorem c_X12_best {S : ZS} {n : Nat} {M : Ms} (hI : MI S M) {a b0 : Int32} : zM m_X12_best 0 0 [.ref 25, .int a, .int b0] (zw S n) (qR S n (spBest M a b0)) := by
  show Z m_X12_best _ _ _ 0 [some (.ref _), some (.int _), some (.int _)] [] _
  refine Z_iload_n dX12_best_0 rfl (pc' := 1) rfl ?_
  refine Z_iconst dX12_best_1 (v := 0) (by decide) (pc' := 2) rfl ?_
  refine Z_iconst dX12_best_2 (v := 2) (by decide) (pc' := 3) rfl ?_
  refine Z_cSe dX12_best_3 rfl zcw_X12_isIn (As := [_, _, _]) (rest := []) rfl ⟨Nat.le_of_ble_eq_true rfl, Nat.le_of_ble_eq_true rfl⟩ (Nat.le_of_ble_eq_true rfl) ⟨zcw_X12_isIn.2.2.2.2, Nat.le_of_ble_eq_true rfl⟩ zk_RX12_96 c_X12_isIn (pc' := 6) rfl ?_
  rcases in_cases a 0 2 with ⟨e, h1, h2⟩ | ⟨e, h⟩
  · rw [e]
    refine Z_if_eq dX12_best_6 (tgt := 18) rfl (pc' := 9) rfl (fun c_6 => absurd c_6 (by decide)) (fun c_6 => ?_)
    refine Z_iload_n dX12_best_9 rfl (pc' := 10) rfl ?_
    refine Z_iconst dX12_best_10 (v := 0) (by decide) (pc' := 11) rfl ?_
    refine Z_iconst dX12_best_11 (v := 1) (by decide) (pc' := 12) rfl ?_
    refine Z_cSe dX12_best_12 rfl zcw_X12_isIn (As := [_, _, _]) (rest := []) rfl ⟨Nat.le_of_ble_eq_true rfl, Nat.le_of_ble_eq_true rfl⟩ (Nat.le_of_ble_eq_true rfl) ⟨zcw_X12_isIn.2.2.2.2, Nat.le_of_ble_eq_true rfl⟩ zk_RX12_96 c_X12_isIn (pc' := 15) rfl ?_
    rcases in_cases b0 0 1 with ⟨e2, h3, h4⟩ | ⟨e2, h⟩
    · rw [e2]
      refine Z_if_ne dX12_best_15 (tgt := 25) rfl (pc' := 18) rfl (fun c_15 => ?_) (fun c_15 => absurd c_15 (by decide))
      refine Z_iconst dX12_best_25 (v := 0) (by decide) (pc' := 26) rfl ?_
      refine Z_istore_n dX12_best_26 (Nat.le_of_ble_eq_true rfl) (Nat.le_of_ble_eq_true rfl) rfl (ls' := [_, _, _, _]) rfl (pc' := 27) rfl ?_
      refine Z_iconst dX12_best_27 (v := 0) (by decide) (pc' := 28) rfl ?_
      refine Z_istore dX12_best_28 (Nat.le_of_ble_eq_true rfl) (Nat.le_of_ble_eq_true rfl) rfl (ls' := [_, _, _, _, _]) rfl (pc' := 30) rfl ?_
      refine Z_iconst dX12_best_30 (v := 1) (by decide) (pc' := 31) rfl ?_
      refine Z_istore dX12_best_31 (Nat.le_of_ble_eq_true rfl) (Nat.le_of_ble_eq_true rfl) rfl (ls' := [_, _, _, _, _, _]) rfl (pc' := 33) rfl ?_
      obtain ⟨p, hp⟩ := bsF_sm (bsV M a) a 90 0 none (Or.inl (by decide))
      refine lp_X12_best hI (T := bsF (bsV M a) a 90 0 none) (fun S f => qR.st hI f (by unfold spBest; rw [if_neg (n_or h1 (n_or h2 (n_or h3 h4))), hp]; rfl)) 9 1 none S rfl (by omega) sfr.rf bsJ_n (by rw [show 10 * 9 = 90 from rfl, show 10 * (1 - 1) = 0 from rfl])
    · rw [e2]
      refine Z_if_ne dX12_best_15 (tgt := 25) rfl (pc' := 18) rfl (fun c_15 => absurd c_15 (fun q => q rfl)) (fun c_15 => ?_)
      refine Z_aload_n dX12_best_18 rfl (z_isref _) (pc' := 19) rfl ?_
      refine Z_bipush dX12_best_19 (v := (-2)) (by decide) (pc' := 21) rfl ?_
      refine Z_cVe dX12_best_21 rfl zcw_X12_no (As := [_]) (rest := []) rfl ⟨Nat.le_of_ble_eq_true rfl, Nat.le_of_ble_eq_true rfl⟩ (Nat.le_of_ble_eq_true rfl) (zRcv.lay zob_25) ⟨zcw_X12_no.2.2.2.2, Nat.le_of_ble_eq_true rfl⟩ zk_RX12_85 (c_X12_no (k := 2) (by decide) (by decide)) (pc' := 24) rfl ?_
      exact Z_ireturn dX12_best_24 rfl rfl (qR.no hI sfr.rf (by decide) (by unfold spBest; rw [if_pos (Or.inr (Or.inr h))]))
  · rw [e]
    refine Z_if_eq dX12_best_6 (tgt := 18) rfl (pc' := 9) rfl (fun c_6 => ?_) (fun c_6 => absurd c_6 (fun q => q rfl))
    refine Z_aload_n dX12_best_18 rfl (z_isref _) (pc' := 19) rfl ?_
    refine Z_bipush dX12_best_19 (v := (-2)) (by decide) (pc' := 21) rfl ?_
    refine Z_cVe dX12_best_21 rfl zcw_X12_no (As := [_]) (rest := []) rfl ⟨Nat.le_of_ble_eq_true rfl, Nat.le_of_ble_eq_true rfl⟩ (Nat.le_of_ble_eq_true rfl) (zRcv.lay zob_25) ⟨zcw_X12_no.2.2.2.2, Nat.le_of_ble_eq_true rfl⟩ zk_RX12_85 (c_X12_no (k := 2) (by decide) (by decide)) (pc' := 24) rfl ?_
    exact Z_ireturn dX12_best_24 rfl rfl (qR.no hI sfr.rf (by decide) (by unfold spBest; rw [if_pos (h.elim Or.inl (fun q => Or.inr (Or.inl q)))]))
set_option maxRecDepth 100000 in
set_option maxHeartbeats 4000000 in
theorem lp_X12_span {S0 : ZS} {n : Nat} {M : Ms} (hI : MI S0 M) {R : Option Value → ZW → Prop} {r rf : Int32} {T : Int32 × Int32} (hR : ∀ S, sfr S0 S → R (some (.int (T.1 - T.2))) (zw S n)) : ∀ (m b : Nat) (p q : Int32) (S : ZS), b + m = 10 → sfr S0 S → snF (mlS (mc M) (mcf M) r) m b (p, q) = T → Z m_X12_span 0 0 R 31 [some (.ref 25), some (.int r), some (.int rf), some (.int q), some (.int p), some (.int (nI b))] [] (zw S n) := by
  intro m
  induction m with
  | zero =>
    intro b p q S h f hT
    obtain rfl : b = 10 := by omega
    obtain rfl : (p, q) = T := hT
    refine Z_iload dX12_span_31 rfl (pc' := 33) rfl ?_
    refine Z_bipush dX12_span_33 (v := 9) (by decide) (pc' := 35) rfl ?_
    refine Z_icmp_gt dX12_span_35 (tgt := 82) rfl (pc' := 38) rfl (fun c_35 => ?_) (fun c_35 => absurd c_35 (fun c => c (by decide)))
    refine Z_iload dX12_span_82 rfl (pc' := 84) rfl ?_
    refine Z_iload_n dX12_span_84 rfl (pc' := 85) rfl ?_
    refine Z_isub dX12_span_85 (pc' := 86) rfl ?_
    exact Z_ireturn dX12_span_86 rfl rfl (hR S f)
  | succ m ih =>
    intro b p q S h f hT
    unfold snF at hT
    simp only [] at hT
    refine Z_iload dX12_span_31 rfl (pc' := 33) rfl ?_
    refine Z_bipush dX12_span_33 (v := 9) (by decide) (pc' := 35) rfl ?_
    refine Z_icmp_gt dX12_span_35 (tgt := 82) rfl (pc' := 38) rfl (fun c_35 => absurd c_35 (by rw [nI9, nI_ltn (by omega) (by omega)]; omega)) (fun c_35 => ?_)
    refine Z_aload_n dX12_span_38 rfl (z_isref _) (pc' := 39) rfl ?_
    refine Z_iload_n dX12_span_39 rfl (pc' := 40) rfl ?_
    refine Z_iload dX12_span_40 rfl (pc' := 42) rfl ?_
    refine Z_cV dX12_span_42 rfl zcw_X12_miles (As := [_, _]) (rest := []) rfl ⟨Nat.le_of_ble_eq_true rfl, Nat.le_of_ble_eq_true rfl⟩ (Nat.le_of_ble_eq_true rfl) (zRcv.lay zob_25) ⟨zcw_X12_miles.2.2.2.2, Nat.le_of_ble_eq_true rfl⟩ zk_RX12_192 (c_X12_miles (f.mv hI.mv) hI.ok (by omega)) (pc' := 45) rfl (fun r_42 w_42 h_42 => ?_)
    obtain ⟨rfl, S2, rfl, f2, s2, w2⟩ := h_42
    show Z _ _ _ _ _ _ (.int (mlS (mc M) (mcf M) r b) :: []) _
    refine Z_istore dX12_span_45 (Nat.le_of_ble_eq_true rfl) (Nat.le_of_ble_eq_true rfl) rfl (ls' := [_, _, _, _, _, _, _]) rfl (pc' := 47) rfl ?_
    refine Z_iload dX12_span_47 rfl (pc' := 49) rfl ?_
    refine Z_iload_n dX12_span_49 rfl (pc' := 50) rfl ?_
    refine Z_icmp_ge dX12_span_50 (tgt := 58) rfl (pc' := 53) rfl (fun c_50 => ?_) (fun c_50 => ?_)
    · refine Z_iload_n dX12_span_58 rfl (pc' := 59) rfl ?_
      refine Z_istore_n dX12_span_59 (Nat.le_of_ble_eq_true rfl) (Nat.le_of_ble_eq_true rfl) rfl (ls' := [_, _, _, _, _, _, _]) rfl (pc' := 60) rfl ?_
      refine Z_iload dX12_span_60 rfl (pc' := 62) rfl ?_
      refine Z_iload dX12_span_62 rfl (pc' := 64) rfl ?_
      refine Z_icmp_le dX12_span_64 (tgt := 72) rfl (pc' := 67) rfl (fun c_64 => ?_) (fun c_64 => ?_)
      · refine Z_iload dX12_span_72 rfl (pc' := 74) rfl ?_
        refine Z_istore dX12_span_74 (Nat.le_of_ble_eq_true rfl) (Nat.le_of_ble_eq_true rfl) rfl (ls' := [_, _, _, _, _, _, _]) rfl (pc' := 76) rfl ?_
        refine Z_iinc dX12_span_76 rfl (nI_inc b) (Nat.le_of_ble_eq_true rfl) rfl (ls' := [_, _, _, _, _, _, _]) rfl (pc' := 79) rfl ?_
        refine Z_goto dX12_span_79 (tgt := 31) rfl ?_
        refine Z_take 6 (ls' := [_, _, _, _, _, _]) rfl ?_
        rw [if_neg (i_nlt c_64), if_neg (i_nlt c_50)] at hT
        exact ih (b + 1) _ _ S2 (by omega) (f.tr f2) hT
      · refine Z_iload dX12_span_67 rfl (pc' := 69) rfl ?_
        refine Z_goto dX12_span_69 (tgt := 74) rfl ?_
        refine Z_istore dX12_span_74 (Nat.le_of_ble_eq_true rfl) (Nat.le_of_ble_eq_true rfl) rfl (ls' := [_, _, _, _, _, _, _]) rfl (pc' := 76) rfl ?_
        refine Z_iinc dX12_span_76 rfl (nI_inc b) (Nat.le_of_ble_eq_true rfl) rfl (ls' := [_, _, _, _, _, _, _]) rfl (pc' := 79) rfl ?_
        refine Z_goto dX12_span_79 (tgt := 31) rfl ?_
        refine Z_take 6 (ls' := [_, _, _, _, _, _]) rfl ?_
        rw [if_pos (i_lt c_64), if_neg (i_nlt c_50)] at hT
        exact ih (b + 1) _ _ S2 (by omega) (f.tr f2) hT
    · refine Z_iload dX12_span_53 rfl (pc' := 55) rfl ?_
      refine Z_goto dX12_span_55 (tgt := 59) rfl ?_
      refine Z_istore_n dX12_span_59 (Nat.le_of_ble_eq_true rfl) (Nat.le_of_ble_eq_true rfl) rfl (ls' := [_, _, _, _, _, _, _]) rfl (pc' := 60) rfl ?_
      refine Z_iload dX12_span_60 rfl (pc' := 62) rfl ?_
      refine Z_iload dX12_span_62 rfl (pc' := 64) rfl ?_
      refine Z_icmp_le dX12_span_64 (tgt := 72) rfl (pc' := 67) rfl (fun c_64 => ?_) (fun c_64 => ?_)
      · refine Z_iload dX12_span_72 rfl (pc' := 74) rfl ?_
        refine Z_istore dX12_span_74 (Nat.le_of_ble_eq_true rfl) (Nat.le_of_ble_eq_true rfl) rfl (ls' := [_, _, _, _, _, _, _]) rfl (pc' := 76) rfl ?_
        refine Z_iinc dX12_span_76 rfl (nI_inc b) (Nat.le_of_ble_eq_true rfl) rfl (ls' := [_, _, _, _, _, _, _]) rfl (pc' := 79) rfl ?_
        refine Z_goto dX12_span_79 (tgt := 31) rfl ?_
        refine Z_take 6 (ls' := [_, _, _, _, _, _]) rfl ?_
        rw [if_neg (i_nlt c_64), if_pos (i_lt c_50)] at hT
        exact ih (b + 1) _ _ S2 (by omega) (f.tr f2) hT
      · refine Z_iload dX12_span_67 rfl (pc' := 69) rfl ?_
        refine Z_goto dX12_span_69 (tgt := 74) rfl ?_
        refine Z_istore dX12_span_74 (Nat.le_of_ble_eq_true rfl) (Nat.le_of_ble_eq_true rfl) rfl (ls' := [_, _, _, _, _, _, _]) rfl (pc' := 76) rfl ?_
        refine Z_iinc dX12_span_76 rfl (nI_inc b) (Nat.le_of_ble_eq_true rfl) rfl (ls' := [_, _, _, _, _, _, _]) rfl (pc' := 79) rfl ?_
        refine Z_goto dX12_span_79 (tgt := 31) rfl ?_
        refine Z_take 6 (ls' := [_, _, _, _, _, _]) rfl ?_
        rw [if_pos (i_lt c_64), if_pos (i_lt c_50)] at hT
        exact ih (b + 1) _ _ S2 (by omega) (f.tr f2) hT
set_option maxRecDepth 100000 in
set_option maxHeartbeats 4000000 in
theorem c_X12_span {S : ZS} {n : Nat} {M : Ms} (hI : MI S M) {a : Int32} : zM m_X12_span 0 0 [.ref 25, .int a] (zw S n) (qR S n (spSpan M a)) := by
  show Z m_X12_span _ _ _ 0 [some (.ref _), some (.int _)] [] _
  refine Z_iload_n dX12_span_0 rfl (pc' := 1) rfl ?_
  refine Z_iconst dX12_span_1 (v := 1) (by decide) (pc' := 2) rfl ?_
  refine Z_bipush dX12_span_2 (v := 9) (by decide) (pc' := 4) rfl ?_
  refine Z_cSe dX12_span_4 rfl zcw_X12_bound (As := [_, _, _]) (rest := []) rfl ⟨Nat.le_of_ble_eq_true rfl, Nat.le_of_ble_eq_true rfl⟩ (Nat.le_of_ble_eq_true rfl) ⟨zcw_X12_bound.2.2.2.2, Nat.le_of_ble_eq_true rfl⟩ zk_RX12_77 c_X12_bound (pc' := 7) rfl ?_
  rw [bo_wr1]
  refine Z_istore_n dX12_span_7 (Nat.le_of_ble_eq_true rfl) (Nat.le_of_ble_eq_true rfl) rfl (ls' := [_, _, _]) rfl (pc' := 8) rfl ?_
  refine Z_iload_n dX12_span_8 rfl (pc' := 9) rfl ?_
  refine Z_if_eq dX12_span_9 (tgt := 18) rfl (pc' := 12) rfl (fun c_9 => ?_) (fun c_9 => ?_)
  · have c0 := c_9
    obtain ⟨r, b, hr1, hr9, hb9, rfl, hb0⟩ := wrI_0 c_9
    refine Z_aload_n dX12_span_18 rfl (z_isref _) (pc' := 19) rfl ?_
    refine Z_iload_n dX12_span_19 rfl (pc' := 20) rfl ?_
    refine Z_iconst dX12_span_20 (v := 0) (by decide) (pc' := 21) rfl ?_
    refine Z_cV dX12_span_21 rfl zcw_X12_miles (As := [_, _]) (rest := []) rfl ⟨Nat.le_of_ble_eq_true rfl, Nat.le_of_ble_eq_true rfl⟩ (Nat.le_of_ble_eq_true rfl) (zRcv.lay zob_25) ⟨zcw_X12_miles.2.2.2.2, Nat.le_of_ble_eq_true rfl⟩ zk_RX12_192 (c_X12_miles (b := 0) hI.mv hI.ok (by omega)) (pc' := 24) rfl (fun r_21 w_21 h_21 => ?_)
    obtain ⟨rfl, S2, rfl, f2, s2, w2⟩ := h_21
    show Z _ _ _ _ _ _ (.int (mlS (mc M) (mcf M) (nI r) 0) :: []) _
    refine Z_istore_n dX12_span_24 (Nat.le_of_ble_eq_true rfl) (Nat.le_of_ble_eq_true rfl) rfl (ls' := [_, _, _, _]) rfl (pc' := 25) rfl ?_
    refine Z_iload_n dX12_span_25 rfl (pc' := 26) rfl ?_
    refine Z_istore dX12_span_26 (Nat.le_of_ble_eq_true rfl) (Nat.le_of_ble_eq_true rfl) rfl (ls' := [_, _, _, _, _]) rfl (pc' := 28) rfl ?_
    refine Z_iconst dX12_span_28 (v := 1) (by decide) (pc' := 29) rfl ?_
    refine Z_istore dX12_span_29 (Nat.le_of_ble_eq_true rfl) (Nat.le_of_ble_eq_true rfl) rfl (ls' := [_, _, _, _, _, _]) rfl (pc' := 31) rfl ?_
    exact lp_X12_span hI (T := snF (mlS (mc M) (mcf M) (nI r)) 9 1 (mlS (mc M) (mcf M) (nI r) 0, mlS (mc M) (mcf M) (nI r) 0)) (fun S3 f3 => qR.st hI f3 (by unfold spSpan; rw [if_neg (fun h => h c0)])) 9 1 _ _ S2 rfl f2 rfl
  · obtain ⟨k, hk, hx, hy⟩ := wrI_k c_9
    refine Z_aload_n dX12_span_12 rfl (z_isref _) (pc' := 13) rfl ?_
    refine Z_iload_n dX12_span_13 rfl (pc' := 14) rfl ?_
    refine Z_cVe dX12_span_14 rfl zcw_X12_no (As := [_]) (rest := []) rfl ⟨Nat.le_of_ble_eq_true rfl, Nat.le_of_ble_eq_true rfl⟩ (Nat.le_of_ble_eq_true rfl) (zRcv.lay zob_25) ⟨zcw_X12_no.2.2.2.2, Nat.le_of_ble_eq_true rfl⟩ zk_RX12_85 (c_X12_no hk hx) (pc' := 17) rfl ?_
    exact Z_ireturn dX12_span_17 rfl rfl (qR.no hI sfr.rf hk (by unfold spSpan noV; rw [if_pos c_9, hy]))
set_option maxRecDepth 100000 in
set_option maxHeartbeats 4000000 in
theorem lp_X12_finer {S0 : ZS} {n : Nat} {M : Ms} (hI : MI S0 M) {R : Option Value → ZW → Prop} {b : Nat} {rf : Int32} (hb : b ≤ 9) {T : Nat} (hR : ∀ S, sfr S0 S → R (some (.int (nI T))) (zw S n)) : ∀ (m r q : Nat) (S : ZS), r + m = 10 → 2 ≤ r → sfr S0 S → fnF (fun r => mlS (mc M) (mcf M) (nI r) b) m r q = T → Z m_X12_finer 0 0 R 23 [some (.ref 25), some (.int (nI b)), some (.int rf), some (.int (nI q)), some (.int (nI r))] [] (zw S n) := by
  intro m
  induction m with
  | zero =>
    intro r q S h h2 f hT
    obtain rfl : r = 10 := by omega
    obtain rfl : q = T := hT
    refine Z_iload dX12_finer_23 rfl (pc' := 25) rfl ?_
    refine Z_bipush dX12_finer_25 (v := 9) (by decide) (pc' := 27) rfl ?_
    refine Z_icmp_gt dX12_finer_27 (tgt := 63) rfl (pc' := 30) rfl (fun c_27 => ?_) (fun c_27 => absurd c_27 (fun c => c (by decide)))
    refine Z_iload_n dX12_finer_63 rfl (pc' := 64) rfl ?_
    exact Z_ireturn dX12_finer_64 rfl rfl (hR S f)
  | succ m ih =>
    intro r q S h h2 f hT
    unfold fnF at hT
    refine Z_iload dX12_finer_23 rfl (pc' := 25) rfl ?_
    refine Z_bipush dX12_finer_25 (v := 9) (by decide) (pc' := 27) rfl ?_
    refine Z_icmp_gt dX12_finer_27 (tgt := 63) rfl (pc' := 30) rfl (fun c_27 => absurd c_27 (by rw [nI9, nI_ltn (by omega) (by omega)]; omega)) (fun c_27 => ?_)
    refine Z_iload_n dX12_finer_30 rfl (pc' := 31) rfl ?_
    refine Z_aload_n dX12_finer_31 rfl (z_isref _) (pc' := 32) rfl ?_
    refine Z_iload dX12_finer_32 rfl (pc' := 34) rfl ?_
    refine Z_iload_n dX12_finer_34 rfl (pc' := 35) rfl ?_
    refine Z_cV dX12_finer_35 rfl zcw_X12_miles (As := [_, _]) (rest := [_]) rfl ⟨Nat.le_of_ble_eq_true rfl, Nat.le_of_ble_eq_true rfl⟩ (Nat.le_of_ble_eq_true rfl) (zRcv.lay zob_25) ⟨zcw_X12_miles.2.2.2.2, Nat.le_of_ble_eq_true rfl⟩ zk_RX12_192 (c_X12_miles (f.mv hI.mv) hI.ok (by omega)) (pc' := 38) rfl (fun r_35 w_35 h_35 => ?_)
    obtain ⟨rfl, S2, rfl, f2, s2, w2⟩ := h_35
    show Z _ _ _ _ _ _ [.int (mlS (mc M) (mcf M) (nI r) b), _] _
    refine Z_aload_n dX12_finer_38 rfl (z_isref _) (pc' := 39) rfl ?_
    refine Z_iload dX12_finer_39 rfl (pc' := 41) rfl ?_
    refine Z_iconst dX12_finer_41 (v := 1) (by decide) (pc' := 42) rfl ?_
    refine Z_isub dX12_finer_42 (pc' := 43) rfl ?_
    first | rw [nI_sub1 (by omega)] | skip
    refine Z_iload_n dX12_finer_43 rfl (pc' := 44) rfl ?_
    refine Z_cV dX12_finer_44 rfl zcw_X12_miles (As := [_, _]) (rest := [_, _]) rfl ⟨Nat.le_of_ble_eq_true rfl, Nat.le_of_ble_eq_true rfl⟩ (Nat.le_of_ble_eq_true rfl) (zRcv.lay zob_25) ⟨zcw_X12_miles.2.2.2.2, Nat.le_of_ble_eq_true rfl⟩ zk_RX12_192 (c_X12_miles (f2.mv (f.mv hI.mv)) hI.ok (by omega)) (pc' := 47) rfl (fun r_44 w_44 h_44 => ?_)
    obtain ⟨rfl, S3, rfl, f3, s3, w3⟩ := h_44
    show Z _ _ _ _ _ _ [.int (mlS (mc M) (mcf M) (nI (r - 1)) b), .int (mlS (mc M) (mcf M) (nI r) b), _] _
    refine Z_icmp_le dX12_finer_47 (tgt := 54) rfl (pc' := 50) rfl (fun c_47 => ?_) (fun c_47 => ?_)
    · refine Z_iconst dX12_finer_54 (v := 0) (by decide) (pc' := 55) rfl ?_
      refine Z_iadd dX12_finer_55 (pc' := 56) rfl ?_
      first | rw [show nI q + 1 = nI (q + 1) from nI_inc q] | rw [Int32.add_zero]
      refine Z_istore_n dX12_finer_56 (Nat.le_of_ble_eq_true rfl) (Nat.le_of_ble_eq_true rfl) rfl (ls' := [_, _, _, _, _]) rfl (pc' := 57) rfl ?_
      refine Z_iinc dX12_finer_57 rfl (nI_inc r) (Nat.le_of_ble_eq_true rfl) rfl (ls' := [_, _, _, _, _]) rfl (pc' := 60) rfl ?_
      refine Z_goto dX12_finer_60 (tgt := 23) rfl ?_
      refine Z_take 5 (ls' := [_, _, _, _, _]) rfl ?_
      rw [if_neg (show ¬ mlS (mc M) (mcf M) (nI (r - 1)) b < mlS (mc M) (mcf M) (nI r) b from i_nlt c_47)] at hT
      exact ih (r + 1) q S3 (by omega) (by omega) ((f.tr f2).tr f3) hT
    · refine Z_iconst dX12_finer_50 (v := 1) (by decide) (pc' := 51) rfl ?_
      refine Z_goto dX12_finer_51 (tgt := 55) rfl ?_
      refine Z_iadd dX12_finer_55 (pc' := 56) rfl ?_
      first | rw [show nI q + 1 = nI (q + 1) from nI_inc q] | rw [Int32.add_zero]
      refine Z_istore_n dX12_finer_56 (Nat.le_of_ble_eq_true rfl) (Nat.le_of_ble_eq_true rfl) rfl (ls' := [_, _, _, _, _]) rfl (pc' := 57) rfl ?_
      refine Z_iinc dX12_finer_57 rfl (nI_inc r) (Nat.le_of_ble_eq_true rfl) rfl (ls' := [_, _, _, _, _]) rfl (pc' := 60) rfl ?_
      refine Z_goto dX12_finer_60 (tgt := 23) rfl ?_
      refine Z_take 5 (ls' := [_, _, _, _, _]) rfl ?_
      rw [if_pos (show mlS (mc M) (mcf M) (nI (r - 1)) b < mlS (mc M) (mcf M) (nI r) b from i_lt c_47)] at hT
      exact ih (r + 1) (q + 1) S3 (by omega) (by omega) ((f.tr f2).tr f3) hT
set_option maxRecDepth 100000 in
set_option maxHeartbeats 4000000 in
theorem c_X12_finer {S : ZS} {n : Nat} {M : Ms} (hI : MI S M) {a : Int32} : zM m_X12_finer 0 0 [.ref 25, .int a] (zw S n) (qR S n (spFiner M a)) := by
  show Z m_X12_finer _ _ _ 0 [some (.ref _), some (.int _)] [] _
  refine Z_iload_n dX12_finer_0 rfl (pc' := 1) rfl ?_
  refine Z_iconst dX12_finer_1 (v := 0) (by decide) (pc' := 2) rfl ?_
  refine Z_bipush dX12_finer_2 (v := 9) (by decide) (pc' := 4) rfl ?_
  refine Z_cSe dX12_finer_4 rfl zcw_X12_bound (As := [_, _, _]) (rest := []) rfl ⟨Nat.le_of_ble_eq_true rfl, Nat.le_of_ble_eq_true rfl⟩ (Nat.le_of_ble_eq_true rfl) ⟨zcw_X12_bound.2.2.2.2, Nat.le_of_ble_eq_true rfl⟩ zk_RX12_77 c_X12_bound (pc' := 7) rfl ?_
  rw [bo_wr2]
  refine Z_istore_n dX12_finer_7 (Nat.le_of_ble_eq_true rfl) (Nat.le_of_ble_eq_true rfl) rfl (ls' := [_, _, _]) rfl (pc' := 8) rfl ?_
  refine Z_iload_n dX12_finer_8 rfl (pc' := 9) rfl ?_
  refine Z_if_eq dX12_finer_9 (tgt := 18) rfl (pc' := 12) rfl (fun c_9 => ?_) (fun c_9 => ?_)
  · have c0 := c_9
    obtain ⟨r, b, hr1, hr9, hb9, hr0, rfl⟩ := wrI_0 c_9
    refine Z_iconst dX12_finer_18 (v := 0) (by decide) (pc' := 19) rfl ?_
    refine Z_istore_n dX12_finer_19 (Nat.le_of_ble_eq_true rfl) (Nat.le_of_ble_eq_true rfl) rfl (ls' := [_, _, _, _]) rfl (pc' := 20) rfl ?_
    refine Z_iconst dX12_finer_20 (v := 2) (by decide) (pc' := 21) rfl ?_
    refine Z_istore dX12_finer_21 (Nat.le_of_ble_eq_true rfl) (Nat.le_of_ble_eq_true rfl) rfl (ls' := [_, _, _, _, _]) rfl (pc' := 23) rfl ?_
    exact lp_X12_finer hI hb9 (T := fnF (fun r => mlS (mc M) (mcf M) (nI r) b) 8 2 0) (fun S3 f3 => qR.st hI f3 (by unfold spFiner; rw [if_neg (fun h => h c0), nI_nat (by omega)])) 8 2 0 S rfl (by omega) sfr.rf rfl
  · obtain ⟨k, hk, hx, hy⟩ := wrI_k c_9
    refine Z_aload_n dX12_finer_12 rfl (z_isref _) (pc' := 13) rfl ?_
    refine Z_iload_n dX12_finer_13 rfl (pc' := 14) rfl ?_
    refine Z_cVe dX12_finer_14 rfl zcw_X12_no (As := [_]) (rest := []) rfl ⟨Nat.le_of_ble_eq_true rfl, Nat.le_of_ble_eq_true rfl⟩ (Nat.le_of_ble_eq_true rfl) (zRcv.lay zob_25) ⟨zcw_X12_no.2.2.2.2, Nat.le_of_ble_eq_true rfl⟩ zk_RX12_85 (c_X12_no hk hx) (pc' := 17) rfl ?_
    exact Z_ireturn dX12_finer_17 rfl rfl (qR.no hI sfr.rf hk (by unfold spFiner noV; rw [if_pos c_9, hy]))
set_option maxRecDepth 100000 in
set_option maxHeartbeats 4000000 in
theorem c_X12_cut {S : ZS} {n : Nat} {M : Ms} (hI : MI S M) {s a : Int32} : zM m_X12_cut 0 0 [.ref 25, .int s, .int a] (zw S n) (qR S n (spCut M s a)) := by
  show Z m_X12_cut _ _ _ 0 [some (.ref _), some (.int _), some (.int _)] [] _
  refine Z_aload_n dX12_cut_0 rfl (z_isref _) (pc' := 1) rfl ?_
  refine Z_iload_n dX12_cut_1 rfl (pc' := 2) rfl ?_
  refine Z_cVe dX12_cut_2 rfl zcw_X12_isStretch (As := [_]) (rest := []) rfl ⟨Nat.le_of_ble_eq_true rfl, Nat.le_of_ble_eq_true rfl⟩ (Nat.le_of_ble_eq_true rfl) (zRcv.lay zob_25) ⟨zcw_X12_isStretch.2.2.2.2, Nat.le_of_ble_eq_true rfl⟩ zk_RX12_160 (c_X12_isStretch hI.mv hI.ok) (pc' := 5) rfl ?_
  rcases idx_cases s (N := cns (mc M)) (by have := hI.ok.1; have := hI.ok.2.1; have := hI.ok.2.2.1; omega) with ⟨k, hk, rfl, e1⟩ | ⟨h, e1⟩
  · rw [e1]
    refine Z_if_ne dX12_cut_5 (tgt := 12) rfl (pc' := 8) rfl (fun c_5 => ?_) (fun c_5 => absurd c_5 (zb_st))
    refine Z_iload_n dX12_cut_12 rfl (pc' := 13) rfl ?_
    refine Z_iconst dX12_cut_13 (v := 1) (by decide) (pc' := 14) rfl ?_
    refine Z_bipush dX12_cut_14 (v := 9) (by decide) (pc' := 16) rfl ?_
    refine Z_cSe dX12_cut_16 rfl zcw_X12_bound (As := [_, _, _]) (rest := []) rfl ⟨Nat.le_of_ble_eq_true rfl, Nat.le_of_ble_eq_true rfl⟩ (Nat.le_of_ble_eq_true rfl) ⟨zcw_X12_bound.2.2.2.2, Nat.le_of_ble_eq_true rfl⟩ zk_RX12_77 c_X12_bound (pc' := 19) rfl ?_
    rw [bo_wr1]
    refine Z_istore_n dX12_cut_19 (Nat.le_of_ble_eq_true rfl) (Nat.le_of_ble_eq_true rfl) rfl (ls' := [_, _, _, _]) rfl (pc' := 20) rfl ?_
    refine Z_iload_n dX12_cut_20 rfl (pc' := 21) rfl ?_
    refine Z_if_eq dX12_cut_21 (tgt := 32) rfl (pc' := 24) rfl (fun c_21 => ?_) (fun c_21 => ?_)
    · refine Z_aload_n dX12_cut_32 rfl (z_isref _) (pc' := 33) rfl ?_
      refine Z_iload_n dX12_cut_33 rfl (pc' := 34) rfl ?_
      refine Z_iload_n dX12_cut_34 rfl (pc' := 35) rfl ?_
      refine Z_cV dX12_cut_35 rfl zcw_X12_milesWithout (As := [_, _]) (rest := []) rfl ⟨Nat.le_of_ble_eq_true rfl, Nat.le_of_ble_eq_true rfl⟩ (Nat.le_of_ble_eq_true rfl) (zRcv.lay zob_25) ⟨zcw_X12_milesWithout.2.2.2.2, Nat.le_of_ble_eq_true rfl⟩ zk_RX12_231 (c_X12_milesWithout hI.mv hI.ok hk) (pc' := 38) rfl (fun r_35 w_35 h_35 => ?_)
      obtain ⟨rfl, S2, rfl, f2⟩ := h_35
      show Z _ _ _ _ _ _ (.int (cuS M k a) :: []) _
      exact Z_ireturn dX12_cut_38 rfl rfl (qR.st hI f2 (by unfold spCut; rw [e1]; simp only []; rw [if_neg (fun h => h c_21)]))
    · obtain ⟨k1, hk1, hx, hy⟩ := wrI_k c_21
      refine Z_aload_n dX12_cut_24 rfl (z_isref _) (pc' := 25) rfl ?_
      refine Z_iload_n dX12_cut_25 rfl (pc' := 26) rfl ?_
      refine Z_cVe dX12_cut_26 rfl zcw_X12_no (As := [_]) (rest := []) rfl ⟨Nat.le_of_ble_eq_true rfl, Nat.le_of_ble_eq_true rfl⟩ (Nat.le_of_ble_eq_true rfl) (zRcv.lay zob_25) ⟨zcw_X12_no.2.2.2.2, Nat.le_of_ble_eq_true rfl⟩ zk_RX12_85 (c_X12_no hk1 hx) (pc' := 29) rfl ?_
      refine Z_goto dX12_cut_29 (tgt := 38) rfl ?_
      exact Z_ireturn dX12_cut_38 rfl rfl (qR.no hI sfr.rf hk1 (by unfold spCut noV; rw [e1]; simp only []; rw [if_pos c_21, hy]))
  · rw [e1]
    refine Z_if_ne dX12_cut_5 (tgt := 12) rfl (pc' := 8) rfl (fun c_5 => absurd c_5 (fun q => q rfl)) (fun c_5 => ?_)
    refine Z_iconst dX12_cut_8 (v := (-1)) (by decide) (pc' := 9) rfl ?_
    refine Z_goto dX12_cut_9 (tgt := 19) rfl ?_
    refine Z_istore_n dX12_cut_19 (Nat.le_of_ble_eq_true rfl) (Nat.le_of_ble_eq_true rfl) rfl (ls' := [_, _, _, _]) rfl (pc' := 20) rfl ?_
    refine Z_iload_n dX12_cut_20 rfl (pc' := 21) rfl ?_
    refine Z_if_eq dX12_cut_21 (tgt := 32) rfl (pc' := 24) rfl (fun c_21 => absurd c_21 (by decide)) (fun c_21 => ?_)
    refine Z_aload_n dX12_cut_24 rfl (z_isref _) (pc' := 25) rfl ?_
    refine Z_iload_n dX12_cut_25 rfl (pc' := 26) rfl ?_
    refine Z_cVe dX12_cut_26 rfl zcw_X12_no (As := [_]) (rest := []) rfl ⟨Nat.le_of_ble_eq_true rfl, Nat.le_of_ble_eq_true rfl⟩ (Nat.le_of_ble_eq_true rfl) (zRcv.lay zob_25) ⟨zcw_X12_no.2.2.2.2, Nat.le_of_ble_eq_true rfl⟩ zk_RX12_85 (c_X12_no (k := 1) (by decide) (by decide)) (pc' := 29) rfl ?_
    refine Z_goto dX12_cut_29 (tgt := 38) rfl ?_
    exact Z_ireturn dX12_cut_38 rfl rfl (qR.no hI sfr.rf (by decide) (by unfold spCut; rw [e1]))
set_option maxRecDepth 100000 in
set_option maxHeartbeats 4000000 in
theorem lp_X12_worst {S0 : ZS} {n : Nat} {M : Ms} (hI : MI S0 M) {R : Option Value → ZW → Prop} {r rf : Int32} {T : Option (Nat × Int32)} (hR : ∀ S, sfr S0 S → R (some (.int (bsW T))) (zw S n)) : ∀ (m i : Nat) (s : Option (Nat × Int32)) (S : ZS), i + m = cns (mc M) → sfr S0 S → (∀ q a, s = some (q, a) → q < 8) → wcF (fun k => cuS M k r) m i s = T → Z m_X12_worstCut 0 0 R 27 [some (.ref 25), some (.int r), some (.int rf), some (.int (bsW s)), some (.int (bsA s)), some (.int (nI i))] [] (zw S n) := by
  intro m
  induction m with
  | zero =>
    intro i s S h f hs hT
    have h8 := hI.ok.1
    obtain rfl : i = cns (mc M) := by omega
    obtain rfl : s = T := hT
    refine Z_iload dX12_worstCut_27 rfl (pc' := 29) rfl ?_
    refine Z_aload_n dX12_worstCut_29 rfl (z_isref _) (pc' := 30) rfl ?_
    refine Z_gI dX12_worstCut_30 rfl zgi_RX12_114_25 (pc' := 33) rfl ?_
    rw [(f.mv hI.mv).1.1]
    refine Z_icmp_ge dX12_worstCut_33 (tgt := 72) rfl (pc' := 36) rfl (fun c_33 => ?_) (fun c_33 => absurd c_33 (fun c => c ((nI_len (by omega) (by omega)).mpr (by omega))))
    refine Z_iload_n dX12_worstCut_72 rfl (pc' := 73) rfl ?_
    exact Z_ireturn dX12_worstCut_73 rfl rfl (hR S f)
  | succ m ih =>
    intro i s S h f hs hT
    have h8 := hI.ok.1
    unfold wcF at hT
    have hk : i < cns (mc M) := by omega
    refine Z_iload dX12_worstCut_27 rfl (pc' := 29) rfl ?_
    refine Z_aload_n dX12_worstCut_29 rfl (z_isref _) (pc' := 30) rfl ?_
    refine Z_gI dX12_worstCut_30 rfl zgi_RX12_114_25 (pc' := 33) rfl ?_
    rw [(f.mv hI.mv).1.1]
    refine Z_icmp_ge dX12_worstCut_33 (tgt := 72) rfl (pc' := 36) rfl (fun c_33 => absurd c_33 (by rw [nI_len (by omega) (by omega)]; omega)) (fun c_33 => ?_)
    refine Z_aload_n dX12_worstCut_36 rfl (z_isref _) (pc' := 37) rfl ?_
    refine Z_iload dX12_worstCut_37 rfl (pc' := 39) rfl ?_
    refine Z_iload_n dX12_worstCut_39 rfl (pc' := 40) rfl ?_
    refine Z_cV dX12_worstCut_40 rfl zcw_X12_milesWithout (As := [_, _]) (rest := []) rfl ⟨Nat.le_of_ble_eq_true rfl, Nat.le_of_ble_eq_true rfl⟩ (Nat.le_of_ble_eq_true rfl) (zRcv.lay zob_25) ⟨zcw_X12_milesWithout.2.2.2.2, Nat.le_of_ble_eq_true rfl⟩ zk_RX12_231 (c_X12_milesWithout (f.mv hI.mv) hI.ok hk) (pc' := 43) rfl (fun r_40 w_40 h_40 => ?_)
    obtain ⟨rfl, S2, rfl, f2⟩ := h_40
    show Z _ _ _ _ _ _ (.int (cuS M i r) :: []) _
    refine Z_istore dX12_worstCut_43 (Nat.le_of_ble_eq_true rfl) (Nat.le_of_ble_eq_true rfl) rfl (ls' := [_, _, _, _, _, _, _]) rfl (pc' := 45) rfl ?_
    refine Z_iload_n dX12_worstCut_45 rfl (pc' := 46) rfl ?_
    cases s with
    | none =>
      refine Z_if_lt dX12_worstCut_46 (tgt := 59) rfl (pc' := 49) rfl (fun c_46 => ?_) (fun c_46 => absurd c_46 (fun c => c (by decide)))
      refine Z_iload dX12_worstCut_59 rfl (pc' := 61) rfl ?_
      refine Z_istore_n dX12_worstCut_61 (Nat.le_of_ble_eq_true rfl) (Nat.le_of_ble_eq_true rfl) rfl (ls' := [_, _, _, _, _, _, _]) rfl (pc' := 62) rfl ?_
      refine Z_iload dX12_worstCut_62 rfl (pc' := 64) rfl ?_
      refine Z_istore dX12_worstCut_64 (Nat.le_of_ble_eq_true rfl) (Nat.le_of_ble_eq_true rfl) rfl (ls' := [_, _, _, _, _, _, _]) rfl (pc' := 66) rfl ?_
      refine Z_iinc dX12_worstCut_66 rfl (nI_inc i) (Nat.le_of_ble_eq_true rfl) rfl (ls' := [_, _, _, _, _, _, _]) rfl (pc' := 69) rfl ?_
      refine Z_goto dX12_worstCut_69 (tgt := 27) rfl ?_
      refine Z_take 6 (ls' := [_, _, _, _, _, _]) rfl ?_
      simp only [] at hT
      exact ih (i + 1) (some (i, cuS M i r)) S2 (by omega) (f.tr f2) (fun q a h => by cases h; omega) hT
    | some p =>
      obtain ⟨q, a⟩ := p
      have hq := hs q a rfl
      refine Z_if_lt dX12_worstCut_46 (tgt := 59) rfl (pc' := 49) rfl (fun c_46 => absurd c_46 (nI_neg (by omega))) (fun c_46 => ?_)
      refine Z_iload dX12_worstCut_49 rfl (pc' := 51) rfl ?_
      refine Z_iload dX12_worstCut_51 rfl (pc' := 53) rfl ?_
      refine Z_icmp_lt dX12_worstCut_53 (tgt := 59) rfl (pc' := 56) rfl (fun c_53 => ?_) (fun c_53 => ?_)
      · refine Z_iload dX12_worstCut_59 rfl (pc' := 61) rfl ?_
        refine Z_istore_n dX12_worstCut_61 (Nat.le_of_ble_eq_true rfl) (Nat.le_of_ble_eq_true rfl) rfl (ls' := [_, _, _, _, _, _, _]) rfl (pc' := 62) rfl ?_
        refine Z_iload dX12_worstCut_62 rfl (pc' := 64) rfl ?_
        refine Z_istore dX12_worstCut_64 (Nat.le_of_ble_eq_true rfl) (Nat.le_of_ble_eq_true rfl) rfl (ls' := [_, _, _, _, _, _, _]) rfl (pc' := 66) rfl ?_
        refine Z_iinc dX12_worstCut_66 rfl (nI_inc i) (Nat.le_of_ble_eq_true rfl) rfl (ls' := [_, _, _, _, _, _, _]) rfl (pc' := 69) rfl ?_
        refine Z_goto dX12_worstCut_69 (tgt := 27) rfl ?_
        refine Z_take 6 (ls' := [_, _, _, _, _, _]) rfl ?_
        simp only [] at hT
        rw [if_pos (show cuS M i r < a from c_53)] at hT
        exact ih (i + 1) (some (i, cuS M i r)) S2 (by omega) (f.tr f2) (fun q a h => by cases h; omega) hT
      · refine Z_goto dX12_worstCut_56 (tgt := 66) rfl ?_
        refine Z_iinc dX12_worstCut_66 rfl (nI_inc i) (Nat.le_of_ble_eq_true rfl) rfl (ls' := [_, _, _, _, _, _, _]) rfl (pc' := 69) rfl ?_
        refine Z_goto dX12_worstCut_69 (tgt := 27) rfl ?_
        refine Z_take 6 (ls' := [_, _, _, _, _, _]) rfl ?_
        simp only [] at hT
        rw [if_neg (show ¬ cuS M i r < a from c_53)] at hT
        exact ih (i + 1) (some (q, a)) S2 (by omega) (f.tr f2) hs hT
set_option maxRecDepth 100000 in
set_option maxHeartbeats 4000000 in
theorem c_X12_worstCut {S : ZS} {n : Nat} {M : Ms} (hI : MI S M) {a : Int32} : zM m_X12_worstCut 0 0 [.ref 25, .int a] (zw S n) (qR S n (spWorst M a)) := by
  show Z m_X12_worstCut _ _ _ 0 [some (.ref _), some (.int _)] [] _
  refine Z_iload_n dX12_worstCut_0 rfl (pc' := 1) rfl ?_
  refine Z_iconst dX12_worstCut_1 (v := 1) (by decide) (pc' := 2) rfl ?_
  refine Z_bipush dX12_worstCut_2 (v := 9) (by decide) (pc' := 4) rfl ?_
  refine Z_cSe dX12_worstCut_4 rfl zcw_X12_bound (As := [_, _, _]) (rest := []) rfl ⟨Nat.le_of_ble_eq_true rfl, Nat.le_of_ble_eq_true rfl⟩ (Nat.le_of_ble_eq_true rfl) ⟨zcw_X12_bound.2.2.2.2, Nat.le_of_ble_eq_true rfl⟩ zk_RX12_77 c_X12_bound (pc' := 7) rfl ?_
  rw [bo_wr1]
  refine Z_istore_n dX12_worstCut_7 (Nat.le_of_ble_eq_true rfl) (Nat.le_of_ble_eq_true rfl) rfl (ls' := [_, _, _]) rfl (pc' := 8) rfl ?_
  refine Z_iload_n dX12_worstCut_8 rfl (pc' := 9) rfl ?_
  refine Z_if_eq dX12_worstCut_9 (tgt := 18) rfl (pc' := 12) rfl (fun c_9 => ?_) (fun c_9 => ?_)
  · refine Z_bipush dX12_worstCut_18 (v := (-9)) (by decide) (pc' := 20) rfl ?_
    refine Z_istore_n dX12_worstCut_20 (Nat.le_of_ble_eq_true rfl) (Nat.le_of_ble_eq_true rfl) rfl (ls' := [_, _, _, _]) rfl (pc' := 21) rfl ?_
    refine Z_iconst dX12_worstCut_21 (v := 0) (by decide) (pc' := 22) rfl ?_
    refine Z_istore dX12_worstCut_22 (Nat.le_of_ble_eq_true rfl) (Nat.le_of_ble_eq_true rfl) rfl (ls' := [_, _, _, _, _]) rfl (pc' := 24) rfl ?_
    refine Z_iconst dX12_worstCut_24 (v := 0) (by decide) (pc' := 25) rfl ?_
    refine Z_istore dX12_worstCut_25 (Nat.le_of_ble_eq_true rfl) (Nat.le_of_ble_eq_true rfl) rfl (ls' := [_, _, _, _, _, _]) rfl (pc' := 27) rfl ?_
    exact lp_X12_worst hI (T := wcF (fun k => cuS M k a) (cns (mc M)) 0 none) (fun S3 f3 => qR.st hI f3 (by unfold spWorst; rw [if_neg (fun h => h c_9)])) (cns (mc M)) 0 none S (by omega) sfr.rf (fun q a h => by cases h) rfl
  · obtain ⟨k, hk, hx, hy⟩ := wrI_k c_9
    refine Z_aload_n dX12_worstCut_12 rfl (z_isref _) (pc' := 13) rfl ?_
    refine Z_iload_n dX12_worstCut_13 rfl (pc' := 14) rfl ?_
    refine Z_cVe dX12_worstCut_14 rfl zcw_X12_no (As := [_]) (rest := []) rfl ⟨Nat.le_of_ble_eq_true rfl, Nat.le_of_ble_eq_true rfl⟩ (Nat.le_of_ble_eq_true rfl) (zRcv.lay zob_25) ⟨zcw_X12_no.2.2.2.2, Nat.le_of_ble_eq_true rfl⟩ zk_RX12_85 (c_X12_no hk hx) (pc' := 17) rfl ?_
    exact Z_ireturn dX12_worstCut_17 rfl rfl (qR.no hI sfr.rf hk (by unfold spWorst noV; rw [if_pos c_9, hy]))
set_option maxRecDepth 100000 in
set_option maxHeartbeats 4000000 in
theorem lp_X12_judge {S : ZS} {n : Nat} {M : Ms} {a b0 rf : Int32} {l : List Nat} (hw : wdR S l) (hrl : mrl M ≤ 12) (hrow : ∀ k, k < mrl M → S.1 47 k = nI (mrw M k) ∧ mrw M k ≤ 48) (hl48 : ∀ x ∈ l, x ≤ 48) {R : Option Value → ZW → Prop} {T : Option Nat} (hR : R (some (.int (oI T))) (zw S n)) : ∀ (m i : Nat), i + m = mrl M → jdF l (mrw M) m i = T → Z m_X12_judge 0 0 R 44 [some (.ref 25), some (.int a), some (.int b0), some (.int rf), some (.int (nI (mrl M))), some (.int (nI i))] [] (zw S n) := by
  intro m
  induction m with
  | zero =>
    intro i h hT
    obtain rfl : i = mrl M := by omega
    obtain rfl : none = T := hT
    refine Z_iload dX12_judge_44 rfl (pc' := 46) rfl ?_
    refine Z_iload dX12_judge_46 rfl (pc' := 48) rfl ?_
    refine Z_icmp_ge dX12_judge_48 (tgt := 86) rfl (pc' := 51) rfl (fun c_48 => ?_) (fun c_48 => absurd c_48 (fun c => c ((nI_len (by omega) (by omega)).mpr (Nat.le_refl _))))
    refine Z_bipush dX12_judge_86 (v := (-9)) (by decide) (pc' := 88) rfl ?_
    exact Z_ireturn dX12_judge_88 rfl rfl hR
  | succ m ih =>
    intro i h hT
    have hwl := hw.2.1
    unfold jdF at hT
    obtain ⟨hr1, hr48⟩ := hrow i (by omega)
    refine Z_iload dX12_judge_44 rfl (pc' := 46) rfl ?_
    refine Z_iload dX12_judge_46 rfl (pc' := 48) rfl ?_
    refine Z_icmp_ge dX12_judge_48 (tgt := 86) rfl (pc' := 51) rfl (fun c_48 => absurd c_48 (by rw [nI_len (by omega) (by omega)]; omega)) (fun c_48 => ?_)
    refine Z_iload dX12_judge_51 rfl (pc' := 53) rfl ?_
    refine Z_aload_n dX12_judge_53 rfl (z_isref _) (pc' := 54) rfl ?_
    refine Z_gI dX12_judge_54 rfl zgi_RX12_178_25 (pc' := 57) rfl ?_
    rw [hw.1]
    refine Z_icmp_ge dX12_judge_57 (tgt := 77) rfl (pc' := 60) rfl (fun c_57 => ?_) (fun c_57 => ?_)
    · refine Z_iload dX12_judge_77 rfl (pc' := 79) rfl ?_
      exact Z_ireturn dX12_judge_79 rfl rfl (by rw [if_neg (by rw [List.getElem?_eq_none ((nI_len (by omega) (by omega)).mp c_57)]; exact fun q => by cases q)] at hT; subst hT; exact hR)
    · have hlt : i < l.length := by
        have := i_lt c_57
        rw [nI_ltn (by omega) (by omega)] at this; exact this
      obtain ⟨p, hp⟩ : ∃ p, l[i]? = some p := ⟨l[i], List.getElem?_eq_getElem hlt⟩
      have hp48 := hl48 p (List.mem_of_getElem? hp)
      refine Z_aload_n dX12_judge_60 rfl (z_isref _) (pc' := 61) rfl ?_
      refine Z_gR dX12_judge_61 rfl zgr_RX12_73_25 (pc' := 64) rfl ?_
      refine Z_iload dX12_judge_64 rfl (pc' := 66) rfl ?_
      refine Z_il dX12_judge_66 zar_47 (zin (by omega) (by decide)) (pc' := 67) rfl ?_
      rw [nI_nat (by omega), hr1]
      refine Z_aload_n dX12_judge_67 rfl (z_isref _) (pc' := 68) rfl ?_
      refine Z_gR dX12_judge_68 rfl zgr_RX12_64_25 (pc' := 71) rfl ?_
      refine Z_iload dX12_judge_71 rfl (pc' := 73) rfl ?_
      refine Z_il dX12_judge_73 zar_44 (zin (by omega) (by decide)) (pc' := 74) rfl ?_
      rw [nI_nat (by omega), hw.2.2 i p hp]
      refine Z_icmp_eq dX12_judge_74 (tgt := 80) rfl (pc' := 77) rfl (fun c_74 => ?_) (fun c_74 => ?_)
      · refine Z_iinc dX12_judge_80 rfl (nI_inc i) (Nat.le_of_ble_eq_true rfl) rfl (ls' := [_, _, _, _, _, _]) rfl (pc' := 83) rfl ?_
        refine Z_goto dX12_judge_83 (tgt := 44) rfl ?_
        rw [if_pos (by rw [hp, (nI_eqn (by omega) (by omega)).mp c_74])] at hT
        exact ih (i + 1) (by omega) hT
      · refine Z_iload dX12_judge_77 rfl (pc' := 79) rfl ?_
        exact Z_ireturn dX12_judge_79 rfl rfl (by rw [if_neg (by rw [hp]; exact fun q => c_74 (by cases q; rfl))] at hT; subst hT; exact hR)
set_option maxRecDepth 100000 in
set_option maxHeartbeats 4000000 in
theorem c_X12_judge {S : ZS} {n : Nat} {M : Ms} (hI : MI S M) {a b0 : Int32} : zM m_X12_judge 0 0 [.ref 25, .int a, .int b0] (zw S n) (qR S n (spJudge M a b0)) := by
  show Z m_X12_judge _ _ _ 0 [some (.ref _), some (.int _), some (.int _)] [] _
  refine Z_iload_n dX12_judge_0 rfl (pc' := 1) rfl ?_
  refine Z_iload_n dX12_judge_1 rfl (pc' := 2) rfl ?_
  refine Z_cSe dX12_judge_2 rfl zcw_X12_notWalk (As := [_, _]) (rest := []) rfl ⟨Nat.le_of_ble_eq_true rfl, Nat.le_of_ble_eq_true rfl⟩ (Nat.le_of_ble_eq_true rfl) ⟨zcw_X12_notWalk.2.2.2.2, Nat.le_of_ble_eq_true rfl⟩ zk_RX12_195 c_X12_notWalk (pc' := 5) rfl ?_
  refine Z_istore_n dX12_judge_5 (Nat.le_of_ble_eq_true rfl) (Nat.le_of_ble_eq_true rfl) rfl (ls' := [_, _, _, _]) rfl (pc' := 6) rfl ?_
  refine Z_iload_n dX12_judge_6 rfl (pc' := 7) rfl ?_
  refine Z_if_eq dX12_judge_7 (tgt := 16) rfl (pc' := 10) rfl (fun c_7 => ?_) (fun c_7 => ?_)
  · have c0 := c_7
    obtain ⟨r, b, hr1, hr9, hb9, rfl, rfl⟩ := wrI_0 c_7
    refine Z_aload_n dX12_judge_16 rfl (z_isref _) (pc' := 17) rfl ?_
    refine Z_gI dX12_judge_17 rfl zgi_RX12_234_25 (pc' := 20) rfl ?_
    rw [hI.2.2.2.1.1]
    refine Z_istore dX12_judge_20 (Nat.le_of_ble_eq_true rfl) (Nat.le_of_ble_eq_true rfl) rfl (ls' := [_, _, _, _, _]) rfl (pc' := 22) rfl ?_
    refine Z_aload_n dX12_judge_22 rfl (z_isref _) (pc' := 23) rfl ?_
    refine Z_iconst dX12_judge_23 (v := 0) (by decide) (pc' := 24) rfl ?_
    refine Z_pI dX12_judge_24 rfl zpi_RX12_234_25 (pc' := 27) rfl ?_
    have hI2 := MI_row0 hI
    refine Z_aload_n dX12_judge_27 rfl (z_isref _) (pc' := 28) rfl ?_
    refine Z_bipush dX12_judge_28 (v := (-9)) (by decide) (pc' := 30) rfl ?_
    refine Z_iconst dX12_judge_30 (v := 1) (by decide) (pc' := 31) rfl ?_
    refine Z_cV dX12_judge_31 rfl zcw_X12_findShore (As := [_, _]) (rest := []) rfl ⟨Nat.le_of_ble_eq_true rfl, Nat.le_of_ble_eq_true rfl⟩ (Nat.le_of_ble_eq_true rfl) (zRcv.lay zob_25) ⟨zcw_X12_findShore.2.2.2.2, Nat.le_of_ble_eq_true rfl⟩ zk_RX12_184 (c_X12_findShore1 hI2.mv hI2.ok) (pc' := 34) rfl (fun r_31 w_31 h_31 => ?_)
    obtain ⟨rfl, S1, rfl, f1, s1⟩ := h_31
    show Z _ _ _ _ _ _ [] _
    refine Z_aload_n dX12_judge_34 rfl (z_isref _) (pc' := 35) rfl ?_
    refine Z_iload_n dX12_judge_35 rfl (pc' := 36) rfl ?_
    refine Z_iload_n dX12_judge_36 rfl (pc' := 37) rfl ?_
    refine Z_cV dX12_judge_37 rfl zcw_X12_walks (As := [_, _]) (rest := []) rfl ⟨Nat.le_of_ble_eq_true rfl, Nat.le_of_ble_eq_true rfl⟩ (Nat.le_of_ble_eq_true rfl) (zRcv.lay zob_25) ⟨zcw_X12_walks.2.2.2.2, Nat.le_of_ble_eq_true rfl⟩ zk_RX12_188 (c_X12_walksSL (f1.mv hI2.mv) hI2.ok (by omega) s1) (pc' := 40) rfl (fun r_37 w_37 h_37 => ?_)
    obtain ⟨rfl, S2, rfl, f2, s2, w2⟩ := h_37
    show Z _ _ _ _ _ _ [_] _
    refine Z_pop dX12_judge_40 rfl (pc' := 41) rfl ?_
    refine Z_iconst dX12_judge_41 (v := 0) (by decide) (pc' := 42) rfl ?_
    refine Z_istore dX12_judge_42 (Nat.le_of_ble_eq_true rfl) (Nat.le_of_ble_eq_true rfl) rfl (ls' := [_, _, _, _, _, _]) rfl (pc' := 44) rfl ?_
    refine lp_X12_judge (M := M) w2 hI.2.2.2.1.2.1 (fun k hk => by rw [(f1.tr f2).w.2 47 k (scr_47 k), sA_ne _ _ _ (by decide)]; exact hI.2.2.2.1.2.2 k hk) (fun x hx => by have := (WL_rng hx).2.1; have := hI2.ok.2.1; omega) (T := jdF (WL (mc M) (mcf M) (nI r) b) (mrw M) (mrl M) 0) ?_ (mrl M) 0 (by omega) rfl
    exact qR.mk (M' := wR M (mrw M) 0) (by unfold spJudge; rw [if_neg (fun h => h c0), nI_nat (by omega)]) ((frm.rf.sA _ _ (by decide) (by decide)).tr (f1.tr f2).frm) ((f1.tr f2).mi hI2)
  · obtain ⟨k, hk, hx, hy⟩ := wrI_k c_7
    refine Z_aload_n dX12_judge_10 rfl (z_isref _) (pc' := 11) rfl ?_
    refine Z_iload_n dX12_judge_11 rfl (pc' := 12) rfl ?_
    refine Z_cVe dX12_judge_12 rfl zcw_X12_no (As := [_]) (rest := []) rfl ⟨Nat.le_of_ble_eq_true rfl, Nat.le_of_ble_eq_true rfl⟩ (Nat.le_of_ble_eq_true rfl) (zRcv.lay zob_25) ⟨zcw_X12_no.2.2.2.2, Nat.le_of_ble_eq_true rfl⟩ zk_RX12_85 (c_X12_no hk hx) (pc' := 15) rfl ?_
    exact Z_ireturn dX12_judge_15 rfl rfl (qR.no hI sfr.rf hk (by unfold spJudge noV; rw [if_pos c_7, hy]))
