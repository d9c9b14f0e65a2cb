set_option maxRecDepth 100000 in
set_option maxHeartbeats 4000000 in
theorem lp_X11_span {S : ZS} {n : Nat} {M : Ms} (hI : CI S n M) {R : Option Value → ZW → Prop} {r rf : Int32} : ∀ (m b : Nat) (s : Int32 × Int32), b + m = 10 → R (some (.int ((snF (mlS (mc M) (mcf M) r) m b s).1 - (snF (mlS (mc M) (mcf M) r) m b s).2))) (zw S n) → Z m_X11_span 0 0 R 42 [some (.ref 0), some (.int r), some (.int rf), some (.long (zmk (mcf M))), none, some (.int s.1), some (.int s.2), some (.int (nI b))] [] (zw S n) := by
  intro m
  induction m with
  | zero =>
    intro b s h hR
    obtain rfl : b = 10 := by omega
    refine Z_iload dX11_span_42 rfl (pc' := 44) rfl ?_
    refine Z_bipush dX11_span_44 (v := 9) (by decide) (pc' := 46) rfl ?_
    refine Z_icmp_gt dX11_span_46 (tgt := 86) rfl (pc' := 49) rfl (fun c_46 => ?_) (fun c_46 => absurd c_46 (fun c => c (by decide)))
    refine Z_iload dX11_span_86 rfl (pc' := 88) rfl ?_
    refine Z_iload dX11_span_88 rfl (pc' := 90) rfl ?_
    refine Z_isub dX11_span_90 (pc' := 91) rfl ?_
    exact Z_ireturn dX11_span_91 rfl rfl hR
  | succ m ih =>
    intro b s h hR
    refine Z_iload dX11_span_42 rfl (pc' := 44) rfl ?_
    refine Z_bipush dX11_span_44 (v := 9) (by decide) (pc' := 46) rfl ?_
    refine Z_icmp_gt dX11_span_46 (tgt := 86) rfl (pc' := 49) rfl (fun c_46 => absurd c_46 (by rw [nI9, nI_ltn (by omega) (by omega)]; omega)) (fun c_46 => ?_)
    refine Z_aload_n dX11_span_49 rfl (z_isref _) (pc' := 50) rfl ?_
    refine Z_gR dX11_span_50 rfl zgr_RX11_10_0 (pc' := 53) rfl ?_
    refine Z_lload_n dX11_span_53 rfl (pc' := 54) rfl ?_
    refine Z_iload_n dX11_span_54 rfl (pc' := 55) rfl ?_
    refine Z_iload dX11_span_55 rfl (pc' := 57) rfl ?_
    refine Z_cVe dX11_span_57 rfl zcw_X2_milesOf (As := [_, _, _]) (rest := []) rfl ⟨Nat.le_of_ble_eq_true rfl, Nat.le_of_ble_eq_true rfl⟩ (Nat.le_of_ble_eq_true rfl) (zRcv.lay zob_1) ⟨zcw_X2_milesOf.2.2.2.2, Nat.le_of_ble_eq_true rfl⟩ zk_RX11_136 (k_milesOf hI (by omega)) (pc' := 60) rfl ?_
    refine Z_istore dX11_span_60 (Nat.le_of_ble_eq_true rfl) (Nat.le_of_ble_eq_true rfl) rfl (ls' := [_, _, _, _, _, _, _, _, _]) rfl (pc' := 62) rfl ?_
    refine Z_iload dX11_span_62 rfl (pc' := 64) rfl ?_
    refine Z_iload dX11_span_64 rfl (pc' := 66) rfl ?_
    refine Z_mmax dX11_span_66 rfl zk_RX11_140 (Nat.le_of_ble_eq_true rfl) (Nat.le_of_ble_eq_true rfl) (pc' := 69) rfl ?_
    refine Z_istore dX11_span_69 (Nat.le_of_ble_eq_true rfl) (Nat.le_of_ble_eq_true rfl) rfl (ls' := [_, _, _, _, _, _, _, _, _]) rfl (pc' := 71) rfl ?_
    refine Z_iload dX11_span_71 rfl (pc' := 73) rfl ?_
    refine Z_iload dX11_span_73 rfl (pc' := 75) rfl ?_
    refine Z_mmin dX11_span_75 rfl zk_RX11_145 (Nat.le_of_ble_eq_true rfl) (Nat.le_of_ble_eq_true rfl) (pc' := 78) rfl ?_
    refine Z_istore dX11_span_78 (Nat.le_of_ble_eq_true rfl) (Nat.le_of_ble_eq_true rfl) rfl (ls' := [_, _, _, _, _, _, _, _, _]) rfl (pc' := 80) rfl ?_
    refine Z_iinc dX11_span_80 rfl (nI_inc b) (Nat.le_of_ble_eq_true rfl) rfl (ls' := [_, _, _, _, _, _, _, _, _]) rfl (pc' := 83) rfl ?_
    refine Z_goto dX11_span_83 (tgt := 42) rfl ?_
    refine Z_take 8 (ls' := [_, _, _, _, _, _, _, _]) rfl ?_
    exact ih (b + 1) _ (by omega) hR
set_option maxRecDepth 100000 in
set_option maxHeartbeats 4000000 in
theorem c_X11_span {S : ZS} {n : Nat} {M : Ms} (hI : CI S n M) {a : Int32} : zM m_X11_span 0 0 [.ref 0, .int a] (zw S n) (pR S n (spSpan M a)) := by
  show Z m_X11_span _ _ _ 0 [some (.ref _), some (.int _)] [] _
  refine Z_iload_n dX11_span_0 rfl (pc' := 1) rfl ?_
  refine Z_cSe dX11_span_1 rfl zcw_X11_rodRefusal (As := [_]) (rest := []) rfl ⟨Nat.le_of_ble_eq_true rfl, Nat.le_of_ble_eq_true rfl⟩ (Nat.le_of_ble_eq_true rfl) ⟨zcw_X11_rodRefusal.2.2.2.2, Nat.le_of_ble_eq_true rfl⟩ zk_RX11_133 c_X11_rodRefusal (pc' := 4) rfl ?_
  refine Z_istore_n dX11_span_4 (Nat.le_of_ble_eq_true rfl) (Nat.le_of_ble_eq_true rfl) rfl (ls' := [_, _, _]) rfl (pc' := 5) rfl ?_
  refine Z_iload_n dX11_span_5 rfl (pc' := 6) rfl ?_
  refine Z_if_eq dX11_span_6 (tgt := 15) rfl (pc' := 9) rfl (fun c_6 => ?_) (fun c_6 => ?_)
  · have c0 := c_6
    obtain ⟨r, b, hr1, hr9, hb9, rfl, hb0⟩ := wrI_0 c_6
    refine Z_aload_n dX11_span_15 rfl (z_isref _) (pc' := 16) rfl ?_
    refine Z_gR dX11_span_16 rfl zgr_RX11_10_0 (pc' := 19) rfl ?_
    refine Z_cVe dX11_span_19 rfl zcw_X2_shoreNow (As := []) (rest := []) rfl ⟨Nat.le_of_ble_eq_true rfl, Nat.le_of_ble_eq_true rfl⟩ (Nat.le_of_ble_eq_true rfl) (zRcv.lay zob_1) ⟨zcw_X2_shoreNow.2.2.2.2, Nat.le_of_ble_eq_true rfl⟩ zk_RX11_99 (k_shoreNow hI) (pc' := 22) rfl ?_
    refine Z_lstore_n dX11_span_22 (Nat.le_of_ble_eq_true rfl) (Nat.le_of_ble_eq_true rfl) rfl (ls' := [_, _, _, _, _]) rfl (pc' := 23) rfl ?_
    refine Z_aload_n dX11_span_23 rfl (z_isref _) (pc' := 24) rfl ?_
    refine Z_gR dX11_span_24 rfl zgr_RX11_10_0 (pc' := 27) rfl ?_
    refine Z_lload_n dX11_span_27 rfl (pc' := 28) rfl ?_
    refine Z_iload_n dX11_span_28 rfl (pc' := 29) rfl ?_
    refine Z_iconst dX11_span_29 (v := 0) (by decide) (pc' := 30) rfl ?_
    refine Z_cVe dX11_span_30 rfl zcw_X2_milesOf (As := [_, _, _]) (rest := []) rfl ⟨Nat.le_of_ble_eq_true rfl, Nat.le_of_ble_eq_true rfl⟩ (Nat.le_of_ble_eq_true rfl) (zRcv.lay zob_1) ⟨zcw_X2_milesOf.2.2.2.2, Nat.le_of_ble_eq_true rfl⟩ zk_RX11_136 (k_milesOf (bg := 0) hI (by omega)) (pc' := 33) rfl ?_
    refine Z_istore dX11_span_33 (Nat.le_of_ble_eq_true rfl) (Nat.le_of_ble_eq_true rfl) rfl (ls' := [_, _, _, _, _, _]) rfl (pc' := 35) rfl ?_
    refine Z_iload dX11_span_35 rfl (pc' := 37) rfl ?_
    refine Z_istore dX11_span_37 (Nat.le_of_ble_eq_true rfl) (Nat.le_of_ble_eq_true rfl) rfl (ls' := [_, _, _, _, _, _, _]) rfl (pc' := 39) rfl ?_
    refine Z_iconst dX11_span_39 (v := 1) (by decide) (pc' := 40) rfl ?_
    refine Z_istore dX11_span_40 (Nat.le_of_ble_eq_true rfl) (Nat.le_of_ble_eq_true rfl) rfl (ls' := [_, _, _, _, _, _, _, _]) rfl (pc' := 42) rfl ?_
    exact lp_X11_span hI 9 1 (mlS (mc M) (mcf M) (nI r) 0, mlS (mc M) (mcf M) (nI r) 0) rfl (pR.st hI (by unfold spSpan; rw [if_neg (fun h => h c0)]))
  · obtain ⟨k, hk, hx, hy⟩ := wrI_k c_6
    refine Z_aload_n dX11_span_9 rfl (z_isref _) (pc' := 10) rfl ?_
    refine Z_iload_n dX11_span_10 rfl (pc' := 11) rfl ?_
    refine Z_cVe dX11_span_11 rfl zcw_X11_refuse (As := [_]) (rest := []) rfl ⟨Nat.le_of_ble_eq_true rfl, Nat.le_of_ble_eq_true rfl⟩ (Nat.le_of_ble_eq_true rfl) (zRcv.lay zob_0) ⟨zcw_X11_refuse.2.2.2.2, Nat.le_of_ble_eq_true rfl⟩ zk_RX11_43 (c_X11_refuse hk hx) (pc' := 14) rfl ?_
    exact Z_ireturn dX11_span_14 rfl rfl (pR.no hI hk (by unfold spSpan noV; rw [if_pos c_6, hy]))
set_option maxRecDepth 100000 in
set_option maxHeartbeats 4000000 in
theorem lp_X11_finer {S : ZS} {n : Nat} {M : Ms} (hI : CI S n M) {R : Option Value → ZW → Prop} {b : Nat} {rf : Int32} (hb : b ≤ 9) : ∀ (m r q : Nat), r + m = 10 → 2 ≤ r → R (some (.int (nI (fnF (fun r => mlS (mc M) (mcf M) (nI r) b) m r q)))) (zw S n) → Z m_X11_finer 0 0 R 42 [some (.ref 0), some (.int (nI b)), some (.int rf), some (.long (zmk (mcf M))), none, some (.int (nI q)), some (.int (mlS (mc M) (mcf M) (nI (r - 1)) b)), some (.int (nI r))] [] (zw S n) := by
  intro m
  induction m with
  | zero =>
    intro r q h h2 hR
    obtain rfl : r = 10 := by omega
    refine Z_iload dX11_finer_42 rfl (pc' := 44) rfl ?_
    refine Z_bipush dX11_finer_44 (v := 9) (by decide) (pc' := 46) rfl ?_
    refine Z_icmp_gt dX11_finer_46 (tgt := 82) rfl (pc' := 49) rfl (fun c_46 => ?_) (fun c_46 => absurd c_46 (fun c => c (by decide)))
    refine Z_iload dX11_finer_82 rfl (pc' := 84) rfl ?_
    exact Z_ireturn dX11_finer_84 rfl rfl hR
  | succ m ih =>
    intro r q h h2 hR
    unfold fnF at hR
    refine Z_iload dX11_finer_42 rfl (pc' := 44) rfl ?_
    refine Z_bipush dX11_finer_44 (v := 9) (by decide) (pc' := 46) rfl ?_
    refine Z_icmp_gt dX11_finer_46 (tgt := 82) rfl (pc' := 49) rfl (fun c_46 => absurd c_46 (by rw [nI9, nI_ltn (by omega) (by omega)]; omega)) (fun c_46 => ?_)
    refine Z_aload_n dX11_finer_49 rfl (z_isref _) (pc' := 50) rfl ?_
    refine Z_gR dX11_finer_50 rfl zgr_RX11_10_0 (pc' := 53) rfl ?_
    refine Z_lload_n dX11_finer_53 rfl (pc' := 54) rfl ?_
    refine Z_iload dX11_finer_54 rfl (pc' := 56) rfl ?_
    refine Z_iload_n dX11_finer_56 rfl (pc' := 57) rfl ?_
    refine Z_cVe dX11_finer_57 rfl zcw_X2_milesOf (As := [_, _, _]) (rest := []) rfl ⟨Nat.le_of_ble_eq_true rfl, Nat.le_of_ble_eq_true rfl⟩ (Nat.le_of_ble_eq_true rfl) (zRcv.lay zob_1) ⟨zcw_X2_milesOf.2.2.2.2, Nat.le_of_ble_eq_true rfl⟩ zk_RX11_136 (k_milesOf hI (by omega)) (pc' := 60) rfl ?_
    refine Z_istore dX11_finer_60 (Nat.le_of_ble_eq_true rfl) (Nat.le_of_ble_eq_true rfl) rfl (ls' := [_, _, _, _, _, _, _, _, _]) rfl (pc' := 62) rfl ?_
    refine Z_iload dX11_finer_62 rfl (pc' := 64) rfl ?_
    refine Z_iload dX11_finer_64 rfl (pc' := 66) rfl ?_
    refine Z_icmp_le dX11_finer_66 (tgt := 72) rfl (pc' := 69) rfl (fun c_66 => ?_) (fun c_66 => ?_)
    · refine Z_iload dX11_finer_72 rfl (pc' := 74) rfl ?_
      refine Z_istore dX11_finer_74 (Nat.le_of_ble_eq_true rfl) (Nat.le_of_ble_eq_true rfl) rfl (ls' := [_, _, _, _, _, _, _, _, _]) rfl (pc' := 76) rfl ?_
      refine Z_iinc dX11_finer_76 rfl (nI_inc r) (Nat.le_of_ble_eq_true rfl) rfl (ls' := [_, _, _, _, _, _, _, _, _]) rfl (pc' := 79) rfl ?_
      refine Z_goto dX11_finer_79 (tgt := 42) rfl ?_
      refine Z_take 8 (ls' := [_, _, _, _, _, _, _, _]) rfl ?_
      rw [if_neg (show ¬ mlS (mc M) (mcf M) (nI (r - 1)) b < mlS (mc M) (mcf M) (nI r) b from i_nlt c_66)] at hR
      exact ih (r + 1) q (by omega) (by omega) hR
    · refine Z_iinc dX11_finer_69 rfl (nI_inc q) (Nat.le_of_ble_eq_true rfl) rfl (ls' := [_, _, _, _, _, _, _, _, _]) rfl (pc' := 72) rfl ?_
      refine Z_iload dX11_finer_72 rfl (pc' := 74) rfl ?_
      refine Z_istore dX11_finer_74 (Nat.le_of_ble_eq_true rfl) (Nat.le_of_ble_eq_true rfl) rfl (ls' := [_, _, _, _, _, _, _, _, _]) rfl (pc' := 76) rfl ?_
      refine Z_iinc dX11_finer_76 rfl (nI_inc r) (Nat.le_of_ble_eq_true rfl) rfl (ls' := [_, _, _, _, _, _, _, _, _]) rfl (pc' := 79) rfl ?_
      refine Z_goto dX11_finer_79 (tgt := 42) rfl ?_
      refine Z_take 8 (ls' := [_, _, _, _, _, _, _, _]) rfl ?_
      rw [if_pos (show mlS (mc M) (mcf M) (nI (r - 1)) b < mlS (mc M) (mcf M) (nI r) b from i_lt c_66)] at hR
      exact ih (r + 1) (q + 1) (by omega) (by omega) hR
set_option maxRecDepth 100000 in
set_option maxHeartbeats 4000000 in
theorem c_X11_finer {S : ZS} {n : Nat} {M : Ms} (hI : CI S n M) {a : Int32} : zM m_X11_finer 0 0 [.ref 0, .int a] (zw S n) (pR S n (spFiner M a)) := by
  show Z m_X11_finer _ _ _ 0 [some (.ref _), some (.int _)] [] _
  refine Z_iconst dX11_finer_0 (v := 1) (by decide) (pc' := 1) rfl ?_
  refine Z_iload_n dX11_finer_1 rfl (pc' := 2) rfl ?_
  refine Z_cSe dX11_finer_2 rfl zcw_X11_walkRefusal (As := [_, _]) (rest := []) rfl ⟨Nat.le_of_ble_eq_true rfl, Nat.le_of_ble_eq_true rfl⟩ (Nat.le_of_ble_eq_true rfl) ⟨zcw_X11_walkRefusal.2.2.2.2, Nat.le_of_ble_eq_true rfl⟩ zk_RX11_107 c_X11_walkRefusal (pc' := 5) rfl ?_
  refine Z_istore_n dX11_finer_5 (Nat.le_of_ble_eq_true rfl) (Nat.le_of_ble_eq_true rfl) rfl (ls' := [_, _, _]) rfl (pc' := 6) rfl ?_
  refine Z_iload_n dX11_finer_6 rfl (pc' := 7) rfl ?_
  refine Z_if_eq dX11_finer_7 (tgt := 16) rfl (pc' := 10) rfl (fun c_7 => ?_) (fun c_7 => ?_)
  · have c0 := c_7
    obtain ⟨r, b, hr1, hr9, hb9, hr0, rfl⟩ := wrI_0 c_7
    refine Z_aload_n dX11_finer_16 rfl (z_isref _) (pc' := 17) rfl ?_
    refine Z_gR dX11_finer_17 rfl zgr_RX11_10_0 (pc' := 20) rfl ?_
    refine Z_cVe dX11_finer_20 rfl zcw_X2_shoreNow (As := []) (rest := []) rfl ⟨Nat.le_of_ble_eq_true rfl, Nat.le_of_ble_eq_true rfl⟩ (Nat.le_of_ble_eq_true rfl) (zRcv.lay zob_1) ⟨zcw_X2_shoreNow.2.2.2.2, Nat.le_of_ble_eq_true rfl⟩ zk_RX11_99 (k_shoreNow hI) (pc' := 23) rfl ?_
    refine Z_lstore_n dX11_finer_23 (Nat.le_of_ble_eq_true rfl) (Nat.le_of_ble_eq_true rfl) rfl (ls' := [_, _, _, _, _]) rfl (pc' := 24) rfl ?_
    refine Z_iconst dX11_finer_24 (v := 0) (by decide) (pc' := 25) rfl ?_
    refine Z_istore dX11_finer_25 (Nat.le_of_ble_eq_true rfl) (Nat.le_of_ble_eq_true rfl) rfl (ls' := [_, _, _, _, _, _]) rfl (pc' := 27) rfl ?_
    refine Z_aload_n dX11_finer_27 rfl (z_isref _) (pc' := 28) rfl ?_
    refine Z_gR dX11_finer_28 rfl zgr_RX11_10_0 (pc' := 31) rfl ?_
    refine Z_lload_n dX11_finer_31 rfl (pc' := 32) rfl ?_
    refine Z_iconst dX11_finer_32 (v := 1) (by decide) (pc' := 33) rfl ?_
    refine Z_iload_n dX11_finer_33 rfl (pc' := 34) rfl ?_
    refine Z_cVe dX11_finer_34 rfl zcw_X2_milesOf (As := [_, _, _]) (rest := []) rfl ⟨Nat.le_of_ble_eq_true rfl, Nat.le_of_ble_eq_true rfl⟩ (Nat.le_of_ble_eq_true rfl) (zRcv.lay zob_1) ⟨zcw_X2_milesOf.2.2.2.2, Nat.le_of_ble_eq_true rfl⟩ zk_RX11_136 (k_milesOf hI (by omega)) (pc' := 37) rfl ?_
    refine Z_istore dX11_finer_37 (Nat.le_of_ble_eq_true rfl) (Nat.le_of_ble_eq_true rfl) rfl (ls' := [_, _, _, _, _, _, _]) rfl (pc' := 39) rfl ?_
    refine Z_iconst dX11_finer_39 (v := 2) (by decide) (pc' := 40) rfl ?_
    refine Z_istore dX11_finer_40 (Nat.le_of_ble_eq_true rfl) (Nat.le_of_ble_eq_true rfl) rfl (ls' := [_, _, _, _, _, _, _, _]) rfl (pc' := 42) rfl ?_
    exact lp_X11_finer hI hb9 8 2 0 rfl (by omega) (pR.st hI (by unfold spFiner; rw [if_neg (fun h => h c0), nI_nat (by omega)]))
  · obtain ⟨k, hk, hx, hy⟩ := wrI_k c_7
    refine Z_aload_n dX11_finer_10 rfl (z_isref _) (pc' := 11) rfl ?_
    refine Z_iload_n dX11_finer_11 rfl (pc' := 12) rfl ?_
    refine Z_cVe dX11_finer_12 rfl zcw_X11_refuse (As := [_]) (rest := []) rfl ⟨Nat.le_of_ble_eq_true rfl, Nat.le_of_ble_eq_true rfl⟩ (Nat.le_of_ble_eq_true rfl) (zRcv.lay zob_0) ⟨zcw_X11_refuse.2.2.2.2, Nat.le_of_ble_eq_true rfl⟩ zk_RX11_43 (c_X11_refuse hk hx) (pc' := 15) rfl ?_
    exact Z_ireturn dX11_finer_15 rfl rfl (pR.no hI hk (by unfold spFiner noV; rw [if_pos c_7, hy]))
theorem t2_lt {r o : Int32} (h : r < 1 ∨ o < 1) : t2I r o = -4 := if_pos h
theorem t2_gt {r o : Int32} (h1 : ¬ (r < 1 ∨ o < 1)) (h : 9 < r ∨ 9 < o) : t2I r o = -6 := by unfold t2I; rw [if_neg h1, if_pos h]
theorem t2_ok {r o : Int32} (h1 : ¬ (r < 1 ∨ o < 1)) (h : ¬ (9 < r ∨ 9 < o)) : t2I r o = 0 := by unfold t2I; rw [if_neg h1, if_neg h]
set_option maxRecDepth 100000 in
set_option maxHeartbeats 4000000 in
theorem c_X11_two {S : ZS} {n : Nat} {M : Ms} (hI : CI S n M) {a b0 x : Int32} : zM m_X11_two 0 0 [.ref 0, .int a, .int b0, .int x] (zw S n) (pR S n (spTwo M a b0 x)) := by
  show Z m_X11_two _ _ _ 0 [some (.ref _), some (.int _), some (.int _), some (.int _)] [] _
  refine Z_iload_n dX11_two_0 rfl (pc' := 1) rfl ?_
  refine Z_if_lt dX11_two_1 (tgt := 9) rfl (pc' := 4) rfl (fun c_1 => ?_) (fun c_1 => ?_)
  · refine Z_aload_n dX11_two_9 rfl (z_isref _) (pc' := 10) rfl ?_
    refine Z_bipush dX11_two_10 (v := (-2)) (by decide) (pc' := 12) rfl ?_
    refine Z_cVe dX11_two_12 rfl zcw_X11_refuse (As := [_]) (rest := []) rfl ⟨Nat.le_of_ble_eq_true rfl, Nat.le_of_ble_eq_true rfl⟩ (Nat.le_of_ble_eq_true rfl) (zRcv.lay zob_0) ⟨zcw_X11_refuse.2.2.2.2, Nat.le_of_ble_eq_true rfl⟩ zk_RX11_43 (c_X11_refuse (k := 2) (by decide) (by decide)) (pc' := 15) rfl ?_
    exact Z_ireturn dX11_two_15 rfl rfl (pR.no hI (by decide) (by unfold spTwo; rw [if_pos (Or.inl c_1)]))
  · refine Z_iload_n dX11_two_4 rfl (pc' := 5) rfl ?_
    refine Z_iconst dX11_two_5 (v := 1) (by decide) (pc' := 6) rfl ?_
    refine Z_icmp_le dX11_two_6 (tgt := 16) rfl (pc' := 9) rfl (fun c_6 => ?_) (fun c_6 => ?_)
    · refine Z_iload_n dX11_two_16 rfl (pc' := 17) rfl ?_
      refine Z_iconst dX11_two_17 (v := 1) (by decide) (pc' := 18) rfl ?_
      refine Z_icmp_lt dX11_two_18 (tgt := 26) rfl (pc' := 21) rfl (fun c_18 => ?_) (fun c_18 => ?_)
      · refine Z_aload_n dX11_two_26 rfl (z_isref _) (pc' := 27) rfl ?_
        refine Z_bipush dX11_two_27 (v := (-4)) (by decide) (pc' := 29) rfl ?_
        refine Z_cVe dX11_two_29 rfl zcw_X11_refuse (As := [_]) (rest := []) rfl ⟨Nat.le_of_ble_eq_true rfl, Nat.le_of_ble_eq_true rfl⟩ (Nat.le_of_ble_eq_true rfl) (zRcv.lay zob_0) ⟨zcw_X11_refuse.2.2.2.2, Nat.le_of_ble_eq_true rfl⟩ zk_RX11_43 (c_X11_refuse (k := 4) (by decide) (by decide)) (pc' := 32) rfl ?_
        exact Z_ireturn dX11_two_32 rfl rfl (pR.no hI (by decide) (by unfold spTwo; rw [if_neg (n_or c_1 (i_nlt c_6)), t2_lt (Or.inl c_18)]; rfl))
      · refine Z_iload_n dX11_two_21 rfl (pc' := 22) rfl ?_
        refine Z_iconst dX11_two_22 (v := 1) (by decide) (pc' := 23) rfl ?_
        refine Z_icmp_ge dX11_two_23 (tgt := 33) rfl (pc' := 26) rfl (fun c_23 => ?_) (fun c_23 => ?_)
        · refine Z_iload_n dX11_two_33 rfl (pc' := 34) rfl ?_
          refine Z_bipush dX11_two_34 (v := 9) (by decide) (pc' := 36) rfl ?_
          refine Z_icmp_gt dX11_two_36 (tgt := 45) rfl (pc' := 39) rfl (fun c_36 => ?_) (fun c_36 => ?_)
          · refine Z_aload_n dX11_two_45 rfl (z_isref _) (pc' := 46) rfl ?_
            refine Z_bipush dX11_two_46 (v := (-6)) (by decide) (pc' := 48) rfl ?_
            refine Z_cVe dX11_two_48 rfl zcw_X11_refuse (As := [_]) (rest := []) rfl ⟨Nat.le_of_ble_eq_true rfl, Nat.le_of_ble_eq_true rfl⟩ (Nat.le_of_ble_eq_true rfl) (zRcv.lay zob_0) ⟨zcw_X11_refuse.2.2.2.2, Nat.le_of_ble_eq_true rfl⟩ zk_RX11_43 (c_X11_refuse (k := 6) (by decide) (by decide)) (pc' := 51) rfl ?_
            exact Z_ireturn dX11_two_51 rfl rfl (pR.no hI (by decide) (by unfold spTwo; rw [if_neg (n_or c_1 (i_nlt c_6)), t2_gt (n_or c_18 (i_nlt c_23)) (Or.inl c_36)]; rfl))
          · refine Z_iload_n dX11_two_39 rfl (pc' := 40) rfl ?_
            refine Z_bipush dX11_two_40 (v := 9) (by decide) (pc' := 42) rfl ?_
            refine Z_icmp_le dX11_two_42 (tgt := 52) rfl (pc' := 45) rfl (fun c_42 => ?_) (fun c_42 => ?_)
            · refine Z_aload_n dX11_two_52 rfl (z_isref _) (pc' := 53) rfl ?_
              refine Z_gR dX11_two_53 rfl zgr_RX11_10_0 (pc' := 56) rfl ?_
              refine Z_iload_n dX11_two_56 rfl (pc' := 57) rfl ?_
              refine Z_iload_n dX11_two_57 rfl (pc' := 58) rfl ?_
              refine Z_iload_n dX11_two_58 rfl (pc' := 59) rfl ?_
              refine Z_if_ne dX11_two_59 (tgt := 66) rfl (pc' := 62) rfl (fun c_59 => ?_) (fun c_59 => ?_)
              · refine Z_iconst dX11_two_66 (v := 0) (by decide) (pc' := 67) rfl ?_
                refine Z_cVe dX11_two_67 rfl zcw_X2_milesOfTwo (As := [_, _, _]) (rest := []) rfl ⟨Nat.le_of_ble_eq_true rfl, Nat.le_of_ble_eq_true rfl⟩ (Nat.le_of_ble_eq_true rfl) (zRcv.lay zob_1) ⟨zcw_X2_milesOfTwo.2.2.2.2, Nat.le_of_ble_eq_true rfl⟩ zk_RX11_148 (k_two hI) (pc' := 70) rfl ?_
                exact Z_ireturn dX11_two_70 rfl rfl (pR.st hI (by unfold spTwo; rw [if_neg (n_or c_1 (i_nlt c_6)), t2_ok (n_or c_18 (i_nlt c_23)) (n_or c_36 (i_nlt c_42)), if_neg (fun h => h rfl), if_neg c_59]; rfl))
              · refine Z_iconst dX11_two_62 (v := 1) (by decide) (pc' := 63) rfl ?_
                refine Z_goto dX11_two_63 (tgt := 67) rfl ?_
                refine Z_cVe dX11_two_67 rfl zcw_X2_milesOfTwo (As := [_, _, _]) (rest := []) rfl ⟨Nat.le_of_ble_eq_true rfl, Nat.le_of_ble_eq_true rfl⟩ (Nat.le_of_ble_eq_true rfl) (zRcv.lay zob_1) ⟨zcw_X2_milesOfTwo.2.2.2.2, Nat.le_of_ble_eq_true rfl⟩ zk_RX11_148 (k_two hI) (pc' := 70) rfl ?_
                exact Z_ireturn dX11_two_70 rfl rfl (pR.st hI (by unfold spTwo; rw [if_neg (n_or c_1 (i_nlt c_6)), t2_ok (n_or c_18 (i_nlt c_23)) (n_or c_36 (i_nlt c_42)), if_neg (fun h => h rfl), if_pos c_59]; rfl))
            · refine Z_aload_n dX11_two_45 rfl (z_isref _) (pc' := 46) rfl ?_
              refine Z_bipush dX11_two_46 (v := (-6)) (by decide) (pc' := 48) rfl ?_
              refine Z_cVe dX11_two_48 rfl zcw_X11_refuse (As := [_]) (rest := []) rfl ⟨Nat.le_of_ble_eq_true rfl, Nat.le_of_ble_eq_true rfl⟩ (Nat.le_of_ble_eq_true rfl) (zRcv.lay zob_0) ⟨zcw_X11_refuse.2.2.2.2, Nat.le_of_ble_eq_true rfl⟩ zk_RX11_43 (c_X11_refuse (k := 6) (by decide) (by decide)) (pc' := 51) rfl ?_
              exact Z_ireturn dX11_two_51 rfl rfl (pR.no hI (by decide) (by unfold spTwo; rw [if_neg (n_or c_1 (i_nlt c_6)), t2_gt (n_or c_18 (i_nlt c_23)) (Or.inr (i_lt c_42))]; rfl))
        · refine Z_aload_n dX11_two_26 rfl (z_isref _) (pc' := 27) rfl ?_
          refine Z_bipush dX11_two_27 (v := (-4)) (by decide) (pc' := 29) rfl ?_
          refine Z_cVe dX11_two_29 rfl zcw_X11_refuse (As := [_]) (rest := []) rfl ⟨Nat.le_of_ble_eq_true rfl, Nat.le_of_ble_eq_true rfl⟩ (Nat.le_of_ble_eq_true rfl) (zRcv.lay zob_0) ⟨zcw_X11_refuse.2.2.2.2, Nat.le_of_ble_eq_true rfl⟩ zk_RX11_43 (c_X11_refuse (k := 4) (by decide) (by decide)) (pc' := 32) rfl ?_
          exact Z_ireturn dX11_two_32 rfl rfl (pR.no hI (by decide) (by unfold spTwo; rw [if_neg (n_or c_1 (i_nlt c_6)), t2_lt (Or.inr (i_lt c_23))]; rfl))
    · refine Z_aload_n dX11_two_9 rfl (z_isref _) (pc' := 10) rfl ?_
      refine Z_bipush dX11_two_10 (v := (-2)) (by decide) (pc' := 12) rfl ?_
      refine Z_cVe dX11_two_12 rfl zcw_X11_refuse (As := [_]) (rest := []) rfl ⟨Nat.le_of_ble_eq_true rfl, Nat.le_of_ble_eq_true rfl⟩ (Nat.le_of_ble_eq_true rfl) (zRcv.lay zob_0) ⟨zcw_X11_refuse.2.2.2.2, Nat.le_of_ble_eq_true rfl⟩ zk_RX11_43 (c_X11_refuse (k := 2) (by decide) (by decide)) (pc' := 15) rfl ?_
      exact Z_ireturn dX11_two_15 rfl rfl (pR.no hI (by decide) (by unfold spTwo; rw [if_pos (Or.inr (i_lt c_6))]))
theorem k_without {S : ZS} {n j k : Nat} {M : Ms} {r : Int32} (hI : CI S n M) (hk : k < cns (mc M)) (hj : j < n) (hP : S.2.2 j = (zcl (ckd (mc M) k), [nI (cfg (mc M) k), nI (cfs (mc M) k), nI (cln (mc M) k)])) : zM m_X2_milesWithout 0 0 [.ref 1, .ref (48 + j), .int r] (zw S n) (zE (some (.int (cuS M k r))) (zw S n)) := by
  have := c_X2_milesWithout (b := 1) (r := r) (Or.inl rfl) hI.cv hI.ok hk hj hP
  rw [shF_8 hI.ok] at this
  exact this
set_option maxRecDepth 100000 in
set_option maxHeartbeats 4000000 in
theorem c_X11_cut {S : ZS} {n : Nat} {M : Ms} (hI : CI S n M) {s a : Int32} : zM m_X11_cut 0 0 [.ref 0, .int s, .int a] (zw S n) (pR S n (spCut M s a)) := by
  show Z m_X11_cut _ _ _ 0 [some (.ref _), some (.int _), some (.int _)] [] _
  refine Z_aload_n dX11_cut_0 rfl (z_isref _) (pc' := 1) rfl ?_
  refine Z_gR dX11_cut_1 rfl zgr_RX11_10_0 (pc' := 4) rfl ?_
  refine Z_iload_n dX11_cut_4 rfl (pc' := 5) rfl ?_
  refine Z_cVe dX11_cut_5 rfl zcw_X2_stretchAt (As := [_]) (rest := []) rfl ⟨Nat.le_of_ble_eq_true rfl, Nat.le_of_ble_eq_true rfl⟩ (Nat.le_of_ble_eq_true rfl) (zRcv.lay zob_1) ⟨zcw_X2_stretchAt.2.2.2.2, Nat.le_of_ble_eq_true rfl⟩ zk_RX11_62 (c_X2_stretchAt (b := 1) (Or.inl rfl)) (pc' := 8) rfl ?_
  rcases k_stretch hI s with ⟨k, hlt, rfl, e1, j, hj, hP, e⟩ | ⟨e1, e⟩
  · rw [e]
    show Z _ _ _ _ _ _ (.ref (48 + j) :: _) _
    refine Z_astore_n dX11_cut_8 (Nat.le_of_ble_eq_true rfl) (Nat.le_of_ble_eq_true rfl) rfl (ls' := [_, _, _, _]) rfl (z_isref _) (pc' := 9) rfl ?_
    refine Z_aload_n dX11_cut_9 rfl (z_isref _) (pc' := 10) rfl ?_
    refine Z_ifnonnullR dX11_cut_10 (tgt := 19) rfl (pc' := 13) rfl ?_
    refine Z_iload_n dX11_cut_19 rfl (pc' := 20) rfl ?_
    refine Z_cSe dX11_cut_20 rfl zcw_X11_rodRefusal (As := [_]) (rest := []) rfl ⟨Nat.le_of_ble_eq_true rfl, Nat.le_of_ble_eq_true rfl⟩ (Nat.le_of_ble_eq_true rfl) ⟨zcw_X11_rodRefusal.2.2.2.2, Nat.le_of_ble_eq_true rfl⟩ zk_RX11_133 c_X11_rodRefusal (pc' := 23) rfl ?_
    refine Z_istore dX11_cut_23 (Nat.le_of_ble_eq_true rfl) (Nat.le_of_ble_eq_true rfl) rfl (ls' := [_, _, _, _, _]) rfl (pc' := 25) rfl ?_
    refine Z_iload dX11_cut_25 rfl (pc' := 27) rfl ?_
    refine Z_if_eq dX11_cut_27 (tgt := 37) rfl (pc' := 30) rfl (fun c_27 => ?_) (fun c_27 => ?_)
    · refine Z_aload_n dX11_cut_37 rfl (z_isref _) (pc' := 38) rfl ?_
      refine Z_gR dX11_cut_38 rfl zgr_RX11_10_0 (pc' := 41) rfl ?_
      refine Z_aload_n dX11_cut_41 rfl (z_isref _) (pc' := 42) rfl ?_
      refine Z_iload_n dX11_cut_42 rfl (pc' := 43) rfl ?_
      refine Z_cVe dX11_cut_43 rfl zcw_X2_milesWithout (As := [_, _]) (rest := []) rfl ⟨Nat.le_of_ble_eq_true rfl, Nat.le_of_ble_eq_true rfl⟩ (Nat.le_of_ble_eq_true rfl) (zRcv.lay zob_1) ⟨zcw_X2_milesWithout.2.2.2.2, Nat.le_of_ble_eq_true rfl⟩ zk_RX11_198 (k_without hI hlt hj hP) (pc' := 46) rfl ?_
      exact Z_ireturn dX11_cut_46 rfl rfl (pR.st hI (by unfold spCut; rw [e1]; simp only []; rw [if_neg (fun h => h c_27)]))
    · obtain ⟨k1, hk1, hx, hy⟩ := wrI_k c_27
      refine Z_aload_n dX11_cut_30 rfl (z_isref _) (pc' := 31) rfl ?_
      refine Z_iload dX11_cut_31 rfl (pc' := 33) rfl ?_
      refine Z_cVe dX11_cut_33 rfl zcw_X11_refuse (As := [_]) (rest := []) rfl ⟨Nat.le_of_ble_eq_true rfl, Nat.le_of_ble_eq_true rfl⟩ (Nat.le_of_ble_eq_true rfl) (zRcv.lay zob_0) ⟨zcw_X11_refuse.2.2.2.2, Nat.le_of_ble_eq_true rfl⟩ zk_RX11_43 (c_X11_refuse hk1 hx) (pc' := 36) rfl ?_
      exact Z_ireturn dX11_cut_36 rfl rfl (pR.no hI hk1 (by unfold spCut noV; rw [e1]; simp only []; rw [if_pos c_27, hy]))
  · rw [e]
    show Z _ _ _ _ _ _ (.null :: _) _
    refine Z_astore_n dX11_cut_8 (Nat.le_of_ble_eq_true rfl) (Nat.le_of_ble_eq_true rfl) rfl (ls' := [_, _, _, _]) rfl (Or.inl rfl) (pc' := 9) rfl ?_
    refine Z_aload_n dX11_cut_9 rfl (Or.inl rfl) (pc' := 10) rfl ?_
    refine Z_ifnonnullN dX11_cut_10 (tgt := 19) rfl (pc' := 13) rfl ?_
    refine Z_aload_n dX11_cut_13 rfl (z_isref _) (pc' := 14) rfl ?_
    refine Z_iconst dX11_cut_14 (v := (-1)) (by decide) (pc' := 15) rfl ?_
    refine Z_cVe dX11_cut_15 rfl zcw_X11_refuse (As := [_]) (rest := []) rfl ⟨Nat.le_of_ble_eq_true rfl, Nat.le_of_ble_eq_true rfl⟩ (Nat.le_of_ble_eq_true rfl) (zRcv.lay zob_0) ⟨zcw_X11_refuse.2.2.2.2, Nat.le_of_ble_eq_true rfl⟩ zk_RX11_43 (c_X11_refuse (k := 1) (by decide) (by decide)) (pc' := 18) rfl ?_
    exact Z_ireturn dX11_cut_18 rfl rfl (pR.no hI (by decide) (by unfold spCut; rw [e1]))
theorem wc_end {v : Nat → Int32} {m : Nat} (h : m = 0) (k k' : Nat) (s : Option (Nat × Int32)) : wcF v m k s = wcF v m k' s := by subst h; rfl
set_option maxRecDepth 100000 in
set_option maxHeartbeats 4000000 in
theorem lp_X11_worst {S : ZS} {n : Nat} {M : Ms} (hI : CI S n M) {R : Option Value → ZW → Prop} {r rf : Int32} {T : Option (Nat × Int32)} (hR : R (some (.int (bsW T))) (zw S n)) : ∀ (m i : Nat) (s : Option (Nat × Int32)), i + m = 8 → (∀ q a, s = some (q, a) → q < 8) → wcF (fun k => cuS M k r) (cns (mc M) - i) i s = T → Z m_X11_worstCut 0 0 R 24 [some (.ref 0), some (.int r), some (.int rf), some (.int (bsW s)), some (.int (bsA s)), some (.int (nI i))] [] (zw S n) := by
  intro m
  induction m with
  | zero =>
    intro i s h hs hT
    obtain rfl : i = 8 := by omega
    have := hI.ok.1
    rw [show cns (mc M) - 8 = 0 by omega] at hT
    obtain rfl : s = T := hT
    refine Z_iload dX11_worstCut_24 rfl (pc' := 26) rfl ?_
    refine Z_bipush dX11_worstCut_26 (v := 8) (by decide) (pc' := 28) rfl ?_
    refine Z_icmp_ge dX11_worstCut_28 (tgt := 85) rfl (pc' := 31) rfl (fun c_28 => ?_) (fun c_28 => absurd c_28 (fun c => c (by decide)))
    refine Z_iload_n dX11_worstCut_85 rfl (pc' := 86) rfl ?_
    exact Z_ireturn dX11_worstCut_86 rfl rfl hR
  | succ m ih =>
    intro i s h hs hT
    have h8 := hI.ok.1
    refine Z_iload dX11_worstCut_24 rfl (pc' := 26) rfl ?_
    refine Z_bipush dX11_worstCut_26 (v := 8) (by decide) (pc' := 28) rfl ?_
    refine Z_icmp_ge dX11_worstCut_28 (tgt := 85) rfl (pc' := 31) rfl (fun c_28 => absurd c_28 (by rw [nI8, nI_len (by omega) (by omega)]; omega)) (fun c_28 => ?_)
    refine Z_aload_n dX11_worstCut_31 rfl (z_isref _) (pc' := 32) rfl ?_
    refine Z_gR dX11_worstCut_32 rfl zgr_RX11_10_0 (pc' := 35) rfl ?_
    refine Z_iload dX11_worstCut_35 rfl (pc' := 37) rfl ?_
    refine Z_cVe dX11_worstCut_37 rfl zcw_X2_stretchAt (As := [_]) (rest := []) rfl ⟨Nat.le_of_ble_eq_true rfl, Nat.le_of_ble_eq_true rfl⟩ (Nat.le_of_ble_eq_true rfl) (zRcv.lay zob_1) ⟨zcw_X2_stretchAt.2.2.2.2, Nat.le_of_ble_eq_true rfl⟩ zk_RX11_62 (c_X2_stretchAt (b := 1) (Or.inl rfl)) (pc' := 40) rfl ?_
    rcases hI.cv.st hI.ok i (by omega) with ⟨hlt, j, hj, hP, e⟩ | ⟨hge, e⟩
    · rw [e]
      show Z _ _ _ _ _ _ (.ref (48 + j) :: _) _
      rw [show cns (mc M) - i = (cns (mc M) - (i + 1)) + 1 by omega] at hT
      unfold wcF at hT
      cases s with
      | none =>
        refine Z_astore dX11_worstCut_40 (Nat.le_of_ble_eq_true rfl) (Nat.le_of_ble_eq_true rfl) rfl (ls' := [_, _, _, _, _, _, _]) rfl (z_isref _) (pc' := 42) rfl ?_
        refine Z_aload dX11_worstCut_42 rfl (z_isref _) (pc' := 44) rfl ?_
        refine Z_ifnullR dX11_worstCut_44 (tgt := 79) rfl (pc' := 47) rfl ?_
        refine Z_aload_n dX11_worstCut_47 rfl (z_isref _) (pc' := 48) rfl ?_
        refine Z_gR dX11_worstCut_48 rfl zgr_RX11_10_0 (pc' := 51) rfl ?_
        refine Z_aload dX11_worstCut_51 rfl (z_isref _) (pc' := 53) rfl ?_
        refine Z_iload_n dX11_worstCut_53 rfl (pc' := 54) rfl ?_
        refine Z_cVe dX11_worstCut_54 rfl zcw_X2_milesWithout (As := [_, _]) (rest := []) rfl ⟨Nat.le_of_ble_eq_true rfl, Nat.le_of_ble_eq_true rfl⟩ (Nat.le_of_ble_eq_true rfl) (zRcv.lay zob_1) ⟨zcw_X2_milesWithout.2.2.2.2, Nat.le_of_ble_eq_true rfl⟩ zk_RX11_198 (k_without hI hlt hj hP) (pc' := 57) rfl ?_
        refine Z_istore dX11_worstCut_57 (Nat.le_of_ble_eq_true rfl) (Nat.le_of_ble_eq_true rfl) rfl (ls' := [_, _, _, _, _, _, _, _]) rfl (pc' := 59) rfl ?_
        refine Z_iload_n dX11_worstCut_59 rfl (pc' := 60) rfl ?_
        refine Z_bipush dX11_worstCut_60 (v := (-9)) (by decide) (pc' := 62) rfl ?_
        refine Z_icmp_eq dX11_worstCut_62 (tgt := 72) rfl (pc' := 65) rfl (fun c_62 => ?_) (fun c_62 => absurd c_62 (fun c => c rfl))
        refine Z_iload dX11_worstCut_72 rfl (pc' := 74) rfl ?_
        refine Z_istore_n dX11_worstCut_74 (Nat.le_of_ble_eq_true rfl) (Nat.le_of_ble_eq_true rfl) rfl (ls' := [_, _, _, _, _, _, _, _]) rfl (pc' := 75) rfl ?_
        refine Z_iload dX11_worstCut_75 rfl (pc' := 77) rfl ?_
        refine Z_istore dX11_worstCut_77 (Nat.le_of_ble_eq_true rfl) (Nat.le_of_ble_eq_true rfl) rfl (ls' := [_, _, _, _, _, _, _, _]) rfl (pc' := 79) rfl ?_
        refine Z_iinc dX11_worstCut_79 rfl (nI_inc i) (Nat.le_of_ble_eq_true rfl) rfl (ls' := [_, _, _, _, _, _, _, _]) rfl (pc' := 82) rfl ?_
        refine Z_goto dX11_worstCut_82 (tgt := 24) rfl ?_
        refine Z_take 6 (ls' := [_, _, _, _, _, _]) rfl ?_
        exact ih (i + 1) _ (by omega) (fun q a h => by cases h; omega) hT
      | some p =>
        obtain ⟨q, a⟩ := p
        have hq := hs q a rfl
        refine Z_astore dX11_worstCut_40 (Nat.le_of_ble_eq_true rfl) (Nat.le_of_ble_eq_true rfl) rfl (ls' := [_, _, _, _, _, _, _]) rfl (z_isref _) (pc' := 42) rfl ?_
        refine Z_aload dX11_worstCut_42 rfl (z_isref _) (pc' := 44) rfl ?_
        refine Z_ifnullR dX11_worstCut_44 (tgt := 79) rfl (pc' := 47) rfl ?_
        refine Z_aload_n dX11_worstCut_47 rfl (z_isref _) (pc' := 48) rfl ?_
        refine Z_gR dX11_worstCut_48 rfl zgr_RX11_10_0 (pc' := 51) rfl ?_
        refine Z_aload dX11_worstCut_51 rfl (z_isref _) (pc' := 53) rfl ?_
        refine Z_iload_n dX11_worstCut_53 rfl (pc' := 54) rfl ?_
        refine Z_cVe dX11_worstCut_54 rfl zcw_X2_milesWithout (As := [_, _]) (rest := []) rfl ⟨Nat.le_of_ble_eq_true rfl, Nat.le_of_ble_eq_true rfl⟩ (Nat.le_of_ble_eq_true rfl) (zRcv.lay zob_1) ⟨zcw_X2_milesWithout.2.2.2.2, Nat.le_of_ble_eq_true rfl⟩ zk_RX11_198 (k_without hI hlt hj hP) (pc' := 57) rfl ?_
        refine Z_istore dX11_worstCut_57 (Nat.le_of_ble_eq_true rfl) (Nat.le_of_ble_eq_true rfl) rfl (ls' := [_, _, _, _, _, _, _, _]) rfl (pc' := 59) rfl ?_
        refine Z_iload_n dX11_worstCut_59 rfl (pc' := 60) rfl ?_
        refine Z_bipush dX11_worstCut_60 (v := (-9)) (by decide) (pc' := 62) rfl ?_
        refine Z_icmp_eq dX11_worstCut_62 (tgt := 72) rfl (pc' := 65) rfl (fun c_62 => absurd c_62 (nI_nm9 (by omega))) (fun c_62 => ?_)
        refine Z_iload dX11_worstCut_65 rfl (pc' := 67) rfl ?_
        refine Z_iload dX11_worstCut_67 rfl (pc' := 69) rfl ?_
        refine Z_icmp_ge dX11_worstCut_69 (tgt := 79) rfl (pc' := 72) rfl (fun c_69 => ?_) (fun c_69 => ?_)
        · refine Z_iinc dX11_worstCut_79 rfl (nI_inc i) (Nat.le_of_ble_eq_true rfl) rfl (ls' := [_, _, _, _, _, _, _, _]) rfl (pc' := 82) rfl ?_
          refine Z_goto dX11_worstCut_82 (tgt := 24) rfl ?_
          refine Z_take 6 (ls' := [_, _, _, _, _, _]) rfl ?_
          simp only [] at hT
          rw [if_neg (show ¬ cuS M i r < a from i_nlt c_69)] at hT
          exact ih (i + 1) _ (by omega) hs hT
        · refine Z_iload dX11_worstCut_72 rfl (pc' := 74) rfl ?_
          refine Z_istore_n dX11_worstCut_74 (Nat.le_of_ble_eq_true rfl) (Nat.le_of_ble_eq_true rfl) rfl (ls' := [_, _, _, _, _, _, _, _]) rfl (pc' := 75) rfl ?_
          refine Z_iload dX11_worstCut_75 rfl (pc' := 77) rfl ?_
          refine Z_istore dX11_worstCut_77 (Nat.le_of_ble_eq_true rfl) (Nat.le_of_ble_eq_true rfl) rfl (ls' := [_, _, _, _, _, _, _, _]) rfl (pc' := 79) rfl ?_
          refine Z_iinc dX11_worstCut_79 rfl (nI_inc i) (Nat.le_of_ble_eq_true rfl) rfl (ls' := [_, _, _, _, _, _, _, _]) rfl (pc' := 82) rfl ?_
          refine Z_goto dX11_worstCut_82 (tgt := 24) rfl ?_
          refine Z_take 6 (ls' := [_, _, _, _, _, _]) rfl ?_
          simp only [] at hT
          rw [if_pos (show cuS M i r < a from i_lt c_69)] at hT
          exact ih (i + 1) _ (by omega) (fun q a h => by cases h; omega) hT
    · rw [e]
      show Z _ _ _ _ _ _ (.null :: _) _
      refine Z_astore dX11_worstCut_40 (Nat.le_of_ble_eq_true rfl) (Nat.le_of_ble_eq_true rfl) rfl (ls' := [_, _, _, _, _, _, _]) rfl (Or.inl rfl) (pc' := 42) rfl ?_
      refine Z_aload dX11_worstCut_42 rfl (Or.inl rfl) (pc' := 44) rfl ?_
      refine Z_ifnullN dX11_worstCut_44 (tgt := 79) rfl (pc' := 47) rfl ?_
      refine Z_iinc dX11_worstCut_79 rfl (nI_inc i) (Nat.le_of_ble_eq_true rfl) rfl (ls' := [_, _, _, _, _, _, _]) rfl (pc' := 82) rfl ?_
      refine Z_goto dX11_worstCut_82 (tgt := 24) rfl ?_
      refine Z_take 6 (ls' := [_, _, _, _, _, _]) rfl ?_
      rw [show cns (mc M) - i = cns (mc M) - (i + 1) by omega] at hT
      rw [wc_end (by omega) i (i + 1)] at hT
      exact ih (i + 1) s (by omega) hs hT
set_option maxRecDepth 100000 in
set_option maxHeartbeats 4000000 in
theorem c_X11_worstCut {S : ZS} {n : Nat} {M : Ms} (hI : CI S n M) {a : Int32} : zM m_X11_worstCut 0 0 [.ref 0, .int a] (zw S n) (pR S n (spWorst M a)) := by
  show Z m_X11_worstCut _ _ _ 0 [some (.ref _), some (.int _)] [] _
  refine Z_iload_n dX11_worstCut_0 rfl (pc' := 1) rfl ?_
  refine Z_cSe dX11_worstCut_1 rfl zcw_X11_rodRefusal (As := [_]) (rest := []) rfl ⟨Nat.le_of_ble_eq_true rfl, Nat.le_of_ble_eq_true rfl⟩ (Nat.le_of_ble_eq_true rfl) ⟨zcw_X11_rodRefusal.2.2.2.2, Nat.le_of_ble_eq_true rfl⟩ zk_RX11_133 c_X11_rodRefusal (pc' := 4) rfl ?_
  refine Z_istore_n dX11_worstCut_4 (Nat.le_of_ble_eq_true rfl) (Nat.le_of_ble_eq_true rfl) rfl (ls' := [_, _, _]) rfl (pc' := 5) rfl ?_
  refine Z_iload_n dX11_worstCut_5 rfl (pc' := 6) rfl ?_
  refine Z_if_eq dX11_worstCut_6 (tgt := 15) rfl (pc' := 9) rfl (fun c_6 => ?_) (fun c_6 => ?_)
  · refine Z_bipush dX11_worstCut_15 (v := (-9)) (by decide) (pc' := 17) rfl ?_
    refine Z_istore_n dX11_worstCut_17 (Nat.le_of_ble_eq_true rfl) (Nat.le_of_ble_eq_true rfl) rfl (ls' := [_, _, _, _]) rfl (pc' := 18) rfl ?_
    refine Z_iconst dX11_worstCut_18 (v := 0) (by decide) (pc' := 19) rfl ?_
    refine Z_istore dX11_worstCut_19 (Nat.le_of_ble_eq_true rfl) (Nat.le_of_ble_eq_true rfl) rfl (ls' := [_, _, _, _, _]) rfl (pc' := 21) rfl ?_
    refine Z_iconst dX11_worstCut_21 (v := 0) (by decide) (pc' := 22) rfl ?_
    refine Z_istore dX11_worstCut_22 (Nat.le_of_ble_eq_true rfl) (Nat.le_of_ble_eq_true rfl) rfl (ls' := [_, _, _, _, _, _]) rfl (pc' := 24) rfl ?_
    exact lp_X11_worst hI (pR.st hI (by unfold spWorst; rw [if_neg (fun h => h c_6)]; rfl)) 8 0 none rfl (fun q a h => by cases h) rfl
  · obtain ⟨k, hk, hx, hy⟩ := wrI_k c_6
    refine Z_aload_n dX11_worstCut_9 rfl (z_isref _) (pc' := 10) rfl ?_
    refine Z_iload_n dX11_worstCut_10 rfl (pc' := 11) rfl ?_
    refine Z_cVe dX11_worstCut_11 rfl zcw_X11_refuse (As := [_]) (rest := []) rfl ⟨Nat.le_of_ble_eq_true rfl, Nat.le_of_ble_eq_true rfl⟩ (Nat.le_of_ble_eq_true rfl) (zRcv.lay zob_0) ⟨zcw_X11_refuse.2.2.2.2, Nat.le_of_ble_eq_true rfl⟩ zk_RX11_43 (c_X11_refuse hk hx) (pc' := 14) rfl ?_
    exact Z_ireturn dX11_worstCut_14 rfl rfl (pR.no hI hk (by unfold spWorst noV; rw [if_pos c_6, hy]))
set_option maxRecDepth 100000 in
set_option maxHeartbeats 4000000 in
theorem c_X11_copy {S : ZS} {n : Nat} {M : Ms} (hI : CI S n M) {a b0 : Int32} : zM m_X11_copy 0 0 [.ref 0, .int a, .int b0] (zw S n) (pR S n (spCopy M a b0)) := by
  show Z m_X11_copy _ _ _ 0 [some (.ref _), some (.int _), some (.int _)] [] _
  refine Z_iload_n dX11_copy_0 rfl (pc' := 1) rfl ?_
  refine Z_iconst dX11_copy_1 (v := 1) (by decide) (pc' := 2) rfl ?_
  refine Z_icmp_lt dX11_copy_2 (tgt := 10) rfl (pc' := 5) rfl (fun c_2 => ?_) (fun c_2 => ?_)
  · refine Z_aload_n dX11_copy_10 rfl (z_isref _) (pc' := 11) rfl ?_
    refine Z_bipush dX11_copy_11 (v := (-4)) (by decide) (pc' := 13) rfl ?_
    refine Z_cVe dX11_copy_13 rfl zcw_X11_refuse (As := [_]) (rest := []) rfl ⟨Nat.le_of_ble_eq_true rfl, Nat.le_of_ble_eq_true rfl⟩ (Nat.le_of_ble_eq_true rfl) (zRcv.lay zob_0) ⟨zcw_X11_refuse.2.2.2.2, Nat.le_of_ble_eq_true rfl⟩ zk_RX11_43 (c_X11_refuse (k := 4) (by decide) (by decide)) (pc' := 16) rfl ?_
    exact Z_ireturn dX11_copy_16 rfl rfl (pR.no hI (by decide) (by unfold spCopy; rw [t2_lt (Or.inl c_2)]; rfl))
  · refine Z_iload_n dX11_copy_5 rfl (pc' := 6) rfl ?_
    refine Z_iconst dX11_copy_6 (v := 1) (by decide) (pc' := 7) rfl ?_
    refine Z_icmp_ge dX11_copy_7 (tgt := 17) rfl (pc' := 10) rfl (fun c_7 => ?_) (fun c_7 => ?_)
    · refine Z_iload_n dX11_copy_17 rfl (pc' := 18) rfl ?_
      refine Z_bipush dX11_copy_18 (v := 9) (by decide) (pc' := 20) rfl ?_
      refine Z_icmp_gt dX11_copy_20 (tgt := 29) rfl (pc' := 23) rfl (fun c_20 => ?_) (fun c_20 => ?_)
      · refine Z_aload_n dX11_copy_29 rfl (z_isref _) (pc' := 30) rfl ?_
        refine Z_bipush dX11_copy_30 (v := (-6)) (by decide) (pc' := 32) rfl ?_
        refine Z_cVe dX11_copy_32 rfl zcw_X11_refuse (As := [_]) (rest := []) rfl ⟨Nat.le_of_ble_eq_true rfl, Nat.le_of_ble_eq_true rfl⟩ (Nat.le_of_ble_eq_true rfl) (zRcv.lay zob_0) ⟨zcw_X11_refuse.2.2.2.2, Nat.le_of_ble_eq_true rfl⟩ zk_RX11_43 (c_X11_refuse (k := 6) (by decide) (by decide)) (pc' := 35) rfl ?_
        exact Z_ireturn dX11_copy_35 rfl rfl (pR.no hI (by decide) (by unfold spCopy; rw [t2_gt (n_or c_2 (i_nlt c_7)) (Or.inl c_20)]; rfl))
      · refine Z_iload_n dX11_copy_23 rfl (pc' := 24) rfl ?_
        refine Z_bipush dX11_copy_24 (v := 9) (by decide) (pc' := 26) rfl ?_
        refine Z_icmp_le dX11_copy_26 (tgt := 36) rfl (pc' := 29) rfl (fun c_26 => ?_) (fun c_26 => ?_)
        · have h1 := (n_or c_2 (i_nlt c_7))
          have h9 := (n_or c_20 (i_nlt c_26))
          obtain ⟨k, hk, rfl⟩ := i_rng (a := a) (m := 9) (by decide) (fun q => c_2 (Int32.lt_trans q (by decide))) c_20
          have hk1 : 0 < k := by
            rw [show (1 : Int32) = nI 1 from rfl, nI_ltn (by omega) (by decide)] at c_2
            omega
          refine Z_aload_n dX11_copy_36 rfl (z_isref _) (pc' := 37) rfl ?_
          refine Z_gR dX11_copy_37 rfl zgr_RX11_10_0 (pc' := 40) rfl ?_
          refine Z_aload_n dX11_copy_40 rfl (z_isref _) (pc' := 41) rfl ?_
          refine Z_gR dX11_copy_41 rfl zgr_RX11_10_0 (pc' := 44) rfl ?_
          refine Z_cVe dX11_copy_44 rfl zcw_X2_shoreNow (As := []) (rest := [_]) rfl ⟨Nat.le_of_ble_eq_true rfl, Nat.le_of_ble_eq_true rfl⟩ (Nat.le_of_ble_eq_true rfl) (zRcv.lay zob_1) ⟨zcw_X2_shoreNow.2.2.2.2, Nat.le_of_ble_eq_true rfl⟩ zk_RX11_99 (k_shoreNow hI) (pc' := 47) rfl ?_
          refine Z_iload_n dX11_copy_47 rfl (pc' := 48) rfl ?_
          refine Z_cSe dX11_copy_48 rfl zcw_X11_eachOf (As := [_, _]) (rest := [_]) rfl ⟨Nat.le_of_ble_eq_true rfl, Nat.le_of_ble_eq_true rfl⟩ (Nat.le_of_ble_eq_true rfl) ⟨zcw_X11_eachOf.2.2.2.2, Nat.le_of_ble_eq_true rfl⟩ zk_RX11_202 (c_X11_eachOf hk1 (by omega)) (pc' := 51) rfl ?_
          refine Z_iload_n dX11_copy_51 rfl (pc' := 52) rfl ?_
          refine Z_iconst dX11_copy_52 (v := 0) (by decide) (pc' := 53) rfl ?_
          refine Z_cVe dX11_copy_53 rfl zcw_X2_milesOf (As := [_, _, _]) (rest := []) rfl ⟨Nat.le_of_ble_eq_true rfl, Nat.le_of_ble_eq_true rfl⟩ (Nat.le_of_ble_eq_true rfl) (zRcv.lay zob_1) ⟨zcw_X2_milesOf.2.2.2.2, Nat.le_of_ble_eq_true rfl⟩ zk_RX11_136 (k_milesOf (bg := 0) hI (by omega)) (pc' := 56) rfl ?_
          exact Z_ireturn dX11_copy_56 rfl rfl (pR.st hI (by unfold spCopy; rw [t2_ok h1 h9, if_neg (fun h => h rfl), nI_nat (by omega)]))
        · refine Z_aload_n dX11_copy_29 rfl (z_isref _) (pc' := 30) rfl ?_
          refine Z_bipush dX11_copy_30 (v := (-6)) (by decide) (pc' := 32) rfl ?_
          refine Z_cVe dX11_copy_32 rfl zcw_X11_refuse (As := [_]) (rest := []) rfl ⟨Nat.le_of_ble_eq_true rfl, Nat.le_of_ble_eq_true rfl⟩ (Nat.le_of_ble_eq_true rfl) (zRcv.lay zob_0) ⟨zcw_X11_refuse.2.2.2.2, Nat.le_of_ble_eq_true rfl⟩ zk_RX11_43 (c_X11_refuse (k := 6) (by decide) (by decide)) (pc' := 35) rfl ?_
          exact Z_ireturn dX11_copy_35 rfl rfl (pR.no hI (by decide) (by unfold spCopy; rw [t2_gt (n_or c_2 (i_nlt c_7)) (Or.inr (i_lt c_26))]; rfl))
    · refine Z_aload_n dX11_copy_10 rfl (z_isref _) (pc' := 11) rfl ?_
      refine Z_bipush dX11_copy_11 (v := (-4)) (by decide) (pc' := 13) rfl ?_
      refine Z_cVe dX11_copy_13 rfl zcw_X11_refuse (As := [_]) (rest := []) rfl ⟨Nat.le_of_ble_eq_true rfl, Nat.le_of_ble_eq_true rfl⟩ (Nat.le_of_ble_eq_true rfl) (zRcv.lay zob_0) ⟨zcw_X11_refuse.2.2.2.2, Nat.le_of_ble_eq_true rfl⟩ zk_RX11_43 (c_X11_refuse (k := 4) (by decide) (by decide)) (pc' := 16) rfl ?_
      exact Z_ireturn dX11_copy_16 rfl rfl (pR.no hI (by decide) (by unfold spCopy; rw [t2_lt (Or.inr (i_lt c_7))]; rfl))
set_option maxRecDepth 100000 in
set_option maxHeartbeats 4000000 in
theorem lp_X11_sure {S : ZS} {n : Nat} {M : Ms} (hI : CI S n M) {R : Option Value → ZW → Prop} {r : Nat} {rf : Int32} (hr9 : r ≤ 9) (hR : R (some (.int (nI (zct (suF (mc M) (mcf M) r) 64)))) (zw S n)) : ∀ (m q : Nat), q + m = r → Z m_X11_sure 0 0 R 29 [some (.ref 0), some (.int (nI r)), some (.int rf), some (.long (zmk (mcf M))), none, some (.long (zmk (suF (mc M) (mcf M) q))), none, some (.int (nI (q + 1)))] [] (zw S n) := by
  intro m
  induction m with
  | zero =>
    intro q h
    obtain rfl : q = r := by omega
    refine Z_iload dX11_sure_29 rfl (pc' := 31) rfl ?_
    refine Z_iload_n dX11_sure_31 rfl (pc' := 32) rfl ?_
    refine Z_icmp_gt dX11_sure_32 (tgt := 57) rfl (pc' := 35) rfl (fun c_32 => ?_) (fun c_32 => absurd c_32 (fun c => c ((nI_ltn (by omega) (by omega)).mpr (by omega))))
    refine Z_lload dX11_sure_57 rfl (pc' := 59) rfl ?_
    refine Z_cSe dX11_sure_59 rfl zcw_J13_bitCount_95d88 (As := [_]) (rest := []) rfl ⟨Nat.le_of_ble_eq_true rfl, Nat.le_of_ble_eq_true rfl⟩ (Nat.le_of_ble_eq_true rfl) ⟨zcw_J13_bitCount_95d88.2.2.2.2, Nat.le_of_ble_eq_true rfl⟩ zk_RX11_206 c_J13_bitCount_95d88 (pc' := 62) rfl ?_
    exact Z_ireturn dX11_sure_62 rfl rfl hR
  | succ m ih =>
    intro q h
    refine Z_iload dX11_sure_29 rfl (pc' := 31) rfl ?_
    refine Z_iload_n dX11_sure_31 rfl (pc' := 32) rfl ?_
    refine Z_icmp_gt dX11_sure_32 (tgt := 57) rfl (pc' := 35) rfl (fun c_32 => absurd c_32 (by rw [nI_ltn (by omega) (by omega)]; omega)) (fun c_32 => ?_)
    refine Z_lload dX11_sure_35 rfl (pc' := 37) rfl ?_
    refine Z_aload_n dX11_sure_37 rfl (z_isref _) (pc' := 38) rfl ?_
    refine Z_gR dX11_sure_38 rfl zgr_RX11_10_0 (pc' := 41) rfl ?_
    refine Z_lload_n dX11_sure_41 rfl (pc' := 42) rfl ?_
    refine Z_iload dX11_sure_42 rfl (pc' := 44) rfl ?_
    refine Z_iconst dX11_sure_44 (v := 0) (by decide) (pc' := 45) rfl ?_
    refine Z_cVe dX11_sure_45 rfl zcw_X2_reachedFrom (As := [_, _, _]) (rest := [_]) rfl ⟨Nat.le_of_ble_eq_true rfl, Nat.le_of_ble_eq_true rfl⟩ (Nat.le_of_ble_eq_true rfl) (zRcv.lay zob_1) ⟨zcw_X2_reachedFrom.2.2.2.2, Nat.le_of_ble_eq_true rfl⟩ zk_RX11_111 (k_reachedFrom (bg := 0) hI (by omega)) (pc' := 48) rfl ?_
    refine Z_land dX11_sure_48 (pc' := 49) rfl ?_
    rw [show lmk (WL (mc M) (mcf M) (nI (q + 1)) 0) = zmk (fun k => decide (k ∈ WL (mc M) (mcf M) (nI (q + 1)) 0)) from rfl, zmk_and, show (fun k => suF (mc M) (mcf M) q k && decide (k ∈ WL (mc M) (mcf M) (nI (q + 1)) 0)) = suF (mc M) (mcf M) (q + 1) from rfl]
    refine Z_lstore dX11_sure_49 (Nat.le_of_ble_eq_true rfl) (Nat.le_of_ble_eq_true rfl) rfl (ls' := [_, _, _, _, _, _, _, _]) rfl (pc' := 51) rfl ?_
    refine Z_iinc dX11_sure_51 rfl (nI_inc (q + 1)) (Nat.le_of_ble_eq_true rfl) rfl (ls' := [_, _, _, _, _, _, _, _]) rfl (pc' := 54) rfl ?_
    refine Z_goto dX11_sure_54 (tgt := 29) rfl ?_
    refine Z_take 8 (ls' := [_, _, _, _, _, _, _, _]) rfl ?_
    exact ih (q + 1) (by omega)
set_option maxRecDepth 100000 in
set_option maxHeartbeats 4000000 in
theorem c_X11_sure {S : ZS} {n : Nat} {M : Ms} (hI : CI S n M) {a : Int32} : zM m_X11_sure 0 0 [.ref 0, .int a] (zw S n) (pR S n (spSure M a)) := by
  show Z m_X11_sure _ _ _ 0 [some (.ref _), some (.int _)] [] _
  refine Z_iload_n dX11_sure_0 rfl (pc' := 1) rfl ?_
  refine Z_cSe dX11_sure_1 rfl zcw_X11_rodRefusal (As := [_]) (rest := []) rfl ⟨Nat.le_of_ble_eq_true rfl, Nat.le_of_ble_eq_true rfl⟩ (Nat.le_of_ble_eq_true rfl) ⟨zcw_X11_rodRefusal.2.2.2.2, Nat.le_of_ble_eq_true rfl⟩ zk_RX11_133 c_X11_rodRefusal (pc' := 4) rfl ?_
  refine Z_istore_n dX11_sure_4 (Nat.le_of_ble_eq_true rfl) (Nat.le_of_ble_eq_true rfl) rfl (ls' := [_, _, _]) rfl (pc' := 5) rfl ?_
  refine Z_iload_n dX11_sure_5 rfl (pc' := 6) rfl ?_
  refine Z_if_eq dX11_sure_6 (tgt := 15) rfl (pc' := 9) rfl (fun c_6 => ?_) (fun c_6 => ?_)
  · have c0 := c_6
    obtain ⟨r, b, hr1, hr9, hb9, rfl, hb0⟩ := wrI_0 c_6
    refine Z_aload_n dX11_sure_15 rfl (z_isref _) (pc' := 16) rfl ?_
    refine Z_gR dX11_sure_16 rfl zgr_RX11_10_0 (pc' := 19) rfl ?_
    refine Z_cVe dX11_sure_19 rfl zcw_X2_shoreNow (As := []) (rest := []) rfl ⟨Nat.le_of_ble_eq_true rfl, Nat.le_of_ble_eq_true rfl⟩ (Nat.le_of_ble_eq_true rfl) (zRcv.lay zob_1) ⟨zcw_X2_shoreNow.2.2.2.2, Nat.le_of_ble_eq_true rfl⟩ zk_RX11_99 (k_shoreNow hI) (pc' := 22) rfl ?_
    refine Z_lstore_n dX11_sure_22 (Nat.le_of_ble_eq_true rfl) (Nat.le_of_ble_eq_true rfl) rfl (ls' := [_, _, _, _, _]) rfl (pc' := 23) rfl ?_
    refine Z_lload_n dX11_sure_23 rfl (pc' := 24) rfl ?_
    refine Z_lstore dX11_sure_24 (Nat.le_of_ble_eq_true rfl) (Nat.le_of_ble_eq_true rfl) rfl (ls' := [_, _, _, _, _, _, _]) rfl (pc' := 26) rfl ?_
    refine Z_iconst dX11_sure_26 (v := 1) (by decide) (pc' := 27) rfl ?_
    refine Z_istore dX11_sure_27 (Nat.le_of_ble_eq_true rfl) (Nat.le_of_ble_eq_true rfl) rfl (ls' := [_, _, _, _, _, _, _, _]) rfl (pc' := 29) rfl ?_
    exact lp_X11_sure hI hr9 (pR.st hI (by unfold spSure; rw [if_neg (fun h => h c0), nI_nat (by omega)])) r 0 (by omega)
  · obtain ⟨k, hk, hx, hy⟩ := wrI_k c_6
    refine Z_aload_n dX11_sure_9 rfl (z_isref _) (pc' := 10) rfl ?_
    refine Z_iload_n dX11_sure_10 rfl (pc' := 11) rfl ?_
    refine Z_cVe dX11_sure_11 rfl zcw_X11_refuse (As := [_]) (rest := []) rfl ⟨Nat.le_of_ble_eq_true rfl, Nat.le_of_ble_eq_true rfl⟩ (Nat.le_of_ble_eq_true rfl) (zRcv.lay zob_0) ⟨zcw_X11_refuse.2.2.2.2, Nat.le_of_ble_eq_true rfl⟩ zk_RX11_43 (c_X11_refuse hk hx) (pc' := 14) rfl ?_
    exact Z_ireturn dX11_sure_14 rfl rfl (pR.no hI hk (by unfold spSure noV; rw [if_pos c_6, hy]))
set_option maxRecDepth 100000 in
set_option maxHeartbeats 4000000 in
theorem lp_X11_judge_c {S : ZS} {n : Nat} {M : Ms} (hI : CI S n M) {R : Option Value → ZW → Prop} {a b0 rf x : Int32} {l1 : Int64} (hR : R (some (.int x)) (zw (sA S 0 7 0) n)) {i : Int32} : Z m_X11_judge 0 0 R 94 [some (.ref 0), some (.int a), some (.int b0), some (.int rf), some (.long l1), none, some (.int x), some (.int i)] [] (zw S n) := by
  refine Z_aload_n dX11_judge_94 rfl (z_isref _) (pc' := 95) rfl ?_
  refine Z_iconst dX11_judge_95 (v := 0) (by decide) (pc' := 96) rfl ?_
  refine Z_pI dX11_judge_96 rfl zpi_RX11_210_0 (pc' := 99) rfl ?_
  refine Z_iload dX11_judge_99 rfl (pc' := 101) rfl ?_
  exact Z_ireturn dX11_judge_101 rfl rfl hR
set_option maxRecDepth 100000 in
set_option maxHeartbeats 4000000 in
theorem lp_X11_judge_b {S : ZS} {n : Nat} {M : Ms} (hI : CI S n M) {R : Option Value → ZW → Prop} {a b0 rf : Int32} {k : Nat} (hk : k < 100) {l1 : Int64} (hR : R (some (.int (nI k))) (zw (sA S 0 7 0) n)) {i : Nat} : Z m_X11_judge 0 0 R 41 [some (.ref 0), some (.int a), some (.int b0), some (.int rf), some (.long l1), none, some (.int (nI k)), some (.int (nI i))] [] (zw S n) := by
  refine Z_iload dX11_judge_41 rfl (pc' := 43) rfl ?_
  refine Z_aload_n dX11_judge_43 rfl (z_isref _) (pc' := 44) rfl ?_
  refine Z_gI dX11_judge_44 rfl zgi_RX11_210_0 (pc' := 47) rfl ?_
  refine Z_icmp_ge dX11_judge_47 (tgt := 94) rfl (pc' := 50) rfl (fun c_47 => ?_) (fun c_47 => ?_)
  · exact lp_X11_judge_c hI hR
  · refine Z_iload dX11_judge_50 rfl (pc' := 52) rfl ?_
    refine Z_aload_n dX11_judge_52 rfl (z_isref _) (pc' := 53) rfl ?_
    refine Z_gR dX11_judge_53 rfl zgr_RX11_36_0 (pc' := 56) rfl ?_
    refine Z_al dX11_judge_56 zar_23 (v := 12) (by decide) (pc' := 57) rfl ?_
    refine Z_icmp_ge dX11_judge_57 (tgt := 94) rfl (pc' := 60) rfl (fun c_57 => ?_) (fun c_57 => ?_)
    · exact lp_X11_judge_c hI hR
    · refine Z_iload dX11_judge_60 rfl (pc' := 62) rfl ?_
      refine Z_bipush dX11_judge_62 (v := (-9)) (by decide) (pc' := 64) rfl ?_
      refine Z_icmp_ne dX11_judge_64 (tgt := 94) rfl (pc' := 67) rfl (fun c_64 => ?_) (fun c_64 => absurd c_64 (nI_nm9 (by omega)))
      exact lp_X11_judge_c hI hR
theorem jd_eq {S : ZS} {n : Nat} {M : Ms} {f : Nat → Bool} {r : Int32} {bg i q : Nat} (hq : q ≤ 48) (hI : CI S n M) (h : nI q = oI (WL (mc M) f r bg)[i]?) : (WL (mc M) f r bg)[i]? = some q := by
  cases e : (WL (mc M) f r bg)[i]? with
  | none => rw [e] at h; exact absurd h (nI_nm9 (by omega))
  | some p =>
    rw [e] at h
    have h1 := WL_rng (List.mem_of_getElem? e)
    have := hI.ok.2.1
    have := (nI_eqn (by omega) (by omega)).mp h
    rw [this]
set_option maxRecDepth 100000 in
set_option maxHeartbeats 4000000 in
theorem lp_X11_judge {S : ZS} {n : Nat} {M : Ms} (hI : CI S n M) {R : Option Value → ZW → Prop} {a b0 rf r : Int32} {bg : Nat} {T : Option Nat} (hR : R (some (.int (oI T))) (zw (sA S 0 7 0) n)) : ∀ (m i : Nat), i + m = mrl M → jdF (WL (mc M) (mcf M) r bg) (mrw M) m i = T → Z m_X11_judge 0 0 R 41 [some (.ref 0), some (.int a), some (.int b0), some (.int rf), some (.long (lmk (WL (mc M) (mcf M) r bg))), none, some (.int (-9)), some (.int (nI i))] [] (zw S n) := by
  intro m
  induction m with
  | zero =>
    intro i h hT
    obtain rfl : i = mrl M := by omega
    have hrl := hI.2.2.2.1.2.1
    obtain rfl : none = T := hT
    refine Z_iload dX11_judge_41 rfl (pc' := 43) rfl ?_
    refine Z_aload_n dX11_judge_43 rfl (z_isref _) (pc' := 44) rfl ?_
    refine Z_gI dX11_judge_44 rfl zgi_RX11_210_0 (pc' := 47) rfl ?_
    rw [hI.2.2.2.1.1]
    refine Z_icmp_ge dX11_judge_47 (tgt := 94) rfl (pc' := 50) rfl (fun c_47 => ?_) (fun c_47 => absurd c_47 (fun c => c ((nI_len (by omega) (by omega)).mpr (Nat.le_refl _))))
    exact lp_X11_judge_c hI hR
  | succ m ih =>
    intro i h hT
    have hrl := hI.2.2.2.1.2.1
    unfold jdF at hT
    obtain ⟨hrow, hr48⟩ := hI.2.2.2.1.2.2 i (by omega)
    refine Z_iload dX11_judge_41 rfl (pc' := 43) rfl ?_
    refine Z_aload_n dX11_judge_43 rfl (z_isref _) (pc' := 44) rfl ?_
    refine Z_gI dX11_judge_44 rfl zgi_RX11_210_0 (pc' := 47) rfl ?_
    rw [hI.2.2.2.1.1]
    refine Z_icmp_ge dX11_judge_47 (tgt := 94) rfl (pc' := 50) rfl (fun c_47 => absurd c_47 (by rw [nI_len (by omega) (by omega)]; omega)) (fun c_47 => ?_)
    refine Z_iload dX11_judge_50 rfl (pc' := 52) rfl ?_
    refine Z_aload_n dX11_judge_52 rfl (z_isref _) (pc' := 53) rfl ?_
    refine Z_gR dX11_judge_53 rfl zgr_RX11_36_0 (pc' := 56) rfl ?_
    refine Z_al dX11_judge_56 zar_23 (v := 12) (by decide) (pc' := 57) rfl ?_
    show Z _ _ _ _ _ _ (.int (nI 12) :: _) _
    refine Z_icmp_ge dX11_judge_57 (tgt := 94) rfl (pc' := 60) rfl (fun c_57 => absurd c_57 (by rw [nI_len (by decide) (by omega)]; omega)) (fun c_57 => ?_)
    refine Z_iload dX11_judge_60 rfl (pc' := 62) rfl ?_
    refine Z_bipush dX11_judge_62 (v := (-9)) (by decide) (pc' := 64) rfl ?_
    refine Z_icmp_ne dX11_judge_64 (tgt := 94) rfl (pc' := 67) rfl (fun c_64 => absurd c_64 (fun c => c rfl)) (fun c_64 => ?_)
    refine Z_aload_n dX11_judge_67 rfl (z_isref _) (pc' := 68) rfl ?_
    refine Z_gR dX11_judge_68 rfl zgr_RX11_36_0 (pc' := 71) rfl ?_
    refine Z_iload dX11_judge_71 rfl (pc' := 73) rfl ?_
    refine Z_il dX11_judge_73 zar_23 (zin (by omega) (by decide)) (pc' := 74) rfl ?_
    rw [nI_nat (by omega), hrow]
    refine Z_lload dX11_judge_74 rfl (pc' := 76) rfl ?_
    refine Z_iload dX11_judge_76 rfl (pc' := 78) rfl ?_
    refine Z_cSe dX11_judge_78 rfl zcw_X11_memberOf (As := [_, _]) (rest := [_]) rfl ⟨Nat.le_of_ble_eq_true rfl, Nat.le_of_ble_eq_true rfl⟩ (Nat.le_of_ble_eq_true rfl) ⟨zcw_X11_memberOf.2.2.2.2, Nat.le_of_ble_eq_true rfl⟩ zk_RX11_130 (k_memberOf hI (by omega)) (pc' := 81) rfl ?_
    refine Z_icmp_eq dX11_judge_81 (tgt := 88) rfl (pc' := 84) rfl (fun c_81 => ?_) (fun c_81 => ?_)
    · refine Z_iinc dX11_judge_88 rfl (nI_inc i) (Nat.le_of_ble_eq_true rfl) rfl (ls' := [_, _, _, _, _, _, _, _]) rfl (pc' := 91) rfl ?_
      refine Z_goto dX11_judge_91 (tgt := 41) rfl ?_
      rw [if_pos (jd_eq (by omega) hI c_81)] at hT
      exact ih (i + 1) (by omega) hT
    · refine Z_iload dX11_judge_84 rfl (pc' := 86) rfl ?_
      refine Z_istore dX11_judge_86 (Nat.le_of_ble_eq_true rfl) (Nat.le_of_ble_eq_true rfl) rfl (ls' := [_, _, _, _, _, _, _, _]) rfl (pc' := 88) rfl ?_
      refine Z_iinc dX11_judge_88 rfl (nI_inc i) (Nat.le_of_ble_eq_true rfl) rfl (ls' := [_, _, _, _, _, _, _, _]) rfl (pc' := 91) rfl ?_
      refine Z_goto dX11_judge_91 (tgt := 41) rfl ?_
      rw [if_neg (fun h2 => c_81 (by rw [h2]; rfl))] at hT
      subst hT
      exact lp_X11_judge_b hI (by omega) hR
set_option maxRecDepth 100000 in
set_option maxHeartbeats 4000000 in
theorem c_X11_judge {S : ZS} {n : Nat} {M : Ms} (hI : CI S n M) {a b0 : Int32} : zM m_X11_judge 0 0 [.ref 0, .int a, .int b0] (zw S n) (pR S n (spJudge M a b0)) := by
  show Z m_X11_judge _ _ _ 0 [some (.ref _), some (.int _), some (.int _)] [] _
  refine Z_iload_n dX11_judge_0 rfl (pc' := 1) rfl ?_
  refine Z_iload_n dX11_judge_1 rfl (pc' := 2) rfl ?_
  refine Z_cSe dX11_judge_2 rfl zcw_X11_walkRefusal (As := [_, _]) (rest := []) rfl ⟨Nat.le_of_ble_eq_true rfl, Nat.le_of_ble_eq_true rfl⟩ (Nat.le_of_ble_eq_true rfl) ⟨zcw_X11_walkRefusal.2.2.2.2, Nat.le_of_ble_eq_true rfl⟩ zk_RX11_107 c_X11_walkRefusal (pc' := 5) rfl ?_
  refine Z_istore_n dX11_judge_5 (Nat.le_of_ble_eq_true rfl) (Nat.le_of_ble_eq_true rfl) rfl (ls' := [_, _, _, _]) rfl (pc' := 6) rfl ?_
  refine Z_iload_n dX11_judge_6 rfl (pc' := 7) rfl ?_
  refine Z_if_eq dX11_judge_7 (tgt := 16) rfl (pc' := 10) rfl (fun c_7 => ?_) (fun c_7 => ?_)
  · have c0 := c_7
    obtain ⟨r, b, hr1, hr9, hb9, rfl, rfl⟩ := wrI_0 c_7
    refine Z_aload_n dX11_judge_16 rfl (z_isref _) (pc' := 17) rfl ?_
    refine Z_gR dX11_judge_17 rfl zgr_RX11_10_0 (pc' := 20) rfl ?_
    refine Z_aload_n dX11_judge_20 rfl (z_isref _) (pc' := 21) rfl ?_
    refine Z_gR dX11_judge_21 rfl zgr_RX11_10_0 (pc' := 24) rfl ?_
    refine Z_cVe dX11_judge_24 rfl zcw_X2_shoreNow (As := []) (rest := [_]) rfl ⟨Nat.le_of_ble_eq_true rfl, Nat.le_of_ble_eq_true rfl⟩ (Nat.le_of_ble_eq_true rfl) (zRcv.lay zob_1) ⟨zcw_X2_shoreNow.2.2.2.2, Nat.le_of_ble_eq_true rfl⟩ zk_RX11_99 (k_shoreNow hI) (pc' := 27) rfl ?_
    refine Z_iload_n dX11_judge_27 rfl (pc' := 28) rfl ?_
    refine Z_iload_n dX11_judge_28 rfl (pc' := 29) rfl ?_
    refine Z_cVe dX11_judge_29 rfl zcw_X2_reachedFrom (As := [_, _, _]) (rest := []) rfl ⟨Nat.le_of_ble_eq_true rfl, Nat.le_of_ble_eq_true rfl⟩ (Nat.le_of_ble_eq_true rfl) (zRcv.lay zob_1) ⟨zcw_X2_reachedFrom.2.2.2.2, Nat.le_of_ble_eq_true rfl⟩ zk_RX11_111 (k_reachedFrom hI (by omega)) (pc' := 32) rfl ?_
    refine Z_lstore dX11_judge_32 (Nat.le_of_ble_eq_true rfl) (Nat.le_of_ble_eq_true rfl) rfl (ls' := [_, _, _, _, _, _]) rfl (pc' := 34) rfl ?_
    refine Z_bipush dX11_judge_34 (v := (-9)) (by decide) (pc' := 36) rfl ?_
    refine Z_istore dX11_judge_36 (Nat.le_of_ble_eq_true rfl) (Nat.le_of_ble_eq_true rfl) rfl (ls' := [_, _, _, _, _, _, _]) rfl (pc' := 38) rfl ?_
    refine Z_iconst dX11_judge_38 (v := 0) (by decide) (pc' := 39) rfl ?_
    refine Z_istore dX11_judge_39 (Nat.le_of_ble_eq_true rfl) (Nat.le_of_ble_eq_true rfl) rfl (ls' := [_, _, _, _, _, _, _, _]) rfl (pc' := 41) rfl ?_
    refine lp_X11_judge hI (T := jdF (WL (mc M) (mcf M) (nI r) b) (mrw M) (mrl M) 0) ?_ (mrl M) 0 (by omega) rfl
    have e : spJudge M (nI r) (nI b) = (oI (jdF (WL (mc M) (mcf M) (nI r) b) (mrw M) (mrl M) 0), wR M (mrw M) 0) := by
      unfold spJudge
      rw [if_neg (fun h => h c0), nI_nat (by omega)]
    rw [e]
    exact ⟨rfl, _, n, rfl, frm.rf.sA _ _ (by decide) (by decide), CI_row0 hI⟩
  · obtain ⟨k, hk, hx, hy⟩ := wrI_k c_7
    refine Z_aload_n dX11_judge_10 rfl (z_isref _) (pc' := 11) rfl ?_
    refine Z_iload_n dX11_judge_11 rfl (pc' := 12) rfl ?_
    refine Z_cVe dX11_judge_12 rfl zcw_X11_refuse (As := [_]) (rest := []) rfl ⟨Nat.le_of_ble_eq_true rfl, Nat.le_of_ble_eq_true rfl⟩ (Nat.le_of_ble_eq_true rfl) (zRcv.lay zob_0) ⟨zcw_X11_refuse.2.2.2.2, Nat.le_of_ble_eq_true rfl⟩ zk_RX11_43 (c_X11_refuse hk hx) (pc' := 15) rfl ?_
    exact Z_ireturn dX11_judge_15 rfl rfl (pR.no hI hk (by unfold spJudge noV; rw [if_pos c_7, hy]))
theorem nI_div {a b : Nat} (ha : a < 2147483648) (hb : b < 2147483648) : nI a / nI b = nI (a / b) := by
  apply Int32.toInt_inj.mp
  have hle : a / b ≤ a := Nat.div_le_self a b
  rw [Int32.toInt_div, nI_toInt (by omega), nI_toInt (by omega), nI_toInt (by omega), ← Int.ofNat_tdiv]
  generalize a / b = q at *
  exact Int.bmod_eq_of_le (by omega) (by omega)
theorem nI_rem {a b : Nat} (ha : a < 2147483648) (hb : b < 2147483648) : nI a - nI a / nI b * nI b = nI (a % b) := by
  rw [nI_div ha hb, nI_mul, nI_sub (Nat.div_mul_le_self a b)]
  congr 1
  have := Nat.div_add_mod a b
  rw [Nat.mul_comm] at this
  omega
theorem nI_shr16 {a : Nat} (ha : a < 2147483648) : nI a >>> ((16 : Int32) &&& 31) = nI (a / 65536) := by
  apply Int32.toBitVec_inj.mp
  rw [show (16 : Int32) &&& 31 = 16 by decide, Int32.toBitVec_shiftRight]
  show (BitVec.ofNat 32 a).sshiftRight ((16 : Int32).toBitVec.smod 32).toNat = BitVec.ofNat 32 (a / 65536)
  rw [show ((16 : Int32).toBitVec.smod 32).toNat = 16 by decide, BitVec.sshiftRight_eq_of_msb_false (by rw [BitVec.msb_eq_decide]; simp; omega)]
  apply BitVec.eq_of_toNat_eq
  rw [BitVec.toNat_ushiftRight, BitVec.toNat_ofNat, BitVec.toNat_ofNat, Nat.shiftRight_eq_div_pow]
  have : a / 65536 ≤ a := Nat.div_le_self _ _
  rw [Nat.mod_eq_of_lt (by omega), Nat.mod_eq_of_lt (by omega)]
theorem loN_lt (z : Int32) : loN z < 2147483648 := Nat.mod_lt _ (by decide)
theorem and_lo (z : Int32) : z &&& 2147483647 = nI (loN z) := by
  apply Int32.toBitVec_inj.mp
  rw [Int32.toBitVec_and]
  show z.toBitVec &&& BitVec.ofNat 32 2147483647 = BitVec.ofNat 32 (loN z)
  apply BitVec.eq_of_toNat_eq
  rw [BitVec.toNat_and, BitVec.toNat_ofNat, BitVec.toNat_ofNat]
  have := loN_lt z
  rw [Nat.mod_eq_of_lt (a := loN z) (by omega), Nat.mod_eq_of_lt (a := 2147483647) (by decide)]
  exact Nat.and_two_pow_sub_one_eq_mod _ 31
theorem dwI_N {k : Nat} (hk : k < 2147483648) (z : Int32) : dwI (nI k) z = nI (drN k z) := by
  unfold dwI
  have := loN_lt z
  have : loN z / 65536 ≤ loN z := Nat.div_le_self _ _
  rw [and_lo, nI_shr16 (loN_lt z), nI_rem (by omega) hk]
  rfl
theorem drN_lt {k : Nat} (hk : 0 < k) (z : Int32) : drN k z < k := Nat.mod_lt _ hk
theorem k_draw {k : Nat} (h0 : 0 < k) (hk : k < 100) {z : Int32} {ω : ZW} : zM m_X11_drawBelow 0 0 [.int (nI k), .int z] ω (zE (some (.int (nI (drN k z)))) ω) := by
  have := c_X11_drawBelow (k := nI k) (z := z) (ω := ω) (by rw [show (1 : Int32) = nI 1 from rfl, nI_ltn (by omega) (by decide)]; omega)
  rw [dwI_N (by omega)] at this
  exact this
theorem k_next {z : Int32} {ω : ZW} : zM m_X11_nextState 0 0 [.int z] ω (zE (some (.int (lt1 z))) ω) := by
  unfold lt1
  exact c_X11_nextState
theorem itF_s {α : Type} (g : α → α) (m : Nat) (s : α) : itF g (m + 1) s = itF g m (g s) := rfl
theorem sdS_eq (c : Co) (z a : Int32) : sdS c (z, a) = (lt1 (lt1 (lt1 z)), a + mlS c (shS c (drN 10 (lt1 (lt1 (lt1 z))))) (1 + nI (drN 9 (lt1 z))) (drN 10 (lt1 (lt1 z)))) := rfl
theorem sdF_s (c : Co) (m : Nat) (z a : Int32) : sdF c (m + 1) (z, a) = sdF c m (lt1 (lt1 (lt1 z)), a + mlS c (shS c (drN 10 (lt1 (lt1 (lt1 z))))) (1 + nI (drN 9 (lt1 z))) (drN 10 (lt1 (lt1 z)))) := by
  unfold sdF
  rw [itF_s, sdS_eq]
set_option maxRecDepth 100000 in
set_option maxHeartbeats 4000000 in
theorem lp_X11_seeds {S : ZS} {n : Nat} {M : Ms} (hI : CI S n M) {R : Option Value → ZW → Prop} {q : Nat} {z0 T : Int32} (hq : q < 100) (hR : R (some (.int T)) (zw S n)) : ∀ (m i : Nat) (z a : Int32), i + m = q → sdF (mc M) m (z, a) = T → Z m_X11_seeds 0 0 R 33 [some (.ref 0), some (.int (nI q)), some (.int z0), some (.int a), some (.int z), some (.int (nI i))] [] (zw S n) := by
  intro m
  induction m with
  | zero =>
    intro i z a h hT
    obtain rfl : i = q := by omega
    obtain rfl : a = T := hT
    refine Z_iload dX11_seeds_33 rfl (pc' := 35) rfl ?_
    refine Z_iload_n dX11_seeds_35 rfl (pc' := 36) rfl ?_
    refine Z_icmp_ge dX11_seeds_36 (tgt := 118) rfl (pc' := 39) rfl (fun c_36 => ?_) (fun c_36 => absurd c_36 (fun c => c ((nI_len (by omega) (by omega)).mpr (Nat.le_refl _))))
    refine Z_iload_n dX11_seeds_118 rfl (pc' := 119) rfl ?_
    exact Z_ireturn dX11_seeds_119 rfl rfl hR
  | succ m ih =>
    intro i z a h hT
    rw [sdF_s] at hT
    have h10 := drN_lt (k := 10) (by decide) (lt1 (lt1 (lt1 z)))
    have h10b := drN_lt (k := 10) (by decide) (lt1 (lt1 z))
    refine Z_iload dX11_seeds_33 rfl (pc' := 35) rfl ?_
    refine Z_iload_n dX11_seeds_35 rfl (pc' := 36) rfl ?_
    refine Z_icmp_ge dX11_seeds_36 (tgt := 118) rfl (pc' := 39) rfl (fun c_36 => absurd c_36 (by rw [nI_len (by omega) (by omega)]; omega)) (fun c_36 => ?_)
    refine Z_iload dX11_seeds_39 rfl (pc' := 41) rfl ?_
    refine Z_cSe dX11_seeds_41 rfl zcw_X11_nextState (As := [_]) (rest := []) rfl ⟨Nat.le_of_ble_eq_true rfl, Nat.le_of_ble_eq_true rfl⟩ (Nat.le_of_ble_eq_true rfl) ⟨zcw_X11_nextState.2.2.2.2, Nat.le_of_ble_eq_true rfl⟩ zk_RX11_213 k_next (pc' := 44) rfl ?_
    refine Z_istore dX11_seeds_44 (Nat.le_of_ble_eq_true rfl) (Nat.le_of_ble_eq_true rfl) rfl (ls' := [_, _, _, _, _, _]) rfl (pc' := 46) rfl ?_
    refine Z_iconst dX11_seeds_46 (v := 1) (by decide) (pc' := 47) rfl ?_
    refine Z_bipush dX11_seeds_47 (v := 9) (by decide) (pc' := 49) rfl ?_
    refine Z_iload dX11_seeds_49 rfl (pc' := 51) rfl ?_
    refine Z_cSe dX11_seeds_51 rfl zcw_X11_drawBelow (As := [_, _]) (rest := [_]) rfl ⟨Nat.le_of_ble_eq_true rfl, Nat.le_of_ble_eq_true rfl⟩ (Nat.le_of_ble_eq_true rfl) ⟨zcw_X11_drawBelow.2.2.2.2, Nat.le_of_ble_eq_true rfl⟩ zk_RX11_216 (k_draw (k := 9) (by decide) (by decide)) (pc' := 54) rfl ?_
    refine Z_iadd dX11_seeds_54 (pc' := 55) rfl ?_
    refine Z_istore dX11_seeds_55 (Nat.le_of_ble_eq_true rfl) (Nat.le_of_ble_eq_true rfl) rfl (ls' := [_, _, _, _, _, _, _]) rfl (pc' := 57) rfl ?_
    refine Z_iload dX11_seeds_57 rfl (pc' := 59) rfl ?_
    refine Z_cSe dX11_seeds_59 rfl zcw_X11_nextState (As := [_]) (rest := []) rfl ⟨Nat.le_of_ble_eq_true rfl, Nat.le_of_ble_eq_true rfl⟩ (Nat.le_of_ble_eq_true rfl) ⟨zcw_X11_nextState.2.2.2.2, Nat.le_of_ble_eq_true rfl⟩ zk_RX11_213 k_next (pc' := 62) rfl ?_
    refine Z_istore dX11_seeds_62 (Nat.le_of_ble_eq_true rfl) (Nat.le_of_ble_eq_true rfl) rfl (ls' := [_, _, _, _, _, _, _]) rfl (pc' := 64) rfl ?_
    refine Z_bipush dX11_seeds_64 (v := 10) (by decide) (pc' := 66) rfl ?_
    refine Z_iload dX11_seeds_66 rfl (pc' := 68) rfl ?_
    refine Z_cSe dX11_seeds_68 rfl zcw_X11_drawBelow (As := [_, _]) (rest := []) rfl ⟨Nat.le_of_ble_eq_true rfl, Nat.le_of_ble_eq_true rfl⟩ (Nat.le_of_ble_eq_true rfl) ⟨zcw_X11_drawBelow.2.2.2.2, Nat.le_of_ble_eq_true rfl⟩ zk_RX11_216 (k_draw (k := 10) (by decide) (by decide)) (pc' := 71) rfl ?_
    refine Z_istore dX11_seeds_71 (Nat.le_of_ble_eq_true rfl) (Nat.le_of_ble_eq_true rfl) rfl (ls' := [_, _, _, _, _, _, _, _]) rfl (pc' := 73) rfl ?_
    refine Z_iload dX11_seeds_73 rfl (pc' := 75) rfl ?_
    refine Z_cSe dX11_seeds_75 rfl zcw_X11_nextState (As := [_]) (rest := []) rfl ⟨Nat.le_of_ble_eq_true rfl, Nat.le_of_ble_eq_true rfl⟩ (Nat.le_of_ble_eq_true rfl) ⟨zcw_X11_nextState.2.2.2.2, Nat.le_of_ble_eq_true rfl⟩ zk_RX11_213 k_next (pc' := 78) rfl ?_
    refine Z_istore dX11_seeds_78 (Nat.le_of_ble_eq_true rfl) (Nat.le_of_ble_eq_true rfl) rfl (ls' := [_, _, _, _, _, _, _, _]) rfl (pc' := 80) rfl ?_
    refine Z_bipush dX11_seeds_80 (v := 10) (by decide) (pc' := 82) rfl ?_
    refine Z_iload dX11_seeds_82 rfl (pc' := 84) rfl ?_
    refine Z_cSe dX11_seeds_84 rfl zcw_X11_drawBelow (As := [_, _]) (rest := []) rfl ⟨Nat.le_of_ble_eq_true rfl, Nat.le_of_ble_eq_true rfl⟩ (Nat.le_of_ble_eq_true rfl) ⟨zcw_X11_drawBelow.2.2.2.2, Nat.le_of_ble_eq_true rfl⟩ zk_RX11_216 (k_draw (k := 10) (by decide) (by decide)) (pc' := 87) rfl ?_
    refine Z_istore dX11_seeds_87 (Nat.le_of_ble_eq_true rfl) (Nat.le_of_ble_eq_true rfl) rfl (ls' := [_, _, _, _, _, _, _, _, _]) rfl (pc' := 89) rfl ?_
    refine Z_iload_n dX11_seeds_89 rfl (pc' := 90) rfl ?_
    refine Z_aload_n dX11_seeds_90 rfl (z_isref _) (pc' := 91) rfl ?_
    refine Z_gR dX11_seeds_91 rfl zgr_RX11_10_0 (pc' := 94) rfl ?_
    refine Z_aload_n dX11_seeds_94 rfl (z_isref _) (pc' := 95) rfl ?_
    refine Z_gR dX11_seeds_95 rfl zgr_RX11_10_0 (pc' := 98) rfl ?_
    refine Z_iload dX11_seeds_98 rfl (pc' := 100) rfl ?_
    refine Z_cVe dX11_seeds_100 rfl zcw_X2_shoreAt (As := [_]) (rest := [_, _]) rfl ⟨Nat.le_of_ble_eq_true rfl, Nat.le_of_ble_eq_true rfl⟩ (Nat.le_of_ble_eq_true rfl) (zRcv.lay zob_1) ⟨zcw_X2_shoreAt.2.2.2.2, Nat.le_of_ble_eq_true rfl⟩ zk_RX11_152 (k_shoreAt hI (by omega)) (pc' := 103) rfl ?_
    refine Z_iload dX11_seeds_103 rfl (pc' := 105) rfl ?_
    refine Z_iload dX11_seeds_105 rfl (pc' := 107) rfl ?_
    refine Z_cVe dX11_seeds_107 rfl zcw_X2_milesOf (As := [_, _, _]) (rest := [_]) rfl ⟨Nat.le_of_ble_eq_true rfl, Nat.le_of_ble_eq_true rfl⟩ (Nat.le_of_ble_eq_true rfl) (zRcv.lay zob_1) ⟨zcw_X2_milesOf.2.2.2.2, Nat.le_of_ble_eq_true rfl⟩ zk_RX11_136 (k_milesOf hI (by omega)) (pc' := 110) rfl ?_
    refine Z_iadd dX11_seeds_110 (pc' := 111) rfl ?_
    refine Z_istore_n dX11_seeds_111 (Nat.le_of_ble_eq_true rfl) (Nat.le_of_ble_eq_true rfl) rfl (ls' := [_, _, _, _, _, _, _, _, _]) rfl (pc' := 112) rfl ?_
    refine Z_iinc dX11_seeds_112 rfl (nI_inc i) (Nat.le_of_ble_eq_true rfl) rfl (ls' := [_, _, _, _, _, _, _, _, _]) rfl (pc' := 115) rfl ?_
    refine Z_goto dX11_seeds_115 (tgt := 33) rfl ?_
    refine Z_take 6 (ls' := [_, _, _, _, _, _]) rfl ?_
    exact ih (i + 1) _ _ (by omega) hT
set_option maxRecDepth 100000 in
set_option maxHeartbeats 4000000 in
theorem c_X11_seeds {S : ZS} {n : Nat} {M : Ms} (hI : CI S n M) {a z : Int32} : zM m_X11_seeds 0 0 [.ref 0, .int a, .int z] (zw S n) (pR S n (spSeeds M a z)) := by
  show Z m_X11_seeds _ _ _ 0 [some (.ref _), some (.int _), some (.int _)] [] _
  refine Z_iload_n dX11_seeds_0 rfl (pc' := 1) rfl ?_
  refine Z_iconst dX11_seeds_1 (v := 1) (by decide) (pc' := 2) rfl ?_
  refine Z_icmp_ge dX11_seeds_2 (tgt := 12) rfl (pc' := 5) rfl (fun c_2 => ?_) (fun c_2 => ?_)
  · refine Z_iload_n dX11_seeds_12 rfl (pc' := 13) rfl ?_
    refine Z_bipush dX11_seeds_13 (v := 60) (by decide) (pc' := 15) rfl ?_
    refine Z_icmp_le dX11_seeds_15 (tgt := 25) rfl (pc' := 18) rfl (fun c_15 => ?_) (fun c_15 => ?_)
    · refine Z_iconst dX11_seeds_25 (v := 0) (by decide) (pc' := 26) rfl ?_
      refine Z_istore_n dX11_seeds_26 (Nat.le_of_ble_eq_true rfl) (Nat.le_of_ble_eq_true rfl) rfl (ls' := [_, _, _, _]) rfl (pc' := 27) rfl ?_
      refine Z_iload_n dX11_seeds_27 rfl (pc' := 28) rfl ?_
      refine Z_istore dX11_seeds_28 (Nat.le_of_ble_eq_true rfl) (Nat.le_of_ble_eq_true rfl) rfl (ls' := [_, _, _, _, _]) rfl (pc' := 30) rfl ?_
      refine Z_iconst dX11_seeds_30 (v := 0) (by decide) (pc' := 31) rfl ?_
      refine Z_istore dX11_seeds_31 (Nat.le_of_ble_eq_true rfl) (Nat.le_of_ble_eq_true rfl) rfl (ls' := [_, _, _, _, _, _]) rfl (pc' := 33) rfl ?_
      have h1 := i_nlt c_2
      have h2 := i_nlt c_15
      obtain ⟨q, hq, rfl⟩ := i_rng (a := a) (m := 60) (by decide) (fun h => h1 (Int32.lt_trans h (by decide))) h2
      exact lp_X11_seeds hI (q := q) (by omega) (pR.st hI (by unfold spSeeds; rw [if_neg h1, if_neg h2, nI_nat (by omega)])) q 0 z 0 (by omega) rfl
    · refine Z_aload_n dX11_seeds_18 rfl (z_isref _) (pc' := 19) rfl ?_
      refine Z_bipush dX11_seeds_19 (v := (-6)) (by decide) (pc' := 21) rfl ?_
      refine Z_cVe dX11_seeds_21 rfl zcw_X11_refuse (As := [_]) (rest := []) rfl ⟨Nat.le_of_ble_eq_true rfl, Nat.le_of_ble_eq_true rfl⟩ (Nat.le_of_ble_eq_true rfl) (zRcv.lay zob_0) ⟨zcw_X11_refuse.2.2.2.2, Nat.le_of_ble_eq_true rfl⟩ zk_RX11_43 (c_X11_refuse (k := 6) (by decide) (by decide)) (pc' := 24) rfl ?_
      exact Z_ireturn dX11_seeds_24 rfl rfl (pR.no hI (by decide) (by unfold spSeeds; rw [if_neg (i_nlt c_2), if_pos (i_lt c_15)]))
  · refine Z_aload_n dX11_seeds_5 rfl (z_isref _) (pc' := 6) rfl ?_
    refine Z_bipush dX11_seeds_6 (v := (-4)) (by decide) (pc' := 8) rfl ?_
    refine Z_cVe dX11_seeds_8 rfl zcw_X11_refuse (As := [_]) (rest := []) rfl ⟨Nat.le_of_ble_eq_true rfl, Nat.le_of_ble_eq_true rfl⟩ (Nat.le_of_ble_eq_true rfl) (zRcv.lay zob_0) ⟨zcw_X11_refuse.2.2.2.2, Nat.le_of_ble_eq_true rfl⟩ zk_RX11_43 (c_X11_refuse (k := 4) (by decide) (by decide)) (pc' := 11) rfl ?_
    exact Z_ireturn dX11_seeds_11 rfl rfl (pR.no hI (by decide) (by unfold spSeeds; rw [if_pos (i_lt c_2)]))
