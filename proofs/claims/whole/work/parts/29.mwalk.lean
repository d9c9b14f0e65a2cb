set_option maxRecDepth 100000 in
set_option maxHeartbeats 4000000 in
theorem c_X12_isDry {S : ZS} {n k : Nat} {c : Co} (h : mV S c) (ok : Cok c) (hk : k < cns c) : zM m_X12_isDry 0 0 [.ref 25, .int (nI k)] (zw S n) (zE (some (.int (zb (dryS c (ctd c) k)))) (zw S n)) := by
  have h8 := ok.1
  have h9 := ok.2.2.2.1
  have hok := ok.2.2.2.2.1 k hk
  show Z m_X12_isDry _ _ _ 0 [some (.ref _), some (.int _)] [] _
  refine Z_aload_n dX12_isDry_0 rfl (z_isref _) (pc' := 1) rfl ?_
  refine Z_gI dX12_isDry_1 rfl zgi_RX12_129_25 (pc' := 4) rfl ?_
  refine Z_aload_n dX12_isDry_4 rfl (z_isref _) (pc' := 5) rfl ?_
  refine Z_gR dX12_isDry_5 rfl zgr_RX12_16_25 (pc' := 8) rfl ?_
  refine Z_iload_n dX12_isDry_8 rfl (pc' := 9) rfl ?_
  refine Z_il dX12_isDry_9 zar_28 (zin (by omega) (by decide)) (pc' := 10) rfl ?_
  rw [nI_nat (by omega), (h.2.1 k hk).2.1, h.1.2.2.2]
  refine Z_icmp_gt dX12_isDry_10 (tgt := 17) rfl (pc' := 13) rfl (fun c_10 => ?_) (fun c_10 => ?_)
  · refine Z_iconst dX12_isDry_17 (v := 0) (by decide) (pc' := 18) rfl ?_
    refine Z_istore_n dX12_isDry_18 (Nat.le_of_ble_eq_true rfl) (Nat.le_of_ble_eq_true rfl) rfl (ls' := [_, _, _]) rfl (pc' := 19) rfl ?_
    refine Z_aload_n dX12_isDry_19 rfl (z_isref _) (pc' := 20) rfl ?_
    refine Z_gR dX12_isDry_20 rfl zgr_RX12_13_25 (pc' := 23) rfl ?_
    refine Z_iload_n dX12_isDry_23 rfl (pc' := 24) rfl ?_
    refine Z_il dX12_isDry_24 zar_27 (zin (by omega) (by decide)) (pc' := 25) rfl ?_
    rw [nI_nat (by omega), (h.2.1 k hk).1]
    refine Z_topi (fun x_25 e_25 => ?_)
    by_cases k_25_1 : x_25 = 1
    · subst k_25_1
      have ek : ckd c k = 1 := (nI_eqn (by omega) (by decide)).mp (show nI (ckd c k) = nI 1 from e_25.symm)
      refine Z_tableIn dX12_isDry_25 (by decide) (by decide) (off := 35) rfl (tgt := 60) rfl ?_
      refine Z_iload_n dX12_isDry_60 rfl (pc' := 61) rfl ?_
      exact Z_ireturn dX12_isDry_61 rfl (by first | rfl | exact narrow_zb _) ⟨by rw [nI_ltn (by omega) (by omega)] at c_10; unfold dryS; rw [ek]; unfold dryN; simp only []; rw [decide_eq_false (by omega)]; rfl, rfl⟩
    by_cases k_25_2 : x_25 = 2
    · subst k_25_2
      have ek : ckd c k = 2 := (nI_eqn (by omega) (by decide)).mp (show nI (ckd c k) = nI 2 from e_25.symm)
      refine Z_tableIn dX12_isDry_25 (by decide) (by decide) (off := 37) rfl (tgt := 62) rfl ?_
      refine Z_iconst dX12_isDry_62 (v := 0) (by decide) (pc' := 63) rfl ?_
      exact Z_ireturn dX12_isDry_63 rfl (by first | rfl | exact narrow_zb _) ⟨by unfold dryS; rw [ek]; rfl, rfl⟩
    by_cases k_25_3 : x_25 = 3
    · subst k_25_3
      have ek : ckd c k = 3 := (nI_eqn (by omega) (by decide)).mp (show nI (ckd c k) = nI 3 from e_25.symm)
      refine Z_tableIn dX12_isDry_25 (by decide) (by decide) (off := 77) rfl (tgt := 102) rfl ?_
      refine Z_iconst dX12_isDry_102 (v := 1) (by decide) (pc' := 103) rfl ?_
      exact Z_ireturn dX12_isDry_103 rfl (by first | rfl | exact narrow_zb _) ⟨by unfold dryS; rw [ek]; rfl, rfl⟩
    by_cases k_25_4 : x_25 = 4
    · subst k_25_4
      have ek : ckd c k = 4 := (nI_eqn (by omega) (by decide)).mp (show nI (ckd c k) = nI 4 from e_25.symm)
      refine Z_tableIn dX12_isDry_25 (by decide) (by decide) (off := 39) rfl (tgt := 64) rfl ?_
      refine Z_iload_n dX12_isDry_64 rfl (pc' := 65) rfl ?_
      refine Z_if_eq dX12_isDry_65 (tgt := 81) rfl (pc' := 68) rfl (fun c_65 => ?_) (fun c_65 => ?_)
      · refine Z_iconst dX12_isDry_81 (v := 0) (by decide) (pc' := 82) rfl ?_
        exact Z_ireturn dX12_isDry_82 rfl (by first | rfl | exact narrow_zb _) ⟨by rw [nI_ltn (by omega) (by omega)] at c_10; unfold dryS; rw [ek]; unfold dryN; simp only []; rw [decide_eq_false (p := ctd c ≤ cfg c k) (by omega)]; rfl, rfl⟩
      · refine Z_aload_n dX12_isDry_68 rfl (z_isref _) (pc' := 69) rfl ?_
        refine Z_gI dX12_isDry_69 rfl zgi_RX12_129_25 (pc' := 72) rfl ?_
        refine Z_iconst dX12_isDry_72 (v := 2) (by decide) (pc' := 73) rfl ?_
        refine Z_irem dX12_isDry_73 (by decide) (pc' := 74) rfl ?_
        rw [h.1.2.2.2, show (2 : Int32) = nI 2 from rfl, nI_rem (by omega) (by decide)]
        refine Z_if_ne dX12_isDry_74 (tgt := 81) rfl (pc' := 77) rfl (fun c_74 => ?_) (fun c_74 => ?_)
        · refine Z_iconst dX12_isDry_81 (v := 0) (by decide) (pc' := 82) rfl ?_
          exact Z_ireturn dX12_isDry_82 rfl (by first | rfl | exact narrow_zb _) ⟨absurd rfl c_65, rfl⟩
        · refine Z_iconst dX12_isDry_77 (v := 1) (by decide) (pc' := 78) rfl ?_
          refine Z_goto dX12_isDry_78 (tgt := 82) rfl ?_
          exact Z_ireturn dX12_isDry_82 rfl (by first | rfl | exact narrow_zb _) ⟨absurd rfl c_65, rfl⟩
    by_cases k_25_5 : x_25 = 5
    · subst k_25_5
      have ek : ckd c k = 5 := (nI_eqn (by omega) (by decide)).mp (show nI (ckd c k) = nI 5 from e_25.symm)
      refine Z_tableIn dX12_isDry_25 (by decide) (by decide) (off := 58) rfl (tgt := 83) rfl ?_
      refine Z_aload_n dX12_isDry_83 rfl (z_isref _) (pc' := 84) rfl ?_
      refine Z_gI dX12_isDry_84 rfl zgi_RX12_129_25 (pc' := 87) rfl ?_
      refine Z_aload_n dX12_isDry_87 rfl (z_isref _) (pc' := 88) rfl ?_
      refine Z_gR dX12_isDry_88 rfl zgr_RX12_16_25 (pc' := 91) rfl ?_
      refine Z_iload_n dX12_isDry_91 rfl (pc' := 92) rfl ?_
      refine Z_il dX12_isDry_92 zar_28 (zin (by omega) (by decide)) (pc' := 93) rfl ?_
      rw [nI_nat (by omega), (h.2.1 k hk).2.1, h.1.2.2.2]
      refine Z_icmp_eq dX12_isDry_93 (tgt := 100) rfl (pc' := 96) rfl (fun c_93 => ?_) (fun c_93 => ?_)
      · refine Z_iconst dX12_isDry_100 (v := 0) (by decide) (pc' := 101) rfl ?_
        exact Z_ireturn dX12_isDry_101 rfl (by first | rfl | exact narrow_zb _) ⟨by have c93 := (nI_eqn (by omega) (by omega)).mp c_93; unfold dryS; rw [ek]; unfold dryN; simp only []; simp [c93, zb], rfl⟩
      · refine Z_iconst dX12_isDry_96 (v := 1) (by decide) (pc' := 97) rfl ?_
        refine Z_goto dX12_isDry_97 (tgt := 101) rfl ?_
        exact Z_ireturn dX12_isDry_101 rfl (by first | rfl | exact narrow_zb _) ⟨by have c93 : ¬ ctd c = cfg c k := fun q => c_93 ((nI_eqn (by omega) (by omega)).mpr q); unfold dryS; rw [ek]; unfold dryN; simp only []; simp [c93, zb], rfl⟩
    refine Z_tableOut dX12_isDry_25 (by have h1 := i32_nev k_25_1 (v := 1) (by decide); have h2 := i32_nev k_25_2 (v := 2) (by decide); have h3 := i32_nev k_25_3 (v := 3) (by decide); have h4 := i32_nev k_25_4 (v := 4) (by decide); have h5 := i32_nev k_25_5 (v := 5) (by decide); omega) (tgt := 102) rfl ?_
    have ek : ckd c k = 0 := by
      have hne : ∀ v, ckd c k = v → nI v = x_25 := fun v e => by rw [← e]; exact e_25.symm
      rcases Nat.lt_or_ge 0 (ckd c k) with q | q
      · obtain e | e | e | e | e : ckd c k = 1 ∨ ckd c k = 2 ∨ ckd c k = 3 ∨ ckd c k = 4 ∨ ckd c k = 5 := by omega
        · exact absurd (hne 1 e).symm k_25_1
        · exact absurd (hne 2 e).symm k_25_2
        · exact absurd (hne 3 e).symm k_25_3
        · exact absurd (hne 4 e).symm k_25_4
        · exact absurd (hne 5 e).symm k_25_5
      · omega
    refine Z_iconst dX12_isDry_102 (v := 1) (by decide) (pc' := 103) rfl ?_
    exact Z_ireturn dX12_isDry_103 rfl (by first | rfl | exact narrow_zb _) ⟨by unfold dryS; rw [ek]; rfl, rfl⟩
  · refine Z_iconst dX12_isDry_13 (v := 1) (by decide) (pc' := 14) rfl ?_
    refine Z_goto dX12_isDry_14 (tgt := 18) rfl ?_
    refine Z_istore_n dX12_isDry_18 (Nat.le_of_ble_eq_true rfl) (Nat.le_of_ble_eq_true rfl) rfl (ls' := [_, _, _]) rfl (pc' := 19) rfl ?_
    refine Z_aload_n dX12_isDry_19 rfl (z_isref _) (pc' := 20) rfl ?_
    refine Z_gR dX12_isDry_20 rfl zgr_RX12_13_25 (pc' := 23) rfl ?_
    refine Z_iload_n dX12_isDry_23 rfl (pc' := 24) rfl ?_
    refine Z_il dX12_isDry_24 zar_27 (zin (by omega) (by decide)) (pc' := 25) rfl ?_
    rw [nI_nat (by omega), (h.2.1 k hk).1]
    refine Z_topi (fun x_25 e_25 => ?_)
    by_cases k_25_1 : x_25 = 1
    · subst k_25_1
      have ek : ckd c k = 1 := (nI_eqn (by omega) (by decide)).mp (show nI (ckd c k) = nI 1 from e_25.symm)
      refine Z_tableIn dX12_isDry_25 (by decide) (by decide) (off := 35) rfl (tgt := 60) rfl ?_
      refine Z_iload_n dX12_isDry_60 rfl (pc' := 61) rfl ?_
      exact Z_ireturn dX12_isDry_61 rfl (by first | rfl | exact narrow_zb _) ⟨by rw [nI_ltn (by omega) (by omega)] at c_10; unfold dryS; rw [ek]; unfold dryN; simp only []; rw [decide_eq_true (by omega)]; rfl, rfl⟩
    by_cases k_25_2 : x_25 = 2
    · subst k_25_2
      have ek : ckd c k = 2 := (nI_eqn (by omega) (by decide)).mp (show nI (ckd c k) = nI 2 from e_25.symm)
      refine Z_tableIn dX12_isDry_25 (by decide) (by decide) (off := 37) rfl (tgt := 62) rfl ?_
      refine Z_iconst dX12_isDry_62 (v := 0) (by decide) (pc' := 63) rfl ?_
      exact Z_ireturn dX12_isDry_63 rfl (by first | rfl | exact narrow_zb _) ⟨by unfold dryS; rw [ek]; rfl, rfl⟩
    by_cases k_25_3 : x_25 = 3
    · subst k_25_3
      have ek : ckd c k = 3 := (nI_eqn (by omega) (by decide)).mp (show nI (ckd c k) = nI 3 from e_25.symm)
      refine Z_tableIn dX12_isDry_25 (by decide) (by decide) (off := 77) rfl (tgt := 102) rfl ?_
      refine Z_iconst dX12_isDry_102 (v := 1) (by decide) (pc' := 103) rfl ?_
      exact Z_ireturn dX12_isDry_103 rfl (by first | rfl | exact narrow_zb _) ⟨by unfold dryS; rw [ek]; rfl, rfl⟩
    by_cases k_25_4 : x_25 = 4
    · subst k_25_4
      have ek : ckd c k = 4 := (nI_eqn (by omega) (by decide)).mp (show nI (ckd c k) = nI 4 from e_25.symm)
      refine Z_tableIn dX12_isDry_25 (by decide) (by decide) (off := 39) rfl (tgt := 64) rfl ?_
      refine Z_iload_n dX12_isDry_64 rfl (pc' := 65) rfl ?_
      refine Z_if_eq dX12_isDry_65 (tgt := 81) rfl (pc' := 68) rfl (fun c_65 => ?_) (fun c_65 => ?_)
      · refine Z_iconst dX12_isDry_81 (v := 0) (by decide) (pc' := 82) rfl ?_
        exact Z_ireturn dX12_isDry_82 rfl (by first | rfl | exact narrow_zb _) ⟨absurd c_65 (by decide), rfl⟩
      · refine Z_aload_n dX12_isDry_68 rfl (z_isref _) (pc' := 69) rfl ?_
        refine Z_gI dX12_isDry_69 rfl zgi_RX12_129_25 (pc' := 72) rfl ?_
        refine Z_iconst dX12_isDry_72 (v := 2) (by decide) (pc' := 73) rfl ?_
        refine Z_irem dX12_isDry_73 (by decide) (pc' := 74) rfl ?_
        rw [h.1.2.2.2, show (2 : Int32) = nI 2 from rfl, nI_rem (by omega) (by decide)]
        refine Z_if_ne dX12_isDry_74 (tgt := 81) rfl (pc' := 77) rfl (fun c_74 => ?_) (fun c_74 => ?_)
        · refine Z_iconst dX12_isDry_81 (v := 0) (by decide) (pc' := 82) rfl ?_
          exact Z_ireturn dX12_isDry_82 rfl (by first | rfl | exact narrow_zb _) ⟨by unfold dryS; rw [ek]; unfold dryN; simp only []; rw [decide_eq_false (p := ctd c % 2 = 0) (fun q => c_74 (by rw [q]; rfl)), Bool.and_false]; rfl, rfl⟩
        · refine Z_iconst dX12_isDry_77 (v := 1) (by decide) (pc' := 78) rfl ?_
          refine Z_goto dX12_isDry_78 (tgt := 82) rfl ?_
          exact Z_ireturn dX12_isDry_82 rfl (by first | rfl | exact narrow_zb _) ⟨by rw [nI_ltn (by omega) (by omega)] at c_10; have c74 := (nI_eqn (b := 0) (by omega) (by decide)).mp c_74; unfold dryS; rw [ek]; unfold dryN; simp only []; rw [decide_eq_true (p := ctd c ≤ cfg c k) (by omega), decide_eq_true (p := ctd c % 2 = 0) c74]; rfl, rfl⟩
    by_cases k_25_5 : x_25 = 5
    · subst k_25_5
      have ek : ckd c k = 5 := (nI_eqn (by omega) (by decide)).mp (show nI (ckd c k) = nI 5 from e_25.symm)
      refine Z_tableIn dX12_isDry_25 (by decide) (by decide) (off := 58) rfl (tgt := 83) rfl ?_
      refine Z_aload_n dX12_isDry_83 rfl (z_isref _) (pc' := 84) rfl ?_
      refine Z_gI dX12_isDry_84 rfl zgi_RX12_129_25 (pc' := 87) rfl ?_
      refine Z_aload_n dX12_isDry_87 rfl (z_isref _) (pc' := 88) rfl ?_
      refine Z_gR dX12_isDry_88 rfl zgr_RX12_16_25 (pc' := 91) rfl ?_
      refine Z_iload_n dX12_isDry_91 rfl (pc' := 92) rfl ?_
      refine Z_il dX12_isDry_92 zar_28 (zin (by omega) (by decide)) (pc' := 93) rfl ?_
      rw [nI_nat (by omega), (h.2.1 k hk).2.1, h.1.2.2.2]
      refine Z_icmp_eq dX12_isDry_93 (tgt := 100) rfl (pc' := 96) rfl (fun c_93 => ?_) (fun c_93 => ?_)
      · refine Z_iconst dX12_isDry_100 (v := 0) (by decide) (pc' := 101) rfl ?_
        exact Z_ireturn dX12_isDry_101 rfl (by first | rfl | exact narrow_zb _) ⟨by have c93 := (nI_eqn (by omega) (by omega)).mp c_93; unfold dryS; rw [ek]; unfold dryN; simp only []; simp [c93, zb], rfl⟩
      · refine Z_iconst dX12_isDry_96 (v := 1) (by decide) (pc' := 97) rfl ?_
        refine Z_goto dX12_isDry_97 (tgt := 101) rfl ?_
        exact Z_ireturn dX12_isDry_101 rfl (by first | rfl | exact narrow_zb _) ⟨by have c93 : ¬ ctd c = cfg c k := fun q => c_93 ((nI_eqn (by omega) (by omega)).mpr q); unfold dryS; rw [ek]; unfold dryN; simp only []; simp [c93, zb], rfl⟩
    refine Z_tableOut dX12_isDry_25 (by have h1 := i32_nev k_25_1 (v := 1) (by decide); have h2 := i32_nev k_25_2 (v := 2) (by decide); have h3 := i32_nev k_25_3 (v := 3) (by decide); have h4 := i32_nev k_25_4 (v := 4) (by decide); have h5 := i32_nev k_25_5 (v := 5) (by decide); omega) (tgt := 102) rfl ?_
    have ek : ckd c k = 0 := by
      have hne : ∀ v, ckd c k = v → nI v = x_25 := fun v e => by rw [← e]; exact e_25.symm
      rcases Nat.lt_or_ge 0 (ckd c k) with q | q
      · obtain e | e | e | e | e : ckd c k = 1 ∨ ckd c k = 2 ∨ ckd c k = 3 ∨ ckd c k = 4 ∨ ckd c k = 5 := by omega
        · exact absurd (hne 1 e).symm k_25_1
        · exact absurd (hne 2 e).symm k_25_2
        · exact absurd (hne 3 e).symm k_25_3
        · exact absurd (hne 4 e).symm k_25_4
        · exact absurd (hne 5 e).symm k_25_5
      · omega
    refine Z_iconst dX12_isDry_102 (v := 1) (by decide) (pc' := 103) rfl ?_
    exact Z_ireturn dX12_isDry_103 rfl (by first | rfl | exact narrow_zb _) ⟨by unfold dryS; rw [ek]; rfl, rfl⟩
set_option maxRecDepth 100000 in
set_option maxHeartbeats 4000000 in
theorem c_X12_draw {S : ZS} {n k : Nat} (h0 : 0 < k) (hk : k < 100) : zM m_X12_draw 0 0 [.ref 25, .int (nI k)] (zw S n) (zE (some (.int (nI (drN k (lt1 (S.1 25 36)))))) (zw (sA S 25 36 (lt1 (S.1 25 36))) n)) := by
  show Z m_X12_draw _ _ _ 0 [some (.ref _), some (.int _)] [] _
  refine Z_aload_n dX12_draw_0 rfl (z_isref _) (pc' := 1) rfl ?_
  refine Z_aload_n dX12_draw_1 rfl (z_isref _) (pc' := 2) rfl ?_
  refine Z_gI dX12_draw_2 rfl zgi_RX12_237_25 (pc' := 5) rfl ?_
  refine Z_ldc dX12_draw_5 rfl zw_1074 (pc' := 7) rfl ?_
  refine Z_imul dX12_draw_7 (pc' := 8) rfl ?_
  refine Z_sipush dX12_draw_8 (v := 12345) (by decide) (pc' := 11) rfl ?_
  refine Z_iadd dX12_draw_11 (pc' := 12) rfl ?_
  rw [show S.1 25 36 * 1103515245 + 12345 = lt1 (S.1 25 36) from rfl]
  refine Z_pI dX12_draw_12 rfl zpi_RX12_237_25 (pc' := 15) rfl ?_
  refine Z_aload_n dX12_draw_15 rfl (z_isref _) (pc' := 16) rfl ?_
  refine Z_gI dX12_draw_16 rfl zgi_RX12_237_25 (pc' := 19) rfl ?_
  rw [sA_same, zup_same]
  refine Z_ldc dX12_draw_19 rfl zw_1075 (pc' := 21) rfl ?_
  refine Z_iand dX12_draw_21 (pc' := 22) rfl ?_
  rw [and_lo]
  refine Z_ldc dX12_draw_22 rfl zw_1076 (pc' := 24) rfl ?_
  refine Z_idiv dX12_draw_24 (by decide) (pc' := 25) rfl ?_
  have hlo := loN_lt (lt1 (S.1 25 36))
  rw [show (65536 : Int32) = nI 65536 from rfl, nI_div hlo (by decide)]
  refine Z_iload_n dX12_draw_25 rfl (pc' := 26) rfl ?_
  refine Z_irem dX12_draw_26 (fun q => by have := (nI_eqn (a := k) (b := 0) (by omega) (by decide)).mp q; omega) (pc' := 27) rfl ?_
  have hle : loN (lt1 (S.1 25 36)) / 65536 ≤ loN (lt1 (S.1 25 36)) := Nat.div_le_self _ _
  rw [nI_rem (by omega) (by omega)]
  exact Z_ireturn dX12_draw_27 rfl rfl ⟨rfl, rfl⟩
