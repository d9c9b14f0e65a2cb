/-- the number that a digit tells -/
def dgN (tx : Nat → Int32) (L p : Nat) : Nat := (ltr tx L p - 48).toNatClampNeg
theorem dgN_ok {tx : Nat → Int32} {L p : Nat} (h : isDg (ltr tx L p) = true) : ltr tx L p - 48 = nI (dgN tx L p) ∧ dgN tx L p ≤ 9 := by
  unfold isDg at h
  rw [Bool.and_eq_true, decide_eq_true_eq, decide_eq_true_eq] at h
  obtain ⟨h1, h2⟩ := h
  unfold dgN
  generalize ltr tx L p = x at *
  obtain ⟨k, hk, rfl⟩ := (i32_cases x).resolve_left (fun z => by
    have := Int32.lt_of_le_of_lt h1 z
    exact absurd this (by decide))
  rw [show (48 : Int32) = nI 48 from rfl, nI_len (by omega) hk] at h1
  rw [show (57 : Int32) = nI 57 from rfl, nI_len hk (by omega)] at h2
  rw [show (48 : Int32) = nI 48 from rfl, nI_sub h1, nI_nat (by omega)]
  exact ⟨rfl, by omega⟩
theorem dgsF_all {tx : Nat → Int32} {L : Nat} : ∀ {m p : Nat}, dgsF tx L m p = none → ∀ i, i < m → isDg (ltr tx L (p + i)) = true
  | 0, _, _, i, hi => absurd hi (Nat.not_lt_zero _)
  | m + 1, p, h, i, hi => by
    unfold dgsF at h
    split at h
    · rename_i hd
      cases i with
      | zero => exact hd
      | succ i =>
        have := dgsF_all h i (by omega)
        rw [show p + 1 + i = p + (i + 1) by omega] at this
        exact this
    · cases h
/-- a statement that is as it must be -/
theorem bsO_wf {tx : Nat → Int32} {L p q : Nat} (h : bsO tx L p = .inl q) :
    (ltr tx L p = 99 ∧ isDg (ltr tx L (p + 1)) = true ∧ isDg (ltr tx L (p + 2)) = true ∧ 1 ≤ wys tx L (p + 3)) ∨
    (ltr tx L p = 114 ∧ ∀ i, i < 6 → isDg (ltr tx L (p + 1 + i)) = true) ∨ (ltr tx L p = 116 ∧ isDg (ltr tx L (p + 1)) = true) := by
  unfold bsO at h
  cases hd : doN (ltr tx L p) with
  | none => rw [hd] at h; cases h
  | some k =>
    rw [hd] at h
    simp only [] at h
    cases hg : dgsF tx L k (p + 1) with
    | some z => rw [hg] at h; cases h
    | none =>
      rw [hg] at h
      simp only [] at h
      have ha := dgsF_all hg
      unfold doN at hd
      by_cases h1 : ltr tx L p = 99
      · rw [if_pos h1] at hd
        cases hd
        unfold bsT at h
        rw [if_pos h1] at h
        refine Or.inl ⟨h1, ha 0 (by omega), ha 1 (by omega), ?_⟩
        by_cases hw : wys tx L (p + 1 + 2) = 0
        · rw [if_pos hw] at h; cases h
        · show 1 ≤ wys tx L (p + 1 + 2)
          omega
      · rw [if_neg h1] at hd
        by_cases h2 : ltr tx L p = 114
        · rw [if_pos h2] at hd
          cases hd
          exact Or.inr (Or.inl ⟨h2, ha⟩)
        · rw [if_neg h2] at hd
          by_cases h3 : ltr tx L p = 116
          · rw [if_pos h3] at hd
            cases hd
            exact Or.inr (Or.inr ⟨h3, ha 0 (by omega)⟩)
          · rw [if_neg h3] at hd; cases hd
def ydF (tx : Nat → Int32) (L p : Nat) : Nat → Nat → Co → Co
  | 0, _, c => c
  | m + 1, i, c => ydF tx L p m (i + 1) (addYd c (xW c (ltr tx L (p + i))) (yW c (ltr tx L (p + i))))
/-- the coast behind the statement at p; or it is not as it must be -/
def tlF (tx : Nat → Int32) (L : Nat) (c : Co) (p : Nat) : Option Co :=
  if ltr tx L p = 99 then (if cns c < 8 ∧ cny c + wys tx L (p + 3) ≤ 48 ∧ dgN tx L (p + 1) ≤ 5 then some (ydF tx L (p + 3) (wys tx L (p + 3)) 0 (addSt c (dgN tx L (p + 1)) (dgN tx L (p + 2)) (wys tx L (p + 3)))) else none)
  else if ltr tx L p = 114 then (if dgN tx L (p + 5) ≤ dgN tx L (p + 6) ∧ cnr c < 6 then some (addRk c (10 * dgN tx L (p + 1) + dgN tx L (p + 2)) (10 * dgN tx L (p + 3) + dgN tx L (p + 4)) (dgN tx L (p + 5)) (dgN tx L (p + 6))) else none)
  else some (setTd c (dgN tx L (p + 1)))
def tlR (S : ZS) (n : Nat) (r : Option Value) (ω : ZW) (t : Option Co) : Prop := match t with
  | some c => r = some (.int 1) ∧ ∃ S' n', ω = zw S' n' ∧ frm 7 12 S n S' n' ∧ cV S' n' 7 c
  | none => r = some (.int 0) ∧ ω = zw S n
theorem lV_frm {lo hi : Nat} {S S' : ZS} {n n' : Nat} {tx : Nat → Int32} {L : Nat} (h : lV S tx L) (f : frm lo hi S n S' n') (hh : hi < 21) : lV S' tx L := by
  obtain ⟨h1, h2, h3⟩ := h
  exact ⟨by rw [(f.2.2 21 (by omega)).1]; exact h1, h2, by rw [(f.2.2 22 (by omega)).1]; exact h3⟩
theorem cV_rk {S S' : ZS} {n n' b : Nat} {c : Co} {x y lo hi : Nat} (hV : cV S n b c) (f : frm (b + 4) (b + 4 + 1) S n S' n') (hr : rV S' n' (b + 4) (addRk c x y lo hi)) : cV S' n' b (addRk c x y lo hi) := by
  obtain ⟨e1, e2, e3, e4, e5, e6, e7, e8, e9, e10, e11⟩ := addRk_facts c x y lo hi
  have a1 : ∀ a, a < b + 4 → S'.1 a = S.1 a ∧ S'.2.1 a = S.2.1 a := fun a z => f.2.2 a (by omega)
  refine ⟨by rw [(a1 b (by omega)).1, e1]; exact hV.cnt, by rw [(a1 b (by omega)).1, e2]; exact hV.yd, by rw [(a1 b (by omega)).1, e4]; exact hV.td, hr, fun k hk => ?_, fun p hp => ?_⟩
  · rw [e1] at hk
    rw [(e5 k).1, (e5 k).2.1, (e5 k).2.2.1, (e5 k).2.2.2]
    obtain ⟨j, g1, g2, g3⟩ := hV.2.2.2.2.1 k hk
    exact ⟨j, Nat.lt_of_lt_of_le g1 f.1, by rw [(a1 (b + 1) (by omega)).2]; exact g2, by rw [f.2.1 j g1]; exact g3⟩
  · rw [e2] at hp
    rw [(a1 (b + 2) (by omega)).1, (a1 (b + 3) (by omega)).1, (e11 p).1, (e11 p).2]
    exact hV.2.2.2.2.2 p hp
theorem cV_td {S : ZS} {n b t : Nat} {c : Co} (hV : cV S n b c) : cV (sA S b 6 (nI t)) n b (setTd c t) := by
  obtain ⟨e1, e2, e3, e4, e5, e6, e7, e8⟩ := setTd_facts c t
  refine ⟨by rw [sA_same, zup_ne _ _ (by decide), e1]; exact hV.cnt, by rw [sA_same, zup_ne _ _ (by decide), e2]; exact hV.yd, by rw [sA_same, zup_same, e4], ⟨by rw [sA_ne _ _ _ (by omega), e3]; exact hV.rk.1, fun k hk => ?_⟩, fun k hk => ?_, fun p hp => ?_⟩
  · rw [e3] at hk
    rw [(e7 k).1, (e7 k).2.1, (e7 k).2.2.1, (e7 k).2.2.2]; exact hV.rk.2 k hk
  · rw [e1] at hk
    rw [(e5 k).1, (e5 k).2.1, (e5 k).2.2.1, (e5 k).2.2.2]; exact hV.2.2.2.2.1 k hk
  · rw [e2] at hp
    rw [sA_ne _ _ _ (by omega), sA_ne _ _ _ (by omega), (e8 p).1, (e8 p).2]; exact hV.2.2.2.2.2 p hp
set_option maxRecDepth 100000 in
set_option maxHeartbeats 4000000 in
theorem lp_X3_tell {S0 : ZS} {n p : Nat} {tx : Nat → Int32} {L wy : Nat} (hp : p < 300) (hwy : wy ≤ 9) {ks : Nat} {R : Option Value → ZW → Prop} : ∀ (m i : Nat) (c : Co) (S : ZS), i + m = wy → lV S tx L → cV S n 7 c → frm 7 12 S0 n S n → cny c + m ≤ 48 → (∀ S1, frm 7 12 S0 n S1 n → cV S1 n 7 (ydF tx L (p + 3) m i c) → R (some (.int 1)) (zw S1 n)) → Z m_X3_tell 0 ks R 64 [some (.ref 21), some (.ref 7), some (.int (nI p)), some (.int (nI wy)), some (.int 1), some (.int (nI i))] [] (zw S n) := by
  intro m
  induction m with
  | zero =>
    intro i c S e hl hV hf hny hR
    obtain rfl : i = wy := by omega
    refine Z_iload dX3_tell_64 rfl (pc' := 66) rfl ?_
    refine Z_if_eq dX3_tell_66 (tgt := 95) rfl (pc' := 69) rfl (fun c_66 => absurd c_66 (by decide)) (fun c_66 => ?_)
    refine Z_iload dX3_tell_69 rfl (pc' := 71) rfl ?_
    refine Z_iload_n dX3_tell_71 rfl (pc' := 72) rfl ?_
    refine Z_icmp_ge dX3_tell_72 (tgt := 95) rfl (pc' := 75) rfl (fun c_72 => ?_) (fun c_72 => absurd c_72 (fun z => z (Int32.le_refl _)))
    refine Z_iload dX3_tell_95 rfl (pc' := 97) rfl ?_
    exact Z_ireturn dX3_tell_97 rfl rfl (hR _ hf hV)
  | succ m ih =>
    intro i c S e hl hV hf hny hR
    refine Z_iload dX3_tell_64 rfl (pc' := 66) rfl ?_
    refine Z_if_eq dX3_tell_66 (tgt := 95) rfl (pc' := 69) rfl (fun c_66 => absurd c_66 (by decide)) (fun c_66 => ?_)
    refine Z_iload dX3_tell_69 rfl (pc' := 71) rfl ?_
    refine Z_iload_n dX3_tell_71 rfl (pc' := 72) rfl ?_
    refine Z_icmp_ge dX3_tell_72 (tgt := 95) rfl (pc' := 75) rfl (fun c_72 => absurd c_72 (by rw [nI_len (by omega) (by omega)]; omega)) (fun c_72 => ?_)
    refine Z_aload_n dX3_tell_75 rfl (z_isref _) (pc' := 76) rfl ?_
    refine Z_aload_n dX3_tell_76 rfl (z_isref _) (pc' := 77) rfl ?_
    refine Z_iload_n dX3_tell_77 rfl (pc' := 78) rfl ?_
    refine Z_iconst dX3_tell_78 (v := 3) (by decide) (pc' := 79) rfl ?_
    refine Z_iadd dX3_tell_79 (pc' := 80) rfl ?_
    refine Z_iload dX3_tell_80 rfl (pc' := 82) rfl ?_
    rw [show nI p + 3 = nI (p + 3) from nI_add p 3]
    refine Z_iadd dX3_tell_82 (pc' := 83) rfl ?_
    rw [nI_add]
    refine Z_cVe dX3_tell_83 rfl zcw_X3_letterAt (As := [_]) (rest := [_]) rfl ⟨Nat.le_of_ble_eq_true rfl, Nat.le_of_ble_eq_true rfl⟩ (Nat.le_of_ble_eq_true rfl) (zRcv.lay zob_21) ⟨zcw_X3_letterAt.2.2.2.2, Nat.le_of_ble_eq_true rfl⟩ zk_RX3_19 c_X3_letterAt (pc' := 86) rfl ?_
    rw [hl.at (by omega)]
    refine Z_cV dX3_tell_86 rfl zcw_X2_appendYard (As := [_]) (rest := []) rfl ⟨Nat.le_of_ble_eq_true rfl, Nat.le_of_ble_eq_true rfl⟩ (Nat.le_of_ble_eq_true rfl) (zRcv.lay zob_7) ⟨zcw_X2_appendYard.2.2.2.2, Nat.le_of_ble_eq_true rfl⟩ zk_RX3_48 (c_X2_appendYard (Or.inr (Or.inl rfl)) hV (by omega)) (pc' := 89) rfl (fun r_86 w_86 h_86 => ?_)
    obtain ⟨rfl, S1, rfl, f1, v1⟩ := h_86
    show Z _ _ _ _ _ _ [] _
    refine Z_iinc dX3_tell_89 rfl (nI_inc i) (Nat.le_of_ble_eq_true rfl) rfl (ls' := [_, _, _, _, _, _]) rfl (pc' := 92) rfl ?_
    refine Z_goto dX3_tell_92 (tgt := 64) rfl ?_
    refine Z_take 6 (ls' := [_, _, _, _, _, _]) rfl ?_
    exact ih (i + 1) _ S1 (by omega) (lV_frm hl f1 (by decide)) v1 (hf.tr f1) (by rw [(addYd_facts c _ _).2.1]; omega) hR
set_option maxRecDepth 100000 in
set_option maxHeartbeats 4000000 in
theorem c_X3_tell {S : ZS} {n p q L : Nat} {tx : Nat → Int32} {c : Co} (hp : p < 300) (hl : lV S tx L) (hV : cV S n 7 c) (ok : Cok c) (hwf : bsO tx L p = .inl q) : zM m_X3_tell 1 4 [.ref 21, .ref 7, .int (nI p)] (zw S n) (fun r ω => tlR S n r ω (tlF tx L c p)) := by
  show Z m_X3_tell _ _ _ 0 [some (.ref _), some (.ref _), some (.int _)] [] _
  refine Z_aload_n dX3_tell_0 rfl (z_isref _) (pc' := 1) rfl ?_
  refine Z_iload_n dX3_tell_1 rfl (pc' := 2) rfl ?_
  refine Z_cVe dX3_tell_2 rfl zcw_X3_letterAt (As := [_]) (rest := []) rfl ⟨Nat.le_of_ble_eq_true rfl, Nat.le_of_ble_eq_true rfl⟩ (Nat.le_of_ble_eq_true rfl) (zRcv.lay zob_21) ⟨zcw_X3_letterAt.2.2.2.2, Nat.le_of_ble_eq_true rfl⟩ zk_RX3_19 c_X3_letterAt (pc' := 5) rfl ?_
  rw [hl.at (by omega)]
  refine Z_topi (fun x_5 e_5 => ?_)
  by_cases k_5_99 : x_5 = 99
  · subst k_5_99
    have hc : ltr tx L p = 99 := e_5.symm
    have hwf2 := bsO_wf hwf
    rw [hc] at hwf2
    obtain ⟨-, hd1, hd2, hw1⟩ := hwf2.resolve_right (fun z => by rcases z with ⟨z, -⟩ | ⟨z, -⟩ <;> exact absurd z (by decide))
    have hw9 := wys_le tx L (p + 3)
    obtain ⟨d1, d1l⟩ := dgN_ok hd1
    obtain ⟨d2, d2l⟩ := dgN_ok hd2
    have hns := ok.1
    have hny := ok.2.1
    refine Z_lookup dX3_tell_5 (by decide) (off := 27) (by decide) (tgt := 32) rfl ?_
    refine Z_aload_n dX3_tell_32 rfl (z_isref _) (pc' := 33) rfl ?_
    refine Z_iload_n dX3_tell_33 rfl (pc' := 34) rfl ?_
    refine Z_iconst dX3_tell_34 (v := 3) (by decide) (pc' := 35) rfl ?_
    refine Z_iadd dX3_tell_35 (pc' := 36) rfl ?_
    rw [show nI p + 3 = nI (p + 3) from nI_add p 3]
    refine Z_cVe dX3_tell_36 rfl zcw_X3_waysFrom (As := [_]) (rest := []) rfl ⟨Nat.le_of_ble_eq_true rfl, Nat.le_of_ble_eq_true rfl⟩ (Nat.le_of_ble_eq_true rfl) (zRcv.lay zob_21) ⟨zcw_X3_waysFrom.2.2.2.2, Nat.le_of_ble_eq_true rfl⟩ zk_RX3_36 (c_X3_waysFrom hl (by omega)) (pc' := 39) rfl ?_
    refine Z_istore_n dX3_tell_39 (Nat.le_of_ble_eq_true rfl) (Nat.le_of_ble_eq_true rfl) rfl (ls' := [_, _, _, _]) rfl (pc' := 40) rfl ?_
    refine Z_aload_n dX3_tell_40 rfl (z_isref _) (pc' := 41) rfl ?_
    refine Z_aload_n dX3_tell_41 rfl (z_isref _) (pc' := 42) rfl ?_
    refine Z_iload_n dX3_tell_42 rfl (pc' := 43) rfl ?_
    refine Z_iconst dX3_tell_43 (v := 1) (by decide) (pc' := 44) rfl ?_
    refine Z_iadd dX3_tell_44 (pc' := 45) rfl ?_
    rw [nI_1]
    refine Z_cVe dX3_tell_45 rfl zcw_X3_digitAt (As := [_]) (rest := [_]) rfl ⟨Nat.le_of_ble_eq_true rfl, Nat.le_of_ble_eq_true rfl⟩ (Nat.le_of_ble_eq_true rfl) (zRcv.lay zob_21) ⟨zcw_X3_digitAt.2.2.2.2, Nat.le_of_ble_eq_true rfl⟩ zk_RX3_23 c_X3_digitAt (pc' := 48) rfl ?_
    rw [hl.at (by omega), d1]
    refine Z_aload_n dX3_tell_48 rfl (z_isref _) (pc' := 49) rfl ?_
    refine Z_iload_n dX3_tell_49 rfl (pc' := 50) rfl ?_
    refine Z_iconst dX3_tell_50 (v := 2) (by decide) (pc' := 51) rfl ?_
    refine Z_iadd dX3_tell_51 (pc' := 52) rfl ?_
    rw [show nI p + 2 = nI (p + 2) from nI_add p 2]
    refine Z_cVe dX3_tell_52 rfl zcw_X3_digitAt (As := [_]) (rest := [_, _]) rfl ⟨Nat.le_of_ble_eq_true rfl, Nat.le_of_ble_eq_true rfl⟩ (Nat.le_of_ble_eq_true rfl) (zRcv.lay zob_21) ⟨zcw_X3_digitAt.2.2.2.2, Nat.le_of_ble_eq_true rfl⟩ zk_RX3_23 c_X3_digitAt (pc' := 55) rfl ?_
    rw [hl.at (by omega), d2]
    refine Z_iload_n dX3_tell_55 rfl (pc' := 56) rfl ?_
    refine Z_cVa (kc' := 1) (ks' := 3) (kc := 0) (ks := 1) dX3_tell_56 rfl zcw_X2_appendStretch (As := [_, _, _]) (rest := []) rfl ⟨Nat.le_of_ble_eq_true rfl, Nat.le_of_ble_eq_true rfl⟩ (Nat.le_of_ble_eq_true rfl) (zRcv.lay zob_7) ⟨zcw_X2_appendStretch.2.2.2.2, Nat.le_of_ble_eq_true rfl⟩ zk_RX3_42 (c_X2_appendStretch (Or.inr (Or.inl rfl)) hV hns hny d1l hw9) (pc' := 59) rfl (fun r_56 w_56 h_56 => ?_)
    rcases h_56 with ⟨h8, h48, hk5, rfl, S1, rfl, f1, v1⟩ | ⟨hno, rfl, rfl⟩
    · show Z _ _ _ _ _ _ (.int 1 :: []) _
      refine Z_istore dX3_tell_59 (Nat.le_of_ble_eq_true rfl) (Nat.le_of_ble_eq_true rfl) rfl (ls' := [_, _, _, _, _]) rfl (pc' := 61) rfl ?_
      refine Z_iconst dX3_tell_61 (v := 0) (by decide) (pc' := 62) rfl ?_
      refine Z_istore dX3_tell_62 (Nat.le_of_ble_eq_true rfl) (Nat.le_of_ble_eq_true rfl) rfl (ls' := [_, _, _, _, _, _]) rfl (pc' := 64) rfl ?_
      refine lp_X3_tell hp (wys_le tx L (p + 3)) (wys tx L (p + 3)) 0 _ S1 (by omega) (lV_frm hl f1 (by decide)) v1 frm.rf (by rw [(addSt_facts c _ _ _).2.1]; exact h48) (fun S2 f2 v2 => ?_)
      unfold tlF
      rw [if_pos hc, if_pos ⟨h8, h48, hk5⟩]
      exact ⟨rfl, S2, n + 1, rfl, f1.tr f2, v2⟩
    · show Z _ _ _ _ _ _ (.int 0 :: []) _
      refine Z_istore dX3_tell_59 (Nat.le_of_ble_eq_true rfl) (Nat.le_of_ble_eq_true rfl) rfl (ls' := [_, _, _, _, _]) rfl (pc' := 61) rfl ?_
      refine Z_iconst dX3_tell_61 (v := 0) (by decide) (pc' := 62) rfl ?_
      refine Z_istore dX3_tell_62 (Nat.le_of_ble_eq_true rfl) (Nat.le_of_ble_eq_true rfl) rfl (ls' := [_, _, _, _, _, _]) rfl (pc' := 64) rfl ?_
      refine Z_iload dX3_tell_64 rfl (pc' := 66) rfl ?_
      refine Z_if_eq dX3_tell_66 (tgt := 95) rfl (pc' := 69) rfl (fun c_66 => ?_) (fun c_66 => absurd c_66 (fun z => z rfl))
      refine Z_iload dX3_tell_95 rfl (pc' := 97) rfl ?_
      exact Z_ireturn dX3_tell_97 rfl rfl (by unfold tlF; rw [if_pos hc, if_neg hno]; exact ⟨rfl, rfl⟩)
  by_cases k_5_114 : x_5 = 114
  · subst k_5_114
    have hr114 : ltr tx L p = 114 := e_5.symm
    have hwf2 := bsO_wf hwf
    rw [hr114] at hwf2
    obtain ⟨-, hds⟩ := (hwf2.resolve_left (fun z => absurd z.1 (by decide))).resolve_right (fun z => absurd z.1 (by decide))
    obtain ⟨d1, d1l⟩ := dgN_ok (hds 0 (by omega))
    obtain ⟨d2, d2l⟩ := dgN_ok (hds 1 (by omega))
    obtain ⟨d3, d3l⟩ := dgN_ok (hds 2 (by omega))
    obtain ⟨d4, d4l⟩ := dgN_ok (hds 3 (by omega))
    obtain ⟨d5, d5l⟩ := dgN_ok (hds 4 (by omega))
    obtain ⟨d6, d6l⟩ := dgN_ok (hds 5 (by omega))
    simp only [Nat.add_assoc, Nat.reduceAdd, Nat.add_zero] at d1 d1l d2 d2l d3 d3l d4 d4l d5 d5l d6 d6l
    have hnr := ok.2.2.1
    refine Z_lookup dX3_tell_5 (by decide) (off := 93) (by decide) (tgt := 98) rfl ?_
    refine Z_aload_n dX3_tell_98 rfl (z_isref _) (pc' := 99) rfl ?_
    refine Z_gR dX3_tell_99 rfl zgr_RX3_52_7 (pc' := 102) rfl ?_
    refine Z_aload_n dX3_tell_102 rfl (z_isref _) (pc' := 103) rfl ?_
    refine Z_iload_n dX3_tell_103 rfl (pc' := 104) rfl ?_
    refine Z_iconst dX3_tell_104 (v := 1) (by decide) (pc' := 105) rfl ?_
    refine Z_iadd dX3_tell_105 (pc' := 106) rfl ?_
    rw [nI_1]
    refine Z_cVe dX3_tell_106 rfl zcw_X3_pairAt (As := [_]) (rest := [_]) rfl ⟨Nat.le_of_ble_eq_true rfl, Nat.le_of_ble_eq_true rfl⟩ (Nat.le_of_ble_eq_true rfl) (zRcv.lay zob_21) ⟨zcw_X3_pairAt.2.2.2.2, Nat.le_of_ble_eq_true rfl⟩ zk_RX3_56 c_X3_pairAt (pc' := 109) rfl ?_
    rw [nI_1, hl.at (by omega), hl.at (by omega), d1, d2, show (10 : Int32) = nI 10 from rfl, nI_mul, nI_add]
    refine Z_aload_n dX3_tell_109 rfl (z_isref _) (pc' := 110) rfl ?_
    refine Z_iload_n dX3_tell_110 rfl (pc' := 111) rfl ?_
    refine Z_iconst dX3_tell_111 (v := 3) (by decide) (pc' := 112) rfl ?_
    refine Z_iadd dX3_tell_112 (pc' := 113) rfl ?_
    rw [show nI p + 3 = nI (p + 3) from nI_add p 3]
    refine Z_cVe dX3_tell_113 rfl zcw_X3_pairAt (As := [_]) (rest := [_, _]) rfl ⟨Nat.le_of_ble_eq_true rfl, Nat.le_of_ble_eq_true rfl⟩ (Nat.le_of_ble_eq_true rfl) (zRcv.lay zob_21) ⟨zcw_X3_pairAt.2.2.2.2, Nat.le_of_ble_eq_true rfl⟩ zk_RX3_56 c_X3_pairAt (pc' := 116) rfl ?_
    rw [show nI (p + 3) + 1 = nI (p + 4) from nI_1 _, hl.at (by omega), hl.at (by omega), d3, d4, show (10 : Int32) = nI 10 from rfl, nI_mul, nI_add]
    refine Z_aload_n dX3_tell_116 rfl (z_isref _) (pc' := 117) rfl ?_
    refine Z_iload_n dX3_tell_117 rfl (pc' := 118) rfl ?_
    refine Z_iconst dX3_tell_118 (v := 5) (by decide) (pc' := 119) rfl ?_
    refine Z_iadd dX3_tell_119 (pc' := 120) rfl ?_
    rw [show nI p + 5 = nI (p + 5) from nI_add p 5]
    refine Z_cVe dX3_tell_120 rfl zcw_X3_digitAt (As := [_]) (rest := [_, _, _]) rfl ⟨Nat.le_of_ble_eq_true rfl, Nat.le_of_ble_eq_true rfl⟩ (Nat.le_of_ble_eq_true rfl) (zRcv.lay zob_21) ⟨zcw_X3_digitAt.2.2.2.2, Nat.le_of_ble_eq_true rfl⟩ zk_RX3_23 c_X3_digitAt (pc' := 123) rfl ?_
    rw [hl.at (by omega), d5]
    refine Z_aload_n dX3_tell_123 rfl (z_isref _) (pc' := 124) rfl ?_
    refine Z_iload_n dX3_tell_124 rfl (pc' := 125) rfl ?_
    refine Z_bipush dX3_tell_125 (v := 6) (by decide) (pc' := 127) rfl ?_
    refine Z_iadd dX3_tell_127 (pc' := 128) rfl ?_
    rw [show nI p + 6 = nI (p + 6) from nI_add p 6]
    refine Z_cVe dX3_tell_128 rfl zcw_X3_digitAt (As := [_]) (rest := [_, _, _, _]) rfl ⟨Nat.le_of_ble_eq_true rfl, Nat.le_of_ble_eq_true rfl⟩ (Nat.le_of_ble_eq_true rfl) (zRcv.lay zob_21) ⟨zcw_X3_digitAt.2.2.2.2, Nat.le_of_ble_eq_true rfl⟩ zk_RX3_23 c_X3_digitAt (pc' := 131) rfl ?_
    rw [hl.at (by omega), d6]
    refine Z_cVa (kc' := 1) (ks' := 4) (kc := 0) (ks := 0) dX3_tell_131 rfl zcw_X7_append (As := [_, _, _, _]) (rest := []) rfl ⟨Nat.le_of_ble_eq_true rfl, Nat.le_of_ble_eq_true rfl⟩ (Nat.le_of_ble_eq_true rfl) (zRcv.lay zob_11) ⟨zcw_X7_append.2.2.2.2, Nat.le_of_ble_eq_true rfl⟩ zk_RX3_59 (c_X7_append (Or.inr (Or.inl rfl)) hV.rk hnr d5l d6l) (pc' := 134) rfl (fun r_131 w_131 h_131 => ?_)
    rcases h_131 with ⟨hle, h6, rfl, S1, rfl, f1, v1⟩ | ⟨hno, rfl, rfl⟩
    · show Z _ _ _ _ _ _ (.int 1 :: []) _
      exact Z_ireturn dX3_tell_134 rfl rfl (by unfold tlF; rw [if_neg (by rw [hr114]; decide), if_pos hr114, if_pos ⟨hle, h6⟩]; exact ⟨rfl, S1, n + 1, rfl, f1.wd (by decide) (by decide), cV_rk hV f1 v1⟩)
    · show Z _ _ _ _ _ _ (.int 0 :: []) _
      exact Z_ireturn dX3_tell_134 rfl rfl (by unfold tlF; rw [if_neg (by rw [hr114]; decide), if_pos hr114, if_neg hno]; exact ⟨rfl, rfl⟩)
  refine Z_lookup dX3_tell_5 (by decide) (off := 130) (by simp [Op.lookupswitch.offset, i32_nev k_5_99 (v := 99) (by decide), i32_nev k_5_114 (v := 114) (by decide)]) (tgt := 135) rfl ?_
  have hn99 : ¬ ltr tx L p = 99 := fun z => k_5_99 (e_5.trans z)
  have hn114 : ¬ ltr tx L p = 114 := fun z => k_5_114 (e_5.trans z)
  obtain ⟨ht116, hd1⟩ := ((bsO_wf hwf).resolve_left (fun z => hn99 z.1)).resolve_left (fun z => hn114 z.1)
  obtain ⟨d1, d1l⟩ := dgN_ok hd1
  refine Z_aload_n dX3_tell_135 rfl (z_isref _) (pc' := 136) rfl ?_
  refine Z_aload_n dX3_tell_136 rfl (z_isref _) (pc' := 137) rfl ?_
  refine Z_iload_n dX3_tell_137 rfl (pc' := 138) rfl ?_
  refine Z_iconst dX3_tell_138 (v := 1) (by decide) (pc' := 139) rfl ?_
  refine Z_iadd dX3_tell_139 (pc' := 140) rfl ?_
  rw [nI_1]
  refine Z_cVe dX3_tell_140 rfl zcw_X3_digitAt (As := [_]) (rest := [_]) rfl ⟨Nat.le_of_ble_eq_true rfl, Nat.le_of_ble_eq_true rfl⟩ (Nat.le_of_ble_eq_true rfl) (zRcv.lay zob_21) ⟨zcw_X3_digitAt.2.2.2.2, Nat.le_of_ble_eq_true rfl⟩ zk_RX3_23 c_X3_digitAt (pc' := 143) rfl ?_
  rw [hl.at (by omega), d1]
  refine Z_pI dX3_tell_143 rfl zpi_RX3_65_7 (pc' := 146) rfl ?_
  refine Z_iconst dX3_tell_146 (v := 1) (by decide) (pc' := 147) rfl ?_
  exact Z_ireturn dX3_tell_147 rfl rfl (by unfold tlF; rw [if_neg hn99, if_neg hn114]; exact ⟨rfl, _, n, rfl, frm.rf.sA _ _ (by decide) (by decide), cV_td hV⟩)
