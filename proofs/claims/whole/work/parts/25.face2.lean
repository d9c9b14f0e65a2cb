theorem CI_tx {S : ZS} {n : Nat} {M : Ms} (hI : CI S n M) {S' : ZS} {tx : Nat → Int32} {L : Nat} (f : frm 21 22 S n S' n) (h : lV S' tx L) : CI S' n (wT M tx L) := by
  obtain ⟨h1, h2, h3, h4, h5⟩ := hI
  have g := f.2.2
  exact ⟨⟨cV_frm h1.1 f (by decide), h1.2⟩, ⟨by rw [(g 0 (by decide)).1]; exact h2.1, fun c hc => ⟨cV_frm (h2.2 c hc).1 f (by decide), (h2.2 c hc).2⟩⟩, h, ⟨by rw [(g 0 (by decide)).1]; exact h4.1, h4.2.1, fun j hj => by rw [(g 23 (by decide)).1]; exact h4.2.2 j hj⟩, fun j hj => by rw [(g 24 (by decide)).1]; exact h5 j hj⟩
theorem CI_feed {S : ZS} {n : Nat} {M : Ms} (hI : CI S n M) (hL : mL M < 80) (x : Int32) : CI (sA (sA S 22 (mL M) x) 21 1 (nI (mL M + 1))) n (wT M (zup (mtx M) (mL M) x) (mL M + 1)) := by
  refine CI_tx hI ((frm.rf.sA _ _ (by decide) (by decide)).sA _ _ (by decide) (by decide)) ⟨by rw [sA_same, zup_same], by omega, fun k hk => ?_⟩
  rw [sA_ne _ _ _ (by decide), sA_same]
  by_cases e : k = mL M
  · subst e; rw [zup_same, zup_same]
  · rw [zup_ne _ _ e, zup_ne _ _ e, hI.2.2.1.2.2 k (by omega)]
theorem CI_len {S : ZS} {n : Nat} {M : Ms} (hI : CI S n M) : CI (sA S 21 1 0) n (wT M (mtx M) 0) :=
  CI_tx hI (frm.rf.sA _ _ (by decide) (by decide)) ⟨by rw [sA_same, zup_same]; rfl, by omega, fun k hk => by omega⟩
theorem CI_coast {S : ZS} {n : Nat} {M : Ms} (hI : CI S n M) {S' : ZS} {n' : Nat} {c : Co} (f : frm 1 12 S n S' n') (h : cV S' n' 1 c) (ok : Cok c) : CI S' n' (wC M c) := by
  obtain ⟨h1, h2, h3, h4, h5⟩ := hI
  have g := f.2.2
  exact ⟨⟨h, ok⟩, ⟨by rw [(g 0 (by decide)).1]; exact h2.1, fun c hc => ⟨cV_frm (h2.2 c hc).1 f (by decide), (h2.2 c hc).2⟩⟩, lV_frm h3 f (by decide), ⟨by rw [(g 0 (by decide)).1]; exact h4.1, h4.2.1, fun j hj => by rw [(g 23 (by decide)).1]; exact h4.2.2 j hj⟩, fun j hj => by rw [(g 24 (by decide)).1]; exact h5 j hj⟩
theorem CI_draft {S : ZS} {n : Nat} {M : Ms} (hI : CI S n M) {S' : ZS} {n' : Nat} (f : frm 7 12 S n S' n') : CI S' n' M := CI_coast hI (f.wd (by decide) (by decide)) (cV_frm hI.cv f (by decide)) hI.ok
theorem psF_le {tx : Nat → Int32} {L : Nat} (hL : L ≤ 80) : ∀ {m p q : Nat}, p ≤ 80 → psF tx L m p = .inr q → q ≤ 97
  | 0, _, _, _, h => by unfold psF at h; cases h
  | m + 1, p, q, hp, h => by
    unfold psF at h
    cases e : bsO tx L p with
    | inr x =>
      rw [e] at h; cases h
      have := bsO_le (tx := tx) (L := L) (p := p) (q := q) (Or.inr e)
      omega
    | inl x =>
      rw [e] at h
      simp only [] at h
      split at h
      · cases e2 : psF tx L m x with
        | inl l => rw [e2] at h; cases h
        | inr y => rw [e2] at h; cases h; exact psF_le hL (by omega) e2
      · cases h
theorem psF_pos {tx : Nat → Int32} {L m : Nat} {l : List Nat} (h : psF tx L (m + 1) 0 = .inl l) : 0 < L := by
  rcases Nat.eq_zero_or_pos L with e | e
  · subst e; cases h
  · exact e
theorem idx_cases (a : Int32) {N : Nat} (hN : N < 2147483648) : (∃ k, k < N ∧ a = nI k ∧ idx a N = some k) ∨ ((a < 0 ∨ nI N ≤ a) ∧ idx a N = none) := by
  rcases i32_cases a with h | ⟨k, hk, rfl⟩
  · exact Or.inr ⟨Or.inl h, idx_none (Or.inl h)⟩
  · rcases Nat.lt_or_ge k N with q | q
    · exact Or.inl ⟨k, q, rfl, idx_some q hN⟩
    · have : nI N ≤ nI k := (nI_len hN hk).mpr q
      exact Or.inr ⟨Or.inr this, idx_none (Or.inr this)⟩
theorem k_stretch {S : ZS} {n : Nat} {M : Ms} (hI : CI S n M) (s : Int32) : (∃ k, k < cns (mc M) ∧ s = nI k ∧ idx s (cns (mc M)) = some k ∧ ∃ j, j < n ∧ S.2.2 j = (zcl (ckd (mc M) k), [nI (cfg (mc M) k), nI (cfs (mc M) k), nI (cln (mc M) k)]) ∧ sI (S.2.1 (1 + 1)) (S.1 1 1) 8 s = some (48 + j)) ∨ (idx s (cns (mc M)) = none ∧ sI (S.2.1 (1 + 1)) (S.1 1 1) 8 s = none) := by
  have h8 := hI.ok.1
  rcases idx_cases s (N := cns (mc M)) (by omega) with ⟨k, hk, rfl, e⟩ | ⟨h, e⟩
  · rcases hI.cv.st hI.ok k (by omega) with ⟨_, j, hj, hP, e2⟩ | ⟨h2, _⟩
    · exact Or.inl ⟨k, hk, rfl, e, j, hj, hP, e2⟩
    · omega
  · refine Or.inr ⟨e, ?_⟩
    unfold sI
    rw [hI.cv.cnt, if_pos (h.imp_right Or.inl)]
theorem k_rock {S : ZS} {n : Nat} {M : Ms} (hI : CI S n M) (s : Int32) : (∃ k, k < cnr (mc M) ∧ s = nI k ∧ idx s (cnr (mc M)) = some k ∧ ∃ j, j < n ∧ S.2.2 j = (6, [nI (crx (mc M) k), nI (cry (mc M) k), nI (clw (mc M) k), nI (chg (mc M) k)]) ∧ sI (S.2.1 (5 + 1)) (S.1 5 1) 6 s = some (48 + j)) ∨ (idx s (cnr (mc M)) = none ∧ sI (S.2.1 (5 + 1)) (S.1 5 1) 6 s = none) := by
  have h8 := hI.ok.2.2.1
  have hr : rV S n 5 (mc M) := hI.cv.rk
  rcases idx_cases s (N := cnr (mc M)) (by omega) with ⟨k, hk, rfl, e⟩ | ⟨h, e⟩
  · rcases hr.at hI.ok k (by omega) with ⟨_, j, hj, hP, e2⟩ | ⟨h2, _⟩
    · exact Or.inl ⟨k, hk, rfl, e, j, hj, hP, e2⟩
    · omega
  · refine Or.inr ⟨e, ?_⟩
    unfold sI
    rw [hr.1, if_pos (h.imp_right Or.inl)]
theorem hpI_some {N k : Nat} (hN : N < 1000) (hk : k < N + 1) : hpI (nI N) (nI k) = true := by
  unfold hpI
  have h1 : ¬ nI k < 0 := nI_neg (by omega)
  have h2 : ¬ nI N < nI k := by rw [nI_ltn (by omega) (by omega)]; omega
  simp [h1, h2]
theorem hpI_none {N : Nat} {a : Int32} (hN : N < 1000) (h : a < 0 ∨ nI (N + 1) ≤ a) : hpI (nI N) a = false := by
  unfold hpI
  rcases h with h | h
  · simp [h]
  · have : nI N < a := Int32.lt_of_lt_of_le ((nI_ltn (by omega) (by omega)).mpr (Nat.lt_succ_self N)) h
    simp [this]
set_option maxRecDepth 100000 in
set_option maxHeartbeats 4000000 in
theorem c_X11_feed {S : ZS} {n : Nat} {M : Ms} (hI : CI S n M) {a : Int32} : zM m_X11_feed 0 0 [.ref 0, .int a] (zw S n) (pR S n (spFeed M a)) := by
  show Z m_X11_feed _ _ _ 0 [some (.ref _), some (.int _)] [] _
  refine Z_iload_n dX11_feed_0 rfl (pc' := 1) rfl ?_
  refine Z_if_ge dX11_feed_1 (tgt := 11) rfl (pc' := 4) rfl (fun c_1 => ?_) (fun c_1 => ?_)
  · refine Z_iload_n dX11_feed_11 rfl (pc' := 12) rfl ?_
    refine Z_sipush dX11_feed_12 (v := 255) (by decide) (pc' := 15) rfl ?_
    refine Z_icmp_gt dX11_feed_15 (tgt := 29) rfl (pc' := 18) rfl (fun c_15 => ?_) (fun c_15 => ?_)
    · refine Z_aload_n dX11_feed_29 rfl (z_isref _) (pc' := 30) rfl ?_
      refine Z_bipush dX11_feed_30 (v := (-6)) (by decide) (pc' := 32) rfl ?_
      refine Z_cVe dX11_feed_32 rfl zcw_X11_refuse (As := [_]) (rest := []) rfl ⟨Nat.le_of_ble_eq_true rfl, Nat.le_of_ble_eq_true rfl⟩ (Nat.le_of_ble_eq_true rfl) (zRcv.lay zob_0) ⟨zcw_X11_refuse.2.2.2.2, Nat.le_of_ble_eq_true rfl⟩ zk_RX11_43 (c_X11_refuse (k := 6) (by decide) (by decide)) (pc' := 35) rfl ?_
      exact Z_ireturn dX11_feed_35 rfl rfl (pR.no hI (by decide) (by unfold spFeed; rw [if_neg (i_nlt c_1), if_pos (Or.inl c_15)]))
    · refine Z_aload_n dX11_feed_18 rfl (z_isref _) (pc' := 19) rfl ?_
      refine Z_gR dX11_feed_19 rfl zgr_RX11_32_0 (pc' := 22) rfl ?_
      refine Z_iload_n dX11_feed_22 rfl (pc' := 23) rfl ?_
      refine Z_cV dX11_feed_23 rfl zcw_X3_append (As := [_]) (rest := []) rfl ⟨Nat.le_of_ble_eq_true rfl, Nat.le_of_ble_eq_true rfl⟩ (Nat.le_of_ble_eq_true rfl) (zRcv.lay zob_21) ⟨zcw_X3_append.2.2.2.2, Nat.le_of_ble_eq_true rfl⟩ zk_RX11_47 (c_X3_append hI.2.2.1.1 hI.2.2.1.2.1) (pc' := 26) rfl (fun r_23 w_23 h_23 => ?_)
      rcases h_23 with ⟨hL, rfl, rfl⟩ | ⟨hL, rfl, rfl⟩
      · show Z _ _ _ _ _ _ (.int 1 :: []) _
        refine Z_if_ne dX11_feed_26 (tgt := 36) rfl (pc' := 29) rfl (fun c_26 => ?_) (fun c_26 => absurd c_26 (by decide))
        refine Z_aload_n dX11_feed_36 rfl (z_isref _) (pc' := 37) rfl ?_
        refine Z_gR dX11_feed_37 rfl zgr_RX11_32_0 (pc' := 40) rfl ?_
        refine Z_gI dX11_feed_40 rfl zgi_RX11_51_21 (pc' := 43) rfl ?_
        rw [sA_same, zup_same]
        exact Z_ireturn dX11_feed_43 rfl rfl ⟨by unfold spFeed; rw [if_neg (i_nlt c_1), if_neg (n_or c_15 (by omega))], _, n, rfl, (frm.rf.sA _ _ (by decide) (by decide)).sA _ _ (by decide) (by decide), by unfold spFeed; rw [if_neg (i_nlt c_1), if_neg (n_or c_15 (by omega))]; exact CI_feed hI hL a⟩
      · show Z _ _ _ _ _ _ (.int 0 :: []) _
        refine Z_if_ne dX11_feed_26 (tgt := 36) rfl (pc' := 29) rfl (fun c_26 => absurd c_26 (fun c => c rfl)) (fun c_26 => ?_)
        refine Z_aload_n dX11_feed_29 rfl (z_isref _) (pc' := 30) rfl ?_
        refine Z_bipush dX11_feed_30 (v := (-6)) (by decide) (pc' := 32) rfl ?_
        refine Z_cVe dX11_feed_32 rfl zcw_X11_refuse (As := [_]) (rest := []) rfl ⟨Nat.le_of_ble_eq_true rfl, Nat.le_of_ble_eq_true rfl⟩ (Nat.le_of_ble_eq_true rfl) (zRcv.lay zob_0) ⟨zcw_X11_refuse.2.2.2.2, Nat.le_of_ble_eq_true rfl⟩ zk_RX11_43 (c_X11_refuse (k := 6) (by decide) (by decide)) (pc' := 35) rfl ?_
        exact Z_ireturn dX11_feed_35 rfl rfl (pR.no hI (by decide) (by unfold spFeed; rw [if_neg (i_nlt c_1), if_pos (Or.inr hL)]))
  · refine Z_aload_n dX11_feed_4 rfl (z_isref _) (pc' := 5) rfl ?_
    refine Z_bipush dX11_feed_5 (v := (-4)) (by decide) (pc' := 7) rfl ?_
    refine Z_cVe dX11_feed_7 rfl zcw_X11_refuse (As := [_]) (rest := []) rfl ⟨Nat.le_of_ble_eq_true rfl, Nat.le_of_ble_eq_true rfl⟩ (Nat.le_of_ble_eq_true rfl) (zRcv.lay zob_0) ⟨zcw_X11_refuse.2.2.2.2, Nat.le_of_ble_eq_true rfl⟩ zk_RX11_43 (c_X11_refuse (k := 4) (by decide) (by decide)) (pc' := 10) rfl ?_
    exact Z_ireturn dX11_feed_10 rfl rfl (pR.no hI (by decide) (by unfold spFeed; rw [if_pos (i_lt c_1)]))
set_option maxRecDepth 100000 in
set_option maxHeartbeats 4000000 in
theorem c_X11_coast {S : ZS} {n : Nat} {M : Ms} (hI : CI S n M) : zM m_X11_coast 80 320 [.ref 0] (zw S n) (pR S n (spCoast M)) := by
  show Z m_X11_coast _ _ _ 0 [some (.ref _)] [] _
  refine Z_aload_n dX11_coast_0 rfl (z_isref _) (pc' := 1) rfl ?_
  refine Z_gR dX11_coast_1 rfl zgr_RX11_32_0 (pc' := 4) rfl ?_
  refine Z_cVe dX11_coast_4 rfl zcw_X3_wrongLetter (As := []) (rest := []) rfl ⟨Nat.le_of_ble_eq_true rfl, Nat.le_of_ble_eq_true rfl⟩ (Nat.le_of_ble_eq_true rfl) (zRcv.lay zob_21) ⟨zcw_X3_wrongLetter.2.2.2.2, Nat.le_of_ble_eq_true rfl⟩ zk_RX11_55 (c_X3_wrongLetter hI.2.2.1) (pc' := 7) rfl ?_
  refine Z_istore_n dX11_coast_7 (Nat.le_of_ble_eq_true rfl) (Nat.le_of_ble_eq_true rfl) rfl (ls' := [_, _]) rfl (pc' := 8) rfl ?_
  cases hps : psF (mtx M) (mL M) 80 0 with
  | inr q =>
    have hq := psF_le hI.2.2.1.2.1 (by decide) hps
    show Z _ _ _ _ _ [_, some (.int (nI q))] _ _
    refine Z_iload_n dX11_coast_8 rfl (pc' := 9) rfl ?_
    refine Z_if_ge dX11_coast_9 (tgt := 19) rfl (pc' := 12) rfl (fun c_9 => ?_) (fun c_9 => absurd c_9 (fun c => c (i_le (nI_neg (by omega)))))
    refine Z_sipush dX11_coast_19 (v := (-1000)) (by decide) (pc' := 22) rfl ?_
    refine Z_iload_n dX11_coast_22 rfl (pc' := 23) rfl ?_
    refine Z_isub dX11_coast_23 (pc' := 24) rfl ?_
    refine Z_istore_n dX11_coast_24 (Nat.le_of_ble_eq_true rfl) (Nat.le_of_ble_eq_true rfl) rfl (ls' := [_, _, _]) rfl (pc' := 25) rfl ?_
    refine Z_aload_n dX11_coast_25 rfl (z_isref _) (pc' := 26) rfl ?_
    refine Z_gR dX11_coast_26 rfl zgr_RX11_32_0 (pc' := 29) rfl ?_
    refine Z_iconst dX11_coast_29 (v := 0) (by decide) (pc' := 30) rfl ?_
    refine Z_pI dX11_coast_30 rfl zpi_RX11_51_21 (pc' := 33) rfl ?_
    refine Z_iload_n dX11_coast_33 rfl (pc' := 34) rfl ?_
    exact Z_ireturn dX11_coast_34 rfl rfl ⟨by unfold spCoast; rw [hps], _, n, rfl, frm.rf.sA _ _ (by decide) (by decide), by unfold spCoast; rw [hps]; exact CI_len hI⟩
  | inl l =>
    have hL0 := psF_pos hps
    show Z _ _ _ _ _ [_, some (.int (-1))] _ _
    refine Z_iload_n dX11_coast_8 rfl (pc' := 9) rfl ?_
    refine Z_if_ge dX11_coast_9 (tgt := 19) rfl (pc' := 12) rfl (fun c_9 => absurd c_9 (by decide)) (fun c_9 => ?_)
    refine Z_aload_n dX11_coast_12 rfl (z_isref _) (pc' := 13) rfl ?_
    refine Z_cVa (kc' := 80) (ks' := 320) (kc := 0) (ks := 0) dX11_coast_13 rfl zcw_X11_readStatements (As := []) (rest := []) rfl ⟨Nat.le_of_ble_eq_true rfl, Nat.le_of_ble_eq_true rfl⟩ (Nat.le_of_ble_eq_true rfl) (zRcv.lay zob_0) ⟨zcw_X11_readStatements.2.2.2.2, Nat.le_of_ble_eq_true rfl⟩ zk_RX11_59 (c_X11_readStatements hI.2.2.1 hI.cv hI.ok (by rw [if_pos hL0]; exact hps)) (pc' := 16) rfl (fun r_13 w_13 h_13 => ?_)
    cases hrd : rdF (mtx M) (mL M) l (mc M) 0 with
    | inr p =>
      rw [hrd] at h_13
      obtain ⟨rfl, S2, n2, rfl, f2⟩ := h_13
      show Z _ _ _ _ _ _ (.int (-2000 - nI p) :: []) _
      refine Z_goto dX11_coast_16 (tgt := 24) rfl ?_
      refine Z_istore_n dX11_coast_24 (Nat.le_of_ble_eq_true rfl) (Nat.le_of_ble_eq_true rfl) rfl (ls' := [_, _, _]) rfl (pc' := 25) rfl ?_
      refine Z_aload_n dX11_coast_25 rfl (z_isref _) (pc' := 26) rfl ?_
      refine Z_gR dX11_coast_26 rfl zgr_RX11_32_0 (pc' := 29) rfl ?_
      refine Z_iconst dX11_coast_29 (v := 0) (by decide) (pc' := 30) rfl ?_
      refine Z_pI dX11_coast_30 rfl zpi_RX11_51_21 (pc' := 33) rfl ?_
      refine Z_iload_n dX11_coast_33 rfl (pc' := 34) rfl ?_
      exact Z_ireturn dX11_coast_34 rfl rfl ⟨by unfold spCoast; rw [hps]; simp only []; rw [hrd], _, n2, rfl, (f2.wd (by decide) (by decide)).sA _ _ (by decide) (by decide), by unfold spCoast; rw [hps]; simp only []; rw [hrd]; exact CI_len (CI_draft hI f2)⟩
    | inl kc =>
      rw [hrd] at h_13
      obtain ⟨k, c⟩ := kc
      obtain ⟨rfl, ok2, S2, n2, rfl, f2, v2⟩ := h_13
      show Z _ _ _ _ _ _ (.int (nI k) :: []) _
      refine Z_goto dX11_coast_16 (tgt := 24) rfl ?_
      refine Z_istore_n dX11_coast_24 (Nat.le_of_ble_eq_true rfl) (Nat.le_of_ble_eq_true rfl) rfl (ls' := [_, _, _]) rfl (pc' := 25) rfl ?_
      refine Z_aload_n dX11_coast_25 rfl (z_isref _) (pc' := 26) rfl ?_
      refine Z_gR dX11_coast_26 rfl zgr_RX11_32_0 (pc' := 29) rfl ?_
      refine Z_iconst dX11_coast_29 (v := 0) (by decide) (pc' := 30) rfl ?_
      refine Z_pI dX11_coast_30 rfl zpi_RX11_51_21 (pc' := 33) rfl ?_
      refine Z_iload_n dX11_coast_33 rfl (pc' := 34) rfl ?_
      exact Z_ireturn dX11_coast_34 rfl rfl ⟨by unfold spCoast; rw [hps]; simp only []; rw [hrd], _, n2, rfl, (f2.wd (by decide) (by decide)).sA _ _ (by decide) (by decide), by unfold spCoast; rw [hps]; simp only []; rw [hrd]; exact CI_len (CI_coast hI f2 v2 ok2)⟩
section ZGS
variable {d : ZD} {kc ks : Nat} {R : Option Value → ZW → Prop} {pc pc' : Nat} {ls : List (Option Value)} {st : List Value} {S : ZS} {n j kd : Nat} {x y z : Int32}
theorem zgs_71 (hd : decode d.2.1 pc = .ok (.getfield 71, 3)) (ho : d.1.cls = RX11) (hkd : kd ≤ 5) (hj : j < n) (hP : S.2.2 j = (zcl kd, [x, y, z])) (hp : pc + 3 = pc') (kk : Z d kc ks R pc' ls (.int x :: st) (zw S n)) : Z d kc ks R pc ls (.ref (48 + j) :: st) (zw S n) := by
  obtain rfl | rfl | rfl | rfl | rfl | rfl : kd = 0 ∨ kd = 1 ∨ kd = 2 ∨ kd = 3 ∨ kd = 4 ∨ kd = 5 := by omega
  · exact Z_gP hd ho zfd_RX11_71_9 hj hP rfl hp kk
  · exact Z_gP hd ho zfd_RX11_71_8 hj hP rfl hp kk
  · exact Z_gP hd ho zfd_RX11_71_5 hj hP rfl hp kk
  · exact Z_gP hd ho zfd_RX11_71_1 hj hP rfl hp kk
  · exact Z_gP hd ho zfd_RX11_71_4 hj hP rfl hp kk
  · exact Z_gP hd ho zfd_RX11_71_10 hj hP rfl hp kk
theorem zgs_77 (hd : decode d.2.1 pc = .ok (.getfield 77, 3)) (ho : d.1.cls = RX11) (hkd : kd ≤ 5) (hj : j < n) (hP : S.2.2 j = (zcl kd, [x, y, z])) (hp : pc + 3 = pc') (kk : Z d kc ks R pc' ls (.int y :: st) (zw S n)) : Z d kc ks R pc ls (.ref (48 + j) :: st) (zw S n) := by
  obtain rfl | rfl | rfl | rfl | rfl | rfl : kd = 0 ∨ kd = 1 ∨ kd = 2 ∨ kd = 3 ∨ kd = 4 ∨ kd = 5 := by omega
  · exact Z_gP hd ho zfd_RX11_77_9 hj hP rfl hp kk
  · exact Z_gP hd ho zfd_RX11_77_8 hj hP rfl hp kk
  · exact Z_gP hd ho zfd_RX11_77_5 hj hP rfl hp kk
  · exact Z_gP hd ho zfd_RX11_77_1 hj hP rfl hp kk
  · exact Z_gP hd ho zfd_RX11_77_4 hj hP rfl hp kk
  · exact Z_gP hd ho zfd_RX11_77_10 hj hP rfl hp kk
theorem zgs_74 (hd : decode d.2.1 pc = .ok (.getfield 74, 3)) (ho : d.1.cls = RX11) (hkd : kd ≤ 5) (hj : j < n) (hP : S.2.2 j = (zcl kd, [x, y, z])) (hp : pc + 3 = pc') (kk : Z d kc ks R pc' ls (.int z :: st) (zw S n)) : Z d kc ks R pc ls (.ref (48 + j) :: st) (zw S n) := by
  obtain rfl | rfl | rfl | rfl | rfl | rfl : kd = 0 ∨ kd = 1 ∨ kd = 2 ∨ kd = 3 ∨ kd = 4 ∨ kd = 5 := by omega
  · exact Z_gP hd ho zfd_RX11_74_9 hj hP rfl hp kk
  · exact Z_gP hd ho zfd_RX11_74_8 hj hP rfl hp kk
  · exact Z_gP hd ho zfd_RX11_74_5 hj hP rfl hp kk
  · exact Z_gP hd ho zfd_RX11_74_1 hj hP rfl hp kk
  · exact Z_gP hd ho zfd_RX11_74_4 hj hP rfl hp kk
  · exact Z_gP hd ho zfd_RX11_74_10 hj hP rfl hp kk
end ZGS
set_option maxRecDepth 100000 in
set_option maxHeartbeats 4000000 in
theorem c_X11_stretch {S : ZS} {n : Nat} {M : Ms} (hI : CI S n M) {s x : Int32} : zM m_X11_stretch 0 0 [.ref 0, .int s, .int x] (zw S n) (pR S n (spStretch M s x)) := by
  show Z m_X11_stretch _ _ _ 0 [some (.ref _), some (.int _), some (.int _)] [] _
  refine Z_aload_n dX11_stretch_0 rfl (z_isref _) (pc' := 1) rfl ?_
  refine Z_gR dX11_stretch_1 rfl zgr_RX11_10_0 (pc' := 4) rfl ?_
  refine Z_iload_n dX11_stretch_4 rfl (pc' := 5) rfl ?_
  refine Z_cVe dX11_stretch_5 rfl zcw_X2_stretchAt (As := [_]) (rest := []) rfl ⟨Nat.le_of_ble_eq_true rfl, Nat.le_of_ble_eq_true rfl⟩ (Nat.le_of_ble_eq_true rfl) (zRcv.lay zob_1) ⟨zcw_X2_stretchAt.2.2.2.2, Nat.le_of_ble_eq_true rfl⟩ zk_RX11_62 (c_X2_stretchAt (b := 1) (Or.inl rfl)) (pc' := 8) rfl ?_
  rcases k_stretch hI s with ⟨k, hlt, rfl, e1, j, hj, hP, e⟩ | ⟨e1, e⟩
  · rw [e]
    show Z _ _ _ _ _ _ (.ref (48 + j) :: _) _
    refine Z_astore_n dX11_stretch_8 (Nat.le_of_ble_eq_true rfl) (Nat.le_of_ble_eq_true rfl) rfl (ls' := [_, _, _, _]) rfl (z_isref _) (pc' := 9) rfl ?_
    refine Z_aload_n dX11_stretch_9 rfl (z_isref _) (pc' := 10) rfl ?_
    refine Z_ifnonnullR dX11_stretch_10 (tgt := 19) rfl (pc' := 13) rfl ?_
    obtain ⟨hkd, hfg, hfs, hl1, hl9, hfl⟩ := hI.ok.2.2.2.2.1 _ hlt
    refine Z_iload_n dX11_stretch_19 rfl (pc' := 20) rfl ?_
    refine Z_topi (fun x_20 e_20 => ?_)
    by_cases k_20_0 : x_20 = 0
    · subst k_20_0
      subst e_20
      refine Z_tableIn dX11_stretch_20 (by decide) (by decide) (off := 40) rfl (tgt := 60) rfl ?_
      refine Z_aload_n dX11_stretch_60 rfl (z_isref _) (pc' := 61) rfl ?_
      refine zv_RX11_66  dX11_stretch_61 rfl ⟨Nat.le_of_ble_eq_true rfl, Nat.le_of_ble_eq_true rfl⟩ ⟨Nat.le_of_ble_eq_true rfl, Nat.le_of_ble_eq_true rfl⟩ ⟨Nat.le_of_ble_eq_true rfl, Nat.le_of_ble_eq_true rfl⟩ ⟨Nat.le_of_ble_eq_true rfl, Nat.le_of_ble_eq_true rfl⟩ ⟨Nat.le_of_ble_eq_true rfl, Nat.le_of_ble_eq_true rfl⟩ ⟨Nat.le_of_ble_eq_true rfl, Nat.le_of_ble_eq_true rfl⟩ (Nat.le_of_ble_eq_true rfl) hkd (by omega) hj hP (pc' := 64) rfl ?_
      exact Z_ireturn dX11_stretch_64 rfl rfl (pR.st hI (by unfold spStretch; rw [e1]; rfl))
    by_cases k_20_1 : x_20 = 1
    · subst k_20_1
      subst e_20
      refine Z_tableIn dX11_stretch_20 (by decide) (by decide) (off := 45) rfl (tgt := 65) rfl ?_
      refine Z_aload_n dX11_stretch_65 rfl (z_isref _) (pc' := 66) rfl ?_
      refine zgs_71 dX11_stretch_66 rfl hkd hj hP (pc' := 69) rfl ?_
      exact Z_ireturn dX11_stretch_69 rfl rfl (pR.st hI (by unfold spStretch; rw [e1]; rfl))
    by_cases k_20_2 : x_20 = 2
    · subst k_20_2
      subst e_20
      refine Z_tableIn dX11_stretch_20 (by decide) (by decide) (off := 50) rfl (tgt := 70) rfl ?_
      refine Z_aload_n dX11_stretch_70 rfl (z_isref _) (pc' := 71) rfl ?_
      refine zgs_74 dX11_stretch_71 rfl hkd hj hP (pc' := 74) rfl ?_
      exact Z_ireturn dX11_stretch_74 rfl rfl (pR.st hI (by unfold spStretch; rw [e1]; rfl))
    by_cases k_20_3 : x_20 = 3
    · subst k_20_3
      subst e_20
      refine Z_tableIn dX11_stretch_20 (by decide) (by decide) (off := 55) rfl (tgt := 75) rfl ?_
      refine Z_aload_n dX11_stretch_75 rfl (z_isref _) (pc' := 76) rfl ?_
      refine zgs_77 dX11_stretch_76 rfl hkd hj hP (pc' := 79) rfl ?_
      exact Z_ireturn dX11_stretch_79 rfl rfl (pR.st hI (by unfold spStretch; rw [e1]; rfl))
    by_cases k_20_4 : x_20 = 4
    · subst k_20_4
      subst e_20
      refine Z_tableIn dX11_stretch_20 (by decide) (by decide) (off := 60) rfl (tgt := 80) rfl ?_
      refine Z_aload_n dX11_stretch_80 rfl (z_isref _) (pc' := 81) rfl ?_
      refine Z_aload_n dX11_stretch_81 rfl (z_isref _) (pc' := 82) rfl ?_
      refine Z_gR dX11_stretch_82 rfl zgr_RX11_10_0 (pc' := 85) rfl ?_
      refine Z_gI dX11_stretch_85 rfl zgi_RX11_80_1 (pc' := 88) rfl ?_
      rw [hI.cv.td]
      refine zv_RX11_83 (ht := by have := hI.ok.2.2.2.1; omega) dX11_stretch_88 rfl ⟨Nat.le_of_ble_eq_true rfl, Nat.le_of_ble_eq_true rfl⟩ ⟨Nat.le_of_ble_eq_true rfl, Nat.le_of_ble_eq_true rfl⟩ ⟨Nat.le_of_ble_eq_true rfl, Nat.le_of_ble_eq_true rfl⟩ ⟨Nat.le_of_ble_eq_true rfl, Nat.le_of_ble_eq_true rfl⟩ ⟨Nat.le_of_ble_eq_true rfl, Nat.le_of_ble_eq_true rfl⟩ (Nat.le_of_ble_eq_true rfl) hkd (by omega) hj hP (pc' := 91) rfl ?_
      refine Z_if_eq dX11_stretch_91 (tgt := 98) rfl (pc' := 94) rfl (fun c_91 => ?_) (fun c_91 => ?_)
      · refine Z_iconst dX11_stretch_98 (v := 0) (by decide) (pc' := 99) rfl ?_
        exact Z_ireturn dX11_stretch_99 rfl rfl (pR.st hI (by unfold spStretch; rw [e1]; show (zb (dryN _ _ _), M) = _; rw [(zb_eq0 _).mp c_91]; rfl))
      · refine Z_iconst dX11_stretch_94 (v := 1) (by decide) (pc' := 95) rfl ?_
        refine Z_goto dX11_stretch_95 (tgt := 99) rfl ?_
        exact Z_ireturn dX11_stretch_99 rfl rfl (pR.st hI (by unfold spStretch; rw [e1]; show (zb (dryN _ _ _), M) = _; rw [(zb_ne0 _).mp c_91]; rfl))
    by_cases k_20_5 : x_20 = 5
    · subst k_20_5
      subst e_20
      refine Z_tableIn dX11_stretch_20 (by decide) (by decide) (off := 80) rfl (tgt := 100) rfl ?_
      refine Z_aload_n dX11_stretch_100 rfl (z_isref _) (pc' := 101) rfl ?_
      refine zv_RX11_86  dX11_stretch_101 rfl ⟨Nat.le_of_ble_eq_true rfl, Nat.le_of_ble_eq_true rfl⟩ ⟨Nat.le_of_ble_eq_true rfl, Nat.le_of_ble_eq_true rfl⟩ ⟨Nat.le_of_ble_eq_true rfl, Nat.le_of_ble_eq_true rfl⟩ ⟨Nat.le_of_ble_eq_true rfl, Nat.le_of_ble_eq_true rfl⟩ ⟨Nat.le_of_ble_eq_true rfl, Nat.le_of_ble_eq_true rfl⟩ ⟨Nat.le_of_ble_eq_true rfl, Nat.le_of_ble_eq_true rfl⟩ (Nat.le_of_ble_eq_true rfl) hkd (by omega) hj hP (pc' := 104) rfl ?_
      exact Z_ireturn dX11_stretch_104 rfl rfl (pR.st hI (by unfold spStretch; rw [e1]; rfl))
    refine Z_tableOut dX11_stretch_20 (by have h0 := i32_nev k_20_0 (v := 0) (by decide); have h1 := i32_nev k_20_1 (v := 1) (by decide); have h2 := i32_nev k_20_2 (v := 2) (by decide); have h3 := i32_nev k_20_3 (v := 3) (by decide); have h4 := i32_nev k_20_4 (v := 4) (by decide); have h5 := i32_nev k_20_5 (v := 5) (by decide); omega) (tgt := 105) rfl ?_
    subst e_20
    refine Z_aload_n dX11_stretch_105 rfl (z_isref _) (pc' := 106) rfl ?_
    refine Z_bipush dX11_stretch_106 (v := (-2)) (by decide) (pc' := 108) rfl ?_
    refine Z_cVe dX11_stretch_108 rfl zcw_X11_refuse (As := [_]) (rest := []) rfl ⟨Nat.le_of_ble_eq_true rfl, Nat.le_of_ble_eq_true rfl⟩ (Nat.le_of_ble_eq_true rfl) (zRcv.lay zob_0) ⟨zcw_X11_refuse.2.2.2.2, Nat.le_of_ble_eq_true rfl⟩ zk_RX11_43 (c_X11_refuse (k := 2) (by decide) (by decide)) (pc' := 111) rfl ?_
    exact Z_ireturn dX11_stretch_111 rfl rfl (pR.no hI (by decide) (by unfold spStretch; rw [e1]; simp only []; rw [if_neg k_20_0, if_neg k_20_1, if_neg k_20_2, if_neg k_20_3, if_neg k_20_4, if_neg k_20_5]))
  · rw [e]
    show Z _ _ _ _ _ _ (.null :: _) _
    refine Z_astore_n dX11_stretch_8 (Nat.le_of_ble_eq_true rfl) (Nat.le_of_ble_eq_true rfl) rfl (ls' := [_, _, _, _]) rfl (Or.inl rfl) (pc' := 9) rfl ?_
    refine Z_aload_n dX11_stretch_9 rfl (Or.inl rfl) (pc' := 10) rfl ?_
    refine Z_ifnonnullN dX11_stretch_10 (tgt := 19) rfl (pc' := 13) rfl ?_
    refine Z_aload_n dX11_stretch_13 rfl (z_isref _) (pc' := 14) rfl ?_
    refine Z_iconst dX11_stretch_14 (v := (-1)) (by decide) (pc' := 15) rfl ?_
    refine Z_cVe dX11_stretch_15 rfl zcw_X11_refuse (As := [_]) (rest := []) rfl ⟨Nat.le_of_ble_eq_true rfl, Nat.le_of_ble_eq_true rfl⟩ (Nat.le_of_ble_eq_true rfl) (zRcv.lay zob_0) ⟨zcw_X11_refuse.2.2.2.2, Nat.le_of_ble_eq_true rfl⟩ zk_RX11_43 (c_X11_refuse (k := 1) (by decide) (by decide)) (pc' := 18) rfl ?_
    exact Z_ireturn dX11_stretch_18 rfl rfl (pR.no hI (by decide) (by unfold spStretch; rw [e1]))
set_option maxRecDepth 100000 in
set_option maxHeartbeats 4000000 in
theorem c_X11_point {S : ZS} {n : Nat} {M : Ms} (hI : CI S n M) {p x : Int32} : zM m_X11_point 0 0 [.ref 0, .int p, .int x] (zw S n) (pR S n (spPoint M p x)) := by
  show Z m_X11_point _ _ _ 0 [some (.ref _), some (.int _), some (.int _)] [] _
  refine Z_aload_n dX11_point_0 rfl (z_isref _) (pc' := 1) rfl ?_
  refine Z_gR dX11_point_1 rfl zgr_RX11_10_0 (pc' := 4) rfl ?_
  refine Z_iload_n dX11_point_4 rfl (pc' := 5) rfl ?_
  refine Z_cVe dX11_point_5 rfl zcw_X2_hasPlace (As := [_]) (rest := []) rfl ⟨Nat.le_of_ble_eq_true rfl, Nat.le_of_ble_eq_true rfl⟩ (Nat.le_of_ble_eq_true rfl) (zRcv.lay zob_1) ⟨zcw_X2_hasPlace.2.2.2.2, Nat.le_of_ble_eq_true rfl⟩ zk_RX11_89 (c_X2_hasPlace (b := 1) (Or.inl rfl)) (pc' := 8) rfl ?_
  have hny := hI.ok.2.1
  rcases idx_cases p (N := cny (mc M) + 1) (by omega) with ⟨k, hk, rfl, e1⟩ | ⟨h, e1⟩
  · rw [hI.cv.yd, hpI_some (by omega) hk]
    refine Z_if_ne dX11_point_8 (tgt := 20) rfl (pc' := 11) rfl (fun c_8 => ?_) (fun c_8 => absurd c_8 (by decide))
    refine Z_iload_n dX11_point_20 rfl (pc' := 21) rfl ?_
    refine Z_topi (fun x_21 e_21 => ?_)
    by_cases k_21_0 : x_21 = 0
    · subst k_21_0
      subst e_21
      refine Z_lookup dX11_point_21 (by decide) (off := 27) (by decide) (tgt := 48) rfl ?_
      refine Z_aload_n dX11_point_48 rfl (z_isref _) (pc' := 49) rfl ?_
      refine Z_gR dX11_point_49 rfl zgr_RX11_10_0 (pc' := 52) rfl ?_
      refine Z_iload_n dX11_point_52 rfl (pc' := 53) rfl ?_
      refine Z_cVe dX11_point_53 rfl zcw_X2_xAt (As := [_]) (rest := []) rfl ⟨Nat.le_of_ble_eq_true rfl, Nat.le_of_ble_eq_true rfl⟩ (Nat.le_of_ble_eq_true rfl) (zRcv.lay zob_1) ⟨zcw_X2_xAt.2.2.2.2, Nat.le_of_ble_eq_true rfl⟩ zk_RX11_93 (c_X2_xAt (b := 1) (Or.inl rfl)) (pc' := 56) rfl ?_
      rw [hI.cv.x hI.ok (by omega)]
      exact Z_ireturn dX11_point_56 rfl rfl (pR.st hI (by unfold spPoint; rw [e1]; rfl))
    by_cases k_21_1 : x_21 = 1
    · subst k_21_1
      subst e_21
      refine Z_lookup dX11_point_21 (by decide) (off := 36) (by decide) (tgt := 57) rfl ?_
      refine Z_aload_n dX11_point_57 rfl (z_isref _) (pc' := 58) rfl ?_
      refine Z_gR dX11_point_58 rfl zgr_RX11_10_0 (pc' := 61) rfl ?_
      refine Z_iload_n dX11_point_61 rfl (pc' := 62) rfl ?_
      refine Z_cVe dX11_point_62 rfl zcw_X2_yAt (As := [_]) (rest := []) rfl ⟨Nat.le_of_ble_eq_true rfl, Nat.le_of_ble_eq_true rfl⟩ (Nat.le_of_ble_eq_true rfl) (zRcv.lay zob_1) ⟨zcw_X2_yAt.2.2.2.2, Nat.le_of_ble_eq_true rfl⟩ zk_RX11_96 (c_X2_yAt (b := 1) (Or.inl rfl)) (pc' := 65) rfl ?_
      rw [hI.cv.y hI.ok (by omega)]
      exact Z_ireturn dX11_point_65 rfl rfl (pR.st hI (by unfold spPoint; rw [e1]; rfl))
    refine Z_lookup dX11_point_21 (by decide) (off := 45) (by simp [Op.lookupswitch.offset, i32_nev k_21_0 (v := 0) (by decide), i32_nev k_21_1 (v := 1) (by decide)]) (tgt := 66) rfl ?_
    subst e_21
    refine Z_ldc dX11_point_66 rfl zw_450 (pc' := 68) rfl ?_
    refine Z_aload_n dX11_point_68 rfl (z_isref _) (pc' := 69) rfl ?_
    refine Z_bipush dX11_point_69 (v := (-2)) (by decide) (pc' := 71) rfl ?_
    refine Z_cVe dX11_point_71 rfl zcw_X11_refuse (As := [_]) (rest := [_]) rfl ⟨Nat.le_of_ble_eq_true rfl, Nat.le_of_ble_eq_true rfl⟩ (Nat.le_of_ble_eq_true rfl) (zRcv.lay zob_0) ⟨zcw_X11_refuse.2.2.2.2, Nat.le_of_ble_eq_true rfl⟩ zk_RX11_43 (c_X11_refuse (k := 2) (by decide) (by decide)) (pc' := 74) rfl ?_
    refine Z_isub dX11_point_74 (pc' := 75) rfl ?_
    exact Z_ireturn dX11_point_75 rfl rfl ⟨by unfold spPoint; rw [e1]; simp only []; rw [if_neg k_21_0, if_neg k_21_1]; rfl, _, n, rfl, frm.rf.sA _ _ (by decide) (by decide), by unfold spPoint; rw [e1]; simp only []; rw [if_neg k_21_0, if_neg k_21_1]; exact CI_no hI (by decide) 0⟩
  · rw [hI.cv.yd, hpI_none (by omega) h]
    refine Z_if_ne dX11_point_8 (tgt := 20) rfl (pc' := 11) rfl (fun c_8 => absurd c_8 (fun c => c rfl)) (fun c_8 => ?_)
    refine Z_ldc dX11_point_11 rfl zw_450 (pc' := 13) rfl ?_
    refine Z_aload_n dX11_point_13 rfl (z_isref _) (pc' := 14) rfl ?_
    refine Z_iconst dX11_point_14 (v := (-1)) (by decide) (pc' := 15) rfl ?_
    refine Z_cVe dX11_point_15 rfl zcw_X11_refuse (As := [_]) (rest := [_]) rfl ⟨Nat.le_of_ble_eq_true rfl, Nat.le_of_ble_eq_true rfl⟩ (Nat.le_of_ble_eq_true rfl) (zRcv.lay zob_0) ⟨zcw_X11_refuse.2.2.2.2, Nat.le_of_ble_eq_true rfl⟩ zk_RX11_43 (c_X11_refuse (k := 1) (by decide) (by decide)) (pc' := 18) rfl ?_
    refine Z_isub dX11_point_18 (pc' := 19) rfl ?_
    exact Z_ireturn dX11_point_19 rfl rfl ⟨by unfold spPoint; rw [e1]; rfl, _, n, rfl, frm.rf.sA _ _ (by decide) (by decide), by unfold spPoint; rw [e1]; exact CI_no hI (by decide) 0⟩
set_option maxRecDepth 100000 in
set_option maxHeartbeats 4000000 in
theorem c_X11_shore {S : ZS} {n : Nat} {M : Ms} (hI : CI S n M) {p : Int32} : zM m_X11_shore 0 0 [.ref 0, .int p] (zw S n) (pR S n (spShore M p)) := by
  show Z m_X11_shore _ _ _ 0 [some (.ref _), some (.int _)] [] _
  refine Z_aload_n dX11_shore_0 rfl (z_isref _) (pc' := 1) rfl ?_
  refine Z_gR dX11_shore_1 rfl zgr_RX11_10_0 (pc' := 4) rfl ?_
  refine Z_iload_n dX11_shore_4 rfl (pc' := 5) rfl ?_
  refine Z_cVe dX11_shore_5 rfl zcw_X2_hasPlace (As := [_]) (rest := []) rfl ⟨Nat.le_of_ble_eq_true rfl, Nat.le_of_ble_eq_true rfl⟩ (Nat.le_of_ble_eq_true rfl) (zRcv.lay zob_1) ⟨zcw_X2_hasPlace.2.2.2.2, Nat.le_of_ble_eq_true rfl⟩ zk_RX11_89 (c_X2_hasPlace (b := 1) (Or.inl rfl)) (pc' := 8) rfl ?_
  have hny := hI.ok.2.1
  rcases idx_cases p (N := cny (mc M) + 1) (by omega) with ⟨k, hk, rfl, e1⟩ | ⟨h, e1⟩
  · rw [hI.cv.yd, hpI_some (by omega) hk]
    refine Z_if_ne dX11_shore_8 (tgt := 17) rfl (pc' := 11) rfl (fun c_8 => ?_) (fun c_8 => absurd c_8 (by decide))
    refine Z_aload_n dX11_shore_17 rfl (z_isref _) (pc' := 18) rfl ?_
    refine Z_gR dX11_shore_18 rfl zgr_RX11_10_0 (pc' := 21) rfl ?_
    refine Z_cVe dX11_shore_21 rfl zcw_X2_shoreNow (As := []) (rest := []) rfl ⟨Nat.le_of_ble_eq_true rfl, Nat.le_of_ble_eq_true rfl⟩ (Nat.le_of_ble_eq_true rfl) (zRcv.lay zob_1) ⟨zcw_X2_shoreNow.2.2.2.2, Nat.le_of_ble_eq_true rfl⟩ zk_RX11_99 (k_shoreNow hI) (pc' := 24) rfl ?_
    refine Z_iload_n dX11_shore_24 rfl (pc' := 25) rfl ?_
    refine Z_cSe dX11_shore_25 rfl zcw_X11_holds (As := [_, _]) (rest := []) rfl ⟨Nat.le_of_ble_eq_true rfl, Nat.le_of_ble_eq_true rfl⟩ (Nat.le_of_ble_eq_true rfl) ⟨zcw_X11_holds.2.2.2.2, Nat.le_of_ble_eq_true rfl⟩ zk_RX11_103 c_X11_holds (pc' := 28) rfl ?_
    rw [hI_nat _ (by omega)]
    refine Z_if_eq dX11_shore_28 (tgt := 35) rfl (pc' := 31) rfl (fun c_28 => ?_) (fun c_28 => ?_)
    · refine Z_iconst dX11_shore_35 (v := 0) (by decide) (pc' := 36) rfl ?_
      exact Z_ireturn dX11_shore_36 rfl rfl (pR.st hI (by unfold spShore; rw [e1]; show (zb (mcf M k), M) = _; rw [(zb_eq0 _).mp c_28]; rfl))
    · refine Z_iconst dX11_shore_31 (v := 1) (by decide) (pc' := 32) rfl ?_
      refine Z_goto dX11_shore_32 (tgt := 36) rfl ?_
      exact Z_ireturn dX11_shore_36 rfl rfl (pR.st hI (by unfold spShore; rw [e1]; show (zb (mcf M k), M) = _; rw [(zb_ne0 _).mp c_28]; rfl))
  · rw [hI.cv.yd, hpI_none (by omega) h]
    refine Z_if_ne dX11_shore_8 (tgt := 17) rfl (pc' := 11) rfl (fun c_8 => absurd c_8 (fun c => c rfl)) (fun c_8 => ?_)
    refine Z_aload_n dX11_shore_11 rfl (z_isref _) (pc' := 12) rfl ?_
    refine Z_iconst dX11_shore_12 (v := (-1)) (by decide) (pc' := 13) rfl ?_
    refine Z_cVe dX11_shore_13 rfl zcw_X11_refuse (As := [_]) (rest := []) rfl ⟨Nat.le_of_ble_eq_true rfl, Nat.le_of_ble_eq_true rfl⟩ (Nat.le_of_ble_eq_true rfl) (zRcv.lay zob_0) ⟨zcw_X11_refuse.2.2.2.2, Nat.le_of_ble_eq_true rfl⟩ zk_RX11_43 (c_X11_refuse (k := 1) (by decide) (by decide)) (pc' := 16) rfl ?_
    exact Z_ireturn dX11_shore_16 rfl rfl (pR.no hI (by decide) (by unfold spShore; rw [e1]))
theorem CI_td {S : ZS} {n : Nat} {M : Ms} (hI : CI S n M) {t : Nat} (ht : t ≤ 9) : CI (sA S 1 6 (nI t)) n (wC M (setTd (mc M) t)) :=
  CI_coast hI (frm.rf.sA _ _ (by decide) (by decide)) (cV_td hI.cv) (Cok_td hI.ok ht)
set_option maxRecDepth 100000 in
set_option maxHeartbeats 4000000 in
theorem c_X11_tide {S : ZS} {n : Nat} {M : Ms} (hI : CI S n M) {v : Int32} : zM m_X11_tide 0 0 [.ref 0, .int v] (zw S n) (pR S n (spTide M v)) := by
  show Z m_X11_tide _ _ _ 0 [some (.ref _), some (.int _)] [] _
  refine Z_iload_n dX11_tide_0 rfl (pc' := 1) rfl ?_
  refine Z_if_ge dX11_tide_1 (tgt := 11) rfl (pc' := 4) rfl (fun c_1 => ?_) (fun c_1 => ?_)
  · refine Z_iload_n dX11_tide_11 rfl (pc' := 12) rfl ?_
    refine Z_bipush dX11_tide_12 (v := 9) (by decide) (pc' := 14) rfl ?_
    refine Z_icmp_le dX11_tide_14 (tgt := 24) rfl (pc' := 17) rfl (fun c_14 => ?_) (fun c_14 => ?_)
    · have c14 := c_14
      obtain ⟨t, ht, rfl⟩ := i_rng (a := v) (m := 9) (by decide) (i_nlt c_1) (i_nlt c_14)
      refine Z_aload_n dX11_tide_24 rfl (z_isref _) (pc' := 25) rfl ?_
      refine Z_gR dX11_tide_25 rfl zgr_RX11_10_0 (pc' := 28) rfl ?_
      refine Z_gI dX11_tide_28 rfl zgi_RX11_80_1 (pc' := 31) rfl ?_
      rw [hI.cv.td]
      refine Z_istore_n dX11_tide_31 (Nat.le_of_ble_eq_true rfl) (Nat.le_of_ble_eq_true rfl) rfl (ls' := [_, _, _]) rfl (pc' := 32) rfl ?_
      refine Z_aload_n dX11_tide_32 rfl (z_isref _) (pc' := 33) rfl ?_
      refine Z_gR dX11_tide_33 rfl zgr_RX11_10_0 (pc' := 36) rfl ?_
      refine Z_iload_n dX11_tide_36 rfl (pc' := 37) rfl ?_
      refine Z_pI dX11_tide_37 rfl zpi_RX11_80_1 (pc' := 40) rfl ?_
      refine Z_iload_n dX11_tide_40 rfl (pc' := 41) rfl ?_
      exact Z_ireturn dX11_tide_41 rfl rfl ⟨by unfold spTide; rw [if_neg (i_nlt c_1), if_neg (i_nlt c14)], _, n, rfl, frm.rf.sA _ _ (by decide) (by decide), by unfold spTide; rw [if_neg (i_nlt c_1), if_neg (i_nlt c14), nI_nat (by omega)]; exact CI_td hI ht⟩
    · refine Z_aload_n dX11_tide_17 rfl (z_isref _) (pc' := 18) rfl ?_
      refine Z_bipush dX11_tide_18 (v := (-6)) (by decide) (pc' := 20) rfl ?_
      refine Z_cVe dX11_tide_20 rfl zcw_X11_refuse (As := [_]) (rest := []) rfl ⟨Nat.le_of_ble_eq_true rfl, Nat.le_of_ble_eq_true rfl⟩ (Nat.le_of_ble_eq_true rfl) (zRcv.lay zob_0) ⟨zcw_X11_refuse.2.2.2.2, Nat.le_of_ble_eq_true rfl⟩ zk_RX11_43 (c_X11_refuse (k := 6) (by decide) (by decide)) (pc' := 23) rfl ?_
      exact Z_ireturn dX11_tide_23 rfl rfl (pR.no hI (by decide) (by unfold spTide; rw [if_neg (i_nlt c_1), if_pos (i_lt c_14)]))
  · refine Z_aload_n dX11_tide_4 rfl (z_isref _) (pc' := 5) rfl ?_
    refine Z_bipush dX11_tide_5 (v := (-4)) (by decide) (pc' := 7) rfl ?_
    refine Z_cVe dX11_tide_7 rfl zcw_X11_refuse (As := [_]) (rest := []) rfl ⟨Nat.le_of_ble_eq_true rfl, Nat.le_of_ble_eq_true rfl⟩ (Nat.le_of_ble_eq_true rfl) (zRcv.lay zob_0) ⟨zcw_X11_refuse.2.2.2.2, Nat.le_of_ble_eq_true rfl⟩ zk_RX11_43 (c_X11_refuse (k := 4) (by decide) (by decide)) (pc' := 10) rfl ?_
    exact Z_ireturn dX11_tide_10 rfl rfl (pR.no hI (by decide) (by unfold spTide; rw [if_pos (i_lt c_1)]))
theorem isl_at {c : Co} {k : Nat} (h : k < cnr c) (t : Nat) : islB c t k = (decide (clw c k ≤ t) && decide (t ≤ chg c k)) := by
  unfold islB
  rw [decide_eq_true h, Bool.true_and]
set_option maxRecDepth 100000 in
set_option maxHeartbeats 4000000 in
theorem c_X11_rock {S : ZS} {n : Nat} {M : Ms} (hI : CI S n M) {s x : Int32} : zM m_X11_rock 0 0 [.ref 0, .int s, .int x] (zw S n) (pR S n (spRock M s x)) := by
  show Z m_X11_rock _ _ _ 0 [some (.ref _), some (.int _), some (.int _)] [] _
  refine Z_aload_n dX11_rock_0 rfl (z_isref _) (pc' := 1) rfl ?_
  refine Z_gR dX11_rock_1 rfl zgr_RX11_10_0 (pc' := 4) rfl ?_
  refine Z_gR dX11_rock_4 rfl zgr_RX11_156_1 (pc' := 7) rfl ?_
  refine Z_iload_n dX11_rock_7 rfl (pc' := 8) rfl ?_
  refine Z_cVe dX11_rock_8 rfl zcw_X7_rockAt (As := [_]) (rest := []) rfl ⟨Nat.le_of_ble_eq_true rfl, Nat.le_of_ble_eq_true rfl⟩ (Nat.le_of_ble_eq_true rfl) (zRcv.lay zob_5) ⟨zcw_X7_rockAt.2.2.2.2, Nat.le_of_ble_eq_true rfl⟩ zk_RX11_160 (c_X7_rockAt (q := 5) (Or.inl rfl)) (pc' := 11) rfl ?_
  rcases k_rock hI s with ⟨k, hlt, rfl, e1, j, hj, hP, e⟩ | ⟨e1, e⟩
  · rw [e]
    show Z _ _ _ _ _ _ (.ref (48 + j) :: _) _
    refine Z_astore_n dX11_rock_11 (Nat.le_of_ble_eq_true rfl) (Nat.le_of_ble_eq_true rfl) rfl (ls' := [_, _, _, _]) rfl (z_isref _) (pc' := 12) rfl ?_
    refine Z_aload_n dX11_rock_12 rfl (z_isref _) (pc' := 13) rfl ?_
    refine Z_ifnonnullR dX11_rock_13 (tgt := 22) rfl (pc' := 16) rfl ?_
    obtain ⟨hrx, hry, hlh, hh9⟩ := hI.ok.2.2.2.2.2.2.2 _ hlt
    refine Z_iload_n dX11_rock_22 rfl (pc' := 23) rfl ?_
    refine Z_topi (fun x_23 e_23 => ?_)
    by_cases k_23_0 : x_23 = 0
    · subst k_23_0
      subst e_23
      refine Z_tableIn dX11_rock_23 (by decide) (by decide) (off := 33) rfl (tgt := 56) rfl ?_
      refine Z_aload_n dX11_rock_56 rfl (z_isref _) (pc' := 57) rfl ?_
      refine Z_gPN dX11_rock_57 rfl zfd_RX11_166_6 hj hP rfl (pc' := 60) rfl ?_
      exact Z_ireturn dX11_rock_60 rfl rfl (pR.st hI (by unfold spRock; rw [e1]; rfl))
    by_cases k_23_1 : x_23 = 1
    · subst k_23_1
      subst e_23
      refine Z_tableIn dX11_rock_23 (by decide) (by decide) (off := 38) rfl (tgt := 61) rfl ?_
      refine Z_aload_n dX11_rock_61 rfl (z_isref _) (pc' := 62) rfl ?_
      refine Z_gPN dX11_rock_62 rfl zfd_RX11_171_6 hj hP rfl (pc' := 65) rfl ?_
      exact Z_ireturn dX11_rock_65 rfl rfl (pR.st hI (by unfold spRock; rw [e1]; rfl))
    by_cases k_23_2 : x_23 = 2
    · subst k_23_2
      subst e_23
      refine Z_tableIn dX11_rock_23 (by decide) (by decide) (off := 43) rfl (tgt := 66) rfl ?_
      refine Z_aload_n dX11_rock_66 rfl (z_isref _) (pc' := 67) rfl ?_
      refine Z_gPN dX11_rock_67 rfl zfd_RX11_174_6 hj hP rfl (pc' := 70) rfl ?_
      exact Z_ireturn dX11_rock_70 rfl rfl (pR.st hI (by unfold spRock; rw [e1]; rfl))
    by_cases k_23_3 : x_23 = 3
    · subst k_23_3
      subst e_23
      refine Z_tableIn dX11_rock_23 (by decide) (by decide) (off := 48) rfl (tgt := 71) rfl ?_
      refine Z_aload_n dX11_rock_71 rfl (z_isref _) (pc' := 72) rfl ?_
      refine Z_gPN dX11_rock_72 rfl zfd_RX11_177_6 hj hP rfl (pc' := 75) rfl ?_
      exact Z_ireturn dX11_rock_75 rfl rfl (pR.st hI (by unfold spRock; rw [e1]; rfl))
    by_cases k_23_4 : x_23 = 4
    · subst k_23_4
      subst e_23
      refine Z_tableIn dX11_rock_23 (by decide) (by decide) (off := 53) rfl (tgt := 76) rfl ?_
      refine Z_aload_n dX11_rock_76 rfl (z_isref _) (pc' := 77) rfl ?_
      refine Z_aload_n dX11_rock_77 rfl (z_isref _) (pc' := 78) rfl ?_
      refine Z_gR dX11_rock_78 rfl zgr_RX11_10_0 (pc' := 81) rfl ?_
      refine Z_gI dX11_rock_81 rfl zgi_RX11_80_1 (pc' := 84) rfl ?_
      rw [hI.cv.td]
      refine Z_cVe dX11_rock_84 rfl zcw_X6_isIsland (As := [_]) (rest := []) rfl ⟨Nat.le_of_ble_eq_true rfl, Nat.le_of_ble_eq_true rfl⟩ (Nat.le_of_ble_eq_true rfl) (zRcv.made hj hP (r := (RX6, TX6, 4)) rfl) ⟨zcw_X6_isIsland.2.2.2.2, Nat.le_of_ble_eq_true rfl⟩ zk_RX11_180 (c_X6_isIsland (by have := hI.ok.2.2.2.1; omega) (by omega) (by omega) hj hP) (pc' := 87) rfl ?_
      refine Z_if_eq dX11_rock_87 (tgt := 94) rfl (pc' := 90) rfl (fun c_87 => ?_) (fun c_87 => ?_)
      · refine Z_iconst dX11_rock_94 (v := 0) (by decide) (pc' := 95) rfl ?_
        exact Z_ireturn dX11_rock_95 rfl rfl (pR.st hI (by unfold spRock; rw [e1]; show (zb (islB (mc M) (ctd (mc M)) k), M) = _; rw [show islB (mc M) (ctd (mc M)) k = false from (isl_at hlt _).trans ((zb_eq0 _).mp c_87)]; rfl))
      · refine Z_iconst dX11_rock_90 (v := 1) (by decide) (pc' := 91) rfl ?_
        refine Z_goto dX11_rock_91 (tgt := 95) rfl ?_
        exact Z_ireturn dX11_rock_95 rfl rfl (pR.st hI (by unfold spRock; rw [e1]; show (zb (islB (mc M) (ctd (mc M)) k), M) = _; rw [show islB (mc M) (ctd (mc M)) k = true from (isl_at hlt _).trans ((zb_ne0 _).mp c_87)]; rfl))
    refine Z_tableOut dX11_rock_23 (by have h0 := i32_nev k_23_0 (v := 0) (by decide); have h1 := i32_nev k_23_1 (v := 1) (by decide); have h2 := i32_nev k_23_2 (v := 2) (by decide); have h3 := i32_nev k_23_3 (v := 3) (by decide); have h4 := i32_nev k_23_4 (v := 4) (by decide); omega) (tgt := 96) rfl ?_
    subst e_23
    refine Z_aload_n dX11_rock_96 rfl (z_isref _) (pc' := 97) rfl ?_
    refine Z_bipush dX11_rock_97 (v := (-2)) (by decide) (pc' := 99) rfl ?_
    refine Z_cVe dX11_rock_99 rfl zcw_X11_refuse (As := [_]) (rest := []) rfl ⟨Nat.le_of_ble_eq_true rfl, Nat.le_of_ble_eq_true rfl⟩ (Nat.le_of_ble_eq_true rfl) (zRcv.lay zob_0) ⟨zcw_X11_refuse.2.2.2.2, Nat.le_of_ble_eq_true rfl⟩ zk_RX11_43 (c_X11_refuse (k := 2) (by decide) (by decide)) (pc' := 102) rfl ?_
    exact Z_ireturn dX11_rock_102 rfl rfl (pR.no hI (by decide) (by unfold spRock; rw [e1]; simp only []; rw [if_neg k_23_0, if_neg k_23_1, if_neg k_23_2, if_neg k_23_3, if_neg k_23_4]))
  · rw [e]
    show Z _ _ _ _ _ _ (.null :: _) _
    refine Z_astore_n dX11_rock_11 (Nat.le_of_ble_eq_true rfl) (Nat.le_of_ble_eq_true rfl) rfl (ls' := [_, _, _, _]) rfl (Or.inl rfl) (pc' := 12) rfl ?_
    refine Z_aload_n dX11_rock_12 rfl (Or.inl rfl) (pc' := 13) rfl ?_
    refine Z_ifnonnullN dX11_rock_13 (tgt := 22) rfl (pc' := 16) rfl ?_
    refine Z_aload_n dX11_rock_16 rfl (z_isref _) (pc' := 17) rfl ?_
    refine Z_iconst dX11_rock_17 (v := (-1)) (by decide) (pc' := 18) rfl ?_
    refine Z_cVe dX11_rock_18 rfl zcw_X11_refuse (As := [_]) (rest := []) rfl ⟨Nat.le_of_ble_eq_true rfl, Nat.le_of_ble_eq_true rfl⟩ (Nat.le_of_ble_eq_true rfl) (zRcv.lay zob_0) ⟨zcw_X11_refuse.2.2.2.2, Nat.le_of_ble_eq_true rfl⟩ zk_RX11_43 (c_X11_refuse (k := 1) (by decide) (by decide)) (pc' := 21) rfl ?_
    exact Z_ireturn dX11_rock_21 rfl rfl (pR.no hI (by decide) (by unfold spRock; rw [e1]))
set_option maxRecDepth 100000 in
set_option maxHeartbeats 4000000 in
theorem c_X11_islands {S : ZS} {n : Nat} {M : Ms} (hI : CI S n M) : zM m_X11_islands 0 0 [.ref 0] (zw S n) (pR S n (spIslands M)) := by
  show Z m_X11_islands _ _ _ 0 [some (.ref _)] [] _
  refine Z_aload_n dX11_islands_0 rfl (z_isref _) (pc' := 1) rfl ?_
  refine Z_gR dX11_islands_1 rfl zgr_RX11_10_0 (pc' := 4) rfl ?_
  refine Z_gR dX11_islands_4 rfl zgr_RX11_156_1 (pc' := 7) rfl ?_
  refine Z_aload_n dX11_islands_7 rfl (z_isref _) (pc' := 8) rfl ?_
  refine Z_gR dX11_islands_8 rfl zgr_RX11_10_0 (pc' := 11) rfl ?_
  refine Z_gI dX11_islands_11 rfl zgi_RX11_80_1 (pc' := 14) rfl ?_
  rw [hI.cv.td]
  refine Z_cVe dX11_islands_14 rfl zcw_X7_islandsAt (As := [_]) (rest := []) rfl ⟨Nat.le_of_ble_eq_true rfl, Nat.le_of_ble_eq_true rfl⟩ (Nat.le_of_ble_eq_true rfl) (zRcv.lay zob_5) ⟨zcw_X7_islandsAt.2.2.2.2, Nat.le_of_ble_eq_true rfl⟩ zk_RX11_183 (c_X7_islandsAt (q := 5) (Or.inl rfl) hI.cv.rk hI.ok (by have := hI.ok.2.2.2.1; omega)) (pc' := 17) rfl ?_
  exact Z_ireturn dX11_islands_17 rfl rfl (pR.st hI rfl)
theorem fhF_lt (sh : Nat → Bool) : ∀ (m s w : Nat), s + m ≤ 1024 → w < 1024 → fhF sh m s w < 1024
  | 0, _, _, _, hw => hw
  | m + 1, s, w, hs, hw => by
    unfold fhF
    split
    · exact fhF_lt sh m (s + 1) s (by omega) (by omega)
    · exact fhF_lt sh m (s + 1) w (by omega) hw
set_option maxRecDepth 100000 in
set_option maxHeartbeats 4000000 in
theorem c_X11_hours {S : ZS} {n : Nat} {M : Ms} (hI : CI S n M) {x : Int32} : zM m_X11_hours 0 0 [.ref 0, .int x] (zw S n) (pR S n (spHours M x)) := by
  show Z m_X11_hours _ _ _ 0 [some (.ref _), some (.int _)] [] _
  refine Z_iload_n dX11_hours_0 rfl (pc' := 1) rfl ?_
  refine Z_if_lt dX11_hours_1 (tgt := 9) rfl (pc' := 4) rfl (fun c_1 => ?_) (fun c_1 => ?_)
  · refine Z_aload_n dX11_hours_9 rfl (z_isref _) (pc' := 10) rfl ?_
    refine Z_bipush dX11_hours_10 (v := (-2)) (by decide) (pc' := 12) rfl ?_
    refine Z_cVe dX11_hours_12 rfl zcw_X11_refuse (As := [_]) (rest := []) rfl ⟨Nat.le_of_ble_eq_true rfl, Nat.le_of_ble_eq_true rfl⟩ (Nat.le_of_ble_eq_true rfl) (zRcv.lay zob_0) ⟨zcw_X11_refuse.2.2.2.2, Nat.le_of_ble_eq_true rfl⟩ zk_RX11_43 (c_X11_refuse (k := 2) (by decide) (by decide)) (pc' := 15) rfl ?_
    exact Z_ireturn dX11_hours_15 rfl rfl (pR.no hI (by decide) (by unfold spHours; rw [if_pos (Or.inl c_1)]))
  · refine Z_iload_n dX11_hours_4 rfl (pc' := 5) rfl ?_
    refine Z_iconst dX11_hours_5 (v := 1) (by decide) (pc' := 6) rfl ?_
    refine Z_icmp_le dX11_hours_6 (tgt := 16) rfl (pc' := 9) rfl (fun c_6 => ?_) (fun c_6 => ?_)
    · refine Z_aload_n dX11_hours_16 rfl (z_isref _) (pc' := 17) rfl ?_
      refine Z_gR dX11_hours_17 rfl zgr_RX11_10_0 (pc' := 20) rfl ?_
      refine Z_gR dX11_hours_20 rfl zgr_RX11_156_1 (pc' := 23) rfl ?_
      refine Z_cVe dX11_hours_23 rfl zcw_X7_fewestHours (As := []) (rest := []) rfl ⟨Nat.le_of_ble_eq_true rfl, Nat.le_of_ble_eq_true rfl⟩ (Nat.le_of_ble_eq_true rfl) (zRcv.lay zob_5) ⟨zcw_X7_fewestHours.2.2.2.2, Nat.le_of_ble_eq_true rfl⟩ zk_RX11_186 (c_X7_fewestHours (q := 5) (Or.inl rfl) hI.cv.rk hI.ok) (pc' := 26) rfl ?_
      refine Z_istore_n dX11_hours_26 (Nat.le_of_ble_eq_true rfl) (Nat.le_of_ble_eq_true rfl) rfl (ls' := [_, _, _]) rfl (pc' := 27) rfl ?_
      refine Z_iload_n dX11_hours_27 rfl (pc' := 28) rfl ?_
      refine Z_if_ne dX11_hours_28 (tgt := 38) rfl (pc' := 31) rfl (fun c_28 => ?_) (fun c_28 => ?_)
      · refine Z_iload_n dX11_hours_38 rfl (pc' := 39) rfl ?_
        exact Z_ireturn dX11_hours_39 rfl rfl (pR.st hI (by unfold spHours; rw [if_neg (n_or c_1 (i_nlt c_6)), if_neg c_28]))
      · refine Z_iload_n dX11_hours_31 rfl (pc' := 32) rfl ?_
        refine Z_cSe dX11_hours_32 rfl zcw_J6_bitCount_0f7a4 (As := [_]) (rest := []) rfl ⟨Nat.le_of_ble_eq_true rfl, Nat.le_of_ble_eq_true rfl⟩ (Nat.le_of_ble_eq_true rfl) ⟨zcw_J6_bitCount_0f7a4.2.2.2.2, Nat.le_of_ble_eq_true rfl⟩ zk_RX11_189 (c_J6_bitCount_0f7a4 (fhF_lt _ _ _ _ (by decide) (by decide))) (pc' := 35) rfl ?_
        refine Z_goto dX11_hours_35 (tgt := 39) rfl ?_
        exact Z_ireturn dX11_hours_39 rfl rfl (pR.st hI (by unfold spHours; rw [if_neg (n_or c_1 (i_nlt c_6)), if_pos c_28]))
    · refine Z_aload_n dX11_hours_9 rfl (z_isref _) (pc' := 10) rfl ?_
      refine Z_bipush dX11_hours_10 (v := (-2)) (by decide) (pc' := 12) rfl ?_
      refine Z_cVe dX11_hours_12 rfl zcw_X11_refuse (As := [_]) (rest := []) rfl ⟨Nat.le_of_ble_eq_true rfl, Nat.le_of_ble_eq_true rfl⟩ (Nat.le_of_ble_eq_true rfl) (zRcv.lay zob_0) ⟨zcw_X11_refuse.2.2.2.2, Nat.le_of_ble_eq_true rfl⟩ zk_RX11_43 (c_X11_refuse (k := 2) (by decide) (by decide)) (pc' := 15) rfl ?_
      exact Z_ireturn dX11_hours_15 rfl rfl (pR.no hI (by decide) (by unfold spHours; rw [if_pos (Or.inr (i_lt c_6))]))
theorem rV_q {S : ZS} {n b : Nat} {c : Co} (h : cV S n b c) : rV S n (b + 4) c := h.rk
theorem CI_row {S : ZS} {n : Nat} {M : Ms} (hI : CI S n M) {g : Nat → Int32} : CI (sRow S 20 g) n M := by
  have f : frm 20 20 S n (sRow S 20 g) n := ⟨Nat.le_refl _, fun _ _ => rfl, fun a ha => ⟨sRow_ne S g (by omega), rfl⟩⟩
  obtain ⟨h1, h2, h3, h4, h5⟩ := hI
  have g := f.2.2
  exact ⟨⟨cV_frm h1.1 f (by decide), h1.2⟩, ⟨by rw [(g 0 (by decide)).1]; exact h2.1, fun c hc => ⟨cV_frm (h2.2 c hc).1 f (by decide), (h2.2 c hc).2⟩⟩, lV_frm2 h3 f (by decide), ⟨by rw [(g 0 (by decide)).1]; exact h4.1, h4.2.1, fun j hj => by rw [(g 23 (by decide)).1]; exact h4.2.2 j hj⟩, fun j hj => by rw [(g 24 (by decide)).1]; exact h5 j hj⟩
/-! the ways by sets: what lay there before doesn't matter -/
theorem mnI_cong {c : Co} {g h : Nat → Int32} {r l : Nat} : ∀ m, (∀ b, b < m → g (6 * r + b) = h (6 * r + b)) → mnI c g r l m = mnI c h r l m
  | 0, _ => rfl
  | m + 1, e => by unfold mnI; rw [mnI_cong m fun b hb => e b (by omega), e m (by omega)]
theorem lwI_cong {c : Co} {g h : Nat → Int32} {s l : Nat} (e : s.testBit l = true → s - 2 ^ l ≠ 0 → ∀ b, b < 6 → g (6 * (s - 2 ^ l) + b) = h (6 * (s - 2 ^ l) + b)) : lwI c g s l = lwI c h s l := by
  unfold lwI
  split
  · rfl
  · rename_i h1
    split
    · rfl
    · rename_i h2
      exact mnI_cong 6 (e (by simpa using h1) h2)
/-- the least way by the set s that ends at l, from the sets alone -/
def wyF (c : Co) : Nat → Nat → Nat → Int32
  | 0, _, _ => 0
  | f + 1, s, l => lwI c (fun x => wyF c f (x / 6) (x % 6)) s l
def wyN (c : Co) (s l : Nat) : Int32 := wyF c s s l
theorem d6 {t b : Nat} (h : b < 6) : (6 * t + b) / 6 = t ∧ (6 * t + b) % 6 = b := by omega
theorem wyF_fuel (c : Co) : ∀ (f t l : Nat), 1 ≤ t → t ≤ f → wyF c f t l = wyN c t l := by
  have key : ∀ (t : Nat), 1 ≤ t → ∀ (f f' l : Nat), t ≤ f → t ≤ f' → wyF c f t l = wyF c f' t l := by
    intro t
    induction t using Nat.strongRecOn with
    | ind t ih =>
      intro h1 f f' l hf hf'
      obtain ⟨f, rfl⟩ := Nat.exists_eq_add_of_lt (show 0 < f by omega)
      obtain ⟨f', rfl⟩ := Nat.exists_eq_add_of_lt (show 0 < f' by omega)
      unfold wyF
      refine lwI_cong fun ht hr b hb => ?_
      simp only [d6 hb]
      have := Nat.two_pow_pos l
      exact ih (t - 2 ^ l) (by omega) (by omega) _ _ b (by omega) (by omega)
  intro f t l h1 hf
  exact key t h1 f t l hf (Nat.le_refl _)
theorem wyN_eq (c : Co) {t : Nat} (h1 : 1 ≤ t) (l : Nat) : wyN c t l = lwI c (fun x => wyN c (x / 6) (x % 6)) t l := by
  obtain ⟨t, rfl⟩ := Nat.exists_eq_add_of_lt (show 0 < t by omega)
  unfold wyN
  rw [show 0 + t + 1 = t + 1 by omega, wyF]
  refine lwI_cong fun ht hr b hb => ?_
  simp only [d6 hb]
  have := Nat.two_pow_pos l
  exact wyF_fuel c t _ b (by omega) (by omega)
theorem pwG_ne (c : Co) (g : Nat → Int32) (s : Nat) {t b : Nat} (hb : b < 6) (h : t ≠ s) : ∀ m, m ≤ 6 → pwG c g s m (6 * t + b) = g (6 * t + b)
  | 0, _ => rfl
  | m + 1, hm => by unfold pwG; rw [zup_ne _ _ (by omega), pwG_ne c g s hb h m (by omega)]
theorem pwG_eq (c : Co) (g : Nat → Int32) {s b : Nat} : ∀ m, b < m → m ≤ 6 → pwG c g s m (6 * s + b) = lwI c g s b
  | 0, h, _ => by omega
  | m + 1, h, hm => by
    unfold pwG
    by_cases e : b = m
    · subst e
      rw [zup_same]
      exact lwI_cong fun ht hr d hd => pwG_ne c g s hd (by have := Nat.two_pow_pos b
                                                           have : 2 ^ b ≤ s := Nat.ge_two_pow_of_testBit ht
                                                           omega) b (by omega)
    · rw [zup_ne _ _ (by omega), pwG_eq c g m (by omega) (by omega)]
theorem sub_rest : ∀ i, i < 64 → ∀ s, s < 64 → s &&& i = s → ∀ l, l < 6 → s.testBit l = true → (s - 2 ^ l) &&& i = s - 2 ^ l := by decide +kernel
/-- behind the loop each subset's row is as the sets say -/
theorem rtG_rows (c : Co) {i : Nat} (hi : i < 64) : ∀ (m s : Nat) (g : Nat → Int32), s + m = 64 → (∀ t, 1 ≤ t → t < s → t &&& i = t → ∀ b, b < 6 → g (6 * t + b) = wyN c t b) → ∀ t, 1 ≤ t → t < 64 → t &&& i = t → ∀ b, b < 6 → rtG c i m s g (6 * t + b) = wyN c t b
  | 0, s, g, e, h => by
    intro t h1 h2 h3 b hb
    exact h t h1 (by omega) h3 b hb
  | m + 1, s, g, e, h => by
    unfold rtG
    refine rtG_rows c hi m (s + 1) _ (by omega) fun t h1 h2 h3 b hb => ?_
    by_cases hs : s &&& i = s
    · rw [if_pos hs]
      by_cases et : t = s
      · subst et
        rw [pwG_eq c g 6 hb (by omega), wyN_eq c h1]
        refine lwI_cong fun ht hr d hd => ?_
        have := Nat.two_pow_pos b
        simp only [d6 hd]
        exact h _ (by omega) (by omega) (sub_rest i hi t (by omega) hs b hb ht) d hd
      · rw [pwG_ne c g s hb et 6 (by omega)]
        exact h t h1 (by omega) h3 b hb
    · rw [if_neg hs]
      have : t ≠ s := fun q => hs (q ▸ h3)
      exact h t h1 (by omega) h3 b hb
theorem rtM_cong {c : Co} {g h : Nat → Int32} {i : Nat} : ∀ m, (∀ b, b < m → g (6 * i + b) = h (6 * i + b)) → rtM c g i m = rtM c h i m
  | 0, _ => rfl
  | m + 1, e => by unfold rtM; rw [rtM_cong m fun b hb => e b (by omega), e m (by omega)]
def wyR (c : Co) (i : Nat) : Int32 := if i = 0 then 0 else rtM c (fun x => wyN c (x / 6) (x % 6)) i 6
theorem rtV_eq (c : Co) (g : Nat → Int32) {i : Nat} (hi : i < 64) : rtV c g i = wyR c i := by
  unfold rtV wyR
  split
  · rfl
  · rename_i h0
    refine rtM_cong 6 fun b hb => ?_
    simp only [d6 hb]
    exact rtG_rows c hi 63 1 g rfl (fun t h1 h2 => by omega) i (by omega) hi (Nat.and_self i) b hb
set_option maxRecDepth 100000 in
set_option maxHeartbeats 4000000 in
theorem c_X11_boat {S : ZS} {n : Nat} {M : Ms} (hI : CI S n M) : zM m_X11_boat 0 0 [.ref 0] (zw S n) (pR S n (spBoat M)) := by
  show Z m_X11_boat _ _ _ 0 [some (.ref _)] [] _
  refine Z_aload_n dX11_boat_0 rfl (z_isref _) (pc' := 1) rfl ?_
  refine Z_gR dX11_boat_1 rfl zgr_RX11_25_0 (pc' := 4) rfl ?_
  refine Z_aload_n dX11_boat_4 rfl (z_isref _) (pc' := 5) rfl ?_
  refine Z_gR dX11_boat_5 rfl zgr_RX11_10_0 (pc' := 8) rfl ?_
  refine Z_gR dX11_boat_8 rfl zgr_RX11_156_1 (pc' := 11) rfl ?_
  refine Z_aload_n dX11_boat_11 rfl (z_isref _) (pc' := 12) rfl ?_
  refine Z_gR dX11_boat_12 rfl zgr_RX11_10_0 (pc' := 15) rfl ?_
  refine Z_gR dX11_boat_15 rfl zgr_RX11_156_1 (pc' := 18) rfl ?_
  refine Z_aload_n dX11_boat_18 rfl (z_isref _) (pc' := 19) rfl ?_
  refine Z_gR dX11_boat_19 rfl zgr_RX11_10_0 (pc' := 22) rfl ?_
  refine Z_gI dX11_boat_22 rfl zgi_RX11_80_1 (pc' := 25) rfl ?_
  rw [hI.cv.td]
  refine Z_cVe dX11_boat_25 rfl zcw_X7_islandsAt (As := [_]) (rest := [_, _]) rfl ⟨Nat.le_of_ble_eq_true rfl, Nat.le_of_ble_eq_true rfl⟩ (Nat.le_of_ble_eq_true rfl) (zRcv.lay zob_5) ⟨zcw_X7_islandsAt.2.2.2.2, Nat.le_of_ble_eq_true rfl⟩ zk_RX11_183 (c_X7_islandsAt (q := 5) (Or.inl rfl) hI.cv.rk hI.ok (by have := hI.ok.2.2.2.1; omega)) (pc' := 28) rfl ?_
  refine Z_cVe dX11_boat_28 rfl zcw_X0_roundTrip (As := [_, _]) (rest := []) rfl ⟨Nat.le_of_ble_eq_true rfl, Nat.le_of_ble_eq_true rfl⟩ (Nat.le_of_ble_eq_true rfl) (zRcv.lay zob_19) ⟨zcw_X0_roundTrip.2.2.2.2, Nat.le_of_ble_eq_true rfl⟩ zk_RX11_194 (c_X0_roundTrip (q := 5) (Or.inl rfl) hI.cv.rk hI.ok (znb_lt _ 6)) (pc' := 31) rfl ?_
  exact Z_ireturn dX11_boat_31 rfl rfl ⟨by unfold spBoat; rw [rtV_eq _ _ (znb_lt _ 6), rtV_eq _ _ (show isN M < 64 from znb_lt _ 6)]; rfl, _, n, rfl, ⟨Nat.le_refl _, fun _ _ => rfl, fun a ha => ⟨sRow_ne S _ (by omega), rfl⟩⟩, CI_row hI⟩
theorem ro_eq {S : ZS} {n : Nat} {M : Ms} (hI : CI S n M) (i : Int32) : roI (S.1 24) i = roI (mrf M) i := by
  unfold roI
  split
  · rfl
  · rename_i h
    rcases i32_cases i with z | ⟨k, hk, rfl⟩
    · exact absurd (Or.inl (Int32.lt_trans z (by decide))) h
    have h7 : k < 7 := Nat.lt_of_not_le fun q => h (Or.inr ((nI_len (by decide) hk).mpr q))
    rw [nI_nat (by omega), hI.2.2.2.2 k (by omega)]
set_option maxRecDepth 100000 in
set_option maxHeartbeats 4000000 in
theorem c_X11_count {S : ZS} {n : Nat} {M : Ms} (hI : CI S n M) {x : Int32} : zM m_X11_count 0 0 [.ref 0, .int x] (zw S n) (pR S n (spCount M x)) := by
  show Z m_X11_count _ _ _ 0 [some (.ref _), some (.int _)] [] _
  refine Z_iload_n dX11_count_0 rfl (pc' := 1) rfl ?_
  refine Z_topi (fun x_1 e_1 => ?_)
  by_cases k_1_0 : x_1 = 0
  · subst k_1_0
    subst e_1
    refine Z_tableIn dX11_count_1 (by decide) (by decide) (off := 47) rfl (tgt := 48) rfl ?_
    refine Z_aload_n dX11_count_48 rfl (z_isref _) (pc' := 49) rfl ?_
    refine Z_gR dX11_count_49 rfl zgr_RX11_10_0 (pc' := 52) rfl ?_
    refine Z_gI dX11_count_52 rfl zgi_RX11_230_1 (pc' := 55) rfl ?_
    rw [hI.cv.cnt]
    exact Z_ireturn dX11_count_55 rfl rfl (pR.st hI rfl)
  by_cases k_1_1 : x_1 = 1
  · subst k_1_1
    subst e_1
    refine Z_tableIn dX11_count_1 (by decide) (by decide) (off := 55) rfl (tgt := 56) rfl ?_
    refine Z_aload_n dX11_count_56 rfl (z_isref _) (pc' := 57) rfl ?_
    refine Z_gR dX11_count_57 rfl zgr_RX11_10_0 (pc' := 60) rfl ?_
    refine Z_gI dX11_count_60 rfl zgi_RX11_227_1 (pc' := 63) rfl ?_
    rw [hI.cv.yd]
    exact Z_ireturn dX11_count_63 rfl rfl (pR.st hI rfl)
  by_cases k_1_2 : x_1 = 2
  · subst k_1_2
    subst e_1
    refine Z_tableIn dX11_count_1 (by decide) (by decide) (off := 63) rfl (tgt := 64) rfl ?_
    refine Z_aload_n dX11_count_64 rfl (z_isref _) (pc' := 65) rfl ?_
    refine Z_gR dX11_count_65 rfl zgr_RX11_10_0 (pc' := 68) rfl ?_
    refine Z_gI dX11_count_68 rfl zgi_RX11_80_1 (pc' := 71) rfl ?_
    rw [hI.cv.td]
    exact Z_ireturn dX11_count_71 rfl rfl (pR.st hI rfl)
  by_cases k_1_3 : x_1 = 3
  · subst k_1_3
    subst e_1
    refine Z_tableIn dX11_count_1 (by decide) (by decide) (off := 71) rfl (tgt := 72) rfl ?_
    refine Z_aload_n dX11_count_72 rfl (z_isref _) (pc' := 73) rfl ?_
    refine Z_gR dX11_count_73 rfl zgr_RX11_10_0 (pc' := 76) rfl ?_
    refine Z_cVe dX11_count_76 rfl zcw_X2_shoreNow (As := []) (rest := []) rfl ⟨Nat.le_of_ble_eq_true rfl, Nat.le_of_ble_eq_true rfl⟩ (Nat.le_of_ble_eq_true rfl) (zRcv.lay zob_1) ⟨zcw_X2_shoreNow.2.2.2.2, Nat.le_of_ble_eq_true rfl⟩ zk_RX11_99 (k_shoreNow hI) (pc' := 79) rfl ?_
    refine Z_cSe dX11_count_79 rfl zcw_J13_bitCount_95d88 (As := [_]) (rest := []) rfl ⟨Nat.le_of_ble_eq_true rfl, Nat.le_of_ble_eq_true rfl⟩ (Nat.le_of_ble_eq_true rfl) ⟨zcw_J13_bitCount_95d88.2.2.2.2, Nat.le_of_ble_eq_true rfl⟩ zk_RX11_206 c_J13_bitCount_95d88 (pc' := 82) rfl ?_
    exact Z_ireturn dX11_count_82 rfl rfl (pR.st hI rfl)
  by_cases k_1_4 : x_1 = 4
  · subst k_1_4
    subst e_1
    refine Z_tableIn dX11_count_1 (by decide) (by decide) (off := 82) rfl (tgt := 83) rfl ?_
    refine Z_aload_n dX11_count_83 rfl (z_isref _) (pc' := 84) rfl ?_
    refine Z_gR dX11_count_84 rfl zgr_RX11_10_0 (pc' := 87) rfl ?_
    refine Z_gR dX11_count_87 rfl zgr_RX11_156_1 (pc' := 90) rfl ?_
    refine Z_gI dX11_count_90 rfl zgi_RX11_233_5 (pc' := 93) rfl ?_
    rw [hI.cv.rk.1]
    exact Z_ireturn dX11_count_93 rfl rfl (pR.st hI rfl)
  by_cases k_1_5 : x_1 = 5
  · subst k_1_5
    subst e_1
    refine Z_tableIn dX11_count_1 (by decide) (by decide) (off := 93) rfl (tgt := 94) rfl ?_
    refine Z_aload_n dX11_count_94 rfl (z_isref _) (pc' := 95) rfl ?_
    refine Z_gR dX11_count_95 rfl zgr_RX11_32_0 (pc' := 98) rfl ?_
    refine Z_gI dX11_count_98 rfl zgi_RX11_51_21 (pc' := 101) rfl ?_
    rw [hI.2.2.1.1]
    exact Z_ireturn dX11_count_101 rfl rfl (pR.st hI rfl)
  by_cases k_1_6 : x_1 = 6
  · subst k_1_6
    subst e_1
    refine Z_tableIn dX11_count_1 (by decide) (by decide) (off := 101) rfl (tgt := 102) rfl ?_
    refine Z_aload_n dX11_count_102 rfl (z_isref _) (pc' := 103) rfl ?_
    refine Z_gI dX11_count_103 rfl zgi_RX11_210_0 (pc' := 106) rfl ?_
    rw [hI.2.2.2.1.1]
    exact Z_ireturn dX11_count_106 rfl rfl (pR.st hI rfl)
  by_cases k_1_7 : x_1 = 7
  · subst k_1_7
    subst e_1
    refine Z_tableIn dX11_count_1 (by decide) (by decide) (off := 106) rfl (tgt := 107) rfl ?_
    refine Z_aload_n dX11_count_107 rfl (z_isref _) (pc' := 108) rfl ?_
    refine Z_gR dX11_count_108 rfl zgr_RX11_10_0 (pc' := 111) rfl ?_
    refine Z_cVe dX11_count_111 rfl zcw_X2_feesOfStretches (As := []) (rest := []) rfl ⟨Nat.le_of_ble_eq_true rfl, Nat.le_of_ble_eq_true rfl⟩ (Nat.le_of_ble_eq_true rfl) (zRcv.lay zob_1) ⟨zcw_X2_feesOfStretches.2.2.2.2, Nat.le_of_ble_eq_true rfl⟩ zk_RX11_234 (c_X2_feesOfStretches (b := 1) (Or.inl rfl) hI.cv hI.ok) (pc' := 114) rfl ?_
    exact Z_ireturn dX11_count_114 rfl rfl (pR.st hI rfl)
  refine Z_tableOut dX11_count_1 (by have h0 := i32_nev k_1_0 (v := 0) (by decide); have h1 := i32_nev k_1_1 (v := 1) (by decide); have h2 := i32_nev k_1_2 (v := 2) (by decide); have h3 := i32_nev k_1_3 (v := 3) (by decide); have h4 := i32_nev k_1_4 (v := 4) (by decide); have h5 := i32_nev k_1_5 (v := 5) (by decide); have h6 := i32_nev k_1_6 (v := 6) (by decide); have h7 := i32_nev k_1_7 (v := 7) (by decide); omega) (tgt := 115) rfl ?_
  subst e_1
  refine Z_aload_n dX11_count_115 rfl (z_isref _) (pc' := 116) rfl ?_
  refine Z_iload_n dX11_count_116 rfl (pc' := 117) rfl ?_
  refine Z_bipush dX11_count_117 (v := 10) (by decide) (pc' := 119) rfl ?_
  refine Z_isub dX11_count_119 (pc' := 120) rfl ?_
  refine Z_cVe dX11_count_120 rfl zcw_X11_refusalsOf (As := [_]) (rest := []) rfl ⟨Nat.le_of_ble_eq_true rfl, Nat.le_of_ble_eq_true rfl⟩ (Nat.le_of_ble_eq_true rfl) (zRcv.lay zob_0) ⟨zcw_X11_refusalsOf.2.2.2.2, Nat.le_of_ble_eq_true rfl⟩ zk_RX11_237 c_X11_refusalsOf (pc' := 123) rfl ?_
  rw [ro_eq hI]
  exact Z_ireturn dX11_count_123 rfl rfl (pR.st hI (by unfold spCount; rw [if_neg k_1_0, if_neg k_1_1, if_neg k_1_2, if_neg k_1_3, if_neg k_1_4, if_neg k_1_5, if_neg k_1_6, if_neg k_1_7]))
theorem CI_image {S : ZS} {n : Nat} {M : Ms} (hI : CI S n M) {S' : ZS} (f : frm 13 18 S n S' n) (v : cV S' n 13 (mc M)) : CI (sA S' 0 3 1) n (wI M (some (mc M))) := by
  obtain ⟨h1, h2, h3, h4, h5⟩ := hI
  have f2 : frm 0 0 S' n (sA S' 0 3 1) n := frm.rf.sA _ _ (by decide) (by decide)
  have f3 : frm 0 18 S n (sA S' 0 3 1) n := (f.wd (by decide) (by decide)).tr (f2.wd (by decide) (by decide))
  refine ⟨⟨cV_frm (cV_frm h1.1 f (by decide)) f2 (by decide), h1.2⟩, ⟨by rw [sA_same, zup_same]; rfl, fun c hc => by cases hc; exact ⟨cV_frm v f2 (by decide), h1.2⟩⟩, lV_frm2 h3 f3 (by decide), ⟨?_, h4.2.1, fun j hj => by rw [(f3.2.2 23 (by decide)).1]; exact h4.2.2 j hj⟩, fun j hj => by rw [(f3.2.2 24 (by decide)).1]; exact h5 j hj⟩
  rw [sA_same, zup_ne _ _ (by decide), (f.2.2 0 (by decide)).1]
  exact h4.1
set_option maxRecDepth 100000 in
set_option maxHeartbeats 4000000 in
theorem c_X11_image {S : ZS} {n : Nat} {M : Ms} (hI : CI S n M) : zM m_X11_image 0 0 [.ref 0] (zw S n) (pR S n (spImage M)) := by
  show Z m_X11_image _ _ _ 0 [some (.ref _)] [] _
  refine Z_aload_n dX11_image_0 rfl (z_isref _) (pc' := 1) rfl ?_
  refine Z_gR dX11_image_1 rfl zgr_RX11_19_0 (pc' := 4) rfl ?_
  refine Z_aload_n dX11_image_4 rfl (z_isref _) (pc' := 5) rfl ?_
  refine Z_gR dX11_image_5 rfl zgr_RX11_10_0 (pc' := 8) rfl ?_
  refine Z_cV dX11_image_8 rfl zcw_X2_become (As := [_]) (rest := []) rfl ⟨Nat.le_of_ble_eq_true rfl, Nat.le_of_ble_eq_true rfl⟩ (Nat.le_of_ble_eq_true rfl) (zRcv.lay zob_13) ⟨zcw_X2_become.2.2.2.2, Nat.le_of_ble_eq_true rfl⟩ zk_RX11_219 (c_X2_become (Or.inr (Or.inr rfl)) (Or.inl rfl) (by decide) hI.cv hI.ok) (pc' := 11) rfl (fun r_8 w_8 h_8 => ?_)
  obtain ⟨rfl, S1, rfl, f1, v1⟩ := h_8
  show Z _ _ _ _ _ _ [] _
  refine Z_aload_n dX11_image_11 rfl (z_isref _) (pc' := 12) rfl ?_
  refine Z_iconst dX11_image_12 (v := 1) (by decide) (pc' := 13) rfl ?_
  refine Z_pZ dX11_image_13 rfl zpi_RX11_223_0 (by decide) (pc' := 16) rfl ?_
  refine Z_aload_n dX11_image_16 rfl (z_isref _) (pc' := 17) rfl ?_
  refine Z_gR dX11_image_17 rfl zgr_RX11_10_0 (pc' := 20) rfl ?_
  refine Z_gI dX11_image_20 rfl zgi_RX11_227_1 (pc' := 23) rfl ?_
  have hC := CI_image hI f1 v1
  rw [hC.cv.yd]
  exact Z_ireturn dX11_image_23 rfl rfl ⟨rfl, _, n, rfl, (f1.wd (by decide) (by decide)).sA _ _ (by decide) (by decide), hC⟩
set_option maxRecDepth 100000 in
set_option maxHeartbeats 4000000 in
theorem c_X11_restore {S : ZS} {n : Nat} {M : Ms} (hI : CI S n M) : zM m_X11_restore 0 0 [.ref 0] (zw S n) (pR S n (spRestore M)) := by
  show Z m_X11_restore _ _ _ 0 [some (.ref _)] [] _
  refine Z_aload_n dX11_restore_0 rfl (z_isref _) (pc' := 1) rfl ?_
  refine Z_gI dX11_restore_1 rfl zgi_RX11_223_0 (pc' := 4) rfl ?_
  cases hi : mi M with
  | none =>
    rw [hI.2.1.1, hi]
    refine Z_if_ne dX11_restore_4 (tgt := 14) rfl (pc' := 7) rfl (fun c_4 => absurd c_4 (fun c => c rfl)) (fun c_4 => ?_)
    refine Z_aload_n dX11_restore_7 rfl (z_isref _) (pc' := 8) rfl ?_
    refine Z_bipush dX11_restore_8 (v := (-3)) (by decide) (pc' := 10) rfl ?_
    refine Z_cVe dX11_restore_10 rfl zcw_X11_refuse (As := [_]) (rest := []) rfl ⟨Nat.le_of_ble_eq_true rfl, Nat.le_of_ble_eq_true rfl⟩ (Nat.le_of_ble_eq_true rfl) (zRcv.lay zob_0) ⟨zcw_X11_refuse.2.2.2.2, Nat.le_of_ble_eq_true rfl⟩ zk_RX11_43 (c_X11_refuse (k := 3) (by decide) (by decide)) (pc' := 13) rfl ?_
    exact Z_ireturn dX11_restore_13 rfl rfl (pR.no hI (by decide) (by unfold spRestore; rw [hi]))
  | some c =>
    rw [hI.2.1.1, hi]
    refine Z_if_ne dX11_restore_4 (tgt := 14) rfl (pc' := 7) rfl (fun c_4 => ?_) (fun c_4 => absurd c_4 (show ¬ (1 : Int32) = 0 by decide))
    obtain ⟨v13, ok13⟩ := hI.2.1.2 c hi
    refine Z_aload_n dX11_restore_14 rfl (z_isref _) (pc' := 15) rfl ?_
    refine Z_gR dX11_restore_15 rfl zgr_RX11_10_0 (pc' := 18) rfl ?_
    refine Z_aload_n dX11_restore_18 rfl (z_isref _) (pc' := 19) rfl ?_
    refine Z_gR dX11_restore_19 rfl zgr_RX11_19_0 (pc' := 22) rfl ?_
    refine Z_cV dX11_restore_22 rfl zcw_X2_become (As := [_]) (rest := []) rfl ⟨Nat.le_of_ble_eq_true rfl, Nat.le_of_ble_eq_true rfl⟩ (Nat.le_of_ble_eq_true rfl) (zRcv.lay zob_1) ⟨zcw_X2_become.2.2.2.2, Nat.le_of_ble_eq_true rfl⟩ zk_RX11_219 (c_X2_become (Or.inl rfl) (Or.inr (Or.inr rfl)) (by decide) v13 ok13) (pc' := 25) rfl (fun r_22 w_22 h_22 => ?_)
    obtain ⟨rfl, S1, rfl, f1, v1⟩ := h_22
    show Z _ _ _ _ _ _ [] _
    refine Z_aload_n dX11_restore_25 rfl (z_isref _) (pc' := 26) rfl ?_
    refine Z_gR dX11_restore_26 rfl zgr_RX11_10_0 (pc' := 29) rfl ?_
    refine Z_gI dX11_restore_29 rfl zgi_RX11_227_1 (pc' := 32) rfl ?_
    rw [v1.yd]
    exact Z_ireturn dX11_restore_32 rfl rfl ⟨by unfold spRestore; rw [hi], S1, n, rfl, f1.wd (by decide) (by decide), by unfold spRestore; rw [hi]; exact CI_coast hI (f1.wd (by decide) (by decide)) v1 ok13⟩
theorem CI_row1 {S : ZS} {n : Nat} {M : Ms} (hI : CI S n M) (hl : mrl M < 12) {p : Nat} (hp : p ≤ 48) : CI (sA (sA S 23 (mrl M) (nI p)) 0 7 (nI (mrl M + 1))) n (wR M (zup (mrw M) (mrl M) p) (mrl M + 1)) := by
  obtain ⟨h1, h2, h3, h4, h5⟩ := hI
  have f1 : frm 23 23 S n (sA S 23 (mrl M) (nI p)) n := frm.rf.sA _ _ (by decide) (by decide)
  have f2 : frm 0 0 (sA S 23 (mrl M) (nI p)) n (sA (sA S 23 (mrl M) (nI p)) 0 7 (nI (mrl M + 1))) n := frm.rf.sA _ _ (by decide) (by decide)
  refine ⟨⟨cV_frm (cV_frm h1.1 f1 (by decide)) f2 (by decide), h1.2⟩, ⟨?_, fun c hc => ⟨cV_frm (cV_frm (h2.2 c hc).1 f1 (by decide)) f2 (by decide), (h2.2 c hc).2⟩⟩, lV_frm2 (lV_frm2 h3 f1 (by decide)) f2 (by decide), ⟨by rw [sA_same, zup_same]; rfl, hl, fun k hk => ?_⟩, fun j hj => ?_⟩
  · rw [sA_same, zup_ne _ _ (by decide), sA_ne _ _ _ (by decide)]; exact h2.1
  · rw [sA_ne _ _ _ (by decide), sA_same]
    show zup (S.1 23) (mrl M) (nI p) k = nI (zup (mrw M) (mrl M) p k) ∧ zup (mrw M) (mrl M) p k ≤ 48
    by_cases e : k = mrl M
    · subst e; rw [zup_same, zup_same]; exact ⟨rfl, hp⟩
    · rw [zup_ne _ _ e, zup_ne _ _ e]; exact h4.2.2 k (by have : k < mrl M + 1 := hk; omega)
  · rw [(f2.2.2 24 (by decide)).1, (f1.2.2 24 (by decide)).1]; exact h5 j hj
theorem CI_row0 {S : ZS} {n : Nat} {M : Ms} (hI : CI S n M) : CI (sA S 0 7 0) n (wR M (mrw M) 0) := by
  obtain ⟨h1, h2, h3, h4, h5⟩ := hI
  have f2 : frm 0 0 S n (sA S 0 7 0) n := frm.rf.sA _ _ (by decide) (by decide)
  refine ⟨⟨cV_frm h1.1 f2 (by decide), h1.2⟩, ⟨?_, fun c hc => ⟨cV_frm (h2.2 c hc).1 f2 (by decide), (h2.2 c hc).2⟩⟩, lV_frm2 h3 f2 (by decide), ⟨by rw [sA_same, zup_same]; rfl, Nat.zero_le _, fun k hk => absurd hk (Nat.not_lt_zero k)⟩, fun j hj => by rw [(f2.2.2 24 (by decide)).1]; exact h5 j hj⟩
  rw [sA_same, zup_ne _ _ (by decide)]; exact h2.1
set_option maxRecDepth 100000 in
set_option maxHeartbeats 4000000 in
theorem c_X11_row {S : ZS} {n : Nat} {M : Ms} (hI : CI S n M) {p : Int32} : zM m_X11_row 0 0 [.ref 0, .int p] (zw S n) (pR S n (spRow M p)) := by
  show Z m_X11_row _ _ _ 0 [some (.ref _), some (.int _)] [] _
  refine Z_iload_n dX11_row_0 rfl (pc' := 1) rfl ?_
  refine Z_if_ge dX11_row_1 (tgt := 11) rfl (pc' := 4) rfl (fun c_1 => ?_) (fun c_1 => ?_)
  · refine Z_iload_n dX11_row_11 rfl (pc' := 12) rfl ?_
    refine Z_bipush dX11_row_12 (v := 48) (by decide) (pc' := 14) rfl ?_
    refine Z_icmp_gt dX11_row_14 (tgt := 36) rfl (pc' := 17) rfl (fun c_14 => ?_) (fun c_14 => ?_)
    · skip
      refine Z_aload_n dX11_row_36 rfl (z_isref _) (pc' := 37) rfl ?_
      refine Z_bipush dX11_row_37 (v := (-6)) (by decide) (pc' := 39) rfl ?_
      refine Z_cVe dX11_row_39 rfl zcw_X11_refuse (As := [_]) (rest := []) rfl ⟨Nat.le_of_ble_eq_true rfl, Nat.le_of_ble_eq_true rfl⟩ (Nat.le_of_ble_eq_true rfl) (zRcv.lay zob_0) ⟨zcw_X11_refuse.2.2.2.2, Nat.le_of_ble_eq_true rfl⟩ zk_RX11_43 (c_X11_refuse (k := 6) (by decide) (by decide)) (pc' := 42) rfl ?_
      exact Z_ireturn dX11_row_42 rfl rfl (pR.no hI (by decide) (by unfold spRow; rw [if_neg (i_nlt c_1), if_pos (Or.inl c_14)]))
    · refine Z_aload_n dX11_row_17 rfl (z_isref _) (pc' := 18) rfl ?_
      refine Z_gI dX11_row_18 rfl zgi_RX11_210_0 (pc' := 21) rfl ?_
      have hrl := hI.2.2.2.1.2.1
      rw [hI.2.2.2.1.1]
      refine Z_if_lt dX11_row_21 (tgt := 36) rfl (pc' := 24) rfl (fun c_21 => absurd c_21 (nI_neg (by omega))) (fun c_21 => ?_)
      refine Z_aload_n dX11_row_24 rfl (z_isref _) (pc' := 25) rfl ?_
      refine Z_gI dX11_row_25 rfl zgi_RX11_210_0 (pc' := 28) rfl ?_
      refine Z_aload_n dX11_row_28 rfl (z_isref _) (pc' := 29) rfl ?_
      refine Z_gR dX11_row_29 rfl zgr_RX11_36_0 (pc' := 32) rfl ?_
      refine Z_al dX11_row_32 zar_23 (v := 12) (by decide) (pc' := 33) rfl ?_
      rw [hI.2.2.2.1.1]
      refine Z_icmp_lt dX11_row_33 (tgt := 43) rfl (pc' := 36) rfl (fun c_33 => ?_) (fun c_33 => ?_)
      · obtain ⟨q, hq, rfl⟩ := i_rng (a := p) (m := 48) (by decide) (i_nlt c_1) c_14
        have hl : mrl M < 12 := by
          rw [show (12 : Int32) = nI 12 from rfl, nI_ltn (by omega) (by decide)] at c_33
          exact c_33
        refine Z_aload_n dX11_row_43 rfl (z_isref _) (pc' := 44) rfl ?_
        refine Z_gR dX11_row_44 rfl zgr_RX11_36_0 (pc' := 47) rfl ?_
        refine Z_aload_n dX11_row_47 rfl (z_isref _) (pc' := 48) rfl ?_
        refine Z_gI dX11_row_48 rfl zgi_RX11_210_0 (pc' := 51) rfl ?_
        rw [hI.2.2.2.1.1]
        refine Z_iload_n dX11_row_51 rfl (pc' := 52) rfl ?_
        refine Z_is dX11_row_52 zar_23 (zin hl (by decide)) (pc' := 53) rfl ?_
        rw [nI_nat (by omega)]
        refine Z_aload_n dX11_row_53 rfl (z_isref _) (pc' := 54) rfl ?_
        refine Z_dup dX11_row_54 rfl (pc' := 55) rfl ?_
        refine Z_gI dX11_row_55 rfl zgi_RX11_210_0 (pc' := 58) rfl ?_
        rw [sA_ne _ _ _ (by decide), hI.2.2.2.1.1]
        refine Z_iconst dX11_row_58 (v := 1) (by decide) (pc' := 59) rfl ?_
        refine Z_iadd dX11_row_59 (pc' := 60) rfl ?_
        rw [show (1 : Int32) = nI 1 from rfl, nI_add]
        refine Z_pI dX11_row_60 rfl zpi_RX11_210_0 (pc' := 63) rfl ?_
        refine Z_aload_n dX11_row_63 rfl (z_isref _) (pc' := 64) rfl ?_
        refine Z_gI dX11_row_64 rfl zgi_RX11_210_0 (pc' := 67) rfl ?_
        rw [sA_same, zup_same]
        exact Z_ireturn dX11_row_67 rfl rfl ⟨by unfold spRow; rw [if_neg (i_nlt c_1), if_neg (n_or c_14 (by omega))], _, n, rfl, (frm.rf.sA _ _ (by decide) (by decide)).sA _ _ (by decide) (by decide), by unfold spRow; rw [if_neg (i_nlt c_1), if_neg (n_or c_14 (by omega)), nI_nat (by omega)]; exact CI_row1 hI hl hq⟩
      · skip
        refine Z_aload_n dX11_row_36 rfl (z_isref _) (pc' := 37) rfl ?_
        refine Z_bipush dX11_row_37 (v := (-6)) (by decide) (pc' := 39) rfl ?_
        refine Z_cVe dX11_row_39 rfl zcw_X11_refuse (As := [_]) (rest := []) rfl ⟨Nat.le_of_ble_eq_true rfl, Nat.le_of_ble_eq_true rfl⟩ (Nat.le_of_ble_eq_true rfl) (zRcv.lay zob_0) ⟨zcw_X11_refuse.2.2.2.2, Nat.le_of_ble_eq_true rfl⟩ zk_RX11_43 (c_X11_refuse (k := 6) (by decide) (by decide)) (pc' := 42) rfl ?_
        exact Z_ireturn dX11_row_42 rfl rfl (pR.no hI (by decide) (by unfold spRow; rw [if_neg (i_nlt c_1), if_pos (Or.inr (by rw [show (12 : Int32) = nI 12 from rfl, nI_ltn (by omega) (by decide)] at c_33; omega))]))
  · refine Z_aload_n dX11_row_4 rfl (z_isref _) (pc' := 5) rfl ?_
    refine Z_bipush dX11_row_5 (v := (-4)) (by decide) (pc' := 7) rfl ?_
    refine Z_cVe dX11_row_7 rfl zcw_X11_refuse (As := [_]) (rest := []) rfl ⟨Nat.le_of_ble_eq_true rfl, Nat.le_of_ble_eq_true rfl⟩ (Nat.le_of_ble_eq_true rfl) (zRcv.lay zob_0) ⟨zcw_X11_refuse.2.2.2.2, Nat.le_of_ble_eq_true rfl⟩ zk_RX11_43 (c_X11_refuse (k := 4) (by decide) (by decide)) (pc' := 10) rfl ?_
    exact Z_ireturn dX11_row_10 rfl rfl (pR.no hI (by decide) (by unfold spRow; rw [if_pos (i_lt c_1)]))
