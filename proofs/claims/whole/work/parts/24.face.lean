theorem i_lt {a b : Int32} (h : ¬ a ≤ b) : b < a := Int32.not_le.mp h
theorem i_nlt {a b : Int32} (h : a ≤ b) : ¬ b < a := Int32.not_lt.mpr h
theorem i_le {a b : Int32} (h : ¬ b < a) : a ≤ b := Int32.not_lt.mp h
theorem n_or {p q : Prop} (h1 : ¬ p) (h2 : ¬ q) : ¬ (p ∨ q) := fun h => h.elim h1 h2
theorem wrI_k {r b : Int32} (h : ¬ wrI r b = 0) : ∃ k, k < 7 ∧ - wrI r b = nI k ∧ (0 - wrI r b).toNatClampNeg = k := by
  unfold wrI at h ⊢
  split
  · exact ⟨4, by decide, by decide, by decide⟩
  · split
    · exact ⟨6, by decide, by decide, by decide⟩
    · rename_i h1 h2
      rw [if_neg h1, if_neg h2] at h
      exact absurd rfl h
theorem i_rng {a : Int32} {m : Nat} (hm : m < 2147483648) (h0 : ¬ a < 0) (h1 : ¬ nI m < a) : ∃ k, k ≤ m ∧ a = nI k := by
  rcases i32_cases a with h | ⟨k, hk, rfl⟩
  · exact absurd h h0
  · exact ⟨k, by rw [nI_ltn hm hk] at h1; omega, rfl⟩
theorem wrI_0 {r b : Int32} (h : wrI r b = 0) : ∃ r' b', 1 ≤ r' ∧ r' ≤ 9 ∧ b' ≤ 9 ∧ r = nI r' ∧ b = nI b' := by
  unfold wrI at h
  split at h
  · exact absurd h (by decide)
  · rename_i h1
    split at h
    · exact absurd h (by decide)
    · rename_i h2
      have hr1 : ¬ r < 1 := fun q => h1 (Or.inl q)
      obtain ⟨r', hr, rfl⟩ := i_rng (a := r) (m := 9) (by decide) (fun q => hr1 (Int32.lt_trans q (by decide))) (fun q => h2 (Or.inl q))
      obtain ⟨b', hb, rfl⟩ := i_rng (a := b) (m := 9) (by decide) (fun q => h1 (Or.inr q)) (fun q => h2 (Or.inr q))
      refine ⟨r', b', ?_, hr, hb, rfl, rfl⟩
      rw [show (1 : Int32) = nI 1 from rfl, nI_ltn (by omega) (by decide)] at hr1
      omega
theorem t2I_k {r b : Int32} (h : ¬ t2I r b = 0) : ∃ k, k < 7 ∧ - t2I r b = nI k ∧ (0 - t2I r b).toNatClampNeg = k := by
  unfold t2I at h ⊢
  split
  · exact ⟨4, by decide, by decide, by decide⟩
  · split
    · exact ⟨6, by decide, by decide, by decide⟩
    · rename_i h1 h2
      rw [if_neg h1, if_neg h2] at h
      exact absurd rfl h
section ZKS
variable {S : ZS} {n : Nat} {M : Ms}
theorem k_shoreNow (hI : CI S n M) : zM m_X2_shoreNow 0 0 [.ref 1] (zw S n) (zE (some (.long (zmk (mcf M)))) (zw S n)) := by
  have := c_X2_shoreNow (b := 1) (Or.inl rfl) hI.cv hI.ok
  rw [shF_8 hI.ok] at this
  exact this
theorem k_shoreAt {t : Nat} (hI : CI S n M) (ht : t < 2147483648) : zM m_X2_shoreAt 0 0 [.ref 1, .int (nI t)] (zw S n) (zE (some (.long (zmk (shS (mc M) t)))) (zw S n)) := by
  have := c_X2_shoreAt (b := 1) (Or.inl rfl) hI.cv hI.ok ht
  rw [shF_8 hI.ok] at this
  exact this
theorem k_reachedFrom {f : Nat → Bool} {r : Int32} {bg : Nat} (hI : CI S n M) (hbg : bg ≤ 60) : zM m_X2_reachedFrom 0 0 [.ref 1, .long (zmk f), .int r, .int (nI bg)] (zw S n) (zE (some (.long (lmk (WL (mc M) f r bg)))) (zw S n)) := c_X2_reachedFrom (b := 1) (Or.inl rfl) hI.cv hI.ok hbg
theorem k_milesOf {f : Nat → Bool} {r : Int32} {bg : Nat} (hI : CI S n M) (hbg : bg ≤ 60) : zM m_X2_milesOf 0 0 [.ref 1, .long (zmk f), .int r, .int (nI bg)] (zw S n) (zE (some (.int (mlS (mc M) f r bg))) (zw S n)) := c_X2_milesOf (b := 1) (Or.inl rfl) hI.cv hI.ok hbg
theorem k_stepsOf {f : Nat → Bool} {r : Int32} {bg : Nat} (hI : CI S n M) : zM m_X11_stepsOf 0 0 [.long (lmk (WL (mc M) f r bg))] (zw S n) (zE (some (.int (nI ((WL (mc M) f r bg).length - 1)))) (zw S n)) := by
  have := c_X11_stepsOf (f := fun k => decide (k ∈ WL (mc M) f r bg)) (ω := zw S n)
  rw [stF_WL hI.ok] at this
  exact this
theorem k_memberOf {f : Nat → Bool} {r : Int32} {bg i : Nat} (hI : CI S n M) (hi : i < 1000) : zM m_X11_memberOf 0 0 [.long (lmk (WL (mc M) f r bg)), .int (nI i)] (zw S n) (zE (some (.int (oI (WL (mc M) f r bg)[i]?))) (zw S n)) := by
  have := c_X11_memberOf (f := fun k => decide (k ∈ WL (mc M) f r bg)) (i := nI i) (ω := zw S n)
  rw [mbF_list _ 49 0 (WL (mc M) f r bg) i (WL_nd ..) (fun x hx => by have := WL_rng hx; have := hI.ok.2.1; omega) (fun _ _ _ => rfl) hi] at this
  exact this
theorem k_lastOf {f : Nat → Bool} {r : Int32} {bg : Nat} (hI : CI S n M) : zM m_X11_lastOf 0 0 [.long (lmk (WL (mc M) f r bg))] (zw S n) (zE (some (.int (oI (WL (mc M) f r bg).getLast?))) (zw S n)) := by
  have := c_X11_lastOf (f := fun k => decide (k ∈ WL (mc M) f r bg)) (ω := zw S n)
  rw [lsF_list (WL_nd ..) (fun x hx => by have := WL_rng hx; have := hI.ok.2.1; omega)] at this
  exact this
theorem mcf_le (M : Ms) {p : Nat} (h : mcf M p = true) : p ≤ cny (mc M) := shS_le h
theorem lsF_nat {f : Nat → Bool} (h0 : f 0 = true) (hf : ∀ p, f p = true → p ≤ 48) : ∃ h, lsF f 49 = nI h ∧ f h = true := by
  have key : ∀ m, 0 < m → m ≤ 49 → ∃ h, lsF f m = nI h ∧ f h = true := by
    intro m
    induction m with
    | zero => intro h; omega
    | succ m ih =>
      intro _ h49
      unfold lsF
      split
      · exact ⟨m, rfl, by assumption⟩
      · rcases Nat.eq_zero_or_pos m with e | e
        · subst e; rename_i hh; exact absurd h0 hh
        · exact ih e (by omega)
  exact key 49 (by decide) (by decide)
theorem k_two {r1 r2 : Int32} {o : Int32} (hI : CI S n M) : zM m_X2_milesOfTwo 0 0 [.ref 1, .int r1, .int r2, .int o] (zw S n) (zE (some (.int (if o = 0 then r2 * nI (twS M r1 r2).2.2.2 else r1 * nI (twS M r1 r2).2.2.1))) (zw S n)) := by
  have h48 : ∀ p, mcf M p = true → p ≤ 48 := fun p hp => Nat.le_trans (mcf_le M hp) hI.ok.2.1
  obtain ⟨h, he, hh⟩ := lsF_nat (shS_0 _ _) h48
  have := c_X2_milesOfTwo (b := 1) (h0 := h) (r1 := r1) (r2 := r2) (o := o) (Or.inl rfl) hI.cv hI.ok (fun p hp => by rw [shF_8 hI.ok] at hp; exact shS_le hp) (by rw [shF_8 hI.ok]; exact he) (shS_le hh)
  rw [shF_8 hI.ok] at this
  unfold twS
  rw [show lsF (mcf M) 49 = nI h from he, nI_nat (by have := h48 h hh; omega)]
  exact this
theorem k_feesOf {f : Nat → Bool} {r : Int32} {bg : Nat} (hI : CI S n M) : zM m_X2_feesOf 0 0 [.ref 1, .long (lmk (WL (mc M) f r bg).tail)] (zw S n) (zE (some (.int (nI (feL (mc M) (WL (mc M) f r bg).tail)))) (zw S n)) := by
  have := c_X2_feesOf (b := 1) (f := fun k => decide (k ∈ (WL (mc M) f r bg).tail)) (Or.inl rfl) hI.cv hI.ok
  have nd := WL_nd (mc M) f r bg
  rw [fsF_8 hI.ok (nd.sublist (List.tail_sublist _)) (fun x hx => ?_)] at this
  · exact this
  · cases e : WL (mc M) f r bg with
    | nil => rw [e] at hx; cases hx
    | cons a t =>
      rw [e] at hx nd
      have h1 : x ∈ WL (mc M) f r bg := by rw [e]; exact List.mem_cons_of_mem _ hx
      have := WL_rng h1
      have := List.rel_of_pairwise_cons nd hx
      omega
end ZKS
set_option maxRecDepth 100000 in
set_option maxHeartbeats 4000000 in
theorem c_X11_payOf {S : ZS} {n : Nat} {M : Ms} (hI : CI S n M) {f : Nat → Bool} {r : Int32} {bg : Nat} : zM m_X11_payOf 0 0 [.ref 0, .long (lmk (WL (mc M) f r bg)), .int r] (zw S n) (zE (some (.int (pyS (mc M) f r bg))) (zw S n)) := by
  show Z m_X11_payOf _ _ _ 0 [some (.ref _), some (.long _), none, some (.int _)] [] _
  refine Z_lload_n dX11_payOf_0 rfl (pc' := 1) rfl ?_
  refine Z_lload_n dX11_payOf_1 rfl (pc' := 2) rfl ?_
  refine Z_lconst dX11_payOf_2 (v := 1) (by decide) (pc' := 3) rfl ?_
  refine Z_lsub dX11_payOf_3 (pc' := 4) rfl ?_
  refine Z_land dX11_payOf_4 (pc' := 5) rfl ?_
  rw [low_list (WL_nd ..) (fun x hx => by have := WL_rng hx; have := hI.ok.2.1; omega)]
  refine Z_lstore dX11_payOf_5 (Nat.le_of_ble_eq_true rfl) (Nat.le_of_ble_eq_true rfl) rfl (ls' := [_, _, _, _, _, _]) rfl (pc' := 7) rfl ?_
  refine Z_iload_n dX11_payOf_7 rfl (pc' := 8) rfl ?_
  refine Z_lload_n dX11_payOf_8 rfl (pc' := 9) rfl ?_
  refine Z_cSe dX11_payOf_9 rfl zcw_X11_stepsOf (As := [_]) (rest := [_]) rfl ⟨Nat.le_of_ble_eq_true rfl, Nat.le_of_ble_eq_true rfl⟩ (Nat.le_of_ble_eq_true rfl) ⟨zcw_X11_stepsOf.2.2.2.2, Nat.le_of_ble_eq_true rfl⟩ zk_RX11_115 (k_stepsOf hI) (pc' := 12) rfl ?_
  refine Z_imul dX11_payOf_12 (pc' := 13) rfl ?_
  refine Z_aload_n dX11_payOf_13 rfl (z_isref _) (pc' := 14) rfl ?_
  refine Z_gR dX11_payOf_14 rfl zgr_RX11_10_0 (pc' := 17) rfl ?_
  refine Z_lload dX11_payOf_17 rfl (pc' := 19) rfl ?_
  refine Z_cVe dX11_payOf_19 rfl zcw_X2_feesOf (As := [_]) (rest := [_]) rfl ⟨Nat.le_of_ble_eq_true rfl, Nat.le_of_ble_eq_true rfl⟩ (Nat.le_of_ble_eq_true rfl) (zRcv.lay zob_1) ⟨zcw_X2_feesOf.2.2.2.2, Nat.le_of_ble_eq_true rfl⟩ zk_RX11_247 (k_feesOf hI) (pc' := 22) rfl ?_
  refine Z_iadd dX11_payOf_22 (pc' := 23) rfl ?_
  exact Z_ireturn dX11_payOf_23 rfl rfl ⟨rfl, rfl⟩
set_option maxRecDepth 100000 in
set_option maxHeartbeats 4000000 in
theorem c_X11_overOf_n {S : ZS} {n : Nat} {M : Ms} {r : Int32} {bg : Nat} (el : (WL (mc M) (mcf M) r bg).getLast? = none) : Z m_X11_overOf 0 0 (zE (some (.int (nI (ovS (mcf M) (WL (mc M) (mcf M) r bg))))) (zw S n)) 4 [some (.long (zmk (mcf M))), none, some (.long (lmk (WL (mc M) (mcf M) r bg))), none] [.int (-9)] (zw S n) := by
  unfold ovS
  refine Z_istore dX11_overOf_4 (Nat.le_of_ble_eq_true rfl) (Nat.le_of_ble_eq_true rfl) rfl (ls' := [_, _, _, _, _]) rfl (pc' := 6) rfl ?_
  refine Z_iload dX11_overOf_6 rfl (pc' := 8) rfl ?_
  refine Z_if_ge dX11_overOf_8 (tgt := 15) rfl (pc' := 11) rfl (fun c_8 => absurd c_8 (by decide)) (fun c_8 => ?_)
  refine Z_iconst dX11_overOf_11 (v := 0) (by decide) (pc' := 12) rfl ?_
  refine Z_goto dX11_overOf_12 (tgt := 24) rfl ?_
  exact Z_ireturn dX11_overOf_24 rfl rfl ⟨by rw [el]; rfl, rfl⟩
theorem h63 {S : ZS} {n : Nat} {M : Ms} (hI : CI S n M) : mcf M 63 = false := by
  cases e : mcf M 63
  · rfl
  · have := mcf_le M e
    have := hI.ok.2.1
    omega
theorem ov_eq {S : ZS} {n : Nat} {M : Ms} (hI : CI S n M) {a : Nat} (ha : a ≤ 48) : zct (fun i => decide (a + 1 + i < 64) && mcf M (a + 1 + i)) 64 = zct (fun p => decide (a < p) && mcf M p) 49 := by
  have h48 : ∀ p, mcf M p = true → p ≤ 48 := fun p hp => Nat.le_trans (mcf_le M hp) hI.ok.2.1
  have h49 : ∀ p, 48 < p → mcf M p = false := fun p hp => by
    cases e : mcf M p
    · rfl
    · have := h48 p e; omega
  have e1 := zct_add (fun p => decide (a < p) && mcf M p) (a + 1) 64
  have e2 := zct_off (fun p => decide (a < p) && mcf M p) 49 (a + 1 + 64 - 49) (fun i _ => by simp [h49 (49 + i) (by omega)])
  rw [show 49 + (a + 1 + 64 - 49) = a + 1 + 64 by omega, e1] at e2
  rw [← e2, zct_cong (g := fun _ => false) (a + 1) (fun k hk => by have : ¬ a < k := by omega
                                                                   simp [this]), zct_none, Nat.zero_add]
  refine zct_cong 64 fun i _ => ?_
  have h1 : a < a + 1 + i := by omega
  by_cases h2 : a + 1 + i < 64
  · simp [h1, h2]
  · simp [h1, h2, h49 (a + 1 + i) (by omega)]
set_option maxRecDepth 100000 in
set_option maxHeartbeats 4000000 in
theorem c_X11_overOf_s {S : ZS} {n : Nat} {M : Ms} {r : Int32} {bg : Nat} {a : Nat} (hI : CI S n M) (el : (WL (mc M) (mcf M) r bg).getLast? = some a) : Z m_X11_overOf 0 0 (zE (some (.int (nI (ovS (mcf M) (WL (mc M) (mcf M) r bg))))) (zw S n)) 4 [some (.long (zmk (mcf M))), none, some (.long (lmk (WL (mc M) (mcf M) r bg))), none] [.int (nI a)] (zw S n) := by
  have ha : a ≤ 48 := by
    have := (getLast_max (WL_nd ..) el).1
    have := WL_rng this
    have := hI.ok.2.1
    omega
  unfold ovS
  refine Z_istore dX11_overOf_4 (Nat.le_of_ble_eq_true rfl) (Nat.le_of_ble_eq_true rfl) rfl (ls' := [_, _, _, _, _]) rfl (pc' := 6) rfl ?_
  refine Z_iload dX11_overOf_6 rfl (pc' := 8) rfl ?_
  refine Z_if_ge dX11_overOf_8 (tgt := 15) rfl (pc' := 11) rfl (fun c_8 => ?_) (fun c_8 => absurd c_8 (fun c => c (Int32.not_lt.mp (nI_neg (by omega)))))
  refine Z_lload_n dX11_overOf_15 rfl (pc' := 16) rfl ?_
  refine Z_iload dX11_overOf_16 rfl (pc' := 18) rfl ?_
  refine Z_iconst dX11_overOf_18 (v := 1) (by decide) (pc' := 19) rfl ?_
  refine Z_iadd dX11_overOf_19 (pc' := 20) rfl ?_
  rw [show (1 : Int32) = nI 1 from rfl, nI_add]
  refine Z_lshr dX11_overOf_20 (pc' := 21) rfl ?_
  rw [zmk_shr (by omega) (h63 hI)]
  refine Z_cSe dX11_overOf_21 rfl zcw_J13_bitCount_95d88 (As := [_]) (rest := []) rfl ⟨Nat.le_of_ble_eq_true rfl, Nat.le_of_ble_eq_true rfl⟩ (Nat.le_of_ble_eq_true rfl) ⟨zcw_J13_bitCount_95d88.2.2.2.2, Nat.le_of_ble_eq_true rfl⟩ zk_RX11_206 c_J13_bitCount_95d88 (pc' := 24) rfl ?_
  exact Z_ireturn dX11_overOf_24 rfl rfl ⟨by rw [el, ov_eq hI ha], rfl⟩
set_option maxRecDepth 100000 in
set_option maxHeartbeats 4000000 in
theorem c_X11_overOf {S : ZS} {n : Nat} {M : Ms} (hI : CI S n M) {r : Int32} {bg : Nat} : zM m_X11_overOf 0 0 [.long (zmk (mcf M)), .long (lmk (WL (mc M) (mcf M) r bg))] (zw S n) (zE (some (.int (nI (ovS (mcf M) (WL (mc M) (mcf M) r bg))))) (zw S n)) := by
  show Z m_X11_overOf _ _ _ 0 [some (.long _), none, some (.long _), none] [] _
  refine Z_lload_n dX11_overOf_0 rfl (pc' := 1) rfl ?_
  refine Z_cSe dX11_overOf_1 rfl zcw_X11_lastOf (As := [_]) (rest := []) rfl ⟨Nat.le_of_ble_eq_true rfl, Nat.le_of_ble_eq_true rfl⟩ (Nat.le_of_ble_eq_true rfl) ⟨zcw_X11_lastOf.2.2.2.2, Nat.le_of_ble_eq_true rfl⟩ zk_RX11_123 (k_lastOf hI) (pc' := 4) rfl ?_
  cases el : (WL (mc M) (mcf M) r bg).getLast? with
  | none => exact c_X11_overOf_n el
  | some a => exact c_X11_overOf_s hI el
set_option maxRecDepth 100000 in
set_option maxHeartbeats 4000000 in
theorem c_X11_walk {S : ZS} {n : Nat} {M : Ms} (hI : CI S n M) {a b0 x : Int32} : zM m_X11_walk 0 0 [.ref 0, .int a, .int b0, .int x] (zw S n) (pR S n (spWalk M a b0 x)) := by
  show Z m_X11_walk _ _ _ 0 [some (.ref _), some (.int _), some (.int _), some (.int _)] [] _
  refine Z_iload_n dX11_walk_0 rfl (pc' := 1) rfl ?_
  refine Z_if_lt dX11_walk_1 (tgt := 9) rfl (pc' := 4) rfl (fun c_1 => ?_) (fun c_1 => ?_)
  · refine Z_aload_n dX11_walk_9 rfl (z_isref _) (pc' := 10) rfl ?_
    refine Z_bipush dX11_walk_10 (v := (-2)) (by decide) (pc' := 12) rfl ?_
    refine Z_cVe dX11_walk_12 rfl zcw_X11_refuse (As := [_]) (rest := []) rfl ⟨Nat.le_of_ble_eq_true rfl, Nat.le_of_ble_eq_true rfl⟩ (Nat.le_of_ble_eq_true rfl) (zRcv.lay zob_0) ⟨zcw_X11_refuse.2.2.2.2, Nat.le_of_ble_eq_true rfl⟩ zk_RX11_43 (c_X11_refuse (k := 2) (by decide) (by decide)) (pc' := 15) rfl ?_
    exact Z_ireturn dX11_walk_15 rfl rfl (pR.no hI (by decide) (by unfold spWalk; rw [if_pos (Or.inl c_1)]))
  · refine Z_iload_n dX11_walk_4 rfl (pc' := 5) rfl ?_
    refine Z_iconst dX11_walk_5 (v := 4) (by decide) (pc' := 6) rfl ?_
    refine Z_icmp_le dX11_walk_6 (tgt := 16) rfl (pc' := 9) rfl (fun c_6 => ?_) (fun c_6 => ?_)
    · refine Z_iload_n dX11_walk_16 rfl (pc' := 17) rfl ?_
      refine Z_iload_n dX11_walk_17 rfl (pc' := 18) rfl ?_
      refine Z_cSe dX11_walk_18 rfl zcw_X11_walkRefusal (As := [_, _]) (rest := []) rfl ⟨Nat.le_of_ble_eq_true rfl, Nat.le_of_ble_eq_true rfl⟩ (Nat.le_of_ble_eq_true rfl) ⟨zcw_X11_walkRefusal.2.2.2.2, Nat.le_of_ble_eq_true rfl⟩ zk_RX11_107 c_X11_walkRefusal (pc' := 21) rfl ?_
      refine Z_istore dX11_walk_21 (Nat.le_of_ble_eq_true rfl) (Nat.le_of_ble_eq_true rfl) rfl (ls' := [_, _, _, _, _]) rfl (pc' := 23) rfl ?_
      refine Z_iload dX11_walk_23 rfl (pc' := 25) rfl ?_
      refine Z_if_eq dX11_walk_25 (tgt := 35) rfl (pc' := 28) rfl (fun c_25 => ?_) (fun c_25 => ?_)
      · have c25 := c_25
        obtain ⟨r, b, hr1, hr9, hb9, rfl, rfl⟩ := wrI_0 c_25
        refine Z_aload_n dX11_walk_35 rfl (z_isref _) (pc' := 36) rfl ?_
        refine Z_gR dX11_walk_36 rfl zgr_RX11_10_0 (pc' := 39) rfl ?_
        refine Z_cVe dX11_walk_39 rfl zcw_X2_shoreNow (As := []) (rest := []) rfl ⟨Nat.le_of_ble_eq_true rfl, Nat.le_of_ble_eq_true rfl⟩ (Nat.le_of_ble_eq_true rfl) (zRcv.lay zob_1) ⟨zcw_X2_shoreNow.2.2.2.2, Nat.le_of_ble_eq_true rfl⟩ zk_RX11_99 (k_shoreNow hI) (pc' := 42) rfl ?_
        refine Z_lstore dX11_walk_42 (Nat.le_of_ble_eq_true rfl) (Nat.le_of_ble_eq_true rfl) rfl (ls' := [_, _, _, _, _, _, _]) rfl (pc' := 44) rfl ?_
        refine Z_aload_n dX11_walk_44 rfl (z_isref _) (pc' := 45) rfl ?_
        refine Z_gR dX11_walk_45 rfl zgr_RX11_10_0 (pc' := 48) rfl ?_
        refine Z_lload dX11_walk_48 rfl (pc' := 50) rfl ?_
        refine Z_iload_n dX11_walk_50 rfl (pc' := 51) rfl ?_
        refine Z_iload_n dX11_walk_51 rfl (pc' := 52) rfl ?_
        refine Z_cVe dX11_walk_52 rfl zcw_X2_reachedFrom (As := [_, _, _]) (rest := []) rfl ⟨Nat.le_of_ble_eq_true rfl, Nat.le_of_ble_eq_true rfl⟩ (Nat.le_of_ble_eq_true rfl) (zRcv.lay zob_1) ⟨zcw_X2_reachedFrom.2.2.2.2, Nat.le_of_ble_eq_true rfl⟩ zk_RX11_111 (k_reachedFrom hI (by omega)) (pc' := 55) rfl ?_
        refine Z_lstore dX11_walk_55 (Nat.le_of_ble_eq_true rfl) (Nat.le_of_ble_eq_true rfl) rfl (ls' := [_, _, _, _, _, _, _, _, _]) rfl (pc' := 57) rfl ?_
        refine Z_iload_n dX11_walk_57 rfl (pc' := 58) rfl ?_
        refine Z_topi (fun x_58 e_58 => ?_)
        by_cases k_58_0 : x_58 = 0
        · subst k_58_0
          subst e_58
          refine Z_tableIn dX11_walk_58 (by decide) (by decide) (off := 30) rfl (tgt := 88) rfl ?_
          refine Z_lload dX11_walk_88 rfl (pc' := 90) rfl ?_
          refine Z_cSe dX11_walk_90 rfl zcw_X11_stepsOf (As := [_]) (rest := []) rfl ⟨Nat.le_of_ble_eq_true rfl, Nat.le_of_ble_eq_true rfl⟩ (Nat.le_of_ble_eq_true rfl) ⟨zcw_X11_stepsOf.2.2.2.2, Nat.le_of_ble_eq_true rfl⟩ zk_RX11_115 (k_stepsOf hI) (pc' := 93) rfl ?_
          exact Z_ireturn dX11_walk_93 rfl rfl (pR.st hI (by unfold spWalk; rw [if_neg (n_or c_1 (i_nlt c_6)), if_neg (fun h => h c25), nI_nat (by omega)]; rfl))
        by_cases k_58_1 : x_58 = 1
        · subst k_58_1
          subst e_58
          refine Z_tableIn dX11_walk_58 (by decide) (by decide) (off := 36) rfl (tgt := 94) rfl ?_
          refine Z_iload_n dX11_walk_94 rfl (pc' := 95) rfl ?_
          refine Z_lload dX11_walk_95 rfl (pc' := 97) rfl ?_
          refine Z_cSe dX11_walk_97 rfl zcw_X11_stepsOf (As := [_]) (rest := [_]) rfl ⟨Nat.le_of_ble_eq_true rfl, Nat.le_of_ble_eq_true rfl⟩ (Nat.le_of_ble_eq_true rfl) ⟨zcw_X11_stepsOf.2.2.2.2, Nat.le_of_ble_eq_true rfl⟩ zk_RX11_115 (k_stepsOf hI) (pc' := 100) rfl ?_
          refine Z_imul dX11_walk_100 (pc' := 101) rfl ?_
          exact Z_ireturn dX11_walk_101 rfl rfl (pR.st hI (by unfold spWalk; rw [if_neg (n_or c_1 (i_nlt c_6)), if_neg (fun h => h c25), nI_nat (by omega)]; rfl))
        by_cases k_58_2 : x_58 = 2
        · subst k_58_2
          subst e_58
          refine Z_tableIn dX11_walk_58 (by decide) (by decide) (off := 44) rfl (tgt := 102) rfl ?_
          refine Z_aload_n dX11_walk_102 rfl (z_isref _) (pc' := 103) rfl ?_
          refine Z_lload dX11_walk_103 rfl (pc' := 105) rfl ?_
          refine Z_iload_n dX11_walk_105 rfl (pc' := 106) rfl ?_
          refine Z_cVe dX11_walk_106 rfl zcw_X11_payOf (As := [_, _]) (rest := []) rfl ⟨Nat.le_of_ble_eq_true rfl, Nat.le_of_ble_eq_true rfl⟩ (Nat.le_of_ble_eq_true rfl) (zRcv.lay zob_0) ⟨zcw_X11_payOf.2.2.2.2, Nat.le_of_ble_eq_true rfl⟩ zk_RX11_119 (c_X11_payOf hI) (pc' := 109) rfl ?_
          exact Z_ireturn dX11_walk_109 rfl rfl (pR.st hI (by unfold spWalk; rw [if_neg (n_or c_1 (i_nlt c_6)), if_neg (fun h => h c25), nI_nat (by omega)]; rfl))
        by_cases k_58_3 : x_58 = 3
        · subst k_58_3
          subst e_58
          refine Z_tableIn dX11_walk_58 (by decide) (by decide) (off := 52) rfl (tgt := 110) rfl ?_
          refine Z_lload dX11_walk_110 rfl (pc' := 112) rfl ?_
          refine Z_cSe dX11_walk_112 rfl zcw_X11_lastOf (As := [_]) (rest := []) rfl ⟨Nat.le_of_ble_eq_true rfl, Nat.le_of_ble_eq_true rfl⟩ (Nat.le_of_ble_eq_true rfl) ⟨zcw_X11_lastOf.2.2.2.2, Nat.le_of_ble_eq_true rfl⟩ zk_RX11_123 (k_lastOf hI) (pc' := 115) rfl ?_
          exact Z_ireturn dX11_walk_115 rfl rfl (pR.st hI (by unfold spWalk; rw [if_neg (n_or c_1 (i_nlt c_6)), if_neg (fun h => h c25), nI_nat (by omega)]; rfl))
        refine Z_tableOut dX11_walk_58 (by have h0 := i32_nev k_58_0 (v := 0) (by decide); have h1 := i32_nev k_58_1 (v := 1) (by decide); have h2 := i32_nev k_58_2 (v := 2) (by decide); have h3 := i32_nev k_58_3 (v := 3) (by decide); omega) (tgt := 116) rfl ?_
        subst e_58
        refine Z_lload dX11_walk_116 rfl (pc' := 118) rfl ?_
        refine Z_lload dX11_walk_118 rfl (pc' := 120) rfl ?_
        refine Z_cSe dX11_walk_120 rfl zcw_X11_overOf (As := [_, _]) (rest := []) rfl ⟨Nat.le_of_ble_eq_true rfl, Nat.le_of_ble_eq_true rfl⟩ (Nat.le_of_ble_eq_true rfl) ⟨zcw_X11_overOf.2.2.2.2, Nat.le_of_ble_eq_true rfl⟩ zk_RX11_126 (c_X11_overOf hI) (pc' := 123) rfl ?_
        exact Z_ireturn dX11_walk_123 rfl rfl (pR.st hI (by unfold spWalk; rw [if_neg (n_or c_1 (i_nlt c_6)), if_neg (fun h => h c25), nI_nat (by omega), if_neg k_58_0, if_neg k_58_1, if_neg k_58_2, if_neg k_58_3]))
      · obtain ⟨k, hk, hx, hy⟩ := wrI_k c_25
        refine Z_aload_n dX11_walk_28 rfl (z_isref _) (pc' := 29) rfl ?_
        refine Z_iload dX11_walk_29 rfl (pc' := 31) rfl ?_
        refine Z_cVe dX11_walk_31 rfl zcw_X11_refuse (As := [_]) (rest := []) rfl ⟨Nat.le_of_ble_eq_true rfl, Nat.le_of_ble_eq_true rfl⟩ (Nat.le_of_ble_eq_true rfl) (zRcv.lay zob_0) ⟨zcw_X11_refuse.2.2.2.2, Nat.le_of_ble_eq_true rfl⟩ zk_RX11_43 (c_X11_refuse hk hx) (pc' := 34) rfl ?_
        exact Z_ireturn dX11_walk_34 rfl rfl (pR.no hI hk (by unfold spWalk noV; rw [if_neg (n_or c_1 (i_nlt c_6)), if_pos c_25, hy]))
    · refine Z_aload_n dX11_walk_9 rfl (z_isref _) (pc' := 10) rfl ?_
      refine Z_bipush dX11_walk_10 (v := (-2)) (by decide) (pc' := 12) rfl ?_
      refine Z_cVe dX11_walk_12 rfl zcw_X11_refuse (As := [_]) (rest := []) rfl ⟨Nat.le_of_ble_eq_true rfl, Nat.le_of_ble_eq_true rfl⟩ (Nat.le_of_ble_eq_true rfl) (zRcv.lay zob_0) ⟨zcw_X11_refuse.2.2.2.2, Nat.le_of_ble_eq_true rfl⟩ zk_RX11_43 (c_X11_refuse (k := 2) (by decide) (by decide)) (pc' := 15) rfl ?_
      exact Z_ireturn dX11_walk_15 rfl rfl (pR.no hI (by decide) (by unfold spWalk; rw [if_pos (Or.inr (i_lt c_6))]))
theorem i_nat {a : Int32} (h : 0 ≤ a) : ∃ k, k < 2147483648 ∧ a = nI k := by
  rcases i32_cases a with q | q
  · exact absurd q (i_nlt h)
  · exact q
theorem mbF_big (f : Nat → Bool) : ∀ (m p i : Nat), m ≤ i → i < 2147483648 → mbF f m p (nI i) = -9
  | 0, _, _, _, _ => rfl
  | m + 1, p, i, h, hi => by
    unfold mbF
    split
    · rw [if_neg (fun e => by have := (nI_eqn (a := i) (b := 0) hi (by decide)).mp e; omega), nI_dec (by omega)]
      exact mbF_big f m (p + 1) (i - 1) (by omega) (by omega)
    · exact mbF_big f m (p + 1) i (by omega) hi
theorem k_memberOf2 {S : ZS} {n : Nat} {M : Ms} {f : Nat → Bool} {r : Int32} {bg i : Nat} (hI : CI S n M) (hi : i < 2147483648) : zM m_X11_memberOf 0 0 [.long (lmk (WL (mc M) f r bg)), .int (nI i)] (zw S n) (zE (some (.int (oI (WL (mc M) f r bg)[i]?))) (zw S n)) := by
  rcases Nat.lt_or_ge i 1000 with h | h
  · exact k_memberOf hI h
  · have := c_X11_memberOf (f := fun k => decide (k ∈ WL (mc M) f r bg)) (i := nI i) (ω := zw S n)
    rw [mbF_big _ 49 0 i (by omega) hi] at this
    have hl : (WL (mc M) f r bg).length ≤ 64 := by
      rw [← zct_list (WL (mc M) f r bg) 64 (WL_nd ..) (fun x hx => by have := WL_rng hx; have := hI.ok.2.1; omega)]
      exact zct_le _ 64
    rw [List.getElem?_eq_none (by omega)]
    exact this
set_option maxRecDepth 100000 in
set_option maxHeartbeats 4000000 in
theorem c_X11_place {S : ZS} {n : Nat} {M : Ms} (hI : CI S n M) {a b0 x : Int32} : zM m_X11_place 0 0 [.ref 0, .int a, .int b0, .int x] (zw S n) (pR S n (spPlace M a b0 x)) := by
  show Z m_X11_place _ _ _ 0 [some (.ref _), some (.int _), some (.int _), some (.int _)] [] _
  refine Z_iload_n dX11_place_0 rfl (pc' := 1) rfl ?_
  refine Z_if_ge dX11_place_1 (tgt := 11) rfl (pc' := 4) rfl (fun c_1 => ?_) (fun c_1 => ?_)
  · refine Z_iload_n dX11_place_11 rfl (pc' := 12) rfl ?_
    refine Z_iload_n dX11_place_12 rfl (pc' := 13) rfl ?_
    refine Z_cSe dX11_place_13 rfl zcw_X11_walkRefusal (As := [_, _]) (rest := []) rfl ⟨Nat.le_of_ble_eq_true rfl, Nat.le_of_ble_eq_true rfl⟩ (Nat.le_of_ble_eq_true rfl) ⟨zcw_X11_walkRefusal.2.2.2.2, Nat.le_of_ble_eq_true rfl⟩ zk_RX11_107 c_X11_walkRefusal (pc' := 16) rfl ?_
    refine Z_istore dX11_place_16 (Nat.le_of_ble_eq_true rfl) (Nat.le_of_ble_eq_true rfl) rfl (ls' := [_, _, _, _, _]) rfl (pc' := 18) rfl ?_
    refine Z_iload dX11_place_18 rfl (pc' := 20) rfl ?_
    refine Z_if_eq dX11_place_20 (tgt := 30) rfl (pc' := 23) rfl (fun c_20 => ?_) (fun c_20 => ?_)
    · have c25 := c_20
      obtain ⟨r, b, hr1, hr9, hb9, rfl, rfl⟩ := wrI_0 c_20
      obtain ⟨i, hi, rfl⟩ := i_nat c_1
      refine Z_aload_n dX11_place_30 rfl (z_isref _) (pc' := 31) rfl ?_
      refine Z_gR dX11_place_31 rfl zgr_RX11_10_0 (pc' := 34) rfl ?_
      refine Z_aload_n dX11_place_34 rfl (z_isref _) (pc' := 35) rfl ?_
      refine Z_gR dX11_place_35 rfl zgr_RX11_10_0 (pc' := 38) rfl ?_
      refine Z_cVe dX11_place_38 rfl zcw_X2_shoreNow (As := []) (rest := [_]) rfl ⟨Nat.le_of_ble_eq_true rfl, Nat.le_of_ble_eq_true rfl⟩ (Nat.le_of_ble_eq_true rfl) (zRcv.lay zob_1) ⟨zcw_X2_shoreNow.2.2.2.2, Nat.le_of_ble_eq_true rfl⟩ zk_RX11_99 (k_shoreNow hI) (pc' := 41) rfl ?_
      refine Z_iload_n dX11_place_41 rfl (pc' := 42) rfl ?_
      refine Z_iload_n dX11_place_42 rfl (pc' := 43) rfl ?_
      refine Z_cVe dX11_place_43 rfl zcw_X2_reachedFrom (As := [_, _, _]) (rest := []) rfl ⟨Nat.le_of_ble_eq_true rfl, Nat.le_of_ble_eq_true rfl⟩ (Nat.le_of_ble_eq_true rfl) (zRcv.lay zob_1) ⟨zcw_X2_reachedFrom.2.2.2.2, Nat.le_of_ble_eq_true rfl⟩ zk_RX11_111 (k_reachedFrom hI (by omega)) (pc' := 46) rfl ?_
      refine Z_iload_n dX11_place_46 rfl (pc' := 47) rfl ?_
      refine Z_cSe dX11_place_47 rfl zcw_X11_memberOf (As := [_, _]) (rest := []) rfl ⟨Nat.le_of_ble_eq_true rfl, Nat.le_of_ble_eq_true rfl⟩ (Nat.le_of_ble_eq_true rfl) ⟨zcw_X11_memberOf.2.2.2.2, Nat.le_of_ble_eq_true rfl⟩ zk_RX11_130 (k_memberOf2 hI hi) (pc' := 50) rfl ?_
      exact Z_ireturn dX11_place_50 rfl rfl (pR.st hI (by unfold spPlace; rw [if_neg (i_nlt c_1), if_neg (fun h => h c25), nI_nat (by omega), nI_nat hi]))
    · obtain ⟨k, hk, hx, hy⟩ := wrI_k c_20
      refine Z_aload_n dX11_place_23 rfl (z_isref _) (pc' := 24) rfl ?_
      refine Z_iload dX11_place_24 rfl (pc' := 26) rfl ?_
      refine Z_cVe dX11_place_26 rfl zcw_X11_refuse (As := [_]) (rest := []) rfl ⟨Nat.le_of_ble_eq_true rfl, Nat.le_of_ble_eq_true rfl⟩ (Nat.le_of_ble_eq_true rfl) (zRcv.lay zob_0) ⟨zcw_X11_refuse.2.2.2.2, Nat.le_of_ble_eq_true rfl⟩ zk_RX11_43 (c_X11_refuse hk hx) (pc' := 29) rfl ?_
      exact Z_ireturn dX11_place_29 rfl rfl (pR.no hI hk (by unfold spPlace noV; rw [if_neg (i_nlt c_1), if_pos c_20, hy]))
  · refine Z_aload_n dX11_place_4 rfl (z_isref _) (pc' := 5) rfl ?_
    refine Z_bipush dX11_place_5 (v := (-4)) (by decide) (pc' := 7) rfl ?_
    refine Z_cVe dX11_place_7 rfl zcw_X11_refuse (As := [_]) (rest := []) rfl ⟨Nat.le_of_ble_eq_true rfl, Nat.le_of_ble_eq_true rfl⟩ (Nat.le_of_ble_eq_true rfl) (zRcv.lay zob_0) ⟨zcw_X11_refuse.2.2.2.2, Nat.le_of_ble_eq_true rfl⟩ zk_RX11_43 (c_X11_refuse (k := 4) (by decide) (by decide)) (pc' := 10) rfl ?_
    exact Z_ireturn dX11_place_10 rfl rfl (pR.no hI (by decide) (by unfold spPlace; rw [if_pos (i_lt c_1)]))
