theorem ydF_facts (tx : Nat → Int32) (L p : Nat) : ∀ (m i : Nat) (c : Co), cns (ydF tx L p m i c) = cns c ∧ cny (ydF tx L p m i c) = cny c + m ∧ cnr (ydF tx L p m i c) = cnr c ∧ ctd (ydF tx L p m i c) = ctd c ∧
    (∀ k, ckd (ydF tx L p m i c) k = ckd c k ∧ cfg (ydF tx L p m i c) k = cfg c k ∧ cfs (ydF tx L p m i c) k = cfs c k ∧ cln (ydF tx L p m i c) k = cln c k) ∧
    (∀ q, cso (ydF tx L p m i c) q = if cny c < q ∧ q ≤ cny c + m then cns c - 1 else cso c q) ∧ (∀ k, crx (ydF tx L p m i c) k = crx c k ∧ cry (ydF tx L p m i c) k = cry c k ∧ clw (ydF tx L p m i c) k = clw c k ∧ chg (ydF tx L p m i c) k = chg c k)
  | 0, _, c => ⟨rfl, rfl, rfl, rfl, fun _ => ⟨rfl, rfl, rfl, rfl⟩, fun q => by rw [if_neg (by omega)]; rfl, fun _ => ⟨rfl, rfl, rfl, rfl⟩⟩
  | m + 1, i, c => by
    obtain ⟨e1, e2, e3, e4, e5, e6, e7, e8, e9⟩ := addYd_facts c (xW c (ltr tx L (p + i))) (yW c (ltr tx L (p + i)))
    obtain ⟨f1, f2, f3, f4, f5, f6, f7⟩ := ydF_facts tx L p m (i + 1) (addYd c (xW c (ltr tx L (p + i))) (yW c (ltr tx L (p + i))))
    unfold ydF
    refine ⟨f1.trans e1, by rw [f2, e2]; omega, f3.trans e3, f4.trans e4, fun k => ?_, fun q => ?_, fun k => ?_⟩
    · exact ⟨(f5 k).1.trans (e5 k).1, (f5 k).2.1.trans (e5 k).2.1, (f5 k).2.2.1.trans (e5 k).2.2.1, (f5 k).2.2.2.trans (e5 k).2.2.2⟩
    · rw [f6, e2, e1, e6]
      by_cases h1 : cny c + 1 < q ∧ q ≤ cny c + 1 + m
      · rw [if_pos h1, if_pos (by omega)]
      · rw [if_neg h1]
        by_cases h2 : q = cny c + 1
        · rw [if_pos h2, if_pos (by omega)]
        · rw [if_neg h2, if_neg (by omega)]
    · exact ⟨(f7 k).1.trans (e7 k).1, (f7 k).2.1.trans (e7 k).2.1, (f7 k).2.2.1.trans (e7 k).2.2.1, (f7 k).2.2.2.trans (e7 k).2.2.2⟩
theorem Cok_st {c : Co} (ok : Cok c) {tx : Nat → Int32} {L p kd fg ln : Nat} (h8 : cns c < 8) (h48 : cny c + ln ≤ 48) (hkd : kd ≤ 5) (hfg : fg ≤ 9) (hl1 : 1 ≤ ln) (hl9 : ln ≤ 9) : Cok (ydF tx L p ln 0 (addSt c kd fg ln)) := by
  obtain ⟨e1, e2, e3, e4, e5, e6, e7, e8, e9, e10, e11⟩ := addSt_facts c kd fg ln
  obtain ⟨f1, f2, f3, f4, f5, f6, f7⟩ := ydF_facts tx L p ln 0 (addSt c kd fg ln)
  obtain ⟨g1, g2, g3, g4, g5, g6, g7, g8⟩ := ok
  rw [e1] at f1; rw [e2] at f2; rw [e3] at f3; rw [e4] at f4
  refine ⟨by omega, by omega, by omega, by omega, fun k hk => ?_, fun q h1 h2 => ?_, fun k hk q h1 h2 => ?_, fun k hk => ?_⟩
  · rw [(f5 k).1, (f5 k).2.1, (f5 k).2.2.1, (f5 k).2.2.2, e5, e6, e7, e8, f2]
    by_cases h : k = cns c
    · rw [if_pos h, if_pos h, if_pos h, if_pos h]; omega
    · rw [if_neg h, if_neg h, if_neg h, if_neg h]
      have := g5 k (by omega)
      omega
  · rw [f6, e1, e2, e9, f1]
    split
    · omega
    · have := g6 q h1 (by omega)
      omega
  · rw [(f5 k).2.2.1, (f5 k).2.2.2, e7, e8, f6, e1, e2, e9]
    rw [f2] at h2
    by_cases h : k = cns c
    · rw [if_pos h, if_pos h]
      by_cases hq : cny c < q
      · rw [if_pos (by omega)]; omega
      · rw [if_neg (by omega)]
        have := g6 q h1 (by omega)
        omega
    · rw [if_neg h, if_neg h]
      have hk2 := g5 k (by omega)
      by_cases hq : cny c < q
      · rw [if_pos (by omega)]; omega
      · rw [if_neg (by omega)]
        exact g7 k (by omega) q h1 (by omega)
  · rw [(f7 k).1, (f7 k).2.1, (f7 k).2.2.1, (f7 k).2.2.2, (e10 k).1, (e10 k).2.1, (e10 k).2.2.1, (e10 k).2.2.2]
    exact g8 k (by omega)
theorem Cok_rk {c : Co} (ok : Cok c) {x y lo hi : Nat} (h6 : cnr c < 6) (hx : x ≤ 99) (hy : y ≤ 99) (hle : lo ≤ hi) (hh : hi ≤ 9) : Cok (addRk c x y lo hi) := by
  obtain ⟨e1, e2, e3, e4, e5, e6, e7, e8, e9, e10, e11⟩ := addRk_facts c x y lo hi
  obtain ⟨g1, g2, g3, g4, g5, g6, g7, g8⟩ := ok
  refine ⟨by omega, by omega, by omega, by omega, fun k hk => ?_, fun q h1 h2 => ?_, fun k hk q h1 h2 => ?_, fun k hk => ?_⟩
  · rw [(e5 k).1, (e5 k).2.1, (e5 k).2.2.1, (e5 k).2.2.2, e2]; exact g5 k (by omega)
  · rw [e6, e1]; exact g6 q h1 (by omega)
  · rw [(e5 k).2.2.1, (e5 k).2.2.2, e6]; exact g7 k (by omega) q h1 (by omega)
  · rw [e7, e8, e9, e10]
    by_cases h : k = cnr c
    · rw [if_pos h, if_pos h, if_pos h, if_pos h]; omega
    · rw [if_neg h, if_neg h, if_neg h, if_neg h]; exact g8 k (by omega)
theorem Cok_td {c : Co} (ok : Cok c) {t : Nat} (ht : t ≤ 9) : Cok (setTd c t) := by
  obtain ⟨e1, e2, e3, e4, e5, e6, e7, e8⟩ := setTd_facts c t
  obtain ⟨g1, g2, g3, g4, g5, g6, g7, g8⟩ := ok
  refine ⟨by omega, by omega, by omega, by omega, fun k hk => ?_, fun q h1 h2 => ?_, fun k hk q h1 h2 => ?_, fun k hk => ?_⟩
  · rw [(e5 k).1, (e5 k).2.1, (e5 k).2.2.1, (e5 k).2.2.2, e2]; exact g5 k (by omega)
  · rw [e6, e1]; exact g6 q h1 (by omega)
  · rw [(e5 k).2.2.1, (e5 k).2.2.2, e6]; exact g7 k (by omega) q h1 (by omega)
  · rw [(e7 k).1, (e7 k).2.1, (e7 k).2.2.1, (e7 k).2.2.2]; exact g8 k (by omega)
theorem tlF_ok {c c' : Co} (ok : Cok c) {tx : Nat → Int32} {L p q : Nat} (hwf : bsO tx L p = .inl q) (h : tlF tx L c p = some c') : Cok c' := by
  unfold tlF at h
  rcases bsO_wf hwf with ⟨hc, hd1, hd2, hw1⟩ | ⟨hc, hds⟩ | ⟨hc, hd1⟩
  · rw [if_pos hc] at h
    split at h
    · rename_i hh
      cases h
      exact Cok_st ok hh.1 hh.2.1 hh.2.2 (dgN_ok hd2).2 hw1 (wys_le _ _ _)
    · cases h
  · rw [if_neg (by rw [hc]; decide), if_pos hc] at h
    split at h
    · rename_i hh
      cases h
      have d1 := (dgN_ok (hds 0 (by omega))).2
      have d2 := (dgN_ok (hds 1 (by omega))).2
      have d3 := (dgN_ok (hds 2 (by omega))).2
      have d4 := (dgN_ok (hds 3 (by omega))).2
      have d6 := (dgN_ok (hds 5 (by omega))).2
      simp only [Nat.add_assoc, Nat.reduceAdd, Nat.add_zero] at d1 d2 d3 d4 d6
      exact Cok_rk ok hh.2 (by omega) (by omega) hh.1 d6
    · cases h
  · rw [if_neg (by rw [hc]; decide), if_neg (by rw [hc]; decide)] at h
    cases h
    exact Cok_td ok (dgN_ok hd1).2
/-- all statements, one behind the other; or the place of the first that is not as it must be -/
def rdF (tx : Nat → Int32) (L : Nat) : List Nat → Co → Nat → (Nat × Co) ⊕ Nat
  | [], c, k => .inl (k, c)
  | p :: l, c, k => match tlF tx L c p with
    | none => .inr p
    | some c' => rdF tx L l c' (k + 1)
def rdR (S : ZS) (n : Nat) (r : Option Value) (ω : ZW) (t : (Nat × Co) ⊕ Nat) : Prop := match t with
  | .inl (k, c) => r = some (.int (nI k)) ∧ Cok c ∧ ∃ S' n', ω = zw S' n' ∧ frm 1 12 S n S' n' ∧ cV S' n' 1 c
  | .inr p => r = some (.int (-2000 - nI p)) ∧ ∃ S' n', ω = zw S' n' ∧ frm 7 12 S n S' n' 
set_option maxRecDepth 100000 in
set_option maxHeartbeats 4000000 in
theorem lp_X11_read {S0 : ZS} {n0 L : Nat} {tx : Nat → Int32} (hL : L ≤ 80) {R : Option Value → ZW → Prop} {t : (Nat × Co) ⊕ Nat}
  (hR1 : ∀ p, t = .inr p → ∀ S1 n1, frm 7 12 S0 n0 S1 n1 → R (some (.int (-2000 - nI p))) (zw S1 n1))
  (hR2 : ∀ k c, t = .inl (k, c) → Cok c → ∀ S1 n1 p i, frm 7 12 S0 n0 S1 n1 → cV S1 n1 7 c → Z m_X11_readStatements 0 0 R 73 [some (.ref 0), some (.int (nI k)), some (.int (nI p)), some (.int (nI i))] [] (zw S1 n1)) :
  ∀ (m i p k : Nat) (c : Co) (l : List Nat) (S : ZS) (n : Nat), i + m = 80 → p < 250 → (if p < L then psF tx L m p else .inl []) = .inl l → lV S tx L → cV S n 7 c → Cok c → frm 7 12 S0 n0 S n → rdF tx L l c k = t → Z m_X11_readStatements m (4 * m) R 17 [some (.ref 0), some (.int (nI k)), some (.int (nI p)), some (.int (nI i))] [] (zw S n) := by
  intro m
  induction m with
  | zero =>
    intro i p k c l S n e hp hl0 hl hV ok hf hR
    obtain rfl : i = 80 := by omega
    have hl1 : l = [] := by
      split at hl0
      · unfold psF at hl0; cases hl0; rfl
      · cases hl0; rfl
    subst hl1
    refine Z_iload_n dX11_readStatements_17 rfl (pc' := 18) rfl ?_
    refine Z_bipush dX11_readStatements_18 (v := 80) (by decide) (pc' := 20) rfl ?_
    refine Z_icmp_ge dX11_readStatements_20 (tgt := 73) rfl (pc' := 23) rfl (fun c_20 => ?_) (fun c_20 => absurd c_20 (fun c => c (by decide)))
    exact hR2 k c hR.symm ok S n p 80 hf hV
  | succ m ih =>
    intro i p k c l S n e hp hl0 hl hV ok hf hR
    refine Z_iload_n dX11_readStatements_17 rfl (pc' := 18) rfl ?_
    refine Z_bipush dX11_readStatements_18 (v := 80) (by decide) (pc' := 20) rfl ?_
    refine Z_icmp_ge dX11_readStatements_20 (tgt := 73) rfl (pc' := 23) rfl (fun c_20 => absurd c_20 (by rw [show (80 : Int32) = nI 80 from rfl, nI_len (by omega) (by omega)]; omega)) (fun c_20 => ?_)
    refine Z_iload_n dX11_readStatements_23 rfl (pc' := 24) rfl ?_
    refine Z_aload_n dX11_readStatements_24 rfl (z_isref _) (pc' := 25) rfl ?_
    refine Z_gR dX11_readStatements_25 rfl zgr_RX11_32_0 (pc' := 28) rfl ?_
    refine Z_gI dX11_readStatements_28 rfl zgi_RX11_51_21 (pc' := 31) rfl ?_
    rw [hl.1]
    refine Z_icmp_ge dX11_readStatements_31 (tgt := 73) rfl (pc' := 34) rfl (fun c_31 => ?_) (fun c_31 => ?_)
    · have hl1 : l = [] := by
        rw [nI_len (by omega) (by omega)] at c_31
        rw [if_neg (by omega)] at hl0; cases hl0; rfl
      subst hl1
      exact Z_widen (Nat.zero_le _) (Nat.zero_le _) (hR2 k c hR.symm ok S n p i hf hV)
    · have hpL : p < L := by rw [nI_len (by omega) (by omega)] at c_31; omega
      rw [if_pos hpL] at hl0
      unfold psF at hl0
      cases hb : bsO tx L p with
      | inr x => rw [hb] at hl0; cases hl0
      | inl q =>
      have hq17 := bsO_le (tx := tx) (L := L) (p := p) (q := q) (Or.inl hb)
      rw [hb] at hl0
      simp only [] at hl0
      obtain ⟨l1, rfl, hl1⟩ : ∃ l1, l = p :: l1 ∧ (if q < L then psF tx L m q else .inl []) = .inl l1 := by
        split at hl0
        · rename_i hq
          rw [if_pos hq]
          cases hps : psF tx L m q with
          | inr x => rw [hps] at hl0; cases hl0
          | inl l1 => rw [hps] at hl0; cases hl0; exact ⟨l1, rfl, rfl⟩
        · rename_i hq
          rw [if_neg hq]
          cases hl0; exact ⟨[], rfl, rfl⟩
      rw [show m + 1 = 1 + m by omega, show 4 * (1 + m) = 4 + 4 * m by omega]
      refine Z_aload_n dX11_readStatements_34 rfl (z_isref _) (pc' := 35) rfl ?_
      refine Z_gR dX11_readStatements_35 rfl zgr_RX11_32_0 (pc' := 38) rfl ?_
      refine Z_aload_n dX11_readStatements_38 rfl (z_isref _) (pc' := 39) rfl ?_
      refine Z_gR dX11_readStatements_39 rfl zgr_RX11_16_0 (pc' := 42) rfl ?_
      refine Z_iload_n dX11_readStatements_42 rfl (pc' := 43) rfl ?_
      refine Z_cVa (kc' := 1) (ks' := 4) (kc := m) (ks := 4 * m) dX11_readStatements_43 rfl zcw_X3_tell (As := [_, _]) (rest := []) rfl ⟨Nat.le_of_ble_eq_true rfl, Nat.le_of_ble_eq_true rfl⟩ (Nat.le_of_ble_eq_true rfl) (zRcv.lay zob_21) ⟨zcw_X3_tell.2.2.2.2, Nat.le_of_ble_eq_true rfl⟩ zk_RX11_240 (c_X3_tell (by omega) hl hV ok hb) (pc' := 46) rfl (fun r_43 w_43 h_43 => ?_)
      unfold tlR at h_43
      unfold rdF at hR
      cases ht : tlF tx L c p with
      | none =>
        rw [ht] at h_43 hR
        obtain ⟨rfl, rfl⟩ := h_43
        show Z _ _ _ _ _ _ (.int 0 :: []) _
        refine Z_if_ne dX11_readStatements_46 (tgt := 55) rfl (pc' := 49) rfl (fun c_46 => absurd c_46 (fun c => c rfl)) (fun c_46 => ?_)
        refine Z_sipush dX11_readStatements_49 (v := (-2000)) (by decide) (pc' := 52) rfl ?_
        refine Z_iload_n dX11_readStatements_52 rfl (pc' := 53) rfl ?_
        refine Z_isub dX11_readStatements_53 (pc' := 54) rfl ?_
        exact Z_ireturn dX11_readStatements_54 rfl rfl (hR1 p hR.symm S n hf)
      | some c1 =>
        rw [ht] at h_43 hR
        obtain ⟨rfl, S2, n2, rfl, f2, v2⟩ := h_43
        show Z _ _ _ _ _ _ (.int 1 :: []) _
        have hl2 := lV_frm hl f2 (by decide)
        refine Z_if_ne dX11_readStatements_46 (tgt := 55) rfl (pc' := 49) rfl (fun c_46 => ?_) (fun c_46 => absurd c_46 (by decide))
        refine Z_aload_n dX11_readStatements_55 rfl (z_isref _) (pc' := 56) rfl ?_
        refine Z_gR dX11_readStatements_56 rfl zgr_RX11_32_0 (pc' := 59) rfl ?_
        refine Z_iload_n dX11_readStatements_59 rfl (pc' := 60) rfl ?_
        refine Z_cVe dX11_readStatements_60 rfl zcw_X3_behindStatement (As := [_]) (rest := []) rfl ⟨Nat.le_of_ble_eq_true rfl, Nat.le_of_ble_eq_true rfl⟩ (Nat.le_of_ble_eq_true rfl) (zRcv.lay zob_21) ⟨zcw_X3_behindStatement.2.2.2.2, Nat.le_of_ble_eq_true rfl⟩ zk_RX11_244 (c_X3_behindStatement hl2 (by omega)) (pc' := 63) rfl ?_
        rw [hb]
        show Z _ _ _ _ _ _ (.int (nI q) :: _) _
        refine Z_istore_n dX11_readStatements_63 (Nat.le_of_ble_eq_true rfl) (Nat.le_of_ble_eq_true rfl) rfl (ls' := [_, _, _, _]) rfl (pc' := 64) rfl ?_
        refine Z_iinc dX11_readStatements_64 rfl (nI_inc k) (Nat.le_of_ble_eq_true rfl) rfl (ls' := [_, _, _, _]) rfl (pc' := 67) rfl ?_
        refine Z_iinc dX11_readStatements_67 rfl (nI_inc i) (Nat.le_of_ble_eq_true rfl) rfl (ls' := [_, _, _, _]) rfl (pc' := 70) rfl ?_
        refine Z_goto dX11_readStatements_70 (tgt := 17) rfl ?_
        exact ih (i + 1) q (k + 1) c1 l1 S2 n2 (by omega) (by omega) hl1 hl2 v2 (tlF_ok ok hb ht) (hf.tr f2) hR
set_option maxRecDepth 100000 in
set_option maxHeartbeats 4000000 in
theorem c_X11_read_t {S S2 : ZS} {n n2 k : Nat} {x y : Int32} {c2 : Co} (ok2 : Cok c2) (f2 : frm 7 12 S n S2 n2) (v2 : cV S2 n2 7 c2) : Z m_X11_readStatements 0 0 (fun r ω => rdR S n r ω (.inl (k, c2))) 73 [some (.ref 0), some (.int (nI k)), some (.int x), some (.int y)] [] (zw S2 n2) := by
  refine Z_aload_n dX11_readStatements_73 rfl (z_isref _) (pc' := 74) rfl ?_
  refine Z_gR dX11_readStatements_74 rfl zgr_RX11_10_0 (pc' := 77) rfl ?_
  refine Z_aload_n dX11_readStatements_77 rfl (z_isref _) (pc' := 78) rfl ?_
  refine Z_gR dX11_readStatements_78 rfl zgr_RX11_16_0 (pc' := 81) rfl ?_
  refine Z_cV dX11_readStatements_81 rfl zcw_X2_become (As := [_]) (rest := []) rfl ⟨Nat.le_of_ble_eq_true rfl, Nat.le_of_ble_eq_true rfl⟩ (Nat.le_of_ble_eq_true rfl) (zRcv.lay zob_1) ⟨zcw_X2_become.2.2.2.2, Nat.le_of_ble_eq_true rfl⟩ zk_RX11_219 (c_X2_become (Or.inl rfl) (Or.inr (Or.inl rfl)) (by decide) v2 ok2) (pc' := 84) rfl (fun r_81 w_81 h_81 => ?_)
  obtain ⟨rfl, S3, rfl, f3, v3⟩ := h_81
  show Z _ _ _ _ _ _ [] _
  refine Z_iload_n dX11_readStatements_84 rfl (pc' := 85) rfl ?_
  exact Z_ireturn dX11_readStatements_85 rfl rfl ⟨rfl, ok2, S3, n2, rfl, (f2.wd (by decide) (by decide)).tr (f3.wd (by decide) (by decide)), v3⟩
set_option maxRecDepth 100000 in
set_option maxHeartbeats 4000000 in
theorem c_X11_readStatements {S : ZS} {n L : Nat} {tx : Nat → Int32} {c : Co} {l : List Nat} (hl : lV S tx L) (hV : cV S n 1 c) (ok : Cok c) (hps : (if 0 < L then psF tx L 80 0 else .inl []) = .inl l) : zM m_X11_readStatements 80 320 [.ref 0] (zw S n) (fun r ω => rdR S n r ω (rdF tx L l c 0)) := by
  show Z m_X11_readStatements _ _ _ 0 [some (.ref _)] [] _
  refine Z_aload_n dX11_readStatements_0 rfl (z_isref _) (pc' := 1) rfl ?_
  refine Z_gR dX11_readStatements_1 rfl zgr_RX11_16_0 (pc' := 4) rfl ?_
  refine Z_aload_n dX11_readStatements_4 rfl (z_isref _) (pc' := 5) rfl ?_
  refine Z_gR dX11_readStatements_5 rfl zgr_RX11_10_0 (pc' := 8) rfl ?_
  refine Z_cV dX11_readStatements_8 rfl zcw_X2_become (As := [_]) (rest := []) rfl ⟨Nat.le_of_ble_eq_true rfl, Nat.le_of_ble_eq_true rfl⟩ (Nat.le_of_ble_eq_true rfl) (zRcv.lay zob_7) ⟨zcw_X2_become.2.2.2.2, Nat.le_of_ble_eq_true rfl⟩ zk_RX11_219 (c_X2_become (Or.inr (Or.inl rfl)) (Or.inl rfl) (by decide) hV ok) (pc' := 11) rfl (fun r_8 w_8 h_8 => ?_)
  obtain ⟨rfl, S1, rfl, f1, v1⟩ := h_8
  show Z _ _ _ _ _ _ [] _
  refine Z_iconst dX11_readStatements_11 (v := 0) (by decide) (pc' := 12) rfl ?_
  refine Z_istore_n dX11_readStatements_12 (Nat.le_of_ble_eq_true rfl) (Nat.le_of_ble_eq_true rfl) rfl (ls' := [_, _]) rfl (pc' := 13) rfl ?_
  refine Z_iconst dX11_readStatements_13 (v := 0) (by decide) (pc' := 14) rfl ?_
  refine Z_istore_n dX11_readStatements_14 (Nat.le_of_ble_eq_true rfl) (Nat.le_of_ble_eq_true rfl) rfl (ls' := [_, _, _]) rfl (pc' := 15) rfl ?_
  refine Z_iconst dX11_readStatements_15 (v := 0) (by decide) (pc' := 16) rfl ?_
  refine Z_istore_n dX11_readStatements_16 (Nat.le_of_ble_eq_true rfl) (Nat.le_of_ble_eq_true rfl) rfl (ls' := [_, _, _, _]) rfl (pc' := 17) rfl ?_
  refine lp_X11_read hl.2.1 (t := rdF tx L l c 0) (S0 := S) (n0 := n) (fun p hp S2 n2 f2 => ?_) (fun k c2 hk ok2 S2 n2 p i f2 v2 => ?_) 80 0 0 0 c l S1 n rfl (by decide) hps (lV_frm hl f1 (by decide)) v1 ok f1 rfl
  · show rdR S n _ _ (rdF tx L l c 0)
    rw [hp]
    exact ⟨rfl, S2, n2, rfl, f2⟩
  · show Z _ _ _ (fun r ω => rdR S n r ω (rdF tx L l c 0)) _ _ _ _
    rw [hk]
    exact c_X11_read_t ok2 f2 v2
