/-- what the whole reading may write -/
def qC (b j : Nat) : Bool := (decide (39 ≤ b) && decide (b ≤ 41)) || (decide (b = 25) && (decide (j = 21) || decide (j = 22)))
/-- what coast may write -/
def gsc (b j : Nat) : Bool := scR b j || (decide (39 ≤ b) && decide (b ≤ 41)) || (decide (b = 42) && decide (220 ≤ j)) || (decide (b = 25) && (decide (20 ≤ j) && decide (j ≤ 22)))
theorem or_f {a b : Bool} (h : (a || b) = false) : a = false ∧ b = false := Bool.or_eq_false_iff.mp h
theorem qSt_C {k : Nat} : ∀ b j, qC b j = false → qSt k b j = false := fun b j e => by
  by_cases h1 : b = 25
  · subst h1
    by_cases h2 : j = 21
    · subst h2; cases e
    · exact qSt_25 h2
  · by_cases h3 : 39 ≤ b ∧ b ≤ 41
    · unfold qC at e
      rw [decide_eq_true h3.1, decide_eq_true h3.2] at e
      cases e
    · exact qSt_no (by omega) h1
theorem qC_g : ∀ b j, gsc b j = false → qC b j = false := fun b j e => by
  unfold gsc at e
  obtain ⟨e, e4⟩ := or_f e
  obtain ⟨e, e3⟩ := or_f e
  obtain ⟨e1, e2⟩ := or_f e
  unfold qC
  rw [e2, Bool.false_or]
  by_cases h1 : b = 25
  · rw [decide_eq_true h1, Bool.true_and] at e4 ⊢
    by_cases h2 : j = 21
    · subst h2; cases e4
    · by_cases h3 : j = 22
      · subst h3; cases e4
      · rw [decide_eq_false h2, decide_eq_false h3]; rfl
  · rw [decide_eq_false h1]; rfl
theorem scR_g : ∀ b j, gsc b j = false → scR b j = false := fun b j e => by
  unfold gsc at e
  exact (or_f (or_f (or_f e).1).1).1
theorem gsc_20 : gsc 25 20 = true := rfl
theorem pst_g {S : ZS} {wh : Nat} {v : Int32} : fw gsc S (pst S wh v) := fw_sA (fw_sA fw.rf _ rfl) _ rfl
theorem KI_g {S0 S : ZS} {cur : Nat} (h : KI 1 S0 S cur) : fw gsc S0 S := ⟨h.1, fun b j e => h.2.1 b j (by
  unfold gsc at e
  obtain ⟨e, e4⟩ := or_f e
  obtain ⟨e, e3⟩ := or_f e
  obtain ⟨e1, e2⟩ := or_f e
  unfold scK
  by_cases h1 : b = 25
  · subst h1
    by_cases h2 : j = 26
    · subst h2; cases e1
    · by_cases h3 : j = 25
      · subst h3; cases e1
      · rw [decide_eq_false h2, decide_eq_false h3]; rfl
  · rw [decide_eq_false h1, Bool.false_and, Bool.or_false]
    by_cases h2 : b = 42
    · rw [decide_eq_true h2, Bool.true_and] at e3 ⊢
      have h3 : ¬ 220 * 1 ≤ j := fun q => by rw [decide_eq_true (show 220 ≤ j from q)] at e3; cases e3
      rw [decide_eq_false h3]; rfl
    · rw [decide_eq_false h2]; rfl)⟩
theorem RI_g {wh : Nat} {S0 S : ZS} {cur : Nat} (h : RI wh S0 S cur) : fw gsc S0 S := ⟨h.1, fun b j e => h.2.1 b j (scR_g b j e)⟩
theorem gsc_row {b j : Nat} (h : b < 27 ∨ (37 < b ∧ b < 39) ∨ 42 < b) (h2 : b ≠ 25) : gsc b j = false := by
  have a1 : scR b j = false := by
    rcases h with q | q | q
    · exact scR_no (Or.inl q) h2
    · exact scR_no (Or.inr q.1) h2
    · exact scR_no (Or.inr (by omega)) h2
  have a2 : ¬ (39 ≤ b ∧ b ≤ 41) := by omega
  have a3 : ¬ b = 42 := by omega
  unfold gsc
  rw [a1, decide_eq_false a3, decide_eq_false h2, ← Bool.decide_and, decide_eq_false a2]; rfl
theorem MI_coast {S S1 : ZS} {M : Ms} {c : Co} (hI : MI S M) (f : fw gsc S S1) (ht : S1.1 25 20 = nI 0) (v : mV S1 c) (ok : Cok c) : MI S1 (wC (wT M (mtx M) 0) c) := by
  obtain ⟨_, i, _, r, q⟩ := hI
  have g : ∀ b, (b < 27 ∨ (37 < b ∧ b < 39) ∨ 42 < b) → b ≠ 25 → S1.1 b = S.1 b := fun b h1 h2 => funext fun j => f.2 b j (gsc_row h1 h2)
  refine ⟨⟨v, ok⟩, ⟨?_, fun c2 hc2 => ?_⟩, ⟨ht, (show (0 : Nat) ≤ 80 by decide), fun k hk => absurd hk (Nat.not_lt_zero k)⟩, ?_, fun k hk => ?_⟩
  · rw [f.2 25 24 rfl]; exact i.1
  · refine ⟨kV_cong (i.2 c2 hc2).2 (fun j hj => f.2 42 j ?_) (i.2 c2 hc2).1, (i.2 c2 hc2).2⟩
    have h3 : ¬ 220 ≤ j := by omega
    unfold gsc
    rw [decide_eq_false h3]; rfl
  · rw [f.2 25 35 rfl, g 47 (by decide) (by decide)]; exact r
  · rw [g 26 (by decide) (by decide)]; exact q k hk
theorem fw_frm {S S1 : ZS} {n : Nat} (f : fw gsc S S1) : frm 25 47 S n S1 n := by
  refine ⟨Nat.le_refl _, fun j _ => by rw [f.1], fun a ha => ⟨funext fun k => f.2 a k ?_, by rw [f.1]⟩⟩
  rcases ha with q | q
  · exact gsc_row (Or.inl (by omega)) (by omega)
  · exact gsc_row (Or.inr (Or.inr (by omega))) (by omega)
theorem bsO_ge {tx : Nat → Int32} {L p x : Nat} (h : bsO tx L p = .inl x) : p + 3 ≤ x ∧ x ≤ p + 17 := by
  refine ⟨?_, bsO_le (Or.inl h)⟩
  have h3 := h
  rcases bsO_wf h with ⟨e, _⟩ | ⟨e, _⟩ | ⟨e, _⟩
  · rw [bsO_c e] at h3
    cases hd : dgsF tx L 2 (p + 1) with
    | some q => rw [hd] at h3; cases h3
    | none =>
      rw [hd] at h3
      simp only [] at h3
      split at h3
      · cases h3
      · split at h3
        · cases h3; omega
        · cases h3
  · rw [bsO_r e] at h3
    cases hd : dgsF tx L 6 (p + 1) with
    | some q => rw [hd] at h3; cases h3
    | none =>
      rw [hd] at h3
      simp only [] at h3
      split at h3
      · cases h3; omega
      · cases h3
  · rw [bsO_t e] at h3
    cases hd : dgsF tx L 1 (p + 1) with
    | some q => rw [hd] at h3; cases h3
    | none =>
      rw [hd] at h3
      simp only [] at h3
      split at h3
      · cases h3; omega
      · cases h3
def psA (l : List Nat) (r : List Nat ⊕ Nat) : List Nat ⊕ Nat := match r with
  | .inl t => .inl (l ++ t)
  | .inr x => .inr x
theorem psF_r {tx : Nat → Int32} {L m p x : Nat} (h : bsO tx L p = .inr x) : psF tx L (m + 1) p = .inr x := by rw [psF, h]
theorem psF_e {tx : Nat → Int32} {L m p x : Nat} (h : bsO tx L p = .inl x) (hx : ¬ x < L) : psF tx L (m + 1) p = .inl [p] := by rw [psF, h]; simp only []; rw [if_neg hx]
theorem psF_s {tx : Nat → Int32} {L m p x : Nat} {l : List Nat} (h : bsO tx L p = .inl x) (hx : x < L) : psA l (psF tx L (m + 1) p) = psA (l ++ [p]) (psF tx L m x) := by
  rw [psF, h]
  simp only []
  rw [if_pos hx]
  cases psF tx L m x with
  | inl t => unfold psA; simp
  | inr y => rfl
theorem psF_wf {tx : Nat → Int32} {L : Nat} : ∀ {m p : Nat} {l : List Nat}, psF tx L m p = .inl l → ∀ x ∈ l, ∃ q, bsO tx L x = .inl q
  | 0, _, l, h, x, hx => by
    unfold psF at h; cases h; cases hx
  | m + 1, p, l, h, x, hx => by
    unfold psF at h
    cases e : bsO tx L p with
    | inr q => rw [e] at h; cases h
    | inl q =>
      rw [e] at h
      simp only [] at h
      split at h
      · cases e2 : psF tx L m q with
        | inr y => rw [e2] at h; cases h
        | inl t =>
          rw [e2] at h
          cases h
          rcases List.mem_cons.mp hx with g | g
          · exact ⟨q, by rw [g]; exact e⟩
          · exact psF_wf e2 x g
      · cases h
        rw [List.mem_singleton.mp hx]; exact ⟨q, e⟩
theorem bsO_3 {tx : Nat → Int32} {L p q : Nat} (h : bsO tx L p = .inl q) : ltr tx L p = 99 ∨ ltr tx L p = 114 ∨ ltr tx L p = 116 := by
  rcases bsO_wf h with ⟨e, _⟩ | ⟨e, _⟩ | ⟨e, _⟩
  · exact Or.inl e
  · exact Or.inr (Or.inl e)
  · exact Or.inr (Or.inr e)
theorem tpV_C {S S' : ZS} {tx : Nat → Int32} {L : Nat} (h : tpV S tx L) (f : fw qC S S') : tpV S' tx L := ⟨by rw [f.2 25 20 rfl]; exact h.1, h.2.1, fun j hj => by rw [f.2 38 j rfl]; exact h.2.2 j hj⟩
theorem nmV_22 {S : ZS} {tx : Nat → Int32} {L i p : Nat} (h : nmV S tx L i p) (x : Int32) : nmV (sA S 25 22 x) tx L i p := by
  unfold nmV
  rw [sA_ne _ _ _ (by decide), sA_ne _ _ _ (by decide), sA_ne _ _ _ (by decide)]
  exact h
set_option maxRecDepth 100000 in
set_option maxHeartbeats 4000000 in
theorem lp_X12_coast1 {S0 : ZS} {n L : Nat} {tx : Nat → Int32} (ht : tpV S0 tx L) {R : Option Value → ZW → Prop} {T : List Nat ⊕ Nat} (hA : ∀ S x, T = .inr x → fw qC S0 S → S.1 25 21 = nI x → Z m_X12_coast 0 0 R 60 [some (.ref 25), some (.int 0)] [] (zw S n)) (hB : ∀ S l, T = .inl l → fw qC S0 S → S.1 25 22 = nI l.length → (∀ i x, l[i]? = some x → nmV S tx L i x) → l.length ≤ 27 → Z m_X12_coast 0 0 R 60 [some (.ref 25), some (.int 1)] [] (zw S n)) : ∀ (m k p : Nat) (l : List Nat) (S : ZS), l.length = k → 3 * k ≤ p → (p < L ∨ (k = 0 ∧ p = 0)) → m + k = 80 → fw qC S0 S → S.1 25 21 = nI p → S.1 25 22 = nI k → (∀ i x, l[i]? = some x → nmV S tx L i x) → psA l (psF tx L m p) = T → Z m_X12_coast 0 0 R 12 [some (.ref 25), some (.int 1)] [] (zw S n) := by
  intro m
  induction m with
  | zero =>
    intro k p l S hl h3 hp hm f hat hst hnm0 hT
    have := ht.2.1
    omega
  | succ m ih =>
    intro k p l S hl h3 hp hm f hat hst hnm0 hT
    have hL := ht.2.1
    refine Z_iload_n dX12_coast_12 rfl (pc' := 13) rfl ?_
    refine Z_if_eq dX12_coast_13 (tgt := 60) rfl (pc' := 16) rfl (fun c_13 => absurd c_13 (by decide)) (fun c_13 => ?_)
    refine Z_aload_n dX12_coast_16 rfl (z_isref _) (pc' := 17) rfl ?_
    refine Z_gI dX12_coast_17 rfl zgi_RX12_89_25 (pc' := 20) rfl ?_
    rw [hat]
    refine Z_aload_n dX12_coast_20 rfl (z_isref _) (pc' := 21) rfl ?_
    refine Z_gI dX12_coast_21 rfl zgi_RX12_81_25 (pc' := 24) rfl ?_
    rw [(tpV_C ht f).1]
    refine Z_icmp_lt dX12_coast_24 (tgt := 34) rfl (pc' := 27) rfl (fun c_24 => ?_) (fun c_24 => ?_)
    · refine Z_aload_n dX12_coast_34 rfl (z_isref _) (pc' := 35) rfl ?_
      refine Z_cV dX12_coast_35 rfl zcw_X12_statement (As := []) (rest := []) rfl ⟨Nat.le_of_ble_eq_true rfl, Nat.le_of_ble_eq_true rfl⟩ (Nat.le_of_ble_eq_true rfl) (zRcv.lay zob_25) ⟨zcw_X12_statement.2.2.2.2, Nat.le_of_ble_eq_true rfl⟩ zk_RX12_132 (c_X12_statement (kk := k) (tpV_C ht f) (by omega) (by omega) hat hst) (pc' := 38) rfl (fun r_35 w_35 h_35 => ?_)
      obtain ⟨S2, rfl, f2, h⟩ := h_35
      have h22 : S2.1 25 22 = nI k := by rw [f2.2 25 22 (qSt_25 (by decide))]; exact hst
      rcases h with ⟨x, hx, rfl, ha⟩ | ⟨x, hx, rfl, ha, hnm⟩
      · show Z _ _ _ _ _ _ (.int 0 :: []) _
        refine Z_istore_n dX12_coast_38 (Nat.le_of_ble_eq_true rfl) (Nat.le_of_ble_eq_true rfl) rfl (ls' := [_, _]) rfl (pc' := 39) rfl ?_
        refine Z_aload_n dX12_coast_39 rfl (z_isref _) (pc' := 40) rfl ?_
        refine Z_dup dX12_coast_40 rfl (pc' := 41) rfl ?_
        refine Z_gI dX12_coast_41 rfl zgi_RX12_107_25 (pc' := 44) rfl ?_
        rw [h22]
        refine Z_iload_n dX12_coast_44 rfl (pc' := 45) rfl ?_
        refine Z_if_eq dX12_coast_45 (tgt := 52) rfl (pc' := 48) rfl (fun c_45 => ?_) (fun c_45 => absurd c_45 (fun g => g rfl))
        refine Z_iconst dX12_coast_52 (v := 0) (by decide) (pc' := 53) rfl ?_
        refine Z_iadd dX12_coast_53 (pc' := 54) rfl ?_
        rw [Int32.add_zero]
        refine Z_pI dX12_coast_54 rfl zpi_RX12_107_25 (pc' := 57) rfl ?_
        refine Z_goto dX12_coast_57 (tgt := 12) rfl ?_
        rw [psF_r hx] at hT
        refine Z_iload_n dX12_coast_12 rfl (pc' := 13) rfl ?_
        refine Z_if_eq dX12_coast_13 (tgt := 60) rfl (pc' := 16) rfl (fun c_13 => ?_) (fun c_13 => absurd c_13 (fun g => g rfl))
        exact hA _ x hT.symm (fw_sA ((f.tr (f2.wd qSt_C))) _ rfl) (by rw [sA_nk _ _ (by decide)]; exact ha)
      · show Z _ _ _ _ _ _ (.int 1 :: []) _
        have hge := bsO_ge hx
        have hnm2 : ∀ i y, (l ++ [p])[i]? = some y → nmV (sA S2 25 22 (nI (k + 1))) tx L i y := fun i y hy => by
          refine nmV_22 ?_ _
          rcases push_at hy with ⟨g1, g2⟩ | ⟨g1, g2⟩
          · exact (hnm0 i y g2).fw (by omega) f2
          · rw [g1, g2, hl]; exact hnm
        have fS : fw qC S0 (sA S2 25 22 (nI (k + 1))) := fw_sA (f.tr (f2.wd qSt_C)) _ rfl
        have ha2 : (sA S2 25 22 (nI (k + 1))).1 25 21 = nI x := by rw [sA_nk _ _ (by decide)]; exact ha
        by_cases hxL : x < L
        · skip
          refine Z_istore_n dX12_coast_38 (Nat.le_of_ble_eq_true rfl) (Nat.le_of_ble_eq_true rfl) rfl (ls' := [_, _]) rfl (pc' := 39) rfl ?_
          refine Z_aload_n dX12_coast_39 rfl (z_isref _) (pc' := 40) rfl ?_
          refine Z_dup dX12_coast_40 rfl (pc' := 41) rfl ?_
          refine Z_gI dX12_coast_41 rfl zgi_RX12_107_25 (pc' := 44) rfl ?_
          rw [h22]
          refine Z_iload_n dX12_coast_44 rfl (pc' := 45) rfl ?_
          refine Z_if_eq dX12_coast_45 (tgt := 52) rfl (pc' := 48) rfl (fun c_45 => absurd c_45 (by decide)) (fun c_45 => ?_)
          refine Z_iconst dX12_coast_48 (v := 1) (by decide) (pc' := 49) rfl ?_
          refine Z_goto dX12_coast_49 (tgt := 53) rfl ?_
          refine Z_iadd dX12_coast_53 (pc' := 54) rfl ?_
          rw [show nI k + 1 = nI (k + 1) from nI_inc k]
          refine Z_pI dX12_coast_54 rfl zpi_RX12_107_25 (pc' := 57) rfl ?_
          refine Z_goto dX12_coast_57 (tgt := 12) rfl ?_
          exact ih (k + 1) x (l ++ [p]) _ (by rw [List.length_append, hl]; rfl) (by omega) (Or.inl hxL) (by omega) fS ha2 (sA_eq ..) hnm2 (by rw [← psF_s hx hxL]; exact hT)
        · skip
          refine Z_istore_n dX12_coast_38 (Nat.le_of_ble_eq_true rfl) (Nat.le_of_ble_eq_true rfl) rfl (ls' := [_, _]) rfl (pc' := 39) rfl ?_
          refine Z_aload_n dX12_coast_39 rfl (z_isref _) (pc' := 40) rfl ?_
          refine Z_dup dX12_coast_40 rfl (pc' := 41) rfl ?_
          refine Z_gI dX12_coast_41 rfl zgi_RX12_107_25 (pc' := 44) rfl ?_
          rw [h22]
          refine Z_iload_n dX12_coast_44 rfl (pc' := 45) rfl ?_
          refine Z_if_eq dX12_coast_45 (tgt := 52) rfl (pc' := 48) rfl (fun c_45 => absurd c_45 (by decide)) (fun c_45 => ?_)
          refine Z_iconst dX12_coast_48 (v := 1) (by decide) (pc' := 49) rfl ?_
          refine Z_goto dX12_coast_49 (tgt := 53) rfl ?_
          refine Z_iadd dX12_coast_53 (pc' := 54) rfl ?_
          rw [show nI k + 1 = nI (k + 1) from nI_inc k]
          refine Z_pI dX12_coast_54 rfl zpi_RX12_107_25 (pc' := 57) rfl ?_
          refine Z_goto dX12_coast_57 (tgt := 12) rfl ?_
          refine Z_iload_n dX12_coast_12 rfl (pc' := 13) rfl ?_
          refine Z_if_eq dX12_coast_13 (tgt := 60) rfl (pc' := 16) rfl (fun c_13 => absurd c_13 (by decide)) (fun c_13 => ?_)
          refine Z_aload_n dX12_coast_16 rfl (z_isref _) (pc' := 17) rfl ?_
          refine Z_gI dX12_coast_17 rfl zgi_RX12_89_25 (pc' := 20) rfl ?_
          rw [ha2]
          refine Z_aload_n dX12_coast_20 rfl (z_isref _) (pc' := 21) rfl ?_
          refine Z_gI dX12_coast_21 rfl zgi_RX12_81_25 (pc' := 24) rfl ?_
          rw [(tpV_C ht fS).1]
          refine Z_icmp_lt dX12_coast_24 (tgt := 34) rfl (pc' := 27) rfl (fun c_24 => absurd c_24 (by rw [nI_ltn (by omega) (by omega)]; exact hxL)) (fun c_24 => ?_)
          refine Z_aload_n dX12_coast_27 rfl (z_isref _) (pc' := 28) rfl ?_
          refine Z_gI dX12_coast_28 rfl zgi_RX12_107_25 (pc' := 31) rfl ?_
          rw [sA_eq]
          refine Z_if_ne dX12_coast_31 (tgt := 60) rfl (pc' := 34) rfl (fun c_31 => ?_) (fun c_31 => absurd c_31 (fun g => by have := (nI_eqn (a := k + 1) (b := 0) (by omega) (by decide)).mp g; omega))
          rw [psF_e hx hxL] at hT
          exact hB _ (l ++ [p]) hT.symm fS (by rw [sA_eq, List.length_append, hl]; rfl) hnm2 (by rw [List.length_append, hl]; show k + 1 ≤ 27; omega)
    · refine Z_aload_n dX12_coast_27 rfl (z_isref _) (pc' := 28) rfl ?_
      refine Z_gI dX12_coast_28 rfl zgi_RX12_107_25 (pc' := 31) rfl ?_
      rw [hst]
      have hk0 : k = 0 := by
        rcases hp with q | q
        · exact absurd ((nI_ltn (by omega) (by omega)).mpr q) c_24
        · exact q.1
      refine Z_if_ne dX12_coast_31 (tgt := 60) rfl (pc' := 34) rfl (fun c_31 => absurd c_31 (fun g => g (by rw [hk0]; rfl))) (fun c_31 => ?_)
      refine Z_aload_n dX12_coast_34 rfl (z_isref _) (pc' := 35) rfl ?_
      refine Z_cV dX12_coast_35 rfl zcw_X12_statement (As := []) (rest := []) rfl ⟨Nat.le_of_ble_eq_true rfl, Nat.le_of_ble_eq_true rfl⟩ (Nat.le_of_ble_eq_true rfl) (zRcv.lay zob_25) ⟨zcw_X12_statement.2.2.2.2, Nat.le_of_ble_eq_true rfl⟩ zk_RX12_132 (c_X12_statement (kk := k) (tpV_C ht f) (by omega) (by omega) hat hst) (pc' := 38) rfl (fun r_35 w_35 h_35 => ?_)
      obtain ⟨S2, rfl, f2, h⟩ := h_35
      have h22 : S2.1 25 22 = nI k := by rw [f2.2 25 22 (qSt_25 (by decide))]; exact hst
      rcases h with ⟨x, hx, rfl, ha⟩ | ⟨x, hx, rfl, ha, hnm⟩
      · show Z _ _ _ _ _ _ (.int 0 :: []) _
        refine Z_istore_n dX12_coast_38 (Nat.le_of_ble_eq_true rfl) (Nat.le_of_ble_eq_true rfl) rfl (ls' := [_, _]) rfl (pc' := 39) rfl ?_
        refine Z_aload_n dX12_coast_39 rfl (z_isref _) (pc' := 40) rfl ?_
        refine Z_dup dX12_coast_40 rfl (pc' := 41) rfl ?_
        refine Z_gI dX12_coast_41 rfl zgi_RX12_107_25 (pc' := 44) rfl ?_
        rw [h22]
        refine Z_iload_n dX12_coast_44 rfl (pc' := 45) rfl ?_
        refine Z_if_eq dX12_coast_45 (tgt := 52) rfl (pc' := 48) rfl (fun c_45 => ?_) (fun c_45 => absurd c_45 (fun g => g rfl))
        refine Z_iconst dX12_coast_52 (v := 0) (by decide) (pc' := 53) rfl ?_
        refine Z_iadd dX12_coast_53 (pc' := 54) rfl ?_
        rw [Int32.add_zero]
        refine Z_pI dX12_coast_54 rfl zpi_RX12_107_25 (pc' := 57) rfl ?_
        refine Z_goto dX12_coast_57 (tgt := 12) rfl ?_
        rw [psF_r hx] at hT
        refine Z_iload_n dX12_coast_12 rfl (pc' := 13) rfl ?_
        refine Z_if_eq dX12_coast_13 (tgt := 60) rfl (pc' := 16) rfl (fun c_13 => ?_) (fun c_13 => absurd c_13 (fun g => g rfl))
        exact hA _ x hT.symm (fw_sA ((f.tr (f2.wd qSt_C))) _ rfl) (by rw [sA_nk _ _ (by decide)]; exact ha)
      · show Z _ _ _ _ _ _ (.int 1 :: []) _
        have hge := bsO_ge hx
        have hnm2 : ∀ i y, (l ++ [p])[i]? = some y → nmV (sA S2 25 22 (nI (k + 1))) tx L i y := fun i y hy => by
          refine nmV_22 ?_ _
          rcases push_at hy with ⟨g1, g2⟩ | ⟨g1, g2⟩
          · exact (hnm0 i y g2).fw (by omega) f2
          · rw [g1, g2, hl]; exact hnm
        have fS : fw qC S0 (sA S2 25 22 (nI (k + 1))) := fw_sA (f.tr (f2.wd qSt_C)) _ rfl
        have ha2 : (sA S2 25 22 (nI (k + 1))).1 25 21 = nI x := by rw [sA_nk _ _ (by decide)]; exact ha
        by_cases hxL : x < L
        · skip
          refine Z_istore_n dX12_coast_38 (Nat.le_of_ble_eq_true rfl) (Nat.le_of_ble_eq_true rfl) rfl (ls' := [_, _]) rfl (pc' := 39) rfl ?_
          refine Z_aload_n dX12_coast_39 rfl (z_isref _) (pc' := 40) rfl ?_
          refine Z_dup dX12_coast_40 rfl (pc' := 41) rfl ?_
          refine Z_gI dX12_coast_41 rfl zgi_RX12_107_25 (pc' := 44) rfl ?_
          rw [h22]
          refine Z_iload_n dX12_coast_44 rfl (pc' := 45) rfl ?_
          refine Z_if_eq dX12_coast_45 (tgt := 52) rfl (pc' := 48) rfl (fun c_45 => absurd c_45 (by decide)) (fun c_45 => ?_)
          refine Z_iconst dX12_coast_48 (v := 1) (by decide) (pc' := 49) rfl ?_
          refine Z_goto dX12_coast_49 (tgt := 53) rfl ?_
          refine Z_iadd dX12_coast_53 (pc' := 54) rfl ?_
          rw [show nI k + 1 = nI (k + 1) from nI_inc k]
          refine Z_pI dX12_coast_54 rfl zpi_RX12_107_25 (pc' := 57) rfl ?_
          refine Z_goto dX12_coast_57 (tgt := 12) rfl ?_
          exact ih (k + 1) x (l ++ [p]) _ (by rw [List.length_append, hl]; rfl) (by omega) (Or.inl hxL) (by omega) fS ha2 (sA_eq ..) hnm2 (by rw [← psF_s hx hxL]; exact hT)
        · skip
          refine Z_istore_n dX12_coast_38 (Nat.le_of_ble_eq_true rfl) (Nat.le_of_ble_eq_true rfl) rfl (ls' := [_, _]) rfl (pc' := 39) rfl ?_
          refine Z_aload_n dX12_coast_39 rfl (z_isref _) (pc' := 40) rfl ?_
          refine Z_dup dX12_coast_40 rfl (pc' := 41) rfl ?_
          refine Z_gI dX12_coast_41 rfl zgi_RX12_107_25 (pc' := 44) rfl ?_
          rw [h22]
          refine Z_iload_n dX12_coast_44 rfl (pc' := 45) rfl ?_
          refine Z_if_eq dX12_coast_45 (tgt := 52) rfl (pc' := 48) rfl (fun c_45 => absurd c_45 (by decide)) (fun c_45 => ?_)
          refine Z_iconst dX12_coast_48 (v := 1) (by decide) (pc' := 49) rfl ?_
          refine Z_goto dX12_coast_49 (tgt := 53) rfl ?_
          refine Z_iadd dX12_coast_53 (pc' := 54) rfl ?_
          rw [show nI k + 1 = nI (k + 1) from nI_inc k]
          refine Z_pI dX12_coast_54 rfl zpi_RX12_107_25 (pc' := 57) rfl ?_
          refine Z_goto dX12_coast_57 (tgt := 12) rfl ?_
          refine Z_iload_n dX12_coast_12 rfl (pc' := 13) rfl ?_
          refine Z_if_eq dX12_coast_13 (tgt := 60) rfl (pc' := 16) rfl (fun c_13 => absurd c_13 (by decide)) (fun c_13 => ?_)
          refine Z_aload_n dX12_coast_16 rfl (z_isref _) (pc' := 17) rfl ?_
          refine Z_gI dX12_coast_17 rfl zgi_RX12_89_25 (pc' := 20) rfl ?_
          rw [ha2]
          refine Z_aload_n dX12_coast_20 rfl (z_isref _) (pc' := 21) rfl ?_
          refine Z_gI dX12_coast_21 rfl zgi_RX12_81_25 (pc' := 24) rfl ?_
          rw [(tpV_C ht fS).1]
          refine Z_icmp_lt dX12_coast_24 (tgt := 34) rfl (pc' := 27) rfl (fun c_24 => absurd c_24 (by rw [nI_ltn (by omega) (by omega)]; exact hxL)) (fun c_24 => ?_)
          refine Z_aload_n dX12_coast_27 rfl (z_isref _) (pc' := 28) rfl ?_
          refine Z_gI dX12_coast_28 rfl zgi_RX12_107_25 (pc' := 31) rfl ?_
          rw [sA_eq]
          refine Z_if_ne dX12_coast_31 (tgt := 60) rfl (pc' := 34) rfl (fun c_31 => ?_) (fun c_31 => absurd c_31 (fun g => by have := (nI_eqn (a := k + 1) (b := 0) (by omega) (by decide)).mp g; omega))
          rw [psF_e hx hxL] at hT
          exact hB _ (l ++ [p]) hT.symm fS (by rw [sA_eq, List.length_append, hl]; rfl) hnm2 (by rw [List.length_append, hl]; show k + 1 ≤ 27; omega)
theorem pst_r {S : ZS} {wh : Nat} {v : Int32} : fw scR S (pst S wh v) := fw_sA (fw_sA fw.rf _ rfl) _ rfl
theorem RI_r {wh : Nat} {S0 S : ZS} {cur : Nat} (h : RI wh S0 S cur) : fw scR S0 S := ⟨h.1, h.2.1⟩
theorem kV_cg2 {f g : Nat → Int32} {c : Co} (h : ∀ k, k < 207 → g k = f k) (ok : Cok c) (v : kV f c) : kV g c := by
  obtain ⟨⟨a1, a2, a3, a4⟩, b, d, e, r⟩ := v
  have o1 := ok.1; have o2 := ok.2.1; have o3 := ok.2.2.1
  refine ⟨⟨?_, ?_, ?_, ?_⟩, fun k hk => ?_, fun p hp => ?_, fun p h1 hp => ?_, fun k hk => ?_⟩
  · rw [h _ (by decide)]; exact a1
  · rw [h _ (by decide)]; exact a2
  · rw [h _ (by decide)]; exact a3
  · rw [h _ (by decide)]; exact a4
  · rw [h _ (by omega), h _ (by omega), h _ (by omega), h _ (by omega)]; exact b k hk
  · rw [h _ (by omega), h _ (by omega)]; exact d p hp
  · rw [h _ (by omega)]; exact e p h1 hp
  · rw [h _ (by omega), h _ (by omega), h _ (by omega), h _ (by omega)]; exact r k hk
theorem rdF_s {tx : Nat → Int32} {L p k : Nat} {l : List Nat} {c c2 : Co} (h : tlF tx L c p = some c2) : rdF tx L (p :: l) c k = rdF tx L l c2 (k + 1) := by rw [rdF, h]
theorem rdF_n {tx : Nat → Int32} {L p k : Nat} {l : List Nat} {c : Co} (h : tlF tx L c p = none) : rdF tx L (p :: l) c k = .inr p := by rw [rdF, h]
set_option maxRecDepth 100000 in
set_option maxHeartbeats 4000000 in
theorem lp_X12_coast2 {S0 : ZS} {n L : Nat} {tx : Nat → Int32} {l : List Nat} {c0 : Co} {kp : Nat → Int32} {y : Int32} (hl27 : l.length ≤ 27) (hwf : ∀ x ∈ l, ∃ q, bsO tx L x = .inl q) (ok0 : Cok c0) (hkv : kV kp c0) {R : Option Value → ZW → Prop} {T : (Nat × Co) ⊕ Nat} (hE : ∀ S c, T = .inl (l.length, c) → fw scR S0 S → mV S c → Cok c → R (some (.int (nI l.length))) (zw S n)) (hF : ∀ S x, T = .inr x → fw scR S0 S → mV S c0 → R (some (.int (-2000 - nI x))) (zw S n)) : ∀ (m k : Nat) (c : Co) (S : ZS), k + m = l.length → fw scR S0 S → S.1 25 22 = nI l.length → (∀ i x, l[i]? = some x → nmV S tx L i x) → mV S c → Cok c → (∀ j, j < 207 → S.1 42 (220 + j) = kp j) → rdF tx L (l.drop k) c k = T → Z m_X12_coast 0 0 R 86 [some (.ref 25), some (.int y), some (.int (nI k))] [] (zw S n) := by
  intro m
  induction m with
  | zero =>
    intro k c S hk f hst hnm hV ok hcp hT
    obtain rfl : k = l.length := by omega
    rw [List.drop_eq_nil_of_le (Nat.le_refl _)] at hT
    refine Z_iload_n dX12_coast_86 rfl (pc' := 87) rfl ?_
    refine Z_aload_n dX12_coast_87 rfl (z_isref _) (pc' := 88) rfl ?_
    refine Z_gI dX12_coast_88 rfl zgi_RX12_107_25 (pc' := 91) rfl ?_
    rw [hst]
    refine Z_icmp_ge dX12_coast_91 (tgt := 128) rfl (pc' := 94) rfl (fun c_91 => ?_) (fun c_91 => absurd c_91 (fun c => c ((nI_len (by omega) (by omega)).mpr (Nat.le_refl _))))
    refine Z_aload_n dX12_coast_128 rfl (z_isref _) (pc' := 129) rfl ?_
    refine Z_gI dX12_coast_129 rfl zgi_RX12_107_25 (pc' := 132) rfl ?_
    rw [hst]
    exact Z_ireturn dX12_coast_132 rfl rfl (hE S c hT.symm f hV ok)
  | succ m ih =>
    intro k c S hk f hst hnm hV ok hcp hT
    obtain ⟨p, hp⟩ : ∃ p, l[k]? = some p := ⟨l[k]'(by omega), List.getElem?_eq_getElem _⟩
    obtain ⟨q2, hq2⟩ := hwf p (List.mem_of_getElem? hp)
    rw [List.drop_eq_getElem_cons (by omega), (List.getElem?_eq_some_iff.mp hp).2] at hT
    refine Z_iload_n dX12_coast_86 rfl (pc' := 87) rfl ?_
    refine Z_aload_n dX12_coast_87 rfl (z_isref _) (pc' := 88) rfl ?_
    refine Z_gI dX12_coast_88 rfl zgi_RX12_107_25 (pc' := 91) rfl ?_
    rw [hst]
    refine Z_icmp_ge dX12_coast_91 (tgt := 128) rfl (pc' := 94) rfl (fun c_91 => absurd c_91 (by rw [nI_len (by omega) (by omega)]; omega)) (fun c_91 => ?_)
    refine Z_aload_n dX12_coast_94 rfl (z_isref _) (pc' := 95) rfl ?_
    refine Z_iload_n dX12_coast_95 rfl (pc' := 96) rfl ?_
    refine Z_cV dX12_coast_96 rfl zcw_X12_comes (As := [_]) (rest := []) rfl ⟨Nat.le_of_ble_eq_true rfl, Nat.le_of_ble_eq_true rfl⟩ (Nat.le_of_ble_eq_true rfl) (zRcv.lay zob_25) ⟨zcw_X12_comes.2.2.2.2, Nat.le_of_ble_eq_true rfl⟩ zk_RX12_140 (c_X12_comes (kk := k) hV ok (by omega) (hnm k p hp) (bsO_3 hq2)) (pc' := 99) rfl (fun r_96 w_96 h_96 => ?_)
    obtain ⟨S2, rfl, f2, h⟩ := h_96
    have hnm2 : ∀ i x, l[i]? = some x → nmV S2 tx L i x := fun i x hx => nmV_fr (hnm i x hx) f2
    rcases h with ⟨c2, hc2, rfl, m2⟩ | ⟨hc2, rfl⟩
    · show Z _ _ _ _ _ _ (.int 1 :: []) _
      refine Z_if_eq dX12_coast_99 (tgt := 105) rfl (pc' := 102) rfl (fun c_99 => absurd c_99 (by decide)) (fun c_99 => ?_)
      refine Z_goto dX12_coast_102 (tgt := 122) rfl ?_
      refine Z_iinc dX12_coast_122 rfl (nI_inc k) (Nat.le_of_ble_eq_true rfl) rfl (ls' := [_, _, _]) rfl (pc' := 125) rfl ?_
      refine Z_goto dX12_coast_125 (tgt := 86) rfl ?_
      rw [rdF_s hc2] at hT
      exact ih (k + 1) c2 S2 (by omega) (f.tr f2) (by rw [f2.2 25 22 rfl]; exact hst) hnm2 m2 (tlF_ok ok hq2 hc2) (fun j hj => by rw [f2.2 42 _ (scR_no (Or.inr (by decide)) (by decide))]; exact hcp j hj) hT
    · show Z _ _ _ _ _ _ (.int 0 :: []) _
      refine Z_if_eq dX12_coast_99 (tgt := 105) rfl (pc' := 102) rfl (fun c_99 => ?_) (fun c_99 => absurd c_99 (fun g => g rfl))
      refine Z_aload_n dX12_coast_105 rfl (z_isref _) (pc' := 106) rfl ?_
      refine Z_iconst dX12_coast_106 (v := 1) (by decide) (pc' := 107) rfl ?_
      refine Z_iconst dX12_coast_107 (v := 0) (by decide) (pc' := 108) rfl ?_
      refine Z_cV dX12_coast_108 rfl zcw_X12_passesAll (As := [_, _]) (rest := []) rfl ⟨Nat.le_of_ble_eq_true rfl, Nat.le_of_ble_eq_true rfl⟩ (Nat.le_of_ble_eq_true rfl) (zRcv.lay zob_25) ⟨zcw_X12_passesAll.2.2.2.2, Nat.le_of_ble_eq_true rfl⟩ zk_RX12_136 (c_X12_passesAll_r (wh := 1) (by decide)) (pc' := 111) rfl (fun r_108 w_108 h_108 => ?_)
      obtain ⟨rfl, S3, rfl, k3⟩ := h_108
      change RI 1 (pst S2 1 0) S3 207 at k3
      have g40 : S3.1 40 k = nI p := by
        rw [k3.lo (Or.inr (by decide)) (by decide), pst_lo S2 1 0 (by decide)]; exact (hnm2 k p hp).2.1
      show Z _ _ _ _ _ _ [] _
      refine Z_sipush dX12_coast_111 (v := (-2000)) (by decide) (pc' := 114) rfl ?_
      refine Z_aload_n dX12_coast_114 rfl (z_isref _) (pc' := 115) rfl ?_
      refine Z_gR dX12_coast_115 rfl zgr_RX12_52_25 (pc' := 118) rfl ?_
      refine Z_iload_n dX12_coast_118 rfl (pc' := 119) rfl ?_
      refine Z_il dX12_coast_119 zar_40 (zin (by omega) (by decide)) (pc' := 120) rfl ?_
      rw [nI_nat (by omega), g40]
      refine Z_isub dX12_coast_120 (pc' := 121) rfl ?_
      exact Z_ireturn dX12_coast_121 rfl rfl (hF S3 p (by rw [← hT, rdF_n hc2]) (f.tr (f2.tr (pst_r.tr (RI_r k3)))) (mV_of ok0 (f := fun j => S2.1 42 (220 + j)) (fun j hj => by rw [k3.2.2.2.2 j hj, show (pst S2 1 0).1 42 = S2.1 42 from pst_lo S2 1 0 (by decide)]) (kV_cg2 (fun j hj => by rw [f2.2 42 _ (scR_no (Or.inr (by decide)) (by decide))]; exact hcp j hj) ok0 hkv)))
set_option maxRecDepth 100000 in
set_option maxHeartbeats 4000000 in
theorem lp_X12_coast_60a {S : ZS} {n : Nat} {M : Ms} (hI : MI S M) {S1 : ZS} {x : Nat} (hps : psF (mtx M) (mL M) 80 0 = .inr x) (f : fw gsc S S1) (hat : S1.1 25 21 = nI x) (hV : mV S1 (mc M)) : Z m_X12_coast 0 0 (qR S n (spCoast M)) 60 [some (.ref 25), some (.int 0)] [] (zw S1 n) := by
  refine Z_aload_n dX12_coast_60 rfl (z_isref _) (pc' := 61) rfl ?_
  refine Z_iconst dX12_coast_61 (v := 0) (by decide) (pc' := 62) rfl ?_
  refine Z_pI dX12_coast_62 rfl zpi_RX12_81_25 (pc' := 65) rfl ?_
  refine Z_iload_n dX12_coast_65 rfl (pc' := 66) rfl ?_
  refine Z_if_ne dX12_coast_66 (tgt := 78) rfl (pc' := 69) rfl (fun c_66 => absurd c_66 (fun g => g rfl)) (fun c_66 => ?_)
  refine Z_sipush dX12_coast_69 (v := (-1000)) (by decide) (pc' := 72) rfl ?_
  refine Z_aload_n dX12_coast_72 rfl (z_isref _) (pc' := 73) rfl ?_
  refine Z_gI dX12_coast_73 rfl zgi_RX12_89_25 (pc' := 76) rfl ?_
  rw [sA_nk _ _ (by decide), hat]
  refine Z_isub dX12_coast_76 (pc' := 77) rfl ?_
  exact Z_ireturn dX12_coast_77 rfl rfl (qR.mk (M' := wT M (mtx M) 0) (by unfold spCoast; rw [hps]) (fw_frm (fw_sA f _ gsc_20)) (MI_coast (c := mc M) hI (fw_sA f _ gsc_20) (sA_eq ..) (mV_cg hV (fun k h1 h2 => sA_nk _ _ fun g => by omega) (fun a h1 h2 => sA_ne _ _ _ (by omega))) hI.ok))
theorem nmV_3 {S S' : ZS} {tx : Nat → Int32} {L i p : Nat} (h1 : S'.1 39 = S.1 39) (h2 : S'.1 40 = S.1 40) (h3 : S'.1 41 = S.1 41) (h : nmV S tx L i p) : nmV S' tx L i p := by
  unfold nmV
  rw [h1, h2, h3]
  exact h
theorem nmV_25 {S : ZS} {tx : Nat → Int32} {L i p k : Nat} {x : Int32} (h : nmV S tx L i p) : nmV (sA S 25 k x) tx L i p := nmV_3 (sA_ne _ _ _ (by decide)) (sA_ne _ _ _ (by decide)) (sA_ne _ _ _ (by decide)) h
set_option maxRecDepth 100000 in
set_option maxHeartbeats 4000000 in
theorem lp_X12_coast_60b {S : ZS} {n : Nat} {M : Ms} (hI : MI S M) {S1 : ZS} {l : List Nat} (hps : psF (mtx M) (mL M) 80 0 = .inl l) (f : fw gsc S S1) (hst : S1.1 25 22 = nI l.length) (hnm : ∀ i x, l[i]? = some x → nmV S1 (mtx M) (mL M) i x) (hl27 : l.length ≤ 27) (hV : mV S1 (mc M)) : Z m_X12_coast 0 0 (qR S n (spCoast M)) 60 [some (.ref 25), some (.int 1)] [] (zw S1 n) := by
  refine Z_aload_n dX12_coast_60 rfl (z_isref _) (pc' := 61) rfl ?_
  refine Z_iconst dX12_coast_61 (v := 0) (by decide) (pc' := 62) rfl ?_
  refine Z_pI dX12_coast_62 rfl zpi_RX12_81_25 (pc' := 65) rfl ?_
  have hV2 : mV (sA S1 25 20 0) (mc M) := mV_cg hV (fun k h1 h2 => sA_nk _ _ fun g => by omega) (fun a h1 h2 => sA_ne _ _ _ (by omega))
  have f2 := fw_sA f (a := 25) (k := 20) 0 gsc_20
  have h20 : (sA S1 25 20 0).1 25 20 = nI 0 := sA_eq ..
  have h22 : (sA S1 25 20 0).1 25 22 = nI l.length := by rw [sA_nk _ _ (by decide)]; exact hst
  have hnm2 : ∀ i x, l[i]? = some x → nmV (sA S1 25 20 0) (mtx M) (mL M) i x := fun i x hx => nmV_25 (hnm i x hx)
  generalize sA S1 25 20 0 = S2 at hV2 f2 h20 h22 hnm2 ⊢
  refine Z_iload_n dX12_coast_65 rfl (pc' := 66) rfl ?_
  refine Z_if_ne dX12_coast_66 (tgt := 78) rfl (pc' := 69) rfl (fun c_66 => ?_) (fun c_66 => absurd c_66 (by decide))
  refine Z_aload_n dX12_coast_78 rfl (z_isref _) (pc' := 79) rfl ?_
  refine Z_iconst dX12_coast_79 (v := 1) (by decide) (pc' := 80) rfl ?_
  refine Z_iconst dX12_coast_80 (v := 1) (by decide) (pc' := 81) rfl ?_
  refine Z_cV dX12_coast_81 rfl zcw_X12_passesAll (As := [_, _]) (rest := []) rfl ⟨Nat.le_of_ble_eq_true rfl, Nat.le_of_ble_eq_true rfl⟩ (Nat.le_of_ble_eq_true rfl) (zRcv.lay zob_25) ⟨zcw_X12_passesAll.2.2.2.2, Nat.le_of_ble_eq_true rfl⟩ zk_RX12_136 (c_X12_passesAll_k (wh := 1) (by decide)) (pc' := 84) rfl (fun r_81 w_81 h_81 => ?_)
  obtain ⟨rfl, S3, rfl, k3⟩ := h_81
  change KI 1 (pst S2 1 1) S3 207 at k3
  have f3 := f2.tr (pst_g.tr (KI_g k3))
  have v0 : mV (pst S2 1 1) (mc M) := pst_mv hV2 1 1
  show Z _ _ _ _ _ _ [] _
  refine Z_iconst dX12_coast_84 (v := 0) (by decide) (pc' := 85) rfl ?_
  refine Z_istore_n dX12_coast_85 (Nat.le_of_ble_eq_true rfl) (Nat.le_of_ble_eq_true rfl) rfl (ls' := [_, _, _]) rfl (pc' := 86) rfl ?_
  have t20 : ∀ S4, fw scR S3 S4 → S4.1 25 20 = nI 0 := fun S4 g => by rw [g.2 25 20 rfl, k3.f (by decide) (by decide), pst_f S2 1 1 (by decide) (by decide)]; exact h20
  refine lp_X12_coast2 (S0 := S3) (kp := fun j => S3.1 42 (220 * 1 + j)) (c0 := mc M) hl27 (psF_wf hps) hI.ok (kV_of hI.ok (fun j hj => k3.2.2.2.2 j hj) v0) (T := rdF (mtx M) (mL M) l (mc M) 0) (fun S4 c e g m ok => ?_) (fun S4 x e g m => ?_) l.length 0 (mc M) S3 (by omega) fw.rf (by rw [k3.f (by decide) (by decide), pst_f S2 1 1 (by decide) (by decide)]; exact h22) (fun i x hx => nmV_3 (k3.lo (by decide) (by decide)) (k3.lo (by decide) (by decide)) (k3.lo (by decide) (by decide)) (nmV_3 (pst_lo S2 1 1 (by decide)) (pst_lo S2 1 1 (by decide)) (pst_lo S2 1 1 (by decide)) (hnm2 i x hx))) (k3.mv v0) hI.ok (fun j hj => rfl) rfl
  · exact qR.mk (M' := wC (wT M (mtx M) 0) c) (by unfold spCoast; rw [hps]; simp only []; rw [e]) (fw_frm (f3.tr (g.wd scR_g))) (MI_coast hI (f3.tr (g.wd scR_g)) (t20 S4 g) m ok)
  · exact qR.mk (M' := wT M (mtx M) 0) (by unfold spCoast; rw [hps]; simp only []; rw [e]) (fw_frm (f3.tr (g.wd scR_g))) (MI_coast (c := mc M) hI (f3.tr (g.wd scR_g)) (t20 S4 g) m hI.ok)
theorem mV_C {S S1 : ZS} {c : Co} (v : mV S c) (f : fw qC S S1) : mV S1 c := mV_cg v (fun k h1 h2 => f.2 25 k (by
    have a1 : ¬ k = 21 := by omega
    have a2 : ¬ k = 22 := by omega
    unfold qC
    rw [decide_eq_false a1, decide_eq_false a2]; rfl)) (fun a h1 h2 => funext fun j => f.2 a j (by
    have a1 : ¬ 39 ≤ a := by omega
    have a2 : ¬ a = 25 := by omega
    unfold qC
    rw [decide_eq_false a1, decide_eq_false a2]; rfl))
set_option maxRecDepth 100000 in
set_option maxHeartbeats 4000000 in
theorem c_X12_coast {S : ZS} {n : Nat} {M : Ms} (hI : MI S M) : zM m_X12_coast 0 0 [.ref 25] (zw S n) (qR S n (spCoast M)) := by
  show Z m_X12_coast _ _ _ 0 [some (.ref _)] [] _
  refine Z_aload_n dX12_coast_0 rfl (z_isref _) (pc' := 1) rfl ?_
  refine Z_iconst dX12_coast_1 (v := 0) (by decide) (pc' := 2) rfl ?_
  refine Z_pI dX12_coast_2 rfl zpi_RX12_89_25 (pc' := 5) rfl ?_
  refine Z_aload_n dX12_coast_5 rfl (z_isref _) (pc' := 6) rfl ?_
  refine Z_iconst dX12_coast_6 (v := 0) (by decide) (pc' := 7) rfl ?_
  refine Z_pI dX12_coast_7 rfl zpi_RX12_107_25 (pc' := 10) rfl ?_
  refine Z_iconst dX12_coast_10 (v := 1) (by decide) (pc' := 11) rfl ?_
  refine Z_istore_n dX12_coast_11 (Nat.le_of_ble_eq_true rfl) (Nat.le_of_ble_eq_true rfl) rfl (ls' := [_, _]) rfl (pc' := 12) rfl ?_
  have ht : tpV S (mtx M) (mL M) := hI.2.2.1
  have f0 : fw qC S (sA (sA S 25 21 0) 25 22 0) := fw_sA (fw_sA fw.rf _ rfl) _ rfl
  refine lp_X12_coast1 (S0 := S) ht (T := psF (mtx M) (mL M) 80 0) (fun S1 x e f ha => ?_) (fun S1 l e f h22 hn h27 => ?_) 80 0 0 [] _ rfl (by decide) (Or.inr ⟨rfl, rfl⟩) rfl f0 (by rw [sA_nk _ _ (by decide)]; exact sA_eq ..) (sA_eq ..) (fun i x h => by cases h) (by cases psF (mtx M) (mL M) 80 0 <;> rfl)
  · exact lp_X12_coast_60a hI e (f.wd qC_g) ha (mV_C hI.mv f)
  · exact lp_X12_coast_60b hI e (f.wd qC_g) h22 hn h27 (mV_C hI.mv f)
