theorem scR_row {b j : Nat} (h1 : 27 ≤ b) (h2 : b ≤ 37) : scR b j = true := by unfold scR; rw [decide_eq_true h1, decide_eq_true h2]; rfl
theorem scR_no {b j : Nat} (h1 : b < 27 ∨ 37 < b) (h2 : b ≠ 25) : scR b j = false := by
  unfold scR
  rw [decide_eq_false h2]
  rcases h1 with q | q
  · have : ¬ 27 ≤ b := by omega
    simp [this]
  · have : ¬ b ≤ 37 := by omega
    simp [this]
theorem nmV_fr {S S' : ZS} {tx : Nat → Int32} {L i p : Nat} (h : nmV S tx L i p) (f : fw scR S S') : nmV S' tx L i p := by
  have g : ∀ b, 37 < b → S'.1 b = S.1 b := fun b hb => funext fun j => f.2 b j (scR_no (Or.inr hb) (by omega))
  unfold nmV
  rw [g 39 (by decide), g 40 (by decide), g 41 (by decide)]
  exact h
theorem mV_rk {S : ZS} {c : Co} {x y lo hi : Nat} (v : mV S c) : mV (sA (sA (sA (sA (sA S 34 (cnr c) (nI x)) 35 (cnr c) (nI y)) 36 (cnr c) (nI lo)) 37 (cnr c) (nI hi)) 25 14 (nI (cnr c + 1))) (addRk c x y lo hi) := by
  obtain ⟨e1, e2, e3, e4, e5, e6, e7, e8, e9, e10, e11⟩ := addRk_facts c x y lo hi
  obtain ⟨⟨a1, a2, a3, a4⟩, b, d, e, r⟩ := v
  refine ⟨⟨?_, ?_, ?_, ?_⟩, fun k hk => ?_, fun p hp => ?_, fun p h1 hp => ?_, fun k hk => ?_⟩
  · rw [sA_nk _ _ (by decide), sA_ne _ _ _ (by decide), sA_ne _ _ _ (by decide), sA_ne _ _ _ (by decide), sA_ne _ _ _ (by decide), e1]; exact a1
  · rw [sA_nk _ _ (by decide), sA_ne _ _ _ (by decide), sA_ne _ _ _ (by decide), sA_ne _ _ _ (by decide), sA_ne _ _ _ (by decide), e2]; exact a2
  · rw [sA_eq, e3]
  · rw [sA_nk _ _ (by decide), sA_ne _ _ _ (by decide), sA_ne _ _ _ (by decide), sA_ne _ _ _ (by decide), sA_ne _ _ _ (by decide), e4]; exact a4
  · rw [e1] at hk
    have g : ∀ a, 27 ≤ a → a ≤ 30 → (sA (sA (sA (sA (sA S 34 (cnr c) (nI x)) 35 (cnr c) (nI y)) 36 (cnr c) (nI lo)) 37 (cnr c) (nI hi)) 25 14 (nI (cnr c + 1))).1 a = S.1 a := fun a h1 h2 => by
      rw [sA_ne _ _ _ (by omega), sA_ne _ _ _ (by omega), sA_ne _ _ _ (by omega), sA_ne _ _ _ (by omega), sA_ne _ _ _ (by omega)]
    rw [g 27 (by decide) (by decide), g 28 (by decide) (by decide), g 29 (by decide) (by decide), g 30 (by decide) (by decide), (e5 k).1, (e5 k).2.1, (e5 k).2.2.1, (e5 k).2.2.2]
    exact b k hk
  · rw [e2] at hp
    rw [sA_ne _ _ _ (by decide), sA_ne _ _ _ (by decide), sA_ne _ _ _ (by decide), sA_ne _ _ _ (by decide), sA_ne _ _ _ (by decide), sA_ne _ _ _ (by decide), sA_ne _ _ _ (by decide), sA_ne _ _ _ (by decide), sA_ne _ _ _ (by decide), sA_ne _ _ _ (by decide), (e11 p).1, (e11 p).2]
    exact d p hp
  · rw [e2] at hp
    rw [sA_ne _ _ _ (by decide), sA_ne _ _ _ (by decide), sA_ne _ _ _ (by decide), sA_ne _ _ _ (by decide), sA_ne _ _ _ (by decide), e6]
    exact e p h1 hp
  · rw [e3] at hk
    have q34 : (sA (sA (sA (sA (sA S 34 (cnr c) (nI x)) 35 (cnr c) (nI y)) 36 (cnr c) (nI lo)) 37 (cnr c) (nI hi)) 25 14 (nI (cnr c + 1))).1 34 = zup (S.1 34) (cnr c) (nI x) := by
      rw [sA_ne _ _ _ (by decide), sA_ne _ _ _ (by decide), sA_ne _ _ _ (by decide), sA_ne _ _ _ (by decide), sA_same]
    have q35 : (sA (sA (sA (sA (sA S 34 (cnr c) (nI x)) 35 (cnr c) (nI y)) 36 (cnr c) (nI lo)) 37 (cnr c) (nI hi)) 25 14 (nI (cnr c + 1))).1 35 = zup (S.1 35) (cnr c) (nI y) := by
      rw [sA_ne _ _ _ (by decide), sA_ne _ _ _ (by decide), sA_ne _ _ _ (by decide), sA_same, sA_ne _ _ _ (by decide)]
    have q36 : (sA (sA (sA (sA (sA S 34 (cnr c) (nI x)) 35 (cnr c) (nI y)) 36 (cnr c) (nI lo)) 37 (cnr c) (nI hi)) 25 14 (nI (cnr c + 1))).1 36 = zup (S.1 36) (cnr c) (nI lo) := by
      rw [sA_ne _ _ _ (by decide), sA_ne _ _ _ (by decide), sA_same, sA_ne _ _ _ (by decide), sA_ne _ _ _ (by decide)]
    have q37 : (sA (sA (sA (sA (sA S 34 (cnr c) (nI x)) 35 (cnr c) (nI y)) 36 (cnr c) (nI lo)) 37 (cnr c) (nI hi)) 25 14 (nI (cnr c + 1))).1 37 = zup (S.1 37) (cnr c) (nI hi) := by
      rw [sA_ne _ _ _ (by decide), sA_same, sA_ne _ _ _ (by decide), sA_ne _ _ _ (by decide), sA_ne _ _ _ (by decide)]
    rw [q34, q35, q36, q37, e7 k, e8 k, e9 k, e10 k]
    by_cases g : k = cnr c
    · subst g; rw [zup_same, zup_same, zup_same, zup_same, if_pos rfl, if_pos rfl, if_pos rfl, if_pos rfl]; exact ⟨rfl, rfl, rfl, rfl⟩
    · rw [zup_ne _ _ g, zup_ne _ _ g, zup_ne _ _ g, zup_ne _ _ g, if_neg g, if_neg g, if_neg g, if_neg g]; exact r k (by omega)
theorem mV_st {S : ZS} {c : Co} {kd fg ln : Nat} (v : mV S c) : mV (sA (sA (sA (sA (sA S 27 (cns c) (nI kd)) 28 (cns c) (nI fg)) 29 (cns c) (nI (cny c + 1))) 30 (cns c) (nI ln)) 25 12 (nI (cns c + 1))) (addSt c kd fg ln) := by
  obtain ⟨e1, e2, e3, e4, e5, e6, e7, e8, e9, e10, e11⟩ := addSt_facts c kd fg ln
  obtain ⟨⟨a1, a2, a3, a4⟩, b, d, e, r⟩ := v
  refine ⟨⟨?_, ?_, ?_, ?_⟩, fun k hk => ?_, fun p hp => ?_, fun p h1 hp => ?_, fun k hk => ?_⟩
  · rw [sA_eq, e1]
  · rw [sA_nk _ _ (by decide), sA_ne _ _ _ (by decide), sA_ne _ _ _ (by decide), sA_ne _ _ _ (by decide), sA_ne _ _ _ (by decide), e2]; exact a2
  · rw [sA_nk _ _ (by decide), sA_ne _ _ _ (by decide), sA_ne _ _ _ (by decide), sA_ne _ _ _ (by decide), sA_ne _ _ _ (by decide), e3]; exact a3
  · rw [sA_nk _ _ (by decide), sA_ne _ _ _ (by decide), sA_ne _ _ _ (by decide), sA_ne _ _ _ (by decide), sA_ne _ _ _ (by decide), e4]; exact a4
  · rw [e1] at hk
    have q27 : (sA (sA (sA (sA (sA S 27 (cns c) (nI kd)) 28 (cns c) (nI fg)) 29 (cns c) (nI (cny c + 1))) 30 (cns c) (nI ln)) 25 12 (nI (cns c + 1))).1 27 = zup (S.1 27) (cns c) (nI kd) := by
      rw [sA_ne _ _ _ (by decide), sA_ne _ _ _ (by decide), sA_ne _ _ _ (by decide), sA_ne _ _ _ (by decide), sA_same]
    have q28 : (sA (sA (sA (sA (sA S 27 (cns c) (nI kd)) 28 (cns c) (nI fg)) 29 (cns c) (nI (cny c + 1))) 30 (cns c) (nI ln)) 25 12 (nI (cns c + 1))).1 28 = zup (S.1 28) (cns c) (nI fg) := by
      rw [sA_ne _ _ _ (by decide), sA_ne _ _ _ (by decide), sA_ne _ _ _ (by decide), sA_same, sA_ne _ _ _ (by decide)]
    have q29 : (sA (sA (sA (sA (sA S 27 (cns c) (nI kd)) 28 (cns c) (nI fg)) 29 (cns c) (nI (cny c + 1))) 30 (cns c) (nI ln)) 25 12 (nI (cns c + 1))).1 29 = zup (S.1 29) (cns c) (nI (cny c + 1)) := by
      rw [sA_ne _ _ _ (by decide), sA_ne _ _ _ (by decide), sA_same, sA_ne _ _ _ (by decide), sA_ne _ _ _ (by decide)]
    have q30 : (sA (sA (sA (sA (sA S 27 (cns c) (nI kd)) 28 (cns c) (nI fg)) 29 (cns c) (nI (cny c + 1))) 30 (cns c) (nI ln)) 25 12 (nI (cns c + 1))).1 30 = zup (S.1 30) (cns c) (nI ln) := by
      rw [sA_ne _ _ _ (by decide), sA_same, sA_ne _ _ _ (by decide), sA_ne _ _ _ (by decide), sA_ne _ _ _ (by decide)]
    rw [q27, q28, q29, q30, e5 k, e6 k, e7 k, e8 k]
    by_cases g : k = cns c
    · subst g; rw [zup_same, zup_same, zup_same, zup_same, if_pos rfl, if_pos rfl, if_pos rfl, if_pos rfl]; exact ⟨rfl, rfl, rfl, rfl⟩
    · rw [zup_ne _ _ g, zup_ne _ _ g, zup_ne _ _ g, zup_ne _ _ g, if_neg g, if_neg g, if_neg g, if_neg g]; exact b k (by omega)
  · rw [e2] at hp
    rw [sA_ne _ _ _ (by decide), sA_ne _ _ _ (by decide), sA_ne _ _ _ (by decide), sA_ne _ _ _ (by decide), sA_ne _ _ _ (by decide), sA_ne _ _ _ (by decide), sA_ne _ _ _ (by decide), sA_ne _ _ _ (by decide), sA_ne _ _ _ (by decide), sA_ne _ _ _ (by decide), (e11 p).1, (e11 p).2]
    exact d p hp
  · rw [e2] at hp
    rw [sA_ne _ _ _ (by decide), sA_ne _ _ _ (by decide), sA_ne _ _ _ (by decide), sA_ne _ _ _ (by decide), sA_ne _ _ _ (by decide), e9]
    exact e p h1 hp
  · rw [e3] at hk
    have g : ∀ a, 34 ≤ a → a ≤ 37 → (sA (sA (sA (sA (sA S 27 (cns c) (nI kd)) 28 (cns c) (nI fg)) 29 (cns c) (nI (cny c + 1))) 30 (cns c) (nI ln)) 25 12 (nI (cns c + 1))).1 a = S.1 a := fun a h1 h2 => by
      rw [sA_ne _ _ _ (by omega), sA_ne _ _ _ (by omega), sA_ne _ _ _ (by omega), sA_ne _ _ _ (by omega), sA_ne _ _ _ (by omega)]
    rw [g 34 (by decide) (by decide), g 35 (by decide) (by decide), g 36 (by decide) (by decide), g 37 (by decide) (by decide), (e10 k).1, (e10 k).2.1, (e10 k).2.2.1, (e10 k).2.2.2]
    exact r k hk
theorem mV_yd {S : ZS} {v X Y : Int32} {d : Co} {k : Nat} (h : mV (sA S 25 12 v) d) (hk : cns d = k + 1) : mV (sA (sA (sA (sA (sA S 31 (cny d + 1) X) 32 (cny d + 1) Y) 33 (cny d + 1) (nI k)) 25 13 (nI (cny d + 1))) 25 12 v) (addYd d X Y) := by
  obtain ⟨e1, e2, e3, e4, e5, e6, e7, e8, e9⟩ := addYd_facts d X Y
  obtain ⟨⟨a1, a2, a3, a4⟩, b, dd, e, r⟩ := h
  rw [sA_eq] at a1
  rw [sA_nk _ _ (by decide)] at a3 a4
  have g0 : ∀ a, a ≠ 25 → (sA S 25 12 v).1 a = S.1 a := fun a ha => sA_ne _ _ _ ha
  refine ⟨⟨?_, ?_, ?_, ?_⟩, fun j hj => ?_, fun p hp => ?_, fun p h1 hp => ?_, fun j hj => ?_⟩
  · rw [sA_eq, e1]; exact a1
  · rw [sA_nk _ _ (by decide), sA_eq, e2]
  · rw [sA_nk _ _ (by decide), sA_nk _ _ (by decide), sA_ne _ _ _ (by decide), sA_ne _ _ _ (by decide), sA_ne _ _ _ (by decide), e3]; exact a3
  · rw [sA_nk _ _ (by decide), sA_nk _ _ (by decide), sA_ne _ _ _ (by decide), sA_ne _ _ _ (by decide), sA_ne _ _ _ (by decide), e4]; exact a4
  · rw [e1] at hj
    have g : ∀ a, 27 ≤ a → a ≤ 30 → (sA (sA (sA (sA (sA S 31 (cny d + 1) X) 32 (cny d + 1) Y) 33 (cny d + 1) (nI k)) 25 13 (nI (cny d + 1))) 25 12 v).1 a = S.1 a := fun a h1 h2 => by
      rw [sA_ne _ _ _ (by omega), sA_ne _ _ _ (by omega), sA_ne _ _ _ (by omega), sA_ne _ _ _ (by omega), sA_ne _ _ _ (by omega)]
    have := b j hj
    rw [g0 27 (by decide), g0 28 (by decide), g0 29 (by decide), g0 30 (by decide)] at this
    rw [g 27 (by decide) (by decide), g 28 (by decide) (by decide), g 29 (by decide) (by decide), g 30 (by decide) (by decide), (e5 j).1, (e5 j).2.1, (e5 j).2.2.1, (e5 j).2.2.2]
    exact this
  · rw [e2] at hp
    rw [sA_ne _ _ _ (by decide), sA_ne _ _ _ (by decide), sA_ne _ _ _ (by decide), sA_ne _ _ _ (by decide), sA_same, sA_ne _ _ _ (by decide), sA_ne _ _ _ (by decide), sA_ne _ _ _ (by decide), sA_same, sA_ne _ _ _ (by decide), e8 p, e9 p]
    by_cases q : p = cny d + 1
    · subst q; rw [zup_same, zup_same, if_pos rfl, if_pos rfl]; exact ⟨rfl, rfl⟩
    · have := dd p (by omega)
      rw [g0 31 (by decide), g0 32 (by decide)] at this
      rw [zup_ne _ _ q, zup_ne _ _ q, if_neg q, if_neg q]; exact this
  · rw [e2] at hp
    rw [sA_ne _ _ _ (by decide), sA_ne _ _ _ (by decide), sA_same, sA_ne _ _ _ (by decide), sA_ne _ _ _ (by decide), e6 p]
    by_cases q : p = cny d + 1
    · subst q; rw [zup_same, if_pos rfl, hk]; rfl
    · have := e p h1 (by omega)
      rw [g0 33 (by decide)] at this
      rw [zup_ne _ _ q, if_neg q]; exact this
  · rw [e3] at hj
    have g : ∀ a, 34 ≤ a → a ≤ 37 → (sA (sA (sA (sA (sA S 31 (cny d + 1) X) 32 (cny d + 1) Y) 33 (cny d + 1) (nI k)) 25 13 (nI (cny d + 1))) 25 12 v).1 a = S.1 a := fun a h1 h2 => by
      rw [sA_ne _ _ _ (by omega), sA_ne _ _ _ (by omega), sA_ne _ _ _ (by omega), sA_ne _ _ _ (by omega), sA_ne _ _ _ (by omega)]
    have := r j hj
    rw [g0 34 (by decide), g0 35 (by decide), g0 36 (by decide), g0 37 (by decide)] at this
    rw [g 34 (by decide) (by decide), g 35 (by decide) (by decide), g 36 (by decide) (by decide), g 37 (by decide) (by decide), (e7 j).1, (e7 j).2.1, (e7 j).2.2.1, (e7 j).2.2.2]
    exact this
theorem wys_all {tx : Nat → Int32} {L p : Nat} : ∀ j, j < wys tx L p → isWy (ltr tx L (p + j)) = true := by
  have key : ∀ (q : Nat → Bool) (m i : Nat), ∀ j, i ≤ j → j < wysN q m i → q j = true := by
    intro q m
    induction m with
    | zero => intro i j h1 h2; unfold wysN at h2; omega
    | succ m ih =>
      intro i j h1 h2
      unfold wysN at h2
      by_cases hq : q i = true
      · rw [if_pos hq] at h2
        rcases Nat.eq_or_lt_of_le h1 with e | e
        · rw [← e]; exact hq
        · exact ih (i + 1) j e h2
      · rw [if_neg hq] at h2; omega
  exact fun j hj => key (fun w => isWy (ltr tx L (p + w))) 9 0 j (Nat.zero_le j) hj
theorem dgN_lt (tx : Nat → Int32) (L p : Nat) : dgN tx L p < 2147483648 := by
  unfold dgN
  generalize ltr tx L p - 48 = x
  rcases i32_cases x with h | ⟨k, hk, rfl⟩
  · have : x.toInt < 0 := by
      have := Int32.lt_iff_toInt_lt.mp h
      simpa using this
    unfold Int32.toNatClampNeg
    omega
  · rw [nI_nat hk]; exact hk
set_option maxRecDepth 100000 in
set_option maxHeartbeats 4000000 in
theorem c_X12_comesRock {S : ZS} {n q : Nat} {c : Co} {d : Nat → Nat} (hV : mV S c) (ok : Cok c) (hq : q + 12 ≤ 640) (hn : ∀ j, j < 6 → S.1 41 (q + j) = nI (d j)) (hd : ∀ j, d j < 2147483648) : zM m_X12_comesRock 0 0 [.ref 25, .int (nI q)] (zw S n) (fun r ω => ((d 4 ≤ d 5 ∧ cnr c < 6) ∧ r = some (.int 1) ∧ ∃ S1, ω = zw S1 n ∧ fw scR S S1 ∧ mV S1 (addRk c (10 * d 0 + d 1) (10 * d 2 + d 3) (d 4) (d 5))) ∨ (¬ (d 4 ≤ d 5 ∧ cnr c < 6) ∧ r = some (.int 0) ∧ ∃ S1, ω = zw S1 n ∧ fw scR S S1)) := by
  have h6 := ok.2.2.1
  show Z m_X12_comesRock _ _ _ 0 [some (.ref _), some (.int _)] [] _
  refine Z_aload_n dX12_comesRock_0 rfl (z_isref _) (pc' := 1) rfl ?_
  refine Z_gI dX12_comesRock_1 rfl zgi_RX12_120_25 (pc' := 4) rfl ?_
  rw [hV.1.2.2.1]
  refine Z_bipush dX12_comesRock_4 (v := 6) (by decide) (pc' := 6) rfl ?_
  refine Z_icmp_eq dX12_comesRock_6 (tgt := 28) rfl (pc' := 9) rfl (fun c_6 => ?_) (fun c_6 => ?_)
  · refine Z_iconst dX12_comesRock_28 (v := 0) (by decide) (pc' := 29) rfl ?_
    exact Z_ireturn dX12_comesRock_29 rfl (by first | rfl | exact narrow_zb _) (Or.inr ⟨fun g => by have e := (nI_eqn (b := 6) (by omega) (by decide)).mp c_6; omega, rfl, S, rfl, fw.rf⟩)
  · refine Z_aload_n dX12_comesRock_9 rfl (z_isref _) (pc' := 10) rfl ?_
    refine Z_gR dX12_comesRock_10 rfl zgr_RX12_55_25 (pc' := 13) rfl ?_
    refine Z_iload_n dX12_comesRock_13 rfl (pc' := 14) rfl ?_
    refine Z_iconst dX12_comesRock_14 (v := 4) (by decide) (pc' := 15) rfl ?_
    refine Z_iadd dX12_comesRock_15 (pc' := 16) rfl ?_
    rw [show nI q + 4 = nI (q + 4) from by rw [show (4 : Int32) = nI 4 from rfl, nI_add]]
    refine Z_il dX12_comesRock_16 zar_41 (zin (by omega) (by decide)) (pc' := 17) rfl ?_
    rw [nI_nat (by omega), hn 4 (by decide)]
    refine Z_aload_n dX12_comesRock_17 rfl (z_isref _) (pc' := 18) rfl ?_
    refine Z_gR dX12_comesRock_18 rfl zgr_RX12_55_25 (pc' := 21) rfl ?_
    refine Z_iload_n dX12_comesRock_21 rfl (pc' := 22) rfl ?_
    refine Z_iconst dX12_comesRock_22 (v := 5) (by decide) (pc' := 23) rfl ?_
    refine Z_iadd dX12_comesRock_23 (pc' := 24) rfl ?_
    rw [show nI q + 5 = nI (q + 5) from by rw [show (5 : Int32) = nI 5 from rfl, nI_add]]
    refine Z_il dX12_comesRock_24 zar_41 (zin (by omega) (by decide)) (pc' := 25) rfl ?_
    rw [nI_nat (by omega), hn 5 (by decide)]
    refine Z_icmp_le dX12_comesRock_25 (tgt := 30) rfl (pc' := 28) rfl (fun c_25 => ?_) (fun c_25 => ?_)
    · have hlt : cnr c < 6 := by
        have : cnr c ≠ 6 := fun g => c_6 (by rw [g]; rfl)
        omega
      refine Z_aload_n dX12_comesRock_30 rfl (z_isref _) (pc' := 31) rfl ?_
      refine Z_gR dX12_comesRock_31 rfl zgr_RX12_34_25 (pc' := 34) rfl ?_
      refine Z_aload_n dX12_comesRock_34 rfl (z_isref _) (pc' := 35) rfl ?_
      refine Z_gI dX12_comesRock_35 rfl zgi_RX12_120_25 (pc' := 38) rfl ?_
      rw [hV.1.2.2.1]
      refine Z_bipush dX12_comesRock_38 (v := 10) (by decide) (pc' := 40) rfl ?_
      refine Z_aload_n dX12_comesRock_40 rfl (z_isref _) (pc' := 41) rfl ?_
      refine Z_gR dX12_comesRock_41 rfl zgr_RX12_55_25 (pc' := 44) rfl ?_
      refine Z_iload_n dX12_comesRock_44 rfl (pc' := 45) rfl ?_
      refine Z_il dX12_comesRock_45 zar_41 (zin (by omega) (by decide)) (pc' := 46) rfl ?_
      rw [nI_nat (by omega), show S.1 41 q = nI (d 0) from hn 0 (by decide)]
      refine Z_imul dX12_comesRock_46 (pc' := 47) rfl ?_
      refine Z_aload_n dX12_comesRock_47 rfl (z_isref _) (pc' := 48) rfl ?_
      refine Z_gR dX12_comesRock_48 rfl zgr_RX12_55_25 (pc' := 51) rfl ?_
      refine Z_iload_n dX12_comesRock_51 rfl (pc' := 52) rfl ?_
      refine Z_iconst dX12_comesRock_52 (v := 1) (by decide) (pc' := 53) rfl ?_
      refine Z_iadd dX12_comesRock_53 (pc' := 54) rfl ?_
      rw [show nI q + 1 = nI (q + 1) from by rw [show (1 : Int32) = nI 1 from rfl, nI_add]]
      refine Z_il dX12_comesRock_54 zar_41 (zin (by omega) (by decide)) (pc' := 55) rfl ?_
      rw [nI_nat (by omega), hn 1 (by decide)]
      refine Z_iadd dX12_comesRock_55 (pc' := 56) rfl ?_
      rw [show (10 : Int32) * nI (d 0) + nI (d 1) = nI (10 * d 0 + d 1) from by rw [show (10 : Int32) = nI 10 from rfl, nI_mul, nI_add]]
      refine Z_is dX12_comesRock_56 zar_34 (zin (by omega) (by decide)) (pc' := 57) rfl ?_
      rw [nI_nat (by omega)]
      refine Z_aload_n dX12_comesRock_57 rfl (z_isref _) (pc' := 58) rfl ?_
      refine Z_gR dX12_comesRock_58 rfl zgr_RX12_37_25 (pc' := 61) rfl ?_
      refine Z_aload_n dX12_comesRock_61 rfl (z_isref _) (pc' := 62) rfl ?_
      refine Z_gI dX12_comesRock_62 rfl zgi_RX12_120_25 (pc' := 65) rfl ?_
      rw [sA_ne _ _ _ (by decide), hV.1.2.2.1]
      refine Z_bipush dX12_comesRock_65 (v := 10) (by decide) (pc' := 67) rfl ?_
      refine Z_aload_n dX12_comesRock_67 rfl (z_isref _) (pc' := 68) rfl ?_
      refine Z_gR dX12_comesRock_68 rfl zgr_RX12_55_25 (pc' := 71) rfl ?_
      refine Z_iload_n dX12_comesRock_71 rfl (pc' := 72) rfl ?_
      refine Z_iconst dX12_comesRock_72 (v := 2) (by decide) (pc' := 73) rfl ?_
      refine Z_iadd dX12_comesRock_73 (pc' := 74) rfl ?_
      rw [show nI q + 2 = nI (q + 2) from by rw [show (2 : Int32) = nI 2 from rfl, nI_add]]
      refine Z_il dX12_comesRock_74 zar_41 (zin (by omega) (by decide)) (pc' := 75) rfl ?_
      rw [nI_nat (by omega), sA_ne _ _ _ (by decide), hn 2 (by decide)]
      refine Z_imul dX12_comesRock_75 (pc' := 76) rfl ?_
      refine Z_aload_n dX12_comesRock_76 rfl (z_isref _) (pc' := 77) rfl ?_
      refine Z_gR dX12_comesRock_77 rfl zgr_RX12_55_25 (pc' := 80) rfl ?_
      refine Z_iload_n dX12_comesRock_80 rfl (pc' := 81) rfl ?_
      refine Z_iconst dX12_comesRock_81 (v := 3) (by decide) (pc' := 82) rfl ?_
      refine Z_iadd dX12_comesRock_82 (pc' := 83) rfl ?_
      rw [show nI q + 3 = nI (q + 3) from by rw [show (3 : Int32) = nI 3 from rfl, nI_add]]
      refine Z_il dX12_comesRock_83 zar_41 (zin (by omega) (by decide)) (pc' := 84) rfl ?_
      rw [nI_nat (by omega), sA_ne _ _ _ (by decide), hn 3 (by decide)]
      refine Z_iadd dX12_comesRock_84 (pc' := 85) rfl ?_
      rw [show (10 : Int32) * nI (d 2) + nI (d 3) = nI (10 * d 2 + d 3) from by rw [show (10 : Int32) = nI 10 from rfl, nI_mul, nI_add]]
      refine Z_is dX12_comesRock_85 zar_35 (zin (by omega) (by decide)) (pc' := 86) rfl ?_
      rw [nI_nat (by omega)]
      refine Z_aload_n dX12_comesRock_86 rfl (z_isref _) (pc' := 87) rfl ?_
      refine Z_gR dX12_comesRock_87 rfl zgr_RX12_40_25 (pc' := 90) rfl ?_
      refine Z_aload_n dX12_comesRock_90 rfl (z_isref _) (pc' := 91) rfl ?_
      refine Z_gI dX12_comesRock_91 rfl zgi_RX12_120_25 (pc' := 94) rfl ?_
      rw [sA_ne _ _ _ (by decide), sA_ne _ _ _ (by decide), hV.1.2.2.1]
      refine Z_aload_n dX12_comesRock_94 rfl (z_isref _) (pc' := 95) rfl ?_
      refine Z_gR dX12_comesRock_95 rfl zgr_RX12_55_25 (pc' := 98) rfl ?_
      refine Z_iload_n dX12_comesRock_98 rfl (pc' := 99) rfl ?_
      refine Z_iconst dX12_comesRock_99 (v := 4) (by decide) (pc' := 100) rfl ?_
      refine Z_iadd dX12_comesRock_100 (pc' := 101) rfl ?_
      rw [show nI q + 4 = nI (q + 4) from by rw [show (4 : Int32) = nI 4 from rfl, nI_add]]
      refine Z_il dX12_comesRock_101 zar_41 (zin (by omega) (by decide)) (pc' := 102) rfl ?_
      rw [nI_nat (by omega), sA_ne _ _ _ (by decide), sA_ne _ _ _ (by decide), hn 4 (by decide)]
      refine Z_is dX12_comesRock_102 zar_36 (zin (by omega) (by decide)) (pc' := 103) rfl ?_
      rw [nI_nat (by omega)]
      refine Z_aload_n dX12_comesRock_103 rfl (z_isref _) (pc' := 104) rfl ?_
      refine Z_gR dX12_comesRock_104 rfl zgr_RX12_43_25 (pc' := 107) rfl ?_
      refine Z_aload_n dX12_comesRock_107 rfl (z_isref _) (pc' := 108) rfl ?_
      refine Z_gI dX12_comesRock_108 rfl zgi_RX12_120_25 (pc' := 111) rfl ?_
      rw [sA_ne _ _ _ (by decide), sA_ne _ _ _ (by decide), sA_ne _ _ _ (by decide), hV.1.2.2.1]
      refine Z_aload_n dX12_comesRock_111 rfl (z_isref _) (pc' := 112) rfl ?_
      refine Z_gR dX12_comesRock_112 rfl zgr_RX12_55_25 (pc' := 115) rfl ?_
      refine Z_iload_n dX12_comesRock_115 rfl (pc' := 116) rfl ?_
      refine Z_iconst dX12_comesRock_116 (v := 5) (by decide) (pc' := 117) rfl ?_
      refine Z_iadd dX12_comesRock_117 (pc' := 118) rfl ?_
      rw [show nI q + 5 = nI (q + 5) from by rw [show (5 : Int32) = nI 5 from rfl, nI_add]]
      refine Z_il dX12_comesRock_118 zar_41 (zin (by omega) (by decide)) (pc' := 119) rfl ?_
      rw [nI_nat (by omega), sA_ne _ _ _ (by decide), sA_ne _ _ _ (by decide), sA_ne _ _ _ (by decide), hn 5 (by decide)]
      refine Z_is dX12_comesRock_119 zar_37 (zin (by omega) (by decide)) (pc' := 120) rfl ?_
      rw [nI_nat (by omega)]
      refine Z_aload_n dX12_comesRock_120 rfl (z_isref _) (pc' := 121) rfl ?_
      refine Z_dup dX12_comesRock_121 rfl (pc' := 122) rfl ?_
      refine Z_gI dX12_comesRock_122 rfl zgi_RX12_120_25 (pc' := 125) rfl ?_
      rw [sA_ne _ _ _ (by decide), sA_ne _ _ _ (by decide), sA_ne _ _ _ (by decide), sA_ne _ _ _ (by decide), hV.1.2.2.1]
      refine Z_iconst dX12_comesRock_125 (v := 1) (by decide) (pc' := 126) rfl ?_
      refine Z_iadd dX12_comesRock_126 (pc' := 127) rfl ?_
      rw [show nI (cnr c) + 1 = nI (cnr c + 1) from nI_inc _]
      refine Z_pI dX12_comesRock_127 rfl zpi_RX12_120_25 (pc' := 130) rfl ?_
      refine Z_iconst dX12_comesRock_130 (v := 1) (by decide) (pc' := 131) rfl ?_
      exact Z_ireturn dX12_comesRock_131 rfl (by first | rfl | exact narrow_zb _) (Or.inl ⟨⟨by rw [nI_len (hd 4) (hd 5)] at c_25; exact c_25, by have : cnr c ≠ 6 := fun g => c_6 (by rw [g]; rfl); omega⟩, rfl, _, rfl, (fw_sA (fw_sA (fw_sA (fw_sA (fw_sA fw.rf _ (scR_row (by decide) (by decide))) _ (scR_row (by decide) (by decide))) _ (scR_row (by decide) (by decide))) _ (scR_row (by decide) (by decide))) _ (by rfl)), mV_rk hV⟩)
    · refine Z_iconst dX12_comesRock_28 (v := 0) (by decide) (pc' := 29) rfl ?_
      exact Z_ireturn dX12_comesRock_29 rfl (by first | rfl | exact narrow_zb _) (Or.inr ⟨fun g => by rw [nI_len (hd 4) (hd 5)] at c_25; omega, rfl, S, rfl, fw.rf⟩)
theorem xW_110 (d : Co) : cxs d (cny d) + 0 = xW d 110 := by unfold xW; rw [if_neg (by decide), if_neg (by decide), Int32.add_zero, Int32.sub_zero]
theorem xW_101 (d : Co) : cxs d (cny d) + 1 = xW d 101 := by unfold xW; rw [if_pos rfl, if_neg (by decide), Int32.sub_zero]
theorem xW_115 (d : Co) : cxs d (cny d) + 0 = xW d 115 := by unfold xW; rw [if_neg (by decide), if_neg (by decide), Int32.add_zero, Int32.sub_zero]
theorem xW_119 (d : Co) : cxs d (cny d) + -1 = xW d 119 := by unfold xW; rw [if_neg (by decide), if_pos rfl, Int32.add_zero, Int32.sub_eq_add_neg]
theorem yW_110 (d : Co) : cys d (cny d) + 1 = yW d 110 := by unfold yW; rw [if_pos rfl, if_neg (by decide), Int32.sub_zero]
theorem yW_101 (d : Co) : cys d (cny d) + 0 = yW d 101 := by unfold yW; rw [if_neg (by decide), if_neg (by decide), Int32.add_zero, Int32.sub_zero]
theorem yW_115 (d : Co) : cys d (cny d) + -1 = yW d 115 := by unfold yW; rw [if_neg (by decide), if_pos rfl, Int32.add_zero, Int32.sub_eq_add_neg]
theorem yW_119 (d : Co) : cys d (cny d) + 0 = yW d 119 := by unfold yW; rw [if_neg (by decide), if_neg (by decide), Int32.add_zero, Int32.sub_zero]
theorem isWy_c {x : Int32} (h : isWy x = true) : x = 110 ∨ x = 101 ∨ x = 115 ∨ x = 119 := of_decide_eq_true h
set_option maxRecDepth 100000 in
set_option maxHeartbeats 4000000 in
theorem lp_X12_come {S0 : ZS} {n q p L : Nat} {tx : Nat → Int32} {c : Co} (hq : q + 12 ≤ 640) (h8 : cns c < 8) (h48 : cny c + wys tx L (p + 3) ≤ 48) (e2q : S0.1 41 (q + 2) = nI (wys tx L (p + 3))) (hn : ∀ j, j < wys tx L (p + 3) → S0.1 41 (q + 3 + j) = wyI2 (ltr tx L (p + 3 + j))) {R : Option Value → ZW → Prop} {T : Co} (hR : ∀ S, fw scR S0 S → mV S T → R (some (.int 1)) (zw S n)) : ∀ (m j : Nat) (d : Co) (S : ZS), j + m = wys tx L (p + 3) → fw scR S0 S → cns d = cns c + 1 → cny d = cny c + j → mV (sA S 25 12 (nI (cns c + 1))) d → S.1 25 12 = nI (cns c) → ydF tx L (p + 3) m j d = T → Z m_X12_comesStretch 0 0 R 100 [some (.ref 25), some (.int (nI q)), some (.int (nI (wys tx L (p + 3)))), some (.int (nI j))] [] (zw S n) := by
  intro m
  induction m with
  | zero =>
    intro j d S h f hcn hcy hm h12 hT
    have hw9 := wys_le tx L (p + 3)
    obtain rfl : d = T := hT
    obtain rfl : j = wys tx L (p + 3) := by omega
    refine Z_iload_n dX12_comesStretch_100 rfl (pc' := 101) rfl ?_
    refine Z_iload_n dX12_comesStretch_101 rfl (pc' := 102) rfl ?_
    refine Z_icmp_ge dX12_comesStretch_102 (tgt := 231) rfl (pc' := 105) rfl (fun c_102 => ?_) (fun c_102 => absurd c_102 (fun c => c ((nI_len (by omega) (by omega)).mpr (Nat.le_refl _))))
    refine Z_aload_n dX12_comesStretch_231 rfl (z_isref _) (pc' := 232) rfl ?_
    refine Z_dup dX12_comesStretch_232 rfl (pc' := 233) rfl ?_
    refine Z_gI dX12_comesStretch_233 rfl zgi_RX12_114_25 (pc' := 236) rfl ?_
    rw [h12]
    refine Z_iconst dX12_comesStretch_236 (v := 1) (by decide) (pc' := 237) rfl ?_
    refine Z_iadd dX12_comesStretch_237 (pc' := 238) rfl ?_
    rw [show nI (cns c) + 1 = nI (cns c + 1) from nI_inc _]
    refine Z_pI dX12_comesStretch_238 rfl zpi_RX12_114_25 (pc' := 241) rfl ?_
    refine Z_iconst dX12_comesStretch_241 (v := 1) (by decide) (pc' := 242) rfl ?_
    exact Z_ireturn dX12_comesStretch_242 rfl (by first | rfl | exact narrow_zb _) (hR _ (fw_sA f _ (by rfl)) hm)
  | succ m ih =>
    intro j d S h f hcn hcy hm h12 hT
    have hw9 := wys_le tx L (p + 3)
    have hwy := wys_all j (show j < wys tx L (p + 3) by omega)
    rw [ydF] at hT
    have e2 := addYd_facts d (xW d (ltr tx L (p + 3 + j))) (yW d (ltr tx L (p + 3 + j)))
    have hyd : S.1 25 13 = nI (cny d) := by have := hm.1.2.1; rw [sA_nk _ _ (by decide)] at this; exact this
    have hx : S.1 31 (cny d) = cxs d (cny d) ∧ S.1 32 (cny d) = cys d (cny d) := by have := hm.2.2.1 (cny d) (Nat.le_refl _); rw [sA_ne _ _ _ (by decide), sA_ne _ _ _ (by decide)] at this; exact this
    have h41 : S.1 41 (q + 3 + j) = wyI2 (ltr tx L (p + 3 + j)) := by rw [f.2 41 _ (scR_no (Or.inr (by decide)) (by decide))]; exact hn j (by omega)
    refine Z_iload_n dX12_comesStretch_100 rfl (pc' := 101) rfl ?_
    refine Z_iload_n dX12_comesStretch_101 rfl (pc' := 102) rfl ?_
    refine Z_icmp_ge dX12_comesStretch_102 (tgt := 231) rfl (pc' := 105) rfl (fun c_102 => absurd c_102 (by rw [nI_len (by omega) (by omega)]; omega)) (fun c_102 => ?_)
    refine Z_aload_n dX12_comesStretch_105 rfl (z_isref _) (pc' := 106) rfl ?_
    refine Z_gR dX12_comesStretch_106 rfl zgr_RX12_55_25 (pc' := 109) rfl ?_
    refine Z_iload_n dX12_comesStretch_109 rfl (pc' := 110) rfl ?_
    refine Z_iconst dX12_comesStretch_110 (v := 3) (by decide) (pc' := 111) rfl ?_
    refine Z_iadd dX12_comesStretch_111 (pc' := 112) rfl ?_
    rw [show nI q + 3 = nI (q + 3) from by rw [show (3 : Int32) = nI 3 from rfl, nI_add]]
    refine Z_iload_n dX12_comesStretch_112 rfl (pc' := 113) rfl ?_
    refine Z_iadd dX12_comesStretch_113 (pc' := 114) rfl ?_
    rw [nI_add]
    refine Z_il dX12_comesStretch_114 zar_41 (zin (by omega) (by decide)) (pc' := 115) rfl ?_
    rw [nI_nat (by omega), h41]
    refine Z_istore dX12_comesStretch_115 (Nat.le_of_ble_eq_true rfl) (Nat.le_of_ble_eq_true rfl) rfl (ls' := [_, _, _, _, _]) rfl (pc' := 117) rfl ?_
    rcases isWy_c hwy with hy | hy | hy | hy
    · rw [hy] at hT ⊢
      show Z _ _ _ _ _ [_, _, _, _, some (.int 0)] [] _
      refine Z_aload_n dX12_comesStretch_117 rfl (z_isref _) (pc' := 118) rfl ?_
      refine Z_gR dX12_comesStretch_118 rfl zgr_RX12_25_25 (pc' := 121) rfl ?_
      refine Z_aload_n dX12_comesStretch_121 rfl (z_isref _) (pc' := 122) rfl ?_
      refine Z_gI dX12_comesStretch_122 rfl zgi_RX12_117_25 (pc' := 125) rfl ?_
      rw [hyd]
      refine Z_iconst dX12_comesStretch_125 (v := 1) (by decide) (pc' := 126) rfl ?_
      refine Z_iadd dX12_comesStretch_126 (pc' := 127) rfl ?_
      rw [show nI (cny d) + 1 = nI (cny d + 1) from nI_inc _]
      refine Z_aload_n dX12_comesStretch_127 rfl (z_isref _) (pc' := 128) rfl ?_
      refine Z_gR dX12_comesStretch_128 rfl zgr_RX12_25_25 (pc' := 131) rfl ?_
      refine Z_aload_n dX12_comesStretch_131 rfl (z_isref _) (pc' := 132) rfl ?_
      refine Z_gI dX12_comesStretch_132 rfl zgi_RX12_117_25 (pc' := 135) rfl ?_
      rw [hyd]
      refine Z_il dX12_comesStretch_135 zar_31 (zin (by omega) (by decide)) (pc' := 136) rfl ?_
      rw [nI_nat (by omega), hx.1]
      refine Z_iload dX12_comesStretch_136 rfl (pc' := 138) rfl ?_
      refine Z_iconst dX12_comesStretch_138 (v := 1) (by decide) (pc' := 139) rfl ?_
      refine Z_icmp_ne dX12_comesStretch_139 (tgt := 146) rfl (pc' := 142) rfl (fun c_139 => ?_) (fun c_139 => absurd c_139 (by decide))
      refine Z_iload dX12_comesStretch_146 rfl (pc' := 148) rfl ?_
      refine Z_iconst dX12_comesStretch_148 (v := 3) (by decide) (pc' := 149) rfl ?_
      refine Z_icmp_ne dX12_comesStretch_149 (tgt := 156) rfl (pc' := 152) rfl (fun c_149 => ?_) (fun c_149 => absurd c_149 (by decide))
      refine Z_iconst dX12_comesStretch_156 (v := 0) (by decide) (pc' := 157) rfl ?_
      refine Z_iadd dX12_comesStretch_157 (pc' := 158) rfl ?_
      rw [xW_110 d]
      refine Z_is dX12_comesStretch_158 zar_31 (zin (by omega) (by decide)) (pc' := 159) rfl ?_
      rw [nI_nat (by omega)]
      refine Z_aload_n dX12_comesStretch_159 rfl (z_isref _) (pc' := 160) rfl ?_
      refine Z_gR dX12_comesStretch_160 rfl zgr_RX12_28_25 (pc' := 163) rfl ?_
      refine Z_aload_n dX12_comesStretch_163 rfl (z_isref _) (pc' := 164) rfl ?_
      refine Z_gI dX12_comesStretch_164 rfl zgi_RX12_117_25 (pc' := 167) rfl ?_
      rw [sA_ne _ _ _ (by decide), hyd]
      refine Z_iconst dX12_comesStretch_167 (v := 1) (by decide) (pc' := 168) rfl ?_
      refine Z_iadd dX12_comesStretch_168 (pc' := 169) rfl ?_
      rw [show nI (cny d) + 1 = nI (cny d + 1) from nI_inc _]
      refine Z_aload_n dX12_comesStretch_169 rfl (z_isref _) (pc' := 170) rfl ?_
      refine Z_gR dX12_comesStretch_170 rfl zgr_RX12_28_25 (pc' := 173) rfl ?_
      refine Z_aload_n dX12_comesStretch_173 rfl (z_isref _) (pc' := 174) rfl ?_
      refine Z_gI dX12_comesStretch_174 rfl zgi_RX12_117_25 (pc' := 177) rfl ?_
      rw [sA_ne _ _ _ (by decide), hyd]
      refine Z_il dX12_comesStretch_177 zar_32 (zin (by omega) (by decide)) (pc' := 178) rfl ?_
      rw [nI_nat (by omega), sA_ne _ _ _ (by decide), hx.2]
      refine Z_iload dX12_comesStretch_178 rfl (pc' := 180) rfl ?_
      refine Z_if_ne dX12_comesStretch_180 (tgt := 187) rfl (pc' := 183) rfl (fun c_180 => absurd c_180 (fun g => g rfl)) (fun c_180 => ?_)
      refine Z_iconst dX12_comesStretch_183 (v := 1) (by decide) (pc' := 184) rfl ?_
      refine Z_goto dX12_comesStretch_184 (tgt := 198) rfl ?_
      refine Z_iadd dX12_comesStretch_198 (pc' := 199) rfl ?_
      rw [yW_110 d]
      refine Z_is dX12_comesStretch_199 zar_32 (zin (by omega) (by decide)) (pc' := 200) rfl ?_
      rw [nI_nat (by omega)]
      refine Z_aload_n dX12_comesStretch_200 rfl (z_isref _) (pc' := 201) rfl ?_
      refine Z_gR dX12_comesStretch_201 rfl zgr_RX12_31_25 (pc' := 204) rfl ?_
      refine Z_aload_n dX12_comesStretch_204 rfl (z_isref _) (pc' := 205) rfl ?_
      refine Z_gI dX12_comesStretch_205 rfl zgi_RX12_117_25 (pc' := 208) rfl ?_
      rw [sA_ne _ _ _ (by decide), sA_ne _ _ _ (by decide), hyd]
      refine Z_iconst dX12_comesStretch_208 (v := 1) (by decide) (pc' := 209) rfl ?_
      refine Z_iadd dX12_comesStretch_209 (pc' := 210) rfl ?_
      rw [show nI (cny d) + 1 = nI (cny d + 1) from nI_inc _]
      refine Z_aload_n dX12_comesStretch_210 rfl (z_isref _) (pc' := 211) rfl ?_
      refine Z_gI dX12_comesStretch_211 rfl zgi_RX12_114_25 (pc' := 214) rfl ?_
      rw [sA_ne _ _ _ (by decide), sA_ne _ _ _ (by decide), h12]
      refine Z_is dX12_comesStretch_214 zar_33 (zin (by omega) (by decide)) (pc' := 215) rfl ?_
      rw [nI_nat (by omega)]
      refine Z_aload_n dX12_comesStretch_215 rfl (z_isref _) (pc' := 216) rfl ?_
      refine Z_dup dX12_comesStretch_216 rfl (pc' := 217) rfl ?_
      refine Z_gI dX12_comesStretch_217 rfl zgi_RX12_117_25 (pc' := 220) rfl ?_
      rw [sA_ne _ _ _ (by decide), sA_ne _ _ _ (by decide), sA_ne _ _ _ (by decide), hyd]
      refine Z_iconst dX12_comesStretch_220 (v := 1) (by decide) (pc' := 221) rfl ?_
      refine Z_iadd dX12_comesStretch_221 (pc' := 222) rfl ?_
      rw [show nI (cny d) + 1 = nI (cny d + 1) from nI_inc _]
      refine Z_pI dX12_comesStretch_222 rfl zpi_RX12_117_25 (pc' := 225) rfl ?_
      refine Z_iinc dX12_comesStretch_225 rfl (nI_inc j) (Nat.le_of_ble_eq_true rfl) rfl (ls' := [_, _, _, _, _]) rfl (pc' := 228) rfl ?_
      refine Z_goto dX12_comesStretch_228 (tgt := 100) rfl ?_
      refine Z_take 4 (ls' := [_, _, _, _]) rfl ?_
      exact ih (j + 1) (addYd d (xW d 110) (yW d 110)) _ (by omega) (fw_sA (fw_sA (fw_sA (fw_sA f _ (scR_row (by decide) (by decide))) _ (scR_row (by decide) (by decide))) _ (scR_row (by decide) (by decide))) _ (by rfl)) hcn (show cny d + 1 = cny c + (j + 1) by omega) (mV_yd hm hcn) (by rw [sA_nk _ _ (by decide), sA_ne _ _ _ (by decide), sA_ne _ _ _ (by decide), sA_ne _ _ _ (by decide)]; exact h12) hT
    · rw [hy] at hT ⊢
      show Z _ _ _ _ _ [_, _, _, _, some (.int 1)] [] _
      refine Z_aload_n dX12_comesStretch_117 rfl (z_isref _) (pc' := 118) rfl ?_
      refine Z_gR dX12_comesStretch_118 rfl zgr_RX12_25_25 (pc' := 121) rfl ?_
      refine Z_aload_n dX12_comesStretch_121 rfl (z_isref _) (pc' := 122) rfl ?_
      refine Z_gI dX12_comesStretch_122 rfl zgi_RX12_117_25 (pc' := 125) rfl ?_
      rw [hyd]
      refine Z_iconst dX12_comesStretch_125 (v := 1) (by decide) (pc' := 126) rfl ?_
      refine Z_iadd dX12_comesStretch_126 (pc' := 127) rfl ?_
      rw [show nI (cny d) + 1 = nI (cny d + 1) from nI_inc _]
      refine Z_aload_n dX12_comesStretch_127 rfl (z_isref _) (pc' := 128) rfl ?_
      refine Z_gR dX12_comesStretch_128 rfl zgr_RX12_25_25 (pc' := 131) rfl ?_
      refine Z_aload_n dX12_comesStretch_131 rfl (z_isref _) (pc' := 132) rfl ?_
      refine Z_gI dX12_comesStretch_132 rfl zgi_RX12_117_25 (pc' := 135) rfl ?_
      rw [hyd]
      refine Z_il dX12_comesStretch_135 zar_31 (zin (by omega) (by decide)) (pc' := 136) rfl ?_
      rw [nI_nat (by omega), hx.1]
      refine Z_iload dX12_comesStretch_136 rfl (pc' := 138) rfl ?_
      refine Z_iconst dX12_comesStretch_138 (v := 1) (by decide) (pc' := 139) rfl ?_
      refine Z_icmp_ne dX12_comesStretch_139 (tgt := 146) rfl (pc' := 142) rfl (fun c_139 => absurd c_139 (fun g => g rfl)) (fun c_139 => ?_)
      refine Z_iconst dX12_comesStretch_142 (v := 1) (by decide) (pc' := 143) rfl ?_
      refine Z_goto dX12_comesStretch_143 (tgt := 157) rfl ?_
      refine Z_iadd dX12_comesStretch_157 (pc' := 158) rfl ?_
      rw [xW_101 d]
      refine Z_is dX12_comesStretch_158 zar_31 (zin (by omega) (by decide)) (pc' := 159) rfl ?_
      rw [nI_nat (by omega)]
      refine Z_aload_n dX12_comesStretch_159 rfl (z_isref _) (pc' := 160) rfl ?_
      refine Z_gR dX12_comesStretch_160 rfl zgr_RX12_28_25 (pc' := 163) rfl ?_
      refine Z_aload_n dX12_comesStretch_163 rfl (z_isref _) (pc' := 164) rfl ?_
      refine Z_gI dX12_comesStretch_164 rfl zgi_RX12_117_25 (pc' := 167) rfl ?_
      rw [sA_ne _ _ _ (by decide), hyd]
      refine Z_iconst dX12_comesStretch_167 (v := 1) (by decide) (pc' := 168) rfl ?_
      refine Z_iadd dX12_comesStretch_168 (pc' := 169) rfl ?_
      rw [show nI (cny d) + 1 = nI (cny d + 1) from nI_inc _]
      refine Z_aload_n dX12_comesStretch_169 rfl (z_isref _) (pc' := 170) rfl ?_
      refine Z_gR dX12_comesStretch_170 rfl zgr_RX12_28_25 (pc' := 173) rfl ?_
      refine Z_aload_n dX12_comesStretch_173 rfl (z_isref _) (pc' := 174) rfl ?_
      refine Z_gI dX12_comesStretch_174 rfl zgi_RX12_117_25 (pc' := 177) rfl ?_
      rw [sA_ne _ _ _ (by decide), hyd]
      refine Z_il dX12_comesStretch_177 zar_32 (zin (by omega) (by decide)) (pc' := 178) rfl ?_
      rw [nI_nat (by omega), sA_ne _ _ _ (by decide), hx.2]
      refine Z_iload dX12_comesStretch_178 rfl (pc' := 180) rfl ?_
      refine Z_if_ne dX12_comesStretch_180 (tgt := 187) rfl (pc' := 183) rfl (fun c_180 => ?_) (fun c_180 => absurd c_180 (by decide))
      refine Z_iload dX12_comesStretch_187 rfl (pc' := 189) rfl ?_
      refine Z_iconst dX12_comesStretch_189 (v := 2) (by decide) (pc' := 190) rfl ?_
      refine Z_icmp_ne dX12_comesStretch_190 (tgt := 197) rfl (pc' := 193) rfl (fun c_190 => ?_) (fun c_190 => absurd c_190 (by decide))
      refine Z_iconst dX12_comesStretch_197 (v := 0) (by decide) (pc' := 198) rfl ?_
      refine Z_iadd dX12_comesStretch_198 (pc' := 199) rfl ?_
      rw [yW_101 d]
      refine Z_is dX12_comesStretch_199 zar_32 (zin (by omega) (by decide)) (pc' := 200) rfl ?_
      rw [nI_nat (by omega)]
      refine Z_aload_n dX12_comesStretch_200 rfl (z_isref _) (pc' := 201) rfl ?_
      refine Z_gR dX12_comesStretch_201 rfl zgr_RX12_31_25 (pc' := 204) rfl ?_
      refine Z_aload_n dX12_comesStretch_204 rfl (z_isref _) (pc' := 205) rfl ?_
      refine Z_gI dX12_comesStretch_205 rfl zgi_RX12_117_25 (pc' := 208) rfl ?_
      rw [sA_ne _ _ _ (by decide), sA_ne _ _ _ (by decide), hyd]
      refine Z_iconst dX12_comesStretch_208 (v := 1) (by decide) (pc' := 209) rfl ?_
      refine Z_iadd dX12_comesStretch_209 (pc' := 210) rfl ?_
      rw [show nI (cny d) + 1 = nI (cny d + 1) from nI_inc _]
      refine Z_aload_n dX12_comesStretch_210 rfl (z_isref _) (pc' := 211) rfl ?_
      refine Z_gI dX12_comesStretch_211 rfl zgi_RX12_114_25 (pc' := 214) rfl ?_
      rw [sA_ne _ _ _ (by decide), sA_ne _ _ _ (by decide), h12]
      refine Z_is dX12_comesStretch_214 zar_33 (zin (by omega) (by decide)) (pc' := 215) rfl ?_
      rw [nI_nat (by omega)]
      refine Z_aload_n dX12_comesStretch_215 rfl (z_isref _) (pc' := 216) rfl ?_
      refine Z_dup dX12_comesStretch_216 rfl (pc' := 217) rfl ?_
      refine Z_gI dX12_comesStretch_217 rfl zgi_RX12_117_25 (pc' := 220) rfl ?_
      rw [sA_ne _ _ _ (by decide), sA_ne _ _ _ (by decide), sA_ne _ _ _ (by decide), hyd]
      refine Z_iconst dX12_comesStretch_220 (v := 1) (by decide) (pc' := 221) rfl ?_
      refine Z_iadd dX12_comesStretch_221 (pc' := 222) rfl ?_
      rw [show nI (cny d) + 1 = nI (cny d + 1) from nI_inc _]
      refine Z_pI dX12_comesStretch_222 rfl zpi_RX12_117_25 (pc' := 225) rfl ?_
      refine Z_iinc dX12_comesStretch_225 rfl (nI_inc j) (Nat.le_of_ble_eq_true rfl) rfl (ls' := [_, _, _, _, _]) rfl (pc' := 228) rfl ?_
      refine Z_goto dX12_comesStretch_228 (tgt := 100) rfl ?_
      refine Z_take 4 (ls' := [_, _, _, _]) rfl ?_
      exact ih (j + 1) (addYd d (xW d 101) (yW d 101)) _ (by omega) (fw_sA (fw_sA (fw_sA (fw_sA f _ (scR_row (by decide) (by decide))) _ (scR_row (by decide) (by decide))) _ (scR_row (by decide) (by decide))) _ (by rfl)) hcn (show cny d + 1 = cny c + (j + 1) by omega) (mV_yd hm hcn) (by rw [sA_nk _ _ (by decide), sA_ne _ _ _ (by decide), sA_ne _ _ _ (by decide), sA_ne _ _ _ (by decide)]; exact h12) hT
    · rw [hy] at hT ⊢
      show Z _ _ _ _ _ [_, _, _, _, some (.int 2)] [] _
      refine Z_aload_n dX12_comesStretch_117 rfl (z_isref _) (pc' := 118) rfl ?_
      refine Z_gR dX12_comesStretch_118 rfl zgr_RX12_25_25 (pc' := 121) rfl ?_
      refine Z_aload_n dX12_comesStretch_121 rfl (z_isref _) (pc' := 122) rfl ?_
      refine Z_gI dX12_comesStretch_122 rfl zgi_RX12_117_25 (pc' := 125) rfl ?_
      rw [hyd]
      refine Z_iconst dX12_comesStretch_125 (v := 1) (by decide) (pc' := 126) rfl ?_
      refine Z_iadd dX12_comesStretch_126 (pc' := 127) rfl ?_
      rw [show nI (cny d) + 1 = nI (cny d + 1) from nI_inc _]
      refine Z_aload_n dX12_comesStretch_127 rfl (z_isref _) (pc' := 128) rfl ?_
      refine Z_gR dX12_comesStretch_128 rfl zgr_RX12_25_25 (pc' := 131) rfl ?_
      refine Z_aload_n dX12_comesStretch_131 rfl (z_isref _) (pc' := 132) rfl ?_
      refine Z_gI dX12_comesStretch_132 rfl zgi_RX12_117_25 (pc' := 135) rfl ?_
      rw [hyd]
      refine Z_il dX12_comesStretch_135 zar_31 (zin (by omega) (by decide)) (pc' := 136) rfl ?_
      rw [nI_nat (by omega), hx.1]
      refine Z_iload dX12_comesStretch_136 rfl (pc' := 138) rfl ?_
      refine Z_iconst dX12_comesStretch_138 (v := 1) (by decide) (pc' := 139) rfl ?_
      refine Z_icmp_ne dX12_comesStretch_139 (tgt := 146) rfl (pc' := 142) rfl (fun c_139 => ?_) (fun c_139 => absurd c_139 (by decide))
      refine Z_iload dX12_comesStretch_146 rfl (pc' := 148) rfl ?_
      refine Z_iconst dX12_comesStretch_148 (v := 3) (by decide) (pc' := 149) rfl ?_
      refine Z_icmp_ne dX12_comesStretch_149 (tgt := 156) rfl (pc' := 152) rfl (fun c_149 => ?_) (fun c_149 => absurd c_149 (by decide))
      refine Z_iconst dX12_comesStretch_156 (v := 0) (by decide) (pc' := 157) rfl ?_
      refine Z_iadd dX12_comesStretch_157 (pc' := 158) rfl ?_
      rw [xW_115 d]
      refine Z_is dX12_comesStretch_158 zar_31 (zin (by omega) (by decide)) (pc' := 159) rfl ?_
      rw [nI_nat (by omega)]
      refine Z_aload_n dX12_comesStretch_159 rfl (z_isref _) (pc' := 160) rfl ?_
      refine Z_gR dX12_comesStretch_160 rfl zgr_RX12_28_25 (pc' := 163) rfl ?_
      refine Z_aload_n dX12_comesStretch_163 rfl (z_isref _) (pc' := 164) rfl ?_
      refine Z_gI dX12_comesStretch_164 rfl zgi_RX12_117_25 (pc' := 167) rfl ?_
      rw [sA_ne _ _ _ (by decide), hyd]
      refine Z_iconst dX12_comesStretch_167 (v := 1) (by decide) (pc' := 168) rfl ?_
      refine Z_iadd dX12_comesStretch_168 (pc' := 169) rfl ?_
      rw [show nI (cny d) + 1 = nI (cny d + 1) from nI_inc _]
      refine Z_aload_n dX12_comesStretch_169 rfl (z_isref _) (pc' := 170) rfl ?_
      refine Z_gR dX12_comesStretch_170 rfl zgr_RX12_28_25 (pc' := 173) rfl ?_
      refine Z_aload_n dX12_comesStretch_173 rfl (z_isref _) (pc' := 174) rfl ?_
      refine Z_gI dX12_comesStretch_174 rfl zgi_RX12_117_25 (pc' := 177) rfl ?_
      rw [sA_ne _ _ _ (by decide), hyd]
      refine Z_il dX12_comesStretch_177 zar_32 (zin (by omega) (by decide)) (pc' := 178) rfl ?_
      rw [nI_nat (by omega), sA_ne _ _ _ (by decide), hx.2]
      refine Z_iload dX12_comesStretch_178 rfl (pc' := 180) rfl ?_
      refine Z_if_ne dX12_comesStretch_180 (tgt := 187) rfl (pc' := 183) rfl (fun c_180 => ?_) (fun c_180 => absurd c_180 (by decide))
      refine Z_iload dX12_comesStretch_187 rfl (pc' := 189) rfl ?_
      refine Z_iconst dX12_comesStretch_189 (v := 2) (by decide) (pc' := 190) rfl ?_
      refine Z_icmp_ne dX12_comesStretch_190 (tgt := 197) rfl (pc' := 193) rfl (fun c_190 => absurd c_190 (fun g => g rfl)) (fun c_190 => ?_)
      refine Z_iconst dX12_comesStretch_193 (v := (-1)) (by decide) (pc' := 194) rfl ?_
      refine Z_goto dX12_comesStretch_194 (tgt := 198) rfl ?_
      refine Z_iadd dX12_comesStretch_198 (pc' := 199) rfl ?_
      rw [yW_115 d]
      refine Z_is dX12_comesStretch_199 zar_32 (zin (by omega) (by decide)) (pc' := 200) rfl ?_
      rw [nI_nat (by omega)]
      refine Z_aload_n dX12_comesStretch_200 rfl (z_isref _) (pc' := 201) rfl ?_
      refine Z_gR dX12_comesStretch_201 rfl zgr_RX12_31_25 (pc' := 204) rfl ?_
      refine Z_aload_n dX12_comesStretch_204 rfl (z_isref _) (pc' := 205) rfl ?_
      refine Z_gI dX12_comesStretch_205 rfl zgi_RX12_117_25 (pc' := 208) rfl ?_
      rw [sA_ne _ _ _ (by decide), sA_ne _ _ _ (by decide), hyd]
      refine Z_iconst dX12_comesStretch_208 (v := 1) (by decide) (pc' := 209) rfl ?_
      refine Z_iadd dX12_comesStretch_209 (pc' := 210) rfl ?_
      rw [show nI (cny d) + 1 = nI (cny d + 1) from nI_inc _]
      refine Z_aload_n dX12_comesStretch_210 rfl (z_isref _) (pc' := 211) rfl ?_
      refine Z_gI dX12_comesStretch_211 rfl zgi_RX12_114_25 (pc' := 214) rfl ?_
      rw [sA_ne _ _ _ (by decide), sA_ne _ _ _ (by decide), h12]
      refine Z_is dX12_comesStretch_214 zar_33 (zin (by omega) (by decide)) (pc' := 215) rfl ?_
      rw [nI_nat (by omega)]
      refine Z_aload_n dX12_comesStretch_215 rfl (z_isref _) (pc' := 216) rfl ?_
      refine Z_dup dX12_comesStretch_216 rfl (pc' := 217) rfl ?_
      refine Z_gI dX12_comesStretch_217 rfl zgi_RX12_117_25 (pc' := 220) rfl ?_
      rw [sA_ne _ _ _ (by decide), sA_ne _ _ _ (by decide), sA_ne _ _ _ (by decide), hyd]
      refine Z_iconst dX12_comesStretch_220 (v := 1) (by decide) (pc' := 221) rfl ?_
      refine Z_iadd dX12_comesStretch_221 (pc' := 222) rfl ?_
      rw [show nI (cny d) + 1 = nI (cny d + 1) from nI_inc _]
      refine Z_pI dX12_comesStretch_222 rfl zpi_RX12_117_25 (pc' := 225) rfl ?_
      refine Z_iinc dX12_comesStretch_225 rfl (nI_inc j) (Nat.le_of_ble_eq_true rfl) rfl (ls' := [_, _, _, _, _]) rfl (pc' := 228) rfl ?_
      refine Z_goto dX12_comesStretch_228 (tgt := 100) rfl ?_
      refine Z_take 4 (ls' := [_, _, _, _]) rfl ?_
      exact ih (j + 1) (addYd d (xW d 115) (yW d 115)) _ (by omega) (fw_sA (fw_sA (fw_sA (fw_sA f _ (scR_row (by decide) (by decide))) _ (scR_row (by decide) (by decide))) _ (scR_row (by decide) (by decide))) _ (by rfl)) hcn (show cny d + 1 = cny c + (j + 1) by omega) (mV_yd hm hcn) (by rw [sA_nk _ _ (by decide), sA_ne _ _ _ (by decide), sA_ne _ _ _ (by decide), sA_ne _ _ _ (by decide)]; exact h12) hT
    · rw [hy] at hT ⊢
      show Z _ _ _ _ _ [_, _, _, _, some (.int 3)] [] _
      refine Z_aload_n dX12_comesStretch_117 rfl (z_isref _) (pc' := 118) rfl ?_
      refine Z_gR dX12_comesStretch_118 rfl zgr_RX12_25_25 (pc' := 121) rfl ?_
      refine Z_aload_n dX12_comesStretch_121 rfl (z_isref _) (pc' := 122) rfl ?_
      refine Z_gI dX12_comesStretch_122 rfl zgi_RX12_117_25 (pc' := 125) rfl ?_
      rw [hyd]
      refine Z_iconst dX12_comesStretch_125 (v := 1) (by decide) (pc' := 126) rfl ?_
      refine Z_iadd dX12_comesStretch_126 (pc' := 127) rfl ?_
      rw [show nI (cny d) + 1 = nI (cny d + 1) from nI_inc _]
      refine Z_aload_n dX12_comesStretch_127 rfl (z_isref _) (pc' := 128) rfl ?_
      refine Z_gR dX12_comesStretch_128 rfl zgr_RX12_25_25 (pc' := 131) rfl ?_
      refine Z_aload_n dX12_comesStretch_131 rfl (z_isref _) (pc' := 132) rfl ?_
      refine Z_gI dX12_comesStretch_132 rfl zgi_RX12_117_25 (pc' := 135) rfl ?_
      rw [hyd]
      refine Z_il dX12_comesStretch_135 zar_31 (zin (by omega) (by decide)) (pc' := 136) rfl ?_
      rw [nI_nat (by omega), hx.1]
      refine Z_iload dX12_comesStretch_136 rfl (pc' := 138) rfl ?_
      refine Z_iconst dX12_comesStretch_138 (v := 1) (by decide) (pc' := 139) rfl ?_
      refine Z_icmp_ne dX12_comesStretch_139 (tgt := 146) rfl (pc' := 142) rfl (fun c_139 => ?_) (fun c_139 => absurd c_139 (by decide))
      refine Z_iload dX12_comesStretch_146 rfl (pc' := 148) rfl ?_
      refine Z_iconst dX12_comesStretch_148 (v := 3) (by decide) (pc' := 149) rfl ?_
      refine Z_icmp_ne dX12_comesStretch_149 (tgt := 156) rfl (pc' := 152) rfl (fun c_149 => absurd c_149 (fun g => g rfl)) (fun c_149 => ?_)
      refine Z_iconst dX12_comesStretch_152 (v := (-1)) (by decide) (pc' := 153) rfl ?_
      refine Z_goto dX12_comesStretch_153 (tgt := 157) rfl ?_
      refine Z_iadd dX12_comesStretch_157 (pc' := 158) rfl ?_
      rw [xW_119 d]
      refine Z_is dX12_comesStretch_158 zar_31 (zin (by omega) (by decide)) (pc' := 159) rfl ?_
      rw [nI_nat (by omega)]
      refine Z_aload_n dX12_comesStretch_159 rfl (z_isref _) (pc' := 160) rfl ?_
      refine Z_gR dX12_comesStretch_160 rfl zgr_RX12_28_25 (pc' := 163) rfl ?_
      refine Z_aload_n dX12_comesStretch_163 rfl (z_isref _) (pc' := 164) rfl ?_
      refine Z_gI dX12_comesStretch_164 rfl zgi_RX12_117_25 (pc' := 167) rfl ?_
      rw [sA_ne _ _ _ (by decide), hyd]
      refine Z_iconst dX12_comesStretch_167 (v := 1) (by decide) (pc' := 168) rfl ?_
      refine Z_iadd dX12_comesStretch_168 (pc' := 169) rfl ?_
      rw [show nI (cny d) + 1 = nI (cny d + 1) from nI_inc _]
      refine Z_aload_n dX12_comesStretch_169 rfl (z_isref _) (pc' := 170) rfl ?_
      refine Z_gR dX12_comesStretch_170 rfl zgr_RX12_28_25 (pc' := 173) rfl ?_
      refine Z_aload_n dX12_comesStretch_173 rfl (z_isref _) (pc' := 174) rfl ?_
      refine Z_gI dX12_comesStretch_174 rfl zgi_RX12_117_25 (pc' := 177) rfl ?_
      rw [sA_ne _ _ _ (by decide), hyd]
      refine Z_il dX12_comesStretch_177 zar_32 (zin (by omega) (by decide)) (pc' := 178) rfl ?_
      rw [nI_nat (by omega), sA_ne _ _ _ (by decide), hx.2]
      refine Z_iload dX12_comesStretch_178 rfl (pc' := 180) rfl ?_
      refine Z_if_ne dX12_comesStretch_180 (tgt := 187) rfl (pc' := 183) rfl (fun c_180 => ?_) (fun c_180 => absurd c_180 (by decide))
      refine Z_iload dX12_comesStretch_187 rfl (pc' := 189) rfl ?_
      refine Z_iconst dX12_comesStretch_189 (v := 2) (by decide) (pc' := 190) rfl ?_
      refine Z_icmp_ne dX12_comesStretch_190 (tgt := 197) rfl (pc' := 193) rfl (fun c_190 => ?_) (fun c_190 => absurd c_190 (by decide))
      refine Z_iconst dX12_comesStretch_197 (v := 0) (by decide) (pc' := 198) rfl ?_
      refine Z_iadd dX12_comesStretch_198 (pc' := 199) rfl ?_
      rw [yW_119 d]
      refine Z_is dX12_comesStretch_199 zar_32 (zin (by omega) (by decide)) (pc' := 200) rfl ?_
      rw [nI_nat (by omega)]
      refine Z_aload_n dX12_comesStretch_200 rfl (z_isref _) (pc' := 201) rfl ?_
      refine Z_gR dX12_comesStretch_201 rfl zgr_RX12_31_25 (pc' := 204) rfl ?_
      refine Z_aload_n dX12_comesStretch_204 rfl (z_isref _) (pc' := 205) rfl ?_
      refine Z_gI dX12_comesStretch_205 rfl zgi_RX12_117_25 (pc' := 208) rfl ?_
      rw [sA_ne _ _ _ (by decide), sA_ne _ _ _ (by decide), hyd]
      refine Z_iconst dX12_comesStretch_208 (v := 1) (by decide) (pc' := 209) rfl ?_
      refine Z_iadd dX12_comesStretch_209 (pc' := 210) rfl ?_
      rw [show nI (cny d) + 1 = nI (cny d + 1) from nI_inc _]
      refine Z_aload_n dX12_comesStretch_210 rfl (z_isref _) (pc' := 211) rfl ?_
      refine Z_gI dX12_comesStretch_211 rfl zgi_RX12_114_25 (pc' := 214) rfl ?_
      rw [sA_ne _ _ _ (by decide), sA_ne _ _ _ (by decide), h12]
      refine Z_is dX12_comesStretch_214 zar_33 (zin (by omega) (by decide)) (pc' := 215) rfl ?_
      rw [nI_nat (by omega)]
      refine Z_aload_n dX12_comesStretch_215 rfl (z_isref _) (pc' := 216) rfl ?_
      refine Z_dup dX12_comesStretch_216 rfl (pc' := 217) rfl ?_
      refine Z_gI dX12_comesStretch_217 rfl zgi_RX12_117_25 (pc' := 220) rfl ?_
      rw [sA_ne _ _ _ (by decide), sA_ne _ _ _ (by decide), sA_ne _ _ _ (by decide), hyd]
      refine Z_iconst dX12_comesStretch_220 (v := 1) (by decide) (pc' := 221) rfl ?_
      refine Z_iadd dX12_comesStretch_221 (pc' := 222) rfl ?_
      rw [show nI (cny d) + 1 = nI (cny d + 1) from nI_inc _]
      refine Z_pI dX12_comesStretch_222 rfl zpi_RX12_117_25 (pc' := 225) rfl ?_
      refine Z_iinc dX12_comesStretch_225 rfl (nI_inc j) (Nat.le_of_ble_eq_true rfl) rfl (ls' := [_, _, _, _, _]) rfl (pc' := 228) rfl ?_
      refine Z_goto dX12_comesStretch_228 (tgt := 100) rfl ?_
      refine Z_take 4 (ls' := [_, _, _, _]) rfl ?_
      exact ih (j + 1) (addYd d (xW d 119) (yW d 119)) _ (by omega) (fw_sA (fw_sA (fw_sA (fw_sA f _ (scR_row (by decide) (by decide))) _ (scR_row (by decide) (by decide))) _ (scR_row (by decide) (by decide))) _ (by rfl)) hcn (show cny d + 1 = cny c + (j + 1) by omega) (mV_yd hm hcn) (by rw [sA_nk _ _ (by decide), sA_ne _ _ _ (by decide), sA_ne _ _ _ (by decide), sA_ne _ _ _ (by decide)]; exact h12) hT
set_option maxRecDepth 100000 in
set_option maxHeartbeats 4000000 in
theorem c_X12_comesStretch {S : ZS} {n q p L : Nat} {tx : Nat → Int32} {c : Co} (hV : mV S c) (ok : Cok c) (hq : q + 12 ≤ 640) (e0q : S.1 41 q = nI (dgN tx L (p + 1))) (e1q : S.1 41 (q + 1) = nI (dgN tx L (p + 2))) (e2q : S.1 41 (q + 2) = nI (wys tx L (p + 3))) (hn : ∀ j, j < wys tx L (p + 3) → S.1 41 (q + 3 + j) = wyI2 (ltr tx L (p + 3 + j))) : zM m_X12_comesStretch 0 0 [.ref 25, .int (nI q)] (zw S n) (fun r ω => ((cns c < 8 ∧ cny c + wys tx L (p + 3) ≤ 48 ∧ dgN tx L (p + 1) ≤ 5) ∧ r = some (.int 1) ∧ ∃ S1, ω = zw S1 n ∧ fw scR S S1 ∧ mV S1 (ydF tx L (p + 3) (wys tx L (p + 3)) 0 (addSt c (dgN tx L (p + 1)) (dgN tx L (p + 2)) (wys tx L (p + 3))))) ∨ (¬ (cns c < 8 ∧ cny c + wys tx L (p + 3) ≤ 48 ∧ dgN tx L (p + 1) ≤ 5) ∧ r = some (.int 0) ∧ ∃ S1, ω = zw S1 n ∧ fw scR S S1)) := by
  have h8c := ok.1
  have h48c := ok.2.1
  have hw9 := wys_le tx L (p + 3)
  show Z m_X12_comesStretch _ _ _ 0 [some (.ref _), some (.int _)] [] _
  refine Z_aload_n dX12_comesStretch_0 rfl (z_isref _) (pc' := 1) rfl ?_
  refine Z_gR dX12_comesStretch_1 rfl zgr_RX12_55_25 (pc' := 4) rfl ?_
  refine Z_iload_n dX12_comesStretch_4 rfl (pc' := 5) rfl ?_
  refine Z_iconst dX12_comesStretch_5 (v := 2) (by decide) (pc' := 6) rfl ?_
  refine Z_iadd dX12_comesStretch_6 (pc' := 7) rfl ?_
  rw [show nI q + 2 = nI (q + 2) from by rw [show (2 : Int32) = nI 2 from rfl, nI_add]]
  refine Z_il dX12_comesStretch_7 zar_41 (zin (by omega) (by decide)) (pc' := 8) rfl ?_
  rw [nI_nat (by omega), e2q]
  refine Z_istore_n dX12_comesStretch_8 (Nat.le_of_ble_eq_true rfl) (Nat.le_of_ble_eq_true rfl) rfl (ls' := [_, _, _]) rfl (pc' := 9) rfl ?_
  refine Z_aload_n dX12_comesStretch_9 rfl (z_isref _) (pc' := 10) rfl ?_
  refine Z_gR dX12_comesStretch_10 rfl zgr_RX12_55_25 (pc' := 13) rfl ?_
  refine Z_iload_n dX12_comesStretch_13 rfl (pc' := 14) rfl ?_
  refine Z_il dX12_comesStretch_14 zar_41 (zin (by omega) (by decide)) (pc' := 15) rfl ?_
  rw [nI_nat (by omega), e0q]
  refine Z_iconst dX12_comesStretch_15 (v := 5) (by decide) (pc' := 16) rfl ?_
  refine Z_icmp_gt dX12_comesStretch_16 (tgt := 39) rfl (pc' := 19) rfl (fun c_16 => ?_) (fun c_16 => ?_)
  · refine Z_iconst dX12_comesStretch_39 (v := 0) (by decide) (pc' := 40) rfl ?_
    exact Z_ireturn dX12_comesStretch_40 rfl (by first | rfl | exact narrow_zb _) (Or.inr ⟨fun g => by rw [show (5 : Int32) = nI 5 from rfl, nI_ltn (by decide) (dgN_lt _ _ _)] at c_16; omega, rfl, S, rfl, fw.rf⟩)
  · refine Z_aload_n dX12_comesStretch_19 rfl (z_isref _) (pc' := 20) rfl ?_
    refine Z_gI dX12_comesStretch_20 rfl zgi_RX12_114_25 (pc' := 23) rfl ?_
    rw [hV.1.1]
    refine Z_bipush dX12_comesStretch_23 (v := 8) (by decide) (pc' := 25) rfl ?_
    refine Z_icmp_eq dX12_comesStretch_25 (tgt := 39) rfl (pc' := 28) rfl (fun c_25 => ?_) (fun c_25 => ?_)
    · refine Z_iconst dX12_comesStretch_39 (v := 0) (by decide) (pc' := 40) rfl ?_
      exact Z_ireturn dX12_comesStretch_40 rfl (by first | rfl | exact narrow_zb _) (Or.inr ⟨fun g => by have e := (nI_eqn (b := 8) (by omega) (by decide)).mp c_25; omega, rfl, S, rfl, fw.rf⟩)
    · refine Z_aload_n dX12_comesStretch_28 rfl (z_isref _) (pc' := 29) rfl ?_
      refine Z_gI dX12_comesStretch_29 rfl zgi_RX12_117_25 (pc' := 32) rfl ?_
      rw [hV.1.2.1]
      refine Z_iload_n dX12_comesStretch_32 rfl (pc' := 33) rfl ?_
      refine Z_iadd dX12_comesStretch_33 (pc' := 34) rfl ?_
      rw [nI_add]
      refine Z_bipush dX12_comesStretch_34 (v := 48) (by decide) (pc' := 36) rfl ?_
      refine Z_icmp_le dX12_comesStretch_36 (tgt := 41) rfl (pc' := 39) rfl (fun c_36 => ?_) (fun c_36 => ?_)
      · have hkd : dgN tx L (p + 1) ≤ 5 := by
          rw [show (5 : Int32) = nI 5 from rfl, nI_ltn (by decide) (dgN_lt _ _ _)] at c_16; omega
        have h8 : cns c < 8 := by
          have : cns c ≠ 8 := fun g => c_25 (by rw [g]; rfl)
          omega
        have h48 : cny c + wys tx L (p + 3) ≤ 48 := by
          rw [show (48 : Int32) = nI 48 from rfl, nI_len (by omega) (by decide)] at c_36; omega
        refine Z_aload_n dX12_comesStretch_41 rfl (z_isref _) (pc' := 42) rfl ?_
        refine Z_gR dX12_comesStretch_42 rfl zgr_RX12_13_25 (pc' := 45) rfl ?_
        refine Z_aload_n dX12_comesStretch_45 rfl (z_isref _) (pc' := 46) rfl ?_
        refine Z_gI dX12_comesStretch_46 rfl zgi_RX12_114_25 (pc' := 49) rfl ?_
        rw [hV.1.1]
        refine Z_aload_n dX12_comesStretch_49 rfl (z_isref _) (pc' := 50) rfl ?_
        refine Z_gR dX12_comesStretch_50 rfl zgr_RX12_55_25 (pc' := 53) rfl ?_
        refine Z_iload_n dX12_comesStretch_53 rfl (pc' := 54) rfl ?_
        refine Z_il dX12_comesStretch_54 zar_41 (zin (by omega) (by decide)) (pc' := 55) rfl ?_
        rw [nI_nat (by omega), e0q]
        refine Z_is dX12_comesStretch_55 zar_27 (zin (by omega) (by decide)) (pc' := 56) rfl ?_
        rw [nI_nat (by omega)]
        refine Z_aload_n dX12_comesStretch_56 rfl (z_isref _) (pc' := 57) rfl ?_
        refine Z_gR dX12_comesStretch_57 rfl zgr_RX12_16_25 (pc' := 60) rfl ?_
        refine Z_aload_n dX12_comesStretch_60 rfl (z_isref _) (pc' := 61) rfl ?_
        refine Z_gI dX12_comesStretch_61 rfl zgi_RX12_114_25 (pc' := 64) rfl ?_
        rw [sA_ne _ _ _ (by decide), hV.1.1]
        refine Z_aload_n dX12_comesStretch_64 rfl (z_isref _) (pc' := 65) rfl ?_
        refine Z_gR dX12_comesStretch_65 rfl zgr_RX12_55_25 (pc' := 68) rfl ?_
        refine Z_iload_n dX12_comesStretch_68 rfl (pc' := 69) rfl ?_
        refine Z_iconst dX12_comesStretch_69 (v := 1) (by decide) (pc' := 70) rfl ?_
        refine Z_iadd dX12_comesStretch_70 (pc' := 71) rfl ?_
        rw [show nI q + 1 = nI (q + 1) from by rw [show (1 : Int32) = nI 1 from rfl, nI_add]]
        refine Z_il dX12_comesStretch_71 zar_41 (zin (by omega) (by decide)) (pc' := 72) rfl ?_
        rw [nI_nat (by omega), sA_ne _ _ _ (by decide), e1q]
        refine Z_is dX12_comesStretch_72 zar_28 (zin (by omega) (by decide)) (pc' := 73) rfl ?_
        rw [nI_nat (by omega)]
        refine Z_aload_n dX12_comesStretch_73 rfl (z_isref _) (pc' := 74) rfl ?_
        refine Z_gR dX12_comesStretch_74 rfl zgr_RX12_19_25 (pc' := 77) rfl ?_
        refine Z_aload_n dX12_comesStretch_77 rfl (z_isref _) (pc' := 78) rfl ?_
        refine Z_gI dX12_comesStretch_78 rfl zgi_RX12_114_25 (pc' := 81) rfl ?_
        rw [sA_ne _ _ _ (by decide), sA_ne _ _ _ (by decide), hV.1.1]
        refine Z_aload_n dX12_comesStretch_81 rfl (z_isref _) (pc' := 82) rfl ?_
        refine Z_gI dX12_comesStretch_82 rfl zgi_RX12_117_25 (pc' := 85) rfl ?_
        rw [sA_ne _ _ _ (by decide), sA_ne _ _ _ (by decide), hV.1.2.1]
        refine Z_iconst dX12_comesStretch_85 (v := 1) (by decide) (pc' := 86) rfl ?_
        refine Z_iadd dX12_comesStretch_86 (pc' := 87) rfl ?_
        rw [show nI (cny c) + 1 = nI (cny c + 1) from nI_inc _]
        refine Z_is dX12_comesStretch_87 zar_29 (zin (by omega) (by decide)) (pc' := 88) rfl ?_
        rw [nI_nat (by omega)]
        refine Z_aload_n dX12_comesStretch_88 rfl (z_isref _) (pc' := 89) rfl ?_
        refine Z_gR dX12_comesStretch_89 rfl zgr_RX12_22_25 (pc' := 92) rfl ?_
        refine Z_aload_n dX12_comesStretch_92 rfl (z_isref _) (pc' := 93) rfl ?_
        refine Z_gI dX12_comesStretch_93 rfl zgi_RX12_114_25 (pc' := 96) rfl ?_
        rw [sA_ne _ _ _ (by decide), sA_ne _ _ _ (by decide), sA_ne _ _ _ (by decide), hV.1.1]
        refine Z_iload_n dX12_comesStretch_96 rfl (pc' := 97) rfl ?_
        refine Z_is dX12_comesStretch_97 zar_30 (zin (by omega) (by decide)) (pc' := 98) rfl ?_
        rw [nI_nat (by omega)]
        refine Z_iconst dX12_comesStretch_98 (v := 0) (by decide) (pc' := 99) rfl ?_
        refine Z_istore_n dX12_comesStretch_99 (Nat.le_of_ble_eq_true rfl) (Nat.le_of_ble_eq_true rfl) rfl (ls' := [_, _, _, _]) rfl (pc' := 100) rfl ?_
        have e := addSt_facts c (dgN tx L (p + 1)) (dgN tx L (p + 2)) (wys tx L (p + 3))
        exact lp_X12_come (S0 := S) (T := ydF tx L (p + 3) (wys tx L (p + 3)) 0 (addSt c (dgN tx L (p + 1)) (dgN tx L (p + 2)) (wys tx L (p + 3)))) hq h8 h48 e2q hn (fun S2 f2 m2 => Or.inl ⟨⟨h8, h48, hkd⟩, rfl, S2, rfl, f2, m2⟩) (wys tx L (p + 3)) 0 (addSt c (dgN tx L (p + 1)) (dgN tx L (p + 2)) (wys tx L (p + 3))) _ (by omega) (fw_sA (fw_sA (fw_sA (fw_sA fw.rf _ (scR_row (by decide) (by decide))) _ (scR_row (by decide) (by decide))) _ (scR_row (by decide) (by decide))) _ (scR_row (by decide) (by decide))) e.1 e.2.1 (mV_st hV) (by rw [sA_ne _ _ _ (by decide), sA_ne _ _ _ (by decide), sA_ne _ _ _ (by decide), sA_ne _ _ _ (by decide)]; exact hV.1.1) rfl
      · refine Z_iconst dX12_comesStretch_39 (v := 0) (by decide) (pc' := 40) rfl ?_
        exact Z_ireturn dX12_comesStretch_40 rfl (by first | rfl | exact narrow_zb _) (Or.inr ⟨fun g => by rw [show (48 : Int32) = nI 48 from rfl, nI_len (by omega) (by decide)] at c_36; omega, rfl, S, rfl, fw.rf⟩)
/-- what comes leaves behind -/
def coR (S : ZS) (n : Nat) (t : Option Co) (r : Option Value) (ω : ZW) : Prop := ∃ S1, ω = zw S1 n ∧ fw scR S S1 ∧ ((∃ c, t = some c ∧ r = some (.int 1) ∧ mV S1 c) ∨ (t = none ∧ r = some (.int 0)))
set_option maxRecDepth 100000 in
set_option maxHeartbeats 4000000 in
theorem c_X12_comes {S : ZS} {n p L kk : Nat} {tx : Nat → Int32} {c : Co} (hV : mV S c) (ok : Cok c) (hkk : kk < 39) (hn : nmV S tx L kk p) (hb3 : ltr tx L p = 99 ∨ ltr tx L p = 114 ∨ ltr tx L p = 116) : zM m_X12_comes 0 0 [.ref 25, .int (nI kk)] (zw S n) (coR S n (tlF tx L c p)) := by
  show Z m_X12_comes _ _ _ 0 [some (.ref _), some (.int _)] [] _
  refine Z_bipush dX12_comes_0 (v := 16) (by decide) (pc' := 2) rfl ?_
  refine Z_iload_n dX12_comes_2 rfl (pc' := 3) rfl ?_
  refine Z_imul dX12_comes_3 (pc' := 4) rfl ?_
  rw [show (16 : Int32) * nI kk = nI (16 * kk) from by rw [show (16 : Int32) = nI 16 from rfl, nI_mul]]
  rcases hb3 with hb | hb | hb
  · have hl := hn.1; rw [hb] at hl
    refine Z_istore_n dX12_comes_4 (Nat.le_of_ble_eq_true rfl) (Nat.le_of_ble_eq_true rfl) rfl (ls' := [_, _, _]) rfl (pc' := 5) rfl ?_
    refine Z_aload_n dX12_comes_5 rfl (z_isref _) (pc' := 6) rfl ?_
    refine Z_gR dX12_comes_6 rfl zgr_RX12_49_25 (pc' := 9) rfl ?_
    refine Z_iload_n dX12_comes_9 rfl (pc' := 10) rfl ?_
    refine Z_il dX12_comes_10 zar_39 (zin (by omega) (by decide)) (pc' := 11) rfl ?_
    rw [nI_nat (by omega), hl]
    refine Z_bipush dX12_comes_11 (v := 99) (by decide) (pc' := 13) rfl ?_
    refine Z_icmp_ne dX12_comes_13 (tgt := 22) rfl (pc' := 16) rfl (fun c_13 => absurd c_13 (fun g => g rfl)) (fun c_13 => ?_)
    refine Z_aload_n dX12_comes_16 rfl (z_isref _) (pc' := 17) rfl ?_
    refine Z_iload_n dX12_comes_17 rfl (pc' := 18) rfl ?_
    refine Z_cV dX12_comes_18 rfl zcw_X12_comesStretch (As := [_]) (rest := []) rfl ⟨Nat.le_of_ble_eq_true rfl, Nat.le_of_ble_eq_true rfl⟩ (Nat.le_of_ble_eq_true rfl) (zRcv.lay zob_25) ⟨zcw_X12_comesStretch.2.2.2.2, Nat.le_of_ble_eq_true rfl⟩ zk_RX12_123 (c_X12_comesStretch hV ok (by omega) (hn.2.2.1 hb).1 (hn.2.2.1 hb).2.1 (hn.2.2.1 hb).2.2.1 (hn.2.2.1 hb).2.2.2) (pc' := 21) rfl (fun r_18 w_18 h_18 => ?_)
    rcases h_18 with ⟨hc, rfl, S1, rfl, f1, m1⟩ | ⟨hc, rfl, S1, rfl, f1⟩
    · show Z _ _ _ _ _ _ (.int 1 :: []) _
      exact Z_ireturn dX12_comes_21 rfl (by first | rfl | exact narrow_zb _) ⟨S1, rfl, f1, Or.inl ⟨_, by unfold tlF; rw [if_pos hb, if_pos hc], rfl, m1⟩⟩
    · show Z _ _ _ _ _ _ (.int 0 :: []) _
      exact Z_ireturn dX12_comes_21 rfl (by first | rfl | exact narrow_zb _) ⟨S1, rfl, f1, Or.inr ⟨by unfold tlF; rw [if_pos hb, if_neg hc], rfl⟩⟩
  · have hl := hn.1; rw [hb] at hl
    refine Z_istore_n dX12_comes_4 (Nat.le_of_ble_eq_true rfl) (Nat.le_of_ble_eq_true rfl) rfl (ls' := [_, _, _]) rfl (pc' := 5) rfl ?_
    refine Z_aload_n dX12_comes_5 rfl (z_isref _) (pc' := 6) rfl ?_
    refine Z_gR dX12_comes_6 rfl zgr_RX12_49_25 (pc' := 9) rfl ?_
    refine Z_iload_n dX12_comes_9 rfl (pc' := 10) rfl ?_
    refine Z_il dX12_comes_10 zar_39 (zin (by omega) (by decide)) (pc' := 11) rfl ?_
    rw [nI_nat (by omega), hl]
    refine Z_bipush dX12_comes_11 (v := 99) (by decide) (pc' := 13) rfl ?_
    refine Z_icmp_ne dX12_comes_13 (tgt := 22) rfl (pc' := 16) rfl (fun c_13 => ?_) (fun c_13 => absurd c_13 (by decide))
    refine Z_aload_n dX12_comes_22 rfl (z_isref _) (pc' := 23) rfl ?_
    refine Z_gR dX12_comes_23 rfl zgr_RX12_49_25 (pc' := 26) rfl ?_
    refine Z_iload_n dX12_comes_26 rfl (pc' := 27) rfl ?_
    refine Z_il dX12_comes_27 zar_39 (zin (by omega) (by decide)) (pc' := 28) rfl ?_
    rw [nI_nat (by omega), hl]
    refine Z_bipush dX12_comes_28 (v := 114) (by decide) (pc' := 30) rfl ?_
    refine Z_icmp_ne dX12_comes_30 (tgt := 39) rfl (pc' := 33) rfl (fun c_30 => absurd c_30 (fun g => g rfl)) (fun c_30 => ?_)
    refine Z_aload_n dX12_comes_33 rfl (z_isref _) (pc' := 34) rfl ?_
    refine Z_iload_n dX12_comes_34 rfl (pc' := 35) rfl ?_
    refine Z_cV dX12_comes_35 rfl zcw_X12_comesRock (As := [_]) (rest := []) rfl ⟨Nat.le_of_ble_eq_true rfl, Nat.le_of_ble_eq_true rfl⟩ (Nat.le_of_ble_eq_true rfl) (zRcv.lay zob_25) ⟨zcw_X12_comesRock.2.2.2.2, Nat.le_of_ble_eq_true rfl⟩ zk_RX12_126 (c_X12_comesRock (d := fun j => dgN tx L (p + 1 + j)) hV ok (by omega) (hn.2.2.2.1 hb) (fun j => dgN_lt _ _ _)) (pc' := 38) rfl (fun r_35 w_35 h_35 => ?_)
    rcases h_35 with ⟨hc, rfl, S1, rfl, f1, m1⟩ | ⟨hc, rfl, S1, rfl, f1⟩
    · have hb9 : ¬ ltr tx L p = 99 := by rw [hb]; decide
      show Z _ _ _ _ _ _ (.int 1 :: []) _
      exact Z_ireturn dX12_comes_38 rfl (by first | rfl | exact narrow_zb _) ⟨S1, rfl, f1, Or.inl ⟨_, by unfold tlF; rw [if_neg hb9, if_pos hb]; exact if_pos hc, rfl, m1⟩⟩
    · have hb9 : ¬ ltr tx L p = 99 := by rw [hb]; decide
      show Z _ _ _ _ _ _ (.int 0 :: []) _
      exact Z_ireturn dX12_comes_38 rfl (by first | rfl | exact narrow_zb _) ⟨S1, rfl, f1, Or.inr ⟨by unfold tlF; rw [if_neg hb9, if_pos hb]; exact if_neg hc, rfl⟩⟩
  · have hl := hn.1; rw [hb] at hl
    refine Z_istore_n dX12_comes_4 (Nat.le_of_ble_eq_true rfl) (Nat.le_of_ble_eq_true rfl) rfl (ls' := [_, _, _]) rfl (pc' := 5) rfl ?_
    refine Z_aload_n dX12_comes_5 rfl (z_isref _) (pc' := 6) rfl ?_
    refine Z_gR dX12_comes_6 rfl zgr_RX12_49_25 (pc' := 9) rfl ?_
    refine Z_iload_n dX12_comes_9 rfl (pc' := 10) rfl ?_
    refine Z_il dX12_comes_10 zar_39 (zin (by omega) (by decide)) (pc' := 11) rfl ?_
    rw [nI_nat (by omega), hl]
    refine Z_bipush dX12_comes_11 (v := 99) (by decide) (pc' := 13) rfl ?_
    refine Z_icmp_ne dX12_comes_13 (tgt := 22) rfl (pc' := 16) rfl (fun c_13 => ?_) (fun c_13 => absurd c_13 (by decide))
    refine Z_aload_n dX12_comes_22 rfl (z_isref _) (pc' := 23) rfl ?_
    refine Z_gR dX12_comes_23 rfl zgr_RX12_49_25 (pc' := 26) rfl ?_
    refine Z_iload_n dX12_comes_26 rfl (pc' := 27) rfl ?_
    refine Z_il dX12_comes_27 zar_39 (zin (by omega) (by decide)) (pc' := 28) rfl ?_
    rw [nI_nat (by omega), hl]
    refine Z_bipush dX12_comes_28 (v := 114) (by decide) (pc' := 30) rfl ?_
    refine Z_icmp_ne dX12_comes_30 (tgt := 39) rfl (pc' := 33) rfl (fun c_30 => ?_) (fun c_30 => absurd c_30 (by decide))
    refine Z_aload_n dX12_comes_39 rfl (z_isref _) (pc' := 40) rfl ?_
    refine Z_aload_n dX12_comes_40 rfl (z_isref _) (pc' := 41) rfl ?_
    refine Z_gR dX12_comes_41 rfl zgr_RX12_55_25 (pc' := 44) rfl ?_
    refine Z_iload_n dX12_comes_44 rfl (pc' := 45) rfl ?_
    refine Z_il dX12_comes_45 zar_41 (zin (by omega) (by decide)) (pc' := 46) rfl ?_
    rw [nI_nat (by omega), hn.2.2.2.2 hb]
    refine Z_pI dX12_comes_46 rfl zpi_RX12_129_25 (pc' := 49) rfl ?_
    refine Z_iconst dX12_comes_49 (v := 1) (by decide) (pc' := 50) rfl ?_
    exact Z_ireturn dX12_comes_50 rfl (by first | rfl | exact narrow_zb _) ⟨_, rfl, fw_sA fw.rf _ (by rfl), Or.inl ⟨_, by unfold tlF; rw [if_neg (by rw [hb]; decide), if_neg (by rw [hb]; decide)], rfl, mV_td hV _⟩⟩
