/-! ===== the model as it stands in the world ===== -/
def mV (S : ZS) (c : Co) : Prop := (S.1 25 12 = nI (cns c) ∧ S.1 25 13 = nI (cny c) ∧ S.1 25 14 = nI (cnr c) ∧ S.1 25 15 = nI (ctd c)) ∧
  (∀ k, k < cns c → S.1 27 k = nI (ckd c k) ∧ S.1 28 k = nI (cfg c k) ∧ S.1 29 k = nI (cfs c k) ∧ S.1 30 k = nI (cln c k)) ∧
  (∀ p, p ≤ cny c → S.1 31 p = cxs c p ∧ S.1 32 p = cys c p) ∧ (∀ p, 1 ≤ p → p ≤ cny c → S.1 33 p = nI (cso c p)) ∧
  (∀ k, k < cnr c → S.1 34 k = nI (crx c k) ∧ S.1 35 k = nI (cry c k) ∧ S.1 36 k = nI (clw c k) ∧ S.1 37 k = nI (chg c k))
/-- a coast as it is kept, from f 0 on -/
def kV (f : Nat → Int32) (c : Co) : Prop := (f 203 = nI (cns c) ∧ f 204 = nI (cny c) ∧ f 205 = nI (cnr c) ∧ f 206 = nI (ctd c)) ∧
  (∀ k, k < cns c → f k = nI (ckd c k) ∧ f (8 + k) = nI (cfg c k) ∧ f (16 + k) = nI (cfs c k) ∧ f (24 + k) = nI (cln c k)) ∧
  (∀ p, p ≤ cny c → f (32 + p) = cxs c p ∧ f (81 + p) = cys c p) ∧ (∀ p, 1 ≤ p → p ≤ cny c → f (130 + p) = nI (cso c p)) ∧
  (∀ k, k < cnr c → f (179 + k) = nI (crx c k) ∧ f (185 + k) = nI (cry c k) ∧ f (191 + k) = nI (clw c k) ∧ f (197 + k) = nI (chg c k))
def MI (S : ZS) (M : Ms) : Prop := (mV S (mc M) ∧ Cok (mc M)) ∧ (S.1 25 24 = zb (mi M).isSome ∧ ∀ c, mi M = some c → kV (S.1 42) c ∧ Cok c) ∧
  (S.1 25 20 = nI (mL M) ∧ mL M ≤ 80 ∧ ∀ k, k < mL M → S.1 38 k = mtx M k) ∧ (S.1 25 35 = nI (mrl M) ∧ mrl M ≤ 12 ∧ ∀ k, k < mrl M → S.1 47 k = nI (mrw M k) ∧ mrw M k ≤ 48) ∧ ∀ k, k < 7 → S.1 26 k = mrf M k
def qR (S : ZS) (n : Nat) (p : Int32 × Ms) (r : Option Value) (ω : ZW) : Prop := r = some (.int p.1) ∧ ∃ S', ω = zw S' n ∧ frm 25 47 S n S' n ∧ MI S' p.2
theorem MI_class {S S' : ZS} {n n' : Nat} {M : Ms} (h : MI S M) (f : frm 0 24 S n S' n') : MI S' M := by
  have g := fun a (ha : 24 < a) => (f.2.2 a (Or.inr ha)).1
  obtain ⟨⟨⟨⟨a1, a2, a3, a4⟩, b, c, d, e⟩, ok⟩, i, t, r, q⟩ := h
  refine ⟨⟨⟨⟨?_, ?_, ?_, ?_⟩, ?_, ?_, ?_, ?_⟩, ok⟩, ?_, ?_, ?_, ?_⟩
  · rw [g 25 (by decide)]; exact a1
  · rw [g 25 (by decide)]; exact a2
  · rw [g 25 (by decide)]; exact a3
  · rw [g 25 (by decide)]; exact a4
  · rw [g 27 (by decide), g 28 (by decide), g 29 (by decide), g 30 (by decide)]; exact b
  · rw [g 31 (by decide), g 32 (by decide)]; exact c
  · rw [g 33 (by decide)]; exact d
  · rw [g 34 (by decide), g 35 (by decide), g 36 (by decide), g 37 (by decide)]; exact e
  · rw [g 25 (by decide), g 42 (by decide)]; exact i
  · rw [g 25 (by decide), g 38 (by decide)]; exact t
  · rw [g 25 (by decide), g 47 (by decide)]; exact r
  · rw [g 26 (by decide)]; exact q
theorem CI_model {S S' : ZS} {n : Nat} {M : Ms} (h : CI S n M) (f : frm 25 47 S n S' n) : CI S' n M := by
  obtain ⟨h1, h2, h3, h4, h5⟩ := h
  have g := f.2.2
  exact ⟨⟨cV_frm h1.1 f (by decide), h1.2⟩, ⟨by rw [(g 0 (by decide)).1]; exact h2.1, fun c hc => ⟨cV_frm (h2.2 c hc).1 f (by decide), (h2.2 c hc).2⟩⟩, lV_frm2 h3 f (by decide), ⟨by rw [(g 0 (by decide)).1]; exact h4.1, h4.2.1, fun j hj => by rw [(g 23 (by decide)).1]; exact h4.2.2 j hj⟩, fun j hj => by rw [(g 24 (by decide)).1]; exact h5 j hj⟩
def inI (v lo hi : Int32) : Bool := !decide (v < lo) && !decide (hi < v)
def boI (v lo hi : Int32) : Int32 := if v < lo then -4 else if hi < v then -6 else 0
set_option maxRecDepth 100000 in
set_option maxHeartbeats 4000000 in
theorem c_X12_isIn {v lo hi : Int32} {ω : ZW} : zM m_X12_isIn 0 0 [.int v, .int lo, .int hi] ω (zE (some (.int (zb (inI v lo hi)))) ω) := by
  show Z m_X12_isIn _ _ _ 0 [some (.int _), some (.int _), some (.int _)] [] _
  refine Z_iload_n dX12_isIn_0 rfl (pc' := 1) rfl ?_
  refine Z_iload_n dX12_isIn_1 rfl (pc' := 2) rfl ?_
  refine Z_icmp_lt dX12_isIn_2 (tgt := 14) rfl (pc' := 5) rfl (fun c_2 => ?_) (fun c_2 => ?_)
  · refine Z_iconst dX12_isIn_14 (v := 0) (by decide) (pc' := 15) rfl ?_
    exact Z_ireturn dX12_isIn_15 rfl (by first | rfl | exact narrow_zb _) ⟨by unfold inI; simp [c_2, zb], rfl⟩
  · refine Z_iload_n dX12_isIn_5 rfl (pc' := 6) rfl ?_
    refine Z_iload_n dX12_isIn_6 rfl (pc' := 7) rfl ?_
    refine Z_icmp_gt dX12_isIn_7 (tgt := 14) rfl (pc' := 10) rfl (fun c_7 => ?_) (fun c_7 => ?_)
    · refine Z_iconst dX12_isIn_14 (v := 0) (by decide) (pc' := 15) rfl ?_
      exact Z_ireturn dX12_isIn_15 rfl (by first | rfl | exact narrow_zb _) ⟨by unfold inI; simp [c_7, zb], rfl⟩
    · refine Z_iconst dX12_isIn_10 (v := 1) (by decide) (pc' := 11) rfl ?_
      refine Z_goto dX12_isIn_11 (tgt := 15) rfl ?_
      exact Z_ireturn dX12_isIn_15 rfl (by first | rfl | exact narrow_zb _) ⟨by unfold inI; simp [c_2, c_7, zb], rfl⟩
set_option maxRecDepth 100000 in
set_option maxHeartbeats 4000000 in
theorem c_X12_bound {v lo hi : Int32} {ω : ZW} : zM m_X12_bound 0 0 [.int v, .int lo, .int hi] ω (zE (some (.int (boI v lo hi))) ω) := by
  show Z m_X12_bound _ _ _ 0 [some (.int _), some (.int _), some (.int _)] [] _
  refine Z_iload_n dX12_bound_0 rfl (pc' := 1) rfl ?_
  refine Z_iload_n dX12_bound_1 rfl (pc' := 2) rfl ?_
  refine Z_icmp_ge dX12_bound_2 (tgt := 10) rfl (pc' := 5) rfl (fun c_2 => ?_) (fun c_2 => ?_)
  · refine Z_iload_n dX12_bound_10 rfl (pc' := 11) rfl ?_
    refine Z_iload_n dX12_bound_11 rfl (pc' := 12) rfl ?_
    refine Z_icmp_le dX12_bound_12 (tgt := 20) rfl (pc' := 15) rfl (fun c_12 => ?_) (fun c_12 => ?_)
    · refine Z_iconst dX12_bound_20 (v := 0) (by decide) (pc' := 21) rfl ?_
      exact Z_ireturn dX12_bound_21 rfl rfl ⟨by unfold boI; rw [if_neg (i_nlt c_2), if_neg (i_nlt c_12)], rfl⟩
    · refine Z_bipush dX12_bound_15 (v := (-6)) (by decide) (pc' := 17) rfl ?_
      refine Z_goto dX12_bound_17 (tgt := 21) rfl ?_
      exact Z_ireturn dX12_bound_21 rfl rfl ⟨by unfold boI; rw [if_neg (i_nlt c_2), if_pos (i_lt c_12)], rfl⟩
  · refine Z_bipush dX12_bound_5 (v := (-4)) (by decide) (pc' := 7) rfl ?_
    refine Z_goto dX12_bound_7 (tgt := 21) rfl ?_
    exact Z_ireturn dX12_bound_21 rfl rfl ⟨by unfold boI; rw [if_pos (i_lt c_2)], rfl⟩
set_option maxRecDepth 100000 in
set_option maxHeartbeats 4000000 in
theorem c_X12_no {S : ZS} {n k : Nat} (hk : k < 7) {x : Int32} (hx : -x = nI k) : zM m_X12_no 0 0 [.ref 25, .int x] (zw S n) (zE (some (.int x)) (zw (sA S 26 k (S.1 26 k + 1)) n)) := by
  show Z m_X12_no _ _ _ 0 [some (.ref _), some (.int _)] [] _
  refine Z_aload_n dX12_no_0 rfl (z_isref _) (pc' := 1) rfl ?_
  refine Z_gR dX12_no_1 rfl zgr_RX12_7_25 (pc' := 4) rfl ?_
  refine Z_iload_n dX12_no_4 rfl (pc' := 5) rfl ?_
  refine Z_ineg dX12_no_5 (pc' := 6) rfl ?_
  refine Z_dup2 dX12_no_6 rfl rfl (pc' := 7) rfl ?_
  refine Z_il dX12_no_7 zar_26 (by rw [hx]; exact zin hk (by decide)) (pc' := 8) rfl ?_
  refine Z_iconst dX12_no_8 (v := 1) (by decide) (pc' := 9) rfl ?_
  refine Z_iadd dX12_no_9 (pc' := 10) rfl ?_
  refine Z_is dX12_no_10 zar_26 (by rw [hx]; exact zin hk (by decide)) (pc' := 11) rfl ?_
  refine Z_iload_n dX12_no_11 rfl (pc' := 12) rfl ?_
  exact Z_ireturn dX12_no_12 rfl rfl ⟨rfl, by rw [hx, nI_nat (by omega)]⟩
set_option maxRecDepth 100000 in
set_option maxHeartbeats 4000000 in
theorem c_X12_lower {S : ZS} {n k : Nat} (hk : k < 7) {x : Int32} (hx : -x = nI k) : zM m_X12_lower 0 0 [.ref 25, .int x] (zw S n) (zE (some (.int (1000000000 - x))) (zw (sA S 26 k (S.1 26 k + 1)) n)) := by
  show Z m_X12_lower _ _ _ 0 [some (.ref _), some (.int _)] [] _
  refine Z_aload_n dX12_lower_0 rfl (z_isref _) (pc' := 1) rfl ?_
  refine Z_gR dX12_lower_1 rfl zgr_RX12_7_25 (pc' := 4) rfl ?_
  refine Z_iload_n dX12_lower_4 rfl (pc' := 5) rfl ?_
  refine Z_ineg dX12_lower_5 (pc' := 6) rfl ?_
  refine Z_dup2 dX12_lower_6 rfl rfl (pc' := 7) rfl ?_
  refine Z_il dX12_lower_7 zar_26 (by rw [hx]; exact zin hk (by decide)) (pc' := 8) rfl ?_
  refine Z_iconst dX12_lower_8 (v := 1) (by decide) (pc' := 9) rfl ?_
  refine Z_iadd dX12_lower_9 (pc' := 10) rfl ?_
  refine Z_is dX12_lower_10 zar_26 (by rw [hx]; exact zin hk (by decide)) (pc' := 11) rfl ?_
  refine Z_ldc dX12_lower_11 rfl zw_928 (pc' := 13) rfl ?_
  refine Z_iload_n dX12_lower_13 rfl (pc' := 14) rfl ?_
  refine Z_isub dX12_lower_14 (pc' := 15) rfl ?_
  exact Z_ireturn dX12_lower_15 rfl rfl ⟨rfl, by rw [hx, nI_nat (by omega)]⟩
set_option maxRecDepth 100000 in
set_option maxHeartbeats 4000000 in
theorem c_X12_notWalk {r b : Int32} {ω : ZW} : zM m_X12_notWalk 0 0 [.int r, .int b] ω (zE (some (.int (wrI r b))) ω) := by
  show Z m_X12_notWalk _ _ _ 0 [some (.int _), some (.int _)] [] _
  refine Z_iload_n dX12_notWalk_0 rfl (pc' := 1) rfl ?_
  refine Z_iconst dX12_notWalk_1 (v := 1) (by decide) (pc' := 2) rfl ?_
  refine Z_icmp_lt dX12_notWalk_2 (tgt := 9) rfl (pc' := 5) rfl (fun c_2 => ?_) (fun c_2 => ?_)
  · refine Z_bipush dX12_notWalk_9 (v := (-4)) (by decide) (pc' := 11) rfl ?_
    refine Z_goto dX12_notWalk_11 (tgt := 32) rfl ?_
    exact Z_ireturn dX12_notWalk_32 rfl rfl ⟨by unfold wrI; rw [if_pos (Or.inl c_2)], rfl⟩
  · refine Z_iload_n dX12_notWalk_5 rfl (pc' := 6) rfl ?_
    refine Z_if_ge dX12_notWalk_6 (tgt := 14) rfl (pc' := 9) rfl (fun c_6 => ?_) (fun c_6 => ?_)
    · refine Z_iload_n dX12_notWalk_14 rfl (pc' := 15) rfl ?_
      refine Z_bipush dX12_notWalk_15 (v := 9) (by decide) (pc' := 17) rfl ?_
      refine Z_icmp_gt dX12_notWalk_17 (tgt := 26) rfl (pc' := 20) rfl (fun c_17 => ?_) (fun c_17 => ?_)
      · refine Z_bipush dX12_notWalk_26 (v := (-6)) (by decide) (pc' := 28) rfl ?_
        refine Z_goto dX12_notWalk_28 (tgt := 32) rfl ?_
        exact Z_ireturn dX12_notWalk_32 rfl rfl ⟨by unfold wrI; rw [if_neg (n_or c_2 (i_nlt c_6)), if_pos (Or.inl c_17)], rfl⟩
      · refine Z_iload_n dX12_notWalk_20 rfl (pc' := 21) rfl ?_
        refine Z_bipush dX12_notWalk_21 (v := 9) (by decide) (pc' := 23) rfl ?_
        refine Z_icmp_le dX12_notWalk_23 (tgt := 31) rfl (pc' := 26) rfl (fun c_23 => ?_) (fun c_23 => ?_)
        · refine Z_iconst dX12_notWalk_31 (v := 0) (by decide) (pc' := 32) rfl ?_
          exact Z_ireturn dX12_notWalk_32 rfl rfl ⟨by unfold wrI; rw [if_neg (n_or c_2 (i_nlt c_6)), if_neg (n_or c_17 (i_nlt c_23))], rfl⟩
        · refine Z_bipush dX12_notWalk_26 (v := (-6)) (by decide) (pc' := 28) rfl ?_
          refine Z_goto dX12_notWalk_28 (tgt := 32) rfl ?_
          exact Z_ireturn dX12_notWalk_32 rfl rfl ⟨by unfold wrI; rw [if_neg (n_or c_2 (i_nlt c_6)), if_pos (Or.inr (i_lt c_23))], rfl⟩
    · refine Z_bipush dX12_notWalk_9 (v := (-4)) (by decide) (pc' := 11) rfl ?_
      refine Z_goto dX12_notWalk_11 (tgt := 32) rfl ?_
      exact Z_ireturn dX12_notWalk_32 rfl rfl ⟨by unfold wrI; rw [if_pos (Or.inr (i_lt c_6))], rfl⟩
set_option maxRecDepth 100000 in
set_option maxHeartbeats 4000000 in
theorem c_X12_apart {a b : Nat} (ha : a < 1000) (hb : b < 1000) {ω : ZW} : zM m_X12_apart 0 0 [.int (nI a), .int (nI b)] ω (zE (some (.int (nI (adN a b)))) ω) := by
  show Z m_X12_apart _ _ _ 0 [some (.int _), some (.int _)] [] _
  refine Z_iload_n dX12_apart_0 rfl (pc' := 1) rfl ?_
  refine Z_iload_n dX12_apart_1 rfl (pc' := 2) rfl ?_
  refine Z_icmp_ge dX12_apart_2 (tgt := 11) rfl (pc' := 5) rfl (fun c_2 => ?_) (fun c_2 => ?_)
  · refine Z_iload_n dX12_apart_11 rfl (pc' := 12) rfl ?_
    refine Z_iload_n dX12_apart_12 rfl (pc' := 13) rfl ?_
    refine Z_isub dX12_apart_13 (pc' := 14) rfl ?_
    exact Z_ireturn dX12_apart_14 rfl rfl ⟨by rw [nI_len (by omega) (by omega)] at c_2; rw [nI_sub c_2]; unfold adN; rw [if_neg (by omega)], rfl⟩
  · refine Z_iload_n dX12_apart_5 rfl (pc' := 6) rfl ?_
    refine Z_iload_n dX12_apart_6 rfl (pc' := 7) rfl ?_
    refine Z_isub dX12_apart_7 (pc' := 8) rfl ?_
    refine Z_goto dX12_apart_8 (tgt := 14) rfl ?_
    exact Z_ireturn dX12_apart_14 rfl rfl ⟨by rw [nI_len (by omega) (by omega)] at c_2; rw [nI_sub (by omega)]; unfold adN; rw [if_pos (by omega)], rfl⟩
set_option maxRecDepth 100000 in
set_option maxHeartbeats 4000000 in
theorem c_X12_isStretch {S : ZS} {n : Nat} {c : Co} (h : mV S c) (ok : Cok c) {s : Int32} : zM m_X12_isStretch 0 0 [.ref 25, .int s] (zw S n) (zE (some (.int (zb (idx s (cns c)).isSome))) (zw S n)) := by
  show Z m_X12_isStretch _ _ _ 0 [some (.ref _), some (.int _)] [] _
  refine Z_iload_n dX12_isStretch_0 rfl (pc' := 1) rfl ?_
  refine Z_if_lt dX12_isStretch_1 (tgt := 16) rfl (pc' := 4) rfl (fun c_1 => ?_) (fun c_1 => ?_)
  · refine Z_iconst dX12_isStretch_16 (v := 0) (by decide) (pc' := 17) rfl ?_
    exact Z_ireturn dX12_isStretch_17 rfl (by first | rfl | exact narrow_zb _) ⟨by rw [idx_none (Or.inl c_1)]; rfl, rfl⟩
  · refine Z_iload_n dX12_isStretch_4 rfl (pc' := 5) rfl ?_
    refine Z_aload_n dX12_isStretch_5 rfl (z_isref _) (pc' := 6) rfl ?_
    refine Z_gI dX12_isStretch_6 rfl zgi_RX12_114_25 (pc' := 9) rfl ?_
    rw [h.1.1]
    refine Z_icmp_ge dX12_isStretch_9 (tgt := 16) rfl (pc' := 12) rfl (fun c_9 => ?_) (fun c_9 => ?_)
    · refine Z_iconst dX12_isStretch_16 (v := 0) (by decide) (pc' := 17) rfl ?_
      exact Z_ireturn dX12_isStretch_17 rfl (by first | rfl | exact narrow_zb _) ⟨by rw [idx_none (Or.inr c_9)]; rfl, rfl⟩
    · refine Z_iconst dX12_isStretch_12 (v := 1) (by decide) (pc' := 13) rfl ?_
      refine Z_goto dX12_isStretch_13 (tgt := 17) rfl ?_
      exact Z_ireturn dX12_isStretch_17 rfl (by first | rfl | exact narrow_zb _) ⟨by unfold idx; rw [if_neg (n_or c_1 c_9)]; rfl, rfl⟩
set_option maxRecDepth 100000 in
set_option maxHeartbeats 4000000 in
theorem c_X12_isIsland {S : ZS} {n k t : Nat} {c : Co} (h : mV S c) (ok : Cok c) (hk : k < cnr c) (ht : t < 1000) : zM m_X12_isIsland 0 0 [.ref 25, .int (nI k), .int (nI t)] (zw S n) (zE (some (.int (zb (islB c t k)))) (zw S n)) := by
  have hok := ok.2.2.2.2.2.2.2 k hk
  have h6 := ok.2.2.1
  show Z m_X12_isIsland _ _ _ 0 [some (.ref _), some (.int _), some (.int _)] [] _
  refine Z_iload_n dX12_isIsland_0 rfl (pc' := 1) rfl ?_
  refine Z_aload_n dX12_isIsland_1 rfl (z_isref _) (pc' := 2) rfl ?_
  refine Z_gR dX12_isIsland_2 rfl zgr_RX12_40_25 (pc' := 5) rfl ?_
  refine Z_iload_n dX12_isIsland_5 rfl (pc' := 6) rfl ?_
  refine Z_il dX12_isIsland_6 zar_36 (zin (by omega) (by decide)) (pc' := 7) rfl ?_
  rw [nI_nat (by omega), (h.2.2.2.2 k hk).2.2.1]
  refine Z_icmp_lt dX12_isIsland_7 (tgt := 24) rfl (pc' := 10) rfl (fun c_7 => ?_) (fun c_7 => ?_)
  · refine Z_iconst dX12_isIsland_24 (v := 0) (by decide) (pc' := 25) rfl ?_
    exact Z_ireturn dX12_isIsland_25 rfl (by first | rfl | exact narrow_zb _) ⟨by rw [nI_ltn (by omega) (by omega)] at c_7; rw [isl_at hk, decide_eq_false (by omega)]; rfl, rfl⟩
  · refine Z_iload_n dX12_isIsland_10 rfl (pc' := 11) rfl ?_
    refine Z_aload_n dX12_isIsland_11 rfl (z_isref _) (pc' := 12) rfl ?_
    refine Z_gR dX12_isIsland_12 rfl zgr_RX12_43_25 (pc' := 15) rfl ?_
    refine Z_iload_n dX12_isIsland_15 rfl (pc' := 16) rfl ?_
    refine Z_il dX12_isIsland_16 zar_37 (zin (by omega) (by decide)) (pc' := 17) rfl ?_
    rw [nI_nat (by omega), (h.2.2.2.2 k hk).2.2.2]
    refine Z_icmp_gt dX12_isIsland_17 (tgt := 24) rfl (pc' := 20) rfl (fun c_17 => ?_) (fun c_17 => ?_)
    · refine Z_iconst dX12_isIsland_24 (v := 0) (by decide) (pc' := 25) rfl ?_
      exact Z_ireturn dX12_isIsland_25 rfl (by first | rfl | exact narrow_zb _) ⟨by rw [nI_ltn (by omega) (by omega)] at c_7 c_17; rw [isl_at hk, decide_eq_false (p := t ≤ chg c k) (by omega), Bool.and_false]; rfl, rfl⟩
    · refine Z_iconst dX12_isIsland_20 (v := 1) (by decide) (pc' := 21) rfl ?_
      refine Z_goto dX12_isIsland_21 (tgt := 25) rfl ?_
      exact Z_ireturn dX12_isIsland_25 rfl (by first | rfl | exact narrow_zb _) ⟨by rw [nI_ltn (by omega) (by omega)] at c_7 c_17; rw [isl_at hk, decide_eq_true (by omega), decide_eq_true (by omega)]; rfl, rfl⟩
set_option maxRecDepth 100000 in
set_option maxHeartbeats 4000000 in
theorem c_X12_isPlace {S : ZS} {n : Nat} {c : Co} (h : mV S c) (ok : Cok c) {s : Int32} : zM m_X12_isPlace 0 0 [.ref 25, .int s] (zw S n) (zE (some (.int (zb (hpI (nI (cny c)) s)))) (zw S n)) := by
  show Z m_X12_isPlace _ _ _ 0 [some (.ref _), some (.int _)] [] _
  refine Z_iload_n dX12_isPlace_0 rfl (pc' := 1) rfl ?_
  refine Z_if_lt dX12_isPlace_1 (tgt := 16) rfl (pc' := 4) rfl (fun c_1 => ?_) (fun c_1 => ?_)
  · refine Z_iconst dX12_isPlace_16 (v := 0) (by decide) (pc' := 17) rfl ?_
    exact Z_ireturn dX12_isPlace_17 rfl (by first | rfl | exact narrow_zb _) ⟨by unfold hpI; simp [c_1, zb], rfl⟩
  · refine Z_iload_n dX12_isPlace_4 rfl (pc' := 5) rfl ?_
    refine Z_aload_n dX12_isPlace_5 rfl (z_isref _) (pc' := 6) rfl ?_
    refine Z_gI dX12_isPlace_6 rfl zgi_RX12_117_25 (pc' := 9) rfl ?_
    rw [h.1.2.1]
    refine Z_icmp_gt dX12_isPlace_9 (tgt := 16) rfl (pc' := 12) rfl (fun c_9 => ?_) (fun c_9 => ?_)
    · refine Z_iconst dX12_isPlace_16 (v := 0) (by decide) (pc' := 17) rfl ?_
      exact Z_ireturn dX12_isPlace_17 rfl (by first | rfl | exact narrow_zb _) ⟨by unfold hpI; simp [c_9, zb], rfl⟩
    · refine Z_iconst dX12_isPlace_12 (v := 1) (by decide) (pc' := 13) rfl ?_
      refine Z_goto dX12_isPlace_13 (tgt := 17) rfl ?_
      exact Z_ireturn dX12_isPlace_17 rfl (by first | rfl | exact narrow_zb _) ⟨by unfold hpI; simp [c_1, c_9, zb], rfl⟩
def wyI2 (x : Int32) : Int32 := if x = 101 then 1 else if x = 110 then 0 else if x = 115 then 2 else if x = 119 then 3 else -1
set_option maxRecDepth 100000 in
set_option maxHeartbeats 4000000 in
theorem c_X12_wayOf {x : Int32} {ω : ZW} : zM m_X12_wayOf 0 0 [.int x] ω (zE (some (.int (wyI2 x))) ω) := by
  show Z m_X12_wayOf _ _ _ 0 [some (.int _)] [] _
  refine Z_iload_n dX12_wayOf_0 rfl (pc' := 1) rfl ?_
  refine Z_topi (fun x_1 e_1 => ?_)
  by_cases k_1_101 : x_1 = 101
  · subst k_1_101
    subst e_1
    refine Z_lookup dX12_wayOf_1 (by decide) (off := 45) (by decide) (tgt := 46) rfl ?_
    refine Z_iconst dX12_wayOf_46 (v := 1) (by decide) (pc' := 47) rfl ?_
    exact Z_ireturn dX12_wayOf_47 rfl rfl ⟨rfl, rfl⟩
  by_cases k_1_110 : x_1 = 110
  · subst k_1_110
    subst e_1
    refine Z_lookup dX12_wayOf_1 (by decide) (off := 43) (by decide) (tgt := 44) rfl ?_
    refine Z_iconst dX12_wayOf_44 (v := 0) (by decide) (pc' := 45) rfl ?_
    exact Z_ireturn dX12_wayOf_45 rfl rfl ⟨rfl, rfl⟩
  by_cases k_1_115 : x_1 = 115
  · subst k_1_115
    subst e_1
    refine Z_lookup dX12_wayOf_1 (by decide) (off := 47) (by decide) (tgt := 48) rfl ?_
    refine Z_iconst dX12_wayOf_48 (v := 2) (by decide) (pc' := 49) rfl ?_
    exact Z_ireturn dX12_wayOf_49 rfl rfl ⟨rfl, rfl⟩
  by_cases k_1_119 : x_1 = 119
  · subst k_1_119
    subst e_1
    refine Z_lookup dX12_wayOf_1 (by decide) (off := 49) (by decide) (tgt := 50) rfl ?_
    refine Z_iconst dX12_wayOf_50 (v := 3) (by decide) (pc' := 51) rfl ?_
    exact Z_ireturn dX12_wayOf_51 rfl rfl ⟨rfl, rfl⟩
  refine Z_lookup dX12_wayOf_1 (by decide) (off := 51) (by simp [Op.lookupswitch.offset, i32_nev k_1_101 (v := 101) (by decide), i32_nev k_1_110 (v := 110) (by decide), i32_nev k_1_115 (v := 115) (by decide), i32_nev k_1_119 (v := 119) (by decide)]) (tgt := 52) rfl ?_
  subst e_1
  refine Z_iconst dX12_wayOf_52 (v := (-1)) (by decide) (pc' := 53) rfl ?_
  exact Z_ireturn dX12_wayOf_53 rfl rfl ⟨by unfold wyI2; rw [if_neg k_1_101, if_neg k_1_110, if_neg k_1_115, if_neg k_1_119], rfl⟩
set_option maxRecDepth 100000 in
set_option maxHeartbeats 4000000 in
theorem c_X12_isFar {S : ZS} {n a b : Nat} {c : Co} (h : mV S c) (ok : Cok c) (ha : a ≤ cny c) (hb : b ≤ cny c) {r : Int32} : zM m_X12_isFar 0 0 [.ref 25, .int (nI a), .int (nI b), .int r] (zw S n) (zE (some (.int (zb (frS c r a b)))) (zw S n)) := by
  have h48 := ok.2.1
  show Z m_X12_isFar _ _ _ 0 [some (.ref _), some (.int _), some (.int _), some (.int _)] [] _
  refine Z_aload_n dX12_isFar_0 rfl (z_isref _) (pc' := 1) rfl ?_
  refine Z_gR dX12_isFar_1 rfl zgr_RX12_25_25 (pc' := 4) rfl ?_
  refine Z_iload_n dX12_isFar_4 rfl (pc' := 5) rfl ?_
  refine Z_il dX12_isFar_5 zar_31 (zin (by omega) (by decide)) (pc' := 6) rfl ?_
  rw [nI_nat (by omega), (h.2.2.1 a ha).1]
  refine Z_aload_n dX12_isFar_6 rfl (z_isref _) (pc' := 7) rfl ?_
  refine Z_gR dX12_isFar_7 rfl zgr_RX12_25_25 (pc' := 10) rfl ?_
  refine Z_iload_n dX12_isFar_10 rfl (pc' := 11) rfl ?_
  refine Z_il dX12_isFar_11 zar_31 (zin (by omega) (by decide)) (pc' := 12) rfl ?_
  rw [nI_nat (by omega), (h.2.2.1 b hb).1]
  refine Z_isub dX12_isFar_12 (pc' := 13) rfl ?_
  refine Z_istore dX12_isFar_13 (Nat.le_of_ble_eq_true rfl) (Nat.le_of_ble_eq_true rfl) rfl (ls' := [_, _, _, _, _]) rfl (pc' := 15) rfl ?_
  refine Z_aload_n dX12_isFar_15 rfl (z_isref _) (pc' := 16) rfl ?_
  refine Z_gR dX12_isFar_16 rfl zgr_RX12_28_25 (pc' := 19) rfl ?_
  refine Z_iload_n dX12_isFar_19 rfl (pc' := 20) rfl ?_
  refine Z_il dX12_isFar_20 zar_32 (zin (by omega) (by decide)) (pc' := 21) rfl ?_
  rw [nI_nat (by omega), (h.2.2.1 a ha).2]
  refine Z_aload_n dX12_isFar_21 rfl (z_isref _) (pc' := 22) rfl ?_
  refine Z_gR dX12_isFar_22 rfl zgr_RX12_28_25 (pc' := 25) rfl ?_
  refine Z_iload_n dX12_isFar_25 rfl (pc' := 26) rfl ?_
  refine Z_il dX12_isFar_26 zar_32 (zin (by omega) (by decide)) (pc' := 27) rfl ?_
  rw [nI_nat (by omega), (h.2.2.1 b hb).2]
  refine Z_isub dX12_isFar_27 (pc' := 28) rfl ?_
  refine Z_istore dX12_isFar_28 (Nat.le_of_ble_eq_true rfl) (Nat.le_of_ble_eq_true rfl) rfl (ls' := [_, _, _, _, _, _]) rfl (pc' := 30) rfl ?_
  refine Z_iload dX12_isFar_30 rfl (pc' := 32) rfl ?_
  refine Z_iload dX12_isFar_32 rfl (pc' := 34) rfl ?_
  refine Z_imul dX12_isFar_34 (pc' := 35) rfl ?_
  refine Z_iload dX12_isFar_35 rfl (pc' := 37) rfl ?_
  refine Z_iload dX12_isFar_37 rfl (pc' := 39) rfl ?_
  refine Z_imul dX12_isFar_39 (pc' := 40) rfl ?_
  refine Z_iadd dX12_isFar_40 (pc' := 41) rfl ?_
  refine Z_iload_n dX12_isFar_41 rfl (pc' := 42) rfl ?_
  refine Z_iload_n dX12_isFar_42 rfl (pc' := 43) rfl ?_
  refine Z_imul dX12_isFar_43 (pc' := 44) rfl ?_
  refine Z_icmp_lt dX12_isFar_44 (tgt := 51) rfl (pc' := 47) rfl (fun c_44 => ?_) (fun c_44 => ?_)
  · refine Z_iconst dX12_isFar_51 (v := 0) (by decide) (pc' := 52) rfl ?_
    exact Z_ireturn dX12_isFar_52 rfl (by first | rfl | exact narrow_zb _) ⟨by unfold frS; rw [decide_eq_false (Int32.not_le.mpr c_44)]; rfl, rfl⟩
  · refine Z_iconst dX12_isFar_47 (v := 1) (by decide) (pc' := 48) rfl ?_
    refine Z_goto dX12_isFar_48 (tgt := 52) rfl ?_
    exact Z_ireturn dX12_isFar_52 rfl (by first | rfl | exact narrow_zb _) ⟨by unfold frS; rw [decide_eq_true (Int32.not_lt.mp c_44)]; rfl, rfl⟩
set_option maxRecDepth 100000 in
set_option maxHeartbeats 4000000 in
theorem c_X12_feeOf {S : ZS} {n k : Nat} {c : Co} (h : mV S c) (ok : Cok c) (hk : k < cns c) : zM m_X12_feeOf 0 0 [.ref 25, .int (nI k)] (zw S n) (zE (some (.int (nI (feeS c k)))) (zw S n)) := by
  have h8 := ok.1
  have hok := ok.2.2.2.2.1 k hk
  show Z m_X12_feeOf _ _ _ 0 [some (.ref _), some (.int _)] [] _
  refine Z_aload_n dX12_feeOf_0 rfl (z_isref _) (pc' := 1) rfl ?_
  refine Z_gR dX12_feeOf_1 rfl zgr_RX12_13_25 (pc' := 4) rfl ?_
  refine Z_iload_n dX12_feeOf_4 rfl (pc' := 5) rfl ?_
  refine Z_il dX12_feeOf_5 zar_27 (zin (by omega) (by decide)) (pc' := 6) rfl ?_
  rw [nI_nat (by omega), (h.2.1 k hk).1]
  refine Z_topi (fun x_6 e_6 => ?_)
  by_cases k_6_1 : x_6 = 1
  · subst k_6_1
    have ek : ckd c k = 1 := (nI_eqn (by omega) (by decide)).mp (show nI (ckd c k) = nI 1 from e_6.symm)
    refine Z_tableIn dX12_feeOf_6 (by decide) (by decide) (off := 34) rfl (tgt := 40) rfl ?_
    refine Z_iconst dX12_feeOf_40 (v := 2) (by decide) (pc' := 41) rfl ?_
    exact Z_ireturn dX12_feeOf_41 rfl rfl ⟨by unfold feeS; rw [ek]; rfl, rfl⟩
  by_cases k_6_2 : x_6 = 2
  · subst k_6_2
    have ek : ckd c k = 2 := (nI_eqn (by omega) (by decide)).mp (show nI (ckd c k) = nI 2 from e_6.symm)
    refine Z_tableIn dX12_feeOf_6 (by decide) (by decide) (off := 36) rfl (tgt := 42) rfl ?_
    refine Z_iconst dX12_feeOf_42 (v := 0) (by decide) (pc' := 43) rfl ?_
    exact Z_ireturn dX12_feeOf_43 rfl rfl ⟨by unfold feeS; rw [ek]; rfl, rfl⟩
  by_cases k_6_3 : x_6 = 3
  · subst k_6_3
    have ek : ckd c k = 3 := (nI_eqn (by omega) (by decide)).mp (show nI (ckd c k) = nI 3 from e_6.symm)
    refine Z_tableIn dX12_feeOf_6 (by decide) (by decide) (off := 38) rfl (tgt := 44) rfl ?_
    refine Z_iconst dX12_feeOf_44 (v := 1) (by decide) (pc' := 45) rfl ?_
    refine Z_aload_n dX12_feeOf_45 rfl (z_isref _) (pc' := 46) rfl ?_
    refine Z_gR dX12_feeOf_46 rfl zgr_RX12_16_25 (pc' := 49) rfl ?_
    refine Z_iload_n dX12_feeOf_49 rfl (pc' := 50) rfl ?_
    refine Z_il dX12_feeOf_50 zar_28 (zin (by omega) (by decide)) (pc' := 51) rfl ?_
    rw [nI_nat (by omega), (h.2.1 k hk).2.1]
    refine Z_iadd dX12_feeOf_51 (pc' := 52) rfl ?_
    exact Z_ireturn dX12_feeOf_52 rfl rfl ⟨by unfold feeS; rw [ek, show (1 : Int32) = nI 1 from rfl, nI_add]; rfl, rfl⟩
  by_cases k_6_4 : x_6 = 4
  · subst k_6_4
    have ek : ckd c k = 4 := (nI_eqn (by omega) (by decide)).mp (show nI (ckd c k) = nI 4 from e_6.symm)
    refine Z_tableIn dX12_feeOf_6 (by decide) (by decide) (off := 47) rfl (tgt := 53) rfl ?_
    refine Z_iconst dX12_feeOf_53 (v := 4) (by decide) (pc' := 54) rfl ?_
    exact Z_ireturn dX12_feeOf_54 rfl rfl ⟨by unfold feeS; rw [ek]; rfl, rfl⟩
  by_cases k_6_5 : x_6 = 5
  · subst k_6_5
    have ek : ckd c k = 5 := (nI_eqn (by omega) (by decide)).mp (show nI (ckd c k) = nI 5 from e_6.symm)
    refine Z_tableIn dX12_feeOf_6 (by decide) (by decide) (off := 49) rfl (tgt := 55) rfl ?_
    refine Z_aload_n dX12_feeOf_55 rfl (z_isref _) (pc' := 56) rfl ?_
    refine Z_gR dX12_feeOf_56 rfl zgr_RX12_16_25 (pc' := 59) rfl ?_
    refine Z_iload_n dX12_feeOf_59 rfl (pc' := 60) rfl ?_
    refine Z_il dX12_feeOf_60 zar_28 (zin (by omega) (by decide)) (pc' := 61) rfl ?_
    rw [nI_nat (by omega), (h.2.1 k hk).2.1]
    exact Z_ireturn dX12_feeOf_61 rfl rfl ⟨by unfold feeS; rw [ek]; rfl, rfl⟩
  refine Z_tableOut dX12_feeOf_6 (by have h1 := i32_nev k_6_1 (v := 1) (by decide); have h2 := i32_nev k_6_2 (v := 2) (by decide); have h3 := i32_nev k_6_3 (v := 3) (by decide); have h4 := i32_nev k_6_4 (v := 4) (by decide); have h5 := i32_nev k_6_5 (v := 5) (by decide); omega) (tgt := 62) rfl ?_
  have ek : ckd c k = 0 := by
    have hne : ∀ v, ckd c k = v → nI v = x_6 := fun v e => by rw [← e]; exact e_6.symm
    rcases Nat.lt_or_ge 0 (ckd c k) with q | q
    · obtain e | e | e | e | e : ckd c k = 1 ∨ ckd c k = 2 ∨ ckd c k = 3 ∨ ckd c k = 4 ∨ ckd c k = 5 := by omega
      · exact absurd (hne 1 e).symm k_6_1
      · exact absurd (hne 2 e).symm k_6_2
      · exact absurd (hne 3 e).symm k_6_3
      · exact absurd (hne 4 e).symm k_6_4
      · exact absurd (hne 5 e).symm k_6_5
    · omega
  refine Z_iconst dX12_feeOf_62 (v := 1) (by decide) (pc' := 63) rfl ?_
  exact Z_ireturn dX12_feeOf_63 rfl rfl ⟨by unfold feeS; rw [ek]; rfl, rfl⟩
