/-- but for the tide -/
def sft (S S' : ZS) : Prop := S'.2 = S.2 ∧ ∀ a k, scw a k = false → ¬ (a = 25 ∧ k = 15) → S'.1 a k = S.1 a k
theorem sft.rf {S : ZS} : sft S S := ⟨rfl, fun _ _ _ _ => rfl⟩
theorem sft.put {S S' : ZS} (h : sft S S') (x : Int32) : sft S (sA S' 25 15 x) := ⟨h.1, fun a k q e => by rw [sA_nk _ _ e]; exact h.2 a k q e⟩
theorem sft_sA {S S' : ZS} (h : sft S S') {a k : Nat} (x : Int32) (hs : scw a k = true) : sft S (sA S' a k x) := ⟨h.1, fun b j q e => by
  rw [sA_nk]
  · exact h.2 b j q e
  · rintro ⟨rfl, rfl⟩; rw [hs] at q; cases q⟩
theorem sft.tr {S S1 S2 : ZS} (h : sft S S1) (h2 : sfr S1 S2) : sft S S2 := ⟨h2.1.trans h.1, fun a k q e => (h2.w.2 a k q).trans (h.2 a k q e)⟩
theorem sft.bk {S S' : ZS} (h : sft S S') {x : Int32} (e : S.1 25 15 = x) : sfw S (sA S' 25 15 x) := ⟨h.1, fun a k q => by
  rw [sA_get]
  by_cases g : a = 25 ∧ k = 15
  · rw [if_pos g]; obtain ⟨rfl, rfl⟩ := g; exact e.symm
  · rw [if_neg g]; exact h.2 a k q g⟩
theorem sft.mv {S S' : ZS} {c : Co} {t : Nat} (h : sft S S') (e : S'.1 25 15 = nI t) (v : mV S c) : mV S' (setTd c t) := by
  have g : mV (sA S' 25 15 (nI (ctd c))) c := (h.bk v.1.2.2.2).mv v
  have g2 := mV_td g t
  refine mV_cg g2 (fun k h1 h2 => ?_) (fun a h1 h2 => ?_)
  · rw [sA_get]
    by_cases q : (25 = 25 ∧ k = 15)
    · rw [if_pos q, q.2]; exact e
    · rw [if_neg q, sA_nk _ _ q]
  · have h25 : a ≠ 25 := by omega
    rw [sA_ne _ _ _ h25, sA_ne _ _ _ h25]
theorem mlS_td (c : Co) (t : Nat) (r : Int32) (b : Nat) : mlS (setTd c t) (shS (setTd c t) (ctd (setTd c t))) r b = mlS c (shS c t) r b := rfl
theorem c_X12_milesT {S0 S : ZS} {n t : Nat} {c : Co} {r : Int32} {b : Nat} (hV : mV S0 c) (ok : Cok c) (f : sft S0 S) (ht : t ≤ 9) (e : S.1 25 15 = nI t) (hb : b < 100) : zM m_X12_miles 0 0 [.ref 25, .int r, .int (nI b)] (zw S n) (fun q ω => q = some (.int (mlS c (shS c t) r b)) ∧ ∃ S1, ω = zw S1 n ∧ sfr S S1 ∧ shR S1 (SL (setTd c t)) ∧ wdR S1 (WL (setTd c t) (shS (setTd c t) (ctd (setTd c t))) r b)) := by
  have h := c_X12_miles (r := r) (b := b) (n := n) (f.mv e hV) (Cok_td ok ht) hb
  rw [mlS_td] at h
  exact h
def mpI (s : Nat × Option Nat) : Prop := (s.1 = 0 ↔ s.2 = none) ∧ ∀ q, s.2 = some q → q < 1000
theorem mpI_0 : mpI (0, none) := ⟨⟨fun _ => rfl, fun _ => rfl⟩, fun q h => by cases h⟩
theorem mpI_n {a k : Nat} (hk : k < 900) (h : mpI (a, none)) : mpI (a + 1, some (100 + k)) := ⟨⟨fun h => absurd h (Nat.succ_ne_zero a), fun h => by cases h⟩, fun q h => by cases h; omega⟩
theorem mpI_s {a x : Nat} (h : mpI (a, some x)) : mpI (a + 1, some x) := ⟨⟨fun h => absurd h (Nat.succ_ne_zero a), fun h => by cases h⟩, h.2⟩
theorem mpS_f {v : Nat → Int32} {x : Int32} {k : Nat} {s : Nat × Option Nat} (h : ¬ v k = x) : mpS v x k s = s := if_neg h
theorem mpS_n {v : Nat → Int32} {x : Int32} {k a : Nat} (h : v k = x) : mpS v x k (a, none) = (a + 1, some (100 + k)) := if_pos h
theorem mpS_s {v : Nat → Int32} {x : Int32} {k a y : Nat} (h : v k = x) : mpS v x k (a, some y) = (a + 1, some y) := if_pos h
set_option maxRecDepth 100000 in
set_option maxHeartbeats 4000000 in
theorem lp_X12_map {S0 : ZS} {n : Nat} {M : Ms} (hI : MI S0 M) {R : Option Value → ZW → Prop} {x y z : Int32} {T : Nat × Option Nat} (hK : ∀ S, sft S0 S → Z m_X12_map 0 0 R 111 [some (.ref 25), some (.int x), some (.int y), some (.int z), some (.int (nI T.1)), some (.int (oI T.2)), some (.int (nI 900))] [] (zw S n)) : ∀ (m k : Nat) (s : Nat × Option Nat) (S : ZS), k + m = 900 → sft S0 S → mpI s → s.1 ≤ k → mpF (mpV M) x m k s = T → Z m_X12_map 0 0 R 42 [some (.ref 25), some (.int x), some (.int y), some (.int z), some (.int (nI s.1)), some (.int (oI s.2)), some (.int (nI k))] [] (zw S n) := by
  intro m
  induction m with
  | zero =>
    intro k s S h f hs hsl hT
    obtain rfl : k = 900 := by omega
    obtain rfl : s = T := hT
    refine Z_iload dX12_map_42 rfl (pc' := 44) rfl ?_
    refine Z_sipush dX12_map_44 (v := 900) (by decide) (pc' := 47) rfl ?_
    show Z _ _ _ _ _ _ (.int (nI 900) :: _) _
    refine Z_icmp_ge dX12_map_47 (tgt := 111) rfl (pc' := 50) rfl (fun c_47 => ?_) (fun c_47 => absurd c_47 (fun c => c ((nI_len (by decide) (by decide)).mpr (Nat.le_refl _))))
    exact hK S f
  | succ m ih =>
    intro k s S h f hs hsl hT
    have hk : k < 900 := by omega
    rw [mpF_s] at hT
    obtain ⟨a, t⟩ := s
    refine Z_iload dX12_map_42 rfl (pc' := 44) rfl ?_
    refine Z_sipush dX12_map_44 (v := 900) (by decide) (pc' := 47) rfl ?_
    show Z _ _ _ _ _ _ (.int (nI 900) :: _) _
    refine Z_icmp_ge dX12_map_47 (tgt := 111) rfl (pc' := 50) rfl (fun c_47 => absurd c_47 (by rw [nI_len (by decide) (by omega)]; omega)) (fun c_47 => ?_)
    refine Z_aload_n dX12_map_50 rfl (z_isref _) (pc' := 51) rfl ?_
    refine Z_iload dX12_map_51 rfl (pc' := 53) rfl ?_
    refine Z_bipush dX12_map_53 (v := 10) (by decide) (pc' := 55) rfl ?_
    refine Z_irem dX12_map_55 (by decide) (pc' := 56) rfl ?_
    rw [show nI k - nI k / 10 * 10 = nI (k % 10) from nI_rem (b := 10) (by omega) (by decide)]
    refine Z_pI dX12_map_56 rfl zpi_RX12_129_25 (pc' := 59) rfl ?_
    have f2 := f.put (nI (k % 10))
    refine Z_aload_n dX12_map_59 rfl (z_isref _) (pc' := 60) rfl ?_
    refine Z_iconst dX12_map_60 (v := 1) (by decide) (pc' := 61) rfl ?_
    refine Z_iload dX12_map_61 rfl (pc' := 63) rfl ?_
    refine Z_bipush dX12_map_63 (v := 100) (by decide) (pc' := 65) rfl ?_
    refine Z_idiv dX12_map_65 (by decide) (pc' := 66) rfl ?_
    refine Z_iadd dX12_map_66 (pc' := 67) rfl ?_
    rw [show (1 : Int32) + nI k / 100 = nI (1 + k / 100) from by rw [show (100 : Int32) = nI 100 from rfl, nI_div (by omega) (by decide), show (1 : Int32) = nI 1 from rfl, nI_add]]
    refine Z_iload dX12_map_67 rfl (pc' := 69) rfl ?_
    refine Z_bipush dX12_map_69 (v := 10) (by decide) (pc' := 71) rfl ?_
    refine Z_idiv dX12_map_71 (by decide) (pc' := 72) rfl ?_
    rw [show nI k / 10 = nI (k / 10) from nI_div (b := 10) (by omega) (by decide)]
    refine Z_bipush dX12_map_72 (v := 10) (by decide) (pc' := 74) rfl ?_
    refine Z_irem dX12_map_74 (by decide) (pc' := 75) rfl ?_
    rw [show nI (k / 10) - nI (k / 10) / 10 * 10 = nI (k / 10 % 10) from nI_rem (b := 10) (by omega) (by decide)]
    refine Z_cV dX12_map_75 rfl zcw_X12_miles (As := [_, _]) (rest := []) rfl ⟨Nat.le_of_ble_eq_true rfl, Nat.le_of_ble_eq_true rfl⟩ (Nat.le_of_ble_eq_true rfl) (zRcv.lay zob_25) ⟨zcw_X12_miles.2.2.2.2, Nat.le_of_ble_eq_true rfl⟩ zk_RX12_192 (c_X12_milesT hI.mv hI.ok f2 (t := k % 10) (by omega) (sA_eq ..) (by omega)) (pc' := 78) rfl (fun r_75 w_75 h_75 => ?_)
    obtain ⟨rfl, S2, rfl, f2b, _, _⟩ := h_75
    have f3 := f2.tr f2b
    show Z _ _ _ _ _ _ (.int (mpV M k) :: []) _
    refine Z_iload_n dX12_map_78 rfl (pc' := 79) rfl ?_
    refine Z_icmp_eq dX12_map_79 (tgt := 85) rfl (pc' := 82) rfl (fun c_79 => ?_) (fun c_79 => ?_)
    · have c_79 : mpV M k = x := c_79
      refine Z_iload dX12_map_85 rfl (pc' := 87) rfl ?_
      cases t with
      | none =>
        obtain rfl : a = 0 := hs.1.mpr rfl
        refine Z_if_ne dX12_map_87 (tgt := 98) rfl (pc' := 90) rfl (fun c_87 => absurd c_87 (fun q => q rfl)) (fun c_87 => ?_)
        refine Z_bipush dX12_map_90 (v := 100) (by decide) (pc' := 92) rfl ?_
        refine Z_iload dX12_map_92 rfl (pc' := 94) rfl ?_
        refine Z_iadd dX12_map_94 (pc' := 95) rfl ?_
        refine Z_goto dX12_map_95 (tgt := 100) rfl ?_
        rw [show (100 : Int32) + nI k = nI (100 + k) from by rw [show (100 : Int32) = nI 100 from rfl, nI_add]]
        refine Z_istore dX12_map_100 (Nat.le_of_ble_eq_true rfl) (Nat.le_of_ble_eq_true rfl) rfl (ls' := [_, _, _, _, _, _, _]) rfl (pc' := 102) rfl ?_
        refine Z_iinc dX12_map_102 rfl (nI_inc 0) (Nat.le_of_ble_eq_true rfl) rfl (ls' := [_, _, _, _, _, _, _]) rfl (pc' := 105) rfl ?_
        refine Z_iinc dX12_map_105 rfl (nI_inc k) (Nat.le_of_ble_eq_true rfl) rfl (ls' := [_, _, _, _, _, _, _]) rfl (pc' := 108) rfl ?_
        refine Z_goto dX12_map_108 (tgt := 42) rfl ?_
        refine Z_take 7 (ls' := [_, _, _, _, _, _, _]) rfl ?_
        rw [mpS_n c_79] at hT
        exact ih (k + 1) (0 + 1, some (100 + k)) S2 (by omega) f3 (mpI_n (by omega) hs) (by show 0 + 1 ≤ k + 1; omega) hT
      | some y =>
        refine Z_if_ne dX12_map_87 (tgt := 98) rfl (pc' := 90) rfl (fun c_87 => ?_) (fun c_87 => absurd c_87 (fun q => by have e := (nI_eqn (b := 0) (by have : a ≤ k := hsl; omega) (by decide)).mp q; have := hs.1.mp e; cases this))
        refine Z_iload dX12_map_98 rfl (pc' := 100) rfl ?_
        refine Z_istore dX12_map_100 (Nat.le_of_ble_eq_true rfl) (Nat.le_of_ble_eq_true rfl) rfl (ls' := [_, _, _, _, _, _, _]) rfl (pc' := 102) rfl ?_
        refine Z_iinc dX12_map_102 rfl (nI_inc a) (Nat.le_of_ble_eq_true rfl) rfl (ls' := [_, _, _, _, _, _, _]) rfl (pc' := 105) rfl ?_
        refine Z_iinc dX12_map_105 rfl (nI_inc k) (Nat.le_of_ble_eq_true rfl) rfl (ls' := [_, _, _, _, _, _, _]) rfl (pc' := 108) rfl ?_
        refine Z_goto dX12_map_108 (tgt := 42) rfl ?_
        refine Z_take 7 (ls' := [_, _, _, _, _, _, _]) rfl ?_
        rw [mpS_s c_79] at hT
        exact ih (k + 1) (a + 1, some y) S2 (by omega) f3 (mpI_s hs) (by show a + 1 ≤ k + 1; have : a ≤ k := hsl; omega) hT
    · have c_79n : ¬ mpV M k = x := c_79
      refine Z_goto dX12_map_82 (tgt := 105) rfl ?_
      refine Z_iinc dX12_map_105 rfl (nI_inc k) (Nat.le_of_ble_eq_true rfl) rfl (ls' := [_, _, _, _, _, _, _]) rfl (pc' := 108) rfl ?_
      refine Z_goto dX12_map_108 (tgt := 42) rfl ?_
      refine Z_take 7 (ls' := [_, _, _, _, _, _, _]) rfl ?_
      rw [mpS_f c_79n] at hT
      exact ih (k + 1) (a, t) S2 (by omega) f3 hs (by have : a ≤ k := hsl; show a ≤ k + 1; omega) hT
set_option maxRecDepth 100000 in
set_option maxHeartbeats 4000000 in
theorem lp_X12_map_111 {S S2 : ZS} {n : Nat} {M : Ms} (hI : MI S M) {a b0 : Int32} (hb : ¬ (b0 < 0 ∨ 1 < b0)) (ha : ¬ a < 0) (f2 : sft S S2) {z : Int32} : Z m_X12_map 0 0 (qR S n (spMap M a b0)) 111 [some (.ref 25), some (.int a), some (.int b0), some (.int (nI (ctd (mc M)))), some (.int (nI (mpF (mpV M) a 900 0 (0, none)).1)), some (.int (oI (mpF (mpV M) a 900 0 (0, none)).2)), some (.int z)] [] (zw S2 n) := by
  refine Z_aload_n dX12_map_111 rfl (z_isref _) (pc' := 112) rfl ?_
  refine Z_iload_n dX12_map_112 rfl (pc' := 113) rfl ?_
  refine Z_pI dX12_map_113 rfl zpi_RX12_129_25 (pc' := 116) rfl ?_
  refine Z_iload_n dX12_map_116 rfl (pc' := 117) rfl ?_
  refine Z_if_ne dX12_map_117 (tgt := 125) rfl (pc' := 120) rfl (fun c_117 => ?_) (fun c_117 => ?_)
  · refine Z_iload dX12_map_125 rfl (pc' := 127) rfl ?_
    exact Z_ireturn dX12_map_127 rfl rfl (qR.stw hI (f2.bk hI.mv.1.2.2.2) (by unfold spMap; rw [if_neg hb, if_neg ha, if_neg c_117]))
  · refine Z_iload dX12_map_120 rfl (pc' := 122) rfl ?_
    refine Z_goto dX12_map_122 (tgt := 127) rfl ?_
    exact Z_ireturn dX12_map_127 rfl rfl (qR.stw hI (f2.bk hI.mv.1.2.2.2) (by unfold spMap; rw [if_neg hb, if_neg ha, if_pos c_117]))
set_option maxRecDepth 100000 in
set_option maxHeartbeats 4000000 in
theorem c_X12_map {S : ZS} {n : Nat} {M : Ms} (hI : MI S M) {a b0 : Int32} : zM m_X12_map 0 0 [.ref 25, .int a, .int b0] (zw S n) (qR S n (spMap M a b0)) := by
  show Z m_X12_map _ _ _ 0 [some (.ref _), some (.int _), some (.int _)] [] _
  refine Z_iload_n dX12_map_0 rfl (pc' := 1) rfl ?_
  refine Z_iconst dX12_map_1 (v := 0) (by decide) (pc' := 2) rfl ?_
  refine Z_iconst dX12_map_2 (v := 1) (by decide) (pc' := 3) rfl ?_
  refine Z_cSe dX12_map_3 rfl zcw_X12_isIn (As := [_, _, _]) (rest := []) rfl ⟨Nat.le_of_ble_eq_true rfl, Nat.le_of_ble_eq_true rfl⟩ (Nat.le_of_ble_eq_true rfl) ⟨zcw_X12_isIn.2.2.2.2, Nat.le_of_ble_eq_true rfl⟩ zk_RX12_96 c_X12_isIn (pc' := 6) rfl ?_
  rcases in_cases b0 0 1 with ⟨e, h1, h2⟩ | ⟨e, h⟩
  · rw [e]
    have hb := n_or h1 h2
    refine Z_if_ne dX12_map_6 (tgt := 16) rfl (pc' := 9) rfl (fun c_6 => ?_) (fun c_6 => absurd c_6 (by decide))
    refine Z_iload_n dX12_map_16 rfl (pc' := 17) rfl ?_
    refine Z_if_ge dX12_map_17 (tgt := 27) rfl (pc' := 20) rfl (fun c_17 => ?_) (fun c_17 => ?_)
    · refine Z_aload_n dX12_map_27 rfl (z_isref _) (pc' := 28) rfl ?_
      refine Z_gI dX12_map_28 rfl zgi_RX12_129_25 (pc' := 31) rfl ?_
      have ha := i_nlt c_17
      rw [hI.mv.1.2.2.2]
      refine Z_istore_n dX12_map_31 (Nat.le_of_ble_eq_true rfl) (Nat.le_of_ble_eq_true rfl) rfl (ls' := [_, _, _, _]) rfl (pc' := 32) rfl ?_
      refine Z_iconst dX12_map_32 (v := 0) (by decide) (pc' := 33) rfl ?_
      refine Z_istore dX12_map_33 (Nat.le_of_ble_eq_true rfl) (Nat.le_of_ble_eq_true rfl) rfl (ls' := [_, _, _, _, _]) rfl (pc' := 35) rfl ?_
      refine Z_bipush dX12_map_35 (v := (-9)) (by decide) (pc' := 37) rfl ?_
      refine Z_istore dX12_map_37 (Nat.le_of_ble_eq_true rfl) (Nat.le_of_ble_eq_true rfl) rfl (ls' := [_, _, _, _, _, _]) rfl (pc' := 39) rfl ?_
      refine Z_iconst dX12_map_39 (v := 0) (by decide) (pc' := 40) rfl ?_
      refine Z_istore dX12_map_40 (Nat.le_of_ble_eq_true rfl) (Nat.le_of_ble_eq_true rfl) rfl (ls' := [_, _, _, _, _, _, _]) rfl (pc' := 42) rfl ?_
      refine lp_X12_map hI (T := mpF (mpV M) a 900 0 (0, none)) (fun S2 f2 => ?_) 900 0 (0, none) S (by omega) sft.rf mpI_0 (Nat.zero_le _) rfl
      exact lp_X12_map_111 hI hb ha f2
    · refine Z_aload_n dX12_map_20 rfl (z_isref _) (pc' := 21) rfl ?_
      refine Z_bipush dX12_map_21 (v := (-4)) (by decide) (pc' := 23) rfl ?_
      refine Z_cVe dX12_map_23 rfl zcw_X12_no (As := [_]) (rest := []) rfl ⟨Nat.le_of_ble_eq_true rfl, Nat.le_of_ble_eq_true rfl⟩ (Nat.le_of_ble_eq_true rfl) (zRcv.lay zob_25) ⟨zcw_X12_no.2.2.2.2, Nat.le_of_ble_eq_true rfl⟩ zk_RX12_85 (c_X12_no (k := 4) (by decide) (by decide)) (pc' := 26) rfl ?_
      exact Z_ireturn dX12_map_26 rfl rfl (qR.no hI sfr.rf (by decide) (by unfold spMap; rw [if_neg hb, if_pos (i_lt c_17)]))
  · rw [e]
    refine Z_if_ne dX12_map_6 (tgt := 16) rfl (pc' := 9) rfl (fun c_6 => absurd c_6 (fun q => q rfl)) (fun c_6 => ?_)
    refine Z_aload_n dX12_map_9 rfl (z_isref _) (pc' := 10) rfl ?_
    refine Z_bipush dX12_map_10 (v := (-2)) (by decide) (pc' := 12) rfl ?_
    refine Z_cVe dX12_map_12 rfl zcw_X12_no (As := [_]) (rest := []) rfl ⟨Nat.le_of_ble_eq_true rfl, Nat.le_of_ble_eq_true rfl⟩ (Nat.le_of_ble_eq_true rfl) (zRcv.lay zob_25) ⟨zcw_X12_no.2.2.2.2, Nat.le_of_ble_eq_true rfl⟩ zk_RX12_85 (c_X12_no (k := 2) (by decide) (by decide)) (pc' := 15) rfl ?_
    exact Z_ireturn dX12_map_15 rfl rfl (qR.no hI sfr.rf (by decide) (by unfold spMap; rw [if_pos h]))
set_option maxRecDepth 100000 in
set_option maxHeartbeats 4000000 in
theorem lp_X12_seeds {S0 : ZS} {n : Nat} {M : Ms} (hI : MI S0 M) {R : Option Value → ZW → Prop} {q : Nat} {y x z0 T : Int32} (hq : q ≤ 60) (hK : ∀ S, sft S0 S → Z m_X12_seeds 0 0 R 88 [some (.ref 25), some (.int (nI q)), some (.int y), some (.int x), some (.int z0), some (.int T), some (.int (nI q))] [] (zw S n)) : ∀ (m k : Nat) (z a : Int32) (S : ZS), k + m = q → sft S0 S → S.1 25 36 = z → sdF (mc M) m (z, a) = T → Z m_X12_seeds 0 0 R 35 [some (.ref 25), some (.int (nI q)), some (.int y), some (.int x), some (.int z0), some (.int a), some (.int (nI k))] [] (zw S n) := by
  intro m
  induction m with
  | zero =>
    intro k z a S h f hz hT
    obtain rfl : k = q := by omega
    obtain rfl : a = T := hT
    refine Z_iload dX12_seeds_35 rfl (pc' := 37) rfl ?_
    refine Z_iload_n dX12_seeds_37 rfl (pc' := 38) rfl ?_
    refine Z_icmp_ge dX12_seeds_38 (tgt := 88) rfl (pc' := 41) rfl (fun c_38 => ?_) (fun c_38 => absurd c_38 (fun c => c ((nI_len (by omega) (by omega)).mpr (Nat.le_refl _))))
    exact hK S f
  | succ m ih =>
    intro k z a S h f hz hT
    rw [sdF_s] at hT
    have h10 := drN_lt (k := 10) (by decide) (lt1 (lt1 (lt1 z)))
    have h10b := drN_lt (k := 10) (by decide) (lt1 (lt1 z))
    refine Z_iload dX12_seeds_35 rfl (pc' := 37) rfl ?_
    refine Z_iload_n dX12_seeds_37 rfl (pc' := 38) rfl ?_
    refine Z_icmp_ge dX12_seeds_38 (tgt := 88) rfl (pc' := 41) rfl (fun c_38 => absurd c_38 (by rw [nI_len (by omega) (by omega)]; omega)) (fun c_38 => ?_)
    refine Z_iconst dX12_seeds_41 (v := 1) (by decide) (pc' := 42) rfl ?_
    refine Z_aload_n dX12_seeds_42 rfl (z_isref _) (pc' := 43) rfl ?_
    refine Z_bipush dX12_seeds_43 (v := 9) (by decide) (pc' := 45) rfl ?_
    refine Z_cVe dX12_seeds_45 rfl zcw_X12_draw (As := [_]) (rest := [_]) rfl ⟨Nat.le_of_ble_eq_true rfl, Nat.le_of_ble_eq_true rfl⟩ (Nat.le_of_ble_eq_true rfl) (zRcv.lay zob_25) ⟨zcw_X12_draw.2.2.2.2, Nat.le_of_ble_eq_true rfl⟩ zk_RX12_243 (c_X12_draw (k := 9) (by decide) (by decide)) (pc' := 48) rfl ?_
    rw [hz]
    have f1 := (sft_sA f (a := 25) (k := 36) (lt1 z) (by rfl))
    have e1 : (sA S 25 36 (lt1 z)).1 25 36 = lt1 z := sA_eq ..
    generalize sA S 25 36 (lt1 z) = S1 at f1 e1 ⊢
    refine Z_iadd dX12_seeds_48 (pc' := 49) rfl ?_
    refine Z_istore dX12_seeds_49 (Nat.le_of_ble_eq_true rfl) (Nat.le_of_ble_eq_true rfl) rfl (ls' := [_, _, _, _, _, _, _, _]) rfl (pc' := 51) rfl ?_
    refine Z_aload_n dX12_seeds_51 rfl (z_isref _) (pc' := 52) rfl ?_
    refine Z_bipush dX12_seeds_52 (v := 10) (by decide) (pc' := 54) rfl ?_
    refine Z_cVe dX12_seeds_54 rfl zcw_X12_draw (As := [_]) (rest := []) rfl ⟨Nat.le_of_ble_eq_true rfl, Nat.le_of_ble_eq_true rfl⟩ (Nat.le_of_ble_eq_true rfl) (zRcv.lay zob_25) ⟨zcw_X12_draw.2.2.2.2, Nat.le_of_ble_eq_true rfl⟩ zk_RX12_243 (c_X12_draw (k := 10) (by decide) (by decide)) (pc' := 57) rfl ?_
    rw [e1]
    have f2 := sft_sA f1 (a := 25) (k := 36) (lt1 (lt1 z)) (by rfl)
    have e2 : (sA S1 25 36 (lt1 (lt1 z))).1 25 36 = lt1 (lt1 z) := sA_eq ..
    generalize sA S1 25 36 (lt1 (lt1 z)) = S2 at f2 e2 ⊢
    refine Z_istore dX12_seeds_57 (Nat.le_of_ble_eq_true rfl) (Nat.le_of_ble_eq_true rfl) rfl (ls' := [_, _, _, _, _, _, _, _, _]) rfl (pc' := 59) rfl ?_
    refine Z_aload_n dX12_seeds_59 rfl (z_isref _) (pc' := 60) rfl ?_
    refine Z_aload_n dX12_seeds_60 rfl (z_isref _) (pc' := 61) rfl ?_
    refine Z_bipush dX12_seeds_61 (v := 10) (by decide) (pc' := 63) rfl ?_
    refine Z_cVe dX12_seeds_63 rfl zcw_X12_draw (As := [_]) (rest := [_]) rfl ⟨Nat.le_of_ble_eq_true rfl, Nat.le_of_ble_eq_true rfl⟩ (Nat.le_of_ble_eq_true rfl) (zRcv.lay zob_25) ⟨zcw_X12_draw.2.2.2.2, Nat.le_of_ble_eq_true rfl⟩ zk_RX12_243 (c_X12_draw (k := 10) (by decide) (by decide)) (pc' := 66) rfl ?_
    rw [e2]
    have f3 := sft_sA f2 (a := 25) (k := 36) (lt1 (lt1 (lt1 z))) (by rfl)
    have e3 : (sA S2 25 36 (lt1 (lt1 (lt1 z)))).1 25 36 = lt1 (lt1 (lt1 z)) := sA_eq ..
    generalize sA S2 25 36 (lt1 (lt1 (lt1 z))) = S3 at f3 e3 ⊢
    refine Z_pI dX12_seeds_66 rfl zpi_RX12_129_25 (pc' := 69) rfl ?_
    have f4 := f3.put (nI (drN 10 (lt1 (lt1 (lt1 z)))))
    have e4 : (sA S3 25 15 (nI (drN 10 (lt1 (lt1 (lt1 z)))))).1 25 36 = lt1 (lt1 (lt1 z)) := by rw [sA_nk _ _ (by decide)]; exact e3
    refine Z_iload dX12_seeds_69 rfl (pc' := 71) rfl ?_
    refine Z_aload_n dX12_seeds_71 rfl (z_isref _) (pc' := 72) rfl ?_
    refine Z_iload dX12_seeds_72 rfl (pc' := 74) rfl ?_
    refine Z_iload dX12_seeds_74 rfl (pc' := 76) rfl ?_
    refine Z_cV dX12_seeds_76 rfl zcw_X12_miles (As := [_, _]) (rest := [_]) rfl ⟨Nat.le_of_ble_eq_true rfl, Nat.le_of_ble_eq_true rfl⟩ (Nat.le_of_ble_eq_true rfl) (zRcv.lay zob_25) ⟨zcw_X12_miles.2.2.2.2, Nat.le_of_ble_eq_true rfl⟩ zk_RX12_192 (c_X12_milesT hI.mv hI.ok f4 (by omega) (sA_eq ..) (by omega)) (pc' := 79) rfl (fun r_76 w_76 h_76 => ?_)
    obtain ⟨rfl, S5, rfl, f5, _, _⟩ := h_76
    show Z _ _ _ _ _ _ (_ :: [_]) _
    refine Z_iadd dX12_seeds_79 (pc' := 80) rfl ?_
    refine Z_istore dX12_seeds_80 (Nat.le_of_ble_eq_true rfl) (Nat.le_of_ble_eq_true rfl) rfl (ls' := [_, _, _, _, _, _, _, _, _]) rfl (pc' := 82) rfl ?_
    refine Z_iinc dX12_seeds_82 rfl (nI_inc k) (Nat.le_of_ble_eq_true rfl) rfl (ls' := [_, _, _, _, _, _, _, _, _]) rfl (pc' := 85) rfl ?_
    refine Z_goto dX12_seeds_85 (tgt := 35) rfl ?_
    refine Z_take 7 (ls' := [_, _, _, _, _, _, _]) rfl ?_
    exact ih (k + 1) _ _ S5 (by omega) (f4.tr f5) ((f5.2 25 36 rfl).trans e4) hT
set_option maxRecDepth 100000 in
set_option maxHeartbeats 4000000 in
theorem lp_X12_seeds_88 {S S2 : ZS} {n q : Nat} {M : Ms} (hI : MI S M) {z : Int32} (h1 : ¬ nI q < 1) (h2 : ¬ 60 < nI q) (hq : q < 100) (f2 : sft S S2) {u v x : Int32} : Z m_X12_seeds 0 0 (qR S n (spSeeds M (nI q) z)) 88 [some (.ref 25), some (.int u), some (.int v), some (.int x), some (.int (nI (ctd (mc M)))), some (.int (sdF (mc M) q (z, 0))), some (.int u)] [] (zw S2 n) := by
  refine Z_aload_n dX12_seeds_88 rfl (z_isref _) (pc' := 89) rfl ?_
  refine Z_iload dX12_seeds_89 rfl (pc' := 91) rfl ?_
  refine Z_pI dX12_seeds_91 rfl zpi_RX12_129_25 (pc' := 94) rfl ?_
  refine Z_iload dX12_seeds_94 rfl (pc' := 96) rfl ?_
  exact Z_ireturn dX12_seeds_96 rfl rfl (qR.stw hI (f2.bk hI.mv.1.2.2.2) (by unfold spSeeds; rw [if_neg h1, if_neg h2, nI_nat (by omega)]))
set_option maxRecDepth 100000 in
set_option maxHeartbeats 4000000 in
theorem c_X12_seeds {S : ZS} {n : Nat} {M : Ms} (hI : MI S M) {a z : Int32} : zM m_X12_seeds 0 0 [.ref 25, .int a, .int z] (zw S n) (qR S n (spSeeds M a z)) := by
  show Z m_X12_seeds _ _ _ 0 [some (.ref _), some (.int _), some (.int _)] [] _
  refine Z_iload_n dX12_seeds_0 rfl (pc' := 1) rfl ?_
  refine Z_iconst dX12_seeds_1 (v := 1) (by decide) (pc' := 2) rfl ?_
  refine Z_bipush dX12_seeds_2 (v := 60) (by decide) (pc' := 4) rfl ?_
  refine Z_cSe dX12_seeds_4 rfl zcw_X12_bound (As := [_, _, _]) (rest := []) rfl ⟨Nat.le_of_ble_eq_true rfl, Nat.le_of_ble_eq_true rfl⟩ (Nat.le_of_ble_eq_true rfl) ⟨zcw_X12_bound.2.2.2.2, Nat.le_of_ble_eq_true rfl⟩ zk_RX12_77 c_X12_bound (pc' := 7) rfl ?_
  rcases bo_cases a 1 60 with ⟨e, h1⟩ | ⟨e, h1, h2⟩ | ⟨e, h1, h2⟩
  · rw [e]
    refine Z_istore_n dX12_seeds_7 (Nat.le_of_ble_eq_true rfl) (Nat.le_of_ble_eq_true rfl) rfl (ls' := [_, _, _, _]) rfl (pc' := 8) rfl ?_
    refine Z_iload_n dX12_seeds_8 rfl (pc' := 9) rfl ?_
    refine Z_if_eq dX12_seeds_9 (tgt := 18) rfl (pc' := 12) rfl (fun c_9 => absurd c_9 (by decide)) (fun c_9 => ?_)
    refine Z_aload_n dX12_seeds_12 rfl (z_isref _) (pc' := 13) rfl ?_
    refine Z_iload_n dX12_seeds_13 rfl (pc' := 14) rfl ?_
    refine Z_cVe dX12_seeds_14 rfl zcw_X12_no (As := [_]) (rest := []) rfl ⟨Nat.le_of_ble_eq_true rfl, Nat.le_of_ble_eq_true rfl⟩ (Nat.le_of_ble_eq_true rfl) (zRcv.lay zob_25) ⟨zcw_X12_no.2.2.2.2, Nat.le_of_ble_eq_true rfl⟩ zk_RX12_85 (c_X12_no (k := 4) (by decide) (by decide)) (pc' := 17) rfl ?_
    exact Z_ireturn dX12_seeds_17 rfl rfl (qR.no hI sfr.rf (by decide) (by unfold spSeeds; rw [if_pos h1]))
  · rw [e]
    refine Z_istore_n dX12_seeds_7 (Nat.le_of_ble_eq_true rfl) (Nat.le_of_ble_eq_true rfl) rfl (ls' := [_, _, _, _]) rfl (pc' := 8) rfl ?_
    refine Z_iload_n dX12_seeds_8 rfl (pc' := 9) rfl ?_
    refine Z_if_eq dX12_seeds_9 (tgt := 18) rfl (pc' := 12) rfl (fun c_9 => absurd c_9 (by decide)) (fun c_9 => ?_)
    refine Z_aload_n dX12_seeds_12 rfl (z_isref _) (pc' := 13) rfl ?_
    refine Z_iload_n dX12_seeds_13 rfl (pc' := 14) rfl ?_
    refine Z_cVe dX12_seeds_14 rfl zcw_X12_no (As := [_]) (rest := []) rfl ⟨Nat.le_of_ble_eq_true rfl, Nat.le_of_ble_eq_true rfl⟩ (Nat.le_of_ble_eq_true rfl) (zRcv.lay zob_25) ⟨zcw_X12_no.2.2.2.2, Nat.le_of_ble_eq_true rfl⟩ zk_RX12_85 (c_X12_no (k := 6) (by decide) (by decide)) (pc' := 17) rfl ?_
    exact Z_ireturn dX12_seeds_17 rfl rfl (qR.no hI sfr.rf (by decide) (by unfold spSeeds; rw [if_neg h1, if_pos h2]))
  · rw [e]
    obtain ⟨q, hq, rfl⟩ := i_rng (a := a) (m := 60) (by decide) (fun h => h1 (Int32.lt_trans h (by decide))) h2
    refine Z_istore_n dX12_seeds_7 (Nat.le_of_ble_eq_true rfl) (Nat.le_of_ble_eq_true rfl) rfl (ls' := [_, _, _, _]) rfl (pc' := 8) rfl ?_
    refine Z_iload_n dX12_seeds_8 rfl (pc' := 9) rfl ?_
    refine Z_if_eq dX12_seeds_9 (tgt := 18) rfl (pc' := 12) rfl (fun c_9 => ?_) (fun c_9 => absurd c_9 (fun q => q rfl))
    refine Z_aload_n dX12_seeds_18 rfl (z_isref _) (pc' := 19) rfl ?_
    refine Z_gI dX12_seeds_19 rfl zgi_RX12_129_25 (pc' := 22) rfl ?_
    rw [hI.mv.1.2.2.2]
    refine Z_istore dX12_seeds_22 (Nat.le_of_ble_eq_true rfl) (Nat.le_of_ble_eq_true rfl) rfl (ls' := [_, _, _, _, _]) rfl (pc' := 24) rfl ?_
    refine Z_aload_n dX12_seeds_24 rfl (z_isref _) (pc' := 25) rfl ?_
    refine Z_iload_n dX12_seeds_25 rfl (pc' := 26) rfl ?_
    refine Z_pI dX12_seeds_26 rfl zpi_RX12_237_25 (pc' := 29) rfl ?_
    refine Z_iconst dX12_seeds_29 (v := 0) (by decide) (pc' := 30) rfl ?_
    refine Z_istore dX12_seeds_30 (Nat.le_of_ble_eq_true rfl) (Nat.le_of_ble_eq_true rfl) rfl (ls' := [_, _, _, _, _, _]) rfl (pc' := 32) rfl ?_
    refine Z_iconst dX12_seeds_32 (v := 0) (by decide) (pc' := 33) rfl ?_
    refine Z_istore dX12_seeds_33 (Nat.le_of_ble_eq_true rfl) (Nat.le_of_ble_eq_true rfl) rfl (ls' := [_, _, _, _, _, _, _]) rfl (pc' := 35) rfl ?_
    refine lp_X12_seeds hI hq (T := sdF (mc M) q (z, 0)) (fun S2 f2 => ?_) q 0 z 0 _ (by omega) (sft_sA sft.rf _ (by rfl)) (sA_eq ..) rfl
    exact lp_X12_seeds_88 hI h1 h2 (by omega) f2
