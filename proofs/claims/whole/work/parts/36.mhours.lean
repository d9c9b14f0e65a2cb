set_option maxRecDepth 100000 in
theorem nI_bt31 : ∀ h, h < 1024 → ∀ k, k < 31 → (nI h >>> (nI k &&& 31)) &&& 1 = nI (if h.testBit k then 1 else 0) := by decide +kernel
theorem bc_31 {x : Nat} (hx : x < 1024) : zct (fun k => x.testBit k) 31 = bc x := by
  unfold bc
  refine zct_off _ 10 21 fun i _ => ?_
  refine Nat.testBit_lt_two_pow (Nat.lt_of_lt_of_le hx ?_)
  show 2 ^ 10 ≤ 2 ^ (10 + i)
  exact Nat.pow_le_pow_right (by decide) (Nat.le_add_right 10 i)
theorem bit_eq1 {b : Bool} : nI (if b then 1 else 0) = 1 ↔ b = true := by cases b <;> decide
/-- is one rock seen at one of the first t tides of h -/
def as1 (c : Co) (h r : Nat) : Nat → Bool
  | 0 => false
  | t + 1 => as1 c h r t || (h.testBit t && islB c t r)
def asA (c : Co) (h : Nat) : Nat → Bool
  | 0 => true
  | r + 1 => asA c h r && as1 c h r 10
theorem as1_se (c : Co) (h r : Nat) : ∀ t, seB c h t r = as1 c h r t
  | 0 => rfl
  | t + 1 => by rw [seB, as1, as1_se c h r t]
theorem as1_lt {c : Co} {h r : Nat} : ∀ {t}, as1 c h r t = true → r < cnr c
  | 0, e => by cases e
  | t + 1, e => by
    unfold as1 at e
    rcases Bool.or_eq_true_iff.mp e with q | q
    · exact as1_lt q
    · have := (Bool.and_eq_true_iff.mp q).2
      unfold islB at this
      exact of_decide_eq_true (Bool.and_eq_true_iff.mp this).1
theorem asA_all {c : Co} {h : Nat} : ∀ {n}, asA c h n = true ↔ ∀ r, r < n → as1 c h r 10 = true
  | 0 => ⟨fun _ r hr => absurd hr (Nat.not_lt_zero r), fun _ => rfl⟩
  | n + 1 => by
    unfold asA
    rw [Bool.and_eq_true, asA_all (n := n)]
    constructor
    · rintro ⟨h1, h2⟩ r hr
      rcases Nat.lt_succ_iff_lt_or_eq.mp hr with q | q
      · exact h1 r q
      · rw [q]; exact h2
    · intro hh
      exact ⟨fun r hr => hh r (Nat.lt_succ_of_lt hr), hh n (Nat.lt_succ_self n)⟩
theorem zct_full (f : Nat → Bool) : ∀ n, zct f n = n ↔ ∀ k, k < n → f k = true
  | 0 => ⟨fun _ k hk => absurd hk (Nat.not_lt_zero k), fun _ => rfl⟩
  | n + 1 => by
    have hle := zct_le f n
    have ih := zct_full f n
    rw [zct]
    constructor
    · intro e
      have hn : f n = true := by
        cases q : f n
        · rw [q, if_neg (by decide)] at e; omega
        · rfl
      rw [hn, if_pos rfl] at e
      intro k hk
      rcases Nat.lt_succ_iff_lt_or_eq.mp hk with q | q
      · exact ih.mp (by omega) k q
      · rw [q]; exact hn
    · intro hh
      rw [ih.mpr fun k hk => hh k (Nat.lt_succ_of_lt hk), hh n (Nat.lt_succ_self n), if_pos rfl]
theorem shA_eq {c : Co} (ok : Cok c) (h : Nat) : shA c h = asA c h (cnr c) := by
  have h6 := ok.2.2.1
  have hf : ∀ k, cnr c ≤ k → seB c h 10 k = false := fun k hk => by
    rw [as1_se]
    cases e : as1 c h k 10
    · rfl
    · have := as1_lt e; omega
  have e1 : bc (znb (seB c h 10) 6) = zct (seB c h 10) (cnr c) := by
    unfold bc
    have h10 := zct_off (fun k => (znb (seB c h 10) 6).testBit k) (cnr c) (10 - cnr c) (fun i _ => by rw [znb_bit, hf _ (by omega), Bool.and_false])
    rw [show cnr c + (10 - cnr c) = 10 by omega] at h10
    rw [h10]
    refine zct_cong _ fun k hk => ?_
    have : k < 6 := by omega
    rw [znb_bit, decide_eq_true this, Bool.true_and]
  unfold shA
  rw [e1, Bool.eq_iff_iff, decide_eq_true_iff, zct_full, asA_all]
  exact ⟨fun hh r hr => by rw [← as1_se]; exact hh r hr, fun hh r hr => by rw [as1_se]; exact hh r hr⟩
/-- from above -/
def mhF (sh : Nat → Bool) : Nat → Nat → Nat
  | 0, x => x
  | m + 1, x => mhF sh m (if bc m ≤ bc x ∧ sh m = true then m else x)
def hrP (sh : Nat → Bool) (p : Nat → Prop) (x : Nat) : Prop := x ≤ 1023 ∧ (x = 1023 ∨ (sh x = true ∧ p x)) ∧ ∀ y, y < 1024 → p y → sh y = true → bc x < bc y ∨ (bc x = bc y ∧ x ≤ y)
set_option maxRecDepth 100000 in
theorem bc_10 : ∀ x, x < 1024 → bc x = 10 → x = 1023 := by decide +kernel
theorem bc_1023 : bc 1023 = 10 := by decide +kernel
theorem fhF_P {sh : Nat → Bool} : ∀ (m s x : Nat), s + m = 1024 → hrP sh (· < s) x → hrP sh (· < 1024) (fhF sh m s x)
  | 0, s, x, h, hp => by
    obtain rfl : s = 1024 := by omega
    exact hp
  | m + 1, s, x, h, hp => by
    obtain ⟨h1, h2, h3⟩ := hp
    unfold fhF
    split
    · rename_i hc
      refine fhF_P m (s + 1) s (by omega) ⟨by omega, Or.inr ⟨hc.2, Nat.lt_succ_self s⟩, fun y hy hys hsy => ?_⟩
      rcases Nat.lt_succ_iff_lt_or_eq.mp hys with q | q
      · rcases h3 y hy q hsy with g | g
        · exact Or.inl (by omega)
        · exact Or.inl (by omega)
      · subst q; exact Or.inr ⟨rfl, Nat.le_refl _⟩
    · rename_i hc
      refine fhF_P m (s + 1) x (by omega) ⟨h1, h2.imp_right fun g => ⟨g.1, Nat.lt_succ_of_lt g.2⟩, fun y hy hys hsy => ?_⟩
      rcases Nat.lt_succ_iff_lt_or_eq.mp hys with q | q
      · exact h3 y hy q hsy
      · subst q
        have h4 : bc x ≤ bc y := Nat.not_lt.mp fun g => hc ⟨g, hsy⟩
        rcases Nat.lt_or_ge (bc x) (bc y) with g | g
        · exact Or.inl g
        · refine Or.inr ⟨by omega, ?_⟩
          rcases h2 with e | e
          · subst e
            have := bc_10 y hy (by have := bc_1023; omega)
            omega
          · exact Nat.le_of_lt e.2
theorem mhF_P {sh : Nat → Bool} : ∀ (m x : Nat), m ≤ 1024 → hrP sh (m ≤ ·) x → hrP sh (0 ≤ ·) (mhF sh m x)
  | 0, x, _, hp => hp
  | m + 1, x, h, hp => by
    obtain ⟨h1, h2, h3⟩ := hp
    unfold mhF
    by_cases hc : bc m ≤ bc x ∧ sh m = true
    · rw [if_pos hc]
      refine mhF_P m m (by omega) ⟨by omega, Or.inr ⟨hc.2, Nat.le_refl _⟩, fun y hy hys hsy => ?_⟩
      rcases Nat.eq_or_lt_of_le hys with q | q
      · subst q; exact Or.inr ⟨rfl, Nat.le_refl _⟩
      · rcases h3 y hy q hsy with g | g
        · exact Or.inl (by omega)
        · rcases Nat.lt_or_ge (bc m) (bc y) with g2 | g2
          · exact Or.inl g2
          · exact Or.inr ⟨by omega, by omega⟩
    · rw [if_neg hc]
      refine mhF_P m x (by omega) ⟨h1, h2.imp_right fun g => ⟨g.1, by have := g.2; omega⟩, fun y hy hys hsy => ?_⟩
      rcases Nat.eq_or_lt_of_le hys with q | q
      · subst q; exact Or.inl (Nat.not_le.mp fun g => hc ⟨g, hsy⟩)
      · exact h3 y hy q hsy
theorem hours_eq (sh : Nat → Bool) : fhF sh 1024 0 1023 = mhF sh 1024 1023 := by
  have p1 := fhF_P (sh := sh) 1024 0 1023 rfl ⟨Nat.le_refl _, Or.inl rfl, fun y _ h => absurd h (Nat.not_lt_zero y)⟩
  have p2 := mhF_P (sh := sh) 1024 1023 (Nat.le_refl _) ⟨Nat.le_refl _, Or.inl rfl, fun y h1 h2 => absurd h1 (Nat.not_lt.mpr h2)⟩
  generalize fhF sh 1024 0 1023 = a at p1 ⊢
  generalize mhF sh 1024 1023 = b at p2 ⊢
  obtain ⟨a1, a2, a3⟩ := p1
  obtain ⟨b1, b2, b3⟩ := p2
  have key : ∀ u v, u ≤ 1023 → (v = 1023 ∨ sh v = true) → (∀ y, y < 1024 → sh y = true → bc u < bc y ∨ (bc u = bc y ∧ u ≤ y)) → v ≤ 1023 → bc u < bc v ∨ (bc u = bc v ∧ u ≤ v) := by
    intro u v hu hv h hv2
    rcases hv with e | e
    · subst e
      have hle : bc u ≤ 10 := bc_le u
      have h10 := bc_1023
      rcases Nat.lt_or_ge (bc u) 10 with g | g
      · exact Or.inl (by omega)
      · exact Or.inr ⟨by omega, hu⟩
    · exact h v (by omega) e
  have k1 := key a b a1 (b2.imp_right (·.1)) (fun y hy hs => a3 y hy hy hs) b1
  have k2 := key b a b1 (a2.imp_right (·.1)) (fun y hy hs => b3 y hy (Nat.zero_le y) hs) a1
  omega
set_option maxRecDepth 100000 in
set_option maxHeartbeats 4000000 in
theorem lp_X12_bits {h : Nat} (hh : h < 1024) {ω : ZW} {R : Option Value → ZW → Prop} (hR : R (some (.int (nI (bc h)))) ω) : ∀ (m k : Nat), k + m = 31 → Z m_X12_bits 0 0 R 4 [some (.int (nI h)), some (.int (nI (zct (fun k => h.testBit k) k))), some (.int (nI k))] [] ω := by
  intro m
  induction m with
  | zero =>
    intro k hk
    obtain rfl : k = 31 := by omega
    refine Z_iload_n dX12_bits_4 rfl (pc' := 5) rfl ?_
    refine Z_bipush dX12_bits_5 (v := 31) (by decide) (pc' := 7) rfl ?_
    refine Z_icmp_ge dX12_bits_7 (tgt := 24) rfl (pc' := 10) rfl (fun c_7 => ?_) (fun c_7 => absurd c_7 (fun c => c (by decide)))
    refine Z_iload_n dX12_bits_24 rfl (pc' := 25) rfl ?_
    exact Z_ireturn dX12_bits_25 rfl rfl (by rw [bc_31 hh]; exact hR)
  | succ m ih =>
    intro k hk
    refine Z_iload_n dX12_bits_4 rfl (pc' := 5) rfl ?_
    refine Z_bipush dX12_bits_5 (v := 31) (by decide) (pc' := 7) rfl ?_
    refine Z_icmp_ge dX12_bits_7 (tgt := 24) rfl (pc' := 10) rfl (fun c_7 => absurd c_7 (by rw [show (31 : Int32) = nI 31 from rfl, nI_len (by decide) (by omega)]; omega)) (fun c_7 => ?_)
    refine Z_iload_n dX12_bits_10 rfl (pc' := 11) rfl ?_
    refine Z_iload_n dX12_bits_11 rfl (pc' := 12) rfl ?_
    refine Z_iload_n dX12_bits_12 rfl (pc' := 13) rfl ?_
    refine Z_ishr dX12_bits_13 (pc' := 14) rfl ?_
    refine Z_iconst dX12_bits_14 (v := 1) (by decide) (pc' := 15) rfl ?_
    refine Z_iand dX12_bits_15 (pc' := 16) rfl ?_
    rw [nI_bt31 h hh k (by omega)]
    refine Z_iadd dX12_bits_16 (pc' := 17) rfl ?_
    rw [nI_add, show zct (fun k => h.testBit k) k + (if h.testBit k then 1 else 0) = zct (fun k => h.testBit k) (k + 1) from rfl]
    refine Z_istore_n dX12_bits_17 (Nat.le_of_ble_eq_true rfl) (Nat.le_of_ble_eq_true rfl) rfl (ls' := [_, _, _]) rfl (pc' := 18) rfl ?_
    refine Z_iinc dX12_bits_18 rfl (nI_inc k) (Nat.le_of_ble_eq_true rfl) rfl (ls' := [_, _, _]) rfl (pc' := 21) rfl ?_
    refine Z_goto dX12_bits_21 (tgt := 4) rfl ?_
    exact ih (k + 1) (by omega)
set_option maxRecDepth 100000 in
set_option maxHeartbeats 4000000 in
theorem c_X12_bits {h : Nat} (hh : h < 1024) {ω : ZW} : zM m_X12_bits 0 0 [.int (nI h)] ω (zE (some (.int (nI (bc h)))) ω) := by
  show Z m_X12_bits _ _ _ 0 [some (.int _)] [] _
  refine Z_iconst dX12_bits_0 (v := 0) (by decide) (pc' := 1) rfl ?_
  refine Z_istore_n dX12_bits_1 (Nat.le_of_ble_eq_true rfl) (Nat.le_of_ble_eq_true rfl) rfl (ls' := [_, _]) rfl (pc' := 2) rfl ?_
  refine Z_iconst dX12_bits_2 (v := 0) (by decide) (pc' := 3) rfl ?_
  refine Z_istore_n dX12_bits_3 (Nat.le_of_ble_eq_true rfl) (Nat.le_of_ble_eq_true rfl) rfl (ls' := [_, _, _]) rfl (pc' := 4) rfl ?_
  exact lp_X12_bits hh ⟨rfl, rfl⟩ 31 0 rfl
set_option maxRecDepth 100000 in
set_option maxHeartbeats 4000000 in
theorem lp_X12_seen1 {S : ZS} {n : Nat} {c : Co} (hV : mV S c) (ok : Cok c) {h : Nat} (hh : h < 1024) {R : Option Value → ZW → Prop} {r : Nat} (hr : r < cnr c) (hK : Z m_X12_areSeen 0 0 R 58 [some (.ref 25), some (.int (nI h)), some (.int (nI r)), some (.int (zb (as1 c h r 10))), some (.int (nI 10))] [] (zw S n)) : ∀ (m t : Nat), t + m = 10 → Z m_X12_areSeen 0 0 R 15 [some (.ref 25), some (.int (nI h)), some (.int (nI r)), some (.int (zb (as1 c h r t))), some (.int (nI t))] [] (zw S n) := by
  intro m
  induction m with
  | zero =>
    intro t ht
    obtain rfl : t = 10 := by omega
    refine Z_iload dX12_areSeen_15 rfl (pc' := 17) rfl ?_
    refine Z_bipush dX12_areSeen_17 (v := 10) (by decide) (pc' := 19) rfl ?_
    refine Z_icmp_ge dX12_areSeen_19 (tgt := 58) rfl (pc' := 22) rfl (fun c_19 => ?_) (fun c_19 => absurd c_19 (fun c => c (by decide)))
    exact hK
  | succ m ih =>
    intro t ht
    refine Z_iload dX12_areSeen_15 rfl (pc' := 17) rfl ?_
    refine Z_bipush dX12_areSeen_17 (v := 10) (by decide) (pc' := 19) rfl ?_
    refine Z_icmp_ge dX12_areSeen_19 (tgt := 58) rfl (pc' := 22) rfl (fun c_19 => absurd c_19 (by rw [show (10 : Int32) = nI 10 from rfl, nI_len (by decide) (by omega)]; omega)) (fun c_19 => ?_)
    refine Z_iload_n dX12_areSeen_22 rfl (pc' := 23) rfl ?_
    refine Z_if_ne dX12_areSeen_23 (tgt := 46) rfl (pc' := 26) rfl (fun c_23 => ?_) (fun c_23 => ?_)
    · refine Z_iconst dX12_areSeen_46 (v := 1) (by decide) (pc' := 47) rfl ?_
      refine Z_goto dX12_areSeen_47 (tgt := 51) rfl ?_
      first | rw [show (1 : Int32) = zb (as1 c h r (t + 1)) from by rw [as1, (zb_ne0 _).mp c_23]; rfl] | rw [show (1 : Int32) = zb (as1 c h r (t + 1)) from by rw [as1, bit_eq1.mp c_33, (zb_ne0 _).mp c_43]; simp; rfl] | rw [show (0 : Int32) = zb (as1 c h r (t + 1)) from by rw [as1, (zb_eq0 _).mp c_23, (zb_eq0 _).mp c_43]; simp; rfl] | rw [show (0 : Int32) = zb (as1 c h r (t + 1)) from by rw [as1, (zb_eq0 _).mp c_23, Bool.eq_false_iff.mpr (fun q => c_33 (bit_eq1.mpr q))]; rfl]
      refine Z_istore_n dX12_areSeen_51 (Nat.le_of_ble_eq_true rfl) (Nat.le_of_ble_eq_true rfl) rfl (ls' := [_, _, _, _, _]) rfl (pc' := 52) rfl ?_
      refine Z_iinc dX12_areSeen_52 rfl (nI_inc t) (Nat.le_of_ble_eq_true rfl) rfl (ls' := [_, _, _, _, _]) rfl (pc' := 55) rfl ?_
      refine Z_goto dX12_areSeen_55 (tgt := 15) rfl ?_
      exact ih (t + 1) (by omega)
    · refine Z_iload_n dX12_areSeen_26 rfl (pc' := 27) rfl ?_
      refine Z_iload dX12_areSeen_27 rfl (pc' := 29) rfl ?_
      refine Z_ishr dX12_areSeen_29 (pc' := 30) rfl ?_
      refine Z_iconst dX12_areSeen_30 (v := 1) (by decide) (pc' := 31) rfl ?_
      refine Z_iand dX12_areSeen_31 (pc' := 32) rfl ?_
      rw [nI_bt31 h hh t (by omega)]
      refine Z_iconst dX12_areSeen_32 (v := 1) (by decide) (pc' := 33) rfl ?_
      refine Z_icmp_ne dX12_areSeen_33 (tgt := 50) rfl (pc' := 36) rfl (fun c_33 => ?_) (fun c_33 => ?_)
      · refine Z_iconst dX12_areSeen_50 (v := 0) (by decide) (pc' := 51) rfl ?_
        first | rw [show (1 : Int32) = zb (as1 c h r (t + 1)) from by rw [as1, (zb_ne0 _).mp c_23]; rfl] | rw [show (1 : Int32) = zb (as1 c h r (t + 1)) from by rw [as1, bit_eq1.mp c_33, (zb_ne0 _).mp c_43]; simp; rfl] | rw [show (0 : Int32) = zb (as1 c h r (t + 1)) from by rw [as1, (zb_eq0 _).mp c_23, (zb_eq0 _).mp c_43]; simp; rfl] | rw [show (0 : Int32) = zb (as1 c h r (t + 1)) from by rw [as1, (zb_eq0 _).mp c_23, Bool.eq_false_iff.mpr (fun q => c_33 (bit_eq1.mpr q))]; rfl]
        refine Z_istore_n dX12_areSeen_51 (Nat.le_of_ble_eq_true rfl) (Nat.le_of_ble_eq_true rfl) rfl (ls' := [_, _, _, _, _]) rfl (pc' := 52) rfl ?_
        refine Z_iinc dX12_areSeen_52 rfl (nI_inc t) (Nat.le_of_ble_eq_true rfl) rfl (ls' := [_, _, _, _, _]) rfl (pc' := 55) rfl ?_
        refine Z_goto dX12_areSeen_55 (tgt := 15) rfl ?_
        exact ih (t + 1) (by omega)
      · refine Z_aload_n dX12_areSeen_36 rfl (z_isref _) (pc' := 37) rfl ?_
        refine Z_iload_n dX12_areSeen_37 rfl (pc' := 38) rfl ?_
        refine Z_iload dX12_areSeen_38 rfl (pc' := 40) rfl ?_
        refine Z_cVe dX12_areSeen_40 rfl zcw_X12_isIsland (As := [_, _]) (rest := []) rfl ⟨Nat.le_of_ble_eq_true rfl, Nat.le_of_ble_eq_true rfl⟩ (Nat.le_of_ble_eq_true rfl) (zRcv.lay zob_25) ⟨zcw_X12_isIsland.2.2.2.2, Nat.le_of_ble_eq_true rfl⟩ zk_RX12_207 (c_X12_isIsland hV ok hr (by omega)) (pc' := 43) rfl ?_
        refine Z_if_eq dX12_areSeen_43 (tgt := 50) rfl (pc' := 46) rfl (fun c_43 => ?_) (fun c_43 => ?_)
        · refine Z_iconst dX12_areSeen_50 (v := 0) (by decide) (pc' := 51) rfl ?_
          first | rw [show (1 : Int32) = zb (as1 c h r (t + 1)) from by rw [as1, (zb_ne0 _).mp c_23]; rfl] | rw [show (1 : Int32) = zb (as1 c h r (t + 1)) from by rw [as1, bit_eq1.mp c_33, (zb_ne0 _).mp c_43]; simp; rfl] | rw [show (0 : Int32) = zb (as1 c h r (t + 1)) from by rw [as1, (zb_eq0 _).mp c_23, (zb_eq0 _).mp c_43]; simp; rfl] | rw [show (0 : Int32) = zb (as1 c h r (t + 1)) from by rw [as1, (zb_eq0 _).mp c_23, Bool.eq_false_iff.mpr (fun q => c_33 (bit_eq1.mpr q))]; rfl]
          refine Z_istore_n dX12_areSeen_51 (Nat.le_of_ble_eq_true rfl) (Nat.le_of_ble_eq_true rfl) rfl (ls' := [_, _, _, _, _]) rfl (pc' := 52) rfl ?_
          refine Z_iinc dX12_areSeen_52 rfl (nI_inc t) (Nat.le_of_ble_eq_true rfl) rfl (ls' := [_, _, _, _, _]) rfl (pc' := 55) rfl ?_
          refine Z_goto dX12_areSeen_55 (tgt := 15) rfl ?_
          exact ih (t + 1) (by omega)
        · refine Z_iconst dX12_areSeen_46 (v := 1) (by decide) (pc' := 47) rfl ?_
          refine Z_goto dX12_areSeen_47 (tgt := 51) rfl ?_
          first | rw [show (1 : Int32) = zb (as1 c h r (t + 1)) from by rw [as1, (zb_ne0 _).mp c_23]; rfl] | rw [show (1 : Int32) = zb (as1 c h r (t + 1)) from by rw [as1, bit_eq1.mp c_33, (zb_ne0 _).mp c_43]; simp; rfl] | rw [show (0 : Int32) = zb (as1 c h r (t + 1)) from by rw [as1, (zb_eq0 _).mp c_23, (zb_eq0 _).mp c_43]; simp; rfl] | rw [show (0 : Int32) = zb (as1 c h r (t + 1)) from by rw [as1, (zb_eq0 _).mp c_23, Bool.eq_false_iff.mpr (fun q => c_33 (bit_eq1.mpr q))]; rfl]
          refine Z_istore_n dX12_areSeen_51 (Nat.le_of_ble_eq_true rfl) (Nat.le_of_ble_eq_true rfl) rfl (ls' := [_, _, _, _, _]) rfl (pc' := 52) rfl ?_
          refine Z_iinc dX12_areSeen_52 rfl (nI_inc t) (Nat.le_of_ble_eq_true rfl) rfl (ls' := [_, _, _, _, _]) rfl (pc' := 55) rfl ?_
          refine Z_goto dX12_areSeen_55 (tgt := 15) rfl ?_
          exact ih (t + 1) (by omega)
set_option maxRecDepth 100000 in
set_option maxHeartbeats 4000000 in
theorem lp_X12_seen_58 {S : ZS} {n r : Nat} {R : Option Value → ZW → Prop} {b : Bool} {a z : Int32} (hT : b = true → Z m_X12_areSeen 0 0 R 2 [some (.ref 25), some (.int a), some (.int (nI (r + 1)))] [] (zw S n)) (hF : b = false → R (some (.int 0)) (zw S n)) : Z m_X12_areSeen 0 0 R 58 [some (.ref 25), some (.int a), some (.int (nI r)), some (.int (zb b)), some (.int z)] [] (zw S n) := by
  refine Z_iload_n dX12_areSeen_58 rfl (pc' := 59) rfl ?_
  refine Z_if_ne dX12_areSeen_59 (tgt := 64) rfl (pc' := 62) rfl (fun c_59 => ?_) (fun c_59 => ?_)
  · refine Z_iinc dX12_areSeen_64 rfl (nI_inc r) (Nat.le_of_ble_eq_true rfl) rfl (ls' := [_, _, _, _, _]) rfl (pc' := 67) rfl ?_
    refine Z_goto dX12_areSeen_67 (tgt := 2) rfl ?_
    refine Z_take 3 (ls' := [_, _, _]) rfl ?_
    exact hT ((zb_ne0 _).mp c_59)
  · refine Z_iconst dX12_areSeen_62 (v := 0) (by decide) (pc' := 63) rfl ?_
    exact Z_ireturn dX12_areSeen_63 rfl (by first | rfl | exact narrow_zb _) (hF ((zb_eq0 _).mp c_59))
set_option maxRecDepth 100000 in
set_option maxHeartbeats 4000000 in
theorem lp_X12_seen {S : ZS} {n : Nat} {c : Co} (hV : mV S c) (ok : Cok c) {h : Nat} (hh : h < 1024) {R : Option Value → ZW → Prop} (hR : R (some (.int (zb (asA c h (cnr c))))) (zw S n)) : ∀ (m r : Nat), r + m = cnr c → asA c h r = true → Z m_X12_areSeen 0 0 R 2 [some (.ref 25), some (.int (nI h)), some (.int (nI r))] [] (zw S n) := by
  intro m
  induction m with
  | zero =>
    intro r hr ha
    have h6 := ok.2.2.1
    obtain rfl : r = cnr c := by omega
    rw [ha] at hR
    refine Z_iload_n dX12_areSeen_2 rfl (pc' := 3) rfl ?_
    refine Z_aload_n dX12_areSeen_3 rfl (z_isref _) (pc' := 4) rfl ?_
    refine Z_gI dX12_areSeen_4 rfl zgi_RX12_120_25 (pc' := 7) rfl ?_
    rw [hV.1.2.2.1]
    refine Z_icmp_ge dX12_areSeen_7 (tgt := 70) rfl (pc' := 10) rfl (fun c_7 => ?_) (fun c_7 => absurd c_7 (fun c => c ((nI_len (by omega) (by omega)).mpr (by omega))))
    refine Z_iconst dX12_areSeen_70 (v := 1) (by decide) (pc' := 71) rfl ?_
    exact Z_ireturn dX12_areSeen_71 rfl (by first | rfl | exact narrow_zb _) hR
  | succ m ih =>
    intro r hr ha
    have h6 := ok.2.2.1
    refine Z_iload_n dX12_areSeen_2 rfl (pc' := 3) rfl ?_
    refine Z_aload_n dX12_areSeen_3 rfl (z_isref _) (pc' := 4) rfl ?_
    refine Z_gI dX12_areSeen_4 rfl zgi_RX12_120_25 (pc' := 7) rfl ?_
    rw [hV.1.2.2.1]
    refine Z_icmp_ge dX12_areSeen_7 (tgt := 70) rfl (pc' := 10) rfl (fun c_7 => absurd c_7 (by rw [nI_len (by omega) (by omega)]; omega)) (fun c_7 => ?_)
    refine Z_iconst dX12_areSeen_10 (v := 0) (by decide) (pc' := 11) rfl ?_
    refine Z_istore_n dX12_areSeen_11 (Nat.le_of_ble_eq_true rfl) (Nat.le_of_ble_eq_true rfl) rfl (ls' := [_, _, _, _]) rfl (pc' := 12) rfl ?_
    refine Z_iconst dX12_areSeen_12 (v := 0) (by decide) (pc' := 13) rfl ?_
    refine Z_istore dX12_areSeen_13 (Nat.le_of_ble_eq_true rfl) (Nat.le_of_ble_eq_true rfl) rfl (ls' := [_, _, _, _, _]) rfl (pc' := 15) rfl ?_
    exact lp_X12_seen1 hV ok hh (by omega) (lp_X12_seen_58 (fun q => ih (r + 1) (by omega) (by rw [asA, ha, q]; rfl)) (fun q => by
      have e : asA c h (cnr c) = false := by
        cases e : asA c h (cnr c)
        · rfl
        · rw [asA_all.mp e r (by omega)] at q; cases q
      rw [e] at hR; exact hR)) 10 0 rfl
set_option maxRecDepth 100000 in
set_option maxHeartbeats 4000000 in
theorem c_X12_areSeen {S : ZS} {n : Nat} {c : Co} (hV : mV S c) (ok : Cok c) {h : Nat} (hh : h < 1024) : zM m_X12_areSeen 0 0 [.ref 25, .int (nI h)] (zw S n) (zE (some (.int (zb (shA c h)))) (zw S n)) := by
  show Z m_X12_areSeen _ _ _ 0 [some (.ref _), some (.int _)] [] _
  refine Z_iconst dX12_areSeen_0 (v := 0) (by decide) (pc' := 1) rfl ?_
  refine Z_istore_n dX12_areSeen_1 (Nat.le_of_ble_eq_true rfl) (Nat.le_of_ble_eq_true rfl) rfl (ls' := [_, _, _]) rfl (pc' := 2) rfl ?_
  rw [shA_eq ok]
  exact lp_X12_seen hV ok hh ⟨rfl, rfl⟩ (cnr c) 0 (by omega) rfl
set_option maxRecDepth 100000 in
set_option maxHeartbeats 4000000 in
theorem lp_X12_hours {S : ZS} {n : Nat} {c : Co} (hV : mV S c) (ok : Cok c) {R : Option Value → ZW → Prop} {a : Int32} {T : Nat} (hK : ∀ z, Z m_X12_hours 0 0 R 53 [some (.ref 25), some (.int a), some (.int (nI T)), some (.int z)] [] (zw S n)) : ∀ (m x : Nat) (z : Int32), m ≤ 1024 → x < 1024 → z + 1 = nI m → mhF (shA c) m x = T → Z m_X12_hours 0 0 R 22 [some (.ref 25), some (.int a), some (.int (nI x)), some (.int z)] [] (zw S n) := by
  intro m
  induction m with
  | zero =>
    intro x z hm hx hz hT
    obtain rfl : x = T := hT
    have hz1 : z = -1 := by rw [← Int32.add_sub_cancel z 1, hz]; decide
    refine Z_iload_n dX12_hours_22 rfl (pc' := 23) rfl ?_
    refine Z_if_lt dX12_hours_23 (tgt := 53) rfl (pc' := 26) rfl (fun c_23 => ?_) (fun c_23 => absurd c_23 (fun c => c (by rw [hz1]; decide)))
    exact hK _
  | succ m ih =>
    intro x z hm hx hz hT
    obtain rfl : z = nI m := by rw [← Int32.add_sub_cancel z 1, hz, nI_pred]
    unfold mhF at hT
    refine Z_iload_n dX12_hours_22 rfl (pc' := 23) rfl ?_
    refine Z_if_lt dX12_hours_23 (tgt := 53) rfl (pc' := 26) rfl (fun c_23 => absurd c_23 (nI_neg (by omega))) (fun c_23 => ?_)
    refine Z_iload_n dX12_hours_26 rfl (pc' := 27) rfl ?_
    refine Z_cSe dX12_hours_27 rfl zcw_X12_bits (As := [_]) (rest := []) rfl ⟨Nat.le_of_ble_eq_true rfl, Nat.le_of_ble_eq_true rfl⟩ (Nat.le_of_ble_eq_true rfl) ⟨zcw_X12_bits.2.2.2.2, Nat.le_of_ble_eq_true rfl⟩ zk_RX12_210 (c_X12_bits (by omega)) (pc' := 30) rfl ?_
    refine Z_iload_n dX12_hours_30 rfl (pc' := 31) rfl ?_
    refine Z_cSe dX12_hours_31 rfl zcw_X12_bits (As := [_]) (rest := [_]) rfl ⟨Nat.le_of_ble_eq_true rfl, Nat.le_of_ble_eq_true rfl⟩ (Nat.le_of_ble_eq_true rfl) ⟨zcw_X12_bits.2.2.2.2, Nat.le_of_ble_eq_true rfl⟩ zk_RX12_210 (c_X12_bits hx) (pc' := 34) rfl ?_
    refine Z_icmp_gt dX12_hours_34 (tgt := 47) rfl (pc' := 37) rfl (fun c_34 => ?_) (fun c_34 => ?_)
    · refine Z_iinc dX12_hours_47 rfl rfl (Nat.le_of_ble_eq_true rfl) rfl (ls' := [_, _, _, _]) rfl (pc' := 50) rfl ?_
      refine Z_goto dX12_hours_50 (tgt := 22) rfl ?_
      have h1 : ¬ bc m ≤ bc x := by
        have hb1 := bc_le m
        have hb2 := bc_le x
        rw [nI_ltn (by omega) (by omega)] at c_34; omega
      rw [if_neg (fun q => h1 q.1)] at hT
      exact ih x _ (by omega) hx (by rw [show Int32.ofInt (-1) = -1 from rfl, Int32.add_assoc]; exact Int32.add_zero _) hT
    · refine Z_aload_n dX12_hours_37 rfl (z_isref _) (pc' := 38) rfl ?_
      refine Z_iload_n dX12_hours_38 rfl (pc' := 39) rfl ?_
      refine Z_cVe dX12_hours_39 rfl zcw_X12_areSeen (As := [_]) (rest := []) rfl ⟨Nat.le_of_ble_eq_true rfl, Nat.le_of_ble_eq_true rfl⟩ (Nat.le_of_ble_eq_true rfl) (zRcv.lay zob_25) ⟨zcw_X12_areSeen.2.2.2.2, Nat.le_of_ble_eq_true rfl⟩ zk_RX12_213 (c_X12_areSeen hV ok (by omega)) (pc' := 42) rfl ?_
      refine Z_if_eq dX12_hours_42 (tgt := 47) rfl (pc' := 45) rfl (fun c_42 => ?_) (fun c_42 => ?_)
      · refine Z_iinc dX12_hours_47 rfl rfl (Nat.le_of_ble_eq_true rfl) rfl (ls' := [_, _, _, _]) rfl (pc' := 50) rfl ?_
        refine Z_goto dX12_hours_50 (tgt := 22) rfl ?_
        rw [if_neg (fun q => by rw [q.2] at c_42; exact absurd c_42 (by decide))] at hT
        exact ih x _ (by omega) hx (by rw [show Int32.ofInt (-1) = -1 from rfl, Int32.add_assoc]; exact Int32.add_zero _) hT
      · refine Z_iload_n dX12_hours_45 rfl (pc' := 46) rfl ?_
        refine Z_istore_n dX12_hours_46 (Nat.le_of_ble_eq_true rfl) (Nat.le_of_ble_eq_true rfl) rfl (ls' := [_, _, _, _]) rfl (pc' := 47) rfl ?_
        refine Z_iinc dX12_hours_47 rfl rfl (Nat.le_of_ble_eq_true rfl) rfl (ls' := [_, _, _, _]) rfl (pc' := 50) rfl ?_
        refine Z_goto dX12_hours_50 (tgt := 22) rfl ?_
        have h1 : bc m ≤ bc x := by
          have hb1 := bc_le m
          have hb2 := bc_le x
          rw [nI_ltn (by omega) (by omega)] at c_34; omega
        rw [if_pos ⟨h1, (zb_ne0 _).mp c_42⟩] at hT
        exact ih m _ (by omega) (by omega) (by rw [show Int32.ofInt (-1) = -1 from rfl, Int32.add_assoc]; exact Int32.add_zero _) hT
set_option maxRecDepth 100000 in
set_option maxHeartbeats 4000000 in
theorem lp_X12_hours_53 {S : ZS} {n : Nat} {M : Ms} (hI : MI S M) {a z : Int32} (hw : ¬ (a < 0 ∨ 1 < a)) : Z m_X12_hours 0 0 (qR S n (spHours M a)) 53 [some (.ref 25), some (.int a), some (.int (nI (fhF (shA (mc M)) 1024 0 1023))), some (.int z)] [] (zw S n) := by
  refine Z_iload_n dX12_hours_53 rfl (pc' := 54) rfl ?_
  refine Z_if_ne dX12_hours_54 (tgt := 64) rfl (pc' := 57) rfl (fun c_54 => ?_) (fun c_54 => ?_)
  · refine Z_iload_n dX12_hours_64 rfl (pc' := 65) rfl ?_
    exact Z_ireturn dX12_hours_65 rfl rfl (qR.st hI sfr.rf (by unfold spHours; rw [if_neg hw, if_neg c_54]))
  · refine Z_iload_n dX12_hours_57 rfl (pc' := 58) rfl ?_
    refine Z_cSe dX12_hours_58 rfl zcw_X12_bits (As := [_]) (rest := []) rfl ⟨Nat.le_of_ble_eq_true rfl, Nat.le_of_ble_eq_true rfl⟩ (Nat.le_of_ble_eq_true rfl) ⟨zcw_X12_bits.2.2.2.2, Nat.le_of_ble_eq_true rfl⟩ zk_RX12_210 (c_X12_bits (by have := (fhF_P (sh := shA (mc M)) 1024 0 1023 rfl ⟨Nat.le_refl _, Or.inl rfl, fun y _ h => absurd h (Nat.not_lt_zero y)⟩).1; omega)) (pc' := 61) rfl ?_
    refine Z_goto dX12_hours_61 (tgt := 65) rfl ?_
    exact Z_ireturn dX12_hours_65 rfl rfl (qR.st hI sfr.rf (by unfold spHours; rw [if_neg hw, if_pos c_54]))
set_option maxRecDepth 100000 in
set_option maxHeartbeats 4000000 in
theorem c_X12_hours {S : ZS} {n : Nat} {M : Ms} (hI : MI S M) {a : Int32} : zM m_X12_hours 0 0 [.ref 25, .int a] (zw S n) (qR S n (spHours M a)) := by
  show Z m_X12_hours _ _ _ 0 [some (.ref _), some (.int _)] [] _
  refine Z_iload_n dX12_hours_0 rfl (pc' := 1) rfl ?_
  refine Z_iconst dX12_hours_1 (v := 0) (by decide) (pc' := 2) rfl ?_
  refine Z_iconst dX12_hours_2 (v := 1) (by decide) (pc' := 3) rfl ?_
  refine Z_cSe dX12_hours_3 rfl zcw_X12_isIn (As := [_, _, _]) (rest := []) rfl ⟨Nat.le_of_ble_eq_true rfl, Nat.le_of_ble_eq_true rfl⟩ (Nat.le_of_ble_eq_true rfl) ⟨zcw_X12_isIn.2.2.2.2, Nat.le_of_ble_eq_true rfl⟩ zk_RX12_96 c_X12_isIn (pc' := 6) rfl ?_
  rcases in_cases a 0 1 with ⟨e, h1, h2⟩ | ⟨e, h⟩
  · rw [e]
    have hw := n_or h1 h2
    refine Z_if_ne dX12_hours_6 (tgt := 16) rfl (pc' := 9) rfl (fun c_6 => ?_) (fun c_6 => absurd c_6 (by decide))
    refine Z_sipush dX12_hours_16 (v := 1023) (by decide) (pc' := 19) rfl ?_
    refine Z_istore_n dX12_hours_19 (Nat.le_of_ble_eq_true rfl) (Nat.le_of_ble_eq_true rfl) rfl (ls' := [_, _, _]) rfl (pc' := 20) rfl ?_
    refine Z_iload_n dX12_hours_20 rfl (pc' := 21) rfl ?_
    refine Z_istore_n dX12_hours_21 (Nat.le_of_ble_eq_true rfl) (Nat.le_of_ble_eq_true rfl) rfl (ls' := [_, _, _, _]) rfl (pc' := 22) rfl ?_
    exact lp_X12_hours hI.mv hI.ok (T := fhF (shA (mc M)) 1024 0 1023) (fun z => lp_X12_hours_53 hI hw) 1024 1023 _ (by decide) (by decide) (by decide) (hours_eq _).symm
  · rw [e]
    refine Z_if_ne dX12_hours_6 (tgt := 16) rfl (pc' := 9) rfl (fun c_6 => absurd c_6 (fun q => q rfl)) (fun c_6 => ?_)
    refine Z_aload_n dX12_hours_9 rfl (z_isref _) (pc' := 10) rfl ?_
    refine Z_bipush dX12_hours_10 (v := (-2)) (by decide) (pc' := 12) rfl ?_
    refine Z_cVe dX12_hours_12 rfl zcw_X12_no (As := [_]) (rest := []) rfl ⟨Nat.le_of_ble_eq_true rfl, Nat.le_of_ble_eq_true rfl⟩ (Nat.le_of_ble_eq_true rfl) (zRcv.lay zob_25) ⟨zcw_X12_no.2.2.2.2, Nat.le_of_ble_eq_true rfl⟩ zk_RX12_85 (c_X12_no (k := 2) (by decide) (by decide)) (pc' := 15) rfl ?_
    exact Z_ireturn dX12_hours_15 rfl rfl (qR.no hI sfr.rf (by decide) (by unfold spHours; rw [if_pos h]))
