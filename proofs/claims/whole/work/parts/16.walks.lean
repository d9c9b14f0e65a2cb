/-- may one step from 'at' to p -/
def goS (fr : Nat → Nat → Bool) (s : Option Nat) (p : Nat) : Bool := match s with
  | none => true
  | some a => fr a p
/-- the walk over the m places from p on -/
def wkL (f : Nat → Bool) (fr : Nat → Nat → Bool) : Nat → Nat → Option Nat → List Nat
  | 0, _, _ => []
  | m + 1, p, s => if f p && goS fr s p then p :: wkL f fr m (p + 1) (some p) else wkL f fr m (p + 1) s
def oI (s : Option Nat) : Int32 := match s with
  | none => -9
  | some a => nI a
def lmk (l : List Nat) : Int64 := zmk (fun k => decide (k ∈ l))
theorem wk_cons (g : Nat → Bool) (l : List Nat) (p : Nat) : (fun k => g k || decide (k ∈ p :: l)) = (fun k => (g k || decide (k = p)) || decide (k ∈ l)) := by
  funext k
  simp [Bool.or_assoc]
theorem nI_nm9 {a : Nat} (h : a < 2147483648) : ¬ nI a = -9 := fun e => nI_neg h (by rw [e]; decide)
theorem wkL_rng (f : Nat → Bool) (fr : Nat → Nat → Bool) : ∀ (m p : Nat) (s : Option Nat) (x : Nat), x ∈ wkL f fr m p s → p ≤ x ∧ x < p + m ∧ f x = true
  | 0, _, _, _, h => by cases h
  | m + 1, p, s, x, h => by
    unfold wkL at h
    split at h
    · rename_i hc
      rcases List.mem_cons.mp h with rfl | h
      · rw [Bool.and_eq_true] at hc
        exact ⟨Nat.le_refl _, by omega, hc.1⟩
      · have := wkL_rng f fr m (p + 1) _ x h
        exact ⟨by omega, by omega, this.2.2⟩
    · have := wkL_rng f fr m (p + 1) _ x h
      exact ⟨by omega, by omega, this.2.2⟩
theorem wkL_nd (f : Nat → Bool) (fr : Nat → Nat → Bool) : ∀ (m p : Nat) (s : Option Nat), (wkL f fr m p s).Pairwise (· < ·)
  | 0, _, _ => List.Pairwise.nil
  | m + 1, p, s => by
    unfold wkL
    split
    · refine List.pairwise_cons.mpr ⟨fun x hx => ?_, wkL_nd f fr m (p + 1) _⟩
      have := wkL_rng f fr m (p + 1) _ x hx
      omega
    · exact wkL_nd f fr m (p + 1) _
theorem zct_ins (g : Nat → Bool) (a : Nat) (ha : g a = false) : ∀ n, zct (fun k => decide (k = a) || g k) n = zct g n + (if a < n then 1 else 0)
  | 0 => by simp [zct]
  | n + 1 => by
    rw [zct, zct, zct_ins g a ha n]
    rcases Nat.lt_trichotomy a n with q | q | q
    · have h1 : decide (n = a) = false := decide_eq_false (by omega)
      simp only [h1, Bool.false_or, if_pos q, if_pos (show a < n + 1 by omega)]
      omega
    · subst q
      simp [ha]
    · have h1 : decide (n = a) = false := decide_eq_false (by omega)
      simp only [h1, Bool.false_or, if_neg (show ¬ a < n by omega), if_neg (show ¬ a < n + 1 by omega)]
      omega
theorem zct_none : ∀ n, zct (fun _ => false) n = 0
  | 0 => rfl
  | n + 1 => by rw [zct, zct_none n]; rfl
theorem zct_list : ∀ (l : List Nat) (n : Nat), l.Pairwise (· < ·) → (∀ x ∈ l, x < n) → zct (fun k => decide (k ∈ l)) n = l.length
  | [], n, _, _ => by
    rw [show (fun k => decide (k ∈ ([] : List Nat))) = fun _ => false from funext fun k => by simp]
    exact zct_none n
  | a :: l, n, hp, hb => by
    obtain ⟨h1, h2⟩ := List.pairwise_cons.mp hp
    rw [show (fun k => decide (k ∈ a :: l)) = (fun k => decide (k = a) || decide (k ∈ l)) from funext fun k => by simp]
    rw [zct_ins _ a (by simp; intro h; exact absurd (h1 a h) (Nat.lt_irrefl _)) n, zct_list l n h2 fun x hx => hb x (List.mem_cons_of_mem _ hx), if_pos (hb a List.mem_cons_self)]
    rfl
theorem stF_list {l : List Nat} (hp : l.Pairwise (· < ·)) (hb : ∀ x ∈ l, x < 64) : stF (fun k => decide (k ∈ l)) = l.length - 1 := by
  unfold stF
  rw [zct_list l 64 hp hb]
theorem hI_sup {f : Nat → Bool} (hf : ∀ p, 48 < p → f p = false) {k : Nat} (hk : k < 2147483648) : hI f (nI k) = f k := by
  rcases Nat.lt_or_ge 48 k with h | h
  · rw [hf k h]
    unfold hI
    rw [if_pos (Or.inr (by rw [nI48, nI_ltn (by decide) hk]; exact h))]
  · exact hI_nat f h
/-- the walk with a rod from a beginning, over the places on shore f -/
def WL (c : Co) (f : Nat → Bool) (r : Int32) (b : Nat) : List Nat := wkL f (frS c r) (cny c + 1 - b) b none
theorem WL_nd (c : Co) (f : Nat → Bool) (r : Int32) (b : Nat) : (WL c f r b).Pairwise (· < ·) := wkL_nd _ _ _ _ _
theorem WL_rng {c : Co} {f : Nat → Bool} {r : Int32} {b x : Nat} (h : x ∈ WL c f r b) : b ≤ x ∧ x ≤ cny c ∧ f x = true := by
  have := wkL_rng _ _ _ _ _ _ h
  exact ⟨this.1, by omega, this.2.2⟩
set_option maxRecDepth 100000 in
set_option maxHeartbeats 4000000 in
theorem lp_X2_reachedFrom {S : ZS} {n b bg : Nat} {c : Co} {f : Nat → Bool} {r : Int32} (hb : cB b) (hV : cV S n b c) (ok : Cok c) {R : Option Value → ZW → Prop} : ∀ (m p : Nat) (s : Option Nat) (g : Nat → Bool), m = cny c + 1 - p → p ≤ 60 → (∀ a, s = some a → a ≤ cny c) → R (some (.long (zmk (fun k => g k || decide (k ∈ wkL f (frS c r) m p s))))) (zw S n) → Z m_X2_reachedFrom 0 0 R 11 [some (.ref b), some (.long (zmk f)), none, some (.int r), some (.int (nI bg)), some (.long (zmk g)), none, some (.int (oI s)), some (.int (nI p))] [] (zw S n) := by
  have hny := ok.2.1
  intro m
  induction m with
  | zero =>
    intro p s g hm hp hs hR
    refine Z_iload dX2_reachedFrom_11 rfl (pc' := 13) rfl ?_
    refine Z_aload_n dX2_reachedFrom_13 rfl (z_isref _) (pc' := 14) rfl ?_
    refine Z_gI dX2_reachedFrom_14 rfl (zgi_RX2_39_b_0 hb) (pc' := 17) rfl ?_
    rw [hV.yd]
    refine Z_icmp_gt dX2_reachedFrom_17 (tgt := 67) rfl (pc' := 20) rfl (fun c_17 => ?_) (fun c_17 => absurd c_17 (fun q => q (by rw [nI_ltn (by omega) (by omega)]; omega)))
    refine Z_lload dX2_reachedFrom_67 rfl (pc' := 69) rfl ?_
    exact Z_lreturn dX2_reachedFrom_69 rfl (by simpa [wkL] using hR)
  | succ m ih =>
    intro p s g hm hp hs hR
    unfold wkL at hR
    cases s with
    | none =>
      refine Z_iload dX2_reachedFrom_11 rfl (pc' := 13) rfl ?_
      refine Z_aload_n dX2_reachedFrom_13 rfl (z_isref _) (pc' := 14) rfl ?_
      refine Z_gI dX2_reachedFrom_14 rfl (zgi_RX2_39_b_0 hb) (pc' := 17) rfl ?_
      rw [hV.yd]
      refine Z_icmp_gt dX2_reachedFrom_17 (tgt := 67) rfl (pc' := 20) rfl (fun c_17 => absurd c_17 (by rw [nI_ltn (by omega) (by omega)]; omega)) (fun c_17 => ?_)
      refine Z_lload_n dX2_reachedFrom_20 rfl (pc' := 21) rfl ?_
      refine Z_iload dX2_reachedFrom_21 rfl (pc' := 23) rfl ?_
      refine Z_cSNe dX2_reachedFrom_23 rfl zcw_X11_holds (As := [_, _]) (rest := []) rfl ⟨Nat.le_of_ble_eq_true rfl, Nat.le_of_ble_eq_true rfl⟩ (Nat.le_of_ble_eq_true rfl) ⟨zcw_X11_holds.2.2.2.2, Nat.le_of_ble_eq_true rfl⟩ zk_RX2_96 c_X11_holds (pc' := 26) rfl ?_
      rw [hI_nat f (show p ≤ 48 by omega)]
      refine Z_if_eq dX2_reachedFrom_26 (tgt := 61) rfl (pc' := 29) rfl (fun c_26 => ?_) (fun c_26 => ?_)
      · refine Z_iinc dX2_reachedFrom_61 rfl (nI_inc p) (Nat.le_of_ble_eq_true rfl) rfl (ls' := [_, _, _, _, _, _, _, _, _]) rfl (pc' := 64) rfl ?_
        refine Z_goto dX2_reachedFrom_64 (tgt := 11) rfl ?_
        exact ih (p + 1) (none) g (by omega) (by omega) hs (by rw [if_neg (by rw [(zb_eq0 _).mp c_26]; simp)] at hR; exact hR)
      · refine Z_iload dX2_reachedFrom_29 rfl (pc' := 31) rfl ?_
        refine Z_bipush dX2_reachedFrom_31 (v := (-9)) (by decide) (pc' := 33) rfl ?_
        refine Z_icmp_eq dX2_reachedFrom_33 (tgt := 48) rfl (pc' := 36) rfl (fun c_33 => ?_) (fun c_33 => absurd c_33 (fun q => q rfl))
        refine Z_lload dX2_reachedFrom_48 rfl (pc' := 50) rfl ?_
        refine Z_lconst dX2_reachedFrom_50 (v := 1) (by decide) (pc' := 51) rfl ?_
        refine Z_iload dX2_reachedFrom_51 rfl (pc' := 53) rfl ?_
        refine Z_lshl dX2_reachedFrom_53 (pc' := 54) rfl ?_
        refine Z_lor dX2_reachedFrom_54 (pc' := 55) rfl ?_
        rw [zmk_one (show p < 64 by omega), zmk_or]
        refine Z_lstore dX2_reachedFrom_55 (Nat.le_of_ble_eq_true rfl) (Nat.le_of_ble_eq_true rfl) rfl (ls' := [_, _, _, _, _, _, _, _, _]) rfl (pc' := 57) rfl ?_
        refine Z_iload dX2_reachedFrom_57 rfl (pc' := 59) rfl ?_
        refine Z_istore dX2_reachedFrom_59 (Nat.le_of_ble_eq_true rfl) (Nat.le_of_ble_eq_true rfl) rfl (ls' := [_, _, _, _, _, _, _, _, _]) rfl (pc' := 61) rfl ?_
        refine Z_iinc dX2_reachedFrom_61 rfl (nI_inc p) (Nat.le_of_ble_eq_true rfl) rfl (ls' := [_, _, _, _, _, _, _, _, _]) rfl (pc' := 64) rfl ?_
        refine Z_goto dX2_reachedFrom_64 (tgt := 11) rfl ?_
        exact ih (p + 1) (some p) (fun k => g k || decide (k = p)) (by omega) (by omega) (fun a h => by cases h; omega) (by rw [if_pos (by rw [(zb_ne0 _).mp c_26]; rfl), wk_cons] at hR; exact hR)
    | some a =>
      have ha : a ≤ cny c := hs a rfl
      refine Z_iload dX2_reachedFrom_11 rfl (pc' := 13) rfl ?_
      refine Z_aload_n dX2_reachedFrom_13 rfl (z_isref _) (pc' := 14) rfl ?_
      refine Z_gI dX2_reachedFrom_14 rfl (zgi_RX2_39_b_0 hb) (pc' := 17) rfl ?_
      rw [hV.yd]
      refine Z_icmp_gt dX2_reachedFrom_17 (tgt := 67) rfl (pc' := 20) rfl (fun c_17 => absurd c_17 (by rw [nI_ltn (by omega) (by omega)]; omega)) (fun c_17 => ?_)
      refine Z_lload_n dX2_reachedFrom_20 rfl (pc' := 21) rfl ?_
      refine Z_iload dX2_reachedFrom_21 rfl (pc' := 23) rfl ?_
      refine Z_cSNe dX2_reachedFrom_23 rfl zcw_X11_holds (As := [_, _]) (rest := []) rfl ⟨Nat.le_of_ble_eq_true rfl, Nat.le_of_ble_eq_true rfl⟩ (Nat.le_of_ble_eq_true rfl) ⟨zcw_X11_holds.2.2.2.2, Nat.le_of_ble_eq_true rfl⟩ zk_RX2_96 c_X11_holds (pc' := 26) rfl ?_
      rw [hI_nat f (show p ≤ 48 by omega)]
      refine Z_if_eq dX2_reachedFrom_26 (tgt := 61) rfl (pc' := 29) rfl (fun c_26 => ?_) (fun c_26 => ?_)
      · refine Z_iinc dX2_reachedFrom_61 rfl (nI_inc p) (Nat.le_of_ble_eq_true rfl) rfl (ls' := [_, _, _, _, _, _, _, _, _]) rfl (pc' := 64) rfl ?_
        refine Z_goto dX2_reachedFrom_64 (tgt := 11) rfl ?_
        exact ih (p + 1) (some a) g (by omega) (by omega) hs (by rw [if_neg (by rw [(zb_eq0 _).mp c_26]; simp)] at hR; exact hR)
      · refine Z_iload dX2_reachedFrom_29 rfl (pc' := 31) rfl ?_
        refine Z_bipush dX2_reachedFrom_31 (v := (-9)) (by decide) (pc' := 33) rfl ?_
        refine Z_icmp_eq dX2_reachedFrom_33 (tgt := 48) rfl (pc' := 36) rfl (fun c_33 => absurd c_33 (nI_nm9 (by omega))) (fun c_33 => ?_)
        show Z _ _ _ _ _ [_, _, _, _, _, _, _, some (.int (nI a)), _] _ _
        refine Z_aload_n dX2_reachedFrom_36 rfl (z_isref _) (pc' := 37) rfl ?_
        refine Z_iload dX2_reachedFrom_37 rfl (pc' := 39) rfl ?_
        refine Z_iload dX2_reachedFrom_39 rfl (pc' := 41) rfl ?_
        refine Z_iload_n dX2_reachedFrom_41 rfl (pc' := 42) rfl ?_
        refine Z_cVe dX2_reachedFrom_42 rfl zcw_X2_isRodApart (As := [_, _, _]) (rest := []) rfl ⟨Nat.le_of_ble_eq_true rfl, Nat.le_of_ble_eq_true rfl⟩ (Nat.le_of_ble_eq_true rfl) (zRcv.lay (zob_b_0 hb)) ⟨zcw_X2_isRodApart.2.2.2.2, Nat.le_of_ble_eq_true rfl⟩ zk_RX2_100 (c_X2_isRodApart hb) (pc' := 45) rfl ?_
        rw [hV.far ok ha (show p ≤ cny c by omega)]
        refine Z_if_eq dX2_reachedFrom_45 (tgt := 61) rfl (pc' := 48) rfl (fun c_45 => ?_) (fun c_45 => ?_)
        · refine Z_iinc dX2_reachedFrom_61 rfl (nI_inc p) (Nat.le_of_ble_eq_true rfl) rfl (ls' := [_, _, _, _, _, _, _, _, _]) rfl (pc' := 64) rfl ?_
          refine Z_goto dX2_reachedFrom_64 (tgt := 11) rfl ?_
          exact ih (p + 1) (some a) g (by omega) (by omega) hs (by rw [if_neg (by rw [(zb_ne0 _).mp c_26]; show ¬ frS c r a p = true; rw [(zb_eq0 _).mp c_45]; simp)] at hR; exact hR)
        · refine Z_lload dX2_reachedFrom_48 rfl (pc' := 50) rfl ?_
          refine Z_lconst dX2_reachedFrom_50 (v := 1) (by decide) (pc' := 51) rfl ?_
          refine Z_iload dX2_reachedFrom_51 rfl (pc' := 53) rfl ?_
          refine Z_lshl dX2_reachedFrom_53 (pc' := 54) rfl ?_
          refine Z_lor dX2_reachedFrom_54 (pc' := 55) rfl ?_
          rw [zmk_one (show p < 64 by omega), zmk_or]
          refine Z_lstore dX2_reachedFrom_55 (Nat.le_of_ble_eq_true rfl) (Nat.le_of_ble_eq_true rfl) rfl (ls' := [_, _, _, _, _, _, _, _, _]) rfl (pc' := 57) rfl ?_
          refine Z_iload dX2_reachedFrom_57 rfl (pc' := 59) rfl ?_
          refine Z_istore dX2_reachedFrom_59 (Nat.le_of_ble_eq_true rfl) (Nat.le_of_ble_eq_true rfl) rfl (ls' := [_, _, _, _, _, _, _, _, _]) rfl (pc' := 61) rfl ?_
          refine Z_iinc dX2_reachedFrom_61 rfl (nI_inc p) (Nat.le_of_ble_eq_true rfl) rfl (ls' := [_, _, _, _, _, _, _, _, _]) rfl (pc' := 64) rfl ?_
          refine Z_goto dX2_reachedFrom_64 (tgt := 11) rfl ?_
          exact ih (p + 1) (some p) (fun k => g k || decide (k = p)) (by omega) (by omega) (fun a h => by cases h; omega) (by rw [if_pos (by rw [(zb_ne0 _).mp c_26]; exact (zb_ne0 _).mp c_45), wk_cons] at hR; exact hR)
set_option maxRecDepth 100000 in
set_option maxHeartbeats 4000000 in
theorem c_X2_reachedFrom {S : ZS} {n b bg : Nat} {c : Co} {f : Nat → Bool} {r : Int32} (hb : cB b) (hV : cV S n b c) (ok : Cok c) (hbg : bg ≤ 60) : zM m_X2_reachedFrom 0 0 [.ref b, .long (zmk f), .int r, .int (nI bg)] (zw S n) (zE (some (.long (lmk (WL c f r bg)))) (zw S n)) := by
  show Z m_X2_reachedFrom _ _ _ 0 [some (.ref _), some (.long _), none, some (.int _), some (.int _)] [] _
  refine Z_lconst dX2_reachedFrom_0 (v := 0) (by decide) (pc' := 1) rfl ?_
  refine Z_lstore dX2_reachedFrom_1 (Nat.le_of_ble_eq_true rfl) (Nat.le_of_ble_eq_true rfl) rfl (ls' := [_, _, _, _, _, _, _]) rfl (pc' := 3) rfl ?_
  refine Z_bipush dX2_reachedFrom_3 (v := (-9)) (by decide) (pc' := 5) rfl ?_
  refine Z_istore dX2_reachedFrom_5 (Nat.le_of_ble_eq_true rfl) (Nat.le_of_ble_eq_true rfl) rfl (ls' := [_, _, _, _, _, _, _, _]) rfl (pc' := 7) rfl ?_
  refine Z_iload dX2_reachedFrom_7 rfl (pc' := 9) rfl ?_
  refine Z_istore dX2_reachedFrom_9 (Nat.le_of_ble_eq_true rfl) (Nat.le_of_ble_eq_true rfl) rfl (ls' := [_, _, _, _, _, _, _, _, _]) rfl (pc' := 11) rfl ?_
  rw [zmk_0]
  exact lp_X2_reachedFrom hb hV ok (cny c + 1 - bg) bg none _ rfl hbg (fun a h => by cases h) ⟨congrArg (fun g => some (Value.long (zmk g))) (funext fun k => Bool.false_or _), rfl⟩
theorem stF_WL {c : Co} (ok : Cok c) (f : Nat → Bool) (r : Int32) (b : Nat) : stF (fun k => decide (k ∈ WL c f r b)) = (WL c f r b).length - 1 := stF_list (WL_nd c f r b) fun x hx => by
  have := WL_rng hx
  have := ok.2.1
  omega
/-- MILES -/
def mlS (c : Co) (f : Nat → Bool) (r : Int32) (b : Nat) : Int32 := r * nI ((WL c f r b).length - 1)
set_option maxRecDepth 100000 in
set_option maxHeartbeats 4000000 in
theorem c_X2_milesOf {S : ZS} {n b bg : Nat} {c : Co} {f : Nat → Bool} {r : Int32} (hb : cB b) (hV : cV S n b c) (ok : Cok c) (hbg : bg ≤ 60) : zM m_X2_milesOf 0 0 [.ref b, .long (zmk f), .int r, .int (nI bg)] (zw S n) (zE (some (.int (mlS c f r bg))) (zw S n)) := by
  show Z m_X2_milesOf _ _ _ 0 [some (.ref _), some (.long _), none, some (.int _), some (.int _)] [] _
  refine Z_iload_n dX2_milesOf_0 rfl (pc' := 1) rfl ?_
  refine Z_aload_n dX2_milesOf_1 rfl (z_isref _) (pc' := 2) rfl ?_
  refine Z_lload_n dX2_milesOf_2 rfl (pc' := 3) rfl ?_
  refine Z_iload_n dX2_milesOf_3 rfl (pc' := 4) rfl ?_
  refine Z_iload dX2_milesOf_4 rfl (pc' := 6) rfl ?_
  refine Z_cVe dX2_milesOf_6 rfl zcw_X2_reachedFrom (As := [_, _, _]) (rest := [_]) rfl ⟨Nat.le_of_ble_eq_true rfl, Nat.le_of_ble_eq_true rfl⟩ (Nat.le_of_ble_eq_true rfl) (zRcv.lay (zob_b_0 hb)) ⟨zcw_X2_reachedFrom.2.2.2.2, Nat.le_of_ble_eq_true rfl⟩ zk_RX2_104 (c_X2_reachedFrom hb hV ok (by omega)) (pc' := 9) rfl ?_
  unfold lmk
  refine Z_cSNe dX2_milesOf_9 rfl zcw_X11_stepsOf (As := [_]) (rest := [_]) rfl ⟨Nat.le_of_ble_eq_true rfl, Nat.le_of_ble_eq_true rfl⟩ (Nat.le_of_ble_eq_true rfl) ⟨zcw_X11_stepsOf.2.2.2.2, Nat.le_of_ble_eq_true rfl⟩ zk_RX2_108 c_X11_stepsOf (pc' := 12) rfl ?_
  refine Z_imul dX2_milesOf_12 (pc' := 13) rfl ?_
  exact Z_ireturn dX2_milesOf_13 rfl rfl ⟨by rw [stF_WL ok]; rfl, rfl⟩
set_option maxRecDepth 100000 in
set_option maxHeartbeats 4000000 in
theorem c_X2_milesWithout {S : ZS} {n b j k : Nat} {c : Co} {r : Int32} (hb : cB b) (hV : cV S n b c) (ok : Cok c) (hk : k < cns c) (hj : j < n) (hP : S.2.2 j = (zcl (ckd c k), [nI (cfg c k), nI (cfs c k), nI (cln c k)])) : zM m_X2_milesWithout 0 0 [.ref b, .ref (48 + j), .int r] (zw S n) (zE (some (.int (mlS c (fun p => shF c (ctd c) 8 p && !inS c k p) r 0))) (zw S n)) := by
  show Z m_X2_milesWithout _ _ _ 0 [some (.ref _), some (.ref _), some (.int _)] [] _
  refine Z_aload_n dX2_milesWithout_0 rfl (z_isref _) (pc' := 1) rfl ?_
  refine Z_aload_n dX2_milesWithout_1 rfl (z_isref _) (pc' := 2) rfl ?_
  refine Z_cVe dX2_milesWithout_2 rfl zcw_X2_shoreNow (As := []) (rest := [_]) rfl ⟨Nat.le_of_ble_eq_true rfl, Nat.le_of_ble_eq_true rfl⟩ (Nat.le_of_ble_eq_true rfl) (zRcv.lay (zob_b_0 hb)) ⟨zcw_X2_shoreNow.2.2.2.2, Nat.le_of_ble_eq_true rfl⟩ zk_RX2_111 (c_X2_shoreNow hb hV ok) (pc' := 5) rfl ?_
  obtain ⟨hkd, hfg, hfs, hl1, hl9, hfl⟩ := ok.2.2.2.2.1 k hk
  refine Z_aload_n dX2_milesWithout_5 rfl (z_isref _) (pc' := 6) rfl ?_
  refine zv_RX2_82 (hb1 := by have := ok.2.1; omega) (ha1 := by omega) dX2_milesWithout_6 rfl ⟨Nat.le_of_ble_eq_true rfl, Nat.le_of_ble_eq_true rfl⟩ (Nat.le_of_ble_eq_true rfl) hkd (by omega) hj hP (pc' := 9) rfl ?_
  refine Z_ldc2 dX2_milesWithout_9 rfl zw_656 (pc' := 12) rfl ?_
  refine Z_lxor dX2_milesWithout_12 (pc' := 13) rfl ?_
  rw [zmk_not]
  refine Z_land dX2_milesWithout_13 (pc' := 14) rfl ?_
  rw [zmk_and]
  refine Z_iload_n dX2_milesWithout_14 rfl (pc' := 15) rfl ?_
  refine Z_iconst dX2_milesWithout_15 (v := 0) (by decide) (pc' := 16) rfl ?_
  rw [show (0 : Int32) = nI 0 from rfl]
  refine Z_cVe dX2_milesWithout_16 rfl zcw_X2_milesOf (As := [_, _, _]) (rest := []) rfl ⟨Nat.le_of_ble_eq_true rfl, Nat.le_of_ble_eq_true rfl⟩ (Nat.le_of_ble_eq_true rfl) (zRcv.lay (zob_b_0 hb)) ⟨zcw_X2_milesOf.2.2.2.2, Nat.le_of_ble_eq_true rfl⟩ zk_RX2_116 (c_X2_milesOf hb hV ok (by omega)) (pc' := 19) rfl ?_
  exact Z_ireturn dX2_milesWithout_19 rfl rfl ⟨rfl, rfl⟩
def sfF (f q : Nat → Bool) : Nat → Nat → Option Nat
  | 0, _ => none
  | m + 1, p => if f p && q p then some p else sfF f q m (p + 1)
def sbF (f q : Nat → Bool) (a : Nat) : Nat → Nat → Option Nat
  | 0, _ => none
  | m + 1, i => if decide (i ≤ a) && (f (a - i) && q (a - i)) then some (a - i) else sbF f q a m (i + 1)
theorem nI_mul1 (a i : Nat) : nI a + nI i * 1 = nI (a + i) := by rw [Int32.mul_one, nI_add]
theorem nI_mulm (a i : Nat) : nI a + nI i * (-1) = nI a - nI i := by rw [Int32.mul_neg, Int32.mul_one, ← Int32.sub_eq_add_neg]
theorem nI_sub {a i : Nat} (h : i ≤ a) : nI a - nI i = nI (a - i) := by
  obtain ⟨m, rfl⟩ : ∃ m, a = i + m := ⟨a - i, by omega⟩
  rw [Nat.add_sub_cancel_left, ← nI_add, Int32.add_comm, Int32.add_sub_cancel]
theorem nI_subneg {a i : Nat} (h : a < i) (hi : i < 1000000) : nI a - nI i < 0 := by
  rw [Int32.lt_iff_toInt_lt, Int32.toInt_sub, nI_toInt (by omega), nI_toInt (by omega)]
  simp only [Int.bmod]
  show _ < (0 : Int)
  omega
theorem hI_neg {f : Nat → Bool} {x : Int32} (h : x < 0) : hI f x = false := by unfold hI; rw [if_pos (Or.inl h)]
set_option maxRecDepth 100000 in
set_option maxHeartbeats 4000000 in
theorem lp_X2_stepFrom_f {S : ZS} {n b a : Nat} {c : Co} {f : Nat → Bool} {r : Int32} (hb : cB b) (hV : cV S n b c) (ok : Cok c) (ha : a ≤ cny c) (hf : ∀ p, f p = true → p ≤ cny c) {R : Option Value → ZW → Prop} : ∀ (m i : Nat), i + m = cny c + 1 → R (some (.int (oI (sfF f (frS c r a) m (a + i))))) (zw S n) → Z m_X2_stepFrom 0 0 R 3 [some (.ref b), some (.long (zmk f)), none, some (.int (nI a)), some (.int r), some (.int 1), some (.int (nI i))] [] (zw S n) := by
  have hny := ok.2.1
  have hf2 : ∀ p, 48 < p → f p = false := fun p hp => by
    cases h : f p with
    | false => rfl
    | true => have := hf p h; omega
  intro m
  induction m with
  | zero =>
    intro i hm hR
    refine Z_iload dX2_stepFrom_3 rfl (pc' := 5) rfl ?_
    refine Z_aload_n dX2_stepFrom_5 rfl (z_isref _) (pc' := 6) rfl ?_
    refine Z_gI dX2_stepFrom_6 rfl (zgi_RX2_39_b_0 hb) (pc' := 9) rfl ?_
    rw [hV.yd]
    refine Z_icmp_gt dX2_stepFrom_9 (tgt := 51) rfl (pc' := 12) rfl (fun c_9 => ?_) (fun c_9 => absurd c_9 (fun q => q (by rw [nI_ltn (by omega) (by omega)]; omega)))
    refine Z_bipush dX2_stepFrom_51 (v := (-9)) (by decide) (pc' := 53) rfl ?_
    exact Z_ireturn dX2_stepFrom_53 rfl rfl hR
  | succ m ih =>
    intro i hm hR
    unfold sfF at hR
    refine Z_iload dX2_stepFrom_3 rfl (pc' := 5) rfl ?_
    refine Z_aload_n dX2_stepFrom_5 rfl (z_isref _) (pc' := 6) rfl ?_
    refine Z_gI dX2_stepFrom_6 rfl (zgi_RX2_39_b_0 hb) (pc' := 9) rfl ?_
    rw [hV.yd]
    refine Z_icmp_gt dX2_stepFrom_9 (tgt := 51) rfl (pc' := 12) rfl (fun c_9 => absurd c_9 (by rw [nI_ltn (by omega) (by omega)]; omega)) (fun c_9 => ?_)
    refine Z_iload_n dX2_stepFrom_12 rfl (pc' := 13) rfl ?_
    refine Z_iload dX2_stepFrom_13 rfl (pc' := 15) rfl ?_
    refine Z_iload dX2_stepFrom_15 rfl (pc' := 17) rfl ?_
    refine Z_imul dX2_stepFrom_17 (pc' := 18) rfl ?_
    refine Z_iadd dX2_stepFrom_18 (pc' := 19) rfl ?_
    rw [nI_mul1]
    refine Z_istore dX2_stepFrom_19 (Nat.le_of_ble_eq_true rfl) (Nat.le_of_ble_eq_true rfl) rfl (ls' := [_, _, _, _, _, _, _, _]) rfl (pc' := 21) rfl ?_
    refine Z_lload_n dX2_stepFrom_21 rfl (pc' := 22) rfl ?_
    refine Z_iload dX2_stepFrom_22 rfl (pc' := 24) rfl ?_
    refine Z_cSNe dX2_stepFrom_24 rfl zcw_X11_holds (As := [_, _]) (rest := []) rfl ⟨Nat.le_of_ble_eq_true rfl, Nat.le_of_ble_eq_true rfl⟩ (Nat.le_of_ble_eq_true rfl) ⟨zcw_X11_holds.2.2.2.2, Nat.le_of_ble_eq_true rfl⟩ zk_RX2_96 c_X11_holds (pc' := 27) rfl ?_
    rw [hI_sup hf2 (by omega)]
    refine Z_if_eq dX2_stepFrom_27 (tgt := 45) rfl (pc' := 30) rfl (fun c_27 => ?_) (fun c_27 => ?_)
    · refine Z_iinc dX2_stepFrom_45 rfl (nI_inc i) (Nat.le_of_ble_eq_true rfl) rfl (ls' := [_, _, _, _, _, _, _, _]) rfl (pc' := 48) rfl ?_
      refine Z_goto dX2_stepFrom_48 (tgt := 3) rfl ?_
      refine Z_take 7 (ls' := [_, _, _, _, _, _, _]) rfl ?_
      exact ih (i + 1) (by omega) (by rw [if_neg (by rw [(zb_eq0 _).mp c_27]; simp)] at hR; exact hR)
    · have hp := hf _ ((zb_ne0 _).mp c_27)
      refine Z_aload_n dX2_stepFrom_30 rfl (z_isref _) (pc' := 31) rfl ?_
      refine Z_iload_n dX2_stepFrom_31 rfl (pc' := 32) rfl ?_
      refine Z_iload dX2_stepFrom_32 rfl (pc' := 34) rfl ?_
      refine Z_iload dX2_stepFrom_34 rfl (pc' := 36) rfl ?_
      refine Z_cVe dX2_stepFrom_36 rfl zcw_X2_isRodApart (As := [_, _, _]) (rest := []) rfl ⟨Nat.le_of_ble_eq_true rfl, Nat.le_of_ble_eq_true rfl⟩ (Nat.le_of_ble_eq_true rfl) (zRcv.lay (zob_b_0 hb)) ⟨zcw_X2_isRodApart.2.2.2.2, Nat.le_of_ble_eq_true rfl⟩ zk_RX2_100 (c_X2_isRodApart hb) (pc' := 39) rfl ?_
      rw [hV.far ok ha hp]
      refine Z_if_eq dX2_stepFrom_39 (tgt := 45) rfl (pc' := 42) rfl (fun c_39 => ?_) (fun c_39 => ?_)
      · refine Z_iinc dX2_stepFrom_45 rfl (nI_inc i) (Nat.le_of_ble_eq_true rfl) rfl (ls' := [_, _, _, _, _, _, _, _]) rfl (pc' := 48) rfl ?_
        refine Z_goto dX2_stepFrom_48 (tgt := 3) rfl ?_
        refine Z_take 7 (ls' := [_, _, _, _, _, _, _]) rfl ?_
        exact ih (i + 1) (by omega) (by rw [if_neg (by rw [(zb_eq0 _).mp c_39]; simp)] at hR; exact hR)
      · refine Z_iload dX2_stepFrom_42 rfl (pc' := 44) rfl ?_
        exact Z_ireturn dX2_stepFrom_44 rfl rfl (by rw [if_pos (by rw [(zb_ne0 _).mp c_27, (zb_ne0 _).mp c_39]; rfl)] at hR; exact hR)
set_option maxRecDepth 100000 in
set_option maxHeartbeats 4000000 in
theorem c_X2_stepFrom_f {S : ZS} {n b a : Nat} {c : Co} {f : Nat → Bool} {r : Int32} (hb : cB b) (hV : cV S n b c) (ok : Cok c) (ha : a ≤ cny c) (hf : ∀ p, f p = true → p ≤ cny c) : zM m_X2_stepFrom 0 0 [.ref b, .long (zmk f), .int (nI a), .int r, .int 1] (zw S n) (zE (some (.int (oI (sfF f (frS c r a) (cny c) (a + 1))))) (zw S n)) := by
  show Z m_X2_stepFrom _ _ _ 0 [some (.ref _), some (.long _), none, some (.int _), some (.int _), some (.int _)] [] _
  refine Z_iconst dX2_stepFrom_0 (v := 1) (by decide) (pc' := 1) rfl ?_
  refine Z_istore dX2_stepFrom_1 (Nat.le_of_ble_eq_true rfl) (Nat.le_of_ble_eq_true rfl) rfl (ls' := [_, _, _, _, _, _, _]) rfl (pc' := 3) rfl ?_
  exact lp_X2_stepFrom_f hb hV ok ha hf (cny c) 1 (by omega) ⟨rfl, rfl⟩
set_option maxRecDepth 100000 in
set_option maxHeartbeats 4000000 in
theorem lp_X2_stepFrom_b {S : ZS} {n b a : Nat} {c : Co} {f : Nat → Bool} {r : Int32} (hb : cB b) (hV : cV S n b c) (ok : Cok c) (ha : a ≤ cny c) (hf : ∀ p, f p = true → p ≤ cny c) {R : Option Value → ZW → Prop} : ∀ (m i : Nat), i + m = cny c + 1 → R (some (.int (oI (sbF f (frS c r a) a m i)))) (zw S n) → Z m_X2_stepFrom 0 0 R 3 [some (.ref b), some (.long (zmk f)), none, some (.int (nI a)), some (.int r), some (.int (-1)), some (.int (nI i))] [] (zw S n) := by
  have hny := ok.2.1
  have hf2 : ∀ p, 48 < p → f p = false := fun p hp => by
    cases h : f p with
    | false => rfl
    | true => have := hf p h; omega
  intro m
  induction m with
  | zero =>
    intro i hm hR
    refine Z_iload dX2_stepFrom_3 rfl (pc' := 5) rfl ?_
    refine Z_aload_n dX2_stepFrom_5 rfl (z_isref _) (pc' := 6) rfl ?_
    refine Z_gI dX2_stepFrom_6 rfl (zgi_RX2_39_b_0 hb) (pc' := 9) rfl ?_
    rw [hV.yd]
    refine Z_icmp_gt dX2_stepFrom_9 (tgt := 51) rfl (pc' := 12) rfl (fun c_9 => ?_) (fun c_9 => absurd c_9 (fun q => q (by rw [nI_ltn (by omega) (by omega)]; omega)))
    refine Z_bipush dX2_stepFrom_51 (v := (-9)) (by decide) (pc' := 53) rfl ?_
    exact Z_ireturn dX2_stepFrom_53 rfl rfl hR
  | succ m ih =>
    intro i hm hR
    unfold sbF at hR
    rcases Nat.lt_or_ge a i with hai | hai
    · have hlt := nI_subneg hai (show i < 1000000 by omega)
      refine Z_iload dX2_stepFrom_3 rfl (pc' := 5) rfl ?_
      refine Z_aload_n dX2_stepFrom_5 rfl (z_isref _) (pc' := 6) rfl ?_
      refine Z_gI dX2_stepFrom_6 rfl (zgi_RX2_39_b_0 hb) (pc' := 9) rfl ?_
      rw [hV.yd]
      refine Z_icmp_gt dX2_stepFrom_9 (tgt := 51) rfl (pc' := 12) rfl (fun c_9 => absurd c_9 (by rw [nI_ltn (by omega) (by omega)]; omega)) (fun c_9 => ?_)
      refine Z_iload_n dX2_stepFrom_12 rfl (pc' := 13) rfl ?_
      refine Z_iload dX2_stepFrom_13 rfl (pc' := 15) rfl ?_
      refine Z_iload dX2_stepFrom_15 rfl (pc' := 17) rfl ?_
      refine Z_imul dX2_stepFrom_17 (pc' := 18) rfl ?_
      refine Z_iadd dX2_stepFrom_18 (pc' := 19) rfl ?_
      rw [nI_mulm]
      refine Z_istore dX2_stepFrom_19 (Nat.le_of_ble_eq_true rfl) (Nat.le_of_ble_eq_true rfl) rfl (ls' := [_, _, _, _, _, _, _, _]) rfl (pc' := 21) rfl ?_
      refine Z_lload_n dX2_stepFrom_21 rfl (pc' := 22) rfl ?_
      refine Z_iload dX2_stepFrom_22 rfl (pc' := 24) rfl ?_
      refine Z_cSNe dX2_stepFrom_24 rfl zcw_X11_holds (As := [_, _]) (rest := []) rfl ⟨Nat.le_of_ble_eq_true rfl, Nat.le_of_ble_eq_true rfl⟩ (Nat.le_of_ble_eq_true rfl) ⟨zcw_X11_holds.2.2.2.2, Nat.le_of_ble_eq_true rfl⟩ zk_RX2_96 c_X11_holds (pc' := 27) rfl ?_
      rw [hI_neg hlt]
      refine Z_if_eq dX2_stepFrom_27 (tgt := 45) rfl (pc' := 30) rfl (fun c_27 => ?_) (fun c_27 => absurd c_27 (fun q => q rfl))
      refine Z_iinc dX2_stepFrom_45 rfl (nI_inc i) (Nat.le_of_ble_eq_true rfl) rfl (ls' := [_, _, _, _, _, _, _, _]) rfl (pc' := 48) rfl ?_
      refine Z_goto dX2_stepFrom_48 (tgt := 3) rfl ?_
      refine Z_take 7 (ls' := [_, _, _, _, _, _, _]) rfl ?_
      exact ih (i + 1) (by omega) (by rw [if_neg (by rw [decide_eq_false (Nat.not_le.mpr hai)]; simp)] at hR; exact hR)
    · have hd : decide (i ≤ a) = true := decide_eq_true hai
      refine Z_iload dX2_stepFrom_3 rfl (pc' := 5) rfl ?_
      refine Z_aload_n dX2_stepFrom_5 rfl (z_isref _) (pc' := 6) rfl ?_
      refine Z_gI dX2_stepFrom_6 rfl (zgi_RX2_39_b_0 hb) (pc' := 9) rfl ?_
      rw [hV.yd]
      refine Z_icmp_gt dX2_stepFrom_9 (tgt := 51) rfl (pc' := 12) rfl (fun c_9 => absurd c_9 (by rw [nI_ltn (by omega) (by omega)]; omega)) (fun c_9 => ?_)
      refine Z_iload_n dX2_stepFrom_12 rfl (pc' := 13) rfl ?_
      refine Z_iload dX2_stepFrom_13 rfl (pc' := 15) rfl ?_
      refine Z_iload dX2_stepFrom_15 rfl (pc' := 17) rfl ?_
      refine Z_imul dX2_stepFrom_17 (pc' := 18) rfl ?_
      refine Z_iadd dX2_stepFrom_18 (pc' := 19) rfl ?_
      rw [nI_mulm, nI_sub hai]
      refine Z_istore dX2_stepFrom_19 (Nat.le_of_ble_eq_true rfl) (Nat.le_of_ble_eq_true rfl) rfl (ls' := [_, _, _, _, _, _, _, _]) rfl (pc' := 21) rfl ?_
      refine Z_lload_n dX2_stepFrom_21 rfl (pc' := 22) rfl ?_
      refine Z_iload dX2_stepFrom_22 rfl (pc' := 24) rfl ?_
      refine Z_cSNe dX2_stepFrom_24 rfl zcw_X11_holds (As := [_, _]) (rest := []) rfl ⟨Nat.le_of_ble_eq_true rfl, Nat.le_of_ble_eq_true rfl⟩ (Nat.le_of_ble_eq_true rfl) ⟨zcw_X11_holds.2.2.2.2, Nat.le_of_ble_eq_true rfl⟩ zk_RX2_96 c_X11_holds (pc' := 27) rfl ?_
      rw [hI_sup hf2 (by omega)]
      refine Z_if_eq dX2_stepFrom_27 (tgt := 45) rfl (pc' := 30) rfl (fun c_27 => ?_) (fun c_27 => ?_)
      · refine Z_iinc dX2_stepFrom_45 rfl (nI_inc i) (Nat.le_of_ble_eq_true rfl) rfl (ls' := [_, _, _, _, _, _, _, _]) rfl (pc' := 48) rfl ?_
        refine Z_goto dX2_stepFrom_48 (tgt := 3) rfl ?_
        refine Z_take 7 (ls' := [_, _, _, _, _, _, _]) rfl ?_
        exact ih (i + 1) (by omega) (by rw [if_neg (by rw [(zb_eq0 _).mp c_27]; simp)] at hR; exact hR)
      · have hp := hf _ ((zb_ne0 _).mp c_27)
        refine Z_aload_n dX2_stepFrom_30 rfl (z_isref _) (pc' := 31) rfl ?_
        refine Z_iload_n dX2_stepFrom_31 rfl (pc' := 32) rfl ?_
        refine Z_iload dX2_stepFrom_32 rfl (pc' := 34) rfl ?_
        refine Z_iload dX2_stepFrom_34 rfl (pc' := 36) rfl ?_
        refine Z_cVe dX2_stepFrom_36 rfl zcw_X2_isRodApart (As := [_, _, _]) (rest := []) rfl ⟨Nat.le_of_ble_eq_true rfl, Nat.le_of_ble_eq_true rfl⟩ (Nat.le_of_ble_eq_true rfl) (zRcv.lay (zob_b_0 hb)) ⟨zcw_X2_isRodApart.2.2.2.2, Nat.le_of_ble_eq_true rfl⟩ zk_RX2_100 (c_X2_isRodApart hb) (pc' := 39) rfl ?_
        rw [hV.far ok ha hp]
        refine Z_if_eq dX2_stepFrom_39 (tgt := 45) rfl (pc' := 42) rfl (fun c_39 => ?_) (fun c_39 => ?_)
        · refine Z_iinc dX2_stepFrom_45 rfl (nI_inc i) (Nat.le_of_ble_eq_true rfl) rfl (ls' := [_, _, _, _, _, _, _, _]) rfl (pc' := 48) rfl ?_
          refine Z_goto dX2_stepFrom_48 (tgt := 3) rfl ?_
          refine Z_take 7 (ls' := [_, _, _, _, _, _, _]) rfl ?_
          exact ih (i + 1) (by omega) (by rw [if_neg (by rw [(zb_eq0 _).mp c_39]; simp)] at hR; exact hR)
        · refine Z_iload dX2_stepFrom_42 rfl (pc' := 44) rfl ?_
          exact Z_ireturn dX2_stepFrom_44 rfl rfl (by rw [if_pos (by rw [hd, (zb_ne0 _).mp c_27, (zb_ne0 _).mp c_39]; rfl)] at hR; exact hR)
set_option maxRecDepth 100000 in
set_option maxHeartbeats 4000000 in
theorem c_X2_stepFrom_b {S : ZS} {n b a : Nat} {c : Co} {f : Nat → Bool} {r : Int32} (hb : cB b) (hV : cV S n b c) (ok : Cok c) (ha : a ≤ cny c) (hf : ∀ p, f p = true → p ≤ cny c) : zM m_X2_stepFrom 0 0 [.ref b, .long (zmk f), .int (nI a), .int r, .int (-1)] (zw S n) (zE (some (.int (oI (sbF f (frS c r a) a (cny c) 1)))) (zw S n)) := by
  show Z m_X2_stepFrom _ _ _ 0 [some (.ref _), some (.long _), none, some (.int _), some (.int _), some (.int _)] [] _
  refine Z_iconst dX2_stepFrom_0 (v := 1) (by decide) (pc' := 1) rfl ?_
  refine Z_istore dX2_stepFrom_1 (Nat.le_of_ble_eq_true rfl) (Nat.le_of_ble_eq_true rfl) rfl (ls' := [_, _, _, _, _, _, _]) rfl (pc' := 3) rfl ?_
  exact lp_X2_stepFrom_b hb hV ok ha hf (cny c) 1 (by omega) ⟨rfl, rfl⟩
abbrev Tw : Type := Nat × Nat × Nat × Nat
def tw1 (f : Nat → Bool) (q : Nat → Nat → Bool) (ny : Nat) (s : Tw) : Tw := match sfF f (q s.1) ny (s.1 + 1) with
  | none => s
  | some p => if p < s.2.1 then (p, s.2.1, s.2.2.1 + 1, s.2.2.2) else s
def tw2 (f : Nat → Bool) (q : Nat → Nat → Bool) (ny : Nat) (s : Tw) : Tw := match sbF f (q s.2.1) s.2.1 ny 1 with
  | none => s
  | some p => if s.1 < p then (s.1, p, s.2.2.1, s.2.2.2 + 1) else s
def twN (f : Nat → Bool) (q1 q2 : Nat → Nat → Bool) (ny : Nat) : Nat → Tw → Tw
  | 0, s => s
  | m + 1, s => twN f q1 q2 ny m (tw2 f q2 ny (tw1 f q1 ny s))
theorem sfF_some {f q : Nat → Bool} : ∀ {m p x : Nat}, sfF f q m p = some x → f x = true
  | 0, _, _, h => by cases h
  | m + 1, p, x, h => by
    unfold sfF at h
    split at h
    · rename_i hc
      cases h
      rw [Bool.and_eq_true] at hc
      exact hc.1
    · exact sfF_some h
theorem sbF_some {f q : Nat → Bool} {a : Nat} : ∀ {m i x : Nat}, sbF f q a m i = some x → f x = true
  | 0, _, _, h => by cases h
  | m + 1, i, x, h => by
    unfold sbF at h
    split at h
    · rename_i hc
      cases h
      rw [Bool.and_eq_true, Bool.and_eq_true] at hc
      exact hc.2.1
    · exact sbF_some h
set_option maxRecDepth 100000 in
set_option maxHeartbeats 4000000 in
theorem lp_X2_two_a {S : ZS} {n b i : Nat} {c : Co} {f : Nat → Bool} {r1 r2 o : Int32} (hb : cB b) (hV : cV S n b c) (ok : Cok c) (hf : ∀ p, f p = true → p ≤ cny c) {R : Option Value → ZW → Prop} {s : Tw} (h1 : s.1 ≤ cny c) (h2 : s.2.1 ≤ cny c)
  (k : ∀ s' : Tw, s' = tw1 f (frS c r1) (cny c) s → s'.1 ≤ cny c → s'.2.1 ≤ cny c → Z m_X2_milesOfTwo 0 0 R 65 [some (.ref b), some (.int r1), some (.int r2), some (.int o), some (.long (zmk f)), none, some (.int (nI s'.1)), some (.int (nI s'.2.1)), some (.int (nI s'.2.2.1)), some (.int (nI s'.2.2.2)), some (.int (nI i))] [] (zw S n)) : Z m_X2_milesOfTwo 0 0 R 32 [some (.ref b), some (.int r1), some (.int r2), some (.int o), some (.long (zmk f)), none, some (.int (nI s.1)), some (.int (nI s.2.1)), some (.int (nI s.2.2.1)), some (.int (nI s.2.2.2)), some (.int (nI i))] [] (zw S n) := by
  have hny := ok.2.1
  refine Z_aload_n dX2_milesOfTwo_32 rfl (z_isref _) (pc' := 33) rfl ?_
  refine Z_lload dX2_milesOfTwo_33 rfl (pc' := 35) rfl ?_
  refine Z_iload dX2_milesOfTwo_35 rfl (pc' := 37) rfl ?_
  refine Z_iload_n dX2_milesOfTwo_37 rfl (pc' := 38) rfl ?_
  refine Z_iconst dX2_milesOfTwo_38 (v := 1) (by decide) (pc' := 39) rfl ?_
  refine Z_cVe dX2_milesOfTwo_39 rfl zcw_X2_stepFrom (As := [_, _, _, _]) (rest := []) rfl ⟨Nat.le_of_ble_eq_true rfl, Nat.le_of_ble_eq_true rfl⟩ (Nat.le_of_ble_eq_true rfl) (zRcv.lay (zob_b_0 hb)) ⟨zcw_X2_stepFrom.2.2.2.2, Nat.le_of_ble_eq_true rfl⟩ zk_RX2_123 (c_X2_stepFrom_f hb hV ok h1 hf) (pc' := 42) rfl ?_
  rcases hn : sfF f (frS c r1 s.1) (cny c) (s.1 + 1) with _ | p
  · show Z _ _ _ _ _ _ (.int (oI (none)) :: _) _
    refine Z_istore dX2_milesOfTwo_42 (Nat.le_of_ble_eq_true rfl) (Nat.le_of_ble_eq_true rfl) rfl (ls' := [_, _, _, _, _, _, _, _, _, _, _, _]) rfl (pc' := 44) rfl ?_
    refine Z_iload dX2_milesOfTwo_44 rfl (pc' := 46) rfl ?_
    refine Z_bipush dX2_milesOfTwo_46 (v := (-9)) (by decide) (pc' := 48) rfl ?_
    refine Z_icmp_eq dX2_milesOfTwo_48 (tgt := 65) rfl (pc' := 51) rfl (fun c_48 => ?_) (fun c_48 => absurd c_48 (fun q => q rfl))
    refine Z_take 11 (ls' := [_, _, _, _, _, _, _, _, _, _, _]) rfl ?_
    exact k s (by unfold tw1; rw [hn]) h1 h2
  · show Z _ _ _ _ _ _ (.int (oI (some p)) :: _) _
    have hp := hf _ (sfF_some hn)
    refine Z_istore dX2_milesOfTwo_42 (Nat.le_of_ble_eq_true rfl) (Nat.le_of_ble_eq_true rfl) rfl (ls' := [_, _, _, _, _, _, _, _, _, _, _, _]) rfl (pc' := 44) rfl ?_
    refine Z_iload dX2_milesOfTwo_44 rfl (pc' := 46) rfl ?_
    refine Z_bipush dX2_milesOfTwo_46 (v := (-9)) (by decide) (pc' := 48) rfl ?_
    refine Z_icmp_eq dX2_milesOfTwo_48 (tgt := 65) rfl (pc' := 51) rfl (fun c_48 => absurd c_48 (nI_nm9 (by omega))) (fun c_48 => ?_)
    show Z _ _ _ _ _ [_, _, _, _, _, _, _, _, _, _, _, some (.int (nI p))] _ _
    refine Z_iload dX2_milesOfTwo_51 rfl (pc' := 53) rfl ?_
    refine Z_iload dX2_milesOfTwo_53 rfl (pc' := 55) rfl ?_
    refine Z_icmp_ge dX2_milesOfTwo_55 (tgt := 65) rfl (pc' := 58) rfl (fun c_55 => ?_) (fun c_55 => ?_)
    · refine Z_take 11 (ls' := [_, _, _, _, _, _, _, _, _, _, _]) rfl ?_
      exact k s (by unfold tw1; rw [hn]; exact (if_neg (by rw [nI_len (by omega) (by omega)] at c_55; omega)).symm) h1 h2
    · refine Z_iload dX2_milesOfTwo_58 rfl (pc' := 60) rfl ?_
      refine Z_istore dX2_milesOfTwo_60 (Nat.le_of_ble_eq_true rfl) (Nat.le_of_ble_eq_true rfl) rfl (ls' := [_, _, _, _, _, _, _, _, _, _, _, _]) rfl (pc' := 62) rfl ?_
      refine Z_iinc dX2_milesOfTwo_62 rfl (nI_inc _) (Nat.le_of_ble_eq_true rfl) rfl (ls' := [_, _, _, _, _, _, _, _, _, _, _, _]) rfl (pc' := 65) rfl ?_
      refine Z_take 11 (ls' := [_, _, _, _, _, _, _, _, _, _, _]) rfl ?_
      exact k (p, s.2.1, s.2.2.1 + 1, s.2.2.2) (by unfold tw1; rw [hn]; exact (if_pos (by rw [nI_len (by omega) (by omega)] at c_55; omega)).symm) hp h2
set_option maxRecDepth 100000 in
set_option maxHeartbeats 4000000 in
theorem lp_X2_two_b {S : ZS} {n b i : Nat} {c : Co} {f : Nat → Bool} {r1 r2 o : Int32} (hb : cB b) (hV : cV S n b c) (ok : Cok c) (hf : ∀ p, f p = true → p ≤ cny c) {R : Option Value → ZW → Prop} {s : Tw} (h1 : s.1 ≤ cny c) (h2 : s.2.1 ≤ cny c)
  (k : ∀ s' : Tw, s' = tw2 f (frS c r2) (cny c) s → s'.1 ≤ cny c → s'.2.1 ≤ cny c → Z m_X2_milesOfTwo 0 0 R 98 [some (.ref b), some (.int r1), some (.int r2), some (.int o), some (.long (zmk f)), none, some (.int (nI s'.1)), some (.int (nI s'.2.1)), some (.int (nI s'.2.2.1)), some (.int (nI s'.2.2.2)), some (.int (nI i))] [] (zw S n)) : Z m_X2_milesOfTwo 0 0 R 65 [some (.ref b), some (.int r1), some (.int r2), some (.int o), some (.long (zmk f)), none, some (.int (nI s.1)), some (.int (nI s.2.1)), some (.int (nI s.2.2.1)), some (.int (nI s.2.2.2)), some (.int (nI i))] [] (zw S n) := by
  have hny := ok.2.1
  refine Z_aload_n dX2_milesOfTwo_65 rfl (z_isref _) (pc' := 66) rfl ?_
  refine Z_lload dX2_milesOfTwo_66 rfl (pc' := 68) rfl ?_
  refine Z_iload dX2_milesOfTwo_68 rfl (pc' := 70) rfl ?_
  refine Z_iload_n dX2_milesOfTwo_70 rfl (pc' := 71) rfl ?_
  refine Z_iconst dX2_milesOfTwo_71 (v := (-1)) (by decide) (pc' := 72) rfl ?_
  refine Z_cVe dX2_milesOfTwo_72 rfl zcw_X2_stepFrom (As := [_, _, _, _]) (rest := []) rfl ⟨Nat.le_of_ble_eq_true rfl, Nat.le_of_ble_eq_true rfl⟩ (Nat.le_of_ble_eq_true rfl) (zRcv.lay (zob_b_0 hb)) ⟨zcw_X2_stepFrom.2.2.2.2, Nat.le_of_ble_eq_true rfl⟩ zk_RX2_123 (c_X2_stepFrom_b hb hV ok h2 hf) (pc' := 75) rfl ?_
  rcases hn : sbF f (frS c r2 s.2.1) s.2.1 (cny c) 1 with _ | p
  · show Z _ _ _ _ _ _ (.int (oI (none)) :: _) _
    refine Z_istore dX2_milesOfTwo_75 (Nat.le_of_ble_eq_true rfl) (Nat.le_of_ble_eq_true rfl) rfl (ls' := [_, _, _, _, _, _, _, _, _, _, _, _]) rfl (pc' := 77) rfl ?_
    refine Z_iload dX2_milesOfTwo_77 rfl (pc' := 79) rfl ?_
    refine Z_bipush dX2_milesOfTwo_79 (v := (-9)) (by decide) (pc' := 81) rfl ?_
    refine Z_icmp_eq dX2_milesOfTwo_81 (tgt := 98) rfl (pc' := 84) rfl (fun c_81 => ?_) (fun c_81 => absurd c_81 (fun q => q rfl))
    refine Z_take 11 (ls' := [_, _, _, _, _, _, _, _, _, _, _]) rfl ?_
    exact k s (by unfold tw2; rw [hn]) h1 h2
  · show Z _ _ _ _ _ _ (.int (oI (some p)) :: _) _
    have hp := hf _ (sbF_some hn)
    refine Z_istore dX2_milesOfTwo_75 (Nat.le_of_ble_eq_true rfl) (Nat.le_of_ble_eq_true rfl) rfl (ls' := [_, _, _, _, _, _, _, _, _, _, _, _]) rfl (pc' := 77) rfl ?_
    refine Z_iload dX2_milesOfTwo_77 rfl (pc' := 79) rfl ?_
    refine Z_bipush dX2_milesOfTwo_79 (v := (-9)) (by decide) (pc' := 81) rfl ?_
    refine Z_icmp_eq dX2_milesOfTwo_81 (tgt := 98) rfl (pc' := 84) rfl (fun c_81 => absurd c_81 (nI_nm9 (by omega))) (fun c_81 => ?_)
    show Z _ _ _ _ _ [_, _, _, _, _, _, _, _, _, _, _, some (.int (nI p))] _ _
    refine Z_iload dX2_milesOfTwo_84 rfl (pc' := 86) rfl ?_
    refine Z_iload dX2_milesOfTwo_86 rfl (pc' := 88) rfl ?_
    refine Z_icmp_ge dX2_milesOfTwo_88 (tgt := 98) rfl (pc' := 91) rfl (fun c_88 => ?_) (fun c_88 => ?_)
    · refine Z_take 11 (ls' := [_, _, _, _, _, _, _, _, _, _, _]) rfl ?_
      exact k s (by unfold tw2; rw [hn]; exact (if_neg (by rw [nI_len (by omega) (by omega)] at c_88; omega)).symm) h1 h2
    · refine Z_iload dX2_milesOfTwo_91 rfl (pc' := 93) rfl ?_
      refine Z_istore dX2_milesOfTwo_93 (Nat.le_of_ble_eq_true rfl) (Nat.le_of_ble_eq_true rfl) rfl (ls' := [_, _, _, _, _, _, _, _, _, _, _, _]) rfl (pc' := 95) rfl ?_
      refine Z_iinc dX2_milesOfTwo_95 rfl (nI_inc _) (Nat.le_of_ble_eq_true rfl) rfl (ls' := [_, _, _, _, _, _, _, _, _, _, _, _]) rfl (pc' := 98) rfl ?_
      refine Z_take 11 (ls' := [_, _, _, _, _, _, _, _, _, _, _]) rfl ?_
      exact k (s.1, p, s.2.2.1, s.2.2.2 + 1) (by unfold tw2; rw [hn]; exact (if_pos (by rw [nI_len (by omega) (by omega)] at c_88; omega)).symm) h1 hp
set_option maxRecDepth 100000 in
set_option maxHeartbeats 4000000 in
theorem lp_X2_two {S : ZS} {n b : Nat} {c : Co} {f : Nat → Bool} {r1 r2 o : Int32} (hb : cB b) (hV : cV S n b c) (ok : Cok c) (hf : ∀ p, f p = true → p ≤ cny c) {R : Option Value → ZW → Prop} : ∀ (m i : Nat) (s : Tw), i + m = 48 → s.1 ≤ cny c → s.2.1 ≤ cny c → R (some (.int (if o = 0 then r2 * nI (twN f (frS c r1) (frS c r2) (cny c) m s).2.2.2 else r1 * nI (twN f (frS c r1) (frS c r2) (cny c) m s).2.2.1))) (zw S n) → Z m_X2_milesOfTwo 0 0 R 25 [some (.ref b), some (.int r1), some (.int r2), some (.int o), some (.long (zmk f)), none, some (.int (nI s.1)), some (.int (nI s.2.1)), some (.int (nI s.2.2.1)), some (.int (nI s.2.2.2)), some (.int (nI i))] [] (zw S n) := by
  intro m
  induction m with
  | zero =>
    intro i s h h1 h2 hR
    obtain rfl : i = 48 := by omega
    refine Z_iload dX2_milesOfTwo_25 rfl (pc' := 27) rfl ?_
    refine Z_bipush dX2_milesOfTwo_27 (v := 48) (by decide) (pc' := 29) rfl ?_
    refine Z_icmp_ge dX2_milesOfTwo_29 (tgt := 104) rfl (pc' := 32) rfl (fun c_29 => ?_) (fun c_29 => absurd c_29 (fun c => c (by decide)))
    refine Z_iload_n dX2_milesOfTwo_104 rfl (pc' := 105) rfl ?_
    refine Z_if_eq dX2_milesOfTwo_105 (tgt := 115) rfl (pc' := 108) rfl (fun c_105 => ?_) (fun c_105 => ?_)
    · refine Z_iload_n dX2_milesOfTwo_115 rfl (pc' := 116) rfl ?_
      refine Z_iload dX2_milesOfTwo_116 rfl (pc' := 118) rfl ?_
      refine Z_imul dX2_milesOfTwo_118 (pc' := 119) rfl ?_
      exact Z_ireturn dX2_milesOfTwo_119 rfl rfl (by rw [if_pos c_105] at hR; exact hR)
    · refine Z_iload_n dX2_milesOfTwo_108 rfl (pc' := 109) rfl ?_
      refine Z_iload dX2_milesOfTwo_109 rfl (pc' := 111) rfl ?_
      refine Z_imul dX2_milesOfTwo_111 (pc' := 112) rfl ?_
      refine Z_goto dX2_milesOfTwo_112 (tgt := 119) rfl ?_
      exact Z_ireturn dX2_milesOfTwo_119 rfl rfl (by rw [if_neg c_105] at hR; exact hR)
  | succ m ih =>
    intro i s h h1 h2 hR
    refine Z_iload dX2_milesOfTwo_25 rfl (pc' := 27) rfl ?_
    refine Z_bipush dX2_milesOfTwo_27 (v := 48) (by decide) (pc' := 29) rfl ?_
    refine Z_icmp_ge dX2_milesOfTwo_29 (tgt := 104) rfl (pc' := 32) rfl (fun c_29 => absurd c_29 (by rw [nI48, nI_len (by omega) (by omega)]; omega)) (fun c_29 => ?_)
    refine lp_X2_two_a hb hV ok hf h1 h2 fun s1 e1 g1 g2 => ?_
    refine lp_X2_two_b hb hV ok hf g1 g2 fun s2 e2 g3 g4 => ?_
    refine Z_iinc dX2_milesOfTwo_98 rfl (nI_inc i) (Nat.le_of_ble_eq_true rfl) rfl (ls' := [_, _, _, _, _, _, _, _, _, _, _]) rfl (pc' := 101) rfl ?_
    refine Z_goto dX2_milesOfTwo_101 (tgt := 25) rfl ?_
    exact ih (i + 1) s2 (by omega) g3 g4 (by rw [e2, e1]; exact hR)
set_option maxRecDepth 100000 in
set_option maxHeartbeats 4000000 in
theorem c_X2_milesOfTwo {S : ZS} {n b h0 : Nat} {c : Co} {r1 r2 o : Int32} (hb : cB b) (hV : cV S n b c) (ok : Cok c) (hf : ∀ p, shF c (ctd c) 8 p = true → p ≤ cny c) (h0e : lsF (shF c (ctd c) 8) 49 = nI h0) (h0l : h0 ≤ cny c) : zM m_X2_milesOfTwo 0 0 [.ref b, .int r1, .int r2, .int o] (zw S n) (zE (some (.int (if o = 0 then r2 * nI (twN (shF c (ctd c) 8) (frS c r1) (frS c r2) (cny c) 48 (0, h0, 0, 0)).2.2.2 else r1 * nI (twN (shF c (ctd c) 8) (frS c r1) (frS c r2) (cny c) 48 (0, h0, 0, 0)).2.2.1))) (zw S n)) := by
  show Z m_X2_milesOfTwo _ _ _ 0 [some (.ref _), some (.int _), some (.int _), some (.int _)] [] _
  refine Z_aload_n dX2_milesOfTwo_0 rfl (z_isref _) (pc' := 1) rfl ?_
  refine Z_cVe dX2_milesOfTwo_1 rfl zcw_X2_shoreNow (As := []) (rest := []) rfl ⟨Nat.le_of_ble_eq_true rfl, Nat.le_of_ble_eq_true rfl⟩ (Nat.le_of_ble_eq_true rfl) (zRcv.lay (zob_b_0 hb)) ⟨zcw_X2_shoreNow.2.2.2.2, Nat.le_of_ble_eq_true rfl⟩ zk_RX2_111 (c_X2_shoreNow hb hV ok) (pc' := 4) rfl ?_
  refine Z_lstore dX2_milesOfTwo_4 (Nat.le_of_ble_eq_true rfl) (Nat.le_of_ble_eq_true rfl) rfl (ls' := [_, _, _, _, _, _]) rfl (pc' := 6) rfl ?_
  refine Z_iconst dX2_milesOfTwo_6 (v := 0) (by decide) (pc' := 7) rfl ?_
  refine Z_istore dX2_milesOfTwo_7 (Nat.le_of_ble_eq_true rfl) (Nat.le_of_ble_eq_true rfl) rfl (ls' := [_, _, _, _, _, _, _]) rfl (pc' := 9) rfl ?_
  refine Z_lload dX2_milesOfTwo_9 rfl (pc' := 11) rfl ?_
  refine Z_cSNe dX2_milesOfTwo_11 rfl zcw_X11_lastOf (As := [_]) (rest := []) rfl ⟨Nat.le_of_ble_eq_true rfl, Nat.le_of_ble_eq_true rfl⟩ (Nat.le_of_ble_eq_true rfl) ⟨zcw_X11_lastOf.2.2.2.2, Nat.le_of_ble_eq_true rfl⟩ zk_RX2_120 c_X11_lastOf (pc' := 14) rfl ?_
  rw [h0e]
  refine Z_istore dX2_milesOfTwo_14 (Nat.le_of_ble_eq_true rfl) (Nat.le_of_ble_eq_true rfl) rfl (ls' := [_, _, _, _, _, _, _, _]) rfl (pc' := 16) rfl ?_
  refine Z_iconst dX2_milesOfTwo_16 (v := 0) (by decide) (pc' := 17) rfl ?_
  refine Z_istore dX2_milesOfTwo_17 (Nat.le_of_ble_eq_true rfl) (Nat.le_of_ble_eq_true rfl) rfl (ls' := [_, _, _, _, _, _, _, _, _]) rfl (pc' := 19) rfl ?_
  refine Z_iconst dX2_milesOfTwo_19 (v := 0) (by decide) (pc' := 20) rfl ?_
  refine Z_istore dX2_milesOfTwo_20 (Nat.le_of_ble_eq_true rfl) (Nat.le_of_ble_eq_true rfl) rfl (ls' := [_, _, _, _, _, _, _, _, _, _]) rfl (pc' := 22) rfl ?_
  refine Z_iconst dX2_milesOfTwo_22 (v := 0) (by decide) (pc' := 23) rfl ?_
  refine Z_istore dX2_milesOfTwo_23 (Nat.le_of_ble_eq_true rfl) (Nat.le_of_ble_eq_true rfl) rfl (ls' := [_, _, _, _, _, _, _, _, _, _, _]) rfl (pc' := 25) rfl ?_
  exact lp_X2_two hb hV ok hf 48 0 (0, h0, 0, 0) rfl (Nat.zero_le _) h0l ⟨rfl, rfl⟩
