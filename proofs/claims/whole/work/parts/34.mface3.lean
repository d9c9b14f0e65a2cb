theorem fsL_idem {g h : Nat → Bool} {e : Nat} : ∀ (m p k j : Nat), (∀ x, p ≤ x → x < p + m → h x = decide (x ∈ fsL g e m p k)) → fsL h 1 m p j = fsL g e m p k
  | 0, _, _, _, _ => rfl
  | m + 1, p, k, j, hh => by
    have hp := hh p (Nat.le_refl _) (by omega)
    have out : ∀ k', p ∉ fsL g e m (p + 1) k' := fun k' q => by have := fsL_rng q; omega
    cases hg : g p with
    | false =>
      rw [fsL_f hg] at hh hp ⊢
      rw [decide_eq_false (out k)] at hp
      rw [fsL_f hp]
      exact fsL_idem m (p + 1) k j fun x h1 h2 => hh x (by omega) (by omega)
    | true =>
      by_cases e0 : k % e = 0
      · rw [fsL_t hg e0] at hh hp ⊢
        rw [decide_eq_true (List.mem_cons_self ..)] at hp
        rw [fsL_t hp (Nat.mod_one j), fsL_idem m (p + 1) (k + 1) (j + 1) fun x h1 h2 => ?_]
        rw [hh x (by omega) (by omega)]
        exact decide_eq_decide.mpr ⟨fun q => (List.mem_cons.mp q).elim (fun e => by omega) id, fun q => List.mem_cons_of_mem _ q⟩
      · rw [fsL_s hg e0] at hh hp ⊢
        rw [decide_eq_false (out (k + 1))] at hp
        rw [fsL_f hp]
        exact fsL_idem m (p + 1) (k + 1) j fun x h1 h2 => hh x (by omega) (by omega)
theorem evF_fs {f : Nat → Bool} {c : Nat} (hc : 0 < c) : ∀ (m p bt k : Nat) (G : Nat → Bool), bt < c → (k + bt) % c = 0 → ∀ x, evF f c m p bt G x = (G x || decide (x ∈ fsL f c m p k))
  | 0, _, _, _, G, _, _, x => by simp [evF, fsL]
  | m + 1, p, bt, k, G, hb, hk, x => by
    cases hf : f p with
    | false =>
      rw [fsL_f hf, evF, hf]
      exact evF_fs hc m (p + 1) bt k G hb hk x
    | true =>
      by_cases hz : bt = 0
      · subst hz
        have e0 : k % c = 0 := hk
        rw [fsL_t hf e0, evF, if_pos hf, if_pos rfl, evF_fs hc m (p + 1) (c - 1) (k + 1) _ (by omega) (by rw [show k + 1 + (c - 1) = k + c by omega, Nat.add_mod_right]; exact e0) x]
        simp [Bool.or_assoc]
      · have e0 : ¬ k % c = 0 := fun q => by
          rw [Nat.add_mod, q, Nat.zero_add, Nat.mod_mod, Nat.mod_eq_of_lt hb] at hk
          exact hz hk
        rw [fsL_s hf e0, evF, if_pos hf, if_neg hz]
        exact evF_fs hc m (p + 1) (bt - 1) (k + 1) G (by omega) (by rw [show k + 1 + (bt - 1) = k + bt by omega]; exact hk) x
theorem fsL_none {g : Nat → Bool} {e : Nat} : ∀ (j p k : Nat), (∀ x, p ≤ x → g x = false) → fsL g e j p k = []
  | 0, _, _, _ => rfl
  | j + 1, p, k, h => by rw [fsL_f (h p (Nat.le_refl _))]; exact fsL_none j (p + 1) k fun x hx => h x (by omega)
theorem fsL_more {g : Nat → Bool} {e j : Nat} : ∀ (m p k : Nat), (∀ x, p + m ≤ x → g x = false) → fsL g e (m + j) p k = fsL g e m p k
  | 0, p, k, h => by rw [Nat.zero_add]; exact fsL_none j p k h
  | m + 1, p, k, h => by
    rw [show m + 1 + j = (m + j) + 1 by omega, fsL, fsL, fsL_more m (p + 1) (k + 1) (fun x hx => h x (by omega)), fsL_more m (p + 1) k (fun x hx => h x (by omega))]
theorem copy_eq {c : Co} (ok : Cok c) {k : Nat} (hk : 0 < k) (r : Int32) : wlk (frS c r) 0 (fsL (gS c (-9)) k (cny c + 1) 0 0) none = WL c (evF (shS c (ctd c)) k 49 0 0 (fun _ => false)) r 0 := by
  have h48 := ok.2.1
  have e1 : ∀ x, evF (shS c (ctd c)) k 49 0 0 (fun _ => false) x = decide (x ∈ fsL (gS c (-9)) k (cny c + 1) 0 0) := fun x => by
    rw [evF_fs hk 49 0 0 0 _ hk (Nat.zero_mod _) x, show 49 = (cny c + 1) + (48 - cny c) by omega, fsL_more (cny c + 1) 0 0 (fun x hx => by
      cases e : shS c (ctd c) x
      · rfl
      · have := shS_le e; omega), Bool.false_or, fsL_cong (cny c + 1) 0 0 (fun x _ hx => (gS_m9 ok (show x ≤ cny c by omega)).symm)]
  rw [← fsL_idem (cny c + 1) 0 0 0 (fun x _ _ => e1 x), wlk_skip (cny c + 1) 0 0 (Nat.le_refl _), Nat.zero_add]
  rfl
theorem t2_cases (a b : Int32) : (t2I a b = -4 ∧ (a < 1 ∨ b < 1)) ∨ (t2I a b = -6 ∧ ¬ (a < 1 ∨ b < 1) ∧ (9 < a ∨ 9 < b)) ∨ (t2I a b = 0 ∧ ¬ (a < 1 ∨ b < 1) ∧ ¬ (9 < a ∨ 9 < b)) := by
  by_cases h1 : a < 1 ∨ b < 1
  · exact Or.inl ⟨t2_lt h1, h1⟩
  · by_cases h2 : 9 < a ∨ 9 < b
    · exact Or.inr (Or.inl ⟨t2_gt h1 h2, h1, h2⟩)
    · exact Or.inr (Or.inr ⟨t2_ok h1 h2, h1, h2⟩)
set_option maxRecDepth 100000 in
set_option maxHeartbeats 4000000 in
theorem lp_X12_copy_33 {S : ZS} {n : Nat} {M : Ms} (hI : MI S M) {a b0 v : Int32} (hv : t2I a b0 = v) : Z m_X12_copy 0 0 (qR S n (spCopy M a b0)) 33 [some (.ref 25), some (.int a), some (.int b0)] [.int v] (zw S n) := by
  refine Z_istore_n dX12_copy_33 (Nat.le_of_ble_eq_true rfl) (Nat.le_of_ble_eq_true rfl) rfl (ls' := [_, _, _, _]) rfl (pc' := 34) rfl ?_
  refine Z_iload_n dX12_copy_34 rfl (pc' := 35) rfl ?_
  refine Z_if_eq dX12_copy_35 (tgt := 44) rfl (pc' := 38) rfl (fun c_35 => ?_) (fun c_35 => ?_)
  · subst hv
    have hn : ¬ (a < 1 ∨ b0 < 1) ∧ ¬ (9 < a ∨ 9 < b0) := by
      rcases t2_cases a b0 with ⟨e, _⟩ | ⟨e, _⟩ | ⟨_, h1, h2⟩
      · rw [e] at c_35; exact absurd c_35 (by decide)
      · rw [e] at c_35; exact absurd c_35 (by decide)
      · exact ⟨h1, h2⟩
    obtain ⟨k, hk, rfl⟩ := i_rng (a := a) (m := 9) (by decide) (fun q => hn.1 (Or.inl (Int32.lt_trans q (by decide)))) (fun q => hn.2 (Or.inl q))
    have hk1 : 0 < k := by
      have h1 : ¬ nI k < 1 := fun q => hn.1 (Or.inl q)
      rw [show (1 : Int32) = nI 1 from rfl, nI_ltn (by omega) (by decide)] at h1
      omega
    refine Z_aload_n dX12_copy_44 rfl (z_isref _) (pc' := 45) rfl ?_
    refine Z_bipush dX12_copy_45 (v := (-9)) (by decide) (pc' := 47) rfl ?_
    refine Z_iload_n dX12_copy_47 rfl (pc' := 48) rfl ?_
    refine Z_cV dX12_copy_48 rfl zcw_X12_findShore (As := [_, _]) (rest := []) rfl ⟨Nat.le_of_ble_eq_true rfl, Nat.le_of_ble_eq_true rfl⟩ (Nat.le_of_ble_eq_true rfl) (zRcv.lay zob_25) ⟨zcw_X12_findShore.2.2.2.2, Nat.le_of_ble_eq_true rfl⟩ zk_RX12_184 (c_X12_findShore hI.mv hI.ok hk1 hk) (pc' := 51) rfl (fun r_48 w_48 h_48 => ?_)
    obtain ⟨rfl, S1, rfl, f1, s1⟩ := h_48
    show Z _ _ _ _ _ _ [] _
    refine Z_iload_n dX12_copy_51 rfl (pc' := 52) rfl ?_
    refine Z_aload_n dX12_copy_52 rfl (z_isref _) (pc' := 53) rfl ?_
    refine Z_iload_n dX12_copy_53 rfl (pc' := 54) rfl ?_
    refine Z_iconst dX12_copy_54 (v := 0) (by decide) (pc' := 55) rfl ?_
    refine Z_cV dX12_copy_55 rfl zcw_X12_walks (As := [_, _]) (rest := [_]) rfl ⟨Nat.le_of_ble_eq_true rfl, Nat.le_of_ble_eq_true rfl⟩ (Nat.le_of_ble_eq_true rfl) (zRcv.lay zob_25) ⟨zcw_X12_walks.2.2.2.2, Nat.le_of_ble_eq_true rfl⟩ zk_RX12_188 (c_X12_walks (b := 0) (f1.mv hI.mv) hI.ok (by decide) s1 (fun x hx => by have := fsL_rng hx; omega)) (pc' := 58) rfl (fun r_55 w_55 h_55 => ?_)
    obtain ⟨rfl, S2, rfl, f2, s2, w2⟩ := h_55
    rw [copy_eq hI.ok hk1]
    show Z _ _ _ _ _ _ (_ :: [_]) _
    refine Z_imul dX12_copy_58 (pc' := 59) rfl ?_
    exact Z_ireturn dX12_copy_59 rfl rfl (qR.st hI (f1.tr f2) (by unfold spCopy; rw [if_neg (fun h => h c_35), nI_nat (by omega)]; rfl))
  · subst hv
    obtain ⟨k, hk, hx, hy⟩ := t2I_k c_35
    refine Z_aload_n dX12_copy_38 rfl (z_isref _) (pc' := 39) rfl ?_
    refine Z_iload_n dX12_copy_39 rfl (pc' := 40) rfl ?_
    refine Z_cVe dX12_copy_40 rfl zcw_X12_no (As := [_]) (rest := []) rfl ⟨Nat.le_of_ble_eq_true rfl, Nat.le_of_ble_eq_true rfl⟩ (Nat.le_of_ble_eq_true rfl) (zRcv.lay zob_25) ⟨zcw_X12_no.2.2.2.2, Nat.le_of_ble_eq_true rfl⟩ zk_RX12_85 (c_X12_no hk hx) (pc' := 43) rfl ?_
    exact Z_ireturn dX12_copy_43 rfl rfl (qR.no hI sfr.rf hk (by unfold spCopy noV; rw [if_pos c_35, hy]))
set_option maxRecDepth 100000 in
set_option maxHeartbeats 4000000 in
theorem c_X12_copy {S : ZS} {n : Nat} {M : Ms} (hI : MI S M) {a b0 : Int32} : zM m_X12_copy 0 0 [.ref 25, .int a, .int b0] (zw S n) (qR S n (spCopy M a b0)) := by
  show Z m_X12_copy _ _ _ 0 [some (.ref _), some (.int _), some (.int _)] [] _
  refine Z_iload_n dX12_copy_0 rfl (pc' := 1) rfl ?_
  refine Z_iconst dX12_copy_1 (v := 1) (by decide) (pc' := 2) rfl ?_
  refine Z_icmp_lt dX12_copy_2 (tgt := 10) rfl (pc' := 5) rfl (fun c_2 => ?_) (fun c_2 => ?_)
  · refine Z_bipush dX12_copy_10 (v := (-4)) (by decide) (pc' := 12) rfl ?_
    refine Z_goto dX12_copy_12 (tgt := 33) rfl ?_
    exact lp_X12_copy_33 hI (t2_lt (Or.inl c_2))
  · refine Z_iload_n dX12_copy_5 rfl (pc' := 6) rfl ?_
    refine Z_iconst dX12_copy_6 (v := 1) (by decide) (pc' := 7) rfl ?_
    refine Z_icmp_ge dX12_copy_7 (tgt := 15) rfl (pc' := 10) rfl (fun c_7 => ?_) (fun c_7 => ?_)
    · refine Z_iload_n dX12_copy_15 rfl (pc' := 16) rfl ?_
      refine Z_bipush dX12_copy_16 (v := 9) (by decide) (pc' := 18) rfl ?_
      refine Z_icmp_gt dX12_copy_18 (tgt := 27) rfl (pc' := 21) rfl (fun c_18 => ?_) (fun c_18 => ?_)
      · refine Z_bipush dX12_copy_27 (v := (-6)) (by decide) (pc' := 29) rfl ?_
        refine Z_goto dX12_copy_29 (tgt := 33) rfl ?_
        exact lp_X12_copy_33 hI (t2_gt (n_or c_2 (i_nlt c_7)) (Or.inl c_18))
      · refine Z_iload_n dX12_copy_21 rfl (pc' := 22) rfl ?_
        refine Z_bipush dX12_copy_22 (v := 9) (by decide) (pc' := 24) rfl ?_
        refine Z_icmp_le dX12_copy_24 (tgt := 32) rfl (pc' := 27) rfl (fun c_24 => ?_) (fun c_24 => ?_)
        · refine Z_iconst dX12_copy_32 (v := 0) (by decide) (pc' := 33) rfl ?_
          exact lp_X12_copy_33 hI (t2_ok (n_or c_2 (i_nlt c_7)) (n_or c_18 (i_nlt c_24)))
        · refine Z_bipush dX12_copy_27 (v := (-6)) (by decide) (pc' := 29) rfl ?_
          refine Z_goto dX12_copy_29 (tgt := 33) rfl ?_
          exact lp_X12_copy_33 hI (t2_gt (n_or c_2 (i_nlt c_7)) (Or.inr (i_lt c_24)))
    · refine Z_bipush dX12_copy_10 (v := (-4)) (by decide) (pc' := 12) rfl ?_
      refine Z_goto dX12_copy_12 (tgt := 33) rfl ?_
      exact lp_X12_copy_33 hI (t2_lt (Or.inr (i_lt c_7)))
/-- by how many of the first r rods a place is reached -/
def ctR (c : Co) (f : Nat → Bool) : Nat → Nat → Nat
  | 0, _ => 0
  | r + 1, p => ctR c f r p + (if p ∈ WL c f (nI (r + 1)) 0 then 1 else 0)
theorem ctR_le (c : Co) (f : Nat → Bool) : ∀ r p, ctR c f r p ≤ r
  | 0, _ => Nat.le_refl _
  | r + 1, p => by have := ctR_le c f r p; unfold ctR; split <;> omega
theorem suF_ct (c : Co) (f : Nat → Bool) (p : Nat) : ∀ r, suF c f r p = (f p && decide (ctR c f r p = r))
  | 0 => by simp [suF, ctR]
  | r + 1 => by
    have hle := ctR_le c f r p
    rw [suF, suF_ct c f p r, ctR]
    by_cases hm : p ∈ WL c f (nI (r + 1)) 0
    · rw [if_pos hm, decide_eq_true hm, Bool.and_true]
      congr 1
      exact decide_eq_decide.mpr (by omega)
    · have h1 : ¬ ctR c f r p + 0 = r + 1 := by omega
      rw [if_neg hm, decide_eq_false hm, decide_eq_false h1, Bool.and_false, Bool.and_false]
theorem ctR_f {c : Co} {f : Nat → Bool} {r p : Nat} (hr : 1 ≤ r) (h : ctR c f r p = r) : f p = true := by
  obtain ⟨m, rfl⟩ : ∃ m, r = m + 1 := ⟨r - 1, by omega⟩
  have hle := ctR_le c f m p
  unfold ctR at h
  by_cases hm : p ∈ WL c f (nI (m + 1)) 0
  · exact (WL_rng hm).2.2
  · rw [if_neg hm] at h; omega
theorem sure_eq {c : Co} (ok : Cok c) {r : Nat} (hr : 1 ≤ r) : zct (fun p => decide (ctR c (shS c (ctd c)) r p = r)) (cny c + 1) = zct (suF c (shS c (ctd c)) r) 64 := by
  have h48 := ok.2.1
  rw [show 64 = (cny c + 1) + (63 - cny c) by omega, zct_off _ (cny c + 1) (63 - cny c) (fun i _ => ?_)]
  · refine zct_cong _ fun p _ => ?_
    rw [suF_ct]
    by_cases h : ctR c (shS c (ctd c)) r p = r
    · rw [decide_eq_true h, ctR_f hr h]; rfl
    · rw [decide_eq_false h, Bool.and_false]
  · rw [suF_ct]
    have : shS c (ctd c) (cny c + 1 + i) = false := by
      cases e : shS c (ctd c) (cny c + 1 + i)
      · rfl
      · have := shS_le e; omega
    rw [this]; rfl
theorem take_mem {l : List Nat} (hp : l.Pairwise (· < ·)) {k x : Nat} (h : l[k]? = some x) (q : Nat) : (q ∈ l.take (k + 1) ↔ q ∈ l.take k ∨ q = x) ∧ x ∉ l.take k := by
  have hk := List.getElem?_eq_some_iff.mp h
  have e : l.take (k + 1) = l.take k ++ [x] := by rw [List.take_succ, h]; rfl
  refine ⟨by rw [e, List.mem_append, List.mem_singleton], fun hm => ?_⟩
  have h2 : (l.take (k + 1)).Pairwise (· < ·) := hp.sublist (List.take_sublist _ _)
  rw [e] at h2
  have := (List.pairwise_append.mp h2).2.2 x hm x (List.mem_singleton_self x)
  omega
set_option maxRecDepth 100000 in
set_option maxHeartbeats 4000000 in
theorem lp_X12_sure_a {S0 : ZS} {n : Nat} {c : Co} (hV0 : mV S0 c) (ok : Cok c) {R : Option Value → ZW → Prop} {rod : Nat} {rf : Int32} (hK : ∀ S, sfw S0 S → shR S (SL c) → (∀ q, q ≤ cny c → S.1 46 q = nI 0) → Z m_X12_sure 0 0 R 48 [some (.ref 25), some (.int (nI rod)), some (.int rf), some (.int (nI (cny c + 1)))] [] (zw S n)) : ∀ (m p : Nat) (S : ZS), p + m = cny c + 1 → sfw S0 S → shR S (SL c) → (∀ q, q < p → S.1 46 q = nI 0) → Z m_X12_sure 0 0 R 27 [some (.ref 25), some (.int (nI rod)), some (.int rf), some (.int (nI p))] [] (zw S n) := by
  intro m
  induction m with
  | zero =>
    intro p S h f s hz
    have hV := f.mv hV0
    have h48 := ok.2.1
    obtain rfl : p = cny c + 1 := by omega
    refine Z_iload_n dX12_sure_27 rfl (pc' := 28) rfl ?_
    refine Z_aload_n dX12_sure_28 rfl (z_isref _) (pc' := 29) rfl ?_
    refine Z_gI dX12_sure_29 rfl zgi_RX12_117_25 (pc' := 32) rfl ?_
    rw [hV.1.2.1]
    refine Z_icmp_gt dX12_sure_32 (tgt := 48) rfl (pc' := 35) rfl (fun c_32 => ?_) (fun c_32 => absurd c_32 (fun c => c ((nI_ltn (by omega) (by omega)).mpr (by omega))))
    exact hK S f s (fun q hq => hz q (by omega))
  | succ m ih =>
    intro p S h f s hz
    have hV := f.mv hV0
    have h48 := ok.2.1
    refine Z_iload_n dX12_sure_27 rfl (pc' := 28) rfl ?_
    refine Z_aload_n dX12_sure_28 rfl (z_isref _) (pc' := 29) rfl ?_
    refine Z_gI dX12_sure_29 rfl zgi_RX12_117_25 (pc' := 32) rfl ?_
    rw [hV.1.2.1]
    refine Z_icmp_gt dX12_sure_32 (tgt := 48) rfl (pc' := 35) rfl (fun c_32 => absurd c_32 (by rw [nI_ltn (by omega) (by omega)]; omega)) (fun c_32 => ?_)
    refine Z_aload_n dX12_sure_35 rfl (z_isref _) (pc' := 36) rfl ?_
    refine Z_gR dX12_sure_36 rfl zgr_RX12_70_25 (pc' := 39) rfl ?_
    refine Z_iload_n dX12_sure_39 rfl (pc' := 40) rfl ?_
    refine Z_iconst dX12_sure_40 (v := 0) (by decide) (pc' := 41) rfl ?_
    refine Z_is dX12_sure_41 zar_46 (zin (by omega) (by decide)) (pc' := 42) rfl ?_
    rw [nI_nat (by omega)]
    refine Z_iinc dX12_sure_42 rfl (nI_inc p) (Nat.le_of_ble_eq_true rfl) rfl (ls' := [_, _, _, _]) rfl (pc' := 45) rfl ?_
    refine Z_goto dX12_sure_45 (tgt := 27) rfl ?_
    exact ih (p + 1) _ (by omega) (f.sA _ (by rfl)) (s.cg (congrFun (sA_ne _ _ _ (by decide)) _) (sA_ne _ _ _ (by decide))) (fun q hq => by
      rw [sA_get]
      by_cases e : q = p
      · rw [if_pos ⟨rfl, e⟩]; rfl
      · rw [if_neg (fun h => e h.2)]; exact hz q (by omega))
set_option maxRecDepth 100000 in
set_option maxHeartbeats 4000000 in
theorem lp_X12_sure_b {S0 : ZS} {n : Nat} {c : Co} (hV0 : mV S0 c) (ok : Cok c) {R : Option Value → ZW → Prop} {rod : Nat} {rf : Int32} {l : List Nat} {g : Nat → Nat} (hp : l.Pairwise (· < ·)) (hl : ∀ x ∈ l, x ≤ cny c) {r : Nat} {W : Int32} (hK : ∀ S, sfw S0 S → shR S (SL c) → (∀ q, q ≤ cny c → S.1 46 q = nI (g q + if q ∈ l then 1 else 0)) → Z m_X12_sure 0 0 R 96 [some (.ref 25), some (.int (nI rod)), some (.int rf), some (.int (nI r)), some (.int (nI l.length))] [] (zw S n)) : ∀ (m k : Nat) (S : ZS), k + m = l.length → sfw S0 S → shR S (SL c) → wdR S l → (∀ q, q ≤ cny c → S.1 46 q = nI (g q + if q ∈ l.take k then 1 else 0)) → Z m_X12_sure 0 0 R 65 [some (.ref 25), some (.int (nI rod)), some (.int rf), some (.int (nI r)), some (.int (nI k))] [] (zw S n) := by
  intro m
  induction m with
  | zero =>
    intro k S h f s hw hz
    have hwl := hw.2.1
    obtain rfl : k = l.length := by omega
    rw [List.take_length] at hz
    refine Z_iload dX12_sure_65 rfl (pc' := 67) rfl ?_
    refine Z_aload_n dX12_sure_67 rfl (z_isref _) (pc' := 68) rfl ?_
    refine Z_gI dX12_sure_68 rfl zgi_RX12_178_25 (pc' := 71) rfl ?_
    rw [hw.1]
    refine Z_icmp_ge dX12_sure_71 (tgt := 96) rfl (pc' := 74) rfl (fun c_71 => ?_) (fun c_71 => absurd c_71 (fun c => c ((nI_len (by omega) (by omega)).mpr (by omega))))
    exact hK S f s hz
  | succ m ih =>
    intro k S h f s hw hz
    have hwl := hw.2.1
    have h48 := ok.2.1
    obtain ⟨x, hx⟩ : ∃ x, l[k]? = some x := ⟨l[k]'(by omega), List.getElem?_eq_getElem _⟩
    have hxc := hl x (List.mem_of_getElem? hx)
    refine Z_iload dX12_sure_65 rfl (pc' := 67) rfl ?_
    refine Z_aload_n dX12_sure_67 rfl (z_isref _) (pc' := 68) rfl ?_
    refine Z_gI dX12_sure_68 rfl zgi_RX12_178_25 (pc' := 71) rfl ?_
    rw [hw.1]
    refine Z_icmp_ge dX12_sure_71 (tgt := 96) rfl (pc' := 74) rfl (fun c_71 => absurd c_71 (by rw [nI_len (by omega) (by omega)]; omega)) (fun c_71 => ?_)
    refine Z_aload_n dX12_sure_74 rfl (z_isref _) (pc' := 75) rfl ?_
    refine Z_gR dX12_sure_75 rfl zgr_RX12_70_25 (pc' := 78) rfl ?_
    refine Z_aload_n dX12_sure_78 rfl (z_isref _) (pc' := 79) rfl ?_
    refine Z_gR dX12_sure_79 rfl zgr_RX12_64_25 (pc' := 82) rfl ?_
    refine Z_iload dX12_sure_82 rfl (pc' := 84) rfl ?_
    refine Z_il dX12_sure_84 zar_44 (zin (by omega) (by decide)) (pc' := 85) rfl ?_
    rw [nI_nat (by omega), hw.2.2 k x hx]
    refine Z_dup2 dX12_sure_85 rfl rfl (pc' := 86) rfl ?_
    refine Z_il dX12_sure_86 zar_46 (zin (by omega) (by decide)) (pc' := 87) rfl ?_
    rw [nI_nat (by omega), hz x hxc, if_neg (take_mem hp hx x).2]
    refine Z_iconst dX12_sure_87 (v := 1) (by decide) (pc' := 88) rfl ?_
    refine Z_iadd dX12_sure_88 (pc' := 89) rfl ?_
    refine Z_is dX12_sure_89 zar_46 (zin (by omega) (by decide)) (pc' := 90) rfl ?_
    rw [nI_nat (by omega), show nI (g x + 0) + 1 = nI (g x + 1) from nI_inc (g x)]
    refine Z_iinc dX12_sure_90 rfl (nI_inc k) (Nat.le_of_ble_eq_true rfl) rfl (ls' := [_, _, _, _, _]) rfl (pc' := 93) rfl ?_
    refine Z_goto dX12_sure_93 (tgt := 65) rfl ?_
    exact ih (k + 1) _ (by omega) (f.sA _ (by rfl)) (s.cg (congrFun (sA_ne _ _ _ (by decide)) _) (sA_ne _ _ _ (by decide))) (hw.cg (congrFun (sA_ne _ _ _ (by decide)) _) (sA_ne _ _ _ (by decide))) (fun q hq => by
      rw [sA_get]
      by_cases e : q = x
      · subst e; rw [if_pos ⟨rfl, rfl⟩, if_pos ((take_mem hp hx q).1.mpr (Or.inr rfl))]
      · rw [if_neg (fun h => e h.2), hz q hq]
        by_cases e2 : q ∈ l.take k
        · rw [if_pos e2, if_pos ((take_mem hp hx q).1.mpr (Or.inl e2))]
        · rw [if_neg e2, if_neg (fun h => ((take_mem hp hx q).1.mp h).elim e2 e)])
set_option maxRecDepth 100000 in
set_option maxHeartbeats 4000000 in
theorem lp_X12_sure_96 {S : ZS} {n r : Nat} {R : Option Value → ZW → Prop} {a b z : Int32} (hK : Z m_X12_sure 0 0 R 50 [some (.ref 25), some (.int a), some (.int b), some (.int (nI (r + 1)))] [] (zw S n)) : Z m_X12_sure 0 0 R 96 [some (.ref 25), some (.int a), some (.int b), some (.int (nI r)), some (.int z)] [] (zw S n) := by
  refine Z_iinc dX12_sure_96 rfl (nI_inc r) (Nat.le_of_ble_eq_true rfl) rfl (ls' := [_, _, _, _, _]) rfl (pc' := 99) rfl ?_
  refine Z_goto dX12_sure_99 (tgt := 50) rfl ?_
  refine Z_take 4 (ls' := [_, _, _, _]) rfl ?_
  exact hK
set_option maxRecDepth 100000 in
set_option maxHeartbeats 4000000 in
theorem lp_X12_sure_c {S0 : ZS} {n : Nat} {c : Co} (hV0 : mV S0 c) (ok : Cok c) {R : Option Value → ZW → Prop} {rod : Nat} {rf : Int32} (hr9 : rod ≤ 9) (hK : ∀ S, sfw S0 S → (∀ q, q ≤ cny c → S.1 46 q = nI (ctR c (shS c (ctd c)) rod q)) → Z m_X12_sure 0 0 R 102 [some (.ref 25), some (.int (nI rod)), some (.int rf), some (.int (nI (rod + 1)))] [] (zw S n)) : ∀ (m r : Nat) (S : ZS), r + m = rod → sfw S0 S → shR S (SL c) → (∀ q, q ≤ cny c → S.1 46 q = nI (ctR c (shS c (ctd c)) r q)) → Z m_X12_sure 0 0 R 50 [some (.ref 25), some (.int (nI rod)), some (.int rf), some (.int (nI (r + 1)))] [] (zw S n) := by
  intro m
  induction m with
  | zero =>
    intro r S h f s hz
    obtain rfl : r = rod := by omega
    refine Z_iload_n dX12_sure_50 rfl (pc' := 51) rfl ?_
    refine Z_iload_n dX12_sure_51 rfl (pc' := 52) rfl ?_
    refine Z_icmp_gt dX12_sure_52 (tgt := 102) rfl (pc' := 55) rfl (fun c_52 => ?_) (fun c_52 => absurd c_52 (fun c => c ((nI_ltn (by omega) (by omega)).mpr (by omega))))
    exact hK S f hz
  | succ m ih =>
    intro r S h f s hz
    refine Z_iload_n dX12_sure_50 rfl (pc' := 51) rfl ?_
    refine Z_iload_n dX12_sure_51 rfl (pc' := 52) rfl ?_
    refine Z_icmp_gt dX12_sure_52 (tgt := 102) rfl (pc' := 55) rfl (fun c_52 => absurd c_52 (by rw [nI_ltn (by omega) (by omega)]; omega)) (fun c_52 => ?_)
    refine Z_aload_n dX12_sure_55 rfl (z_isref _) (pc' := 56) rfl ?_
    refine Z_iload_n dX12_sure_56 rfl (pc' := 57) rfl ?_
    refine Z_iconst dX12_sure_57 (v := 0) (by decide) (pc' := 58) rfl ?_
    refine Z_cV dX12_sure_58 rfl zcw_X12_walks (As := [_, _]) (rest := []) rfl ⟨Nat.le_of_ble_eq_true rfl, Nat.le_of_ble_eq_true rfl⟩ (Nat.le_of_ble_eq_true rfl) (zRcv.lay zob_25) ⟨zcw_X12_walks.2.2.2.2, Nat.le_of_ble_eq_true rfl⟩ zk_RX12_188 (c_X12_walksSL (b := 0) (f.mv hV0) ok (by decide) s) (pc' := 61) rfl (fun r_58 w_58 h_58 => ?_)
    obtain ⟨rfl, S2, rfl, f2, s2, w2⟩ := h_58
    show Z _ _ _ _ _ _ [_] _
    refine Z_pop dX12_sure_61 rfl (pc' := 62) rfl ?_
    refine Z_iconst dX12_sure_62 (v := 0) (by decide) (pc' := 63) rfl ?_
    refine Z_istore dX12_sure_63 (Nat.le_of_ble_eq_true rfl) (Nat.le_of_ble_eq_true rfl) rfl (ls' := [_, _, _, _, _]) rfl (pc' := 65) rfl ?_
    refine lp_X12_sure_b (S0 := S0) (g := ctR c (shS c (ctd c)) r) (W := 0) hV0 ok (WL_nd _ _ _ _) (fun x hx => (WL_rng hx).2.1) (fun S3 f3 s3 z3 => ?_) (WL c (shS c (ctd c)) (nI (r + 1)) 0).length 0 S2 (by omega) (f.tr f2.w) s2 w2 (fun q hq => by rw [List.take_zero, if_neg (fun h => by cases h), Nat.add_zero, f2.2 46 q rfl]; exact hz q hq)
    exact lp_X12_sure_96 (ih (r + 1) S3 (by omega) f3 s3 (fun q hq => z3 q hq))
set_option maxRecDepth 100000 in
set_option maxHeartbeats 4000000 in
theorem lp_X12_sure_d {S : ZS} {n : Nat} {c : Co} (hV : mV S c) (ok : Cok c) {R : Option Value → ZW → Prop} {rod : Nat} {rf : Int32} {g : Nat → Nat} (hg : ∀ q, q ≤ cny c → S.1 46 q = nI (g q)) (hg9 : ∀ q, g q ≤ 9) (hr9 : rod ≤ 9) (hR : R (some (.int (nI (zct (fun p => decide (g p = rod)) (cny c + 1))))) (zw S n)) : ∀ (m p : Nat), p + m = cny c + 1 → Z m_X12_sure 0 0 R 107 [some (.ref 25), some (.int (nI rod)), some (.int rf), some (.int (nI (zct (fun p => decide (g p = rod)) p))), some (.int (nI p))] [] (zw S n) := by
  intro m
  induction m with
  | zero =>
    intro p h
    have h48 := ok.2.1
    obtain rfl : p = cny c + 1 := by omega
    refine Z_iload dX12_sure_107 rfl (pc' := 109) rfl ?_
    refine Z_aload_n dX12_sure_109 rfl (z_isref _) (pc' := 110) rfl ?_
    refine Z_gI dX12_sure_110 rfl zgi_RX12_117_25 (pc' := 113) rfl ?_
    rw [hV.1.2.1]
    refine Z_icmp_gt dX12_sure_113 (tgt := 141) rfl (pc' := 116) rfl (fun c_113 => ?_) (fun c_113 => absurd c_113 (fun c => c ((nI_ltn (by omega) (by omega)).mpr (by omega))))
    refine Z_iload_n dX12_sure_141 rfl (pc' := 142) rfl ?_
    exact Z_ireturn dX12_sure_142 rfl rfl hR
  | succ m ih =>
    intro p h
    have h48 := ok.2.1
    have h9 := hg9 p
    refine Z_iload dX12_sure_107 rfl (pc' := 109) rfl ?_
    refine Z_aload_n dX12_sure_109 rfl (z_isref _) (pc' := 110) rfl ?_
    refine Z_gI dX12_sure_110 rfl zgi_RX12_117_25 (pc' := 113) rfl ?_
    rw [hV.1.2.1]
    refine Z_icmp_gt dX12_sure_113 (tgt := 141) rfl (pc' := 116) rfl (fun c_113 => absurd c_113 (by rw [nI_ltn (by omega) (by omega)]; omega)) (fun c_113 => ?_)
    refine Z_iload_n dX12_sure_116 rfl (pc' := 117) rfl ?_
    refine Z_aload_n dX12_sure_117 rfl (z_isref _) (pc' := 118) rfl ?_
    refine Z_gR dX12_sure_118 rfl zgr_RX12_70_25 (pc' := 121) rfl ?_
    refine Z_iload dX12_sure_121 rfl (pc' := 123) rfl ?_
    refine Z_il dX12_sure_123 zar_46 (zin (by omega) (by decide)) (pc' := 124) rfl ?_
    rw [nI_nat (by omega), hg p (by omega)]
    refine Z_iload_n dX12_sure_124 rfl (pc' := 125) rfl ?_
    refine Z_icmp_ne dX12_sure_125 (tgt := 132) rfl (pc' := 128) rfl (fun c_125 => ?_) (fun c_125 => ?_)
    · refine Z_iconst dX12_sure_132 (v := 0) (by decide) (pc' := 133) rfl ?_
      refine Z_iadd dX12_sure_133 (pc' := 134) rfl ?_
      first | rw [show nI (zct (fun p => decide (g p = rod)) p) + 1 = nI (zct (fun p => decide (g p = rod)) (p + 1)) from by rw [show (1 : Int32) = nI 1 from rfl, nI_add, zct, if_pos (decide_eq_true ((nI_eqn (by omega) (by omega)).mp c_125))]] | rw [show nI (zct (fun p => decide (g p = rod)) p) + 0 = nI (zct (fun p => decide (g p = rod)) (p + 1)) from by rw [Int32.add_zero, zct, if_neg (fun q => c_125 ((nI_eqn (by omega) (by omega)).mpr (of_decide_eq_true q))), Nat.add_zero]]
      refine Z_istore_n dX12_sure_134 (Nat.le_of_ble_eq_true rfl) (Nat.le_of_ble_eq_true rfl) rfl (ls' := [_, _, _, _, _]) rfl (pc' := 135) rfl ?_
      refine Z_iinc dX12_sure_135 rfl (nI_inc p) (Nat.le_of_ble_eq_true rfl) rfl (ls' := [_, _, _, _, _]) rfl (pc' := 138) rfl ?_
      refine Z_goto dX12_sure_138 (tgt := 107) rfl ?_
      exact ih (p + 1) (by omega)
    · refine Z_iconst dX12_sure_128 (v := 1) (by decide) (pc' := 129) rfl ?_
      refine Z_goto dX12_sure_129 (tgt := 133) rfl ?_
      refine Z_iadd dX12_sure_133 (pc' := 134) rfl ?_
      first | rw [show nI (zct (fun p => decide (g p = rod)) p) + 1 = nI (zct (fun p => decide (g p = rod)) (p + 1)) from by rw [show (1 : Int32) = nI 1 from rfl, nI_add, zct, if_pos (decide_eq_true ((nI_eqn (by omega) (by omega)).mp c_125))]] | rw [show nI (zct (fun p => decide (g p = rod)) p) + 0 = nI (zct (fun p => decide (g p = rod)) (p + 1)) from by rw [Int32.add_zero, zct, if_neg (fun q => c_125 ((nI_eqn (by omega) (by omega)).mpr (of_decide_eq_true q))), Nat.add_zero]]
      refine Z_istore_n dX12_sure_134 (Nat.le_of_ble_eq_true rfl) (Nat.le_of_ble_eq_true rfl) rfl (ls' := [_, _, _, _, _]) rfl (pc' := 135) rfl ?_
      refine Z_iinc dX12_sure_135 rfl (nI_inc p) (Nat.le_of_ble_eq_true rfl) rfl (ls' := [_, _, _, _, _]) rfl (pc' := 138) rfl ?_
      refine Z_goto dX12_sure_138 (tgt := 107) rfl ?_
      exact ih (p + 1) (by omega)
set_option maxRecDepth 100000 in
set_option maxHeartbeats 4000000 in
theorem lp_X12_sure_48 {S : ZS} {n : Nat} {R : Option Value → ZW → Prop} {a b z : Int32} (hK : Z m_X12_sure 0 0 R 50 [some (.ref 25), some (.int a), some (.int b), some (.int (nI (0 + 1)))] [] (zw S n)) : Z m_X12_sure 0 0 R 48 [some (.ref 25), some (.int a), some (.int b), some (.int z)] [] (zw S n) := by
  refine Z_iconst dX12_sure_48 (v := 1) (by decide) (pc' := 49) rfl ?_
  refine Z_istore_n dX12_sure_49 (Nat.le_of_ble_eq_true rfl) (Nat.le_of_ble_eq_true rfl) rfl (ls' := [_, _, _, _]) rfl (pc' := 50) rfl ?_
  exact hK
set_option maxRecDepth 100000 in
set_option maxHeartbeats 4000000 in
theorem lp_X12_sure_102 {S : ZS} {n : Nat} {R : Option Value → ZW → Prop} {a b z : Int32} (hK : Z m_X12_sure 0 0 R 107 [some (.ref 25), some (.int a), some (.int b), some (.int (nI 0)), some (.int (nI 0))] [] (zw S n)) : Z m_X12_sure 0 0 R 102 [some (.ref 25), some (.int a), some (.int b), some (.int z)] [] (zw S n) := by
  refine Z_iconst dX12_sure_102 (v := 0) (by decide) (pc' := 103) rfl ?_
  refine Z_istore_n dX12_sure_103 (Nat.le_of_ble_eq_true rfl) (Nat.le_of_ble_eq_true rfl) rfl (ls' := [_, _, _, _]) rfl (pc' := 104) rfl ?_
  refine Z_iconst dX12_sure_104 (v := 0) (by decide) (pc' := 105) rfl ?_
  refine Z_istore dX12_sure_105 (Nat.le_of_ble_eq_true rfl) (Nat.le_of_ble_eq_true rfl) rfl (ls' := [_, _, _, _, _]) rfl (pc' := 107) rfl ?_
  exact hK
set_option maxRecDepth 100000 in
set_option maxHeartbeats 4000000 in
theorem c_X12_sure {S : ZS} {n : Nat} {M : Ms} (hI : MI S M) {a : Int32} : zM m_X12_sure 0 0 [.ref 25, .int a] (zw S n) (qR S n (spSure M a)) := by
  show Z m_X12_sure _ _ _ 0 [some (.ref _), some (.int _)] [] _
  refine Z_iload_n dX12_sure_0 rfl (pc' := 1) rfl ?_
  refine Z_iconst dX12_sure_1 (v := 1) (by decide) (pc' := 2) rfl ?_
  refine Z_bipush dX12_sure_2 (v := 9) (by decide) (pc' := 4) rfl ?_
  refine Z_cSe dX12_sure_4 rfl zcw_X12_bound (As := [_, _, _]) (rest := []) rfl ⟨Nat.le_of_ble_eq_true rfl, Nat.le_of_ble_eq_true rfl⟩ (Nat.le_of_ble_eq_true rfl) ⟨zcw_X12_bound.2.2.2.2, Nat.le_of_ble_eq_true rfl⟩ zk_RX12_77 c_X12_bound (pc' := 7) rfl ?_
  rw [bo_wr1]
  refine Z_istore_n dX12_sure_7 (Nat.le_of_ble_eq_true rfl) (Nat.le_of_ble_eq_true rfl) rfl (ls' := [_, _, _]) rfl (pc' := 8) rfl ?_
  refine Z_iload_n dX12_sure_8 rfl (pc' := 9) rfl ?_
  refine Z_if_eq dX12_sure_9 (tgt := 18) rfl (pc' := 12) rfl (fun c_9 => ?_) (fun c_9 => ?_)
  · have c0 := c_9
    obtain ⟨r, b, hr1, hr9, hb9, rfl, hb0⟩ := wrI_0 c_9
    refine Z_aload_n dX12_sure_18 rfl (z_isref _) (pc' := 19) rfl ?_
    refine Z_bipush dX12_sure_19 (v := (-9)) (by decide) (pc' := 21) rfl ?_
    refine Z_iconst dX12_sure_21 (v := 1) (by decide) (pc' := 22) rfl ?_
    refine Z_cV dX12_sure_22 rfl zcw_X12_findShore (As := [_, _]) (rest := []) rfl ⟨Nat.le_of_ble_eq_true rfl, Nat.le_of_ble_eq_true rfl⟩ (Nat.le_of_ble_eq_true rfl) (zRcv.lay zob_25) ⟨zcw_X12_findShore.2.2.2.2, Nat.le_of_ble_eq_true rfl⟩ zk_RX12_184 (c_X12_findShore1 hI.mv hI.ok) (pc' := 25) rfl (fun r_22 w_22 h_22 => ?_)
    obtain ⟨rfl, S1, rfl, f1, s1⟩ := h_22
    show Z _ _ _ _ _ _ [] _
    refine Z_iconst dX12_sure_25 (v := 0) (by decide) (pc' := 26) rfl ?_
    refine Z_istore_n dX12_sure_26 (Nat.le_of_ble_eq_true rfl) (Nat.le_of_ble_eq_true rfl) rfl (ls' := [_, _, _, _]) rfl (pc' := 27) rfl ?_
    refine lp_X12_sure_a (S0 := S) hI.mv hI.ok (fun S2 f2 s2 z2 => ?_) (cny (mc M) + 1) 0 S1 (by omega) f1.w s1 (fun q hq => by omega)
    refine lp_X12_sure_48 ?_
    refine lp_X12_sure_c (S0 := S) hI.mv hI.ok hr9 (fun S3 f3 z3 => ?_) r 0 S2 (by omega) f2 s2 z2
    refine lp_X12_sure_102 ?_
    exact lp_X12_sure_d (f3.mv hI.mv) hI.ok z3 (fun q => Nat.le_trans (ctR_le _ _ _ _) hr9) hr9 (qR.stw hI f3 (by unfold spSure; rw [if_neg (fun h => h c0), nI_nat (by omega), sure_eq hI.ok hr1]; rfl)) (cny (mc M) + 1) 0 (by omega)
  · obtain ⟨k, hk, hx, hy⟩ := wrI_k c_9
    refine Z_aload_n dX12_sure_12 rfl (z_isref _) (pc' := 13) rfl ?_
    refine Z_iload_n dX12_sure_13 rfl (pc' := 14) rfl ?_
    refine Z_cVe dX12_sure_14 rfl zcw_X12_no (As := [_]) (rest := []) rfl ⟨Nat.le_of_ble_eq_true rfl, Nat.le_of_ble_eq_true rfl⟩ (Nat.le_of_ble_eq_true rfl) (zRcv.lay zob_25) ⟨zcw_X12_no.2.2.2.2, Nat.le_of_ble_eq_true rfl⟩ zk_RX12_85 (c_X12_no hk hx) (pc' := 17) rfl ?_
    exact Z_ireturn dX12_sure_17 rfl rfl (qR.no hI sfr.rf hk (by unfold spSure noV; rw [if_pos c_9, hy]))
