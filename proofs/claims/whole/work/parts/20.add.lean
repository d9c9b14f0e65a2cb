theorem Z_pad {d : ZD} {kc ks : Nat} {R : Option Value → ZW → Prop} {pc : Nat} {ls ls' : List (Option Value)} {st : List Value} {ω : ZW} (hl : ls ++ [none] = ls') (k : Z d kc ks R pc ls' st ω) : Z d kc ks R pc ls st ω := by
  subst hl
  refine Z_fewer (fun j v hj => ?_) k
  rcases Nat.lt_or_ge j ls.length with h | h
  · rw [List.getElem?_append_left h] at hj; exact hj
  · rw [List.getElem?_append_right h] at hj
    cases hz : j - ls.length with
    | zero => rw [hz] at hj; simp at hj
    | succ m => rw [hz] at hj; simp at hj
def setN (c : Co) (a k v : Nat) : Co := (zup c.1 a (zup (c.1 a) k v), c.2)
def setX (c : Co) (a k : Nat) (v : Int32) : Co := (c.1, zup c.2 a (zup (c.2 a) k v))
/-- a stretch more, its yards to come -/
def addSt (c : Co) (kd fg ln : Nat) : Co := setN (setN (setN (setN (setN c 1 (cns c) kd) 2 (cns c) fg) 3 (cns c) (cny c + 1)) 4 (cns c) ln) 0 0 (cns c + 1)
/-- a yard more, of the last stretch -/
def addYd (c : Co) (x y : Int32) : Co := setX (setX (setN (setN c 5 (cny c + 1) (cns c - 1)) 0 1 (cny c + 1)) 0 (cny c + 1) x) 1 (cny c + 1) y
def addRk (c : Co) (x y lo hi : Nat) : Co := setN (setN (setN (setN (setN c 6 (cnr c) x) 7 (cnr c) y) 8 (cnr c) lo) 9 (cnr c) hi) 0 2 (cnr c + 1)
def setTd (c : Co) (t : Nat) : Co := setN c 0 3 t
theorem addSt_facts (c : Co) (kd fg ln : Nat) : cns (addSt c kd fg ln) = cns c + 1 ∧ cny (addSt c kd fg ln) = cny c ∧ cnr (addSt c kd fg ln) = cnr c ∧ ctd (addSt c kd fg ln) = ctd c ∧
    (∀ k, ckd (addSt c kd fg ln) k = if k = cns c then kd else ckd c k) ∧ (∀ k, cfg (addSt c kd fg ln) k = if k = cns c then fg else cfg c k) ∧ (∀ k, cfs (addSt c kd fg ln) k = if k = cns c then cny c + 1 else cfs c k) ∧ (∀ k, cln (addSt c kd fg ln) k = if k = cns c then ln else cln c k) ∧
    (∀ p, cso (addSt c kd fg ln) p = cso c p) ∧ (∀ k, crx (addSt c kd fg ln) k = crx c k ∧ cry (addSt c kd fg ln) k = cry c k ∧ clw (addSt c kd fg ln) k = clw c k ∧ chg (addSt c kd fg ln) k = chg c k) ∧ (∀ p, cxs (addSt c kd fg ln) p = cxs c p ∧ cys (addSt c kd fg ln) p = cys c p) := by
  exact ⟨rfl, rfl, rfl, rfl, fun _ => rfl, fun _ => rfl, fun _ => rfl, fun _ => rfl, fun _ => rfl, fun _ => ⟨rfl, rfl, rfl, rfl⟩, fun _ => ⟨rfl, rfl⟩⟩
theorem addYd_facts (c : Co) (x y : Int32) : cns (addYd c x y) = cns c ∧ cny (addYd c x y) = cny c + 1 ∧ cnr (addYd c x y) = cnr c ∧ ctd (addYd c x y) = ctd c ∧
    (∀ k, ckd (addYd c x y) k = ckd c k ∧ cfg (addYd c x y) k = cfg c k ∧ cfs (addYd c x y) k = cfs c k ∧ cln (addYd c x y) k = cln c k) ∧
    (∀ p, cso (addYd c x y) p = if p = cny c + 1 then cns c - 1 else cso c p) ∧ (∀ k, crx (addYd c x y) k = crx c k ∧ cry (addYd c x y) k = cry c k ∧ clw (addYd c x y) k = clw c k ∧ chg (addYd c x y) k = chg c k) ∧ (∀ p, cxs (addYd c x y) p = if p = cny c + 1 then x else cxs c p) ∧ (∀ p, cys (addYd c x y) p = if p = cny c + 1 then y else cys c p) := by
  exact ⟨rfl, rfl, rfl, rfl, fun _ => ⟨rfl, rfl, rfl, rfl⟩, fun _ => rfl, fun _ => ⟨rfl, rfl, rfl, rfl⟩, fun _ => rfl, fun _ => rfl⟩
theorem addRk_facts (c : Co) (x y lo hi : Nat) : cns (addRk c x y lo hi) = cns c ∧ cny (addRk c x y lo hi) = cny c ∧ cnr (addRk c x y lo hi) = cnr c + 1 ∧ ctd (addRk c x y lo hi) = ctd c ∧
    (∀ k, ckd (addRk c x y lo hi) k = ckd c k ∧ cfg (addRk c x y lo hi) k = cfg c k ∧ cfs (addRk c x y lo hi) k = cfs c k ∧ cln (addRk c x y lo hi) k = cln c k) ∧
    (∀ p, cso (addRk c x y lo hi) p = cso c p) ∧ (∀ k, crx (addRk c x y lo hi) k = if k = cnr c then x else crx c k) ∧ (∀ k, cry (addRk c x y lo hi) k = if k = cnr c then y else cry c k) ∧ (∀ k, clw (addRk c x y lo hi) k = if k = cnr c then lo else clw c k) ∧ (∀ k, chg (addRk c x y lo hi) k = if k = cnr c then hi else chg c k) ∧ (∀ p, cxs (addRk c x y lo hi) p = cxs c p ∧ cys (addRk c x y lo hi) p = cys c p) := by
  exact ⟨rfl, rfl, rfl, rfl, fun _ => ⟨rfl, rfl, rfl, rfl⟩, fun _ => rfl, fun _ => rfl, fun _ => rfl, fun _ => rfl, fun _ => rfl, fun _ => ⟨rfl, rfl⟩⟩
theorem setTd_facts (c : Co) (t : Nat) : cns (setTd c t) = cns c ∧ cny (setTd c t) = cny c ∧ cnr (setTd c t) = cnr c ∧ ctd (setTd c t) = t ∧
    (∀ k, ckd (setTd c t) k = ckd c k ∧ cfg (setTd c t) k = cfg c k ∧ cfs (setTd c t) k = cfs c k ∧ cln (setTd c t) k = cln c k) ∧
    (∀ p, cso (setTd c t) p = cso c p) ∧ (∀ k, crx (setTd c t) k = crx c k ∧ cry (setTd c t) k = cry c k ∧ clw (setTd c t) k = clw c k ∧ chg (setTd c t) k = chg c k) ∧ (∀ p, cxs (setTd c t) p = cxs c p ∧ cys (setTd c t) p = cys c p) := by
  exact ⟨rfl, rfl, rfl, rfl, fun _ => ⟨rfl, rfl, rfl, rfl⟩, fun _ => rfl, fun _ => ⟨rfl, rfl, rfl, rfl⟩, fun _ => ⟨rfl, rfl⟩⟩
/-- a stretch comes -/
def asR (S : ZS) (n b : Nat) (c : Co) (kd fg ln : Nat) (r : Option Value) (ω : ZW) : Prop := (cns c < 8 ∧ cny c + ln ≤ 48 ∧ kd ≤ 5 ∧ r = some (.int 1) ∧ ∃ S', ω = zw S' (n + 1) ∧ frm b (b + 5) S n S' (n + 1) ∧ cV S' (n + 1) b (addSt c kd fg ln)) ∨ (¬ (cns c < 8 ∧ cny c + ln ≤ 48 ∧ kd ≤ 5) ∧ r = some (.int 0) ∧ ω = zw S n)
theorem as_V {S : ZS} {n b : Nat} {c : Co} {kd fg ln : Nat} (hV : cV S n b c) : cV (sA (sB (sP S n (zcl kd, [nI fg, nI (cny c + 1), nI ln])) (b + 1) (cns c) (some (48 + n))) b 1 (nI (cns c + 1))) (n + 1) b (addSt c kd fg ln) := by
  obtain ⟨e1, e2, e3, e4, e5, e6, e7, e8, e9, e10, e11⟩ := addSt_facts c kd fg ln
  refine ⟨?_, ?_, ?_, ⟨?_, fun k hk => ?_⟩, fun k hk => ?_, fun p hp => ?_⟩
  · rw [sA_same, zup_same, e1]
  · rw [sA_same, zup_ne _ _ (by decide), e2]; exact hV.yd
  · rw [sA_same, zup_ne _ _ (by decide), e4]; exact hV.td
  · rw [sA_ne _ _ _ (by omega), e3]; exact hV.rk.1
  · rw [e3] at hk
    obtain ⟨j, h1, h2, h3⟩ := hV.rk.2 k hk
    refine ⟨j, by omega, ?_, ?_⟩
    · show zup S.2.1 (b + 1) _ (b + 4 + 1) k = _
      rw [zup_ne _ _ (by omega)]; exact h2
    · show zup S.2.2 n _ j = _
      rw [zup_ne _ _ (by omega), (e10 k).1, (e10 k).2.1, (e10 k).2.2.1, (e10 k).2.2.2]; exact h3
  · rw [e1] at hk
    rw [e5, e6, e7, e8]
    by_cases h : k = cns c
    · subst h
      refine ⟨n, by omega, ?_, ?_⟩
      · show zup S.2.1 (b + 1) _ (b + 1) _ = _
        rw [zup_same, zup_same]
      · show zup S.2.2 n _ n = _
        rw [zup_same, if_pos rfl, if_pos rfl, if_pos rfl, if_pos rfl]
    · obtain ⟨j, h1, h2, h3⟩ := hV.2.2.2.2.1 k (by omega)
      refine ⟨j, by omega, ?_, ?_⟩
      · show zup S.2.1 (b + 1) _ (b + 1) _ = _
        rw [zup_same, zup_ne _ _ h]; exact h2
      · show zup S.2.2 n _ j = _
        rw [zup_ne _ _ (by omega), if_neg h, if_neg h, if_neg h, if_neg h]; exact h3
  · rw [e2] at hp
    rw [sA_ne _ _ _ (by omega), sA_ne _ _ _ (by omega), (e11 p).1, (e11 p).2]
    exact hV.2.2.2.2.2 p hp
set_option maxRecDepth 100000 in
set_option maxHeartbeats 4000000 in
theorem c_X2_appendStretch_t {S : ZS} {n b kd fg ln : Nat} {c : Co} (hb : cB b) (hV : cV S n b c) (h8 : cns c < 8) (h48 : cny c + ln ≤ 48) (hkd : kd ≤ 5) {x1 x2 x3 : Int32} : Z m_X2_appendStretch 0 0 (asR S n b c kd fg ln) 178 [some (.ref b), some (.int x1), some (.int x2), some (.int x3), some (.ref (48 + n)), some (.int (nI (cny c + 1)))] [] (zw (sP S n (zcl kd, [nI fg, nI (cny c + 1), nI ln])) (n + 1)) := by
  refine Z_aload_n dX2_appendStretch_178 rfl (z_isref _) (pc' := 179) rfl ?_
  refine Z_gR dX2_appendStretch_179 rfl (zgr_RX2_11_b_0 hb) (pc' := 182) rfl ?_
  refine Z_aload_n dX2_appendStretch_182 rfl (z_isref _) (pc' := 183) rfl ?_
  refine Z_gI dX2_appendStretch_183 rfl (zgi_RX2_31_b_0 hb) (pc' := 186) rfl ?_
  rw [show (sP S n (zcl kd, [nI fg, nI (cny c + 1), nI ln])).1 b 1 = nI (cns c) from hV.cnt]
  obtain ⟨rc, hrc, hca⟩ := zcl_lt hkd
  refine Z_aload dX2_appendStretch_186 rfl (z_isref _) (pc' := 188) rfl ?_
  refine Z_qs dX2_appendStretch_188 (zaq_b_1 hb) (Nat.lt_succ_self n) (r := rc) (by rw [sP_at]; exact hrc) hca (zin h8 (by decide)) (pc' := 189) rfl ?_
  rw [nI_nat (by omega)]
  refine Z_aload_n dX2_appendStretch_189 rfl (z_isref _) (pc' := 190) rfl ?_
  refine Z_dup dX2_appendStretch_190 rfl (pc' := 191) rfl ?_
  refine Z_gI dX2_appendStretch_191 rfl (zgi_RX2_31_b_0 hb) (pc' := 194) rfl ?_
  rw [show (sB (sP S n (zcl kd, [nI fg, nI (cny c + 1), nI ln])) (b + 1) (cns c) (some (48 + n))).1 b 1 = nI (cns c) from hV.cnt]
  refine Z_iconst dX2_appendStretch_194 (v := 1) (by decide) (pc' := 195) rfl ?_
  refine Z_iadd dX2_appendStretch_195 (pc' := 196) rfl ?_
  rw [nI_1]
  refine Z_pI dX2_appendStretch_196 rfl (zpi_RX2_31_b_0 hb) (pc' := 199) rfl ?_
  refine Z_iconst dX2_appendStretch_199 (v := 1) (by decide) (pc' := 200) rfl ?_
  exact Z_ireturn dX2_appendStretch_200 rfl rfl (Or.inl ⟨h8, h48, hkd, rfl, _, rfl, ((frm.rf.sP _).sB _ _ (by omega) (by omega)).sA _ _ (by omega) (by omega), as_V hV⟩)
set_option maxRecDepth 100000 in
set_option maxHeartbeats 4000000 in
theorem c_X2_appendStretch {S : ZS} {n b kd fg ln : Nat} {c : Co} (hb : cB b) (hV : cV S n b c) (hns : cns c ≤ 8) (hny : cny c ≤ 48) (hkd : kd ≤ 9) (hln : ln ≤ 9) : zM m_X2_appendStretch 1 3 [.ref b, .int (nI kd), .int (nI fg), .int (nI ln)] (zw S n) (asR S n b c kd fg ln) := by
  show Z m_X2_appendStretch _ _ _ 0 [some (.ref _), some (.int _), some (.int _), some (.int _)] [] _
  refine Z_aload_n dX2_appendStretch_0 rfl (z_isref _) (pc' := 1) rfl ?_
  refine Z_gI dX2_appendStretch_1 rfl (zgi_RX2_31_b_0 hb) (pc' := 4) rfl ?_
  rw [hV.cnt]
  refine Z_if_lt dX2_appendStretch_4 (tgt := 30) rfl (pc' := 7) rfl (fun c_4 => absurd c_4 (nI_neg (by omega))) (fun c_4 => ?_)
  refine Z_aload_n dX2_appendStretch_7 rfl (z_isref _) (pc' := 8) rfl ?_
  refine Z_gI dX2_appendStretch_8 rfl (zgi_RX2_31_b_0 hb) (pc' := 11) rfl ?_
  refine Z_aload_n dX2_appendStretch_11 rfl (z_isref _) (pc' := 12) rfl ?_
  refine Z_gR dX2_appendStretch_12 rfl (zgr_RX2_11_b_0 hb) (pc' := 15) rfl ?_
  rw [hV.cnt]
  refine Z_alq dX2_appendStretch_15 (zaq_b_1 hb) (v := 8) (by decide) (pc' := 16) rfl ?_
  refine Z_icmp_ge dX2_appendStretch_16 (tgt := 30) rfl (pc' := 19) rfl (fun c_16 => ?_) (fun c_16 => ?_)
  · refine Z_iconst dX2_appendStretch_30 (v := 0) (by decide) (pc' := 31) rfl ?_
    exact Z_ireturn dX2_appendStretch_31 rfl rfl (Or.inr ⟨fun h => by rw [nI8, nI_len (by omega) (by omega)] at c_16; omega, rfl, rfl⟩)
  · have h8 : cns c < 8 := by rw [nI8, nI_len (by omega) (by omega)] at c_16; omega
    refine Z_aload_n dX2_appendStretch_19 rfl (z_isref _) (pc' := 20) rfl ?_
    refine Z_gI dX2_appendStretch_20 rfl (zgi_RX2_39_b_0 hb) (pc' := 23) rfl ?_
    rw [hV.yd]
    refine Z_iload_n dX2_appendStretch_23 rfl (pc' := 24) rfl ?_
    refine Z_iadd dX2_appendStretch_24 (pc' := 25) rfl ?_
    rw [nI_add]
    refine Z_bipush dX2_appendStretch_25 (v := 48) (by decide) (pc' := 27) rfl ?_
    refine Z_icmp_le dX2_appendStretch_27 (tgt := 32) rfl (pc' := 30) rfl (fun c_27 => ?_) (fun c_27 => ?_)
    · have h48 : cny c + ln ≤ 48 := by rw [nI48, nI_len (by omega) (by omega)] at c_27; exact c_27
      refine Z_aload_n dX2_appendStretch_32 rfl (z_isref _) (pc' := 33) rfl ?_
      refine Z_gI dX2_appendStretch_33 rfl (zgi_RX2_39_b_0 hb) (pc' := 36) rfl ?_
      rw [hV.yd]
      refine Z_iconst dX2_appendStretch_36 (v := 1) (by decide) (pc' := 37) rfl ?_
      refine Z_iadd dX2_appendStretch_37 (pc' := 38) rfl ?_
      rw [nI_1]
      refine Z_pad (ls' := [_, _, _, _, none]) rfl ?_
      refine Z_istore dX2_appendStretch_38 (Nat.le_of_ble_eq_true rfl) (Nat.le_of_ble_eq_true rfl) rfl (ls' := [_, _, _, _, _, _]) rfl (pc' := 40) rfl ?_
      refine Z_iload_n dX2_appendStretch_40 rfl (pc' := 41) rfl ?_
      refine Z_topi (fun x_41 e_41 => ?_)
      by_cases k_41_0 : x_41 = 0
      · subst k_41_0
        obtain rfl : kd = 0 := ((nI_eqn (a := 0) (b := kd) (by omega) (by omega)).mp e_41).symm
        refine Z_tableIn dX2_appendStretch_41 (by decide) (by decide) (off := 39) rfl (tgt := 80) rfl ?_
        refine Z_nP (kc := 0) (ks := 0) dX2_appendStretch_80 rfl (ci := 9) (C0 := RX9) (T := TX9) (N := 3) rfl zin_9 zft_9 zw_78 zw_260 zw_54 (fs := [0, 0, 0]) (fun j hj => by rcases (show j = 0 ∨ j = 1 ∨ j = 2 by omega) with rfl | rfl | rfl <;> rfl) (pc' := 83) rfl ?_
        refine Z_dup dX2_appendStretch_83 rfl (pc' := 84) rfl ?_
        refine Z_iload_n dX2_appendStretch_84 rfl (pc' := 85) rfl ?_
        refine Z_iload dX2_appendStretch_85 rfl (pc' := 87) rfl ?_
        refine Z_iload_n dX2_appendStretch_87 rfl (pc' := 88) rfl ?_
        refine Z_cIv dX2_appendStretch_88 rfl zcw_X9_init (As := [_, _, _]) (rest := [_]) rfl ⟨Nat.le_of_ble_eq_true rfl, Nat.le_of_ble_eq_true rfl⟩ (Nat.le_of_ble_eq_true rfl) rfl rfl ⟨zcw_X9_init.2.2.2.2, Nat.le_of_ble_eq_true rfl⟩ zk_RX2_56 (c_X9_init_9 (Nat.lt_succ_self n) (sP_at _ _ _)) (pc' := 91) rfl ?_
        rw [sP_sP]
        refine Z_astore dX2_appendStretch_91 (Nat.le_of_ble_eq_true rfl) (Nat.le_of_ble_eq_true rfl) rfl (ls' := [_, _, _, _, _, _]) rfl (z_isref _) (pc' := 93) rfl ?_
        refine Z_goto dX2_appendStretch_93 (tgt := 178) rfl ?_
        exact c_X2_appendStretch_t hb hV h8 h48 (by decide)
      by_cases k_41_1 : x_41 = 1
      · subst k_41_1
        obtain rfl : kd = 1 := ((nI_eqn (a := 1) (b := kd) (by omega) (by omega)).mp e_41).symm
        refine Z_tableIn dX2_appendStretch_41 (by decide) (by decide) (off := 55) rfl (tgt := 96) rfl ?_
        refine Z_nP (kc := 0) (ks := 0) dX2_appendStretch_96 rfl (ci := 8) (C0 := RX8) (T := TX8) (N := 3) rfl zin_8 zft_8 zw_284 zw_285 zw_55 (fs := [0, 0, 0]) (fun j hj => by rcases (show j = 0 ∨ j = 1 ∨ j = 2 by omega) with rfl | rfl | rfl <;> rfl) (pc' := 99) rfl ?_
        refine Z_dup dX2_appendStretch_99 rfl (pc' := 100) rfl ?_
        refine Z_iload_n dX2_appendStretch_100 rfl (pc' := 101) rfl ?_
        refine Z_iload dX2_appendStretch_101 rfl (pc' := 103) rfl ?_
        refine Z_iload_n dX2_appendStretch_103 rfl (pc' := 104) rfl ?_
        refine Z_cIv dX2_appendStretch_104 rfl zcw_X8_init (As := [_, _, _]) (rest := [_]) rfl ⟨Nat.le_of_ble_eq_true rfl, Nat.le_of_ble_eq_true rfl⟩ (Nat.le_of_ble_eq_true rfl) rfl rfl ⟨zcw_X8_init.2.2.2.2, Nat.le_of_ble_eq_true rfl⟩ zk_RX2_61 (c_X8_init_8 (Nat.lt_succ_self n) (sP_at _ _ _)) (pc' := 107) rfl ?_
        rw [sP_sP]
        refine Z_astore dX2_appendStretch_107 (Nat.le_of_ble_eq_true rfl) (Nat.le_of_ble_eq_true rfl) rfl (ls' := [_, _, _, _, _, _]) rfl (z_isref _) (pc' := 109) rfl ?_
        refine Z_goto dX2_appendStretch_109 (tgt := 178) rfl ?_
        exact c_X2_appendStretch_t hb hV h8 h48 (by decide)
      by_cases k_41_2 : x_41 = 2
      · subst k_41_2
        obtain rfl : kd = 2 := ((nI_eqn (a := 2) (b := kd) (by omega) (by omega)).mp e_41).symm
        refine Z_tableIn dX2_appendStretch_41 (by decide) (by decide) (off := 71) rfl (tgt := 112) rfl ?_
        refine Z_nP (kc := 0) (ks := 0) dX2_appendStretch_112 rfl (ci := 5) (C0 := RX5) (T := TX5) (N := 3) rfl zin_5 zft_5 zw_294 zw_295 zw_56 (fs := [0, 0, 0]) (fun j hj => by rcases (show j = 0 ∨ j = 1 ∨ j = 2 by omega) with rfl | rfl | rfl <;> rfl) (pc' := 115) rfl ?_
        refine Z_dup dX2_appendStretch_115 rfl (pc' := 116) rfl ?_
        refine Z_iload_n dX2_appendStretch_116 rfl (pc' := 117) rfl ?_
        refine Z_iload dX2_appendStretch_117 rfl (pc' := 119) rfl ?_
        refine Z_iload_n dX2_appendStretch_119 rfl (pc' := 120) rfl ?_
        refine Z_cIv dX2_appendStretch_120 rfl zcw_X5_init (As := [_, _, _]) (rest := [_]) rfl ⟨Nat.le_of_ble_eq_true rfl, Nat.le_of_ble_eq_true rfl⟩ (Nat.le_of_ble_eq_true rfl) rfl rfl ⟨zcw_X5_init.2.2.2.2, Nat.le_of_ble_eq_true rfl⟩ zk_RX2_64 (c_X5_init_5 (Nat.lt_succ_self n) (sP_at _ _ _)) (pc' := 123) rfl ?_
        rw [sP_sP]
        refine Z_astore dX2_appendStretch_123 (Nat.le_of_ble_eq_true rfl) (Nat.le_of_ble_eq_true rfl) rfl (ls' := [_, _, _, _, _, _]) rfl (z_isref _) (pc' := 125) rfl ?_
        refine Z_goto dX2_appendStretch_125 (tgt := 178) rfl ?_
        exact c_X2_appendStretch_t hb hV h8 h48 (by decide)
      by_cases k_41_3 : x_41 = 3
      · subst k_41_3
        obtain rfl : kd = 3 := ((nI_eqn (a := 3) (b := kd) (by omega) (by omega)).mp e_41).symm
        refine Z_tableIn dX2_appendStretch_41 (by decide) (by decide) (off := 87) rfl (tgt := 128) rfl ?_
        refine Z_nP (kc := 0) (ks := 0) dX2_appendStretch_128 rfl (ci := 1) (C0 := RX1) (T := TX1) (N := 3) rfl zin_1 zft_1 zw_304 zw_305 zw_57 (fs := [0, 0, 0]) (fun j hj => by rcases (show j = 0 ∨ j = 1 ∨ j = 2 by omega) with rfl | rfl | rfl <;> rfl) (pc' := 131) rfl ?_
        refine Z_dup dX2_appendStretch_131 rfl (pc' := 132) rfl ?_
        refine Z_iload_n dX2_appendStretch_132 rfl (pc' := 133) rfl ?_
        refine Z_iload dX2_appendStretch_133 rfl (pc' := 135) rfl ?_
        refine Z_iload_n dX2_appendStretch_135 rfl (pc' := 136) rfl ?_
        refine Z_cIv dX2_appendStretch_136 rfl zcw_X1_init (As := [_, _, _]) (rest := [_]) rfl ⟨Nat.le_of_ble_eq_true rfl, Nat.le_of_ble_eq_true rfl⟩ (Nat.le_of_ble_eq_true rfl) rfl rfl ⟨zcw_X1_init.2.2.2.2, Nat.le_of_ble_eq_true rfl⟩ zk_RX2_67 (c_X1_init_1 (Nat.lt_succ_self n) (sP_at _ _ _)) (pc' := 139) rfl ?_
        rw [sP_sP]
        refine Z_astore dX2_appendStretch_139 (Nat.le_of_ble_eq_true rfl) (Nat.le_of_ble_eq_true rfl) rfl (ls' := [_, _, _, _, _, _]) rfl (z_isref _) (pc' := 141) rfl ?_
        refine Z_goto dX2_appendStretch_141 (tgt := 178) rfl ?_
        exact c_X2_appendStretch_t hb hV h8 h48 (by decide)
      by_cases k_41_4 : x_41 = 4
      · subst k_41_4
        obtain rfl : kd = 4 := ((nI_eqn (a := 4) (b := kd) (by omega) (by omega)).mp e_41).symm
        refine Z_tableIn dX2_appendStretch_41 (by decide) (by decide) (off := 103) rfl (tgt := 144) rfl ?_
        refine Z_nP (kc := 0) (ks := 0) dX2_appendStretch_144 rfl (ci := 4) (C0 := RX4) (T := TX4) (N := 3) rfl zin_4 zft_4 zw_314 zw_315 zw_58 (fs := [0, 0, 0]) (fun j hj => by rcases (show j = 0 ∨ j = 1 ∨ j = 2 by omega) with rfl | rfl | rfl <;> rfl) (pc' := 147) rfl ?_
        refine Z_dup dX2_appendStretch_147 rfl (pc' := 148) rfl ?_
        refine Z_iload_n dX2_appendStretch_148 rfl (pc' := 149) rfl ?_
        refine Z_iload dX2_appendStretch_149 rfl (pc' := 151) rfl ?_
        refine Z_iload_n dX2_appendStretch_151 rfl (pc' := 152) rfl ?_
        refine Z_cIv dX2_appendStretch_152 rfl zcw_X4_init (As := [_, _, _]) (rest := [_]) rfl ⟨Nat.le_of_ble_eq_true rfl, Nat.le_of_ble_eq_true rfl⟩ (Nat.le_of_ble_eq_true rfl) rfl rfl ⟨zcw_X4_init.2.2.2.2, Nat.le_of_ble_eq_true rfl⟩ zk_RX2_70 (c_X4_init_4 (Nat.lt_succ_self n) (sP_at _ _ _)) (pc' := 155) rfl ?_
        rw [sP_sP]
        refine Z_astore dX2_appendStretch_155 (Nat.le_of_ble_eq_true rfl) (Nat.le_of_ble_eq_true rfl) rfl (ls' := [_, _, _, _, _, _]) rfl (z_isref _) (pc' := 157) rfl ?_
        refine Z_goto dX2_appendStretch_157 (tgt := 178) rfl ?_
        exact c_X2_appendStretch_t hb hV h8 h48 (by decide)
      by_cases k_41_5 : x_41 = 5
      · subst k_41_5
        obtain rfl : kd = 5 := ((nI_eqn (a := 5) (b := kd) (by omega) (by omega)).mp e_41).symm
        refine Z_tableIn dX2_appendStretch_41 (by decide) (by decide) (off := 119) rfl (tgt := 160) rfl ?_
        refine Z_nP (kc := 0) (ks := 0) dX2_appendStretch_160 rfl (ci := 10) (C0 := RX10) (T := TX10) (N := 3) rfl zin_10 zft_10 zw_324 zw_325 zw_59 (fs := [0, 0, 0]) (fun j hj => by rcases (show j = 0 ∨ j = 1 ∨ j = 2 by omega) with rfl | rfl | rfl <;> rfl) (pc' := 163) rfl ?_
        refine Z_dup dX2_appendStretch_163 rfl (pc' := 164) rfl ?_
        refine Z_iload_n dX2_appendStretch_164 rfl (pc' := 165) rfl ?_
        refine Z_iload dX2_appendStretch_165 rfl (pc' := 167) rfl ?_
        refine Z_iload_n dX2_appendStretch_167 rfl (pc' := 168) rfl ?_
        refine Z_cIv dX2_appendStretch_168 rfl zcw_X10_init (As := [_, _, _]) (rest := [_]) rfl ⟨Nat.le_of_ble_eq_true rfl, Nat.le_of_ble_eq_true rfl⟩ (Nat.le_of_ble_eq_true rfl) rfl rfl ⟨zcw_X10_init.2.2.2.2, Nat.le_of_ble_eq_true rfl⟩ zk_RX2_73 (c_X10_init_10 (Nat.lt_succ_self n) (sP_at _ _ _)) (pc' := 171) rfl ?_
        rw [sP_sP]
        refine Z_astore dX2_appendStretch_171 (Nat.le_of_ble_eq_true rfl) (Nat.le_of_ble_eq_true rfl) rfl (ls' := [_, _, _, _, _, _]) rfl (z_isref _) (pc' := 173) rfl ?_
        refine Z_goto dX2_appendStretch_173 (tgt := 178) rfl ?_
        exact c_X2_appendStretch_t hb hV h8 h48 (by decide)
      refine Z_tableOut dX2_appendStretch_41 (by have h0 := i32_nev k_41_0 (v := 0) (by decide); have h1 := i32_nev k_41_1 (v := 1) (by decide); have h2 := i32_nev k_41_2 (v := 2) (by decide); have h3 := i32_nev k_41_3 (v := 3) (by decide); have h4 := i32_nev k_41_4 (v := 4) (by decide); have h5 := i32_nev k_41_5 (v := 5) (by decide); omega) (tgt := 176) rfl ?_
      refine Z_iconst dX2_appendStretch_176 (v := 0) (by decide) (pc' := 177) rfl ?_
      exact Z_ireturn dX2_appendStretch_177 rfl rfl (Or.inr ⟨fun h => by have e := h.2.2; have h6 : kd = 0 ∨ kd = 1 ∨ kd = 2 ∨ kd = 3 ∨ kd = 4 ∨ kd = 5 := (by omega); rcases h6 with rfl | rfl | rfl | rfl | rfl | rfl <;> first | exact k_41_0 e_41 | exact k_41_1 e_41 | exact k_41_2 e_41 | exact k_41_3 e_41 | exact k_41_4 e_41 | exact k_41_5 e_41, rfl, rfl⟩)
    · refine Z_iconst dX2_appendStretch_30 (v := 0) (by decide) (pc' := 31) rfl ?_
      exact Z_ireturn dX2_appendStretch_31 rfl rfl (Or.inr ⟨fun h => by rw [nI48, nI_len (by omega) (by omega)] at c_27; omega, rfl, rfl⟩)
def xW (c : Co) (y : Int32) : Int32 := cxs c (cny c) + (if y = 101 then 1 else 0) - (if y = 119 then 1 else 0)
def yW (c : Co) (y : Int32) : Int32 := cys c (cny c) + (if y = 110 then 1 else 0) - (if y = 115 then 1 else 0)
def ayR (S : ZS) (n b : Nat) (c : Co) (x y : Int32) (r : Option Value) (ω : ZW) : Prop := r = none ∧ ∃ S', ω = zw S' n ∧ frm b (b + 5) S n S' n ∧ cV S' n b (addYd c x y)
theorem ay_V {S : ZS} {n b : Nat} {c : Co} {x y : Int32} (hV : cV S n b c) : cV (sA (sA (sA S (b + 2) (cny c + 1) x) (b + 3) (cny c + 1) y) b 4 (nI (cny c + 1))) n b (addYd c x y) := by
  obtain ⟨e1, e2, e3, e4, e5, e6, e7, e8, e9⟩ := addYd_facts c x y
  refine ⟨?_, ?_, ?_, ⟨?_, fun k hk => ?_⟩, fun k hk => ?_, fun p hp => ?_⟩
  · rw [sA_same, zup_ne _ _ (by decide), sA_ne _ _ _ (by omega), sA_ne _ _ _ (by omega), e1]; exact hV.cnt
  · rw [sA_same, zup_same, e2]
  · rw [sA_same, zup_ne _ _ (by decide), sA_ne _ _ _ (by omega), sA_ne _ _ _ (by omega), e4]; exact hV.td
  · rw [sA_ne _ _ _ (by omega), sA_ne _ _ _ (by omega), sA_ne _ _ _ (by omega), e3]; exact hV.rk.1
  · rw [e3] at hk
    rw [(e7 k).1, (e7 k).2.1, (e7 k).2.2.1, (e7 k).2.2.2]
    exact hV.rk.2 k hk
  · rw [e1] at hk
    rw [(e5 k).1, (e5 k).2.1, (e5 k).2.2.1, (e5 k).2.2.2]
    exact hV.2.2.2.2.1 k hk
  · rw [e2] at hp
    rw [sA_ne _ _ _ (show b + 2 ≠ b by omega), sA_ne _ _ _ (show b + 2 ≠ b + 3 by omega), sA_same, sA_ne _ _ _ (show b + 3 ≠ b by omega), sA_same, sA_ne _ _ _ (show b + 3 ≠ b + 2 by omega), e8, e9]
    by_cases h : p = cny c + 1
    · subst h; rw [zup_same, zup_same, if_pos rfl, if_pos rfl]; exact ⟨rfl, rfl⟩
    · rw [zup_ne _ _ h, zup_ne _ _ h, if_neg h, if_neg h]; exact hV.2.2.2.2.2 p (by omega)
set_option maxRecDepth 100000 in
set_option maxHeartbeats 4000000 in
theorem c_X2_appendYard_t {S : ZS} {n b : Nat} {c : Co} {u x y : Int32} (hb : cB b) (hV : cV S n b c) (hny : cny c < 48) : Z m_X2_appendYard 0 0 (ayR S n b c x y) 66 [some (.ref b), some (.int u), some (.int x), some (.int y)] [] (zw S n) := by
  refine Z_aload_n dX2_appendYard_66 rfl (z_isref _) (pc' := 67) rfl ?_
  refine Z_gI dX2_appendYard_67 rfl (zgi_RX2_39_b_0 hb) (pc' := 70) rfl ?_
  rw [hV.yd]
  refine Z_iconst dX2_appendYard_70 (v := 1) (by decide) (pc' := 71) rfl ?_
  refine Z_iadd dX2_appendYard_71 (pc' := 72) rfl ?_
  rw [nI_1]
  refine Z_istore dX2_appendYard_72 (Nat.le_of_ble_eq_true rfl) (Nat.le_of_ble_eq_true rfl) rfl (ls' := [_, _, _, _, _]) rfl (pc' := 74) rfl ?_
  refine Z_iload dX2_appendYard_74 rfl (pc' := 76) rfl ?_
  refine Z_if_lt dX2_appendYard_76 (tgt := 121) rfl (pc' := 79) rfl (fun c_76 => absurd c_76 (nI_neg (by omega))) (fun c_76 => ?_)
  refine Z_iload dX2_appendYard_79 rfl (pc' := 81) rfl ?_
  refine Z_aload_n dX2_appendYard_81 rfl (z_isref _) (pc' := 82) rfl ?_
  refine Z_gR dX2_appendYard_82 rfl (zgr_RX2_17_b_0 hb) (pc' := 85) rfl ?_
  refine Z_al dX2_appendYard_85 (zar_b_2 hb) (v := 49) (by decide) (pc' := 86) rfl ?_
  refine Z_icmp_ge dX2_appendYard_86 (tgt := 121) rfl (pc' := 89) rfl (fun c_86 => absurd c_86 (by rw [show (49 : Int32) = nI 49 from rfl, nI_len (by omega) (by omega)]; omega)) (fun c_86 => ?_)
  refine Z_iload dX2_appendYard_89 rfl (pc' := 91) rfl ?_
  refine Z_aload_n dX2_appendYard_91 rfl (z_isref _) (pc' := 92) rfl ?_
  refine Z_gR dX2_appendYard_92 rfl (zgr_RX2_21_b_0 hb) (pc' := 95) rfl ?_
  refine Z_al dX2_appendYard_95 (zar_b_3 hb) (v := 49) (by decide) (pc' := 96) rfl ?_
  refine Z_icmp_ge dX2_appendYard_96 (tgt := 121) rfl (pc' := 99) rfl (fun c_96 => absurd c_96 (by rw [show (49 : Int32) = nI 49 from rfl, nI_len (by omega) (by omega)]; omega)) (fun c_96 => ?_)
  refine Z_aload_n dX2_appendYard_99 rfl (z_isref _) (pc' := 100) rfl ?_
  refine Z_gR dX2_appendYard_100 rfl (zgr_RX2_17_b_0 hb) (pc' := 103) rfl ?_
  refine Z_iload dX2_appendYard_103 rfl (pc' := 105) rfl ?_
  refine Z_iload_n dX2_appendYard_105 rfl (pc' := 106) rfl ?_
  refine Z_is dX2_appendYard_106 (zar_b_2 hb) (zin (show cny c + 1 < 49 by omega) (by decide)) (pc' := 107) rfl ?_
  rw [nI_nat (by omega)]
  refine Z_aload_n dX2_appendYard_107 rfl (z_isref _) (pc' := 108) rfl ?_
  refine Z_gR dX2_appendYard_108 rfl (zgr_RX2_21_b_0 hb) (pc' := 111) rfl ?_
  refine Z_iload dX2_appendYard_111 rfl (pc' := 113) rfl ?_
  refine Z_iload_n dX2_appendYard_113 rfl (pc' := 114) rfl ?_
  refine Z_is dX2_appendYard_114 (zar_b_3 hb) (zin (show cny c + 1 < 49 by omega) (by decide)) (pc' := 115) rfl ?_
  rw [nI_nat (by omega)]
  refine Z_aload_n dX2_appendYard_115 rfl (z_isref _) (pc' := 116) rfl ?_
  refine Z_iload dX2_appendYard_116 rfl (pc' := 118) rfl ?_
  refine Z_pI dX2_appendYard_118 rfl (zpi_RX2_39_b_0 hb) (pc' := 121) rfl ?_
  exact Z_return dX2_appendYard_121 rfl ⟨rfl, _, rfl, ((frm.rf.sA _ _ (by omega) (by omega)).sA _ _ (by omega) (by omega)).sA _ _ (by omega) (by omega), ay_V hV⟩
set_option maxRecDepth 100000 in
set_option maxHeartbeats 4000000 in
theorem c_X2_appendYard {S : ZS} {n b : Nat} {c : Co} {u : Int32} (hb : cB b) (hV : cV S n b c) (hny : cny c < 48) : zM m_X2_appendYard 0 0 [.ref b, .int u] (zw S n) (ayR S n b c (xW c u) (yW c u)) := by
  show Z m_X2_appendYard _ _ _ 0 [some (.ref _), some (.int _)] [] _
  refine Z_aload_n dX2_appendYard_0 rfl (z_isref _) (pc' := 1) rfl ?_
  refine Z_aload_n dX2_appendYard_1 rfl (z_isref _) (pc' := 2) rfl ?_
  refine Z_gI dX2_appendYard_2 rfl (zgi_RX2_39_b_0 hb) (pc' := 5) rfl ?_
  rw [hV.yd]
  refine Z_cVe dX2_appendYard_5 rfl zcw_X2_xAt (As := [_]) (rest := []) rfl ⟨Nat.le_of_ble_eq_true rfl, Nat.le_of_ble_eq_true rfl⟩ (Nat.le_of_ble_eq_true rfl) (zRcv.lay (zob_b_0 hb)) ⟨zcw_X2_xAt.2.2.2.2, Nat.le_of_ble_eq_true rfl⟩ zk_RX2_42 (c_X2_xAt hb) (pc' := 8) rfl ?_
  rw [hV.x' (by omega) (Nat.le_refl _)]
  refine Z_iload_n dX2_appendYard_8 rfl (pc' := 9) rfl ?_
  refine Z_bipush dX2_appendYard_9 (v := 101) (by decide) (pc' := 11) rfl ?_
  refine Z_icmp_ne dX2_appendYard_11 (tgt := 18) rfl (pc' := 14) rfl (fun c_11 => ?_) (fun c_11 => ?_)
  · refine Z_iconst dX2_appendYard_18 (v := 0) (by decide) (pc' := 19) rfl ?_
    refine Z_iadd dX2_appendYard_19 (pc' := 20) rfl ?_
    refine Z_iload_n dX2_appendYard_20 rfl (pc' := 21) rfl ?_
    refine Z_bipush dX2_appendYard_21 (v := 119) (by decide) (pc' := 23) rfl ?_
    refine Z_icmp_ne dX2_appendYard_23 (tgt := 30) rfl (pc' := 26) rfl (fun c_23 => ?_) (fun c_23 => ?_)
    · refine Z_iconst dX2_appendYard_30 (v := 0) (by decide) (pc' := 31) rfl ?_
      refine Z_isub dX2_appendYard_31 (pc' := 32) rfl ?_
      refine Z_istore_n dX2_appendYard_32 (Nat.le_of_ble_eq_true rfl) (Nat.le_of_ble_eq_true rfl) rfl (ls' := [_, _, _]) rfl (pc' := 33) rfl ?_
      refine Z_aload_n dX2_appendYard_33 rfl (z_isref _) (pc' := 34) rfl ?_
      refine Z_aload_n dX2_appendYard_34 rfl (z_isref _) (pc' := 35) rfl ?_
      refine Z_gI dX2_appendYard_35 rfl (zgi_RX2_39_b_0 hb) (pc' := 38) rfl ?_
      rw [hV.yd]
      refine Z_cVe dX2_appendYard_38 rfl zcw_X2_yAt (As := [_]) (rest := []) rfl ⟨Nat.le_of_ble_eq_true rfl, Nat.le_of_ble_eq_true rfl⟩ (Nat.le_of_ble_eq_true rfl) (zRcv.lay (zob_b_0 hb)) ⟨zcw_X2_yAt.2.2.2.2, Nat.le_of_ble_eq_true rfl⟩ zk_RX2_46 (c_X2_yAt hb) (pc' := 41) rfl ?_
      rw [hV.y' (by omega) (Nat.le_refl _)]
      refine Z_iload_n dX2_appendYard_41 rfl (pc' := 42) rfl ?_
      refine Z_bipush dX2_appendYard_42 (v := 110) (by decide) (pc' := 44) rfl ?_
      refine Z_icmp_ne dX2_appendYard_44 (tgt := 51) rfl (pc' := 47) rfl (fun c_44 => ?_) (fun c_44 => ?_)
      · refine Z_iconst dX2_appendYard_51 (v := 0) (by decide) (pc' := 52) rfl ?_
        refine Z_iadd dX2_appendYard_52 (pc' := 53) rfl ?_
        refine Z_iload_n dX2_appendYard_53 rfl (pc' := 54) rfl ?_
        refine Z_bipush dX2_appendYard_54 (v := 115) (by decide) (pc' := 56) rfl ?_
        refine Z_icmp_ne dX2_appendYard_56 (tgt := 63) rfl (pc' := 59) rfl (fun c_56 => ?_) (fun c_56 => ?_)
        · refine Z_iconst dX2_appendYard_63 (v := 0) (by decide) (pc' := 64) rfl ?_
          refine Z_isub dX2_appendYard_64 (pc' := 65) rfl ?_
          refine Z_istore_n dX2_appendYard_65 (Nat.le_of_ble_eq_true rfl) (Nat.le_of_ble_eq_true rfl) rfl (ls' := [_, _, _, _]) rfl (pc' := 66) rfl ?_
          have key := c_X2_appendYard_t (u := u) hb hV hny (x := xW c u) (y := yW c u)
          first | (exfalso; clear key hV hb; simp_all; done) | simpa [xW, yW, c_11, c_23, c_44, c_56] using key
        · refine Z_iconst dX2_appendYard_59 (v := 1) (by decide) (pc' := 60) rfl ?_
          refine Z_goto dX2_appendYard_60 (tgt := 64) rfl ?_
          refine Z_isub dX2_appendYard_64 (pc' := 65) rfl ?_
          refine Z_istore_n dX2_appendYard_65 (Nat.le_of_ble_eq_true rfl) (Nat.le_of_ble_eq_true rfl) rfl (ls' := [_, _, _, _]) rfl (pc' := 66) rfl ?_
          have key := c_X2_appendYard_t (u := u) hb hV hny (x := xW c u) (y := yW c u)
          first | (exfalso; clear key hV hb; simp_all; done) | simpa [xW, yW, c_11, c_23, c_44, c_56] using key
      · refine Z_iconst dX2_appendYard_47 (v := 1) (by decide) (pc' := 48) rfl ?_
        refine Z_goto dX2_appendYard_48 (tgt := 52) rfl ?_
        refine Z_iadd dX2_appendYard_52 (pc' := 53) rfl ?_
        refine Z_iload_n dX2_appendYard_53 rfl (pc' := 54) rfl ?_
        refine Z_bipush dX2_appendYard_54 (v := 115) (by decide) (pc' := 56) rfl ?_
        refine Z_icmp_ne dX2_appendYard_56 (tgt := 63) rfl (pc' := 59) rfl (fun c_56 => ?_) (fun c_56 => ?_)
        · refine Z_iconst dX2_appendYard_63 (v := 0) (by decide) (pc' := 64) rfl ?_
          refine Z_isub dX2_appendYard_64 (pc' := 65) rfl ?_
          refine Z_istore_n dX2_appendYard_65 (Nat.le_of_ble_eq_true rfl) (Nat.le_of_ble_eq_true rfl) rfl (ls' := [_, _, _, _]) rfl (pc' := 66) rfl ?_
          have key := c_X2_appendYard_t (u := u) hb hV hny (x := xW c u) (y := yW c u)
          first | (exfalso; clear key hV hb; simp_all; done) | simpa [xW, yW, c_11, c_23, c_44, c_56] using key
        · refine Z_iconst dX2_appendYard_59 (v := 1) (by decide) (pc' := 60) rfl ?_
          refine Z_goto dX2_appendYard_60 (tgt := 64) rfl ?_
          refine Z_isub dX2_appendYard_64 (pc' := 65) rfl ?_
          refine Z_istore_n dX2_appendYard_65 (Nat.le_of_ble_eq_true rfl) (Nat.le_of_ble_eq_true rfl) rfl (ls' := [_, _, _, _]) rfl (pc' := 66) rfl ?_
          have key := c_X2_appendYard_t (u := u) hb hV hny (x := xW c u) (y := yW c u)
          first | (exfalso; clear key hV hb; simp_all; done) | simpa [xW, yW, c_11, c_23, c_44, c_56] using key
    · refine Z_iconst dX2_appendYard_26 (v := 1) (by decide) (pc' := 27) rfl ?_
      refine Z_goto dX2_appendYard_27 (tgt := 31) rfl ?_
      refine Z_isub dX2_appendYard_31 (pc' := 32) rfl ?_
      refine Z_istore_n dX2_appendYard_32 (Nat.le_of_ble_eq_true rfl) (Nat.le_of_ble_eq_true rfl) rfl (ls' := [_, _, _]) rfl (pc' := 33) rfl ?_
      refine Z_aload_n dX2_appendYard_33 rfl (z_isref _) (pc' := 34) rfl ?_
      refine Z_aload_n dX2_appendYard_34 rfl (z_isref _) (pc' := 35) rfl ?_
      refine Z_gI dX2_appendYard_35 rfl (zgi_RX2_39_b_0 hb) (pc' := 38) rfl ?_
      rw [hV.yd]
      refine Z_cVe dX2_appendYard_38 rfl zcw_X2_yAt (As := [_]) (rest := []) rfl ⟨Nat.le_of_ble_eq_true rfl, Nat.le_of_ble_eq_true rfl⟩ (Nat.le_of_ble_eq_true rfl) (zRcv.lay (zob_b_0 hb)) ⟨zcw_X2_yAt.2.2.2.2, Nat.le_of_ble_eq_true rfl⟩ zk_RX2_46 (c_X2_yAt hb) (pc' := 41) rfl ?_
      rw [hV.y' (by omega) (Nat.le_refl _)]
      refine Z_iload_n dX2_appendYard_41 rfl (pc' := 42) rfl ?_
      refine Z_bipush dX2_appendYard_42 (v := 110) (by decide) (pc' := 44) rfl ?_
      refine Z_icmp_ne dX2_appendYard_44 (tgt := 51) rfl (pc' := 47) rfl (fun c_44 => ?_) (fun c_44 => ?_)
      · refine Z_iconst dX2_appendYard_51 (v := 0) (by decide) (pc' := 52) rfl ?_
        refine Z_iadd dX2_appendYard_52 (pc' := 53) rfl ?_
        refine Z_iload_n dX2_appendYard_53 rfl (pc' := 54) rfl ?_
        refine Z_bipush dX2_appendYard_54 (v := 115) (by decide) (pc' := 56) rfl ?_
        refine Z_icmp_ne dX2_appendYard_56 (tgt := 63) rfl (pc' := 59) rfl (fun c_56 => ?_) (fun c_56 => ?_)
        · refine Z_iconst dX2_appendYard_63 (v := 0) (by decide) (pc' := 64) rfl ?_
          refine Z_isub dX2_appendYard_64 (pc' := 65) rfl ?_
          refine Z_istore_n dX2_appendYard_65 (Nat.le_of_ble_eq_true rfl) (Nat.le_of_ble_eq_true rfl) rfl (ls' := [_, _, _, _]) rfl (pc' := 66) rfl ?_
          have key := c_X2_appendYard_t (u := u) hb hV hny (x := xW c u) (y := yW c u)
          first | (exfalso; clear key hV hb; simp_all; done) | simpa [xW, yW, c_11, c_23, c_44, c_56] using key
        · refine Z_iconst dX2_appendYard_59 (v := 1) (by decide) (pc' := 60) rfl ?_
          refine Z_goto dX2_appendYard_60 (tgt := 64) rfl ?_
          refine Z_isub dX2_appendYard_64 (pc' := 65) rfl ?_
          refine Z_istore_n dX2_appendYard_65 (Nat.le_of_ble_eq_true rfl) (Nat.le_of_ble_eq_true rfl) rfl (ls' := [_, _, _, _]) rfl (pc' := 66) rfl ?_
          have key := c_X2_appendYard_t (u := u) hb hV hny (x := xW c u) (y := yW c u)
          first | (exfalso; clear key hV hb; simp_all; done) | simpa [xW, yW, c_11, c_23, c_44, c_56] using key
      · refine Z_iconst dX2_appendYard_47 (v := 1) (by decide) (pc' := 48) rfl ?_
        refine Z_goto dX2_appendYard_48 (tgt := 52) rfl ?_
        refine Z_iadd dX2_appendYard_52 (pc' := 53) rfl ?_
        refine Z_iload_n dX2_appendYard_53 rfl (pc' := 54) rfl ?_
        refine Z_bipush dX2_appendYard_54 (v := 115) (by decide) (pc' := 56) rfl ?_
        refine Z_icmp_ne dX2_appendYard_56 (tgt := 63) rfl (pc' := 59) rfl (fun c_56 => ?_) (fun c_56 => ?_)
        · refine Z_iconst dX2_appendYard_63 (v := 0) (by decide) (pc' := 64) rfl ?_
          refine Z_isub dX2_appendYard_64 (pc' := 65) rfl ?_
          refine Z_istore_n dX2_appendYard_65 (Nat.le_of_ble_eq_true rfl) (Nat.le_of_ble_eq_true rfl) rfl (ls' := [_, _, _, _]) rfl (pc' := 66) rfl ?_
          have key := c_X2_appendYard_t (u := u) hb hV hny (x := xW c u) (y := yW c u)
          first | (exfalso; clear key hV hb; simp_all; done) | simpa [xW, yW, c_11, c_23, c_44, c_56] using key
        · refine Z_iconst dX2_appendYard_59 (v := 1) (by decide) (pc' := 60) rfl ?_
          refine Z_goto dX2_appendYard_60 (tgt := 64) rfl ?_
          refine Z_isub dX2_appendYard_64 (pc' := 65) rfl ?_
          refine Z_istore_n dX2_appendYard_65 (Nat.le_of_ble_eq_true rfl) (Nat.le_of_ble_eq_true rfl) rfl (ls' := [_, _, _, _]) rfl (pc' := 66) rfl ?_
          have key := c_X2_appendYard_t (u := u) hb hV hny (x := xW c u) (y := yW c u)
          first | (exfalso; clear key hV hb; simp_all; done) | simpa [xW, yW, c_11, c_23, c_44, c_56] using key
  · refine Z_iconst dX2_appendYard_14 (v := 1) (by decide) (pc' := 15) rfl ?_
    refine Z_goto dX2_appendYard_15 (tgt := 19) rfl ?_
    refine Z_iadd dX2_appendYard_19 (pc' := 20) rfl ?_
    refine Z_iload_n dX2_appendYard_20 rfl (pc' := 21) rfl ?_
    refine Z_bipush dX2_appendYard_21 (v := 119) (by decide) (pc' := 23) rfl ?_
    refine Z_icmp_ne dX2_appendYard_23 (tgt := 30) rfl (pc' := 26) rfl (fun c_23 => ?_) (fun c_23 => ?_)
    · refine Z_iconst dX2_appendYard_30 (v := 0) (by decide) (pc' := 31) rfl ?_
      refine Z_isub dX2_appendYard_31 (pc' := 32) rfl ?_
      refine Z_istore_n dX2_appendYard_32 (Nat.le_of_ble_eq_true rfl) (Nat.le_of_ble_eq_true rfl) rfl (ls' := [_, _, _]) rfl (pc' := 33) rfl ?_
      refine Z_aload_n dX2_appendYard_33 rfl (z_isref _) (pc' := 34) rfl ?_
      refine Z_aload_n dX2_appendYard_34 rfl (z_isref _) (pc' := 35) rfl ?_
      refine Z_gI dX2_appendYard_35 rfl (zgi_RX2_39_b_0 hb) (pc' := 38) rfl ?_
      rw [hV.yd]
      refine Z_cVe dX2_appendYard_38 rfl zcw_X2_yAt (As := [_]) (rest := []) rfl ⟨Nat.le_of_ble_eq_true rfl, Nat.le_of_ble_eq_true rfl⟩ (Nat.le_of_ble_eq_true rfl) (zRcv.lay (zob_b_0 hb)) ⟨zcw_X2_yAt.2.2.2.2, Nat.le_of_ble_eq_true rfl⟩ zk_RX2_46 (c_X2_yAt hb) (pc' := 41) rfl ?_
      rw [hV.y' (by omega) (Nat.le_refl _)]
      refine Z_iload_n dX2_appendYard_41 rfl (pc' := 42) rfl ?_
      refine Z_bipush dX2_appendYard_42 (v := 110) (by decide) (pc' := 44) rfl ?_
      refine Z_icmp_ne dX2_appendYard_44 (tgt := 51) rfl (pc' := 47) rfl (fun c_44 => ?_) (fun c_44 => ?_)
      · refine Z_iconst dX2_appendYard_51 (v := 0) (by decide) (pc' := 52) rfl ?_
        refine Z_iadd dX2_appendYard_52 (pc' := 53) rfl ?_
        refine Z_iload_n dX2_appendYard_53 rfl (pc' := 54) rfl ?_
        refine Z_bipush dX2_appendYard_54 (v := 115) (by decide) (pc' := 56) rfl ?_
        refine Z_icmp_ne dX2_appendYard_56 (tgt := 63) rfl (pc' := 59) rfl (fun c_56 => ?_) (fun c_56 => ?_)
        · refine Z_iconst dX2_appendYard_63 (v := 0) (by decide) (pc' := 64) rfl ?_
          refine Z_isub dX2_appendYard_64 (pc' := 65) rfl ?_
          refine Z_istore_n dX2_appendYard_65 (Nat.le_of_ble_eq_true rfl) (Nat.le_of_ble_eq_true rfl) rfl (ls' := [_, _, _, _]) rfl (pc' := 66) rfl ?_
          have key := c_X2_appendYard_t (u := u) hb hV hny (x := xW c u) (y := yW c u)
          first | (exfalso; clear key hV hb; simp_all; done) | simpa [xW, yW, c_11, c_23, c_44, c_56] using key
        · refine Z_iconst dX2_appendYard_59 (v := 1) (by decide) (pc' := 60) rfl ?_
          refine Z_goto dX2_appendYard_60 (tgt := 64) rfl ?_
          refine Z_isub dX2_appendYard_64 (pc' := 65) rfl ?_
          refine Z_istore_n dX2_appendYard_65 (Nat.le_of_ble_eq_true rfl) (Nat.le_of_ble_eq_true rfl) rfl (ls' := [_, _, _, _]) rfl (pc' := 66) rfl ?_
          have key := c_X2_appendYard_t (u := u) hb hV hny (x := xW c u) (y := yW c u)
          first | (exfalso; clear key hV hb; simp_all; done) | simpa [xW, yW, c_11, c_23, c_44, c_56] using key
      · refine Z_iconst dX2_appendYard_47 (v := 1) (by decide) (pc' := 48) rfl ?_
        refine Z_goto dX2_appendYard_48 (tgt := 52) rfl ?_
        refine Z_iadd dX2_appendYard_52 (pc' := 53) rfl ?_
        refine Z_iload_n dX2_appendYard_53 rfl (pc' := 54) rfl ?_
        refine Z_bipush dX2_appendYard_54 (v := 115) (by decide) (pc' := 56) rfl ?_
        refine Z_icmp_ne dX2_appendYard_56 (tgt := 63) rfl (pc' := 59) rfl (fun c_56 => ?_) (fun c_56 => ?_)
        · refine Z_iconst dX2_appendYard_63 (v := 0) (by decide) (pc' := 64) rfl ?_
          refine Z_isub dX2_appendYard_64 (pc' := 65) rfl ?_
          refine Z_istore_n dX2_appendYard_65 (Nat.le_of_ble_eq_true rfl) (Nat.le_of_ble_eq_true rfl) rfl (ls' := [_, _, _, _]) rfl (pc' := 66) rfl ?_
          have key := c_X2_appendYard_t (u := u) hb hV hny (x := xW c u) (y := yW c u)
          first | (exfalso; clear key hV hb; simp_all; done) | simpa [xW, yW, c_11, c_23, c_44, c_56] using key
        · refine Z_iconst dX2_appendYard_59 (v := 1) (by decide) (pc' := 60) rfl ?_
          refine Z_goto dX2_appendYard_60 (tgt := 64) rfl ?_
          refine Z_isub dX2_appendYard_64 (pc' := 65) rfl ?_
          refine Z_istore_n dX2_appendYard_65 (Nat.le_of_ble_eq_true rfl) (Nat.le_of_ble_eq_true rfl) rfl (ls' := [_, _, _, _]) rfl (pc' := 66) rfl ?_
          have key := c_X2_appendYard_t (u := u) hb hV hny (x := xW c u) (y := yW c u)
          first | (exfalso; clear key hV hb; simp_all; done) | simpa [xW, yW, c_11, c_23, c_44, c_56] using key
    · refine Z_iconst dX2_appendYard_26 (v := 1) (by decide) (pc' := 27) rfl ?_
      refine Z_goto dX2_appendYard_27 (tgt := 31) rfl ?_
      refine Z_isub dX2_appendYard_31 (pc' := 32) rfl ?_
      refine Z_istore_n dX2_appendYard_32 (Nat.le_of_ble_eq_true rfl) (Nat.le_of_ble_eq_true rfl) rfl (ls' := [_, _, _]) rfl (pc' := 33) rfl ?_
      refine Z_aload_n dX2_appendYard_33 rfl (z_isref _) (pc' := 34) rfl ?_
      refine Z_aload_n dX2_appendYard_34 rfl (z_isref _) (pc' := 35) rfl ?_
      refine Z_gI dX2_appendYard_35 rfl (zgi_RX2_39_b_0 hb) (pc' := 38) rfl ?_
      rw [hV.yd]
      refine Z_cVe dX2_appendYard_38 rfl zcw_X2_yAt (As := [_]) (rest := []) rfl ⟨Nat.le_of_ble_eq_true rfl, Nat.le_of_ble_eq_true rfl⟩ (Nat.le_of_ble_eq_true rfl) (zRcv.lay (zob_b_0 hb)) ⟨zcw_X2_yAt.2.2.2.2, Nat.le_of_ble_eq_true rfl⟩ zk_RX2_46 (c_X2_yAt hb) (pc' := 41) rfl ?_
      rw [hV.y' (by omega) (Nat.le_refl _)]
      refine Z_iload_n dX2_appendYard_41 rfl (pc' := 42) rfl ?_
      refine Z_bipush dX2_appendYard_42 (v := 110) (by decide) (pc' := 44) rfl ?_
      refine Z_icmp_ne dX2_appendYard_44 (tgt := 51) rfl (pc' := 47) rfl (fun c_44 => ?_) (fun c_44 => ?_)
      · refine Z_iconst dX2_appendYard_51 (v := 0) (by decide) (pc' := 52) rfl ?_
        refine Z_iadd dX2_appendYard_52 (pc' := 53) rfl ?_
        refine Z_iload_n dX2_appendYard_53 rfl (pc' := 54) rfl ?_
        refine Z_bipush dX2_appendYard_54 (v := 115) (by decide) (pc' := 56) rfl ?_
        refine Z_icmp_ne dX2_appendYard_56 (tgt := 63) rfl (pc' := 59) rfl (fun c_56 => ?_) (fun c_56 => ?_)
        · refine Z_iconst dX2_appendYard_63 (v := 0) (by decide) (pc' := 64) rfl ?_
          refine Z_isub dX2_appendYard_64 (pc' := 65) rfl ?_
          refine Z_istore_n dX2_appendYard_65 (Nat.le_of_ble_eq_true rfl) (Nat.le_of_ble_eq_true rfl) rfl (ls' := [_, _, _, _]) rfl (pc' := 66) rfl ?_
          have key := c_X2_appendYard_t (u := u) hb hV hny (x := xW c u) (y := yW c u)
          first | (exfalso; clear key hV hb; simp_all; done) | simpa [xW, yW, c_11, c_23, c_44, c_56] using key
        · refine Z_iconst dX2_appendYard_59 (v := 1) (by decide) (pc' := 60) rfl ?_
          refine Z_goto dX2_appendYard_60 (tgt := 64) rfl ?_
          refine Z_isub dX2_appendYard_64 (pc' := 65) rfl ?_
          refine Z_istore_n dX2_appendYard_65 (Nat.le_of_ble_eq_true rfl) (Nat.le_of_ble_eq_true rfl) rfl (ls' := [_, _, _, _]) rfl (pc' := 66) rfl ?_
          have key := c_X2_appendYard_t (u := u) hb hV hny (x := xW c u) (y := yW c u)
          first | (exfalso; clear key hV hb; simp_all; done) | simpa [xW, yW, c_11, c_23, c_44, c_56] using key
      · refine Z_iconst dX2_appendYard_47 (v := 1) (by decide) (pc' := 48) rfl ?_
        refine Z_goto dX2_appendYard_48 (tgt := 52) rfl ?_
        refine Z_iadd dX2_appendYard_52 (pc' := 53) rfl ?_
        refine Z_iload_n dX2_appendYard_53 rfl (pc' := 54) rfl ?_
        refine Z_bipush dX2_appendYard_54 (v := 115) (by decide) (pc' := 56) rfl ?_
        refine Z_icmp_ne dX2_appendYard_56 (tgt := 63) rfl (pc' := 59) rfl (fun c_56 => ?_) (fun c_56 => ?_)
        · refine Z_iconst dX2_appendYard_63 (v := 0) (by decide) (pc' := 64) rfl ?_
          refine Z_isub dX2_appendYard_64 (pc' := 65) rfl ?_
          refine Z_istore_n dX2_appendYard_65 (Nat.le_of_ble_eq_true rfl) (Nat.le_of_ble_eq_true rfl) rfl (ls' := [_, _, _, _]) rfl (pc' := 66) rfl ?_
          have key := c_X2_appendYard_t (u := u) hb hV hny (x := xW c u) (y := yW c u)
          first | (exfalso; clear key hV hb; simp_all; done) | simpa [xW, yW, c_11, c_23, c_44, c_56] using key
        · refine Z_iconst dX2_appendYard_59 (v := 1) (by decide) (pc' := 60) rfl ?_
          refine Z_goto dX2_appendYard_60 (tgt := 64) rfl ?_
          refine Z_isub dX2_appendYard_64 (pc' := 65) rfl ?_
          refine Z_istore_n dX2_appendYard_65 (Nat.le_of_ble_eq_true rfl) (Nat.le_of_ble_eq_true rfl) rfl (ls' := [_, _, _, _]) rfl (pc' := 66) rfl ?_
          have key := c_X2_appendYard_t (u := u) hb hV hny (x := xW c u) (y := yW c u)
          first | (exfalso; clear key hV hb; simp_all; done) | simpa [xW, yW, c_11, c_23, c_44, c_56] using key
def arR (S : ZS) (n q : Nat) (c : Co) (x y lo hi : Nat) (r : Option Value) (ω : ZW) : Prop := (lo ≤ hi ∧ cnr c < 6 ∧ r = some (.int 1) ∧ ∃ S', ω = zw S' (n + 1) ∧ frm q (q + 1) S n S' (n + 1) ∧ rV S' (n + 1) q (addRk c x y lo hi)) ∨ (¬ (lo ≤ hi ∧ cnr c < 6) ∧ r = some (.int 0) ∧ ω = zw S n)
theorem ar_V {S : ZS} {n q : Nat} {c : Co} {x y lo hi : Nat} (hr : rV S n q c) : rV (sA (sB (sP S n (6, [nI x, nI y, nI lo, nI hi])) (q + 1) (cnr c) (some (48 + n))) q 1 (nI (cnr c + 1))) (n + 1) q (addRk c x y lo hi) := by
  obtain ⟨e1, e2, e3, e4, e5, e6, e7, e8, e9, e10, e11⟩ := addRk_facts c x y lo hi
  refine ⟨by rw [sA_same, zup_same, e3], fun k hk => ?_⟩
  rw [e3] at hk
  rw [e7, e8, e9, e10]
  by_cases h : k = cnr c
  · subst h
    refine ⟨n, by omega, ?_, ?_⟩
    · show zup S.2.1 (q + 1) _ (q + 1) _ = _
      rw [zup_same, zup_same]
    · show zup S.2.2 n _ n = _
      rw [zup_same, if_pos rfl, if_pos rfl, if_pos rfl, if_pos rfl]
  · obtain ⟨j, h1, h2, h3⟩ := hr.2 k (by omega)
    refine ⟨j, by omega, ?_, ?_⟩
    · show zup S.2.1 (q + 1) _ (q + 1) _ = _
      rw [zup_same, zup_ne _ _ h]; exact h2
    · show zup S.2.2 n _ j = _
      rw [zup_ne _ _ (by omega), if_neg h, if_neg h, if_neg h, if_neg h]; exact h3
set_option maxRecDepth 100000 in
set_option maxHeartbeats 4000000 in
theorem c_X7_append {S : ZS} {n q x y lo hi : Nat} {c : Co} (hq : cR q) (hr : rV S n q c) (hnr : cnr c ≤ 6) (hlo : lo ≤ 9) (hhi : hi ≤ 9) : zM m_X7_append 1 4 [.ref q, .int (nI x), .int (nI y), .int (nI lo), .int (nI hi)] (zw S n) (arR S n q c x y lo hi) := by
  show Z m_X7_append _ _ _ 0 [some (.ref _), some (.int _), some (.int _), some (.int _), some (.int _)] [] _
  refine Z_iload_n dX7_append_0 rfl (pc' := 1) rfl ?_
  refine Z_iload dX7_append_1 rfl (pc' := 3) rfl ?_
  refine Z_icmp_gt dX7_append_3 (tgt := 25) rfl (pc' := 6) rfl (fun c_3 => ?_) (fun c_3 => ?_)
  · refine Z_iconst dX7_append_25 (v := 0) (by decide) (pc' := 26) rfl ?_
    exact Z_ireturn dX7_append_26 rfl rfl (Or.inr ⟨fun h => by rw [nI_ltn (by omega) (by omega)] at c_3; omega, rfl, rfl⟩)
  · refine Z_aload_n dX7_append_6 rfl (z_isref _) (pc' := 7) rfl ?_
    refine Z_gI dX7_append_7 rfl (zgi_RX7_17_q_0 hq) (pc' := 10) rfl ?_
    rw [hr.1]
    refine Z_if_lt dX7_append_10 (tgt := 25) rfl (pc' := 13) rfl (fun c_10 => absurd c_10 (nI_neg (by omega))) (fun c_10 => ?_)
    refine Z_aload_n dX7_append_13 rfl (z_isref _) (pc' := 14) rfl ?_
    refine Z_gI dX7_append_14 rfl (zgi_RX7_17_q_0 hq) (pc' := 17) rfl ?_
    rw [hr.1]
    refine Z_aload_n dX7_append_17 rfl (z_isref _) (pc' := 18) rfl ?_
    refine Z_gR dX7_append_18 rfl (zgr_RX7_11_q_0 hq) (pc' := 21) rfl ?_
    refine Z_alq dX7_append_21 (zaq_q_1 hq) (v := 6) (by decide) (pc' := 22) rfl ?_
    refine Z_icmp_lt dX7_append_22 (tgt := 27) rfl (pc' := 25) rfl (fun c_22 => ?_) (fun c_22 => ?_)
    · have h6 : cnr c < 6 := by rw [nI6, nI_ltn (by omega) (by omega)] at c_22; exact c_22
      have hle : lo ≤ hi := by rw [nI_ltn (by omega) (by omega)] at c_3; omega
      refine Z_aload_n dX7_append_27 rfl (z_isref _) (pc' := 28) rfl ?_
      refine Z_gR dX7_append_28 rfl (zgr_RX7_11_q_0 hq) (pc' := 31) rfl ?_
      refine Z_aload_n dX7_append_31 rfl (z_isref _) (pc' := 32) rfl ?_
      refine Z_gI dX7_append_32 rfl (zgi_RX7_17_q_0 hq) (pc' := 35) rfl ?_
      rw [hr.1]
      refine Z_nP (kc := 0) (ks := 0) dX7_append_35 rfl (ci := 6) (C0 := RX6) (T := TX6) (N := 4) rfl zin_6 zft_6 zw_86 zw_346 zw_60 (fs := [0, 0, 0, 0]) (fun j hj => by rcases (show j = 0 ∨ j = 1 ∨ j = 2 ∨ j = 3 by omega) with rfl | rfl | rfl | rfl <;> rfl) (pc' := 38) rfl ?_
      refine Z_dup dX7_append_38 rfl (pc' := 39) rfl ?_
      refine Z_iload_n dX7_append_39 rfl (pc' := 40) rfl ?_
      refine Z_iload_n dX7_append_40 rfl (pc' := 41) rfl ?_
      refine Z_iload_n dX7_append_41 rfl (pc' := 42) rfl ?_
      refine Z_iload dX7_append_42 rfl (pc' := 44) rfl ?_
      refine Z_cIv dX7_append_44 rfl zcw_X6_init (As := [_, _, _, _]) (rest := [_, _, _]) rfl ⟨Nat.le_of_ble_eq_true rfl, Nat.le_of_ble_eq_true rfl⟩ (Nat.le_of_ble_eq_true rfl) rfl rfl ⟨zcw_X6_init.2.2.2.2, Nat.le_of_ble_eq_true rfl⟩ zk_RX7_21 (c_X6_init (Nat.lt_succ_self n) (sP_at _ _ _)) (pc' := 47) rfl ?_
      rw [sP_sP]
      refine Z_qs dX7_append_47 (zaq_q_1 hq) (Nat.lt_succ_self n) (r := (RX6, TX6, 4)) (by rw [sP_at]; rfl) (Or.inl rfl) (zin h6 (by decide)) (pc' := 48) rfl ?_
      rw [nI_nat (by omega)]
      refine Z_aload_n dX7_append_48 rfl (z_isref _) (pc' := 49) rfl ?_
      refine Z_dup dX7_append_49 rfl (pc' := 50) rfl ?_
      refine Z_gI dX7_append_50 rfl (zgi_RX7_17_q_0 hq) (pc' := 53) rfl ?_
      rw [show (sB (sP S n (6, [nI x, nI y, nI lo, nI hi])) (q + 1) (cnr c) (some (48 + n))).1 q 1 = nI (cnr c) from hr.1]
      refine Z_iconst dX7_append_53 (v := 1) (by decide) (pc' := 54) rfl ?_
      refine Z_iadd dX7_append_54 (pc' := 55) rfl ?_
      rw [nI_1]
      refine Z_pI dX7_append_55 rfl (zpi_RX7_17_q_0 hq) (pc' := 58) rfl ?_
      refine Z_iconst dX7_append_58 (v := 1) (by decide) (pc' := 59) rfl ?_
      exact Z_ireturn dX7_append_59 rfl rfl (Or.inl ⟨hle, h6, rfl, _, rfl, ((frm.rf.sP _).sB _ _ (by omega) (by omega)).sA _ _ (by omega) (by omega), ar_V hr⟩)
    · refine Z_iconst dX7_append_25 (v := 0) (by decide) (pc' := 26) rfl ?_
      exact Z_ireturn dX7_append_26 rfl rfl (Or.inr ⟨fun h => by rw [nI6, nI_ltn (by omega) (by omega)] at c_22; omega, rfl, rfl⟩)
