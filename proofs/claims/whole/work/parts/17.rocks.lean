theorem Z_gPN {d : ZD} {kc ks : Nat} {R : Option Value → ZW → Prop} {pc pc' : Nat} {ls : List (Option Value)} {st : List Value} {S : ZS} {n : Nat} {own C0 : String} {T : u_T} {N ci k index j : Nat} {x : Int32} {fs : List Int32} (hd : decode d.2.1 pc = .ok (.getfield index, 3)) (ho : d.1.cls = own) (F : zFn own index ci k T N C0) (hj : j < n) (hP : S.2.2 j = (ci, fs)) (hv : fs[k]? = some x) (hp : pc + 3 = pc') (kk : Z d kc ks R pc' ls (.int x :: st) (zw S n)) : Z d kc ks R pc ls (.ref (48 + j) :: st) (zw S n) :=
  Z_getfieldN hd ho F (by omega) (zW_hi.trans (by rw [hP])) (by rw [List.getElem?_map, hv]; rfl) hp kk
theorem nI6 : (6 : Int32) = nI 6 := rfl
theorem nI9 : (9 : Int32) = nI 9 := rfl
theorem nI_or (a b : Nat) : nI a ||| nI b = nI (a ||| b) := by
  apply Int32.toBitVec_inj.1
  show BitVec.ofNat 32 a ||| BitVec.ofNat 32 b = BitVec.ofNat 32 (a ||| b)
  apply BitVec.eq_of_getLsbD_eq
  intro i hi
  simp [hi]
theorem nI_sh1 : ∀ i, i < 31 → (1 : Int32) <<< (nI i &&& 31) = nI (2 ^ i) := by decide +kernel
/-- the rock is an island at the tide t -/
def islB (c : Co) (t r : Nat) : Bool := decide (r < cnr c) && (decide (clw c r ≤ t) && decide (t ≤ chg c r))
theorem znb_lt (f : Nat → Bool) (n : Nat) : znb f n < 2 ^ n := by
  rw [znb_dg]
  have := dg_lt 1 (zbn f) n fun i _ => zbn_lt f i
  rwa [Nat.one_mul] at this
theorem znb_or (f g : Nat → Bool) (n : Nat) : znb f n ||| znb g n = znb (fun k => f k || g k) n := by
  apply Nat.eq_of_testBit_eq
  intro j
  rw [Nat.testBit_or, znb_bit, znb_bit, znb_bit]
  by_cases h : j < n <;> simp [h]
theorem znb_cong {f g : Nat → Bool} : ∀ n, (∀ k, k < n → f k = g k) → znb f n = znb g n
  | 0, _ => rfl
  | n + 1, h => by rw [znb, znb, znb_cong n fun k hk => h k (by omega), h n (by omega)]
set_option maxRecDepth 100000 in
set_option maxHeartbeats 4000000 in
theorem lp_X7_islandsAt {S : ZS} {n q t : Nat} {c : Co} (hq : cR q) (hr : rV S n q c) (ok : Cok c) (ht : t < 2147483648) {R : Option Value → ZW → Prop} (hR : R (some (.int (nI (znb (islB c t) 6)))) (zw S n)) : ∀ (m i : Nat), i + m = 6 → Z m_X7_islandsAt 0 0 R 4 [some (.ref q), some (.int (nI t)), some (.int (nI (znb (islB c t) i))), some (.int (nI i))] [] (zw S n) := by
  intro m
  induction m with
  | zero =>
    intro i h
    obtain rfl : i = 6 := by omega
    refine Z_iload_n dX7_islandsAt_4 rfl (pc' := 5) rfl ?_
    refine Z_bipush dX7_islandsAt_5 (v := 6) (by decide) (pc' := 7) rfl ?_
    refine Z_icmp_ge dX7_islandsAt_7 (tgt := 43) rfl (pc' := 10) rfl (fun c_7 => ?_) (fun c_7 => absurd c_7 (fun c => c (by decide)))
    refine Z_iload_n dX7_islandsAt_43 rfl (pc' := 44) rfl ?_
    exact Z_ireturn dX7_islandsAt_44 rfl rfl hR
  | succ m ih =>
    intro i h
    refine Z_iload_n dX7_islandsAt_4 rfl (pc' := 5) rfl ?_
    refine Z_bipush dX7_islandsAt_5 (v := 6) (by decide) (pc' := 7) rfl ?_
    refine Z_icmp_ge dX7_islandsAt_7 (tgt := 43) rfl (pc' := 10) rfl (fun c_7 => absurd c_7 (by rw [nI6, nI_len (by omega) (by omega)]; omega)) (fun c_7 => ?_)
    refine Z_aload_n dX7_islandsAt_10 rfl (z_isref _) (pc' := 11) rfl ?_
    refine Z_iload_n dX7_islandsAt_11 rfl (pc' := 12) rfl ?_
    refine Z_cVe dX7_islandsAt_12 rfl zcw_X7_rockAt (As := [_]) (rest := []) rfl ⟨Nat.le_of_ble_eq_true rfl, Nat.le_of_ble_eq_true rfl⟩ (Nat.le_of_ble_eq_true rfl) (zRcv.lay (zob_q_0 hq)) ⟨zcw_X7_rockAt.2.2.2.2, Nat.le_of_ble_eq_true rfl⟩ zk_RX7_24 (c_X7_rockAt hq) (pc' := 15) rfl ?_
    rcases hr.at ok i (by omega) with ⟨hlt, j, hj, hP, e⟩ | ⟨hge, e⟩
    · rw [e]
      show Z _ _ _ _ _ _ (.ref (48 + j) :: _) _
      obtain ⟨hrx, hry, hlh, hh9⟩ := ok.2.2.2.2.2.2.2 _ hlt
      refine Z_astore dX7_islandsAt_15 (Nat.le_of_ble_eq_true rfl) (Nat.le_of_ble_eq_true rfl) rfl (ls' := [_, _, _, _, _]) rfl (z_isref _) (pc' := 17) rfl ?_
      refine Z_aload dX7_islandsAt_17 rfl (z_isref _) (pc' := 19) rfl ?_
      refine Z_ifnullR dX7_islandsAt_19 (tgt := 37) rfl (pc' := 22) rfl ?_
      refine Z_aload dX7_islandsAt_22 rfl (z_isref _) (pc' := 24) rfl ?_
      refine Z_iload_n dX7_islandsAt_24 rfl (pc' := 25) rfl ?_
      refine Z_cVe dX7_islandsAt_25 rfl zcw_X6_isIsland (As := [_]) (rest := []) rfl ⟨Nat.le_of_ble_eq_true rfl, Nat.le_of_ble_eq_true rfl⟩ (Nat.le_of_ble_eq_true rfl) (zRcv.made hj hP (r := (RX6, TX6, 4)) rfl) ⟨zcw_X6_isIsland.2.2.2.2, Nat.le_of_ble_eq_true rfl⟩ zk_RX7_28 (c_X6_isIsland ht (by omega) (by omega) hj hP) (pc' := 28) rfl ?_
      refine Z_if_eq dX7_islandsAt_28 (tgt := 37) rfl (pc' := 31) rfl (fun c_28 => ?_) (fun c_28 => ?_)
      · refine Z_iinc dX7_islandsAt_37 rfl (nI_inc i) (Nat.le_of_ble_eq_true rfl) rfl (ls' := [_, _, _, _, _]) rfl (pc' := 40) rfl ?_
        refine Z_goto dX7_islandsAt_40 (tgt := 4) rfl ?_
        refine Z_take 4 (ls' := [_, _, _, _]) rfl ?_
        rw [show znb (islB c t) i = znb (islB c t) (i + 1) from (by rw [znb, if_neg (by unfold islB; rw [(zb_eq0 _).mp c_28]; simp)]; simp)]
        exact ih (i + 1) (by omega)
      · refine Z_iload_n dX7_islandsAt_31 rfl (pc' := 32) rfl ?_
        refine Z_iconst dX7_islandsAt_32 (v := 1) (by decide) (pc' := 33) rfl ?_
        refine Z_iload_n dX7_islandsAt_33 rfl (pc' := 34) rfl ?_
        refine Z_ishl dX7_islandsAt_34 (pc' := 35) rfl ?_
        rw [nI_sh1 i (by omega)]
        refine Z_ior dX7_islandsAt_35 (pc' := 36) rfl ?_
        rw [nI_or]
        refine Z_istore_n dX7_islandsAt_36 (Nat.le_of_ble_eq_true rfl) (Nat.le_of_ble_eq_true rfl) rfl (ls' := [_, _, _, _, _]) rfl (pc' := 37) rfl ?_
        refine Z_iinc dX7_islandsAt_37 rfl (nI_inc i) (Nat.le_of_ble_eq_true rfl) rfl (ls' := [_, _, _, _, _]) rfl (pc' := 40) rfl ?_
        refine Z_goto dX7_islandsAt_40 (tgt := 4) rfl ?_
        refine Z_take 4 (ls' := [_, _, _, _]) rfl ?_
        rw [show znb (islB c t) i ||| 2 ^ i = znb (islB c t) (i + 1) from (by rw [znb, if_pos (by unfold islB; rw [(zb_ne0 _).mp c_28, decide_eq_true hlt]; rfl)])]
        exact ih (i + 1) (by omega)
    · rw [e]
      show Z _ _ _ _ _ _ (.null :: _) _
      refine Z_astore dX7_islandsAt_15 (Nat.le_of_ble_eq_true rfl) (Nat.le_of_ble_eq_true rfl) rfl (ls' := [_, _, _, _, _]) rfl (Or.inl rfl) (pc' := 17) rfl ?_
      refine Z_aload dX7_islandsAt_17 rfl (Or.inl rfl) (pc' := 19) rfl ?_
      refine Z_ifnullN dX7_islandsAt_19 (tgt := 37) rfl (pc' := 22) rfl ?_
      refine Z_iinc dX7_islandsAt_37 rfl (nI_inc i) (Nat.le_of_ble_eq_true rfl) rfl (ls' := [_, _, _, _, _]) rfl (pc' := 40) rfl ?_
      refine Z_goto dX7_islandsAt_40 (tgt := 4) rfl ?_
      refine Z_take 4 (ls' := [_, _, _, _]) rfl ?_
      rw [show znb (islB c t) i = znb (islB c t) (i + 1) from (by rw [znb, if_neg (by unfold islB; rw [decide_eq_false (Nat.not_lt.mpr hge)]; simp)]; simp)]
      exact ih (i + 1) (by omega)
set_option maxRecDepth 100000 in
set_option maxHeartbeats 4000000 in
theorem c_X7_islandsAt {S : ZS} {n q t : Nat} {c : Co} (hq : cR q) (hr : rV S n q c) (ok : Cok c) (ht : t < 2147483648) : zM m_X7_islandsAt 0 0 [.ref q, .int (nI t)] (zw S n) (zE (some (.int (nI (znb (islB c t) 6)))) (zw S n)) := by
  show Z m_X7_islandsAt _ _ _ 0 [some (.ref _), some (.int _)] [] _
  refine Z_iconst dX7_islandsAt_0 (v := 0) (by decide) (pc' := 1) rfl ?_
  refine Z_istore_n dX7_islandsAt_1 (Nat.le_of_ble_eq_true rfl) (Nat.le_of_ble_eq_true rfl) rfl (ls' := [_, _, _]) rfl (pc' := 2) rfl ?_
  refine Z_iconst dX7_islandsAt_2 (v := 0) (by decide) (pc' := 3) rfl ?_
  refine Z_istore_n dX7_islandsAt_3 (Nat.le_of_ble_eq_true rfl) (Nat.le_of_ble_eq_true rfl) rfl (ls' := [_, _, _, _]) rfl (pc' := 4) rfl ?_
  exact lp_X7_islandsAt hq hr ok ht ⟨rfl, rfl⟩ 6 0 rfl
def pcI (x : Int32) : Int32 :=
  let sh := fun (y : Int32) (k : Int32) => (y.toUInt32 >>> (k.toUInt32 &&& Int32.toUInt32 31)).toInt32
  let a := x - (sh x 1 &&& 1431655765)
  let b := (a &&& 858993459) + (sh a 2 &&& 858993459)
  let c := (b + sh b 4) &&& 252645135
  let d := c + sh c 8
  let e := d + sh d 16
  e &&& 63
/-- how many bits of ten -/
def bc (x : Nat) : Nat := zct (fun k => x.testBit k) 10
set_option maxRecDepth 100000 in
theorem pcI_ok : ∀ x, x < 1024 → pcI (nI x) = nI (bc x) := by decide +kernel
theorem bc_le (x : Nat) : bc x ≤ 10 := zct_le _ 10
set_option maxRecDepth 100000 in
set_option maxHeartbeats 4000000 in
theorem c_J6_bitCount_0f7a4 {x : Nat} (hx : x < 1024) {ω : ZW} : zM m_J6_bitCount_0f7a4 0 0 [.int (nI x)] ω (zE (some (.int (nI (bc x)))) ω) := by
  show Z m_J6_bitCount_0f7a4 _ _ _ 0 [some (.int _)] [] _
  refine Z_iload_n dJ6_bitCount_0f7a4_0 rfl (pc' := 1) rfl ?_
  refine Z_iload_n dJ6_bitCount_0f7a4_1 rfl (pc' := 2) rfl ?_
  refine Z_iconst dJ6_bitCount_0f7a4_2 (v := 1) (by decide) (pc' := 3) rfl ?_
  refine Z_iushr dJ6_bitCount_0f7a4_3 (pc' := 4) rfl ?_
  refine Z_ldcw dJ6_bitCount_0f7a4_4 rfl zw_606 (pc' := 7) rfl ?_
  refine Z_iand dJ6_bitCount_0f7a4_7 (pc' := 8) rfl ?_
  refine Z_isub dJ6_bitCount_0f7a4_8 (pc' := 9) rfl ?_
  refine Z_istore_n dJ6_bitCount_0f7a4_9 (Nat.le_of_ble_eq_true rfl) (Nat.le_of_ble_eq_true rfl) rfl (ls' := [_]) rfl (pc' := 10) rfl ?_
  refine Z_iload_n dJ6_bitCount_0f7a4_10 rfl (pc' := 11) rfl ?_
  refine Z_ldcw dJ6_bitCount_0f7a4_11 rfl zw_607 (pc' := 14) rfl ?_
  refine Z_iand dJ6_bitCount_0f7a4_14 (pc' := 15) rfl ?_
  refine Z_iload_n dJ6_bitCount_0f7a4_15 rfl (pc' := 16) rfl ?_
  refine Z_iconst dJ6_bitCount_0f7a4_16 (v := 2) (by decide) (pc' := 17) rfl ?_
  refine Z_iushr dJ6_bitCount_0f7a4_17 (pc' := 18) rfl ?_
  refine Z_ldcw dJ6_bitCount_0f7a4_18 rfl zw_607 (pc' := 21) rfl ?_
  refine Z_iand dJ6_bitCount_0f7a4_21 (pc' := 22) rfl ?_
  refine Z_iadd dJ6_bitCount_0f7a4_22 (pc' := 23) rfl ?_
  refine Z_istore_n dJ6_bitCount_0f7a4_23 (Nat.le_of_ble_eq_true rfl) (Nat.le_of_ble_eq_true rfl) rfl (ls' := [_]) rfl (pc' := 24) rfl ?_
  refine Z_iload_n dJ6_bitCount_0f7a4_24 rfl (pc' := 25) rfl ?_
  refine Z_iload_n dJ6_bitCount_0f7a4_25 rfl (pc' := 26) rfl ?_
  refine Z_iconst dJ6_bitCount_0f7a4_26 (v := 4) (by decide) (pc' := 27) rfl ?_
  refine Z_iushr dJ6_bitCount_0f7a4_27 (pc' := 28) rfl ?_
  refine Z_iadd dJ6_bitCount_0f7a4_28 (pc' := 29) rfl ?_
  refine Z_ldcw dJ6_bitCount_0f7a4_29 rfl zw_608 (pc' := 32) rfl ?_
  refine Z_iand dJ6_bitCount_0f7a4_32 (pc' := 33) rfl ?_
  refine Z_istore_n dJ6_bitCount_0f7a4_33 (Nat.le_of_ble_eq_true rfl) (Nat.le_of_ble_eq_true rfl) rfl (ls' := [_]) rfl (pc' := 34) rfl ?_
  refine Z_iload_n dJ6_bitCount_0f7a4_34 rfl (pc' := 35) rfl ?_
  refine Z_iload_n dJ6_bitCount_0f7a4_35 rfl (pc' := 36) rfl ?_
  refine Z_bipush dJ6_bitCount_0f7a4_36 (v := 8) (by decide) (pc' := 38) rfl ?_
  refine Z_iushr dJ6_bitCount_0f7a4_38 (pc' := 39) rfl ?_
  refine Z_iadd dJ6_bitCount_0f7a4_39 (pc' := 40) rfl ?_
  refine Z_istore_n dJ6_bitCount_0f7a4_40 (Nat.le_of_ble_eq_true rfl) (Nat.le_of_ble_eq_true rfl) rfl (ls' := [_]) rfl (pc' := 41) rfl ?_
  refine Z_iload_n dJ6_bitCount_0f7a4_41 rfl (pc' := 42) rfl ?_
  refine Z_iload_n dJ6_bitCount_0f7a4_42 rfl (pc' := 43) rfl ?_
  refine Z_bipush dJ6_bitCount_0f7a4_43 (v := 16) (by decide) (pc' := 45) rfl ?_
  refine Z_iushr dJ6_bitCount_0f7a4_45 (pc' := 46) rfl ?_
  refine Z_iadd dJ6_bitCount_0f7a4_46 (pc' := 47) rfl ?_
  refine Z_istore_n dJ6_bitCount_0f7a4_47 (Nat.le_of_ble_eq_true rfl) (Nat.le_of_ble_eq_true rfl) rfl (ls' := [_]) rfl (pc' := 48) rfl ?_
  refine Z_iload_n dJ6_bitCount_0f7a4_48 rfl (pc' := 49) rfl ?_
  refine Z_bipush dJ6_bitCount_0f7a4_49 (v := 63) (by decide) (pc' := 51) rfl ?_
  refine Z_iand dJ6_bitCount_0f7a4_51 (pc' := 52) rfl ?_
  exact Z_ireturn dJ6_bitCount_0f7a4_52 rfl rfl ⟨by rw [← pcI_ok x hx]; rfl, rfl⟩
/-- seen at one of the first t tides of h -/
def seB (c : Co) (h : Nat) : Nat → Nat → Bool
  | 0, _ => false
  | t + 1, r => seB c h t r || (h.testBit t && islB c t r)
theorem nI_bitAt : ∀ h, h < 1024 → ∀ t, t < 10 → ((nI h >>> (nI t &&& 31)) &&& 1 = 0 ↔ h.testBit t = false) := by decide +kernel
def shA (c : Co) (h : Nat) : Bool := decide (bc (znb (seB c h 10) 6) = cnr c)
set_option maxRecDepth 100000 in
set_option maxHeartbeats 4000000 in
theorem lp_X7_showsAll {S : ZS} {n q h : Nat} {c : Co} (hq : cR q) (hr : rV S n q c) (ok : Cok c) (hh : h < 1024) {R : Option Value → ZW → Prop} (hR : R (some (.int (zb (shA c h)))) (zw S n)) : ∀ (m t : Nat), t + m = 10 → Z m_X7_showsAll 0 0 R 4 [some (.ref q), some (.int (nI h)), some (.int (nI (znb (seB c h t) 6))), some (.int (nI t))] [] (zw S n) := by
  intro m
  induction m with
  | zero =>
    intro t e
    obtain rfl : t = 10 := by omega
    have hz := znb_lt (seB c h 10) 6
    have hbc := bc_le (znb (seB c h 10) 6)
    have hnr := ok.2.2.1
    refine Z_iload_n dX7_showsAll_4 rfl (pc' := 5) rfl ?_
    refine Z_bipush dX7_showsAll_5 (v := 9) (by decide) (pc' := 7) rfl ?_
    refine Z_icmp_gt dX7_showsAll_7 (tgt := 32) rfl (pc' := 10) rfl (fun c_7 => ?_) (fun c_7 => absurd c_7 (fun c => c (by decide)))
    refine Z_iload_n dX7_showsAll_32 rfl (pc' := 33) rfl ?_
    refine Z_cSe dX7_showsAll_33 rfl zcw_J6_bitCount_0f7a4 (As := [_]) (rest := []) rfl ⟨Nat.le_of_ble_eq_true rfl, Nat.le_of_ble_eq_true rfl⟩ (Nat.le_of_ble_eq_true rfl) ⟨zcw_J6_bitCount_0f7a4.2.2.2.2, Nat.le_of_ble_eq_true rfl⟩ zk_RX7_32 (c_J6_bitCount_0f7a4 (by omega)) (pc' := 36) rfl ?_
    refine Z_aload_n dX7_showsAll_36 rfl (z_isref _) (pc' := 37) rfl ?_
    refine Z_gI dX7_showsAll_37 rfl (zgi_RX7_17_q_0 hq) (pc' := 40) rfl ?_
    rw [hr.1]
    refine Z_icmp_ne dX7_showsAll_40 (tgt := 47) rfl (pc' := 43) rfl (fun c_40 => ?_) (fun c_40 => ?_)
    · refine Z_iconst dX7_showsAll_47 (v := 0) (by decide) (pc' := 48) rfl ?_
      exact Z_ireturn dX7_showsAll_48 rfl (by first | rfl | exact narrow_zb _) (by rw [show shA c h = false from decide_eq_false (by rw [nI_eqn (by omega) (by omega)] at c_40; exact c_40)] at hR; exact hR)
    · refine Z_iconst dX7_showsAll_43 (v := 1) (by decide) (pc' := 44) rfl ?_
      refine Z_goto dX7_showsAll_44 (tgt := 48) rfl ?_
      exact Z_ireturn dX7_showsAll_48 rfl (by first | rfl | exact narrow_zb _) (by rw [show shA c h = true from decide_eq_true (by rw [nI_eqn (by omega) (by omega)] at c_40; exact c_40)] at hR; exact hR)
  | succ m ih =>
    intro t e
    refine Z_iload_n dX7_showsAll_4 rfl (pc' := 5) rfl ?_
    refine Z_bipush dX7_showsAll_5 (v := 9) (by decide) (pc' := 7) rfl ?_
    refine Z_icmp_gt dX7_showsAll_7 (tgt := 32) rfl (pc' := 10) rfl (fun c_7 => absurd c_7 (by rw [nI9, nI_ltn (by omega) (by omega)]; omega)) (fun c_7 => ?_)
    refine Z_iload_n dX7_showsAll_10 rfl (pc' := 11) rfl ?_
    refine Z_iload_n dX7_showsAll_11 rfl (pc' := 12) rfl ?_
    refine Z_ishr dX7_showsAll_12 (pc' := 13) rfl ?_
    refine Z_iconst dX7_showsAll_13 (v := 1) (by decide) (pc' := 14) rfl ?_
    refine Z_iand dX7_showsAll_14 (pc' := 15) rfl ?_
    refine Z_if_eq dX7_showsAll_15 (tgt := 26) rfl (pc' := 18) rfl (fun c_15 => ?_) (fun c_15 => ?_)
    · refine Z_iinc dX7_showsAll_26 rfl (nI_inc t) (Nat.le_of_ble_eq_true rfl) rfl (ls' := [_, _, _, _]) rfl (pc' := 29) rfl ?_
      refine Z_goto dX7_showsAll_29 (tgt := 4) rfl ?_
      refine Z_take 4 (ls' := [_, _, _, _]) rfl ?_
      rw [show znb (seB c h t) 6 = znb (seB c h (t + 1)) 6 from znb_cong 6 fun k _ => by rw [seB, (nI_bitAt h hh t (by omega)).mp c_15]; simp]
      exact ih (t + 1) (by omega)
    · refine Z_iload_n dX7_showsAll_18 rfl (pc' := 19) rfl ?_
      refine Z_aload_n dX7_showsAll_19 rfl (z_isref _) (pc' := 20) rfl ?_
      refine Z_iload_n dX7_showsAll_20 rfl (pc' := 21) rfl ?_
      refine Z_cVe dX7_showsAll_21 rfl zcw_X7_islandsAt (As := [_]) (rest := [_]) rfl ⟨Nat.le_of_ble_eq_true rfl, Nat.le_of_ble_eq_true rfl⟩ (Nat.le_of_ble_eq_true rfl) (zRcv.lay (zob_q_0 hq)) ⟨zcw_X7_islandsAt.2.2.2.2, Nat.le_of_ble_eq_true rfl⟩ zk_RX7_41 (c_X7_islandsAt hq hr ok (by omega)) (pc' := 24) rfl ?_
      refine Z_ior dX7_showsAll_24 (pc' := 25) rfl ?_
      rw [nI_or, znb_or]
      refine Z_istore_n dX7_showsAll_25 (Nat.le_of_ble_eq_true rfl) (Nat.le_of_ble_eq_true rfl) rfl (ls' := [_, _, _, _]) rfl (pc' := 26) rfl ?_
      refine Z_iinc dX7_showsAll_26 rfl (nI_inc t) (Nat.le_of_ble_eq_true rfl) rfl (ls' := [_, _, _, _]) rfl (pc' := 29) rfl ?_
      refine Z_goto dX7_showsAll_29 (tgt := 4) rfl ?_
      refine Z_take 4 (ls' := [_, _, _, _]) rfl ?_
      rw [show (fun k => seB c h t k || islB c t k) = seB c h (t + 1) from funext fun k => by rw [seB, Bool.not_eq_false _ |>.mp (fun z => c_15 ((nI_bitAt h hh t (by omega)).mpr z))]; simp]
      exact ih (t + 1) (by omega)
set_option maxRecDepth 100000 in
set_option maxHeartbeats 4000000 in
theorem c_X7_showsAll {S : ZS} {n q h : Nat} {c : Co} (hq : cR q) (hr : rV S n q c) (ok : Cok c) (hh : h < 1024) : zM m_X7_showsAll 0 0 [.ref q, .int (nI h)] (zw S n) (zE (some (.int (zb (shA c h)))) (zw S n)) := by
  show Z m_X7_showsAll _ _ _ 0 [some (.ref _), some (.int _)] [] _
  refine Z_iconst dX7_showsAll_0 (v := 0) (by decide) (pc' := 1) rfl ?_
  refine Z_istore_n dX7_showsAll_1 (Nat.le_of_ble_eq_true rfl) (Nat.le_of_ble_eq_true rfl) rfl (ls' := [_, _, _]) rfl (pc' := 2) rfl ?_
  refine Z_iconst dX7_showsAll_2 (v := 0) (by decide) (pc' := 3) rfl ?_
  refine Z_istore_n dX7_showsAll_3 (Nat.le_of_ble_eq_true rfl) (Nat.le_of_ble_eq_true rfl) rfl (ls' := [_, _, _, _]) rfl (pc' := 4) rfl ?_
  have h0 : nI (znb (seB c h 0) 6) = 0 := by rw [show znb (seB c h 0) 6 = 0 from by simp [znb, seB]]; rfl
  have key := lp_X7_showsAll hq hr ok hh (R := zE (some (.int (zb (shA c h)))) (zw S n)) ⟨rfl, rfl⟩ 10 0 rfl
  rw [h0] at key
  exact key
def fhF (sh : Nat → Bool) : Nat → Nat → Nat → Nat
  | 0, _, w => w
  | m + 1, s, w => if bc s < bc w ∧ sh s = true then fhF sh m (s + 1) s else fhF sh m (s + 1) w
theorem nI1024 : (1024 : Int32) = nI 1024 := rfl
set_option maxRecDepth 100000 in
set_option maxHeartbeats 4000000 in
theorem lp_X7_fewestHours {S : ZS} {n q : Nat} {c : Co} (hq : cR q) (hr : rV S n q c) (ok : Cok c) {R : Option Value → ZW → Prop} : ∀ (m s w : Nat), s + m = 1024 → w < 1024 → R (some (.int (nI (fhF (shA c) m s w)))) (zw S n) → Z m_X7_fewestHours 0 0 R 6 [some (.ref q), some (.int (nI w)), some (.int (nI s))] [] (zw S n) := by
  intro m
  induction m with
  | zero =>
    intro s w e hw hR
    obtain rfl : s = 1024 := by omega
    refine Z_iload_n dX7_fewestHours_6 rfl (pc' := 7) rfl ?_
    refine Z_sipush dX7_fewestHours_7 (v := 1024) (by decide) (pc' := 10) rfl ?_
    refine Z_icmp_ge dX7_fewestHours_10 (tgt := 40) rfl (pc' := 13) rfl (fun c_10 => ?_) (fun c_10 => absurd c_10 (fun c => c (by decide)))
    refine Z_iload_n dX7_fewestHours_40 rfl (pc' := 41) rfl ?_
    exact Z_ireturn dX7_fewestHours_41 rfl rfl hR
  | succ m ih =>
    intro s w e hw hR
    have h1 := bc_le s
    have h2 := bc_le w
    unfold fhF at hR
    refine Z_iload_n dX7_fewestHours_6 rfl (pc' := 7) rfl ?_
    refine Z_sipush dX7_fewestHours_7 (v := 1024) (by decide) (pc' := 10) rfl ?_
    refine Z_icmp_ge dX7_fewestHours_10 (tgt := 40) rfl (pc' := 13) rfl (fun c_10 => absurd c_10 (by rw [nI1024, nI_len (by omega) (by omega)]; omega)) (fun c_10 => ?_)
    refine Z_iload_n dX7_fewestHours_13 rfl (pc' := 14) rfl ?_
    refine Z_cSe dX7_fewestHours_14 rfl zcw_J6_bitCount_0f7a4 (As := [_]) (rest := []) rfl ⟨Nat.le_of_ble_eq_true rfl, Nat.le_of_ble_eq_true rfl⟩ (Nat.le_of_ble_eq_true rfl) ⟨zcw_J6_bitCount_0f7a4.2.2.2.2, Nat.le_of_ble_eq_true rfl⟩ zk_RX7_32 (c_J6_bitCount_0f7a4 (by omega)) (pc' := 17) rfl ?_
    refine Z_iload_n dX7_fewestHours_17 rfl (pc' := 18) rfl ?_
    refine Z_cSe dX7_fewestHours_18 rfl zcw_J6_bitCount_0f7a4 (As := [_]) (rest := [_]) rfl ⟨Nat.le_of_ble_eq_true rfl, Nat.le_of_ble_eq_true rfl⟩ (Nat.le_of_ble_eq_true rfl) ⟨zcw_J6_bitCount_0f7a4.2.2.2.2, Nat.le_of_ble_eq_true rfl⟩ zk_RX7_32 (c_J6_bitCount_0f7a4 (by omega)) (pc' := 21) rfl ?_
    refine Z_icmp_ge dX7_fewestHours_21 (tgt := 34) rfl (pc' := 24) rfl (fun c_21 => ?_) (fun c_21 => ?_)
    · refine Z_iinc dX7_fewestHours_34 rfl (nI_inc s) (Nat.le_of_ble_eq_true rfl) rfl (ls' := [_, _, _]) rfl (pc' := 37) rfl ?_
      refine Z_goto dX7_fewestHours_37 (tgt := 6) rfl ?_
      refine Z_take 3 (ls' := [_, _, _]) rfl ?_
      exact ih (s + 1) w (by omega) hw (by rw [if_neg (by rw [nI_len (by omega) (by omega)] at c_21; omega)] at hR; exact hR)
    · refine Z_aload_n dX7_fewestHours_24 rfl (z_isref _) (pc' := 25) rfl ?_
      refine Z_iload_n dX7_fewestHours_25 rfl (pc' := 26) rfl ?_
      refine Z_cVe dX7_fewestHours_26 rfl zcw_X7_showsAll (As := [_]) (rest := []) rfl ⟨Nat.le_of_ble_eq_true rfl, Nat.le_of_ble_eq_true rfl⟩ (Nat.le_of_ble_eq_true rfl) (zRcv.lay (zob_q_0 hq)) ⟨zcw_X7_showsAll.2.2.2.2, Nat.le_of_ble_eq_true rfl⟩ zk_RX7_38 (c_X7_showsAll hq hr ok (by omega)) (pc' := 29) rfl ?_
      refine Z_if_eq dX7_fewestHours_29 (tgt := 34) rfl (pc' := 32) rfl (fun c_29 => ?_) (fun c_29 => ?_)
      · refine Z_iinc dX7_fewestHours_34 rfl (nI_inc s) (Nat.le_of_ble_eq_true rfl) rfl (ls' := [_, _, _]) rfl (pc' := 37) rfl ?_
        refine Z_goto dX7_fewestHours_37 (tgt := 6) rfl ?_
        refine Z_take 3 (ls' := [_, _, _]) rfl ?_
        exact ih (s + 1) w (by omega) hw (by rw [if_neg (by rw [(zb_eq0 _).mp c_29]; simp)] at hR; exact hR)
      · refine Z_iload_n dX7_fewestHours_32 rfl (pc' := 33) rfl ?_
        refine Z_istore_n dX7_fewestHours_33 (Nat.le_of_ble_eq_true rfl) (Nat.le_of_ble_eq_true rfl) rfl (ls' := [_, _, _]) rfl (pc' := 34) rfl ?_
        refine Z_iinc dX7_fewestHours_34 rfl (nI_inc s) (Nat.le_of_ble_eq_true rfl) rfl (ls' := [_, _, _]) rfl (pc' := 37) rfl ?_
        refine Z_goto dX7_fewestHours_37 (tgt := 6) rfl ?_
        refine Z_take 3 (ls' := [_, _, _]) rfl ?_
        exact ih (s + 1) s (by omega) (by omega) (by rw [if_pos ⟨by rw [nI_len (by omega) (by omega)] at c_21; omega, (zb_ne0 _).mp c_29⟩] at hR; exact hR)
set_option maxRecDepth 100000 in
set_option maxHeartbeats 4000000 in
theorem c_X7_fewestHours {S : ZS} {n q : Nat} {c : Co} (hq : cR q) (hr : rV S n q c) (ok : Cok c) : zM m_X7_fewestHours 0 0 [.ref q] (zw S n) (zE (some (.int (nI (fhF (shA c) 1024 0 1023)))) (zw S n)) := by
  show Z m_X7_fewestHours _ _ _ 0 [some (.ref _)] [] _
  refine Z_sipush dX7_fewestHours_0 (v := 1023) (by decide) (pc' := 3) rfl ?_
  refine Z_istore_n dX7_fewestHours_3 (Nat.le_of_ble_eq_true rfl) (Nat.le_of_ble_eq_true rfl) rfl (ls' := [_, _]) rfl (pc' := 4) rfl ?_
  refine Z_iconst dX7_fewestHours_4 (v := 0) (by decide) (pc' := 5) rfl ?_
  refine Z_istore_n dX7_fewestHours_5 (Nat.le_of_ble_eq_true rfl) (Nat.le_of_ble_eq_true rfl) rfl (ls' := [_, _, _]) rfl (pc' := 6) rfl ?_
  exact lp_X7_fewestHours hq hr ok 1024 0 1023 rfl (by decide) ⟨rfl, rfl⟩
def hmN (c : Co) (i : Nat) : Nat := if i < cnr c then crx c i + cry c i else 0
def adN (a b : Nat) : Nat := if a < b then b - a else a - b
def btN (c : Co) (i j : Nat) : Nat := if i < cnr c ∧ j < cnr c then adN (crx c i) (crx c j) + adN (cry c i) (cry c j) else 0
theorem nI_abs {a b : Nat} (ha : a < 1000) (hb : b < 1000) : (if (0 : Int32) ≤ nI a - nI b then nI a - nI b else 0 - (nI a - nI b)) = nI (adN a b) := by
  rcases Nat.lt_or_ge a b with h | h
  · rw [show adN a b = b - a from if_pos h, if_neg (Int32.not_le.mpr (nI_subneg h (by omega))), Int32.zero_sub, Int32.neg_sub, nI_sub (by omega)]
  · rw [show adN a b = a - b from if_neg (by omega), nI_sub h, if_pos (by rw [show (0 : Int32) = nI 0 from rfl, nI_len (by omega) (by omega)]; omega)]
theorem hmN_le {c : Co} (ok : Cok c) (i : Nat) : hmN c i ≤ 198 := by
  unfold hmN
  split
  · rename_i h
    have := ok.2.2.2.2.2.2.2 i h
    omega
  · omega
theorem adN_le {a b m : Nat} (ha : a ≤ m) (hb : b ≤ m) : adN a b ≤ m := by unfold adN; split <;> omega
theorem btN_le {c : Co} (ok : Cok c) (i j : Nat) : btN c i j ≤ 198 := by
  unfold btN
  split
  · rename_i h
    have h1 := ok.2.2.2.2.2.2.2 i h.1
    have h2 := ok.2.2.2.2.2.2.2 j h.2
    have := adN_le h1.1 h2.1
    have := adN_le h1.2.1 h2.2.1
    omega
  · omega
set_option maxRecDepth 100000 in
set_option maxHeartbeats 4000000 in
theorem c_X7_yardsFromHome {S : ZS} {n q i : Nat} {c : Co} (hq : cR q) (hr : rV S n q c) (ok : Cok c) (hi : i < 6) : zM m_X7_yardsFromHome 0 0 [.ref q, .int (nI i)] (zw S n) (zE (some (.int (nI (hmN c i)))) (zw S n)) := by
  show Z m_X7_yardsFromHome _ _ _ 0 [some (.ref _), some (.int _)] [] _
  refine Z_aload_n dX7_yardsFromHome_0 rfl (z_isref _) (pc' := 1) rfl ?_
  refine Z_iload_n dX7_yardsFromHome_1 rfl (pc' := 2) rfl ?_
  refine Z_cVe dX7_yardsFromHome_2 rfl zcw_X7_rockAt (As := [_]) (rest := []) rfl ⟨Nat.le_of_ble_eq_true rfl, Nat.le_of_ble_eq_true rfl⟩ (Nat.le_of_ble_eq_true rfl) (zRcv.lay (zob_q_0 hq)) ⟨zcw_X7_rockAt.2.2.2.2, Nat.le_of_ble_eq_true rfl⟩ zk_RX7_24 (c_X7_rockAt hq) (pc' := 5) rfl ?_
  rcases hr.at ok i hi with ⟨hlt, j, hj, hP, e⟩ | ⟨hge, e⟩
  · rw [e]
    show Z _ _ _ _ _ _ (.ref (48 + j) :: _) _
    obtain ⟨hrx, hry, hlh, hh9⟩ := ok.2.2.2.2.2.2.2 _ hlt
    refine Z_astore_n dX7_yardsFromHome_5 (Nat.le_of_ble_eq_true rfl) (Nat.le_of_ble_eq_true rfl) rfl (ls' := [_, _, _]) rfl (z_isref _) (pc' := 6) rfl ?_
    refine Z_aload_n dX7_yardsFromHome_6 rfl (z_isref _) (pc' := 7) rfl ?_
    refine Z_ifnonnullR dX7_yardsFromHome_7 (tgt := 14) rfl (pc' := 10) rfl ?_
    refine Z_aload_n dX7_yardsFromHome_14 rfl (z_isref _) (pc' := 15) rfl ?_
    refine Z_gPN dX7_yardsFromHome_15 rfl zfd_RX7_44_6 hj hP rfl (pc' := 18) rfl ?_
    refine Z_aload_n dX7_yardsFromHome_18 rfl (z_isref _) (pc' := 19) rfl ?_
    refine Z_gPN dX7_yardsFromHome_19 rfl zfd_RX7_47_6 hj hP rfl (pc' := 22) rfl ?_
    refine Z_iadd dX7_yardsFromHome_22 (pc' := 23) rfl ?_
    exact Z_ireturn dX7_yardsFromHome_23 rfl rfl ⟨by unfold hmN; rw [if_pos hlt, nI_add], rfl⟩
  · rw [e]
    show Z _ _ _ _ _ _ (.null :: _) _
    refine Z_astore_n dX7_yardsFromHome_5 (Nat.le_of_ble_eq_true rfl) (Nat.le_of_ble_eq_true rfl) rfl (ls' := [_, _, _]) rfl (Or.inl rfl) (pc' := 6) rfl ?_
    refine Z_aload_n dX7_yardsFromHome_6 rfl (Or.inl rfl) (pc' := 7) rfl ?_
    refine Z_ifnonnullN dX7_yardsFromHome_7 (tgt := 14) rfl (pc' := 10) rfl ?_
    refine Z_iconst dX7_yardsFromHome_10 (v := 0) (by decide) (pc' := 11) rfl ?_
    refine Z_goto dX7_yardsFromHome_11 (tgt := 23) rfl ?_
    exact Z_ireturn dX7_yardsFromHome_23 rfl rfl ⟨by unfold hmN; rw [if_neg (Nat.not_lt.mpr hge)]; rfl, rfl⟩
set_option maxRecDepth 100000 in
set_option maxHeartbeats 4000000 in
theorem c_X7_yardsBetween {S : ZS} {n q i k : Nat} {c : Co} (hq : cR q) (hr : rV S n q c) (ok : Cok c) (hi : i < 6) (hk : k < 6) : zM m_X7_yardsBetween 0 0 [.ref q, .int (nI i), .int (nI k)] (zw S n) (zE (some (.int (nI (btN c i k)))) (zw S n)) := by
  show Z m_X7_yardsBetween _ _ _ 0 [some (.ref _), some (.int _), some (.int _)] [] _
  refine Z_aload_n dX7_yardsBetween_0 rfl (z_isref _) (pc' := 1) rfl ?_
  refine Z_iload_n dX7_yardsBetween_1 rfl (pc' := 2) rfl ?_
  refine Z_cVe dX7_yardsBetween_2 rfl zcw_X7_rockAt (As := [_]) (rest := []) rfl ⟨Nat.le_of_ble_eq_true rfl, Nat.le_of_ble_eq_true rfl⟩ (Nat.le_of_ble_eq_true rfl) (zRcv.lay (zob_q_0 hq)) ⟨zcw_X7_rockAt.2.2.2.2, Nat.le_of_ble_eq_true rfl⟩ zk_RX7_24 (c_X7_rockAt hq) (pc' := 5) rfl ?_
  rcases hr.at ok i hi with ⟨hlt, j, hj, hP, e⟩ | ⟨hge, e⟩
  · rw [e]
    show Z _ _ _ _ _ _ (.ref (48 + j) :: _) _
    obtain ⟨hrx, hry, hlh, hh9⟩ := ok.2.2.2.2.2.2.2 _ hlt
    refine Z_astore_n dX7_yardsBetween_5 (Nat.le_of_ble_eq_true rfl) (Nat.le_of_ble_eq_true rfl) rfl (ls' := [_, _, _, _]) rfl (z_isref _) (pc' := 6) rfl ?_
    refine Z_aload_n dX7_yardsBetween_6 rfl (z_isref _) (pc' := 7) rfl ?_
    refine Z_iload_n dX7_yardsBetween_7 rfl (pc' := 8) rfl ?_
    refine Z_cVe dX7_yardsBetween_8 rfl zcw_X7_rockAt (As := [_]) (rest := []) rfl ⟨Nat.le_of_ble_eq_true rfl, Nat.le_of_ble_eq_true rfl⟩ (Nat.le_of_ble_eq_true rfl) (zRcv.lay (zob_q_0 hq)) ⟨zcw_X7_rockAt.2.2.2.2, Nat.le_of_ble_eq_true rfl⟩ zk_RX7_24 (c_X7_rockAt hq) (pc' := 11) rfl ?_
    rcases hr.at ok k hk with ⟨hlt2, j2, hj2, hP2, e2⟩ | ⟨hge2, e2⟩
    · rw [e2]
      show Z _ _ _ _ _ _ (.ref (48 + j2) :: _) _
      obtain ⟨hrx2, hry2, hlh2, hh92⟩ := ok.2.2.2.2.2.2.2 _ hlt2
      refine Z_astore dX7_yardsBetween_11 (Nat.le_of_ble_eq_true rfl) (Nat.le_of_ble_eq_true rfl) rfl (ls' := [_, _, _, _, _]) rfl (z_isref _) (pc' := 13) rfl ?_
      refine Z_aload_n dX7_yardsBetween_13 rfl (z_isref _) (pc' := 14) rfl ?_
      refine Z_ifnullR dX7_yardsBetween_14 (tgt := 22) rfl (pc' := 17) rfl ?_
      refine Z_aload dX7_yardsBetween_17 rfl (z_isref _) (pc' := 19) rfl ?_
      refine Z_ifnonnullR dX7_yardsBetween_19 (tgt := 24) rfl (pc' := 22) rfl ?_
      refine Z_aload_n dX7_yardsBetween_24 rfl (z_isref _) (pc' := 25) rfl ?_
      refine Z_gPN dX7_yardsBetween_25 rfl zfd_RX7_44_6 hj hP rfl (pc' := 28) rfl ?_
      refine Z_aload dX7_yardsBetween_28 rfl (z_isref _) (pc' := 30) rfl ?_
      refine Z_gPN dX7_yardsBetween_30 rfl zfd_RX7_44_6 hj2 hP2 rfl (pc' := 33) rfl ?_
      refine Z_isub dX7_yardsBetween_33 (pc' := 34) rfl ?_
      refine Z_mabs dX7_yardsBetween_34 rfl zk_RX7_50 (Nat.le_of_ble_eq_true rfl) (Nat.le_of_ble_eq_true rfl) (pc' := 37) rfl ?_
      rw [nI_abs (by omega) (by omega)]
      refine Z_aload_n dX7_yardsBetween_37 rfl (z_isref _) (pc' := 38) rfl ?_
      refine Z_gPN dX7_yardsBetween_38 rfl zfd_RX7_47_6 hj hP rfl (pc' := 41) rfl ?_
      refine Z_aload dX7_yardsBetween_41 rfl (z_isref _) (pc' := 43) rfl ?_
      refine Z_gPN dX7_yardsBetween_43 rfl zfd_RX7_47_6 hj2 hP2 rfl (pc' := 46) rfl ?_
      refine Z_isub dX7_yardsBetween_46 (pc' := 47) rfl ?_
      refine Z_mabs dX7_yardsBetween_47 rfl zk_RX7_50 (Nat.le_of_ble_eq_true rfl) (Nat.le_of_ble_eq_true rfl) (pc' := 50) rfl ?_
      rw [nI_abs (by omega) (by omega)]
      refine Z_iadd dX7_yardsBetween_50 (pc' := 51) rfl ?_
      exact Z_ireturn dX7_yardsBetween_51 rfl rfl ⟨by unfold btN; rw [if_pos ⟨hlt, hlt2⟩, nI_add], rfl⟩
    · rw [e2]
      show Z _ _ _ _ _ _ (.null :: _) _
      refine Z_astore dX7_yardsBetween_11 (Nat.le_of_ble_eq_true rfl) (Nat.le_of_ble_eq_true rfl) rfl (ls' := [_, _, _, _, _]) rfl (Or.inl rfl) (pc' := 13) rfl ?_
      refine Z_aload_n dX7_yardsBetween_13 rfl (z_isref _) (pc' := 14) rfl ?_
      refine Z_ifnullR dX7_yardsBetween_14 (tgt := 22) rfl (pc' := 17) rfl ?_
      refine Z_aload dX7_yardsBetween_17 rfl (Or.inl rfl) (pc' := 19) rfl ?_
      refine Z_ifnonnullN dX7_yardsBetween_19 (tgt := 24) rfl (pc' := 22) rfl ?_
      refine Z_iconst dX7_yardsBetween_22 (v := 0) (by decide) (pc' := 23) rfl ?_
      exact Z_ireturn dX7_yardsBetween_23 rfl rfl ⟨by unfold btN; rw [if_neg (fun h => Nat.not_lt.mpr hge2 h.2)]; rfl, rfl⟩
  · rw [e]
    show Z _ _ _ _ _ _ (.null :: _) _
    refine Z_astore_n dX7_yardsBetween_5 (Nat.le_of_ble_eq_true rfl) (Nat.le_of_ble_eq_true rfl) rfl (ls' := [_, _, _, _]) rfl (Or.inl rfl) (pc' := 6) rfl ?_
    refine Z_aload_n dX7_yardsBetween_6 rfl (z_isref _) (pc' := 7) rfl ?_
    refine Z_iload_n dX7_yardsBetween_7 rfl (pc' := 8) rfl ?_
    refine Z_cVe dX7_yardsBetween_8 rfl zcw_X7_rockAt (As := [_]) (rest := []) rfl ⟨Nat.le_of_ble_eq_true rfl, Nat.le_of_ble_eq_true rfl⟩ (Nat.le_of_ble_eq_true rfl) (zRcv.lay (zob_q_0 hq)) ⟨zcw_X7_rockAt.2.2.2.2, Nat.le_of_ble_eq_true rfl⟩ zk_RX7_24 (c_X7_rockAt hq) (pc' := 11) rfl ?_
    rcases hr.at ok k hk with ⟨hlt2, j2, hj2, hP2, e2⟩ | ⟨hge2, e2⟩
    · rw [e2]
      show Z _ _ _ _ _ _ (.ref (48 + j2) :: _) _
      obtain ⟨hrx2, hry2, hlh2, hh92⟩ := ok.2.2.2.2.2.2.2 _ hlt2
      refine Z_astore dX7_yardsBetween_11 (Nat.le_of_ble_eq_true rfl) (Nat.le_of_ble_eq_true rfl) rfl (ls' := [_, _, _, _, _]) rfl (z_isref _) (pc' := 13) rfl ?_
      refine Z_aload_n dX7_yardsBetween_13 rfl (Or.inl rfl) (pc' := 14) rfl ?_
      refine Z_ifnullN dX7_yardsBetween_14 (tgt := 22) rfl (pc' := 17) rfl ?_
      refine Z_iconst dX7_yardsBetween_22 (v := 0) (by decide) (pc' := 23) rfl ?_
      exact Z_ireturn dX7_yardsBetween_23 rfl rfl ⟨by unfold btN; rw [if_neg (fun h => Nat.not_lt.mpr hge h.1)]; rfl, rfl⟩
    · rw [e2]
      show Z _ _ _ _ _ _ (.null :: _) _
      refine Z_astore dX7_yardsBetween_11 (Nat.le_of_ble_eq_true rfl) (Nat.le_of_ble_eq_true rfl) rfl (ls' := [_, _, _, _, _]) rfl (Or.inl rfl) (pc' := 13) rfl ?_
      refine Z_aload_n dX7_yardsBetween_13 rfl (Or.inl rfl) (pc' := 14) rfl ?_
      refine Z_ifnullN dX7_yardsBetween_14 (tgt := 22) rfl (pc' := 17) rfl ?_
      refine Z_iconst dX7_yardsBetween_22 (v := 0) (by decide) (pc' := 23) rfl ?_
      exact Z_ireturn dX7_yardsBetween_23 rfl rfl ⟨by unfold btN; rw [if_neg (fun h => Nat.not_lt.mpr hge h.1)]; rfl, rfl⟩
def minI (x y : Int32) : Int32 := if y < x then y else x
/-- the least way to 'l' by the set 'rest', by what the row g says -/
def mnI (c : Co) (g : Nat → Int32) (rest l : Nat) : Nat → Int32
  | 0 => 1000000
  | b + 1 => minI (mnI c g rest l b) (g (6 * rest + b) + nI (btN c b l))
def lwI (c : Co) (g : Nat → Int32) (s l : Nat) : Int32 := if s.testBit l = false then 1000000 else if s - 2 ^ l = 0 then nI (hmN c l) else mnI c g (s - 2 ^ l) l 6
theorem nI_wy {s l : Nat} : nI s * 6 + nI l = nI (6 * s + l) := by rw [show (6 : Int32) = nI 6 from rfl, nI_mul, nI_add, Nat.mul_comm]
theorem wyI (g : Nat → Int32) {s l : Nat} (hs : s < 64) (hl : l < 6) : gI g 384 1000000 (nI s * 6 + nI l) = g (6 * s + l) := by
  rw [nI_wy, show (384 : Int32) = nI 384 from rfl, gI_nat _ _ (by decide) (by omega)]
theorem nI_bit6 : ∀ s, s < 64 → ∀ l, l < 6 → ((nI s >>> (nI l &&& 31)) &&& 1 = 0 ↔ s.testBit l = false) := by decide +kernel
theorem nI_rest : ∀ s, s < 64 → ∀ l, l < 6 → s.testBit l = true → nI s &&& (((1 : Int32) <<< (nI l &&& 31)) ^^^ (-1)) = nI (s - 2 ^ l) := by decide +kernel
set_option maxRecDepth 100000 in
set_option maxHeartbeats 4000000 in
theorem lp_X0_leastWay {S : ZS} {n q s l r : Nat} {c : Co} (hq : cR q) (hr : rV S n q c) (ok : Cok c) (hrr : r < 64) (hl : l < 6) {R : Option Value → ZW → Prop} (hR : R (some (.int (mnI c (S.1 20) r l 6))) (zw S n)) : ∀ (m b : Nat), b + m = 6 → Z m_X0_leastWay 0 0 R 38 [some (.ref 19), some (.ref q), some (.int (nI s)), some (.int (nI l)), some (.int (nI r)), some (.int (mnI c (S.1 20) r l b)), some (.int (nI b))] [] (zw S n) := by
  intro m
  induction m with
  | zero =>
    intro b e
    obtain rfl : b = 6 := by omega
    refine Z_iload dX0_leastWay_38 rfl (pc' := 40) rfl ?_
    refine Z_bipush dX0_leastWay_40 (v := 6) (by decide) (pc' := 42) rfl ?_
    refine Z_icmp_ge dX0_leastWay_42 (tgt := 74) rfl (pc' := 45) rfl (fun c_42 => ?_) (fun c_42 => absurd c_42 (fun c => c (by decide)))
    refine Z_iload dX0_leastWay_74 rfl (pc' := 76) rfl ?_
    exact Z_ireturn dX0_leastWay_76 rfl rfl hR
  | succ m ih =>
    intro b e
    refine Z_iload dX0_leastWay_38 rfl (pc' := 40) rfl ?_
    refine Z_bipush dX0_leastWay_40 (v := 6) (by decide) (pc' := 42) rfl ?_
    refine Z_icmp_ge dX0_leastWay_42 (tgt := 74) rfl (pc' := 45) rfl (fun c_42 => absurd c_42 (by rw [nI6, nI_len (by omega) (by omega)]; omega)) (fun c_42 => ?_)
    refine Z_iload dX0_leastWay_45 rfl (pc' := 47) rfl ?_
    refine Z_aload_n dX0_leastWay_47 rfl (z_isref _) (pc' := 48) rfl ?_
    refine Z_iload dX0_leastWay_48 rfl (pc' := 50) rfl ?_
    refine Z_iload dX0_leastWay_50 rfl (pc' := 52) rfl ?_
    refine Z_cVe dX0_leastWay_52 rfl zcw_X0_wayBy (As := [_, _]) (rest := [_]) rfl ⟨Nat.le_of_ble_eq_true rfl, Nat.le_of_ble_eq_true rfl⟩ (Nat.le_of_ble_eq_true rfl) (zRcv.lay zob_19) ⟨zcw_X0_wayBy.2.2.2.2, Nat.le_of_ble_eq_true rfl⟩ zk_RX0_20 c_X0_wayBy (pc' := 55) rfl ?_
    rw [wyI _ hrr (show b < 6 by omega)]
    refine Z_aload_n dX0_leastWay_55 rfl (z_isref _) (pc' := 56) rfl ?_
    refine Z_iload dX0_leastWay_56 rfl (pc' := 58) rfl ?_
    refine Z_iload_n dX0_leastWay_58 rfl (pc' := 59) rfl ?_
    refine Z_cVe dX0_leastWay_59 rfl zcw_X7_yardsBetween (As := [_, _]) (rest := [_, _]) rfl ⟨Nat.le_of_ble_eq_true rfl, Nat.le_of_ble_eq_true rfl⟩ (Nat.le_of_ble_eq_true rfl) (zRcv.lay (zob_q_0 hq)) ⟨zcw_X7_yardsBetween.2.2.2.2, Nat.le_of_ble_eq_true rfl⟩ zk_RX0_39 (c_X7_yardsBetween hq hr ok (by omega) (by omega)) (pc' := 62) rfl ?_
    refine Z_iadd dX0_leastWay_62 (pc' := 63) rfl ?_
    refine Z_mmin dX0_leastWay_63 rfl zk_RX0_30 (Nat.le_of_ble_eq_true rfl) (Nat.le_of_ble_eq_true rfl) (pc' := 66) rfl ?_
    refine Z_istore dX0_leastWay_66 (Nat.le_of_ble_eq_true rfl) (Nat.le_of_ble_eq_true rfl) rfl (ls' := [_, _, _, _, _, _, _]) rfl (pc' := 68) rfl ?_
    refine Z_iinc dX0_leastWay_68 rfl (nI_inc b) (Nat.le_of_ble_eq_true rfl) rfl (ls' := [_, _, _, _, _, _, _]) rfl (pc' := 71) rfl ?_
    refine Z_goto dX0_leastWay_71 (tgt := 38) rfl ?_
    refine Z_take 7 (ls' := [_, _, _, _, _, _, _]) rfl ?_
    exact ih (b + 1) (by omega)
set_option maxRecDepth 100000 in
set_option maxHeartbeats 4000000 in
theorem c_X0_leastWay {S : ZS} {n q s l : Nat} {c : Co} (hq : cR q) (hr : rV S n q c) (ok : Cok c) (hs : s < 64) (hl : l < 6) : zM m_X0_leastWay 0 0 [.ref 19, .ref q, .int (nI s), .int (nI l)] (zw S n) (zE (some (.int (lwI c (S.1 20) s l))) (zw S n)) := by
  show Z m_X0_leastWay _ _ _ 0 [some (.ref _), some (.ref _), some (.int _), some (.int _)] [] _
  refine Z_iload_n dX0_leastWay_0 rfl (pc' := 1) rfl ?_
  refine Z_iload_n dX0_leastWay_1 rfl (pc' := 2) rfl ?_
  refine Z_ishr dX0_leastWay_2 (pc' := 3) rfl ?_
  refine Z_iconst dX0_leastWay_3 (v := 1) (by decide) (pc' := 4) rfl ?_
  refine Z_iand dX0_leastWay_4 (pc' := 5) rfl ?_
  refine Z_if_ne dX0_leastWay_5 (tgt := 11) rfl (pc' := 8) rfl (fun c_5 => ?_) (fun c_5 => ?_)
  · have hbit := Bool.not_eq_false _ |>.mp (fun z => c_5 ((nI_bit6 s hs l hl).mpr z))
    refine Z_iload_n dX0_leastWay_11 rfl (pc' := 12) rfl ?_
    refine Z_iconst dX0_leastWay_12 (v := 1) (by decide) (pc' := 13) rfl ?_
    refine Z_iload_n dX0_leastWay_13 rfl (pc' := 14) rfl ?_
    refine Z_ishl dX0_leastWay_14 (pc' := 15) rfl ?_
    refine Z_iconst dX0_leastWay_15 (v := (-1)) (by decide) (pc' := 16) rfl ?_
    refine Z_ixor dX0_leastWay_16 (pc' := 17) rfl ?_
    refine Z_iand dX0_leastWay_17 (pc' := 18) rfl ?_
    rw [nI_rest s hs l hl hbit]
    refine Z_istore dX0_leastWay_18 (Nat.le_of_ble_eq_true rfl) (Nat.le_of_ble_eq_true rfl) rfl (ls' := [_, _, _, _, _]) rfl (pc' := 20) rfl ?_
    refine Z_iload dX0_leastWay_20 rfl (pc' := 22) rfl ?_
    refine Z_if_ne dX0_leastWay_22 (tgt := 31) rfl (pc' := 25) rfl (fun c_22 => ?_) (fun c_22 => ?_)
    · refine Z_ldc dX0_leastWay_31 rfl zw_631 (pc' := 33) rfl ?_
      refine Z_istore dX0_leastWay_33 (Nat.le_of_ble_eq_true rfl) (Nat.le_of_ble_eq_true rfl) rfl (ls' := [_, _, _, _, _, _]) rfl (pc' := 35) rfl ?_
      refine Z_iconst dX0_leastWay_35 (v := 0) (by decide) (pc' := 36) rfl ?_
      refine Z_istore dX0_leastWay_36 (Nat.le_of_ble_eq_true rfl) (Nat.le_of_ble_eq_true rfl) rfl (ls' := [_, _, _, _, _, _, _]) rfl (pc' := 38) rfl ?_
      exact lp_X0_leastWay hq hr ok (r := s - 2 ^ l) (Nat.lt_of_le_of_lt (Nat.sub_le _ _) hs) hl ⟨by unfold lwI; rw [if_neg (by rw [hbit]; simp), if_neg (fun z => c_22 (by rw [z]; rfl))], rfl⟩ 6 0 rfl
    · refine Z_aload_n dX0_leastWay_25 rfl (z_isref _) (pc' := 26) rfl ?_
      refine Z_iload_n dX0_leastWay_26 rfl (pc' := 27) rfl ?_
      refine Z_cVe dX0_leastWay_27 rfl zcw_X7_yardsFromHome (As := [_]) (rest := []) rfl ⟨Nat.le_of_ble_eq_true rfl, Nat.le_of_ble_eq_true rfl⟩ (Nat.le_of_ble_eq_true rfl) (zRcv.lay (zob_q_0 hq)) ⟨zcw_X7_yardsFromHome.2.2.2.2, Nat.le_of_ble_eq_true rfl⟩ zk_RX0_24 (c_X7_yardsFromHome hq hr ok (by omega)) (pc' := 30) rfl ?_
      exact Z_ireturn dX0_leastWay_30 rfl rfl ⟨by unfold lwI; rw [if_neg (by rw [hbit]; simp), if_pos ((nI_eqn (b := 0) (by have := Nat.sub_le s (2 ^ l); omega) (by omega)).mp c_22)], rfl⟩
  · refine Z_ldc dX0_leastWay_8 rfl zw_631 (pc' := 10) rfl ?_
    exact Z_ireturn dX0_leastWay_10 rfl rfl ⟨by unfold lwI; rw [if_pos ((nI_bit6 s hs l hl).mp c_5)], rfl⟩
/-- the world with another row at a -/
def sRow (S : ZS) (a : Nat) (g : Nat → Int32) : ZS := (zup S.1 a g, S.2)
theorem sRow_A (S : ZS) (a k : Nat) (g : Nat → Int32) (x : Int32) : sA (sRow S a g) a k x = sRow S a (zup g k x) := by
  unfold sA sRow
  show (zup (zup S.1 a g) a (zup (zup S.1 a g a) k x), S.2) = (zup S.1 a (zup g k x), S.2)
  rw [zup_same]
  congr 1
  funext j
  by_cases h : j = a
  · subst h; rw [zup_same, zup_same]
  · rw [zup_ne _ _ h, zup_ne _ _ h, zup_ne _ _ h]
theorem sRow_at (S : ZS) (a : Nat) (g : Nat → Int32) : (sRow S a g).1 a = g := zup_same _ _ _
theorem sRow_ne (S : ZS) {a b : Nat} (g : Nat → Int32) (h : b ≠ a) : (sRow S a g).1 b = S.1 b := zup_ne _ _ h
theorem sRow_self (S : ZS) (a : Nat) : sRow S a (S.1 a) = S := by
  unfold sRow
  congr 1
  funext j
  by_cases h : j = a
  · subst h; rw [zup_same]
  · rw [zup_ne _ _ h]
theorem rV_row {S : ZS} {n q : Nat} {c : Co} (h : rV S n q c) {a : Nat} (g : Nat → Int32) (hq : cR q) (ha : a ≠ 5 ∧ a ≠ 11 ∧ a ≠ 17) : rV (sRow S a g) n q c := by
  have hne : q ≠ a := by rcases hq with rfl | rfl | rfl <;> omega
  exact ⟨by rw [sRow_ne S g hne]; exact h.1, h.2⟩
def pwG (c : Co) (g : Nat → Int32) (s : Nat) : Nat → (Nat → Int32)
  | 0 => g
  | l + 1 => zup (pwG c g s l) (6 * s + l) (lwI c (pwG c g s l) s l)
set_option maxRecDepth 100000 in
set_option maxHeartbeats 4000000 in
theorem lp_X0_putWays {S : ZS} {n q s : Nat} {g : Nat → Int32} {c : Co} (hq : cR q) (hr : rV S n q c) (ok : Cok c) (hs : s < 64) {R : Option Value → ZW → Prop} (hR : R none (zw (sRow S 20 (pwG c g s 6)) n)) : ∀ (m l : Nat), l + m = 6 → Z m_X0_putWays 0 0 R 2 [some (.ref 19), some (.ref q), some (.int (nI s)), some (.int (nI l))] [] (zw (sRow S 20 (pwG c g s l)) n) := by
  intro m
  induction m with
  | zero =>
    intro l e
    obtain rfl : l = 6 := by omega
    refine Z_iload_n dX0_putWays_2 rfl (pc' := 3) rfl ?_
    refine Z_bipush dX0_putWays_3 (v := 6) (by decide) (pc' := 5) rfl ?_
    refine Z_icmp_ge dX0_putWays_5 (tgt := 51) rfl (pc' := 8) rfl (fun c_5 => ?_) (fun c_5 => absurd c_5 (fun c => c (by decide)))
    exact Z_return dX0_putWays_51 rfl hR
  | succ m ih =>
    intro l e
    have hr2 := rV_row hr (a := 20) (pwG c g s l) hq (by decide)
    refine Z_iload_n dX0_putWays_2 rfl (pc' := 3) rfl ?_
    refine Z_bipush dX0_putWays_3 (v := 6) (by decide) (pc' := 5) rfl ?_
    refine Z_icmp_ge dX0_putWays_5 (tgt := 51) rfl (pc' := 8) rfl (fun c_5 => absurd c_5 (by rw [nI6, nI_len (by omega) (by omega)]; omega)) (fun c_5 => ?_)
    refine Z_iload_n dX0_putWays_8 rfl (pc' := 9) rfl ?_
    refine Z_bipush dX0_putWays_9 (v := 6) (by decide) (pc' := 11) rfl ?_
    refine Z_imul dX0_putWays_11 (pc' := 12) rfl ?_
    refine Z_iload_n dX0_putWays_12 rfl (pc' := 13) rfl ?_
    refine Z_iadd dX0_putWays_13 (pc' := 14) rfl ?_
    rw [nI_wy]
    refine Z_istore dX0_putWays_14 (Nat.le_of_ble_eq_true rfl) (Nat.le_of_ble_eq_true rfl) rfl (ls' := [_, _, _, _, _]) rfl (pc' := 16) rfl ?_
    refine Z_iload dX0_putWays_16 rfl (pc' := 18) rfl ?_
    refine Z_if_lt dX0_putWays_18 (tgt := 45) rfl (pc' := 21) rfl (fun c_18 => absurd c_18 (nI_neg (by omega))) (fun c_18 => ?_)
    refine Z_iload dX0_putWays_21 rfl (pc' := 23) rfl ?_
    refine Z_aload_n dX0_putWays_23 rfl (z_isref _) (pc' := 24) rfl ?_
    refine Z_gR dX0_putWays_24 rfl zgr_RX0_9_19 (pc' := 27) rfl ?_
    refine Z_al dX0_putWays_27 zar_20 (v := 384) (by decide) (pc' := 28) rfl ?_
    refine Z_icmp_ge dX0_putWays_28 (tgt := 45) rfl (pc' := 31) rfl (fun c_28 => absurd c_28 (by rw [show (384 : Int32) = nI 384 from rfl, nI_len (by omega) (by omega)]; omega)) (fun c_28 => ?_)
    refine Z_aload_n dX0_putWays_31 rfl (z_isref _) (pc' := 32) rfl ?_
    refine Z_gR dX0_putWays_32 rfl zgr_RX0_9_19 (pc' := 35) rfl ?_
    refine Z_iload dX0_putWays_35 rfl (pc' := 37) rfl ?_
    refine Z_aload_n dX0_putWays_37 rfl (z_isref _) (pc' := 38) rfl ?_
    refine Z_aload_n dX0_putWays_38 rfl (z_isref _) (pc' := 39) rfl ?_
    refine Z_iload_n dX0_putWays_39 rfl (pc' := 40) rfl ?_
    refine Z_iload_n dX0_putWays_40 rfl (pc' := 41) rfl ?_
    refine Z_cVe dX0_putWays_41 rfl zcw_X0_leastWay (As := [_, _, _]) (rest := [_, _]) rfl ⟨Nat.le_of_ble_eq_true rfl, Nat.le_of_ble_eq_true rfl⟩ (Nat.le_of_ble_eq_true rfl) (zRcv.lay zob_19) ⟨zcw_X0_leastWay.2.2.2.2, Nat.le_of_ble_eq_true rfl⟩ zk_RX0_35 (c_X0_leastWay hq hr2 ok hs (by omega)) (pc' := 44) rfl ?_
    rw [sRow_at]
    refine Z_is dX0_putWays_44 zar_20 (zin (show 6 * s + l < 384 by omega) (by decide)) (pc' := 45) rfl ?_
    rw [nI_nat (by omega), sRow_A]
    refine Z_iinc dX0_putWays_45 rfl (nI_inc l) (Nat.le_of_ble_eq_true rfl) rfl (ls' := [_, _, _, _, _]) rfl (pc' := 48) rfl ?_
    refine Z_goto dX0_putWays_48 (tgt := 2) rfl ?_
    refine Z_take 4 (ls' := [_, _, _, _]) rfl ?_
    exact ih (l + 1) (by omega)
set_option maxRecDepth 100000 in
set_option maxHeartbeats 4000000 in
theorem c_X0_putWays {S : ZS} {n q s : Nat} {g : Nat → Int32} {c : Co} (hq : cR q) (hr : rV S n q c) (ok : Cok c) (hs : s < 64) : zM m_X0_putWays 0 0 [.ref 19, .ref q, .int (nI s)] (zw (sRow S 20 g) n) (zE none (zw (sRow S 20 (pwG c g s 6)) n)) := by
  show Z m_X0_putWays _ _ _ 0 [some (.ref _), some (.ref _), some (.int _)] [] _
  refine Z_iconst dX0_putWays_0 (v := 0) (by decide) (pc' := 1) rfl ?_
  refine Z_istore_n dX0_putWays_1 (Nat.le_of_ble_eq_true rfl) (Nat.le_of_ble_eq_true rfl) rfl (ls' := [_, _, _, _]) rfl (pc' := 2) rfl ?_
  exact lp_X0_putWays hq hr ok hs ⟨rfl, rfl⟩ 6 0 rfl
/-- the row behind the ways by the sets s .. 63 of the islands i -/
def rtG (c : Co) (i : Nat) : Nat → Nat → (Nat → Int32) → (Nat → Int32)
  | 0, _, g => g
  | m + 1, s, g => rtG c i m (s + 1) (if s &&& i = s then pwG c g s 6 else g)
def rtM (c : Co) (g : Nat → Int32) (i : Nat) : Nat → Int32
  | 0 => 1000000
  | l + 1 => minI (rtM c g i l) (g (6 * i + l) + nI (hmN c l))
theorem nI_subset : ∀ s, s < 64 → ∀ i, i < 64 → (nI s &&& (nI i ^^^ (-1)) = 0 ↔ s &&& i = s) := by decide +kernel
theorem nI64 : (64 : Int32) = nI 64 := rfl
def rtW (c : Co) (g : Nat → Int32) (i : Nat) : Nat → Int32 := if i = 0 then g else rtG c i 63 1 g
def rtV (c : Co) (g : Nat → Int32) (i : Nat) : Int32 := if i = 0 then 0 else rtM c (rtG c i 63 1 g) i 6
set_option maxRecDepth 100000 in
set_option maxHeartbeats 4000000 in
theorem lp_X0_roundTrip_b {S : ZS} {n q i : Nat} {g : Nat → Int32} {c : Co} (hq : cR q) (hr : rV S n q c) (ok : Cok c) (hi : i < 64) {R : Option Value → ZW → Prop} (hR : R (some (.int (rtM c g i 6))) (zw (sRow S 20 g) n)) : ∀ (m l : Nat), l + m = 6 → Z m_X0_roundTrip 0 0 R 40 [some (.ref 19), some (.ref q), some (.int (nI i)), some (.int (rtM c g i l)), some (.int (nI l))] [] (zw (sRow S 20 g) n) := by
  intro m
  induction m with
  | zero =>
    intro l e
    obtain rfl : l = 6 := by omega
    refine Z_iload dX0_roundTrip_40 rfl (pc' := 42) rfl ?_
    refine Z_bipush dX0_roundTrip_42 (v := 6) (by decide) (pc' := 44) rfl ?_
    refine Z_icmp_ge dX0_roundTrip_44 (tgt := 72) rfl (pc' := 47) rfl (fun c_44 => ?_) (fun c_44 => absurd c_44 (fun c => c (by decide)))
    refine Z_iload_n dX0_roundTrip_72 rfl (pc' := 73) rfl ?_
    exact Z_ireturn dX0_roundTrip_73 rfl rfl hR
  | succ m ih =>
    intro l e
    have hr2 := rV_row hr (a := 20) g hq (by decide)
    refine Z_iload dX0_roundTrip_40 rfl (pc' := 42) rfl ?_
    refine Z_bipush dX0_roundTrip_42 (v := 6) (by decide) (pc' := 44) rfl ?_
    refine Z_icmp_ge dX0_roundTrip_44 (tgt := 72) rfl (pc' := 47) rfl (fun c_44 => absurd c_44 (by rw [nI6, nI_len (by omega) (by omega)]; omega)) (fun c_44 => ?_)
    refine Z_iload_n dX0_roundTrip_47 rfl (pc' := 48) rfl ?_
    refine Z_aload_n dX0_roundTrip_48 rfl (z_isref _) (pc' := 49) rfl ?_
    refine Z_iload_n dX0_roundTrip_49 rfl (pc' := 50) rfl ?_
    refine Z_iload dX0_roundTrip_50 rfl (pc' := 52) rfl ?_
    refine Z_cVe dX0_roundTrip_52 rfl zcw_X0_wayBy (As := [_, _]) (rest := [_]) rfl ⟨Nat.le_of_ble_eq_true rfl, Nat.le_of_ble_eq_true rfl⟩ (Nat.le_of_ble_eq_true rfl) (zRcv.lay zob_19) ⟨zcw_X0_wayBy.2.2.2.2, Nat.le_of_ble_eq_true rfl⟩ zk_RX0_20 c_X0_wayBy (pc' := 55) rfl ?_
    rw [sRow_at, wyI _ hi (show l < 6 by omega)]
    refine Z_aload_n dX0_roundTrip_55 rfl (z_isref _) (pc' := 56) rfl ?_
    refine Z_iload dX0_roundTrip_56 rfl (pc' := 58) rfl ?_
    refine Z_cVe dX0_roundTrip_58 rfl zcw_X7_yardsFromHome (As := [_]) (rest := [_, _]) rfl ⟨Nat.le_of_ble_eq_true rfl, Nat.le_of_ble_eq_true rfl⟩ (Nat.le_of_ble_eq_true rfl) (zRcv.lay (zob_q_0 hq)) ⟨zcw_X7_yardsFromHome.2.2.2.2, Nat.le_of_ble_eq_true rfl⟩ zk_RX0_24 (c_X7_yardsFromHome hq hr2 ok (by omega)) (pc' := 61) rfl ?_
    refine Z_iadd dX0_roundTrip_61 (pc' := 62) rfl ?_
    refine Z_mmin dX0_roundTrip_62 rfl zk_RX0_30 (Nat.le_of_ble_eq_true rfl) (Nat.le_of_ble_eq_true rfl) (pc' := 65) rfl ?_
    refine Z_istore_n dX0_roundTrip_65 (Nat.le_of_ble_eq_true rfl) (Nat.le_of_ble_eq_true rfl) rfl (ls' := [_, _, _, _, _]) rfl (pc' := 66) rfl ?_
    refine Z_iinc dX0_roundTrip_66 rfl (nI_inc l) (Nat.le_of_ble_eq_true rfl) rfl (ls' := [_, _, _, _, _]) rfl (pc' := 69) rfl ?_
    refine Z_goto dX0_roundTrip_69 (tgt := 40) rfl ?_
    refine Z_take 5 (ls' := [_, _, _, _, _]) rfl ?_
    exact ih (l + 1) (by omega)
set_option maxRecDepth 100000 in
set_option maxHeartbeats 4000000 in
theorem lp_X0_roundTrip_a {S : ZS} {n q i : Nat} {c : Co} (hq : cR q) (hr : rV S n q c) (ok : Cok c) (hi : i < 64) {R : Option Value → ZW → Prop} : ∀ (m s : Nat) (g : Nat → Int32), s + m = 64 → R (some (.int (rtM c (rtG c i m s g) i 6))) (zw (sRow S 20 (rtG c i m s g)) n) → Z m_X0_roundTrip 0 0 R 8 [some (.ref 19), some (.ref q), some (.int (nI i)), some (.int (nI s))] [] (zw (sRow S 20 g) n) := by
  intro m
  induction m with
  | zero =>
    intro s g e hR
    obtain rfl : s = 64 := by omega
    refine Z_iload_n dX0_roundTrip_8 rfl (pc' := 9) rfl ?_
    refine Z_bipush dX0_roundTrip_9 (v := 64) (by decide) (pc' := 11) rfl ?_
    refine Z_icmp_ge dX0_roundTrip_11 (tgt := 34) rfl (pc' := 14) rfl (fun c_11 => ?_) (fun c_11 => absurd c_11 (fun c => c (by decide)))
    refine Z_ldc dX0_roundTrip_34 rfl zw_631 (pc' := 36) rfl ?_
    refine Z_istore_n dX0_roundTrip_36 (Nat.le_of_ble_eq_true rfl) (Nat.le_of_ble_eq_true rfl) rfl (ls' := [_, _, _, _]) rfl (pc' := 37) rfl ?_
    refine Z_iconst dX0_roundTrip_37 (v := 0) (by decide) (pc' := 38) rfl ?_
    refine Z_istore dX0_roundTrip_38 (Nat.le_of_ble_eq_true rfl) (Nat.le_of_ble_eq_true rfl) rfl (ls' := [_, _, _, _, _]) rfl (pc' := 40) rfl ?_
    exact lp_X0_roundTrip_b hq hr ok hi hR 6 0 rfl
  | succ m ih =>
    intro s g e hR
    unfold rtG at hR
    refine Z_iload_n dX0_roundTrip_8 rfl (pc' := 9) rfl ?_
    refine Z_bipush dX0_roundTrip_9 (v := 64) (by decide) (pc' := 11) rfl ?_
    refine Z_icmp_ge dX0_roundTrip_11 (tgt := 34) rfl (pc' := 14) rfl (fun c_11 => absurd c_11 (by rw [nI64, nI_len (by omega) (by omega)]; omega)) (fun c_11 => ?_)
    refine Z_iload_n dX0_roundTrip_14 rfl (pc' := 15) rfl ?_
    refine Z_iload_n dX0_roundTrip_15 rfl (pc' := 16) rfl ?_
    refine Z_iconst dX0_roundTrip_16 (v := (-1)) (by decide) (pc' := 17) rfl ?_
    refine Z_ixor dX0_roundTrip_17 (pc' := 18) rfl ?_
    refine Z_iand dX0_roundTrip_18 (pc' := 19) rfl ?_
    refine Z_if_ne dX0_roundTrip_19 (tgt := 28) rfl (pc' := 22) rfl (fun c_19 => ?_) (fun c_19 => ?_)
    · refine Z_iinc dX0_roundTrip_28 rfl (nI_inc s) (Nat.le_of_ble_eq_true rfl) rfl (ls' := [_, _, _, _]) rfl (pc' := 31) rfl ?_
      refine Z_goto dX0_roundTrip_31 (tgt := 8) rfl ?_
      refine Z_take 4 (ls' := [_, _, _, _]) rfl ?_
      exact ih (s + 1) g (by omega) (by rw [if_neg (fun z => c_19 ((nI_subset s (by omega) i hi).mpr z))] at hR; exact hR)
    · refine Z_aload_n dX0_roundTrip_22 rfl (z_isref _) (pc' := 23) rfl ?_
      refine Z_aload_n dX0_roundTrip_23 rfl (z_isref _) (pc' := 24) rfl ?_
      refine Z_iload_n dX0_roundTrip_24 rfl (pc' := 25) rfl ?_
      refine Z_cVv dX0_roundTrip_25 rfl zcw_X0_putWays (As := [_, _]) (rest := []) rfl ⟨Nat.le_of_ble_eq_true rfl, Nat.le_of_ble_eq_true rfl⟩ (Nat.le_of_ble_eq_true rfl) (zRcv.lay zob_19) ⟨zcw_X0_putWays.2.2.2.2, Nat.le_of_ble_eq_true rfl⟩ zk_RX0_15 (c_X0_putWays hq hr ok (by omega)) (pc' := 28) rfl ?_
      refine Z_iinc dX0_roundTrip_28 rfl (nI_inc s) (Nat.le_of_ble_eq_true rfl) rfl (ls' := [_, _, _, _]) rfl (pc' := 31) rfl ?_
      refine Z_goto dX0_roundTrip_31 (tgt := 8) rfl ?_
      refine Z_take 4 (ls' := [_, _, _, _]) rfl ?_
      exact ih (s + 1) _ (by omega) (by rw [if_pos ((nI_subset s (by omega) i hi).mp c_19)] at hR; exact hR)
set_option maxRecDepth 100000 in
set_option maxHeartbeats 4000000 in
theorem c_X0_roundTrip {S : ZS} {n q i : Nat} {c : Co} (hq : cR q) (hr : rV S n q c) (ok : Cok c) (hi : i < 64) : zM m_X0_roundTrip 0 0 [.ref 19, .ref q, .int (nI i)] (zw S n) (zE (some (.int (rtV c (S.1 20) i))) (zw (sRow S 20 (rtW c (S.1 20) i)) n)) := by
  show Z m_X0_roundTrip _ _ _ 0 [some (.ref _), some (.ref _), some (.int _)] [] _
  refine Z_iload_n dX0_roundTrip_0 rfl (pc' := 1) rfl ?_
  refine Z_if_ne dX0_roundTrip_1 (tgt := 6) rfl (pc' := 4) rfl (fun c_1 => ?_) (fun c_1 => ?_)
  · refine Z_iconst dX0_roundTrip_6 (v := 1) (by decide) (pc' := 7) rfl ?_
    refine Z_istore_n dX0_roundTrip_7 (Nat.le_of_ble_eq_true rfl) (Nat.le_of_ble_eq_true rfl) rfl (ls' := [_, _, _, _]) rfl (pc' := 8) rfl ?_
    have hi0 : ¬ i = 0 := fun z => c_1 (by rw [z]; rfl)
    have key := lp_X0_roundTrip_a (R := zE (some (.int (rtV c (S.1 20) i))) (zw (sRow S 20 (rtW c (S.1 20) i)) n)) hq hr ok hi 63 1 (S.1 20) rfl ⟨by unfold rtV; rw [if_neg hi0], by unfold rtW; rw [if_neg hi0]⟩
    rw [sRow_self] at key
    exact key
  · refine Z_iconst dX0_roundTrip_4 (v := 0) (by decide) (pc' := 5) rfl ?_
    exact Z_ireturn dX0_roundTrip_5 rfl rfl ⟨by unfold rtV; rw [if_pos ((nI_eqn (b := 0) (by omega) (by omega)).mp c_1)], by unfold rtW; rw [if_pos ((nI_eqn (b := 0) (by omega) (by omega)).mp c_1), sRow_self]⟩
