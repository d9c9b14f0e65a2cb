/-! the rows wb_ begin as the kit's text for pasting -/
theorem wb_tb (n : Nat) : (lN n).toBitVec = BitVec.ofNat 64 n := rfl
theorem wb_inj {a b : Int64} (h : a.toBitVec = b.toBitVec) : a = b := Int64.toBitVec_inj.mp h
theorem wb_tn {n : Nat} (h : n < 2 ^ 64) : (lN n).toBitVec.toNat = n := by rw [wb_tb, BitVec.toNat_ofNat, Nat.mod_eq_of_lt h]
theorem wb_of (x : Int64) : ∃ n, n < 2 ^ 64 ∧ x = lN n := ⟨x.toBitVec.toNat, x.toBitVec.isLt, wb_inj (by rw [wb_tb]; simp)⟩
theorem wb_of32 (x : Int32) : ∃ n, n < 2 ^ 32 ∧ x = nI n := ⟨x.toBitVec.toNat, x.toBitVec.isLt, Int32.toBitVec_inj.mp (by show _ = BitVec.ofNat 32 _; simp)⟩
theorem wb_c : ∀ k, k < 64 → ((nI k).toInt64 &&& 63) = lN k := by decide +kernel
theorem wb_cu : ∀ k, k < 64 → ((nI k).toInt64.toUInt64 &&& Int64.toUInt64 63) = UInt64.ofNat k := by decide +kernel
theorem wb_sm : ∀ k, k < 64 → (BitVec.ofNat 64 k).smod 64 = BitVec.ofNat 64 k := by decide +kernel
theorem wb_pw {a b : Nat} (h : a ≤ b) : 2 ^ b = 2 ^ a * 2 ^ (b - a) := by rw [← Nat.pow_add]; congr 1; omega
theorem wb_lt2 {a b : Nat} (h : a < b) : 2 ^ a < 2 ^ b := Nat.pow_lt_pow_right (by decide) h
theorem wb_mod (n : Nat) : lN n = lN (n % 2 ^ 64) := wb_inj (by rw [wb_tb, wb_tb]; apply BitVec.eq_of_toNat_eq; rw [BitVec.toNat_ofNat, BitVec.toNat_ofNat, Nat.mod_mod])
theorem wb_shr {n k : Nat} (hn : n < 2 ^ 64) (hk : k < 64) : ((lN n).toUInt64 >>> ((nI k).toInt64.toUInt64 &&& Int64.toUInt64 63)).toInt64 = lN (n / 2 ^ k) := by
  rw [wb_cu k hk]
  apply wb_inj
  apply BitVec.eq_of_toNat_eq
  show ((lN n).toUInt64 >>> UInt64.ofNat k).toNat = (BitVec.ofNat 64 _).toNat
  have h1 : (UInt64.ofNat k).toNat = k := by
    show (BitVec.ofNat 64 k).toNat = k
    rw [BitVec.toNat_ofNat, Nat.mod_eq_of_lt (by omega)]
  have h2 : (lN n).toUInt64.toNat = n := wb_tn hn
  rw [UInt64.toNat_shiftRight, h1, h2, Nat.mod_eq_of_lt hk, Nat.shiftRight_eq_div_pow, BitVec.toNat_ofNat, Nat.mod_eq_of_lt (Nat.lt_of_le_of_lt (Nat.div_le_self _ _) hn)]
theorem wb_shl (n : Nat) {k : Nat} (hk : k < 64) : lN n <<< ((nI k).toInt64 &&& 63) = lN (n * 2 ^ k) := by
  rw [wb_c k hk]
  apply wb_inj
  rw [Int64.toBitVec_shiftLeft, wb_tb, wb_tb, wb_tb, wb_sm k hk]
  apply BitVec.eq_of_toNat_eq
  rw [BitVec.shiftLeft_eq', BitVec.toNat_shiftLeft, BitVec.toNat_ofNat, BitVec.toNat_ofNat, BitVec.toNat_ofNat, Nat.mod_eq_of_lt (show k < 2 ^ 64 by omega), Nat.shiftLeft_eq, Nat.mul_mod, Nat.mod_mod, ← Nat.mul_mod]
theorem wb_and {a b : Nat} (ha : a < 2 ^ 64) (hb : b < 2 ^ 64) : lN a &&& lN b = lN (a &&& b) := by
  apply wb_inj
  rw [Int64.toBitVec_and, wb_tb, wb_tb, wb_tb]
  apply BitVec.eq_of_toNat_eq
  rw [BitVec.toNat_and, BitVec.toNat_ofNat, BitVec.toNat_ofNat, BitVec.toNat_ofNat, Nat.mod_eq_of_lt ha, Nat.mod_eq_of_lt hb, Nat.mod_eq_of_lt (Nat.and_lt_two_pow _ hb)]
theorem wb_or {a b : Nat} (ha : a < 2 ^ 64) (hb : b < 2 ^ 64) : lN a ||| lN b = lN (a ||| b) := by
  apply wb_inj
  rw [Int64.toBitVec_or, wb_tb, wb_tb, wb_tb]
  apply BitVec.eq_of_toNat_eq
  rw [BitVec.toNat_or, BitVec.toNat_ofNat, BitVec.toNat_ofNat, BitVec.toNat_ofNat, Nat.mod_eq_of_lt ha, Nat.mod_eq_of_lt hb, Nat.mod_eq_of_lt (Nat.or_lt_two_pow ha hb)]
theorem wb_mask {n k : Nat} (hn : n < 2 ^ 64) (hk : k < 64) : lN n &&& lN (2 ^ k - 1) = lN (n % 2 ^ k) := by
  rw [wb_and hn (by have := wb_lt2 hk; omega), Nat.and_two_pow_sub_one_eq_mod]
theorem wb_a1 {n : Nat} (hn : n < 2 ^ 64) : lN n &&& 1 = lN (n % 2) := wb_mask (k := 1) hn (by decide)
theorem wb_bit {n k : Nat} (hn : n < 2 ^ 64) (hk : k < 64) : ((lN n).toUInt64 >>> ((nI k).toInt64.toUInt64 &&& Int64.toUInt64 63)).toInt64 &&& 1 = lN (n / 2 ^ k % 2) := by
  rw [wb_shr hn hk, wb_a1 (Nat.lt_of_le_of_lt (Nat.div_le_self _ _) hn)]
theorem wb_xor {q k : Nat} (hk : k < 63) (h : 2 ^ k ≤ q) (h2 : q < 2 ^ (k + 1)) : lN q ^^^ lN (2 ^ k) = lN (q - 2 ^ k) := by
  obtain ⟨r, rfl⟩ : ∃ r, q = 2 ^ k + r := ⟨q - 2 ^ k, by omega⟩
  have hr : r < 2 ^ k := by rw [Nat.pow_succ] at h2; omega
  have hx : (2 ^ k + r) ^^^ 2 ^ k = r := by
    apply Nat.eq_of_testBit_eq
    intro i
    rw [Nat.testBit_xor, Nat.testBit_two_pow]
    rcases Nat.lt_trichotomy i k with h | h | h
    · rw [Nat.testBit_two_pow_add_gt h]
      simp [show ¬ k = i by omega]
    · subst h
      rw [Nat.testBit_two_pow_add_eq]
      simp
    · have a1 : 2 ^ (k + 1) ≤ 2 ^ i := Nat.pow_le_pow_right (by decide) h
      rw [Nat.testBit_lt_two_pow (show 2 ^ k + r < 2 ^ i by omega), Nat.testBit_lt_two_pow (show r < 2 ^ i by omega)]
      simp [show ¬ k = i by omega]
  have b1 := wb_lt2 (show k + 1 < 64 by omega)
  have b2 := wb_lt2 (show k < 64 by omega)
  apply wb_inj
  rw [Int64.toBitVec_xor, wb_tb, wb_tb, wb_tb]
  apply BitVec.eq_of_toNat_eq
  rw [BitVec.toNat_xor, BitVec.toNat_ofNat, BitVec.toNat_ofNat, BitVec.toNat_ofNat, Nat.mod_eq_of_lt (by omega : 2 ^ k + r < 2 ^ 64), Nat.mod_eq_of_lt b2, hx, Nat.add_sub_cancel_left, Nat.mod_eq_of_lt (by omega)]
theorem nI_and127 (t : Nat) : nI t &&& 127 = nI (t % 128) := by
  apply Int32.toBitVec_inj.1
  show BitVec.ofNat 32 t &&& 127#32 = BitVec.ofNat 32 (t % 128)
  apply BitVec.eq_of_toNat_eq
  rw [BitVec.toNat_and, BitVec.toNat_ofNat, BitVec.toNat_ofNat, BitVec.toNat_ofNat]
  show (t % 2 ^ 32) &&& (2 ^ 7 - 1) = _
  rw [Nat.and_two_pow_sub_one_eq_mod]
  omega
def shL (x : Int64) (k : Int32) : Int64 := (x.toUInt64 >>> (k.toInt64.toUInt64 &&& Int64.toUInt64 63)).toInt64
def pcL (x : Int64) : Int32 :=
  let a := x - (shL x 1 &&& 6148914691236517205)
  let b := (a &&& 3689348814741910323) + (shL a 2 &&& 3689348814741910323)
  let c := (b + shL b 4) &&& 1085102592571150095
  let d := c + shL c 8
  let e := d + shL d 16
  (e + shL e 32).toInt32 &&& 127
theorem shL_N {n k : Nat} (hn : n < 2 ^ 64) (hk : k < 64) : shL (lN n) (nI k) = lN (n / 2 ^ k) := wb_shr hn hk
theorem pcL_N {X : Nat} (hX : X < 2 ^ 64) : pcL (lN X) = nI (pcN X) := by
  unfold pcL pcN
  have s1 : shL (lN X) 1 = lN (X / 2) := shL_N hX (k := 1) (by decide)
  have a1 : lN (X / 2) &&& 6148914691236517205 = lN (X / 2 &&& 6148914691236517205) := wb_and (by omega) (b := 6148914691236517205) (by decide)
  have l1 : X / 2 &&& 6148914691236517205 ≤ X := Nat.le_trans Nat.and_le_left (Nat.div_le_self _ _)
  simp only [s1, a1, lN_sub l1]
  generalize hA : X - (X / 2 &&& 6148914691236517205) = A
  have hA2 : A < 2 ^ 64 := by omega
  have s2 : shL (lN A) 2 = lN (A / 4) := shL_N hA2 (k := 2) (by decide)
  have a2 : lN A &&& 3689348814741910323 = lN (A &&& 3689348814741910323) := wb_and hA2 (b := 3689348814741910323) (by decide)
  have a3 : lN (A / 4) &&& 3689348814741910323 = lN (A / 4 &&& 3689348814741910323) := wb_and (by omega) (b := 3689348814741910323) (by decide)
  have l2 : A &&& 3689348814741910323 ≤ 3689348814741910323 := Nat.and_le_right
  have l3 : A / 4 &&& 3689348814741910323 ≤ 3689348814741910323 := Nat.and_le_right
  simp only [s2, a2, a3, lN_add]
  generalize hB : (A &&& 3689348814741910323) + (A / 4 &&& 3689348814741910323) = B
  have hB2 : B < 2 ^ 63 := by omega
  have s4 : shL (lN B) 4 = lN (B / 16) := shL_N (by omega) (k := 4) (by decide)
  have a4 : lN (B + B / 16) &&& 1085102592571150095 = lN (B + B / 16 &&& 1085102592571150095) := wb_and (by omega) (b := 1085102592571150095) (by decide)
  simp only [s4, lN_add, a4]
  generalize hC : (B + B / 16 &&& 1085102592571150095) = C
  have hC2 : C ≤ 1085102592571150095 := by rw [← hC]; exact Nat.and_le_right
  have s8 : shL (lN C) 8 = lN (C / 256) := shL_N (by omega) (k := 8) (by decide)
  simp only [s8, lN_add]
  generalize hD : C + C / 256 = Dd
  have hD2 : Dd < 2 ^ 62 := by omega
  have s16 : shL (lN Dd) 16 = lN (Dd / 65536) := shL_N (by omega) (k := 16) (by decide)
  simp only [s16, lN_add]
  generalize hE : Dd + Dd / 65536 = Ee
  have hE2 : Ee < 2 ^ 63 := by omega
  have s32 : shL (lN Ee) 32 = lN (Ee / 4294967296) := shL_N (by omega) (k := 32) (by decide)
  simp only [s32, lN_add, lN_i, nI_and127]
theorem pcL_mk (f : Nat → Bool) : pcL (zmk f) = nI (zct f 64) := by
  rw [show zmk f = lN (znb f 64) from rfl, pcL_N (pc_ok f).2, (pc_ok f).1]
set_option maxRecDepth 100000 in
set_option maxHeartbeats 4000000 in
theorem c_J13_bitCount_95d88 {f : Nat → Bool} {ω : ZW} : zM m_J13_bitCount_95d88 0 0 [.long (zmk f)] ω (zE (some (.int (nI (zct f 64)))) ω) := by
  show Z m_J13_bitCount_95d88 _ _ _ 0 [some (.long _), none] [] _
  refine Z_lload_n dJ13_bitCount_95d88_0 rfl (pc' := 1) rfl ?_
  refine Z_lload_n dJ13_bitCount_95d88_1 rfl (pc' := 2) rfl ?_
  refine Z_iconst dJ13_bitCount_95d88_2 (v := 1) (by decide) (pc' := 3) rfl ?_
  refine Z_lushr dJ13_bitCount_95d88_3 (pc' := 4) rfl ?_
  refine Z_ldc2 dJ13_bitCount_95d88_4 rfl zw_505 (pc' := 7) rfl ?_
  refine Z_land dJ13_bitCount_95d88_7 (pc' := 8) rfl ?_
  refine Z_lsub dJ13_bitCount_95d88_8 (pc' := 9) rfl ?_
  refine Z_lstore_n dJ13_bitCount_95d88_9 (Nat.le_of_ble_eq_true rfl) (Nat.le_of_ble_eq_true rfl) rfl (ls' := [_, _]) rfl (pc' := 10) rfl ?_
  refine Z_lload_n dJ13_bitCount_95d88_10 rfl (pc' := 11) rfl ?_
  refine Z_ldc2 dJ13_bitCount_95d88_11 rfl zw_506 (pc' := 14) rfl ?_
  refine Z_land dJ13_bitCount_95d88_14 (pc' := 15) rfl ?_
  refine Z_lload_n dJ13_bitCount_95d88_15 rfl (pc' := 16) rfl ?_
  refine Z_iconst dJ13_bitCount_95d88_16 (v := 2) (by decide) (pc' := 17) rfl ?_
  refine Z_lushr dJ13_bitCount_95d88_17 (pc' := 18) rfl ?_
  refine Z_ldc2 dJ13_bitCount_95d88_18 rfl zw_506 (pc' := 21) rfl ?_
  refine Z_land dJ13_bitCount_95d88_21 (pc' := 22) rfl ?_
  refine Z_ladd dJ13_bitCount_95d88_22 (pc' := 23) rfl ?_
  refine Z_lstore_n dJ13_bitCount_95d88_23 (Nat.le_of_ble_eq_true rfl) (Nat.le_of_ble_eq_true rfl) rfl (ls' := [_, _]) rfl (pc' := 24) rfl ?_
  refine Z_lload_n dJ13_bitCount_95d88_24 rfl (pc' := 25) rfl ?_
  refine Z_lload_n dJ13_bitCount_95d88_25 rfl (pc' := 26) rfl ?_
  refine Z_iconst dJ13_bitCount_95d88_26 (v := 4) (by decide) (pc' := 27) rfl ?_
  refine Z_lushr dJ13_bitCount_95d88_27 (pc' := 28) rfl ?_
  refine Z_ladd dJ13_bitCount_95d88_28 (pc' := 29) rfl ?_
  refine Z_ldc2 dJ13_bitCount_95d88_29 rfl zw_507 (pc' := 32) rfl ?_
  refine Z_land dJ13_bitCount_95d88_32 (pc' := 33) rfl ?_
  refine Z_lstore_n dJ13_bitCount_95d88_33 (Nat.le_of_ble_eq_true rfl) (Nat.le_of_ble_eq_true rfl) rfl (ls' := [_, _]) rfl (pc' := 34) rfl ?_
  refine Z_lload_n dJ13_bitCount_95d88_34 rfl (pc' := 35) rfl ?_
  refine Z_lload_n dJ13_bitCount_95d88_35 rfl (pc' := 36) rfl ?_
  refine Z_bipush dJ13_bitCount_95d88_36 (v := 8) (by decide) (pc' := 38) rfl ?_
  refine Z_lushr dJ13_bitCount_95d88_38 (pc' := 39) rfl ?_
  refine Z_ladd dJ13_bitCount_95d88_39 (pc' := 40) rfl ?_
  refine Z_lstore_n dJ13_bitCount_95d88_40 (Nat.le_of_ble_eq_true rfl) (Nat.le_of_ble_eq_true rfl) rfl (ls' := [_, _]) rfl (pc' := 41) rfl ?_
  refine Z_lload_n dJ13_bitCount_95d88_41 rfl (pc' := 42) rfl ?_
  refine Z_lload_n dJ13_bitCount_95d88_42 rfl (pc' := 43) rfl ?_
  refine Z_bipush dJ13_bitCount_95d88_43 (v := 16) (by decide) (pc' := 45) rfl ?_
  refine Z_lushr dJ13_bitCount_95d88_45 (pc' := 46) rfl ?_
  refine Z_ladd dJ13_bitCount_95d88_46 (pc' := 47) rfl ?_
  refine Z_lstore_n dJ13_bitCount_95d88_47 (Nat.le_of_ble_eq_true rfl) (Nat.le_of_ble_eq_true rfl) rfl (ls' := [_, _]) rfl (pc' := 48) rfl ?_
  refine Z_lload_n dJ13_bitCount_95d88_48 rfl (pc' := 49) rfl ?_
  refine Z_lload_n dJ13_bitCount_95d88_49 rfl (pc' := 50) rfl ?_
  refine Z_bipush dJ13_bitCount_95d88_50 (v := 32) (by decide) (pc' := 52) rfl ?_
  refine Z_lushr dJ13_bitCount_95d88_52 (pc' := 53) rfl ?_
  refine Z_ladd dJ13_bitCount_95d88_53 (pc' := 54) rfl ?_
  refine Z_lstore_n dJ13_bitCount_95d88_54 (Nat.le_of_ble_eq_true rfl) (Nat.le_of_ble_eq_true rfl) rfl (ls' := [_, _]) rfl (pc' := 55) rfl ?_
  refine Z_lload_n dJ13_bitCount_95d88_55 rfl (pc' := 56) rfl ?_
  refine Z_l2i dJ13_bitCount_95d88_56 (pc' := 57) rfl ?_
  refine Z_bipush dJ13_bitCount_95d88_57 (v := 127) (by decide) (pc' := 59) rfl ?_
  refine Z_iand dJ13_bitCount_95d88_59 (pc' := 60) rfl ?_
  exact Z_ireturn dJ13_bitCount_95d88_60 rfl rfl ⟨by rw [← pcL_mk]; rfl, rfl⟩
theorem zct_le (f : Nat → Bool) : ∀ n, zct f n ≤ n
  | 0 => Nat.le_refl _
  | n + 1 => by have := zct_le f n; rw [zct]; split <;> omega
theorem zct_cong {f g : Nat → Bool} : ∀ n, (∀ k, k < n → f k = g k) → zct f n = zct g n
  | 0, _ => rfl
  | n + 1, h => by rw [zct, zct, zct_cong n fun k hk => h k (by omega), h n (by omega)]
/-- the i-th of a set's places from p on, m of them looked at -/
def mbF (f : Nat → Bool) : Nat → Nat → Int32 → Int32
  | 0, _, _ => -9
  | m + 1, p, a => if f p then (if a = 0 then nI p else mbF f m (p + 1) (a + Int32.ofInt (-1))) else mbF f m (p + 1) a
/-- the last of a set's places below m -/
def lsF (f : Nat → Bool) : Nat → Int32
  | 0 => -9
  | m + 1 => if f m then nI m else lsF f m
/-- each c-th of a set's places -/
def evF (f : Nat → Bool) (c : Nat) : Nat → Nat → Nat → (Nat → Bool) → (Nat → Bool)
  | 0, _, _, g => g
  | m + 1, p, bt, g => if f p then (if bt = 0 then evF f c m (p + 1) (c - 1) (fun k => g k || decide (k = p)) else evF f c m (p + 1) (bt - 1) g) else evF f c m (p + 1) bt g
theorem nI48 : (48 : Int32) = nI 48 := rfl
theorem nI_dec {b : Nat} (h : 0 < b) : nI b + Int32.ofInt (-1) = nI (b - 1) := by
  obtain ⟨m, rfl⟩ : ∃ m, b = m + 1 := ⟨b - 1, by omega⟩
  rw [Nat.add_sub_cancel, show Int32.ofInt (-1) = -1 from rfl, ← Int32.sub_eq_add_neg, nI_pred]
set_option maxRecDepth 100000 in
set_option maxHeartbeats 4000000 in
theorem lp_X11_memberOf {f : Nat → Bool} {i : Int32} {ω : ZW} {R : Option Value → ZW → Prop} : ∀ (m p : Nat) (a : Int32), p + m = 49 → R (some (.int (mbF f m p a))) ω → Z m_X11_memberOf 0 0 R 5 [some (.long (zmk f)), none, some (.int i), some (.int a), some (.int (nI p))] [] ω := by
  intro m
  induction m with
  | zero =>
    intro p a h hR
    obtain rfl : p = 49 := by omega
    refine Z_iload dX11_memberOf_5 rfl (pc' := 7) rfl ?_
    refine Z_bipush dX11_memberOf_7 (v := 48) (by decide) (pc' := 9) rfl ?_
    refine Z_icmp_gt dX11_memberOf_9 (tgt := 37) rfl (pc' := 12) rfl (fun c_9 => ?_) (fun c_9 => absurd c_9 (fun c => c (by decide)))
    refine Z_bipush dX11_memberOf_37 (v := (-9)) (by decide) (pc' := 39) rfl ?_
    exact Z_ireturn dX11_memberOf_39 rfl rfl hR
  | succ m ih =>
    intro p a h hR
    unfold mbF at hR
    refine Z_iload dX11_memberOf_5 rfl (pc' := 7) rfl ?_
    refine Z_bipush dX11_memberOf_7 (v := 48) (by decide) (pc' := 9) rfl ?_
    refine Z_icmp_gt dX11_memberOf_9 (tgt := 37) rfl (pc' := 12) rfl (fun c_9 => absurd c_9 (by rw [nI48, nI_ltn (by omega) (by omega)]; omega)) (fun c_9 => ?_)
    refine Z_lload_n dX11_memberOf_12 rfl (pc' := 13) rfl ?_
    refine Z_iload dX11_memberOf_13 rfl (pc' := 15) rfl ?_
    refine Z_cSe dX11_memberOf_15 rfl zcw_X11_holds (As := [_, _]) (rest := []) rfl ⟨Nat.le_of_ble_eq_true rfl, Nat.le_of_ble_eq_true rfl⟩ (Nat.le_of_ble_eq_true rfl) ⟨zcw_X11_holds.2.2.2.2, Nat.le_of_ble_eq_true rfl⟩ zk_RX11_103 c_X11_holds (pc' := 18) rfl ?_
    rw [hI_nat f (show p ≤ 48 by omega)]
    refine Z_if_eq dX11_memberOf_18 (tgt := 31) rfl (pc' := 21) rfl (fun c_18 => ?_) (fun c_18 => ?_)
    · refine Z_iinc dX11_memberOf_31 rfl (nI_inc p) (Nat.le_of_ble_eq_true rfl) rfl (ls' := [_, _, _, _, _]) rfl (pc' := 34) rfl ?_
      refine Z_goto dX11_memberOf_34 (tgt := 5) rfl ?_
      first | exact ih (p + 1) _ (by omega) (by rw [if_pos ((zb_ne0 _).mp c_18), if_neg c_22] at hR; exact hR) | exact ih (p + 1) _ (by omega) (by rw [if_neg (by rw [(zb_eq0 _).mp c_18]; decide)] at hR; exact hR)
    · refine Z_iload_n dX11_memberOf_21 rfl (pc' := 22) rfl ?_
      refine Z_if_ne dX11_memberOf_22 (tgt := 28) rfl (pc' := 25) rfl (fun c_22 => ?_) (fun c_22 => ?_)
      · refine Z_iinc dX11_memberOf_28 rfl rfl (Nat.le_of_ble_eq_true rfl) rfl (ls' := [_, _, _, _, _]) rfl (pc' := 31) rfl ?_
        refine Z_iinc dX11_memberOf_31 rfl (nI_inc p) (Nat.le_of_ble_eq_true rfl) rfl (ls' := [_, _, _, _, _]) rfl (pc' := 34) rfl ?_
        refine Z_goto dX11_memberOf_34 (tgt := 5) rfl ?_
        first | exact ih (p + 1) _ (by omega) (by rw [if_pos ((zb_ne0 _).mp c_18), if_neg c_22] at hR; exact hR) | exact ih (p + 1) _ (by omega) (by rw [if_neg (by rw [(zb_eq0 _).mp c_18]; decide)] at hR; exact hR)
      · refine Z_iload dX11_memberOf_25 rfl (pc' := 27) rfl ?_
        exact Z_ireturn dX11_memberOf_27 rfl rfl (by rw [if_pos ((zb_ne0 _).mp c_18), if_pos c_22] at hR; exact hR)
set_option maxRecDepth 100000 in
set_option maxHeartbeats 4000000 in
theorem c_X11_memberOf {f : Nat → Bool} {i : Int32} {ω : ZW} : zM m_X11_memberOf 0 0 [.long (zmk f), .int i] ω (zE (some (.int (mbF f 49 0 i))) ω) := by
  show Z m_X11_memberOf _ _ _ 0 [some (.long _), none, some (.int _)] [] _
  refine Z_iload_n dX11_memberOf_0 rfl (pc' := 1) rfl ?_
  refine Z_istore_n dX11_memberOf_1 (Nat.le_of_ble_eq_true rfl) (Nat.le_of_ble_eq_true rfl) rfl (ls' := [_, _, _, _]) rfl (pc' := 2) rfl ?_
  refine Z_iconst dX11_memberOf_2 (v := 0) (by decide) (pc' := 3) rfl ?_
  refine Z_istore dX11_memberOf_3 (Nat.le_of_ble_eq_true rfl) (Nat.le_of_ble_eq_true rfl) rfl (ls' := [_, _, _, _, _]) rfl (pc' := 5) rfl ?_
  exact lp_X11_memberOf 49 0 _ rfl ⟨rfl, rfl⟩
set_option maxRecDepth 100000 in
set_option maxHeartbeats 4000000 in
theorem lp_X11_lastOf {f : Nat → Bool} {ω : ZW} {R : Option Value → ZW → Prop} : ∀ (m : Nat) (p : Int32), p + 1 = nI m → m ≤ 49 → R (some (.int (lsF f m))) ω → Z m_X11_lastOf 0 0 R 3 [some (.long (zmk f)), none, some (.int p)] [] ω := by
  intro m
  induction m with
  | zero =>
    intro p hp hm hR
    obtain rfl : p = -1 := by rw [← Int32.add_left_inj 1, hp]; rfl
    refine Z_iload_n dX11_lastOf_3 rfl (pc' := 4) rfl ?_
    refine Z_if_lt dX11_lastOf_4 (tgt := 23) rfl (pc' := 7) rfl (fun c_4 => ?_) (fun c_4 => absurd c_4 (fun c => c (by decide)))
    refine Z_bipush dX11_lastOf_23 (v := (-9)) (by decide) (pc' := 25) rfl ?_
    exact Z_ireturn dX11_lastOf_25 rfl rfl hR
  | succ m ih =>
    intro p hp hm hR
    obtain rfl : p = nI m := by rw [nI_succ, Int32.add_left_inj] at hp; exact hp
    unfold lsF at hR
    refine Z_iload_n dX11_lastOf_3 rfl (pc' := 4) rfl ?_
    refine Z_if_lt dX11_lastOf_4 (tgt := 23) rfl (pc' := 7) rfl (fun c_4 => absurd c_4 (nI_neg (by omega))) (fun c_4 => ?_)
    refine Z_lload_n dX11_lastOf_7 rfl (pc' := 8) rfl ?_
    refine Z_iload_n dX11_lastOf_8 rfl (pc' := 9) rfl ?_
    refine Z_cSe dX11_lastOf_9 rfl zcw_X11_holds (As := [_, _]) (rest := []) rfl ⟨Nat.le_of_ble_eq_true rfl, Nat.le_of_ble_eq_true rfl⟩ (Nat.le_of_ble_eq_true rfl) ⟨zcw_X11_holds.2.2.2.2, Nat.le_of_ble_eq_true rfl⟩ zk_RX11_103 c_X11_holds (pc' := 12) rfl ?_
    rw [hI_nat f (show m ≤ 48 by omega)]
    refine Z_if_eq dX11_lastOf_12 (tgt := 17) rfl (pc' := 15) rfl (fun c_12 => ?_) (fun c_12 => ?_)
    · refine Z_iinc dX11_lastOf_17 rfl rfl (Nat.le_of_ble_eq_true rfl) rfl (ls' := [_, _, _]) rfl (pc' := 20) rfl ?_
      refine Z_goto dX11_lastOf_20 (tgt := 3) rfl ?_
      exact ih _ (by rw [show Int32.ofInt (-1) = -1 from rfl, Int32.add_assoc, show (-1 : Int32) + 1 = 0 from rfl, Int32.add_zero]) (by omega) (by rw [if_neg (by rw [(zb_eq0 _).mp c_12]; decide)] at hR; exact hR)
    · refine Z_iload_n dX11_lastOf_15 rfl (pc' := 16) rfl ?_
      exact Z_ireturn dX11_lastOf_16 rfl rfl (by rw [if_pos ((zb_ne0 _).mp c_12)] at hR; exact hR)
set_option maxRecDepth 100000 in
set_option maxHeartbeats 4000000 in
theorem c_X11_lastOf {f : Nat → Bool} {ω : ZW} : zM m_X11_lastOf 0 0 [.long (zmk f)] ω (zE (some (.int (lsF f 49))) ω) := by
  show Z m_X11_lastOf _ _ _ 0 [some (.long _), none] [] _
  refine Z_bipush dX11_lastOf_0 (v := 48) (by decide) (pc' := 2) rfl ?_
  refine Z_istore_n dX11_lastOf_2 (Nat.le_of_ble_eq_true rfl) (Nat.le_of_ble_eq_true rfl) rfl (ls' := [_, _, _]) rfl (pc' := 3) rfl ?_
  exact lp_X11_lastOf 49 _ (by decide) (by decide) ⟨rfl, rfl⟩
set_option maxRecDepth 100000 in
set_option maxHeartbeats 4000000 in
theorem lp_X11_eachOf {f : Nat → Bool} {c : Nat} {ω : ZW} {R : Option Value → ZW → Prop} (hc : 0 < c) (hc2 : c < 10) : ∀ (m p bt : Nat) (g : Nat → Bool), p + m = 49 → bt < 10 → R (some (.long (zmk (evF f c m p bt g)))) ω → Z m_X11_eachOf 0 0 R 8 [some (.long (zmk f)), none, some (.int (nI c)), some (.long (zmk g)), none, some (.int (nI bt)), some (.int (nI p))] [] ω := by
  intro m
  induction m with
  | zero =>
    intro p bt g h hbt hR
    obtain rfl : p = 49 := by omega
    refine Z_iload dX11_eachOf_8 rfl (pc' := 10) rfl ?_
    refine Z_bipush dX11_eachOf_10 (v := 48) (by decide) (pc' := 12) rfl ?_
    refine Z_icmp_gt dX11_eachOf_12 (tgt := 48) rfl (pc' := 15) rfl (fun c_12 => ?_) (fun c_12 => absurd c_12 (fun c => c (by decide)))
    refine Z_lload_n dX11_eachOf_48 rfl (pc' := 49) rfl ?_
    exact Z_lreturn dX11_eachOf_49 rfl hR
  | succ m ih =>
    intro p bt g h hbt hR
    unfold evF at hR
    refine Z_iload dX11_eachOf_8 rfl (pc' := 10) rfl ?_
    refine Z_bipush dX11_eachOf_10 (v := 48) (by decide) (pc' := 12) rfl ?_
    refine Z_icmp_gt dX11_eachOf_12 (tgt := 48) rfl (pc' := 15) rfl (fun c_12 => absurd c_12 (by rw [nI48, nI_ltn (by omega) (by omega)]; omega)) (fun c_12 => ?_)
    refine Z_lload_n dX11_eachOf_15 rfl (pc' := 16) rfl ?_
    refine Z_iload dX11_eachOf_16 rfl (pc' := 18) rfl ?_
    refine Z_cSe dX11_eachOf_18 rfl zcw_X11_holds (As := [_, _]) (rest := []) rfl ⟨Nat.le_of_ble_eq_true rfl, Nat.le_of_ble_eq_true rfl⟩ (Nat.le_of_ble_eq_true rfl) ⟨zcw_X11_holds.2.2.2.2, Nat.le_of_ble_eq_true rfl⟩ zk_RX11_103 c_X11_holds (pc' := 21) rfl ?_
    rw [hI_nat f (show p ≤ 48 by omega)]
    refine Z_if_eq dX11_eachOf_21 (tgt := 42) rfl (pc' := 24) rfl (fun c_21 => ?_) (fun c_21 => ?_)
    · refine Z_iinc dX11_eachOf_42 rfl (nI_inc p) (Nat.le_of_ble_eq_true rfl) rfl (ls' := [_, _, _, _, _, _, _]) rfl (pc' := 45) rfl ?_
      refine Z_goto dX11_eachOf_45 (tgt := 8) rfl ?_
      first | exact ih (p + 1) bt g (by omega) hbt (by rw [if_neg (by rw [(zb_eq0 _).mp c_21]; decide)] at hR; exact hR) | exact ih (p + 1) (bt - 1) g (by omega) (by omega) (by rw [if_pos ((zb_ne0 _).mp c_21), if_neg (fun h => c_26 (by rw [h]; rfl))] at hR; exact hR) | exact ih (p + 1) (c - 1) _ (by omega) (by omega) (by rw [if_pos ((zb_ne0 _).mp c_21), if_pos ((nI_eqn (b := 0) (by omega) (by omega)).mp c_26)] at hR; exact hR)
    · refine Z_iload dX11_eachOf_24 rfl (pc' := 26) rfl ?_
      refine Z_if_ne dX11_eachOf_26 (tgt := 39) rfl (pc' := 29) rfl (fun c_26 => ?_) (fun c_26 => ?_)
      · refine Z_iinc dX11_eachOf_39 rfl (nI_dec (Nat.pos_of_ne_zero (fun h => c_26 (by rw [h]; rfl)))) (Nat.le_of_ble_eq_true rfl) rfl (ls' := [_, _, _, _, _, _, _]) rfl (pc' := 42) rfl ?_
        refine Z_iinc dX11_eachOf_42 rfl (nI_inc p) (Nat.le_of_ble_eq_true rfl) rfl (ls' := [_, _, _, _, _, _, _]) rfl (pc' := 45) rfl ?_
        refine Z_goto dX11_eachOf_45 (tgt := 8) rfl ?_
        first | exact ih (p + 1) bt g (by omega) hbt (by rw [if_neg (by rw [(zb_eq0 _).mp c_21]; decide)] at hR; exact hR) | exact ih (p + 1) (bt - 1) g (by omega) (by omega) (by rw [if_pos ((zb_ne0 _).mp c_21), if_neg (fun h => c_26 (by rw [h]; rfl))] at hR; exact hR) | exact ih (p + 1) (c - 1) _ (by omega) (by omega) (by rw [if_pos ((zb_ne0 _).mp c_21), if_pos ((nI_eqn (b := 0) (by omega) (by omega)).mp c_26)] at hR; exact hR)
      · refine Z_lload_n dX11_eachOf_29 rfl (pc' := 30) rfl ?_
        refine Z_lconst dX11_eachOf_30 (v := 1) (by decide) (pc' := 31) rfl ?_
        refine Z_iload dX11_eachOf_31 rfl (pc' := 33) rfl ?_
        refine Z_lshl dX11_eachOf_33 (pc' := 34) rfl ?_
        refine Z_lor dX11_eachOf_34 (pc' := 35) rfl ?_
        rw [zmk_one (show p < 64 by omega), zmk_or]
        refine Z_lstore_n dX11_eachOf_35 (Nat.le_of_ble_eq_true rfl) (Nat.le_of_ble_eq_true rfl) rfl (ls' := [_, _, _, _, _, _, _]) rfl (pc' := 36) rfl ?_
        refine Z_iload_n dX11_eachOf_36 rfl (pc' := 37) rfl ?_
        refine Z_istore dX11_eachOf_37 (Nat.le_of_ble_eq_true rfl) (Nat.le_of_ble_eq_true rfl) rfl (ls' := [_, _, _, _, _, _, _]) rfl (pc' := 39) rfl ?_
        refine Z_iinc dX11_eachOf_39 rfl (nI_dec hc) (Nat.le_of_ble_eq_true rfl) rfl (ls' := [_, _, _, _, _, _, _]) rfl (pc' := 42) rfl ?_
        refine Z_iinc dX11_eachOf_42 rfl (nI_inc p) (Nat.le_of_ble_eq_true rfl) rfl (ls' := [_, _, _, _, _, _, _]) rfl (pc' := 45) rfl ?_
        refine Z_goto dX11_eachOf_45 (tgt := 8) rfl ?_
        first | exact ih (p + 1) bt g (by omega) hbt (by rw [if_neg (by rw [(zb_eq0 _).mp c_21]; decide)] at hR; exact hR) | exact ih (p + 1) (bt - 1) g (by omega) (by omega) (by rw [if_pos ((zb_ne0 _).mp c_21), if_neg (fun h => c_26 (by rw [h]; rfl))] at hR; exact hR) | exact ih (p + 1) (c - 1) _ (by omega) (by omega) (by rw [if_pos ((zb_ne0 _).mp c_21), if_pos ((nI_eqn (b := 0) (by omega) (by omega)).mp c_26)] at hR; exact hR)
set_option maxRecDepth 100000 in
set_option maxHeartbeats 4000000 in
theorem c_X11_eachOf {f : Nat → Bool} {c : Nat} {ω : ZW} (hc : 0 < c) (hc2 : c < 10) : zM m_X11_eachOf 0 0 [.long (zmk f), .int (nI c)] ω (zE (some (.long (zmk (evF f c 49 0 0 (fun _ => false))))) ω) := by
  show Z m_X11_eachOf _ _ _ 0 [some (.long _), none, some (.int _)] [] _
  refine Z_lconst dX11_eachOf_0 (v := 0) (by decide) (pc' := 1) rfl ?_
  refine Z_lstore_n dX11_eachOf_1 (Nat.le_of_ble_eq_true rfl) (Nat.le_of_ble_eq_true rfl) rfl (ls' := [_, _, _, _, _]) rfl (pc' := 2) rfl ?_
  refine Z_iconst dX11_eachOf_2 (v := 0) (by decide) (pc' := 3) rfl ?_
  refine Z_istore dX11_eachOf_3 (Nat.le_of_ble_eq_true rfl) (Nat.le_of_ble_eq_true rfl) rfl (ls' := [_, _, _, _, _, _]) rfl (pc' := 5) rfl ?_
  refine Z_iconst dX11_eachOf_5 (v := 0) (by decide) (pc' := 6) rfl ?_
  refine Z_istore dX11_eachOf_6 (Nat.le_of_ble_eq_true rfl) (Nat.le_of_ble_eq_true rfl) rfl (ls' := [_, _, _, _, _, _, _]) rfl (pc' := 8) rfl ?_
  rw [zmk_0]
  exact lp_X11_eachOf hc hc2 49 0 0 _ rfl (by decide) ⟨rfl, rfl⟩
def stF (f : Nat → Bool) : Nat := zct f 64 - 1
set_option maxRecDepth 100000 in
set_option maxHeartbeats 4000000 in
theorem c_X11_stepsOf {f : Nat → Bool} {ω : ZW} : zM m_X11_stepsOf 0 0 [.long (zmk f)] ω (zE (some (.int (nI (stF f)))) ω) := by
  show Z m_X11_stepsOf _ _ _ 0 [some (.long _), none] [] _
  refine Z_iconst dX11_stepsOf_0 (v := 0) (by decide) (pc' := 1) rfl ?_
  refine Z_lload_n dX11_stepsOf_1 rfl (pc' := 2) rfl ?_
  refine Z_cSe dX11_stepsOf_2 rfl zcw_J13_bitCount_95d88 (As := [_]) (rest := [_]) rfl ⟨Nat.le_of_ble_eq_true rfl, Nat.le_of_ble_eq_true rfl⟩ (Nat.le_of_ble_eq_true rfl) ⟨zcw_J13_bitCount_95d88.2.2.2.2, Nat.le_of_ble_eq_true rfl⟩ zk_RX11_206 c_J13_bitCount_95d88 (pc' := 5) rfl ?_
  refine Z_iconst dX11_stepsOf_5 (v := 1) (by decide) (pc' := 6) rfl ?_
  refine Z_isub dX11_stepsOf_6 (pc' := 7) rfl ?_
  refine Z_mmax dX11_stepsOf_7 rfl zk_RX11_140 (Nat.le_of_ble_eq_true rfl) (Nat.le_of_ble_eq_true rfl) (pc' := 10) rfl ?_
  exact Z_ireturn dX11_stepsOf_10 rfl rfl ⟨by
    have hc := zct_le f 64
    unfold stF
    by_cases h : zct f 64 = 0
    · rw [h]; rfl
    · obtain ⟨m, hm⟩ : ∃ m, zct f 64 = m + 1 := ⟨zct f 64 - 1, by omega⟩
      rw [hm, nI_pred, Nat.add_sub_cancel]
      by_cases h0 : m = 0
      · subst h0; rfl
      · rw [if_pos]
        show nI 0 < nI m
        rw [nI_ltn (by omega) (by omega)]; omega, rfl⟩
