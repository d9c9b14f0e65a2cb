abbrev cB (b : Nat) : Prop := b = 1 ∨ b = 7 ∨ b = 13
abbrev cR (q : Nat) : Prop := q = 5 ∨ q = 11 ∨ q = 17
theorem cB_R {b : Nat} (h : cB b) : cR (b + 4) := by rcases h with rfl | rfl | rfl <;> decide
theorem zob_b {b : Nat} (h : cB b) : zOb b RX2 := by rcases h with rfl | rfl | rfl; exact zob_1; exact zob_7; exact zob_13
theorem zob_q {b : Nat} (h : cR b) : zOb b RX7 := by rcases h with rfl | rfl | rfl; exact zob_5; exact zob_11; exact zob_17
theorem zob_b_0 {b : Nat} (hb : cB b) : zOb (b) RX2 := by rcases hb with rfl | rfl | rfl; exact zob_1; exact zob_7; exact zob_13
theorem zgi_RX11_80_b_0 {b : Nat} (hb : cB b) : zGI RX11 80 (b) 6 := by rcases hb with rfl | rfl | rfl; exact zgi_RX11_80_1; exact zgi_RX11_80_7; exact zgi_RX11_80_13
theorem zpi_RX11_80_b_0 {b : Nat} (hb : cB b) : zPI RX11 80 (b) 6 .int := by rcases hb with rfl | rfl | rfl; exact zpi_RX11_80_1; exact zpi_RX11_80_7; exact zpi_RX11_80_13
theorem zgr_RX11_156_b_0 {b : Nat} (hb : cB b) : zGR RX11 156 (b) (b + 4) := by rcases hb with rfl | rfl | rfl; exact zgr_RX11_156_1; exact zgr_RX11_156_7; exact zgr_RX11_156_13
theorem zgi_RX11_227_b_0 {b : Nat} (hb : cB b) : zGI RX11 227 (b) 4 := by rcases hb with rfl | rfl | rfl; exact zgi_RX11_227_1; exact zgi_RX11_227_7; exact zgi_RX11_227_13
theorem zpi_RX11_227_b_0 {b : Nat} (hb : cB b) : zPI RX11 227 (b) 4 .int := by rcases hb with rfl | rfl | rfl; exact zpi_RX11_227_1; exact zpi_RX11_227_7; exact zpi_RX11_227_13
theorem zgi_RX11_230_b_0 {b : Nat} (hb : cB b) : zGI RX11 230 (b) 1 := by rcases hb with rfl | rfl | rfl; exact zgi_RX11_230_1; exact zgi_RX11_230_7; exact zgi_RX11_230_13
theorem zpi_RX11_230_b_0 {b : Nat} (hb : cB b) : zPI RX11 230 (b) 1 .int := by rcases hb with rfl | rfl | rfl; exact zpi_RX11_230_1; exact zpi_RX11_230_7; exact zpi_RX11_230_13
theorem zgr_RX2_11_b_0 {b : Nat} (hb : cB b) : zGR RX2 11 (b) (b + 1) := by rcases hb with rfl | rfl | rfl; exact zgr_RX2_11_1; exact zgr_RX2_11_7; exact zgr_RX2_11_13
theorem zgr_RX2_17_b_0 {b : Nat} (hb : cB b) : zGR RX2 17 (b) (b + 2) := by rcases hb with rfl | rfl | rfl; exact zgr_RX2_17_1; exact zgr_RX2_17_7; exact zgr_RX2_17_13
theorem zgr_RX2_21_b_0 {b : Nat} (hb : cB b) : zGR RX2 21 (b) (b + 3) := by rcases hb with rfl | rfl | rfl; exact zgr_RX2_21_1; exact zgr_RX2_21_7; exact zgr_RX2_21_13
theorem zgr_RX2_27_b_0 {b : Nat} (hb : cB b) : zGR RX2 27 (b) (b + 4) := by rcases hb with rfl | rfl | rfl; exact zgr_RX2_27_1; exact zgr_RX2_27_7; exact zgr_RX2_27_13
theorem zgi_RX2_31_b_0 {b : Nat} (hb : cB b) : zGI RX2 31 (b) 1 := by rcases hb with rfl | rfl | rfl; exact zgi_RX2_31_1; exact zgi_RX2_31_7; exact zgi_RX2_31_13
theorem zpi_RX2_31_b_0 {b : Nat} (hb : cB b) : zPI RX2 31 (b) 1 .int := by rcases hb with rfl | rfl | rfl; exact zpi_RX2_31_1; exact zpi_RX2_31_7; exact zpi_RX2_31_13
theorem zgi_RX2_39_b_0 {b : Nat} (hb : cB b) : zGI RX2 39 (b) 4 := by rcases hb with rfl | rfl | rfl; exact zgi_RX2_39_1; exact zgi_RX2_39_7; exact zgi_RX2_39_13
theorem zpi_RX2_39_b_0 {b : Nat} (hb : cB b) : zPI RX2 39 (b) 4 .int := by rcases hb with rfl | rfl | rfl; exact zpi_RX2_39_1; exact zpi_RX2_39_7; exact zpi_RX2_39_13
theorem zgi_RX2_53_b_0 {b : Nat} (hb : cB b) : zGI RX2 53 (b) 6 := by rcases hb with rfl | rfl | rfl; exact zgi_RX2_53_1; exact zgi_RX2_53_7; exact zgi_RX2_53_13
theorem zpi_RX2_53_b_0 {b : Nat} (hb : cB b) : zPI RX2 53 (b) 6 .int := by rcases hb with rfl | rfl | rfl; exact zpi_RX2_53_1; exact zpi_RX2_53_7; exact zpi_RX2_53_13
theorem zgr_RX3_52_b_0 {b : Nat} (hb : cB b) : zGR RX3 52 (b) (b + 4) := by rcases hb with rfl | rfl | rfl; exact zgr_RX3_52_1; exact zgr_RX3_52_7; exact zgr_RX3_52_13
theorem zgi_RX3_65_b_0 {b : Nat} (hb : cB b) : zGI RX3 65 (b) 6 := by rcases hb with rfl | rfl | rfl; exact zgi_RX3_65_1; exact zgi_RX3_65_7; exact zgi_RX3_65_13
theorem zpi_RX3_65_b_0 {b : Nat} (hb : cB b) : zPI RX3 65 (b) 6 .int := by rcases hb with rfl | rfl | rfl; exact zpi_RX3_65_1; exact zpi_RX3_65_7; exact zpi_RX3_65_13
theorem zaq_b_1 {b : Nat} (hb : cB b) : zAq (b + 1) 1 8 RX9 := by rcases hb with rfl | rfl | rfl; exact zaq_2; exact zaq_8; exact zaq_14
theorem zar_b_2 {b : Nat} (hb : cB b) : zAr (b + 2) 49 := by rcases hb with rfl | rfl | rfl; exact zar_3; exact zar_9; exact zar_15
theorem zar_b_3 {b : Nat} (hb : cB b) : zAr (b + 3) 49 := by rcases hb with rfl | rfl | rfl; exact zar_4; exact zar_10; exact zar_16
theorem zob_b_4 {b : Nat} (hb : cB b) : zOb (b + 4) RX7 := by rcases hb with rfl | rfl | rfl; exact zob_5; exact zob_11; exact zob_17
theorem zgi_RX11_233_b_4 {b : Nat} (hb : cB b) : zGI RX11 233 (b + 4) 1 := by rcases hb with rfl | rfl | rfl; exact zgi_RX11_233_5; exact zgi_RX11_233_11; exact zgi_RX11_233_17
theorem zpi_RX11_233_b_4 {b : Nat} (hb : cB b) : zPI RX11 233 (b + 4) 1 .int := by rcases hb with rfl | rfl | rfl; exact zpi_RX11_233_5; exact zpi_RX11_233_11; exact zpi_RX11_233_17
theorem zgr_RX7_11_b_4 {b : Nat} (hb : cB b) : zGR RX7 11 (b + 4) (b + 5) := by rcases hb with rfl | rfl | rfl; exact zgr_RX7_11_5; exact zgr_RX7_11_11; exact zgr_RX7_11_17
theorem zgi_RX7_17_b_4 {b : Nat} (hb : cB b) : zGI RX7 17 (b + 4) 1 := by rcases hb with rfl | rfl | rfl; exact zgi_RX7_17_5; exact zgi_RX7_17_11; exact zgi_RX7_17_17
theorem zpi_RX7_17_b_4 {b : Nat} (hb : cB b) : zPI RX7 17 (b + 4) 1 .int := by rcases hb with rfl | rfl | rfl; exact zpi_RX7_17_5; exact zpi_RX7_17_11; exact zpi_RX7_17_17
theorem zaq_b_5 {b : Nat} (hb : cB b) : zAq (b + 5) 2 6 RX6 := by rcases hb with rfl | rfl | rfl; exact zaq_6; exact zaq_12; exact zaq_18
theorem zob_q_0 {q : Nat} (hq : cR q) : zOb (q) RX7 := by rcases hq with rfl | rfl | rfl; exact zob_5; exact zob_11; exact zob_17
theorem zgi_RX11_233_q_0 {q : Nat} (hq : cR q) : zGI RX11 233 (q) 1 := by rcases hq with rfl | rfl | rfl; exact zgi_RX11_233_5; exact zgi_RX11_233_11; exact zgi_RX11_233_17
theorem zpi_RX11_233_q_0 {q : Nat} (hq : cR q) : zPI RX11 233 (q) 1 .int := by rcases hq with rfl | rfl | rfl; exact zpi_RX11_233_5; exact zpi_RX11_233_11; exact zpi_RX11_233_17
theorem zgr_RX7_11_q_0 {q : Nat} (hq : cR q) : zGR RX7 11 (q) (q + 1) := by rcases hq with rfl | rfl | rfl; exact zgr_RX7_11_5; exact zgr_RX7_11_11; exact zgr_RX7_11_17
theorem zgi_RX7_17_q_0 {q : Nat} (hq : cR q) : zGI RX7 17 (q) 1 := by rcases hq with rfl | rfl | rfl; exact zgi_RX7_17_5; exact zgi_RX7_17_11; exact zgi_RX7_17_17
theorem zpi_RX7_17_q_0 {q : Nat} (hq : cR q) : zPI RX7 17 (q) 1 .int := by rcases hq with rfl | rfl | rfl; exact zpi_RX7_17_5; exact zpi_RX7_17_11; exact zpi_RX7_17_17
theorem zaq_q_1 {q : Nat} (hq : cR q) : zAq (q + 1) 2 6 RX6 := by rcases hq with rfl | rfl | rfl; exact zaq_6; exact zaq_12; exact zaq_18
/-! truth values, bits, sets of places -/
def zb (b : Bool) : Int32 := if b then 1 else 0
theorem narrow_zb (b : Bool) : narrow .boolean (.int (zb b)) = .int (zb b) := by cases b <;> decide
theorem zb_eq0 (b : Bool) : zb b = 0 ↔ b = false := by cases b <;> decide
theorem zb_ne0 (b : Bool) : ¬ zb b = 0 ↔ b = true := by cases b <;> decide
theorem zb_01 (b : Bool) : zb b = 0 ∨ zb b = 1 := by cases b <;> decide
def zbt (L : Int64) (k : Nat) : Bool := L.toBitVec.getLsbD k
theorem zbt_ext {x y : Int64} (h : ∀ i, i < 64 → zbt x i = zbt y i) : x = y := Int64.toBitVec_inj.mp (BitVec.eq_of_getLsbD_eq fun i hi => h i hi)
theorem zbt_big {x : Int64} {i : Nat} (h : 64 ≤ i) : zbt x i = false := BitVec.getLsbD_of_ge _ _ h
theorem zbt_or (x y : Int64) (i : Nat) : zbt (x ||| y) i = (zbt x i || zbt y i) := by unfold zbt; rw [Int64.toBitVec_or, BitVec.getLsbD_or]
theorem zbt_and (x y : Int64) (i : Nat) : zbt (x &&& y) i = (zbt x i && zbt y i) := by unfold zbt; rw [Int64.toBitVec_and, BitVec.getLsbD_and]
theorem zbt_xor (x y : Int64) (i : Nat) : zbt (x ^^^ y) i = (zbt x i ^^ zbt y i) := by unfold zbt; rw [Int64.toBitVec_xor, BitVec.getLsbD_xor]
theorem zbt_m1 : ∀ i, i < 64 → zbt (-1) i = true := by decide +kernel
theorem zbt_0 (i : Nat) : zbt 0 i = false := by
  show (0#64).getLsbD i = false
  simp
theorem zc63 : ∀ k, k < 64 → ((nI k).toInt64 &&& 63) = lN k := by decide +kernel
theorem zsm64 : ∀ k, k < 64 → ((lN k).toBitVec.smod 64).toNat = k := by decide +kernel
theorem zbt_shr {k : Nat} (hk : k < 64) (x : Int64) {i : Nat} (hi : i < 64) : zbt (x >>> ((nI k).toInt64 &&& 63)) i = if k + i < 64 then zbt x (k + i) else zbt x 63 := by
  rw [zc63 k hk]
  unfold zbt
  rw [Int64.toBitVec_shiftRight]
  show (x.toBitVec.sshiftRight ((lN k).toBitVec.smod 64).toNat).getLsbD i = _
  rw [zsm64 k hk, BitVec.getLsbD_sshiftRight, BitVec.msb_eq_getLsbD_last]
  simp [Nat.not_le.mpr hi]
theorem zbt_shl {k : Nat} (hk : k < 64) (x : Int64) {i : Nat} (hi : i < 64) : zbt (x <<< ((nI k).toInt64 &&& 63)) i = (decide (k ≤ i) && zbt x (i - k)) := by
  rw [zc63 k hk]
  unfold zbt
  rw [Int64.toBitVec_shiftLeft]
  show (x.toBitVec <<< ((lN k).toBitVec.smod 64).toNat).getLsbD i = _
  rw [zsm64 k hk, BitVec.getLsbD_shiftLeft]
  rcases Nat.lt_or_ge i k with h | h
  · simp [h, Nat.not_le.mpr h]
  · simp [hi, h, Nat.not_lt.mpr h]
theorem zbt_1 (i : Nat) : zbt 1 i = decide (i = 0) := by
  show (1#64).getLsbD i = _
  simp
theorem zbt_one {k : Nat} (hk : k < 64) {i : Nat} (hi : i < 64) : zbt ((1 : Int64) <<< ((nI k).toInt64 &&& 63)) i = decide (i = k) := by
  rw [zbt_shl hk _ hi, zbt_1]
  by_cases h : i = k
  · subst h; simp
  · have : ¬ (k ≤ i ∧ i - k = 0) := by omega
    rcases Nat.lt_or_ge i k with q | q
    · simp [h, Nat.not_le.mpr q]
    · simp [h, q]; omega
theorem zand1 (x : Int64) : x &&& 1 = 0 ↔ zbt x 0 = false := by
  constructor
  · intro h
    have h1 := zbt_and x 1 0
    rw [h, zbt_0, zbt_1] at h1
    simpa using h1.symm
  · intro h
    refine zbt_ext fun i hi => ?_
    rw [zbt_and, zbt_1, zbt_0]
    by_cases hz : i = 0
    · subst hz; simp [h]
    · simp [hz]
theorem zcmp0 (x : Int64) : lg_cmp x 0 = 0 ↔ x = 0 := by
  unfold lg_cmp
  by_cases h : x > 0
  · rw [if_pos h]
    constructor
    · intro h2; exact absurd h2 (by decide)
    · intro h2; rw [h2] at h; exact absurd h (by decide)
  · rw [if_neg h]
    by_cases h2 : x = 0
    · simp [h2]
    · simp [h2]
theorem zholds {x : Int64} {k : Nat} (hk : k < 64) : lg_cmp ((x >>> ((nI k).toInt64 &&& 63)) &&& 1) 0 = 0 ↔ zbt x k = false := by
  rw [zcmp0, zand1, zbt_shr hk x (by decide)]
  simp [hk]
/-- a number out of its bits -/
def znb (f : Nat → Bool) : Nat → Nat
  | 0 => 0
  | n + 1 => znb f n ||| (if f n then 2 ^ n else 0)
theorem znb_bit (f : Nat → Bool) : ∀ n k, (znb f n).testBit k = (decide (k < n) && f k)
  | 0, k => by simp [znb]
  | n + 1, k => by
    rw [znb, Nat.testBit_or, znb_bit f n k]
    by_cases h : f n = true
    · rw [if_pos h, Nat.testBit_two_pow]
      by_cases hk : n = k
      · subst hk; simp [h]
      · rcases Nat.lt_trichotomy k n with q | q | q
        · simp [q, hk, Nat.lt_succ_of_lt q]
        · exact absurd q.symm hk
        · simp [hk, Nat.not_lt.mpr (Nat.le_of_lt q), show ¬ k < n + 1 by omega]
    · rw [if_neg h]
      have hf : f n = false := by simpa using h
      by_cases hk : n = k
      · subst hk; simp [hf]
      · rcases Nat.lt_trichotomy k n with q | q | q
        · simp [q, Nat.lt_succ_of_lt q]
        · exact absurd q.symm hk
        · simp [Nat.not_lt.mpr (Nat.le_of_lt q), show ¬ k < n + 1 by omega]
/-- the set as a mask -/
def zmk (f : Nat → Bool) : Int64 := Int64.ofBitVec (BitVec.ofNat 64 (znb f 64))
theorem zmk_bt (f : Nat → Bool) {k : Nat} (h : k < 64) : zbt (zmk f) k = f k := by
  unfold zbt zmk
  show (BitVec.ofNat 64 (znb f 64)).getLsbD k = f k
  rw [BitVec.getLsbD_ofNat, znb_bit]
  simp [h]
theorem zmk_of {x : Int64} {f : Nat → Bool} (h : ∀ k, k < 64 → zbt x k = f k) : x = zmk f := zbt_ext fun i hi => by rw [h i hi, zmk_bt f hi]
theorem zmk_cong {f g : Nat → Bool} (h : ∀ k, k < 64 → f k = g k) : zmk f = zmk g := zmk_of fun k hk => by rw [zmk_bt f hk, h k hk]
theorem zmk_or (f g : Nat → Bool) : zmk f ||| zmk g = zmk (fun k => f k || g k) := zmk_of fun k hk => by rw [zbt_or, zmk_bt f hk, zmk_bt g hk]
theorem zmk_and (f g : Nat → Bool) : zmk f &&& zmk g = zmk (fun k => f k && g k) := zmk_of fun k hk => by rw [zbt_and, zmk_bt f hk, zmk_bt g hk]
theorem zmk_not (f : Nat → Bool) : zmk f ^^^ (-1) = zmk (fun k => !f k) := zmk_of fun k hk => by rw [zbt_xor, zmk_bt f hk, zbt_m1 k hk]; simp
theorem zmk_one {k : Nat} (hk : k < 64) : (1 : Int64) <<< ((nI k).toInt64 &&& 63) = zmk (fun i => decide (i = k)) := zmk_of fun i hi => zbt_one hk hi
theorem zmk_1 : (1 : Int64) = zmk (fun i => decide (i = 0)) := zmk_of fun i hi => zbt_1 i
theorem zmk_0 : (0 : Int64) = zmk (fun _ => false) := zmk_of fun i hi => zbt_0 i
/-- whole numbers that are small -/
theorem nI_nat {k : Nat} (h : k < 2147483648) : (nI k).toNatClampNeg = k := nI_clamp (by omega)
theorem zin {k N : Nat} (h : k < N) (hN : N < 2147483648) : vp_in (nI k) N := by
  intro q
  rcases q with q | q
  · exact absurd q (nI_pos (by omega))
  · rw [nI_nat (by omega)] at q; omega
theorem nI_ofNat (k : Nat) : (OfNat.ofNat k : Int32) = nI k := rfl
theorem nI_ltn {a b : Nat} (ha : a < 2147483648) (hb : b < 2147483648) : nI a < nI b ↔ a < b := nI_ltI (by omega) (by omega)
theorem nI_len {a b : Nat} (ha : a < 2147483648) (hb : b < 2147483648) : nI a ≤ nI b ↔ a ≤ b := nI_leI (by omega) (by omega)
theorem nI_eqn {a b : Nat} (ha : a < 2147483648) (hb : b < 2147483648) : nI a = nI b ↔ a = b := nI_eq (by omega) (by omega)
theorem nI_neg {k : Nat} (h : k < 2147483648) : ¬ nI k < 0 := nI_pos (by omega)
/-- a whole number is negative, or a natural one -/
theorem i32_cases (x : Int32) : x < 0 ∨ ∃ k : Nat, k < 2147483648 ∧ x = nI k := by
  by_cases h : x < 0
  · exact Or.inl h
  · obtain ⟨j, h1, h2⟩ := nI_of h
    exact Or.inr ⟨j, by omega, h2⟩
