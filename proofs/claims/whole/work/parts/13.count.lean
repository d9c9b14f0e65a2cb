/-! how many bits: the machine's own way to count them -/
def zct (f : Nat → Bool) : Nat → Nat
  | 0 => 0
  | n + 1 => zct f n + (if f n then 1 else 0)
def dg (k : Nat) (c : Nat → Nat) : Nat → Nat
  | 0 => 0
  | n + 1 => dg k c n + 2 ^ (k * n) * c n
theorem dg_lt (k : Nat) (c : Nat → Nat) : ∀ n, (∀ i, i < n → c i < 2 ^ k) → dg k c n < 2 ^ (k * n)
  | 0, _ => by simp [dg]
  | n + 1, h => by
    have h1 := dg_lt k c n fun i hi => h i (by omega)
    have h2 : c n + 1 ≤ 2 ^ k := h n (by omega)
    have h3 : 2 ^ (k * (n + 1)) = 2 ^ (k * n) * 2 ^ k := by rw [Nat.mul_add, Nat.mul_one, Nat.pow_add]
    rw [dg, h3]
    have h4 : 2 ^ (k * n) * (c n + 1) ≤ 2 ^ (k * n) * 2 ^ k := Nat.mul_le_mul_left _ h2
    rw [Nat.mul_add, Nat.mul_one] at h4
    omega
theorem dg_cong {k : Nat} {c d : Nat → Nat} : ∀ n, (∀ i, i < n → c i = d i) → dg k c n = dg k d n
  | 0, _ => rfl
  | n + 1, h => by rw [dg, dg, dg_cong n fun i hi => h i (by omega), h n (by omega)]
theorem dg_add (k : Nat) (c d : Nat → Nat) : ∀ n, dg k (fun i => c i + d i) n = dg k c n + dg k d n
  | 0 => rfl
  | n + 1 => by
    rw [dg, dg, dg, dg_add k c d n, Nat.mul_add]
    omega
theorem and_split (b H H' a m : Nat) (h : H < 2 ^ b) (h' : H' < 2 ^ b) : (H + 2 ^ b * a) &&& (H' + 2 ^ b * m) = (H &&& H') + 2 ^ b * (a &&& m) := by
  apply Nat.eq_of_testBit_eq
  intro j
  have h3 : H &&& H' < 2 ^ b := Nat.lt_of_le_of_lt Nat.and_le_left h
  rw [Nat.testBit_and, Nat.add_comm H, Nat.add_comm H', Nat.add_comm (H &&& H'), Nat.testBit_two_pow_mul_add _ h, Nat.testBit_two_pow_mul_add _ h', Nat.testBit_two_pow_mul_add _ h3]
  by_cases hj : j < b
  · simp [hj]
  · simp [hj]
theorem dg_and (b : Nat) (a m : Nat → Nat) : ∀ n, (∀ i, i < n → a i < 2 ^ b) → (∀ i, i < n → m i < 2 ^ b) → dg b a n &&& dg b m n = dg b (fun i => a i &&& m i) n
  | 0, _, _ => by simp [dg]
  | n + 1, ha, hm => by
    rw [dg, dg, dg, and_split (b * n) _ _ _ _ (dg_lt b a n fun i hi => ha i (by omega)) (dg_lt b m n fun i hi => hm i (by omega)), dg_and b a m n (fun i hi => ha i (by omega)) fun i hi => hm i (by omega)]
/-- two digits as one -/
theorem dg_pair (k : Nat) (c : Nat → Nat) : ∀ n, dg k c (2 * n) = dg (2 * k) (fun i => c (2 * i) + 2 ^ k * c (2 * i + 1)) n
  | 0 => rfl
  | n + 1 => by
    rw [show 2 * (n + 1) = 2 * n + 1 + 1 by omega, dg, dg, dg, dg_pair k c n]
    have h1 : k * (2 * n) = 2 * k * n := by rw [Nat.mul_comm 2 k, Nat.mul_assoc]
    have h2 : k * (2 * n + 1) = 2 * k * n + k := by rw [Nat.mul_add, h1, Nat.mul_one]
    rw [h1, h2, Nat.pow_add, Nat.mul_add, Nat.mul_assoc (2 ^ (2 * k * n)), Nat.add_assoc]
/-- the lower of each two digits -/
theorem dg_low (k : Nat) (c : Nat → Nat) (n : Nat) (hc : ∀ i, i < 2 * n → c i < 2 ^ k) : dg k c (2 * n) &&& dg (2 * k) (fun _ => 2 ^ k - 1) n = dg (2 * k) (fun i => c (2 * i)) n := by
  have hp : 0 < 2 ^ k := Nat.two_pow_pos k
  have hkk : 2 ^ (2 * k) = 2 ^ k * 2 ^ k := by rw [← Nat.pow_add]; congr 1; omega
  rw [dg_pair, dg_and]
  · refine dg_cong n fun i hi => ?_
    have h0 := hc (2 * i) (by omega)
    rw [Nat.and_two_pow_sub_one_eq_mod, Nat.add_mul_mod_self_left, Nat.mod_eq_of_lt h0]
  · intro i hi
    have h0 := hc (2 * i) (by omega)
    have h1 : c (2 * i + 1) + 1 ≤ 2 ^ k := hc (2 * i + 1) (by omega)
    have h2 := Nat.mul_le_mul_left (2 ^ k) h1
    rw [hkk]
    rw [Nat.mul_add, Nat.mul_one] at h2
    omega
  · intro i _
    rw [hkk]
    have : 2 ^ k * 1 ≤ 2 ^ k * 2 ^ k := Nat.mul_le_mul_left _ hp
    omega
/-- one digit down -/
theorem dg_down (k : Nat) (c : Nat → Nat) : ∀ n, (∀ i, i < n + 1 → c i < 2 ^ k) → dg k c (n + 1) / 2 ^ k = dg k (fun i => c (i + 1)) n
  | 0, h => by
    have := h 0 (by omega)
    simp [dg]
    exact this
  | n + 1, h => by
    have h1 := dg_down k c n fun i hi => h i (by omega)
    rw [dg, show k * (n + 1) = k + k * n by rw [Nat.mul_add, Nat.mul_one, Nat.add_comm], Nat.pow_add, Nat.mul_assoc, Nat.add_mul_div_left _ _ (Nat.two_pow_pos k), h1]
    rfl
theorem dg_pad (k : Nat) (c : Nat → Nat) (n : Nat) : dg k (fun i => if i < n then c i else 0) (n + 1) = dg k c n := by
  rw [dg, if_neg (Nat.lt_irrefl n), Nat.mul_zero, Nat.add_zero]
  exact dg_cong n fun i hi => if_pos hi
theorem dg_high (k : Nat) (c : Nat → Nat) (n : Nat) (hn : 0 < n) (hc : ∀ i, i < 2 * n → c i < 2 ^ k) : dg k c (2 * n) / 2 ^ k &&& dg (2 * k) (fun _ => 2 ^ k - 1) n = dg (2 * k) (fun i => c (2 * i + 1)) n := by
  obtain ⟨m, rfl⟩ : ∃ m, n = m + 1 := ⟨n - 1, by omega⟩
  rw [show 2 * (m + 1) = 2 * m + 1 + 1 by omega, dg_down k c (2 * m + 1) fun i hi => hc i (by omega), ← dg_pad, show 2 * m + 1 + 1 = 2 * (m + 1) by omega]
  rw [dg_low k _ (m + 1) (fun i hi => ?_)]
  · exact dg_cong (m + 1) fun i hi => by rw [if_pos (by omega)]
  · split
    · exact hc _ (by omega)
    · exact Nat.two_pow_pos k
def zbn (f : Nat → Bool) (i : Nat) : Nat := if f i then 1 else 0
theorem zbn_lt (f : Nat → Bool) (i : Nat) : zbn f i < 2 := by unfold zbn; split <;> omega
theorem znb_dg (f : Nat → Bool) : ∀ n, znb f n = dg 1 (zbn f) n
  | 0 => rfl
  | n + 1 => by
    have h0 : znb f n < 2 ^ n := by
      rw [znb_dg f n]
      have := dg_lt 1 (zbn f) n fun i _ => zbn_lt f i
      rwa [Nat.one_mul] at this
    rw [znb, dg, ← znb_dg f n, Nat.one_mul]
    unfold zbn
    by_cases h : f n = true
    · have e := Nat.two_pow_add_eq_or_of_lt h0 1
      rw [Nat.mul_one] at e
      rw [if_pos h, if_pos h, Nat.mul_one, Nat.or_comm, ← e, Nat.add_comm]
    · rw [if_neg h, if_neg h]
      simp
theorem zct_sum (f : Nat → Bool) : zct f 64 = zbn f 0 + zbn f 1 + zbn f 2 + zbn f 3 + zbn f 4 + zbn f 5 + zbn f 6 + zbn f 7 + (zbn f 8 + zbn f 9 + zbn f 10 + zbn f 11 + zbn f 12 + zbn f 13 + zbn f 14 + zbn f 15) + (zbn f 16 + zbn f 17 + zbn f 18 + zbn f 19 + zbn f 20 + zbn f 21 + zbn f 22 + zbn f 23) + (zbn f 24 + zbn f 25 + zbn f 26 + zbn f 27 + zbn f 28 + zbn f 29 + zbn f 30 + zbn f 31) + (zbn f 32 + zbn f 33 + zbn f 34 + zbn f 35 + zbn f 36 + zbn f 37 + zbn f 38 + zbn f 39) + (zbn f 40 + zbn f 41 + zbn f 42 + zbn f 43 + zbn f 44 + zbn f 45 + zbn f 46 + zbn f 47) + (zbn f 48 + zbn f 49 + zbn f 50 + zbn f 51 + zbn f 52 + zbn f 53 + zbn f 54 + zbn f 55) + (zbn f 56 + zbn f 57 + zbn f 58 + zbn f 59 + zbn f 60 + zbn f 61 + zbn f 62 + zbn f 63) := by
  simp only [zct, zbn]
  omega
/-- the count in numbers -/
def pcN (X : Nat) : Nat :=
  let a := X - (X / 2 &&& 6148914691236517205)
  let b := (a &&& 3689348814741910323) + (a / 4 &&& 3689348814741910323)
  let c := (b + b / 16) &&& 1085102592571150095
  let d := c + c / 256
  let e := d + d / 65536
  (e + e / 4294967296) % 128
theorem pc_ok (f : Nat → Bool) : pcN (znb f 64) = zct f 64 ∧ znb f 64 < 2 ^ 64 := by
  have m1 : dg 2 (fun _ => 2 ^ 1 - 1) 32 = 6148914691236517205 := by decide +kernel
  have m2 : dg 4 (fun _ => 2 ^ 2 - 1) 16 = 3689348814741910323 := by decide +kernel
  have m4 : dg 8 (fun _ => 2 ^ 4 - 1) 8 = 1085102592571150095 := by decide +kernel
  have b0 : ∀ i, i < 2 * 32 → zbn f i < 2 ^ 1 := fun i _ => zbn_lt f i
  have hX : znb f 64 = dg 1 (zbn f) (2 * 32) := znb_dg f 64
  have hlt : znb f 64 < 2 ^ 64 := by rw [hX]; exact dg_lt 1 (zbn f) 64 b0
  refine ⟨?_, hlt⟩
  -- the first step
  have s1 : znb f 64 - (znb f 64 / 2 &&& 6148914691236517205) = dg 2 (fun i => zbn f (2 * i) + zbn f (2 * i + 1)) 32 := by
    have e1 : znb f 64 / 2 &&& 6148914691236517205 = dg 2 (fun i => zbn f (2 * i + 1)) 32 := by
      rw [hX, ← m1]; exact dg_high 1 (zbn f) 32 (by decide) b0
    rw [e1, hX, dg_pair 1 (zbn f) 32]
    have e2 : dg (2 * 1) (fun i => zbn f (2 * i) + 2 ^ 1 * zbn f (2 * i + 1)) 32 = dg 2 (fun i => zbn f (2 * i) + zbn f (2 * i + 1)) 32 + dg 2 (fun i => zbn f (2 * i + 1)) 32 := by
      rw [← dg_add]
      exact dg_cong 32 fun i _ => by omega
    rw [e2]
    omega
  have b1 : ∀ i, i < 2 * 16 → zbn f (2 * i) + zbn f (2 * i + 1) < 2 ^ 2 := fun i _ => by
    have := zbn_lt f (2 * i); have := zbn_lt f (2 * i + 1); omega
  generalize hc1 : (fun i => zbn f (2 * i) + zbn f (2 * i + 1)) = c1 at s1
  have b1 : ∀ i, i < 2 * 16 → c1 i < 2 ^ 2 := fun i hi => by rw [← hc1]; exact b1 i hi
  have t1 : ∀ i, c1 i ≤ 2 := fun i => by
    rw [← hc1]
    have := zbn_lt f (2 * i); have := zbn_lt f (2 * i + 1); show zbn f (2 * i) + zbn f (2 * i + 1) ≤ 2; omega
  have s2 : (dg 2 c1 32 &&& 3689348814741910323) + (dg 2 c1 32 / 4 &&& 3689348814741910323) = dg 4 (fun i => c1 (2 * i) + c1 (2 * i + 1)) 16 := by
    rw [dg_add, ← m2]
    exact congr (congrArg HAdd.hAdd (dg_low 2 c1 16 b1)) (dg_high 2 c1 16 (by decide) b1)
  generalize hc2 : (fun i => c1 (2 * i) + c1 (2 * i + 1)) = c2 at s2
  have t2 : ∀ i, c2 i ≤ 4 := fun i => by
    rw [← hc2]; have := t1 (2 * i); have := t1 (2 * i + 1); show c1 (2 * i) + c1 (2 * i + 1) ≤ 4; omega
  have s3 : (dg 4 c2 16 + dg 4 c2 16 / 16) &&& 1085102592571150095 = dg 8 (fun i => c2 (2 * i) + c2 (2 * i + 1)) 8 := by
    have e1 : dg 4 c2 16 / 16 = dg 4 (fun i => if i < 15 then c2 (i + 1) else 0) 16 := by
      rw [dg_pad 4 (fun i => c2 (i + 1)) 15]
      exact dg_down 4 c2 15 fun i _ => by have := t2 i; omega
    rw [e1, ← dg_add, ← m4]
    refine (dg_low 4 _ 8 fun i _ => ?_).trans (dg_cong 8 fun i hi => ?_)
    · show c2 i + (if i < 15 then c2 (i + 1) else 0) < 2 ^ 4
      have := t2 i; have := t2 (i + 1)
      split <;> omega
    · show c2 (2 * i) + (if 2 * i < 15 then c2 (2 * i + 1) else 0) = _
      rw [if_pos (by omega)]
  unfold pcN
  simp only [s1, s2, s3]
  have hs : zct f 64 = (c2 0 + c2 1) + (c2 2 + c2 3) + (c2 4 + c2 5) + (c2 6 + c2 7) + (c2 8 + c2 9) + (c2 10 + c2 11) + (c2 12 + c2 13) + (c2 14 + c2 15) := by
    subst hc2; subst hc1
    rw [zct_sum]
    simp only [Nat.reduceMul, Nat.reduceAdd, Nat.mul_zero, Nat.zero_add, Nat.mul_one]
    omega
  rw [hs]
  have u : ∀ i, c2 (2 * i) + c2 (2 * i + 1) ≤ 8 := fun i => by have := t2 (2 * i); have := t2 (2 * i + 1); omega
  have hv : dg 8 (fun i => c2 (2 * i) + c2 (2 * i + 1)) 8 = (c2 0 + c2 1) + 256 * (c2 2 + c2 3) + 65536 * (c2 4 + c2 5) + 16777216 * (c2 6 + c2 7) + 4294967296 * (c2 8 + c2 9) + 1099511627776 * (c2 10 + c2 11) + 281474976710656 * (c2 12 + c2 13) + 72057594037927936 * (c2 14 + c2 15) := by
    simp [dg]
  rw [hv]
  have u0 := u 0; have u1 := u 1; have u2 := u 2; have u3 := u 3; have u4 := u 4; have u5 := u 5; have u6 := u 6; have u7 := u 7
  simp only [Nat.mul_zero, Nat.zero_add, Nat.mul_one, Nat.reduceMul, Nat.reduceAdd] at u0 u1 u2 u3 u4 u5 u6 u7
  generalize c2 0 + c2 1 = e0 at *; generalize c2 2 + c2 3 = e1 at *; generalize c2 4 + c2 5 = e2 at *; generalize c2 6 + c2 7 = e3 at *
  generalize c2 8 + c2 9 = e4 at *; generalize c2 10 + c2 11 = e5 at *; generalize c2 12 + c2 13 = e6 at *; generalize c2 14 + c2 15 = e7 at *
  clear s1 s2 s3 hs hv hX hlt b0 b1 t1 t2 u m1 m2 m4
  have q1 : (e0 + 256 * e1 + 65536 * e2 + 16777216 * e3 + 4294967296 * e4 + 1099511627776 * e5 + 281474976710656 * e6 + 72057594037927936 * e7) / 256 = e1 + 256 * e2 + 65536 * e3 + 16777216 * e4 + 4294967296 * e5 + 1099511627776 * e6 + 281474976710656 * e7 := by omega
  rw [q1]
  have q2 : (e0 + 256 * e1 + 65536 * e2 + 16777216 * e3 + 4294967296 * e4 + 1099511627776 * e5 + 281474976710656 * e6 + 72057594037927936 * e7 + (e1 + 256 * e2 + 65536 * e3 + 16777216 * e4 + 4294967296 * e5 + 1099511627776 * e6 + 281474976710656 * e7)) / 65536 = (e2 + e3) + 256 * (e3 + e4) + 65536 * (e4 + e5) + 16777216 * (e5 + e6) + 4294967296 * (e6 + e7) + 1099511627776 * e7 := by omega
  rw [q2]
  have q3 : (e0 + 256 * e1 + 65536 * e2 + 16777216 * e3 + 4294967296 * e4 + 1099511627776 * e5 + 281474976710656 * e6 + 72057594037927936 * e7 + (e1 + 256 * e2 + 65536 * e3 + 16777216 * e4 + 4294967296 * e5 + 1099511627776 * e6 + 281474976710656 * e7) + ((e2 + e3) + 256 * (e3 + e4) + 65536 * (e4 + e5) + 16777216 * (e5 + e6) + 4294967296 * (e6 + e7) + 1099511627776 * e7)) / 4294967296 = (e4 + e5 + e6 + e7) + 256 * (e5 + e6 + e7) + 65536 * (e6 + e7) + 16777216 * e7 := by omega
  rw [q3]
  omega
