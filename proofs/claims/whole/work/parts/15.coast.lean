section ZNUL
variable {d : ZD} {kc ks : Nat} {R : Option Value → ZW → Prop} {pc pc' : Nat} {ls : List (Option Value)} {st : List Value} {ω : ZW}
theorem Z_ifnullR {off : Int} {tgt a : Nat} (hd : decode d.2.1 pc = .ok (.ifnull off, 3)) (ht : (pc : Int) + off = (tgt : Int)) (hp : pc + 3 = pc') (k : Z d kc ks R pc' ls st ω) : Z d kc ks R pc ls (.ref a :: st) ω := Z_ifnull (r := some a) hd ht hp (fun h => by cases h) (fun _ _ => k)
theorem Z_ifnullN {off : Int} {tgt : Nat} (hd : decode d.2.1 pc = .ok (.ifnull off, 3)) (ht : (pc : Int) + off = (tgt : Int)) (hp : pc + 3 = pc') (k : Z d kc ks R tgt ls st ω) : Z d kc ks R pc ls (.null :: st) ω := Z_ifnull (r := none) hd ht hp (fun _ => k) (fun _ h => by cases h)
theorem Z_ifnonnullR {off : Int} {tgt a : Nat} (hd : decode d.2.1 pc = .ok (.ifnonnull off, 3)) (ht : (pc : Int) + off = (tgt : Int)) (hp : pc + 3 = pc') (k : Z d kc ks R tgt ls st ω) : Z d kc ks R pc ls (.ref a :: st) ω := Z_ifnonnull (r := some a) hd ht hp (fun _ _ => k) (fun h => by cases h)
theorem Z_ifnonnullN {off : Int} {tgt : Nat} (hd : decode d.2.1 pc = .ok (.ifnonnull off, 3)) (ht : (pc : Int) + off = (tgt : Int)) (hp : pc + 3 = pc') (k : Z d kc ks R pc' ls st ω) : Z d kc ks R pc ls (.null :: st) ω := Z_ifnonnull (r := none) hd ht hp (fun _ h => by cases h) (fun _ => k)
end ZNUL
/-! ===== the coast as a value: numbers by kind and place, and x, y ===== -/
abbrev Co : Type := (Nat → Nat → Nat) × (Nat → Nat → Int32)
def cns (c : Co) : Nat := c.1 0 0
def cny (c : Co) : Nat := c.1 0 1
def cnr (c : Co) : Nat := c.1 0 2
def ctd (c : Co) : Nat := c.1 0 3
def ckd (c : Co) (k : Nat) : Nat := c.1 1 k
def cfg (c : Co) (k : Nat) : Nat := c.1 2 k
def cfs (c : Co) (k : Nat) : Nat := c.1 3 k
def cln (c : Co) (k : Nat) : Nat := c.1 4 k
def cso (c : Co) (p : Nat) : Nat := c.1 5 p
def crx (c : Co) (k : Nat) : Nat := c.1 6 k
def cry (c : Co) (k : Nat) : Nat := c.1 7 k
def clw (c : Co) (k : Nat) : Nat := c.1 8 k
def chg (c : Co) (k : Nat) : Nat := c.1 9 k
def cxs (c : Co) (p : Nat) : Int32 := c.2 0 p
def cys (c : Co) (p : Nat) : Int32 := c.2 1 p
/-- what holds of any coast -/
def Cok (c : Co) : Prop := cns c ≤ 8 ∧ cny c ≤ 48 ∧ cnr c ≤ 6 ∧ ctd c ≤ 9 ∧
  (∀ k, k < cns c → ckd c k ≤ 5 ∧ cfg c k ≤ 9 ∧ 1 ≤ cfs c k ∧ 1 ≤ cln c k ∧ cln c k ≤ 9 ∧ cfs c k + cln c k ≤ cny c + 1) ∧
  (∀ p, 1 ≤ p → p ≤ cny c → cso c p < cns c) ∧
  (∀ k, k < cns c → ∀ p, 1 ≤ p → p ≤ cny c → ((cfs c k ≤ p ∧ p < cfs c k + cln c k) ↔ cso c p = k)) ∧
  (∀ k, k < cnr c → crx c k ≤ 99 ∧ cry c k ≤ 99 ∧ clw c k ≤ chg c k ∧ chg c k ≤ 9)
/-- the rocks as the class has them, at q -/
def rV (S : ZS) (n q : Nat) (c : Co) : Prop := S.1 q 1 = nI (cnr c) ∧ ∀ k, k < cnr c → ∃ j, j < n ∧ S.2.1 (q + 1) k = some (48 + j) ∧ S.2.2 j = (6, [nI (crx c k), nI (cry c k), nI (clw c k), nI (chg c k)])
/-- the coast as the class has it, at b -/
def cV (S : ZS) (n b : Nat) (c : Co) : Prop := S.1 b 1 = nI (cns c) ∧ S.1 b 4 = nI (cny c) ∧ S.1 b 6 = nI (ctd c) ∧ rV S n (b + 4) c ∧
  (∀ k, k < cns c → ∃ j, j < n ∧ S.2.1 (b + 1) k = some (48 + j) ∧ S.2.2 j = (zcl (ckd c k), [nI (cfg c k), nI (cfs c k), nI (cln c k)])) ∧
  (∀ p, p ≤ cny c → S.1 (b + 2) p = cxs c p ∧ S.1 (b + 3) p = cys c p)
theorem cV.cnt {S : ZS} {n b : Nat} {c : Co} (h : cV S n b c) : S.1 b 1 = nI (cns c) := h.1
theorem cV.yd {S : ZS} {n b : Nat} {c : Co} (h : cV S n b c) : S.1 b 4 = nI (cny c) := h.2.1
theorem cV.td {S : ZS} {n b : Nat} {c : Co} (h : cV S n b c) : S.1 b 6 = nI (ctd c) := h.2.2.1
theorem cV.rk {S : ZS} {n b : Nat} {c : Co} (h : cV S n b c) : rV S n (b + 4) c := h.2.2.2.1
theorem cV.st {S : ZS} {n b : Nat} {c : Co} (h : cV S n b c) (ok : Cok c) (k : Nat) (hk : k < 8) : (k < cns c ∧ ∃ j, j < n ∧ S.2.2 j = (zcl (ckd c k), [nI (cfg c k), nI (cfs c k), nI (cln c k)]) ∧ sI (S.2.1 (b + 1)) (S.1 b 1) 8 (nI k) = some (48 + j)) ∨ (cns c ≤ k ∧ sI (S.2.1 (b + 1)) (S.1 b 1) 8 (nI k) = none) := by
  have e : sI (S.2.1 (b + 1)) (S.1 b 1) 8 (nI k) = if k < cns c ∧ k < 8 then S.2.1 (b + 1) k else none := by
    rw [h.cnt, show (8 : Int32) = nI 8 from rfl, sI_nat _ (by have := ok.1; omega) (by decide) (by omega)]
  rcases Nat.lt_or_ge k (cns c) with q | q
  · obtain ⟨j, h1, h2, h3⟩ := h.2.2.2.2.1 k q
    exact Or.inl ⟨q, j, h1, h3, by rw [e, if_pos ⟨q, hk⟩, h2]⟩
  · exact Or.inr ⟨q, by rw [e, if_neg (by omega)]⟩
theorem cV.x {S : ZS} {n b : Nat} {c : Co} (h : cV S n b c) (ok : Cok c) {p : Nat} (hp : p ≤ cny c) : gI (S.1 (b + 2)) 49 0 (nI p) = cxs c p := by
  have := ok.2.1
  rw [show (49 : Int32) = nI 49 from rfl, gI_nat _ 0 (by decide) (by omega), (h.2.2.2.2.2 p hp).1]
theorem cV.y {S : ZS} {n b : Nat} {c : Co} (h : cV S n b c) (ok : Cok c) {p : Nat} (hp : p ≤ cny c) : gI (S.1 (b + 3)) 49 0 (nI p) = cys c p := by
  have := ok.2.1
  rw [show (49 : Int32) = nI 49 from rfl, gI_nat _ 0 (by decide) (by omega), (h.2.2.2.2.2 p hp).2]
/-- as the crow flies, a rod or more -/
def frS (c : Co) (r : Int32) (a p : Nat) : Bool := decide (r * r ≤ (cxs c a - cxs c p) * (cxs c a - cxs c p) + (cys c a - cys c p) * (cys c a - cys c p))
theorem cV.far {S : ZS} {n b : Nat} {c : Co} (h : cV S n b c) (ok : Cok c) {r : Int32} {a p : Nat} (ha : a ≤ cny c) (hp : p ≤ cny c) : fI (S.1 (b + 2)) (S.1 (b + 3)) r (nI a) (nI p) = frS c r a p := by
  unfold fI frS
  rw [h.x ok ha, h.x ok hp, h.y ok ha, h.y ok hp]
theorem rV.at {S : ZS} {n q : Nat} {c : Co} (h : rV S n q c) (ok : Cok c) (k : Nat) (hk : k < 6) : (k < cnr c ∧ ∃ j, j < n ∧ S.2.2 j = (6, [nI (crx c k), nI (cry c k), nI (clw c k), nI (chg c k)]) ∧ sI (S.2.1 (q + 1)) (S.1 q 1) 6 (nI k) = some (48 + j)) ∨ (cnr c ≤ k ∧ sI (S.2.1 (q + 1)) (S.1 q 1) 6 (nI k) = none) := by
  have e : sI (S.2.1 (q + 1)) (S.1 q 1) 6 (nI k) = if k < cnr c ∧ k < 6 then S.2.1 (q + 1) k else none := by
    rw [h.1, show (6 : Int32) = nI 6 from rfl, sI_nat _ (by have := ok.2.2.1; omega) (by decide) (by omega)]
  rcases Nat.lt_or_ge k (cnr c) with z | z
  · obtain ⟨j, h1, h2, h3⟩ := h.2 k z
    exact Or.inl ⟨z, j, h1, h3, by rw [e, if_pos ⟨z, hk⟩, h2]⟩
  · exact Or.inr ⟨z, by rw [e, if_neg (by omega)]⟩
section ZVIRT
variable {d : ZD} {kc ks : Nat} {R : Option Value → ZW → Prop} {pc pc' : Nat} {ls : List (Option Value)} {rest : List Value} {S : ZS} {n j kd fg a b : Nat}
theorem zv_RX11_66  (hd : decode d.2.1 pc = .ok (.invokevirtual 66, 3)) (ho : d.1.cls = RX11) (hf_X10_kind : zFit d m_X10_kind) (hf_X1_kind : zFit d m_X1_kind) (hf_X4_kind : zFit d m_X4_kind) (hf_X5_kind : zFit d m_X5_kind) (hf_X8_kind : zFit d m_X8_kind) (hf_X9_kind : zFit d m_X9_kind) (hrest : zrest rest ≤ 8) (hkd : kd ≤ 5) (hfg : fg < 2147483648) (hj : j < n) (hP : S.2.2 j = (zcl kd, [nI fg, nI b, nI a])) (hp : pc + 3 = pc') (k : Z d kc ks R pc' ls (.int (nI kd) :: rest) (zw S n)) : Z d kc ks R pc ls (.ref (48 + j) :: rest) (zw S n) := by
  obtain rfl | rfl | rfl | rfl | rfl | rfl : kd = 0 ∨ kd = 1 ∨ kd = 2 ∨ kd = 3 ∨ kd = 4 ∨ kd = 5 := by omega
  · exact Z_cOe hd ho zcw_X9_kind (As := []) (rest := rest) rfl hf_X9_kind hrest (zRcv.made hj hP (r := (RX9, TX9, 3)) rfl) ⟨zcw_X9_kind.2.2.2.2, Nat.le_of_ble_eq_true rfl⟩ zk_RX11_66_9 c_X9_kind hp k
  · exact Z_cOe hd ho zcw_X8_kind (As := []) (rest := rest) rfl hf_X8_kind hrest (zRcv.made hj hP (r := (RX8, TX8, 3)) rfl) ⟨zcw_X8_kind.2.2.2.2, Nat.le_of_ble_eq_true rfl⟩ zk_RX11_66_8 c_X8_kind hp k
  · exact Z_cOe hd ho zcw_X5_kind (As := []) (rest := rest) rfl hf_X5_kind hrest (zRcv.made hj hP (r := (RX5, TX5, 3)) rfl) ⟨zcw_X5_kind.2.2.2.2, Nat.le_of_ble_eq_true rfl⟩ zk_RX11_66_5 c_X5_kind hp k
  · exact Z_cOe hd ho zcw_X1_kind (As := []) (rest := rest) rfl hf_X1_kind hrest (zRcv.made hj hP (r := (RX1, TX1, 3)) rfl) ⟨zcw_X1_kind.2.2.2.2, Nat.le_of_ble_eq_true rfl⟩ zk_RX11_66_1 c_X1_kind hp k
  · exact Z_cOe hd ho zcw_X4_kind (As := []) (rest := rest) rfl hf_X4_kind hrest (zRcv.made hj hP (r := (RX4, TX4, 3)) rfl) ⟨zcw_X4_kind.2.2.2.2, Nat.le_of_ble_eq_true rfl⟩ zk_RX11_66_4 c_X4_kind hp k
  · exact Z_cOe hd ho zcw_X10_kind (As := []) (rest := rest) rfl hf_X10_kind hrest (zRcv.made hj hP (r := (RX10, TX10, 3)) rfl) ⟨zcw_X10_kind.2.2.2.2, Nat.le_of_ble_eq_true rfl⟩ zk_RX11_66_10 c_X10_kind hp k
theorem zv_RX11_83 {t : Nat} (ht : t < 2147483648) (hd : decode d.2.1 pc = .ok (.invokevirtual 83, 3)) (ho : d.1.cls = RX11) (hf_X10_isDry : zFit d m_X10_isDry) (hf_X4_isDry : zFit d m_X4_isDry) (hf_X5_isDry : zFit d m_X5_isDry) (hf_X8_isDry : zFit d m_X8_isDry) (hf_X9_isDry : zFit d m_X9_isDry) (hrest : zrest rest ≤ 8) (hkd : kd ≤ 5) (hfg : fg < 2147483648) (hj : j < n) (hP : S.2.2 j = (zcl kd, [nI fg, nI b, nI a])) (hp : pc + 3 = pc') (k : Z d kc ks R pc' ls (.int (zb (dryN kd fg t)) :: rest) (zw S n)) : Z d kc ks R pc ls (.int (nI t) :: .ref (48 + j) :: rest) (zw S n) := by
  obtain rfl | rfl | rfl | rfl | rfl | rfl : kd = 0 ∨ kd = 1 ∨ kd = 2 ∨ kd = 3 ∨ kd = 4 ∨ kd = 5 := by omega
  · exact Z_cOe hd ho zcw_X9_isDry (As := [.int (nI t)]) (rest := rest) rfl hf_X9_isDry hrest (zRcv.made hj hP (r := (RX9, TX9, 3)) rfl) ⟨zcw_X9_isDry.2.2.2.2, Nat.le_of_ble_eq_true rfl⟩ zk_RX11_83_9 c_X9_isDry hp k
  · exact Z_cOe hd ho zcw_X8_isDry (As := [.int (nI t)]) (rest := rest) rfl hf_X8_isDry hrest (zRcv.made hj hP (r := (RX8, TX8, 3)) rfl) ⟨zcw_X8_isDry.2.2.2.2, Nat.le_of_ble_eq_true rfl⟩ zk_RX11_83_8 (c_X8_isDry_8 hfg hj hP ht) hp k
  · exact Z_cOe hd ho zcw_X5_isDry (As := [.int (nI t)]) (rest := rest) rfl hf_X5_isDry hrest (zRcv.made hj hP (r := (RX5, TX5, 3)) rfl) ⟨zcw_X5_isDry.2.2.2.2, Nat.le_of_ble_eq_true rfl⟩ zk_RX11_83_5 c_X5_isDry hp k
  · exact Z_cOe hd ho zcw_X9_isDry (As := [.int (nI t)]) (rest := rest) rfl hf_X9_isDry hrest (zRcv.made hj hP (r := (RX1, TX1, 3)) rfl) ⟨zcw_X9_isDry.2.2.2.2, Nat.le_of_ble_eq_true rfl⟩ zk_RX11_83_1 c_X9_isDry hp k
  · exact Z_cOe hd ho zcw_X4_isDry (As := [.int (nI t)]) (rest := rest) rfl hf_X4_isDry hrest (zRcv.made hj hP (r := (RX4, TX4, 3)) rfl) ⟨zcw_X4_isDry.2.2.2.2, Nat.le_of_ble_eq_true rfl⟩ zk_RX11_83_4 (c_X4_isDry hfg hj hP ht) hp k
  · exact Z_cOe hd ho zcw_X10_isDry (As := [.int (nI t)]) (rest := rest) rfl hf_X10_isDry hrest (zRcv.made hj hP (r := (RX10, TX10, 3)) rfl) ⟨zcw_X10_isDry.2.2.2.2, Nat.le_of_ble_eq_true rfl⟩ zk_RX11_83_10 (c_X10_isDry hfg hj hP ht) hp k
theorem zv_RX11_86  (hd : decode d.2.1 pc = .ok (.invokevirtual 86, 3)) (ho : d.1.cls = RX11) (hf_X10_fee : zFit d m_X10_fee) (hf_X1_fee : zFit d m_X1_fee) (hf_X4_fee : zFit d m_X4_fee) (hf_X5_fee : zFit d m_X5_fee) (hf_X8_fee : zFit d m_X8_fee) (hf_X9_fee : zFit d m_X9_fee) (hrest : zrest rest ≤ 8) (hkd : kd ≤ 5) (hfg : fg < 2147483648) (hj : j < n) (hP : S.2.2 j = (zcl kd, [nI fg, nI b, nI a])) (hp : pc + 3 = pc') (k : Z d kc ks R pc' ls (.int (nI (feeN kd fg)) :: rest) (zw S n)) : Z d kc ks R pc ls (.ref (48 + j) :: rest) (zw S n) := by
  obtain rfl | rfl | rfl | rfl | rfl | rfl : kd = 0 ∨ kd = 1 ∨ kd = 2 ∨ kd = 3 ∨ kd = 4 ∨ kd = 5 := by omega
  · exact Z_cOe hd ho zcw_X9_fee (As := []) (rest := rest) rfl hf_X9_fee hrest (zRcv.made hj hP (r := (RX9, TX9, 3)) rfl) ⟨zcw_X9_fee.2.2.2.2, Nat.le_of_ble_eq_true rfl⟩ zk_RX11_86_9 c_X9_fee hp k
  · exact Z_cOe hd ho zcw_X8_fee (As := []) (rest := rest) rfl hf_X8_fee hrest (zRcv.made hj hP (r := (RX8, TX8, 3)) rfl) ⟨zcw_X8_fee.2.2.2.2, Nat.le_of_ble_eq_true rfl⟩ zk_RX11_86_8 (c_X8_fee_8 hfg hj hP) hp k
  · exact Z_cOe hd ho zcw_X5_fee (As := []) (rest := rest) rfl hf_X5_fee hrest (zRcv.made hj hP (r := (RX5, TX5, 3)) rfl) ⟨zcw_X5_fee.2.2.2.2, Nat.le_of_ble_eq_true rfl⟩ zk_RX11_86_5 c_X5_fee hp k
  · exact Z_cOe hd ho zcw_X1_fee (As := []) (rest := rest) rfl hf_X1_fee hrest (zRcv.made hj hP (r := (RX1, TX1, 3)) rfl) ⟨zcw_X1_fee.2.2.2.2, Nat.le_of_ble_eq_true rfl⟩ zk_RX11_86_1 (c_X1_fee_1 hfg hj hP) hp (by rw [show (1 : Int32) = nI 1 from rfl, nI_add]; exact k)
  · exact Z_cOe hd ho zcw_X4_fee (As := []) (rest := rest) rfl hf_X4_fee hrest (zRcv.made hj hP (r := (RX4, TX4, 3)) rfl) ⟨zcw_X4_fee.2.2.2.2, Nat.le_of_ble_eq_true rfl⟩ zk_RX11_86_4 (c_X4_fee hfg hj hP) hp k
  · exact Z_cOe hd ho zcw_X10_fee (As := []) (rest := rest) rfl hf_X10_fee hrest (zRcv.made hj hP (r := (RX10, TX10, 3)) rfl) ⟨zcw_X10_fee.2.2.2.2, Nat.le_of_ble_eq_true rfl⟩ zk_RX11_86_10 (c_X10_fee hfg hj hP) hp k
theorem zv_RX2_78 {t : Nat} (ht : t < 2147483648) (hd : decode d.2.1 pc = .ok (.invokevirtual 78, 3)) (ho : d.1.cls = RX2) (hf_X10_isDry : zFit d m_X10_isDry) (hf_X4_isDry : zFit d m_X4_isDry) (hf_X5_isDry : zFit d m_X5_isDry) (hf_X8_isDry : zFit d m_X8_isDry) (hf_X9_isDry : zFit d m_X9_isDry) (hrest : zrest rest ≤ 8) (hkd : kd ≤ 5) (hfg : fg < 2147483648) (hj : j < n) (hP : S.2.2 j = (zcl kd, [nI fg, nI b, nI a])) (hp : pc + 3 = pc') (k : Z d kc ks R pc' ls (.int (zb (dryN kd fg t)) :: rest) (zw S n)) : Z d kc ks R pc ls (.int (nI t) :: .ref (48 + j) :: rest) (zw S n) := by
  obtain rfl | rfl | rfl | rfl | rfl | rfl : kd = 0 ∨ kd = 1 ∨ kd = 2 ∨ kd = 3 ∨ kd = 4 ∨ kd = 5 := by omega
  · exact Z_cOe hd ho zcw_X9_isDry (As := [.int (nI t)]) (rest := rest) rfl hf_X9_isDry hrest (zRcv.made hj hP (r := (RX9, TX9, 3)) rfl) ⟨zcw_X9_isDry.2.2.2.2, Nat.le_of_ble_eq_true rfl⟩ zk_RX2_78_9 c_X9_isDry hp k
  · exact Z_cOe hd ho zcw_X8_isDry (As := [.int (nI t)]) (rest := rest) rfl hf_X8_isDry hrest (zRcv.made hj hP (r := (RX8, TX8, 3)) rfl) ⟨zcw_X8_isDry.2.2.2.2, Nat.le_of_ble_eq_true rfl⟩ zk_RX2_78_8 (c_X8_isDry_8 hfg hj hP ht) hp k
  · exact Z_cOe hd ho zcw_X5_isDry (As := [.int (nI t)]) (rest := rest) rfl hf_X5_isDry hrest (zRcv.made hj hP (r := (RX5, TX5, 3)) rfl) ⟨zcw_X5_isDry.2.2.2.2, Nat.le_of_ble_eq_true rfl⟩ zk_RX2_78_5 c_X5_isDry hp k
  · exact Z_cOe hd ho zcw_X9_isDry (As := [.int (nI t)]) (rest := rest) rfl hf_X9_isDry hrest (zRcv.made hj hP (r := (RX1, TX1, 3)) rfl) ⟨zcw_X9_isDry.2.2.2.2, Nat.le_of_ble_eq_true rfl⟩ zk_RX2_78_1 c_X9_isDry hp k
  · exact Z_cOe hd ho zcw_X4_isDry (As := [.int (nI t)]) (rest := rest) rfl hf_X4_isDry hrest (zRcv.made hj hP (r := (RX4, TX4, 3)) rfl) ⟨zcw_X4_isDry.2.2.2.2, Nat.le_of_ble_eq_true rfl⟩ zk_RX2_78_4 (c_X4_isDry hfg hj hP ht) hp k
  · exact Z_cOe hd ho zcw_X10_isDry (As := [.int (nI t)]) (rest := rest) rfl hf_X10_isDry hrest (zRcv.made hj hP (r := (RX10, TX10, 3)) rfl) ⟨zcw_X10_isDry.2.2.2.2, Nat.le_of_ble_eq_true rfl⟩ zk_RX2_78_10 (c_X10_isDry hfg hj hP ht) hp k
theorem zv_RX2_82 (hb1 : b < 50) (ha1 : a < 10) (hd : decode d.2.1 pc = .ok (.invokevirtual 82, 3)) (ho : d.1.cls = RX2) (hf_X9_places : zFit d m_X9_places) (hrest : zrest rest ≤ 8) (hkd : kd ≤ 5) (hfg : fg < 2147483648) (hj : j < n) (hP : S.2.2 j = (zcl kd, [nI fg, nI b, nI a])) (hp : pc + 3 = pc') (k : Z d kc ks R pc' ls (.long (zmk (plF a b)) :: rest) (zw S n)) : Z d kc ks R pc ls (.ref (48 + j) :: rest) (zw S n) := by
  obtain rfl | rfl | rfl | rfl | rfl | rfl : kd = 0 ∨ kd = 1 ∨ kd = 2 ∨ kd = 3 ∨ kd = 4 ∨ kd = 5 := by omega
  · exact Z_cOe hd ho zcw_X9_places (As := []) (rest := rest) rfl hf_X9_places hrest (zRcv.made hj hP (r := (RX9, TX9, 3)) rfl) ⟨zcw_X9_places.2.2.2.2, Nat.le_of_ble_eq_true rfl⟩ zk_RX2_82_9 (c_X9_places_9 ha1 hb1 hj hP) hp k
  · exact Z_cOe hd ho zcw_X9_places (As := []) (rest := rest) rfl hf_X9_places hrest (zRcv.made hj hP (r := (RX8, TX8, 3)) rfl) ⟨zcw_X9_places.2.2.2.2, Nat.le_of_ble_eq_true rfl⟩ zk_RX2_82_8 (c_X9_places_8 ha1 hb1 hj hP) hp k
  · exact Z_cOe hd ho zcw_X9_places (As := []) (rest := rest) rfl hf_X9_places hrest (zRcv.made hj hP (r := (RX5, TX5, 3)) rfl) ⟨zcw_X9_places.2.2.2.2, Nat.le_of_ble_eq_true rfl⟩ zk_RX2_82_5 (c_X9_places_5 ha1 hb1 hj hP) hp k
  · exact Z_cOe hd ho zcw_X9_places (As := []) (rest := rest) rfl hf_X9_places hrest (zRcv.made hj hP (r := (RX1, TX1, 3)) rfl) ⟨zcw_X9_places.2.2.2.2, Nat.le_of_ble_eq_true rfl⟩ zk_RX2_82_1 (c_X9_places_1 ha1 hb1 hj hP) hp k
  · exact Z_cOe hd ho zcw_X9_places (As := []) (rest := rest) rfl hf_X9_places hrest (zRcv.made hj hP (r := (RX4, TX4, 3)) rfl) ⟨zcw_X9_places.2.2.2.2, Nat.le_of_ble_eq_true rfl⟩ zk_RX2_82_4 (c_X9_places_4 ha1 hb1 hj hP) hp k
  · exact Z_cOe hd ho zcw_X9_places (As := []) (rest := rest) rfl hf_X9_places hrest (zRcv.made hj hP (r := (RX10, TX10, 3)) rfl) ⟨zcw_X9_places.2.2.2.2, Nat.le_of_ble_eq_true rfl⟩ zk_RX2_82_10 (c_X9_places_10 ha1 hb1 hj hP) hp k
theorem zv_RX2_86  (hd : decode d.2.1 pc = .ok (.invokevirtual 86, 3)) (ho : d.1.cls = RX2) (hf_X10_fee : zFit d m_X10_fee) (hf_X1_fee : zFit d m_X1_fee) (hf_X4_fee : zFit d m_X4_fee) (hf_X5_fee : zFit d m_X5_fee) (hf_X8_fee : zFit d m_X8_fee) (hf_X9_fee : zFit d m_X9_fee) (hrest : zrest rest ≤ 8) (hkd : kd ≤ 5) (hfg : fg < 2147483648) (hj : j < n) (hP : S.2.2 j = (zcl kd, [nI fg, nI b, nI a])) (hp : pc + 3 = pc') (k : Z d kc ks R pc' ls (.int (nI (feeN kd fg)) :: rest) (zw S n)) : Z d kc ks R pc ls (.ref (48 + j) :: rest) (zw S n) := by
  obtain rfl | rfl | rfl | rfl | rfl | rfl : kd = 0 ∨ kd = 1 ∨ kd = 2 ∨ kd = 3 ∨ kd = 4 ∨ kd = 5 := by omega
  · exact Z_cOe hd ho zcw_X9_fee (As := []) (rest := rest) rfl hf_X9_fee hrest (zRcv.made hj hP (r := (RX9, TX9, 3)) rfl) ⟨zcw_X9_fee.2.2.2.2, Nat.le_of_ble_eq_true rfl⟩ zk_RX2_86_9 c_X9_fee hp k
  · exact Z_cOe hd ho zcw_X8_fee (As := []) (rest := rest) rfl hf_X8_fee hrest (zRcv.made hj hP (r := (RX8, TX8, 3)) rfl) ⟨zcw_X8_fee.2.2.2.2, Nat.le_of_ble_eq_true rfl⟩ zk_RX2_86_8 (c_X8_fee_8 hfg hj hP) hp k
  · exact Z_cOe hd ho zcw_X5_fee (As := []) (rest := rest) rfl hf_X5_fee hrest (zRcv.made hj hP (r := (RX5, TX5, 3)) rfl) ⟨zcw_X5_fee.2.2.2.2, Nat.le_of_ble_eq_true rfl⟩ zk_RX2_86_5 c_X5_fee hp k
  · exact Z_cOe hd ho zcw_X1_fee (As := []) (rest := rest) rfl hf_X1_fee hrest (zRcv.made hj hP (r := (RX1, TX1, 3)) rfl) ⟨zcw_X1_fee.2.2.2.2, Nat.le_of_ble_eq_true rfl⟩ zk_RX2_86_1 (c_X1_fee_1 hfg hj hP) hp (by rw [show (1 : Int32) = nI 1 from rfl, nI_add]; exact k)
  · exact Z_cOe hd ho zcw_X4_fee (As := []) (rest := rest) rfl hf_X4_fee hrest (zRcv.made hj hP (r := (RX4, TX4, 3)) rfl) ⟨zcw_X4_fee.2.2.2.2, Nat.le_of_ble_eq_true rfl⟩ zk_RX2_86_4 (c_X4_fee hfg hj hP) hp k
  · exact Z_cOe hd ho zcw_X10_fee (As := []) (rest := rest) rfl hf_X10_fee hrest (zRcv.made hj hP (r := (RX10, TX10, 3)) rfl) ⟨zcw_X10_fee.2.2.2.2, Nat.le_of_ble_eq_true rfl⟩ zk_RX2_86_10 (c_X10_fee hfg hj hP) hp k
end ZVIRT
def dryS (c : Co) (t k : Nat) : Bool := dryN (ckd c k) (cfg c k) t
def feeS (c : Co) (k : Nat) : Nat := feeN (ckd c k) (cfg c k)
def inS (c : Co) (k p : Nat) : Bool := plF (cln c k) (cfs c k) p
/-- on shore by the first i stretches -/
def shF (c : Co) (t : Nat) : Nat → Nat → Bool
  | 0, p => decide (p = 0)
  | i + 1, p => shF c t i p || (decide (i < cns c) && (dryS c t i && inS c i p))
theorem nI8 : (8 : Int32) = nI 8 := rfl
set_option maxRecDepth 100000 in
set_option maxHeartbeats 4000000 in
theorem lp_X2_shoreAt {S : ZS} {n b t : Nat} {c : Co} (hb : cB b) (hV : cV S n b c) (ok : Cok c) (ht : t < 2147483648) {R : Option Value → ZW → Prop} (hR : R (some (.long (zmk (shF c t 8)))) (zw S n)) : ∀ (m i : Nat), i + m = 8 → Z m_X2_shoreAt 0 0 R 5 [some (.ref b), some (.int (nI t)), some (.long (zmk (shF c t i))), none, some (.int (nI i))] [] (zw S n) := by
  intro m
  induction m with
  | zero =>
    intro i h
    obtain rfl : i = 8 := by omega
    refine Z_iload dX2_shoreAt_5 rfl (pc' := 7) rfl ?_
    refine Z_bipush dX2_shoreAt_7 (v := 8) (by decide) (pc' := 9) rfl ?_
    refine Z_icmp_ge dX2_shoreAt_9 (tgt := 48) rfl (pc' := 12) rfl (fun c_9 => ?_) (fun c_9 => absurd c_9 (fun c => c (by decide)))
    refine Z_lload_n dX2_shoreAt_48 rfl (pc' := 49) rfl ?_
    exact Z_lreturn dX2_shoreAt_49 rfl hR
  | succ m ih =>
    intro i h
    refine Z_iload dX2_shoreAt_5 rfl (pc' := 7) rfl ?_
    refine Z_bipush dX2_shoreAt_7 (v := 8) (by decide) (pc' := 9) rfl ?_
    refine Z_icmp_ge dX2_shoreAt_9 (tgt := 48) rfl (pc' := 12) rfl (fun c_9 => absurd c_9 (by rw [nI8, nI_len (by omega) (by omega)]; omega)) (fun c_9 => ?_)
    refine Z_aload_n dX2_shoreAt_12 rfl (z_isref _) (pc' := 13) rfl ?_
    refine Z_iload dX2_shoreAt_13 rfl (pc' := 15) rfl ?_
    refine Z_cVe dX2_shoreAt_15 rfl zcw_X2_stretchAt (As := [_]) (rest := []) rfl ⟨Nat.le_of_ble_eq_true rfl, Nat.le_of_ble_eq_true rfl⟩ (Nat.le_of_ble_eq_true rfl) (zRcv.lay (zob_b_0 hb)) ⟨zcw_X2_stretchAt.2.2.2.2, Nat.le_of_ble_eq_true rfl⟩ zk_RX2_35 (c_X2_stretchAt hb) (pc' := 18) rfl ?_
    rcases hV.st ok i (by omega) with ⟨hlt, j, hj, hP, e⟩ | ⟨hge, e⟩
    · rw [e]
      show Z _ _ _ _ _ _ (.ref (48 + j) :: _) _
      refine Z_astore dX2_shoreAt_18 (Nat.le_of_ble_eq_true rfl) (Nat.le_of_ble_eq_true rfl) rfl (ls' := [_, _, _, _, _, _]) rfl (z_isref _) (pc' := 20) rfl ?_
      refine Z_aload dX2_shoreAt_20 rfl (z_isref _) (pc' := 22) rfl ?_
      refine Z_ifnullR dX2_shoreAt_22 (tgt := 42) rfl (pc' := 25) rfl ?_
      obtain ⟨hkd, hfg, hfs, hl1, hl9, hfl⟩ := ok.2.2.2.2.1 _ hlt
      refine Z_aload dX2_shoreAt_25 rfl (z_isref _) (pc' := 27) rfl ?_
      refine Z_iload_n dX2_shoreAt_27 rfl (pc' := 28) rfl ?_
      refine zv_RX2_78 (ht := ht) dX2_shoreAt_28 rfl ⟨Nat.le_of_ble_eq_true rfl, Nat.le_of_ble_eq_true rfl⟩ ⟨Nat.le_of_ble_eq_true rfl, Nat.le_of_ble_eq_true rfl⟩ ⟨Nat.le_of_ble_eq_true rfl, Nat.le_of_ble_eq_true rfl⟩ ⟨Nat.le_of_ble_eq_true rfl, Nat.le_of_ble_eq_true rfl⟩ ⟨Nat.le_of_ble_eq_true rfl, Nat.le_of_ble_eq_true rfl⟩ (Nat.le_of_ble_eq_true rfl) hkd (by omega) hj hP (pc' := 31) rfl ?_
      refine Z_if_eq dX2_shoreAt_31 (tgt := 42) rfl (pc' := 34) rfl (fun c_31 => ?_) (fun c_31 => ?_)
      · refine Z_iinc dX2_shoreAt_42 rfl (nI_inc i) (Nat.le_of_ble_eq_true rfl) rfl (ls' := [_, _, _, _, _, _]) rfl (pc' := 45) rfl ?_
        refine Z_goto dX2_shoreAt_45 (tgt := 5) rfl ?_
        refine Z_take 5 (ls' := [_, _, _, _, _]) rfl ?_
        rw [show shF c t i = shF c t (i + 1) from funext fun p => by simp only [shF, dryS, decide_eq_true hlt, (zb_eq0 _).mp c_31, Bool.true_and, Bool.false_and, Bool.or_false]]
        exact ih (i + 1) (by omega)
      · refine Z_lload_n dX2_shoreAt_34 rfl (pc' := 35) rfl ?_
        refine Z_aload dX2_shoreAt_35 rfl (z_isref _) (pc' := 37) rfl ?_
        refine zv_RX2_82 (hb1 := by have := ok.2.1; omega) (ha1 := by omega) dX2_shoreAt_37 rfl ⟨Nat.le_of_ble_eq_true rfl, Nat.le_of_ble_eq_true rfl⟩ (Nat.le_of_ble_eq_true rfl) hkd (by omega) hj hP (pc' := 40) rfl ?_
        refine Z_lor dX2_shoreAt_40 (pc' := 41) rfl ?_
        rw [zmk_or]
        refine Z_lstore_n dX2_shoreAt_41 (Nat.le_of_ble_eq_true rfl) (Nat.le_of_ble_eq_true rfl) rfl (ls' := [_, _, _, _, _, _]) rfl (pc' := 42) rfl ?_
        refine Z_iinc dX2_shoreAt_42 rfl (nI_inc i) (Nat.le_of_ble_eq_true rfl) rfl (ls' := [_, _, _, _, _, _]) rfl (pc' := 45) rfl ?_
        refine Z_goto dX2_shoreAt_45 (tgt := 5) rfl ?_
        refine Z_take 5 (ls' := [_, _, _, _, _]) rfl ?_
        rw [show (fun k => shF c t i k || plF (cln c i) (cfs c i) k) = shF c t (i + 1) from funext fun p => by simp only [shF, dryS, inS, decide_eq_true hlt, (zb_ne0 _).mp c_31, Bool.true_and]]
        exact ih (i + 1) (by omega)
    · rw [e]
      show Z _ _ _ _ _ _ (.null :: _) _
      refine Z_astore dX2_shoreAt_18 (Nat.le_of_ble_eq_true rfl) (Nat.le_of_ble_eq_true rfl) rfl (ls' := [_, _, _, _, _, _]) rfl (Or.inl rfl) (pc' := 20) rfl ?_
      refine Z_aload dX2_shoreAt_20 rfl (Or.inl rfl) (pc' := 22) rfl ?_
      refine Z_ifnullN dX2_shoreAt_22 (tgt := 42) rfl (pc' := 25) rfl ?_
      refine Z_iinc dX2_shoreAt_42 rfl (nI_inc i) (Nat.le_of_ble_eq_true rfl) rfl (ls' := [_, _, _, _, _, _]) rfl (pc' := 45) rfl ?_
      refine Z_goto dX2_shoreAt_45 (tgt := 5) rfl ?_
      refine Z_take 5 (ls' := [_, _, _, _, _]) rfl ?_
      rw [show shF c t i = shF c t (i + 1) from funext fun p => by simp only [shF, decide_eq_false (Nat.not_lt.mpr hge), Bool.false_and, Bool.or_false]]
      exact ih (i + 1) (by omega)
set_option maxRecDepth 100000 in
set_option maxHeartbeats 4000000 in
theorem c_X2_shoreAt {S : ZS} {n b t : Nat} {c : Co} (hb : cB b) (hV : cV S n b c) (ok : Cok c) (ht : t < 2147483648) : zM m_X2_shoreAt 0 0 [.ref b, .int (nI t)] (zw S n) (zE (some (.long (zmk (shF c t 8)))) (zw S n)) := by
  show Z m_X2_shoreAt _ _ _ 0 [some (.ref _), some (.int _)] [] _
  refine Z_lconst dX2_shoreAt_0 (v := 1) (by decide) (pc' := 1) rfl ?_
  refine Z_lstore_n dX2_shoreAt_1 (Nat.le_of_ble_eq_true rfl) (Nat.le_of_ble_eq_true rfl) rfl (ls' := [_, _, _, _]) rfl (pc' := 2) rfl ?_
  refine Z_iconst dX2_shoreAt_2 (v := 0) (by decide) (pc' := 3) rfl ?_
  refine Z_istore dX2_shoreAt_3 (Nat.le_of_ble_eq_true rfl) (Nat.le_of_ble_eq_true rfl) rfl (ls' := [_, _, _, _, _]) rfl (pc' := 5) rfl ?_
  rw [show (1 : Int64) = zmk (shF c t 0) from zmk_1]
  exact lp_X2_shoreAt hb hV ok ht ⟨rfl, rfl⟩ 8 0 rfl
set_option maxRecDepth 100000 in
set_option maxHeartbeats 4000000 in
theorem c_X2_shoreNow {S : ZS} {n b : Nat} {c : Co} (hb : cB b) (hV : cV S n b c) (ok : Cok c) : zM m_X2_shoreNow 0 0 [.ref b] (zw S n) (zE (some (.long (zmk (shF c (ctd c) 8)))) (zw S n)) := by
  show Z m_X2_shoreNow _ _ _ 0 [some (.ref _)] [] _
  refine Z_aload_n dX2_shoreNow_0 rfl (z_isref _) (pc' := 1) rfl ?_
  refine Z_aload_n dX2_shoreNow_1 rfl (z_isref _) (pc' := 2) rfl ?_
  refine Z_gI dX2_shoreNow_2 rfl (zgi_RX2_53_b_0 hb) (pc' := 5) rfl ?_
  rw [hV.td]
  refine Z_cVe dX2_shoreNow_5 rfl zcw_X2_shoreAt (As := [_]) (rest := []) rfl ⟨Nat.le_of_ble_eq_true rfl, Nat.le_of_ble_eq_true rfl⟩ (Nat.le_of_ble_eq_true rfl) (zRcv.lay (zob_b_0 hb)) ⟨zcw_X2_shoreAt.2.2.2.2, Nat.le_of_ble_eq_true rfl⟩ zk_RX2_74 (c_X2_shoreAt hb hV ok (by have := ok.2.2.2.1; omega)) (pc' := 8) rfl ?_
  exact Z_lreturn dX2_shoreNow_8 rfl ⟨rfl, rfl⟩
def faF (c : Co) : Nat → Nat
  | 0 => 0
  | i + 1 => faF c i + (if i < cns c then feeS c i else 0)
set_option maxRecDepth 100000 in
set_option maxHeartbeats 4000000 in
theorem lp_X2_feesOfStretches {S : ZS} {n b : Nat} {c : Co} (hb : cB b) (hV : cV S n b c) (ok : Cok c) {R : Option Value → ZW → Prop} (hR : R (some (.int (nI (faF c 8)))) (zw S n)) : ∀ (m i : Nat), i + m = 8 → Z m_X2_feesOfStretches 0 0 R 4 [some (.ref b), some (.int (nI (faF c i))), some (.int (nI i))] [] (zw S n) := by
  intro m
  induction m with
  | zero =>
    intro i h
    obtain rfl : i = 8 := by omega
    refine Z_iload_n dX2_feesOfStretches_4 rfl (pc' := 5) rfl ?_
    refine Z_bipush dX2_feesOfStretches_5 (v := 8) (by decide) (pc' := 7) rfl ?_
    refine Z_icmp_ge dX2_feesOfStretches_7 (tgt := 37) rfl (pc' := 10) rfl (fun c_7 => ?_) (fun c_7 => absurd c_7 (fun c => c (by decide)))
    refine Z_iload_n dX2_feesOfStretches_37 rfl (pc' := 38) rfl ?_
    exact Z_ireturn dX2_feesOfStretches_38 rfl rfl hR
  | succ m ih =>
    intro i h
    refine Z_iload_n dX2_feesOfStretches_4 rfl (pc' := 5) rfl ?_
    refine Z_bipush dX2_feesOfStretches_5 (v := 8) (by decide) (pc' := 7) rfl ?_
    refine Z_icmp_ge dX2_feesOfStretches_7 (tgt := 37) rfl (pc' := 10) rfl (fun c_7 => absurd c_7 (by rw [nI8, nI_len (by omega) (by omega)]; omega)) (fun c_7 => ?_)
    refine Z_aload_n dX2_feesOfStretches_10 rfl (z_isref _) (pc' := 11) rfl ?_
    refine Z_iload_n dX2_feesOfStretches_11 rfl (pc' := 12) rfl ?_
    refine Z_cVe dX2_feesOfStretches_12 rfl zcw_X2_stretchAt (As := [_]) (rest := []) rfl ⟨Nat.le_of_ble_eq_true rfl, Nat.le_of_ble_eq_true rfl⟩ (Nat.le_of_ble_eq_true rfl) (zRcv.lay (zob_b_0 hb)) ⟨zcw_X2_stretchAt.2.2.2.2, Nat.le_of_ble_eq_true rfl⟩ zk_RX2_35 (c_X2_stretchAt hb) (pc' := 15) rfl ?_
    rcases hV.st ok i (by omega) with ⟨hlt, j, hj, hP, e⟩ | ⟨hge, e⟩
    · rw [e]
      show Z _ _ _ _ _ _ (.ref (48 + j) :: _) _
      refine Z_astore_n dX2_feesOfStretches_15 (Nat.le_of_ble_eq_true rfl) (Nat.le_of_ble_eq_true rfl) rfl (ls' := [_, _, _, _]) rfl (z_isref _) (pc' := 16) rfl ?_
      refine Z_iload_n dX2_feesOfStretches_16 rfl (pc' := 17) rfl ?_
      refine Z_aload_n dX2_feesOfStretches_17 rfl (z_isref _) (pc' := 18) rfl ?_
      refine Z_ifnonnullR dX2_feesOfStretches_18 (tgt := 25) rfl (pc' := 21) rfl ?_
      obtain ⟨hkd, hfg, hfs, hl1, hl9, hfl⟩ := ok.2.2.2.2.1 _ hlt
      refine Z_aload_n dX2_feesOfStretches_25 rfl (z_isref _) (pc' := 26) rfl ?_
      refine zv_RX2_86  dX2_feesOfStretches_26 rfl ⟨Nat.le_of_ble_eq_true rfl, Nat.le_of_ble_eq_true rfl⟩ ⟨Nat.le_of_ble_eq_true rfl, Nat.le_of_ble_eq_true rfl⟩ ⟨Nat.le_of_ble_eq_true rfl, Nat.le_of_ble_eq_true rfl⟩ ⟨Nat.le_of_ble_eq_true rfl, Nat.le_of_ble_eq_true rfl⟩ ⟨Nat.le_of_ble_eq_true rfl, Nat.le_of_ble_eq_true rfl⟩ ⟨Nat.le_of_ble_eq_true rfl, Nat.le_of_ble_eq_true rfl⟩ (Nat.le_of_ble_eq_true rfl) hkd (by omega) hj hP (pc' := 29) rfl ?_
      refine Z_iadd dX2_feesOfStretches_29 (pc' := 30) rfl ?_
      refine Z_istore_n dX2_feesOfStretches_30 (Nat.le_of_ble_eq_true rfl) (Nat.le_of_ble_eq_true rfl) rfl (ls' := [_, _, _, _]) rfl (pc' := 31) rfl ?_
      refine Z_iinc dX2_feesOfStretches_31 rfl (nI_inc i) (Nat.le_of_ble_eq_true rfl) rfl (ls' := [_, _, _, _]) rfl (pc' := 34) rfl ?_
      refine Z_goto dX2_feesOfStretches_34 (tgt := 4) rfl ?_
      refine Z_take 3 (ls' := [_, _, _]) rfl ?_
      have e2 : faF c (i + 1) = faF c i + (if i < cns c then feeS c i else 0) := rfl
      first | (rw [if_pos hlt] at e2; rw [nI_add, show faF c i + feeN (ckd c i) (cfg c i) = faF c (i + 1) from e2.symm]; exact ih (i + 1) (by omega)) | (rw [if_neg (Nat.not_lt.mpr hge)] at e2; rw [Int32.add_zero, show faF c i = faF c (i + 1) from e2.symm]; exact ih (i + 1) (by omega))
    · rw [e]
      show Z _ _ _ _ _ _ (.null :: _) _
      refine Z_astore_n dX2_feesOfStretches_15 (Nat.le_of_ble_eq_true rfl) (Nat.le_of_ble_eq_true rfl) rfl (ls' := [_, _, _, _]) rfl (Or.inl rfl) (pc' := 16) rfl ?_
      refine Z_iload_n dX2_feesOfStretches_16 rfl (pc' := 17) rfl ?_
      refine Z_aload_n dX2_feesOfStretches_17 rfl (Or.inl rfl) (pc' := 18) rfl ?_
      refine Z_ifnonnullN dX2_feesOfStretches_18 (tgt := 25) rfl (pc' := 21) rfl ?_
      refine Z_iconst dX2_feesOfStretches_21 (v := 0) (by decide) (pc' := 22) rfl ?_
      refine Z_goto dX2_feesOfStretches_22 (tgt := 29) rfl ?_
      refine Z_iadd dX2_feesOfStretches_29 (pc' := 30) rfl ?_
      refine Z_istore_n dX2_feesOfStretches_30 (Nat.le_of_ble_eq_true rfl) (Nat.le_of_ble_eq_true rfl) rfl (ls' := [_, _, _, _]) rfl (pc' := 31) rfl ?_
      refine Z_iinc dX2_feesOfStretches_31 rfl (nI_inc i) (Nat.le_of_ble_eq_true rfl) rfl (ls' := [_, _, _, _]) rfl (pc' := 34) rfl ?_
      refine Z_goto dX2_feesOfStretches_34 (tgt := 4) rfl ?_
      refine Z_take 3 (ls' := [_, _, _]) rfl ?_
      have e2 : faF c (i + 1) = faF c i + (if i < cns c then feeS c i else 0) := rfl
      first | (rw [if_pos hlt] at e2; rw [nI_add, show faF c i + feeN (ckd c i) (cfg c i) = faF c (i + 1) from e2.symm]; exact ih (i + 1) (by omega)) | (rw [if_neg (Nat.not_lt.mpr hge)] at e2; rw [Int32.add_zero, show faF c i = faF c (i + 1) from e2.symm]; exact ih (i + 1) (by omega))
set_option maxRecDepth 100000 in
set_option maxHeartbeats 4000000 in
theorem c_X2_feesOfStretches {S : ZS} {n b : Nat} {c : Co} (hb : cB b) (hV : cV S n b c) (ok : Cok c) : zM m_X2_feesOfStretches 0 0 [.ref b] (zw S n) (zE (some (.int (nI (faF c 8)))) (zw S n)) := by
  show Z m_X2_feesOfStretches _ _ _ 0 [some (.ref _)] [] _
  refine Z_iconst dX2_feesOfStretches_0 (v := 0) (by decide) (pc' := 1) rfl ?_
  refine Z_istore_n dX2_feesOfStretches_1 (Nat.le_of_ble_eq_true rfl) (Nat.le_of_ble_eq_true rfl) rfl (ls' := [_, _]) rfl (pc' := 2) rfl ?_
  refine Z_iconst dX2_feesOfStretches_2 (v := 0) (by decide) (pc' := 3) rfl ?_
  refine Z_istore_n dX2_feesOfStretches_3 (Nat.le_of_ble_eq_true rfl) (Nat.le_of_ble_eq_true rfl) rfl (ls' := [_, _, _]) rfl (pc' := 4) rfl ?_
  exact lp_X2_feesOfStretches hb hV ok ⟨rfl, rfl⟩ 8 0 rfl
def fsF (c : Co) (f : Nat → Bool) : Nat → Nat
  | 0 => 0
  | i + 1 => fsF c f i + (if i < cns c then feeS c i * zct (fun p => f p && inS c i p) 64 else 0)
theorem nI_mul (a b : Nat) : nI a * nI b = nI (a * b) := by
  apply Int32.toBitVec_inj.1
  show BitVec.ofNat 32 a * BitVec.ofNat 32 b = BitVec.ofNat 32 (a * b)
  rw [BitVec.ofNat_mul]
set_option maxRecDepth 100000 in
set_option maxHeartbeats 4000000 in
theorem lp_X2_feesOf {S : ZS} {n b : Nat} {c : Co} {f : Nat → Bool} (hb : cB b) (hV : cV S n b c) (ok : Cok c) {R : Option Value → ZW → Prop} (hR : R (some (.int (nI (fsF c f 8)))) (zw S n)) : ∀ (m i : Nat), i + m = 8 → Z m_X2_feesOf 0 0 R 5 [some (.ref b), some (.long (zmk f)), none, some (.int (nI (fsF c f i))), some (.int (nI i))] [] (zw S n) := by
  intro m
  induction m with
  | zero =>
    intro i h
    obtain rfl : i = 8 := by omega
    refine Z_iload dX2_feesOf_5 rfl (pc' := 7) rfl ?_
    refine Z_bipush dX2_feesOf_7 (v := 8) (by decide) (pc' := 9) rfl ?_
    refine Z_icmp_ge dX2_feesOf_9 (tgt := 50) rfl (pc' := 12) rfl (fun c_9 => ?_) (fun c_9 => absurd c_9 (fun c => c (by decide)))
    refine Z_iload_n dX2_feesOf_50 rfl (pc' := 51) rfl ?_
    exact Z_ireturn dX2_feesOf_51 rfl rfl hR
  | succ m ih =>
    intro i h
    refine Z_iload dX2_feesOf_5 rfl (pc' := 7) rfl ?_
    refine Z_bipush dX2_feesOf_7 (v := 8) (by decide) (pc' := 9) rfl ?_
    refine Z_icmp_ge dX2_feesOf_9 (tgt := 50) rfl (pc' := 12) rfl (fun c_9 => absurd c_9 (by rw [nI8, nI_len (by omega) (by omega)]; omega)) (fun c_9 => ?_)
    refine Z_aload_n dX2_feesOf_12 rfl (z_isref _) (pc' := 13) rfl ?_
    refine Z_iload dX2_feesOf_13 rfl (pc' := 15) rfl ?_
    refine Z_cVe dX2_feesOf_15 rfl zcw_X2_stretchAt (As := [_]) (rest := []) rfl ⟨Nat.le_of_ble_eq_true rfl, Nat.le_of_ble_eq_true rfl⟩ (Nat.le_of_ble_eq_true rfl) (zRcv.lay (zob_b_0 hb)) ⟨zcw_X2_stretchAt.2.2.2.2, Nat.le_of_ble_eq_true rfl⟩ zk_RX2_35 (c_X2_stretchAt hb) (pc' := 18) rfl ?_
    rcases hV.st ok i (by omega) with ⟨hlt, j, hj, hP, e⟩ | ⟨hge, e⟩
    · rw [e]
      show Z _ _ _ _ _ _ (.ref (48 + j) :: _) _
      refine Z_astore dX2_feesOf_18 (Nat.le_of_ble_eq_true rfl) (Nat.le_of_ble_eq_true rfl) rfl (ls' := [_, _, _, _, _, _]) rfl (z_isref _) (pc' := 20) rfl ?_
      refine Z_aload dX2_feesOf_20 rfl (z_isref _) (pc' := 22) rfl ?_
      refine Z_ifnullR dX2_feesOf_22 (tgt := 44) rfl (pc' := 25) rfl ?_
      obtain ⟨hkd, hfg, hfs, hl1, hl9, hfl⟩ := ok.2.2.2.2.1 _ hlt
      refine Z_iload_n dX2_feesOf_25 rfl (pc' := 26) rfl ?_
      refine Z_aload dX2_feesOf_26 rfl (z_isref _) (pc' := 28) rfl ?_
      refine zv_RX2_86  dX2_feesOf_28 rfl ⟨Nat.le_of_ble_eq_true rfl, Nat.le_of_ble_eq_true rfl⟩ ⟨Nat.le_of_ble_eq_true rfl, Nat.le_of_ble_eq_true rfl⟩ ⟨Nat.le_of_ble_eq_true rfl, Nat.le_of_ble_eq_true rfl⟩ ⟨Nat.le_of_ble_eq_true rfl, Nat.le_of_ble_eq_true rfl⟩ ⟨Nat.le_of_ble_eq_true rfl, Nat.le_of_ble_eq_true rfl⟩ ⟨Nat.le_of_ble_eq_true rfl, Nat.le_of_ble_eq_true rfl⟩ (Nat.le_of_ble_eq_true rfl) hkd (by omega) hj hP (pc' := 31) rfl ?_
      refine Z_lload_n dX2_feesOf_31 rfl (pc' := 32) rfl ?_
      refine Z_aload dX2_feesOf_32 rfl (z_isref _) (pc' := 34) rfl ?_
      refine zv_RX2_82 (hb1 := by have := ok.2.1; omega) (ha1 := by omega) dX2_feesOf_34 rfl ⟨Nat.le_of_ble_eq_true rfl, Nat.le_of_ble_eq_true rfl⟩ (Nat.le_of_ble_eq_true rfl) hkd (by omega) hj hP (pc' := 37) rfl ?_
      refine Z_land dX2_feesOf_37 (pc' := 38) rfl ?_
      rw [zmk_and]
      refine Z_cSe dX2_feesOf_38 rfl zcw_J13_bitCount_95d88 (As := [_]) (rest := [_, _]) rfl ⟨Nat.le_of_ble_eq_true rfl, Nat.le_of_ble_eq_true rfl⟩ (Nat.le_of_ble_eq_true rfl) ⟨zcw_J13_bitCount_95d88.2.2.2.2, Nat.le_of_ble_eq_true rfl⟩ zk_RX2_90 c_J13_bitCount_95d88 (pc' := 41) rfl ?_
      refine Z_imul dX2_feesOf_41 (pc' := 42) rfl ?_
      refine Z_iadd dX2_feesOf_42 (pc' := 43) rfl ?_
      refine Z_istore_n dX2_feesOf_43 (Nat.le_of_ble_eq_true rfl) (Nat.le_of_ble_eq_true rfl) rfl (ls' := [_, _, _, _, _, _]) rfl (pc' := 44) rfl ?_
      refine Z_iinc dX2_feesOf_44 rfl (nI_inc i) (Nat.le_of_ble_eq_true rfl) rfl (ls' := [_, _, _, _, _, _]) rfl (pc' := 47) rfl ?_
      refine Z_goto dX2_feesOf_47 (tgt := 5) rfl ?_
      refine Z_take 5 (ls' := [_, _, _, _, _]) rfl ?_
      have e2 : fsF c f (i + 1) = fsF c f i + (if i < cns c then feeS c i * zct (fun p => f p && inS c i p) 64 else 0) := rfl
      first | (rw [if_pos hlt] at e2; rw [nI_mul, nI_add, show fsF c f i + feeN (ckd c i) (cfg c i) * zct (fun k => f k && plF (cln c i) (cfs c i) k) 64 = fsF c f (i + 1) from e2.symm]; exact ih (i + 1) (by omega)) | (rw [if_neg (Nat.not_lt.mpr hge)] at e2; rw [show fsF c f i = fsF c f (i + 1) from e2.symm]; exact ih (i + 1) (by omega))
    · rw [e]
      show Z _ _ _ _ _ _ (.null :: _) _
      refine Z_astore dX2_feesOf_18 (Nat.le_of_ble_eq_true rfl) (Nat.le_of_ble_eq_true rfl) rfl (ls' := [_, _, _, _, _, _]) rfl (Or.inl rfl) (pc' := 20) rfl ?_
      refine Z_aload dX2_feesOf_20 rfl (Or.inl rfl) (pc' := 22) rfl ?_
      refine Z_ifnullN dX2_feesOf_22 (tgt := 44) rfl (pc' := 25) rfl ?_
      refine Z_iinc dX2_feesOf_44 rfl (nI_inc i) (Nat.le_of_ble_eq_true rfl) rfl (ls' := [_, _, _, _, _, _]) rfl (pc' := 47) rfl ?_
      refine Z_goto dX2_feesOf_47 (tgt := 5) rfl ?_
      refine Z_take 5 (ls' := [_, _, _, _, _]) rfl ?_
      have e2 : fsF c f (i + 1) = fsF c f i + (if i < cns c then feeS c i * zct (fun p => f p && inS c i p) 64 else 0) := rfl
      first | (rw [if_pos hlt] at e2; rw [nI_mul, nI_add, show fsF c f i + feeN (ckd c i) (cfg c i) * zct (fun k => f k && plF (cln c i) (cfs c i) k) 64 = fsF c f (i + 1) from e2.symm]; exact ih (i + 1) (by omega)) | (rw [if_neg (Nat.not_lt.mpr hge)] at e2; rw [show fsF c f i = fsF c f (i + 1) from e2.symm]; exact ih (i + 1) (by omega))
set_option maxRecDepth 100000 in
set_option maxHeartbeats 4000000 in
theorem c_X2_feesOf {S : ZS} {n b : Nat} {c : Co} {f : Nat → Bool} (hb : cB b) (hV : cV S n b c) (ok : Cok c) : zM m_X2_feesOf 0 0 [.ref b, .long (zmk f)] (zw S n) (zE (some (.int (nI (fsF c f 8)))) (zw S n)) := by
  show Z m_X2_feesOf _ _ _ 0 [some (.ref _), some (.long _), none] [] _
  refine Z_iconst dX2_feesOf_0 (v := 0) (by decide) (pc' := 1) rfl ?_
  refine Z_istore_n dX2_feesOf_1 (Nat.le_of_ble_eq_true rfl) (Nat.le_of_ble_eq_true rfl) rfl (ls' := [_, _, _, _]) rfl (pc' := 2) rfl ?_
  refine Z_iconst dX2_feesOf_2 (v := 0) (by decide) (pc' := 3) rfl ?_
  refine Z_istore dX2_feesOf_3 (Nat.le_of_ble_eq_true rfl) (Nat.le_of_ble_eq_true rfl) rfl (ls' := [_, _, _, _, _]) rfl (pc' := 5) rfl ?_
  exact lp_X2_feesOf hb hV ok ⟨rfl, rfl⟩ 8 0 rfl
