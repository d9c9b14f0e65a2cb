theorem sP_sP (S : ZS) (j : Nat) (x y : Nat × List Int32) : sP (sP S j x) j y = sP S j y := by
  unfold sP
  show (S.1, S.2.1, zup (zup S.2.2 j x) j y) = (S.1, S.2.1, zup S.2.2 j y)
  congr 2
  funext k
  by_cases h : k = j
  · subst h; rw [zup_same, zup_same]
  · rw [zup_ne _ _ h, zup_ne _ _ h, zup_ne _ _ h]
theorem sP_at (S : ZS) (j : Nat) (x : Nat × List Int32) : (sP S j x).2.2 j = x := zup_same _ _ _
theorem sP_ne (S : ZS) {i j : Nat} (x : Nat × List Int32) (h : i ≠ j) : (sP S j x).2.2 i = S.2.2 i := zup_ne _ _ h
/-- from the world S of n made objects to S' of n': only cells lo .. hi and new objects have changed -/
def frm (lo hi : Nat) (S : ZS) (n : Nat) (S' : ZS) (n' : Nat) : Prop := n ≤ n' ∧ (∀ j, j < n → S'.2.2 j = S.2.2 j) ∧ ∀ a, a < lo ∨ hi < a → S'.1 a = S.1 a ∧ S'.2.1 a = S.2.1 a
theorem frm.rf {lo hi : Nat} {S : ZS} {n : Nat} : frm lo hi S n S n := ⟨Nat.le_refl _, fun _ _ => rfl, fun _ _ => ⟨rfl, rfl⟩⟩
theorem frm.tr {lo hi : Nat} {S S' S'' : ZS} {n n' n'' : Nat} (h : frm lo hi S n S' n') (h2 : frm lo hi S' n' S'' n'') : frm lo hi S n S'' n'' :=
  ⟨Nat.le_trans h.1 h2.1, fun j hj => (h2.2.1 j (Nat.lt_of_lt_of_le hj h.1)).trans (h.2.1 j hj), fun a ha => ⟨(h2.2.2 a ha).1.trans (h.2.2 a ha).1, (h2.2.2 a ha).2.trans (h.2.2 a ha).2⟩⟩
theorem frm.wd {lo hi lo' hi' : Nat} {S S' : ZS} {n n' : Nat} (h : frm lo hi S n S' n') (h1 : lo' ≤ lo) (h2 : hi ≤ hi') : frm lo' hi' S n S' n' := ⟨h.1, h.2.1, fun a ha => h.2.2 a (by omega)⟩
theorem frm.sA {lo hi : Nat} {S S' : ZS} {n n' a : Nat} (h : frm lo hi S n S' n') (k : Nat) (x : Int32) (h1 : lo ≤ a) (h2 : a ≤ hi) : frm lo hi S n (sA S' a k x) n' :=
  ⟨h.1, h.2.1, fun b hb => ⟨(sA_ne S' k x (by omega)).trans (h.2.2 b hb).1, (h.2.2 b hb).2⟩⟩
theorem frm.sB {lo hi : Nat} {S S' : ZS} {n n' a : Nat} (h : frm lo hi S n S' n') (k : Nat) (r : Option Nat) (h1 : lo ≤ a) (h2 : a ≤ hi) : frm lo hi S n (sB S' a k r) n' :=
  ⟨h.1, h.2.1, fun b hb => ⟨(h.2.2 b hb).1, (zup_ne _ _ (by omega)).trans (h.2.2 b hb).2⟩⟩
theorem frm.sP {lo hi : Nat} {S S' : ZS} {n n' : Nat} (h : frm lo hi S n S' n') (x : Nat × List Int32) : frm lo hi S n (sP S' n' x) (n' + 1) :=
  ⟨Nat.le_succ_of_le h.1, fun j hj => (sP_ne S' x (by have := h.1; omega)).trans (h.2.1 j hj), h.2.2⟩
theorem sB_same (S : ZS) (a k : Nat) (r : Option Nat) : (sB S a k r).2.1 a = zup (S.2.1 a) k r := zup_same _ _ _
theorem rV_frm {lo hi : Nat} {S S' : ZS} {n n' q : Nat} {c : Co} (h : rV S n q c) (f : frm lo hi S n S' n') (hq : q + 1 < lo ∨ hi < q) : rV S' n' q c := by
  refine ⟨by rw [(f.2.2 q (by omega)).1]; exact h.1, fun k hk => ?_⟩
  obtain ⟨j, h1, h2, h3⟩ := h.2 k hk
  exact ⟨j, Nat.lt_of_lt_of_le h1 f.1, by rw [(f.2.2 (q + 1) (by omega)).2]; exact h2, by rw [f.2.1 j h1]; exact h3⟩
theorem cV_frm {lo hi : Nat} {S S' : ZS} {n n' b : Nat} {c : Co} (h : cV S n b c) (f : frm lo hi S n S' n') (hb : b + 5 < lo ∨ hi < b) : cV S' n' b c := by
  obtain ⟨h1, h2, h3, h4, h5, h6⟩ := h
  refine ⟨by rw [(f.2.2 b (by omega)).1]; exact h1, by rw [(f.2.2 b (by omega)).1]; exact h2, by rw [(f.2.2 b (by omega)).1]; exact h3, rV_frm h4 f (by omega), fun k hk => ?_, fun p hp => ?_⟩
  · obtain ⟨j, g1, g2, g3⟩ := h5 k hk
    exact ⟨j, Nat.lt_of_lt_of_le g1 f.1, by rw [(f.2.2 (b + 1) (by omega)).2]; exact g2, by rw [f.2.1 j g1]; exact g3⟩
  · rw [(f.2.2 (b + 2) (by omega)).1, (f.2.2 (b + 3) (by omega)).1]; exact h6 p hp
theorem cV.x' {S : ZS} {n b : Nat} {c : Co} (h : cV S n b c) (h48 : cny c ≤ 48) {p : Nat} (hp : p ≤ cny c) : gI (S.1 (b + 2)) 49 0 (nI p) = cxs c p := by
  rw [show (49 : Int32) = nI 49 from rfl, gI_nat _ 0 (by decide) (by omega), (h.2.2.2.2.2 p hp).1]
theorem cV.y' {S : ZS} {n b : Nat} {c : Co} (h : cV S n b c) (h48 : cny c ≤ 48) {p : Nat} (hp : p ≤ cny c) : gI (S.1 (b + 3)) 49 0 (nI p) = cys c p := by
  rw [show (49 : Int32) = nI 49 from rfl, gI_nat _ 0 (by decide) (by omega), (h.2.2.2.2.2 p hp).2]
set_option maxRecDepth 100000 in
set_option maxHeartbeats 4000000 in
theorem c_X9_init_9 {S : ZS} {n j : Nat} {x y z a b c : Int32} (hj : j < n) (hP : S.2.2 j = (9, [x, y, z])) : zM m_X9_init 0 0 [.ref (48 + j), .int a, .int b, .int c] (zw S n) (zE none (zw (sP S j (9, [a, b, c])) n)) := by
  show Z m_X9_init _ _ _ 0 [some (.ref _), some (.int _), some (.int _), some (.int _)] [] _
  refine Z_aload_n dX9_init_0 rfl (z_isref _) (pc' := 1) rfl ?_
  refine Z_objInit dX9_init_1 rfl zko_RX9_1 zw_70 zw_obj (Nat.le_of_ble_eq_true rfl) (Nat.le_of_ble_eq_true rfl) (pc' := 4) rfl ?_
  refine Z_aload_n dX9_init_4 rfl (z_isref _) (pc' := 5) rfl ?_
  refine Z_iload_n dX9_init_5 rfl (pc' := 6) rfl ?_
  refine Z_pP dX9_init_6 rfl zfd_RX9_7_9 zft_9 rfl rfl rfl rfl hj hP (by decide : 0 < 3) (pc' := 9) rfl ?_
  refine Z_aload_n dX9_init_9 rfl (z_isref _) (pc' := 10) rfl ?_
  refine Z_iload_n dX9_init_10 rfl (pc' := 11) rfl ?_
  refine Z_pP dX9_init_11 rfl zfd_RX9_13_9 zft_9 rfl rfl rfl rfl hj (sP_at _ _ _) (by decide : 1 < 3) (pc' := 14) rfl ?_
  refine Z_aload_n dX9_init_14 rfl (z_isref _) (pc' := 15) rfl ?_
  refine Z_iload_n dX9_init_15 rfl (pc' := 16) rfl ?_
  refine Z_pP dX9_init_16 rfl zfd_RX9_16_9 zft_9 rfl rfl rfl rfl hj (sP_at _ _ _) (by decide : 2 < 3) (pc' := 19) rfl ?_
  exact Z_return dX9_init_19 rfl ⟨rfl, by rw [sP_sP, sP_sP]; rfl⟩
set_option maxRecDepth 100000 in
set_option maxHeartbeats 4000000 in
theorem c_X9_init_8 {S : ZS} {n j : Nat} {x y z a b c : Int32} (hj : j < n) (hP : S.2.2 j = (8, [x, y, z])) : zM m_X9_init 0 0 [.ref (48 + j), .int a, .int b, .int c] (zw S n) (zE none (zw (sP S j (8, [a, b, c])) n)) := by
  show Z m_X9_init _ _ _ 0 [some (.ref _), some (.int _), some (.int _), some (.int _)] [] _
  refine Z_aload_n dX9_init_0 rfl (z_isref _) (pc' := 1) rfl ?_
  refine Z_objInit dX9_init_1 rfl zko_RX9_1 zw_70 zw_obj (Nat.le_of_ble_eq_true rfl) (Nat.le_of_ble_eq_true rfl) (pc' := 4) rfl ?_
  refine Z_aload_n dX9_init_4 rfl (z_isref _) (pc' := 5) rfl ?_
  refine Z_iload_n dX9_init_5 rfl (pc' := 6) rfl ?_
  refine Z_pP dX9_init_6 rfl zfd_RX9_7_8 zft_8 rfl rfl rfl rfl hj hP (by decide : 0 < 3) (pc' := 9) rfl ?_
  refine Z_aload_n dX9_init_9 rfl (z_isref _) (pc' := 10) rfl ?_
  refine Z_iload_n dX9_init_10 rfl (pc' := 11) rfl ?_
  refine Z_pP dX9_init_11 rfl zfd_RX9_13_8 zft_8 rfl rfl rfl rfl hj (sP_at _ _ _) (by decide : 1 < 3) (pc' := 14) rfl ?_
  refine Z_aload_n dX9_init_14 rfl (z_isref _) (pc' := 15) rfl ?_
  refine Z_iload_n dX9_init_15 rfl (pc' := 16) rfl ?_
  refine Z_pP dX9_init_16 rfl zfd_RX9_16_8 zft_8 rfl rfl rfl rfl hj (sP_at _ _ _) (by decide : 2 < 3) (pc' := 19) rfl ?_
  exact Z_return dX9_init_19 rfl ⟨rfl, by rw [sP_sP, sP_sP]; rfl⟩
set_option maxRecDepth 100000 in
set_option maxHeartbeats 4000000 in
theorem c_X9_init_5 {S : ZS} {n j : Nat} {x y z a b c : Int32} (hj : j < n) (hP : S.2.2 j = (5, [x, y, z])) : zM m_X9_init 0 0 [.ref (48 + j), .int a, .int b, .int c] (zw S n) (zE none (zw (sP S j (5, [a, b, c])) n)) := by
  show Z m_X9_init _ _ _ 0 [some (.ref _), some (.int _), some (.int _), some (.int _)] [] _
  refine Z_aload_n dX9_init_0 rfl (z_isref _) (pc' := 1) rfl ?_
  refine Z_objInit dX9_init_1 rfl zko_RX9_1 zw_70 zw_obj (Nat.le_of_ble_eq_true rfl) (Nat.le_of_ble_eq_true rfl) (pc' := 4) rfl ?_
  refine Z_aload_n dX9_init_4 rfl (z_isref _) (pc' := 5) rfl ?_
  refine Z_iload_n dX9_init_5 rfl (pc' := 6) rfl ?_
  refine Z_pP dX9_init_6 rfl zfd_RX9_7_5 zft_5 rfl rfl rfl rfl hj hP (by decide : 0 < 3) (pc' := 9) rfl ?_
  refine Z_aload_n dX9_init_9 rfl (z_isref _) (pc' := 10) rfl ?_
  refine Z_iload_n dX9_init_10 rfl (pc' := 11) rfl ?_
  refine Z_pP dX9_init_11 rfl zfd_RX9_13_5 zft_5 rfl rfl rfl rfl hj (sP_at _ _ _) (by decide : 1 < 3) (pc' := 14) rfl ?_
  refine Z_aload_n dX9_init_14 rfl (z_isref _) (pc' := 15) rfl ?_
  refine Z_iload_n dX9_init_15 rfl (pc' := 16) rfl ?_
  refine Z_pP dX9_init_16 rfl zfd_RX9_16_5 zft_5 rfl rfl rfl rfl hj (sP_at _ _ _) (by decide : 2 < 3) (pc' := 19) rfl ?_
  exact Z_return dX9_init_19 rfl ⟨rfl, by rw [sP_sP, sP_sP]; rfl⟩
set_option maxRecDepth 100000 in
set_option maxHeartbeats 4000000 in
theorem c_X9_init_1 {S : ZS} {n j : Nat} {x y z a b c : Int32} (hj : j < n) (hP : S.2.2 j = (1, [x, y, z])) : zM m_X9_init 0 0 [.ref (48 + j), .int a, .int b, .int c] (zw S n) (zE none (zw (sP S j (1, [a, b, c])) n)) := by
  show Z m_X9_init _ _ _ 0 [some (.ref _), some (.int _), some (.int _), some (.int _)] [] _
  refine Z_aload_n dX9_init_0 rfl (z_isref _) (pc' := 1) rfl ?_
  refine Z_objInit dX9_init_1 rfl zko_RX9_1 zw_70 zw_obj (Nat.le_of_ble_eq_true rfl) (Nat.le_of_ble_eq_true rfl) (pc' := 4) rfl ?_
  refine Z_aload_n dX9_init_4 rfl (z_isref _) (pc' := 5) rfl ?_
  refine Z_iload_n dX9_init_5 rfl (pc' := 6) rfl ?_
  refine Z_pP dX9_init_6 rfl zfd_RX9_7_1 zft_1 rfl rfl rfl rfl hj hP (by decide : 0 < 3) (pc' := 9) rfl ?_
  refine Z_aload_n dX9_init_9 rfl (z_isref _) (pc' := 10) rfl ?_
  refine Z_iload_n dX9_init_10 rfl (pc' := 11) rfl ?_
  refine Z_pP dX9_init_11 rfl zfd_RX9_13_1 zft_1 rfl rfl rfl rfl hj (sP_at _ _ _) (by decide : 1 < 3) (pc' := 14) rfl ?_
  refine Z_aload_n dX9_init_14 rfl (z_isref _) (pc' := 15) rfl ?_
  refine Z_iload_n dX9_init_15 rfl (pc' := 16) rfl ?_
  refine Z_pP dX9_init_16 rfl zfd_RX9_16_1 zft_1 rfl rfl rfl rfl hj (sP_at _ _ _) (by decide : 2 < 3) (pc' := 19) rfl ?_
  exact Z_return dX9_init_19 rfl ⟨rfl, by rw [sP_sP, sP_sP]; rfl⟩
set_option maxRecDepth 100000 in
set_option maxHeartbeats 4000000 in
theorem c_X9_init_4 {S : ZS} {n j : Nat} {x y z a b c : Int32} (hj : j < n) (hP : S.2.2 j = (4, [x, y, z])) : zM m_X9_init 0 0 [.ref (48 + j), .int a, .int b, .int c] (zw S n) (zE none (zw (sP S j (4, [a, b, c])) n)) := by
  show Z m_X9_init _ _ _ 0 [some (.ref _), some (.int _), some (.int _), some (.int _)] [] _
  refine Z_aload_n dX9_init_0 rfl (z_isref _) (pc' := 1) rfl ?_
  refine Z_objInit dX9_init_1 rfl zko_RX9_1 zw_70 zw_obj (Nat.le_of_ble_eq_true rfl) (Nat.le_of_ble_eq_true rfl) (pc' := 4) rfl ?_
  refine Z_aload_n dX9_init_4 rfl (z_isref _) (pc' := 5) rfl ?_
  refine Z_iload_n dX9_init_5 rfl (pc' := 6) rfl ?_
  refine Z_pP dX9_init_6 rfl zfd_RX9_7_4 zft_4 rfl rfl rfl rfl hj hP (by decide : 0 < 3) (pc' := 9) rfl ?_
  refine Z_aload_n dX9_init_9 rfl (z_isref _) (pc' := 10) rfl ?_
  refine Z_iload_n dX9_init_10 rfl (pc' := 11) rfl ?_
  refine Z_pP dX9_init_11 rfl zfd_RX9_13_4 zft_4 rfl rfl rfl rfl hj (sP_at _ _ _) (by decide : 1 < 3) (pc' := 14) rfl ?_
  refine Z_aload_n dX9_init_14 rfl (z_isref _) (pc' := 15) rfl ?_
  refine Z_iload_n dX9_init_15 rfl (pc' := 16) rfl ?_
  refine Z_pP dX9_init_16 rfl zfd_RX9_16_4 zft_4 rfl rfl rfl rfl hj (sP_at _ _ _) (by decide : 2 < 3) (pc' := 19) rfl ?_
  exact Z_return dX9_init_19 rfl ⟨rfl, by rw [sP_sP, sP_sP]; rfl⟩
set_option maxRecDepth 100000 in
set_option maxHeartbeats 4000000 in
theorem c_X9_init_10 {S : ZS} {n j : Nat} {x y z a b c : Int32} (hj : j < n) (hP : S.2.2 j = (10, [x, y, z])) : zM m_X9_init 0 0 [.ref (48 + j), .int a, .int b, .int c] (zw S n) (zE none (zw (sP S j (10, [a, b, c])) n)) := by
  show Z m_X9_init _ _ _ 0 [some (.ref _), some (.int _), some (.int _), some (.int _)] [] _
  refine Z_aload_n dX9_init_0 rfl (z_isref _) (pc' := 1) rfl ?_
  refine Z_objInit dX9_init_1 rfl zko_RX9_1 zw_70 zw_obj (Nat.le_of_ble_eq_true rfl) (Nat.le_of_ble_eq_true rfl) (pc' := 4) rfl ?_
  refine Z_aload_n dX9_init_4 rfl (z_isref _) (pc' := 5) rfl ?_
  refine Z_iload_n dX9_init_5 rfl (pc' := 6) rfl ?_
  refine Z_pP dX9_init_6 rfl zfd_RX9_7_10 zft_10 rfl rfl rfl rfl hj hP (by decide : 0 < 3) (pc' := 9) rfl ?_
  refine Z_aload_n dX9_init_9 rfl (z_isref _) (pc' := 10) rfl ?_
  refine Z_iload_n dX9_init_10 rfl (pc' := 11) rfl ?_
  refine Z_pP dX9_init_11 rfl zfd_RX9_13_10 zft_10 rfl rfl rfl rfl hj (sP_at _ _ _) (by decide : 1 < 3) (pc' := 14) rfl ?_
  refine Z_aload_n dX9_init_14 rfl (z_isref _) (pc' := 15) rfl ?_
  refine Z_iload_n dX9_init_15 rfl (pc' := 16) rfl ?_
  refine Z_pP dX9_init_16 rfl zfd_RX9_16_10 zft_10 rfl rfl rfl rfl hj (sP_at _ _ _) (by decide : 2 < 3) (pc' := 19) rfl ?_
  exact Z_return dX9_init_19 rfl ⟨rfl, by rw [sP_sP, sP_sP]; rfl⟩
set_option maxRecDepth 100000 in
set_option maxHeartbeats 4000000 in
theorem c_X6_init {S : ZS} {n j : Nat} {x y z u a b c d : Int32} (hj : j < n) (hP : S.2.2 j = (6, [x, y, z, u])) : zM m_X6_init 0 0 [.ref (48 + j), .int a, .int b, .int c, .int d] (zw S n) (zE none (zw (sP S j (6, [a, b, c, d])) n)) := by
  show Z m_X6_init _ _ _ 0 [some (.ref _), some (.int _), some (.int _), some (.int _), some (.int _)] [] _
  refine Z_aload_n dX6_init_0 rfl (z_isref _) (pc' := 1) rfl ?_
  refine Z_objInit dX6_init_1 rfl zko_RX6_1 zw_70 zw_obj (Nat.le_of_ble_eq_true rfl) (Nat.le_of_ble_eq_true rfl) (pc' := 4) rfl ?_
  refine Z_aload_n dX6_init_4 rfl (z_isref _) (pc' := 5) rfl ?_
  refine Z_iload_n dX6_init_5 rfl (pc' := 6) rfl ?_
  refine Z_pP dX6_init_6 rfl zfd_RX6_7_6 zft_6 rfl rfl rfl rfl hj hP (by decide : 0 < 4) (pc' := 9) rfl ?_
  refine Z_aload_n dX6_init_9 rfl (z_isref _) (pc' := 10) rfl ?_
  refine Z_iload_n dX6_init_10 rfl (pc' := 11) rfl ?_
  refine Z_pP dX6_init_11 rfl zfd_RX6_13_6 zft_6 rfl rfl rfl rfl hj (sP_at _ _ _) (by decide : 1 < 4) (pc' := 14) rfl ?_
  refine Z_aload_n dX6_init_14 rfl (z_isref _) (pc' := 15) rfl ?_
  refine Z_iload_n dX6_init_15 rfl (pc' := 16) rfl ?_
  refine Z_pP dX6_init_16 rfl zfd_RX6_16_6 zft_6 rfl rfl rfl rfl hj (sP_at _ _ _) (by decide : 2 < 4) (pc' := 19) rfl ?_
  refine Z_aload_n dX6_init_19 rfl (z_isref _) (pc' := 20) rfl ?_
  refine Z_iload dX6_init_20 rfl (pc' := 22) rfl ?_
  refine Z_pP dX6_init_22 rfl zfd_RX6_19_6 zft_6 rfl rfl rfl rfl hj (sP_at _ _ _) (by decide : 3 < 4) (pc' := 25) rfl ?_
  exact Z_return dX6_init_25 rfl ⟨rfl, by rw [sP_sP, sP_sP, sP_sP]; rfl⟩
set_option maxRecDepth 100000 in
set_option maxHeartbeats 4000000 in
theorem c_X8_init_8 {S : ZS} {n j : Nat} {x y z a b c : Int32} (hj : j < n) (hP : S.2.2 j = (8, [x, y, z])) : zM m_X8_init 0 0 [.ref (48 + j), .int a, .int b, .int c] (zw S n) (zE none (zw (sP S j (8, [a, b, c])) n)) := by
  show Z m_X8_init _ _ _ 0 [some (.ref _), some (.int _), some (.int _), some (.int _)] [] _
  refine Z_aload_n dX8_init_0 rfl (z_isref _) (pc' := 1) rfl ?_
  refine Z_iload_n dX8_init_1 rfl (pc' := 2) rfl ?_
  refine Z_iload_n dX8_init_2 rfl (pc' := 3) rfl ?_
  refine Z_iload_n dX8_init_3 rfl (pc' := 4) rfl ?_
  refine Z_cIv dX8_init_4 rfl zcw_X9_init (As := [_, _, _]) (rest := []) rfl ⟨Nat.le_of_ble_eq_true rfl, Nat.le_of_ble_eq_true rfl⟩ (Nat.le_of_ble_eq_true rfl) rfl rfl ⟨zcw_X9_init.2.2.2.2, Nat.le_of_ble_eq_true rfl⟩ zk_RX8_1 (c_X9_init_8 hj hP) (pc' := 7) rfl ?_
  exact Z_return dX8_init_7 rfl ⟨rfl, rfl⟩
set_option maxRecDepth 100000 in
set_option maxHeartbeats 4000000 in
theorem c_X8_init_4 {S : ZS} {n j : Nat} {x y z a b c : Int32} (hj : j < n) (hP : S.2.2 j = (4, [x, y, z])) : zM m_X8_init 0 0 [.ref (48 + j), .int a, .int b, .int c] (zw S n) (zE none (zw (sP S j (4, [a, b, c])) n)) := by
  show Z m_X8_init _ _ _ 0 [some (.ref _), some (.int _), some (.int _), some (.int _)] [] _
  refine Z_aload_n dX8_init_0 rfl (z_isref _) (pc' := 1) rfl ?_
  refine Z_iload_n dX8_init_1 rfl (pc' := 2) rfl ?_
  refine Z_iload_n dX8_init_2 rfl (pc' := 3) rfl ?_
  refine Z_iload_n dX8_init_3 rfl (pc' := 4) rfl ?_
  refine Z_cIv dX8_init_4 rfl zcw_X9_init (As := [_, _, _]) (rest := []) rfl ⟨Nat.le_of_ble_eq_true rfl, Nat.le_of_ble_eq_true rfl⟩ (Nat.le_of_ble_eq_true rfl) rfl rfl ⟨zcw_X9_init.2.2.2.2, Nat.le_of_ble_eq_true rfl⟩ zk_RX8_1 (c_X9_init_4 hj hP) (pc' := 7) rfl ?_
  exact Z_return dX8_init_7 rfl ⟨rfl, rfl⟩
set_option maxRecDepth 100000 in
set_option maxHeartbeats 4000000 in
theorem c_X1_init_1 {S : ZS} {n j : Nat} {x y z a b c : Int32} (hj : j < n) (hP : S.2.2 j = (1, [x, y, z])) : zM m_X1_init 0 0 [.ref (48 + j), .int a, .int b, .int c] (zw S n) (zE none (zw (sP S j (1, [a, b, c])) n)) := by
  show Z m_X1_init _ _ _ 0 [some (.ref _), some (.int _), some (.int _), some (.int _)] [] _
  refine Z_aload_n dX1_init_0 rfl (z_isref _) (pc' := 1) rfl ?_
  refine Z_iload_n dX1_init_1 rfl (pc' := 2) rfl ?_
  refine Z_iload_n dX1_init_2 rfl (pc' := 3) rfl ?_
  refine Z_iload_n dX1_init_3 rfl (pc' := 4) rfl ?_
  refine Z_cIv dX1_init_4 rfl zcw_X9_init (As := [_, _, _]) (rest := []) rfl ⟨Nat.le_of_ble_eq_true rfl, Nat.le_of_ble_eq_true rfl⟩ (Nat.le_of_ble_eq_true rfl) rfl rfl ⟨zcw_X9_init.2.2.2.2, Nat.le_of_ble_eq_true rfl⟩ zk_RX1_1 (c_X9_init_1 hj hP) (pc' := 7) rfl ?_
  exact Z_return dX1_init_7 rfl ⟨rfl, rfl⟩
set_option maxRecDepth 100000 in
set_option maxHeartbeats 4000000 in
theorem c_X1_init_10 {S : ZS} {n j : Nat} {x y z a b c : Int32} (hj : j < n) (hP : S.2.2 j = (10, [x, y, z])) : zM m_X1_init 0 0 [.ref (48 + j), .int a, .int b, .int c] (zw S n) (zE none (zw (sP S j (10, [a, b, c])) n)) := by
  show Z m_X1_init _ _ _ 0 [some (.ref _), some (.int _), some (.int _), some (.int _)] [] _
  refine Z_aload_n dX1_init_0 rfl (z_isref _) (pc' := 1) rfl ?_
  refine Z_iload_n dX1_init_1 rfl (pc' := 2) rfl ?_
  refine Z_iload_n dX1_init_2 rfl (pc' := 3) rfl ?_
  refine Z_iload_n dX1_init_3 rfl (pc' := 4) rfl ?_
  refine Z_cIv dX1_init_4 rfl zcw_X9_init (As := [_, _, _]) (rest := []) rfl ⟨Nat.le_of_ble_eq_true rfl, Nat.le_of_ble_eq_true rfl⟩ (Nat.le_of_ble_eq_true rfl) rfl rfl ⟨zcw_X9_init.2.2.2.2, Nat.le_of_ble_eq_true rfl⟩ zk_RX1_1 (c_X9_init_10 hj hP) (pc' := 7) rfl ?_
  exact Z_return dX1_init_7 rfl ⟨rfl, rfl⟩
set_option maxRecDepth 100000 in
set_option maxHeartbeats 4000000 in
theorem c_X5_init_5 {S : ZS} {n j : Nat} {x y z a b c : Int32} (hj : j < n) (hP : S.2.2 j = (5, [x, y, z])) : zM m_X5_init 0 0 [.ref (48 + j), .int a, .int b, .int c] (zw S n) (zE none (zw (sP S j (5, [a, b, c])) n)) := by
  show Z m_X5_init _ _ _ 0 [some (.ref _), some (.int _), some (.int _), some (.int _)] [] _
  refine Z_aload_n dX5_init_0 rfl (z_isref _) (pc' := 1) rfl ?_
  refine Z_iload_n dX5_init_1 rfl (pc' := 2) rfl ?_
  refine Z_iload_n dX5_init_2 rfl (pc' := 3) rfl ?_
  refine Z_iload_n dX5_init_3 rfl (pc' := 4) rfl ?_
  refine Z_cIv dX5_init_4 rfl zcw_X9_init (As := [_, _, _]) (rest := []) rfl ⟨Nat.le_of_ble_eq_true rfl, Nat.le_of_ble_eq_true rfl⟩ (Nat.le_of_ble_eq_true rfl) rfl rfl ⟨zcw_X9_init.2.2.2.2, Nat.le_of_ble_eq_true rfl⟩ zk_RX5_1 (c_X9_init_5 hj hP) (pc' := 7) rfl ?_
  exact Z_return dX5_init_7 rfl ⟨rfl, rfl⟩
set_option maxRecDepth 100000 in
set_option maxHeartbeats 4000000 in
theorem c_X4_init_4 {S : ZS} {n j : Nat} {x y z a b c : Int32} (hj : j < n) (hP : S.2.2 j = (4, [x, y, z])) : zM m_X4_init 0 0 [.ref (48 + j), .int a, .int b, .int c] (zw S n) (zE none (zw (sP S j (4, [a, b, c])) n)) := by
  show Z m_X4_init _ _ _ 0 [some (.ref _), some (.int _), some (.int _), some (.int _)] [] _
  refine Z_aload_n dX4_init_0 rfl (z_isref _) (pc' := 1) rfl ?_
  refine Z_iload_n dX4_init_1 rfl (pc' := 2) rfl ?_
  refine Z_iload_n dX4_init_2 rfl (pc' := 3) rfl ?_
  refine Z_iload_n dX4_init_3 rfl (pc' := 4) rfl ?_
  refine Z_cIv dX4_init_4 rfl zcw_X8_init (As := [_, _, _]) (rest := []) rfl ⟨Nat.le_of_ble_eq_true rfl, Nat.le_of_ble_eq_true rfl⟩ (Nat.le_of_ble_eq_true rfl) rfl rfl ⟨zcw_X8_init.2.2.2.2, Nat.le_of_ble_eq_true rfl⟩ zk_RX4_1 (c_X8_init_4 hj hP) (pc' := 7) rfl ?_
  exact Z_return dX4_init_7 rfl ⟨rfl, rfl⟩
set_option maxRecDepth 100000 in
set_option maxHeartbeats 4000000 in
theorem c_X10_init_10 {S : ZS} {n j : Nat} {x y z a b c : Int32} (hj : j < n) (hP : S.2.2 j = (10, [x, y, z])) : zM m_X10_init 0 0 [.ref (48 + j), .int a, .int b, .int c] (zw S n) (zE none (zw (sP S j (10, [a, b, c])) n)) := by
  show Z m_X10_init _ _ _ 0 [some (.ref _), some (.int _), some (.int _), some (.int _)] [] _
  refine Z_aload_n dX10_init_0 rfl (z_isref _) (pc' := 1) rfl ?_
  refine Z_iload_n dX10_init_1 rfl (pc' := 2) rfl ?_
  refine Z_iload_n dX10_init_2 rfl (pc' := 3) rfl ?_
  refine Z_iload_n dX10_init_3 rfl (pc' := 4) rfl ?_
  refine Z_cIv dX10_init_4 rfl zcw_X1_init (As := [_, _, _]) (rest := []) rfl ⟨Nat.le_of_ble_eq_true rfl, Nat.le_of_ble_eq_true rfl⟩ (Nat.le_of_ble_eq_true rfl) rfl rfl ⟨zcw_X1_init.2.2.2.2, Nat.le_of_ble_eq_true rfl⟩ zk_RX10_1 (c_X1_init_10 hj hP) (pc' := 7) rfl ?_
  exact Z_return dX10_init_7 rfl ⟨rfl, rfl⟩
def rbI (S : ZS) (n q u : Nat) (c : Co) (Si : ZS) (i : Nat) : Prop := frm q (q + 1) S n Si n ∧ Si.1 q 1 = nI (cnr c) ∧ ∀ k, k < i → Si.2.1 (q + 1) k = sI (S.2.1 (u + 1)) (S.1 u 1) 6 (nI k)
theorem sI_frm {S Si : ZS} {n q u lo hi : Nat} (f : frm lo hi S n Si n) (hu : u + 1 < lo ∨ hi < u) (N i : Int32) : sI (Si.2.1 (u + 1)) (Si.1 u 1) N i = sI (S.2.1 (u + 1)) (S.1 u 1) N i := by
  rw [(f.2.2 (u + 1) (by omega)).2, (f.2.2 u (by omega)).1]
set_option maxRecDepth 100000 in
set_option maxHeartbeats 4000000 in
theorem lp_X7_become {S : ZS} {n q u : Nat} {c : Co} (hq : cR q) (hu : cR u) (huq : u + 1 < q ∨ q + 1 < u) (hr : rV S n u c) (ok : Cok c) {R : Option Value → ZW → Prop} (hR : ∀ S1, rbI S n q u c S1 6 → R none (zw S1 n)) : ∀ (m i : Nat) (Si : ZS), i + m = 6 → rbI S n q u c Si i → Z m_X7_become 0 0 R 10 [some (.ref q), some (.ref u), some (.int (nI i))] [] (zw Si n) := by
  intro m
  induction m with
  | zero =>
    intro i Si e hI
    obtain rfl : i = 6 := by omega
    refine Z_iload_n dX7_become_10 rfl (pc' := 11) rfl ?_
    refine Z_aload_n dX7_become_11 rfl (z_isref _) (pc' := 12) rfl ?_
    refine Z_gR dX7_become_12 rfl (zgr_RX7_11_q_0 hq) (pc' := 15) rfl ?_
    refine Z_alq dX7_become_15 (zaq_q_1 hq) (v := 6) (by decide) (pc' := 16) rfl ?_
    refine Z_icmp_ge dX7_become_16 (tgt := 36) rfl (pc' := 19) rfl (fun c_16 => ?_) (fun c_16 => absurd c_16 (fun c => c (by decide)))
    exact Z_return dX7_become_36 rfl (hR _ hI)
  | succ m ih =>
    intro i Si e hI
    refine Z_iload_n dX7_become_10 rfl (pc' := 11) rfl ?_
    refine Z_aload_n dX7_become_11 rfl (z_isref _) (pc' := 12) rfl ?_
    refine Z_gR dX7_become_12 rfl (zgr_RX7_11_q_0 hq) (pc' := 15) rfl ?_
    refine Z_alq dX7_become_15 (zaq_q_1 hq) (v := 6) (by decide) (pc' := 16) rfl ?_
    refine Z_icmp_ge dX7_become_16 (tgt := 36) rfl (pc' := 19) rfl (fun c_16 => absurd c_16 (by rw [nI6, nI_len (by omega) (by omega)]; omega)) (fun c_16 => ?_)
    refine Z_aload_n dX7_become_19 rfl (z_isref _) (pc' := 20) rfl ?_
    refine Z_gR dX7_become_20 rfl (zgr_RX7_11_q_0 hq) (pc' := 23) rfl ?_
    refine Z_iload_n dX7_become_23 rfl (pc' := 24) rfl ?_
    refine Z_aload_n dX7_become_24 rfl (z_isref _) (pc' := 25) rfl ?_
    refine Z_iload_n dX7_become_25 rfl (pc' := 26) rfl ?_
    refine Z_cVe dX7_become_26 rfl zcw_X7_rockAt (As := [_]) (rest := [_, _]) rfl ⟨Nat.le_of_ble_eq_true rfl, Nat.le_of_ble_eq_true rfl⟩ (Nat.le_of_ble_eq_true rfl) (zRcv.lay (zob_q_0 hu)) ⟨zcw_X7_rockAt.2.2.2.2, Nat.le_of_ble_eq_true rfl⟩ zk_RX7_24 (c_X7_rockAt hu) (pc' := 29) rfl ?_
    rw [sI_frm (q := q) hI.1 huq]
    rcases hr.at ok i (by omega) with ⟨hlt, j, hj, hP, e⟩ | ⟨hge, e⟩
    · rw [e]
      show Z _ _ _ _ _ _ (.ref (48 + j) :: _) _
      have hnx : rbI S n q u c (sB Si (q + 1) i (some (48 + j))) (i + 1) := ⟨hI.1.sB _ _ (by omega) (by omega), hI.2.1, fun k hk => by
        rw [sB_same]
        by_cases hki : k = i
        · subst hki; rw [zup_same]; exact e.symm
        · rw [zup_ne _ _ hki]; exact hI.2.2 k (by omega)⟩
      refine Z_qs dX7_become_29 (zaq_q_1 hq) hj (r := (RX6, TX6, 4)) (by rw [hI.1.2.1 j hj, hP]; rfl) (Or.inl rfl) (zin (show i < 6 by omega) (by decide)) (pc' := 30) rfl ?_
      rw [nI_nat (by omega)]
      refine Z_iinc dX7_become_30 rfl (nI_inc i) (Nat.le_of_ble_eq_true rfl) rfl (ls' := [_, _, _]) rfl (pc' := 33) rfl ?_
      refine Z_goto dX7_become_33 (tgt := 10) rfl ?_
      refine Z_take 3 (ls' := [_, _, _]) rfl ?_
      exact ih (i + 1) _ (by omega) hnx
    · rw [e]
      show Z _ _ _ _ _ _ (.null :: _) _
      have hnx : rbI S n q u c (sB Si (q + 1) i (none)) (i + 1) := ⟨hI.1.sB _ _ (by omega) (by omega), hI.2.1, fun k hk => by
        rw [sB_same]
        by_cases hki : k = i
        · subst hki; rw [zup_same]; exact e.symm
        · rw [zup_ne _ _ hki]; exact hI.2.2 k (by omega)⟩
      refine Z_qsN dX7_become_29 (zaq_q_1 hq) (zin (show i < 6 by omega) (by decide)) (pc' := 30) rfl ?_
      rw [nI_nat (by omega)]
      refine Z_iinc dX7_become_30 rfl (nI_inc i) (Nat.le_of_ble_eq_true rfl) rfl (ls' := [_, _, _]) rfl (pc' := 33) rfl ?_
      refine Z_goto dX7_become_33 (tgt := 10) rfl ?_
      refine Z_take 3 (ls' := [_, _, _]) rfl ?_
      exact ih (i + 1) _ (by omega) hnx
theorem rbI_V {S : ZS} {n q u : Nat} {c : Co} {S' : ZS} (hr : rV S n u c) (ok : Cok c) (h : rbI S n q u c S' 6) : rV S' n q c := by
  refine ⟨h.2.1, fun k hk => ?_⟩
  have h6 := ok.2.2.1
  rcases hr.at ok k (by omega) with ⟨hlt, j, hj, hP, e⟩ | ⟨hge, -⟩
  · exact ⟨j, hj, by rw [h.2.2 k (by omega), e], by rw [h.1.2.1 j hj]; exact hP⟩
  · omega
set_option maxRecDepth 100000 in
set_option maxHeartbeats 4000000 in
theorem c_X7_become {S : ZS} {n q u : Nat} {c : Co} (hq : cR q) (hu : cR u) (huq : u + 1 < q ∨ q + 1 < u) (hr : rV S n u c) (ok : Cok c) : zM m_X7_become 0 0 [.ref q, .ref u] (zw S n) (fun r ω => r = none ∧ ∃ S', ω = zw S' n ∧ frm q (q + 1) S n S' n ∧ rV S' n q c) := by
  show Z m_X7_become _ _ _ 0 [some (.ref _), some (.ref _)] [] _
  refine Z_aload_n dX7_become_0 rfl (z_isref _) (pc' := 1) rfl ?_
  refine Z_aload_n dX7_become_1 rfl (z_isref _) (pc' := 2) rfl ?_
  refine Z_gI dX7_become_2 rfl (zgi_RX7_17_q_0 hu) (pc' := 5) rfl ?_
  rw [hr.1]
  refine Z_pI dX7_become_5 rfl (zpi_RX7_17_q_0 hq) (pc' := 8) rfl ?_
  refine Z_iconst dX7_become_8 (v := 0) (by decide) (pc' := 9) rfl ?_
  refine Z_istore_n dX7_become_9 (Nat.le_of_ble_eq_true rfl) (Nat.le_of_ble_eq_true rfl) rfl (ls' := [_, _, _]) rfl (pc' := 10) rfl ?_
  exact lp_X7_become hq hu huq hr ok (fun S' h => ⟨rfl, S', rfl, h.1, rbI_V hr ok h⟩) 6 0 _ rfl ⟨frm.rf.sA _ _ (by omega) (by omega), by rw [sA_same, zup_same], fun k hk => absurd hk (Nat.not_lt_zero _)⟩
def cbI (S : ZS) (n b e : Nat) (c : Co) (Si : ZS) (i : Nat) : Prop := frm b (b + 5) S n Si n ∧ Si.1 b 1 = nI (cns c) ∧ ∀ k, k < i → Si.2.1 (b + 1) k = sI (S.2.1 (e + 1)) (S.1 e 1) 8 (nI k)
def cbJ (S : ZS) (n b e : Nat) (c : Co) (Si : ZS) (i : Nat) : Prop := cbI S n b e c Si 8 ∧ Si.1 b 4 = nI (cny c) ∧ ∀ k, k < i → Si.1 (b + 2) k = S.1 (e + 2) k ∧ Si.1 (b + 3) k = S.1 (e + 3) k
theorem gI_49 (f : Nat → Int32) {k : Nat} (h : k < 49) : gI f 49 0 (nI k) = f k := by rw [show (49 : Int32) = nI 49 from rfl, gI_nat f 0 (by decide) h]
theorem zcl_lt {kd : Nat} (h : kd ≤ 5) : ∃ r, vwCl[zcl kd]? = some r ∧ (r.1 = RX9 ∨ Cond.castable r.1 RX9 ∈ ztbN) := by
  obtain rfl | rfl | rfl | rfl | rfl | rfl : kd = 0 ∨ kd = 1 ∨ kd = 2 ∨ kd = 3 ∨ kd = 4 ∨ kd = 5 := by omega
  · exact ⟨(RX9, TX9, 3), rfl, Or.inl rfl⟩
  · exact ⟨(RX8, TX8, 3), rfl, Or.inr zw_1088⟩
  · exact ⟨(RX5, TX5, 3), rfl, Or.inr zw_1089⟩
  · exact ⟨(RX1, TX1, 3), rfl, Or.inr zw_1090⟩
  · exact ⟨(RX4, TX4, 3), rfl, Or.inr zw_1091⟩
  · exact ⟨(RX10, TX10, 3), rfl, Or.inr zw_1092⟩
set_option maxRecDepth 100000 in
set_option maxHeartbeats 4000000 in
theorem lp_X2_become_a {S : ZS} {n b e : Nat} {c : Co} (hb : cB b) (he : cB e) (hbe : e + 5 < b ∨ b + 5 < e) (hV : cV S n e c) (ok : Cok c) {R : Option Value → ZW → Prop} (hR : ∀ S', cbI S n b e c S' 8 → Z m_X2_become 0 0 R 36 [some (.ref b), some (.ref e), some (.int 8)] [] (zw S' n)) : ∀ (m i : Nat) (Si : ZS), i + m = 8 → cbI S n b e c Si i → Z m_X2_become 0 0 R 10 [some (.ref b), some (.ref e), some (.int (nI i))] [] (zw Si n) := by
  intro m
  induction m with
  | zero =>
    intro i Si e1 hI
    obtain rfl : i = 8 := by omega
    refine Z_iload_n dX2_become_10 rfl (pc' := 11) rfl ?_
    refine Z_aload_n dX2_become_11 rfl (z_isref _) (pc' := 12) rfl ?_
    refine Z_gR dX2_become_12 rfl (zgr_RX2_11_b_0 hb) (pc' := 15) rfl ?_
    refine Z_alq dX2_become_15 (zaq_b_1 hb) (v := 8) (by decide) (pc' := 16) rfl ?_
    refine Z_icmp_ge dX2_become_16 (tgt := 36) rfl (pc' := 19) rfl (fun c_16 => ?_) (fun c_16 => absurd c_16 (fun c => c (by decide)))
    exact hR _ hI
  | succ m ih =>
    intro i Si e1 hI
    refine Z_iload_n dX2_become_10 rfl (pc' := 11) rfl ?_
    refine Z_aload_n dX2_become_11 rfl (z_isref _) (pc' := 12) rfl ?_
    refine Z_gR dX2_become_12 rfl (zgr_RX2_11_b_0 hb) (pc' := 15) rfl ?_
    refine Z_alq dX2_become_15 (zaq_b_1 hb) (v := 8) (by decide) (pc' := 16) rfl ?_
    refine Z_icmp_ge dX2_become_16 (tgt := 36) rfl (pc' := 19) rfl (fun c_16 => absurd c_16 (by rw [nI8, nI_len (by omega) (by omega)]; omega)) (fun c_16 => ?_)
    refine Z_aload_n dX2_become_19 rfl (z_isref _) (pc' := 20) rfl ?_
    refine Z_gR dX2_become_20 rfl (zgr_RX2_11_b_0 hb) (pc' := 23) rfl ?_
    refine Z_iload_n dX2_become_23 rfl (pc' := 24) rfl ?_
    refine Z_aload_n dX2_become_24 rfl (z_isref _) (pc' := 25) rfl ?_
    refine Z_iload_n dX2_become_25 rfl (pc' := 26) rfl ?_
    refine Z_cVe dX2_become_26 rfl zcw_X2_stretchAt (As := [_]) (rest := [_, _]) rfl ⟨Nat.le_of_ble_eq_true rfl, Nat.le_of_ble_eq_true rfl⟩ (Nat.le_of_ble_eq_true rfl) (zRcv.lay (zob_b_0 he)) ⟨zcw_X2_stretchAt.2.2.2.2, Nat.le_of_ble_eq_true rfl⟩ zk_RX2_35 (c_X2_stretchAt he) (pc' := 29) rfl ?_
    rw [sI_frm (q := b) hI.1 (by omega)]
    rcases hV.st ok i (by omega) with ⟨hlt, j, hj, hP, e9⟩ | ⟨hge, e9⟩
    · rw [e9]
      show Z _ _ _ _ _ _ (.ref (48 + j) :: _) _
      obtain ⟨rc, hrc, hca⟩ := zcl_lt (ok.2.2.2.2.1 i hlt).1
      have hnx : cbI S n b e c (sB Si (b + 1) i (some (48 + j))) (i + 1) := ⟨hI.1.sB _ _ (by omega) (by omega), hI.2.1, fun k hk => by
        rw [sB_same]
        by_cases hki : k = i
        · subst hki; rw [zup_same]; exact e9.symm
        · rw [zup_ne _ _ hki]; exact hI.2.2 k (by omega)⟩
      refine Z_qs dX2_become_29 (zaq_b_1 hb) hj (r := rc) (by rw [hI.1.2.1 j hj, hP]; exact hrc) hca (zin (show i < 8 by omega) (by decide)) (pc' := 30) rfl ?_
      rw [nI_nat (by omega)]
      refine Z_iinc dX2_become_30 rfl (nI_inc i) (Nat.le_of_ble_eq_true rfl) rfl (ls' := [_, _, _]) rfl (pc' := 33) rfl ?_
      refine Z_goto dX2_become_33 (tgt := 10) rfl ?_
      refine Z_take 3 (ls' := [_, _, _]) rfl ?_
      exact ih (i + 1) _ (by omega) hnx
    · rw [e9]
      show Z _ _ _ _ _ _ (.null :: _) _
      have hnx : cbI S n b e c (sB Si (b + 1) i (none)) (i + 1) := ⟨hI.1.sB _ _ (by omega) (by omega), hI.2.1, fun k hk => by
        rw [sB_same]
        by_cases hki : k = i
        · subst hki; rw [zup_same]; exact e9.symm
        · rw [zup_ne _ _ hki]; exact hI.2.2 k (by omega)⟩
      refine Z_qsN dX2_become_29 (zaq_b_1 hb) (zin (show i < 8 by omega) (by decide)) (pc' := 30) rfl ?_
      rw [nI_nat (by omega)]
      refine Z_iinc dX2_become_30 rfl (nI_inc i) (Nat.le_of_ble_eq_true rfl) rfl (ls' := [_, _, _]) rfl (pc' := 33) rfl ?_
      refine Z_goto dX2_become_33 (tgt := 10) rfl ?_
      refine Z_take 3 (ls' := [_, _, _]) rfl ?_
      exact ih (i + 1) _ (by omega) hnx
set_option maxRecDepth 100000 in
set_option maxHeartbeats 4000000 in
theorem lp_X2_become_b {S : ZS} {n b e : Nat} {c : Co} (hb : cB b) (he : cB e) (hbe : e + 5 < b ∨ b + 5 < e) {R : Option Value → ZW → Prop} (hR : ∀ S', cbJ S n b e c S' 49 → Z m_X2_become 0 0 R 92 [some (.ref b), some (.ref e), some (.int 49)] [] (zw S' n)) : ∀ (m i : Nat) (Si : ZS), i + m = 49 → cbJ S n b e c Si i → Z m_X2_become 0 0 R 46 [some (.ref b), some (.ref e), some (.int (nI i))] [] (zw Si n) := by
  intro m
  induction m with
  | zero =>
    intro i Si e1 hI
    obtain rfl : i = 49 := by omega
    refine Z_iload_n dX2_become_46 rfl (pc' := 47) rfl ?_
    refine Z_aload_n dX2_become_47 rfl (z_isref _) (pc' := 48) rfl ?_
    refine Z_gR dX2_become_48 rfl (zgr_RX2_17_b_0 hb) (pc' := 51) rfl ?_
    refine Z_al dX2_become_51 (zar_b_2 hb) (v := 49) (by decide) (pc' := 52) rfl ?_
    refine Z_icmp_ge dX2_become_52 (tgt := 92) rfl (pc' := 55) rfl (fun c_52 => ?_) (fun c_52 => absurd c_52 (fun c => c (by decide)))
    exact hR _ hI
  | succ m ih =>
    intro i Si e1 hI
    have h49 : i < 49 := by omega
    have hnx : cbJ S n b e c (sA (sA Si (b + 2) i (S.1 (e + 2) i)) (b + 3) i (S.1 (e + 3) i)) (i + 1) := by
      obtain ⟨⟨g1, g2, g3⟩, g4, g5⟩ := hI
      refine ⟨⟨(g1.sA _ _ (by omega) (by omega)).sA _ _ (by omega) (by omega), ?_, g3⟩, ?_, fun k hk => ?_⟩
      · rw [sA_ne _ _ _ (by omega), sA_ne _ _ _ (by omega)]; exact g2
      · rw [sA_ne _ _ _ (by omega), sA_ne _ _ _ (by omega)]; exact g4
      · rw [sA_same, sA_ne _ _ _ (show b + 2 ≠ b + 3 by omega), sA_same, sA_ne _ _ _ (show b + 3 ≠ b + 2 by omega)]
        by_cases hki : k = i
        · subst hki; rw [zup_same, zup_same]; exact ⟨rfl, rfl⟩
        · rw [zup_ne _ _ hki, zup_ne _ _ hki]; exact g5 k (by omega)
    refine Z_iload_n dX2_become_46 rfl (pc' := 47) rfl ?_
    refine Z_aload_n dX2_become_47 rfl (z_isref _) (pc' := 48) rfl ?_
    refine Z_gR dX2_become_48 rfl (zgr_RX2_17_b_0 hb) (pc' := 51) rfl ?_
    refine Z_al dX2_become_51 (zar_b_2 hb) (v := 49) (by decide) (pc' := 52) rfl ?_
    refine Z_icmp_ge dX2_become_52 (tgt := 92) rfl (pc' := 55) rfl (fun c_52 => absurd c_52 (by rw [show (49 : Int32) = nI 49 from rfl, nI_len (by omega) (by omega)]; omega)) (fun c_52 => ?_)
    refine Z_iload_n dX2_become_55 rfl (pc' := 56) rfl ?_
    refine Z_aload_n dX2_become_56 rfl (z_isref _) (pc' := 57) rfl ?_
    refine Z_gR dX2_become_57 rfl (zgr_RX2_21_b_0 hb) (pc' := 60) rfl ?_
    refine Z_al dX2_become_60 (zar_b_3 hb) (v := 49) (by decide) (pc' := 61) rfl ?_
    refine Z_icmp_ge dX2_become_61 (tgt := 92) rfl (pc' := 64) rfl (fun c_61 => absurd c_61 (by rw [show (49 : Int32) = nI 49 from rfl, nI_len (by omega) (by omega)]; omega)) (fun c_61 => ?_)
    refine Z_aload_n dX2_become_64 rfl (z_isref _) (pc' := 65) rfl ?_
    refine Z_gR dX2_become_65 rfl (zgr_RX2_17_b_0 hb) (pc' := 68) rfl ?_
    refine Z_iload_n dX2_become_68 rfl (pc' := 69) rfl ?_
    refine Z_aload_n dX2_become_69 rfl (z_isref _) (pc' := 70) rfl ?_
    refine Z_iload_n dX2_become_70 rfl (pc' := 71) rfl ?_
    refine Z_cVe dX2_become_71 rfl zcw_X2_xAt (As := [_]) (rest := [_, _]) rfl ⟨Nat.le_of_ble_eq_true rfl, Nat.le_of_ble_eq_true rfl⟩ (Nat.le_of_ble_eq_true rfl) (zRcv.lay (zob_b_0 he)) ⟨zcw_X2_xAt.2.2.2.2, Nat.le_of_ble_eq_true rfl⟩ zk_RX2_42 (c_X2_xAt he) (pc' := 74) rfl ?_
    rw [gI_49 _ h49, (hI.1.1.2.2 (e + 2) (by omega)).1]
    refine Z_is dX2_become_74 (zar_b_2 hb) (zin h49 (by decide)) (pc' := 75) rfl ?_
    rw [nI_nat (by omega)]
    refine Z_aload_n dX2_become_75 rfl (z_isref _) (pc' := 76) rfl ?_
    refine Z_gR dX2_become_76 rfl (zgr_RX2_21_b_0 hb) (pc' := 79) rfl ?_
    refine Z_iload_n dX2_become_79 rfl (pc' := 80) rfl ?_
    refine Z_aload_n dX2_become_80 rfl (z_isref _) (pc' := 81) rfl ?_
    refine Z_iload_n dX2_become_81 rfl (pc' := 82) rfl ?_
    refine Z_cVe dX2_become_82 rfl zcw_X2_yAt (As := [_]) (rest := [_, _]) rfl ⟨Nat.le_of_ble_eq_true rfl, Nat.le_of_ble_eq_true rfl⟩ (Nat.le_of_ble_eq_true rfl) (zRcv.lay (zob_b_0 he)) ⟨zcw_X2_yAt.2.2.2.2, Nat.le_of_ble_eq_true rfl⟩ zk_RX2_46 (c_X2_yAt he) (pc' := 85) rfl ?_
    rw [gI_49 _ h49, sA_ne _ _ _ (show e + 3 ≠ b + 2 by omega), (hI.1.1.2.2 (e + 3) (by omega)).1]
    refine Z_is dX2_become_85 (zar_b_3 hb) (zin h49 (by decide)) (pc' := 86) rfl ?_
    rw [nI_nat (by omega)]
    refine Z_iinc dX2_become_86 rfl (nI_inc i) (Nat.le_of_ble_eq_true rfl) rfl (ls' := [_, _, _]) rfl (pc' := 89) rfl ?_
    refine Z_goto dX2_become_89 (tgt := 46) rfl ?_
    refine Z_take 3 (ls' := [_, _, _]) rfl ?_
    exact ih (i + 1) _ (by omega) hnx
theorem cB_sep {b e : Nat} (hb : cB b) (he : cB e) (h : b ≠ e) : e + 5 < b ∨ b + 5 < e := by
  rcases hb with rfl | rfl | rfl <;> rcases he with rfl | rfl | rfl <;> first | (exact absurd rfl h) | omega
set_option maxRecDepth 100000 in
set_option maxHeartbeats 4000000 in
theorem c_X2_become_3 {S S2 : ZS} {n b e : Nat} {c : Co} (hb : cB b) (he : cB e) (hbe : e + 5 < b ∨ b + 5 < e) (hV : cV S n e c) (ok : Cok c) (h2 : cbJ S n b e c S2 49) : Z m_X2_become 0 0 (fun r ω => r = none ∧ ∃ S', ω = zw S' n ∧ frm b (b + 5) S n S' n ∧ cV S' n b c) 92 [some (.ref b), some (.ref e), some (.int 49)] [] (zw S2 n) := by
  refine Z_aload_n dX2_become_92 rfl (z_isref _) (pc' := 93) rfl ?_
  refine Z_gR dX2_become_93 rfl (zgr_RX2_27_b_0 hb) (pc' := 96) rfl ?_
  refine Z_aload_n dX2_become_96 rfl (z_isref _) (pc' := 97) rfl ?_
  refine Z_gR dX2_become_97 rfl (zgr_RX2_27_b_0 he) (pc' := 100) rfl ?_
  have hr2 : rV S2 n (e + 4) c := rV_frm hV.rk h2.1.1 (by omega)
  refine Z_cV dX2_become_100 rfl zcw_X7_become (As := [_]) (rest := []) rfl ⟨Nat.le_of_ble_eq_true rfl, Nat.le_of_ble_eq_true rfl⟩ (Nat.le_of_ble_eq_true rfl) (zRcv.lay (zob_b_4 hb)) ⟨zcw_X7_become.2.2.2.2, Nat.le_of_ble_eq_true rfl⟩ zk_RX2_49 (c_X7_become (cB_R hb) (cB_R he) (by omega) hr2 ok) (pc' := 103) rfl (fun r_100 w_100 h_100 => ?_)
  obtain ⟨rfl, S3, rfl, f3, r3⟩ := h_100
  show Z _ _ _ _ _ _ [] _
  refine Z_aload_n dX2_become_103 rfl (z_isref _) (pc' := 104) rfl ?_
  refine Z_aload_n dX2_become_104 rfl (z_isref _) (pc' := 105) rfl ?_
  refine Z_gI dX2_become_105 rfl (zgi_RX2_53_b_0 he) (pc' := 108) rfl ?_
  rw [show S3.1 e 6 = nI (ctd c) from by rw [(f3.2.2 e (by omega)).1, (h2.1.1.2.2 e (by omega)).1]; exact hV.td]
  refine Z_pI dX2_become_108 rfl (zpi_RX2_53_b_0 hb) (pc' := 111) rfl ?_
  exact Z_return dX2_become_111 rfl ⟨rfl, _, rfl, (h2.1.1.tr (f3.wd (by omega) (by omega))).sA _ _ (by omega) (by omega), by
    obtain ⟨⟨g1, g2, g3⟩, g4, g5⟩ := h2
    have a1 : ∀ a, a ≠ b + 4 → a ≠ b + 5 → S3.1 a = S2.1 a ∧ S3.2.1 a = S2.2.1 a := fun a z1 z2 => f3.2.2 a (by omega)
    refine ⟨?_, ?_, ?_, ?_, fun k hk => ?_, fun p hp => ?_⟩
    · rw [sA_same, zup_ne _ _ (by decide), (a1 b (by omega) (by omega)).1]; exact g2
    · rw [sA_same, zup_ne _ _ (by decide), (a1 b (by omega) (by omega)).1]; exact g4
    · rw [sA_same, zup_same]
    · exact ⟨by rw [sA_ne _ _ _ (by omega)]; exact r3.1, r3.2⟩
    · have h8 := ok.1
      rcases hV.st ok k (by omega) with ⟨hlt, j, hj, hP, e9⟩ | ⟨hge, -⟩
      · exact ⟨j, hj, by rw [sA_2, (a1 (b + 1) (by omega) (by omega)).2, g3 k (by omega), e9], by rw [sA_2, f3.2.1 j hj, g1.2.1 j hj]; exact hP⟩
      · omega
    · have h48 := ok.2.1
      rw [sA_ne _ _ _ (by omega), sA_ne _ _ _ (by omega), (a1 (b + 2) (by omega) (by omega)).1, (a1 (b + 3) (by omega) (by omega)).1, (g5 p (by omega)).1, (g5 p (by omega)).2]
      exact hV.2.2.2.2.2 p hp⟩
set_option maxRecDepth 100000 in
set_option maxHeartbeats 4000000 in
theorem c_X2_become_2 {S S1 : ZS} {n b e : Nat} {c : Co} (hb : cB b) (he : cB e) (hbe : e + 5 < b ∨ b + 5 < e) (hV : cV S n e c) (ok : Cok c) (h1 : cbI S n b e c S1 8) : Z m_X2_become 0 0 (fun r ω => r = none ∧ ∃ S', ω = zw S' n ∧ frm b (b + 5) S n S' n ∧ cV S' n b c) 36 [some (.ref b), some (.ref e), some (.int 8)] [] (zw S1 n) := by
  refine Z_aload_n dX2_become_36 rfl (z_isref _) (pc' := 37) rfl ?_
  refine Z_aload_n dX2_become_37 rfl (z_isref _) (pc' := 38) rfl ?_
  refine Z_gI dX2_become_38 rfl (zgi_RX2_39_b_0 he) (pc' := 41) rfl ?_
  rw [show S1.1 e 4 = nI (cny c) from by rw [(h1.1.2.2 e (by omega)).1]; exact hV.yd]
  refine Z_pI dX2_become_41 rfl (zpi_RX2_39_b_0 hb) (pc' := 44) rfl ?_
  refine Z_iconst dX2_become_44 (v := 0) (by decide) (pc' := 45) rfl ?_
  refine Z_istore_n dX2_become_45 (Nat.le_of_ble_eq_true rfl) (Nat.le_of_ble_eq_true rfl) rfl (ls' := [_, _, _]) rfl (pc' := 46) rfl ?_
  refine Z_take 3 (ls' := [_, _, _]) rfl ?_
  refine lp_X2_become_b hb he hbe (fun S2 h2 => ?_) 49 0 _ rfl ⟨⟨h1.1.sA _ _ (by omega) (by omega), by rw [sA_same, zup_ne _ _ (by decide)]; exact h1.2.1, h1.2.2⟩, by rw [sA_same, zup_same], fun k hk => absurd hk (Nat.not_lt_zero _)⟩
  exact c_X2_become_3 hb he hbe hV ok h2
set_option maxRecDepth 100000 in
set_option maxHeartbeats 4000000 in
theorem c_X2_become {S : ZS} {n b e : Nat} {c : Co} (hb : cB b) (he : cB e) (hne : b ≠ e) (hV : cV S n e c) (ok : Cok c) : zM m_X2_become 0 0 [.ref b, .ref e] (zw S n) (fun r ω => r = none ∧ ∃ S', ω = zw S' n ∧ frm b (b + 5) S n S' n ∧ cV S' n b c) := by
  show Z m_X2_become _ _ _ 0 [some (.ref _), some (.ref _)] [] _
  refine Z_aload_n dX2_become_0 rfl (z_isref _) (pc' := 1) rfl ?_
  refine Z_aload_n dX2_become_1 rfl (z_isref _) (pc' := 2) rfl ?_
  refine Z_gI dX2_become_2 rfl (zgi_RX2_31_b_0 he) (pc' := 5) rfl ?_
  rw [hV.cnt]
  refine Z_pI dX2_become_5 rfl (zpi_RX2_31_b_0 hb) (pc' := 8) rfl ?_
  refine Z_iconst dX2_become_8 (v := 0) (by decide) (pc' := 9) rfl ?_
  refine Z_istore_n dX2_become_9 (Nat.le_of_ble_eq_true rfl) (Nat.le_of_ble_eq_true rfl) rfl (ls' := [_, _, _]) rfl (pc' := 10) rfl ?_
  have hbe := cB_sep hb he hne
  refine lp_X2_become_a hb he hbe hV ok (fun S1 h1 => ?_) 8 0 _ rfl ⟨frm.rf.sA _ _ (by omega) (by omega), by rw [sA_same, zup_same], fun k hk => absurd hk (Nat.not_lt_zero _)⟩
  exact c_X2_become_2 hb he hbe hV ok h1
