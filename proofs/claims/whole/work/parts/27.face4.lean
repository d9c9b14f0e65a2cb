def bsS (v : Nat → Int32) (x : Int32) (k : Nat) (s : Option (Nat × Int32)) : Option (Nat × Int32) := match s with
  | none => some (10 + k, v k)
  | some (q, a) => if (if x = 1 then v k < a else a < v k) then some (10 + k, v k) else some (q, a)
theorem bsF_s (v : Nat → Int32) (x : Int32) (m k : Nat) (s : Option (Nat × Int32)) : bsF v x (m + 1) k s = bsF v x m (k + 1) (bsS v x k s) := rfl
theorem bsS_none (v : Nat → Int32) (x : Int32) (k : Nat) : bsS v x k none = some (10 + k, v k) := rfl
theorem bsS_1 (v : Nat → Int32) (k q : Nat) (a : Int32) : bsS v 1 k (some (q, a)) = if v k < a then some (10 + k, v k) else some (q, a) := by
  unfold bsS
  simp only [if_true]
theorem bsS_n {x : Int32} (h : ¬ x = 1) (v : Nat → Int32) (k q : Nat) (a : Int32) : bsS v x k (some (q, a)) = if a < v k then some (10 + k, v k) else some (q, a) := by
  unfold bsS
  simp only [if_neg h]
theorem bsS_lt {v : Nat → Int32} {x : Int32} {k : Nat} {s : Option (Nat × Int32)} (hk : k < 90) (h : ∀ q a, s = some (q, a) → q < 100) : ∀ q a, bsS v x k s = some (q, a) → q < 100 := by
  intro q a e
  unfold bsS at e
  split at e
  · cases e; omega
  · rename_i q2 a2
    have := h q2 a2 rfl
    by_cases hP : (if x = 1 then v k < a2 else a2 < v k)
    · rw [if_pos hP] at e; cases e; omega
    · rw [if_neg hP] at e; cases e; omega
set_option maxRecDepth 100000 in
set_option maxHeartbeats 4000000 in
theorem lp_X11_best_n {S : ZS} {n : Nat} {R : Option Value → ZW → Prop} {x y : Int32} {l1 l2 : Int64} {k r b : Nat} {v : Nat → Int32} (hk : 10 * r + b = 10 + k) (hK : ∀ z : Int32, Z m_X11_best 0 0 R 160 [some (.ref 0), some (.int x), some (.int y), some (.long l1), none, some (.int (bsW (some (10 + k, v k)))), some (.int (bsA (some (10 + k, v k)))), some (.int (nI r)), some (.int (nI b)), some (.long l2), none, some (.int (v k)), some (.int z)] [] (zw S n)) : Z m_X11_best 0 0 R 98 [some (.ref 0), some (.int x), some (.int y), some (.long l1), none, some (.int (bsW none)), some (.int (bsA none)), some (.int (nI r)), some (.int (nI b)), some (.long l2), none] [.int (v k)] (zw S n) := by
  refine Z_istore dX11_best_98 (Nat.le_of_ble_eq_true rfl) (Nat.le_of_ble_eq_true rfl) rfl (ls' := [_, _, _, _, _, _, _, _, _, _, _, _]) rfl (pc' := 100) rfl ?_
  refine Z_iload_n dX11_best_100 rfl (pc' := 101) rfl ?_
  refine Z_iconst dX11_best_101 (v := 1) (by decide) (pc' := 102) rfl ?_
  refine Z_icmp_ne dX11_best_102 (tgt := 120) rfl (pc' := 105) rfl (fun c_102 => ?_) (fun c_102 => ?_)
  · refine Z_iload dX11_best_120 rfl (pc' := 122) rfl ?_
    refine Z_iload dX11_best_122 rfl (pc' := 124) rfl ?_
    refine Z_icmp_le dX11_best_124 (tgt := 131) rfl (pc' := 127) rfl (fun c_124 => ?_) (fun c_124 => ?_)
    · refine Z_iconst dX11_best_131 (v := 0) (by decide) (pc' := 132) rfl ?_
      refine Z_istore dX11_best_132 (Nat.le_of_ble_eq_true rfl) (Nat.le_of_ble_eq_true rfl) rfl (ls' := [_, _, _, _, _, _, _, _, _, _, _, _, _]) rfl (pc' := 134) rfl ?_
      refine Z_iload dX11_best_134 rfl (pc' := 136) rfl ?_
      refine Z_bipush dX11_best_136 (v := (-9)) (by decide) (pc' := 138) rfl ?_
      refine Z_icmp_eq dX11_best_138 (tgt := 146) rfl (pc' := 141) rfl (fun c_138 => ?_) (fun c_138 => absurd c_138 (fun c => c rfl))
      refine Z_bipush dX11_best_146 (v := 10) (by decide) (pc' := 148) rfl ?_
      refine Z_iload dX11_best_148 rfl (pc' := 150) rfl ?_
      refine Z_imul dX11_best_150 (pc' := 151) rfl ?_
      refine Z_iload dX11_best_151 rfl (pc' := 153) rfl ?_
      refine Z_iadd dX11_best_153 (pc' := 154) rfl ?_
      rw [show (10 : Int32) = nI 10 from rfl, nI_mul, nI_add, hk]
      refine Z_istore dX11_best_154 (Nat.le_of_ble_eq_true rfl) (Nat.le_of_ble_eq_true rfl) rfl (ls' := [_, _, _, _, _, _, _, _, _, _, _, _, _]) rfl (pc' := 156) rfl ?_
      refine Z_iload dX11_best_156 rfl (pc' := 158) rfl ?_
      refine Z_istore dX11_best_158 (Nat.le_of_ble_eq_true rfl) (Nat.le_of_ble_eq_true rfl) rfl (ls' := [_, _, _, _, _, _, _, _, _, _, _, _, _]) rfl (pc' := 160) rfl ?_
      exact hK _
    · refine Z_iconst dX11_best_127 (v := 1) (by decide) (pc' := 128) rfl ?_
      refine Z_goto dX11_best_128 (tgt := 132) rfl ?_
      refine Z_istore dX11_best_132 (Nat.le_of_ble_eq_true rfl) (Nat.le_of_ble_eq_true rfl) rfl (ls' := [_, _, _, _, _, _, _, _, _, _, _, _, _]) rfl (pc' := 134) rfl ?_
      refine Z_iload dX11_best_134 rfl (pc' := 136) rfl ?_
      refine Z_bipush dX11_best_136 (v := (-9)) (by decide) (pc' := 138) rfl ?_
      refine Z_icmp_eq dX11_best_138 (tgt := 146) rfl (pc' := 141) rfl (fun c_138 => ?_) (fun c_138 => absurd c_138 (fun c => c rfl))
      refine Z_bipush dX11_best_146 (v := 10) (by decide) (pc' := 148) rfl ?_
      refine Z_iload dX11_best_148 rfl (pc' := 150) rfl ?_
      refine Z_imul dX11_best_150 (pc' := 151) rfl ?_
      refine Z_iload dX11_best_151 rfl (pc' := 153) rfl ?_
      refine Z_iadd dX11_best_153 (pc' := 154) rfl ?_
      rw [show (10 : Int32) = nI 10 from rfl, nI_mul, nI_add, hk]
      refine Z_istore dX11_best_154 (Nat.le_of_ble_eq_true rfl) (Nat.le_of_ble_eq_true rfl) rfl (ls' := [_, _, _, _, _, _, _, _, _, _, _, _, _]) rfl (pc' := 156) rfl ?_
      refine Z_iload dX11_best_156 rfl (pc' := 158) rfl ?_
      refine Z_istore dX11_best_158 (Nat.le_of_ble_eq_true rfl) (Nat.le_of_ble_eq_true rfl) rfl (ls' := [_, _, _, _, _, _, _, _, _, _, _, _, _]) rfl (pc' := 160) rfl ?_
      exact hK _
  · refine Z_iload dX11_best_105 rfl (pc' := 107) rfl ?_
    refine Z_iload dX11_best_107 rfl (pc' := 109) rfl ?_
    refine Z_icmp_ge dX11_best_109 (tgt := 116) rfl (pc' := 112) rfl (fun c_109 => ?_) (fun c_109 => ?_)
    · refine Z_iconst dX11_best_116 (v := 0) (by decide) (pc' := 117) rfl ?_
      refine Z_goto dX11_best_117 (tgt := 132) rfl ?_
      refine Z_istore dX11_best_132 (Nat.le_of_ble_eq_true rfl) (Nat.le_of_ble_eq_true rfl) rfl (ls' := [_, _, _, _, _, _, _, _, _, _, _, _, _]) rfl (pc' := 134) rfl ?_
      refine Z_iload dX11_best_134 rfl (pc' := 136) rfl ?_
      refine Z_bipush dX11_best_136 (v := (-9)) (by decide) (pc' := 138) rfl ?_
      refine Z_icmp_eq dX11_best_138 (tgt := 146) rfl (pc' := 141) rfl (fun c_138 => ?_) (fun c_138 => absurd c_138 (fun c => c rfl))
      refine Z_bipush dX11_best_146 (v := 10) (by decide) (pc' := 148) rfl ?_
      refine Z_iload dX11_best_148 rfl (pc' := 150) rfl ?_
      refine Z_imul dX11_best_150 (pc' := 151) rfl ?_
      refine Z_iload dX11_best_151 rfl (pc' := 153) rfl ?_
      refine Z_iadd dX11_best_153 (pc' := 154) rfl ?_
      rw [show (10 : Int32) = nI 10 from rfl, nI_mul, nI_add, hk]
      refine Z_istore dX11_best_154 (Nat.le_of_ble_eq_true rfl) (Nat.le_of_ble_eq_true rfl) rfl (ls' := [_, _, _, _, _, _, _, _, _, _, _, _, _]) rfl (pc' := 156) rfl ?_
      refine Z_iload dX11_best_156 rfl (pc' := 158) rfl ?_
      refine Z_istore dX11_best_158 (Nat.le_of_ble_eq_true rfl) (Nat.le_of_ble_eq_true rfl) rfl (ls' := [_, _, _, _, _, _, _, _, _, _, _, _, _]) rfl (pc' := 160) rfl ?_
      exact hK _
    · refine Z_iconst dX11_best_112 (v := 1) (by decide) (pc' := 113) rfl ?_
      refine Z_goto dX11_best_113 (tgt := 132) rfl ?_
      refine Z_istore dX11_best_132 (Nat.le_of_ble_eq_true rfl) (Nat.le_of_ble_eq_true rfl) rfl (ls' := [_, _, _, _, _, _, _, _, _, _, _, _, _]) rfl (pc' := 134) rfl ?_
      refine Z_iload dX11_best_134 rfl (pc' := 136) rfl ?_
      refine Z_bipush dX11_best_136 (v := (-9)) (by decide) (pc' := 138) rfl ?_
      refine Z_icmp_eq dX11_best_138 (tgt := 146) rfl (pc' := 141) rfl (fun c_138 => ?_) (fun c_138 => absurd c_138 (fun c => c rfl))
      refine Z_bipush dX11_best_146 (v := 10) (by decide) (pc' := 148) rfl ?_
      refine Z_iload dX11_best_148 rfl (pc' := 150) rfl ?_
      refine Z_imul dX11_best_150 (pc' := 151) rfl ?_
      refine Z_iload dX11_best_151 rfl (pc' := 153) rfl ?_
      refine Z_iadd dX11_best_153 (pc' := 154) rfl ?_
      rw [show (10 : Int32) = nI 10 from rfl, nI_mul, nI_add, hk]
      refine Z_istore dX11_best_154 (Nat.le_of_ble_eq_true rfl) (Nat.le_of_ble_eq_true rfl) rfl (ls' := [_, _, _, _, _, _, _, _, _, _, _, _, _]) rfl (pc' := 156) rfl ?_
      refine Z_iload dX11_best_156 rfl (pc' := 158) rfl ?_
      refine Z_istore dX11_best_158 (Nat.le_of_ble_eq_true rfl) (Nat.le_of_ble_eq_true rfl) rfl (ls' := [_, _, _, _, _, _, _, _, _, _, _, _, _]) rfl (pc' := 160) rfl ?_
      exact hK _
set_option maxRecDepth 100000 in
set_option maxHeartbeats 4000000 in
theorem lp_X11_best_s {S : ZS} {n : Nat} {R : Option Value → ZW → Prop} {x y : Int32} {l1 l2 : Int64} {k r b : Nat} {v : Nat → Int32} (hk : 10 * r + b = 10 + k) {q : Nat} {a : Int32} (hq : q < 100) (hK : ∀ z : Int32, Z m_X11_best 0 0 R 160 [some (.ref 0), some (.int x), some (.int y), some (.long l1), none, some (.int (bsW (bsS v x k (some (q, a))))), some (.int (bsA (bsS v x k (some (q, a))))), some (.int (nI r)), some (.int (nI b)), some (.long l2), none, some (.int (v k)), some (.int z)] [] (zw S n)) : Z m_X11_best 0 0 R 98 [some (.ref 0), some (.int x), some (.int y), some (.long l1), none, some (.int (bsW (some (q, a)))), some (.int (bsA (some (q, a)))), some (.int (nI r)), some (.int (nI b)), some (.long l2), none] [.int (v k)] (zw S n) := by
  refine Z_istore dX11_best_98 (Nat.le_of_ble_eq_true rfl) (Nat.le_of_ble_eq_true rfl) rfl (ls' := [_, _, _, _, _, _, _, _, _, _, _, _]) rfl (pc' := 100) rfl ?_
  refine Z_iload_n dX11_best_100 rfl (pc' := 101) rfl ?_
  refine Z_iconst dX11_best_101 (v := 1) (by decide) (pc' := 102) rfl ?_
  refine Z_icmp_ne dX11_best_102 (tgt := 120) rfl (pc' := 105) rfl (fun c_102 => ?_) (fun c_102 => ?_)
  · refine Z_iload dX11_best_120 rfl (pc' := 122) rfl ?_
    refine Z_iload dX11_best_122 rfl (pc' := 124) rfl ?_
    refine Z_icmp_le dX11_best_124 (tgt := 131) rfl (pc' := 127) rfl (fun c_124 => ?_) (fun c_124 => ?_)
    · refine Z_iconst dX11_best_131 (v := 0) (by decide) (pc' := 132) rfl ?_
      refine Z_istore dX11_best_132 (Nat.le_of_ble_eq_true rfl) (Nat.le_of_ble_eq_true rfl) rfl (ls' := [_, _, _, _, _, _, _, _, _, _, _, _, _]) rfl (pc' := 134) rfl ?_
      refine Z_iload dX11_best_134 rfl (pc' := 136) rfl ?_
      refine Z_bipush dX11_best_136 (v := (-9)) (by decide) (pc' := 138) rfl ?_
      refine Z_icmp_eq dX11_best_138 (tgt := 146) rfl (pc' := 141) rfl (fun c_138 => absurd c_138 (nI_nm9 (by omega))) (fun c_138 => ?_)
      refine Z_iload dX11_best_141 rfl (pc' := 143) rfl ?_
      refine Z_if_eq dX11_best_143 (tgt := 160) rfl (pc' := 146) rfl (fun c_143 => ?_) (fun c_143 => ?_)
      · rw [bsS_n c_102, if_neg (show ¬ a < v k from i_nlt c_124)] at hK
        exact hK _
      · refine Z_bipush dX11_best_146 (v := 10) (by decide) (pc' := 148) rfl ?_
        refine Z_iload dX11_best_148 rfl (pc' := 150) rfl ?_
        refine Z_imul dX11_best_150 (pc' := 151) rfl ?_
        refine Z_iload dX11_best_151 rfl (pc' := 153) rfl ?_
        refine Z_iadd dX11_best_153 (pc' := 154) rfl ?_
        rw [show (10 : Int32) = nI 10 from rfl, nI_mul, nI_add, hk]
        refine Z_istore dX11_best_154 (Nat.le_of_ble_eq_true rfl) (Nat.le_of_ble_eq_true rfl) rfl (ls' := [_, _, _, _, _, _, _, _, _, _, _, _, _]) rfl (pc' := 156) rfl ?_
        refine Z_iload dX11_best_156 rfl (pc' := 158) rfl ?_
        refine Z_istore dX11_best_158 (Nat.le_of_ble_eq_true rfl) (Nat.le_of_ble_eq_true rfl) rfl (ls' := [_, _, _, _, _, _, _, _, _, _, _, _, _]) rfl (pc' := 160) rfl ?_
        exact absurd rfl c_143
    · refine Z_iconst dX11_best_127 (v := 1) (by decide) (pc' := 128) rfl ?_
      refine Z_goto dX11_best_128 (tgt := 132) rfl ?_
      refine Z_istore dX11_best_132 (Nat.le_of_ble_eq_true rfl) (Nat.le_of_ble_eq_true rfl) rfl (ls' := [_, _, _, _, _, _, _, _, _, _, _, _, _]) rfl (pc' := 134) rfl ?_
      refine Z_iload dX11_best_134 rfl (pc' := 136) rfl ?_
      refine Z_bipush dX11_best_136 (v := (-9)) (by decide) (pc' := 138) rfl ?_
      refine Z_icmp_eq dX11_best_138 (tgt := 146) rfl (pc' := 141) rfl (fun c_138 => absurd c_138 (nI_nm9 (by omega))) (fun c_138 => ?_)
      refine Z_iload dX11_best_141 rfl (pc' := 143) rfl ?_
      refine Z_if_eq dX11_best_143 (tgt := 160) rfl (pc' := 146) rfl (fun c_143 => ?_) (fun c_143 => ?_)
      · exact absurd c_143 (by decide)
      · refine Z_bipush dX11_best_146 (v := 10) (by decide) (pc' := 148) rfl ?_
        refine Z_iload dX11_best_148 rfl (pc' := 150) rfl ?_
        refine Z_imul dX11_best_150 (pc' := 151) rfl ?_
        refine Z_iload dX11_best_151 rfl (pc' := 153) rfl ?_
        refine Z_iadd dX11_best_153 (pc' := 154) rfl ?_
        rw [show (10 : Int32) = nI 10 from rfl, nI_mul, nI_add, hk]
        refine Z_istore dX11_best_154 (Nat.le_of_ble_eq_true rfl) (Nat.le_of_ble_eq_true rfl) rfl (ls' := [_, _, _, _, _, _, _, _, _, _, _, _, _]) rfl (pc' := 156) rfl ?_
        refine Z_iload dX11_best_156 rfl (pc' := 158) rfl ?_
        refine Z_istore dX11_best_158 (Nat.le_of_ble_eq_true rfl) (Nat.le_of_ble_eq_true rfl) rfl (ls' := [_, _, _, _, _, _, _, _, _, _, _, _, _]) rfl (pc' := 160) rfl ?_
        rw [bsS_n c_102, if_pos (show a < v k from i_lt c_124)] at hK
        exact hK _
  · refine Z_iload dX11_best_105 rfl (pc' := 107) rfl ?_
    refine Z_iload dX11_best_107 rfl (pc' := 109) rfl ?_
    refine Z_icmp_ge dX11_best_109 (tgt := 116) rfl (pc' := 112) rfl (fun c_109 => ?_) (fun c_109 => ?_)
    · refine Z_iconst dX11_best_116 (v := 0) (by decide) (pc' := 117) rfl ?_
      refine Z_goto dX11_best_117 (tgt := 132) rfl ?_
      refine Z_istore dX11_best_132 (Nat.le_of_ble_eq_true rfl) (Nat.le_of_ble_eq_true rfl) rfl (ls' := [_, _, _, _, _, _, _, _, _, _, _, _, _]) rfl (pc' := 134) rfl ?_
      refine Z_iload dX11_best_134 rfl (pc' := 136) rfl ?_
      refine Z_bipush dX11_best_136 (v := (-9)) (by decide) (pc' := 138) rfl ?_
      refine Z_icmp_eq dX11_best_138 (tgt := 146) rfl (pc' := 141) rfl (fun c_138 => absurd c_138 (nI_nm9 (by omega))) (fun c_138 => ?_)
      refine Z_iload dX11_best_141 rfl (pc' := 143) rfl ?_
      refine Z_if_eq dX11_best_143 (tgt := 160) rfl (pc' := 146) rfl (fun c_143 => ?_) (fun c_143 => ?_)
      · obtain rfl : x = 1 := c_102
        rw [bsS_1, if_neg (show ¬ v k < a from i_nlt c_109)] at hK
        exact hK _
      · refine Z_bipush dX11_best_146 (v := 10) (by decide) (pc' := 148) rfl ?_
        refine Z_iload dX11_best_148 rfl (pc' := 150) rfl ?_
        refine Z_imul dX11_best_150 (pc' := 151) rfl ?_
        refine Z_iload dX11_best_151 rfl (pc' := 153) rfl ?_
        refine Z_iadd dX11_best_153 (pc' := 154) rfl ?_
        rw [show (10 : Int32) = nI 10 from rfl, nI_mul, nI_add, hk]
        refine Z_istore dX11_best_154 (Nat.le_of_ble_eq_true rfl) (Nat.le_of_ble_eq_true rfl) rfl (ls' := [_, _, _, _, _, _, _, _, _, _, _, _, _]) rfl (pc' := 156) rfl ?_
        refine Z_iload dX11_best_156 rfl (pc' := 158) rfl ?_
        refine Z_istore dX11_best_158 (Nat.le_of_ble_eq_true rfl) (Nat.le_of_ble_eq_true rfl) rfl (ls' := [_, _, _, _, _, _, _, _, _, _, _, _, _]) rfl (pc' := 160) rfl ?_
        exact absurd rfl c_143
    · refine Z_iconst dX11_best_112 (v := 1) (by decide) (pc' := 113) rfl ?_
      refine Z_goto dX11_best_113 (tgt := 132) rfl ?_
      refine Z_istore dX11_best_132 (Nat.le_of_ble_eq_true rfl) (Nat.le_of_ble_eq_true rfl) rfl (ls' := [_, _, _, _, _, _, _, _, _, _, _, _, _]) rfl (pc' := 134) rfl ?_
      refine Z_iload dX11_best_134 rfl (pc' := 136) rfl ?_
      refine Z_bipush dX11_best_136 (v := (-9)) (by decide) (pc' := 138) rfl ?_
      refine Z_icmp_eq dX11_best_138 (tgt := 146) rfl (pc' := 141) rfl (fun c_138 => absurd c_138 (nI_nm9 (by omega))) (fun c_138 => ?_)
      refine Z_iload dX11_best_141 rfl (pc' := 143) rfl ?_
      refine Z_if_eq dX11_best_143 (tgt := 160) rfl (pc' := 146) rfl (fun c_143 => ?_) (fun c_143 => ?_)
      · exact absurd c_143 (by decide)
      · refine Z_bipush dX11_best_146 (v := 10) (by decide) (pc' := 148) rfl ?_
        refine Z_iload dX11_best_148 rfl (pc' := 150) rfl ?_
        refine Z_imul dX11_best_150 (pc' := 151) rfl ?_
        refine Z_iload dX11_best_151 rfl (pc' := 153) rfl ?_
        refine Z_iadd dX11_best_153 (pc' := 154) rfl ?_
        rw [show (10 : Int32) = nI 10 from rfl, nI_mul, nI_add, hk]
        refine Z_istore dX11_best_154 (Nat.le_of_ble_eq_true rfl) (Nat.le_of_ble_eq_true rfl) rfl (ls' := [_, _, _, _, _, _, _, _, _, _, _, _, _]) rfl (pc' := 156) rfl ?_
        refine Z_iload dX11_best_156 rfl (pc' := 158) rfl ?_
        refine Z_istore dX11_best_158 (Nat.le_of_ble_eq_true rfl) (Nat.le_of_ble_eq_true rfl) rfl (ls' := [_, _, _, _, _, _, _, _, _, _, _, _, _]) rfl (pc' := 160) rfl ?_
        obtain rfl : x = 1 := c_102
        rw [bsS_1, if_pos (show v k < a from i_lt c_109)] at hK
        exact hK _
theorem lp_X11_best_98 {S : ZS} {n : Nat} {R : Option Value → ZW → Prop} {x y : Int32} {l1 l2 : Int64} {k r b : Nat} {v : Nat → Int32} (hk : 10 * r + b = 10 + k) {s : Option (Nat × Int32)} (hs : ∀ q a, s = some (q, a) → q < 100) (hK : ∀ z : Int32, Z m_X11_best 0 0 R 160 [some (.ref 0), some (.int x), some (.int y), some (.long l1), none, some (.int (bsW (bsS v x k s))), some (.int (bsA (bsS v x k s))), some (.int (nI r)), some (.int (nI b)), some (.long l2), none, some (.int (v k)), some (.int z)] [] (zw S n)) : Z m_X11_best 0 0 R 98 [some (.ref 0), some (.int x), some (.int y), some (.long l1), none, some (.int (bsW s)), some (.int (bsA s)), some (.int (nI r)), some (.int (nI b)), some (.long l2), none] [.int (v k)] (zw S n) := by
  cases s with
  | none => exact lp_X11_best_n hk hK
  | some p =>
    obtain ⟨q, a⟩ := p
    exact lp_X11_best_s hk (hs q a rfl) hK
set_option maxRecDepth 100000 in
set_option maxHeartbeats 4000000 in
theorem lp_X11_best_160 {S : ZS} {n : Nat} {R : Option Value → ZW → Prop} {x y z u1 u2 v : Int32} {l1 l2 : Int64} {r b : Nat} (hK : Z m_X11_best 0 0 R 53 [some (.ref 0), some (.int x), some (.int y), some (.long l1), none, some (.int u1), some (.int u2), some (.int (nI r)), some (.int (nI (b + 1)))] [] (zw S n)) : Z m_X11_best 0 0 R 160 [some (.ref 0), some (.int x), some (.int y), some (.long l1), none, some (.int u1), some (.int u2), some (.int (nI r)), some (.int (nI b)), some (.long l2), none, some (.int v), some (.int z)] [] (zw S n) := by
  refine Z_iinc dX11_best_160 rfl (nI_inc b) (Nat.le_of_ble_eq_true rfl) rfl (ls' := [_, _, _, _, _, _, _, _, _, _, _, _, _]) rfl (pc' := 163) rfl ?_
  refine Z_goto dX11_best_163 (tgt := 53) rfl ?_
  refine Z_take 9 (ls' := [_, _, _, _, _, _, _, _, _]) rfl ?_
  exact hK
set_option maxRecDepth 100000 in
set_option maxHeartbeats 4000000 in
theorem lp_X11_best_b {S : ZS} {n : Nat} {M : Ms} (hI : CI S n M) {R : Option Value → ZW → Prop} {x y : Int32} {T : Option (Nat × Int32)} {r : Nat} (hr1 : 1 ≤ r) (hr : r ≤ 9) (hK : ∀ s, (∀ q a, s = some (q, a) → q < 100) → bsF (bsV M x) x (90 - 10 * r) (10 * r) s = T → Z m_X11_best 0 0 R 166 [some (.ref 0), some (.int x), some (.int y), some (.long (zmk (mcf M))), none, some (.int (bsW s)), some (.int (bsA s)), some (.int (nI r)), some (.int (nI 10))] [] (zw S n)) : ∀ (m b : Nat) (s : Option (Nat × Int32)), b + m = 10 → (∀ q a, s = some (q, a) → q < 100) → bsF (bsV M x) x (90 - 10 * r + m) (10 * (r - 1) + b) s = T → Z m_X11_best 0 0 R 53 [some (.ref 0), some (.int x), some (.int y), some (.long (zmk (mcf M))), none, some (.int (bsW s)), some (.int (bsA s)), some (.int (nI r)), some (.int (nI b))] [] (zw S n) := by
  intro m
  induction m with
  | zero =>
    intro b s h hs hT
    obtain rfl : b = 10 := by omega
    rw [Nat.add_zero, show 10 * (r - 1) + 10 = 10 * r by omega] at hT
    refine Z_iload dX11_best_53 rfl (pc' := 55) rfl ?_
    refine Z_bipush dX11_best_55 (v := 9) (by decide) (pc' := 57) rfl ?_
    refine Z_icmp_gt dX11_best_57 (tgt := 166) rfl (pc' := 60) rfl (fun c_57 => ?_) (fun c_57 => absurd c_57 (fun c => c (by decide)))
    exact hK s hs hT
  | succ m ih =>
    intro b s h hs hT
    have hk : 10 * (r - 1) + b < 90 := by omega
    have hd : 1 + (10 * (r - 1) + b) / 10 = r ∧ (10 * (r - 1) + b) % 10 = b := by omega
    rw [← Nat.add_assoc, bsF_s] at hT
    refine Z_iload dX11_best_53 rfl (pc' := 55) rfl ?_
    refine Z_bipush dX11_best_55 (v := 9) (by decide) (pc' := 57) rfl ?_
    refine Z_icmp_gt dX11_best_57 (tgt := 166) rfl (pc' := 60) rfl (fun c_57 => absurd c_57 (by rw [nI9, nI_ltn (by omega) (by omega)]; omega)) (fun c_57 => ?_)
    refine Z_aload_n dX11_best_60 rfl (z_isref _) (pc' := 61) rfl ?_
    refine Z_gR dX11_best_61 rfl zgr_RX11_10_0 (pc' := 64) rfl ?_
    refine Z_lload_n dX11_best_64 rfl (pc' := 65) rfl ?_
    refine Z_iload dX11_best_65 rfl (pc' := 67) rfl ?_
    refine Z_iload dX11_best_67 rfl (pc' := 69) rfl ?_
    refine Z_cVe dX11_best_69 rfl zcw_X2_reachedFrom (As := [_, _, _]) (rest := []) rfl ⟨Nat.le_of_ble_eq_true rfl, Nat.le_of_ble_eq_true rfl⟩ (Nat.le_of_ble_eq_true rfl) (zRcv.lay zob_1) ⟨zcw_X2_reachedFrom.2.2.2.2, Nat.le_of_ble_eq_true rfl⟩ zk_RX11_111 (k_reachedFrom (bg := b) hI (by omega)) (pc' := 72) rfl ?_
    refine Z_lstore dX11_best_72 (Nat.le_of_ble_eq_true rfl) (Nat.le_of_ble_eq_true rfl) rfl (ls' := [_, _, _, _, _, _, _, _, _, _, _]) rfl (pc' := 74) rfl ?_
    refine Z_iload_n dX11_best_74 rfl (pc' := 75) rfl ?_
    refine Z_iconst dX11_best_75 (v := 2) (by decide) (pc' := 76) rfl ?_
    refine Z_icmp_ne dX11_best_76 (tgt := 90) rfl (pc' := 79) rfl (fun c_76 => ?_) (fun c_76 => ?_)
    · refine Z_aload_n dX11_best_90 rfl (z_isref _) (pc' := 91) rfl ?_
      refine Z_lload dX11_best_91 rfl (pc' := 93) rfl ?_
      refine Z_iload dX11_best_93 rfl (pc' := 95) rfl ?_
      refine Z_cVe dX11_best_95 rfl zcw_X11_payOf (As := [_, _]) (rest := []) rfl ⟨Nat.le_of_ble_eq_true rfl, Nat.le_of_ble_eq_true rfl⟩ (Nat.le_of_ble_eq_true rfl) (zRcv.lay zob_0) ⟨zcw_X11_payOf.2.2.2.2, Nat.le_of_ble_eq_true rfl⟩ zk_RX11_119 (c_X11_payOf hI) (pc' := 98) rfl ?_
      rw [show pyS (mc M) (mcf M) (nI r) b = bsV M x (10 * (r - 1) + b) by unfold bsV; rw [if_neg c_76, hd.1, hd.2]]
      refine lp_X11_best_98 (by omega) hs fun z => ?_
      exact lp_X11_best_160 (ih (b + 1) _ (by omega) (bsS_lt hk hs) hT)
    · refine Z_iload dX11_best_79 rfl (pc' := 81) rfl ?_
      refine Z_lload dX11_best_81 rfl (pc' := 83) rfl ?_
      refine Z_cSe dX11_best_83 rfl zcw_X11_stepsOf (As := [_]) (rest := [_]) rfl ⟨Nat.le_of_ble_eq_true rfl, Nat.le_of_ble_eq_true rfl⟩ (Nat.le_of_ble_eq_true rfl) ⟨zcw_X11_stepsOf.2.2.2.2, Nat.le_of_ble_eq_true rfl⟩ zk_RX11_115 (k_stepsOf hI) (pc' := 86) rfl ?_
      refine Z_imul dX11_best_86 (pc' := 87) rfl ?_
      refine Z_goto dX11_best_87 (tgt := 98) rfl ?_
      rw [show nI r * nI ((WL (mc M) (mcf M) (nI r) b).length - 1) = bsV M x (10 * (r - 1) + b) by unfold bsV; rw [if_pos c_76, hd.1, hd.2]; rfl]
      refine lp_X11_best_98 (by omega) hs fun z => ?_
      exact lp_X11_best_160 (ih (b + 1) _ (by omega) (bsS_lt hk hs) hT)
set_option maxRecDepth 100000 in
set_option maxHeartbeats 4000000 in
theorem lp_X11_best_166 {S : ZS} {n : Nat} {R : Option Value → ZW → Prop} {x y u1 u2 z : Int32} {l1 : Int64} {r : Nat} (hK : Z m_X11_best 0 0 R 43 [some (.ref 0), some (.int x), some (.int y), some (.long l1), none, some (.int u1), some (.int u2), some (.int (nI (r + 1)))] [] (zw S n)) : Z m_X11_best 0 0 R 166 [some (.ref 0), some (.int x), some (.int y), some (.long l1), none, some (.int u1), some (.int u2), some (.int (nI r)), some (.int z)] [] (zw S n) := by
  refine Z_iinc dX11_best_166 rfl (nI_inc r) (Nat.le_of_ble_eq_true rfl) rfl (ls' := [_, _, _, _, _, _, _, _, _]) rfl (pc' := 169) rfl ?_
  refine Z_goto dX11_best_169 (tgt := 43) rfl ?_
  refine Z_take 8 (ls' := [_, _, _, _, _, _, _, _]) rfl ?_
  exact hK
set_option maxRecDepth 100000 in
set_option maxHeartbeats 4000000 in
theorem lp_X11_best {S : ZS} {n : Nat} {M : Ms} (hI : CI S n M) {R : Option Value → ZW → Prop} {x y : Int32} {T : Option (Nat × Int32)} (hR : R (some (.int (if y = 0 then bsW T else bsA T))) (zw S n)) : ∀ (m r : Nat) (s : Option (Nat × Int32)), r + m = 10 → 1 ≤ r → (∀ q a, s = some (q, a) → q < 100) → bsF (bsV M x) x (10 * m) (10 * (r - 1)) s = T → Z m_X11_best 0 0 R 43 [some (.ref 0), some (.int x), some (.int y), some (.long (zmk (mcf M))), none, some (.int (bsW s)), some (.int (bsA s)), some (.int (nI r))] [] (zw S n) := by
  intro m
  induction m with
  | zero =>
    intro r s h h1 hs hT
    obtain rfl : r = 10 := by omega
    obtain rfl : s = T := by rw [Nat.mul_zero] at hT; exact hT
    refine Z_iload dX11_best_43 rfl (pc' := 45) rfl ?_
    refine Z_bipush dX11_best_45 (v := 9) (by decide) (pc' := 47) rfl ?_
    refine Z_icmp_gt dX11_best_47 (tgt := 172) rfl (pc' := 50) rfl (fun c_47 => ?_) (fun c_47 => absurd c_47 (fun c => c (by decide)))
    refine Z_iload_n dX11_best_172 rfl (pc' := 173) rfl ?_
    refine Z_if_ne dX11_best_173 (tgt := 181) rfl (pc' := 176) rfl (fun c_173 => ?_) (fun c_173 => ?_)
    · refine Z_iload dX11_best_181 rfl (pc' := 183) rfl ?_
      exact Z_ireturn dX11_best_183 rfl rfl (by rw [if_neg c_173] at hR; exact hR)
    · refine Z_iload dX11_best_176 rfl (pc' := 178) rfl ?_
      refine Z_goto dX11_best_178 (tgt := 183) rfl ?_
      exact Z_ireturn dX11_best_183 rfl rfl (by rw [if_pos c_173] at hR; exact hR)
  | succ m ih =>
    intro r s h h1 hs hT
    refine Z_iload dX11_best_43 rfl (pc' := 45) rfl ?_
    refine Z_bipush dX11_best_45 (v := 9) (by decide) (pc' := 47) rfl ?_
    refine Z_icmp_gt dX11_best_47 (tgt := 172) rfl (pc' := 50) rfl (fun c_47 => absurd c_47 (by rw [nI9, nI_ltn (by omega) (by omega)]; omega)) (fun c_47 => ?_)
    refine Z_iconst dX11_best_50 (v := 0) (by decide) (pc' := 51) rfl ?_
    refine Z_istore dX11_best_51 (Nat.le_of_ble_eq_true rfl) (Nat.le_of_ble_eq_true rfl) rfl (ls' := [_, _, _, _, _, _, _, _, _]) rfl (pc' := 53) rfl ?_
    refine lp_X11_best_b hI (T := T) h1 (by omega) (fun s2 hs2 hT2 => ?_) 10 0 s rfl hs (by rw [show 90 - 10 * r + 10 = 10 * (m + 1) by omega]; exact hT)
    exact lp_X11_best_166 (ih (r + 1) s2 (by omega) (by omega) hs2 (by rw [show 10 * m = 90 - 10 * r by omega, show 10 * (r + 1 - 1) = 10 * r by omega]; exact hT2))
set_option maxRecDepth 100000 in
set_option maxHeartbeats 4000000 in
theorem c_X11_best {S : ZS} {n : Nat} {M : Ms} (hI : CI S n M) {a b0 : Int32} : zM m_X11_best 0 0 [.ref 0, .int a, .int b0] (zw S n) (pR S n (spBest M a b0)) := by
  show Z m_X11_best _ _ _ 0 [some (.ref _), some (.int _), some (.int _)] [] _
  refine Z_iload_n dX11_best_0 rfl (pc' := 1) rfl ?_
  refine Z_if_lt dX11_best_1 (tgt := 18) rfl (pc' := 4) rfl (fun c_1 => ?_) (fun c_1 => ?_)
  · refine Z_aload_n dX11_best_18 rfl (z_isref _) (pc' := 19) rfl ?_
    refine Z_bipush dX11_best_19 (v := (-2)) (by decide) (pc' := 21) rfl ?_
    refine Z_cVe dX11_best_21 rfl zcw_X11_refuse (As := [_]) (rest := []) rfl ⟨Nat.le_of_ble_eq_true rfl, Nat.le_of_ble_eq_true rfl⟩ (Nat.le_of_ble_eq_true rfl) (zRcv.lay zob_0) ⟨zcw_X11_refuse.2.2.2.2, Nat.le_of_ble_eq_true rfl⟩ zk_RX11_43 (c_X11_refuse (k := 2) (by decide) (by decide)) (pc' := 24) rfl ?_
    exact Z_ireturn dX11_best_24 rfl rfl (pR.no hI (by decide) (by unfold spBest; rw [if_pos (Or.inl c_1)]))
  · refine Z_iload_n dX11_best_4 rfl (pc' := 5) rfl ?_
    refine Z_iconst dX11_best_5 (v := 2) (by decide) (pc' := 6) rfl ?_
    refine Z_icmp_gt dX11_best_6 (tgt := 18) rfl (pc' := 9) rfl (fun c_6 => ?_) (fun c_6 => ?_)
    · refine Z_aload_n dX11_best_18 rfl (z_isref _) (pc' := 19) rfl ?_
      refine Z_bipush dX11_best_19 (v := (-2)) (by decide) (pc' := 21) rfl ?_
      refine Z_cVe dX11_best_21 rfl zcw_X11_refuse (As := [_]) (rest := []) rfl ⟨Nat.le_of_ble_eq_true rfl, Nat.le_of_ble_eq_true rfl⟩ (Nat.le_of_ble_eq_true rfl) (zRcv.lay zob_0) ⟨zcw_X11_refuse.2.2.2.2, Nat.le_of_ble_eq_true rfl⟩ zk_RX11_43 (c_X11_refuse (k := 2) (by decide) (by decide)) (pc' := 24) rfl ?_
      exact Z_ireturn dX11_best_24 rfl rfl (pR.no hI (by decide) (by unfold spBest; rw [if_pos (Or.inr (Or.inl c_6))]))
    · refine Z_iload_n dX11_best_9 rfl (pc' := 10) rfl ?_
      refine Z_if_lt dX11_best_10 (tgt := 18) rfl (pc' := 13) rfl (fun c_10 => ?_) (fun c_10 => ?_)
      · refine Z_aload_n dX11_best_18 rfl (z_isref _) (pc' := 19) rfl ?_
        refine Z_bipush dX11_best_19 (v := (-2)) (by decide) (pc' := 21) rfl ?_
        refine Z_cVe dX11_best_21 rfl zcw_X11_refuse (As := [_]) (rest := []) rfl ⟨Nat.le_of_ble_eq_true rfl, Nat.le_of_ble_eq_true rfl⟩ (Nat.le_of_ble_eq_true rfl) (zRcv.lay zob_0) ⟨zcw_X11_refuse.2.2.2.2, Nat.le_of_ble_eq_true rfl⟩ zk_RX11_43 (c_X11_refuse (k := 2) (by decide) (by decide)) (pc' := 24) rfl ?_
        exact Z_ireturn dX11_best_24 rfl rfl (pR.no hI (by decide) (by unfold spBest; rw [if_pos (Or.inr (Or.inr (Or.inl c_10)))]))
      · refine Z_iload_n dX11_best_13 rfl (pc' := 14) rfl ?_
        refine Z_iconst dX11_best_14 (v := 1) (by decide) (pc' := 15) rfl ?_
        refine Z_icmp_le dX11_best_15 (tgt := 25) rfl (pc' := 18) rfl (fun c_15 => ?_) (fun c_15 => ?_)
        · refine Z_aload_n dX11_best_25 rfl (z_isref _) (pc' := 26) rfl ?_
          refine Z_gR dX11_best_26 rfl zgr_RX11_10_0 (pc' := 29) rfl ?_
          refine Z_cVe dX11_best_29 rfl zcw_X2_shoreNow (As := []) (rest := []) rfl ⟨Nat.le_of_ble_eq_true rfl, Nat.le_of_ble_eq_true rfl⟩ (Nat.le_of_ble_eq_true rfl) (zRcv.lay zob_1) ⟨zcw_X2_shoreNow.2.2.2.2, Nat.le_of_ble_eq_true rfl⟩ zk_RX11_99 (k_shoreNow hI) (pc' := 32) rfl ?_
          refine Z_lstore_n dX11_best_32 (Nat.le_of_ble_eq_true rfl) (Nat.le_of_ble_eq_true rfl) rfl (ls' := [_, _, _, _, _]) rfl (pc' := 33) rfl ?_
          refine Z_bipush dX11_best_33 (v := (-9)) (by decide) (pc' := 35) rfl ?_
          refine Z_istore dX11_best_35 (Nat.le_of_ble_eq_true rfl) (Nat.le_of_ble_eq_true rfl) rfl (ls' := [_, _, _, _, _, _]) rfl (pc' := 37) rfl ?_
          refine Z_iconst dX11_best_37 (v := 0) (by decide) (pc' := 38) rfl ?_
          refine Z_istore dX11_best_38 (Nat.le_of_ble_eq_true rfl) (Nat.le_of_ble_eq_true rfl) rfl (ls' := [_, _, _, _, _, _, _]) rfl (pc' := 40) rfl ?_
          refine Z_iconst dX11_best_40 (v := 1) (by decide) (pc' := 41) rfl ?_
          refine Z_istore dX11_best_41 (Nat.le_of_ble_eq_true rfl) (Nat.le_of_ble_eq_true rfl) rfl (ls' := [_, _, _, _, _, _, _, _]) rfl (pc' := 43) rfl ?_
          exact lp_X11_best hI (T := bsF (bsV M a) a 90 0 none) (pR.st hI (by unfold spBest; rw [if_neg (n_or c_1 (n_or c_6 (n_or c_10 (i_nlt c_15))))])) 9 1 none rfl (by omega) (fun q a h => by cases h) (by rw [show 10 * 9 = 90 from rfl, show 10 * (1 - 1) = 0 from rfl])
        · refine Z_aload_n dX11_best_18 rfl (z_isref _) (pc' := 19) rfl ?_
          refine Z_bipush dX11_best_19 (v := (-2)) (by decide) (pc' := 21) rfl ?_
          refine Z_cVe dX11_best_21 rfl zcw_X11_refuse (As := [_]) (rest := []) rfl ⟨Nat.le_of_ble_eq_true rfl, Nat.le_of_ble_eq_true rfl⟩ (Nat.le_of_ble_eq_true rfl) (zRcv.lay zob_0) ⟨zcw_X11_refuse.2.2.2.2, Nat.le_of_ble_eq_true rfl⟩ zk_RX11_43 (c_X11_refuse (k := 2) (by decide) (by decide)) (pc' := 24) rfl ?_
          exact Z_ireturn dX11_best_24 rfl rfl (pR.no hI (by decide) (by unfold spBest; rw [if_pos (Or.inr (Or.inr (Or.inr (i_lt c_15))))]))
def mpS (v : Nat → Int32) (x : Int32) (k : Nat) (s : Nat × Option Nat) : Nat × Option Nat := if v k = x then (s.1 + 1, match s.2 with
    | none => some (100 + k)
    | some y => some y) else s
theorem mpF_s (v : Nat → Int32) (x : Int32) (m k : Nat) (s : Nat × Option Nat) : mpF v x (m + 1) k s = mpF v x m (k + 1) (mpS v x k s) := rfl
theorem mpS_lt {v : Nat → Int32} {x : Int32} {k : Nat} {s : Nat × Option Nat} (hk : k < 900) (h : ∀ q, s.2 = some q → q < 1000) : ∀ q, (mpS v x k s).2 = some q → q < 1000 := by
  intro q e
  unfold mpS at e
  split at e
  · cases h2 : s.2 with
    | none => rw [h2] at e; cases e; omega
    | some y => rw [h2] at e; cases e; exact h _ h2
  · exact h q e
set_option maxRecDepth 100000 in
set_option maxHeartbeats 4000000 in
theorem lp_X11_map_h {S : ZS} {n : Nat} {M : Ms} (hI : CI S n M) {R : Option Value → ZW → Prop} {x y : Int32} {T : Nat × Option Nat} {r g : Nat} (hr1 : 1 ≤ r) (hr : r ≤ 9) (hg : g ≤ 9) (hK : ∀ s : Nat × Option Nat, (∀ q, s.2 = some q → q < 1000) → mpF (mpV M) x (900 - (100 * (r - 1) + 10 * g + 10)) (100 * (r - 1) + 10 * g + 10) s = T → Z m_X11_map 0 0 R 121 [some (.ref 0), some (.int x), some (.int y), some (.int (oI s.2)), some (.int (nI s.1)), some (.int (nI r)), some (.int (nI g)), some (.int (nI 10))] [] (zw S n)) : ∀ (m b : Nat) (s : Nat × Option Nat), b + m = 10 → (∀ q, s.2 = some q → q < 1000) → mpF (mpV M) x (900 - (100 * (r - 1) + 10 * g + b)) (100 * (r - 1) + 10 * g + b) s = T → Z m_X11_map 0 0 R 56 [some (.ref 0), some (.int x), some (.int y), some (.int (oI s.2)), some (.int (nI s.1)), some (.int (nI r)), some (.int (nI g)), some (.int (nI b))] [] (zw S n) := by
  intro m
  induction m with
  | zero =>
    intro b s h hs hT
    obtain rfl : b = 10 := by omega
    refine Z_iload dX11_map_56 rfl (pc' := 58) rfl ?_
    refine Z_bipush dX11_map_58 (v := 9) (by decide) (pc' := 60) rfl ?_
    refine Z_icmp_gt dX11_map_60 (tgt := 121) rfl (pc' := 63) rfl (fun c_60 => ?_) (fun c_60 => absurd c_60 (fun c => c (by decide)))
    exact hK s hs hT
  | succ m ih =>
    intro b s h hs hT
    obtain ⟨k0, hk0⟩ : ∃ k0, k0 = 100 * (r - 1) + 10 * g + b := ⟨_, rfl⟩
    have hd : 1 + k0 / 100 = r ∧ k0 / 10 % 10 = g ∧ k0 % 10 = b := by omega
    have hv : mlS (mc M) (shS (mc M) b) (nI r) g = mpV M k0 := by unfold mpV; rw [hd.1, hd.2.1, hd.2.2]
    rw [← hk0, show 900 - k0 = (900 - (100 * (r - 1) + 10 * g + (b + 1))) + 1 by omega, mpF_s, show k0 + 1 = 100 * (r - 1) + 10 * g + (b + 1) by omega] at hT
    have hs2 := mpS_lt (v := mpV M) (x := x) (k := k0) (by omega) hs
    refine Z_iload dX11_map_56 rfl (pc' := 58) rfl ?_
    refine Z_bipush dX11_map_58 (v := 9) (by decide) (pc' := 60) rfl ?_
    refine Z_icmp_gt dX11_map_60 (tgt := 121) rfl (pc' := 63) rfl (fun c_60 => absurd c_60 (by rw [nI9, nI_ltn (by omega) (by omega)]; omega)) (fun c_60 => ?_)
    obtain ⟨f, t⟩ := s
    cases t with
    | none =>
      skip
      refine Z_aload_n dX11_map_63 rfl (z_isref _) (pc' := 64) rfl ?_
      refine Z_gR dX11_map_64 rfl zgr_RX11_10_0 (pc' := 67) rfl ?_
      refine Z_aload_n dX11_map_67 rfl (z_isref _) (pc' := 68) rfl ?_
      refine Z_gR dX11_map_68 rfl zgr_RX11_10_0 (pc' := 71) rfl ?_
      refine Z_iload dX11_map_71 rfl (pc' := 73) rfl ?_
      refine Z_cVe dX11_map_73 rfl zcw_X2_shoreAt (As := [_]) (rest := [_]) rfl ⟨Nat.le_of_ble_eq_true rfl, Nat.le_of_ble_eq_true rfl⟩ (Nat.le_of_ble_eq_true rfl) (zRcv.lay zob_1) ⟨zcw_X2_shoreAt.2.2.2.2, Nat.le_of_ble_eq_true rfl⟩ zk_RX11_152 (k_shoreAt hI (by omega)) (pc' := 76) rfl ?_
      refine Z_iload dX11_map_76 rfl (pc' := 78) rfl ?_
      refine Z_iload dX11_map_78 rfl (pc' := 80) rfl ?_
      refine Z_cVe dX11_map_80 rfl zcw_X2_milesOf (As := [_, _, _]) (rest := []) rfl ⟨Nat.le_of_ble_eq_true rfl, Nat.le_of_ble_eq_true rfl⟩ (Nat.le_of_ble_eq_true rfl) (zRcv.lay zob_1) ⟨zcw_X2_milesOf.2.2.2.2, Nat.le_of_ble_eq_true rfl⟩ zk_RX11_136 (k_milesOf (bg := g) hI (by omega)) (pc' := 83) rfl ?_
      refine Z_iload_n dX11_map_83 rfl (pc' := 84) rfl ?_
      refine Z_icmp_ne dX11_map_84 (tgt := 115) rfl (pc' := 87) rfl (fun c_84 => ?_) (fun c_84 => ?_)
      · refine Z_iinc dX11_map_115 rfl (nI_inc b) (Nat.le_of_ble_eq_true rfl) rfl (ls' := [_, _, _, _, _, _, _, _]) rfl (pc' := 118) rfl ?_
        refine Z_goto dX11_map_118 (tgt := 56) rfl ?_
        refine Z_take 8 (ls' := [_, _, _, _, _, _, _, _]) rfl ?_
        rw [show mpS (mpV M) x k0 (f, none) = (f, none) from if_neg (fun e => c_84 (hv.trans e))] at hT
        exact ih (b + 1) (f, none) (by omega) (by rw [← show mpS (mpV M) x k0 (f, none) = (f, none) from if_neg (fun e => c_84 (hv.trans e))]; exact hs2) hT
      · refine Z_iinc dX11_map_87 rfl (nI_inc _) (Nat.le_of_ble_eq_true rfl) rfl (ls' := [_, _, _, _, _, _, _, _]) rfl (pc' := 90) rfl ?_
        refine Z_iload_n dX11_map_90 rfl (pc' := 91) rfl ?_
        refine Z_bipush dX11_map_91 (v := (-9)) (by decide) (pc' := 93) rfl ?_
        refine Z_icmp_ne dX11_map_93 (tgt := 113) rfl (pc' := 96) rfl (fun c_93 => absurd c_93 (fun c => c rfl)) (fun c_93 => ?_)
        refine Z_bipush dX11_map_96 (v := 100) (by decide) (pc' := 98) rfl ?_
        refine Z_iload dX11_map_98 rfl (pc' := 100) rfl ?_
        refine Z_imul dX11_map_100 (pc' := 101) rfl ?_
        refine Z_bipush dX11_map_101 (v := 10) (by decide) (pc' := 103) rfl ?_
        refine Z_iload dX11_map_103 rfl (pc' := 105) rfl ?_
        refine Z_imul dX11_map_105 (pc' := 106) rfl ?_
        refine Z_iadd dX11_map_106 (pc' := 107) rfl ?_
        refine Z_iload dX11_map_107 rfl (pc' := 109) rfl ?_
        refine Z_iadd dX11_map_109 (pc' := 110) rfl ?_
        rw [show (100 : Int32) = nI 100 from rfl, show (10 : Int32) = nI 10 from rfl, nI_mul, nI_mul, nI_add, nI_add, show 100 * r + 10 * g + b = 100 + k0 by omega]
        refine Z_goto dX11_map_110 (tgt := 114) rfl ?_
        refine Z_istore_n dX11_map_114 (Nat.le_of_ble_eq_true rfl) (Nat.le_of_ble_eq_true rfl) rfl (ls' := [_, _, _, _, _, _, _, _]) rfl (pc' := 115) rfl ?_
        refine Z_iinc dX11_map_115 rfl (nI_inc b) (Nat.le_of_ble_eq_true rfl) rfl (ls' := [_, _, _, _, _, _, _, _]) rfl (pc' := 118) rfl ?_
        refine Z_goto dX11_map_118 (tgt := 56) rfl ?_
        refine Z_take 8 (ls' := [_, _, _, _, _, _, _, _]) rfl ?_
        rw [show mpS (mpV M) x k0 (f, none) = (f + 1, some (100 + k0)) from if_pos (hv.symm.trans c_84)] at hT
        exact ih (b + 1) (f + 1, some (100 + k0)) (by omega) (by rw [← show mpS (mpV M) x k0 (f, none) = (f + 1, some (100 + k0)) from if_pos (hv.symm.trans c_84)]; exact hs2) hT
    | some q =>
      have hq := hs q rfl
      refine Z_aload_n dX11_map_63 rfl (z_isref _) (pc' := 64) rfl ?_
      refine Z_gR dX11_map_64 rfl zgr_RX11_10_0 (pc' := 67) rfl ?_
      refine Z_aload_n dX11_map_67 rfl (z_isref _) (pc' := 68) rfl ?_
      refine Z_gR dX11_map_68 rfl zgr_RX11_10_0 (pc' := 71) rfl ?_
      refine Z_iload dX11_map_71 rfl (pc' := 73) rfl ?_
      refine Z_cVe dX11_map_73 rfl zcw_X2_shoreAt (As := [_]) (rest := [_]) rfl ⟨Nat.le_of_ble_eq_true rfl, Nat.le_of_ble_eq_true rfl⟩ (Nat.le_of_ble_eq_true rfl) (zRcv.lay zob_1) ⟨zcw_X2_shoreAt.2.2.2.2, Nat.le_of_ble_eq_true rfl⟩ zk_RX11_152 (k_shoreAt hI (by omega)) (pc' := 76) rfl ?_
      refine Z_iload dX11_map_76 rfl (pc' := 78) rfl ?_
      refine Z_iload dX11_map_78 rfl (pc' := 80) rfl ?_
      refine Z_cVe dX11_map_80 rfl zcw_X2_milesOf (As := [_, _, _]) (rest := []) rfl ⟨Nat.le_of_ble_eq_true rfl, Nat.le_of_ble_eq_true rfl⟩ (Nat.le_of_ble_eq_true rfl) (zRcv.lay zob_1) ⟨zcw_X2_milesOf.2.2.2.2, Nat.le_of_ble_eq_true rfl⟩ zk_RX11_136 (k_milesOf (bg := g) hI (by omega)) (pc' := 83) rfl ?_
      refine Z_iload_n dX11_map_83 rfl (pc' := 84) rfl ?_
      refine Z_icmp_ne dX11_map_84 (tgt := 115) rfl (pc' := 87) rfl (fun c_84 => ?_) (fun c_84 => ?_)
      · refine Z_iinc dX11_map_115 rfl (nI_inc b) (Nat.le_of_ble_eq_true rfl) rfl (ls' := [_, _, _, _, _, _, _, _]) rfl (pc' := 118) rfl ?_
        refine Z_goto dX11_map_118 (tgt := 56) rfl ?_
        refine Z_take 8 (ls' := [_, _, _, _, _, _, _, _]) rfl ?_
        rw [show mpS (mpV M) x k0 (f, some q) = (f, some q) from if_neg (fun e => c_84 (hv.trans e))] at hT
        exact ih (b + 1) (f, some q) (by omega) (by rw [← show mpS (mpV M) x k0 (f, some q) = (f, some q) from if_neg (fun e => c_84 (hv.trans e))]; exact hs2) hT
      · refine Z_iinc dX11_map_87 rfl (nI_inc _) (Nat.le_of_ble_eq_true rfl) rfl (ls' := [_, _, _, _, _, _, _, _]) rfl (pc' := 90) rfl ?_
        refine Z_iload_n dX11_map_90 rfl (pc' := 91) rfl ?_
        refine Z_bipush dX11_map_91 (v := (-9)) (by decide) (pc' := 93) rfl ?_
        refine Z_icmp_ne dX11_map_93 (tgt := 113) rfl (pc' := 96) rfl (fun c_93 => ?_) (fun c_93 => absurd c_93 (nI_nm9 (by omega)))
        refine Z_iload_n dX11_map_113 rfl (pc' := 114) rfl ?_
        refine Z_istore_n dX11_map_114 (Nat.le_of_ble_eq_true rfl) (Nat.le_of_ble_eq_true rfl) rfl (ls' := [_, _, _, _, _, _, _, _]) rfl (pc' := 115) rfl ?_
        refine Z_iinc dX11_map_115 rfl (nI_inc b) (Nat.le_of_ble_eq_true rfl) rfl (ls' := [_, _, _, _, _, _, _, _]) rfl (pc' := 118) rfl ?_
        refine Z_goto dX11_map_118 (tgt := 56) rfl ?_
        refine Z_take 8 (ls' := [_, _, _, _, _, _, _, _]) rfl ?_
        rw [show mpS (mpV M) x k0 (f, some q) = (f + 1, some q) from if_pos (hv.symm.trans c_84)] at hT
        exact ih (b + 1) (f + 1, some q) (by omega) (by rw [← show mpS (mpV M) x k0 (f, some q) = (f + 1, some q) from if_pos (hv.symm.trans c_84)]; exact hs2) hT
set_option maxRecDepth 100000 in
set_option maxHeartbeats 4000000 in
theorem lp_X11_map_121 {S : ZS} {n : Nat} {R : Option Value → ZW → Prop} {x y u1 u2 z : Int32} {r g : Nat} (hK : Z m_X11_map 0 0 R 46 [some (.ref 0), some (.int x), some (.int y), some (.int u1), some (.int u2), some (.int (nI r)), some (.int (nI (g + 1)))] [] (zw S n)) : Z m_X11_map 0 0 R 121 [some (.ref 0), some (.int x), some (.int y), some (.int u1), some (.int u2), some (.int (nI r)), some (.int (nI g)), some (.int z)] [] (zw S n) := by
  refine Z_iinc dX11_map_121 rfl (nI_inc g) (Nat.le_of_ble_eq_true rfl) rfl (ls' := [_, _, _, _, _, _, _, _]) rfl (pc' := 124) rfl ?_
  refine Z_goto dX11_map_124 (tgt := 46) rfl ?_
  refine Z_take 7 (ls' := [_, _, _, _, _, _, _]) rfl ?_
  exact hK
set_option maxRecDepth 100000 in
set_option maxHeartbeats 4000000 in
theorem lp_X11_map_127 {S : ZS} {n : Nat} {R : Option Value → ZW → Prop} {x y u1 u2 z : Int32} {r : Nat} (hK : Z m_X11_map 0 0 R 36 [some (.ref 0), some (.int x), some (.int y), some (.int u1), some (.int u2), some (.int (nI (r + 1)))] [] (zw S n)) : Z m_X11_map 0 0 R 127 [some (.ref 0), some (.int x), some (.int y), some (.int u1), some (.int u2), some (.int (nI r)), some (.int z)] [] (zw S n) := by
  refine Z_iinc dX11_map_127 rfl (nI_inc r) (Nat.le_of_ble_eq_true rfl) rfl (ls' := [_, _, _, _, _, _, _]) rfl (pc' := 130) rfl ?_
  refine Z_goto dX11_map_130 (tgt := 36) rfl ?_
  refine Z_take 6 (ls' := [_, _, _, _, _, _]) rfl ?_
  exact hK
set_option maxRecDepth 100000 in
set_option maxHeartbeats 4000000 in
theorem lp_X11_map_b {S : ZS} {n : Nat} {M : Ms} (hI : CI S n M) {R : Option Value → ZW → Prop} {x y : Int32} {T : Nat × Option Nat} {r : Nat} (hr1 : 1 ≤ r) (hr : r ≤ 9) (hK : ∀ s : Nat × Option Nat, (∀ q, s.2 = some q → q < 1000) → mpF (mpV M) x (900 - 100 * r) (100 * r) s = T → Z m_X11_map 0 0 R 127 [some (.ref 0), some (.int x), some (.int y), some (.int (oI s.2)), some (.int (nI s.1)), some (.int (nI r)), some (.int (nI 10))] [] (zw S n)) : ∀ (m g : Nat) (s : Nat × Option Nat), g + m = 10 → (∀ q, s.2 = some q → q < 1000) → mpF (mpV M) x (900 - (100 * (r - 1) + 10 * g)) (100 * (r - 1) + 10 * g) s = T → Z m_X11_map 0 0 R 46 [some (.ref 0), some (.int x), some (.int y), some (.int (oI s.2)), some (.int (nI s.1)), some (.int (nI r)), some (.int (nI g))] [] (zw S n) := by
  intro m
  induction m with
  | zero =>
    intro g s h hs hT
    obtain rfl : g = 10 := by omega
    refine Z_iload dX11_map_46 rfl (pc' := 48) rfl ?_
    refine Z_bipush dX11_map_48 (v := 9) (by decide) (pc' := 50) rfl ?_
    refine Z_icmp_gt dX11_map_50 (tgt := 127) rfl (pc' := 53) rfl (fun c_50 => ?_) (fun c_50 => absurd c_50 (fun c => c (by decide)))
    refine hK s hs ?_
    rw [show 100 * (r - 1) + 10 * 10 = 100 * r by omega] at hT
    exact hT
  | succ m ih =>
    intro g s h hs hT
    refine Z_iload dX11_map_46 rfl (pc' := 48) rfl ?_
    refine Z_bipush dX11_map_48 (v := 9) (by decide) (pc' := 50) rfl ?_
    refine Z_icmp_gt dX11_map_50 (tgt := 127) rfl (pc' := 53) rfl (fun c_50 => absurd c_50 (by rw [nI9, nI_ltn (by omega) (by omega)]; omega)) (fun c_50 => ?_)
    refine Z_iconst dX11_map_53 (v := 0) (by decide) (pc' := 54) rfl ?_
    refine Z_istore dX11_map_54 (Nat.le_of_ble_eq_true rfl) (Nat.le_of_ble_eq_true rfl) rfl (ls' := [_, _, _, _, _, _, _, _]) rfl (pc' := 56) rfl ?_
    refine lp_X11_map_h hI (T := T) hr1 hr (by omega) (fun s2 hs2 hT2 => ?_) 10 0 s rfl hs (by rw [Nat.add_zero]; exact hT)
    exact lp_X11_map_121 (ih (g + 1) s2 (by omega) hs2 (by rw [show 100 * (r - 1) + 10 * (g + 1) = 100 * (r - 1) + 10 * g + 10 by omega]; exact hT2))
set_option maxRecDepth 100000 in
set_option maxHeartbeats 4000000 in
theorem lp_X11_map {S : ZS} {n : Nat} {M : Ms} (hI : CI S n M) {R : Option Value → ZW → Prop} {x y : Int32} {T : Nat × Option Nat} (hR : R (some (.int (if y = 0 then nI T.1 else oI T.2))) (zw S n)) : ∀ (m r : Nat) (s : Nat × Option Nat), r + m = 10 → 1 ≤ r → (∀ q, s.2 = some q → q < 1000) → mpF (mpV M) x (900 - 100 * (r - 1)) (100 * (r - 1)) s = T → Z m_X11_map 0 0 R 36 [some (.ref 0), some (.int x), some (.int y), some (.int (oI s.2)), some (.int (nI s.1)), some (.int (nI r))] [] (zw S n) := by
  intro m
  induction m with
  | zero =>
    intro r s h h1 hs hT
    obtain rfl : r = 10 := by omega
    obtain rfl : s = T := by rw [show 900 - 100 * (10 - 1) = 0 from rfl] at hT; exact hT
    refine Z_iload dX11_map_36 rfl (pc' := 38) rfl ?_
    refine Z_bipush dX11_map_38 (v := 9) (by decide) (pc' := 40) rfl ?_
    refine Z_icmp_gt dX11_map_40 (tgt := 133) rfl (pc' := 43) rfl (fun c_40 => ?_) (fun c_40 => absurd c_40 (fun c => c (by decide)))
    refine Z_iload_n dX11_map_133 rfl (pc' := 134) rfl ?_
    refine Z_if_ne dX11_map_134 (tgt := 142) rfl (pc' := 137) rfl (fun c_134 => ?_) (fun c_134 => ?_)
    · refine Z_iload_n dX11_map_142 rfl (pc' := 143) rfl ?_
      exact Z_ireturn dX11_map_143 rfl rfl (by rw [if_neg c_134] at hR; exact hR)
    · refine Z_iload dX11_map_137 rfl (pc' := 139) rfl ?_
      refine Z_goto dX11_map_139 (tgt := 143) rfl ?_
      exact Z_ireturn dX11_map_143 rfl rfl (by rw [if_pos c_134] at hR; exact hR)
  | succ m ih =>
    intro r s h h1 hs hT
    refine Z_iload dX11_map_36 rfl (pc' := 38) rfl ?_
    refine Z_bipush dX11_map_38 (v := 9) (by decide) (pc' := 40) rfl ?_
    refine Z_icmp_gt dX11_map_40 (tgt := 133) rfl (pc' := 43) rfl (fun c_40 => absurd c_40 (by rw [nI9, nI_ltn (by omega) (by omega)]; omega)) (fun c_40 => ?_)
    refine Z_iconst dX11_map_43 (v := 0) (by decide) (pc' := 44) rfl ?_
    refine Z_istore dX11_map_44 (Nat.le_of_ble_eq_true rfl) (Nat.le_of_ble_eq_true rfl) rfl (ls' := [_, _, _, _, _, _, _]) rfl (pc' := 46) rfl ?_
    refine lp_X11_map_b hI (T := T) h1 (by omega) (fun s2 hs2 hT2 => ?_) 10 0 s rfl hs (by rw [show 100 * (r - 1) + 10 * 0 = 100 * (r - 1) by omega]; exact hT)
    exact lp_X11_map_127 (ih (r + 1) s2 (by omega) (by omega) hs2 (by rw [show 100 * (r + 1 - 1) = 100 * r by omega]; exact hT2))
set_option maxRecDepth 100000 in
set_option maxHeartbeats 4000000 in
theorem c_X11_map {S : ZS} {n : Nat} {M : Ms} (hI : CI S n M) {a b0 : Int32} : zM m_X11_map 0 0 [.ref 0, .int a, .int b0] (zw S n) (pR S n (spMap M a b0)) := by
  show Z m_X11_map _ _ _ 0 [some (.ref _), some (.int _), some (.int _)] [] _
  refine Z_iload_n dX11_map_0 rfl (pc' := 1) rfl ?_
  refine Z_if_lt dX11_map_1 (tgt := 9) rfl (pc' := 4) rfl (fun c_1 => ?_) (fun c_1 => ?_)
  · refine Z_aload_n dX11_map_9 rfl (z_isref _) (pc' := 10) rfl ?_
    refine Z_bipush dX11_map_10 (v := (-2)) (by decide) (pc' := 12) rfl ?_
    refine Z_cVe dX11_map_12 rfl zcw_X11_refuse (As := [_]) (rest := []) rfl ⟨Nat.le_of_ble_eq_true rfl, Nat.le_of_ble_eq_true rfl⟩ (Nat.le_of_ble_eq_true rfl) (zRcv.lay zob_0) ⟨zcw_X11_refuse.2.2.2.2, Nat.le_of_ble_eq_true rfl⟩ zk_RX11_43 (c_X11_refuse (k := 2) (by decide) (by decide)) (pc' := 15) rfl ?_
    exact Z_ireturn dX11_map_15 rfl rfl (pR.no hI (by decide) (by unfold spMap; rw [if_pos (Or.inl c_1)]))
  · refine Z_iload_n dX11_map_4 rfl (pc' := 5) rfl ?_
    refine Z_iconst dX11_map_5 (v := 1) (by decide) (pc' := 6) rfl ?_
    refine Z_icmp_le dX11_map_6 (tgt := 16) rfl (pc' := 9) rfl (fun c_6 => ?_) (fun c_6 => ?_)
    · refine Z_iload_n dX11_map_16 rfl (pc' := 17) rfl ?_
      refine Z_if_ge dX11_map_17 (tgt := 27) rfl (pc' := 20) rfl (fun c_17 => ?_) (fun c_17 => ?_)
      · refine Z_bipush dX11_map_27 (v := (-9)) (by decide) (pc' := 29) rfl ?_
        refine Z_istore_n dX11_map_29 (Nat.le_of_ble_eq_true rfl) (Nat.le_of_ble_eq_true rfl) rfl (ls' := [_, _, _, _]) rfl (pc' := 30) rfl ?_
        refine Z_iconst dX11_map_30 (v := 0) (by decide) (pc' := 31) rfl ?_
        refine Z_istore dX11_map_31 (Nat.le_of_ble_eq_true rfl) (Nat.le_of_ble_eq_true rfl) rfl (ls' := [_, _, _, _, _]) rfl (pc' := 33) rfl ?_
        refine Z_iconst dX11_map_33 (v := 1) (by decide) (pc' := 34) rfl ?_
        refine Z_istore dX11_map_34 (Nat.le_of_ble_eq_true rfl) (Nat.le_of_ble_eq_true rfl) rfl (ls' := [_, _, _, _, _, _]) rfl (pc' := 36) rfl ?_
        exact lp_X11_map hI (T := mpF (mpV M) a 900 0 (0, none)) (pR.st hI (by unfold spMap; rw [if_neg (n_or c_1 (i_nlt c_6)), if_neg (i_nlt c_17)])) 9 1 (0, none) rfl (by omega) (fun q h => by cases h) (by rw [show 900 - 100 * (1 - 1) = 900 from rfl, show 100 * (1 - 1) = 0 from rfl])
      · refine Z_aload_n dX11_map_20 rfl (z_isref _) (pc' := 21) rfl ?_
        refine Z_bipush dX11_map_21 (v := (-4)) (by decide) (pc' := 23) rfl ?_
        refine Z_cVe dX11_map_23 rfl zcw_X11_refuse (As := [_]) (rest := []) rfl ⟨Nat.le_of_ble_eq_true rfl, Nat.le_of_ble_eq_true rfl⟩ (Nat.le_of_ble_eq_true rfl) (zRcv.lay zob_0) ⟨zcw_X11_refuse.2.2.2.2, Nat.le_of_ble_eq_true rfl⟩ zk_RX11_43 (c_X11_refuse (k := 4) (by decide) (by decide)) (pc' := 26) rfl ?_
        exact Z_ireturn dX11_map_26 rfl rfl (pR.no hI (by decide) (by unfold spMap; rw [if_neg (n_or c_1 (i_nlt c_6)), if_pos (i_lt c_17)]))
    · refine Z_aload_n dX11_map_9 rfl (z_isref _) (pc' := 10) rfl ?_
      refine Z_bipush dX11_map_10 (v := (-2)) (by decide) (pc' := 12) rfl ?_
      refine Z_cVe dX11_map_12 rfl zcw_X11_refuse (As := [_]) (rest := []) rfl ⟨Nat.le_of_ble_eq_true rfl, Nat.le_of_ble_eq_true rfl⟩ (Nat.le_of_ble_eq_true rfl) (zRcv.lay zob_0) ⟨zcw_X11_refuse.2.2.2.2, Nat.le_of_ble_eq_true rfl⟩ zk_RX11_43 (c_X11_refuse (k := 2) (by decide) (by decide)) (pc' := 15) rfl ?_
      exact Z_ireturn dX11_map_15 rfl rfl (pR.no hI (by decide) (by unfold spMap; rw [if_pos (Or.inr (i_lt c_6))]))
