theorem law_next {p : Program} {l : Launch} {e : Env} {s : State} {m : MethodId} {below : List Frame} {meth : Method} {c : Code} {b L : Nat} {xs : Nat → Int32} {cA : Nat → ClassId} {D : va_G} {kc ks i : Nat} {ω : ZW} (C : LC p s m meth c b L xs cA D) (k : LZ p l e s m below meth c b cA D kc ks 18 [none, some (.ref 0), some (.ref 25), some (.int (nI (i + 4)))] [] ω) : LZ p l e s m below meth c b cA D kc ks 877 [none, some (.ref 0), some (.ref 25), some (.int (nI i))] [] ω := by
  refine LZ_iinc C dL_law_877 rfl (show nI i + Int32.ofInt 4 = nI (i + 4) from nI_add i 4) (by decide) (by decide) rfl (ls' := [_, _, _, _]) rfl (pc' := 880) rfl ?_
  exact LZ_goto C dL_law_880 (tgt := 18) rfl k
theorem nI_gt4 {i L : Nat} (hi : i ≤ 300) (hL : L ≤ 256) : nI L - 4 < nI i ↔ L < i + 4 := by
  rcases Nat.lt_or_ge L 4 with h | h
  · refine ⟨fun _ => by omega, fun _ => Int32.lt_of_lt_of_le ?_ (i_le (nI_neg (k := i) (by omega)))⟩
    rcases (show L = 0 ∨ L = 1 ∨ L = 2 ∨ L = 3 by omega) with rfl | rfl | rfl | rfl <;> decide
  · rw [show (4 : Int32) = nI 4 from rfl, nI_sub h, nI_ltn (by omega) (by omega)]
    omega
set_option maxRecDepth 100000 in
set_option maxHeartbeats 4000000 in
theorem law_feed {p : Program} {l : Launch} {e : Env} {s : State} {m : MethodId} {below : List Frame} {meth : Method} {c : Code} {b L : Nat} {xs : Nat → Int32} {cA : Nat → ClassId} {D : va_G} {r i n : Nat} {S : ZS} {M : Ms} (C : LC p s m meth c b L xs cA D) (hL : L ≤ 256) (hi : i + 4 ≤ L) (hI : CI S n M) (hM : MI S M) (k : ∀ (S1 : ZS) (n1 : Nat) (M1 : Ms), CI S1 n1 M1 → MI S1 M1 → LZ p l e s m below meth c b cA D (80 * r) (320 * r) 877 [none, some (.ref 0), some (.ref 25), some (.int (nI i))] [] (zw S1 n1)) : LZ p l e s m below meth c b cA D (80 * r + 80) (320 * r + 320) 156 [none, some (.ref 0), some (.ref 25), some (.int (nI i))] [] (zw S n) := by
  refine LZ_widen (kc' := 80 * r) (ks' := 320 * r) (by omega) (by omega) ?_
  refine LZ_aload_n C dL_law_156 (a := 0) rfl (pc' := 157) rfl ?_
  refine LZ_arg C (i := i) (j := 1) (by omega) (by omega) rfl (by decide) dL_law_157 dL_law_158 dL_law_159 dL_law_160 dL_law_161 (pc' := 162) rfl ?_
  refine LZ_callV0 C dL_law_162 zcw_X11_feed (As := [_]) (rest := []) rfl ⟨Nat.le_of_ble_eq_true rfl, Nat.le_of_ble_eq_true rfl⟩ (Nat.le_of_ble_eq_true rfl) (zRcv.lay zob_0) ⟨zcw_X11_feed.2.2.2.2, Nat.le_of_ble_eq_true rfl⟩ zk_RL_13 (c_X11_feed hI) (pc' := 165) rfl (fun q11 w11 h11 => ?_)
  obtain ⟨rfl, S1, n1, rfl, f1, hI1⟩ := h11
  have hM1 := MI_class hM f1
  show LZ _ _ _ _ _ _ _ _ _ _ _ _ _ _ _ [.int _] _
  refine LZ_aload_n C dL_law_165 (a := 25) rfl (pc' := 166) rfl ?_
  refine LZ_arg C (i := i) (j := 1) (by omega) (by omega) rfl (by decide) dL_law_166 dL_law_167 dL_law_168 dL_law_169 dL_law_170 (pc' := 171) rfl ?_
  refine LZ_callV0 C dL_law_171 zcw_X12_feed (As := [_]) (rest := [_]) rfl ⟨Nat.le_of_ble_eq_true rfl, Nat.le_of_ble_eq_true rfl⟩ (Nat.le_of_ble_eq_true rfl) (zRcv.lay zob_25) ⟨zcw_X12_feed.2.2.2.2, Nat.le_of_ble_eq_true rfl⟩ zk_RL_17 (c_X12_feed hM1) (pc' := 174) rfl (fun q12 w12 h12 => ?_)
  obtain ⟨rfl, S2, rfl, f2, hM2⟩ := h12
  have hI2 := CI_model hI1 f2
  show LZ _ _ _ _ _ _ _ _ _ _ _ _ _ _ _ [.int _, .int _] _
  exact LZ_icmp_eq C dL_law_174 (tgt := 877) rfl (pc' := 177) rfl (fun _ => k S2 n1 _ hI2 hM2) (fun q => absurd rfl q)
set_option maxRecDepth 100000 in
set_option maxHeartbeats 4000000 in
theorem law_coast {p : Program} {l : Launch} {e : Env} {s : State} {m : MethodId} {below : List Frame} {meth : Method} {c : Code} {b L : Nat} {xs : Nat → Int32} {cA : Nat → ClassId} {D : va_G} {r i n : Nat} {S : ZS} {M : Ms} (C : LC p s m meth c b L xs cA D) (hL : L ≤ 256) (hi : i + 4 ≤ L) (hI : CI S n M) (hM : MI S M) (k : ∀ (S1 : ZS) (n1 : Nat) (M1 : Ms), CI S1 n1 M1 → MI S1 M1 → LZ p l e s m below meth c b cA D (80 * r) (320 * r) 877 [none, some (.ref 0), some (.ref 25), some (.int (nI i))] [] (zw S1 n1)) : LZ p l e s m below meth c b cA D (80 * r + 80) (320 * r + 320) 179 [none, some (.ref 0), some (.ref 25), some (.int (nI i))] [] (zw S n) := by
  refine LZ_widen (kc' := 80 + 80 * r) (ks' := 320 + 320 * r) (by omega) (by omega) ?_
  refine LZ_aload_n C dL_law_179 (a := 0) rfl (pc' := 180) rfl ?_
  refine LZ_callV (kc' := 80) (ks' := 320) (kc := 80 * r) (ks := 320 * r) C dL_law_180 zcw_X11_coast (As := []) (rest := []) rfl ⟨Nat.le_of_ble_eq_true rfl, Nat.le_of_ble_eq_true rfl⟩ (Nat.le_of_ble_eq_true rfl) (zRcv.lay zob_0) ⟨zcw_X11_coast.2.2.2.2, Nat.le_of_ble_eq_true rfl⟩ zk_RL_18 (c_X11_coast hI) (pc' := 183) rfl (fun q11 w11 h11 => ?_)
  obtain ⟨rfl, S1, n1, rfl, f1, hI1⟩ := h11
  have hM1 := MI_class hM f1
  show LZ _ _ _ _ _ _ _ _ _ _ _ _ _ _ _ [.int _] _
  refine LZ_aload_n C dL_law_183 (a := 25) rfl (pc' := 184) rfl ?_
  refine LZ_callV0 C dL_law_184 zcw_X12_coast (As := []) (rest := [_]) rfl ⟨Nat.le_of_ble_eq_true rfl, Nat.le_of_ble_eq_true rfl⟩ (Nat.le_of_ble_eq_true rfl) (zRcv.lay zob_25) ⟨zcw_X12_coast.2.2.2.2, Nat.le_of_ble_eq_true rfl⟩ zk_RL_22 (c_X12_coast hM1) (pc' := 187) rfl (fun q12 w12 h12 => ?_)
  obtain ⟨rfl, S2, rfl, f2, hM2⟩ := h12
  have hI2 := CI_model hI1 f2
  show LZ _ _ _ _ _ _ _ _ _ _ _ _ _ _ _ [.int _, .int _] _
  exact LZ_icmp_eq C dL_law_187 (tgt := 877) rfl (pc' := 190) rfl (fun _ => k S2 n1 _ hI2 hM2) (fun q => absurd rfl q)
set_option maxRecDepth 100000 in
set_option maxHeartbeats 4000000 in
theorem law_stretch {p : Program} {l : Launch} {e : Env} {s : State} {m : MethodId} {below : List Frame} {meth : Method} {c : Code} {b L : Nat} {xs : Nat → Int32} {cA : Nat → ClassId} {D : va_G} {r i n : Nat} {S : ZS} {M : Ms} (C : LC p s m meth c b L xs cA D) (hL : L ≤ 256) (hi : i + 4 ≤ L) (hI : CI S n M) (hM : MI S M) (k : ∀ (S1 : ZS) (n1 : Nat) (M1 : Ms), CI S1 n1 M1 → MI S1 M1 → LZ p l e s m below meth c b cA D (80 * r) (320 * r) 877 [none, some (.ref 0), some (.ref 25), some (.int (nI i))] [] (zw S1 n1)) : LZ p l e s m below meth c b cA D (80 * r + 80) (320 * r + 320) 192 [none, some (.ref 0), some (.ref 25), some (.int (nI i))] [] (zw S n) := by
  refine LZ_widen (kc' := 80 * r) (ks' := 320 * r) (by omega) (by omega) ?_
  refine LZ_aload_n C dL_law_192 (a := 0) rfl (pc' := 193) rfl ?_
  refine LZ_arg C (i := i) (j := 1) (by omega) (by omega) rfl (by decide) dL_law_193 dL_law_194 dL_law_195 dL_law_196 dL_law_197 (pc' := 198) rfl ?_
  refine LZ_arg C (i := i) (j := 2) (by omega) (by omega) rfl (by decide) dL_law_198 dL_law_199 dL_law_200 dL_law_201 dL_law_202 (pc' := 203) rfl ?_
  refine LZ_callV0 C dL_law_203 zcw_X11_stretch (As := [_, _]) (rest := []) rfl ⟨Nat.le_of_ble_eq_true rfl, Nat.le_of_ble_eq_true rfl⟩ (Nat.le_of_ble_eq_true rfl) (zRcv.lay zob_0) ⟨zcw_X11_stretch.2.2.2.2, Nat.le_of_ble_eq_true rfl⟩ zk_RL_23 (c_X11_stretch hI) (pc' := 206) rfl (fun q11 w11 h11 => ?_)
  obtain ⟨rfl, S1, n1, rfl, f1, hI1⟩ := h11
  have hM1 := MI_class hM f1
  show LZ _ _ _ _ _ _ _ _ _ _ _ _ _ _ _ [.int _] _
  refine LZ_aload_n C dL_law_206 (a := 25) rfl (pc' := 207) rfl ?_
  refine LZ_arg C (i := i) (j := 1) (by omega) (by omega) rfl (by decide) dL_law_207 dL_law_208 dL_law_209 dL_law_210 dL_law_211 (pc' := 212) rfl ?_
  refine LZ_arg C (i := i) (j := 2) (by omega) (by omega) rfl (by decide) dL_law_212 dL_law_213 dL_law_214 dL_law_215 dL_law_216 (pc' := 217) rfl ?_
  refine LZ_callV0 C dL_law_217 zcw_X12_stretch (As := [_, _]) (rest := [_]) rfl ⟨Nat.le_of_ble_eq_true rfl, Nat.le_of_ble_eq_true rfl⟩ (Nat.le_of_ble_eq_true rfl) (zRcv.lay zob_25) ⟨zcw_X12_stretch.2.2.2.2, Nat.le_of_ble_eq_true rfl⟩ zk_RL_27 (c_X12_stretch hM1) (pc' := 220) rfl (fun q12 w12 h12 => ?_)
  obtain ⟨rfl, S2, rfl, f2, hM2⟩ := h12
  have hI2 := CI_model hI1 f2
  show LZ _ _ _ _ _ _ _ _ _ _ _ _ _ _ _ [.int _, .int _] _
  exact LZ_icmp_eq C dL_law_220 (tgt := 877) rfl (pc' := 223) rfl (fun _ => k S2 n1 _ hI2 hM2) (fun q => absurd rfl q)
set_option maxRecDepth 100000 in
set_option maxHeartbeats 4000000 in
theorem law_point {p : Program} {l : Launch} {e : Env} {s : State} {m : MethodId} {below : List Frame} {meth : Method} {c : Code} {b L : Nat} {xs : Nat → Int32} {cA : Nat → ClassId} {D : va_G} {r i n : Nat} {S : ZS} {M : Ms} (C : LC p s m meth c b L xs cA D) (hL : L ≤ 256) (hi : i + 4 ≤ L) (hI : CI S n M) (hM : MI S M) (k : ∀ (S1 : ZS) (n1 : Nat) (M1 : Ms), CI S1 n1 M1 → MI S1 M1 → LZ p l e s m below meth c b cA D (80 * r) (320 * r) 877 [none, some (.ref 0), some (.ref 25), some (.int (nI i))] [] (zw S1 n1)) : LZ p l e s m below meth c b cA D (80 * r + 80) (320 * r + 320) 225 [none, some (.ref 0), some (.ref 25), some (.int (nI i))] [] (zw S n) := by
  refine LZ_widen (kc' := 80 * r) (ks' := 320 * r) (by omega) (by omega) ?_
  refine LZ_aload_n C dL_law_225 (a := 0) rfl (pc' := 226) rfl ?_
  refine LZ_arg C (i := i) (j := 1) (by omega) (by omega) rfl (by decide) dL_law_226 dL_law_227 dL_law_228 dL_law_229 dL_law_230 (pc' := 231) rfl ?_
  refine LZ_arg C (i := i) (j := 2) (by omega) (by omega) rfl (by decide) dL_law_231 dL_law_232 dL_law_233 dL_law_234 dL_law_235 (pc' := 236) rfl ?_
  refine LZ_callV0 C dL_law_236 zcw_X11_point (As := [_, _]) (rest := []) rfl ⟨Nat.le_of_ble_eq_true rfl, Nat.le_of_ble_eq_true rfl⟩ (Nat.le_of_ble_eq_true rfl) (zRcv.lay zob_0) ⟨zcw_X11_point.2.2.2.2, Nat.le_of_ble_eq_true rfl⟩ zk_RL_28 (c_X11_point hI) (pc' := 239) rfl (fun q11 w11 h11 => ?_)
  obtain ⟨rfl, S1, n1, rfl, f1, hI1⟩ := h11
  have hM1 := MI_class hM f1
  show LZ _ _ _ _ _ _ _ _ _ _ _ _ _ _ _ [.int _] _
  refine LZ_aload_n C dL_law_239 (a := 25) rfl (pc' := 240) rfl ?_
  refine LZ_arg C (i := i) (j := 1) (by omega) (by omega) rfl (by decide) dL_law_240 dL_law_241 dL_law_242 dL_law_243 dL_law_244 (pc' := 245) rfl ?_
  refine LZ_arg C (i := i) (j := 2) (by omega) (by omega) rfl (by decide) dL_law_245 dL_law_246 dL_law_247 dL_law_248 dL_law_249 (pc' := 250) rfl ?_
  refine LZ_callV0 C dL_law_250 zcw_X12_point (As := [_, _]) (rest := [_]) rfl ⟨Nat.le_of_ble_eq_true rfl, Nat.le_of_ble_eq_true rfl⟩ (Nat.le_of_ble_eq_true rfl) (zRcv.lay zob_25) ⟨zcw_X12_point.2.2.2.2, Nat.le_of_ble_eq_true rfl⟩ zk_RL_31 (c_X12_point hM1) (pc' := 253) rfl (fun q12 w12 h12 => ?_)
  obtain ⟨rfl, S2, rfl, f2, hM2⟩ := h12
  have hI2 := CI_model hI1 f2
  show LZ _ _ _ _ _ _ _ _ _ _ _ _ _ _ _ [.int _, .int _] _
  exact LZ_icmp_eq C dL_law_253 (tgt := 877) rfl (pc' := 256) rfl (fun _ => k S2 n1 _ hI2 hM2) (fun q => absurd rfl q)
set_option maxRecDepth 100000 in
set_option maxHeartbeats 4000000 in
theorem law_shore {p : Program} {l : Launch} {e : Env} {s : State} {m : MethodId} {below : List Frame} {meth : Method} {c : Code} {b L : Nat} {xs : Nat → Int32} {cA : Nat → ClassId} {D : va_G} {r i n : Nat} {S : ZS} {M : Ms} (C : LC p s m meth c b L xs cA D) (hL : L ≤ 256) (hi : i + 4 ≤ L) (hI : CI S n M) (hM : MI S M) (k : ∀ (S1 : ZS) (n1 : Nat) (M1 : Ms), CI S1 n1 M1 → MI S1 M1 → LZ p l e s m below meth c b cA D (80 * r) (320 * r) 877 [none, some (.ref 0), some (.ref 25), some (.int (nI i))] [] (zw S1 n1)) : LZ p l e s m below meth c b cA D (80 * r + 80) (320 * r + 320) 258 [none, some (.ref 0), some (.ref 25), some (.int (nI i))] [] (zw S n) := by
  refine LZ_widen (kc' := 80 * r) (ks' := 320 * r) (by omega) (by omega) ?_
  refine LZ_aload_n C dL_law_258 (a := 0) rfl (pc' := 259) rfl ?_
  refine LZ_arg C (i := i) (j := 1) (by omega) (by omega) rfl (by decide) dL_law_259 dL_law_260 dL_law_261 dL_law_262 dL_law_263 (pc' := 264) rfl ?_
  refine LZ_callV0 C dL_law_264 zcw_X11_shore (As := [_]) (rest := []) rfl ⟨Nat.le_of_ble_eq_true rfl, Nat.le_of_ble_eq_true rfl⟩ (Nat.le_of_ble_eq_true rfl) (zRcv.lay zob_0) ⟨zcw_X11_shore.2.2.2.2, Nat.le_of_ble_eq_true rfl⟩ zk_RL_32 (c_X11_shore hI) (pc' := 267) rfl (fun q11 w11 h11 => ?_)
  obtain ⟨rfl, S1, n1, rfl, f1, hI1⟩ := h11
  have hM1 := MI_class hM f1
  show LZ _ _ _ _ _ _ _ _ _ _ _ _ _ _ _ [.int _] _
  refine LZ_aload_n C dL_law_267 (a := 25) rfl (pc' := 268) rfl ?_
  refine LZ_arg C (i := i) (j := 1) (by omega) (by omega) rfl (by decide) dL_law_268 dL_law_269 dL_law_270 dL_law_271 dL_law_272 (pc' := 273) rfl ?_
  refine LZ_callV0 C dL_law_273 zcw_X12_shore (As := [_]) (rest := [_]) rfl ⟨Nat.le_of_ble_eq_true rfl, Nat.le_of_ble_eq_true rfl⟩ (Nat.le_of_ble_eq_true rfl) (zRcv.lay zob_25) ⟨zcw_X12_shore.2.2.2.2, Nat.le_of_ble_eq_true rfl⟩ zk_RL_35 (c_X12_shore hM1) (pc' := 276) rfl (fun q12 w12 h12 => ?_)
  obtain ⟨rfl, S2, rfl, f2, hM2⟩ := h12
  have hI2 := CI_model hI1 f2
  show LZ _ _ _ _ _ _ _ _ _ _ _ _ _ _ _ [.int _, .int _] _
  exact LZ_icmp_eq C dL_law_276 (tgt := 877) rfl (pc' := 279) rfl (fun _ => k S2 n1 _ hI2 hM2) (fun q => absurd rfl q)
set_option maxRecDepth 100000 in
set_option maxHeartbeats 4000000 in
theorem law_tide {p : Program} {l : Launch} {e : Env} {s : State} {m : MethodId} {below : List Frame} {meth : Method} {c : Code} {b L : Nat} {xs : Nat → Int32} {cA : Nat → ClassId} {D : va_G} {r i n : Nat} {S : ZS} {M : Ms} (C : LC p s m meth c b L xs cA D) (hL : L ≤ 256) (hi : i + 4 ≤ L) (hI : CI S n M) (hM : MI S M) (k : ∀ (S1 : ZS) (n1 : Nat) (M1 : Ms), CI S1 n1 M1 → MI S1 M1 → LZ p l e s m below meth c b cA D (80 * r) (320 * r) 877 [none, some (.ref 0), some (.ref 25), some (.int (nI i))] [] (zw S1 n1)) : LZ p l e s m below meth c b cA D (80 * r + 80) (320 * r + 320) 281 [none, some (.ref 0), some (.ref 25), some (.int (nI i))] [] (zw S n) := by
  refine LZ_widen (kc' := 80 * r) (ks' := 320 * r) (by omega) (by omega) ?_
  refine LZ_aload_n C dL_law_281 (a := 0) rfl (pc' := 282) rfl ?_
  refine LZ_arg C (i := i) (j := 1) (by omega) (by omega) rfl (by decide) dL_law_282 dL_law_283 dL_law_284 dL_law_285 dL_law_286 (pc' := 287) rfl ?_
  refine LZ_callV0 C dL_law_287 zcw_X11_tide (As := [_]) (rest := []) rfl ⟨Nat.le_of_ble_eq_true rfl, Nat.le_of_ble_eq_true rfl⟩ (Nat.le_of_ble_eq_true rfl) (zRcv.lay zob_0) ⟨zcw_X11_tide.2.2.2.2, Nat.le_of_ble_eq_true rfl⟩ zk_RL_36 (c_X11_tide hI) (pc' := 290) rfl (fun q11 w11 h11 => ?_)
  obtain ⟨rfl, S1, n1, rfl, f1, hI1⟩ := h11
  have hM1 := MI_class hM f1
  show LZ _ _ _ _ _ _ _ _ _ _ _ _ _ _ _ [.int _] _
  refine LZ_aload_n C dL_law_290 (a := 25) rfl (pc' := 291) rfl ?_
  refine LZ_arg C (i := i) (j := 1) (by omega) (by omega) rfl (by decide) dL_law_291 dL_law_292 dL_law_293 dL_law_294 dL_law_295 (pc' := 296) rfl ?_
  refine LZ_callV0 C dL_law_296 zcw_X12_tide (As := [_]) (rest := [_]) rfl ⟨Nat.le_of_ble_eq_true rfl, Nat.le_of_ble_eq_true rfl⟩ (Nat.le_of_ble_eq_true rfl) (zRcv.lay zob_25) ⟨zcw_X12_tide.2.2.2.2, Nat.le_of_ble_eq_true rfl⟩ zk_RL_39 (c_X12_tide hM1) (pc' := 299) rfl (fun q12 w12 h12 => ?_)
  obtain ⟨rfl, S2, rfl, f2, hM2⟩ := h12
  have hI2 := CI_model hI1 f2
  show LZ _ _ _ _ _ _ _ _ _ _ _ _ _ _ _ [.int _, .int _] _
  exact LZ_icmp_eq C dL_law_299 (tgt := 877) rfl (pc' := 302) rfl (fun _ => k S2 n1 _ hI2 hM2) (fun q => absurd rfl q)
set_option maxRecDepth 100000 in
set_option maxHeartbeats 4000000 in
theorem law_walk {p : Program} {l : Launch} {e : Env} {s : State} {m : MethodId} {below : List Frame} {meth : Method} {c : Code} {b L : Nat} {xs : Nat → Int32} {cA : Nat → ClassId} {D : va_G} {r i n : Nat} {S : ZS} {M : Ms} (C : LC p s m meth c b L xs cA D) (hL : L ≤ 256) (hi : i + 4 ≤ L) (hI : CI S n M) (hM : MI S M) (k : ∀ (S1 : ZS) (n1 : Nat) (M1 : Ms), CI S1 n1 M1 → MI S1 M1 → LZ p l e s m below meth c b cA D (80 * r) (320 * r) 877 [none, some (.ref 0), some (.ref 25), some (.int (nI i))] [] (zw S1 n1)) : LZ p l e s m below meth c b cA D (80 * r + 80) (320 * r + 320) 304 [none, some (.ref 0), some (.ref 25), some (.int (nI i))] [] (zw S n) := by
  refine LZ_widen (kc' := 80 * r) (ks' := 320 * r) (by omega) (by omega) ?_
  refine LZ_aload_n C dL_law_304 (a := 0) rfl (pc' := 305) rfl ?_
  refine LZ_arg C (i := i) (j := 1) (by omega) (by omega) rfl (by decide) dL_law_305 dL_law_306 dL_law_307 dL_law_308 dL_law_309 (pc' := 310) rfl ?_
  refine LZ_arg C (i := i) (j := 2) (by omega) (by omega) rfl (by decide) dL_law_310 dL_law_311 dL_law_312 dL_law_313 dL_law_314 (pc' := 315) rfl ?_
  refine LZ_arg C (i := i) (j := 3) (by omega) (by omega) rfl (by decide) dL_law_315 dL_law_316 dL_law_317 dL_law_318 dL_law_319 (pc' := 320) rfl ?_
  refine LZ_callV0 C dL_law_320 zcw_X11_walk (As := [_, _, _]) (rest := []) rfl ⟨Nat.le_of_ble_eq_true rfl, Nat.le_of_ble_eq_true rfl⟩ (Nat.le_of_ble_eq_true rfl) (zRcv.lay zob_0) ⟨zcw_X11_walk.2.2.2.2, Nat.le_of_ble_eq_true rfl⟩ zk_RL_40 (c_X11_walk hI) (pc' := 323) rfl (fun q11 w11 h11 => ?_)
  obtain ⟨rfl, S1, n1, rfl, f1, hI1⟩ := h11
  have hM1 := MI_class hM f1
  show LZ _ _ _ _ _ _ _ _ _ _ _ _ _ _ _ [.int _] _
  refine LZ_aload_n C dL_law_323 (a := 25) rfl (pc' := 324) rfl ?_
  refine LZ_arg C (i := i) (j := 1) (by omega) (by omega) rfl (by decide) dL_law_324 dL_law_325 dL_law_326 dL_law_327 dL_law_328 (pc' := 329) rfl ?_
  refine LZ_arg C (i := i) (j := 2) (by omega) (by omega) rfl (by decide) dL_law_329 dL_law_330 dL_law_331 dL_law_332 dL_law_333 (pc' := 334) rfl ?_
  refine LZ_arg C (i := i) (j := 3) (by omega) (by omega) rfl (by decide) dL_law_334 dL_law_335 dL_law_336 dL_law_337 dL_law_338 (pc' := 339) rfl ?_
  refine LZ_callV0 C dL_law_339 zcw_X12_walk (As := [_, _, _]) (rest := [_]) rfl ⟨Nat.le_of_ble_eq_true rfl, Nat.le_of_ble_eq_true rfl⟩ (Nat.le_of_ble_eq_true rfl) (zRcv.lay zob_25) ⟨zcw_X12_walk.2.2.2.2, Nat.le_of_ble_eq_true rfl⟩ zk_RL_44 (c_X12_walk hM1) (pc' := 342) rfl (fun q12 w12 h12 => ?_)
  obtain ⟨rfl, S2, rfl, f2, hM2⟩ := h12
  have hI2 := CI_model hI1 f2
  show LZ _ _ _ _ _ _ _ _ _ _ _ _ _ _ _ [.int _, .int _] _
  exact LZ_icmp_eq C dL_law_342 (tgt := 877) rfl (pc' := 345) rfl (fun _ => k S2 n1 _ hI2 hM2) (fun q => absurd rfl q)
set_option maxRecDepth 100000 in
set_option maxHeartbeats 4000000 in
theorem law_place {p : Program} {l : Launch} {e : Env} {s : State} {m : MethodId} {below : List Frame} {meth : Method} {c : Code} {b L : Nat} {xs : Nat → Int32} {cA : Nat → ClassId} {D : va_G} {r i n : Nat} {S : ZS} {M : Ms} (C : LC p s m meth c b L xs cA D) (hL : L ≤ 256) (hi : i + 4 ≤ L) (hI : CI S n M) (hM : MI S M) (k : ∀ (S1 : ZS) (n1 : Nat) (M1 : Ms), CI S1 n1 M1 → MI S1 M1 → LZ p l e s m below meth c b cA D (80 * r) (320 * r) 877 [none, some (.ref 0), some (.ref 25), some (.int (nI i))] [] (zw S1 n1)) : LZ p l e s m below meth c b cA D (80 * r + 80) (320 * r + 320) 347 [none, some (.ref 0), some (.ref 25), some (.int (nI i))] [] (zw S n) := by
  refine LZ_widen (kc' := 80 * r) (ks' := 320 * r) (by omega) (by omega) ?_
  refine LZ_aload_n C dL_law_347 (a := 0) rfl (pc' := 348) rfl ?_
  refine LZ_arg C (i := i) (j := 1) (by omega) (by omega) rfl (by decide) dL_law_348 dL_law_349 dL_law_350 dL_law_351 dL_law_352 (pc' := 353) rfl ?_
  refine LZ_arg C (i := i) (j := 2) (by omega) (by omega) rfl (by decide) dL_law_353 dL_law_354 dL_law_355 dL_law_356 dL_law_357 (pc' := 358) rfl ?_
  refine LZ_arg C (i := i) (j := 3) (by omega) (by omega) rfl (by decide) dL_law_358 dL_law_359 dL_law_360 dL_law_361 dL_law_362 (pc' := 363) rfl ?_
  refine LZ_callV0 C dL_law_363 zcw_X11_place (As := [_, _, _]) (rest := []) rfl ⟨Nat.le_of_ble_eq_true rfl, Nat.le_of_ble_eq_true rfl⟩ (Nat.le_of_ble_eq_true rfl) (zRcv.lay zob_0) ⟨zcw_X11_place.2.2.2.2, Nat.le_of_ble_eq_true rfl⟩ zk_RL_45 (c_X11_place hI) (pc' := 366) rfl (fun q11 w11 h11 => ?_)
  obtain ⟨rfl, S1, n1, rfl, f1, hI1⟩ := h11
  have hM1 := MI_class hM f1
  show LZ _ _ _ _ _ _ _ _ _ _ _ _ _ _ _ [.int _] _
  refine LZ_aload_n C dL_law_366 (a := 25) rfl (pc' := 367) rfl ?_
  refine LZ_arg C (i := i) (j := 1) (by omega) (by omega) rfl (by decide) dL_law_367 dL_law_368 dL_law_369 dL_law_370 dL_law_371 (pc' := 372) rfl ?_
  refine LZ_arg C (i := i) (j := 2) (by omega) (by omega) rfl (by decide) dL_law_372 dL_law_373 dL_law_374 dL_law_375 dL_law_376 (pc' := 377) rfl ?_
  refine LZ_arg C (i := i) (j := 3) (by omega) (by omega) rfl (by decide) dL_law_377 dL_law_378 dL_law_379 dL_law_380 dL_law_381 (pc' := 382) rfl ?_
  refine LZ_callV0 C dL_law_382 zcw_X12_place (As := [_, _, _]) (rest := [_]) rfl ⟨Nat.le_of_ble_eq_true rfl, Nat.le_of_ble_eq_true rfl⟩ (Nat.le_of_ble_eq_true rfl) (zRcv.lay zob_25) ⟨zcw_X12_place.2.2.2.2, Nat.le_of_ble_eq_true rfl⟩ zk_RL_48 (c_X12_place hM1) (pc' := 385) rfl (fun q12 w12 h12 => ?_)
  obtain ⟨rfl, S2, rfl, f2, hM2⟩ := h12
  have hI2 := CI_model hI1 f2
  show LZ _ _ _ _ _ _ _ _ _ _ _ _ _ _ _ [.int _, .int _] _
  exact LZ_icmp_eq C dL_law_385 (tgt := 877) rfl (pc' := 388) rfl (fun _ => k S2 n1 _ hI2 hM2) (fun q => absurd rfl q)
set_option maxRecDepth 100000 in
set_option maxHeartbeats 4000000 in
theorem law_best {p : Program} {l : Launch} {e : Env} {s : State} {m : MethodId} {below : List Frame} {meth : Method} {c : Code} {b L : Nat} {xs : Nat → Int32} {cA : Nat → ClassId} {D : va_G} {r i n : Nat} {S : ZS} {M : Ms} (C : LC p s m meth c b L xs cA D) (hL : L ≤ 256) (hi : i + 4 ≤ L) (hI : CI S n M) (hM : MI S M) (k : ∀ (S1 : ZS) (n1 : Nat) (M1 : Ms), CI S1 n1 M1 → MI S1 M1 → LZ p l e s m below meth c b cA D (80 * r) (320 * r) 877 [none, some (.ref 0), some (.ref 25), some (.int (nI i))] [] (zw S1 n1)) : LZ p l e s m below meth c b cA D (80 * r + 80) (320 * r + 320) 390 [none, some (.ref 0), some (.ref 25), some (.int (nI i))] [] (zw S n) := by
  refine LZ_widen (kc' := 80 * r) (ks' := 320 * r) (by omega) (by omega) ?_
  refine LZ_aload_n C dL_law_390 (a := 0) rfl (pc' := 391) rfl ?_
  refine LZ_arg C (i := i) (j := 1) (by omega) (by omega) rfl (by decide) dL_law_391 dL_law_392 dL_law_393 dL_law_394 dL_law_395 (pc' := 396) rfl ?_
  refine LZ_arg C (i := i) (j := 2) (by omega) (by omega) rfl (by decide) dL_law_396 dL_law_397 dL_law_398 dL_law_399 dL_law_400 (pc' := 401) rfl ?_
  refine LZ_callV0 C dL_law_401 zcw_X11_best (As := [_, _]) (rest := []) rfl ⟨Nat.le_of_ble_eq_true rfl, Nat.le_of_ble_eq_true rfl⟩ (Nat.le_of_ble_eq_true rfl) (zRcv.lay zob_0) ⟨zcw_X11_best.2.2.2.2, Nat.le_of_ble_eq_true rfl⟩ zk_RL_49 (c_X11_best hI) (pc' := 404) rfl (fun q11 w11 h11 => ?_)
  obtain ⟨rfl, S1, n1, rfl, f1, hI1⟩ := h11
  have hM1 := MI_class hM f1
  show LZ _ _ _ _ _ _ _ _ _ _ _ _ _ _ _ [.int _] _
  refine LZ_aload_n C dL_law_404 (a := 25) rfl (pc' := 405) rfl ?_
  refine LZ_arg C (i := i) (j := 1) (by omega) (by omega) rfl (by decide) dL_law_405 dL_law_406 dL_law_407 dL_law_408 dL_law_409 (pc' := 410) rfl ?_
  refine LZ_arg C (i := i) (j := 2) (by omega) (by omega) rfl (by decide) dL_law_410 dL_law_411 dL_law_412 dL_law_413 dL_law_414 (pc' := 415) rfl ?_
  refine LZ_callV0 C dL_law_415 zcw_X12_best (As := [_, _]) (rest := [_]) rfl ⟨Nat.le_of_ble_eq_true rfl, Nat.le_of_ble_eq_true rfl⟩ (Nat.le_of_ble_eq_true rfl) (zRcv.lay zob_25) ⟨zcw_X12_best.2.2.2.2, Nat.le_of_ble_eq_true rfl⟩ zk_RL_52 (c_X12_best hM1) (pc' := 418) rfl (fun q12 w12 h12 => ?_)
  obtain ⟨rfl, S2, rfl, f2, hM2⟩ := h12
  have hI2 := CI_model hI1 f2
  show LZ _ _ _ _ _ _ _ _ _ _ _ _ _ _ _ [.int _, .int _] _
  exact LZ_icmp_eq C dL_law_418 (tgt := 877) rfl (pc' := 421) rfl (fun _ => k S2 n1 _ hI2 hM2) (fun q => absurd rfl q)
set_option maxRecDepth 100000 in
set_option maxHeartbeats 4000000 in
theorem law_span {p : Program} {l : Launch} {e : Env} {s : State} {m : MethodId} {below : List Frame} {meth : Method} {c : Code} {b L : Nat} {xs : Nat → Int32} {cA : Nat → ClassId} {D : va_G} {r i n : Nat} {S : ZS} {M : Ms} (C : LC p s m meth c b L xs cA D) (hL : L ≤ 256) (hi : i + 4 ≤ L) (hI : CI S n M) (hM : MI S M) (k : ∀ (S1 : ZS) (n1 : Nat) (M1 : Ms), CI S1 n1 M1 → MI S1 M1 → LZ p l e s m below meth c b cA D (80 * r) (320 * r) 877 [none, some (.ref 0), some (.ref 25), some (.int (nI i))] [] (zw S1 n1)) : LZ p l e s m below meth c b cA D (80 * r + 80) (320 * r + 320) 423 [none, some (.ref 0), some (.ref 25), some (.int (nI i))] [] (zw S n) := by
  refine LZ_widen (kc' := 80 * r) (ks' := 320 * r) (by omega) (by omega) ?_
  refine LZ_aload_n C dL_law_423 (a := 0) rfl (pc' := 424) rfl ?_
  refine LZ_arg C (i := i) (j := 1) (by omega) (by omega) rfl (by decide) dL_law_424 dL_law_425 dL_law_426 dL_law_427 dL_law_428 (pc' := 429) rfl ?_
  refine LZ_callV0 C dL_law_429 zcw_X11_span (As := [_]) (rest := []) rfl ⟨Nat.le_of_ble_eq_true rfl, Nat.le_of_ble_eq_true rfl⟩ (Nat.le_of_ble_eq_true rfl) (zRcv.lay zob_0) ⟨zcw_X11_span.2.2.2.2, Nat.le_of_ble_eq_true rfl⟩ zk_RL_53 (c_X11_span hI) (pc' := 432) rfl (fun q11 w11 h11 => ?_)
  obtain ⟨rfl, S1, n1, rfl, f1, hI1⟩ := h11
  have hM1 := MI_class hM f1
  show LZ _ _ _ _ _ _ _ _ _ _ _ _ _ _ _ [.int _] _
  refine LZ_aload_n C dL_law_432 (a := 25) rfl (pc' := 433) rfl ?_
  refine LZ_arg C (i := i) (j := 1) (by omega) (by omega) rfl (by decide) dL_law_433 dL_law_434 dL_law_435 dL_law_436 dL_law_437 (pc' := 438) rfl ?_
  refine LZ_callV0 C dL_law_438 zcw_X12_span (As := [_]) (rest := [_]) rfl ⟨Nat.le_of_ble_eq_true rfl, Nat.le_of_ble_eq_true rfl⟩ (Nat.le_of_ble_eq_true rfl) (zRcv.lay zob_25) ⟨zcw_X12_span.2.2.2.2, Nat.le_of_ble_eq_true rfl⟩ zk_RL_56 (c_X12_span hM1) (pc' := 441) rfl (fun q12 w12 h12 => ?_)
  obtain ⟨rfl, S2, rfl, f2, hM2⟩ := h12
  have hI2 := CI_model hI1 f2
  show LZ _ _ _ _ _ _ _ _ _ _ _ _ _ _ _ [.int _, .int _] _
  exact LZ_icmp_eq C dL_law_441 (tgt := 877) rfl (pc' := 444) rfl (fun _ => k S2 n1 _ hI2 hM2) (fun q => absurd rfl q)
set_option maxRecDepth 100000 in
set_option maxHeartbeats 4000000 in
theorem law_finer {p : Program} {l : Launch} {e : Env} {s : State} {m : MethodId} {below : List Frame} {meth : Method} {c : Code} {b L : Nat} {xs : Nat → Int32} {cA : Nat → ClassId} {D : va_G} {r i n : Nat} {S : ZS} {M : Ms} (C : LC p s m meth c b L xs cA D) (hL : L ≤ 256) (hi : i + 4 ≤ L) (hI : CI S n M) (hM : MI S M) (k : ∀ (S1 : ZS) (n1 : Nat) (M1 : Ms), CI S1 n1 M1 → MI S1 M1 → LZ p l e s m below meth c b cA D (80 * r) (320 * r) 877 [none, some (.ref 0), some (.ref 25), some (.int (nI i))] [] (zw S1 n1)) : LZ p l e s m below meth c b cA D (80 * r + 80) (320 * r + 320) 446 [none, some (.ref 0), some (.ref 25), some (.int (nI i))] [] (zw S n) := by
  refine LZ_widen (kc' := 80 * r) (ks' := 320 * r) (by omega) (by omega) ?_
  refine LZ_aload_n C dL_law_446 (a := 0) rfl (pc' := 447) rfl ?_
  refine LZ_arg C (i := i) (j := 1) (by omega) (by omega) rfl (by decide) dL_law_447 dL_law_448 dL_law_449 dL_law_450 dL_law_451 (pc' := 452) rfl ?_
  refine LZ_callV0 C dL_law_452 zcw_X11_finer (As := [_]) (rest := []) rfl ⟨Nat.le_of_ble_eq_true rfl, Nat.le_of_ble_eq_true rfl⟩ (Nat.le_of_ble_eq_true rfl) (zRcv.lay zob_0) ⟨zcw_X11_finer.2.2.2.2, Nat.le_of_ble_eq_true rfl⟩ zk_RL_57 (c_X11_finer hI) (pc' := 455) rfl (fun q11 w11 h11 => ?_)
  obtain ⟨rfl, S1, n1, rfl, f1, hI1⟩ := h11
  have hM1 := MI_class hM f1
  show LZ _ _ _ _ _ _ _ _ _ _ _ _ _ _ _ [.int _] _
  refine LZ_aload_n C dL_law_455 (a := 25) rfl (pc' := 456) rfl ?_
  refine LZ_arg C (i := i) (j := 1) (by omega) (by omega) rfl (by decide) dL_law_456 dL_law_457 dL_law_458 dL_law_459 dL_law_460 (pc' := 461) rfl ?_
  refine LZ_callV0 C dL_law_461 zcw_X12_finer (As := [_]) (rest := [_]) rfl ⟨Nat.le_of_ble_eq_true rfl, Nat.le_of_ble_eq_true rfl⟩ (Nat.le_of_ble_eq_true rfl) (zRcv.lay zob_25) ⟨zcw_X12_finer.2.2.2.2, Nat.le_of_ble_eq_true rfl⟩ zk_RL_60 (c_X12_finer hM1) (pc' := 464) rfl (fun q12 w12 h12 => ?_)
  obtain ⟨rfl, S2, rfl, f2, hM2⟩ := h12
  have hI2 := CI_model hI1 f2
  show LZ _ _ _ _ _ _ _ _ _ _ _ _ _ _ _ [.int _, .int _] _
  exact LZ_icmp_eq C dL_law_464 (tgt := 877) rfl (pc' := 467) rfl (fun _ => k S2 n1 _ hI2 hM2) (fun q => absurd rfl q)
set_option maxRecDepth 100000 in
set_option maxHeartbeats 4000000 in
theorem law_two {p : Program} {l : Launch} {e : Env} {s : State} {m : MethodId} {below : List Frame} {meth : Method} {c : Code} {b L : Nat} {xs : Nat → Int32} {cA : Nat → ClassId} {D : va_G} {r i n : Nat} {S : ZS} {M : Ms} (C : LC p s m meth c b L xs cA D) (hL : L ≤ 256) (hi : i + 4 ≤ L) (hI : CI S n M) (hM : MI S M) (k : ∀ (S1 : ZS) (n1 : Nat) (M1 : Ms), CI S1 n1 M1 → MI S1 M1 → LZ p l e s m below meth c b cA D (80 * r) (320 * r) 877 [none, some (.ref 0), some (.ref 25), some (.int (nI i))] [] (zw S1 n1)) : LZ p l e s m below meth c b cA D (80 * r + 80) (320 * r + 320) 469 [none, some (.ref 0), some (.ref 25), some (.int (nI i))] [] (zw S n) := by
  refine LZ_widen (kc' := 80 * r) (ks' := 320 * r) (by omega) (by omega) ?_
  refine LZ_aload_n C dL_law_469 (a := 0) rfl (pc' := 470) rfl ?_
  refine LZ_arg C (i := i) (j := 1) (by omega) (by omega) rfl (by decide) dL_law_470 dL_law_471 dL_law_472 dL_law_473 dL_law_474 (pc' := 475) rfl ?_
  refine LZ_arg C (i := i) (j := 2) (by omega) (by omega) rfl (by decide) dL_law_475 dL_law_476 dL_law_477 dL_law_478 dL_law_479 (pc' := 480) rfl ?_
  refine LZ_arg C (i := i) (j := 3) (by omega) (by omega) rfl (by decide) dL_law_480 dL_law_481 dL_law_482 dL_law_483 dL_law_484 (pc' := 485) rfl ?_
  refine LZ_callV0 C dL_law_485 zcw_X11_two (As := [_, _, _]) (rest := []) rfl ⟨Nat.le_of_ble_eq_true rfl, Nat.le_of_ble_eq_true rfl⟩ (Nat.le_of_ble_eq_true rfl) (zRcv.lay zob_0) ⟨zcw_X11_two.2.2.2.2, Nat.le_of_ble_eq_true rfl⟩ zk_RL_61 (c_X11_two hI) (pc' := 488) rfl (fun q11 w11 h11 => ?_)
  obtain ⟨rfl, S1, n1, rfl, f1, hI1⟩ := h11
  have hM1 := MI_class hM f1
  show LZ _ _ _ _ _ _ _ _ _ _ _ _ _ _ _ [.int _] _
  refine LZ_aload_n C dL_law_488 (a := 25) rfl (pc' := 489) rfl ?_
  refine LZ_arg C (i := i) (j := 1) (by omega) (by omega) rfl (by decide) dL_law_489 dL_law_490 dL_law_491 dL_law_492 dL_law_493 (pc' := 494) rfl ?_
  refine LZ_arg C (i := i) (j := 2) (by omega) (by omega) rfl (by decide) dL_law_494 dL_law_495 dL_law_496 dL_law_497 dL_law_498 (pc' := 499) rfl ?_
  refine LZ_arg C (i := i) (j := 3) (by omega) (by omega) rfl (by decide) dL_law_499 dL_law_500 dL_law_501 dL_law_502 dL_law_503 (pc' := 504) rfl ?_
  refine LZ_callV0 C dL_law_504 zcw_X12_two (As := [_, _, _]) (rest := [_]) rfl ⟨Nat.le_of_ble_eq_true rfl, Nat.le_of_ble_eq_true rfl⟩ (Nat.le_of_ble_eq_true rfl) (zRcv.lay zob_25) ⟨zcw_X12_two.2.2.2.2, Nat.le_of_ble_eq_true rfl⟩ zk_RL_64 (c_X12_two hM1) (pc' := 507) rfl (fun q12 w12 h12 => ?_)
  obtain ⟨rfl, S2, rfl, f2, hM2⟩ := h12
  have hI2 := CI_model hI1 f2
  show LZ _ _ _ _ _ _ _ _ _ _ _ _ _ _ _ [.int _, .int _] _
  exact LZ_icmp_eq C dL_law_507 (tgt := 877) rfl (pc' := 510) rfl (fun _ => k S2 n1 _ hI2 hM2) (fun q => absurd rfl q)
set_option maxRecDepth 100000 in
set_option maxHeartbeats 4000000 in
theorem law_map {p : Program} {l : Launch} {e : Env} {s : State} {m : MethodId} {below : List Frame} {meth : Method} {c : Code} {b L : Nat} {xs : Nat → Int32} {cA : Nat → ClassId} {D : va_G} {r i n : Nat} {S : ZS} {M : Ms} (C : LC p s m meth c b L xs cA D) (hL : L ≤ 256) (hi : i + 4 ≤ L) (hI : CI S n M) (hM : MI S M) (k : ∀ (S1 : ZS) (n1 : Nat) (M1 : Ms), CI S1 n1 M1 → MI S1 M1 → LZ p l e s m below meth c b cA D (80 * r) (320 * r) 877 [none, some (.ref 0), some (.ref 25), some (.int (nI i))] [] (zw S1 n1)) : LZ p l e s m below meth c b cA D (80 * r + 80) (320 * r + 320) 512 [none, some (.ref 0), some (.ref 25), some (.int (nI i))] [] (zw S n) := by
  refine LZ_widen (kc' := 80 * r) (ks' := 320 * r) (by omega) (by omega) ?_
  refine LZ_aload_n C dL_law_512 (a := 0) rfl (pc' := 513) rfl ?_
  refine LZ_arg C (i := i) (j := 1) (by omega) (by omega) rfl (by decide) dL_law_513 dL_law_514 dL_law_515 dL_law_516 dL_law_517 (pc' := 518) rfl ?_
  refine LZ_arg C (i := i) (j := 2) (by omega) (by omega) rfl (by decide) dL_law_518 dL_law_519 dL_law_520 dL_law_521 dL_law_522 (pc' := 523) rfl ?_
  refine LZ_callV0 C dL_law_523 zcw_X11_map (As := [_, _]) (rest := []) rfl ⟨Nat.le_of_ble_eq_true rfl, Nat.le_of_ble_eq_true rfl⟩ (Nat.le_of_ble_eq_true rfl) (zRcv.lay zob_0) ⟨zcw_X11_map.2.2.2.2, Nat.le_of_ble_eq_true rfl⟩ zk_RL_65 (c_X11_map hI) (pc' := 526) rfl (fun q11 w11 h11 => ?_)
  obtain ⟨rfl, S1, n1, rfl, f1, hI1⟩ := h11
  have hM1 := MI_class hM f1
  show LZ _ _ _ _ _ _ _ _ _ _ _ _ _ _ _ [.int _] _
  refine LZ_aload_n C dL_law_526 (a := 25) rfl (pc' := 527) rfl ?_
  refine LZ_arg C (i := i) (j := 1) (by omega) (by omega) rfl (by decide) dL_law_527 dL_law_528 dL_law_529 dL_law_530 dL_law_531 (pc' := 532) rfl ?_
  refine LZ_arg C (i := i) (j := 2) (by omega) (by omega) rfl (by decide) dL_law_532 dL_law_533 dL_law_534 dL_law_535 dL_law_536 (pc' := 537) rfl ?_
  refine LZ_callV0 C dL_law_537 zcw_X12_map (As := [_, _]) (rest := [_]) rfl ⟨Nat.le_of_ble_eq_true rfl, Nat.le_of_ble_eq_true rfl⟩ (Nat.le_of_ble_eq_true rfl) (zRcv.lay zob_25) ⟨zcw_X12_map.2.2.2.2, Nat.le_of_ble_eq_true rfl⟩ zk_RL_68 (c_X12_map hM1) (pc' := 540) rfl (fun q12 w12 h12 => ?_)
  obtain ⟨rfl, S2, rfl, f2, hM2⟩ := h12
  have hI2 := CI_model hI1 f2
  show LZ _ _ _ _ _ _ _ _ _ _ _ _ _ _ _ [.int _, .int _] _
  exact LZ_icmp_eq C dL_law_540 (tgt := 877) rfl (pc' := 543) rfl (fun _ => k S2 n1 _ hI2 hM2) (fun q => absurd rfl q)
set_option maxRecDepth 100000 in
set_option maxHeartbeats 4000000 in
theorem law_rock {p : Program} {l : Launch} {e : Env} {s : State} {m : MethodId} {below : List Frame} {meth : Method} {c : Code} {b L : Nat} {xs : Nat → Int32} {cA : Nat → ClassId} {D : va_G} {r i n : Nat} {S : ZS} {M : Ms} (C : LC p s m meth c b L xs cA D) (hL : L ≤ 256) (hi : i + 4 ≤ L) (hI : CI S n M) (hM : MI S M) (k : ∀ (S1 : ZS) (n1 : Nat) (M1 : Ms), CI S1 n1 M1 → MI S1 M1 → LZ p l e s m below meth c b cA D (80 * r) (320 * r) 877 [none, some (.ref 0), some (.ref 25), some (.int (nI i))] [] (zw S1 n1)) : LZ p l e s m below meth c b cA D (80 * r + 80) (320 * r + 320) 545 [none, some (.ref 0), some (.ref 25), some (.int (nI i))] [] (zw S n) := by
  refine LZ_widen (kc' := 80 * r) (ks' := 320 * r) (by omega) (by omega) ?_
  refine LZ_aload_n C dL_law_545 (a := 0) rfl (pc' := 546) rfl ?_
  refine LZ_arg C (i := i) (j := 1) (by omega) (by omega) rfl (by decide) dL_law_546 dL_law_547 dL_law_548 dL_law_549 dL_law_550 (pc' := 551) rfl ?_
  refine LZ_arg C (i := i) (j := 2) (by omega) (by omega) rfl (by decide) dL_law_551 dL_law_552 dL_law_553 dL_law_554 dL_law_555 (pc' := 556) rfl ?_
  refine LZ_callV0 C dL_law_556 zcw_X11_rock (As := [_, _]) (rest := []) rfl ⟨Nat.le_of_ble_eq_true rfl, Nat.le_of_ble_eq_true rfl⟩ (Nat.le_of_ble_eq_true rfl) (zRcv.lay zob_0) ⟨zcw_X11_rock.2.2.2.2, Nat.le_of_ble_eq_true rfl⟩ zk_RL_69 (c_X11_rock hI) (pc' := 559) rfl (fun q11 w11 h11 => ?_)
  obtain ⟨rfl, S1, n1, rfl, f1, hI1⟩ := h11
  have hM1 := MI_class hM f1
  show LZ _ _ _ _ _ _ _ _ _ _ _ _ _ _ _ [.int _] _
  refine LZ_aload_n C dL_law_559 (a := 25) rfl (pc' := 560) rfl ?_
  refine LZ_arg C (i := i) (j := 1) (by omega) (by omega) rfl (by decide) dL_law_560 dL_law_561 dL_law_562 dL_law_563 dL_law_564 (pc' := 565) rfl ?_
  refine LZ_arg C (i := i) (j := 2) (by omega) (by omega) rfl (by decide) dL_law_565 dL_law_566 dL_law_567 dL_law_568 dL_law_569 (pc' := 570) rfl ?_
  refine LZ_callV0 C dL_law_570 zcw_X12_rock (As := [_, _]) (rest := [_]) rfl ⟨Nat.le_of_ble_eq_true rfl, Nat.le_of_ble_eq_true rfl⟩ (Nat.le_of_ble_eq_true rfl) (zRcv.lay zob_25) ⟨zcw_X12_rock.2.2.2.2, Nat.le_of_ble_eq_true rfl⟩ zk_RL_72 (c_X12_rock hM1) (pc' := 573) rfl (fun q12 w12 h12 => ?_)
  obtain ⟨rfl, S2, rfl, f2, hM2⟩ := h12
  have hI2 := CI_model hI1 f2
  show LZ _ _ _ _ _ _ _ _ _ _ _ _ _ _ _ [.int _, .int _] _
  exact LZ_icmp_eq C dL_law_573 (tgt := 877) rfl (pc' := 576) rfl (fun _ => k S2 n1 _ hI2 hM2) (fun q => absurd rfl q)
set_option maxRecDepth 100000 in
set_option maxHeartbeats 4000000 in
theorem law_islands {p : Program} {l : Launch} {e : Env} {s : State} {m : MethodId} {below : List Frame} {meth : Method} {c : Code} {b L : Nat} {xs : Nat → Int32} {cA : Nat → ClassId} {D : va_G} {r i n : Nat} {S : ZS} {M : Ms} (C : LC p s m meth c b L xs cA D) (hL : L ≤ 256) (hi : i + 4 ≤ L) (hI : CI S n M) (hM : MI S M) (k : ∀ (S1 : ZS) (n1 : Nat) (M1 : Ms), CI S1 n1 M1 → MI S1 M1 → LZ p l e s m below meth c b cA D (80 * r) (320 * r) 877 [none, some (.ref 0), some (.ref 25), some (.int (nI i))] [] (zw S1 n1)) : LZ p l e s m below meth c b cA D (80 * r + 80) (320 * r + 320) 578 [none, some (.ref 0), some (.ref 25), some (.int (nI i))] [] (zw S n) := by
  refine LZ_widen (kc' := 80 * r) (ks' := 320 * r) (by omega) (by omega) ?_
  refine LZ_aload_n C dL_law_578 (a := 0) rfl (pc' := 579) rfl ?_
  refine LZ_callV0 C dL_law_579 zcw_X11_islands (As := []) (rest := []) rfl ⟨Nat.le_of_ble_eq_true rfl, Nat.le_of_ble_eq_true rfl⟩ (Nat.le_of_ble_eq_true rfl) (zRcv.lay zob_0) ⟨zcw_X11_islands.2.2.2.2, Nat.le_of_ble_eq_true rfl⟩ zk_RL_73 (c_X11_islands hI) (pc' := 582) rfl (fun q11 w11 h11 => ?_)
  obtain ⟨rfl, S1, n1, rfl, f1, hI1⟩ := h11
  have hM1 := MI_class hM f1
  show LZ _ _ _ _ _ _ _ _ _ _ _ _ _ _ _ [.int _] _
  refine LZ_aload_n C dL_law_582 (a := 25) rfl (pc' := 583) rfl ?_
  refine LZ_callV0 C dL_law_583 zcw_X12_islands (As := []) (rest := [_]) rfl ⟨Nat.le_of_ble_eq_true rfl, Nat.le_of_ble_eq_true rfl⟩ (Nat.le_of_ble_eq_true rfl) (zRcv.lay zob_25) ⟨zcw_X12_islands.2.2.2.2, Nat.le_of_ble_eq_true rfl⟩ zk_RL_76 (c_X12_islands hM1) (pc' := 586) rfl (fun q12 w12 h12 => ?_)
  obtain ⟨rfl, S2, rfl, f2, hM2⟩ := h12
  have hI2 := CI_model hI1 f2
  show LZ _ _ _ _ _ _ _ _ _ _ _ _ _ _ _ [.int _, .int _] _
  exact LZ_icmp_eq C dL_law_586 (tgt := 877) rfl (pc' := 589) rfl (fun _ => k S2 n1 _ hI2 hM2) (fun q => absurd rfl q)
set_option maxRecDepth 100000 in
set_option maxHeartbeats 4000000 in
theorem law_hours {p : Program} {l : Launch} {e : Env} {s : State} {m : MethodId} {below : List Frame} {meth : Method} {c : Code} {b L : Nat} {xs : Nat → Int32} {cA : Nat → ClassId} {D : va_G} {r i n : Nat} {S : ZS} {M : Ms} (C : LC p s m meth c b L xs cA D) (hL : L ≤ 256) (hi : i + 4 ≤ L) (hI : CI S n M) (hM : MI S M) (k : ∀ (S1 : ZS) (n1 : Nat) (M1 : Ms), CI S1 n1 M1 → MI S1 M1 → LZ p l e s m below meth c b cA D (80 * r) (320 * r) 877 [none, some (.ref 0), some (.ref 25), some (.int (nI i))] [] (zw S1 n1)) : LZ p l e s m below meth c b cA D (80 * r + 80) (320 * r + 320) 591 [none, some (.ref 0), some (.ref 25), some (.int (nI i))] [] (zw S n) := by
  refine LZ_widen (kc' := 80 * r) (ks' := 320 * r) (by omega) (by omega) ?_
  refine LZ_aload_n C dL_law_591 (a := 0) rfl (pc' := 592) rfl ?_
  refine LZ_arg C (i := i) (j := 1) (by omega) (by omega) rfl (by decide) dL_law_592 dL_law_593 dL_law_594 dL_law_595 dL_law_596 (pc' := 597) rfl ?_
  refine LZ_callV0 C dL_law_597 zcw_X11_hours (As := [_]) (rest := []) rfl ⟨Nat.le_of_ble_eq_true rfl, Nat.le_of_ble_eq_true rfl⟩ (Nat.le_of_ble_eq_true rfl) (zRcv.lay zob_0) ⟨zcw_X11_hours.2.2.2.2, Nat.le_of_ble_eq_true rfl⟩ zk_RL_77 (c_X11_hours hI) (pc' := 600) rfl (fun q11 w11 h11 => ?_)
  obtain ⟨rfl, S1, n1, rfl, f1, hI1⟩ := h11
  have hM1 := MI_class hM f1
  show LZ _ _ _ _ _ _ _ _ _ _ _ _ _ _ _ [.int _] _
  refine LZ_aload_n C dL_law_600 (a := 25) rfl (pc' := 601) rfl ?_
  refine LZ_arg C (i := i) (j := 1) (by omega) (by omega) rfl (by decide) dL_law_601 dL_law_602 dL_law_603 dL_law_604 dL_law_605 (pc' := 606) rfl ?_
  refine LZ_callV0 C dL_law_606 zcw_X12_hours (As := [_]) (rest := [_]) rfl ⟨Nat.le_of_ble_eq_true rfl, Nat.le_of_ble_eq_true rfl⟩ (Nat.le_of_ble_eq_true rfl) (zRcv.lay zob_25) ⟨zcw_X12_hours.2.2.2.2, Nat.le_of_ble_eq_true rfl⟩ zk_RL_80 (c_X12_hours hM1) (pc' := 609) rfl (fun q12 w12 h12 => ?_)
  obtain ⟨rfl, S2, rfl, f2, hM2⟩ := h12
  have hI2 := CI_model hI1 f2
  show LZ _ _ _ _ _ _ _ _ _ _ _ _ _ _ _ [.int _, .int _] _
  exact LZ_icmp_eq C dL_law_609 (tgt := 877) rfl (pc' := 612) rfl (fun _ => k S2 n1 _ hI2 hM2) (fun q => absurd rfl q)
set_option maxRecDepth 100000 in
set_option maxHeartbeats 4000000 in
theorem law_boat {p : Program} {l : Launch} {e : Env} {s : State} {m : MethodId} {below : List Frame} {meth : Method} {c : Code} {b L : Nat} {xs : Nat → Int32} {cA : Nat → ClassId} {D : va_G} {r i n : Nat} {S : ZS} {M : Ms} (C : LC p s m meth c b L xs cA D) (hL : L ≤ 256) (hi : i + 4 ≤ L) (hI : CI S n M) (hM : MI S M) (k : ∀ (S1 : ZS) (n1 : Nat) (M1 : Ms), CI S1 n1 M1 → MI S1 M1 → LZ p l e s m below meth c b cA D (80 * r) (320 * r) 877 [none, some (.ref 0), some (.ref 25), some (.int (nI i))] [] (zw S1 n1)) : LZ p l e s m below meth c b cA D (80 * r + 80) (320 * r + 320) 614 [none, some (.ref 0), some (.ref 25), some (.int (nI i))] [] (zw S n) := by
  refine LZ_widen (kc' := 80 * r) (ks' := 320 * r) (by omega) (by omega) ?_
  refine LZ_aload_n C dL_law_614 (a := 0) rfl (pc' := 615) rfl ?_
  refine LZ_callV0 C dL_law_615 zcw_X11_boat (As := []) (rest := []) rfl ⟨Nat.le_of_ble_eq_true rfl, Nat.le_of_ble_eq_true rfl⟩ (Nat.le_of_ble_eq_true rfl) (zRcv.lay zob_0) ⟨zcw_X11_boat.2.2.2.2, Nat.le_of_ble_eq_true rfl⟩ zk_RL_81 (c_X11_boat hI) (pc' := 618) rfl (fun q11 w11 h11 => ?_)
  obtain ⟨rfl, S1, n1, rfl, f1, hI1⟩ := h11
  have hM1 := MI_class hM f1
  show LZ _ _ _ _ _ _ _ _ _ _ _ _ _ _ _ [.int _] _
  refine LZ_aload_n C dL_law_618 (a := 25) rfl (pc' := 619) rfl ?_
  refine LZ_callV0 C dL_law_619 zcw_X12_boat (As := []) (rest := [_]) rfl ⟨Nat.le_of_ble_eq_true rfl, Nat.le_of_ble_eq_true rfl⟩ (Nat.le_of_ble_eq_true rfl) (zRcv.lay zob_25) ⟨zcw_X12_boat.2.2.2.2, Nat.le_of_ble_eq_true rfl⟩ zk_RL_84 (c_X12_boat hM1) (pc' := 622) rfl (fun q12 w12 h12 => ?_)
  obtain ⟨rfl, S2, rfl, f2, hM2⟩ := h12
  have hI2 := CI_model hI1 f2
  show LZ _ _ _ _ _ _ _ _ _ _ _ _ _ _ _ [.int _, .int _] _
  exact LZ_icmp_eq C dL_law_622 (tgt := 877) rfl (pc' := 625) rfl (fun _ => k S2 n1 _ hI2 hM2) (fun q => absurd rfl q)
set_option maxRecDepth 100000 in
set_option maxHeartbeats 4000000 in
theorem law_cut {p : Program} {l : Launch} {e : Env} {s : State} {m : MethodId} {below : List Frame} {meth : Method} {c : Code} {b L : Nat} {xs : Nat → Int32} {cA : Nat → ClassId} {D : va_G} {r i n : Nat} {S : ZS} {M : Ms} (C : LC p s m meth c b L xs cA D) (hL : L ≤ 256) (hi : i + 4 ≤ L) (hI : CI S n M) (hM : MI S M) (k : ∀ (S1 : ZS) (n1 : Nat) (M1 : Ms), CI S1 n1 M1 → MI S1 M1 → LZ p l e s m below meth c b cA D (80 * r) (320 * r) 877 [none, some (.ref 0), some (.ref 25), some (.int (nI i))] [] (zw S1 n1)) : LZ p l e s m below meth c b cA D (80 * r + 80) (320 * r + 320) 627 [none, some (.ref 0), some (.ref 25), some (.int (nI i))] [] (zw S n) := by
  refine LZ_widen (kc' := 80 * r) (ks' := 320 * r) (by omega) (by omega) ?_
  refine LZ_aload_n C dL_law_627 (a := 0) rfl (pc' := 628) rfl ?_
  refine LZ_arg C (i := i) (j := 1) (by omega) (by omega) rfl (by decide) dL_law_628 dL_law_629 dL_law_630 dL_law_631 dL_law_632 (pc' := 633) rfl ?_
  refine LZ_arg C (i := i) (j := 2) (by omega) (by omega) rfl (by decide) dL_law_633 dL_law_634 dL_law_635 dL_law_636 dL_law_637 (pc' := 638) rfl ?_
  refine LZ_callV0 C dL_law_638 zcw_X11_cut (As := [_, _]) (rest := []) rfl ⟨Nat.le_of_ble_eq_true rfl, Nat.le_of_ble_eq_true rfl⟩ (Nat.le_of_ble_eq_true rfl) (zRcv.lay zob_0) ⟨zcw_X11_cut.2.2.2.2, Nat.le_of_ble_eq_true rfl⟩ zk_RL_85 (c_X11_cut hI) (pc' := 641) rfl (fun q11 w11 h11 => ?_)
  obtain ⟨rfl, S1, n1, rfl, f1, hI1⟩ := h11
  have hM1 := MI_class hM f1
  show LZ _ _ _ _ _ _ _ _ _ _ _ _ _ _ _ [.int _] _
  refine LZ_aload_n C dL_law_641 (a := 25) rfl (pc' := 642) rfl ?_
  refine LZ_arg C (i := i) (j := 1) (by omega) (by omega) rfl (by decide) dL_law_642 dL_law_643 dL_law_644 dL_law_645 dL_law_646 (pc' := 647) rfl ?_
  refine LZ_arg C (i := i) (j := 2) (by omega) (by omega) rfl (by decide) dL_law_647 dL_law_648 dL_law_649 dL_law_650 dL_law_651 (pc' := 652) rfl ?_
  refine LZ_callV0 C dL_law_652 zcw_X12_cut (As := [_, _]) (rest := [_]) rfl ⟨Nat.le_of_ble_eq_true rfl, Nat.le_of_ble_eq_true rfl⟩ (Nat.le_of_ble_eq_true rfl) (zRcv.lay zob_25) ⟨zcw_X12_cut.2.2.2.2, Nat.le_of_ble_eq_true rfl⟩ zk_RL_88 (c_X12_cut hM1) (pc' := 655) rfl (fun q12 w12 h12 => ?_)
  obtain ⟨rfl, S2, rfl, f2, hM2⟩ := h12
  have hI2 := CI_model hI1 f2
  show LZ _ _ _ _ _ _ _ _ _ _ _ _ _ _ _ [.int _, .int _] _
  exact LZ_icmp_eq C dL_law_655 (tgt := 877) rfl (pc' := 658) rfl (fun _ => k S2 n1 _ hI2 hM2) (fun q => absurd rfl q)
set_option maxRecDepth 100000 in
set_option maxHeartbeats 4000000 in
theorem law_worstCut {p : Program} {l : Launch} {e : Env} {s : State} {m : MethodId} {below : List Frame} {meth : Method} {c : Code} {b L : Nat} {xs : Nat → Int32} {cA : Nat → ClassId} {D : va_G} {r i n : Nat} {S : ZS} {M : Ms} (C : LC p s m meth c b L xs cA D) (hL : L ≤ 256) (hi : i + 4 ≤ L) (hI : CI S n M) (hM : MI S M) (k : ∀ (S1 : ZS) (n1 : Nat) (M1 : Ms), CI S1 n1 M1 → MI S1 M1 → LZ p l e s m below meth c b cA D (80 * r) (320 * r) 877 [none, some (.ref 0), some (.ref 25), some (.int (nI i))] [] (zw S1 n1)) : LZ p l e s m below meth c b cA D (80 * r + 80) (320 * r + 320) 660 [none, some (.ref 0), some (.ref 25), some (.int (nI i))] [] (zw S n) := by
  refine LZ_widen (kc' := 80 * r) (ks' := 320 * r) (by omega) (by omega) ?_
  refine LZ_aload_n C dL_law_660 (a := 0) rfl (pc' := 661) rfl ?_
  refine LZ_arg C (i := i) (j := 1) (by omega) (by omega) rfl (by decide) dL_law_661 dL_law_662 dL_law_663 dL_law_664 dL_law_665 (pc' := 666) rfl ?_
  refine LZ_callV0 C dL_law_666 zcw_X11_worstCut (As := [_]) (rest := []) rfl ⟨Nat.le_of_ble_eq_true rfl, Nat.le_of_ble_eq_true rfl⟩ (Nat.le_of_ble_eq_true rfl) (zRcv.lay zob_0) ⟨zcw_X11_worstCut.2.2.2.2, Nat.le_of_ble_eq_true rfl⟩ zk_RL_89 (c_X11_worstCut hI) (pc' := 669) rfl (fun q11 w11 h11 => ?_)
  obtain ⟨rfl, S1, n1, rfl, f1, hI1⟩ := h11
  have hM1 := MI_class hM f1
  show LZ _ _ _ _ _ _ _ _ _ _ _ _ _ _ _ [.int _] _
  refine LZ_aload_n C dL_law_669 (a := 25) rfl (pc' := 670) rfl ?_
  refine LZ_arg C (i := i) (j := 1) (by omega) (by omega) rfl (by decide) dL_law_670 dL_law_671 dL_law_672 dL_law_673 dL_law_674 (pc' := 675) rfl ?_
  refine LZ_callV0 C dL_law_675 zcw_X12_worstCut (As := [_]) (rest := [_]) rfl ⟨Nat.le_of_ble_eq_true rfl, Nat.le_of_ble_eq_true rfl⟩ (Nat.le_of_ble_eq_true rfl) (zRcv.lay zob_25) ⟨zcw_X12_worstCut.2.2.2.2, Nat.le_of_ble_eq_true rfl⟩ zk_RL_92 (c_X12_worstCut hM1) (pc' := 678) rfl (fun q12 w12 h12 => ?_)
  obtain ⟨rfl, S2, rfl, f2, hM2⟩ := h12
  have hI2 := CI_model hI1 f2
  show LZ _ _ _ _ _ _ _ _ _ _ _ _ _ _ _ [.int _, .int _] _
  exact LZ_icmp_eq C dL_law_678 (tgt := 877) rfl (pc' := 681) rfl (fun _ => k S2 n1 _ hI2 hM2) (fun q => absurd rfl q)
set_option maxRecDepth 100000 in
set_option maxHeartbeats 4000000 in
theorem law_copy {p : Program} {l : Launch} {e : Env} {s : State} {m : MethodId} {below : List Frame} {meth : Method} {c : Code} {b L : Nat} {xs : Nat → Int32} {cA : Nat → ClassId} {D : va_G} {r i n : Nat} {S : ZS} {M : Ms} (C : LC p s m meth c b L xs cA D) (hL : L ≤ 256) (hi : i + 4 ≤ L) (hI : CI S n M) (hM : MI S M) (k : ∀ (S1 : ZS) (n1 : Nat) (M1 : Ms), CI S1 n1 M1 → MI S1 M1 → LZ p l e s m below meth c b cA D (80 * r) (320 * r) 877 [none, some (.ref 0), some (.ref 25), some (.int (nI i))] [] (zw S1 n1)) : LZ p l e s m below meth c b cA D (80 * r + 80) (320 * r + 320) 683 [none, some (.ref 0), some (.ref 25), some (.int (nI i))] [] (zw S n) := by
  refine LZ_widen (kc' := 80 * r) (ks' := 320 * r) (by omega) (by omega) ?_
  refine LZ_aload_n C dL_law_683 (a := 0) rfl (pc' := 684) rfl ?_
  refine LZ_arg C (i := i) (j := 1) (by omega) (by omega) rfl (by decide) dL_law_684 dL_law_685 dL_law_686 dL_law_687 dL_law_688 (pc' := 689) rfl ?_
  refine LZ_arg C (i := i) (j := 2) (by omega) (by omega) rfl (by decide) dL_law_689 dL_law_690 dL_law_691 dL_law_692 dL_law_693 (pc' := 694) rfl ?_
  refine LZ_callV0 C dL_law_694 zcw_X11_copy (As := [_, _]) (rest := []) rfl ⟨Nat.le_of_ble_eq_true rfl, Nat.le_of_ble_eq_true rfl⟩ (Nat.le_of_ble_eq_true rfl) (zRcv.lay zob_0) ⟨zcw_X11_copy.2.2.2.2, Nat.le_of_ble_eq_true rfl⟩ zk_RL_93 (c_X11_copy hI) (pc' := 697) rfl (fun q11 w11 h11 => ?_)
  obtain ⟨rfl, S1, n1, rfl, f1, hI1⟩ := h11
  have hM1 := MI_class hM f1
  show LZ _ _ _ _ _ _ _ _ _ _ _ _ _ _ _ [.int _] _
  refine LZ_aload_n C dL_law_697 (a := 25) rfl (pc' := 698) rfl ?_
  refine LZ_arg C (i := i) (j := 1) (by omega) (by omega) rfl (by decide) dL_law_698 dL_law_699 dL_law_700 dL_law_701 dL_law_702 (pc' := 703) rfl ?_
  refine LZ_arg C (i := i) (j := 2) (by omega) (by omega) rfl (by decide) dL_law_703 dL_law_704 dL_law_705 dL_law_706 dL_law_707 (pc' := 708) rfl ?_
  refine LZ_callV0 C dL_law_708 zcw_X12_copy (As := [_, _]) (rest := [_]) rfl ⟨Nat.le_of_ble_eq_true rfl, Nat.le_of_ble_eq_true rfl⟩ (Nat.le_of_ble_eq_true rfl) (zRcv.lay zob_25) ⟨zcw_X12_copy.2.2.2.2, Nat.le_of_ble_eq_true rfl⟩ zk_RL_96 (c_X12_copy hM1) (pc' := 711) rfl (fun q12 w12 h12 => ?_)
  obtain ⟨rfl, S2, rfl, f2, hM2⟩ := h12
  have hI2 := CI_model hI1 f2
  show LZ _ _ _ _ _ _ _ _ _ _ _ _ _ _ _ [.int _, .int _] _
  exact LZ_icmp_eq C dL_law_711 (tgt := 877) rfl (pc' := 714) rfl (fun _ => k S2 n1 _ hI2 hM2) (fun q => absurd rfl q)
set_option maxRecDepth 100000 in
set_option maxHeartbeats 4000000 in
theorem law_sure {p : Program} {l : Launch} {e : Env} {s : State} {m : MethodId} {below : List Frame} {meth : Method} {c : Code} {b L : Nat} {xs : Nat → Int32} {cA : Nat → ClassId} {D : va_G} {r i n : Nat} {S : ZS} {M : Ms} (C : LC p s m meth c b L xs cA D) (hL : L ≤ 256) (hi : i + 4 ≤ L) (hI : CI S n M) (hM : MI S M) (k : ∀ (S1 : ZS) (n1 : Nat) (M1 : Ms), CI S1 n1 M1 → MI S1 M1 → LZ p l e s m below meth c b cA D (80 * r) (320 * r) 877 [none, some (.ref 0), some (.ref 25), some (.int (nI i))] [] (zw S1 n1)) : LZ p l e s m below meth c b cA D (80 * r + 80) (320 * r + 320) 716 [none, some (.ref 0), some (.ref 25), some (.int (nI i))] [] (zw S n) := by
  refine LZ_widen (kc' := 80 * r) (ks' := 320 * r) (by omega) (by omega) ?_
  refine LZ_aload_n C dL_law_716 (a := 0) rfl (pc' := 717) rfl ?_
  refine LZ_arg C (i := i) (j := 1) (by omega) (by omega) rfl (by decide) dL_law_717 dL_law_718 dL_law_719 dL_law_720 dL_law_721 (pc' := 722) rfl ?_
  refine LZ_callV0 C dL_law_722 zcw_X11_sure (As := [_]) (rest := []) rfl ⟨Nat.le_of_ble_eq_true rfl, Nat.le_of_ble_eq_true rfl⟩ (Nat.le_of_ble_eq_true rfl) (zRcv.lay zob_0) ⟨zcw_X11_sure.2.2.2.2, Nat.le_of_ble_eq_true rfl⟩ zk_RL_97 (c_X11_sure hI) (pc' := 725) rfl (fun q11 w11 h11 => ?_)
  obtain ⟨rfl, S1, n1, rfl, f1, hI1⟩ := h11
  have hM1 := MI_class hM f1
  show LZ _ _ _ _ _ _ _ _ _ _ _ _ _ _ _ [.int _] _
  refine LZ_aload_n C dL_law_725 (a := 25) rfl (pc' := 726) rfl ?_
  refine LZ_arg C (i := i) (j := 1) (by omega) (by omega) rfl (by decide) dL_law_726 dL_law_727 dL_law_728 dL_law_729 dL_law_730 (pc' := 731) rfl ?_
  refine LZ_callV0 C dL_law_731 zcw_X12_sure (As := [_]) (rest := [_]) rfl ⟨Nat.le_of_ble_eq_true rfl, Nat.le_of_ble_eq_true rfl⟩ (Nat.le_of_ble_eq_true rfl) (zRcv.lay zob_25) ⟨zcw_X12_sure.2.2.2.2, Nat.le_of_ble_eq_true rfl⟩ zk_RL_100 (c_X12_sure hM1) (pc' := 734) rfl (fun q12 w12 h12 => ?_)
  obtain ⟨rfl, S2, rfl, f2, hM2⟩ := h12
  have hI2 := CI_model hI1 f2
  show LZ _ _ _ _ _ _ _ _ _ _ _ _ _ _ _ [.int _, .int _] _
  exact LZ_icmp_eq C dL_law_734 (tgt := 877) rfl (pc' := 737) rfl (fun _ => k S2 n1 _ hI2 hM2) (fun q => absurd rfl q)
set_option maxRecDepth 100000 in
set_option maxHeartbeats 4000000 in
theorem law_row {p : Program} {l : Launch} {e : Env} {s : State} {m : MethodId} {below : List Frame} {meth : Method} {c : Code} {b L : Nat} {xs : Nat → Int32} {cA : Nat → ClassId} {D : va_G} {r i n : Nat} {S : ZS} {M : Ms} (C : LC p s m meth c b L xs cA D) (hL : L ≤ 256) (hi : i + 4 ≤ L) (hI : CI S n M) (hM : MI S M) (k : ∀ (S1 : ZS) (n1 : Nat) (M1 : Ms), CI S1 n1 M1 → MI S1 M1 → LZ p l e s m below meth c b cA D (80 * r) (320 * r) 877 [none, some (.ref 0), some (.ref 25), some (.int (nI i))] [] (zw S1 n1)) : LZ p l e s m below meth c b cA D (80 * r + 80) (320 * r + 320) 739 [none, some (.ref 0), some (.ref 25), some (.int (nI i))] [] (zw S n) := by
  refine LZ_widen (kc' := 80 * r) (ks' := 320 * r) (by omega) (by omega) ?_
  refine LZ_aload_n C dL_law_739 (a := 0) rfl (pc' := 740) rfl ?_
  refine LZ_arg C (i := i) (j := 1) (by omega) (by omega) rfl (by decide) dL_law_740 dL_law_741 dL_law_742 dL_law_743 dL_law_744 (pc' := 745) rfl ?_
  refine LZ_callV0 C dL_law_745 zcw_X11_row (As := [_]) (rest := []) rfl ⟨Nat.le_of_ble_eq_true rfl, Nat.le_of_ble_eq_true rfl⟩ (Nat.le_of_ble_eq_true rfl) (zRcv.lay zob_0) ⟨zcw_X11_row.2.2.2.2, Nat.le_of_ble_eq_true rfl⟩ zk_RL_101 (c_X11_row hI) (pc' := 748) rfl (fun q11 w11 h11 => ?_)
  obtain ⟨rfl, S1, n1, rfl, f1, hI1⟩ := h11
  have hM1 := MI_class hM f1
  show LZ _ _ _ _ _ _ _ _ _ _ _ _ _ _ _ [.int _] _
  refine LZ_aload_n C dL_law_748 (a := 25) rfl (pc' := 749) rfl ?_
  refine LZ_arg C (i := i) (j := 1) (by omega) (by omega) rfl (by decide) dL_law_749 dL_law_750 dL_law_751 dL_law_752 dL_law_753 (pc' := 754) rfl ?_
  refine LZ_callV0 C dL_law_754 zcw_X12_row (As := [_]) (rest := [_]) rfl ⟨Nat.le_of_ble_eq_true rfl, Nat.le_of_ble_eq_true rfl⟩ (Nat.le_of_ble_eq_true rfl) (zRcv.lay zob_25) ⟨zcw_X12_row.2.2.2.2, Nat.le_of_ble_eq_true rfl⟩ zk_RL_104 (c_X12_row hM1) (pc' := 757) rfl (fun q12 w12 h12 => ?_)
  obtain ⟨rfl, S2, rfl, f2, hM2⟩ := h12
  have hI2 := CI_model hI1 f2
  show LZ _ _ _ _ _ _ _ _ _ _ _ _ _ _ _ [.int _, .int _] _
  exact LZ_icmp_eq C dL_law_757 (tgt := 877) rfl (pc' := 760) rfl (fun _ => k S2 n1 _ hI2 hM2) (fun q => absurd rfl q)
set_option maxRecDepth 100000 in
set_option maxHeartbeats 4000000 in
theorem law_judge {p : Program} {l : Launch} {e : Env} {s : State} {m : MethodId} {below : List Frame} {meth : Method} {c : Code} {b L : Nat} {xs : Nat → Int32} {cA : Nat → ClassId} {D : va_G} {r i n : Nat} {S : ZS} {M : Ms} (C : LC p s m meth c b L xs cA D) (hL : L ≤ 256) (hi : i + 4 ≤ L) (hI : CI S n M) (hM : MI S M) (k : ∀ (S1 : ZS) (n1 : Nat) (M1 : Ms), CI S1 n1 M1 → MI S1 M1 → LZ p l e s m below meth c b cA D (80 * r) (320 * r) 877 [none, some (.ref 0), some (.ref 25), some (.int (nI i))] [] (zw S1 n1)) : LZ p l e s m below meth c b cA D (80 * r + 80) (320 * r + 320) 762 [none, some (.ref 0), some (.ref 25), some (.int (nI i))] [] (zw S n) := by
  refine LZ_widen (kc' := 80 * r) (ks' := 320 * r) (by omega) (by omega) ?_
  refine LZ_aload_n C dL_law_762 (a := 0) rfl (pc' := 763) rfl ?_
  refine LZ_arg C (i := i) (j := 1) (by omega) (by omega) rfl (by decide) dL_law_763 dL_law_764 dL_law_765 dL_law_766 dL_law_767 (pc' := 768) rfl ?_
  refine LZ_arg C (i := i) (j := 2) (by omega) (by omega) rfl (by decide) dL_law_768 dL_law_769 dL_law_770 dL_law_771 dL_law_772 (pc' := 773) rfl ?_
  refine LZ_callV0 C dL_law_773 zcw_X11_judge (As := [_, _]) (rest := []) rfl ⟨Nat.le_of_ble_eq_true rfl, Nat.le_of_ble_eq_true rfl⟩ (Nat.le_of_ble_eq_true rfl) (zRcv.lay zob_0) ⟨zcw_X11_judge.2.2.2.2, Nat.le_of_ble_eq_true rfl⟩ zk_RL_105 (c_X11_judge hI) (pc' := 776) rfl (fun q11 w11 h11 => ?_)
  obtain ⟨rfl, S1, n1, rfl, f1, hI1⟩ := h11
  have hM1 := MI_class hM f1
  show LZ _ _ _ _ _ _ _ _ _ _ _ _ _ _ _ [.int _] _
  refine LZ_aload_n C dL_law_776 (a := 25) rfl (pc' := 777) rfl ?_
  refine LZ_arg C (i := i) (j := 1) (by omega) (by omega) rfl (by decide) dL_law_777 dL_law_778 dL_law_779 dL_law_780 dL_law_781 (pc' := 782) rfl ?_
  refine LZ_arg C (i := i) (j := 2) (by omega) (by omega) rfl (by decide) dL_law_782 dL_law_783 dL_law_784 dL_law_785 dL_law_786 (pc' := 787) rfl ?_
  refine LZ_callV0 C dL_law_787 zcw_X12_judge (As := [_, _]) (rest := [_]) rfl ⟨Nat.le_of_ble_eq_true rfl, Nat.le_of_ble_eq_true rfl⟩ (Nat.le_of_ble_eq_true rfl) (zRcv.lay zob_25) ⟨zcw_X12_judge.2.2.2.2, Nat.le_of_ble_eq_true rfl⟩ zk_RL_108 (c_X12_judge hM1) (pc' := 790) rfl (fun q12 w12 h12 => ?_)
  obtain ⟨rfl, S2, rfl, f2, hM2⟩ := h12
  have hI2 := CI_model hI1 f2
  show LZ _ _ _ _ _ _ _ _ _ _ _ _ _ _ _ [.int _, .int _] _
  exact LZ_icmp_eq C dL_law_790 (tgt := 877) rfl (pc' := 793) rfl (fun _ => k S2 n1 _ hI2 hM2) (fun q => absurd rfl q)
set_option maxRecDepth 100000 in
set_option maxHeartbeats 4000000 in
theorem law_seeds {p : Program} {l : Launch} {e : Env} {s : State} {m : MethodId} {below : List Frame} {meth : Method} {c : Code} {b L : Nat} {xs : Nat → Int32} {cA : Nat → ClassId} {D : va_G} {r i n : Nat} {S : ZS} {M : Ms} (C : LC p s m meth c b L xs cA D) (hL : L ≤ 256) (hi : i + 4 ≤ L) (hI : CI S n M) (hM : MI S M) (k : ∀ (S1 : ZS) (n1 : Nat) (M1 : Ms), CI S1 n1 M1 → MI S1 M1 → LZ p l e s m below meth c b cA D (80 * r) (320 * r) 877 [none, some (.ref 0), some (.ref 25), some (.int (nI i))] [] (zw S1 n1)) : LZ p l e s m below meth c b cA D (80 * r + 80) (320 * r + 320) 795 [none, some (.ref 0), some (.ref 25), some (.int (nI i))] [] (zw S n) := by
  refine LZ_widen (kc' := 80 * r) (ks' := 320 * r) (by omega) (by omega) ?_
  refine LZ_aload_n C dL_law_795 (a := 0) rfl (pc' := 796) rfl ?_
  refine LZ_arg C (i := i) (j := 1) (by omega) (by omega) rfl (by decide) dL_law_796 dL_law_797 dL_law_798 dL_law_799 dL_law_800 (pc' := 801) rfl ?_
  refine LZ_arg C (i := i) (j := 2) (by omega) (by omega) rfl (by decide) dL_law_801 dL_law_802 dL_law_803 dL_law_804 dL_law_805 (pc' := 806) rfl ?_
  refine LZ_callV0 C dL_law_806 zcw_X11_seeds (As := [_, _]) (rest := []) rfl ⟨Nat.le_of_ble_eq_true rfl, Nat.le_of_ble_eq_true rfl⟩ (Nat.le_of_ble_eq_true rfl) (zRcv.lay zob_0) ⟨zcw_X11_seeds.2.2.2.2, Nat.le_of_ble_eq_true rfl⟩ zk_RL_109 (c_X11_seeds hI) (pc' := 809) rfl (fun q11 w11 h11 => ?_)
  obtain ⟨rfl, S1, n1, rfl, f1, hI1⟩ := h11
  have hM1 := MI_class hM f1
  show LZ _ _ _ _ _ _ _ _ _ _ _ _ _ _ _ [.int _] _
  refine LZ_aload_n C dL_law_809 (a := 25) rfl (pc' := 810) rfl ?_
  refine LZ_arg C (i := i) (j := 1) (by omega) (by omega) rfl (by decide) dL_law_810 dL_law_811 dL_law_812 dL_law_813 dL_law_814 (pc' := 815) rfl ?_
  refine LZ_arg C (i := i) (j := 2) (by omega) (by omega) rfl (by decide) dL_law_815 dL_law_816 dL_law_817 dL_law_818 dL_law_819 (pc' := 820) rfl ?_
  refine LZ_callV0 C dL_law_820 zcw_X12_seeds (As := [_, _]) (rest := [_]) rfl ⟨Nat.le_of_ble_eq_true rfl, Nat.le_of_ble_eq_true rfl⟩ (Nat.le_of_ble_eq_true rfl) (zRcv.lay zob_25) ⟨zcw_X12_seeds.2.2.2.2, Nat.le_of_ble_eq_true rfl⟩ zk_RL_112 (c_X12_seeds hM1) (pc' := 823) rfl (fun q12 w12 h12 => ?_)
  obtain ⟨rfl, S2, rfl, f2, hM2⟩ := h12
  have hI2 := CI_model hI1 f2
  show LZ _ _ _ _ _ _ _ _ _ _ _ _ _ _ _ [.int _, .int _] _
  exact LZ_icmp_eq C dL_law_823 (tgt := 877) rfl (pc' := 826) rfl (fun _ => k S2 n1 _ hI2 hM2) (fun q => absurd rfl q)
set_option maxRecDepth 100000 in
set_option maxHeartbeats 4000000 in
theorem law_image {p : Program} {l : Launch} {e : Env} {s : State} {m : MethodId} {below : List Frame} {meth : Method} {c : Code} {b L : Nat} {xs : Nat → Int32} {cA : Nat → ClassId} {D : va_G} {r i n : Nat} {S : ZS} {M : Ms} (C : LC p s m meth c b L xs cA D) (hL : L ≤ 256) (hi : i + 4 ≤ L) (hI : CI S n M) (hM : MI S M) (k : ∀ (S1 : ZS) (n1 : Nat) (M1 : Ms), CI S1 n1 M1 → MI S1 M1 → LZ p l e s m below meth c b cA D (80 * r) (320 * r) 877 [none, some (.ref 0), some (.ref 25), some (.int (nI i))] [] (zw S1 n1)) : LZ p l e s m below meth c b cA D (80 * r + 80) (320 * r + 320) 828 [none, some (.ref 0), some (.ref 25), some (.int (nI i))] [] (zw S n) := by
  refine LZ_widen (kc' := 80 * r) (ks' := 320 * r) (by omega) (by omega) ?_
  refine LZ_aload_n C dL_law_828 (a := 0) rfl (pc' := 829) rfl ?_
  refine LZ_callV0 C dL_law_829 zcw_X11_image (As := []) (rest := []) rfl ⟨Nat.le_of_ble_eq_true rfl, Nat.le_of_ble_eq_true rfl⟩ (Nat.le_of_ble_eq_true rfl) (zRcv.lay zob_0) ⟨zcw_X11_image.2.2.2.2, Nat.le_of_ble_eq_true rfl⟩ zk_RL_113 (c_X11_image hI) (pc' := 832) rfl (fun q11 w11 h11 => ?_)
  obtain ⟨rfl, S1, n1, rfl, f1, hI1⟩ := h11
  have hM1 := MI_class hM f1
  show LZ _ _ _ _ _ _ _ _ _ _ _ _ _ _ _ [.int _] _
  refine LZ_aload_n C dL_law_832 (a := 25) rfl (pc' := 833) rfl ?_
  refine LZ_callV0 C dL_law_833 zcw_X12_image (As := []) (rest := [_]) rfl ⟨Nat.le_of_ble_eq_true rfl, Nat.le_of_ble_eq_true rfl⟩ (Nat.le_of_ble_eq_true rfl) (zRcv.lay zob_25) ⟨zcw_X12_image.2.2.2.2, Nat.le_of_ble_eq_true rfl⟩ zk_RL_116 (c_X12_image hM1) (pc' := 836) rfl (fun q12 w12 h12 => ?_)
  obtain ⟨rfl, S2, rfl, f2, hM2⟩ := h12
  have hI2 := CI_model hI1 f2
  show LZ _ _ _ _ _ _ _ _ _ _ _ _ _ _ _ [.int _, .int _] _
  exact LZ_icmp_eq C dL_law_836 (tgt := 877) rfl (pc' := 839) rfl (fun _ => k S2 n1 _ hI2 hM2) (fun q => absurd rfl q)
set_option maxRecDepth 100000 in
set_option maxHeartbeats 4000000 in
theorem law_restore {p : Program} {l : Launch} {e : Env} {s : State} {m : MethodId} {below : List Frame} {meth : Method} {c : Code} {b L : Nat} {xs : Nat → Int32} {cA : Nat → ClassId} {D : va_G} {r i n : Nat} {S : ZS} {M : Ms} (C : LC p s m meth c b L xs cA D) (hL : L ≤ 256) (hi : i + 4 ≤ L) (hI : CI S n M) (hM : MI S M) (k : ∀ (S1 : ZS) (n1 : Nat) (M1 : Ms), CI S1 n1 M1 → MI S1 M1 → LZ p l e s m below meth c b cA D (80 * r) (320 * r) 877 [none, some (.ref 0), some (.ref 25), some (.int (nI i))] [] (zw S1 n1)) : LZ p l e s m below meth c b cA D (80 * r + 80) (320 * r + 320) 841 [none, some (.ref 0), some (.ref 25), some (.int (nI i))] [] (zw S n) := by
  refine LZ_widen (kc' := 80 * r) (ks' := 320 * r) (by omega) (by omega) ?_
  refine LZ_aload_n C dL_law_841 (a := 0) rfl (pc' := 842) rfl ?_
  refine LZ_callV0 C dL_law_842 zcw_X11_restore (As := []) (rest := []) rfl ⟨Nat.le_of_ble_eq_true rfl, Nat.le_of_ble_eq_true rfl⟩ (Nat.le_of_ble_eq_true rfl) (zRcv.lay zob_0) ⟨zcw_X11_restore.2.2.2.2, Nat.le_of_ble_eq_true rfl⟩ zk_RL_117 (c_X11_restore hI) (pc' := 845) rfl (fun q11 w11 h11 => ?_)
  obtain ⟨rfl, S1, n1, rfl, f1, hI1⟩ := h11
  have hM1 := MI_class hM f1
  show LZ _ _ _ _ _ _ _ _ _ _ _ _ _ _ _ [.int _] _
  refine LZ_aload_n C dL_law_845 (a := 25) rfl (pc' := 846) rfl ?_
  refine LZ_callV0 C dL_law_846 zcw_X12_restore (As := []) (rest := [_]) rfl ⟨Nat.le_of_ble_eq_true rfl, Nat.le_of_ble_eq_true rfl⟩ (Nat.le_of_ble_eq_true rfl) (zRcv.lay zob_25) ⟨zcw_X12_restore.2.2.2.2, Nat.le_of_ble_eq_true rfl⟩ zk_RL_120 (c_X12_restore hM1) (pc' := 849) rfl (fun q12 w12 h12 => ?_)
  obtain ⟨rfl, S2, rfl, f2, hM2⟩ := h12
  have hI2 := CI_model hI1 f2
  show LZ _ _ _ _ _ _ _ _ _ _ _ _ _ _ _ [.int _, .int _] _
  exact LZ_icmp_eq C dL_law_849 (tgt := 877) rfl (pc' := 852) rfl (fun _ => k S2 n1 _ hI2 hM2) (fun q => absurd rfl q)
set_option maxRecDepth 100000 in
set_option maxHeartbeats 4000000 in
theorem law_count {p : Program} {l : Launch} {e : Env} {s : State} {m : MethodId} {below : List Frame} {meth : Method} {c : Code} {b L : Nat} {xs : Nat → Int32} {cA : Nat → ClassId} {D : va_G} {r i n : Nat} {S : ZS} {M : Ms} (C : LC p s m meth c b L xs cA D) (hL : L ≤ 256) (hi : i + 4 ≤ L) (hI : CI S n M) (hM : MI S M) (k : ∀ (S1 : ZS) (n1 : Nat) (M1 : Ms), CI S1 n1 M1 → MI S1 M1 → LZ p l e s m below meth c b cA D (80 * r) (320 * r) 877 [none, some (.ref 0), some (.ref 25), some (.int (nI i))] [] (zw S1 n1)) : LZ p l e s m below meth c b cA D (80 * r + 80) (320 * r + 320) 854 [none, some (.ref 0), some (.ref 25), some (.int (nI i))] [] (zw S n) := by
  refine LZ_widen (kc' := 80 * r) (ks' := 320 * r) (by omega) (by omega) ?_
  refine LZ_aload_n C dL_law_854 (a := 0) rfl (pc' := 855) rfl ?_
  refine LZ_arg C (i := i) (j := 1) (by omega) (by omega) rfl (by decide) dL_law_855 dL_law_856 dL_law_857 dL_law_858 dL_law_859 (pc' := 860) rfl ?_
  refine LZ_callV0 C dL_law_860 zcw_X11_count (As := [_]) (rest := []) rfl ⟨Nat.le_of_ble_eq_true rfl, Nat.le_of_ble_eq_true rfl⟩ (Nat.le_of_ble_eq_true rfl) (zRcv.lay zob_0) ⟨zcw_X11_count.2.2.2.2, Nat.le_of_ble_eq_true rfl⟩ zk_RL_121 (c_X11_count hI) (pc' := 863) rfl (fun q11 w11 h11 => ?_)
  obtain ⟨rfl, S1, n1, rfl, f1, hI1⟩ := h11
  have hM1 := MI_class hM f1
  show LZ _ _ _ _ _ _ _ _ _ _ _ _ _ _ _ [.int _] _
  refine LZ_aload_n C dL_law_863 (a := 25) rfl (pc' := 864) rfl ?_
  refine LZ_arg C (i := i) (j := 1) (by omega) (by omega) rfl (by decide) dL_law_864 dL_law_865 dL_law_866 dL_law_867 dL_law_868 (pc' := 869) rfl ?_
  refine LZ_callV0 C dL_law_869 zcw_X12_count (As := [_]) (rest := [_]) rfl ⟨Nat.le_of_ble_eq_true rfl, Nat.le_of_ble_eq_true rfl⟩ (Nat.le_of_ble_eq_true rfl) (zRcv.lay zob_25) ⟨zcw_X12_count.2.2.2.2, Nat.le_of_ble_eq_true rfl⟩ zk_RL_124 (c_X12_count hM1) (pc' := 872) rfl (fun q12 w12 h12 => ?_)
  obtain ⟨rfl, S2, rfl, f2, hM2⟩ := h12
  have hI2 := CI_model hI1 f2
  show LZ _ _ _ _ _ _ _ _ _ _ _ _ _ _ _ [.int _, .int _] _
  exact LZ_icmp_eq C dL_law_872 (tgt := 877) rfl (pc' := 875) rfl (fun _ => k S2 n1 _ hI2 hM2) (fun q => absurd rfl q)
set_option maxRecDepth 100000 in
set_option maxHeartbeats 4000000 in
theorem law_body {p : Program} {l : Launch} {e : Env} {s : State} {m : MethodId} {below : List Frame} {meth : Method} {c : Code} {b L : Nat} {xs : Nat → Int32} {cA : Nat → ClassId} {D : va_G} {r i n : Nat} {S : ZS} {M : Ms} (C : LC p s m meth c b L xs cA D) (hL : L ≤ 256) (hi : i + 4 ≤ L) (hI : CI S n M) (hM : MI S M) (k : ∀ (S1 : ZS) (n1 : Nat) (M1 : Ms), CI S1 n1 M1 → MI S1 M1 → LZ p l e s m below meth c b cA D (80 * r) (320 * r) 877 [none, some (.ref 0), some (.ref 25), some (.int (nI i))] [] (zw S1 n1)) : LZ p l e s m below meth c b cA D (80 * r + 80) (320 * r + 320) 26 [none, some (.ref 0), some (.ref 25), some (.int (nI i))] [] (zw S n) := by
  refine LZ_at C (i := i) (by omega) (by omega) rfl dL_law_26 dL_law_27 dL_law_28 (pc' := 29) rfl ?_
  refine LZ_bipush C dL_law_29 (v := 31) (by decide) (pc' := 31) rfl ?_
  refine LZ_iand C dL_law_31 (pc' := 32) rfl ?_
  generalize xs i &&& 31 = x
  by_cases k_0 : x = 0
  · subst k_0
    refine LZ_tableIn C dL_law_32 (by decide) (by decide) (off := 124) rfl (tgt := 156) rfl ?_
    exact law_feed C hL hi hI hM k
  by_cases k_1 : x = 1
  · subst k_1
    refine LZ_tableIn C dL_law_32 (by decide) (by decide) (off := 147) rfl (tgt := 179) rfl ?_
    exact law_coast C hL hi hI hM k
  by_cases k_2 : x = 2
  · subst k_2
    refine LZ_tableIn C dL_law_32 (by decide) (by decide) (off := 160) rfl (tgt := 192) rfl ?_
    exact law_stretch C hL hi hI hM k
  by_cases k_3 : x = 3
  · subst k_3
    refine LZ_tableIn C dL_law_32 (by decide) (by decide) (off := 193) rfl (tgt := 225) rfl ?_
    exact law_point C hL hi hI hM k
  by_cases k_4 : x = 4
  · subst k_4
    refine LZ_tableIn C dL_law_32 (by decide) (by decide) (off := 226) rfl (tgt := 258) rfl ?_
    exact law_shore C hL hi hI hM k
  by_cases k_5 : x = 5
  · subst k_5
    refine LZ_tableIn C dL_law_32 (by decide) (by decide) (off := 249) rfl (tgt := 281) rfl ?_
    exact law_tide C hL hi hI hM k
  by_cases k_6 : x = 6
  · subst k_6
    refine LZ_tableIn C dL_law_32 (by decide) (by decide) (off := 272) rfl (tgt := 304) rfl ?_
    exact law_walk C hL hi hI hM k
  by_cases k_7 : x = 7
  · subst k_7
    refine LZ_tableIn C dL_law_32 (by decide) (by decide) (off := 315) rfl (tgt := 347) rfl ?_
    exact law_place C hL hi hI hM k
  by_cases k_8 : x = 8
  · subst k_8
    refine LZ_tableIn C dL_law_32 (by decide) (by decide) (off := 358) rfl (tgt := 390) rfl ?_
    exact law_best C hL hi hI hM k
  by_cases k_9 : x = 9
  · subst k_9
    refine LZ_tableIn C dL_law_32 (by decide) (by decide) (off := 391) rfl (tgt := 423) rfl ?_
    exact law_span C hL hi hI hM k
  by_cases k_10 : x = 10
  · subst k_10
    refine LZ_tableIn C dL_law_32 (by decide) (by decide) (off := 414) rfl (tgt := 446) rfl ?_
    exact law_finer C hL hi hI hM k
  by_cases k_11 : x = 11
  · subst k_11
    refine LZ_tableIn C dL_law_32 (by decide) (by decide) (off := 437) rfl (tgt := 469) rfl ?_
    exact law_two C hL hi hI hM k
  by_cases k_12 : x = 12
  · subst k_12
    refine LZ_tableIn C dL_law_32 (by decide) (by decide) (off := 480) rfl (tgt := 512) rfl ?_
    exact law_map C hL hi hI hM k
  by_cases k_13 : x = 13
  · subst k_13
    refine LZ_tableIn C dL_law_32 (by decide) (by decide) (off := 513) rfl (tgt := 545) rfl ?_
    exact law_rock C hL hi hI hM k
  by_cases k_14 : x = 14
  · subst k_14
    refine LZ_tableIn C dL_law_32 (by decide) (by decide) (off := 546) rfl (tgt := 578) rfl ?_
    exact law_islands C hL hi hI hM k
  by_cases k_15 : x = 15
  · subst k_15
    refine LZ_tableIn C dL_law_32 (by decide) (by decide) (off := 559) rfl (tgt := 591) rfl ?_
    exact law_hours C hL hi hI hM k
  by_cases k_16 : x = 16
  · subst k_16
    refine LZ_tableIn C dL_law_32 (by decide) (by decide) (off := 582) rfl (tgt := 614) rfl ?_
    exact law_boat C hL hi hI hM k
  by_cases k_17 : x = 17
  · subst k_17
    refine LZ_tableIn C dL_law_32 (by decide) (by decide) (off := 595) rfl (tgt := 627) rfl ?_
    exact law_cut C hL hi hI hM k
  by_cases k_18 : x = 18
  · subst k_18
    refine LZ_tableIn C dL_law_32 (by decide) (by decide) (off := 628) rfl (tgt := 660) rfl ?_
    exact law_worstCut C hL hi hI hM k
  by_cases k_19 : x = 19
  · subst k_19
    refine LZ_tableIn C dL_law_32 (by decide) (by decide) (off := 651) rfl (tgt := 683) rfl ?_
    exact law_copy C hL hi hI hM k
  by_cases k_20 : x = 20
  · subst k_20
    refine LZ_tableIn C dL_law_32 (by decide) (by decide) (off := 684) rfl (tgt := 716) rfl ?_
    exact law_sure C hL hi hI hM k
  by_cases k_21 : x = 21
  · subst k_21
    refine LZ_tableIn C dL_law_32 (by decide) (by decide) (off := 707) rfl (tgt := 739) rfl ?_
    exact law_row C hL hi hI hM k
  by_cases k_22 : x = 22
  · subst k_22
    refine LZ_tableIn C dL_law_32 (by decide) (by decide) (off := 730) rfl (tgt := 762) rfl ?_
    exact law_judge C hL hi hI hM k
  by_cases k_23 : x = 23
  · subst k_23
    refine LZ_tableIn C dL_law_32 (by decide) (by decide) (off := 763) rfl (tgt := 795) rfl ?_
    exact law_seeds C hL hi hI hM k
  by_cases k_24 : x = 24
  · subst k_24
    refine LZ_tableIn C dL_law_32 (by decide) (by decide) (off := 796) rfl (tgt := 828) rfl ?_
    exact law_image C hL hi hI hM k
  by_cases k_25 : x = 25
  · subst k_25
    refine LZ_tableIn C dL_law_32 (by decide) (by decide) (off := 809) rfl (tgt := 841) rfl ?_
    exact law_restore C hL hi hI hM k
  by_cases k_26 : x = 26
  · subst k_26
    refine LZ_tableIn C dL_law_32 (by decide) (by decide) (off := 822) rfl (tgt := 854) rfl ?_
    exact law_count C hL hi hI hM k
  refine LZ_tableOut C dL_law_32 (by have h0 := i32_nev k_0 (v := 0) (by decide); have h1 := i32_nev k_1 (v := 1) (by decide); have h2 := i32_nev k_2 (v := 2) (by decide); have h3 := i32_nev k_3 (v := 3) (by decide); have h4 := i32_nev k_4 (v := 4) (by decide); have h5 := i32_nev k_5 (v := 5) (by decide); have h6 := i32_nev k_6 (v := 6) (by decide); have h7 := i32_nev k_7 (v := 7) (by decide); have h8 := i32_nev k_8 (v := 8) (by decide); have h9 := i32_nev k_9 (v := 9) (by decide); have h10 := i32_nev k_10 (v := 10) (by decide); have h11 := i32_nev k_11 (v := 11) (by decide); have h12 := i32_nev k_12 (v := 12) (by decide); have h13 := i32_nev k_13 (v := 13) (by decide); have h14 := i32_nev k_14 (v := 14) (by decide); have h15 := i32_nev k_15 (v := 15) (by decide); have h16 := i32_nev k_16 (v := 16) (by decide); have h17 := i32_nev k_17 (v := 17) (by decide); have h18 := i32_nev k_18 (v := 18) (by decide); have h19 := i32_nev k_19 (v := 19) (by decide); have h20 := i32_nev k_20 (v := 20) (by decide); have h21 := i32_nev k_21 (v := 21) (by decide); have h22 := i32_nev k_22 (v := 22) (by decide); have h23 := i32_nev k_23 (v := 23) (by decide); have h24 := i32_nev k_24 (v := 24) (by decide); have h25 := i32_nev k_25 (v := 25) (by decide); have h26 := i32_nev k_26 (v := 26) (by decide); omega) (tgt := 877) rfl ?_
  exact LZ_widen (by omega) (by omega) (k S n M hI hM)
set_option maxRecDepth 100000 in
set_option maxHeartbeats 4000000 in
theorem law_end {p : Program} {l : Launch} {e : Env} {s : State} {m : MethodId} {below : List Frame} {meth : Method} {c : Code} {b L : Nat} {xs : Nat → Int32} {cA : Nat → ClassId} {D : va_G} {kc ks : Nat} {ls : List (Option Value)} {ω : ZW} (C : LC p s m meth c b L xs cA D) : LZ p l e s m below meth c b cA D kc ks 883 ls [] ω := by
  refine LZ_iconst C dL_law_883 (v := 1) (by decide) (pc' := 884) rfl ?_
  exact LZ_ret C dL_law_884
theorem law_loop {p : Program} {l : Launch} {e : Env} {s : State} {m : MethodId} {below : List Frame} {meth : Method} {c : Code} {b L : Nat} {xs : Nat → Int32} {cA : Nat → ClassId} {D : va_G} (C : LC p s m meth c b L xs cA D) (hL : L ≤ 256) : ∀ (r i n : Nat) (S : ZS) (M : Ms), L ≤ i + 4 * r + 3 → i ≤ 300 → CI S n M → MI S M → LZ p l e s m below meth c b cA D (80 * r) (320 * r) 18 [none, some (.ref 0), some (.ref 25), some (.int (nI i))] [] (zw S n) := by
  intro r
  induction r with
  | zero =>
    intro i n S M h hi hI hM
    refine LZ_iload_n C dL_law_18 rfl (pc' := 19) rfl ?_
    refine LZ_len C dL_law_19 dL_law_20 (pc' := 21) rfl ?_
    refine LZ_iconst C dL_law_21 (v := 4) (by decide) (pc' := 22) rfl ?_
    refine LZ_isub C dL_law_22 (pc' := 23) rfl ?_
    exact LZ_icmp_gt C dL_law_23 (tgt := 883) rfl (pc' := 26) rfl (fun _ => law_end C) (fun q => absurd ((nI_gt4 hi hL).mpr (by omega)) q)
  | succ r ih =>
    intro i n S M h hi hI hM
    refine LZ_iload_n C dL_law_18 rfl (pc' := 19) rfl ?_
    refine LZ_len C dL_law_19 dL_law_20 (pc' := 21) rfl ?_
    refine LZ_iconst C dL_law_21 (v := 4) (by decide) (pc' := 22) rfl ?_
    refine LZ_isub C dL_law_22 (pc' := 23) rfl ?_
    refine LZ_icmp_gt C dL_law_23 (tgt := 883) rfl (pc' := 26) rfl (fun _ => law_end C) (fun q => ?_)
    have hi4 : i + 4 ≤ L := by
      rw [nI_gt4 hi hL] at q
      omega
    exact law_body C hL hi4 hI hM (fun S1 n1 M1 hI1 hM1 => law_next C (ih (i + 4) n1 S1 M1 (by omega) (by omega) hI1 hM1))
set_option maxRecDepth 100000 in
set_option maxHeartbeats 4000000 in
theorem law_start {p : Program} {l : Launch} {e : Env} {s : State} {m : MethodId} {below : List Frame} {meth : Method} {c : Code} {b L : Nat} {xs : Nat → Int32} {cA : Nat → ClassId} {D : va_G} (C : LC p s m meth c b L xs cA D) (hL : L ≤ 256) : LZ p l e s m below meth c b cA D 600000 7302249 0 [none] [] (fun _ => .inl (0, []), 0) := by
  refine LZ_widen (kc' := 24+ (22 + 5200 + 1) + 1) (ks' := 849 + (1615 + 20800 + 37) + 9) (by decide) (by decide) ?_
  refine LZ_new C (kc := 24 + (22 + 5200 + 1)) (ks := 849 + (1615 + 20800 + 37)) dL_law_0 (ci := 11) (C0 := RX11) (T := TX11) (N := 9) rfl zin_11 zft_11 zw_64 zw_65 zw_48 (fs := [.null, .null, .null, .int 0, .null, .null, .null, .int 0, .null]) (fun lo j hj => by rcases (show j = 0 ∨ j = 1 ∨ j = 2 ∨ j = 3 ∨ j = 4 ∨ j = 5 ∨ j = 6 ∨ j = 7 ∨ j = 8 by omega) with rfl | rfl | rfl | rfl | rfl | rfl | rfl | rfl | rfl <;> rfl) (pc' := 3) rfl ?_
  refine LZ_dup C dL_law_3 rfl (pc' := 4) rfl ?_
  refine LZ_callI C (kc' := 24) (ks' := 849) (kc := 22 + 5200 + 1) (ks := 1615 + 20800 + 37) dL_law_4 zcw_X11_init (As := []) (rest := [_]) rfl ⟨Nat.le_of_ble_eq_true rfl, Nat.le_of_ble_eq_true rfl⟩ (Nat.le_of_ble_eq_true rfl) ⟨zcw_X11_init.2.2.2.2, Nat.le_of_ble_eq_true rfl⟩ rfl rfl zk_RL_9 (c_X11_init (q := 0) (n := 1) (by decide) (by rw [zup_same])) (pc' := 7) rfl (fun q w h => ?_)
  obtain ⟨rfl, τ, rfl, x0, x1, x2, x3, x4, x5, x6, x7, x8, x9, x10, x11, x12, x13, x14, x15, x16, x17, x18, x19, x20, x21, x22, x23, x24, f1⟩ := h
  show LZ _ _ _ _ _ _ _ _ _ _ _ _ _ _ _ [_] (τ, 25)
  refine LZ_astore_n C dL_law_7 (by decide) (by decide) (Nat.le_of_ble_eq_true rfl) rfl (ls' := [none, some (.ref 0)]) rfl (pc' := 8) rfl ?_
  refine LZ_new C (kc := 22 + 5200) (ks := 1615 + 20800) dL_law_8 (ci := 12) (C0 := RX12) (T := TX12) (N := 37) rfl zin_12 zft_12 zw_713 zw_714 zw_53 (fs := [.null, .null, .null, .null, .null, .null, .null, .null, .null, .null, .null, .null, .int 0, .int 0, .int 0, .int 0, .null, .null, .null, .null, .int 0, .int 0, .int 0, .null, .int 0, .int 0, .int 0, .null, .null, .int 0, .int 0, .null, .int 0, .null, .null, .int 0, .int 0]) (fun lo j hj => by rcases (show j = 0 ∨ j = 1 ∨ j = 2 ∨ j = 3 ∨ j = 4 ∨ j = 5 ∨ j = 6 ∨ j = 7 ∨ j = 8 ∨ j = 9 ∨ j = 10 ∨ j = 11 ∨ j = 12 ∨ j = 13 ∨ j = 14 ∨ j = 15 ∨ j = 16 ∨ j = 17 ∨ j = 18 ∨ j = 19 ∨ j = 20 ∨ j = 21 ∨ j = 22 ∨ j = 23 ∨ j = 24 ∨ j = 25 ∨ j = 26 ∨ j = 27 ∨ j = 28 ∨ j = 29 ∨ j = 30 ∨ j = 31 ∨ j = 32 ∨ j = 33 ∨ j = 34 ∨ j = 35 ∨ j = 36 by omega) with rfl | rfl | rfl | rfl | rfl | rfl | rfl | rfl | rfl | rfl | rfl | rfl | rfl | rfl | rfl | rfl | rfl | rfl | rfl | rfl | rfl | rfl | rfl | rfl | rfl | rfl | rfl | rfl | rfl | rfl | rfl | rfl | rfl | rfl | rfl | rfl | rfl <;> rfl) (pc' := 11) rfl ?_
  refine LZ_dup C dL_law_11 rfl (pc' := 12) rfl ?_
  refine LZ_callI C (kc' := 22) (ks' := 1615) (kc := 5200) (ks := 20800) dL_law_12 zcw_X12_init (As := []) (rest := [_]) rfl ⟨Nat.le_of_ble_eq_true rfl, Nat.le_of_ble_eq_true rfl⟩ (Nat.le_of_ble_eq_true rfl) ⟨zcw_X12_init.2.2.2.2, Nat.le_of_ble_eq_true rfl⟩ rfl rfl zk_RL_12 (c_X12_init (q := 25) (n := 26) (by decide) (by rw [zup_same])) (pc' := 15) rfl (fun q w h => ?_)
  obtain ⟨rfl, υ, rfl, y0, y1, y2, y3, y4, y5, y6, y7, y8, y9, y10, y11, y12, y13, y14, y15, y16, y17, y18, y19, y20, y21, y22, f2⟩ := h
  show LZ _ _ _ _ _ _ _ _ _ _ _ _ _ _ _ [_] (υ, 48)
  refine LZ_astore_n C dL_law_15 (by decide) (by decide) (Nat.le_of_ble_eq_true rfl) rfl (ls' := [none, some (.ref 0), some (.ref 25)]) rfl (pc' := 16) rfl ?_
  refine LZ_iconst C dL_law_16 (v := 0) (by decide) (pc' := 17) rfl ?_
  refine LZ_istore_n C dL_law_17 (by decide) (by decide) (Nat.le_of_ble_eq_true rfl) rfl (ls' := [none, some (.ref 0), some (.ref 25), some (.int (nI 0))]) rfl (pc' := 18) rfl ?_
  refine LZ_world (τ := zW S00) (world_00 ⟨x0, x1, x2, x3, x4, x5, x6, x7, x8, x9, x10, x11, x12, x13, x14, x15, x16, x17, x18, x19, x20, x21, x22, x23, x24⟩ ⟨y0, y1, y2, y3, y4, y5, y6, y7, y8, y9, y10, y11, y12, y13, y14, y15, y16, y17, y18, y19, y20, y21, y22⟩ (fun a h1 h2 => (f2 a h1 h2).trans (zup_ne _ _ h2))) ?_
  exact law_loop C hL 65 0 0 S00 M00 (by omega) (by decide) CI_00 MI_00
