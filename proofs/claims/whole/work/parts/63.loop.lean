/-! THE LAW: one turn of its loop, the loop (wip/whole/gen63.py) -/
theorem lg_self (x : Int64) : lg_cmp x x = 0 := by
  unfold lg_cmp
  rw [if_neg (fun q => by rw [gt_iff_lt, Int64.lt_iff_toInt_lt] at q; omega), if_pos rfl]
theorem and63 (x : Int32) : ∃ e, e < 64 ∧ (x &&& 63) = nI e := by
  refine ⟨(x &&& 63).toBitVec.toNat, ?_, ?_⟩
  · have : (x &&& 63).toBitVec = x.toBitVec &&& 63#32 := rfl
    rw [this, BitVec.toNat_and]
    exact Nat.lt_of_le_of_lt Nat.and_le_right (by decide)
  · apply Int32.toBitVec_inj.mp
    show _ = BitVec.ofNat 32 _
    simp
theorem len7 {a i : Nat} (ha : a ≤ 3584) (hi : i ≤ 3584) : (nI a - 7 < nI i) ↔ a < i + 7 := by
  by_cases h : 7 ≤ a
  · rw [show nI a - 7 = nI (a - 7) from pk_sub (a := a) (b := 7) h, nI_ltI (a := a - 7) (b := i) (by omega) (by omega)]
    omega
  · refine ⟨fun _ => by omega, fun _ => Int32.lt_of_lt_of_le ?_ (nI_pos' (by omega))⟩
    have : a = 0 ∨ a = 1 ∨ a = 2 ∨ a = 3 ∨ a = 4 ∨ a = 5 ∨ a = 6 := by omega
    rcases this with rfl | rfl | rfl | rfl | rfl | rfl | rfl <;> decide
section
variable {g : mG} {d : Nat} {A T K : Nat → tR} {B : tR} {E : Nat → Int32} {l : Int64} {G : tR} {Y : tR} {S : Nat → Int32} {Q : Option Value → mM → Prop} {i : Nat}
theorem tn_0 (hi : i + 7 ≤ gL g) (hL : gL g ≤ 3584) (hd : 21 ≤ d) (hS : St g (d - 1) 84 140 [.int (gX g (i + 1))] (117, H3 g (cc A T K B E l G) (mm Y S))) (kk : ∀ h, Inv g h → Wp d 0 1440 [.ref 1000, .ref 0, .ref 92, .int (nI i)] [] h Q) : Wp d 0 184 [.ref 1000, .ref 0, .ref 92, .int (nI i)] [] (117, H3 g (cc A T K B E l G) (mm Y S)) Q := by
  obtain ⟨v, P, Y0, S0, h', x1, x2, hI⟩ := hS
  refine W_aload_n d_0_184 rfl (by decide) ?_
  refine W_aload_n d_0_185 rfl (by decide) ?_
  refine W_iload_n d_0_186 rfl ?_
  refine W_iconst d_0_187 (v := 1) (by decide) ?_
  refine W_iadd d_0_188 ?_
  rw [show (nI i + 1 : Int32) = nI (i + 1) from nI_add i 1]
  refine W_iald (t := 1) (n := gL g) (f := gX g) d_0_189 rfl (by decide) (vp_in_nI (by omega) (by omega)) (congrArg _ (nI_clamp (by omega))) ?_
  refine W_callV d_0_190 o_0 (Or.inl k_9_13) (by omega) x1 rfl rfl rfl (Nat.le_of_ble_eq_true rfl) ?_
  refine W_aload_n d_0_193 rfl (by decide) ?_
  refine W_aload_n d_0_194 rfl (by decide) ?_
  refine W_iload_n d_0_195 rfl ?_
  refine W_iconst d_0_196 (v := 1) (by decide) ?_
  refine W_iadd d_0_197 ?_
  rw [show (nI i + 1 : Int32) = nI (i + 1) from nI_add i 1]
  refine W_iald (t := 1) (n := gL g) (f := gX g) d_0_198 rfl (by decide) (vp_in_nI (by omega) (by omega)) (congrArg _ (nI_clamp (by omega))) ?_
  refine W_callV d_0_199 o_0 (Or.inl k_9_17) (by omega) x2 rfl rfl rfl (Nat.le_of_ble_eq_true rfl) ?_
  exact W_icmp_eq (tgt := 1440) d_0_202 (by decide) (fun _ => kk _ hI) (fun q => absurd rfl q)
theorem tn_1 (hi : i + 7 ≤ gL g) (hL : gL g ≤ 3584) (hd : 21 ≤ d) (hS : St g (d - 1) 85 141 [.int (gX g (i + 1)), .int (gX g (i + 2))] (117, H3 g (cc A T K B E l G) (mm Y S))) (kk : ∀ h, Inv g h → Wp d 0 1440 [.ref 1000, .ref 0, .ref 92, .int (nI i)] [] h Q) : Wp d 0 207 [.ref 1000, .ref 0, .ref 92, .int (nI i)] [] (117, H3 g (cc A T K B E l G) (mm Y S)) Q := by
  obtain ⟨v, P, Y0, S0, h', x1, x2, hI⟩ := hS
  refine W_aload_n d_0_207 rfl (by decide) ?_
  refine W_aload_n d_0_208 rfl (by decide) ?_
  refine W_iload_n d_0_209 rfl ?_
  refine W_iconst d_0_210 (v := 1) (by decide) ?_
  refine W_iadd d_0_211 ?_
  rw [show (nI i + 1 : Int32) = nI (i + 1) from nI_add i 1]
  refine W_iald (t := 1) (n := gL g) (f := gX g) d_0_212 rfl (by decide) (vp_in_nI (by omega) (by omega)) (congrArg _ (nI_clamp (by omega))) ?_
  refine W_aload_n d_0_213 rfl (by decide) ?_
  refine W_iload_n d_0_214 rfl ?_
  refine W_iconst d_0_215 (v := 2) (by decide) ?_
  refine W_iadd d_0_216 ?_
  rw [show (nI i + 2 : Int32) = nI (i + 2) from nI_add i 2]
  refine W_iald (t := 1) (n := gL g) (f := gX g) d_0_217 rfl (by decide) (vp_in_nI (by omega) (by omega)) (congrArg _ (nI_clamp (by omega))) ?_
  refine W_callV d_0_218 o_0 (Or.inl k_9_18) (by omega) x1 rfl rfl rfl (Nat.le_of_ble_eq_true rfl) ?_
  refine W_aload_n d_0_221 rfl (by decide) ?_
  refine W_aload_n d_0_222 rfl (by decide) ?_
  refine W_iload_n d_0_223 rfl ?_
  refine W_iconst d_0_224 (v := 1) (by decide) ?_
  refine W_iadd d_0_225 ?_
  rw [show (nI i + 1 : Int32) = nI (i + 1) from nI_add i 1]
  refine W_iald (t := 1) (n := gL g) (f := gX g) d_0_226 rfl (by decide) (vp_in_nI (by omega) (by omega)) (congrArg _ (nI_clamp (by omega))) ?_
  refine W_aload_n d_0_227 rfl (by decide) ?_
  refine W_iload_n d_0_228 rfl ?_
  refine W_iconst d_0_229 (v := 2) (by decide) ?_
  refine W_iadd d_0_230 ?_
  rw [show (nI i + 2 : Int32) = nI (i + 2) from nI_add i 2]
  refine W_iald (t := 1) (n := gL g) (f := gX g) d_0_231 rfl (by decide) (vp_in_nI (by omega) (by omega)) (congrArg _ (nI_clamp (by omega))) ?_
  refine W_callV d_0_232 o_0 (Or.inl k_9_22) (by omega) x2 rfl rfl rfl (Nat.le_of_ble_eq_true rfl) ?_
  exact W_icmp_eq (tgt := 1440) d_0_235 (by decide) (fun _ => kk _ hI) (fun q => absurd rfl q)
theorem tn_2 (hi : i + 7 ≤ gL g) (hL : gL g ≤ 3584) (hd : 21 ≤ d) (hS : St g (d - 1) 86 143 [.int (gX g (i + 1)), .int (gX g (i + 2)), .int (gX g (i + 3)), .int (gX g (i + 4)), .int (gX g (i + 5)), .int (gX g (i + 6))] (117, H3 g (cc A T K B E l G) (mm Y S))) (kk : ∀ h, Inv g h → Wp d 0 1440 [.ref 1000, .ref 0, .ref 92, .int (nI i)] [] h Q) : Wp d 0 240 [.ref 1000, .ref 0, .ref 92, .int (nI i)] [] (117, H3 g (cc A T K B E l G) (mm Y S)) Q := by
  obtain ⟨v, P, Y0, S0, h', x1, x2, hI⟩ := hS
  refine W_aload_n d_0_240 rfl (by decide) ?_
  refine W_aload_n d_0_241 rfl (by decide) ?_
  refine W_iload_n d_0_242 rfl ?_
  refine W_iconst d_0_243 (v := 1) (by decide) ?_
  refine W_iadd d_0_244 ?_
  rw [show (nI i + 1 : Int32) = nI (i + 1) from nI_add i 1]
  refine W_iald (t := 1) (n := gL g) (f := gX g) d_0_245 rfl (by decide) (vp_in_nI (by omega) (by omega)) (congrArg _ (nI_clamp (by omega))) ?_
  refine W_aload_n d_0_246 rfl (by decide) ?_
  refine W_iload_n d_0_247 rfl ?_
  refine W_iconst d_0_248 (v := 2) (by decide) ?_
  refine W_iadd d_0_249 ?_
  rw [show (nI i + 2 : Int32) = nI (i + 2) from nI_add i 2]
  refine W_iald (t := 1) (n := gL g) (f := gX g) d_0_250 rfl (by decide) (vp_in_nI (by omega) (by omega)) (congrArg _ (nI_clamp (by omega))) ?_
  refine W_aload_n d_0_251 rfl (by decide) ?_
  refine W_iload_n d_0_252 rfl ?_
  refine W_iconst d_0_253 (v := 3) (by decide) ?_
  refine W_iadd d_0_254 ?_
  rw [show (nI i + 3 : Int32) = nI (i + 3) from nI_add i 3]
  refine W_iald (t := 1) (n := gL g) (f := gX g) d_0_255 rfl (by decide) (vp_in_nI (by omega) (by omega)) (congrArg _ (nI_clamp (by omega))) ?_
  refine W_aload_n d_0_256 rfl (by decide) ?_
  refine W_iload_n d_0_257 rfl ?_
  refine W_iconst d_0_258 (v := 4) (by decide) ?_
  refine W_iadd d_0_259 ?_
  rw [show (nI i + 4 : Int32) = nI (i + 4) from nI_add i 4]
  refine W_iald (t := 1) (n := gL g) (f := gX g) d_0_260 rfl (by decide) (vp_in_nI (by omega) (by omega)) (congrArg _ (nI_clamp (by omega))) ?_
  refine W_aload_n d_0_261 rfl (by decide) ?_
  refine W_iload_n d_0_262 rfl ?_
  refine W_iconst d_0_263 (v := 5) (by decide) ?_
  refine W_iadd d_0_264 ?_
  rw [show (nI i + 5 : Int32) = nI (i + 5) from nI_add i 5]
  refine W_iald (t := 1) (n := gL g) (f := gX g) d_0_265 rfl (by decide) (vp_in_nI (by omega) (by omega)) (congrArg _ (nI_clamp (by omega))) ?_
  refine W_aload_n d_0_266 rfl (by decide) ?_
  refine W_iload_n d_0_267 rfl ?_
  refine W_bipush d_0_268 (v := 6) (by decide) ?_
  refine W_iadd d_0_270 ?_
  rw [show (nI i + 6 : Int32) = nI (i + 6) from nI_add i 6]
  refine W_iald (t := 1) (n := gL g) (f := gX g) d_0_271 rfl (by decide) (vp_in_nI (by omega) (by omega)) (congrArg _ (nI_clamp (by omega))) ?_
  refine W_callV d_0_272 o_0 (Or.inl k_9_23) (by omega) x1 rfl rfl rfl (Nat.le_of_ble_eq_true rfl) ?_
  refine W_aload_n d_0_275 rfl (by decide) ?_
  refine W_aload_n d_0_276 rfl (by decide) ?_
  refine W_iload_n d_0_277 rfl ?_
  refine W_iconst d_0_278 (v := 1) (by decide) ?_
  refine W_iadd d_0_279 ?_
  rw [show (nI i + 1 : Int32) = nI (i + 1) from nI_add i 1]
  refine W_iald (t := 1) (n := gL g) (f := gX g) d_0_280 rfl (by decide) (vp_in_nI (by omega) (by omega)) (congrArg _ (nI_clamp (by omega))) ?_
  refine W_aload_n d_0_281 rfl (by decide) ?_
  refine W_iload_n d_0_282 rfl ?_
  refine W_iconst d_0_283 (v := 2) (by decide) ?_
  refine W_iadd d_0_284 ?_
  rw [show (nI i + 2 : Int32) = nI (i + 2) from nI_add i 2]
  refine W_iald (t := 1) (n := gL g) (f := gX g) d_0_285 rfl (by decide) (vp_in_nI (by omega) (by omega)) (congrArg _ (nI_clamp (by omega))) ?_
  refine W_aload_n d_0_286 rfl (by decide) ?_
  refine W_iload_n d_0_287 rfl ?_
  refine W_iconst d_0_288 (v := 3) (by decide) ?_
  refine W_iadd d_0_289 ?_
  rw [show (nI i + 3 : Int32) = nI (i + 3) from nI_add i 3]
  refine W_iald (t := 1) (n := gL g) (f := gX g) d_0_290 rfl (by decide) (vp_in_nI (by omega) (by omega)) (congrArg _ (nI_clamp (by omega))) ?_
  refine W_aload_n d_0_291 rfl (by decide) ?_
  refine W_iload_n d_0_292 rfl ?_
  refine W_iconst d_0_293 (v := 4) (by decide) ?_
  refine W_iadd d_0_294 ?_
  rw [show (nI i + 4 : Int32) = nI (i + 4) from nI_add i 4]
  refine W_iald (t := 1) (n := gL g) (f := gX g) d_0_295 rfl (by decide) (vp_in_nI (by omega) (by omega)) (congrArg _ (nI_clamp (by omega))) ?_
  refine W_aload_n d_0_296 rfl (by decide) ?_
  refine W_iload_n d_0_297 rfl ?_
  refine W_iconst d_0_298 (v := 5) (by decide) ?_
  refine W_iadd d_0_299 ?_
  rw [show (nI i + 5 : Int32) = nI (i + 5) from nI_add i 5]
  refine W_iald (t := 1) (n := gL g) (f := gX g) d_0_300 rfl (by decide) (vp_in_nI (by omega) (by omega)) (congrArg _ (nI_clamp (by omega))) ?_
  refine W_aload_n d_0_301 rfl (by decide) ?_
  refine W_iload_n d_0_302 rfl ?_
  refine W_bipush d_0_303 (v := 6) (by decide) ?_
  refine W_iadd d_0_305 ?_
  rw [show (nI i + 6 : Int32) = nI (i + 6) from nI_add i 6]
  refine W_iald (t := 1) (n := gL g) (f := gX g) d_0_306 rfl (by decide) (vp_in_nI (by omega) (by omega)) (congrArg _ (nI_clamp (by omega))) ?_
  refine W_callV d_0_307 o_0 (Or.inl k_9_27) (by omega) x2 rfl rfl rfl (Nat.le_of_ble_eq_true rfl) ?_
  exact W_icmp_eq (tgt := 1440) d_0_310 (by decide) (fun _ => kk _ hI) (fun q => absurd rfl q)
theorem tn_3 (hi : i + 7 ≤ gL g) (hL : gL g ≤ 3584) (hd : 21 ≤ d) (hS : St g (d - 1) 87 154 [] (117, H3 g (cc A T K B E l G) (mm Y S))) (kk : ∀ h, Inv g h → Wp d 0 1440 [.ref 1000, .ref 0, .ref 92, .int (nI i)] [] h Q) : Wp d 0 315 [.ref 1000, .ref 0, .ref 92, .int (nI i)] [] (117, H3 g (cc A T K B E l G) (mm Y S)) Q := by
  obtain ⟨v, P, Y0, S0, h', x1, x2, hI⟩ := hS
  refine W_aload_n d_0_315 rfl (by decide) ?_
  refine W_callV d_0_316 o_0 (Or.inl k_9_28) (by omega) x1 rfl rfl rfl (Nat.le_of_ble_eq_true rfl) ?_
  refine W_aload_n d_0_319 rfl (by decide) ?_
  refine W_callV d_0_320 o_0 (Or.inl k_9_32) (by omega) x2 rfl rfl rfl (Nat.le_of_ble_eq_true rfl) ?_
  exact W_icmp_eq (tgt := 1440) d_0_323 (by decide) (fun _ => kk _ hI) (fun q => absurd rfl q)
theorem tn_4 (hi : i + 7 ≤ gL g) (hL : gL g ≤ 3584) (hd : 21 ≤ d) (hS : St g (d - 1) 88 157 [.int (gX g (i + 1))] (117, H3 g (cc A T K B E l G) (mm Y S))) (kk : ∀ h, Inv g h → Wp d 0 1440 [.ref 1000, .ref 0, .ref 92, .int (nI i)] [] h Q) : Wp d 0 328 [.ref 1000, .ref 0, .ref 92, .int (nI i)] [] (117, H3 g (cc A T K B E l G) (mm Y S)) Q := by
  obtain ⟨v, P, Y0, S0, h', x1, x2, hI⟩ := hS
  refine W_aload_n d_0_328 rfl (by decide) ?_
  refine W_aload_n d_0_329 rfl (by decide) ?_
  refine W_iload_n d_0_330 rfl ?_
  refine W_iconst d_0_331 (v := 1) (by decide) ?_
  refine W_iadd d_0_332 ?_
  rw [show (nI i + 1 : Int32) = nI (i + 1) from nI_add i 1]
  refine W_iald (t := 1) (n := gL g) (f := gX g) d_0_333 rfl (by decide) (vp_in_nI (by omega) (by omega)) (congrArg _ (nI_clamp (by omega))) ?_
  refine W_callV d_0_334 o_0 (Or.inl k_9_33) (by omega) x1 rfl rfl rfl (Nat.le_of_ble_eq_true rfl) ?_
  refine W_aload_n d_0_337 rfl (by decide) ?_
  refine W_aload_n d_0_338 rfl (by decide) ?_
  refine W_iload_n d_0_339 rfl ?_
  refine W_iconst d_0_340 (v := 1) (by decide) ?_
  refine W_iadd d_0_341 ?_
  rw [show (nI i + 1 : Int32) = nI (i + 1) from nI_add i 1]
  refine W_iald (t := 1) (n := gL g) (f := gX g) d_0_342 rfl (by decide) (vp_in_nI (by omega) (by omega)) (congrArg _ (nI_clamp (by omega))) ?_
  refine W_callV d_0_343 o_0 (Or.inl k_9_36) (by omega) x2 rfl rfl rfl (Nat.le_of_ble_eq_true rfl) ?_
  exact W_icmp_eq (tgt := 1440) d_0_346 (by decide) (fun _ => kk _ hI) (fun q => absurd rfl q)
theorem tn_5 (hi : i + 7 ≤ gL g) (hL : gL g ≤ 3584) (hd : 21 ≤ d) (hS : St g (d - 1) 89 159 [.int (gX g (i + 1)), .int (gX g (i + 2)), .int (gX g (i + 3))] (117, H3 g (cc A T K B E l G) (mm Y S))) (kk : ∀ h, Inv g h → Wp d 0 1440 [.ref 1000, .ref 0, .ref 92, .int (nI i)] [] h Q) : Wp d 0 351 [.ref 1000, .ref 0, .ref 92, .int (nI i)] [] (117, H3 g (cc A T K B E l G) (mm Y S)) Q := by
  obtain ⟨v, P, Y0, S0, h', x1, x2, hI⟩ := hS
  refine W_aload_n d_0_351 rfl (by decide) ?_
  refine W_aload_n d_0_352 rfl (by decide) ?_
  refine W_iload_n d_0_353 rfl ?_
  refine W_iconst d_0_354 (v := 1) (by decide) ?_
  refine W_iadd d_0_355 ?_
  rw [show (nI i + 1 : Int32) = nI (i + 1) from nI_add i 1]
  refine W_iald (t := 1) (n := gL g) (f := gX g) d_0_356 rfl (by decide) (vp_in_nI (by omega) (by omega)) (congrArg _ (nI_clamp (by omega))) ?_
  refine W_aload_n d_0_357 rfl (by decide) ?_
  refine W_iload_n d_0_358 rfl ?_
  refine W_iconst d_0_359 (v := 2) (by decide) ?_
  refine W_iadd d_0_360 ?_
  rw [show (nI i + 2 : Int32) = nI (i + 2) from nI_add i 2]
  refine W_iald (t := 1) (n := gL g) (f := gX g) d_0_361 rfl (by decide) (vp_in_nI (by omega) (by omega)) (congrArg _ (nI_clamp (by omega))) ?_
  refine W_aload_n d_0_362 rfl (by decide) ?_
  refine W_iload_n d_0_363 rfl ?_
  refine W_iconst d_0_364 (v := 3) (by decide) ?_
  refine W_iadd d_0_365 ?_
  rw [show (nI i + 3 : Int32) = nI (i + 3) from nI_add i 3]
  refine W_iald (t := 1) (n := gL g) (f := gX g) d_0_366 rfl (by decide) (vp_in_nI (by omega) (by omega)) (congrArg _ (nI_clamp (by omega))) ?_
  refine W_callV d_0_367 o_0 (Or.inl k_9_37) (by omega) x1 rfl rfl rfl (Nat.le_of_ble_eq_true rfl) ?_
  refine W_aload_n d_0_370 rfl (by decide) ?_
  refine W_aload_n d_0_371 rfl (by decide) ?_
  refine W_iload_n d_0_372 rfl ?_
  refine W_iconst d_0_373 (v := 1) (by decide) ?_
  refine W_iadd d_0_374 ?_
  rw [show (nI i + 1 : Int32) = nI (i + 1) from nI_add i 1]
  refine W_iald (t := 1) (n := gL g) (f := gX g) d_0_375 rfl (by decide) (vp_in_nI (by omega) (by omega)) (congrArg _ (nI_clamp (by omega))) ?_
  refine W_aload_n d_0_376 rfl (by decide) ?_
  refine W_iload_n d_0_377 rfl ?_
  refine W_iconst d_0_378 (v := 2) (by decide) ?_
  refine W_iadd d_0_379 ?_
  rw [show (nI i + 2 : Int32) = nI (i + 2) from nI_add i 2]
  refine W_iald (t := 1) (n := gL g) (f := gX g) d_0_380 rfl (by decide) (vp_in_nI (by omega) (by omega)) (congrArg _ (nI_clamp (by omega))) ?_
  refine W_aload_n d_0_381 rfl (by decide) ?_
  refine W_iload_n d_0_382 rfl ?_
  refine W_iconst d_0_383 (v := 3) (by decide) ?_
  refine W_iadd d_0_384 ?_
  rw [show (nI i + 3 : Int32) = nI (i + 3) from nI_add i 3]
  refine W_iald (t := 1) (n := gL g) (f := gX g) d_0_385 rfl (by decide) (vp_in_nI (by omega) (by omega)) (congrArg _ (nI_clamp (by omega))) ?_
  refine W_callV d_0_386 o_0 (Or.inl k_9_41) (by omega) x2 rfl rfl rfl (Nat.le_of_ble_eq_true rfl) ?_
  exact W_icmp_eq (tgt := 1440) d_0_389 (by decide) (fun _ => kk _ hI) (fun q => absurd rfl q)
theorem tn_6 (hi : i + 7 ≤ gL g) (hL : gL g ≤ 3584) (hd : 21 ≤ d) (hS : St g (d - 1) 90 160 [.int (gX g (i + 1)), .int (gX g (i + 2))] (117, H3 g (cc A T K B E l G) (mm Y S))) (kk : ∀ h, Inv g h → Wp d 0 1440 [.ref 1000, .ref 0, .ref 92, .int (nI i)] [] h Q) : Wp d 0 394 [.ref 1000, .ref 0, .ref 92, .int (nI i)] [] (117, H3 g (cc A T K B E l G) (mm Y S)) Q := by
  obtain ⟨v, P, Y0, S0, h', x1, x2, hI⟩ := hS
  refine W_aload_n d_0_394 rfl (by decide) ?_
  refine W_aload_n d_0_395 rfl (by decide) ?_
  refine W_iload_n d_0_396 rfl ?_
  refine W_iconst d_0_397 (v := 1) (by decide) ?_
  refine W_iadd d_0_398 ?_
  rw [show (nI i + 1 : Int32) = nI (i + 1) from nI_add i 1]
  refine W_iald (t := 1) (n := gL g) (f := gX g) d_0_399 rfl (by decide) (vp_in_nI (by omega) (by omega)) (congrArg _ (nI_clamp (by omega))) ?_
  refine W_aload_n d_0_400 rfl (by decide) ?_
  refine W_iload_n d_0_401 rfl ?_
  refine W_iconst d_0_402 (v := 2) (by decide) ?_
  refine W_iadd d_0_403 ?_
  rw [show (nI i + 2 : Int32) = nI (i + 2) from nI_add i 2]
  refine W_iald (t := 1) (n := gL g) (f := gX g) d_0_404 rfl (by decide) (vp_in_nI (by omega) (by omega)) (congrArg _ (nI_clamp (by omega))) ?_
  refine W_callV d_0_405 o_0 (Or.inl k_9_42) (by omega) x1 rfl rfl rfl (Nat.le_of_ble_eq_true rfl) ?_
  refine W_aload_n d_0_408 rfl (by decide) ?_
  refine W_aload_n d_0_409 rfl (by decide) ?_
  refine W_iload_n d_0_410 rfl ?_
  refine W_iconst d_0_411 (v := 1) (by decide) ?_
  refine W_iadd d_0_412 ?_
  rw [show (nI i + 1 : Int32) = nI (i + 1) from nI_add i 1]
  refine W_iald (t := 1) (n := gL g) (f := gX g) d_0_413 rfl (by decide) (vp_in_nI (by omega) (by omega)) (congrArg _ (nI_clamp (by omega))) ?_
  refine W_aload_n d_0_414 rfl (by decide) ?_
  refine W_iload_n d_0_415 rfl ?_
  refine W_iconst d_0_416 (v := 2) (by decide) ?_
  refine W_iadd d_0_417 ?_
  rw [show (nI i + 2 : Int32) = nI (i + 2) from nI_add i 2]
  refine W_iald (t := 1) (n := gL g) (f := gX g) d_0_418 rfl (by decide) (vp_in_nI (by omega) (by omega)) (congrArg _ (nI_clamp (by omega))) ?_
  refine W_callV d_0_419 o_0 (Or.inl k_9_45) (by omega) x2 rfl rfl rfl (Nat.le_of_ble_eq_true rfl) ?_
  exact W_icmp_eq (tgt := 1440) d_0_422 (by decide) (fun _ => kk _ hI) (fun q => absurd rfl q)
theorem tn_7 (hi : i + 7 ≤ gL g) (hL : gL g ≤ 3584) (hd : 21 ≤ d) (hS : St g (d - 1) 91 162 [.int (gX g (i + 1)), .int (gX g (i + 2)), .int (gX g (i + 3))] (117, H3 g (cc A T K B E l G) (mm Y S))) (kk : ∀ h, Inv g h → Wp d 0 1440 [.ref 1000, .ref 0, .ref 92, .int (nI i)] [] h Q) : Wp d 0 427 [.ref 1000, .ref 0, .ref 92, .int (nI i)] [] (117, H3 g (cc A T K B E l G) (mm Y S)) Q := by
  obtain ⟨v, P, Y0, S0, h', x1, x2, hI⟩ := hS
  refine W_aload_n d_0_427 rfl (by decide) ?_
  refine W_aload_n d_0_428 rfl (by decide) ?_
  refine W_iload_n d_0_429 rfl ?_
  refine W_iconst d_0_430 (v := 1) (by decide) ?_
  refine W_iadd d_0_431 ?_
  rw [show (nI i + 1 : Int32) = nI (i + 1) from nI_add i 1]
  refine W_iald (t := 1) (n := gL g) (f := gX g) d_0_432 rfl (by decide) (vp_in_nI (by omega) (by omega)) (congrArg _ (nI_clamp (by omega))) ?_
  refine W_aload_n d_0_433 rfl (by decide) ?_
  refine W_iload_n d_0_434 rfl ?_
  refine W_iconst d_0_435 (v := 2) (by decide) ?_
  refine W_iadd d_0_436 ?_
  rw [show (nI i + 2 : Int32) = nI (i + 2) from nI_add i 2]
  refine W_iald (t := 1) (n := gL g) (f := gX g) d_0_437 rfl (by decide) (vp_in_nI (by omega) (by omega)) (congrArg _ (nI_clamp (by omega))) ?_
  refine W_aload_n d_0_438 rfl (by decide) ?_
  refine W_iload_n d_0_439 rfl ?_
  refine W_iconst d_0_440 (v := 3) (by decide) ?_
  refine W_iadd d_0_441 ?_
  rw [show (nI i + 3 : Int32) = nI (i + 3) from nI_add i 3]
  refine W_iald (t := 1) (n := gL g) (f := gX g) d_0_442 rfl (by decide) (vp_in_nI (by omega) (by omega)) (congrArg _ (nI_clamp (by omega))) ?_
  refine W_callV d_0_443 o_0 (Or.inl k_9_46) (by omega) x1 rfl rfl rfl (Nat.le_of_ble_eq_true rfl) ?_
  refine W_aload_n d_0_446 rfl (by decide) ?_
  refine W_aload_n d_0_447 rfl (by decide) ?_
  refine W_iload_n d_0_448 rfl ?_
  refine W_iconst d_0_449 (v := 1) (by decide) ?_
  refine W_iadd d_0_450 ?_
  rw [show (nI i + 1 : Int32) = nI (i + 1) from nI_add i 1]
  refine W_iald (t := 1) (n := gL g) (f := gX g) d_0_451 rfl (by decide) (vp_in_nI (by omega) (by omega)) (congrArg _ (nI_clamp (by omega))) ?_
  refine W_aload_n d_0_452 rfl (by decide) ?_
  refine W_iload_n d_0_453 rfl ?_
  refine W_iconst d_0_454 (v := 2) (by decide) ?_
  refine W_iadd d_0_455 ?_
  rw [show (nI i + 2 : Int32) = nI (i + 2) from nI_add i 2]
  refine W_iald (t := 1) (n := gL g) (f := gX g) d_0_456 rfl (by decide) (vp_in_nI (by omega) (by omega)) (congrArg _ (nI_clamp (by omega))) ?_
  refine W_aload_n d_0_457 rfl (by decide) ?_
  refine W_iload_n d_0_458 rfl ?_
  refine W_iconst d_0_459 (v := 3) (by decide) ?_
  refine W_iadd d_0_460 ?_
  rw [show (nI i + 3 : Int32) = nI (i + 3) from nI_add i 3]
  refine W_iald (t := 1) (n := gL g) (f := gX g) d_0_461 rfl (by decide) (vp_in_nI (by omega) (by omega)) (congrArg _ (nI_clamp (by omega))) ?_
  refine W_callV d_0_462 o_0 (Or.inl k_9_49) (by omega) x2 rfl rfl rfl (Nat.le_of_ble_eq_true rfl) ?_
  exact W_icmp_eq (tgt := 1440) d_0_465 (by decide) (fun _ => kk _ hI) (fun q => absurd rfl q)
theorem tn_8 (hi : i + 7 ≤ gL g) (hL : gL g ≤ 3584) (hd : 21 ≤ d) (hS : St g (d - 1) 92 163 [.int (gX g (i + 1)), .int (gX g (i + 2))] (117, H3 g (cc A T K B E l G) (mm Y S))) (kk : ∀ h, Inv g h → Wp d 0 1440 [.ref 1000, .ref 0, .ref 92, .int (nI i)] [] h Q) : Wp d 0 470 [.ref 1000, .ref 0, .ref 92, .int (nI i)] [] (117, H3 g (cc A T K B E l G) (mm Y S)) Q := by
  obtain ⟨v, P, Y0, S0, h', x1, x2, hI⟩ := hS
  refine W_aload_n d_0_470 rfl (by decide) ?_
  refine W_aload_n d_0_471 rfl (by decide) ?_
  refine W_iload_n d_0_472 rfl ?_
  refine W_iconst d_0_473 (v := 1) (by decide) ?_
  refine W_iadd d_0_474 ?_
  rw [show (nI i + 1 : Int32) = nI (i + 1) from nI_add i 1]
  refine W_iald (t := 1) (n := gL g) (f := gX g) d_0_475 rfl (by decide) (vp_in_nI (by omega) (by omega)) (congrArg _ (nI_clamp (by omega))) ?_
  refine W_aload_n d_0_476 rfl (by decide) ?_
  refine W_iload_n d_0_477 rfl ?_
  refine W_iconst d_0_478 (v := 2) (by decide) ?_
  refine W_iadd d_0_479 ?_
  rw [show (nI i + 2 : Int32) = nI (i + 2) from nI_add i 2]
  refine W_iald (t := 1) (n := gL g) (f := gX g) d_0_480 rfl (by decide) (vp_in_nI (by omega) (by omega)) (congrArg _ (nI_clamp (by omega))) ?_
  refine W_callV d_0_481 o_0 (Or.inl k_9_50) (by omega) x1 rfl rfl rfl (Nat.le_of_ble_eq_true rfl) ?_
  refine W_aload_n d_0_484 rfl (by decide) ?_
  refine W_aload_n d_0_485 rfl (by decide) ?_
  refine W_iload_n d_0_486 rfl ?_
  refine W_iconst d_0_487 (v := 1) (by decide) ?_
  refine W_iadd d_0_488 ?_
  rw [show (nI i + 1 : Int32) = nI (i + 1) from nI_add i 1]
  refine W_iald (t := 1) (n := gL g) (f := gX g) d_0_489 rfl (by decide) (vp_in_nI (by omega) (by omega)) (congrArg _ (nI_clamp (by omega))) ?_
  refine W_aload_n d_0_490 rfl (by decide) ?_
  refine W_iload_n d_0_491 rfl ?_
  refine W_iconst d_0_492 (v := 2) (by decide) ?_
  refine W_iadd d_0_493 ?_
  rw [show (nI i + 2 : Int32) = nI (i + 2) from nI_add i 2]
  refine W_iald (t := 1) (n := gL g) (f := gX g) d_0_494 rfl (by decide) (vp_in_nI (by omega) (by omega)) (congrArg _ (nI_clamp (by omega))) ?_
  refine W_callV d_0_495 o_0 (Or.inl k_9_53) (by omega) x2 rfl rfl rfl (Nat.le_of_ble_eq_true rfl) ?_
  exact W_icmp_eq (tgt := 1440) d_0_498 (by decide) (fun _ => kk _ hI) (fun q => absurd rfl q)
theorem tn_9 (hi : i + 7 ≤ gL g) (hL : gL g ≤ 3584) (hd : 21 ≤ d) (hS : St g (d - 1) 93 164 [.int (gX g (i + 1)), .int (gX g (i + 2))] (117, H3 g (cc A T K B E l G) (mm Y S))) (kk : ∀ h, Inv g h → Wp d 0 1440 [.ref 1000, .ref 0, .ref 92, .int (nI i)] [] h Q) : Wp d 0 503 [.ref 1000, .ref 0, .ref 92, .int (nI i)] [] (117, H3 g (cc A T K B E l G) (mm Y S)) Q := by
  obtain ⟨v, P, Y0, S0, h', x1, x2, hI⟩ := hS
  refine W_aload_n d_0_503 rfl (by decide) ?_
  refine W_aload_n d_0_504 rfl (by decide) ?_
  refine W_iload_n d_0_505 rfl ?_
  refine W_iconst d_0_506 (v := 1) (by decide) ?_
  refine W_iadd d_0_507 ?_
  rw [show (nI i + 1 : Int32) = nI (i + 1) from nI_add i 1]
  refine W_iald (t := 1) (n := gL g) (f := gX g) d_0_508 rfl (by decide) (vp_in_nI (by omega) (by omega)) (congrArg _ (nI_clamp (by omega))) ?_
  refine W_aload_n d_0_509 rfl (by decide) ?_
  refine W_iload_n d_0_510 rfl ?_
  refine W_iconst d_0_511 (v := 2) (by decide) ?_
  refine W_iadd d_0_512 ?_
  rw [show (nI i + 2 : Int32) = nI (i + 2) from nI_add i 2]
  refine W_iald (t := 1) (n := gL g) (f := gX g) d_0_513 rfl (by decide) (vp_in_nI (by omega) (by omega)) (congrArg _ (nI_clamp (by omega))) ?_
  refine W_callV d_0_514 o_0 (Or.inl k_9_54) (by omega) x1 rfl rfl rfl (Nat.le_of_ble_eq_true rfl) ?_
  refine W_aload_n d_0_517 rfl (by decide) ?_
  refine W_aload_n d_0_518 rfl (by decide) ?_
  refine W_iload_n d_0_519 rfl ?_
  refine W_iconst d_0_520 (v := 1) (by decide) ?_
  refine W_iadd d_0_521 ?_
  rw [show (nI i + 1 : Int32) = nI (i + 1) from nI_add i 1]
  refine W_iald (t := 1) (n := gL g) (f := gX g) d_0_522 rfl (by decide) (vp_in_nI (by omega) (by omega)) (congrArg _ (nI_clamp (by omega))) ?_
  refine W_aload_n d_0_523 rfl (by decide) ?_
  refine W_iload_n d_0_524 rfl ?_
  refine W_iconst d_0_525 (v := 2) (by decide) ?_
  refine W_iadd d_0_526 ?_
  rw [show (nI i + 2 : Int32) = nI (i + 2) from nI_add i 2]
  refine W_iald (t := 1) (n := gL g) (f := gX g) d_0_527 rfl (by decide) (vp_in_nI (by omega) (by omega)) (congrArg _ (nI_clamp (by omega))) ?_
  refine W_callV d_0_528 o_0 (Or.inl k_9_57) (by omega) x2 rfl rfl rfl (Nat.le_of_ble_eq_true rfl) ?_
  exact W_icmp_eq (tgt := 1440) d_0_531 (by decide) (fun _ => kk _ hI) (fun q => absurd rfl q)
theorem tn_10 (hi : i + 7 ≤ gL g) (hL : gL g ≤ 3584) (hd : 21 ≤ d) (hS : St g (d - 1) 94 165 [.int (gX g (i + 1)), .int (gX g (i + 2)), .int (gX g (i + 3))] (117, H3 g (cc A T K B E l G) (mm Y S))) (kk : ∀ h, Inv g h → Wp d 0 1440 [.ref 1000, .ref 0, .ref 92, .int (nI i)] [] h Q) : Wp d 0 536 [.ref 1000, .ref 0, .ref 92, .int (nI i)] [] (117, H3 g (cc A T K B E l G) (mm Y S)) Q := by
  obtain ⟨v, P, Y0, S0, h', x1, x2, hI⟩ := hS
  refine W_aload_n d_0_536 rfl (by decide) ?_
  refine W_aload_n d_0_537 rfl (by decide) ?_
  refine W_iload_n d_0_538 rfl ?_
  refine W_iconst d_0_539 (v := 1) (by decide) ?_
  refine W_iadd d_0_540 ?_
  rw [show (nI i + 1 : Int32) = nI (i + 1) from nI_add i 1]
  refine W_iald (t := 1) (n := gL g) (f := gX g) d_0_541 rfl (by decide) (vp_in_nI (by omega) (by omega)) (congrArg _ (nI_clamp (by omega))) ?_
  refine W_aload_n d_0_542 rfl (by decide) ?_
  refine W_iload_n d_0_543 rfl ?_
  refine W_iconst d_0_544 (v := 2) (by decide) ?_
  refine W_iadd d_0_545 ?_
  rw [show (nI i + 2 : Int32) = nI (i + 2) from nI_add i 2]
  refine W_iald (t := 1) (n := gL g) (f := gX g) d_0_546 rfl (by decide) (vp_in_nI (by omega) (by omega)) (congrArg _ (nI_clamp (by omega))) ?_
  refine W_aload_n d_0_547 rfl (by decide) ?_
  refine W_iload_n d_0_548 rfl ?_
  refine W_iconst d_0_549 (v := 3) (by decide) ?_
  refine W_iadd d_0_550 ?_
  rw [show (nI i + 3 : Int32) = nI (i + 3) from nI_add i 3]
  refine W_iald (t := 1) (n := gL g) (f := gX g) d_0_551 rfl (by decide) (vp_in_nI (by omega) (by omega)) (congrArg _ (nI_clamp (by omega))) ?_
  refine W_callV d_0_552 o_0 (Or.inl k_9_58) (by omega) x1 rfl rfl rfl (Nat.le_of_ble_eq_true rfl) ?_
  refine W_aload_n d_0_555 rfl (by decide) ?_
  refine W_aload_n d_0_556 rfl (by decide) ?_
  refine W_iload_n d_0_557 rfl ?_
  refine W_iconst d_0_558 (v := 1) (by decide) ?_
  refine W_iadd d_0_559 ?_
  rw [show (nI i + 1 : Int32) = nI (i + 1) from nI_add i 1]
  refine W_iald (t := 1) (n := gL g) (f := gX g) d_0_560 rfl (by decide) (vp_in_nI (by omega) (by omega)) (congrArg _ (nI_clamp (by omega))) ?_
  refine W_aload_n d_0_561 rfl (by decide) ?_
  refine W_iload_n d_0_562 rfl ?_
  refine W_iconst d_0_563 (v := 2) (by decide) ?_
  refine W_iadd d_0_564 ?_
  rw [show (nI i + 2 : Int32) = nI (i + 2) from nI_add i 2]
  refine W_iald (t := 1) (n := gL g) (f := gX g) d_0_565 rfl (by decide) (vp_in_nI (by omega) (by omega)) (congrArg _ (nI_clamp (by omega))) ?_
  refine W_aload_n d_0_566 rfl (by decide) ?_
  refine W_iload_n d_0_567 rfl ?_
  refine W_iconst d_0_568 (v := 3) (by decide) ?_
  refine W_iadd d_0_569 ?_
  rw [show (nI i + 3 : Int32) = nI (i + 3) from nI_add i 3]
  refine W_iald (t := 1) (n := gL g) (f := gX g) d_0_570 rfl (by decide) (vp_in_nI (by omega) (by omega)) (congrArg _ (nI_clamp (by omega))) ?_
  refine W_callV d_0_571 o_0 (Or.inl k_9_61) (by omega) x2 rfl rfl rfl (Nat.le_of_ble_eq_true rfl) ?_
  exact W_icmp_eq (tgt := 1440) d_0_574 (by decide) (fun _ => kk _ hI) (fun q => absurd rfl q)
theorem tn_11 (hi : i + 7 ≤ gL g) (hL : gL g ≤ 3584) (hd : 21 ≤ d) (hS : St g (d - 1) 95 166 [.int (gX g (i + 1))] (117, H3 g (cc A T K B E l G) (mm Y S))) (kk : ∀ h, Inv g h → Wp d 0 1440 [.ref 1000, .ref 0, .ref 92, .int (nI i)] [] h Q) : Wp d 0 579 [.ref 1000, .ref 0, .ref 92, .int (nI i)] [] (117, H3 g (cc A T K B E l G) (mm Y S)) Q := by
  obtain ⟨v, P, Y0, S0, h', x1, x2, hI⟩ := hS
  refine W_aload_n d_0_579 rfl (by decide) ?_
  refine W_aload_n d_0_580 rfl (by decide) ?_
  refine W_iload_n d_0_581 rfl ?_
  refine W_iconst d_0_582 (v := 1) (by decide) ?_
  refine W_iadd d_0_583 ?_
  rw [show (nI i + 1 : Int32) = nI (i + 1) from nI_add i 1]
  refine W_iald (t := 1) (n := gL g) (f := gX g) d_0_584 rfl (by decide) (vp_in_nI (by omega) (by omega)) (congrArg _ (nI_clamp (by omega))) ?_
  refine W_callV d_0_585 o_0 (Or.inl k_9_62) (by omega) x1 rfl rfl rfl (Nat.le_of_ble_eq_true rfl) ?_
  refine W_aload_n d_0_588 rfl (by decide) ?_
  refine W_aload_n d_0_589 rfl (by decide) ?_
  refine W_iload_n d_0_590 rfl ?_
  refine W_iconst d_0_591 (v := 1) (by decide) ?_
  refine W_iadd d_0_592 ?_
  rw [show (nI i + 1 : Int32) = nI (i + 1) from nI_add i 1]
  refine W_iald (t := 1) (n := gL g) (f := gX g) d_0_593 rfl (by decide) (vp_in_nI (by omega) (by omega)) (congrArg _ (nI_clamp (by omega))) ?_
  refine W_callV d_0_594 o_0 (Or.inl k_9_65) (by omega) x2 rfl rfl rfl (Nat.le_of_ble_eq_true rfl) ?_
  exact W_icmp_eq (tgt := 1440) d_0_597 (by decide) (fun _ => kk _ hI) (fun q => absurd rfl q)
theorem tn_12 (hi : i + 7 ≤ gL g) (hL : gL g ≤ 3584) (hd : 21 ≤ d) (hS : St g (d - 1) 96 178 [] (117, H3 g (cc A T K B E l G) (mm Y S))) (kk : ∀ h, Inv g h → Wp d 0 1440 [.ref 1000, .ref 0, .ref 92, .int (nI i)] [] h Q) : Wp d 0 602 [.ref 1000, .ref 0, .ref 92, .int (nI i)] [] (117, H3 g (cc A T K B E l G) (mm Y S)) Q := by
  obtain ⟨v, P, Y0, S0, h', x1, x2, hI⟩ := hS
  refine W_aload_n d_0_602 rfl (by decide) ?_
  refine W_callV d_0_603 o_0 (Or.inl k_9_66) (by omega) x1 rfl rfl rfl (Nat.le_of_ble_eq_true rfl) ?_
  refine W_aload_n d_0_606 rfl (by decide) ?_
  refine W_callV d_0_607 o_0 (Or.inl k_9_69) (by omega) x2 rfl rfl rfl (Nat.le_of_ble_eq_true rfl) ?_
  exact W_icmp_eq (tgt := 1440) d_0_610 (by decide) (fun _ => kk _ hI) (fun q => absurd rfl q)
theorem tn_13 (hi : i + 7 ≤ gL g) (hL : gL g ≤ 3584) (hd : 21 ≤ d) (hS : St g (d - 1) 97 184 [.int (gX g (i + 1)), .int (gX g (i + 2))] (117, H3 g (cc A T K B E l G) (mm Y S))) (kk : ∀ h, Inv g h → Wp d 0 1440 [.ref 1000, .ref 0, .ref 92, .int (nI i)] [] h Q) : Wp d 0 615 [.ref 1000, .ref 0, .ref 92, .int (nI i)] [] (117, H3 g (cc A T K B E l G) (mm Y S)) Q := by
  obtain ⟨v, P, Y0, S0, h', x1, x2, hI⟩ := hS
  refine W_aload_n d_0_615 rfl (by decide) ?_
  refine W_aload_n d_0_616 rfl (by decide) ?_
  refine W_iload_n d_0_617 rfl ?_
  refine W_iconst d_0_618 (v := 1) (by decide) ?_
  refine W_iadd d_0_619 ?_
  rw [show (nI i + 1 : Int32) = nI (i + 1) from nI_add i 1]
  refine W_iald (t := 1) (n := gL g) (f := gX g) d_0_620 rfl (by decide) (vp_in_nI (by omega) (by omega)) (congrArg _ (nI_clamp (by omega))) ?_
  refine W_aload_n d_0_621 rfl (by decide) ?_
  refine W_iload_n d_0_622 rfl ?_
  refine W_iconst d_0_623 (v := 2) (by decide) ?_
  refine W_iadd d_0_624 ?_
  rw [show (nI i + 2 : Int32) = nI (i + 2) from nI_add i 2]
  refine W_iald (t := 1) (n := gL g) (f := gX g) d_0_625 rfl (by decide) (vp_in_nI (by omega) (by omega)) (congrArg _ (nI_clamp (by omega))) ?_
  refine W_callV d_0_626 o_0 (Or.inl k_9_70) (by omega) x1 rfl rfl rfl (Nat.le_of_ble_eq_true rfl) ?_
  refine W_aload_n d_0_629 rfl (by decide) ?_
  refine W_aload_n d_0_630 rfl (by decide) ?_
  refine W_iload_n d_0_631 rfl ?_
  refine W_iconst d_0_632 (v := 1) (by decide) ?_
  refine W_iadd d_0_633 ?_
  rw [show (nI i + 1 : Int32) = nI (i + 1) from nI_add i 1]
  refine W_iald (t := 1) (n := gL g) (f := gX g) d_0_634 rfl (by decide) (vp_in_nI (by omega) (by omega)) (congrArg _ (nI_clamp (by omega))) ?_
  refine W_aload_n d_0_635 rfl (by decide) ?_
  refine W_iload_n d_0_636 rfl ?_
  refine W_iconst d_0_637 (v := 2) (by decide) ?_
  refine W_iadd d_0_638 ?_
  rw [show (nI i + 2 : Int32) = nI (i + 2) from nI_add i 2]
  refine W_iald (t := 1) (n := gL g) (f := gX g) d_0_639 rfl (by decide) (vp_in_nI (by omega) (by omega)) (congrArg _ (nI_clamp (by omega))) ?_
  refine W_callV d_0_640 o_0 (Or.inl k_9_73) (by omega) x2 rfl rfl rfl (Nat.le_of_ble_eq_true rfl) ?_
  exact W_icmp_eq (tgt := 1440) d_0_643 (by decide) (fun _ => kk _ hI) (fun q => absurd rfl q)
theorem tn_14 (hi : i + 7 ≤ gL g) (hL : gL g ≤ 3584) (hd : 21 ≤ d) (hS : St g (d - 1) 99 186 [.int (gX g (i + 1)), .int (gX g (i + 2)), .int (gX g (i + 3))] (117, H3 g (cc A T K B E l G) (mm Y S))) (kk : ∀ h, Inv g h → Wp d 0 1440 [.ref 1000, .ref 0, .ref 92, .int (nI i)] [] h Q) : Wp d 0 648 [.ref 1000, .ref 0, .ref 92, .int (nI i)] [] (117, H3 g (cc A T K B E l G) (mm Y S)) Q := by
  obtain ⟨v, P, Y0, S0, h', x1, x2, hI⟩ := hS
  refine W_aload_n d_0_648 rfl (by decide) ?_
  refine W_aload_n d_0_649 rfl (by decide) ?_
  refine W_iload_n d_0_650 rfl ?_
  refine W_iconst d_0_651 (v := 1) (by decide) ?_
  refine W_iadd d_0_652 ?_
  rw [show (nI i + 1 : Int32) = nI (i + 1) from nI_add i 1]
  refine W_iald (t := 1) (n := gL g) (f := gX g) d_0_653 rfl (by decide) (vp_in_nI (by omega) (by omega)) (congrArg _ (nI_clamp (by omega))) ?_
  refine W_aload_n d_0_654 rfl (by decide) ?_
  refine W_iload_n d_0_655 rfl ?_
  refine W_iconst d_0_656 (v := 2) (by decide) ?_
  refine W_iadd d_0_657 ?_
  rw [show (nI i + 2 : Int32) = nI (i + 2) from nI_add i 2]
  refine W_iald (t := 1) (n := gL g) (f := gX g) d_0_658 rfl (by decide) (vp_in_nI (by omega) (by omega)) (congrArg _ (nI_clamp (by omega))) ?_
  refine W_aload_n d_0_659 rfl (by decide) ?_
  refine W_iload_n d_0_660 rfl ?_
  refine W_iconst d_0_661 (v := 3) (by decide) ?_
  refine W_iadd d_0_662 ?_
  rw [show (nI i + 3 : Int32) = nI (i + 3) from nI_add i 3]
  refine W_iald (t := 1) (n := gL g) (f := gX g) d_0_663 rfl (by decide) (vp_in_nI (by omega) (by omega)) (congrArg _ (nI_clamp (by omega))) ?_
  refine W_callV d_0_664 o_0 (Or.inl k_9_74) (by omega) x1 rfl rfl rfl (Nat.le_of_ble_eq_true rfl) ?_
  refine W_aload_n d_0_667 rfl (by decide) ?_
  refine W_aload_n d_0_668 rfl (by decide) ?_
  refine W_iload_n d_0_669 rfl ?_
  refine W_iconst d_0_670 (v := 1) (by decide) ?_
  refine W_iadd d_0_671 ?_
  rw [show (nI i + 1 : Int32) = nI (i + 1) from nI_add i 1]
  refine W_iald (t := 1) (n := gL g) (f := gX g) d_0_672 rfl (by decide) (vp_in_nI (by omega) (by omega)) (congrArg _ (nI_clamp (by omega))) ?_
  refine W_aload_n d_0_673 rfl (by decide) ?_
  refine W_iload_n d_0_674 rfl ?_
  refine W_iconst d_0_675 (v := 2) (by decide) ?_
  refine W_iadd d_0_676 ?_
  rw [show (nI i + 2 : Int32) = nI (i + 2) from nI_add i 2]
  refine W_iald (t := 1) (n := gL g) (f := gX g) d_0_677 rfl (by decide) (vp_in_nI (by omega) (by omega)) (congrArg _ (nI_clamp (by omega))) ?_
  refine W_aload_n d_0_678 rfl (by decide) ?_
  refine W_iload_n d_0_679 rfl ?_
  refine W_iconst d_0_680 (v := 3) (by decide) ?_
  refine W_iadd d_0_681 ?_
  rw [show (nI i + 3 : Int32) = nI (i + 3) from nI_add i 3]
  refine W_iald (t := 1) (n := gL g) (f := gX g) d_0_682 rfl (by decide) (vp_in_nI (by omega) (by omega)) (congrArg _ (nI_clamp (by omega))) ?_
  refine W_callV d_0_683 o_0 (Or.inl k_9_77) (by omega) x2 rfl rfl rfl (Nat.le_of_ble_eq_true rfl) ?_
  exact W_icmp_eq (tgt := 1440) d_0_686 (by decide) (fun _ => kk _ hI) (fun q => absurd rfl q)
theorem tn_15 (hi : i + 7 ≤ gL g) (hL : gL g ≤ 3584) (hd : 21 ≤ d) (hS : St g (d - 1) 100 187 [.int (gX g (i + 1)), .int (gX g (i + 2)), .int (gX g (i + 3))] (117, H3 g (cc A T K B E l G) (mm Y S))) (kk : ∀ h, Inv g h → Wp d 0 1440 [.ref 1000, .ref 0, .ref 92, .int (nI i)] [] h Q) : Wp d 0 691 [.ref 1000, .ref 0, .ref 92, .int (nI i)] [] (117, H3 g (cc A T K B E l G) (mm Y S)) Q := by
  obtain ⟨v, P, Y0, S0, h', x1, x2, hI⟩ := hS
  refine W_aload_n d_0_691 rfl (by decide) ?_
  refine W_aload_n d_0_692 rfl (by decide) ?_
  refine W_iload_n d_0_693 rfl ?_
  refine W_iconst d_0_694 (v := 1) (by decide) ?_
  refine W_iadd d_0_695 ?_
  rw [show (nI i + 1 : Int32) = nI (i + 1) from nI_add i 1]
  refine W_iald (t := 1) (n := gL g) (f := gX g) d_0_696 rfl (by decide) (vp_in_nI (by omega) (by omega)) (congrArg _ (nI_clamp (by omega))) ?_
  refine W_aload_n d_0_697 rfl (by decide) ?_
  refine W_iload_n d_0_698 rfl ?_
  refine W_iconst d_0_699 (v := 2) (by decide) ?_
  refine W_iadd d_0_700 ?_
  rw [show (nI i + 2 : Int32) = nI (i + 2) from nI_add i 2]
  refine W_iald (t := 1) (n := gL g) (f := gX g) d_0_701 rfl (by decide) (vp_in_nI (by omega) (by omega)) (congrArg _ (nI_clamp (by omega))) ?_
  refine W_aload_n d_0_702 rfl (by decide) ?_
  refine W_iload_n d_0_703 rfl ?_
  refine W_iconst d_0_704 (v := 3) (by decide) ?_
  refine W_iadd d_0_705 ?_
  rw [show (nI i + 3 : Int32) = nI (i + 3) from nI_add i 3]
  refine W_iald (t := 1) (n := gL g) (f := gX g) d_0_706 rfl (by decide) (vp_in_nI (by omega) (by omega)) (congrArg _ (nI_clamp (by omega))) ?_
  refine W_callV d_0_707 o_0 (Or.inl k_9_78) (by omega) x1 rfl rfl rfl (Nat.le_of_ble_eq_true rfl) ?_
  refine W_aload_n d_0_710 rfl (by decide) ?_
  refine W_aload_n d_0_711 rfl (by decide) ?_
  refine W_iload_n d_0_712 rfl ?_
  refine W_iconst d_0_713 (v := 1) (by decide) ?_
  refine W_iadd d_0_714 ?_
  rw [show (nI i + 1 : Int32) = nI (i + 1) from nI_add i 1]
  refine W_iald (t := 1) (n := gL g) (f := gX g) d_0_715 rfl (by decide) (vp_in_nI (by omega) (by omega)) (congrArg _ (nI_clamp (by omega))) ?_
  refine W_aload_n d_0_716 rfl (by decide) ?_
  refine W_iload_n d_0_717 rfl ?_
  refine W_iconst d_0_718 (v := 2) (by decide) ?_
  refine W_iadd d_0_719 ?_
  rw [show (nI i + 2 : Int32) = nI (i + 2) from nI_add i 2]
  refine W_iald (t := 1) (n := gL g) (f := gX g) d_0_720 rfl (by decide) (vp_in_nI (by omega) (by omega)) (congrArg _ (nI_clamp (by omega))) ?_
  refine W_aload_n d_0_721 rfl (by decide) ?_
  refine W_iload_n d_0_722 rfl ?_
  refine W_iconst d_0_723 (v := 3) (by decide) ?_
  refine W_iadd d_0_724 ?_
  rw [show (nI i + 3 : Int32) = nI (i + 3) from nI_add i 3]
  refine W_iald (t := 1) (n := gL g) (f := gX g) d_0_725 rfl (by decide) (vp_in_nI (by omega) (by omega)) (congrArg _ (nI_clamp (by omega))) ?_
  refine W_callV d_0_726 o_0 (Or.inl k_9_81) (by omega) x2 rfl rfl rfl (Nat.le_of_ble_eq_true rfl) ?_
  exact W_icmp_eq (tgt := 1440) d_0_729 (by decide) (fun _ => kk _ hI) (fun q => absurd rfl q)
theorem tn_16 (hi : i + 7 ≤ gL g) (hL : gL g ≤ 3584) (hd : 21 ≤ d) (hS : St g (d - 1) 101 188 [.int (gX g (i + 1)), .int (gX g (i + 2))] (117, H3 g (cc A T K B E l G) (mm Y S))) (kk : ∀ h, Inv g h → Wp d 0 1440 [.ref 1000, .ref 0, .ref 92, .int (nI i)] [] h Q) : Wp d 0 734 [.ref 1000, .ref 0, .ref 92, .int (nI i)] [] (117, H3 g (cc A T K B E l G) (mm Y S)) Q := by
  obtain ⟨v, P, Y0, S0, h', x1, x2, hI⟩ := hS
  refine W_aload_n d_0_734 rfl (by decide) ?_
  refine W_aload_n d_0_735 rfl (by decide) ?_
  refine W_iload_n d_0_736 rfl ?_
  refine W_iconst d_0_737 (v := 1) (by decide) ?_
  refine W_iadd d_0_738 ?_
  rw [show (nI i + 1 : Int32) = nI (i + 1) from nI_add i 1]
  refine W_iald (t := 1) (n := gL g) (f := gX g) d_0_739 rfl (by decide) (vp_in_nI (by omega) (by omega)) (congrArg _ (nI_clamp (by omega))) ?_
  refine W_aload_n d_0_740 rfl (by decide) ?_
  refine W_iload_n d_0_741 rfl ?_
  refine W_iconst d_0_742 (v := 2) (by decide) ?_
  refine W_iadd d_0_743 ?_
  rw [show (nI i + 2 : Int32) = nI (i + 2) from nI_add i 2]
  refine W_iald (t := 1) (n := gL g) (f := gX g) d_0_744 rfl (by decide) (vp_in_nI (by omega) (by omega)) (congrArg _ (nI_clamp (by omega))) ?_
  refine W_callV d_0_745 o_0 (Or.inl k_9_82) (by omega) x1 rfl rfl rfl (Nat.le_of_ble_eq_true rfl) ?_
  refine W_aload_n d_0_748 rfl (by decide) ?_
  refine W_aload_n d_0_749 rfl (by decide) ?_
  refine W_iload_n d_0_750 rfl ?_
  refine W_iconst d_0_751 (v := 1) (by decide) ?_
  refine W_iadd d_0_752 ?_
  rw [show (nI i + 1 : Int32) = nI (i + 1) from nI_add i 1]
  refine W_iald (t := 1) (n := gL g) (f := gX g) d_0_753 rfl (by decide) (vp_in_nI (by omega) (by omega)) (congrArg _ (nI_clamp (by omega))) ?_
  refine W_aload_n d_0_754 rfl (by decide) ?_
  refine W_iload_n d_0_755 rfl ?_
  refine W_iconst d_0_756 (v := 2) (by decide) ?_
  refine W_iadd d_0_757 ?_
  rw [show (nI i + 2 : Int32) = nI (i + 2) from nI_add i 2]
  refine W_iald (t := 1) (n := gL g) (f := gX g) d_0_758 rfl (by decide) (vp_in_nI (by omega) (by omega)) (congrArg _ (nI_clamp (by omega))) ?_
  refine W_callV d_0_759 o_0 (Or.inl k_9_85) (by omega) x2 rfl rfl rfl (Nat.le_of_ble_eq_true rfl) ?_
  exact W_icmp_eq (tgt := 1440) d_0_762 (by decide) (fun _ => kk _ hI) (fun q => absurd rfl q)
theorem tn_17 (hi : i + 7 ≤ gL g) (hL : gL g ≤ 3584) (hd : 21 ≤ d) (hS : St g (d - 1) 102 189 [.int (gX g (i + 1)), .int (gX g (i + 2))] (117, H3 g (cc A T K B E l G) (mm Y S))) (kk : ∀ h, Inv g h → Wp d 0 1440 [.ref 1000, .ref 0, .ref 92, .int (nI i)] [] h Q) : Wp d 0 767 [.ref 1000, .ref 0, .ref 92, .int (nI i)] [] (117, H3 g (cc A T K B E l G) (mm Y S)) Q := by
  obtain ⟨v, P, Y0, S0, h', x1, x2, hI⟩ := hS
  refine W_aload_n d_0_767 rfl (by decide) ?_
  refine W_aload_n d_0_768 rfl (by decide) ?_
  refine W_iload_n d_0_769 rfl ?_
  refine W_iconst d_0_770 (v := 1) (by decide) ?_
  refine W_iadd d_0_771 ?_
  rw [show (nI i + 1 : Int32) = nI (i + 1) from nI_add i 1]
  refine W_iald (t := 1) (n := gL g) (f := gX g) d_0_772 rfl (by decide) (vp_in_nI (by omega) (by omega)) (congrArg _ (nI_clamp (by omega))) ?_
  refine W_aload_n d_0_773 rfl (by decide) ?_
  refine W_iload_n d_0_774 rfl ?_
  refine W_iconst d_0_775 (v := 2) (by decide) ?_
  refine W_iadd d_0_776 ?_
  rw [show (nI i + 2 : Int32) = nI (i + 2) from nI_add i 2]
  refine W_iald (t := 1) (n := gL g) (f := gX g) d_0_777 rfl (by decide) (vp_in_nI (by omega) (by omega)) (congrArg _ (nI_clamp (by omega))) ?_
  refine W_callV d_0_778 o_0 (Or.inl k_9_86) (by omega) x1 rfl rfl rfl (Nat.le_of_ble_eq_true rfl) ?_
  refine W_aload_n d_0_781 rfl (by decide) ?_
  refine W_aload_n d_0_782 rfl (by decide) ?_
  refine W_iload_n d_0_783 rfl ?_
  refine W_iconst d_0_784 (v := 1) (by decide) ?_
  refine W_iadd d_0_785 ?_
  rw [show (nI i + 1 : Int32) = nI (i + 1) from nI_add i 1]
  refine W_iald (t := 1) (n := gL g) (f := gX g) d_0_786 rfl (by decide) (vp_in_nI (by omega) (by omega)) (congrArg _ (nI_clamp (by omega))) ?_
  refine W_aload_n d_0_787 rfl (by decide) ?_
  refine W_iload_n d_0_788 rfl ?_
  refine W_iconst d_0_789 (v := 2) (by decide) ?_
  refine W_iadd d_0_790 ?_
  rw [show (nI i + 2 : Int32) = nI (i + 2) from nI_add i 2]
  refine W_iald (t := 1) (n := gL g) (f := gX g) d_0_791 rfl (by decide) (vp_in_nI (by omega) (by omega)) (congrArg _ (nI_clamp (by omega))) ?_
  refine W_callV d_0_792 o_0 (Or.inl k_9_89) (by omega) x2 rfl rfl rfl (Nat.le_of_ble_eq_true rfl) ?_
  exact W_icmp_eq (tgt := 1440) d_0_795 (by decide) (fun _ => kk _ hI) (fun q => absurd rfl q)
theorem tn_18 (hi : i + 7 ≤ gL g) (hL : gL g ≤ 3584) (hd : 21 ≤ d) (hS : St g (d - 1) 103 190 [.int (gX g (i + 1)), .int (gX g (i + 2)), .int (gX g (i + 3))] (117, H3 g (cc A T K B E l G) (mm Y S))) (kk : ∀ h, Inv g h → Wp d 0 1440 [.ref 1000, .ref 0, .ref 92, .int (nI i)] [] h Q) : Wp d 0 800 [.ref 1000, .ref 0, .ref 92, .int (nI i)] [] (117, H3 g (cc A T K B E l G) (mm Y S)) Q := by
  obtain ⟨v, P, Y0, S0, h', x1, x2, hI⟩ := hS
  refine W_aload_n d_0_800 rfl (by decide) ?_
  refine W_aload_n d_0_801 rfl (by decide) ?_
  refine W_iload_n d_0_802 rfl ?_
  refine W_iconst d_0_803 (v := 1) (by decide) ?_
  refine W_iadd d_0_804 ?_
  rw [show (nI i + 1 : Int32) = nI (i + 1) from nI_add i 1]
  refine W_iald (t := 1) (n := gL g) (f := gX g) d_0_805 rfl (by decide) (vp_in_nI (by omega) (by omega)) (congrArg _ (nI_clamp (by omega))) ?_
  refine W_aload_n d_0_806 rfl (by decide) ?_
  refine W_iload_n d_0_807 rfl ?_
  refine W_iconst d_0_808 (v := 2) (by decide) ?_
  refine W_iadd d_0_809 ?_
  rw [show (nI i + 2 : Int32) = nI (i + 2) from nI_add i 2]
  refine W_iald (t := 1) (n := gL g) (f := gX g) d_0_810 rfl (by decide) (vp_in_nI (by omega) (by omega)) (congrArg _ (nI_clamp (by omega))) ?_
  refine W_aload_n d_0_811 rfl (by decide) ?_
  refine W_iload_n d_0_812 rfl ?_
  refine W_iconst d_0_813 (v := 3) (by decide) ?_
  refine W_iadd d_0_814 ?_
  rw [show (nI i + 3 : Int32) = nI (i + 3) from nI_add i 3]
  refine W_iald (t := 1) (n := gL g) (f := gX g) d_0_815 rfl (by decide) (vp_in_nI (by omega) (by omega)) (congrArg _ (nI_clamp (by omega))) ?_
  refine W_callV d_0_816 o_0 (Or.inl k_9_90) (by omega) x1 rfl rfl rfl (Nat.le_of_ble_eq_true rfl) ?_
  refine W_aload_n d_0_819 rfl (by decide) ?_
  refine W_aload_n d_0_820 rfl (by decide) ?_
  refine W_iload_n d_0_821 rfl ?_
  refine W_iconst d_0_822 (v := 1) (by decide) ?_
  refine W_iadd d_0_823 ?_
  rw [show (nI i + 1 : Int32) = nI (i + 1) from nI_add i 1]
  refine W_iald (t := 1) (n := gL g) (f := gX g) d_0_824 rfl (by decide) (vp_in_nI (by omega) (by omega)) (congrArg _ (nI_clamp (by omega))) ?_
  refine W_aload_n d_0_825 rfl (by decide) ?_
  refine W_iload_n d_0_826 rfl ?_
  refine W_iconst d_0_827 (v := 2) (by decide) ?_
  refine W_iadd d_0_828 ?_
  rw [show (nI i + 2 : Int32) = nI (i + 2) from nI_add i 2]
  refine W_iald (t := 1) (n := gL g) (f := gX g) d_0_829 rfl (by decide) (vp_in_nI (by omega) (by omega)) (congrArg _ (nI_clamp (by omega))) ?_
  refine W_aload_n d_0_830 rfl (by decide) ?_
  refine W_iload_n d_0_831 rfl ?_
  refine W_iconst d_0_832 (v := 3) (by decide) ?_
  refine W_iadd d_0_833 ?_
  rw [show (nI i + 3 : Int32) = nI (i + 3) from nI_add i 3]
  refine W_iald (t := 1) (n := gL g) (f := gX g) d_0_834 rfl (by decide) (vp_in_nI (by omega) (by omega)) (congrArg _ (nI_clamp (by omega))) ?_
  refine W_callV d_0_835 o_0 (Or.inl k_9_93) (by omega) x2 rfl rfl rfl (Nat.le_of_ble_eq_true rfl) ?_
  exact W_icmp_eq (tgt := 1440) d_0_838 (by decide) (fun _ => kk _ hI) (fun q => absurd rfl q)
theorem tn_19 (hi : i + 7 ≤ gL g) (hL : gL g ≤ 3584) (hd : 21 ≤ d) (hS : St g (d - 1) 104 191 [.int (gX g (i + 1)), .int (gX g (i + 2)), .int (gX g (i + 3))] (117, H3 g (cc A T K B E l G) (mm Y S))) (kk : ∀ h, Inv g h → Wp d 0 1440 [.ref 1000, .ref 0, .ref 92, .int (nI i)] [] h Q) : Wp d 0 843 [.ref 1000, .ref 0, .ref 92, .int (nI i)] [] (117, H3 g (cc A T K B E l G) (mm Y S)) Q := by
  obtain ⟨v, P, Y0, S0, h', x1, x2, hI⟩ := hS
  refine W_aload_n d_0_843 rfl (by decide) ?_
  refine W_aload_n d_0_844 rfl (by decide) ?_
  refine W_iload_n d_0_845 rfl ?_
  refine W_iconst d_0_846 (v := 1) (by decide) ?_
  refine W_iadd d_0_847 ?_
  rw [show (nI i + 1 : Int32) = nI (i + 1) from nI_add i 1]
  refine W_iald (t := 1) (n := gL g) (f := gX g) d_0_848 rfl (by decide) (vp_in_nI (by omega) (by omega)) (congrArg _ (nI_clamp (by omega))) ?_
  refine W_aload_n d_0_849 rfl (by decide) ?_
  refine W_iload_n d_0_850 rfl ?_
  refine W_iconst d_0_851 (v := 2) (by decide) ?_
  refine W_iadd d_0_852 ?_
  rw [show (nI i + 2 : Int32) = nI (i + 2) from nI_add i 2]
  refine W_iald (t := 1) (n := gL g) (f := gX g) d_0_853 rfl (by decide) (vp_in_nI (by omega) (by omega)) (congrArg _ (nI_clamp (by omega))) ?_
  refine W_aload_n d_0_854 rfl (by decide) ?_
  refine W_iload_n d_0_855 rfl ?_
  refine W_iconst d_0_856 (v := 3) (by decide) ?_
  refine W_iadd d_0_857 ?_
  rw [show (nI i + 3 : Int32) = nI (i + 3) from nI_add i 3]
  refine W_iald (t := 1) (n := gL g) (f := gX g) d_0_858 rfl (by decide) (vp_in_nI (by omega) (by omega)) (congrArg _ (nI_clamp (by omega))) ?_
  refine W_callV d_0_859 o_0 (Or.inl k_9_94) (by omega) x1 rfl rfl rfl (Nat.le_of_ble_eq_true rfl) ?_
  refine W_aload_n d_0_862 rfl (by decide) ?_
  refine W_aload_n d_0_863 rfl (by decide) ?_
  refine W_iload_n d_0_864 rfl ?_
  refine W_iconst d_0_865 (v := 1) (by decide) ?_
  refine W_iadd d_0_866 ?_
  rw [show (nI i + 1 : Int32) = nI (i + 1) from nI_add i 1]
  refine W_iald (t := 1) (n := gL g) (f := gX g) d_0_867 rfl (by decide) (vp_in_nI (by omega) (by omega)) (congrArg _ (nI_clamp (by omega))) ?_
  refine W_aload_n d_0_868 rfl (by decide) ?_
  refine W_iload_n d_0_869 rfl ?_
  refine W_iconst d_0_870 (v := 2) (by decide) ?_
  refine W_iadd d_0_871 ?_
  rw [show (nI i + 2 : Int32) = nI (i + 2) from nI_add i 2]
  refine W_iald (t := 1) (n := gL g) (f := gX g) d_0_872 rfl (by decide) (vp_in_nI (by omega) (by omega)) (congrArg _ (nI_clamp (by omega))) ?_
  refine W_aload_n d_0_873 rfl (by decide) ?_
  refine W_iload_n d_0_874 rfl ?_
  refine W_iconst d_0_875 (v := 3) (by decide) ?_
  refine W_iadd d_0_876 ?_
  rw [show (nI i + 3 : Int32) = nI (i + 3) from nI_add i 3]
  refine W_iald (t := 1) (n := gL g) (f := gX g) d_0_877 rfl (by decide) (vp_in_nI (by omega) (by omega)) (congrArg _ (nI_clamp (by omega))) ?_
  refine W_callV d_0_878 o_0 (Or.inl k_9_97) (by omega) x2 rfl rfl rfl (Nat.le_of_ble_eq_true rfl) ?_
  exact W_icmp_eq (tgt := 1440) d_0_881 (by decide) (fun _ => kk _ hI) (fun q => absurd rfl q)
theorem tn_20 (hi : i + 7 ≤ gL g) (hL : gL g ≤ 3584) (hd : 21 ≤ d) (hS : St g (d - 1) 106 195 [.int (gX g (i + 1)), .int (gX g (i + 2))] (117, H3 g (cc A T K B E l G) (mm Y S))) (kk : ∀ h, Inv g h → Wp d 0 1440 [.ref 1000, .ref 0, .ref 92, .int (nI i)] [] h Q) : Wp d 0 886 [.ref 1000, .ref 0, .ref 92, .int (nI i)] [] (117, H3 g (cc A T K B E l G) (mm Y S)) Q := by
  obtain ⟨v, P, Y0, S0, h', x1, x2, hI⟩ := hS
  refine W_aload_n d_0_886 rfl (by decide) ?_
  refine W_aload_n d_0_887 rfl (by decide) ?_
  refine W_iload_n d_0_888 rfl ?_
  refine W_iconst d_0_889 (v := 1) (by decide) ?_
  refine W_iadd d_0_890 ?_
  rw [show (nI i + 1 : Int32) = nI (i + 1) from nI_add i 1]
  refine W_iald (t := 1) (n := gL g) (f := gX g) d_0_891 rfl (by decide) (vp_in_nI (by omega) (by omega)) (congrArg _ (nI_clamp (by omega))) ?_
  refine W_aload_n d_0_892 rfl (by decide) ?_
  refine W_iload_n d_0_893 rfl ?_
  refine W_iconst d_0_894 (v := 2) (by decide) ?_
  refine W_iadd d_0_895 ?_
  rw [show (nI i + 2 : Int32) = nI (i + 2) from nI_add i 2]
  refine W_iald (t := 1) (n := gL g) (f := gX g) d_0_896 rfl (by decide) (vp_in_nI (by omega) (by omega)) (congrArg _ (nI_clamp (by omega))) ?_
  refine W_callV d_0_897 o_0 (Or.inl k_9_98) (by omega) x1 rfl rfl rfl (Nat.le_of_ble_eq_true rfl) ?_
  refine W_aload_n d_0_900 rfl (by decide) ?_
  refine W_aload_n d_0_901 rfl (by decide) ?_
  refine W_iload_n d_0_902 rfl ?_
  refine W_iconst d_0_903 (v := 1) (by decide) ?_
  refine W_iadd d_0_904 ?_
  rw [show (nI i + 1 : Int32) = nI (i + 1) from nI_add i 1]
  refine W_iald (t := 1) (n := gL g) (f := gX g) d_0_905 rfl (by decide) (vp_in_nI (by omega) (by omega)) (congrArg _ (nI_clamp (by omega))) ?_
  refine W_aload_n d_0_906 rfl (by decide) ?_
  refine W_iload_n d_0_907 rfl ?_
  refine W_iconst d_0_908 (v := 2) (by decide) ?_
  refine W_iadd d_0_909 ?_
  rw [show (nI i + 2 : Int32) = nI (i + 2) from nI_add i 2]
  refine W_iald (t := 1) (n := gL g) (f := gX g) d_0_910 rfl (by decide) (vp_in_nI (by omega) (by omega)) (congrArg _ (nI_clamp (by omega))) ?_
  refine W_callV d_0_911 o_0 (Or.inl k_9_101) (by omega) x2 rfl rfl rfl (Nat.le_of_ble_eq_true rfl) ?_
  exact W_icmp_eq (tgt := 1440) d_0_914 (by decide) (fun _ => kk _ hI) (fun q => absurd rfl q)
theorem tn_21 (hi : i + 7 ≤ gL g) (hL : gL g ≤ 3584) (hd : 21 ≤ d) (hS : St g (d - 1) 107 196 [.int (gX g (i + 1)), .int (gX g (i + 2)), .int (gX g (i + 3)), .int (gX g (i + 4))] (117, H3 g (cc A T K B E l G) (mm Y S))) (kk : ∀ h, Inv g h → Wp d 0 1440 [.ref 1000, .ref 0, .ref 92, .int (nI i)] [] h Q) : Wp d 0 919 [.ref 1000, .ref 0, .ref 92, .int (nI i)] [] (117, H3 g (cc A T K B E l G) (mm Y S)) Q := by
  obtain ⟨v, P, Y0, S0, h', x1, x2, hI⟩ := hS
  refine W_aload_n d_0_919 rfl (by decide) ?_
  refine W_aload_n d_0_920 rfl (by decide) ?_
  refine W_iload_n d_0_921 rfl ?_
  refine W_iconst d_0_922 (v := 1) (by decide) ?_
  refine W_iadd d_0_923 ?_
  rw [show (nI i + 1 : Int32) = nI (i + 1) from nI_add i 1]
  refine W_iald (t := 1) (n := gL g) (f := gX g) d_0_924 rfl (by decide) (vp_in_nI (by omega) (by omega)) (congrArg _ (nI_clamp (by omega))) ?_
  refine W_aload_n d_0_925 rfl (by decide) ?_
  refine W_iload_n d_0_926 rfl ?_
  refine W_iconst d_0_927 (v := 2) (by decide) ?_
  refine W_iadd d_0_928 ?_
  rw [show (nI i + 2 : Int32) = nI (i + 2) from nI_add i 2]
  refine W_iald (t := 1) (n := gL g) (f := gX g) d_0_929 rfl (by decide) (vp_in_nI (by omega) (by omega)) (congrArg _ (nI_clamp (by omega))) ?_
  refine W_aload_n d_0_930 rfl (by decide) ?_
  refine W_iload_n d_0_931 rfl ?_
  refine W_iconst d_0_932 (v := 3) (by decide) ?_
  refine W_iadd d_0_933 ?_
  rw [show (nI i + 3 : Int32) = nI (i + 3) from nI_add i 3]
  refine W_iald (t := 1) (n := gL g) (f := gX g) d_0_934 rfl (by decide) (vp_in_nI (by omega) (by omega)) (congrArg _ (nI_clamp (by omega))) ?_
  refine W_aload_n d_0_935 rfl (by decide) ?_
  refine W_iload_n d_0_936 rfl ?_
  refine W_iconst d_0_937 (v := 4) (by decide) ?_
  refine W_iadd d_0_938 ?_
  rw [show (nI i + 4 : Int32) = nI (i + 4) from nI_add i 4]
  refine W_iald (t := 1) (n := gL g) (f := gX g) d_0_939 rfl (by decide) (vp_in_nI (by omega) (by omega)) (congrArg _ (nI_clamp (by omega))) ?_
  refine W_callV d_0_940 o_0 (Or.inl k_9_102) (by omega) x1 rfl rfl rfl (Nat.le_of_ble_eq_true rfl) ?_
  refine W_aload_n d_0_943 rfl (by decide) ?_
  refine W_aload_n d_0_944 rfl (by decide) ?_
  refine W_iload_n d_0_945 rfl ?_
  refine W_iconst d_0_946 (v := 1) (by decide) ?_
  refine W_iadd d_0_947 ?_
  rw [show (nI i + 1 : Int32) = nI (i + 1) from nI_add i 1]
  refine W_iald (t := 1) (n := gL g) (f := gX g) d_0_948 rfl (by decide) (vp_in_nI (by omega) (by omega)) (congrArg _ (nI_clamp (by omega))) ?_
  refine W_aload_n d_0_949 rfl (by decide) ?_
  refine W_iload_n d_0_950 rfl ?_
  refine W_iconst d_0_951 (v := 2) (by decide) ?_
  refine W_iadd d_0_952 ?_
  rw [show (nI i + 2 : Int32) = nI (i + 2) from nI_add i 2]
  refine W_iald (t := 1) (n := gL g) (f := gX g) d_0_953 rfl (by decide) (vp_in_nI (by omega) (by omega)) (congrArg _ (nI_clamp (by omega))) ?_
  refine W_aload_n d_0_954 rfl (by decide) ?_
  refine W_iload_n d_0_955 rfl ?_
  refine W_iconst d_0_956 (v := 3) (by decide) ?_
  refine W_iadd d_0_957 ?_
  rw [show (nI i + 3 : Int32) = nI (i + 3) from nI_add i 3]
  refine W_iald (t := 1) (n := gL g) (f := gX g) d_0_958 rfl (by decide) (vp_in_nI (by omega) (by omega)) (congrArg _ (nI_clamp (by omega))) ?_
  refine W_aload_n d_0_959 rfl (by decide) ?_
  refine W_iload_n d_0_960 rfl ?_
  refine W_iconst d_0_961 (v := 4) (by decide) ?_
  refine W_iadd d_0_962 ?_
  rw [show (nI i + 4 : Int32) = nI (i + 4) from nI_add i 4]
  refine W_iald (t := 1) (n := gL g) (f := gX g) d_0_963 rfl (by decide) (vp_in_nI (by omega) (by omega)) (congrArg _ (nI_clamp (by omega))) ?_
  refine W_callV d_0_964 o_0 (Or.inl k_9_106) (by omega) x2 rfl rfl rfl (Nat.le_of_ble_eq_true rfl) ?_
  exact W_icmp_eq (tgt := 1440) d_0_967 (by decide) (fun _ => kk _ hI) (fun q => absurd rfl q)
theorem tn_22 (hi : i + 7 ≤ gL g) (hL : gL g ≤ 3584) (hd : 21 ≤ d) (hS : St g (d - 1) 108 197 [.int (gX g (i + 1)), .int (gX g (i + 2))] (117, H3 g (cc A T K B E l G) (mm Y S))) (kk : ∀ h, Inv g h → Wp d 0 1440 [.ref 1000, .ref 0, .ref 92, .int (nI i)] [] h Q) : Wp d 0 972 [.ref 1000, .ref 0, .ref 92, .int (nI i)] [] (117, H3 g (cc A T K B E l G) (mm Y S)) Q := by
  obtain ⟨v, P, Y0, S0, h', x1, x2, hI⟩ := hS
  refine W_aload_n d_0_972 rfl (by decide) ?_
  refine W_aload_n d_0_973 rfl (by decide) ?_
  refine W_iload_n d_0_974 rfl ?_
  refine W_iconst d_0_975 (v := 1) (by decide) ?_
  refine W_iadd d_0_976 ?_
  rw [show (nI i + 1 : Int32) = nI (i + 1) from nI_add i 1]
  refine W_iald (t := 1) (n := gL g) (f := gX g) d_0_977 rfl (by decide) (vp_in_nI (by omega) (by omega)) (congrArg _ (nI_clamp (by omega))) ?_
  refine W_aload_n d_0_978 rfl (by decide) ?_
  refine W_iload_n d_0_979 rfl ?_
  refine W_iconst d_0_980 (v := 2) (by decide) ?_
  refine W_iadd d_0_981 ?_
  rw [show (nI i + 2 : Int32) = nI (i + 2) from nI_add i 2]
  refine W_iald (t := 1) (n := gL g) (f := gX g) d_0_982 rfl (by decide) (vp_in_nI (by omega) (by omega)) (congrArg _ (nI_clamp (by omega))) ?_
  refine W_callV d_0_983 o_0 (Or.inl k_9_107) (by omega) x1 rfl rfl rfl (Nat.le_of_ble_eq_true rfl) ?_
  refine W_aload_n d_0_986 rfl (by decide) ?_
  refine W_aload_n d_0_987 rfl (by decide) ?_
  refine W_iload_n d_0_988 rfl ?_
  refine W_iconst d_0_989 (v := 1) (by decide) ?_
  refine W_iadd d_0_990 ?_
  rw [show (nI i + 1 : Int32) = nI (i + 1) from nI_add i 1]
  refine W_iald (t := 1) (n := gL g) (f := gX g) d_0_991 rfl (by decide) (vp_in_nI (by omega) (by omega)) (congrArg _ (nI_clamp (by omega))) ?_
  refine W_aload_n d_0_992 rfl (by decide) ?_
  refine W_iload_n d_0_993 rfl ?_
  refine W_iconst d_0_994 (v := 2) (by decide) ?_
  refine W_iadd d_0_995 ?_
  rw [show (nI i + 2 : Int32) = nI (i + 2) from nI_add i 2]
  refine W_iald (t := 1) (n := gL g) (f := gX g) d_0_996 rfl (by decide) (vp_in_nI (by omega) (by omega)) (congrArg _ (nI_clamp (by omega))) ?_
  refine W_callV d_0_997 o_0 (Or.inl k_9_110) (by omega) x2 rfl rfl rfl (Nat.le_of_ble_eq_true rfl) ?_
  exact W_icmp_eq (tgt := 1440) d_0_1000 (by decide) (fun _ => kk _ hI) (fun q => absurd rfl q)
theorem tn_23 (hi : i + 7 ≤ gL g) (hL : gL g ≤ 3584) (hd : 21 ≤ d) (hS : St g (d - 1) 109 198 [.int (gX g (i + 1)), .int (gX g (i + 2))] (117, H3 g (cc A T K B E l G) (mm Y S))) (kk : ∀ h, Inv g h → Wp d 0 1440 [.ref 1000, .ref 0, .ref 92, .int (nI i)] [] h Q) : Wp d 0 1005 [.ref 1000, .ref 0, .ref 92, .int (nI i)] [] (117, H3 g (cc A T K B E l G) (mm Y S)) Q := by
  obtain ⟨v, P, Y0, S0, h', x1, x2, hI⟩ := hS
  refine W_aload_n d_0_1005 rfl (by decide) ?_
  refine W_aload_n d_0_1006 rfl (by decide) ?_
  refine W_iload_n d_0_1007 rfl ?_
  refine W_iconst d_0_1008 (v := 1) (by decide) ?_
  refine W_iadd d_0_1009 ?_
  rw [show (nI i + 1 : Int32) = nI (i + 1) from nI_add i 1]
  refine W_iald (t := 1) (n := gL g) (f := gX g) d_0_1010 rfl (by decide) (vp_in_nI (by omega) (by omega)) (congrArg _ (nI_clamp (by omega))) ?_
  refine W_aload_n d_0_1011 rfl (by decide) ?_
  refine W_iload_n d_0_1012 rfl ?_
  refine W_iconst d_0_1013 (v := 2) (by decide) ?_
  refine W_iadd d_0_1014 ?_
  rw [show (nI i + 2 : Int32) = nI (i + 2) from nI_add i 2]
  refine W_iald (t := 1) (n := gL g) (f := gX g) d_0_1015 rfl (by decide) (vp_in_nI (by omega) (by omega)) (congrArg _ (nI_clamp (by omega))) ?_
  refine W_callV d_0_1016 o_0 (Or.inl k_9_111) (by omega) x1 rfl rfl rfl (Nat.le_of_ble_eq_true rfl) ?_
  refine W_aload_n d_0_1019 rfl (by decide) ?_
  refine W_aload_n d_0_1020 rfl (by decide) ?_
  refine W_iload_n d_0_1021 rfl ?_
  refine W_iconst d_0_1022 (v := 1) (by decide) ?_
  refine W_iadd d_0_1023 ?_
  rw [show (nI i + 1 : Int32) = nI (i + 1) from nI_add i 1]
  refine W_iald (t := 1) (n := gL g) (f := gX g) d_0_1024 rfl (by decide) (vp_in_nI (by omega) (by omega)) (congrArg _ (nI_clamp (by omega))) ?_
  refine W_aload_n d_0_1025 rfl (by decide) ?_
  refine W_iload_n d_0_1026 rfl ?_
  refine W_iconst d_0_1027 (v := 2) (by decide) ?_
  refine W_iadd d_0_1028 ?_
  rw [show (nI i + 2 : Int32) = nI (i + 2) from nI_add i 2]
  refine W_iald (t := 1) (n := gL g) (f := gX g) d_0_1029 rfl (by decide) (vp_in_nI (by omega) (by omega)) (congrArg _ (nI_clamp (by omega))) ?_
  refine W_callV d_0_1030 o_0 (Or.inl k_9_114) (by omega) x2 rfl rfl rfl (Nat.le_of_ble_eq_true rfl) ?_
  exact W_icmp_eq (tgt := 1440) d_0_1033 (by decide) (fun _ => kk _ hI) (fun q => absurd rfl q)
theorem tn_24 (hi : i + 7 ≤ gL g) (hL : gL g ≤ 3584) (hd : 21 ≤ d) (hS : St g (d - 1) 110 199 [.int (gX g (i + 1)), .int (gX g (i + 2))] (117, H3 g (cc A T K B E l G) (mm Y S))) (kk : ∀ h, Inv g h → Wp d 0 1440 [.ref 1000, .ref 0, .ref 92, .int (nI i)] [] h Q) : Wp d 0 1038 [.ref 1000, .ref 0, .ref 92, .int (nI i)] [] (117, H3 g (cc A T K B E l G) (mm Y S)) Q := by
  obtain ⟨v, P, Y0, S0, h', x1, x2, hI⟩ := hS
  refine W_aload_n d_0_1038 rfl (by decide) ?_
  refine W_aload_n d_0_1039 rfl (by decide) ?_
  refine W_iload_n d_0_1040 rfl ?_
  refine W_iconst d_0_1041 (v := 1) (by decide) ?_
  refine W_iadd d_0_1042 ?_
  rw [show (nI i + 1 : Int32) = nI (i + 1) from nI_add i 1]
  refine W_iald (t := 1) (n := gL g) (f := gX g) d_0_1043 rfl (by decide) (vp_in_nI (by omega) (by omega)) (congrArg _ (nI_clamp (by omega))) ?_
  refine W_aload_n d_0_1044 rfl (by decide) ?_
  refine W_iload_n d_0_1045 rfl ?_
  refine W_iconst d_0_1046 (v := 2) (by decide) ?_
  refine W_iadd d_0_1047 ?_
  rw [show (nI i + 2 : Int32) = nI (i + 2) from nI_add i 2]
  refine W_iald (t := 1) (n := gL g) (f := gX g) d_0_1048 rfl (by decide) (vp_in_nI (by omega) (by omega)) (congrArg _ (nI_clamp (by omega))) ?_
  refine W_callV d_0_1049 o_0 (Or.inl k_9_115) (by omega) x1 rfl rfl rfl (Nat.le_of_ble_eq_true rfl) ?_
  refine W_aload_n d_0_1052 rfl (by decide) ?_
  refine W_aload_n d_0_1053 rfl (by decide) ?_
  refine W_iload_n d_0_1054 rfl ?_
  refine W_iconst d_0_1055 (v := 1) (by decide) ?_
  refine W_iadd d_0_1056 ?_
  rw [show (nI i + 1 : Int32) = nI (i + 1) from nI_add i 1]
  refine W_iald (t := 1) (n := gL g) (f := gX g) d_0_1057 rfl (by decide) (vp_in_nI (by omega) (by omega)) (congrArg _ (nI_clamp (by omega))) ?_
  refine W_aload_n d_0_1058 rfl (by decide) ?_
  refine W_iload_n d_0_1059 rfl ?_
  refine W_iconst d_0_1060 (v := 2) (by decide) ?_
  refine W_iadd d_0_1061 ?_
  rw [show (nI i + 2 : Int32) = nI (i + 2) from nI_add i 2]
  refine W_iald (t := 1) (n := gL g) (f := gX g) d_0_1062 rfl (by decide) (vp_in_nI (by omega) (by omega)) (congrArg _ (nI_clamp (by omega))) ?_
  refine W_callV d_0_1063 o_0 (Or.inl k_9_118) (by omega) x2 rfl rfl rfl (Nat.le_of_ble_eq_true rfl) ?_
  exact W_icmp_eq (tgt := 1440) d_0_1066 (by decide) (fun _ => kk _ hI) (fun q => absurd rfl q)
theorem tn_25 (hi : i + 7 ≤ gL g) (hL : gL g ≤ 3584) (hd : 21 ≤ d) (hS : St g (d - 1) 112 201 [.int (gX g (i + 1)), .int (gX g (i + 2)), .int (gX g (i + 3))] (117, H3 g (cc A T K B E l G) (mm Y S))) (kk : ∀ h, Inv g h → Wp d 0 1440 [.ref 1000, .ref 0, .ref 92, .int (nI i)] [] h Q) : Wp d 0 1071 [.ref 1000, .ref 0, .ref 92, .int (nI i)] [] (117, H3 g (cc A T K B E l G) (mm Y S)) Q := by
  obtain ⟨v, P, Y0, S0, h', x1, x2, hI⟩ := hS
  refine W_aload_n d_0_1071 rfl (by decide) ?_
  refine W_aload_n d_0_1072 rfl (by decide) ?_
  refine W_iload_n d_0_1073 rfl ?_
  refine W_iconst d_0_1074 (v := 1) (by decide) ?_
  refine W_iadd d_0_1075 ?_
  rw [show (nI i + 1 : Int32) = nI (i + 1) from nI_add i 1]
  refine W_iald (t := 1) (n := gL g) (f := gX g) d_0_1076 rfl (by decide) (vp_in_nI (by omega) (by omega)) (congrArg _ (nI_clamp (by omega))) ?_
  refine W_aload_n d_0_1077 rfl (by decide) ?_
  refine W_iload_n d_0_1078 rfl ?_
  refine W_iconst d_0_1079 (v := 2) (by decide) ?_
  refine W_iadd d_0_1080 ?_
  rw [show (nI i + 2 : Int32) = nI (i + 2) from nI_add i 2]
  refine W_iald (t := 1) (n := gL g) (f := gX g) d_0_1081 rfl (by decide) (vp_in_nI (by omega) (by omega)) (congrArg _ (nI_clamp (by omega))) ?_
  refine W_aload_n d_0_1082 rfl (by decide) ?_
  refine W_iload_n d_0_1083 rfl ?_
  refine W_iconst d_0_1084 (v := 3) (by decide) ?_
  refine W_iadd d_0_1085 ?_
  rw [show (nI i + 3 : Int32) = nI (i + 3) from nI_add i 3]
  refine W_iald (t := 1) (n := gL g) (f := gX g) d_0_1086 rfl (by decide) (vp_in_nI (by omega) (by omega)) (congrArg _ (nI_clamp (by omega))) ?_
  refine W_callV d_0_1087 o_0 (Or.inl k_9_119) (by omega) x1 rfl rfl rfl (Nat.le_of_ble_eq_true rfl) ?_
  refine W_aload_n d_0_1090 rfl (by decide) ?_
  refine W_aload_n d_0_1091 rfl (by decide) ?_
  refine W_iload_n d_0_1092 rfl ?_
  refine W_iconst d_0_1093 (v := 1) (by decide) ?_
  refine W_iadd d_0_1094 ?_
  rw [show (nI i + 1 : Int32) = nI (i + 1) from nI_add i 1]
  refine W_iald (t := 1) (n := gL g) (f := gX g) d_0_1095 rfl (by decide) (vp_in_nI (by omega) (by omega)) (congrArg _ (nI_clamp (by omega))) ?_
  refine W_aload_n d_0_1096 rfl (by decide) ?_
  refine W_iload_n d_0_1097 rfl ?_
  refine W_iconst d_0_1098 (v := 2) (by decide) ?_
  refine W_iadd d_0_1099 ?_
  rw [show (nI i + 2 : Int32) = nI (i + 2) from nI_add i 2]
  refine W_iald (t := 1) (n := gL g) (f := gX g) d_0_1100 rfl (by decide) (vp_in_nI (by omega) (by omega)) (congrArg _ (nI_clamp (by omega))) ?_
  refine W_aload_n d_0_1101 rfl (by decide) ?_
  refine W_iload_n d_0_1102 rfl ?_
  refine W_iconst d_0_1103 (v := 3) (by decide) ?_
  refine W_iadd d_0_1104 ?_
  rw [show (nI i + 3 : Int32) = nI (i + 3) from nI_add i 3]
  refine W_iald (t := 1) (n := gL g) (f := gX g) d_0_1105 rfl (by decide) (vp_in_nI (by omega) (by omega)) (congrArg _ (nI_clamp (by omega))) ?_
  refine W_callV d_0_1106 o_0 (Or.inl k_9_122) (by omega) x2 rfl rfl rfl (Nat.le_of_ble_eq_true rfl) ?_
  exact W_icmp_eq (tgt := 1440) d_0_1109 (by decide) (fun _ => kk _ hI) (fun q => absurd rfl q)
theorem tn_26 (hi : i + 7 ≤ gL g) (hL : gL g ≤ 3584) (hd : 21 ≤ d) (hS : StL g (d - 1) 113 203 [.int (gX g (i + 1)), .int (gX g (i + 2)), .int (gX g (i + 3)), .int (gX g (i + 4)), .int (gX g (i + 5))] (117, H3 g (cc A T K B E l G) (mm Y S))) (kk : ∀ h, Inv g h → Wp d 0 1440 [.ref 1000, .ref 0, .ref 92, .int (nI i)] [] h Q) : Wp d 0 1114 [.ref 1000, .ref 0, .ref 92, .int (nI i)] [] (117, H3 g (cc A T K B E l G) (mm Y S)) Q := by
  obtain ⟨v, P, Y0, S0, h', x1, x2, hI⟩ := hS
  refine W_aload_n d_0_1114 rfl (by decide) ?_
  refine W_aload_n d_0_1115 rfl (by decide) ?_
  refine W_iload_n d_0_1116 rfl ?_
  refine W_iconst d_0_1117 (v := 1) (by decide) ?_
  refine W_iadd d_0_1118 ?_
  rw [show (nI i + 1 : Int32) = nI (i + 1) from nI_add i 1]
  refine W_iald (t := 1) (n := gL g) (f := gX g) d_0_1119 rfl (by decide) (vp_in_nI (by omega) (by omega)) (congrArg _ (nI_clamp (by omega))) ?_
  refine W_aload_n d_0_1120 rfl (by decide) ?_
  refine W_iload_n d_0_1121 rfl ?_
  refine W_iconst d_0_1122 (v := 2) (by decide) ?_
  refine W_iadd d_0_1123 ?_
  rw [show (nI i + 2 : Int32) = nI (i + 2) from nI_add i 2]
  refine W_iald (t := 1) (n := gL g) (f := gX g) d_0_1124 rfl (by decide) (vp_in_nI (by omega) (by omega)) (congrArg _ (nI_clamp (by omega))) ?_
  refine W_aload_n d_0_1125 rfl (by decide) ?_
  refine W_iload_n d_0_1126 rfl ?_
  refine W_iconst d_0_1127 (v := 3) (by decide) ?_
  refine W_iadd d_0_1128 ?_
  rw [show (nI i + 3 : Int32) = nI (i + 3) from nI_add i 3]
  refine W_iald (t := 1) (n := gL g) (f := gX g) d_0_1129 rfl (by decide) (vp_in_nI (by omega) (by omega)) (congrArg _ (nI_clamp (by omega))) ?_
  refine W_aload_n d_0_1130 rfl (by decide) ?_
  refine W_iload_n d_0_1131 rfl ?_
  refine W_iconst d_0_1132 (v := 4) (by decide) ?_
  refine W_iadd d_0_1133 ?_
  rw [show (nI i + 4 : Int32) = nI (i + 4) from nI_add i 4]
  refine W_iald (t := 1) (n := gL g) (f := gX g) d_0_1134 rfl (by decide) (vp_in_nI (by omega) (by omega)) (congrArg _ (nI_clamp (by omega))) ?_
  refine W_aload_n d_0_1135 rfl (by decide) ?_
  refine W_iload_n d_0_1136 rfl ?_
  refine W_iconst d_0_1137 (v := 5) (by decide) ?_
  refine W_iadd d_0_1138 ?_
  rw [show (nI i + 5 : Int32) = nI (i + 5) from nI_add i 5]
  refine W_iald (t := 1) (n := gL g) (f := gX g) d_0_1139 rfl (by decide) (vp_in_nI (by omega) (by omega)) (congrArg _ (nI_clamp (by omega))) ?_
  refine W_callV d_0_1140 o_0 (Or.inl k_9_123) (by omega) x1 rfl rfl rfl (Nat.le_of_ble_eq_true rfl) ?_
  refine W_aload_n d_0_1143 rfl (by decide) ?_
  refine W_aload_n d_0_1144 rfl (by decide) ?_
  refine W_iload_n d_0_1145 rfl ?_
  refine W_iconst d_0_1146 (v := 1) (by decide) ?_
  refine W_iadd d_0_1147 ?_
  rw [show (nI i + 1 : Int32) = nI (i + 1) from nI_add i 1]
  refine W_iald (t := 1) (n := gL g) (f := gX g) d_0_1148 rfl (by decide) (vp_in_nI (by omega) (by omega)) (congrArg _ (nI_clamp (by omega))) ?_
  refine W_aload_n d_0_1149 rfl (by decide) ?_
  refine W_iload_n d_0_1150 rfl ?_
  refine W_iconst d_0_1151 (v := 2) (by decide) ?_
  refine W_iadd d_0_1152 ?_
  rw [show (nI i + 2 : Int32) = nI (i + 2) from nI_add i 2]
  refine W_iald (t := 1) (n := gL g) (f := gX g) d_0_1153 rfl (by decide) (vp_in_nI (by omega) (by omega)) (congrArg _ (nI_clamp (by omega))) ?_
  refine W_aload_n d_0_1154 rfl (by decide) ?_
  refine W_iload_n d_0_1155 rfl ?_
  refine W_iconst d_0_1156 (v := 3) (by decide) ?_
  refine W_iadd d_0_1157 ?_
  rw [show (nI i + 3 : Int32) = nI (i + 3) from nI_add i 3]
  refine W_iald (t := 1) (n := gL g) (f := gX g) d_0_1158 rfl (by decide) (vp_in_nI (by omega) (by omega)) (congrArg _ (nI_clamp (by omega))) ?_
  refine W_aload_n d_0_1159 rfl (by decide) ?_
  refine W_iload_n d_0_1160 rfl ?_
  refine W_iconst d_0_1161 (v := 4) (by decide) ?_
  refine W_iadd d_0_1162 ?_
  rw [show (nI i + 4 : Int32) = nI (i + 4) from nI_add i 4]
  refine W_iald (t := 1) (n := gL g) (f := gX g) d_0_1163 rfl (by decide) (vp_in_nI (by omega) (by omega)) (congrArg _ (nI_clamp (by omega))) ?_
  refine W_aload_n d_0_1164 rfl (by decide) ?_
  refine W_iload_n d_0_1165 rfl ?_
  refine W_iconst d_0_1166 (v := 5) (by decide) ?_
  refine W_iadd d_0_1167 ?_
  rw [show (nI i + 5 : Int32) = nI (i + 5) from nI_add i 5]
  refine W_iald (t := 1) (n := gL g) (f := gX g) d_0_1168 rfl (by decide) (vp_in_nI (by omega) (by omega)) (congrArg _ (nI_clamp (by omega))) ?_
  refine W_callV d_0_1169 o_0 (Or.inl k_9_127) (by omega) x2 rfl rfl rfl (Nat.le_of_ble_eq_true rfl) ?_
  refine W_lcmp d_0_1172 ?_
  exact W_if_eq (tgt := 1440) d_0_1173 (by decide) (fun _ => kk _ hI) (fun q => absurd (lg_self _) q)
theorem tn_27 (hi : i + 7 ≤ gL g) (hL : gL g ≤ 3584) (hd : 21 ≤ d) (hS : St g (d - 1) 115 204 [] (117, H3 g (cc A T K B E l G) (mm Y S))) (kk : ∀ h, Inv g h → Wp d 0 1440 [.ref 1000, .ref 0, .ref 92, .int (nI i)] [] h Q) : Wp d 0 1178 [.ref 1000, .ref 0, .ref 92, .int (nI i)] [] (117, H3 g (cc A T K B E l G) (mm Y S)) Q := by
  obtain ⟨v, P, Y0, S0, h', x1, x2, hI⟩ := hS
  refine W_aload_n d_0_1178 rfl (by decide) ?_
  refine W_callV d_0_1179 o_0 (Or.inl k_9_128) (by omega) x1 rfl rfl rfl (Nat.le_of_ble_eq_true rfl) ?_
  refine W_aload_n d_0_1182 rfl (by decide) ?_
  refine W_callV d_0_1183 o_0 (Or.inl k_9_131) (by omega) x2 rfl rfl rfl (Nat.le_of_ble_eq_true rfl) ?_
  exact W_icmp_eq (tgt := 1440) d_0_1186 (by decide) (fun _ => kk _ hI) (fun q => absurd rfl q)
theorem tn_28 (hi : i + 7 ≤ gL g) (hL : gL g ≤ 3584) (hd : 21 ≤ d) (hS : St g (d - 1) 116 205 [] (117, H3 g (cc A T K B E l G) (mm Y S))) (kk : ∀ h, Inv g h → Wp d 0 1440 [.ref 1000, .ref 0, .ref 92, .int (nI i)] [] h Q) : Wp d 0 1191 [.ref 1000, .ref 0, .ref 92, .int (nI i)] [] (117, H3 g (cc A T K B E l G) (mm Y S)) Q := by
  obtain ⟨v, P, Y0, S0, h', x1, x2, hI⟩ := hS
  refine W_aload_n d_0_1191 rfl (by decide) ?_
  refine W_callV d_0_1192 o_0 (Or.inl k_9_132) (by omega) x1 rfl rfl rfl (Nat.le_of_ble_eq_true rfl) ?_
  refine W_aload_n d_0_1195 rfl (by decide) ?_
  refine W_callV d_0_1196 o_0 (Or.inl k_9_135) (by omega) x2 rfl rfl rfl (Nat.le_of_ble_eq_true rfl) ?_
  exact W_icmp_eq (tgt := 1440) d_0_1199 (by decide) (fun _ => kk _ hI) (fun q => absurd rfl q)
theorem tn_29 (hi : i + 7 ≤ gL g) (hL : gL g ≤ 3584) (hd : 21 ≤ d) (hS : St g (d - 1) 117 206 [.int (gX g (i + 1)), .int (gX g (i + 2)), .int (gX g (i + 3))] (117, H3 g (cc A T K B E l G) (mm Y S))) (kk : ∀ h, Inv g h → Wp d 0 1440 [.ref 1000, .ref 0, .ref 92, .int (nI i)] [] h Q) : Wp d 0 1204 [.ref 1000, .ref 0, .ref 92, .int (nI i)] [] (117, H3 g (cc A T K B E l G) (mm Y S)) Q := by
  obtain ⟨v, P, Y0, S0, h', x1, x2, hI⟩ := hS
  refine W_aload_n d_0_1204 rfl (by decide) ?_
  refine W_aload_n d_0_1205 rfl (by decide) ?_
  refine W_iload_n d_0_1206 rfl ?_
  refine W_iconst d_0_1207 (v := 1) (by decide) ?_
  refine W_iadd d_0_1208 ?_
  rw [show (nI i + 1 : Int32) = nI (i + 1) from nI_add i 1]
  refine W_iald (t := 1) (n := gL g) (f := gX g) d_0_1209 rfl (by decide) (vp_in_nI (by omega) (by omega)) (congrArg _ (nI_clamp (by omega))) ?_
  refine W_aload_n d_0_1210 rfl (by decide) ?_
  refine W_iload_n d_0_1211 rfl ?_
  refine W_iconst d_0_1212 (v := 2) (by decide) ?_
  refine W_iadd d_0_1213 ?_
  rw [show (nI i + 2 : Int32) = nI (i + 2) from nI_add i 2]
  refine W_iald (t := 1) (n := gL g) (f := gX g) d_0_1214 rfl (by decide) (vp_in_nI (by omega) (by omega)) (congrArg _ (nI_clamp (by omega))) ?_
  refine W_aload_n d_0_1215 rfl (by decide) ?_
  refine W_iload_n d_0_1216 rfl ?_
  refine W_iconst d_0_1217 (v := 3) (by decide) ?_
  refine W_iadd d_0_1218 ?_
  rw [show (nI i + 3 : Int32) = nI (i + 3) from nI_add i 3]
  refine W_iald (t := 1) (n := gL g) (f := gX g) d_0_1219 rfl (by decide) (vp_in_nI (by omega) (by omega)) (congrArg _ (nI_clamp (by omega))) ?_
  refine W_callV d_0_1220 o_0 (Or.inl k_9_136) (by omega) x1 rfl rfl rfl (Nat.le_of_ble_eq_true rfl) ?_
  refine W_aload_n d_0_1223 rfl (by decide) ?_
  refine W_aload_n d_0_1224 rfl (by decide) ?_
  refine W_iload_n d_0_1225 rfl ?_
  refine W_iconst d_0_1226 (v := 1) (by decide) ?_
  refine W_iadd d_0_1227 ?_
  rw [show (nI i + 1 : Int32) = nI (i + 1) from nI_add i 1]
  refine W_iald (t := 1) (n := gL g) (f := gX g) d_0_1228 rfl (by decide) (vp_in_nI (by omega) (by omega)) (congrArg _ (nI_clamp (by omega))) ?_
  refine W_aload_n d_0_1229 rfl (by decide) ?_
  refine W_iload_n d_0_1230 rfl ?_
  refine W_iconst d_0_1231 (v := 2) (by decide) ?_
  refine W_iadd d_0_1232 ?_
  rw [show (nI i + 2 : Int32) = nI (i + 2) from nI_add i 2]
  refine W_iald (t := 1) (n := gL g) (f := gX g) d_0_1233 rfl (by decide) (vp_in_nI (by omega) (by omega)) (congrArg _ (nI_clamp (by omega))) ?_
  refine W_aload_n d_0_1234 rfl (by decide) ?_
  refine W_iload_n d_0_1235 rfl ?_
  refine W_iconst d_0_1236 (v := 3) (by decide) ?_
  refine W_iadd d_0_1237 ?_
  rw [show (nI i + 3 : Int32) = nI (i + 3) from nI_add i 3]
  refine W_iald (t := 1) (n := gL g) (f := gX g) d_0_1238 rfl (by decide) (vp_in_nI (by omega) (by omega)) (congrArg _ (nI_clamp (by omega))) ?_
  refine W_callV d_0_1239 o_0 (Or.inl k_9_139) (by omega) x2 rfl rfl rfl (Nat.le_of_ble_eq_true rfl) ?_
  exact W_icmp_eq (tgt := 1440) d_0_1242 (by decide) (fun _ => kk _ hI) (fun q => absurd rfl q)
theorem tn_30 (hi : i + 7 ≤ gL g) (hL : gL g ≤ 3584) (hd : 21 ≤ d) (hS : St g (d - 1) 118 207 [.int (gX g (i + 1)), .int (gX g (i + 2)), .int (gX g (i + 3))] (117, H3 g (cc A T K B E l G) (mm Y S))) (kk : ∀ h, Inv g h → Wp d 0 1440 [.ref 1000, .ref 0, .ref 92, .int (nI i)] [] h Q) : Wp d 0 1247 [.ref 1000, .ref 0, .ref 92, .int (nI i)] [] (117, H3 g (cc A T K B E l G) (mm Y S)) Q := by
  obtain ⟨v, P, Y0, S0, h', x1, x2, hI⟩ := hS
  refine W_aload_n d_0_1247 rfl (by decide) ?_
  refine W_aload_n d_0_1248 rfl (by decide) ?_
  refine W_iload_n d_0_1249 rfl ?_
  refine W_iconst d_0_1250 (v := 1) (by decide) ?_
  refine W_iadd d_0_1251 ?_
  rw [show (nI i + 1 : Int32) = nI (i + 1) from nI_add i 1]
  refine W_iald (t := 1) (n := gL g) (f := gX g) d_0_1252 rfl (by decide) (vp_in_nI (by omega) (by omega)) (congrArg _ (nI_clamp (by omega))) ?_
  refine W_aload_n d_0_1253 rfl (by decide) ?_
  refine W_iload_n d_0_1254 rfl ?_
  refine W_iconst d_0_1255 (v := 2) (by decide) ?_
  refine W_iadd d_0_1256 ?_
  rw [show (nI i + 2 : Int32) = nI (i + 2) from nI_add i 2]
  refine W_iald (t := 1) (n := gL g) (f := gX g) d_0_1257 rfl (by decide) (vp_in_nI (by omega) (by omega)) (congrArg _ (nI_clamp (by omega))) ?_
  refine W_aload_n d_0_1258 rfl (by decide) ?_
  refine W_iload_n d_0_1259 rfl ?_
  refine W_iconst d_0_1260 (v := 3) (by decide) ?_
  refine W_iadd d_0_1261 ?_
  rw [show (nI i + 3 : Int32) = nI (i + 3) from nI_add i 3]
  refine W_iald (t := 1) (n := gL g) (f := gX g) d_0_1262 rfl (by decide) (vp_in_nI (by omega) (by omega)) (congrArg _ (nI_clamp (by omega))) ?_
  refine W_callV d_0_1263 o_0 (Or.inl k_9_140) (by omega) x1 rfl rfl rfl (Nat.le_of_ble_eq_true rfl) ?_
  refine W_aload_n d_0_1266 rfl (by decide) ?_
  refine W_aload_n d_0_1267 rfl (by decide) ?_
  refine W_iload_n d_0_1268 rfl ?_
  refine W_iconst d_0_1269 (v := 1) (by decide) ?_
  refine W_iadd d_0_1270 ?_
  rw [show (nI i + 1 : Int32) = nI (i + 1) from nI_add i 1]
  refine W_iald (t := 1) (n := gL g) (f := gX g) d_0_1271 rfl (by decide) (vp_in_nI (by omega) (by omega)) (congrArg _ (nI_clamp (by omega))) ?_
  refine W_aload_n d_0_1272 rfl (by decide) ?_
  refine W_iload_n d_0_1273 rfl ?_
  refine W_iconst d_0_1274 (v := 2) (by decide) ?_
  refine W_iadd d_0_1275 ?_
  rw [show (nI i + 2 : Int32) = nI (i + 2) from nI_add i 2]
  refine W_iald (t := 1) (n := gL g) (f := gX g) d_0_1276 rfl (by decide) (vp_in_nI (by omega) (by omega)) (congrArg _ (nI_clamp (by omega))) ?_
  refine W_aload_n d_0_1277 rfl (by decide) ?_
  refine W_iload_n d_0_1278 rfl ?_
  refine W_iconst d_0_1279 (v := 3) (by decide) ?_
  refine W_iadd d_0_1280 ?_
  rw [show (nI i + 3 : Int32) = nI (i + 3) from nI_add i 3]
  refine W_iald (t := 1) (n := gL g) (f := gX g) d_0_1281 rfl (by decide) (vp_in_nI (by omega) (by omega)) (congrArg _ (nI_clamp (by omega))) ?_
  refine W_callV d_0_1282 o_0 (Or.inl k_9_143) (by omega) x2 rfl rfl rfl (Nat.le_of_ble_eq_true rfl) ?_
  exact W_icmp_eq (tgt := 1440) d_0_1285 (by decide) (fun _ => kk _ hI) (fun q => absurd rfl q)
theorem tn_31 (hi : i + 7 ≤ gL g) (hL : gL g ≤ 3584) (hd : 21 ≤ d) (hS : St g (d - 1) 119 208 [.int (gX g (i + 1)), .int (gX g (i + 2)), .int (gX g (i + 3)), .int (gX g (i + 4)), .int (gX g (i + 5))] (117, H3 g (cc A T K B E l G) (mm Y S))) (kk : ∀ h, Inv g h → Wp d 0 1440 [.ref 1000, .ref 0, .ref 92, .int (nI i)] [] h Q) : Wp d 0 1290 [.ref 1000, .ref 0, .ref 92, .int (nI i)] [] (117, H3 g (cc A T K B E l G) (mm Y S)) Q := by
  obtain ⟨v, P, Y0, S0, h', x1, x2, hI⟩ := hS
  refine W_aload_n d_0_1290 rfl (by decide) ?_
  refine W_aload_n d_0_1291 rfl (by decide) ?_
  refine W_iload_n d_0_1292 rfl ?_
  refine W_iconst d_0_1293 (v := 1) (by decide) ?_
  refine W_iadd d_0_1294 ?_
  rw [show (nI i + 1 : Int32) = nI (i + 1) from nI_add i 1]
  refine W_iald (t := 1) (n := gL g) (f := gX g) d_0_1295 rfl (by decide) (vp_in_nI (by omega) (by omega)) (congrArg _ (nI_clamp (by omega))) ?_
  refine W_aload_n d_0_1296 rfl (by decide) ?_
  refine W_iload_n d_0_1297 rfl ?_
  refine W_iconst d_0_1298 (v := 2) (by decide) ?_
  refine W_iadd d_0_1299 ?_
  rw [show (nI i + 2 : Int32) = nI (i + 2) from nI_add i 2]
  refine W_iald (t := 1) (n := gL g) (f := gX g) d_0_1300 rfl (by decide) (vp_in_nI (by omega) (by omega)) (congrArg _ (nI_clamp (by omega))) ?_
  refine W_aload_n d_0_1301 rfl (by decide) ?_
  refine W_iload_n d_0_1302 rfl ?_
  refine W_iconst d_0_1303 (v := 3) (by decide) ?_
  refine W_iadd d_0_1304 ?_
  rw [show (nI i + 3 : Int32) = nI (i + 3) from nI_add i 3]
  refine W_iald (t := 1) (n := gL g) (f := gX g) d_0_1305 rfl (by decide) (vp_in_nI (by omega) (by omega)) (congrArg _ (nI_clamp (by omega))) ?_
  refine W_aload_n d_0_1306 rfl (by decide) ?_
  refine W_iload_n d_0_1307 rfl ?_
  refine W_iconst d_0_1308 (v := 4) (by decide) ?_
  refine W_iadd d_0_1309 ?_
  rw [show (nI i + 4 : Int32) = nI (i + 4) from nI_add i 4]
  refine W_iald (t := 1) (n := gL g) (f := gX g) d_0_1310 rfl (by decide) (vp_in_nI (by omega) (by omega)) (congrArg _ (nI_clamp (by omega))) ?_
  refine W_aload_n d_0_1311 rfl (by decide) ?_
  refine W_iload_n d_0_1312 rfl ?_
  refine W_iconst d_0_1313 (v := 5) (by decide) ?_
  refine W_iadd d_0_1314 ?_
  rw [show (nI i + 5 : Int32) = nI (i + 5) from nI_add i 5]
  refine W_iald (t := 1) (n := gL g) (f := gX g) d_0_1315 rfl (by decide) (vp_in_nI (by omega) (by omega)) (congrArg _ (nI_clamp (by omega))) ?_
  refine W_callV d_0_1316 o_0 (Or.inl k_9_144) (by omega) x1 rfl rfl rfl (Nat.le_of_ble_eq_true rfl) ?_
  refine W_aload_n d_0_1319 rfl (by decide) ?_
  refine W_aload_n d_0_1320 rfl (by decide) ?_
  refine W_iload_n d_0_1321 rfl ?_
  refine W_iconst d_0_1322 (v := 1) (by decide) ?_
  refine W_iadd d_0_1323 ?_
  rw [show (nI i + 1 : Int32) = nI (i + 1) from nI_add i 1]
  refine W_iald (t := 1) (n := gL g) (f := gX g) d_0_1324 rfl (by decide) (vp_in_nI (by omega) (by omega)) (congrArg _ (nI_clamp (by omega))) ?_
  refine W_aload_n d_0_1325 rfl (by decide) ?_
  refine W_iload_n d_0_1326 rfl ?_
  refine W_iconst d_0_1327 (v := 2) (by decide) ?_
  refine W_iadd d_0_1328 ?_
  rw [show (nI i + 2 : Int32) = nI (i + 2) from nI_add i 2]
  refine W_iald (t := 1) (n := gL g) (f := gX g) d_0_1329 rfl (by decide) (vp_in_nI (by omega) (by omega)) (congrArg _ (nI_clamp (by omega))) ?_
  refine W_aload_n d_0_1330 rfl (by decide) ?_
  refine W_iload_n d_0_1331 rfl ?_
  refine W_iconst d_0_1332 (v := 3) (by decide) ?_
  refine W_iadd d_0_1333 ?_
  rw [show (nI i + 3 : Int32) = nI (i + 3) from nI_add i 3]
  refine W_iald (t := 1) (n := gL g) (f := gX g) d_0_1334 rfl (by decide) (vp_in_nI (by omega) (by omega)) (congrArg _ (nI_clamp (by omega))) ?_
  refine W_aload_n d_0_1335 rfl (by decide) ?_
  refine W_iload_n d_0_1336 rfl ?_
  refine W_iconst d_0_1337 (v := 4) (by decide) ?_
  refine W_iadd d_0_1338 ?_
  rw [show (nI i + 4 : Int32) = nI (i + 4) from nI_add i 4]
  refine W_iald (t := 1) (n := gL g) (f := gX g) d_0_1339 rfl (by decide) (vp_in_nI (by omega) (by omega)) (congrArg _ (nI_clamp (by omega))) ?_
  refine W_aload_n d_0_1340 rfl (by decide) ?_
  refine W_iload_n d_0_1341 rfl ?_
  refine W_iconst d_0_1342 (v := 5) (by decide) ?_
  refine W_iadd d_0_1343 ?_
  rw [show (nI i + 5 : Int32) = nI (i + 5) from nI_add i 5]
  refine W_iald (t := 1) (n := gL g) (f := gX g) d_0_1344 rfl (by decide) (vp_in_nI (by omega) (by omega)) (congrArg _ (nI_clamp (by omega))) ?_
  refine W_callV d_0_1345 o_0 (Or.inl k_9_148) (by omega) x2 rfl rfl rfl (Nat.le_of_ble_eq_true rfl) ?_
  exact W_icmp_eq (tgt := 1440) d_0_1348 (by decide) (fun _ => kk _ hI) (fun q => absurd rfl q)
theorem tn_32 (hi : i + 7 ≤ gL g) (hL : gL g ≤ 3584) (hd : 21 ≤ d) (hS : St g (d - 1) 120 209 [.int (gX g (i + 1)), .int (gX g (i + 2)), .int (gX g (i + 3)), .int (gX g (i + 4))] (117, H3 g (cc A T K B E l G) (mm Y S))) (kk : ∀ h, Inv g h → Wp d 0 1440 [.ref 1000, .ref 0, .ref 92, .int (nI i)] [] h Q) : Wp d 0 1353 [.ref 1000, .ref 0, .ref 92, .int (nI i)] [] (117, H3 g (cc A T K B E l G) (mm Y S)) Q := by
  obtain ⟨v, P, Y0, S0, h', x1, x2, hI⟩ := hS
  refine W_aload_n d_0_1353 rfl (by decide) ?_
  refine W_aload_n d_0_1354 rfl (by decide) ?_
  refine W_iload_n d_0_1355 rfl ?_
  refine W_iconst d_0_1356 (v := 1) (by decide) ?_
  refine W_iadd d_0_1357 ?_
  rw [show (nI i + 1 : Int32) = nI (i + 1) from nI_add i 1]
  refine W_iald (t := 1) (n := gL g) (f := gX g) d_0_1358 rfl (by decide) (vp_in_nI (by omega) (by omega)) (congrArg _ (nI_clamp (by omega))) ?_
  refine W_aload_n d_0_1359 rfl (by decide) ?_
  refine W_iload_n d_0_1360 rfl ?_
  refine W_iconst d_0_1361 (v := 2) (by decide) ?_
  refine W_iadd d_0_1362 ?_
  rw [show (nI i + 2 : Int32) = nI (i + 2) from nI_add i 2]
  refine W_iald (t := 1) (n := gL g) (f := gX g) d_0_1363 rfl (by decide) (vp_in_nI (by omega) (by omega)) (congrArg _ (nI_clamp (by omega))) ?_
  refine W_aload_n d_0_1364 rfl (by decide) ?_
  refine W_iload_n d_0_1365 rfl ?_
  refine W_iconst d_0_1366 (v := 3) (by decide) ?_
  refine W_iadd d_0_1367 ?_
  rw [show (nI i + 3 : Int32) = nI (i + 3) from nI_add i 3]
  refine W_iald (t := 1) (n := gL g) (f := gX g) d_0_1368 rfl (by decide) (vp_in_nI (by omega) (by omega)) (congrArg _ (nI_clamp (by omega))) ?_
  refine W_aload_n d_0_1369 rfl (by decide) ?_
  refine W_iload_n d_0_1370 rfl ?_
  refine W_iconst d_0_1371 (v := 4) (by decide) ?_
  refine W_iadd d_0_1372 ?_
  rw [show (nI i + 4 : Int32) = nI (i + 4) from nI_add i 4]
  refine W_iald (t := 1) (n := gL g) (f := gX g) d_0_1373 rfl (by decide) (vp_in_nI (by omega) (by omega)) (congrArg _ (nI_clamp (by omega))) ?_
  refine W_callV d_0_1374 o_0 (Or.inl k_9_149) (by omega) x1 rfl rfl rfl (Nat.le_of_ble_eq_true rfl) ?_
  refine W_aload_n d_0_1377 rfl (by decide) ?_
  refine W_aload_n d_0_1378 rfl (by decide) ?_
  refine W_iload_n d_0_1379 rfl ?_
  refine W_iconst d_0_1380 (v := 1) (by decide) ?_
  refine W_iadd d_0_1381 ?_
  rw [show (nI i + 1 : Int32) = nI (i + 1) from nI_add i 1]
  refine W_iald (t := 1) (n := gL g) (f := gX g) d_0_1382 rfl (by decide) (vp_in_nI (by omega) (by omega)) (congrArg _ (nI_clamp (by omega))) ?_
  refine W_aload_n d_0_1383 rfl (by decide) ?_
  refine W_iload_n d_0_1384 rfl ?_
  refine W_iconst d_0_1385 (v := 2) (by decide) ?_
  refine W_iadd d_0_1386 ?_
  rw [show (nI i + 2 : Int32) = nI (i + 2) from nI_add i 2]
  refine W_iald (t := 1) (n := gL g) (f := gX g) d_0_1387 rfl (by decide) (vp_in_nI (by omega) (by omega)) (congrArg _ (nI_clamp (by omega))) ?_
  refine W_aload_n d_0_1388 rfl (by decide) ?_
  refine W_iload_n d_0_1389 rfl ?_
  refine W_iconst d_0_1390 (v := 3) (by decide) ?_
  refine W_iadd d_0_1391 ?_
  rw [show (nI i + 3 : Int32) = nI (i + 3) from nI_add i 3]
  refine W_iald (t := 1) (n := gL g) (f := gX g) d_0_1392 rfl (by decide) (vp_in_nI (by omega) (by omega)) (congrArg _ (nI_clamp (by omega))) ?_
  refine W_aload_n d_0_1393 rfl (by decide) ?_
  refine W_iload_n d_0_1394 rfl ?_
  refine W_iconst d_0_1395 (v := 4) (by decide) ?_
  refine W_iadd d_0_1396 ?_
  rw [show (nI i + 4 : Int32) = nI (i + 4) from nI_add i 4]
  refine W_iald (t := 1) (n := gL g) (f := gX g) d_0_1397 rfl (by decide) (vp_in_nI (by omega) (by omega)) (congrArg _ (nI_clamp (by omega))) ?_
  refine W_callV d_0_1398 o_0 (Or.inl k_9_152) (by omega) x2 rfl rfl rfl (Nat.le_of_ble_eq_true rfl) ?_
  exact W_icmp_eq (tgt := 1440) d_0_1401 (by decide) (fun _ => kk _ hI) (fun q => absurd rfl q)
theorem tn_33 (hi : i + 7 ≤ gL g) (hL : gL g ≤ 3584) (hd : 21 ≤ d) (hS : StL g (d - 1) 121 211 [.int (gX g (i + 1)), .int (gX g (i + 2))] (117, H3 g (cc A T K B E l G) (mm Y S))) (kk : ∀ h, Inv g h → Wp d 0 1440 [.ref 1000, .ref 0, .ref 92, .int (nI i)] [] h Q) : Wp d 0 1406 [.ref 1000, .ref 0, .ref 92, .int (nI i)] [] (117, H3 g (cc A T K B E l G) (mm Y S)) Q := by
  obtain ⟨v, P, Y0, S0, h', x1, x2, hI⟩ := hS
  refine W_aload_n d_0_1406 rfl (by decide) ?_
  refine W_aload_n d_0_1407 rfl (by decide) ?_
  refine W_iload_n d_0_1408 rfl ?_
  refine W_iconst d_0_1409 (v := 1) (by decide) ?_
  refine W_iadd d_0_1410 ?_
  rw [show (nI i + 1 : Int32) = nI (i + 1) from nI_add i 1]
  refine W_iald (t := 1) (n := gL g) (f := gX g) d_0_1411 rfl (by decide) (vp_in_nI (by omega) (by omega)) (congrArg _ (nI_clamp (by omega))) ?_
  refine W_aload_n d_0_1412 rfl (by decide) ?_
  refine W_iload_n d_0_1413 rfl ?_
  refine W_iconst d_0_1414 (v := 2) (by decide) ?_
  refine W_iadd d_0_1415 ?_
  rw [show (nI i + 2 : Int32) = nI (i + 2) from nI_add i 2]
  refine W_iald (t := 1) (n := gL g) (f := gX g) d_0_1416 rfl (by decide) (vp_in_nI (by omega) (by omega)) (congrArg _ (nI_clamp (by omega))) ?_
  refine W_callV d_0_1417 o_0 (Or.inl k_9_153) (by omega) x1 rfl rfl rfl (Nat.le_of_ble_eq_true rfl) ?_
  refine W_aload_n d_0_1420 rfl (by decide) ?_
  refine W_aload_n d_0_1421 rfl (by decide) ?_
  refine W_iload_n d_0_1422 rfl ?_
  refine W_iconst d_0_1423 (v := 1) (by decide) ?_
  refine W_iadd d_0_1424 ?_
  rw [show (nI i + 1 : Int32) = nI (i + 1) from nI_add i 1]
  refine W_iald (t := 1) (n := gL g) (f := gX g) d_0_1425 rfl (by decide) (vp_in_nI (by omega) (by omega)) (congrArg _ (nI_clamp (by omega))) ?_
  refine W_aload_n d_0_1426 rfl (by decide) ?_
  refine W_iload_n d_0_1427 rfl ?_
  refine W_iconst d_0_1428 (v := 2) (by decide) ?_
  refine W_iadd d_0_1429 ?_
  rw [show (nI i + 2 : Int32) = nI (i + 2) from nI_add i 2]
  refine W_iald (t := 1) (n := gL g) (f := gX g) d_0_1430 rfl (by decide) (vp_in_nI (by omega) (by omega)) (congrArg _ (nI_clamp (by omega))) ?_
  refine W_callV d_0_1431 o_0 (Or.inl k_9_157) (by omega) x2 rfl rfl rfl (Nat.le_of_ble_eq_true rfl) ?_
  refine W_lcmp d_0_1434 ?_
  exact W_if_eq (tgt := 1440) d_0_1435 (by decide) (fun _ => kk _ hI) (fun q => absurd (lg_self _) q)
/-- one turn: whatever the call, both answer alike and stay alike -/
theorem turn (hT : ∀ {A T K : Nat → tR} {B : tR} {E : Nat → Int32} {l : Int64} {G : tR} {Y : tR} {S : Nat → Int32} {n p t tc sz : Nat} {zs : Nat → Nat → Nat}, RL A T K B E Y S n p t tc sz zs → St g (d - 1) 87 154 [] (117, H3 g (cc A T K B E l G) (mm Y S))) {n p t tc sz : Nat} {zs : Nat → Nat → Nat} (hR : RL A T K B E Y S n p t tc sz zs) (hi : i + 7 ≤ gL g) (hL : gL g ≤ 3584) (hd : 21 ≤ d) (kk : ∀ h, Inv g h → Wp d 0 1440 [.ref 1000, .ref 0, .ref 92, .int (nI i)] [] h Q) : Wp d 0 27 [.ref 1000, .ref 0, .ref 92, .int (nI i)] [] (117, H3 g (cc A T K B E l G) (mm Y S)) Q := by
  refine W_aload_n d_0_27 rfl (by decide) ?_
  refine W_iload_n d_0_28 rfl ?_
  refine W_iald (t := 1) (n := gL g) (f := gX g) d_0_29 rfl (by decide) (vp_in_nI (by omega) (by omega)) (congrArg _ (nI_clamp (by omega))) ?_
  refine W_bipush (v := 63) d_0_30 (by decide) ?_
  refine W_iand d_0_32 ?_
  obtain ⟨e, he, ee⟩ := and63 (gX g i)
  rw [ee]
  have hc : e = 0 ∨ e = 1 ∨ e = 2 ∨ e = 3 ∨ e = 4 ∨ e = 5 ∨ e = 6 ∨ e = 7 ∨ e = 8 ∨ e = 9 ∨ e = 10 ∨ e = 11 ∨ e = 12 ∨ e = 13 ∨ e = 14 ∨ e = 15 ∨ e = 16 ∨ e = 17 ∨ e = 18 ∨ e = 19 ∨ e = 20 ∨ e = 21 ∨ e = 22 ∨ e = 23 ∨ e = 24 ∨ e = 25 ∨ e = 26 ∨ e = 27 ∨ e = 28 ∨ e = 29 ∨ e = 30 ∨ e = 31 ∨ e = 32 ∨ e = 33 ∨ 34 ≤ e := by omega
  rcases hc with rfl | rfl | rfl | rfl | rfl | rfl | rfl | rfl | rfl | rfl | rfl | rfl | rfl | rfl | rfl | rfl | rfl | rfl | rfl | rfl | rfl | rfl | rfl | rfl | rfl | rfl | rfl | rfl | rfl | rfl | rfl | rfl | rfl | rfl | h34
  · exact W_table (tgt := 184) (off := 151) d_0_33 (by decide) (by decide) (tn_0 hi hL (by omega) (st_0 hR (by omega)) kk)
  · exact W_table (tgt := 207) (off := 174) d_0_33 (by decide) (by decide) (tn_1 hi hL (by omega) (st_1 hR (by omega)) kk)
  · exact W_table (tgt := 240) (off := 207) d_0_33 (by decide) (by decide) (tn_2 hi hL (by omega) (st_2 hR (by omega)) kk)
  · exact W_table (tgt := 315) (off := 282) d_0_33 (by decide) (by decide) (tn_3 hi hL (by omega) (hT hR) kk)
  · exact W_table (tgt := 328) (off := 295) d_0_33 (by decide) (by decide) (tn_4 hi hL (by omega) (st_4 hR (by omega)) kk)
  · exact W_table (tgt := 351) (off := 318) d_0_33 (by decide) (by decide) (tn_5 hi hL (by omega) (st_5 hR (by omega)) kk)
  · exact W_table (tgt := 394) (off := 361) d_0_33 (by decide) (by decide) (tn_6 hi hL (by omega) (st_6 hR (by omega)) kk)
  · exact W_table (tgt := 427) (off := 394) d_0_33 (by decide) (by decide) (tn_7 hi hL (by omega) (st_7 hR (by omega)) kk)
  · exact W_table (tgt := 470) (off := 437) d_0_33 (by decide) (by decide) (tn_8 hi hL (by omega) (st_8 hR (by omega)) kk)
  · exact W_table (tgt := 503) (off := 470) d_0_33 (by decide) (by decide) (tn_9 hi hL (by omega) (st_9 hR (by omega)) kk)
  · exact W_table (tgt := 536) (off := 503) d_0_33 (by decide) (by decide) (tn_10 hi hL (by omega) (st_10 hR (by omega)) kk)
  · exact W_table (tgt := 579) (off := 546) d_0_33 (by decide) (by decide) (tn_11 hi hL (by omega) (st_11 hR (by omega)) kk)
  · exact W_table (tgt := 602) (off := 569) d_0_33 (by decide) (by decide) (tn_12 hi hL (by omega) (st_12 hR (by omega)) kk)
  · exact W_table (tgt := 615) (off := 582) d_0_33 (by decide) (by decide) (tn_13 hi hL (by omega) (st_13 hR (by omega)) kk)
  · exact W_table (tgt := 648) (off := 615) d_0_33 (by decide) (by decide) (tn_14 hi hL (by omega) (st_14 hR (by omega)) kk)
  · exact W_table (tgt := 691) (off := 658) d_0_33 (by decide) (by decide) (tn_15 hi hL (by omega) (st_15 hR (by omega)) kk)
  · exact W_table (tgt := 734) (off := 701) d_0_33 (by decide) (by decide) (tn_16 hi hL (by omega) (st_16 hR (by omega)) kk)
  · exact W_table (tgt := 767) (off := 734) d_0_33 (by decide) (by decide) (tn_17 hi hL (by omega) (st_17 hR (by omega)) kk)
  · exact W_table (tgt := 800) (off := 767) d_0_33 (by decide) (by decide) (tn_18 hi hL (by omega) (st_18 hR (by omega)) kk)
  · exact W_table (tgt := 843) (off := 810) d_0_33 (by decide) (by decide) (tn_19 hi hL (by omega) (st_19 hR (by omega)) kk)
  · exact W_table (tgt := 886) (off := 853) d_0_33 (by decide) (by decide) (tn_20 hi hL (by omega) (st_20 hR (by omega)) kk)
  · exact W_table (tgt := 919) (off := 886) d_0_33 (by decide) (by decide) (tn_21 hi hL (by omega) (st_21 hR (by omega)) kk)
  · exact W_table (tgt := 972) (off := 939) d_0_33 (by decide) (by decide) (tn_22 hi hL (by omega) (st_22 hR (by omega)) kk)
  · exact W_table (tgt := 1005) (off := 972) d_0_33 (by decide) (by decide) (tn_23 hi hL (by omega) (st_23 hR (by omega)) kk)
  · exact W_table (tgt := 1038) (off := 1005) d_0_33 (by decide) (by decide) (tn_24 hi hL (by omega) (st_24 hR (by omega)) kk)
  · exact W_table (tgt := 1071) (off := 1038) d_0_33 (by decide) (by decide) (tn_25 hi hL (by omega) (st_25 hR (by omega)) kk)
  · exact W_table (tgt := 1114) (off := 1081) d_0_33 (by decide) (by decide) (tn_26 hi hL (by omega) (st_26 hR (by omega)) kk)
  · exact W_table (tgt := 1178) (off := 1145) d_0_33 (by decide) (by decide) (tn_27 hi hL (by omega) (st_27 hR (by omega)) kk)
  · exact W_table (tgt := 1191) (off := 1158) d_0_33 (by decide) (by decide) (tn_28 hi hL (by omega) (st_28 hR (by omega)) kk)
  · exact W_table (tgt := 1204) (off := 1171) d_0_33 (by decide) (by decide) (tn_29 hi hL (by omega) (st_29 hR (by omega)) kk)
  · exact W_table (tgt := 1247) (off := 1214) d_0_33 (by decide) (by decide) (tn_30 hi hL (by omega) (st_30 hR (by omega)) kk)
  · exact W_table (tgt := 1290) (off := 1257) d_0_33 (by decide) (by decide) (tn_31 hi hL (by omega) (st_31 hR (by omega)) kk)
  · exact W_table (tgt := 1353) (off := 1320) d_0_33 (by decide) (by decide) (tn_32 hi hL (by omega) (st_32 hR (by omega)) kk)
  · exact W_table (tgt := 1406) (off := 1373) d_0_33 (by decide) (by decide) (tn_33 hi hL (by omega) (st_33 hR (by omega)) kk)
  · refine W_table (tgt := 1440) (off := 1407) d_0_33 (if_pos (Or.inr ?_)) (by decide) (kk _ ⟨A, T, K, B, E, l, G, Y, S, n, p, t, tc, sz, zs, rfl, hR⟩)
    rw [nI_toInt (by omega)]
    omega
end
theorem law_loop {g : mG} {d : Nat} (hd : 21 ≤ d) (hL : gL g ≤ 3584) (hT : ∀ {A T K : Nat → tR} {B : tR} {E : Nat → Int32} {l : Int64} {G : tR} {Y : tR} {S : Nat → Int32} {n p t tc sz : Nat} {zs : Nat → Nat → Nat}, RL A T K B E Y S n p t tc sz zs → St g (d - 1) 87 154 [] (117, H3 g (cc A T K B E l G) (mm Y S))) {Q : Option Value → mM → Prop} (kk : ∀ h, Inv g h → Q (some (.int 1)) h) : ∀ (k i : Nat) (h : mM), i ≤ 3584 → gL g < i + 7 + 7 * k → Inv g h → Wp d 0 18 [.ref 1000, .ref 0, .ref 92, .int (nI i)] [] h Q := by
  intro k
  induction k with
  | zero =>
    intro i h hi hk ⟨A, T, K, B, E, l, G, Y, S, n, p, t, tc, sz, zs, eh, hR⟩
    subst eh
    refine W_iload_n d_0_18 rfl ?_
    refine W_aload_n d_0_19 rfl (by decide) ?_
    refine W_alen (n := gL g) (v := nI (gL g)) d_0_20 rfl rfl ?_
    refine W_bipush (v := 7) d_0_21 (by decide) ?_
    refine W_isub d_0_23 ?_
    refine W_icmp_gt (tgt := 1446) d_0_24 (by decide) (fun _ => ?_) (fun q => absurd ((len7 hL hi).mpr (by omega)) q)
    refine W_iconst (v := 1) d_0_1446 (by decide) ?_
    exact W_iret d_0_1447 rt_0 rfl (kk _ ⟨A, T, K, B, E, l, G, Y, S, n, p, t, tc, sz, zs, rfl, hR⟩)
  | succ k ih =>
    intro i h hi hk ⟨A, T, K, B, E, l, G, Y, S, n, p, t, tc, sz, zs, eh, hR⟩
    subst eh
    refine W_iload_n d_0_18 rfl ?_
    refine W_aload_n d_0_19 rfl (by decide) ?_
    refine W_alen (n := gL g) (v := nI (gL g)) d_0_20 rfl rfl ?_
    refine W_bipush (v := 7) d_0_21 (by decide) ?_
    refine W_isub d_0_23 ?_
    refine W_icmp_gt (tgt := 1446) d_0_24 (by decide) (fun _ => ?_) (fun q => ?_)
    · refine W_iconst (v := 1) d_0_1446 (by decide) ?_
      exact W_iret d_0_1447 rt_0 rfl (kk _ ⟨A, T, K, B, E, l, G, Y, S, n, p, t, tc, sz, zs, rfl, hR⟩)
    · have h7 : i + 7 ≤ gL g := Nat.not_lt.mp (fun t => q ((len7 hL hi).mpr t))
      refine turn hT hR h7 hL hd (fun h' hI => ?_)
      refine W_iinc (v := 7) d_0_1440 rfl (by decide) rfl ?_
      rw [show ((nI i + 7 : Int32)) = nI (i + 7) from nI_add i 7]
      refine W_goto (tgt := 18) d_0_1443 (by decide) ?_
      exact ih (i + 7) h' (by omega) (by omega) hI
