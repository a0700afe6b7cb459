/-! TEXTS: the strings, what a byte is (wip/whole/gen64.py) -/
theorem x_5 {d : Nat} {M : mM} {q b : Nat} (hq : M.2 q = .inr (.inr (8, [.ref b, .int 0]))) (hq9 : q ≠ 1009) : Ex d 5 [.ref q] M (some (.int 0)) M := by
  refine Ex.of ?_
  show Wp _ 5 0 [.ref q] [] _ _
  refine W_gets d_5_0 o_5 k_8_38 (v := .int 1) rfl ?_
  refine W_if_eq (tgt := 13) d_5_3 (by decide) (fun q => absurd q (by decide)) (fun _ => ?_)
  refine W_aload_n d_5_6 rfl hq9 ?_
  refine W_getfS d_5_7 o_5 k_8_15 hq rfl ?_
  refine W_goto (tgt := 14) d_5_10 (by decide) ?_
  refine W_iret d_5_14 rt_5 rfl ?_
  exact ⟨rfl, rfl⟩
theorem x_6 {d : Nat} {M : mM} {q b : Nat} (hq : M.2 q = .inr (.inr (8, [.ref b, .int 0]))) (hq9 : q ≠ 1009) : Ex d 6 [.ref q] M (some (.int 1)) M := by
  refine Ex.of ?_
  show Wp _ 6 0 [.ref q] [] _ _
  refine W_gets d_6_0 o_6 k_8_38 (v := .int 1) rfl ?_
  refine W_if_eq (tgt := 17) d_6_3 (by decide) (fun q => absurd q (by decide)) (fun _ => ?_)
  refine W_aload_n d_6_6 rfl hq9 ?_
  refine W_getfS d_6_7 o_6 k_8_15 hq rfl ?_
  refine W_if_ne (tgt := 17) d_6_10 (by decide) (fun q => absurd rfl q) (fun _ => ?_)
  refine W_iconst d_6_13 (v := 1) (by decide) ?_
  refine W_goto (tgt := 18) d_6_14 (by decide) ?_
  refine W_iret d_6_18 rt_6 rfl ?_
  exact ⟨rfl, rfl⟩
theorem x_1 {d : Nat} {M : mM} {q b n : Nat} {f : Nat → Int32} (hq : M.2 q = .inr (.inr (8, [.ref b, .int 0]))) (hq9 : q ≠ 1009) (hb : M.2 b = .inl (2, n, f)) (hb9 : b ≠ 1009) (hn : n < 256) (hd : 1 ≤ d) : Ex d 1 [.ref q] M (some (.int (nI n))) M := by
  refine Ex.of ?_
  show Wp _ 1 0 [.ref q] [] _ _
  refine W_aload_n d_1_0 rfl hq9 ?_
  refine W_getfS d_1_1 o_1 k_8_9 hq rfl ?_
  refine W_alen (n := n) (v := nI n) d_1_4 ((congrArg mlen hb).trans rfl) rfl ?_
  refine W_aload_n d_1_5 rfl hq9 ?_
  refine W_callV d_1_6 o_1 (Or.inr k_8_335) (by omega) (x_5 hq hq9) rfl (mrecv_of hq o_5.symm) rfl (Nat.le_of_ble_eq_true rfl) ?_
  refine W_ishr d_1_9 ?_
  show Wp _ _ _ _ [.int (nI n >>> 0)] _ _
  rw [show (nI n >>> 0 : Int32) = nI n from Int32.shiftRight_zero]
  refine W_iret d_1_10 rt_1 rfl ?_
  exact ⟨rfl, rfl⟩
theorem x_12 {d : Nat} {M : mM} {i n : Nat} (hi : i < n) (hn : n < 256) : Ex d 12 [.int (nI i), .int (nI n), .ref 1009] M (some (.int (nI i))) M := by
  refine Ex.of ?_
  show Wp _ 12 0 [.int (nI i), .int (nI n), .ref 1009] [] _ _
  refine W_iload_n d_12_0 rfl ?_
  refine W_if_lt (tgt := 9) d_12_1 (by decide) (fun q => absurd q (Int32.not_lt.mpr (nI_pos' (by omega)))) (fun _ => ?_)
  refine W_iload_n d_12_4 rfl ?_
  refine W_iload_n d_12_5 rfl ?_
  refine W_icmp_lt (tgt := 16) d_12_6 (by decide) (fun _ => ?_) (fun q => absurd (nI_lt (a := i) (b := n) hi (by omega)) q)
  refine W_iload_n d_12_16 rfl ?_
  refine W_iret d_12_17 rt_12 rfl ?_
  exact ⟨rfl, rfl⟩
theorem x_7 {d : Nat} {M : mM} {i n : Nat} (hi : i < n) (hn : n < 256) (hd : 1 ≤ d) : Ex d 7 [.int (nI i), .int (nI n)] M none M := by
  refine Ex.of ?_
  show Wp _ 7 0 [.int (nI i), .int (nI n)] [] _ _
  refine W_iload_n d_7_0 rfl ?_
  refine W_iload_n d_7_1 rfl ?_
  refine W_gets d_7_2 o_7 k_8_1053 (v := .ref 1009) rfl ?_
  refine W_callS d_7_5 o_7 k_8_1059 (by omega) (x_12 hi hn) rfl (Nat.le_of_ble_eq_true rfl) ?_
  refine W_pop d_7_8 rfl ?_
  refine W_ret d_7_9 rt_7 ?_
  exact ⟨rfl, rfl⟩
theorem x_8 {d : Nat} {M : mM} {b n i : Nat} {f : Nat → Int32} {v : Int32} (hb : M.2 b = .inl (2, n, f)) (hb9 : b ≠ 1009) (hn : n < 256) (hi : i < n) (hv : ((f i &&& 255).toUInt32 % 65536).toInt32 = v) (hc : narrow .char (.int v) = .int v) (hd : 2 ≤ d) : Ex d 8 [.ref b, .int (nI i)] M (some (.int v)) M := by
  refine Ex.of ?_
  show Wp _ 8 0 [.ref b, .int (nI i)] [] _ _
  refine W_iload_n d_8_0 rfl ?_
  refine W_aload_n d_8_1 rfl hb9 ?_
  refine W_alen (n := n) (v := nI n) d_8_2 ((congrArg mlen hb).trans rfl) rfl ?_
  refine W_callS d_8_3 o_8 k_10_9 (by omega) (x_7 hi hn (by omega)) rfl (Nat.le_of_ble_eq_true rfl) ?_
  refine W_aload_n d_8_6 rfl hb9 ?_
  refine W_iload_n d_8_7 rfl ?_
  refine W_bald d_8_8 hb (vp_in_nI hi (by omega)) (congrArg f (nI_clamp (by omega))) ?_
  refine W_sipush d_8_9 (v := 255) (by decide) ?_
  refine W_iand d_8_12 ?_
  refine W_i2c d_8_13 ?_
  rw [hv]
  refine W_iret d_8_14 rt_8 hc ?_
  exact ⟨rfl, rfl⟩
theorem x_2 {d : Nat} {M : mM} {q b n i : Nat} {f : Nat → Int32} {v : Int32} (hq : M.2 q = .inr (.inr (8, [.ref b, .int 0]))) (hq9 : q ≠ 1009) (hb : M.2 b = .inl (2, n, f)) (hb9 : b ≠ 1009) (hn : n < 256) (hi : i < n) (hv : ((f i &&& 255).toUInt32 % 65536).toInt32 = v) (hc : narrow .char (.int v) = .int v) (hd : 3 ≤ d) : Ex d 2 [.ref q, .int (nI i)] M (some (.int v)) M := by
  refine Ex.of ?_
  show Wp _ 2 0 [.ref q, .int (nI i)] [] _ _
  refine W_aload_n d_2_0 rfl hq9 ?_
  refine W_callV d_2_1 o_2 (Or.inr k_8_492) (by omega) (x_6 hq hq9) rfl (mrecv_of hq o_6.symm) rfl (Nat.le_of_ble_eq_true rfl) ?_
  refine W_if_eq (tgt := 16) d_2_4 (by decide) (fun q => absurd q (by decide)) (fun _ => ?_)
  refine W_aload_n d_2_7 rfl hq9 ?_
  refine W_getfS d_2_8 o_2 k_8_9 hq rfl ?_
  refine W_iload_n d_2_11 rfl ?_
  refine W_callS d_2_12 o_2 k_8_495 (by omega) (x_8 hb hb9 hn hi hv hc (by omega)) rfl (Nat.le_of_ble_eq_true rfl) ?_
  refine W_iret d_2_15 rt_2 hc ?_
  exact ⟨rfl, rfl⟩
theorem x_52 {d : Nat} {M : mM} {v : Int32} : Ex d 52 [.int v] M (some (.int (bI (decide (v = 32 ∨ v = 10))))) M := by
  refine Ex.of ?_
  show Wp _ 52 0 [.int v] [] _ _
  refine W_iload_n d_52_0 rfl ?_
  refine W_bipush d_52_1 (v := 32) (by decide) ?_
  refine W_icmp_eq (tgt := 12) d_52_3 (by decide) (fun h3 => ?_) (fun h3 => ?_)
  · refine W_iconst d_52_12 (v := 1) (by decide) ?_
    refine W_goto (tgt := 17) d_52_13 (by decide) ?_
    refine W_iret d_52_17 rt_52 rfl ?_
    exact ⟨congrArg (fun z => some (Value.int z)) (by simp [bI, *]), rfl⟩
  · refine W_iload_n d_52_6 rfl ?_
    refine W_bipush d_52_7 (v := 10) (by decide) ?_
    refine W_icmp_ne (tgt := 16) d_52_9 (by decide) (fun h9 => ?_) (fun h9 => ?_)
    · refine W_iconst d_52_16 (v := 0) (by decide) ?_
      refine W_iret d_52_17 rt_52 rfl ?_
      exact ⟨congrArg (fun z => some (Value.int z)) (by simp [bI, *]), rfl⟩
    · refine W_iconst d_52_12 (v := 1) (by decide) ?_
      refine W_goto (tgt := 17) d_52_13 (by decide) ?_
      refine W_iret d_52_17 rt_52 rfl ?_
      exact ⟨congrArg (fun z => some (Value.int z)) (by simp [bI, *]), rfl⟩
theorem x_53 {d : Nat} {M : mM} {v : Int32} : Ex d 53 [.int v] M (some (.int (bI (decide (97 ≤ v ∧ v ≤ 122))))) M := by
  refine Ex.of ?_
  show Wp _ 53 0 [.int v] [] _ _
  refine W_iload_n d_53_0 rfl ?_
  refine W_bipush d_53_1 (v := 97) (by decide) ?_
  refine W_icmp_lt (tgt := 16) d_53_3 (by decide) (fun h3 => ?_) (fun h3 => ?_)
  · refine W_iconst d_53_16 (v := 0) (by decide) ?_
    refine W_iret d_53_17 rt_53 rfl ?_
    exact ⟨congrArg (fun z => some (Value.int z)) (bI_0 (fun q => absurd q.1 (Int32.not_le.mpr h3))), rfl⟩
  · refine W_iload_n d_53_6 rfl ?_
    refine W_bipush d_53_7 (v := 122) (by decide) ?_
    refine W_icmp_gt (tgt := 16) d_53_9 (by decide) (fun h9 => ?_) (fun h9 => ?_)
    · refine W_iconst d_53_16 (v := 0) (by decide) ?_
      refine W_iret d_53_17 rt_53 rfl ?_
      exact ⟨congrArg (fun z => some (Value.int z)) (bI_0 (fun q => absurd q.2 (Int32.not_le.mpr h9))), rfl⟩
    · refine W_iconst d_53_12 (v := 1) (by decide) ?_
      refine W_goto (tgt := 17) d_53_13 (by decide) ?_
      refine W_iret d_53_17 rt_53 rfl ?_
      exact ⟨congrArg (fun z => some (Value.int z)) (bI_1 ⟨Int32.not_lt.mp h3, Int32.not_lt.mp h9⟩), rfl⟩
theorem x_54 {d : Nat} {M : mM} {v : Int32} : Ex d 54 [.int v] M (some (.int (bI (decide (48 ≤ v ∧ v ≤ 57))))) M := by
  refine Ex.of ?_
  show Wp _ 54 0 [.int v] [] _ _
  refine W_iload_n d_54_0 rfl ?_
  refine W_bipush d_54_1 (v := 48) (by decide) ?_
  refine W_icmp_lt (tgt := 16) d_54_3 (by decide) (fun h3 => ?_) (fun h3 => ?_)
  · refine W_iconst d_54_16 (v := 0) (by decide) ?_
    refine W_iret d_54_17 rt_54 rfl ?_
    exact ⟨congrArg (fun z => some (Value.int z)) (bI_0 (fun q => absurd q.1 (Int32.not_le.mpr h3))), rfl⟩
  · refine W_iload_n d_54_6 rfl ?_
    refine W_bipush d_54_7 (v := 57) (by decide) ?_
    refine W_icmp_gt (tgt := 16) d_54_9 (by decide) (fun h9 => ?_) (fun h9 => ?_)
    · refine W_iconst d_54_16 (v := 0) (by decide) ?_
      refine W_iret d_54_17 rt_54 rfl ?_
      exact ⟨congrArg (fun z => some (Value.int z)) (bI_0 (fun q => absurd q.2 (Int32.not_le.mpr h9))), rfl⟩
    · refine W_iconst d_54_12 (v := 1) (by decide) ?_
      refine W_goto (tgt := 17) d_54_13 (by decide) ?_
      refine W_iret d_54_17 rt_54 rfl ?_
      exact ⟨congrArg (fun z => some (Value.int z)) (bI_1 ⟨Int32.not_lt.mp h3, Int32.not_lt.mp h9⟩), rfl⟩
