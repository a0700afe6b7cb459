/-! THE MODEL: an hour (wip/whole/gen27.py) -/
theorem otk_1 {k m v : Int32} (h : k = 1) : otk k m v = i_max 1 (v / 2) := if_pos h
theorem otk_3 {k m v : Int32} (h : k = 3) : otk k m v = i_max 1 (v / 2 - m) := by subst h; rfl
theorem otk_4 {k m v : Int32} (h : k = 4) (hv : 0 ≤ v ∧ v ≤ 99) : otk k m v = i_max 1 (v + 2) := by subst h; exact (imax1_t (add2_ge hv)).symm
theorem otk_5 {k m v : Int32} (h : k = 5) : otk k m v = i_max 1 (v * 2) := by subst h; rfl
theorem otk_0 {k m v : Int32} (h1 : ¬ k = 1) (h3 : ¬ k = 3) (h4 : ¬ k = 4) (h5 : ¬ k = 5) : otk k m v = i_max 1 v := by unfold otk; rw [if_neg h1, if_neg h3, if_neg h4, if_neg h5]
theorem x_167 {d : Nat} {g : mG} {N : Nat} {P : Nat → mC} {Y : tR} {S : Nat → Int32} {R Lr : tR} {z : Nat → Nat} {n t : Nat} (hX : MX Y S R Lr z n t) {j : Nat} (hj : j < n) (hd : 3 ≤ d) : Wp d 167 0 (ment 167 [.ref 92, .int (nI j)]) [] (N, H3 g P (mm Y S)) (fun v M' => v = some (.int (otk (R 0 j) (R 1 j) (sq R Lr z 1 (nI j) (R 1 j) (R 3 j) (R 2 j)))) ∧ ∃ Y', M' = (N, H3 g P (mm Y' S)) ∧ ∀ i, ¬ (i = 17 ∨ i = 18) → Y' i = Y i) := by
  obtain ⟨hq, hn, hn12, hlw, ht, hL, hM, hB⟩ := hX
  have m0 : Y 0 j = R 0 j := hq.lo (a := 0) (b := j) (by decide) hj
  have m1 : Y 1 j = R 1 j := hq.lo (a := 1) (b := j) (by decide) hj
  have m2 : Y 2 (5 * j) = R 2 j := hq.lo (a := 2) (b := j) (by decide) hj
  have m3 : Y 2 (5 * j + 1) = R 3 j := hq.lo (a := 3) (b := j) (by decide) hj
  have m5 : Y 2 (5 * j + 3) = R 5 j := hq.lo (a := 5) (b := j) (by decide) hj
  have e8 : S 8 = R 12 2 := hq.hi (a := 12) (b := 2) (by decide) (by decide) (by decide)
  show Wp _ 167 0 [.ref 92, .int (nI j), .null] [] _ _
  refine W_aload_n d_167_0 rfl (by decide) ?_
  refine W_iconst d_167_1 (v := 1) (by decide) ?_
  refine W_iload_n d_167_2 rfl ?_
  refine W_aload_n d_167_3 rfl (by decide) ?_
  refine W_getf d_167_4 o_167 k_7_16 rfl rfl ?_
  refine W_iconst d_167_7 (v := 5) (by decide) ?_
  refine W_iload_n d_167_8 rfl ?_
  refine W_imul d_167_9 ?_
  rw [show ((5 * nI j : Int32)) = nI (5 * j) from pk_mul 5 j]
  refine W_mld (a := 2) d_167_10 rfl (by decide) (n := 60) rfl (vp_in_nI (by omega) (by decide)) ((congrArg (Y 2) (nI_clamp (by omega))).trans m2) ?_
  refine W_callVQ d_167_11 o_167 (Or.inl k_7_185) (by omega) (x_158 ⟨hq, hn, hn12, hlw, ht, hL, hM, hB⟩ (p := 1) (by decide) hj (by omega)) rfl (mrecv_of rfl o_158.symm) rfl (Nat.le_of_ble_eq_true rfl) ?_
  rintro _ _ ⟨rfl, Y1, rfl, hY1⟩
  have k0 : Y1 0 j = R 0 j := (congrFun (hY1 0 (by decide)) j).trans m0
  have k1 : Y1 1 j = R 1 j := (congrFun (hY1 1 (by decide)) j).trans m1
  refine W_istore_n d_167_14 rfl ?_
  refine W_aload_n d_167_15 rfl (by decide) ?_
  refine W_getf d_167_16 o_167 k_7_7 rfl rfl ?_
  refine W_iload_n d_167_19 rfl ?_
  refine W_mld (a := 0) d_167_20 rfl (by decide) (n := 12) rfl (vp_in_nI (by omega) (by decide)) ((congrArg (Y1 0) (nI_clamp (by omega))).trans k0) ?_
  by_cases s21_1 : R 0 j = 1
  · refine W_table (tgt := 56) d_167_21 (off := 35) (by rw [s21_1]; decide) (by decide) ?_
    refine W_iload_n d_167_56 rfl ?_
    refine W_iconst d_167_57 (v := 2) (by decide) ?_
    refine W_idiv d_167_58 (by decide) ?_
    refine W_istore_n d_167_59 rfl ?_
    refine W_goto (tgt := 90) d_167_60 (by decide) ?_
    refine W_iload_n d_167_90 rfl ?_
    refine W_iconst d_167_91 (v := 1) (by decide) ?_
    refine W_icmp_ge (tgt := 99) d_167_92 (by decide) (fun h92 => ?_) (fun h92 => ?_)
    · refine W_iload_n d_167_99 rfl ?_
      refine W_iret d_167_100 rt_167 rfl ?_
      exact ⟨congrArg (fun z => some (Value.int z)) ((otk_1 s21_1).trans (imax1_t h92)).symm, _, rfl, hY1⟩
    · refine W_iconst d_167_95 (v := 1) (by decide) ?_
      refine W_goto (tgt := 100) d_167_96 (by decide) ?_
      refine W_iret d_167_100 rt_167 rfl ?_
      exact ⟨congrArg (fun z => some (Value.int z)) ((otk_1 s21_1).trans (imax1_f h92)).symm, _, rfl, hY1⟩
  by_cases s21_2 : R 0 j = 2
  · refine W_table (tgt := 90) d_167_21 (off := 69) (by rw [s21_2]; decide) (by decide) ?_
    refine W_iload_n d_167_90 rfl ?_
    refine W_iconst d_167_91 (v := 1) (by decide) ?_
    refine W_icmp_ge (tgt := 99) d_167_92 (by decide) (fun h92 => ?_) (fun h92 => ?_)
    · refine W_iload_n d_167_99 rfl ?_
      refine W_iret d_167_100 rt_167 rfl ?_
      exact ⟨congrArg (fun z => some (Value.int z)) ((otk_0 (by rw [s21_2]; decide) (by rw [s21_2]; decide) (by rw [s21_2]; decide) (by rw [s21_2]; decide)).trans (imax1_t h92)).symm, _, rfl, hY1⟩
    · refine W_iconst d_167_95 (v := 1) (by decide) ?_
      refine W_goto (tgt := 100) d_167_96 (by decide) ?_
      refine W_iret d_167_100 rt_167 rfl ?_
      exact ⟨congrArg (fun z => some (Value.int z)) ((otk_0 (by rw [s21_2]; decide) (by rw [s21_2]; decide) (by rw [s21_2]; decide) (by rw [s21_2]; decide)).trans (imax1_f h92)).symm, _, rfl, hY1⟩
  by_cases s21_3 : R 0 j = 3
  · refine W_table (tgt := 63) d_167_21 (off := 42) (by rw [s21_3]; decide) (by decide) ?_
    refine W_iload_n d_167_63 rfl ?_
    refine W_iconst d_167_64 (v := 2) (by decide) ?_
    refine W_idiv d_167_65 (by decide) ?_
    refine W_aload_n d_167_66 rfl (by decide) ?_
    refine W_getf d_167_67 o_167 k_7_13 rfl rfl ?_
    refine W_iload_n d_167_70 rfl ?_
    refine W_mld (a := 1) d_167_71 rfl (by decide) (n := 12) rfl (vp_in_nI (by omega) (by decide)) ((congrArg (Y1 1) (nI_clamp (by omega))).trans k1) ?_
    refine W_isub d_167_72 ?_
    refine W_istore_n d_167_73 rfl ?_
    refine W_goto (tgt := 90) d_167_74 (by decide) ?_
    refine W_iload_n d_167_90 rfl ?_
    refine W_iconst d_167_91 (v := 1) (by decide) ?_
    refine W_icmp_ge (tgt := 99) d_167_92 (by decide) (fun h92 => ?_) (fun h92 => ?_)
    · refine W_iload_n d_167_99 rfl ?_
      refine W_iret d_167_100 rt_167 rfl ?_
      exact ⟨congrArg (fun z => some (Value.int z)) ((otk_3 s21_3).trans (imax1_t h92)).symm, _, rfl, hY1⟩
    · refine W_iconst d_167_95 (v := 1) (by decide) ?_
      refine W_goto (tgt := 100) d_167_96 (by decide) ?_
      refine W_iret d_167_100 rt_167 rfl ?_
      exact ⟨congrArg (fun z => some (Value.int z)) ((otk_3 s21_3).trans (imax1_f h92)).symm, _, rfl, hY1⟩
  by_cases s21_4 : R 0 j = 4
  · refine W_table (tgt := 77) d_167_21 (off := 56) (by rw [s21_4]; decide) (by decide) ?_
    refine W_iinc (v := 2) d_167_77 rfl (by decide) rfl ?_
    refine W_goto (tgt := 90) d_167_80 (by decide) ?_
    refine W_iload_n d_167_90 rfl ?_
    refine W_iconst d_167_91 (v := 1) (by decide) ?_
    refine W_icmp_ge (tgt := 99) d_167_92 (by decide) (fun h92 => ?_) (fun h92 => ?_)
    · refine W_iload_n d_167_99 rfl ?_
      refine W_iret d_167_100 rt_167 rfl ?_
      exact ⟨congrArg (fun z => some (Value.int z)) ((otk_4 s21_4 sq_rng).trans (imax1_t h92)).symm, _, rfl, hY1⟩
    · refine W_iconst d_167_95 (v := 1) (by decide) ?_
      refine W_goto (tgt := 100) d_167_96 (by decide) ?_
      refine W_iret d_167_100 rt_167 rfl ?_
      exact ⟨congrArg (fun z => some (Value.int z)) ((otk_4 s21_4 sq_rng).trans (imax1_f h92)).symm, _, rfl, hY1⟩
  by_cases s21_5 : R 0 j = 5
  · refine W_table (tgt := 83) d_167_21 (off := 62) (by rw [s21_5]; decide) (by decide) ?_
    refine W_iload_n d_167_83 rfl ?_
    refine W_iconst d_167_84 (v := 2) (by decide) ?_
    refine W_imul d_167_85 ?_
    refine W_istore_n d_167_86 rfl ?_
    refine W_goto (tgt := 90) d_167_87 (by decide) ?_
    refine W_iload_n d_167_90 rfl ?_
    refine W_iconst d_167_91 (v := 1) (by decide) ?_
    refine W_icmp_ge (tgt := 99) d_167_92 (by decide) (fun h92 => ?_) (fun h92 => ?_)
    · refine W_iload_n d_167_99 rfl ?_
      refine W_iret d_167_100 rt_167 rfl ?_
      exact ⟨congrArg (fun z => some (Value.int z)) ((otk_5 s21_5).trans (imax1_t h92)).symm, _, rfl, hY1⟩
    · refine W_iconst d_167_95 (v := 1) (by decide) ?_
      refine W_goto (tgt := 100) d_167_96 (by decide) ?_
      refine W_iret d_167_100 rt_167 rfl ?_
      exact ⟨congrArg (fun z => some (Value.int z)) ((otk_5 s21_5).trans (imax1_f h92)).symm, _, rfl, hY1⟩
  refine W_table (tgt := 90) d_167_21 (off := 69) (if_pos (by have q1 := lv_neT (a := 1) s21_1 (by decide); have q2 := lv_neT (a := 2) s21_2 (by decide); have q3 := lv_neT (a := 3) s21_3 (by decide); have q4 := lv_neT (a := 4) s21_4 (by decide); have q5 := lv_neT (a := 5) s21_5 (by decide); omega)) (by decide) ?_
  refine W_iload_n d_167_90 rfl ?_
  refine W_iconst d_167_91 (v := 1) (by decide) ?_
  refine W_icmp_ge (tgt := 99) d_167_92 (by decide) (fun h92 => ?_) (fun h92 => ?_)
  · refine W_iload_n d_167_99 rfl ?_
    refine W_iret d_167_100 rt_167 rfl ?_
    exact ⟨congrArg (fun z => some (Value.int z)) ((otk_0 (by assumption) (by assumption) (by assumption) (by assumption)).trans (imax1_t h92)).symm, _, rfl, hY1⟩
  · refine W_iconst d_167_95 (v := 1) (by decide) ?_
    refine W_goto (tgt := 100) d_167_96 (by decide) ?_
    refine W_iret d_167_100 rt_167 rfl ?_
    exact ⟨congrArg (fun z => some (Value.int z)) ((otk_0 (by assumption) (by assumption) (by assumption) (by assumption)).trans (imax1_f h92)).symm, _, rfl, hY1⟩
theorem x_168 {d : Nat} {g : mG} {N : Nat} {P : Nat → mC} {Y : tR} {S : Nat → Int32} {R Lr : tR} {z : Nat → Nat} {n t : Nat} (hX : MX Y S R Lr z n t) {j : Nat} (hj : j < n) : Wp d 168 0 (ment 168 [.ref 92, .int (nI j)]) [] (N, H3 g P (mm Y S)) (fun v M' => v = some (.int (bI (otb (R 0 j) (R 1 j) (R 3 j)))) ∧ M' = (N, H3 g P (mm Y S))) := by
  obtain ⟨hq, hn, hn12, hlw, ht, hL, hM, hB⟩ := hX
  have m0 : Y 0 j = R 0 j := hq.lo (a := 0) (b := j) (by decide) hj
  have m1 : Y 1 j = R 1 j := hq.lo (a := 1) (b := j) (by decide) hj
  have m2 : Y 2 (5 * j) = R 2 j := hq.lo (a := 2) (b := j) (by decide) hj
  have m3 : Y 2 (5 * j + 1) = R 3 j := hq.lo (a := 3) (b := j) (by decide) hj
  have m5 : Y 2 (5 * j + 3) = R 5 j := hq.lo (a := 5) (b := j) (by decide) hj
  have e8 : S 8 = R 12 2 := hq.hi (a := 12) (b := 2) (by decide) (by decide) (by decide)
  show Wp _ 168 0 [.ref 92, .int (nI j), .null] [] _ _
  refine W_aload_n d_168_0 rfl (by decide) ?_
  refine W_getf d_168_1 o_168 k_7_16 rfl rfl ?_
  refine W_iconst d_168_4 (v := 5) (by decide) ?_
  refine W_iload_n d_168_5 rfl ?_
  refine W_imul d_168_6 ?_
  rw [show ((5 * nI j : Int32)) = nI (5 * j) from pk_mul 5 j]
  refine W_iconst d_168_7 (v := 1) (by decide) ?_
  refine W_iadd d_168_8 ?_
  rw [show ((nI (5 * j) + 1 : Int32)) = nI (5 * j + 1) from nI_add (5 * j) 1]
  refine W_mld (a := 2) d_168_9 rfl (by decide) (n := 60) rfl (vp_in_nI (by omega) (by decide)) ((congrArg (Y 2) (nI_clamp (by omega))).trans m3) ?_
  refine W_istore_n d_168_10 rfl ?_
  refine W_aload_n d_168_11 rfl (by decide) ?_
  refine W_getf d_168_12 o_168 k_7_7 rfl rfl ?_
  refine W_iload_n d_168_15 rfl ?_
  refine W_mld (a := 0) d_168_16 rfl (by decide) (n := 12) rfl (vp_in_nI (by omega) (by decide)) ((congrArg (Y 0) (nI_clamp (by omega))).trans m0) ?_
  by_cases s17_2 : R 0 j = 2
  · refine W_table (tgt := 44) d_168_17 (off := 27) (by rw [s17_2]; decide) (by decide) ?_
    refine W_iconst d_168_44 (v := 1) (by decide) ?_
    refine W_iret d_168_45 rt_168 rfl ?_
    exact ⟨congrArg (fun z => some (Value.int z)) (bI_1 (Or.inl s17_2)), rfl⟩
  by_cases s17_3 : R 0 j = 3
  · refine W_table (tgt := 46) d_168_17 (off := 29) (by rw [s17_3]; decide) (by decide) ?_
    refine W_iload_n d_168_46 rfl ?_
    refine W_bipush d_168_47 (v := 20) (by decide) ?_
    refine W_aload_n d_168_49 rfl (by decide) ?_
    refine W_getf d_168_50 o_168 k_7_13 rfl rfl ?_
    refine W_iload_n d_168_53 rfl ?_
    refine W_mld (a := 1) d_168_54 rfl (by decide) (n := 12) rfl (vp_in_nI (by omega) (by decide)) ((congrArg (Y 1) (nI_clamp (by omega))).trans m1) ?_
    refine W_imul d_168_55 ?_
    refine W_bipush d_168_56 (v := 20) (by decide) ?_
    refine W_iadd d_168_58 ?_
    refine W_icmp_le (tgt := 66) d_168_59 (by decide) (fun h59 => ?_) (fun h59 => ?_)
    · refine W_iconst d_168_66 (v := 0) (by decide) ?_
      refine W_iret d_168_67 rt_168 rfl ?_
      exact ⟨congrArg (fun z => some (Value.int z)) (bI_0 (by rw [s17_3]; rintro (q | q | q); exact absurd q (by decide); exact absurd q.2 (Int32.not_lt.mpr h59); exact absurd q.1 (by decide))), rfl⟩
    · refine W_iconst d_168_62 (v := 1) (by decide) ?_
      refine W_goto (tgt := 67) d_168_63 (by decide) ?_
      refine W_iret d_168_67 rt_168 rfl ?_
      exact ⟨congrArg (fun z => some (Value.int z)) (bI_1 (Or.inr (Or.inl ⟨s17_3, Int32.not_le.mp h59⟩))), rfl⟩
  by_cases s17_4 : R 0 j = 4
  · refine W_table (tgt := 68) d_168_17 (off := 51) (by rw [s17_4]; decide) (by decide) ?_
    refine W_iload_n d_168_68 rfl ?_
    refine W_bipush d_168_69 (v := 10) (by decide) ?_
    refine W_aload_n d_168_71 rfl (by decide) ?_
    refine W_getf d_168_72 o_168 k_7_13 rfl rfl ?_
    refine W_iload_n d_168_75 rfl ?_
    refine W_mld (a := 1) d_168_76 rfl (by decide) (n := 12) rfl (vp_in_nI (by omega) (by decide)) ((congrArg (Y 1) (nI_clamp (by omega))).trans m1) ?_
    refine W_imul d_168_77 ?_
    refine W_icmp_lt (tgt := 85) d_168_78 (by decide) (fun h78 => ?_) (fun h78 => ?_)
    · refine W_iconst d_168_85 (v := 0) (by decide) ?_
      refine W_iret d_168_86 rt_168 rfl ?_
      exact ⟨congrArg (fun z => some (Value.int z)) (bI_0 (by rw [s17_4]; rintro (q | q | q); exact absurd q (by decide); exact absurd q.1 (by decide); exact absurd q.2 (Int32.not_le.mpr h78))), rfl⟩
    · refine W_iconst d_168_81 (v := 1) (by decide) ?_
      refine W_goto (tgt := 86) d_168_82 (by decide) ?_
      refine W_iret d_168_86 rt_168 rfl ?_
      exact ⟨congrArg (fun z => some (Value.int z)) (bI_1 (Or.inr (Or.inr ⟨s17_4, Int32.not_lt.mp h78⟩))), rfl⟩
  refine W_table (tgt := 87) d_168_17 (off := 70) (if_pos (by have q2 := lv_neT (a := 2) s17_2 (by decide); have q3 := lv_neT (a := 3) s17_3 (by decide); have q4 := lv_neT (a := 4) s17_4 (by decide); omega)) (by decide) ?_
  refine W_iconst d_168_87 (v := 0) (by decide) ?_
  refine W_iret d_168_88 rt_168 rfl ?_
  exact ⟨congrArg (fun z => some (Value.int z)) (bI_0 (by rintro (q | q | q); exact s17_2 q; exact s17_3 q.1; exact s17_4 q.1)), rfl⟩
theorem x_169 {d : Nat} {g : mG} {N : Nat} {P : Nat → mC} {Y : tR} {S : Nat → Int32} {R Lr : tR} {z : Nat → Nat} {n t : Nat} (hX : MX Y S R Lr z n t) {j : Nat} (hj : j < n) : Wp d 169 0 (ment 169 [.ref 92, .int (nI j)]) [] (N, H3 g P (mm Y S)) (fun v M' => v = some (.int (bI (ocm (R 0 j) (R 1 j) (R 5 j) (R 12 2)))) ∧ M' = (N, H3 g P (mm Y S))) := by
  obtain ⟨hq, hn, hn12, hlw, ht, hL, hM, hB⟩ := hX
  have m0 : Y 0 j = R 0 j := hq.lo (a := 0) (b := j) (by decide) hj
  have m1 : Y 1 j = R 1 j := hq.lo (a := 1) (b := j) (by decide) hj
  have m2 : Y 2 (5 * j) = R 2 j := hq.lo (a := 2) (b := j) (by decide) hj
  have m3 : Y 2 (5 * j + 1) = R 3 j := hq.lo (a := 3) (b := j) (by decide) hj
  have m5 : Y 2 (5 * j + 3) = R 5 j := hq.lo (a := 5) (b := j) (by decide) hj
  have e8 : S 8 = R 12 2 := hq.hi (a := 12) (b := 2) (by decide) (by decide) (by decide)
  show Wp _ 169 0 [.ref 92, .int (nI j), .null, .null, .null] [] _ _
  refine W_aload_n d_169_0 rfl (by decide) ?_
  refine W_getf d_169_1 o_169 k_7_16 rfl rfl ?_
  refine W_iconst d_169_4 (v := 5) (by decide) ?_
  refine W_iload_n d_169_5 rfl ?_
  refine W_imul d_169_6 ?_
  rw [show ((5 * nI j : Int32)) = nI (5 * j) from pk_mul 5 j]
  refine W_iconst d_169_7 (v := 3) (by decide) ?_
  refine W_iadd d_169_8 ?_
  rw [show ((nI (5 * j) + 3 : Int32)) = nI (5 * j + 3) from nI_add (5 * j) 3]
  refine W_mld (a := 2) d_169_9 rfl (by decide) (n := 60) rfl (vp_in_nI (by omega) (by decide)) ((congrArg (Y 2) (nI_clamp (by omega))).trans m5) ?_
  refine W_istore_n d_169_10 rfl ?_
  refine W_aload_n d_169_11 rfl (by decide) ?_
  refine W_getf d_169_12 o_169 k_7_103 rfl rfl ?_
  rw [e8]
  refine W_bipush d_169_15 (v := 24) (by decide) ?_
  refine W_irem d_169_17 (by decide) ?_
  refine W_istore_n d_169_18 rfl ?_
  refine W_iload_n d_169_19 rfl ?_
  refine W_iload_n d_169_20 rfl ?_
  refine W_icmp_ne (tgt := 28) d_169_21 (by decide) (fun h21 => ?_) (fun h21 => ?_)
  · refine W_iconst d_169_28 (v := 0) (by decide) ?_
    refine W_istore d_169_29 rfl ?_
    refine W_aload_n d_169_31 rfl (by decide) ?_
    refine W_getf d_169_32 o_169 k_7_7 rfl rfl ?_
    refine W_iload_n d_169_35 rfl ?_
    refine W_mld (a := 0) d_169_36 rfl (by decide) (n := 12) rfl (vp_in_nI (by omega) (by decide)) ((congrArg (Y 0) (nI_clamp (by omega))).trans m0) ?_
    by_cases s37_1 : R 0 j = 1
    · refine W_table (tgt := 72) d_169_37 (off := 35) (by rw [s37_1]; decide) (by decide) ?_
      refine W_iload d_169_72 rfl ?_
      refine W_if_ne (tgt := 88) d_169_74 (by decide) (fun h74 => absurd h74 (by decide)) (fun _ => ?_)
      refine W_iload_n d_169_77 rfl ?_
      refine W_iload_n d_169_78 rfl ?_
      refine W_bipush d_169_79 (v := 6) (by decide) ?_
      refine W_iadd d_169_81 ?_
      refine W_bipush d_169_82 (v := 24) (by decide) ?_
      refine W_irem d_169_84 (by decide) ?_
      refine W_icmp_ne (tgt := 92) d_169_85 (by decide) (fun h85 => ?_) (fun h85 => ?_)
      · refine W_iconst d_169_92 (v := 0) (by decide) ?_
        refine W_iret d_169_93 rt_169 rfl ?_
        refine ⟨congrArg (fun z => some (Value.int z)) ?_, rfl⟩
        first | exact bI_1 (by simp [i_mod, s37_1, h21, h85]) | exact bI_0 (by simp [i_mod, s37_1, h21, h85])
      · refine W_iconst d_169_88 (v := 1) (by decide) ?_
        refine W_goto (tgt := 93) d_169_89 (by decide) ?_
        refine W_iret d_169_93 rt_169 rfl ?_
        refine ⟨congrArg (fun z => some (Value.int z)) ?_, rfl⟩
        first | exact bI_1 (by simp [i_mod, s37_1, h21, h85]) | exact bI_0 (by simp [i_mod, s37_1, h21, h85])
    by_cases s37_2 : R 0 j = 2
    · refine W_table (tgt := 125) d_169_37 (off := 88) (by rw [s37_2]; decide) (by decide) ?_
      refine W_iload d_169_125 rfl ?_
      refine W_iret d_169_127 rt_169 rfl ?_
      refine ⟨congrArg (fun z => some (Value.int z)) ?_, rfl⟩
      first | exact bI_1 (by simp [i_mod, s37_2, h21]) | exact bI_0 (by simp [i_mod, s37_2, h21])
    by_cases s37_3 : R 0 j = 3
    · refine W_table (tgt := 72) d_169_37 (off := 35) (by rw [s37_3]; decide) (by decide) ?_
      refine W_iload d_169_72 rfl ?_
      refine W_if_ne (tgt := 88) d_169_74 (by decide) (fun h74 => absurd h74 (by decide)) (fun _ => ?_)
      refine W_iload_n d_169_77 rfl ?_
      refine W_iload_n d_169_78 rfl ?_
      refine W_bipush d_169_79 (v := 6) (by decide) ?_
      refine W_iadd d_169_81 ?_
      refine W_bipush d_169_82 (v := 24) (by decide) ?_
      refine W_irem d_169_84 (by decide) ?_
      refine W_icmp_ne (tgt := 92) d_169_85 (by decide) (fun h85 => ?_) (fun h85 => ?_)
      · refine W_iconst d_169_92 (v := 0) (by decide) ?_
        refine W_iret d_169_93 rt_169 rfl ?_
        refine ⟨congrArg (fun z => some (Value.int z)) ?_, rfl⟩
        first | exact bI_1 (by simp [i_mod, s37_3, h21, h85]) | exact bI_0 (by simp [i_mod, s37_3, h21, h85])
      · refine W_iconst d_169_88 (v := 1) (by decide) ?_
        refine W_goto (tgt := 93) d_169_89 (by decide) ?_
        refine W_iret d_169_93 rt_169 rfl ?_
        refine ⟨congrArg (fun z => some (Value.int z)) ?_, rfl⟩
        first | exact bI_1 (by simp [i_mod, s37_3, h21, h85]) | exact bI_0 (by simp [i_mod, s37_3, h21, h85])
    by_cases s37_4 : R 0 j = 4
    · refine W_table (tgt := 125) d_169_37 (off := 88) (by rw [s37_4]; decide) (by decide) ?_
      refine W_iload d_169_125 rfl ?_
      refine W_iret d_169_127 rt_169 rfl ?_
      refine ⟨congrArg (fun z => some (Value.int z)) ?_, rfl⟩
      first | exact bI_1 (by simp [i_mod, s37_4, h21]) | exact bI_0 (by simp [i_mod, s37_4, h21])
    by_cases s37_5 : R 0 j = 5
    · refine W_table (tgt := 94) d_169_37 (off := 57) (by rw [s37_5]; decide) (by decide) ?_
      refine W_iload d_169_94 rfl ?_
      refine W_if_eq (tgt := 123) d_169_96 (by decide) (fun _ => ?_) (fun h96 => absurd h96 (by decide))
      refine W_iconst d_169_123 (v := 0) (by decide) ?_
      refine W_iret d_169_124 rt_169 rfl ?_
      refine ⟨congrArg (fun z => some (Value.int z)) ?_, rfl⟩
      first | exact bI_1 (by simp [i_mod, s37_5, h21]) | exact bI_0 (by simp [i_mod, s37_5, h21])
    refine W_table (tgt := 125) d_169_37 (off := 88) (if_pos (by have q1 := lv_neT (a := 1) s37_1 (by decide); have q2 := lv_neT (a := 2) s37_2 (by decide); have q3 := lv_neT (a := 3) s37_3 (by decide); have q4 := lv_neT (a := 4) s37_4 (by decide); have q5 := lv_neT (a := 5) s37_5 (by decide); omega)) (by decide) ?_
    refine W_iload d_169_125 rfl ?_
    refine W_iret d_169_127 rt_169 rfl ?_
    refine ⟨congrArg (fun z => some (Value.int z)) ?_, rfl⟩
    first | exact bI_1 (by simp [i_mod, s37_1, s37_3, s37_5, h21]) | exact bI_0 (by simp [i_mod, s37_1, s37_3, s37_5, h21])
  · refine W_iconst d_169_24 (v := 1) (by decide) ?_
    refine W_goto (tgt := 29) d_169_25 (by decide) ?_
    refine W_istore d_169_29 rfl ?_
    refine W_aload_n d_169_31 rfl (by decide) ?_
    refine W_getf d_169_32 o_169 k_7_7 rfl rfl ?_
    refine W_iload_n d_169_35 rfl ?_
    refine W_mld (a := 0) d_169_36 rfl (by decide) (n := 12) rfl (vp_in_nI (by omega) (by decide)) ((congrArg (Y 0) (nI_clamp (by omega))).trans m0) ?_
    by_cases s37_1 : R 0 j = 1
    · refine W_table (tgt := 72) d_169_37 (off := 35) (by rw [s37_1]; decide) (by decide) ?_
      refine W_iload d_169_72 rfl ?_
      refine W_if_ne (tgt := 88) d_169_74 (by decide) (fun _ => ?_) (fun h74 => absurd h74 (by decide))
      refine W_iconst d_169_88 (v := 1) (by decide) ?_
      refine W_goto (tgt := 93) d_169_89 (by decide) ?_
      refine W_iret d_169_93 rt_169 rfl ?_
      refine ⟨congrArg (fun z => some (Value.int z)) ?_, rfl⟩
      first | exact bI_1 (by simp [i_mod, s37_1, h21]) | exact bI_0 (by simp [i_mod, s37_1, h21])
    by_cases s37_2 : R 0 j = 2
    · refine W_table (tgt := 125) d_169_37 (off := 88) (by rw [s37_2]; decide) (by decide) ?_
      refine W_iload d_169_125 rfl ?_
      refine W_iret d_169_127 rt_169 rfl ?_
      refine ⟨congrArg (fun z => some (Value.int z)) ?_, rfl⟩
      first | exact bI_1 (by simp [i_mod, s37_2, h21]) | exact bI_0 (by simp [i_mod, s37_2, h21])
    by_cases s37_3 : R 0 j = 3
    · refine W_table (tgt := 72) d_169_37 (off := 35) (by rw [s37_3]; decide) (by decide) ?_
      refine W_iload d_169_72 rfl ?_
      refine W_if_ne (tgt := 88) d_169_74 (by decide) (fun _ => ?_) (fun h74 => absurd h74 (by decide))
      refine W_iconst d_169_88 (v := 1) (by decide) ?_
      refine W_goto (tgt := 93) d_169_89 (by decide) ?_
      refine W_iret d_169_93 rt_169 rfl ?_
      refine ⟨congrArg (fun z => some (Value.int z)) ?_, rfl⟩
      first | exact bI_1 (by simp [i_mod, s37_3, h21]) | exact bI_0 (by simp [i_mod, s37_3, h21])
    by_cases s37_4 : R 0 j = 4
    · refine W_table (tgt := 125) d_169_37 (off := 88) (by rw [s37_4]; decide) (by decide) ?_
      refine W_iload d_169_125 rfl ?_
      refine W_iret d_169_127 rt_169 rfl ?_
      refine ⟨congrArg (fun z => some (Value.int z)) ?_, rfl⟩
      first | exact bI_1 (by simp [i_mod, s37_4, h21]) | exact bI_0 (by simp [i_mod, s37_4, h21])
    by_cases s37_5 : R 0 j = 5
    · refine W_table (tgt := 94) d_169_37 (off := 57) (by rw [s37_5]; decide) (by decide) ?_
      refine W_iload d_169_94 rfl ?_
      refine W_if_eq (tgt := 123) d_169_96 (by decide) (fun h96 => absurd h96 (by decide)) (fun _ => ?_)
      refine W_aload_n d_169_99 rfl (by decide) ?_
      refine W_getf d_169_100 o_169 k_7_103 rfl rfl ?_
      rw [e8]
      refine W_bipush d_169_103 (v := 24) (by decide) ?_
      refine W_idiv d_169_105 (by decide) ?_
      refine W_iconst d_169_106 (v := 2) (by decide) ?_
      refine W_irem d_169_107 (by decide) ?_
      refine W_aload_n d_169_108 rfl (by decide) ?_
      refine W_getf d_169_109 o_169 k_7_13 rfl rfl ?_
      refine W_iload_n d_169_112 rfl ?_
      refine W_mld (a := 1) d_169_113 rfl (by decide) (n := 12) rfl (vp_in_nI (by omega) (by decide)) ((congrArg (Y 1) (nI_clamp (by omega))).trans m1) ?_
      refine W_iconst d_169_114 (v := 2) (by decide) ?_
      refine W_irem d_169_115 (by decide) ?_
      refine W_icmp_ne (tgt := 123) d_169_116 (by decide) (fun h116 => ?_) (fun h116 => ?_)
      · refine W_iconst d_169_123 (v := 0) (by decide) ?_
        refine W_iret d_169_124 rt_169 rfl ?_
        refine ⟨congrArg (fun z => some (Value.int z)) ?_, rfl⟩
        first | exact bI_1 (by simp [i_mod, s37_5, h21, h116]) | exact bI_0 (by simp [i_mod, s37_5, h21, h116])
      · refine W_iconst d_169_119 (v := 1) (by decide) ?_
        refine W_goto (tgt := 124) d_169_120 (by decide) ?_
        refine W_iret d_169_124 rt_169 rfl ?_
        refine ⟨congrArg (fun z => some (Value.int z)) ?_, rfl⟩
        first | exact bI_1 (by simp [i_mod, s37_5, h21, h116]) | exact bI_0 (by simp [i_mod, s37_5, h21, h116])
    refine W_table (tgt := 125) d_169_37 (off := 88) (if_pos (by have q1 := lv_neT (a := 1) s37_1 (by decide); have q2 := lv_neT (a := 2) s37_2 (by decide); have q3 := lv_neT (a := 3) s37_3 (by decide); have q4 := lv_neT (a := 4) s37_4 (by decide); have q5 := lv_neT (a := 5) s37_5 (by decide); omega)) (by decide) ?_
    refine W_iload d_169_125 rfl ?_
    refine W_iret d_169_127 rt_169 rfl ?_
    refine ⟨congrArg (fun z => some (Value.int z)) ?_, rfl⟩
    first | exact bI_1 (by simp [i_mod, s37_1, s37_3, s37_5, h21]) | exact bI_0 (by simp [i_mod, s37_1, s37_3, s37_5, h21])
