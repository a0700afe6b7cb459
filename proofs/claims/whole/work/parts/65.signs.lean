/-! TEXTS: indexOf, the signs, what joins (wip/whole/gen65.py) -/
/-- the first place of a byte -/
def ixo (f : Nat → Int32) (c : Int32) : Nat → Nat → Int32
  | 0, _ => -1
  | k + 1, i => if f i = c then nI i else ixo f c k (i + 1)
theorem x_9 {d : Nat} {M : mM} {c : Int32} (hc : 0 ≤ c ∧ c ≤ 255) : Ex d 9 [.int c] M (some (.int 1)) M := by
  refine Ex.of ?_
  show Wp _ 9 0 [.int c] [] _ _
  refine W_iload_n d_9_0 rfl ?_
  refine W_if_lt (tgt := 15) d_9_1 (by decide) (fun q => absurd q (Int32.not_lt.mpr hc.1)) (fun _ => ?_)
  refine W_iload_n d_9_4 rfl ?_
  refine W_sipush d_9_5 (v := 255) (by decide) ?_
  refine W_icmp_gt (tgt := 15) d_9_8 (by decide) (fun q => absurd q (Int32.not_lt.mpr hc.2)) (fun _ => ?_)
  refine W_iconst d_9_11 (v := 1) (by decide) ?_
  refine W_goto (tgt := 16) d_9_12 (by decide) ?_
  refine W_iret d_9_16 rt_9 rfl ?_
  exact ⟨rfl, rfl⟩
theorem x_11l {d : Nat} {M : mM} {b n : Nat} {f : Nat → Int32} {c : Int32} (hb : M.2 b = .inl (2, n, f)) (hb9 : b ≠ 1009) (hn : n < 256) : ∀ k i, i + k = n → Wp d 11 7 [.ref b, .int c, .int 0, .int (nI n), .int c.toInt8.toInt32, .int (nI i)] [] M (fun v' M' => v' = some (.int (ixo f c.toInt8.toInt32 k i)) ∧ M' = M) := by
  intro k
  induction k with
  | zero =>
    intro i hi
    have ei : i = n := by omega
    subst ei
    refine W_iload d_11_7 rfl ?_
    refine W_iload_n d_11_9 rfl ?_
    refine W_icmp_ge (tgt := 31) d_11_10 (by decide) (fun _ => ?_) (fun q => absurd (nI_le (a := i) (b := i) (by omega) (by omega)) q)
    refine W_iconst d_11_31 (v := (-1)) (by decide) ?_
    refine W_iret d_11_32 rt_11 rfl ?_
    exact ⟨rfl, rfl⟩
  | succ k ih =>
    intro i hi
    refine W_iload d_11_7 rfl ?_
    refine W_iload_n d_11_9 rfl ?_
    refine W_icmp_ge (tgt := 31) d_11_10 (by decide) (fun q => absurd q (nI_ge (a := i) (b := n) (by omega) (by omega))) (fun _ => ?_)
    refine W_aload_n d_11_13 rfl hb9 ?_
    refine W_iload d_11_14 rfl ?_
    refine W_bald d_11_16 hb (vp_in_nI (by omega) (by omega)) (congrArg f (nI_clamp (by omega))) ?_
    refine W_iload d_11_17 rfl ?_
    refine W_icmp_ne (tgt := 25) d_11_19 (by decide) (fun h => ?_) (fun h => ?_)
    · refine W_iinc (v := 1) d_11_25 rfl (by decide) rfl ?_
      rw [show ((nI i + 1 : Int32)) = nI (i + 1) from nI_add i 1]
      refine W_goto (tgt := 7) d_11_28 (by decide) ?_
      rw [ixo, if_neg h]
      exact ih (i + 1) (by omega)
    · refine W_iload d_11_22 rfl ?_
      refine W_iret d_11_24 rt_11 rfl ?_
      rw [ixo, if_pos h]
      exact ⟨rfl, rfl⟩
theorem x_11 {d : Nat} {M : mM} {b n : Nat} {f : Nat → Int32} {c : Int32} (hb : M.2 b = .inl (2, n, f)) (hb9 : b ≠ 1009) (hn : n < 256) : Ex d 11 [.ref b, .int c, .int 0, .int (nI n)] M (some (.int (ixo f c.toInt8.toInt32 n 0))) M := by
  refine Ex.of ?_
  show Wp _ 11 0 [.ref b, .int c, .int 0, .int (nI n), .null, .null] [] _ _
  refine W_iload_n d_11_0 rfl ?_
  refine W_i2b d_11_1 ?_
  refine W_istore d_11_2 rfl ?_
  refine W_iload_n d_11_4 rfl ?_
  refine W_istore d_11_5 rfl ?_
  exact x_11l hb hb9 hn n 0 (by omega)
theorem x_10 {d : Nat} {M : mM} {b n : Nat} {f : Nat → Int32} {c : Int32} (hb : M.2 b = .inl (2, n, f)) (hb9 : b ≠ 1009) (hn : n < 256) (hn1 : 0 < n) (hc : 0 ≤ c ∧ c ≤ 255) (hd : 1 ≤ d) : Ex d 10 [.ref b, .int c, .int 0, .int (nI n)] M (some (.int (ixo f c.toInt8.toInt32 n 0))) M := by
  refine Ex.of ?_
  show Wp _ 10 0 [.ref b, .int c, .int 0, .int (nI n)] [] _ _
  refine W_iload_n d_10_0 rfl ?_
  refine W_callS d_10_1 o_10 k_10_88 (by omega) (x_9 hc) rfl (Nat.le_of_ble_eq_true rfl) ?_
  refine W_if_ne (tgt := 9) d_10_4 (by decide) (fun _ => ?_) (fun q => absurd q (by decide : ¬ (1 : Int32) = 0))
  refine W_iload_n d_10_9 rfl ?_
  refine W_iconst d_10_10 (v := 0) (by decide) ?_
  refine W_callS d_10_11 o_10 k_10_92 (by omega) (x_13) rfl (Nat.le_of_ble_eq_true rfl) ?_
  rw [show i_max 0 0 = 0 from by decide]
  refine W_istore_n d_10_14 rfl ?_
  refine W_iload_n d_10_15 rfl ?_
  refine W_aload_n d_10_16 rfl hb9 ?_
  refine W_alen (n := n) (v := nI n) d_10_17 ((congrArg mlen hb).trans rfl) rfl ?_
  refine W_callS d_10_18 o_10 k_10_38 (by omega) (x_14) rfl (Nat.le_of_ble_eq_true rfl) ?_
  rw [show i_min (nI n) (nI n) = nI n from by unfold i_min; split <;> rfl]
  refine W_istore_n d_10_21 rfl ?_
  refine W_iload_n d_10_22 rfl ?_
  refine W_iload_n d_10_23 rfl ?_
  refine W_icmp_lt (tgt := 29) d_10_24 (by decide) (fun _ => ?_) (fun q => absurd (nI_lt (a := 0) (b := n) hn1 (by omega)) q)
  refine W_aload_n d_10_29 rfl hb9 ?_
  refine W_iload_n d_10_30 rfl ?_
  refine W_iload_n d_10_31 rfl ?_
  refine W_iload_n d_10_32 rfl ?_
  refine W_callS d_10_33 o_10 k_10_95 (by omega) (x_11 hb hb9 hn) rfl (Nat.le_of_ble_eq_true rfl) ?_
  refine W_iret d_10_36 rt_10 rfl ?_
  exact ⟨rfl, rfl⟩
theorem x_4 {d : Nat} {M : mM} {q b n : Nat} {f : Nat → Int32} {c : Int32} (hq : M.2 q = .inr (.inr (8, [.ref b, .int 0]))) (hq9 : q ≠ 1009) (hb : M.2 b = .inl (2, n, f)) (hb9 : b ≠ 1009) (hn : n < 256) (hn1 : 0 < n) (hc : 0 ≤ c ∧ c ≤ 255) (hd : 3 ≤ d) : Ex d 4 [.ref q, .int c, .int 0] M (some (.int (ixo f c.toInt8.toInt32 n 0))) M := by
  refine Ex.of ?_
  show Wp _ 4 0 [.ref q, .int c, .int 0] [] _ _
  refine W_aload_n d_4_0 rfl hq9 ?_
  refine W_callV d_4_1 o_4 (Or.inr k_8_492) (by omega) (x_6 hq hq9) rfl (mrecv_of hq o_6.symm) rfl (Nat.le_of_ble_eq_true rfl) ?_
  refine W_if_eq (tgt := 23) d_4_4 (by decide) (fun q => absurd q (by decide)) (fun _ => ?_)
  refine W_aload_n d_4_7 rfl hq9 ?_
  refine W_getfS d_4_8 o_4 k_8_9 hq rfl ?_
  refine W_iload_n d_4_11 rfl ?_
  refine W_iload_n d_4_12 rfl ?_
  refine W_aload_n d_4_13 rfl hq9 ?_
  refine W_callV d_4_14 o_4 (Or.inr k_8_505) (by omega) (x_1 hq hq9 hb hb9 hn (by omega)) rfl (mrecv_of hq o_1.symm) rfl (Nat.le_of_ble_eq_true rfl) ?_
  refine W_callS d_4_17 o_4 k_8_637 (by omega) (x_10 hb hb9 hn hn1 hc (by omega)) rfl (Nat.le_of_ble_eq_true rfl) ?_
  refine W_goto (tgt := 36) d_4_20 (by decide) ?_
  refine W_iret d_4_36 rt_4 rfl ?_
  exact ⟨rfl, rfl⟩
theorem x_3 {d : Nat} {M : mM} {q b n : Nat} {f : Nat → Int32} {c : Int32} (hq : M.2 q = .inr (.inr (8, [.ref b, .int 0]))) (hq9 : q ≠ 1009) (hb : M.2 b = .inl (2, n, f)) (hb9 : b ≠ 1009) (hn : n < 256) (hn1 : 0 < n) (hc : 0 ≤ c ∧ c ≤ 255) (hd : 4 ≤ d) : Ex d 3 [.ref q, .int c] M (some (.int (ixo f c.toInt8.toInt32 n 0))) M := by
  refine Ex.of ?_
  show Wp _ 3 0 [.ref q, .int c] [] _ _
  refine W_aload_n d_3_0 rfl hq9 ?_
  refine W_iload_n d_3_1 rfl ?_
  refine W_iconst d_3_2 (v := 0) (by decide) ?_
  refine W_callV d_3_3 o_3 (Or.inr k_8_633) (by omega) (x_4 hq hq9 hb hb9 hn hn1 hc (by omega)) rfl (mrecv_of hq o_4.symm) rfl (Nat.le_of_ble_eq_true rfl) ?_
  refine W_iret d_3_6 rt_3 rfl ?_
  exact ⟨rfl, rfl⟩
def jnt (lv : Nat) (t : Int32) : Bool := if lv = 0 then decide (t = 3) else if lv = 1 then decide (t = 4) else if lv = 2 then decide (t = 43 ∨ t = 45) else decide (t = 42)
def cst (t : Int32) : Int32 := if t = 3 then -1 else if t = 4 then -2 else if t = 43 then -6 else if t = 45 then -7 else if t = 60 then -4 else if t = 61 then -5 else -8
theorem x_42_0 {d : Nat} {g : mG} {N : Nat} {A T K : Nat → tR} {B : tR} {E : Nat → Int32} {l : Int64} {G : tR} {Qm : Nat → mC} : Ex d 42 [.ref 55, .int 0] (N, H3 g (cc A T K B E l G) Qm) (some (.int (bI (jnt 0 (B 1 3))))) (N, H3 g (cc A T K B E l G) Qm) := by
  refine Ex.of ?_
  show Wp _ 42 0 [.ref 55, .int 0] [] _ _
  refine W_iload_n d_42_0 rfl ?_
  refine W_table (tgt := 28) d_42_1 (off := 27) (by decide) (by decide) ?_
  refine W_aload_n d_42_28 rfl (by decide) ?_
  refine W_getf d_42_29 o_42 k_3_41 rfl rfl ?_
  refine W_iconst d_42_32 (v := 3) (by decide) ?_
  refine W_icmp_ne (tgt := 40) d_42_33 (by decide) (fun h33 => ?_) (fun h33 => ?_)
  · refine W_iconst d_42_40 (v := 0) (by decide) ?_
    refine W_iret d_42_41 rt_42 rfl ?_
    exact ⟨congrArg (fun z => some (Value.int z)) (by simp [bI, jnt, *]), rfl⟩
  · refine W_iconst d_42_36 (v := 1) (by decide) ?_
    refine W_goto (tgt := 41) d_42_37 (by decide) ?_
    refine W_iret d_42_41 rt_42 rfl ?_
    exact ⟨congrArg (fun z => some (Value.int z)) (by simp [bI, jnt, *]), rfl⟩
theorem x_42_1 {d : Nat} {g : mG} {N : Nat} {A T K : Nat → tR} {B : tR} {E : Nat → Int32} {l : Int64} {G : tR} {Qm : Nat → mC} : Ex d 42 [.ref 55, .int 1] (N, H3 g (cc A T K B E l G) Qm) (some (.int (bI (jnt 1 (B 1 3))))) (N, H3 g (cc A T K B E l G) Qm) := by
  refine Ex.of ?_
  show Wp _ 42 0 [.ref 55, .int 1] [] _ _
  refine W_iload_n d_42_0 rfl ?_
  refine W_table (tgt := 42) d_42_1 (off := 41) (by decide) (by decide) ?_
  refine W_aload_n d_42_42 rfl (by decide) ?_
  refine W_getf d_42_43 o_42 k_3_41 rfl rfl ?_
  refine W_iconst d_42_46 (v := 4) (by decide) ?_
  refine W_icmp_ne (tgt := 54) d_42_47 (by decide) (fun h47 => ?_) (fun h47 => ?_)
  · refine W_iconst d_42_54 (v := 0) (by decide) ?_
    refine W_iret d_42_55 rt_42 rfl ?_
    exact ⟨congrArg (fun z => some (Value.int z)) (by simp [bI, jnt, *]), rfl⟩
  · refine W_iconst d_42_50 (v := 1) (by decide) ?_
    refine W_goto (tgt := 55) d_42_51 (by decide) ?_
    refine W_iret d_42_55 rt_42 rfl ?_
    exact ⟨congrArg (fun z => some (Value.int z)) (by simp [bI, jnt, *]), rfl⟩
theorem x_42_2 {d : Nat} {g : mG} {N : Nat} {A T K : Nat → tR} {B : tR} {E : Nat → Int32} {l : Int64} {G : tR} {Qm : Nat → mC} : Ex d 42 [.ref 55, .int 2] (N, H3 g (cc A T K B E l G) Qm) (some (.int (bI (jnt 2 (B 1 3))))) (N, H3 g (cc A T K B E l G) Qm) := by
  refine Ex.of ?_
  show Wp _ 42 0 [.ref 55, .int 2] [] _ _
  refine W_iload_n d_42_0 rfl ?_
  refine W_table (tgt := 56) d_42_1 (off := 55) (by decide) (by decide) ?_
  refine W_aload_n d_42_56 rfl (by decide) ?_
  refine W_getf d_42_57 o_42 k_3_41 rfl rfl ?_
  refine W_bipush d_42_60 (v := 43) (by decide) ?_
  refine W_icmp_eq (tgt := 74) d_42_62 (by decide) (fun h62 => ?_) (fun h62 => ?_)
  · refine W_iconst d_42_74 (v := 1) (by decide) ?_
    refine W_goto (tgt := 79) d_42_75 (by decide) ?_
    refine W_iret d_42_79 rt_42 rfl ?_
    exact ⟨congrArg (fun z => some (Value.int z)) (by simp [bI, jnt, *]), rfl⟩
  · refine W_aload_n d_42_65 rfl (by decide) ?_
    refine W_getf d_42_66 o_42 k_3_41 rfl rfl ?_
    refine W_bipush d_42_69 (v := 45) (by decide) ?_
    refine W_icmp_ne (tgt := 78) d_42_71 (by decide) (fun h71 => ?_) (fun h71 => ?_)
    · refine W_iconst d_42_78 (v := 0) (by decide) ?_
      refine W_iret d_42_79 rt_42 rfl ?_
      exact ⟨congrArg (fun z => some (Value.int z)) (by simp [bI, jnt, *]), rfl⟩
    · refine W_iconst d_42_74 (v := 1) (by decide) ?_
      refine W_goto (tgt := 79) d_42_75 (by decide) ?_
      refine W_iret d_42_79 rt_42 rfl ?_
      exact ⟨congrArg (fun z => some (Value.int z)) (by simp [bI, jnt, *]), rfl⟩
theorem x_42_3 {d : Nat} {g : mG} {N : Nat} {A T K : Nat → tR} {B : tR} {E : Nat → Int32} {l : Int64} {G : tR} {Qm : Nat → mC} : Ex d 42 [.ref 55, .int 3] (N, H3 g (cc A T K B E l G) Qm) (some (.int (bI (jnt 3 (B 1 3))))) (N, H3 g (cc A T K B E l G) Qm) := by
  refine Ex.of ?_
  show Wp _ 42 0 [.ref 55, .int 3] [] _ _
  refine W_iload_n d_42_0 rfl ?_
  refine W_table (tgt := 80) d_42_1 (off := 79) (by decide) (by decide) ?_
  refine W_aload_n d_42_80 rfl (by decide) ?_
  refine W_getf d_42_81 o_42 k_3_41 rfl rfl ?_
  refine W_bipush d_42_84 (v := 42) (by decide) ?_
  refine W_icmp_ne (tgt := 93) d_42_86 (by decide) (fun h86 => ?_) (fun h86 => ?_)
  · refine W_iconst d_42_93 (v := 0) (by decide) ?_
    refine W_iret d_42_94 rt_42 rfl ?_
    exact ⟨congrArg (fun z => some (Value.int z)) (by simp [bI, jnt, *]), rfl⟩
  · refine W_iconst d_42_89 (v := 1) (by decide) ?_
    refine W_goto (tgt := 94) d_42_90 (by decide) ?_
    refine W_iret d_42_94 rt_42 rfl ?_
    exact ⟨congrArg (fun z => some (Value.int z)) (by simp [bI, jnt, *]), rfl⟩
theorem x_43 {d : Nat} {g : mG} {N : Nat} {A T K : Nat → tR} {B : tR} {E : Nat → Int32} {l : Int64} {G : tR} {Qm : Nat → mC} : Ex d 43 [.ref 55] (N, H3 g (cc A T K B E l G) Qm) (some (.int (cst (B 1 3)))) (N, H3 g (cc A T K B E l G) Qm) := by
  refine Ex.of ?_
  show Wp _ 43 0 [.ref 55] [] _ _
  refine W_aload_n d_43_0 rfl (by decide) ?_
  refine W_getf d_43_1 o_43 k_3_41 rfl rfl ?_
  by_cases s4_3 : B 1 3 = 3
  · refine W_lookup (tgt := 64) d_43_4 (by decide) (off := 60) (by rw [s4_3]; decide) (by decide) ?_
    refine W_iconst d_43_64 (v := (-1)) (by decide) ?_
    refine W_iret d_43_65 rt_43 rfl ?_
    exact ⟨congrArg (fun z => some (Value.int z)) (by unfold cst; simp [*]), rfl⟩
  by_cases s4_4 : B 1 3 = 4
  · refine W_lookup (tgt := 66) d_43_4 (by decide) (off := 62) (by rw [s4_4]; decide) (by decide) ?_
    refine W_bipush d_43_66 (v := (-2)) (by decide) ?_
    refine W_iret d_43_68 rt_43 rfl ?_
    exact ⟨congrArg (fun z => some (Value.int z)) (by unfold cst; simp [*]), rfl⟩
  by_cases s4_43 : B 1 3 = 43
  · refine W_lookup (tgt := 75) d_43_4 (by decide) (off := 71) (by rw [s4_43]; decide) (by decide) ?_
    refine W_bipush d_43_75 (v := (-6)) (by decide) ?_
    refine W_iret d_43_77 rt_43 rfl ?_
    exact ⟨congrArg (fun z => some (Value.int z)) (by unfold cst; simp [*]), rfl⟩
  by_cases s4_45 : B 1 3 = 45
  · refine W_lookup (tgt := 78) d_43_4 (by decide) (off := 74) (by rw [s4_45]; decide) (by decide) ?_
    refine W_bipush d_43_78 (v := (-7)) (by decide) ?_
    refine W_iret d_43_80 rt_43 rfl ?_
    exact ⟨congrArg (fun z => some (Value.int z)) (by unfold cst; simp [*]), rfl⟩
  by_cases s4_60 : B 1 3 = 60
  · refine W_lookup (tgt := 69) d_43_4 (by decide) (off := 65) (by rw [s4_60]; decide) (by decide) ?_
    refine W_bipush d_43_69 (v := (-4)) (by decide) ?_
    refine W_iret d_43_71 rt_43 rfl ?_
    exact ⟨congrArg (fun z => some (Value.int z)) (by unfold cst; simp [*]), rfl⟩
  by_cases s4_61 : B 1 3 = 61
  · refine W_lookup (tgt := 72) d_43_4 (by decide) (off := 68) (by rw [s4_61]; decide) (by decide) ?_
    refine W_bipush d_43_72 (v := (-5)) (by decide) ?_
    refine W_iret d_43_74 rt_43 rfl ?_
    exact ⟨congrArg (fun z => some (Value.int z)) (by unfold cst; simp [*]), rfl⟩
  refine W_lookup (tgt := 81) d_43_4 (by decide) (off := 77) (by rw [show _ = _ from lv_osw s4_3 (by decide)]; rw [show _ = _ from lv_osw s4_4 (by decide)]; rw [show _ = _ from lv_osw s4_43 (by decide)]; rw [show _ = _ from lv_osw s4_45 (by decide)]; rw [show _ = _ from lv_osw s4_60 (by decide)]; rw [show _ = _ from lv_osw s4_61 (by decide)]; rfl) (by decide) ?_
  refine W_bipush d_43_81 (v := (-8)) (by decide) ?_
  refine W_iret d_43_83 rt_43 rfl ?_
  exact ⟨congrArg (fun z => some (Value.int z)) (by unfold cst; simp [*]), rfl⟩
