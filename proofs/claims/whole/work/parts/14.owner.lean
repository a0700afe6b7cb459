/-! MATH, OWNER, LOTS, SHEET: their methods (wip/whole/gen14.py) -/
def i_min (a b : Int32) : Int32 := if b < a then b else a
def i_max (a b : Int32) : Int32 := if a < b then b else a
theorem x_13 {d : Nat} {M : mM} {a b : Int32} : Ex d 13 [.int a, .int b] M (some (.int (i_max a b))) M := by
  refine Ex.of ?_
  show Wp _ 13 0 [.int a, .int b] [] _ _
  refine W_iload_n d_13_0 rfl ?_
  refine W_iload_n d_13_1 rfl ?_
  refine W_icmp_lt (tgt := 9) d_13_2 (by decide) (fun h2 => ?_) (fun h2 => ?_)
  · refine W_iload_n d_13_9 rfl ?_
    refine W_iret d_13_10 rt_13 rfl ?_
    first | exact ⟨congrArg (fun z => some (Value.int z)) (by unfold i_max; rw [if_pos (by assumption)]), rfl⟩ | exact ⟨congrArg (fun z => some (Value.int z)) (by unfold i_max; rw [if_neg (by assumption)]), rfl⟩
  · refine W_iload_n d_13_5 rfl ?_
    refine W_goto (tgt := 10) d_13_6 (by decide) ?_
    refine W_iret d_13_10 rt_13 rfl ?_
    first | exact ⟨congrArg (fun z => some (Value.int z)) (by unfold i_max; rw [if_pos (by assumption)]), rfl⟩ | exact ⟨congrArg (fun z => some (Value.int z)) (by unfold i_max; rw [if_neg (by assumption)]), rfl⟩
theorem x_14 {d : Nat} {M : mM} {a b : Int32} : Ex d 14 [.int a, .int b] M (some (.int (i_min a b))) M := by
  refine Ex.of ?_
  show Wp _ 14 0 [.int a, .int b] [] _ _
  refine W_iload_n d_14_0 rfl ?_
  refine W_iload_n d_14_1 rfl ?_
  refine W_icmp_gt (tgt := 9) d_14_2 (by decide) (fun h2 => ?_) (fun h2 => ?_)
  · refine W_iload_n d_14_9 rfl ?_
    refine W_iret d_14_10 rt_14 rfl ?_
    first | exact ⟨congrArg (fun z => some (Value.int z)) (by unfold i_min; rw [if_pos (by assumption)]), rfl⟩ | exact ⟨congrArg (fun z => some (Value.int z)) (by unfold i_min; rw [if_neg (by assumption)]), rfl⟩
  · refine W_iload_n d_14_5 rfl ?_
    refine W_goto (tgt := 10) d_14_6 (by decide) ?_
    refine W_iret d_14_10 rt_14 rfl ?_
    first | exact ⟨congrArg (fun z => some (Value.int z)) (by unfold i_min; rw [if_pos (by assumption)]), rfl⟩ | exact ⟨congrArg (fun z => some (Value.int z)) (by unfold i_min; rw [if_neg (by assumption)]), rfl⟩
def ow0 (A : Nat → tR) (r j : Nat) (k m a : Int32) : Nat → tR := u3 (u3 (u3 (u3 (u3 (u3 (u3 A r 0 j k) r 1 j m) r 5 j a) r 2 j 0) r 3 j 0) r 4 j 0) r 6 j 0
theorem x_26 {d : Nat} {g : mG} {N : Nat} {A T K : Nat → tR} {B : tR} {E : Nat → Int32} {l : Int64} {G : tR} {Qm : Nat → mC} {r j : Nat} (hr : r < 3) (hj : j < 12) {k m a : Int32} : Ex d 26 [.ref (rb r + 6 + j), .int k, .int m, .int a] (N, H3 g (cc A T K B E l G) Qm) none (N, H3 g (cc (ow0 A r j k m a) T K B E l G) Qm) := by
  refine Ex.of ?_
  show Wp _ 26 0 [.ref (rb r + 6 + j), .int k, .int m, .int a] [] _ _
  refine W_aload_n d_26_0 rfl (ow_ne (by assumption) (by assumption)) ?_
  refine W_iload_n d_26_1 rfl ?_
  refine W_putf d_26_2 o_26 k_2_9 (h_owner (by assumption) (by assumption)) (Nat.le_of_ble_eq_true rfl) rfl (ms_ow0 (by assumption) (by assumption)) ?_
  refine W_aload_n d_26_5 rfl (ow_ne (by assumption) (by assumption)) ?_
  refine W_iload_n d_26_6 rfl ?_
  refine W_putf d_26_7 o_26 k_2_15 (h_owner (by assumption) (by assumption)) (Nat.le_of_ble_eq_true rfl) rfl (ms_ow1 (by assumption) (by assumption)) ?_
  refine W_aload_n d_26_10 rfl (ow_ne (by assumption) (by assumption)) ?_
  refine W_iload_n d_26_11 rfl ?_
  refine W_putf d_26_12 o_26 k_2_18 (h_owner (by assumption) (by assumption)) (Nat.le_of_ble_eq_true rfl) rfl (ms_ow5 (by assumption) (by assumption)) ?_
  refine W_aload_n d_26_15 rfl (ow_ne (by assumption) (by assumption)) ?_
  refine W_iconst d_26_16 (v := 0) (by decide) ?_
  refine W_putf d_26_17 o_26 k_2_21 (h_owner (by assumption) (by assumption)) (Nat.le_of_ble_eq_true rfl) rfl (ms_ow2 (by assumption) (by assumption)) ?_
  refine W_aload_n d_26_20 rfl (ow_ne (by assumption) (by assumption)) ?_
  refine W_iconst d_26_21 (v := 0) (by decide) ?_
  refine W_putf d_26_22 o_26 k_2_24 (h_owner (by assumption) (by assumption)) (Nat.le_of_ble_eq_true rfl) rfl (ms_ow3 (by assumption) (by assumption)) ?_
  refine W_aload_n d_26_25 rfl (ow_ne (by assumption) (by assumption)) ?_
  refine W_iconst d_26_26 (v := 0) (by decide) ?_
  refine W_putf d_26_27 o_26 k_2_27 (h_owner (by assumption) (by assumption)) (Nat.le_of_ble_eq_true rfl) rfl (ms_ow4 (by assumption) (by assumption)) ?_
  refine W_aload_n d_26_30 rfl (ow_ne (by assumption) (by assumption)) ?_
  refine W_iconst d_26_31 (v := 0) (by decide) ?_
  refine W_putf d_26_32 o_26 k_2_30 (h_owner (by assumption) (by assumption)) (Nat.le_of_ble_eq_true rfl) rfl (ms_ow6 (by assumption) (by assumption)) ?_
  refine W_ret d_26_35 rt_26 ?_
  exact ⟨rfl, rfl⟩
def owB (A : Nat → tR) (r r2 j : Nat) : Nat → tR := u3 (u3 (u3 (u3 (u3 (u3 (u3 A r 0 j (A r2 0 j)) r 1 j (A r2 1 j)) r 5 j (A r2 5 j)) r 2 j (A r2 2 j)) r 3 j (A r2 3 j)) r 4 j (A r2 4 j)) r 6 j (A r2 6 j)
theorem x_27 {d : Nat} {g : mG} {N : Nat} {A T K : Nat → tR} {B : tR} {E : Nat → Int32} {l : Int64} {G : tR} {Qm : Nat → mC} {r j : Nat} (hr : r < 3) (hj : j < 12) {r2 : Nat} (hr2 : r2 < 3) : Ex d 27 [.ref (rb r + 6 + j), .ref (rb r2 + 6 + j)] (N, H3 g (cc A T K B E l G) Qm) none (N, H3 g (cc (owB A r r2 j) T K B E l G) Qm) := by
  refine Ex.of ?_
  show Wp _ 27 0 [.ref (rb r + 6 + j), .ref (rb r2 + 6 + j)] [] _ _
  refine W_aload_n d_27_0 rfl (ow_ne (by assumption) (by assumption)) ?_
  refine W_aload_n d_27_1 rfl (ow_ne (by assumption) (by assumption)) ?_
  refine W_getf d_27_2 o_27 k_2_9 (h_owner (by assumption) (by assumption)) rfl ?_
  refine W_putf d_27_5 o_27 k_2_9 (h_owner (by assumption) (by assumption)) (Nat.le_of_ble_eq_true rfl) rfl (ms_ow0 (by assumption) (by assumption)) ?_
  refine W_aload_n d_27_8 rfl (ow_ne (by assumption) (by assumption)) ?_
  refine W_aload_n d_27_9 rfl (ow_ne (by assumption) (by assumption)) ?_
  refine W_getf d_27_10 o_27 k_2_15 (h_owner (by assumption) (by assumption)) rfl ?_
  refine W_putf d_27_13 o_27 k_2_15 (h_owner (by assumption) (by assumption)) (Nat.le_of_ble_eq_true rfl) rfl (ms_ow1 (by assumption) (by assumption)) ?_
  refine W_aload_n d_27_16 rfl (ow_ne (by assumption) (by assumption)) ?_
  refine W_aload_n d_27_17 rfl (ow_ne (by assumption) (by assumption)) ?_
  refine W_getf d_27_18 o_27 k_2_18 (h_owner (by assumption) (by assumption)) rfl ?_
  refine W_putf d_27_21 o_27 k_2_18 (h_owner (by assumption) (by assumption)) (Nat.le_of_ble_eq_true rfl) rfl (ms_ow5 (by assumption) (by assumption)) ?_
  refine W_aload_n d_27_24 rfl (ow_ne (by assumption) (by assumption)) ?_
  refine W_aload_n d_27_25 rfl (ow_ne (by assumption) (by assumption)) ?_
  refine W_getf d_27_26 o_27 k_2_21 (h_owner (by assumption) (by assumption)) rfl ?_
  refine W_putf d_27_29 o_27 k_2_21 (h_owner (by assumption) (by assumption)) (Nat.le_of_ble_eq_true rfl) rfl (ms_ow2 (by assumption) (by assumption)) ?_
  refine W_aload_n d_27_32 rfl (ow_ne (by assumption) (by assumption)) ?_
  refine W_aload_n d_27_33 rfl (ow_ne (by assumption) (by assumption)) ?_
  refine W_getf d_27_34 o_27 k_2_24 (h_owner (by assumption) (by assumption)) rfl ?_
  refine W_putf d_27_37 o_27 k_2_24 (h_owner (by assumption) (by assumption)) (Nat.le_of_ble_eq_true rfl) rfl (ms_ow3 (by assumption) (by assumption)) ?_
  refine W_aload_n d_27_40 rfl (ow_ne (by assumption) (by assumption)) ?_
  refine W_aload_n d_27_41 rfl (ow_ne (by assumption) (by assumption)) ?_
  refine W_getf d_27_42 o_27 k_2_27 (h_owner (by assumption) (by assumption)) rfl ?_
  refine W_putf d_27_45 o_27 k_2_27 (h_owner (by assumption) (by assumption)) (Nat.le_of_ble_eq_true rfl) rfl (ms_ow4 (by assumption) (by assumption)) ?_
  refine W_aload_n d_27_48 rfl (ow_ne (by assumption) (by assumption)) ?_
  refine W_aload_n d_27_49 rfl (ow_ne (by assumption) (by assumption)) ?_
  refine W_getf d_27_50 o_27 k_2_30 (h_owner (by assumption) (by assumption)) rfl ?_
  refine W_putf d_27_53 o_27 k_2_30 (h_owner (by assumption) (by assumption)) (Nat.le_of_ble_eq_true rfl) rfl (ms_ow6 (by assumption) (by assumption)) ?_
  refine W_ret d_27_56 rt_27 ?_
  refine ⟨rfl, ?_⟩
  unfold owB
  simp [u3_ap]
def onum (R : tR) (j : Nat) (what : Int32) : Int32 := if what = 0 then R 2 j else if what = 1 then R 3 j else if what = 2 then R 4 j else if what = 3 then R 5 j else if what = 4 then R 6 j else if what = 5 then R 0 j else R 1 j
theorem x_28 {d : Nat} {g : mG} {N : Nat} {A T K : Nat → tR} {B : tR} {E : Nat → Int32} {l : Int64} {G : tR} {Qm : Nat → mC} {r j : Nat} (hr : r < 3) (hj : j < 12) {what : Int32} : Ex d 28 [.ref (rb r + 6 + j), .int what] (N, H3 g (cc A T K B E l G) Qm) (some (.int (onum (A r) j what))) (N, H3 g (cc A T K B E l G) Qm) := by
  refine Ex.of ?_
  show Wp _ 28 0 [.ref (rb r + 6 + j), .int what] [] _ _
  refine W_iload_n d_28_0 rfl ?_
  by_cases s1_0 : what = 0
  · refine W_table (tgt := 40) d_28_1 (off := 39) (by rw [s1_0]; decide) (by decide) ?_
    refine W_aload_n d_28_40 rfl (ow_ne (by assumption) (by assumption)) ?_
    refine W_getf d_28_41 o_28 k_2_21 (h_owner (by assumption) (by assumption)) rfl ?_
    refine W_iret d_28_44 rt_28 rfl ?_
    exact ⟨congrArg (fun z => some (Value.int z)) (by unfold onum; simp [*]), rfl⟩
  by_cases s1_1 : what = 1
  · refine W_table (tgt := 45) d_28_1 (off := 44) (by rw [s1_1]; decide) (by decide) ?_
    refine W_aload_n d_28_45 rfl (ow_ne (by assumption) (by assumption)) ?_
    refine W_getf d_28_46 o_28 k_2_24 (h_owner (by assumption) (by assumption)) rfl ?_
    refine W_iret d_28_49 rt_28 rfl ?_
    exact ⟨congrArg (fun z => some (Value.int z)) (by unfold onum; simp [*]), rfl⟩
  by_cases s1_2 : what = 2
  · refine W_table (tgt := 50) d_28_1 (off := 49) (by rw [s1_2]; decide) (by decide) ?_
    refine W_aload_n d_28_50 rfl (ow_ne (by assumption) (by assumption)) ?_
    refine W_getf d_28_51 o_28 k_2_27 (h_owner (by assumption) (by assumption)) rfl ?_
    refine W_iret d_28_54 rt_28 rfl ?_
    exact ⟨congrArg (fun z => some (Value.int z)) (by unfold onum; simp [*]), rfl⟩
  by_cases s1_3 : what = 3
  · refine W_table (tgt := 55) d_28_1 (off := 54) (by rw [s1_3]; decide) (by decide) ?_
    refine W_aload_n d_28_55 rfl (ow_ne (by assumption) (by assumption)) ?_
    refine W_getf d_28_56 o_28 k_2_18 (h_owner (by assumption) (by assumption)) rfl ?_
    refine W_iret d_28_59 rt_28 rfl ?_
    exact ⟨congrArg (fun z => some (Value.int z)) (by unfold onum; simp [*]), rfl⟩
  by_cases s1_4 : what = 4
  · refine W_table (tgt := 60) d_28_1 (off := 59) (by rw [s1_4]; decide) (by decide) ?_
    refine W_aload_n d_28_60 rfl (ow_ne (by assumption) (by assumption)) ?_
    refine W_getf d_28_61 o_28 k_2_30 (h_owner (by assumption) (by assumption)) rfl ?_
    refine W_iret d_28_64 rt_28 rfl ?_
    exact ⟨congrArg (fun z => some (Value.int z)) (by unfold onum; simp [*]), rfl⟩
  by_cases s1_5 : what = 5
  · refine W_table (tgt := 65) d_28_1 (off := 64) (by rw [s1_5]; decide) (by decide) ?_
    refine W_aload_n d_28_65 rfl (ow_ne (by assumption) (by assumption)) ?_
    refine W_getf d_28_66 o_28 k_2_9 (h_owner (by assumption) (by assumption)) rfl ?_
    refine W_iret d_28_69 rt_28 rfl ?_
    exact ⟨congrArg (fun z => some (Value.int z)) (by unfold onum; simp [*]), rfl⟩
  refine W_table (tgt := 70) d_28_1 (off := 69) (if_pos (by have q0 := lv_neT (a := 0) s1_0 (by decide); have q1 := lv_neT (a := 1) s1_1 (by decide); have q2 := lv_neT (a := 2) s1_2 (by decide); have q3 := lv_neT (a := 3) s1_3 (by decide); have q4 := lv_neT (a := 4) s1_4 (by decide); have q5 := lv_neT (a := 5) s1_5 (by decide); omega)) (by decide) ?_
  refine W_aload_n d_28_70 rfl (ow_ne (by assumption) (by assumption)) ?_
  refine W_getf d_28_71 o_28 k_2_15 (h_owner (by assumption) (by assumption)) rfl ?_
  refine W_iret d_28_74 rt_28 rfl ?_
  exact ⟨congrArg (fun z => some (Value.int z)) (by unfold onum; simp [*]), rfl⟩
def ochg (A : Nat → tR) (r j : Nat) (what v : Int32) : Nat → tR := if what = 0 then u3 A r 2 j v else if what = 1 then u3 A r 3 j v else if what = 2 then u3 A r 4 j v else if what = 3 then u3 A r 5 j v else if what = 4 then u3 A r 6 j v else if what = 5 then u3 A r 0 j v else u3 A r 1 j v
theorem x_29 {d : Nat} {g : mG} {N : Nat} {A T K : Nat → tR} {B : tR} {E : Nat → Int32} {l : Int64} {G : tR} {Qm : Nat → mC} {r j : Nat} (hr : r < 3) (hj : j < 12) {what v : Int32} : Ex d 29 [.ref (rb r + 6 + j), .int what, .int v] (N, H3 g (cc A T K B E l G) Qm) none (N, H3 g (cc (ochg A r j what v) T K B E l G) Qm) := by
  refine Ex.of ?_
  show Wp _ 29 0 [.ref (rb r + 6 + j), .int what, .int v] [] _ _
  refine W_iload_n d_29_0 rfl ?_
  by_cases s1_0 : what = 0
  · refine W_table (tgt := 40) d_29_1 (off := 39) (by rw [s1_0]; decide) (by decide) ?_
    refine W_aload_n d_29_40 rfl (ow_ne (by assumption) (by assumption)) ?_
    refine W_iload_n d_29_41 rfl ?_
    refine W_putf d_29_42 o_29 k_2_21 (h_owner (by assumption) (by assumption)) (Nat.le_of_ble_eq_true rfl) rfl (ms_ow2 (by assumption) (by assumption)) ?_
    refine W_goto (tgt := 93) d_29_45 (by decide) ?_
    refine W_ret d_29_93 rt_29 ?_
    refine ⟨rfl, ?_⟩
    unfold ochg
    simp [*]
  by_cases s1_1 : what = 1
  · refine W_table (tgt := 48) d_29_1 (off := 47) (by rw [s1_1]; decide) (by decide) ?_
    refine W_aload_n d_29_48 rfl (ow_ne (by assumption) (by assumption)) ?_
    refine W_iload_n d_29_49 rfl ?_
    refine W_putf d_29_50 o_29 k_2_24 (h_owner (by assumption) (by assumption)) (Nat.le_of_ble_eq_true rfl) rfl (ms_ow3 (by assumption) (by assumption)) ?_
    refine W_goto (tgt := 93) d_29_53 (by decide) ?_
    refine W_ret d_29_93 rt_29 ?_
    refine ⟨rfl, ?_⟩
    unfold ochg
    simp [*]
  by_cases s1_2 : what = 2
  · refine W_table (tgt := 56) d_29_1 (off := 55) (by rw [s1_2]; decide) (by decide) ?_
    refine W_aload_n d_29_56 rfl (ow_ne (by assumption) (by assumption)) ?_
    refine W_iload_n d_29_57 rfl ?_
    refine W_putf d_29_58 o_29 k_2_27 (h_owner (by assumption) (by assumption)) (Nat.le_of_ble_eq_true rfl) rfl (ms_ow4 (by assumption) (by assumption)) ?_
    refine W_goto (tgt := 93) d_29_61 (by decide) ?_
    refine W_ret d_29_93 rt_29 ?_
    refine ⟨rfl, ?_⟩
    unfold ochg
    simp [*]
  by_cases s1_3 : what = 3
  · refine W_table (tgt := 64) d_29_1 (off := 63) (by rw [s1_3]; decide) (by decide) ?_
    refine W_aload_n d_29_64 rfl (ow_ne (by assumption) (by assumption)) ?_
    refine W_iload_n d_29_65 rfl ?_
    refine W_putf d_29_66 o_29 k_2_18 (h_owner (by assumption) (by assumption)) (Nat.le_of_ble_eq_true rfl) rfl (ms_ow5 (by assumption) (by assumption)) ?_
    refine W_goto (tgt := 93) d_29_69 (by decide) ?_
    refine W_ret d_29_93 rt_29 ?_
    refine ⟨rfl, ?_⟩
    unfold ochg
    simp [*]
  by_cases s1_4 : what = 4
  · refine W_table (tgt := 72) d_29_1 (off := 71) (by rw [s1_4]; decide) (by decide) ?_
    refine W_aload_n d_29_72 rfl (ow_ne (by assumption) (by assumption)) ?_
    refine W_iload_n d_29_73 rfl ?_
    refine W_putf d_29_74 o_29 k_2_30 (h_owner (by assumption) (by assumption)) (Nat.le_of_ble_eq_true rfl) rfl (ms_ow6 (by assumption) (by assumption)) ?_
    refine W_goto (tgt := 93) d_29_77 (by decide) ?_
    refine W_ret d_29_93 rt_29 ?_
    refine ⟨rfl, ?_⟩
    unfold ochg
    simp [*]
  by_cases s1_5 : what = 5
  · refine W_table (tgt := 80) d_29_1 (off := 79) (by rw [s1_5]; decide) (by decide) ?_
    refine W_aload_n d_29_80 rfl (ow_ne (by assumption) (by assumption)) ?_
    refine W_iload_n d_29_81 rfl ?_
    refine W_putf d_29_82 o_29 k_2_9 (h_owner (by assumption) (by assumption)) (Nat.le_of_ble_eq_true rfl) rfl (ms_ow0 (by assumption) (by assumption)) ?_
    refine W_goto (tgt := 93) d_29_85 (by decide) ?_
    refine W_ret d_29_93 rt_29 ?_
    refine ⟨rfl, ?_⟩
    unfold ochg
    simp [*]
  refine W_table (tgt := 88) d_29_1 (off := 87) (if_pos (by have q0 := lv_neT (a := 0) s1_0 (by decide); have q1 := lv_neT (a := 1) s1_1 (by decide); have q2 := lv_neT (a := 2) s1_2 (by decide); have q3 := lv_neT (a := 3) s1_3 (by decide); have q4 := lv_neT (a := 4) s1_4 (by decide); have q5 := lv_neT (a := 5) s1_5 (by decide); omega)) (by decide) ?_
  refine W_aload_n d_29_88 rfl (ow_ne (by assumption) (by assumption)) ?_
  refine W_iload_n d_29_89 rfl ?_
  refine W_putf d_29_90 o_29 k_2_15 (h_owner (by assumption) (by assumption)) (Nat.le_of_ble_eq_true rfl) rfl (ms_ow1 (by assumption) (by assumption)) ?_
  refine W_ret d_29_93 rt_29 ?_
  refine ⟨rfl, ?_⟩
  unfold ochg
  simp [*]
theorem x_30 {d : Nat} {g : mG} {N : Nat} {A T K : Nat → tR} {B : tR} {E : Nat → Int32} {l : Int64} {G : tR} {Qm : Nat → mC} {r j : Nat} (hr : r < 3) (hj : j < 12) (hd : 1 ≤ d) {v : Int32} : Ex d 30 [.ref (rb r + 6 + j), .int v] (N, H3 g (cc A T K B E l G) Qm) (some (.int (i_min (A r 4 j) v))) (N, H3 g (cc (u3 A r 2 j (i_min 999 (A r 2 j + v - i_min (A r 4 j) v))) T K B E l G) Qm) := by
  refine Ex.of ?_
  show Wp _ 30 0 [.ref (rb r + 6 + j), .int v, .null] [] _ _
  refine W_aload_n d_30_0 rfl (ow_ne (by assumption) (by assumption)) ?_
  refine W_getf d_30_1 o_30 k_2_27 (h_owner (by assumption) (by assumption)) rfl ?_
  refine W_iload_n d_30_4 rfl ?_
  refine W_callS d_30_5 o_30 k_2_33 (by omega) x_14 rfl (Nat.le_of_ble_eq_true rfl) ?_
  refine W_istore_n d_30_8 rfl ?_
  refine W_aload_n d_30_9 rfl (ow_ne (by assumption) (by assumption)) ?_
  refine W_sipush d_30_10 (v := 999) (by decide) ?_
  refine W_aload_n d_30_13 rfl (ow_ne (by assumption) (by assumption)) ?_
  refine W_getf d_30_14 o_30 k_2_21 (h_owner (by assumption) (by assumption)) rfl ?_
  refine W_iload_n d_30_17 rfl ?_
  refine W_iadd d_30_18 ?_
  refine W_iload_n d_30_19 rfl ?_
  refine W_isub d_30_20 ?_
  refine W_callS d_30_21 o_30 k_2_33 (by omega) x_14 rfl (Nat.le_of_ble_eq_true rfl) ?_
  refine W_putf d_30_24 o_30 k_2_21 (h_owner (by assumption) (by assumption)) (Nat.le_of_ble_eq_true rfl) rfl (ms_ow2 (by assumption) (by assumption)) ?_
  refine W_iload_n d_30_27 rfl ?_
  refine W_iret d_30_28 rt_30 rfl ?_
  exact ⟨rfl, rfl⟩
def otk (k m v : Int32) : Int32 := if k = 1 then i_max 1 (v / 2) else if k = 3 then i_max 1 (v / 2 - m) else if k = 4 then v + 2 else if k = 5 then i_max 1 (v * 2) else i_max 1 v
theorem x_32 {d : Nat} {g : mG} {N : Nat} {A T K : Nat → tR} {B : tR} {E : Nat → Int32} {l : Int64} {G : tR} {Qm : Nat → mC} {r j : Nat} (hr : r < 3) (hj : j < 12) (hd : 1 ≤ d) {v : Int32} : Ex d 32 [.ref (rb r + 6 + j), .int v] (N, H3 g (cc A T K B E l G) Qm) (some (.int (otk (A r 0 j) (A r 1 j) v))) (N, H3 g (cc A T K B E l G) Qm) := by
  refine Ex.of ?_
  show Wp _ 32 0 [.ref (rb r + 6 + j), .int v] [] _ _
  refine W_aload_n d_32_0 rfl (ow_ne (by assumption) (by assumption)) ?_
  refine W_getf d_32_1 o_32 k_2_9 (h_owner (by assumption) (by assumption)) rfl ?_
  by_cases s4_1 : A r 0 j = 1
  · refine W_table (tgt := 40) d_32_4 (off := 36) (by rw [s4_1]; decide) (by decide) ?_
    refine W_iconst d_32_40 (v := 1) (by decide) ?_
    refine W_iload_n d_32_41 rfl ?_
    refine W_iconst d_32_42 (v := 2) (by decide) ?_
    refine W_idiv d_32_43 (by decide) ?_
    refine W_callS d_32_44 o_32 k_2_43 (by omega) x_13 rfl (Nat.le_of_ble_eq_true rfl) ?_
    refine W_iret d_32_47 rt_32 rfl ?_
    exact ⟨congrArg (fun z => some (Value.int z)) (by unfold otk; simp [*]), rfl⟩
  by_cases s4_2 : A r 0 j = 2
  · refine W_table (tgt := 73) d_32_4 (off := 69) (by rw [s4_2]; decide) (by decide) ?_
    refine W_iconst d_32_73 (v := 1) (by decide) ?_
    refine W_iload_n d_32_74 rfl ?_
    refine W_callS d_32_75 o_32 k_2_43 (by omega) x_13 rfl (Nat.le_of_ble_eq_true rfl) ?_
    refine W_iret d_32_78 rt_32 rfl ?_
    exact ⟨congrArg (fun z => some (Value.int z)) (by unfold otk; simp [*]), rfl⟩
  by_cases s4_3 : A r 0 j = 3
  · refine W_table (tgt := 48) d_32_4 (off := 44) (by rw [s4_3]; decide) (by decide) ?_
    refine W_iconst d_32_48 (v := 1) (by decide) ?_
    refine W_iload_n d_32_49 rfl ?_
    refine W_iconst d_32_50 (v := 2) (by decide) ?_
    refine W_idiv d_32_51 (by decide) ?_
    refine W_aload_n d_32_52 rfl (ow_ne (by assumption) (by assumption)) ?_
    refine W_getf d_32_53 o_32 k_2_15 (h_owner (by assumption) (by assumption)) rfl ?_
    refine W_isub d_32_56 ?_
    refine W_callS d_32_57 o_32 k_2_43 (by omega) x_13 rfl (Nat.le_of_ble_eq_true rfl) ?_
    refine W_iret d_32_60 rt_32 rfl ?_
    exact ⟨congrArg (fun z => some (Value.int z)) (by unfold otk; simp [*]), rfl⟩
  by_cases s4_4 : A r 0 j = 4
  · refine W_table (tgt := 61) d_32_4 (off := 57) (by rw [s4_4]; decide) (by decide) ?_
    refine W_iload_n d_32_61 rfl ?_
    refine W_iconst d_32_62 (v := 2) (by decide) ?_
    refine W_iadd d_32_63 ?_
    refine W_iret d_32_64 rt_32 rfl ?_
    exact ⟨congrArg (fun z => some (Value.int z)) (by unfold otk; simp [*]), rfl⟩
  by_cases s4_5 : A r 0 j = 5
  · refine W_table (tgt := 65) d_32_4 (off := 61) (by rw [s4_5]; decide) (by decide) ?_
    refine W_iconst d_32_65 (v := 1) (by decide) ?_
    refine W_iload_n d_32_66 rfl ?_
    refine W_iconst d_32_67 (v := 2) (by decide) ?_
    refine W_imul d_32_68 ?_
    refine W_callS d_32_69 o_32 k_2_43 (by omega) x_13 rfl (Nat.le_of_ble_eq_true rfl) ?_
    refine W_iret d_32_72 rt_32 rfl ?_
    exact ⟨congrArg (fun z => some (Value.int z)) (by unfold otk; simp [*]), rfl⟩
  refine W_table (tgt := 73) d_32_4 (off := 69) (if_pos (by have q1 := lv_neT (a := 1) s4_1 (by decide); have q2 := lv_neT (a := 2) s4_2 (by decide); have q3 := lv_neT (a := 3) s4_3 (by decide); have q4 := lv_neT (a := 4) s4_4 (by decide); have q5 := lv_neT (a := 5) s4_5 (by decide); omega)) (by decide) ?_
  refine W_iconst d_32_73 (v := 1) (by decide) ?_
  refine W_iload_n d_32_74 rfl ?_
  refine W_callS d_32_75 o_32 k_2_43 (by omega) x_13 rfl (Nat.le_of_ble_eq_true rfl) ?_
  refine W_iret d_32_78 rt_32 rfl ?_
  exact ⟨congrArg (fun z => some (Value.int z)) (by unfold otk; simp [*]), rfl⟩
def otb (k m h : Int32) : Bool := decide (k = 2 ∨ (k = 3 ∧ 20 * m + 20 < h) ∨ (k = 4 ∧ 10 * m ≤ h))
theorem x_33 {d : Nat} {g : mG} {N : Nat} {A T K : Nat → tR} {B : tR} {E : Nat → Int32} {l : Int64} {G : tR} {Qm : Nat → mC} {r j : Nat} (hr : r < 3) (hj : j < 12) : Ex d 33 [.ref (rb r + 6 + j)] (N, H3 g (cc A T K B E l G) Qm) (some (.int (bI (otb (A r 0 j) (A r 1 j) (A r 3 j))))) (N, H3 g (cc A T K B E l G) Qm) := by
  refine Ex.of ?_
  show Wp _ 33 0 [.ref (rb r + 6 + j)] [] _ _
  refine W_aload_n d_33_0 rfl (ow_ne (by assumption) (by assumption)) ?_
  refine W_getf d_33_1 o_33 k_2_9 (h_owner (by assumption) (by assumption)) rfl ?_
  by_cases s4_2 : A r 0 j = 2
  · refine W_table (tgt := 32) d_33_4 (off := 28) (by rw [s4_2]; decide) (by decide) ?_
    refine W_iconst d_33_32 (v := 1) (by decide) ?_
    refine W_iret d_33_33 rt_33 rfl ?_
    first | exact ⟨congrArg (fun z => some (Value.int z)) (bI_1 (by simp_all [Int32.not_lt, Int32.not_le])), rfl⟩ | exact ⟨congrArg (fun z => some (Value.int z)) (bI_0 (by simp_all [Int32.not_lt, Int32.not_le])), rfl⟩
  by_cases s4_3 : A r 0 j = 3
  · refine W_table (tgt := 34) d_33_4 (off := 30) (by rw [s4_3]; decide) (by decide) ?_
    refine W_aload_n d_33_34 rfl (ow_ne (by assumption) (by assumption)) ?_
    refine W_getf d_33_35 o_33 k_2_24 (h_owner (by assumption) (by assumption)) rfl ?_
    refine W_bipush d_33_38 (v := 20) (by decide) ?_
    refine W_aload_n d_33_40 rfl (ow_ne (by assumption) (by assumption)) ?_
    refine W_getf d_33_41 o_33 k_2_15 (h_owner (by assumption) (by assumption)) rfl ?_
    refine W_imul d_33_44 ?_
    refine W_bipush d_33_45 (v := 20) (by decide) ?_
    refine W_iadd d_33_47 ?_
    refine W_icmp_le (tgt := 55) d_33_48 (by decide) (fun h48 => ?_) (fun h48 => ?_)
    · refine W_iconst d_33_55 (v := 0) (by decide) ?_
      refine W_iret d_33_56 rt_33 rfl ?_
      first | exact ⟨congrArg (fun z => some (Value.int z)) (bI_1 (by simp_all [Int32.not_lt, Int32.not_le])), rfl⟩ | exact ⟨congrArg (fun z => some (Value.int z)) (bI_0 (by simp_all [Int32.not_lt, Int32.not_le])), rfl⟩
    · refine W_iconst d_33_51 (v := 1) (by decide) ?_
      refine W_goto (tgt := 56) d_33_52 (by decide) ?_
      refine W_iret d_33_56 rt_33 rfl ?_
      first | exact ⟨congrArg (fun z => some (Value.int z)) (bI_1 (by simp_all [Int32.not_lt, Int32.not_le])), rfl⟩ | exact ⟨congrArg (fun z => some (Value.int z)) (bI_0 (by simp_all [Int32.not_lt, Int32.not_le])), rfl⟩
  by_cases s4_4 : A r 0 j = 4
  · refine W_table (tgt := 57) d_33_4 (off := 53) (by rw [s4_4]; decide) (by decide) ?_
    refine W_aload_n d_33_57 rfl (ow_ne (by assumption) (by assumption)) ?_
    refine W_getf d_33_58 o_33 k_2_24 (h_owner (by assumption) (by assumption)) rfl ?_
    refine W_bipush d_33_61 (v := 10) (by decide) ?_
    refine W_aload_n d_33_63 rfl (ow_ne (by assumption) (by assumption)) ?_
    refine W_getf d_33_64 o_33 k_2_15 (h_owner (by assumption) (by assumption)) rfl ?_
    refine W_imul d_33_67 ?_
    refine W_icmp_lt (tgt := 75) d_33_68 (by decide) (fun h68 => ?_) (fun h68 => ?_)
    · refine W_iconst d_33_75 (v := 0) (by decide) ?_
      refine W_iret d_33_76 rt_33 rfl ?_
      first | exact ⟨congrArg (fun z => some (Value.int z)) (bI_1 (by simp_all [Int32.not_lt, Int32.not_le])), rfl⟩ | exact ⟨congrArg (fun z => some (Value.int z)) (bI_0 (by simp_all [Int32.not_lt, Int32.not_le])), rfl⟩
    · refine W_iconst d_33_71 (v := 1) (by decide) ?_
      refine W_goto (tgt := 76) d_33_72 (by decide) ?_
      refine W_iret d_33_76 rt_33 rfl ?_
      first | exact ⟨congrArg (fun z => some (Value.int z)) (bI_1 (by simp_all [Int32.not_lt, Int32.not_le])), rfl⟩ | exact ⟨congrArg (fun z => some (Value.int z)) (bI_0 (by simp_all [Int32.not_lt, Int32.not_le])), rfl⟩
  refine W_table (tgt := 77) d_33_4 (off := 73) (if_pos (by have q2 := lv_neT (a := 2) s4_2 (by decide); have q3 := lv_neT (a := 3) s4_3 (by decide); have q4 := lv_neT (a := 4) s4_4 (by decide); omega)) (by decide) ?_
  refine W_iconst d_33_77 (v := 0) (by decide) ?_
  refine W_iret d_33_78 rt_33 rfl ?_
  first | exact ⟨congrArg (fun z => some (Value.int z)) (bI_1 (by simp_all [Int32.not_lt, Int32.not_le])), rfl⟩ | exact ⟨congrArg (fun z => some (Value.int z)) (bI_0 (by simp_all [Int32.not_lt, Int32.not_le])), rfl⟩
def i_mod (a b : Int32) : Int32 := a - a / b * b
def ocm (k m at0 hr : Int32) : Bool := decide (if k = 1 ∨ k = 3 then i_mod hr 24 = at0 ∨ i_mod hr 24 = i_mod (at0 + 6) 24 else if k = 5 then i_mod hr 24 = at0 ∧ i_mod (hr / 24) 2 = i_mod m 2 else i_mod hr 24 = at0)
theorem x_34 {d : Nat} {g : mG} {N : Nat} {A T K : Nat → tR} {B : tR} {E : Nat → Int32} {l : Int64} {G : tR} {Qm : Nat → mC} {r j : Nat} (hr : r < 3) (hj : j < 12) {h : Int32} : Ex d 34 [.ref (rb r + 6 + j), .int h] (N, H3 g (cc A T K B E l G) Qm) (some (.int (bI (ocm (A r 0 j) (A r 1 j) (A r 5 j) h)))) (N, H3 g (cc A T K B E l G) Qm) := by
  refine Ex.of ?_
  show Wp _ 34 0 [.ref (rb r + 6 + j), .int h, .null] [] _ _
  refine W_iload_n d_34_0 rfl ?_
  refine W_bipush d_34_1 (v := 24) (by decide) ?_
  refine W_irem d_34_3 (by decide) ?_
  refine W_aload_n d_34_4 rfl (ow_ne (by assumption) (by assumption)) ?_
  refine W_getf d_34_5 o_34 k_2_18 (h_owner (by assumption) (by assumption)) rfl ?_
  refine W_icmp_ne (tgt := 15) d_34_8 (by decide) (fun h8 => ?_) (fun h8 => ?_)
  · refine W_iconst d_34_15 (v := 0) (by decide) ?_
    refine W_istore_n d_34_16 rfl ?_
    refine W_aload_n d_34_17 rfl (ow_ne (by assumption) (by assumption)) ?_
    refine W_getf d_34_18 o_34 k_2_9 (h_owner (by assumption) (by assumption)) rfl ?_
    by_cases s21_1 : A r 0 j = 1
    · refine W_table (tgt := 56) d_34_21 (off := 35) (by rw [s21_1]; decide) (by decide) ?_
      refine W_iload_n d_34_56 rfl ?_
      refine W_if_ne (tgt := 77) d_34_57 (by decide) (fun h57 => absurd h57 (by decide)) (fun _ => ?_)
      refine W_iload_n d_34_60 rfl ?_
      refine W_bipush d_34_61 (v := 24) (by decide) ?_
      refine W_irem d_34_63 (by decide) ?_
      refine W_aload_n d_34_64 rfl (ow_ne (by assumption) (by assumption)) ?_
      refine W_getf d_34_65 o_34 k_2_18 (h_owner (by assumption) (by assumption)) rfl ?_
      refine W_bipush d_34_68 (v := 6) (by decide) ?_
      refine W_iadd d_34_70 ?_
      refine W_bipush d_34_71 (v := 24) (by decide) ?_
      refine W_irem d_34_73 (by decide) ?_
      refine W_icmp_ne (tgt := 81) d_34_74 (by decide) (fun h74 => ?_) (fun h74 => ?_)
      · refine W_iconst d_34_81 (v := 0) (by decide) ?_
        refine W_iret d_34_82 rt_34 (by first | rfl | exact bI_nz) ?_
        first | exact ⟨congrArg (fun z => some (Value.int z)) (bI_1 (by simp_all [i_mod])), rfl⟩ | exact ⟨congrArg (fun z => some (Value.int z)) (bI_0 (by simp_all [i_mod])), rfl⟩
      · refine W_iconst d_34_77 (v := 1) (by decide) ?_
        refine W_goto (tgt := 82) d_34_78 (by decide) ?_
        refine W_iret d_34_82 rt_34 (by first | rfl | exact bI_nz) ?_
        first | exact ⟨congrArg (fun z => some (Value.int z)) (bI_1 (by simp_all [i_mod])), rfl⟩ | exact ⟨congrArg (fun z => some (Value.int z)) (bI_0 (by simp_all [i_mod])), rfl⟩
    by_cases s21_2 : A r 0 j = 2
    · refine W_table (tgt := 108) d_34_21 (off := 87) (by rw [s21_2]; decide) (by decide) ?_
      refine W_iload_n d_34_108 rfl ?_
      refine W_iret d_34_109 rt_34 (by first | rfl | exact bI_nz) ?_
      first | exact ⟨congrArg (fun z => some (Value.int z)) (bI_1 (by simp_all [i_mod])), rfl⟩ | exact ⟨congrArg (fun z => some (Value.int z)) (bI_0 (by simp_all [i_mod])), rfl⟩
    by_cases s21_3 : A r 0 j = 3
    · refine W_table (tgt := 56) d_34_21 (off := 35) (by rw [s21_3]; decide) (by decide) ?_
      refine W_iload_n d_34_56 rfl ?_
      refine W_if_ne (tgt := 77) d_34_57 (by decide) (fun h57 => absurd h57 (by decide)) (fun _ => ?_)
      refine W_iload_n d_34_60 rfl ?_
      refine W_bipush d_34_61 (v := 24) (by decide) ?_
      refine W_irem d_34_63 (by decide) ?_
      refine W_aload_n d_34_64 rfl (ow_ne (by assumption) (by assumption)) ?_
      refine W_getf d_34_65 o_34 k_2_18 (h_owner (by assumption) (by assumption)) rfl ?_
      refine W_bipush d_34_68 (v := 6) (by decide) ?_
      refine W_iadd d_34_70 ?_
      refine W_bipush d_34_71 (v := 24) (by decide) ?_
      refine W_irem d_34_73 (by decide) ?_
      refine W_icmp_ne (tgt := 81) d_34_74 (by decide) (fun h74 => ?_) (fun h74 => ?_)
      · refine W_iconst d_34_81 (v := 0) (by decide) ?_
        refine W_iret d_34_82 rt_34 (by first | rfl | exact bI_nz) ?_
        first | exact ⟨congrArg (fun z => some (Value.int z)) (bI_1 (by simp_all [i_mod])), rfl⟩ | exact ⟨congrArg (fun z => some (Value.int z)) (bI_0 (by simp_all [i_mod])), rfl⟩
      · refine W_iconst d_34_77 (v := 1) (by decide) ?_
        refine W_goto (tgt := 82) d_34_78 (by decide) ?_
        refine W_iret d_34_82 rt_34 (by first | rfl | exact bI_nz) ?_
        first | exact ⟨congrArg (fun z => some (Value.int z)) (bI_1 (by simp_all [i_mod])), rfl⟩ | exact ⟨congrArg (fun z => some (Value.int z)) (bI_0 (by simp_all [i_mod])), rfl⟩
    by_cases s21_4 : A r 0 j = 4
    · refine W_table (tgt := 108) d_34_21 (off := 87) (by rw [s21_4]; decide) (by decide) ?_
      refine W_iload_n d_34_108 rfl ?_
      refine W_iret d_34_109 rt_34 (by first | rfl | exact bI_nz) ?_
      first | exact ⟨congrArg (fun z => some (Value.int z)) (bI_1 (by simp_all [i_mod])), rfl⟩ | exact ⟨congrArg (fun z => some (Value.int z)) (bI_0 (by simp_all [i_mod])), rfl⟩
    by_cases s21_5 : A r 0 j = 5
    · refine W_table (tgt := 83) d_34_21 (off := 62) (by rw [s21_5]; decide) (by decide) ?_
      refine W_iload_n d_34_83 rfl ?_
      refine W_if_eq (tgt := 106) d_34_84 (by decide) (fun _ => ?_) (fun h84 => absurd h84 (by decide))
      refine W_iconst d_34_106 (v := 0) (by decide) ?_
      refine W_iret d_34_107 rt_34 (by first | rfl | exact bI_nz) ?_
      first | exact ⟨congrArg (fun z => some (Value.int z)) (bI_1 (by simp_all [i_mod])), rfl⟩ | exact ⟨congrArg (fun z => some (Value.int z)) (bI_0 (by simp_all [i_mod])), rfl⟩
    refine W_table (tgt := 108) d_34_21 (off := 87) (if_pos (by have q1 := lv_neT (a := 1) s21_1 (by decide); have q2 := lv_neT (a := 2) s21_2 (by decide); have q3 := lv_neT (a := 3) s21_3 (by decide); have q4 := lv_neT (a := 4) s21_4 (by decide); have q5 := lv_neT (a := 5) s21_5 (by decide); omega)) (by decide) ?_
    refine W_iload_n d_34_108 rfl ?_
    refine W_iret d_34_109 rt_34 (by first | rfl | exact bI_nz) ?_
    first | exact ⟨congrArg (fun z => some (Value.int z)) (bI_1 (by simp_all [i_mod])), rfl⟩ | exact ⟨congrArg (fun z => some (Value.int z)) (bI_0 (by simp_all [i_mod])), rfl⟩
  · refine W_iconst d_34_11 (v := 1) (by decide) ?_
    refine W_goto (tgt := 16) d_34_12 (by decide) ?_
    refine W_istore_n d_34_16 rfl ?_
    refine W_aload_n d_34_17 rfl (ow_ne (by assumption) (by assumption)) ?_
    refine W_getf d_34_18 o_34 k_2_9 (h_owner (by assumption) (by assumption)) rfl ?_
    by_cases s21_1 : A r 0 j = 1
    · refine W_table (tgt := 56) d_34_21 (off := 35) (by rw [s21_1]; decide) (by decide) ?_
      refine W_iload_n d_34_56 rfl ?_
      refine W_if_ne (tgt := 77) d_34_57 (by decide) (fun _ => ?_) (fun h57 => absurd h57 (by decide))
      refine W_iconst d_34_77 (v := 1) (by decide) ?_
      refine W_goto (tgt := 82) d_34_78 (by decide) ?_
      refine W_iret d_34_82 rt_34 (by first | rfl | exact bI_nz) ?_
      first | exact ⟨congrArg (fun z => some (Value.int z)) (bI_1 (by simp_all [i_mod])), rfl⟩ | exact ⟨congrArg (fun z => some (Value.int z)) (bI_0 (by simp_all [i_mod])), rfl⟩
    by_cases s21_2 : A r 0 j = 2
    · refine W_table (tgt := 108) d_34_21 (off := 87) (by rw [s21_2]; decide) (by decide) ?_
      refine W_iload_n d_34_108 rfl ?_
      refine W_iret d_34_109 rt_34 (by first | rfl | exact bI_nz) ?_
      first | exact ⟨congrArg (fun z => some (Value.int z)) (bI_1 (by simp_all [i_mod])), rfl⟩ | exact ⟨congrArg (fun z => some (Value.int z)) (bI_0 (by simp_all [i_mod])), rfl⟩
    by_cases s21_3 : A r 0 j = 3
    · refine W_table (tgt := 56) d_34_21 (off := 35) (by rw [s21_3]; decide) (by decide) ?_
      refine W_iload_n d_34_56 rfl ?_
      refine W_if_ne (tgt := 77) d_34_57 (by decide) (fun _ => ?_) (fun h57 => absurd h57 (by decide))
      refine W_iconst d_34_77 (v := 1) (by decide) ?_
      refine W_goto (tgt := 82) d_34_78 (by decide) ?_
      refine W_iret d_34_82 rt_34 (by first | rfl | exact bI_nz) ?_
      first | exact ⟨congrArg (fun z => some (Value.int z)) (bI_1 (by simp_all [i_mod])), rfl⟩ | exact ⟨congrArg (fun z => some (Value.int z)) (bI_0 (by simp_all [i_mod])), rfl⟩
    by_cases s21_4 : A r 0 j = 4
    · refine W_table (tgt := 108) d_34_21 (off := 87) (by rw [s21_4]; decide) (by decide) ?_
      refine W_iload_n d_34_108 rfl ?_
      refine W_iret d_34_109 rt_34 (by first | rfl | exact bI_nz) ?_
      first | exact ⟨congrArg (fun z => some (Value.int z)) (bI_1 (by simp_all [i_mod])), rfl⟩ | exact ⟨congrArg (fun z => some (Value.int z)) (bI_0 (by simp_all [i_mod])), rfl⟩
    by_cases s21_5 : A r 0 j = 5
    · refine W_table (tgt := 83) d_34_21 (off := 62) (by rw [s21_5]; decide) (by decide) ?_
      refine W_iload_n d_34_83 rfl ?_
      refine W_if_eq (tgt := 106) d_34_84 (by decide) (fun h84 => absurd h84 (by decide)) (fun _ => ?_)
      refine W_iload_n d_34_87 rfl ?_
      refine W_bipush d_34_88 (v := 24) (by decide) ?_
      refine W_idiv d_34_90 (by decide) ?_
      refine W_iconst d_34_91 (v := 2) (by decide) ?_
      refine W_irem d_34_92 (by decide) ?_
      refine W_aload_n d_34_93 rfl (ow_ne (by assumption) (by assumption)) ?_
      refine W_getf d_34_94 o_34 k_2_15 (h_owner (by assumption) (by assumption)) rfl ?_
      refine W_iconst d_34_97 (v := 2) (by decide) ?_
      refine W_irem d_34_98 (by decide) ?_
      refine W_icmp_ne (tgt := 106) d_34_99 (by decide) (fun h99 => ?_) (fun h99 => ?_)
      · refine W_iconst d_34_106 (v := 0) (by decide) ?_
        refine W_iret d_34_107 rt_34 (by first | rfl | exact bI_nz) ?_
        first | exact ⟨congrArg (fun z => some (Value.int z)) (bI_1 (by simp_all [i_mod])), rfl⟩ | exact ⟨congrArg (fun z => some (Value.int z)) (bI_0 (by simp_all [i_mod])), rfl⟩
      · refine W_iconst d_34_102 (v := 1) (by decide) ?_
        refine W_goto (tgt := 107) d_34_103 (by decide) ?_
        refine W_iret d_34_107 rt_34 (by first | rfl | exact bI_nz) ?_
        first | exact ⟨congrArg (fun z => some (Value.int z)) (bI_1 (by simp_all [i_mod])), rfl⟩ | exact ⟨congrArg (fun z => some (Value.int z)) (bI_0 (by simp_all [i_mod])), rfl⟩
    refine W_table (tgt := 108) d_34_21 (off := 87) (if_pos (by have q1 := lv_neT (a := 1) s21_1 (by decide); have q2 := lv_neT (a := 2) s21_2 (by decide); have q3 := lv_neT (a := 3) s21_3 (by decide); have q4 := lv_neT (a := 4) s21_4 (by decide); have q5 := lv_neT (a := 5) s21_5 (by decide); omega)) (by decide) ?_
    refine W_iload_n d_34_108 rfl ?_
    refine W_iret d_34_109 rt_34 (by first | rfl | exact bI_nz) ?_
    first | exact ⟨congrArg (fun z => some (Value.int z)) (bI_1 (by simp_all [i_mod])), rfl⟩ | exact ⟨congrArg (fun z => some (Value.int z)) (bI_0 (by simp_all [i_mod])), rfl⟩
theorem x_23 {d : Nat} {g : mG} {N : Nat} {A T K : Nat → tR} {B : tR} {E : Nat → Int32} {l : Int64} {G : tR} {Qm : Nat → mC} {v : Int32} : Ex d 23 [.ref 59, .int v] (N, H3 g (cc A T K B E l G) Qm) none (N, H3 g (cc A T K B E (v.toInt64 + 1) G) Qm) := by
  refine Ex.of ?_
  show Wp _ 23 0 [.ref 59, .int v] [] _ _
  refine W_aload_n d_23_0 rfl (by decide) ?_
  refine W_iload_n d_23_1 rfl ?_
  refine W_i2l d_23_2 ?_
  refine W_lconst d_23_3 (v := 1) (by decide) ?_
  refine W_ladd d_23_4 ?_
  refine W_putf d_23_5 o_23 k_1_7 rfl (Nat.le_of_ble_eq_true rfl) rfl ms_lots ?_
  refine W_ret d_23_8 rt_23 ?_
  exact ⟨rfl, rfl⟩
def l_mod (a b : Int64) : Int64 := a - a / b * b
def lnx (l : Int64) : Int64 := l_mod (l * 48271) 2147483647
theorem x_24 {d : Nat} {g : mG} {N : Nat} {A T K : Nat → tR} {B : tR} {E : Nat → Int32} {l : Int64} {G : tR} {Qm : Nat → mC} {m : Int32} (hm : ¬ (m + 1).toInt64 = 0) : Ex d 24 [.ref 59, .int m] (N, H3 g (cc A T K B E l G) Qm) (some (.int (l_mod (lnx l) (m + 1).toInt64).toInt32)) (N, H3 g (cc A T K B E (lnx l) G) Qm) := by
  refine Ex.of ?_
  show Wp _ 24 0 [.ref 59, .int m] [] _ _
  refine W_aload_n d_24_0 rfl (by decide) ?_
  refine W_aload_n d_24_1 rfl (by decide) ?_
  refine W_getf d_24_2 o_24 k_1_7 rfl rfl ?_
  refine W_ldc2 d_24_5 o_24 k_1_13 (v := 48271) (by decide) ?_
  refine W_lmul d_24_8 ?_
  refine W_ldc2 d_24_9 o_24 k_1_15 (v := 2147483647) (by decide) ?_
  refine W_lrem d_24_12 (by decide) ?_
  refine W_putf d_24_13 o_24 k_1_7 rfl (Nat.le_of_ble_eq_true rfl) rfl ms_lots ?_
  refine W_aload_n d_24_16 rfl (by decide) ?_
  refine W_getf d_24_17 o_24 k_1_7 rfl rfl ?_
  refine W_iload_n d_24_20 rfl ?_
  refine W_iconst d_24_21 (v := 1) (by decide) ?_
  refine W_iadd d_24_22 ?_
  refine W_i2l d_24_23 ?_
  refine W_lrem d_24_24 hm ?_
  refine W_l2i d_24_25 ?_
  refine W_iret d_24_26 rt_24 rfl ?_
  exact ⟨rfl, rfl⟩
theorem x_78 {d : Nat} {g : mG} {N : Nat} {A T K : Nat → tR} {B : tR} {E : Nat → Int32} {l : Int64} {G : tR} {Qm : Nat → mC} {s : Nat} (hs : s < 4) : Ex d 78 [.ref (sb s)] (N, H3 g (cc A T K B E l G) Qm) (some (.int (bI (decide (K s 1 0 = -1))))) (N, H3 g (cc A T K B E l G) Qm) := by
  refine Ex.of ?_
  show Wp _ 78 0 [.ref (sb s)] [] _ _
  refine W_aload_n d_78_0 rfl (sb_ne (by assumption)) ?_
  refine W_getf d_78_1 o_78 k_5_9 (h_sheet (by assumption)) rfl ?_
  refine W_iconst d_78_4 (v := (-1)) (by decide) ?_
  refine W_icmp_ne (tgt := 12) d_78_5 (by decide) (fun h5 => ?_) (fun h5 => ?_)
  · refine W_iconst d_78_12 (v := 0) (by decide) ?_
    refine W_iret d_78_13 rt_78 rfl ?_
    first | exact ⟨congrArg (fun z => some (Value.int z)) (bI_1 (by simp_all [Int32.not_lt, Int32.not_le])), rfl⟩ | exact ⟨congrArg (fun z => some (Value.int z)) (bI_0 (by simp_all [Int32.not_lt, Int32.not_le])), rfl⟩
  · refine W_iconst d_78_8 (v := 1) (by decide) ?_
    refine W_goto (tgt := 13) d_78_9 (by decide) ?_
    refine W_iret d_78_13 rt_78 rfl ?_
    first | exact ⟨congrArg (fun z => some (Value.int z)) (bI_1 (by simp_all [Int32.not_lt, Int32.not_le])), rfl⟩ | exact ⟨congrArg (fun z => some (Value.int z)) (bI_0 (by simp_all [Int32.not_lt, Int32.not_le])), rfl⟩
theorem x_80 {d : Nat} {g : mG} {N : Nat} {A T K : Nat → tR} {B : tR} {E : Nat → Int32} {l : Int64} {G : tR} {Qm : Nat → mC} {s : Nat} (hs : s < 4) {i : Int32} : Ex d 80 [.ref (sb s), .int i] (N, H3 g (cc A T K B E l G) Qm) (some (.int (bI (decide (0 ≤ i ∧ i < K s 1 1))))) (N, H3 g (cc A T K B E l G) Qm) := by
  refine Ex.of ?_
  show Wp _ 80 0 [.ref (sb s), .int i] [] _ _
  refine W_iload_n d_80_0 rfl ?_
  refine W_if_lt (tgt := 16) d_80_1 (by decide) (fun h1 => ?_) (fun h1 => ?_)
  · refine W_iconst d_80_16 (v := 0) (by decide) ?_
    refine W_iret d_80_17 rt_80 rfl ?_
    first | exact ⟨congrArg (fun z => some (Value.int z)) (bI_1 (by simp only [Int32.lt_iff_toInt_lt, Int32.le_iff_toInt_le] at *; simp at *; omega)), rfl⟩ | exact ⟨congrArg (fun z => some (Value.int z)) (bI_0 (by simp only [Int32.lt_iff_toInt_lt, Int32.le_iff_toInt_le] at *; simp at *; omega)), rfl⟩
  · refine W_iload_n d_80_4 rfl ?_
    refine W_aload_n d_80_5 rfl (sb_ne (by assumption)) ?_
    refine W_getf d_80_6 o_80 k_5_19 (h_sheet (by assumption)) rfl ?_
    refine W_icmp_ge (tgt := 16) d_80_9 (by decide) (fun h9 => ?_) (fun h9 => ?_)
    · refine W_iconst d_80_16 (v := 0) (by decide) ?_
      refine W_iret d_80_17 rt_80 rfl ?_
      first | exact ⟨congrArg (fun z => some (Value.int z)) (bI_1 (by simp only [Int32.lt_iff_toInt_lt, Int32.le_iff_toInt_le] at *; simp at *; omega)), rfl⟩ | exact ⟨congrArg (fun z => some (Value.int z)) (bI_0 (by simp only [Int32.lt_iff_toInt_lt, Int32.le_iff_toInt_le] at *; simp at *; omega)), rfl⟩
    · refine W_iconst d_80_12 (v := 1) (by decide) ?_
      refine W_goto (tgt := 17) d_80_13 (by decide) ?_
      refine W_iret d_80_17 rt_80 rfl ?_
      first | exact ⟨congrArg (fun z => some (Value.int z)) (bI_1 (by simp only [Int32.lt_iff_toInt_lt, Int32.le_iff_toInt_le] at *; simp at *; omega)), rfl⟩ | exact ⟨congrArg (fun z => some (Value.int z)) (bI_0 (by simp only [Int32.lt_iff_toInt_lt, Int32.le_iff_toInt_le] at *; simp at *; omega)), rfl⟩
theorem x_81 {d : Nat} {g : mG} {N : Nat} {A T K : Nat → tR} {B : tR} {E : Nat → Int32} {l : Int64} {G : tR} {Qm : Nat → mC} {s : Nat} (hs : s < 4) {i n : Int32} : Ex d 81 [.ref (sb s), .int i, .int n] (N, H3 g (cc A T K B E l G) Qm) (some (.int (bI (decide (0 ≤ i ∧ 0 ≤ n ∧ n ≤ K s 1 1 - i))))) (N, H3 g (cc A T K B E l G) Qm) := by
  refine Ex.of ?_
  show Wp _ 81 0 [.ref (sb s), .int i, .int n] [] _ _
  refine W_iload_n d_81_0 rfl ?_
  refine W_if_lt (tgt := 22) d_81_1 (by decide) (fun h1 => ?_) (fun h1 => ?_)
  · refine W_iconst d_81_22 (v := 0) (by decide) ?_
    refine W_iret d_81_23 rt_81 rfl ?_
    first | exact ⟨congrArg (fun z => some (Value.int z)) (bI_1 (by simp only [Int32.lt_iff_toInt_lt, Int32.le_iff_toInt_le, show (0 : Int32).toInt = 0 from rfl] at *; omega)), rfl⟩ | exact ⟨congrArg (fun z => some (Value.int z)) (bI_0 (by simp only [Int32.lt_iff_toInt_lt, Int32.le_iff_toInt_le, show (0 : Int32).toInt = 0 from rfl] at *; omega)), rfl⟩
  · refine W_iload_n d_81_4 rfl ?_
    refine W_if_lt (tgt := 22) d_81_5 (by decide) (fun h5 => ?_) (fun h5 => ?_)
    · refine W_iconst d_81_22 (v := 0) (by decide) ?_
      refine W_iret d_81_23 rt_81 rfl ?_
      first | exact ⟨congrArg (fun z => some (Value.int z)) (bI_1 (by simp only [Int32.lt_iff_toInt_lt, Int32.le_iff_toInt_le, show (0 : Int32).toInt = 0 from rfl] at *; omega)), rfl⟩ | exact ⟨congrArg (fun z => some (Value.int z)) (bI_0 (by simp only [Int32.lt_iff_toInt_lt, Int32.le_iff_toInt_le, show (0 : Int32).toInt = 0 from rfl] at *; omega)), rfl⟩
    · refine W_iload_n d_81_8 rfl ?_
      refine W_aload_n d_81_9 rfl (sb_ne (by assumption)) ?_
      refine W_getf d_81_10 o_81 k_5_19 (h_sheet (by assumption)) rfl ?_
      refine W_iload_n d_81_13 rfl ?_
      refine W_isub d_81_14 ?_
      refine W_icmp_gt (tgt := 22) d_81_15 (by decide) (fun h15 => ?_) (fun h15 => ?_)
      · refine W_iconst d_81_22 (v := 0) (by decide) ?_
        refine W_iret d_81_23 rt_81 rfl ?_
        first | exact ⟨congrArg (fun z => some (Value.int z)) (bI_1 (by simp only [Int32.lt_iff_toInt_lt, Int32.le_iff_toInt_le, show (0 : Int32).toInt = 0 from rfl] at *; omega)), rfl⟩ | exact ⟨congrArg (fun z => some (Value.int z)) (bI_0 (by simp only [Int32.lt_iff_toInt_lt, Int32.le_iff_toInt_le, show (0 : Int32).toInt = 0 from rfl] at *; omega)), rfl⟩
      · refine W_iconst d_81_18 (v := 1) (by decide) ?_
        refine W_goto (tgt := 23) d_81_19 (by decide) ?_
        refine W_iret d_81_23 rt_81 rfl ?_
        first | exact ⟨congrArg (fun z => some (Value.int z)) (bI_1 (by simp only [Int32.lt_iff_toInt_lt, Int32.le_iff_toInt_le, show (0 : Int32).toInt = 0 from rfl] at *; omega)), rfl⟩ | exact ⟨congrArg (fun z => some (Value.int z)) (bI_0 (by simp only [Int32.lt_iff_toInt_lt, Int32.le_iff_toInt_le, show (0 : Int32).toInt = 0 from rfl] at *; omega)), rfl⟩
theorem x_16 {d : Nat} {g : mG} {N : Nat} {A T K : Nat → tR} {B : tR} {E : Nat → Int32} {l : Int64} {G : tR} {Qm : Nat → mC} {t : Nat} (ht : t < 6) : Ex d 16 [.ref (lb t)] (N, H3 g (cc A T K B E l G) Qm) none (N, H3 g (cc A (u3 T t 2 0 0) K B E l G) Qm) := by
  refine Ex.of ?_
  show Wp _ 16 0 [.ref (lb t)] [] _ _
  refine W_aload_n d_16_0 rfl (lb_ne (by assumption)) ?_
  refine W_iconst d_16_1 (v := 0) (by decide) ?_
  refine W_putf d_16_2 o_16 k_0_21 (h_law (by assumption)) (Nat.le_of_ble_eq_true rfl) rfl (ms_lsize (by assumption)) ?_
  refine W_ret d_16_5 rt_16 ?_
  exact ⟨rfl, rfl⟩
theorem x_20 {d : Nat} {M : mM} {v : Int32} : Ex d 20 [.int v] M (some (.int (bI (decide (v = -3 ∨ v = -9))))) M := by
  refine Ex.of ?_
  show Wp _ 20 0 [.int v] [] _ _
  refine W_iload_n d_20_0 rfl ?_
  refine W_bipush d_20_1 (v := (-3)) (by decide) ?_
  refine W_icmp_eq (tgt := 12) d_20_3 (by decide) (fun h3 => ?_) (fun h3 => ?_)
  · refine W_iconst d_20_12 (v := 1) (by decide) ?_
    refine W_goto (tgt := 17) d_20_13 (by decide) ?_
    refine W_iret d_20_17 rt_20 rfl ?_
    first | exact ⟨congrArg (fun z => some (Value.int z)) (bI_1 (by simp_all [Int32.not_lt, Int32.not_le])), rfl⟩ | exact ⟨congrArg (fun z => some (Value.int z)) (bI_0 (by simp_all [Int32.not_lt, Int32.not_le])), rfl⟩
  · refine W_iload_n d_20_6 rfl ?_
    refine W_bipush d_20_7 (v := (-9)) (by decide) ?_
    refine W_icmp_ne (tgt := 16) d_20_9 (by decide) (fun h9 => ?_) (fun h9 => ?_)
    · refine W_iconst d_20_16 (v := 0) (by decide) ?_
      refine W_iret d_20_17 rt_20 rfl ?_
      first | exact ⟨congrArg (fun z => some (Value.int z)) (bI_1 (by simp_all [Int32.not_lt, Int32.not_le])), rfl⟩ | exact ⟨congrArg (fun z => some (Value.int z)) (bI_0 (by simp_all [Int32.not_lt, Int32.not_le])), rfl⟩
    · refine W_iconst d_20_12 (v := 1) (by decide) ?_
      refine W_goto (tgt := 17) d_20_13 (by decide) ?_
      refine W_iret d_20_17 rt_20 rfl ?_
      first | exact ⟨congrArg (fun z => some (Value.int z)) (bI_1 (by simp_all [Int32.not_lt, Int32.not_le])), rfl⟩ | exact ⟨congrArg (fun z => some (Value.int z)) (bI_0 (by simp_all [Int32.not_lt, Int32.not_le])), rfl⟩
def ljn (a s b : Int32) : Int32 := if s = -1 then bI (decide (¬ a = 0 ∨ ¬ b = 0)) else if s = -2 then bI (decide (¬ a = 0 ∧ ¬ b = 0)) else if s = -4 then bI (decide (a < b)) else if s = -5 then bI (decide (a = b)) else if s = -6 then a + b else if s = -7 then a - b else a * b
theorem x_21 {d : Nat} {M : mM} {a x b : Int32} : Ex d 21 [.int a, .int x, .int b] M (some (.int (ljn a x b))) M := by
  refine Ex.of ?_
  show Wp _ 21 0 [.int a, .int x, .int b] [] _ _
  refine W_iload_n d_21_0 rfl ?_
  by_cases s1_m7 : x = (-7)
  · refine W_table (tgt := 98) d_21_1 (off := 97) (by rw [s1_m7]; decide) (by decide) ?_
    refine W_iload_n d_21_98 rfl ?_
    refine W_iload_n d_21_99 rfl ?_
    refine W_isub d_21_100 ?_
    refine W_iret d_21_101 rt_21 rfl ?_
    exact ⟨congrArg (fun z => some (Value.int z)) (by unfold ljn bI; simp [*]), rfl⟩
  by_cases s1_m6 : x = (-6)
  · refine W_table (tgt := 94) d_21_1 (off := 93) (by rw [s1_m6]; decide) (by decide) ?_
    refine W_iload_n d_21_94 rfl ?_
    refine W_iload_n d_21_95 rfl ?_
    refine W_iadd d_21_96 ?_
    refine W_iret d_21_97 rt_21 rfl ?_
    exact ⟨congrArg (fun z => some (Value.int z)) (by unfold ljn bI; simp [*]), rfl⟩
  by_cases s1_m5 : x = (-5)
  · refine W_table (tgt := 83) d_21_1 (off := 82) (by rw [s1_m5]; decide) (by decide) ?_
    refine W_iload_n d_21_83 rfl ?_
    refine W_iload_n d_21_84 rfl ?_
    refine W_icmp_ne (tgt := 92) d_21_85 (by decide) (fun h85 => ?_) (fun h85 => ?_)
    · refine W_iconst d_21_92 (v := 0) (by decide) ?_
      refine W_iret d_21_93 rt_21 rfl ?_
      exact ⟨congrArg (fun z => some (Value.int z)) (by unfold ljn bI; simp [*]), rfl⟩
    · refine W_iconst d_21_88 (v := 1) (by decide) ?_
      refine W_goto (tgt := 93) d_21_89 (by decide) ?_
      refine W_iret d_21_93 rt_21 rfl ?_
      exact ⟨congrArg (fun z => some (Value.int z)) (by unfold ljn bI; simp [*]), rfl⟩
  by_cases s1_m4 : x = (-4)
  · refine W_table (tgt := 72) d_21_1 (off := 71) (by rw [s1_m4]; decide) (by decide) ?_
    refine W_iload_n d_21_72 rfl ?_
    refine W_iload_n d_21_73 rfl ?_
    refine W_icmp_ge (tgt := 81) d_21_74 (by decide) (fun h74 => ?_) (fun h74 => ?_)
    · refine W_iconst d_21_81 (v := 0) (by decide) ?_
      refine W_iret d_21_82 rt_21 rfl ?_
      exact ⟨congrArg (fun z => some (Value.int z)) (by unfold ljn bI; simp [*]), rfl⟩
    · refine W_iconst d_21_77 (v := 1) (by decide) ?_
      refine W_goto (tgt := 82) d_21_78 (by decide) ?_
      refine W_iret d_21_82 rt_21 rfl ?_
      exact ⟨congrArg (fun z => some (Value.int z)) (by unfold ljn bI; simp [*]), rfl⟩
  by_cases s1_m3 : x = (-3)
  · refine W_table (tgt := 102) d_21_1 (off := 101) (by rw [s1_m3]; decide) (by decide) ?_
    refine W_iload_n d_21_102 rfl ?_
    refine W_iload_n d_21_103 rfl ?_
    refine W_imul d_21_104 ?_
    refine W_iret d_21_105 rt_21 rfl ?_
    exact ⟨congrArg (fun z => some (Value.int z)) (by unfold ljn bI; simp [*]), rfl⟩
  by_cases s1_m2 : x = (-2)
  · refine W_table (tgt := 58) d_21_1 (off := 57) (by rw [s1_m2]; decide) (by decide) ?_
    refine W_iload_n d_21_58 rfl ?_
    refine W_if_eq (tgt := 70) d_21_59 (by decide) (fun h59 => ?_) (fun h59 => ?_)
    · refine W_iconst d_21_70 (v := 0) (by decide) ?_
      refine W_iret d_21_71 rt_21 rfl ?_
      exact ⟨congrArg (fun z => some (Value.int z)) (by unfold ljn bI; simp [*]), rfl⟩
    · refine W_iload_n d_21_62 rfl ?_
      refine W_if_eq (tgt := 70) d_21_63 (by decide) (fun h63 => ?_) (fun h63 => ?_)
      · refine W_iconst d_21_70 (v := 0) (by decide) ?_
        refine W_iret d_21_71 rt_21 rfl ?_
        exact ⟨congrArg (fun z => some (Value.int z)) (by unfold ljn bI; simp [*]), rfl⟩
      · refine W_iconst d_21_66 (v := 1) (by decide) ?_
        refine W_goto (tgt := 71) d_21_67 (by decide) ?_
        refine W_iret d_21_71 rt_21 rfl ?_
        exact ⟨congrArg (fun z => some (Value.int z)) (by unfold ljn bI; simp [*]), rfl⟩
  by_cases s1_m1 : x = (-1)
  · refine W_table (tgt := 44) d_21_1 (off := 43) (by rw [s1_m1]; decide) (by decide) ?_
    refine W_iload_n d_21_44 rfl ?_
    refine W_if_ne (tgt := 52) d_21_45 (by decide) (fun h45 => ?_) (fun h45 => ?_)
    · refine W_iconst d_21_52 (v := 1) (by decide) ?_
      refine W_goto (tgt := 57) d_21_53 (by decide) ?_
      refine W_iret d_21_57 rt_21 rfl ?_
      exact ⟨congrArg (fun z => some (Value.int z)) (by unfold ljn bI; simp [*]), rfl⟩
    · refine W_iload_n d_21_48 rfl ?_
      refine W_if_eq (tgt := 56) d_21_49 (by decide) (fun h49 => ?_) (fun h49 => ?_)
      · refine W_iconst d_21_56 (v := 0) (by decide) ?_
        refine W_iret d_21_57 rt_21 rfl ?_
        exact ⟨congrArg (fun z => some (Value.int z)) (by unfold ljn bI; simp [*]), rfl⟩
      · refine W_iconst d_21_52 (v := 1) (by decide) ?_
        refine W_goto (tgt := 57) d_21_53 (by decide) ?_
        refine W_iret d_21_57 rt_21 rfl ?_
        exact ⟨congrArg (fun z => some (Value.int z)) (by unfold ljn bI; simp [*]), rfl⟩
  refine W_table (tgt := 102) d_21_1 (off := 101) (if_pos (by have qm7 := lv_neT (a := -7) s1_m7 (by decide); have qm6 := lv_neT (a := -6) s1_m6 (by decide); have qm5 := lv_neT (a := -5) s1_m5 (by decide); have qm4 := lv_neT (a := -4) s1_m4 (by decide); have qm3 := lv_neT (a := -3) s1_m3 (by decide); have qm2 := lv_neT (a := -2) s1_m2 (by decide); have qm1 := lv_neT (a := -1) s1_m1 (by decide); omega)) (by decide) ?_
  refine W_iload_n d_21_102 rfl ?_
  refine W_iload_n d_21_103 rfl ?_
  refine W_imul d_21_104 ?_
  refine W_iret d_21_105 rt_21 rfl ?_
  exact ⟨congrArg (fun z => some (Value.int z)) (by unfold ljn bI; simp [*]), rfl⟩
