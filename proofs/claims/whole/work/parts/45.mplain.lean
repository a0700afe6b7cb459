/-! THE MODEL: count .. taken (wip/whole/gen45.py) -/
def cnM (S : Nat → Int32) (w : Int32) : Int32 := if w = 0 then S 0 else if w = 1 then S 5 else if w = 2 then S 8 else if w = 3 then S 9 else if w = 4 then S 14 else if w = 5 then S 15 else if w = 6 then S 11 else -2
theorem q_140 {d : Nat} {g : mG} {N : Nat} {P : Nat → mC} {Y : tR} {S : Nat → Int32} {w : Int32} (hd : 4 ≤ d) : Ex d 140 [.ref 92, .int w] (N, H3 g P (mm Y S)) (some (.int (cnM S w))) (N, H3 g P (mm Y S)) := by
  refine Ex.of ?_
  show Wp _ 140 0 [.ref 92, .int w] [] _ _
  refine W_iload_n d_140_0 rfl ?_
  by_cases s1_0 : w = 0
  · refine W_table (tgt := 44) d_140_1 (off := 43) (by rw [s1_0]; decide) (by decide) ?_
    refine W_aload_n d_140_44 rfl (by decide) ?_
    refine W_getf d_140_45 o_140 k_7_93 rfl rfl ?_
    refine W_iret d_140_48 rt_140 rfl ?_
    subst s1_0
    exact ⟨rfl, rfl⟩
  by_cases s1_1 : w = 1
  · refine W_table (tgt := 49) d_140_1 (off := 48) (by rw [s1_1]; decide) (by decide) ?_
    refine W_aload_n d_140_49 rfl (by decide) ?_
    refine W_getf d_140_50 o_140 k_7_100 rfl rfl ?_
    refine W_iret d_140_53 rt_140 rfl ?_
    subst s1_1
    exact ⟨rfl, rfl⟩
  by_cases s1_2 : w = 2
  · refine W_table (tgt := 54) d_140_1 (off := 53) (by rw [s1_2]; decide) (by decide) ?_
    refine W_aload_n d_140_54 rfl (by decide) ?_
    refine W_getf d_140_55 o_140 k_7_103 rfl rfl ?_
    refine W_iret d_140_58 rt_140 rfl ?_
    subst s1_2
    exact ⟨rfl, rfl⟩
  by_cases s1_3 : w = 3
  · refine W_table (tgt := 59) d_140_1 (off := 58) (by rw [s1_3]; decide) (by decide) ?_
    refine W_aload_n d_140_59 rfl (by decide) ?_
    refine W_getf d_140_60 o_140 k_7_28 rfl rfl ?_
    refine W_iret d_140_63 rt_140 rfl ?_
    subst s1_3
    exact ⟨rfl, rfl⟩
  by_cases s1_4 : w = 4
  · refine W_table (tgt := 64) d_140_1 (off := 63) (by rw [s1_4]; decide) (by decide) ?_
    refine W_aload_n d_140_64 rfl (by decide) ?_
    refine W_getf d_140_65 o_140 k_7_106 rfl rfl ?_
    refine W_iret d_140_68 rt_140 rfl ?_
    subst s1_4
    exact ⟨rfl, rfl⟩
  by_cases s1_5 : w = 5
  · refine W_table (tgt := 69) d_140_1 (off := 68) (by rw [s1_5]; decide) (by decide) ?_
    refine W_aload_n d_140_69 rfl (by decide) ?_
    refine W_getf d_140_70 o_140 k_7_109 rfl rfl ?_
    refine W_iret d_140_73 rt_140 rfl ?_
    subst s1_5
    exact ⟨rfl, rfl⟩
  by_cases s1_6 : w = 6
  · refine W_table (tgt := 74) d_140_1 (off := 73) (by rw [s1_6]; decide) (by decide) ?_
    refine W_aload_n d_140_74 rfl (by decide) ?_
    refine W_getf d_140_75 o_140 k_7_86 rfl rfl ?_
    refine W_iret d_140_78 rt_140 rfl ?_
    subst s1_6
    exact ⟨rfl, rfl⟩
  refine W_table (tgt := 79) d_140_1 (off := 78) (if_pos (by have q0 := lv_neT (a := 0) s1_0 (by decide); have q1 := lv_neT (a := 1) s1_1 (by decide); have q2 := lv_neT (a := 2) s1_2 (by decide); have q3 := lv_neT (a := 3) s1_3 (by decide); have q4 := lv_neT (a := 4) s1_4 (by decide); have q5 := lv_neT (a := 5) s1_5 (by decide); have q6 := lv_neT (a := 6) s1_6 (by decide); omega)) (by decide) ?_
  refine W_bipush d_140_79 (v := (-2)) (by decide) ?_
  refine W_iret d_140_81 rt_140 rfl ?_
  exact ⟨congrArg (fun z => some (Value.int z)) (by unfold cnM; rw [if_neg (by assumption), if_neg (by assumption), if_neg (by assumption), if_neg (by assumption), if_neg (by assumption), if_neg (by assumption), if_neg (by assumption)]), rfl⟩
theorem q_141a {d : Nat} {g : mG} {N : Nat} {P : Nat → mC} {Y : tR} {S : Nat → Int32} {v w : Int32} (hb : ¬ (0 ≤ v ∧ v ≤ 1)) (hd : 4 ≤ d) : Ex d 141 [.ref 92, .int v, .int w] (N, H3 g P (mm Y S)) (some (.int (-5))) (N, H3 g P (mm Y S)) := by
  refine Ex.of ?_
  show Wp _ 141 0 [.ref 92, .int v, .int w, .null] [] _ _
  refine W_iload_n d_141_0 rfl ?_
  refine W_iconst d_141_1 (v := 0) (by decide) ?_
  refine W_iconst d_141_2 (v := 1) (by decide) ?_
  refine W_callS d_141_3 o_141 k_7_96 (by omega) x_135 rfl (Nat.le_of_ble_eq_true rfl) ?_
  refine W_if_ne (tgt := 12) d_141_6 (by decide) (fun h6 => absurd (bI_ne.mpr hb) h6) (fun h6 => ?_)
  refine W_bipush d_141_9 (v := (-5)) (by decide) ?_
  refine W_iret d_141_11 rt_141 rfl ?_
  exact ⟨rfl, rfl⟩
theorem q_141_0n {d : Nat} {g : mG} {N : Nat} {P : Nat → mC} {Y : tR} {S : Nat → Int32} {w : Int32} (hb : ¬ (0 ≤ w ∧ w ≤ 99)) (hd : 4 ≤ d) : Ex d 141 [.ref 92, .int 0, .int w] (N, H3 g P (mm Y S)) (some (.int (-7))) (N, H3 g P (mm Y S)) := by
  refine Ex.of ?_
  show Wp _ 141 0 [.ref 92, .int 0, .int w, .null] [] _ _
  refine W_iload_n d_141_0 rfl ?_
  refine W_iconst d_141_1 (v := 0) (by decide) ?_
  refine W_iconst d_141_2 (v := 1) (by decide) ?_
  refine W_callS d_141_3 o_141 k_7_96 (by omega) x_135 rfl (Nat.le_of_ble_eq_true rfl) ?_
  refine W_if_ne (tgt := 12) d_141_6 (by decide) (fun h6 => ?_) (fun h6 => absurd h6 (fun q => bI_f q (by decide)))
  refine W_iload_n d_141_12 rfl ?_
  refine W_iconst d_141_13 (v := 0) (by decide) ?_
  refine W_iload_n d_141_14 rfl ?_
  refine W_if_ne (tgt := 23) d_141_15 (by decide) (fun h15 => absurd h15 (by decide)) (fun _ => ?_)
  refine W_bipush d_141_18 (v := 99) (by decide) ?_
  refine W_goto (tgt := 26) d_141_20 (by decide) ?_
  refine W_callS d_141_26 o_141 k_7_96 (by omega) x_135 rfl (Nat.le_of_ble_eq_true rfl) ?_
  refine W_if_ne (tgt := 35) d_141_29 (by decide) (fun h29 => absurd (bI_ne.mpr hb) h29) (fun h29 => ?_)
  refine W_bipush d_141_32 (v := (-7)) (by decide) ?_
  refine W_iret d_141_34 rt_141 rfl ?_
  exact ⟨rfl, rfl⟩
theorem q_141_0 {d : Nat} {g : mG} {N : Nat} {P : Nat → mC} {Y : tR} {S : Nat → Int32} {w : Int32} (hb : 0 ≤ w ∧ w ≤ 99) (hd : 4 ≤ d) : Ex d 141 [.ref 92, .int 0, .int w] (N, H3 g P (mm Y S)) (some (.int (S 8))) (N, H3 g P (mm Y (va_up (va_up S 8 w) 9 (S 9)))) := by
  refine Ex.of ?_
  show Wp _ 141 0 [.ref 92, .int 0, .int w, .null] [] _ _
  refine W_iload_n d_141_0 rfl ?_
  refine W_iconst d_141_1 (v := 0) (by decide) ?_
  refine W_iconst d_141_2 (v := 1) (by decide) ?_
  refine W_callS d_141_3 o_141 k_7_96 (by omega) x_135 rfl (Nat.le_of_ble_eq_true rfl) ?_
  refine W_if_ne (tgt := 12) d_141_6 (by decide) (fun h6 => ?_) (fun h6 => absurd h6 (fun q => bI_f q (by decide)))
  refine W_iload_n d_141_12 rfl ?_
  refine W_iconst d_141_13 (v := 0) (by decide) ?_
  refine W_iload_n d_141_14 rfl ?_
  refine W_if_ne (tgt := 23) d_141_15 (by decide) (fun h15 => absurd h15 (by decide)) (fun _ => ?_)
  refine W_bipush d_141_18 (v := 99) (by decide) ?_
  refine W_goto (tgt := 26) d_141_20 (by decide) ?_
  refine W_callS d_141_26 o_141 k_7_96 (by omega) x_135 rfl (Nat.le_of_ble_eq_true rfl) ?_
  refine W_if_ne (tgt := 35) d_141_29 (by decide) (fun h29 => ?_) (fun h29 => absurd h29 (fun q => bI_f q hb))
  refine W_iload_n d_141_35 rfl ?_
  refine W_if_ne (tgt := 46) d_141_36 (by decide) (fun h36 => absurd h36 (by decide)) (fun _ => ?_)
  refine W_aload_n d_141_39 rfl (by decide) ?_
  refine W_getf d_141_40 o_141 k_7_103 rfl rfl ?_
  refine W_goto (tgt := 50) d_141_43 (by decide) ?_
  refine W_istore_n d_141_50 rfl ?_
  refine W_aload_n d_141_51 rfl (by decide) ?_
  refine W_iload_n d_141_52 rfl ?_
  refine W_if_ne (tgt := 60) d_141_53 (by decide) (fun h53 => absurd h53 (by decide)) (fun _ => ?_)
  refine W_iload_n d_141_56 rfl ?_
  refine W_goto (tgt := 64) d_141_57 (by decide) ?_
  refine W_putf d_141_64 o_141 k_7_103 rfl (Nat.le_of_ble_eq_true rfl) rfl mm_s8 ?_
  refine W_aload_n d_141_67 rfl (by decide) ?_
  refine W_iload_n d_141_68 rfl ?_
  refine W_iconst d_141_69 (v := 1) (by decide) ?_
  refine W_icmp_ne (tgt := 77) d_141_70 (by decide) (fun _ => ?_) (fun h70 => absurd h70 (by decide))
  refine W_aload_n d_141_77 rfl (by decide) ?_
  refine W_getf d_141_78 o_141 k_7_28 rfl rfl ?_
  refine W_putf d_141_81 o_141 k_7_28 rfl (Nat.le_of_ble_eq_true rfl) rfl mm_s9 ?_
  refine W_iload_n d_141_84 rfl ?_
  refine W_iret d_141_85 rt_141 rfl ?_
  exact ⟨rfl, rfl⟩
theorem q_141_1n {d : Nat} {g : mG} {N : Nat} {P : Nat → mC} {Y : tR} {S : Nat → Int32} {w : Int32} (hb : ¬ (0 ≤ w ∧ w ≤ 999)) (hd : 4 ≤ d) : Ex d 141 [.ref 92, .int 1, .int w] (N, H3 g P (mm Y S)) (some (.int (-7))) (N, H3 g P (mm Y S)) := by
  refine Ex.of ?_
  show Wp _ 141 0 [.ref 92, .int 1, .int w, .null] [] _ _
  refine W_iload_n d_141_0 rfl ?_
  refine W_iconst d_141_1 (v := 0) (by decide) ?_
  refine W_iconst d_141_2 (v := 1) (by decide) ?_
  refine W_callS d_141_3 o_141 k_7_96 (by omega) x_135 rfl (Nat.le_of_ble_eq_true rfl) ?_
  refine W_if_ne (tgt := 12) d_141_6 (by decide) (fun h6 => ?_) (fun h6 => absurd h6 (fun q => bI_f q (by decide)))
  refine W_iload_n d_141_12 rfl ?_
  refine W_iconst d_141_13 (v := 0) (by decide) ?_
  refine W_iload_n d_141_14 rfl ?_
  refine W_if_ne (tgt := 23) d_141_15 (by decide) (fun _ => ?_) (fun h15 => absurd h15 (by decide))
  refine W_sipush d_141_23 (v := 999) (by decide) ?_
  refine W_callS d_141_26 o_141 k_7_96 (by omega) x_135 rfl (Nat.le_of_ble_eq_true rfl) ?_
  refine W_if_ne (tgt := 35) d_141_29 (by decide) (fun h29 => absurd (bI_ne.mpr hb) h29) (fun h29 => ?_)
  refine W_bipush d_141_32 (v := (-7)) (by decide) ?_
  refine W_iret d_141_34 rt_141 rfl ?_
  exact ⟨rfl, rfl⟩
theorem q_141_1 {d : Nat} {g : mG} {N : Nat} {P : Nat → mC} {Y : tR} {S : Nat → Int32} {w : Int32} (hb : 0 ≤ w ∧ w ≤ 999) (hd : 4 ≤ d) : Ex d 141 [.ref 92, .int 1, .int w] (N, H3 g P (mm Y S)) (some (.int (S 9))) (N, H3 g P (mm Y (va_up (va_up S 8 (S 8)) 9 w))) := by
  refine Ex.of ?_
  show Wp _ 141 0 [.ref 92, .int 1, .int w, .null] [] _ _
  refine W_iload_n d_141_0 rfl ?_
  refine W_iconst d_141_1 (v := 0) (by decide) ?_
  refine W_iconst d_141_2 (v := 1) (by decide) ?_
  refine W_callS d_141_3 o_141 k_7_96 (by omega) x_135 rfl (Nat.le_of_ble_eq_true rfl) ?_
  refine W_if_ne (tgt := 12) d_141_6 (by decide) (fun h6 => ?_) (fun h6 => absurd h6 (fun q => bI_f q (by decide)))
  refine W_iload_n d_141_12 rfl ?_
  refine W_iconst d_141_13 (v := 0) (by decide) ?_
  refine W_iload_n d_141_14 rfl ?_
  refine W_if_ne (tgt := 23) d_141_15 (by decide) (fun _ => ?_) (fun h15 => absurd h15 (by decide))
  refine W_sipush d_141_23 (v := 999) (by decide) ?_
  refine W_callS d_141_26 o_141 k_7_96 (by omega) x_135 rfl (Nat.le_of_ble_eq_true rfl) ?_
  refine W_if_ne (tgt := 35) d_141_29 (by decide) (fun h29 => ?_) (fun h29 => absurd h29 (fun q => bI_f q hb))
  refine W_iload_n d_141_35 rfl ?_
  refine W_if_ne (tgt := 46) d_141_36 (by decide) (fun _ => ?_) (fun h36 => absurd h36 (by decide))
  refine W_aload_n d_141_46 rfl (by decide) ?_
  refine W_getf d_141_47 o_141 k_7_28 rfl rfl ?_
  refine W_istore_n d_141_50 rfl ?_
  refine W_aload_n d_141_51 rfl (by decide) ?_
  refine W_iload_n d_141_52 rfl ?_
  refine W_if_ne (tgt := 60) d_141_53 (by decide) (fun _ => ?_) (fun h53 => absurd h53 (by decide))
  refine W_aload_n d_141_60 rfl (by decide) ?_
  refine W_getf d_141_61 o_141 k_7_103 rfl rfl ?_
  refine W_putf d_141_64 o_141 k_7_103 rfl (Nat.le_of_ble_eq_true rfl) rfl mm_s8 ?_
  refine W_aload_n d_141_67 rfl (by decide) ?_
  refine W_iload_n d_141_68 rfl ?_
  refine W_iconst d_141_69 (v := 1) (by decide) ?_
  refine W_icmp_ne (tgt := 77) d_141_70 (by decide) (fun h70 => absurd h70 (by decide)) (fun _ => ?_)
  refine W_iload_n d_141_73 rfl ?_
  refine W_goto (tgt := 81) d_141_74 (by decide) ?_
  refine W_putf d_141_81 o_141 k_7_28 rfl (Nat.le_of_ble_eq_true rfl) rfl mm_s9 ?_
  refine W_iload_n d_141_84 rfl ?_
  refine W_iret d_141_85 rt_141 rfl ?_
  exact ⟨rfl, rfl⟩
theorem q_157a {d : Nat} {g : mG} {N : Nat} {P : Nat → mC} {Y : tR} {S : Nat → Int32} {tc : Nat} (htx : S 14 = nI tc) (ht6 : tc ≤ 6) {v : Int32} (hb : ¬ (0 ≤ v ∧ v < nI tc)) (hd : 4 ≤ d) : Ex d 157 [.ref 92, .int v] (N, H3 g P (mm Y S)) (some (.int (-2))) (N, H3 g P (mm Y S)) := by
  refine Ex.of ?_
  show Wp _ 157 0 [.ref 92, .int v, .null] [] _ _
  refine W_iload_n d_157_0 rfl ?_
  refine W_iconst d_157_1 (v := 0) (by decide) ?_
  refine W_aload_n d_157_2 rfl (by decide) ?_
  refine W_getf d_157_3 o_157 k_7_106 rfl rfl ?_
  rw [htx]
  refine W_iconst d_157_6 (v := 1) (by decide) ?_
  refine W_isub d_157_7 ?_
  refine W_callS d_157_8 o_157 k_7_96 (by omega) x_135 rfl (Nat.le_of_ble_eq_true rfl) ?_
  refine W_if_ne (tgt := 17) d_157_11 (by decide) (fun h11 => absurd (bI_ne.mpr (fun q => hb ((in_pred (by omega)).mp q))) h11) (fun h11 => ?_)
  refine W_bipush d_157_14 (v := (-2)) (by decide) ?_
  refine W_iret d_157_16 rt_157 rfl ?_
  exact ⟨rfl, rfl⟩
theorem q_157 {d : Nat} {g : mG} {N : Nat} {P : Nat → mC} {Y : tR} {S : Nat → Int32} {tc : Nat} (htx : S 14 = nI tc) (ht6 : tc ≤ 6) {v : Int32} (hb : 0 ≤ v ∧ v < nI tc) (hd : 4 ≤ d) : Ex d 157 [.ref 92, .int v] (N, H3 g P (mm Y S)) (some (.int (S 15))) (N, H3 g P (mm Y (va_up S 15 v))) := by
  refine Ex.of ?_
  show Wp _ 157 0 [.ref 92, .int v, .null] [] _ _
  refine W_iload_n d_157_0 rfl ?_
  refine W_iconst d_157_1 (v := 0) (by decide) ?_
  refine W_aload_n d_157_2 rfl (by decide) ?_
  refine W_getf d_157_3 o_157 k_7_106 rfl rfl ?_
  rw [htx]
  refine W_iconst d_157_6 (v := 1) (by decide) ?_
  refine W_isub d_157_7 ?_
  refine W_callS d_157_8 o_157 k_7_96 (by omega) x_135 rfl (Nat.le_of_ble_eq_true rfl) ?_
  refine W_if_ne (tgt := 17) d_157_11 (by decide) (fun h11 => ?_) (fun h11 => absurd h11 (fun q => bI_f q ((in_pred (by omega)).mpr hb)))
  refine W_aload_n d_157_17 rfl (by decide) ?_
  refine W_getf d_157_18 o_157 k_7_109 rfl rfl ?_
  refine W_istore_n d_157_21 rfl ?_
  refine W_aload_n d_157_22 rfl (by decide) ?_
  refine W_iload_n d_157_23 rfl ?_
  refine W_putf d_157_24 o_157 k_7_109 rfl (Nat.le_of_ble_eq_true rfl) rfl mm_s15 ?_
  refine W_iload_n d_157_27 rfl ?_
  refine W_iret d_157_28 rt_157 rfl ?_
  exact ⟨rfl, rfl⟩
theorem q_161_0 {d : Nat} {M : mM} (hd : 0 ≤ d) : Ex d 161 [.int 0] M (some (.int 999)) M := by
  refine Ex.of ?_
  show Wp _ 161 0 [.int 0] [] _ _
  refine W_iload_n d_161_0 rfl ?_
  refine W_iconst d_161_1 (v := 2) (by decide) ?_
  refine W_icmp_ge (tgt := 11) d_161_2 (by decide) (fun h2 => absurd h2 (by decide)) (fun _ => ?_)
  refine W_sipush d_161_5 (v := 999) (by decide) ?_
  refine W_goto (tgt := 32) d_161_8 (by decide) ?_
  refine W_iret d_161_32 rt_161 rfl ?_
  exact ⟨rfl, rfl⟩
theorem q_161_1 {d : Nat} {M : mM} (hd : 0 ≤ d) : Ex d 161 [.int 1] M (some (.int 999)) M := by
  refine Ex.of ?_
  show Wp _ 161 0 [.int 1] [] _ _
  refine W_iload_n d_161_0 rfl ?_
  refine W_iconst d_161_1 (v := 2) (by decide) ?_
  refine W_icmp_ge (tgt := 11) d_161_2 (by decide) (fun h2 => absurd h2 (by decide)) (fun _ => ?_)
  refine W_sipush d_161_5 (v := 999) (by decide) ?_
  refine W_goto (tgt := 32) d_161_8 (by decide) ?_
  refine W_iret d_161_32 rt_161 rfl ?_
  exact ⟨rfl, rfl⟩
theorem q_161_2 {d : Nat} {M : mM} (hd : 0 ≤ d) : Ex d 161 [.int 2] M (some (.int 99)) M := by
  refine Ex.of ?_
  show Wp _ 161 0 [.int 2] [] _ _
  refine W_iload_n d_161_0 rfl ?_
  refine W_iconst d_161_1 (v := 2) (by decide) ?_
  refine W_icmp_ge (tgt := 11) d_161_2 (by decide) (fun _ => ?_) (fun h2 => absurd h2 (by decide))
  refine W_iload_n d_161_11 rfl ?_
  refine W_iconst d_161_12 (v := 2) (by decide) ?_
  refine W_icmp_ne (tgt := 21) d_161_13 (by decide) (fun h13 => absurd h13 (by decide)) (fun _ => ?_)
  refine W_bipush d_161_16 (v := 99) (by decide) ?_
  refine W_goto (tgt := 32) d_161_18 (by decide) ?_
  refine W_iret d_161_32 rt_161 rfl ?_
  exact ⟨rfl, rfl⟩
theorem q_161_3 {d : Nat} {M : mM} (hd : 0 ≤ d) : Ex d 161 [.int 3] M (some (.int 23)) M := by
  refine Ex.of ?_
  show Wp _ 161 0 [.int 3] [] _ _
  refine W_iload_n d_161_0 rfl ?_
  refine W_iconst d_161_1 (v := 2) (by decide) ?_
  refine W_icmp_ge (tgt := 11) d_161_2 (by decide) (fun _ => ?_) (fun h2 => absurd h2 (by decide))
  refine W_iload_n d_161_11 rfl ?_
  refine W_iconst d_161_12 (v := 2) (by decide) ?_
  refine W_icmp_ne (tgt := 21) d_161_13 (by decide) (fun _ => ?_) (fun h13 => absurd h13 (by decide))
  refine W_iload_n d_161_21 rfl ?_
  refine W_iconst d_161_22 (v := 3) (by decide) ?_
  refine W_icmp_ne (tgt := 31) d_161_23 (by decide) (fun h23 => absurd h23 (by decide)) (fun _ => ?_)
  refine W_bipush d_161_26 (v := 23) (by decide) ?_
  refine W_goto (tgt := 32) d_161_28 (by decide) ?_
  refine W_iret d_161_32 rt_161 rfl ?_
  exact ⟨rfl, rfl⟩
theorem q_161_4 {d : Nat} {M : mM} (hd : 0 ≤ d) : Ex d 161 [.int 4] M (some (.int 1)) M := by
  refine Ex.of ?_
  show Wp _ 161 0 [.int 4] [] _ _
  refine W_iload_n d_161_0 rfl ?_
  refine W_iconst d_161_1 (v := 2) (by decide) ?_
  refine W_icmp_ge (tgt := 11) d_161_2 (by decide) (fun _ => ?_) (fun h2 => absurd h2 (by decide))
  refine W_iload_n d_161_11 rfl ?_
  refine W_iconst d_161_12 (v := 2) (by decide) ?_
  refine W_icmp_ne (tgt := 21) d_161_13 (by decide) (fun _ => ?_) (fun h13 => absurd h13 (by decide))
  refine W_iload_n d_161_21 rfl ?_
  refine W_iconst d_161_22 (v := 3) (by decide) ?_
  refine W_icmp_ne (tgt := 31) d_161_23 (by decide) (fun _ => ?_) (fun h23 => absurd h23 (by decide))
  refine W_iconst d_161_31 (v := 1) (by decide) ?_
  refine W_iret d_161_32 rt_161 rfl ?_
  exact ⟨rfl, rfl⟩
theorem q_162a {d : Nat} {g : mG} {N : Nat} {P : Nat → mC} {Y : tR} {S : Nat → Int32} {n : Nat} (hS0 : S 0 = nI n) (hn12 : n ≤ 12) {v w u : Int32} (hb : ¬ (0 ≤ v ∧ v < nI n)) (hd : 4 ≤ d) : Ex d 162 [.ref 92, .int v, .int w, .int u] (N, H3 g P (mm Y S)) (some (.int (-5))) (N, H3 g P (mm Y S)) := by
  refine Ex.of ?_
  show Wp _ 162 0 [.ref 92, .int v, .int w, .int u, .null] [] _ _
  refine W_aload_n d_162_0 rfl (by decide) ?_
  refine W_iload_n d_162_1 rfl ?_
  refine W_callV d_162_2 o_162 (Or.inl k_7_182) (by omega) (x_137 hS0 hn12 (by omega)) rfl (mrecv_of rfl o_137.symm) rfl (Nat.le_of_ble_eq_true rfl) ?_
  refine W_if_ne (tgt := 11) d_162_5 (by decide) (fun h5 => absurd (bI_ne.mpr hb) h5) (fun h5 => ?_)
  refine W_bipush d_162_8 (v := (-5)) (by decide) ?_
  refine W_iret d_162_10 rt_162 rfl ?_
  exact ⟨rfl, rfl⟩
theorem q_162_0n {d : Nat} {g : mG} {N : Nat} {P : Nat → mC} {Y : tR} {S : Nat → Int32} {n : Nat} (hS0 : S 0 = nI n) (hn12 : n ≤ 12) {j : Nat} (hj : j < n) {u : Int32} (hb : ¬ (0 ≤ u ∧ u ≤ 999)) (hd : 4 ≤ d) : Ex d 162 [.ref 92, .int (nI j), .int 0, .int u] (N, H3 g P (mm Y S)) (some (.int (-7))) (N, H3 g P (mm Y S)) := by
  refine Ex.of ?_
  show Wp _ 162 0 [.ref 92, .int (nI j), .int 0, .int u, .null] [] _ _
  refine W_aload_n d_162_0 rfl (by decide) ?_
  refine W_iload_n d_162_1 rfl ?_
  refine W_callV d_162_2 o_162 (Or.inl k_7_182) (by omega) (x_137 hS0 hn12 (by omega)) rfl (mrecv_of rfl o_137.symm) rfl (Nat.le_of_ble_eq_true rfl) ?_
  refine W_if_ne (tgt := 11) d_162_5 (by decide) (fun h5 => ?_) (fun h5 => absurd h5 (fun q => bI_f q ⟨nI_pos' (by omega), nI_lt hj (by omega)⟩))
  refine W_iload_n d_162_11 rfl ?_
  refine W_iconst d_162_12 (v := 0) (by decide) ?_
  refine W_iconst d_162_13 (v := 4) (by decide) ?_
  refine W_callS d_162_14 o_162 k_7_96 (by omega) x_135 rfl (Nat.le_of_ble_eq_true rfl) ?_
  refine W_if_eq (tgt := 32) d_162_17 (by decide) (fun h17 => absurd h17 (fun q => bI_f q (by decide))) (fun h17 => ?_)
  refine W_iload_n d_162_20 rfl ?_
  refine W_iconst d_162_21 (v := 0) (by decide) ?_
  refine W_iload_n d_162_22 rfl ?_
  refine W_callS d_162_23 o_162 k_7_188 (by omega) (q_161_0 (by omega)) rfl (Nat.le_of_ble_eq_true rfl) ?_
  refine W_callS d_162_26 o_162 k_7_96 (by omega) x_135 rfl (Nat.le_of_ble_eq_true rfl) ?_
  refine W_if_ne (tgt := 35) d_162_29 (by decide) (fun h29 => absurd (bI_ne.mpr hb) h29) (fun h29 => ?_)
  refine W_bipush d_162_32 (v := (-7)) (by decide) ?_
  refine W_iret d_162_34 rt_162 rfl ?_
  exact ⟨rfl, rfl⟩
theorem q_162_0 {d : Nat} {g : mG} {N : Nat} {P : Nat → mC} {Y : tR} {S : Nat → Int32} {n : Nat} (hS0 : S 0 = nI n) (hn12 : n ≤ 12) {j : Nat} (hj : j < n) {u : Int32} (hb : 0 ≤ u ∧ u ≤ 999) (hd : 4 ≤ d) : Ex d 162 [.ref 92, .int (nI j), .int 0, .int u] (N, H3 g P (mm Y S)) (some (.int (Y 2 (5 * j + 0)))) (N, H3 g P (mm (u2 Y 2 (5 * j + 0) u) S)) := by
  refine Ex.of ?_
  show Wp _ 162 0 [.ref 92, .int (nI j), .int 0, .int u, .null] [] _ _
  refine W_aload_n d_162_0 rfl (by decide) ?_
  refine W_iload_n d_162_1 rfl ?_
  refine W_callV d_162_2 o_162 (Or.inl k_7_182) (by omega) (x_137 hS0 hn12 (by omega)) rfl (mrecv_of rfl o_137.symm) rfl (Nat.le_of_ble_eq_true rfl) ?_
  refine W_if_ne (tgt := 11) d_162_5 (by decide) (fun h5 => ?_) (fun h5 => absurd h5 (fun q => bI_f q ⟨nI_pos' (by omega), nI_lt hj (by omega)⟩))
  refine W_iload_n d_162_11 rfl ?_
  refine W_iconst d_162_12 (v := 0) (by decide) ?_
  refine W_iconst d_162_13 (v := 4) (by decide) ?_
  refine W_callS d_162_14 o_162 k_7_96 (by omega) x_135 rfl (Nat.le_of_ble_eq_true rfl) ?_
  refine W_if_eq (tgt := 32) d_162_17 (by decide) (fun h17 => absurd h17 (fun q => bI_f q (by decide))) (fun h17 => ?_)
  refine W_iload_n d_162_20 rfl ?_
  refine W_iconst d_162_21 (v := 0) (by decide) ?_
  refine W_iload_n d_162_22 rfl ?_
  refine W_callS d_162_23 o_162 k_7_188 (by omega) (q_161_0 (by omega)) rfl (Nat.le_of_ble_eq_true rfl) ?_
  refine W_callS d_162_26 o_162 k_7_96 (by omega) x_135 rfl (Nat.le_of_ble_eq_true rfl) ?_
  refine W_if_ne (tgt := 35) d_162_29 (by decide) (fun h29 => ?_) (fun h29 => absurd h29 (fun q => bI_f q hb))
  refine W_aload_n d_162_35 rfl (by decide) ?_
  refine W_getf d_162_36 o_162 k_7_16 rfl rfl ?_
  refine W_iconst d_162_39 (v := 5) (by decide) ?_
  refine W_iload_n d_162_40 rfl ?_
  refine W_imul d_162_41 ?_
  rw [show ((5 * nI j : Int32)) = nI (5 * j) from pk_mul 5 j]
  refine W_iload_n d_162_42 rfl ?_
  refine W_iadd d_162_43 ?_
  rw [show ((nI (5 * j) + 0 : Int32)) = nI (5 * j + 0) from nI_add (5 * j) 0]
  refine W_mld (a := 2) d_162_44 rfl (by decide) (n := 60) rfl (vp_in_nI (by omega) (by decide)) (congrArg (Y 2) (nI_clamp (by omega))) ?_
  refine W_istore d_162_45 rfl ?_
  refine W_aload_n d_162_47 rfl (by decide) ?_
  refine W_getf d_162_48 o_162 k_7_16 rfl rfl ?_
  refine W_iconst d_162_51 (v := 5) (by decide) ?_
  refine W_iload_n d_162_52 rfl ?_
  refine W_imul d_162_53 ?_
  rw [show ((5 * nI j : Int32)) = nI (5 * j) from pk_mul 5 j]
  refine W_iload_n d_162_54 rfl ?_
  refine W_iadd d_162_55 ?_
  rw [show ((nI (5 * j) + 0 : Int32)) = nI (5 * j + 0) from nI_add (5 * j) 0]
  refine W_iload_n d_162_56 rfl ?_
  refine W_mst (a := 2) d_162_57 rfl (by decide) (n := 60) rfl (vp_in_nI (by omega) (by decide)) (nI_clamp (by omega)) ?_
  refine W_iload d_162_58 rfl ?_
  refine W_iret d_162_60 rt_162 rfl ?_
  exact ⟨rfl, rfl⟩
theorem q_162_1n {d : Nat} {g : mG} {N : Nat} {P : Nat → mC} {Y : tR} {S : Nat → Int32} {n : Nat} (hS0 : S 0 = nI n) (hn12 : n ≤ 12) {j : Nat} (hj : j < n) {u : Int32} (hb : ¬ (0 ≤ u ∧ u ≤ 999)) (hd : 4 ≤ d) : Ex d 162 [.ref 92, .int (nI j), .int 1, .int u] (N, H3 g P (mm Y S)) (some (.int (-7))) (N, H3 g P (mm Y S)) := by
  refine Ex.of ?_
  show Wp _ 162 0 [.ref 92, .int (nI j), .int 1, .int u, .null] [] _ _
  refine W_aload_n d_162_0 rfl (by decide) ?_
  refine W_iload_n d_162_1 rfl ?_
  refine W_callV d_162_2 o_162 (Or.inl k_7_182) (by omega) (x_137 hS0 hn12 (by omega)) rfl (mrecv_of rfl o_137.symm) rfl (Nat.le_of_ble_eq_true rfl) ?_
  refine W_if_ne (tgt := 11) d_162_5 (by decide) (fun h5 => ?_) (fun h5 => absurd h5 (fun q => bI_f q ⟨nI_pos' (by omega), nI_lt hj (by omega)⟩))
  refine W_iload_n d_162_11 rfl ?_
  refine W_iconst d_162_12 (v := 0) (by decide) ?_
  refine W_iconst d_162_13 (v := 4) (by decide) ?_
  refine W_callS d_162_14 o_162 k_7_96 (by omega) x_135 rfl (Nat.le_of_ble_eq_true rfl) ?_
  refine W_if_eq (tgt := 32) d_162_17 (by decide) (fun h17 => absurd h17 (fun q => bI_f q (by decide))) (fun h17 => ?_)
  refine W_iload_n d_162_20 rfl ?_
  refine W_iconst d_162_21 (v := 0) (by decide) ?_
  refine W_iload_n d_162_22 rfl ?_
  refine W_callS d_162_23 o_162 k_7_188 (by omega) (q_161_1 (by omega)) rfl (Nat.le_of_ble_eq_true rfl) ?_
  refine W_callS d_162_26 o_162 k_7_96 (by omega) x_135 rfl (Nat.le_of_ble_eq_true rfl) ?_
  refine W_if_ne (tgt := 35) d_162_29 (by decide) (fun h29 => absurd (bI_ne.mpr hb) h29) (fun h29 => ?_)
  refine W_bipush d_162_32 (v := (-7)) (by decide) ?_
  refine W_iret d_162_34 rt_162 rfl ?_
  exact ⟨rfl, rfl⟩
theorem q_162_1 {d : Nat} {g : mG} {N : Nat} {P : Nat → mC} {Y : tR} {S : Nat → Int32} {n : Nat} (hS0 : S 0 = nI n) (hn12 : n ≤ 12) {j : Nat} (hj : j < n) {u : Int32} (hb : 0 ≤ u ∧ u ≤ 999) (hd : 4 ≤ d) : Ex d 162 [.ref 92, .int (nI j), .int 1, .int u] (N, H3 g P (mm Y S)) (some (.int (Y 2 (5 * j + 1)))) (N, H3 g P (mm (u2 Y 2 (5 * j + 1) u) S)) := by
  refine Ex.of ?_
  show Wp _ 162 0 [.ref 92, .int (nI j), .int 1, .int u, .null] [] _ _
  refine W_aload_n d_162_0 rfl (by decide) ?_
  refine W_iload_n d_162_1 rfl ?_
  refine W_callV d_162_2 o_162 (Or.inl k_7_182) (by omega) (x_137 hS0 hn12 (by omega)) rfl (mrecv_of rfl o_137.symm) rfl (Nat.le_of_ble_eq_true rfl) ?_
  refine W_if_ne (tgt := 11) d_162_5 (by decide) (fun h5 => ?_) (fun h5 => absurd h5 (fun q => bI_f q ⟨nI_pos' (by omega), nI_lt hj (by omega)⟩))
  refine W_iload_n d_162_11 rfl ?_
  refine W_iconst d_162_12 (v := 0) (by decide) ?_
  refine W_iconst d_162_13 (v := 4) (by decide) ?_
  refine W_callS d_162_14 o_162 k_7_96 (by omega) x_135 rfl (Nat.le_of_ble_eq_true rfl) ?_
  refine W_if_eq (tgt := 32) d_162_17 (by decide) (fun h17 => absurd h17 (fun q => bI_f q (by decide))) (fun h17 => ?_)
  refine W_iload_n d_162_20 rfl ?_
  refine W_iconst d_162_21 (v := 0) (by decide) ?_
  refine W_iload_n d_162_22 rfl ?_
  refine W_callS d_162_23 o_162 k_7_188 (by omega) (q_161_1 (by omega)) rfl (Nat.le_of_ble_eq_true rfl) ?_
  refine W_callS d_162_26 o_162 k_7_96 (by omega) x_135 rfl (Nat.le_of_ble_eq_true rfl) ?_
  refine W_if_ne (tgt := 35) d_162_29 (by decide) (fun h29 => ?_) (fun h29 => absurd h29 (fun q => bI_f q hb))
  refine W_aload_n d_162_35 rfl (by decide) ?_
  refine W_getf d_162_36 o_162 k_7_16 rfl rfl ?_
  refine W_iconst d_162_39 (v := 5) (by decide) ?_
  refine W_iload_n d_162_40 rfl ?_
  refine W_imul d_162_41 ?_
  rw [show ((5 * nI j : Int32)) = nI (5 * j) from pk_mul 5 j]
  refine W_iload_n d_162_42 rfl ?_
  refine W_iadd d_162_43 ?_
  rw [show ((nI (5 * j) + 1 : Int32)) = nI (5 * j + 1) from nI_add (5 * j) 1]
  refine W_mld (a := 2) d_162_44 rfl (by decide) (n := 60) rfl (vp_in_nI (by omega) (by decide)) (congrArg (Y 2) (nI_clamp (by omega))) ?_
  refine W_istore d_162_45 rfl ?_
  refine W_aload_n d_162_47 rfl (by decide) ?_
  refine W_getf d_162_48 o_162 k_7_16 rfl rfl ?_
  refine W_iconst d_162_51 (v := 5) (by decide) ?_
  refine W_iload_n d_162_52 rfl ?_
  refine W_imul d_162_53 ?_
  rw [show ((5 * nI j : Int32)) = nI (5 * j) from pk_mul 5 j]
  refine W_iload_n d_162_54 rfl ?_
  refine W_iadd d_162_55 ?_
  rw [show ((nI (5 * j) + 1 : Int32)) = nI (5 * j + 1) from nI_add (5 * j) 1]
  refine W_iload_n d_162_56 rfl ?_
  refine W_mst (a := 2) d_162_57 rfl (by decide) (n := 60) rfl (vp_in_nI (by omega) (by decide)) (nI_clamp (by omega)) ?_
  refine W_iload d_162_58 rfl ?_
  refine W_iret d_162_60 rt_162 rfl ?_
  exact ⟨rfl, rfl⟩
theorem q_162_2n {d : Nat} {g : mG} {N : Nat} {P : Nat → mC} {Y : tR} {S : Nat → Int32} {n : Nat} (hS0 : S 0 = nI n) (hn12 : n ≤ 12) {j : Nat} (hj : j < n) {u : Int32} (hb : ¬ (0 ≤ u ∧ u ≤ 99)) (hd : 4 ≤ d) : Ex d 162 [.ref 92, .int (nI j), .int 2, .int u] (N, H3 g P (mm Y S)) (some (.int (-7))) (N, H3 g P (mm Y S)) := by
  refine Ex.of ?_
  show Wp _ 162 0 [.ref 92, .int (nI j), .int 2, .int u, .null] [] _ _
  refine W_aload_n d_162_0 rfl (by decide) ?_
  refine W_iload_n d_162_1 rfl ?_
  refine W_callV d_162_2 o_162 (Or.inl k_7_182) (by omega) (x_137 hS0 hn12 (by omega)) rfl (mrecv_of rfl o_137.symm) rfl (Nat.le_of_ble_eq_true rfl) ?_
  refine W_if_ne (tgt := 11) d_162_5 (by decide) (fun h5 => ?_) (fun h5 => absurd h5 (fun q => bI_f q ⟨nI_pos' (by omega), nI_lt hj (by omega)⟩))
  refine W_iload_n d_162_11 rfl ?_
  refine W_iconst d_162_12 (v := 0) (by decide) ?_
  refine W_iconst d_162_13 (v := 4) (by decide) ?_
  refine W_callS d_162_14 o_162 k_7_96 (by omega) x_135 rfl (Nat.le_of_ble_eq_true rfl) ?_
  refine W_if_eq (tgt := 32) d_162_17 (by decide) (fun h17 => absurd h17 (fun q => bI_f q (by decide))) (fun h17 => ?_)
  refine W_iload_n d_162_20 rfl ?_
  refine W_iconst d_162_21 (v := 0) (by decide) ?_
  refine W_iload_n d_162_22 rfl ?_
  refine W_callS d_162_23 o_162 k_7_188 (by omega) (q_161_2 (by omega)) rfl (Nat.le_of_ble_eq_true rfl) ?_
  refine W_callS d_162_26 o_162 k_7_96 (by omega) x_135 rfl (Nat.le_of_ble_eq_true rfl) ?_
  refine W_if_ne (tgt := 35) d_162_29 (by decide) (fun h29 => absurd (bI_ne.mpr hb) h29) (fun h29 => ?_)
  refine W_bipush d_162_32 (v := (-7)) (by decide) ?_
  refine W_iret d_162_34 rt_162 rfl ?_
  exact ⟨rfl, rfl⟩
theorem q_162_2 {d : Nat} {g : mG} {N : Nat} {P : Nat → mC} {Y : tR} {S : Nat → Int32} {n : Nat} (hS0 : S 0 = nI n) (hn12 : n ≤ 12) {j : Nat} (hj : j < n) {u : Int32} (hb : 0 ≤ u ∧ u ≤ 99) (hd : 4 ≤ d) : Ex d 162 [.ref 92, .int (nI j), .int 2, .int u] (N, H3 g P (mm Y S)) (some (.int (Y 2 (5 * j + 2)))) (N, H3 g P (mm (u2 Y 2 (5 * j + 2) u) S)) := by
  refine Ex.of ?_
  show Wp _ 162 0 [.ref 92, .int (nI j), .int 2, .int u, .null] [] _ _
  refine W_aload_n d_162_0 rfl (by decide) ?_
  refine W_iload_n d_162_1 rfl ?_
  refine W_callV d_162_2 o_162 (Or.inl k_7_182) (by omega) (x_137 hS0 hn12 (by omega)) rfl (mrecv_of rfl o_137.symm) rfl (Nat.le_of_ble_eq_true rfl) ?_
  refine W_if_ne (tgt := 11) d_162_5 (by decide) (fun h5 => ?_) (fun h5 => absurd h5 (fun q => bI_f q ⟨nI_pos' (by omega), nI_lt hj (by omega)⟩))
  refine W_iload_n d_162_11 rfl ?_
  refine W_iconst d_162_12 (v := 0) (by decide) ?_
  refine W_iconst d_162_13 (v := 4) (by decide) ?_
  refine W_callS d_162_14 o_162 k_7_96 (by omega) x_135 rfl (Nat.le_of_ble_eq_true rfl) ?_
  refine W_if_eq (tgt := 32) d_162_17 (by decide) (fun h17 => absurd h17 (fun q => bI_f q (by decide))) (fun h17 => ?_)
  refine W_iload_n d_162_20 rfl ?_
  refine W_iconst d_162_21 (v := 0) (by decide) ?_
  refine W_iload_n d_162_22 rfl ?_
  refine W_callS d_162_23 o_162 k_7_188 (by omega) (q_161_2 (by omega)) rfl (Nat.le_of_ble_eq_true rfl) ?_
  refine W_callS d_162_26 o_162 k_7_96 (by omega) x_135 rfl (Nat.le_of_ble_eq_true rfl) ?_
  refine W_if_ne (tgt := 35) d_162_29 (by decide) (fun h29 => ?_) (fun h29 => absurd h29 (fun q => bI_f q hb))
  refine W_aload_n d_162_35 rfl (by decide) ?_
  refine W_getf d_162_36 o_162 k_7_16 rfl rfl ?_
  refine W_iconst d_162_39 (v := 5) (by decide) ?_
  refine W_iload_n d_162_40 rfl ?_
  refine W_imul d_162_41 ?_
  rw [show ((5 * nI j : Int32)) = nI (5 * j) from pk_mul 5 j]
  refine W_iload_n d_162_42 rfl ?_
  refine W_iadd d_162_43 ?_
  rw [show ((nI (5 * j) + 2 : Int32)) = nI (5 * j + 2) from nI_add (5 * j) 2]
  refine W_mld (a := 2) d_162_44 rfl (by decide) (n := 60) rfl (vp_in_nI (by omega) (by decide)) (congrArg (Y 2) (nI_clamp (by omega))) ?_
  refine W_istore d_162_45 rfl ?_
  refine W_aload_n d_162_47 rfl (by decide) ?_
  refine W_getf d_162_48 o_162 k_7_16 rfl rfl ?_
  refine W_iconst d_162_51 (v := 5) (by decide) ?_
  refine W_iload_n d_162_52 rfl ?_
  refine W_imul d_162_53 ?_
  rw [show ((5 * nI j : Int32)) = nI (5 * j) from pk_mul 5 j]
  refine W_iload_n d_162_54 rfl ?_
  refine W_iadd d_162_55 ?_
  rw [show ((nI (5 * j) + 2 : Int32)) = nI (5 * j + 2) from nI_add (5 * j) 2]
  refine W_iload_n d_162_56 rfl ?_
  refine W_mst (a := 2) d_162_57 rfl (by decide) (n := 60) rfl (vp_in_nI (by omega) (by decide)) (nI_clamp (by omega)) ?_
  refine W_iload d_162_58 rfl ?_
  refine W_iret d_162_60 rt_162 rfl ?_
  exact ⟨rfl, rfl⟩
theorem q_162_3n {d : Nat} {g : mG} {N : Nat} {P : Nat → mC} {Y : tR} {S : Nat → Int32} {n : Nat} (hS0 : S 0 = nI n) (hn12 : n ≤ 12) {j : Nat} (hj : j < n) {u : Int32} (hb : ¬ (0 ≤ u ∧ u ≤ 23)) (hd : 4 ≤ d) : Ex d 162 [.ref 92, .int (nI j), .int 3, .int u] (N, H3 g P (mm Y S)) (some (.int (-7))) (N, H3 g P (mm Y S)) := by
  refine Ex.of ?_
  show Wp _ 162 0 [.ref 92, .int (nI j), .int 3, .int u, .null] [] _ _
  refine W_aload_n d_162_0 rfl (by decide) ?_
  refine W_iload_n d_162_1 rfl ?_
  refine W_callV d_162_2 o_162 (Or.inl k_7_182) (by omega) (x_137 hS0 hn12 (by omega)) rfl (mrecv_of rfl o_137.symm) rfl (Nat.le_of_ble_eq_true rfl) ?_
  refine W_if_ne (tgt := 11) d_162_5 (by decide) (fun h5 => ?_) (fun h5 => absurd h5 (fun q => bI_f q ⟨nI_pos' (by omega), nI_lt hj (by omega)⟩))
  refine W_iload_n d_162_11 rfl ?_
  refine W_iconst d_162_12 (v := 0) (by decide) ?_
  refine W_iconst d_162_13 (v := 4) (by decide) ?_
  refine W_callS d_162_14 o_162 k_7_96 (by omega) x_135 rfl (Nat.le_of_ble_eq_true rfl) ?_
  refine W_if_eq (tgt := 32) d_162_17 (by decide) (fun h17 => absurd h17 (fun q => bI_f q (by decide))) (fun h17 => ?_)
  refine W_iload_n d_162_20 rfl ?_
  refine W_iconst d_162_21 (v := 0) (by decide) ?_
  refine W_iload_n d_162_22 rfl ?_
  refine W_callS d_162_23 o_162 k_7_188 (by omega) (q_161_3 (by omega)) rfl (Nat.le_of_ble_eq_true rfl) ?_
  refine W_callS d_162_26 o_162 k_7_96 (by omega) x_135 rfl (Nat.le_of_ble_eq_true rfl) ?_
  refine W_if_ne (tgt := 35) d_162_29 (by decide) (fun h29 => absurd (bI_ne.mpr hb) h29) (fun h29 => ?_)
  refine W_bipush d_162_32 (v := (-7)) (by decide) ?_
  refine W_iret d_162_34 rt_162 rfl ?_
  exact ⟨rfl, rfl⟩
theorem q_162_3 {d : Nat} {g : mG} {N : Nat} {P : Nat → mC} {Y : tR} {S : Nat → Int32} {n : Nat} (hS0 : S 0 = nI n) (hn12 : n ≤ 12) {j : Nat} (hj : j < n) {u : Int32} (hb : 0 ≤ u ∧ u ≤ 23) (hd : 4 ≤ d) : Ex d 162 [.ref 92, .int (nI j), .int 3, .int u] (N, H3 g P (mm Y S)) (some (.int (Y 2 (5 * j + 3)))) (N, H3 g P (mm (u2 Y 2 (5 * j + 3) u) S)) := by
  refine Ex.of ?_
  show Wp _ 162 0 [.ref 92, .int (nI j), .int 3, .int u, .null] [] _ _
  refine W_aload_n d_162_0 rfl (by decide) ?_
  refine W_iload_n d_162_1 rfl ?_
  refine W_callV d_162_2 o_162 (Or.inl k_7_182) (by omega) (x_137 hS0 hn12 (by omega)) rfl (mrecv_of rfl o_137.symm) rfl (Nat.le_of_ble_eq_true rfl) ?_
  refine W_if_ne (tgt := 11) d_162_5 (by decide) (fun h5 => ?_) (fun h5 => absurd h5 (fun q => bI_f q ⟨nI_pos' (by omega), nI_lt hj (by omega)⟩))
  refine W_iload_n d_162_11 rfl ?_
  refine W_iconst d_162_12 (v := 0) (by decide) ?_
  refine W_iconst d_162_13 (v := 4) (by decide) ?_
  refine W_callS d_162_14 o_162 k_7_96 (by omega) x_135 rfl (Nat.le_of_ble_eq_true rfl) ?_
  refine W_if_eq (tgt := 32) d_162_17 (by decide) (fun h17 => absurd h17 (fun q => bI_f q (by decide))) (fun h17 => ?_)
  refine W_iload_n d_162_20 rfl ?_
  refine W_iconst d_162_21 (v := 0) (by decide) ?_
  refine W_iload_n d_162_22 rfl ?_
  refine W_callS d_162_23 o_162 k_7_188 (by omega) (q_161_3 (by omega)) rfl (Nat.le_of_ble_eq_true rfl) ?_
  refine W_callS d_162_26 o_162 k_7_96 (by omega) x_135 rfl (Nat.le_of_ble_eq_true rfl) ?_
  refine W_if_ne (tgt := 35) d_162_29 (by decide) (fun h29 => ?_) (fun h29 => absurd h29 (fun q => bI_f q hb))
  refine W_aload_n d_162_35 rfl (by decide) ?_
  refine W_getf d_162_36 o_162 k_7_16 rfl rfl ?_
  refine W_iconst d_162_39 (v := 5) (by decide) ?_
  refine W_iload_n d_162_40 rfl ?_
  refine W_imul d_162_41 ?_
  rw [show ((5 * nI j : Int32)) = nI (5 * j) from pk_mul 5 j]
  refine W_iload_n d_162_42 rfl ?_
  refine W_iadd d_162_43 ?_
  rw [show ((nI (5 * j) + 3 : Int32)) = nI (5 * j + 3) from nI_add (5 * j) 3]
  refine W_mld (a := 2) d_162_44 rfl (by decide) (n := 60) rfl (vp_in_nI (by omega) (by decide)) (congrArg (Y 2) (nI_clamp (by omega))) ?_
  refine W_istore d_162_45 rfl ?_
  refine W_aload_n d_162_47 rfl (by decide) ?_
  refine W_getf d_162_48 o_162 k_7_16 rfl rfl ?_
  refine W_iconst d_162_51 (v := 5) (by decide) ?_
  refine W_iload_n d_162_52 rfl ?_
  refine W_imul d_162_53 ?_
  rw [show ((5 * nI j : Int32)) = nI (5 * j) from pk_mul 5 j]
  refine W_iload_n d_162_54 rfl ?_
  refine W_iadd d_162_55 ?_
  rw [show ((nI (5 * j) + 3 : Int32)) = nI (5 * j + 3) from nI_add (5 * j) 3]
  refine W_iload_n d_162_56 rfl ?_
  refine W_mst (a := 2) d_162_57 rfl (by decide) (n := 60) rfl (vp_in_nI (by omega) (by decide)) (nI_clamp (by omega)) ?_
  refine W_iload d_162_58 rfl ?_
  refine W_iret d_162_60 rt_162 rfl ?_
  exact ⟨rfl, rfl⟩
theorem q_162_4n {d : Nat} {g : mG} {N : Nat} {P : Nat → mC} {Y : tR} {S : Nat → Int32} {n : Nat} (hS0 : S 0 = nI n) (hn12 : n ≤ 12) {j : Nat} (hj : j < n) {u : Int32} (hb : ¬ (0 ≤ u ∧ u ≤ 1)) (hd : 4 ≤ d) : Ex d 162 [.ref 92, .int (nI j), .int 4, .int u] (N, H3 g P (mm Y S)) (some (.int (-7))) (N, H3 g P (mm Y S)) := by
  refine Ex.of ?_
  show Wp _ 162 0 [.ref 92, .int (nI j), .int 4, .int u, .null] [] _ _
  refine W_aload_n d_162_0 rfl (by decide) ?_
  refine W_iload_n d_162_1 rfl ?_
  refine W_callV d_162_2 o_162 (Or.inl k_7_182) (by omega) (x_137 hS0 hn12 (by omega)) rfl (mrecv_of rfl o_137.symm) rfl (Nat.le_of_ble_eq_true rfl) ?_
  refine W_if_ne (tgt := 11) d_162_5 (by decide) (fun h5 => ?_) (fun h5 => absurd h5 (fun q => bI_f q ⟨nI_pos' (by omega), nI_lt hj (by omega)⟩))
  refine W_iload_n d_162_11 rfl ?_
  refine W_iconst d_162_12 (v := 0) (by decide) ?_
  refine W_iconst d_162_13 (v := 4) (by decide) ?_
  refine W_callS d_162_14 o_162 k_7_96 (by omega) x_135 rfl (Nat.le_of_ble_eq_true rfl) ?_
  refine W_if_eq (tgt := 32) d_162_17 (by decide) (fun h17 => absurd h17 (fun q => bI_f q (by decide))) (fun h17 => ?_)
  refine W_iload_n d_162_20 rfl ?_
  refine W_iconst d_162_21 (v := 0) (by decide) ?_
  refine W_iload_n d_162_22 rfl ?_
  refine W_callS d_162_23 o_162 k_7_188 (by omega) (q_161_4 (by omega)) rfl (Nat.le_of_ble_eq_true rfl) ?_
  refine W_callS d_162_26 o_162 k_7_96 (by omega) x_135 rfl (Nat.le_of_ble_eq_true rfl) ?_
  refine W_if_ne (tgt := 35) d_162_29 (by decide) (fun h29 => absurd (bI_ne.mpr hb) h29) (fun h29 => ?_)
  refine W_bipush d_162_32 (v := (-7)) (by decide) ?_
  refine W_iret d_162_34 rt_162 rfl ?_
  exact ⟨rfl, rfl⟩
theorem q_162_4 {d : Nat} {g : mG} {N : Nat} {P : Nat → mC} {Y : tR} {S : Nat → Int32} {n : Nat} (hS0 : S 0 = nI n) (hn12 : n ≤ 12) {j : Nat} (hj : j < n) {u : Int32} (hb : 0 ≤ u ∧ u ≤ 1) (hd : 4 ≤ d) : Ex d 162 [.ref 92, .int (nI j), .int 4, .int u] (N, H3 g P (mm Y S)) (some (.int (Y 2 (5 * j + 4)))) (N, H3 g P (mm (u2 Y 2 (5 * j + 4) u) S)) := by
  refine Ex.of ?_
  show Wp _ 162 0 [.ref 92, .int (nI j), .int 4, .int u, .null] [] _ _
  refine W_aload_n d_162_0 rfl (by decide) ?_
  refine W_iload_n d_162_1 rfl ?_
  refine W_callV d_162_2 o_162 (Or.inl k_7_182) (by omega) (x_137 hS0 hn12 (by omega)) rfl (mrecv_of rfl o_137.symm) rfl (Nat.le_of_ble_eq_true rfl) ?_
  refine W_if_ne (tgt := 11) d_162_5 (by decide) (fun h5 => ?_) (fun h5 => absurd h5 (fun q => bI_f q ⟨nI_pos' (by omega), nI_lt hj (by omega)⟩))
  refine W_iload_n d_162_11 rfl ?_
  refine W_iconst d_162_12 (v := 0) (by decide) ?_
  refine W_iconst d_162_13 (v := 4) (by decide) ?_
  refine W_callS d_162_14 o_162 k_7_96 (by omega) x_135 rfl (Nat.le_of_ble_eq_true rfl) ?_
  refine W_if_eq (tgt := 32) d_162_17 (by decide) (fun h17 => absurd h17 (fun q => bI_f q (by decide))) (fun h17 => ?_)
  refine W_iload_n d_162_20 rfl ?_
  refine W_iconst d_162_21 (v := 0) (by decide) ?_
  refine W_iload_n d_162_22 rfl ?_
  refine W_callS d_162_23 o_162 k_7_188 (by omega) (q_161_4 (by omega)) rfl (Nat.le_of_ble_eq_true rfl) ?_
  refine W_callS d_162_26 o_162 k_7_96 (by omega) x_135 rfl (Nat.le_of_ble_eq_true rfl) ?_
  refine W_if_ne (tgt := 35) d_162_29 (by decide) (fun h29 => ?_) (fun h29 => absurd h29 (fun q => bI_f q hb))
  refine W_aload_n d_162_35 rfl (by decide) ?_
  refine W_getf d_162_36 o_162 k_7_16 rfl rfl ?_
  refine W_iconst d_162_39 (v := 5) (by decide) ?_
  refine W_iload_n d_162_40 rfl ?_
  refine W_imul d_162_41 ?_
  rw [show ((5 * nI j : Int32)) = nI (5 * j) from pk_mul 5 j]
  refine W_iload_n d_162_42 rfl ?_
  refine W_iadd d_162_43 ?_
  rw [show ((nI (5 * j) + 4 : Int32)) = nI (5 * j + 4) from nI_add (5 * j) 4]
  refine W_mld (a := 2) d_162_44 rfl (by decide) (n := 60) rfl (vp_in_nI (by omega) (by decide)) (congrArg (Y 2) (nI_clamp (by omega))) ?_
  refine W_istore d_162_45 rfl ?_
  refine W_aload_n d_162_47 rfl (by decide) ?_
  refine W_getf d_162_48 o_162 k_7_16 rfl rfl ?_
  refine W_iconst d_162_51 (v := 5) (by decide) ?_
  refine W_iload_n d_162_52 rfl ?_
  refine W_imul d_162_53 ?_
  rw [show ((5 * nI j : Int32)) = nI (5 * j) from pk_mul 5 j]
  refine W_iload_n d_162_54 rfl ?_
  refine W_iadd d_162_55 ?_
  rw [show ((nI (5 * j) + 4 : Int32)) = nI (5 * j + 4) from nI_add (5 * j) 4]
  refine W_iload_n d_162_56 rfl ?_
  refine W_mst (a := 2) d_162_57 rfl (by decide) (n := 60) rfl (vp_in_nI (by omega) (by decide)) (nI_clamp (by omega)) ?_
  refine W_iload d_162_58 rfl ?_
  refine W_iret d_162_60 rt_162 rfl ?_
  exact ⟨rfl, rfl⟩
theorem q_162b {d : Nat} {g : mG} {N : Nat} {P : Nat → mC} {Y : tR} {S : Nat → Int32} {n : Nat} (hS0 : S 0 = nI n) (hn12 : n ≤ 12) {j : Nat} (hj : j < n) {w u : Int32} (hb : ¬ (0 ≤ w ∧ w ≤ 4)) (hd : 4 ≤ d) : Ex d 162 [.ref 92, .int (nI j), .int w, .int u] (N, H3 g P (mm Y S)) (some (.int (-7))) (N, H3 g P (mm Y S)) := by
  refine Ex.of ?_
  show Wp _ 162 0 [.ref 92, .int (nI j), .int w, .int u, .null] [] _ _
  refine W_aload_n d_162_0 rfl (by decide) ?_
  refine W_iload_n d_162_1 rfl ?_
  refine W_callV d_162_2 o_162 (Or.inl k_7_182) (by omega) (x_137 hS0 hn12 (by omega)) rfl (mrecv_of rfl o_137.symm) rfl (Nat.le_of_ble_eq_true rfl) ?_
  refine W_if_ne (tgt := 11) d_162_5 (by decide) (fun h5 => ?_) (fun h5 => absurd h5 (fun q => bI_f q ⟨nI_pos' (by omega), nI_lt hj (by omega)⟩))
  refine W_iload_n d_162_11 rfl ?_
  refine W_iconst d_162_12 (v := 0) (by decide) ?_
  refine W_iconst d_162_13 (v := 4) (by decide) ?_
  refine W_callS d_162_14 o_162 k_7_96 (by omega) x_135 rfl (Nat.le_of_ble_eq_true rfl) ?_
  refine W_if_eq (tgt := 32) d_162_17 (by decide) (fun h17 => ?_) (fun h17 => absurd (bI_ne.mpr hb) h17)
  refine W_bipush d_162_32 (v := (-7)) (by decide) ?_
  refine W_iret d_162_34 rt_162 rfl ?_
  exact ⟨rfl, rfl⟩
theorem q_163a {d : Nat} {g : mG} {N : Nat} {P : Nat → mC} {Y : tR} {S : Nat → Int32} {n : Nat} (hS0 : S 0 = nI n) (hn12 : n ≤ 12) {v w : Int32} (hb : ¬ (0 ≤ v ∧ v < nI n)) (hd : 4 ≤ d) : Ex d 163 [.ref 92, .int v, .int w] (N, H3 g P (mm Y S)) (some (.int (-5))) (N, H3 g P (mm Y S)) := by
  refine Ex.of ?_
  show Wp _ 163 0 [.ref 92, .int v, .int w] [] _ _
  refine W_aload_n d_163_0 rfl (by decide) ?_
  refine W_iload_n d_163_1 rfl ?_
  refine W_callV d_163_2 o_163 (Or.inl k_7_182) (by omega) (x_137 hS0 hn12 (by omega)) rfl (mrecv_of rfl o_137.symm) rfl (Nat.le_of_ble_eq_true rfl) ?_
  refine W_if_ne (tgt := 11) d_163_5 (by decide) (fun h5 => absurd (bI_ne.mpr hb) h5) (fun h5 => ?_)
  refine W_bipush d_163_8 (v := (-5)) (by decide) ?_
  refine W_iret d_163_10 rt_163 rfl ?_
  exact ⟨rfl, rfl⟩
theorem q_163_0 {d : Nat} {g : mG} {N : Nat} {P : Nat → mC} {Y : tR} {S : Nat → Int32} {n : Nat} (hS0 : S 0 = nI n) (hn12 : n ≤ 12) {j : Nat} (hj : j < n) (hd : 4 ≤ d) : Ex d 163 [.ref 92, .int (nI j), .int 0] (N, H3 g P (mm Y S)) (some (.int (Y 2 (5 * j + 0)))) (N, H3 g P (mm Y S)) := by
  refine Ex.of ?_
  show Wp _ 163 0 [.ref 92, .int (nI j), .int 0] [] _ _
  refine W_aload_n d_163_0 rfl (by decide) ?_
  refine W_iload_n d_163_1 rfl ?_
  refine W_callV d_163_2 o_163 (Or.inl k_7_182) (by omega) (x_137 hS0 hn12 (by omega)) rfl (mrecv_of rfl o_137.symm) rfl (Nat.le_of_ble_eq_true rfl) ?_
  refine W_if_ne (tgt := 11) d_163_5 (by decide) (fun h5 => ?_) (fun h5 => absurd h5 (fun q => bI_f q ⟨nI_pos' (by omega), nI_lt hj (by omega)⟩))
  refine W_iload_n d_163_11 rfl ?_
  refine W_iconst d_163_12 (v := 0) (by decide) ?_
  refine W_iconst d_163_13 (v := 4) (by decide) ?_
  refine W_callS d_163_14 o_163 k_7_96 (by omega) x_135 rfl (Nat.le_of_ble_eq_true rfl) ?_
  refine W_if_eq (tgt := 31) d_163_17 (by decide) (fun h17 => absurd h17 (fun q => bI_f q (by decide))) (fun h17 => ?_)
  refine W_aload_n d_163_20 rfl (by decide) ?_
  refine W_getf d_163_21 o_163 k_7_16 rfl rfl ?_
  refine W_iconst d_163_24 (v := 5) (by decide) ?_
  refine W_iload_n d_163_25 rfl ?_
  refine W_imul d_163_26 ?_
  rw [show ((5 * nI j : Int32)) = nI (5 * j) from pk_mul 5 j]
  refine W_iload_n d_163_27 rfl ?_
  refine W_iadd d_163_28 ?_
  rw [show ((nI (5 * j) + 0 : Int32)) = nI (5 * j + 0) from nI_add (5 * j) 0]
  refine W_mld (a := 2) d_163_29 rfl (by decide) (n := 60) rfl (vp_in_nI (by omega) (by decide)) (congrArg (Y 2) (nI_clamp (by omega))) ?_
  refine W_iret d_163_30 rt_163 rfl ?_
  exact ⟨rfl, rfl⟩
theorem q_163_1 {d : Nat} {g : mG} {N : Nat} {P : Nat → mC} {Y : tR} {S : Nat → Int32} {n : Nat} (hS0 : S 0 = nI n) (hn12 : n ≤ 12) {j : Nat} (hj : j < n) (hd : 4 ≤ d) : Ex d 163 [.ref 92, .int (nI j), .int 1] (N, H3 g P (mm Y S)) (some (.int (Y 2 (5 * j + 1)))) (N, H3 g P (mm Y S)) := by
  refine Ex.of ?_
  show Wp _ 163 0 [.ref 92, .int (nI j), .int 1] [] _ _
  refine W_aload_n d_163_0 rfl (by decide) ?_
  refine W_iload_n d_163_1 rfl ?_
  refine W_callV d_163_2 o_163 (Or.inl k_7_182) (by omega) (x_137 hS0 hn12 (by omega)) rfl (mrecv_of rfl o_137.symm) rfl (Nat.le_of_ble_eq_true rfl) ?_
  refine W_if_ne (tgt := 11) d_163_5 (by decide) (fun h5 => ?_) (fun h5 => absurd h5 (fun q => bI_f q ⟨nI_pos' (by omega), nI_lt hj (by omega)⟩))
  refine W_iload_n d_163_11 rfl ?_
  refine W_iconst d_163_12 (v := 0) (by decide) ?_
  refine W_iconst d_163_13 (v := 4) (by decide) ?_
  refine W_callS d_163_14 o_163 k_7_96 (by omega) x_135 rfl (Nat.le_of_ble_eq_true rfl) ?_
  refine W_if_eq (tgt := 31) d_163_17 (by decide) (fun h17 => absurd h17 (fun q => bI_f q (by decide))) (fun h17 => ?_)
  refine W_aload_n d_163_20 rfl (by decide) ?_
  refine W_getf d_163_21 o_163 k_7_16 rfl rfl ?_
  refine W_iconst d_163_24 (v := 5) (by decide) ?_
  refine W_iload_n d_163_25 rfl ?_
  refine W_imul d_163_26 ?_
  rw [show ((5 * nI j : Int32)) = nI (5 * j) from pk_mul 5 j]
  refine W_iload_n d_163_27 rfl ?_
  refine W_iadd d_163_28 ?_
  rw [show ((nI (5 * j) + 1 : Int32)) = nI (5 * j + 1) from nI_add (5 * j) 1]
  refine W_mld (a := 2) d_163_29 rfl (by decide) (n := 60) rfl (vp_in_nI (by omega) (by decide)) (congrArg (Y 2) (nI_clamp (by omega))) ?_
  refine W_iret d_163_30 rt_163 rfl ?_
  exact ⟨rfl, rfl⟩
theorem q_163_2 {d : Nat} {g : mG} {N : Nat} {P : Nat → mC} {Y : tR} {S : Nat → Int32} {n : Nat} (hS0 : S 0 = nI n) (hn12 : n ≤ 12) {j : Nat} (hj : j < n) (hd : 4 ≤ d) : Ex d 163 [.ref 92, .int (nI j), .int 2] (N, H3 g P (mm Y S)) (some (.int (Y 2 (5 * j + 2)))) (N, H3 g P (mm Y S)) := by
  refine Ex.of ?_
  show Wp _ 163 0 [.ref 92, .int (nI j), .int 2] [] _ _
  refine W_aload_n d_163_0 rfl (by decide) ?_
  refine W_iload_n d_163_1 rfl ?_
  refine W_callV d_163_2 o_163 (Or.inl k_7_182) (by omega) (x_137 hS0 hn12 (by omega)) rfl (mrecv_of rfl o_137.symm) rfl (Nat.le_of_ble_eq_true rfl) ?_
  refine W_if_ne (tgt := 11) d_163_5 (by decide) (fun h5 => ?_) (fun h5 => absurd h5 (fun q => bI_f q ⟨nI_pos' (by omega), nI_lt hj (by omega)⟩))
  refine W_iload_n d_163_11 rfl ?_
  refine W_iconst d_163_12 (v := 0) (by decide) ?_
  refine W_iconst d_163_13 (v := 4) (by decide) ?_
  refine W_callS d_163_14 o_163 k_7_96 (by omega) x_135 rfl (Nat.le_of_ble_eq_true rfl) ?_
  refine W_if_eq (tgt := 31) d_163_17 (by decide) (fun h17 => absurd h17 (fun q => bI_f q (by decide))) (fun h17 => ?_)
  refine W_aload_n d_163_20 rfl (by decide) ?_
  refine W_getf d_163_21 o_163 k_7_16 rfl rfl ?_
  refine W_iconst d_163_24 (v := 5) (by decide) ?_
  refine W_iload_n d_163_25 rfl ?_
  refine W_imul d_163_26 ?_
  rw [show ((5 * nI j : Int32)) = nI (5 * j) from pk_mul 5 j]
  refine W_iload_n d_163_27 rfl ?_
  refine W_iadd d_163_28 ?_
  rw [show ((nI (5 * j) + 2 : Int32)) = nI (5 * j + 2) from nI_add (5 * j) 2]
  refine W_mld (a := 2) d_163_29 rfl (by decide) (n := 60) rfl (vp_in_nI (by omega) (by decide)) (congrArg (Y 2) (nI_clamp (by omega))) ?_
  refine W_iret d_163_30 rt_163 rfl ?_
  exact ⟨rfl, rfl⟩
theorem q_163_3 {d : Nat} {g : mG} {N : Nat} {P : Nat → mC} {Y : tR} {S : Nat → Int32} {n : Nat} (hS0 : S 0 = nI n) (hn12 : n ≤ 12) {j : Nat} (hj : j < n) (hd : 4 ≤ d) : Ex d 163 [.ref 92, .int (nI j), .int 3] (N, H3 g P (mm Y S)) (some (.int (Y 2 (5 * j + 3)))) (N, H3 g P (mm Y S)) := by
  refine Ex.of ?_
  show Wp _ 163 0 [.ref 92, .int (nI j), .int 3] [] _ _
  refine W_aload_n d_163_0 rfl (by decide) ?_
  refine W_iload_n d_163_1 rfl ?_
  refine W_callV d_163_2 o_163 (Or.inl k_7_182) (by omega) (x_137 hS0 hn12 (by omega)) rfl (mrecv_of rfl o_137.symm) rfl (Nat.le_of_ble_eq_true rfl) ?_
  refine W_if_ne (tgt := 11) d_163_5 (by decide) (fun h5 => ?_) (fun h5 => absurd h5 (fun q => bI_f q ⟨nI_pos' (by omega), nI_lt hj (by omega)⟩))
  refine W_iload_n d_163_11 rfl ?_
  refine W_iconst d_163_12 (v := 0) (by decide) ?_
  refine W_iconst d_163_13 (v := 4) (by decide) ?_
  refine W_callS d_163_14 o_163 k_7_96 (by omega) x_135 rfl (Nat.le_of_ble_eq_true rfl) ?_
  refine W_if_eq (tgt := 31) d_163_17 (by decide) (fun h17 => absurd h17 (fun q => bI_f q (by decide))) (fun h17 => ?_)
  refine W_aload_n d_163_20 rfl (by decide) ?_
  refine W_getf d_163_21 o_163 k_7_16 rfl rfl ?_
  refine W_iconst d_163_24 (v := 5) (by decide) ?_
  refine W_iload_n d_163_25 rfl ?_
  refine W_imul d_163_26 ?_
  rw [show ((5 * nI j : Int32)) = nI (5 * j) from pk_mul 5 j]
  refine W_iload_n d_163_27 rfl ?_
  refine W_iadd d_163_28 ?_
  rw [show ((nI (5 * j) + 3 : Int32)) = nI (5 * j + 3) from nI_add (5 * j) 3]
  refine W_mld (a := 2) d_163_29 rfl (by decide) (n := 60) rfl (vp_in_nI (by omega) (by decide)) (congrArg (Y 2) (nI_clamp (by omega))) ?_
  refine W_iret d_163_30 rt_163 rfl ?_
  exact ⟨rfl, rfl⟩
theorem q_163_4 {d : Nat} {g : mG} {N : Nat} {P : Nat → mC} {Y : tR} {S : Nat → Int32} {n : Nat} (hS0 : S 0 = nI n) (hn12 : n ≤ 12) {j : Nat} (hj : j < n) (hd : 4 ≤ d) : Ex d 163 [.ref 92, .int (nI j), .int 4] (N, H3 g P (mm Y S)) (some (.int (Y 2 (5 * j + 4)))) (N, H3 g P (mm Y S)) := by
  refine Ex.of ?_
  show Wp _ 163 0 [.ref 92, .int (nI j), .int 4] [] _ _
  refine W_aload_n d_163_0 rfl (by decide) ?_
  refine W_iload_n d_163_1 rfl ?_
  refine W_callV d_163_2 o_163 (Or.inl k_7_182) (by omega) (x_137 hS0 hn12 (by omega)) rfl (mrecv_of rfl o_137.symm) rfl (Nat.le_of_ble_eq_true rfl) ?_
  refine W_if_ne (tgt := 11) d_163_5 (by decide) (fun h5 => ?_) (fun h5 => absurd h5 (fun q => bI_f q ⟨nI_pos' (by omega), nI_lt hj (by omega)⟩))
  refine W_iload_n d_163_11 rfl ?_
  refine W_iconst d_163_12 (v := 0) (by decide) ?_
  refine W_iconst d_163_13 (v := 4) (by decide) ?_
  refine W_callS d_163_14 o_163 k_7_96 (by omega) x_135 rfl (Nat.le_of_ble_eq_true rfl) ?_
  refine W_if_eq (tgt := 31) d_163_17 (by decide) (fun h17 => absurd h17 (fun q => bI_f q (by decide))) (fun h17 => ?_)
  refine W_aload_n d_163_20 rfl (by decide) ?_
  refine W_getf d_163_21 o_163 k_7_16 rfl rfl ?_
  refine W_iconst d_163_24 (v := 5) (by decide) ?_
  refine W_iload_n d_163_25 rfl ?_
  refine W_imul d_163_26 ?_
  rw [show ((5 * nI j : Int32)) = nI (5 * j) from pk_mul 5 j]
  refine W_iload_n d_163_27 rfl ?_
  refine W_iadd d_163_28 ?_
  rw [show ((nI (5 * j) + 4 : Int32)) = nI (5 * j + 4) from nI_add (5 * j) 4]
  refine W_mld (a := 2) d_163_29 rfl (by decide) (n := 60) rfl (vp_in_nI (by omega) (by decide)) (congrArg (Y 2) (nI_clamp (by omega))) ?_
  refine W_iret d_163_30 rt_163 rfl ?_
  exact ⟨rfl, rfl⟩
theorem q_163_5 {d : Nat} {g : mG} {N : Nat} {P : Nat → mC} {Y : tR} {S : Nat → Int32} {n : Nat} (hS0 : S 0 = nI n) (hn12 : n ≤ 12) {j : Nat} (hj : j < n) (hd : 4 ≤ d) : Ex d 163 [.ref 92, .int (nI j), .int 5] (N, H3 g P (mm Y S)) (some (.int (Y 0 j))) (N, H3 g P (mm Y S)) := by
  refine Ex.of ?_
  show Wp _ 163 0 [.ref 92, .int (nI j), .int 5] [] _ _
  refine W_aload_n d_163_0 rfl (by decide) ?_
  refine W_iload_n d_163_1 rfl ?_
  refine W_callV d_163_2 o_163 (Or.inl k_7_182) (by omega) (x_137 hS0 hn12 (by omega)) rfl (mrecv_of rfl o_137.symm) rfl (Nat.le_of_ble_eq_true rfl) ?_
  refine W_if_ne (tgt := 11) d_163_5 (by decide) (fun h5 => ?_) (fun h5 => absurd h5 (fun q => bI_f q ⟨nI_pos' (by omega), nI_lt hj (by omega)⟩))
  refine W_iload_n d_163_11 rfl ?_
  refine W_iconst d_163_12 (v := 0) (by decide) ?_
  refine W_iconst d_163_13 (v := 4) (by decide) ?_
  refine W_callS d_163_14 o_163 k_7_96 (by omega) x_135 rfl (Nat.le_of_ble_eq_true rfl) ?_
  refine W_if_eq (tgt := 31) d_163_17 (by decide) (fun h17 => ?_) (fun h17 => absurd (bI_ne.mpr (by decide)) h17)
  refine W_iload_n d_163_31 rfl ?_
  refine W_iconst d_163_32 (v := 5) (by decide) ?_
  refine W_icmp_ne (tgt := 45) d_163_33 (by decide) (fun h33 => absurd h33 (by decide)) (fun _ => ?_)
  refine W_aload_n d_163_36 rfl (by decide) ?_
  refine W_getf d_163_37 o_163 k_7_7 rfl rfl ?_
  refine W_iload_n d_163_40 rfl ?_
  refine W_mld (a := 0) d_163_41 rfl (by decide) (n := 12) rfl (vp_in_nI (by omega) (by decide)) (congrArg _ (nI_clamp (by omega))) ?_
  refine W_goto (tgt := 79) d_163_42 (by decide) ?_
  refine W_iret d_163_79 rt_163 rfl ?_
  exact ⟨rfl, rfl⟩
theorem q_163_6 {d : Nat} {g : mG} {N : Nat} {P : Nat → mC} {Y : tR} {S : Nat → Int32} {n : Nat} (hS0 : S 0 = nI n) (hn12 : n ≤ 12) {j : Nat} (hj : j < n) (hd : 4 ≤ d) : Ex d 163 [.ref 92, .int (nI j), .int 6] (N, H3 g P (mm Y S)) (some (.int (Y 1 j))) (N, H3 g P (mm Y S)) := by
  refine Ex.of ?_
  show Wp _ 163 0 [.ref 92, .int (nI j), .int 6] [] _ _
  refine W_aload_n d_163_0 rfl (by decide) ?_
  refine W_iload_n d_163_1 rfl ?_
  refine W_callV d_163_2 o_163 (Or.inl k_7_182) (by omega) (x_137 hS0 hn12 (by omega)) rfl (mrecv_of rfl o_137.symm) rfl (Nat.le_of_ble_eq_true rfl) ?_
  refine W_if_ne (tgt := 11) d_163_5 (by decide) (fun h5 => ?_) (fun h5 => absurd h5 (fun q => bI_f q ⟨nI_pos' (by omega), nI_lt hj (by omega)⟩))
  refine W_iload_n d_163_11 rfl ?_
  refine W_iconst d_163_12 (v := 0) (by decide) ?_
  refine W_iconst d_163_13 (v := 4) (by decide) ?_
  refine W_callS d_163_14 o_163 k_7_96 (by omega) x_135 rfl (Nat.le_of_ble_eq_true rfl) ?_
  refine W_if_eq (tgt := 31) d_163_17 (by decide) (fun h17 => ?_) (fun h17 => absurd (bI_ne.mpr (by decide)) h17)
  refine W_iload_n d_163_31 rfl ?_
  refine W_iconst d_163_32 (v := 5) (by decide) ?_
  refine W_icmp_ne (tgt := 45) d_163_33 (by decide) (fun _ => ?_) (fun h33 => absurd h33 (by decide))
  refine W_iload_n d_163_45 rfl ?_
  refine W_bipush d_163_46 (v := 6) (by decide) ?_
  refine W_icmp_ne (tgt := 60) d_163_48 (by decide) (fun h48 => absurd h48 (by decide)) (fun _ => ?_)
  refine W_aload_n d_163_51 rfl (by decide) ?_
  refine W_getf d_163_52 o_163 k_7_13 rfl rfl ?_
  refine W_iload_n d_163_55 rfl ?_
  refine W_mld (a := 1) d_163_56 rfl (by decide) (n := 12) rfl (vp_in_nI (by omega) (by decide)) (congrArg _ (nI_clamp (by omega))) ?_
  refine W_goto (tgt := 79) d_163_57 (by decide) ?_
  refine W_iret d_163_79 rt_163 rfl ?_
  exact ⟨rfl, rfl⟩
theorem q_163_7 {d : Nat} {g : mG} {N : Nat} {P : Nat → mC} {Y : tR} {S : Nat → Int32} {n : Nat} (hS0 : S 0 = nI n) (hn12 : n ≤ 12) {j : Nat} (hj : j < n) (hd : 4 ≤ d) : Ex d 163 [.ref 92, .int (nI j), .int 7] (N, H3 g P (mm Y S)) (some (.int (Y 3 (j / 2)))) (N, H3 g P (mm Y S)) := by
  refine Ex.of ?_
  show Wp _ 163 0 [.ref 92, .int (nI j), .int 7] [] _ _
  refine W_aload_n d_163_0 rfl (by decide) ?_
  refine W_iload_n d_163_1 rfl ?_
  refine W_callV d_163_2 o_163 (Or.inl k_7_182) (by omega) (x_137 hS0 hn12 (by omega)) rfl (mrecv_of rfl o_137.symm) rfl (Nat.le_of_ble_eq_true rfl) ?_
  refine W_if_ne (tgt := 11) d_163_5 (by decide) (fun h5 => ?_) (fun h5 => absurd h5 (fun q => bI_f q ⟨nI_pos' (by omega), nI_lt hj (by omega)⟩))
  refine W_iload_n d_163_11 rfl ?_
  refine W_iconst d_163_12 (v := 0) (by decide) ?_
  refine W_iconst d_163_13 (v := 4) (by decide) ?_
  refine W_callS d_163_14 o_163 k_7_96 (by omega) x_135 rfl (Nat.le_of_ble_eq_true rfl) ?_
  refine W_if_eq (tgt := 31) d_163_17 (by decide) (fun h17 => ?_) (fun h17 => absurd (bI_ne.mpr (by decide)) h17)
  refine W_iload_n d_163_31 rfl ?_
  refine W_iconst d_163_32 (v := 5) (by decide) ?_
  refine W_icmp_ne (tgt := 45) d_163_33 (by decide) (fun _ => ?_) (fun h33 => absurd h33 (by decide))
  refine W_iload_n d_163_45 rfl ?_
  refine W_bipush d_163_46 (v := 6) (by decide) ?_
  refine W_icmp_ne (tgt := 60) d_163_48 (by decide) (fun _ => ?_) (fun h48 => absurd h48 (by decide))
  refine W_iload_n d_163_60 rfl ?_
  refine W_bipush d_163_61 (v := 7) (by decide) ?_
  refine W_icmp_ne (tgt := 77) d_163_63 (by decide) (fun h63 => absurd h63 (by decide)) (fun _ => ?_)
  refine W_aload_n d_163_66 rfl (by decide) ?_
  refine W_getf d_163_67 o_163 k_7_19 rfl rfl ?_
  refine W_iload_n d_163_70 rfl ?_
  refine W_iconst d_163_71 (v := 2) (by decide) ?_
  refine W_idiv d_163_72 (by decide) ?_
  rw [show ((nI j / 2 : Int32)) = nI (j / 2) from pk_div (a := j) (d := 2) (by omega) (by decide) (by decide)]
  refine W_mld (a := 3) d_163_73 rfl (by decide) (n := 6) rfl (vp_in_nI (by omega) (by decide)) (congrArg _ (nI_clamp (by omega))) ?_
  refine W_goto (tgt := 79) d_163_74 (by decide) ?_
  refine W_iret d_163_79 rt_163 rfl ?_
  exact ⟨rfl, rfl⟩
theorem q_163b {d : Nat} {g : mG} {N : Nat} {P : Nat → mC} {Y : tR} {S : Nat → Int32} {n : Nat} (hS0 : S 0 = nI n) (hn12 : n ≤ 12) {j : Nat} (hj : j < n) {w : Int32} (hb : ¬ (0 ≤ w ∧ w ≤ 4)) (n5 : ¬ w = 5) (n6 : ¬ w = 6) (n7 : ¬ w = 7) (hd : 4 ≤ d) : Ex d 163 [.ref 92, .int (nI j), .int w] (N, H3 g P (mm Y S)) (some (.int (-7))) (N, H3 g P (mm Y S)) := by
  refine Ex.of ?_
  show Wp _ 163 0 [.ref 92, .int (nI j), .int w] [] _ _
  refine W_aload_n d_163_0 rfl (by decide) ?_
  refine W_iload_n d_163_1 rfl ?_
  refine W_callV d_163_2 o_163 (Or.inl k_7_182) (by omega) (x_137 hS0 hn12 (by omega)) rfl (mrecv_of rfl o_137.symm) rfl (Nat.le_of_ble_eq_true rfl) ?_
  refine W_if_ne (tgt := 11) d_163_5 (by decide) (fun h5 => ?_) (fun h5 => absurd h5 (fun q => bI_f q ⟨nI_pos' (by omega), nI_lt hj (by omega)⟩))
  refine W_iload_n d_163_11 rfl ?_
  refine W_iconst d_163_12 (v := 0) (by decide) ?_
  refine W_iconst d_163_13 (v := 4) (by decide) ?_
  refine W_callS d_163_14 o_163 k_7_96 (by omega) x_135 rfl (Nat.le_of_ble_eq_true rfl) ?_
  refine W_if_eq (tgt := 31) d_163_17 (by decide) (fun h17 => ?_) (fun h17 => absurd (bI_ne.mpr hb) h17)
  refine W_iload_n d_163_31 rfl ?_
  refine W_iconst d_163_32 (v := 5) (by decide) ?_
  refine W_icmp_ne (tgt := 45) d_163_33 (by decide) (fun h33 => ?_) (fun h33 => absurd h33 n5)
  refine W_iload_n d_163_45 rfl ?_
  refine W_bipush d_163_46 (v := 6) (by decide) ?_
  refine W_icmp_ne (tgt := 60) d_163_48 (by decide) (fun h48 => ?_) (fun h48 => absurd h48 n6)
  refine W_iload_n d_163_60 rfl ?_
  refine W_bipush d_163_61 (v := 7) (by decide) ?_
  refine W_icmp_ne (tgt := 77) d_163_63 (by decide) (fun h63 => ?_) (fun h63 => absurd h63 n7)
  refine W_bipush d_163_77 (v := (-7)) (by decide) ?_
  refine W_iret d_163_79 rt_163 rfl ?_
  exact ⟨rfl, rfl⟩
theorem q_164b {d : Nat} {g : mG} {N : Nat} {P : Nat → mC} {Y : tR} {S : Nat → Int32} {a t : Int32} (hb : ¬ ((0 ≤ a ∧ a ≤ 23) ∧ (0 ≤ t ∧ t ≤ 1))) (hd : 4 ≤ d) : Ex d 164 [.ref 92, .int a, .int t] (N, H3 g P (mm Y S)) (some (.int (-2))) (N, H3 g P (mm Y S)) := by
  refine Ex.of ?_
  show Wp _ 164 0 [.ref 92, .int a, .int t] [] _ _
  refine W_iload_n d_164_0 rfl ?_
  refine W_iconst d_164_1 (v := 0) (by decide) ?_
  refine W_bipush d_164_2 (v := 23) (by decide) ?_
  refine W_callS d_164_4 o_164 k_7_96 (by omega) x_135 rfl (Nat.le_of_ble_eq_true rfl) ?_
  refine W_if_eq (tgt := 19) d_164_7 (by decide) (fun h7 => ?_) (fun h7 => ?_)
  · refine W_bipush d_164_19 (v := (-2)) (by decide) ?_
    refine W_iret d_164_21 rt_164 rfl ?_
    exact ⟨rfl, rfl⟩
  · refine W_iload_n d_164_10 rfl ?_
    refine W_iconst d_164_11 (v := 0) (by decide) ?_
    refine W_iconst d_164_12 (v := 1) (by decide) ?_
    refine W_callS d_164_13 o_164 k_7_96 (by omega) x_135 rfl (Nat.le_of_ble_eq_true rfl) ?_
    refine W_if_ne (tgt := 22) d_164_16 (by decide) (fun h16 => ?_) (fun h16 => ?_)
    · exact (hb ⟨bI_t h7, bI_t h16⟩).elim
    · refine W_bipush d_164_19 (v := (-2)) (by decide) ?_
      refine W_iret d_164_21 rt_164 rfl ?_
      exact ⟨rfl, rfl⟩
theorem q_164f {d : Nat} {g : mG} {N : Nat} {P : Nat → mC} {Y : tR} {S : Nat → Int32} {a t : Int32} (hb : (0 ≤ a ∧ a ≤ 23) ∧ (0 ≤ t ∧ t ≤ 1)) (hS5 : S 5 = nI 6) (hd : 4 ≤ d) : Ex d 164 [.ref 92, .int a, .int t] (N, H3 g P (mm Y S)) (some (.int (-4))) (N, H3 g P (mm Y S)) := by
  refine Ex.of ?_
  show Wp _ 164 0 [.ref 92, .int a, .int t] [] _ _
  refine W_iload_n d_164_0 rfl ?_
  refine W_iconst d_164_1 (v := 0) (by decide) ?_
  refine W_bipush d_164_2 (v := 23) (by decide) ?_
  refine W_callS d_164_4 o_164 k_7_96 (by omega) x_135 rfl (Nat.le_of_ble_eq_true rfl) ?_
  refine W_if_eq (tgt := 19) d_164_7 (by decide) (fun h7 => absurd h7 (fun q => bI_f q hb.1)) (fun h7 => ?_)
  refine W_iload_n d_164_10 rfl ?_
  refine W_iconst d_164_11 (v := 0) (by decide) ?_
  refine W_iconst d_164_12 (v := 1) (by decide) ?_
  refine W_callS d_164_13 o_164 k_7_96 (by omega) x_135 rfl (Nat.le_of_ble_eq_true rfl) ?_
  refine W_if_ne (tgt := 22) d_164_16 (by decide) (fun h16 => ?_) (fun h16 => absurd h16 (fun q => bI_f q hb.2))
  refine W_aload_n d_164_22 rfl (by decide) ?_
  refine W_getf d_164_23 o_164 k_7_100 rfl rfl ?_
  rw [hS5]
  refine W_bipush d_164_26 (v := 6) (by decide) ?_
  refine W_icmp_ne (tgt := 34) d_164_28 (by decide) (fun h28 => absurd (show nI 6 = 6 from rfl) h28) (fun h28 => ?_)
  refine W_bipush d_164_31 (v := (-4)) (by decide) ?_
  refine W_iret d_164_33 rt_164 rfl ?_
  exact ⟨rfl, rfl⟩
theorem q_164 {d : Nat} {g : mG} {N : Nat} {P : Nat → mC} {Y : tR} {S : Nat → Int32} {a t : Int32} (hb : (0 ≤ a ∧ a ≤ 23) ∧ (0 ≤ t ∧ t ≤ 1)) {p : Nat} (hS5 : S 5 = nI p) (hp6 : p < 6) (hd : 4 ≤ d) : Ex d 164 [.ref 92, .int a, .int t] (N, H3 g P (mm Y S)) (some (.int (nI (p + 1)))) (N, H3 g P (mm (u2 (u2 Y 4 p a) 5 p t) (va_up S 5 (nI (p + 1))))) := by
  refine Ex.of ?_
  show Wp _ 164 0 [.ref 92, .int a, .int t] [] _ _
  refine W_iload_n d_164_0 rfl ?_
  refine W_iconst d_164_1 (v := 0) (by decide) ?_
  refine W_bipush d_164_2 (v := 23) (by decide) ?_
  refine W_callS d_164_4 o_164 k_7_96 (by omega) x_135 rfl (Nat.le_of_ble_eq_true rfl) ?_
  refine W_if_eq (tgt := 19) d_164_7 (by decide) (fun h7 => absurd h7 (fun q => bI_f q hb.1)) (fun h7 => ?_)
  refine W_iload_n d_164_10 rfl ?_
  refine W_iconst d_164_11 (v := 0) (by decide) ?_
  refine W_iconst d_164_12 (v := 1) (by decide) ?_
  refine W_callS d_164_13 o_164 k_7_96 (by omega) x_135 rfl (Nat.le_of_ble_eq_true rfl) ?_
  refine W_if_ne (tgt := 22) d_164_16 (by decide) (fun h16 => ?_) (fun h16 => absurd h16 (fun q => bI_f q hb.2))
  refine W_aload_n d_164_22 rfl (by decide) ?_
  refine W_getf d_164_23 o_164 k_7_100 rfl rfl ?_
  rw [hS5]
  refine W_bipush d_164_26 (v := 6) (by decide) ?_
  refine W_icmp_ne (tgt := 34) d_164_28 (by decide) (fun h28 => ?_) (fun h28 => absurd h28 (fun q => absurd ((nI_eq (a := p) (b := 6) (by omega) (by omega)).mp q) (show ¬ p = 6 by omega)))
  refine W_aload_n d_164_34 rfl (by decide) ?_
  refine W_getf d_164_35 o_164 k_7_22 rfl rfl ?_
  refine W_aload_n d_164_38 rfl (by decide) ?_
  refine W_getf d_164_39 o_164 k_7_100 rfl rfl ?_
  rw [hS5]
  refine W_iload_n d_164_42 rfl ?_
  refine W_mst (a := 4) d_164_43 rfl (by decide) (n := 6) rfl (vp_in_nI (by omega) (by decide)) (nI_clamp (by omega)) ?_
  refine W_aload_n d_164_44 rfl (by decide) ?_
  refine W_getf d_164_45 o_164 k_7_25 rfl rfl ?_
  refine W_aload_n d_164_48 rfl (by decide) ?_
  refine W_getf d_164_49 o_164 k_7_100 rfl rfl ?_
  rw [hS5]
  refine W_iload_n d_164_52 rfl ?_
  refine W_mst (a := 5) d_164_53 rfl (by decide) (n := 6) rfl (vp_in_nI (by omega) (by decide)) (nI_clamp (by omega)) ?_
  refine W_aload_n d_164_54 rfl (by decide) ?_
  refine W_dup d_164_55 rfl ?_
  refine W_getf d_164_56 o_164 k_7_100 rfl rfl ?_
  rw [hS5]
  refine W_iconst d_164_59 (v := 1) (by decide) ?_
  refine W_iadd d_164_60 ?_
  rw [show ((nI p + 1 : Int32)) = nI (p + 1) from nI_add p 1]
  refine W_putf d_164_61 o_164 k_7_100 rfl (Nat.le_of_ble_eq_true rfl) rfl mm_s5 ?_
  refine W_aload_n d_164_64 rfl (by decide) ?_
  refine W_getf d_164_65 o_164 k_7_100 rfl rfl ?_
  refine W_iret d_164_68 rt_164 rfl ?_
  exact ⟨rfl, rfl⟩
theorem q_166n {d : Nat} {g : mG} {N : Nat} {P : Nat → mC} {Y : tR} {S : Nat → Int32} {p : Nat} (hS5 : S 5 = nI p) (hp6 : p ≤ 6) {v : Int32} (hb : ¬ (0 ≤ v ∧ v < nI p)) (hd : 4 ≤ d) : Ex d 166 [.ref 92, .int v] (N, H3 g P (mm Y S)) (some (.int (-6))) (N, H3 g P (mm Y S)) := by
  refine Ex.of ?_
  show Wp _ 166 0 [.ref 92, .int v] [] _ _
  refine W_aload_n d_166_0 rfl (by decide) ?_
  refine W_iload_n d_166_1 rfl ?_
  refine W_callV d_166_2 o_166 (Or.inl k_7_191) (by omega) (x_138 hS5 (by omega) (by omega)) rfl (mrecv_of rfl o_138.symm) rfl (Nat.le_of_ble_eq_true rfl) ?_
  refine W_if_eq (tgt := 27) d_166_5 (by decide) (fun h5 => ?_) (fun h5 => absurd (bI_ne.mpr hb) h5)
  refine W_bipush d_166_27 (v := (-6)) (by decide) ?_
  refine W_iret d_166_29 rt_166 rfl ?_
  exact ⟨rfl, rfl⟩
theorem q_166 {d : Nat} {g : mG} {N : Nat} {P : Nat → mC} {Y : tR} {S : Nat → Int32} {p : Nat} (hS5 : S 5 = nI p) (hp6 : p ≤ 6) {k : Nat} (hk : k < p) (hd : 4 ≤ d) : Ex d 166 [.ref 92, .int (nI k)] (N, H3 g P (mm Y S)) (some (.int (10 * Y 4 k + Y 5 k))) (N, H3 g P (mm Y S)) := by
  refine Ex.of ?_
  show Wp _ 166 0 [.ref 92, .int (nI k)] [] _ _
  refine W_aload_n d_166_0 rfl (by decide) ?_
  refine W_iload_n d_166_1 rfl ?_
  refine W_callV d_166_2 o_166 (Or.inl k_7_191) (by omega) (x_138 hS5 (by omega) (by omega)) rfl (mrecv_of rfl o_138.symm) rfl (Nat.le_of_ble_eq_true rfl) ?_
  refine W_if_eq (tgt := 27) d_166_5 (by decide) (fun h5 => absurd h5 (fun q => bI_f q ⟨nI_pos' (by omega), nI_lt hk (by omega)⟩)) (fun h5 => ?_)
  refine W_bipush d_166_8 (v := 10) (by decide) ?_
  refine W_aload_n d_166_10 rfl (by decide) ?_
  refine W_getf d_166_11 o_166 k_7_22 rfl rfl ?_
  refine W_iload_n d_166_14 rfl ?_
  refine W_mld (a := 4) d_166_15 rfl (by decide) (n := 6) rfl (vp_in_nI (by omega) (by decide)) (congrArg _ (nI_clamp (by omega))) ?_
  refine W_imul d_166_16 ?_
  refine W_aload_n d_166_17 rfl (by decide) ?_
  refine W_getf d_166_18 o_166 k_7_25 rfl rfl ?_
  refine W_iload_n d_166_21 rfl ?_
  refine W_mld (a := 5) d_166_22 rfl (by decide) (n := 6) rfl (vp_in_nI (by omega) (by decide)) (congrArg _ (nI_clamp (by omega))) ?_
  refine W_iadd d_166_23 ?_
  refine W_goto (tgt := 29) d_166_24 (by decide) ?_
  refine W_iret d_166_29 rt_166 rfl ?_
  exact ⟨rfl, rfl⟩
theorem q_165a {d : Nat} {g : mG} {N : Nat} {P : Nat → mC} {Y : tR} {S : Nat → Int32} {p : Nat} (hS5 : S 5 = nI p) (hp6 : p ≤ 6) {v a t : Int32} (hb : ¬ (0 ≤ v ∧ v < nI p)) (hd : 4 ≤ d) : Ex d 165 [.ref 92, .int v, .int a, .int t] (N, H3 g P (mm Y S)) (some (.int (-6))) (N, H3 g P (mm Y S)) := by
  refine Ex.of ?_
  show Wp _ 165 0 [.ref 92, .int v, .int a, .int t, .null] [] _ _
  refine W_aload_n d_165_0 rfl (by decide) ?_
  refine W_iload_n d_165_1 rfl ?_
  refine W_callV d_165_2 o_165 (Or.inl k_7_191) (by omega) (x_138 hS5 (by omega) (by omega)) rfl (mrecv_of rfl o_138.symm) rfl (Nat.le_of_ble_eq_true rfl) ?_
  refine W_if_ne (tgt := 11) d_165_5 (by decide) (fun h5 => absurd (bI_ne.mpr hb) h5) (fun h5 => ?_)
  refine W_bipush d_165_8 (v := (-6)) (by decide) ?_
  refine W_iret d_165_10 rt_165 rfl ?_
  exact ⟨rfl, rfl⟩
theorem q_165b {d : Nat} {g : mG} {N : Nat} {P : Nat → mC} {Y : tR} {S : Nat → Int32} {p : Nat} (hS5 : S 5 = nI p) (hp6 : p ≤ 6) {k : Nat} (hk : k < p) {a t : Int32} (hb : ¬ ((0 ≤ a ∧ a ≤ 23) ∧ (0 ≤ t ∧ t ≤ 1))) (hd : 4 ≤ d) : Ex d 165 [.ref 92, .int (nI k), .int a, .int t] (N, H3 g P (mm Y S)) (some (.int (-7))) (N, H3 g P (mm Y S)) := by
  refine Ex.of ?_
  show Wp _ 165 0 [.ref 92, .int (nI k), .int a, .int t, .null] [] _ _
  refine W_aload_n d_165_0 rfl (by decide) ?_
  refine W_iload_n d_165_1 rfl ?_
  refine W_callV d_165_2 o_165 (Or.inl k_7_191) (by omega) (x_138 hS5 (by omega) (by omega)) rfl (mrecv_of rfl o_138.symm) rfl (Nat.le_of_ble_eq_true rfl) ?_
  refine W_if_ne (tgt := 11) d_165_5 (by decide) (fun h5 => ?_) (fun h5 => absurd h5 (fun q => bI_f q ⟨nI_pos' (by omega), nI_lt hk (by omega)⟩))
  refine W_iload_n d_165_11 rfl ?_
  refine W_iconst d_165_12 (v := 0) (by decide) ?_
  refine W_bipush d_165_13 (v := 23) (by decide) ?_
  refine W_callS d_165_15 o_165 k_7_96 (by omega) x_135 rfl (Nat.le_of_ble_eq_true rfl) ?_
  refine W_if_eq (tgt := 30) d_165_18 (by decide) (fun h18 => ?_) (fun h18 => ?_)
  · refine W_bipush d_165_30 (v := (-7)) (by decide) ?_
    refine W_iret d_165_32 rt_165 rfl ?_
    exact ⟨rfl, rfl⟩
  · refine W_iload_n d_165_21 rfl ?_
    refine W_iconst d_165_22 (v := 0) (by decide) ?_
    refine W_iconst d_165_23 (v := 1) (by decide) ?_
    refine W_callS d_165_24 o_165 k_7_96 (by omega) x_135 rfl (Nat.le_of_ble_eq_true rfl) ?_
    refine W_if_ne (tgt := 33) d_165_27 (by decide) (fun h27 => ?_) (fun h27 => ?_)
    · exact (hb ⟨bI_t h18, bI_t h27⟩).elim
    · refine W_bipush d_165_30 (v := (-7)) (by decide) ?_
      refine W_iret d_165_32 rt_165 rfl ?_
      exact ⟨rfl, rfl⟩
theorem q_165 {d : Nat} {g : mG} {N : Nat} {P : Nat → mC} {Y : tR} {S : Nat → Int32} {p : Nat} (hS5 : S 5 = nI p) (hp6 : p ≤ 6) {k : Nat} (hk : k < p) {a t : Int32} (hb : (0 ≤ a ∧ a ≤ 23) ∧ (0 ≤ t ∧ t ≤ 1)) (hd : 9 ≤ d) : Ex d 165 [.ref 92, .int (nI k), .int a, .int t] (N, H3 g P (mm Y S)) (some (.int (10 * Y 4 k + Y 5 k))) (N, H3 g P (mm (u2 (u2 Y 4 k a) 5 k t) S)) := by
  refine Ex.of ?_
  show Wp _ 165 0 [.ref 92, .int (nI k), .int a, .int t, .null] [] _ _
  refine W_aload_n d_165_0 rfl (by decide) ?_
  refine W_iload_n d_165_1 rfl ?_
  refine W_callV d_165_2 o_165 (Or.inl k_7_191) (by omega) (x_138 hS5 (by omega) (by omega)) rfl (mrecv_of rfl o_138.symm) rfl (Nat.le_of_ble_eq_true rfl) ?_
  refine W_if_ne (tgt := 11) d_165_5 (by decide) (fun h5 => ?_) (fun h5 => absurd h5 (fun q => bI_f q ⟨nI_pos' (by omega), nI_lt hk (by omega)⟩))
  refine W_iload_n d_165_11 rfl ?_
  refine W_iconst d_165_12 (v := 0) (by decide) ?_
  refine W_bipush d_165_13 (v := 23) (by decide) ?_
  refine W_callS d_165_15 o_165 k_7_96 (by omega) x_135 rfl (Nat.le_of_ble_eq_true rfl) ?_
  refine W_if_eq (tgt := 30) d_165_18 (by decide) (fun h18 => absurd h18 (fun q => bI_f q hb.1)) (fun h18 => ?_)
  refine W_iload_n d_165_21 rfl ?_
  refine W_iconst d_165_22 (v := 0) (by decide) ?_
  refine W_iconst d_165_23 (v := 1) (by decide) ?_
  refine W_callS d_165_24 o_165 k_7_96 (by omega) x_135 rfl (Nat.le_of_ble_eq_true rfl) ?_
  refine W_if_ne (tgt := 33) d_165_27 (by decide) (fun h27 => ?_) (fun h27 => absurd h27 (fun q => bI_f q hb.2))
  refine W_aload_n d_165_33 rfl (by decide) ?_
  refine W_iload_n d_165_34 rfl ?_
  refine W_callV d_165_35 o_165 (Or.inl k_7_194) (by omega) (q_166 hS5 hp6 hk (by omega)) rfl (mrecv_of rfl o_166.symm) rfl (Nat.le_of_ble_eq_true rfl) ?_
  refine W_istore d_165_38 rfl ?_
  refine W_aload_n d_165_40 rfl (by decide) ?_
  refine W_getf d_165_41 o_165 k_7_22 rfl rfl ?_
  refine W_iload_n d_165_44 rfl ?_
  refine W_iload_n d_165_45 rfl ?_
  refine W_mst (a := 4) d_165_46 rfl (by decide) (n := 6) rfl (vp_in_nI (by omega) (by decide)) (nI_clamp (by omega)) ?_
  refine W_aload_n d_165_47 rfl (by decide) ?_
  refine W_getf d_165_48 o_165 k_7_25 rfl rfl ?_
  refine W_iload_n d_165_51 rfl ?_
  refine W_iload_n d_165_52 rfl ?_
  refine W_mst (a := 5) d_165_53 rfl (by decide) (n := 6) rfl (vp_in_nI (by omega) (by decide)) (nI_clamp (by omega)) ?_
  refine W_iload d_165_54 rfl ?_
  refine W_iret d_165_56 rt_165 rfl ?_
  exact ⟨rfl, rfl⟩
theorem q_206a {d : Nat} {g : mG} {N : Nat} {P : Nat → mC} {Y : tR} {S : Nat → Int32} {v so w : Int32} (hb : ¬ ((0 ≤ v ∧ v ≤ 3) ∧ (-1 ≤ so ∧ so ≤ 2) ∧ (so = -1 ∨ w ≤ 40))) (hd : 4 ≤ d) : Ex d 206 [.ref 92, .int v, .int so, .int w] (N, H3 g P (mm Y S)) (some (.int (-2))) (N, H3 g P (mm Y S)) := by
  refine Ex.of ?_
  show Wp _ 206 0 [.ref 92, .int v, .int so, .int w, .null] [] _ _
  refine W_iload_n d_206_0 rfl ?_
  refine W_iconst d_206_1 (v := 0) (by decide) ?_
  refine W_iconst d_206_2 (v := 3) (by decide) ?_
  refine W_callS d_206_3 o_206 k_7_96 (by omega) x_135 rfl (Nat.le_of_ble_eq_true rfl) ?_
  refine W_if_eq (tgt := 29) d_206_6 (by decide) (fun h6 => ?_) (fun h6 => ?_)
  · refine W_bipush d_206_29 (v := (-2)) (by decide) ?_
    refine W_iret d_206_31 rt_206 rfl ?_
    exact ⟨rfl, rfl⟩
  · refine W_iload_n d_206_9 rfl ?_
    refine W_iconst d_206_10 (v := (-1)) (by decide) ?_
    refine W_iconst d_206_11 (v := 2) (by decide) ?_
    refine W_callS d_206_12 o_206 k_7_96 (by omega) x_135 rfl (Nat.le_of_ble_eq_true rfl) ?_
    refine W_if_eq (tgt := 29) d_206_15 (by decide) (fun h15 => ?_) (fun h15 => ?_)
    · refine W_bipush d_206_29 (v := (-2)) (by decide) ?_
      refine W_iret d_206_31 rt_206 rfl ?_
      exact ⟨rfl, rfl⟩
    · refine W_iload_n d_206_18 rfl ?_
      refine W_iconst d_206_19 (v := (-1)) (by decide) ?_
      refine W_icmp_eq (tgt := 32) d_206_20 (by decide) (fun h20 => ?_) (fun h20 => ?_)
      · first | exact (hb ⟨bI_t h6, bI_t h15, Or.inl h20⟩).elim | exact (hb ⟨bI_t h6, bI_t h15, Or.inr h26⟩).elim
      · refine W_iload_n d_206_23 rfl ?_
        refine W_bipush d_206_24 (v := 40) (by decide) ?_
        refine W_icmp_le (tgt := 32) d_206_26 (by decide) (fun h26 => ?_) (fun h26 => ?_)
        · first | exact (hb ⟨bI_t h6, bI_t h15, Or.inl h20⟩).elim | exact (hb ⟨bI_t h6, bI_t h15, Or.inr h26⟩).elim
        · refine W_bipush d_206_29 (v := (-2)) (by decide) ?_
          refine W_iret d_206_31 rt_206 rfl ?_
          exact ⟨rfl, rfl⟩
theorem q_206b {d : Nat} {g : mG} {N : Nat} {P : Nat → mC} {Y : tR} {S : Nat → Int32} {s : Nat} (hs : s < 4) {so w : Int32} (hso : -1 ≤ so ∧ so ≤ 2) (hn1 : ¬ so = -1) (hw : w ≤ 40) (h0 : w < 0) (hd : 4 ≤ d) : Ex d 206 [.ref 92, .int (nI s), .int so, .int w] (N, H3 g P (mm Y S)) (some (.int (-14))) (N, H3 g P (mm Y S)) := by
  refine Ex.of ?_
  show Wp _ 206 0 [.ref 92, .int (nI s), .int so, .int w, .null] [] _ _
  refine W_iload_n d_206_0 rfl ?_
  refine W_iconst d_206_1 (v := 0) (by decide) ?_
  refine W_iconst d_206_2 (v := 3) (by decide) ?_
  refine W_callS d_206_3 o_206 k_7_96 (by omega) x_135 rfl (Nat.le_of_ble_eq_true rfl) ?_
  refine W_if_eq (tgt := 29) d_206_6 (by decide) (fun h6 => absurd h6 (fun q => bI_f q ⟨nI_pos' (by omega), nI_le (a := s) (b := 3) (by omega) (by decide)⟩)) (fun h6 => ?_)
  refine W_iload_n d_206_9 rfl ?_
  refine W_iconst d_206_10 (v := (-1)) (by decide) ?_
  refine W_iconst d_206_11 (v := 2) (by decide) ?_
  refine W_callS d_206_12 o_206 k_7_96 (by omega) x_135 rfl (Nat.le_of_ble_eq_true rfl) ?_
  refine W_if_eq (tgt := 29) d_206_15 (by decide) (fun h15 => absurd h15 (fun q => bI_f q hso)) (fun h15 => ?_)
  refine W_iload_n d_206_18 rfl ?_
  refine W_iconst d_206_19 (v := (-1)) (by decide) ?_
  refine W_icmp_eq (tgt := 32) d_206_20 (by decide) (fun h20 => absurd h20 hn1) (fun h20 => ?_)
  refine W_iload_n d_206_23 rfl ?_
  refine W_bipush d_206_24 (v := 40) (by decide) ?_
  refine W_icmp_le (tgt := 32) d_206_26 (by decide) (fun h26 => ?_) (fun h26 => absurd hw h26)
  refine W_iload_n d_206_32 rfl ?_
  refine W_iconst d_206_33 (v := (-1)) (by decide) ?_
  refine W_icmp_eq (tgt := 44) d_206_34 (by decide) (fun h34 => absurd h34 hn1) (fun h34 => ?_)
  refine W_iload_n d_206_37 rfl ?_
  refine W_if_ge (tgt := 44) d_206_38 (by decide) (fun h38 => absurd h38 (Int32.not_le.mpr h0)) (fun h38 => ?_)
  refine W_bipush d_206_41 (v := (-14)) (by decide) ?_
  refine W_iret d_206_43 rt_206 rfl ?_
  exact ⟨rfl, rfl⟩
def SHX (s : Nat) (so sz : Int32) (f : Nat → Int32) (Y Y' : tR) : Prop := (∀ i, ¬ (i = 11 ∨ i = 12 ∨ i = 13) → Y' i = Y i) ∧ Y' 11 = va_up (Y 11) s so ∧ Y' 12 = va_up (Y 12) s sz ∧ (∀ k, k < 40 → Y' 13 (40 * s + k) = f k) ∧ ∀ k, ¬ (40 * s ≤ k ∧ k < 40 * s + 40) → Y' 13 k = Y 13 k
theorem lq_206 {d : Nat} {g : mG} {N : Nat} {P : Nat → mC} {Y0 : tR} {S0 : Nat → Int32} {s : Nat} (hs : s < 4) {so w : Int32} (hd : 0 ≤ d) {Q : Option Value → mM → Prop} (kk : ∀ (Y : tR) (S : Nat → Int32) , ((∀ a, ¬ a = 13 → Y a = Y0 a) ∧ S = S0 ∧ (∀ k, k < 40 → Y 13 (40 * s + k) = 0) ∧ ∀ k, ¬ (40 * s ≤ k ∧ k < 40 * s + 40) → Y 13 k = Y0 13 k) → Wp d 206 96 [.ref 92, .int (nI s), .int so, .int w, .int (nI 40)] [] (N, H3 g P (mm Y S)) Q) : ∀ (k i : Nat) (Y : tR) (S : Nat → Int32) , i + k = 40 → ((∀ a, ¬ a = 13 → Y a = Y0 a) ∧ S = S0 ∧ (∀ k, k < i → Y 13 (40 * s + k) = 0) ∧ ∀ k, ¬ (40 * s ≤ k ∧ k < 40 * s + 40) → Y 13 k = Y0 13 k) → Wp d 206 70 [.ref 92, .int (nI s), .int so, .int w, .int (nI i)] [] (N, H3 g P (mm Y S)) Q := by
  intro k
  induction k with
  | zero =>
    intro i Y S  hi hI
    have ei : i = 40 := by omega
    refine W_iload d_206_70 rfl ?_
    refine W_bipush d_206_72 (v := 40) (by decide) ?_
    refine W_icmp_ge (tgt := 96) d_206_74 (by decide) (fun h74 => ?_) (fun h74 => absurd (nI_le (a := 40) (b := i) (by omega) (by omega)) h74)
    rw [ei] at hI ⊢
    exact kk _ _ hI
  | succ k ih =>
    intro i Y S  hi hI
    refine W_iload d_206_70 rfl ?_
    refine W_bipush d_206_72 (v := 40) (by decide) ?_
    refine W_icmp_ge (tgt := 96) d_206_74 (by decide) (fun h74 => absurd h74 (nI_ge (a := i) (b := 40) (by omega) (by omega))) (fun h74 => ?_)
    refine W_aload_n d_206_77 rfl (by decide) ?_
    refine W_getf d_206_78 o_206 k_7_53 rfl rfl ?_
    refine W_bipush d_206_81 (v := 40) (by decide) ?_
    refine W_iload_n d_206_83 rfl ?_
    refine W_imul d_206_84 ?_
    rw [show ((40 * nI s : Int32)) = nI (40 * s) from pk_mul 40 s]
    refine W_iload d_206_85 rfl ?_
    refine W_iadd d_206_87 ?_
    rw [show ((nI (40 * s) + nI i : Int32)) = nI (40 * s + i) from nI_add (40 * s) i]
    refine W_iconst d_206_88 (v := 0) (by decide) ?_
    refine W_mst (a := 13) d_206_89 rfl (by decide) (n := 160) rfl (vp_in_nI (by omega) (by decide)) (nI_clamp (by omega)) ?_
    refine W_iinc (v := 1) d_206_90 rfl (by decide) rfl ?_
    rw [show ((nI i + 1 : Int32)) = nI (i + 1) from nI_add i 1]
    refine W_goto (tgt := 70) d_206_93 (by decide) ?_
    refine ih (i + 1) _ _ (by omega) ⟨fun a ha => (u2_row ha).trans (hI.1 a ha), hI.2.1, fun k hk => ?_, fun k hk => ?_⟩
    · rw [u2_ap]
      by_cases e : k = i
      · rw [if_pos ⟨rfl, by omega⟩]
      · rw [if_neg (by omega)]; exact hI.2.2.1 k (by omega)
    · rw [u2_ap, if_neg (by omega)]; exact hI.2.2.2 k hk
theorem q_206 {d : Nat} {g : mG} {N : Nat} {P : Nat → mC} {Y : tR} {S : Nat → Int32} {s : Nat} (hs : s < 4) {so w : Int32} (hso : -1 ≤ so ∧ so ≤ 2) (hn1 : ¬ so = -1) (hw : w ≤ 40) (h0 : 0 ≤ w) (hd : 4 ≤ d) : Wp d 206 0 (ment 206 [.ref 92, .int (nI s), .int so, .int w]) [] (N, H3 g P (mm Y S)) (fun v M' => v = some (.int 1) ∧ ∃ Y', M' = (N, H3 g P (mm Y' S)) ∧ SHX s so w (fun _ => 0) Y Y') := by
  show Wp _ 206 0 [.ref 92, .int (nI s), .int so, .int w, .null] [] _ _
  refine W_iload_n d_206_0 rfl ?_
  refine W_iconst d_206_1 (v := 0) (by decide) ?_
  refine W_iconst d_206_2 (v := 3) (by decide) ?_
  refine W_callS d_206_3 o_206 k_7_96 (by omega) x_135 rfl (Nat.le_of_ble_eq_true rfl) ?_
  refine W_if_eq (tgt := 29) d_206_6 (by decide) (fun h6 => absurd h6 (fun q => bI_f q ⟨nI_pos' (by omega), nI_le (a := s) (b := 3) (by omega) (by decide)⟩)) (fun h6 => ?_)
  refine W_iload_n d_206_9 rfl ?_
  refine W_iconst d_206_10 (v := (-1)) (by decide) ?_
  refine W_iconst d_206_11 (v := 2) (by decide) ?_
  refine W_callS d_206_12 o_206 k_7_96 (by omega) x_135 rfl (Nat.le_of_ble_eq_true rfl) ?_
  refine W_if_eq (tgt := 29) d_206_15 (by decide) (fun h15 => absurd h15 (fun q => bI_f q hso)) (fun h15 => ?_)
  refine W_iload_n d_206_18 rfl ?_
  refine W_iconst d_206_19 (v := (-1)) (by decide) ?_
  refine W_icmp_eq (tgt := 32) d_206_20 (by decide) (fun h20 => absurd h20 hn1) (fun h20 => ?_)
  refine W_iload_n d_206_23 rfl ?_
  refine W_bipush d_206_24 (v := 40) (by decide) ?_
  refine W_icmp_le (tgt := 32) d_206_26 (by decide) (fun h26 => ?_) (fun h26 => absurd hw h26)
  refine W_iload_n d_206_32 rfl ?_
  refine W_iconst d_206_33 (v := (-1)) (by decide) ?_
  refine W_icmp_eq (tgt := 44) d_206_34 (by decide) (fun h34 => absurd h34 hn1) (fun h34 => ?_)
  refine W_iload_n d_206_37 rfl ?_
  refine W_if_ge (tgt := 44) d_206_38 (by decide) (fun h38 => ?_) (fun h38 => absurd h0 h38)
  refine W_aload_n d_206_44 rfl (by decide) ?_
  refine W_getf d_206_45 o_206 k_7_47 rfl rfl ?_
  refine W_iload_n d_206_48 rfl ?_
  refine W_iload_n d_206_49 rfl ?_
  refine W_mst (a := 11) d_206_50 rfl (by decide) (n := 4) rfl (vp_in_nI (by omega) (by decide)) (nI_clamp (by omega)) ?_
  refine W_aload_n d_206_51 rfl (by decide) ?_
  refine W_getf d_206_52 o_206 k_7_50 rfl rfl ?_
  refine W_iload_n d_206_55 rfl ?_
  refine W_iload_n d_206_56 rfl ?_
  refine W_iconst d_206_57 (v := (-1)) (by decide) ?_
  refine W_icmp_ne (tgt := 65) d_206_58 (by decide) (fun h58 => ?_) (fun h58 => absurd h58 hn1)
  refine W_iload_n d_206_65 rfl ?_
  refine W_mst (a := 12) d_206_66 rfl (by decide) (n := 4) rfl (vp_in_nI (by omega) (by decide)) (nI_clamp (by omega)) ?_
  refine W_iconst d_206_67 (v := 0) (by decide) ?_
  refine W_istore d_206_68 rfl ?_
  refine lq_206 (Y0 := u2 (u2 Y 11 s so) 12 s w) (S0 := S) hs (Nat.zero_le _) (fun Y2 S2 h2 => ?_) 40 0 _ _ (by omega) ⟨fun _ _ => rfl, rfl, fun k hk => absurd hk (by omega), fun _ _ => rfl⟩
  obtain ⟨b1, b2, b3, b4⟩ := h2
  subst b2
  refine W_iconst d_206_96 (v := 1) (by decide) ?_
  refine W_iret d_206_97 rt_206 rfl ?_
  refine ⟨rfl, Y2, rfl, (fun i hi => (b1 i (by omega)).trans ((u2_row (by omega)).trans (u2_row (by omega)))), ?_, ?_, b3, fun k hk => b4 k hk⟩
  · rw [b1 11 (by decide), u2_row (by decide)]; rfl
  · rw [b1 12 (by decide)]; rfl
theorem q_206m {d : Nat} {g : mG} {N : Nat} {P : Nat → mC} {Y : tR} {S : Nat → Int32} {s : Nat} (hs : s < 4) {w : Int32} (hd : 4 ≤ d) : Wp d 206 0 (ment 206 [.ref 92, .int (nI s), .int (-1), .int w]) [] (N, H3 g P (mm Y S)) (fun v M' => v = some (.int 1) ∧ ∃ Y', M' = (N, H3 g P (mm Y' S)) ∧ SHX s (-1) 0 (fun _ => 0) Y Y') := by
  show Wp _ 206 0 [.ref 92, .int (nI s), .int (-1), .int w, .null] [] _ _
  refine W_iload_n d_206_0 rfl ?_
  refine W_iconst d_206_1 (v := 0) (by decide) ?_
  refine W_iconst d_206_2 (v := 3) (by decide) ?_
  refine W_callS d_206_3 o_206 k_7_96 (by omega) x_135 rfl (Nat.le_of_ble_eq_true rfl) ?_
  refine W_if_eq (tgt := 29) d_206_6 (by decide) (fun h6 => absurd h6 (fun q => bI_f q ⟨nI_pos' (by omega), nI_le (a := s) (b := 3) (by omega) (by decide)⟩)) (fun h6 => ?_)
  refine W_iload_n d_206_9 rfl ?_
  refine W_iconst d_206_10 (v := (-1)) (by decide) ?_
  refine W_iconst d_206_11 (v := 2) (by decide) ?_
  refine W_callS d_206_12 o_206 k_7_96 (by omega) x_135 rfl (Nat.le_of_ble_eq_true rfl) ?_
  refine W_if_eq (tgt := 29) d_206_15 (by decide) (fun h15 => absurd h15 (fun q => bI_f q (by decide))) (fun h15 => ?_)
  refine W_iload_n d_206_18 rfl ?_
  refine W_iconst d_206_19 (v := (-1)) (by decide) ?_
  refine W_icmp_eq (tgt := 32) d_206_20 (by decide) (fun _ => ?_) (fun h20 => absurd h20 (by decide))
  refine W_iload_n d_206_32 rfl ?_
  refine W_iconst d_206_33 (v := (-1)) (by decide) ?_
  refine W_icmp_eq (tgt := 44) d_206_34 (by decide) (fun _ => ?_) (fun h34 => absurd h34 (by decide))
  refine W_aload_n d_206_44 rfl (by decide) ?_
  refine W_getf d_206_45 o_206 k_7_47 rfl rfl ?_
  refine W_iload_n d_206_48 rfl ?_
  refine W_iload_n d_206_49 rfl ?_
  refine W_mst (a := 11) d_206_50 rfl (by decide) (n := 4) rfl (vp_in_nI (by omega) (by decide)) (nI_clamp (by omega)) ?_
  refine W_aload_n d_206_51 rfl (by decide) ?_
  refine W_getf d_206_52 o_206 k_7_50 rfl rfl ?_
  refine W_iload_n d_206_55 rfl ?_
  refine W_iload_n d_206_56 rfl ?_
  refine W_iconst d_206_57 (v := (-1)) (by decide) ?_
  refine W_icmp_ne (tgt := 65) d_206_58 (by decide) (fun h58 => absurd h58 (by decide)) (fun _ => ?_)
  refine W_iconst d_206_61 (v := 0) (by decide) ?_
  refine W_goto (tgt := 66) d_206_62 (by decide) ?_
  refine W_mst (a := 12) d_206_66 rfl (by decide) (n := 4) rfl (vp_in_nI (by omega) (by decide)) (nI_clamp (by omega)) ?_
  refine W_iconst d_206_67 (v := 0) (by decide) ?_
  refine W_istore d_206_68 rfl ?_
  refine lq_206 (Y0 := u2 (u2 Y 11 s (-1)) 12 s 0) (S0 := S) hs (Nat.zero_le _) (fun Y2 S2 h2 => ?_) 40 0 _ _ (by omega) ⟨fun _ _ => rfl, rfl, fun k hk => absurd hk (by omega), fun _ _ => rfl⟩
  obtain ⟨b1, b2, b3, b4⟩ := h2
  subst b2
  refine W_iconst d_206_96 (v := 1) (by decide) ?_
  refine W_iret d_206_97 rt_206 rfl ?_
  refine ⟨rfl, Y2, rfl, (fun i hi => (b1 i (by omega)).trans ((u2_row (by omega)).trans (u2_row (by omega)))), ?_, ?_, b3, fun k hk => b4 k hk⟩
  · rw [b1 11 (by decide), u2_row (by decide)]; rfl
  · rw [b1 12 (by decide)]; rfl
theorem q_207a {d : Nat} {g : mG} {N : Nat} {P : Nat → mC} {Y : tR} {S : Nat → Int32} {v i w : Int32} (hb : ¬ (0 ≤ v ∧ v ≤ 3)) (hd : 4 ≤ d) : Ex d 207 [.ref 92, .int v, .int i, .int w] (N, H3 g P (mm Y S)) (some (.int (-2))) (N, H3 g P (mm Y S)) := by
  refine Ex.of ?_
  show Wp _ 207 0 [.ref 92, .int v, .int i, .int w] [] _ _
  refine W_iload_n d_207_0 rfl ?_
  refine W_iconst d_207_1 (v := 0) (by decide) ?_
  refine W_iconst d_207_2 (v := 3) (by decide) ?_
  refine W_callS d_207_3 o_207 k_7_96 (by omega) x_135 rfl (Nat.le_of_ble_eq_true rfl) ?_
  refine W_if_ne (tgt := 12) d_207_6 (by decide) (fun h6 => absurd (bI_ne.mpr hb) h6) (fun h6 => ?_)
  refine W_bipush d_207_9 (v := (-2)) (by decide) ?_
  refine W_iret d_207_11 rt_207 rfl ?_
  exact ⟨rfl, rfl⟩
theorem q_207b {d : Nat} {g : mG} {N : Nat} {P : Nat → mC} {Y : tR} {S : Nat → Int32} {K : Nat → tR} (hK : SHR K Y) {s : Nat} (hs : s < 4) {i w : Int32} (hm : K s 1 0 = -1) (hd : 4 ≤ d) : Ex d 207 [.ref 92, .int (nI s), .int i, .int w] (N, H3 g P (mm Y S)) (some (.int (-11))) (N, H3 g P (mm Y S)) := by
  refine Ex.of ?_
  show Wp _ 207 0 [.ref 92, .int (nI s), .int i, .int w] [] _ _
  refine W_iload_n d_207_0 rfl ?_
  refine W_iconst d_207_1 (v := 0) (by decide) ?_
  refine W_iconst d_207_2 (v := 3) (by decide) ?_
  refine W_callS d_207_3 o_207 k_7_96 (by omega) x_135 rfl (Nat.le_of_ble_eq_true rfl) ?_
  refine W_if_ne (tgt := 12) d_207_6 (by decide) (fun h6 => ?_) (fun h6 => absurd h6 (fun q => bI_f q ⟨nI_pos' (by omega), nI_le (a := s) (b := 3) (by omega) (by decide)⟩))
  refine W_aload_n d_207_12 rfl (by decide) ?_
  refine W_getf d_207_13 o_207 k_7_47 rfl rfl ?_
  refine W_iload_n d_207_16 rfl ?_
  refine W_mld (a := 11) d_207_17 rfl (by decide) (n := 4) rfl (vp_in_nI (by omega) (by decide)) ((congrArg (Y 11) (nI_clamp (by omega))).trans (hK s hs).1) ?_
  refine W_iconst d_207_18 (v := (-1)) (by decide) ?_
  refine W_icmp_ne (tgt := 25) d_207_19 (by decide) (fun h19 => absurd hm h19) (fun h19 => ?_)
  refine W_bipush d_207_22 (v := (-11)) (by decide) ?_
  refine W_iret d_207_24 rt_207 rfl ?_
  exact ⟨rfl, rfl⟩
theorem q_207c {d : Nat} {g : mG} {N : Nat} {P : Nat → mC} {Y : tR} {S : Nat → Int32} {K : Nat → tR} (hK : SHR K Y) {s : Nat} (hs : s < 4) {i w : Int32} (hm : ¬ K s 1 0 = -1) {sz : Nat} (hsz : K s 1 1 = nI sz) (h40 : sz ≤ 40) (hb : ¬ (0 ≤ i ∧ i < nI sz)) (hd : 4 ≤ d) : Ex d 207 [.ref 92, .int (nI s), .int i, .int w] (N, H3 g P (mm Y S)) (some (.int (-12))) (N, H3 g P (mm Y S)) := by
  refine Ex.of ?_
  show Wp _ 207 0 [.ref 92, .int (nI s), .int i, .int w] [] _ _
  refine W_iload_n d_207_0 rfl ?_
  refine W_iconst d_207_1 (v := 0) (by decide) ?_
  refine W_iconst d_207_2 (v := 3) (by decide) ?_
  refine W_callS d_207_3 o_207 k_7_96 (by omega) x_135 rfl (Nat.le_of_ble_eq_true rfl) ?_
  refine W_if_ne (tgt := 12) d_207_6 (by decide) (fun h6 => ?_) (fun h6 => absurd h6 (fun q => bI_f q ⟨nI_pos' (by omega), nI_le (a := s) (b := 3) (by omega) (by decide)⟩))
  refine W_aload_n d_207_12 rfl (by decide) ?_
  refine W_getf d_207_13 o_207 k_7_47 rfl rfl ?_
  refine W_iload_n d_207_16 rfl ?_
  refine W_mld (a := 11) d_207_17 rfl (by decide) (n := 4) rfl (vp_in_nI (by omega) (by decide)) ((congrArg (Y 11) (nI_clamp (by omega))).trans (hK s hs).1) ?_
  refine W_iconst d_207_18 (v := (-1)) (by decide) ?_
  refine W_icmp_ne (tgt := 25) d_207_19 (by decide) (fun h19 => ?_) (fun h19 => absurd h19 hm)
  refine W_iload_n d_207_25 rfl ?_
  refine W_iconst d_207_26 (v := 0) (by decide) ?_
  refine W_aload_n d_207_27 rfl (by decide) ?_
  refine W_getf d_207_28 o_207 k_7_50 rfl rfl ?_
  refine W_iload_n d_207_31 rfl ?_
  refine W_mld (a := 12) d_207_32 rfl (by decide) (n := 4) rfl (vp_in_nI (by omega) (by decide)) ((congrArg (Y 12) (nI_clamp (by omega))).trans ((hK s hs).2.1.trans hsz)) ?_
  refine W_iconst d_207_33 (v := 1) (by decide) ?_
  refine W_isub d_207_34 ?_
  refine W_callS d_207_35 o_207 k_7_96 (by omega) x_135 rfl (Nat.le_of_ble_eq_true rfl) ?_
  refine W_if_ne (tgt := 44) d_207_38 (by decide) (fun h38 => absurd (bI_ne.mpr (fun q => hb ((in_pred (by omega)).mp q))) h38) (fun h38 => ?_)
  refine W_bipush d_207_41 (v := (-12)) (by decide) ?_
  refine W_iret d_207_43 rt_207 rfl ?_
  exact ⟨rfl, rfl⟩
theorem q_207 {d : Nat} {g : mG} {N : Nat} {P : Nat → mC} {Y : tR} {S : Nat → Int32} {K : Nat → tR} (hK : SHR K Y) {s : Nat} (hs : s < 4) {i : Nat} {w : Int32} (hm : ¬ K s 1 0 = -1) {sz : Nat} (hsz : K s 1 1 = nI sz) (h40 : sz ≤ 40) (hi : i < sz) (hd : 4 ≤ d) : Ex d 207 [.ref 92, .int (nI s), .int (nI i), .int w] (N, H3 g P (mm Y S)) (some (.int (1))) (N, H3 g P (mm (u2 Y 13 (40 * s + i) (shv (K s 1 0) w)) S)) := by
  refine Ex.of ?_
  show Wp _ 207 0 [.ref 92, .int (nI s), .int (nI i), .int w] [] _ _
  refine W_iload_n d_207_0 rfl ?_
  refine W_iconst d_207_1 (v := 0) (by decide) ?_
  refine W_iconst d_207_2 (v := 3) (by decide) ?_
  refine W_callS d_207_3 o_207 k_7_96 (by omega) x_135 rfl (Nat.le_of_ble_eq_true rfl) ?_
  refine W_if_ne (tgt := 12) d_207_6 (by decide) (fun h6 => ?_) (fun h6 => absurd h6 (fun q => bI_f q ⟨nI_pos' (by omega), nI_le (a := s) (b := 3) (by omega) (by decide)⟩))
  refine W_aload_n d_207_12 rfl (by decide) ?_
  refine W_getf d_207_13 o_207 k_7_47 rfl rfl ?_
  refine W_iload_n d_207_16 rfl ?_
  refine W_mld (a := 11) d_207_17 rfl (by decide) (n := 4) rfl (vp_in_nI (by omega) (by decide)) ((congrArg (Y 11) (nI_clamp (by omega))).trans (hK s hs).1) ?_
  refine W_iconst d_207_18 (v := (-1)) (by decide) ?_
  refine W_icmp_ne (tgt := 25) d_207_19 (by decide) (fun h19 => ?_) (fun h19 => absurd h19 hm)
  refine W_iload_n d_207_25 rfl ?_
  refine W_iconst d_207_26 (v := 0) (by decide) ?_
  refine W_aload_n d_207_27 rfl (by decide) ?_
  refine W_getf d_207_28 o_207 k_7_50 rfl rfl ?_
  refine W_iload_n d_207_31 rfl ?_
  refine W_mld (a := 12) d_207_32 rfl (by decide) (n := 4) rfl (vp_in_nI (by omega) (by decide)) ((congrArg (Y 12) (nI_clamp (by omega))).trans ((hK s hs).2.1.trans hsz)) ?_
  refine W_iconst d_207_33 (v := 1) (by decide) ?_
  refine W_isub d_207_34 ?_
  refine W_callS d_207_35 o_207 k_7_96 (by omega) x_135 rfl (Nat.le_of_ble_eq_true rfl) ?_
  refine W_if_ne (tgt := 44) d_207_38 (by decide) (fun h38 => ?_) (fun h38 => absurd h38 (fun q => bI_f q ((in_pred (by omega)).mpr ⟨nI_pos' (by omega), nI_lt hi (by omega)⟩)))
  refine W_aload_n d_207_44 rfl (by decide) ?_
  refine W_getf d_207_45 o_207 k_7_53 rfl rfl ?_
  refine W_bipush d_207_48 (v := 40) (by decide) ?_
  refine W_iload_n d_207_50 rfl ?_
  refine W_imul d_207_51 ?_
  rw [show ((40 * nI s : Int32)) = nI (40 * s) from pk_mul 40 s]
  refine W_iload_n d_207_52 rfl ?_
  refine W_iadd d_207_53 ?_
  rw [show ((nI (40 * s) + nI i : Int32)) = nI (40 * s + i) from nI_add (40 * s) i]
  refine W_aload_n d_207_54 rfl (by decide) ?_
  refine W_getf d_207_55 o_207 k_7_47 rfl rfl ?_
  refine W_iload_n d_207_58 rfl ?_
  refine W_mld (a := 11) d_207_59 rfl (by decide) (n := 4) rfl (vp_in_nI (by omega) (by decide)) ((congrArg (Y 11) (nI_clamp (by omega))).trans (hK s hs).1) ?_
  refine W_if_ne (tgt := 68) d_207_60 (by decide) (fun h60 => ?_) (fun h60 => ?_)
  · refine W_aload_n d_207_68 rfl (by decide) ?_
    refine W_getf d_207_69 o_207 k_7_47 rfl rfl ?_
    refine W_iload_n d_207_72 rfl ?_
    refine W_mld (a := 11) d_207_73 rfl (by decide) (n := 4) rfl (vp_in_nI (by omega) (by decide)) ((congrArg (Y 11) (nI_clamp (by omega))).trans (hK s hs).1) ?_
    refine W_iconst d_207_74 (v := 1) (by decide) ?_
    refine W_icmp_ne (tgt := 83) d_207_75 (by decide) (fun h75 => ?_) (fun h75 => ?_)
    · refine W_iload_n d_207_83 rfl ?_
      refine W_mst (a := 13) d_207_84 rfl (by decide) (n := 160) rfl (vp_in_nI (by omega) (by decide)) (nI_clamp (by omega)) ?_
      refine W_iconst d_207_85 (v := 1) (by decide) ?_
      refine W_iret d_207_86 rt_207 rfl ?_
      exact ⟨rfl, by rw [show shv (K s 1 0) w = _ from (if_neg h60).trans (if_neg h75)]⟩
    · refine W_iload_n d_207_78 rfl ?_
      refine W_i2s d_207_79 ?_
      refine W_goto (tgt := 84) d_207_80 (by decide) ?_
      refine W_mst (a := 13) d_207_84 rfl (by decide) (n := 160) rfl (vp_in_nI (by omega) (by decide)) (nI_clamp (by omega)) ?_
      refine W_iconst d_207_85 (v := 1) (by decide) ?_
      refine W_iret d_207_86 rt_207 rfl ?_
      exact ⟨rfl, by rw [show shv (K s 1 0) w = _ from (if_neg h60).trans (if_pos h75)]⟩
  · refine W_iload_n d_207_63 rfl ?_
    refine W_i2b d_207_64 ?_
    refine W_goto (tgt := 84) d_207_65 (by decide) ?_
    refine W_mst (a := 13) d_207_84 rfl (by decide) (n := 160) rfl (vp_in_nI (by omega) (by decide)) (nI_clamp (by omega)) ?_
    refine W_iconst d_207_85 (v := 1) (by decide) ?_
    refine W_iret d_207_86 rt_207 rfl ?_
    exact ⟨rfl, by rw [show shv (K s 1 0) w = _ from if_pos h60]⟩
theorem q_208a {d : Nat} {g : mG} {N : Nat} {P : Nat → mC} {Y : tR} {S : Nat → Int32} {v i u j w : Int32} (hb : ¬ ((0 ≤ v ∧ v ≤ 3) ∧ (0 ≤ u ∧ u ≤ 3))) (hd : 4 ≤ d) : Ex d 208 [.ref 92, .int v, .int i, .int u, .int j, .int w] (N, H3 g P (mm Y S)) (some (.int (-2))) (N, H3 g P (mm Y S)) := by
  refine Ex.of ?_
  show Wp _ 208 0 [.ref 92, .int v, .int i, .int u, .int j, .int w, .null, .null, .null, .null] [] _ _
  refine W_iload_n d_208_0 rfl ?_
  refine W_iconst d_208_1 (v := 0) (by decide) ?_
  refine W_iconst d_208_2 (v := 3) (by decide) ?_
  refine W_callS d_208_3 o_208 k_7_96 (by omega) x_135 rfl (Nat.le_of_ble_eq_true rfl) ?_
  refine W_if_eq (tgt := 18) d_208_6 (by decide) (fun h6 => ?_) (fun h6 => ?_)
  · refine W_bipush d_208_18 (v := (-2)) (by decide) ?_
    refine W_iret d_208_20 rt_208 rfl ?_
    exact ⟨rfl, rfl⟩
  · refine W_iload_n d_208_9 rfl ?_
    refine W_iconst d_208_10 (v := 0) (by decide) ?_
    refine W_iconst d_208_11 (v := 3) (by decide) ?_
    refine W_callS d_208_12 o_208 k_7_96 (by omega) x_135 rfl (Nat.le_of_ble_eq_true rfl) ?_
    refine W_if_ne (tgt := 21) d_208_15 (by decide) (fun h15 => ?_) (fun h15 => ?_)
    · exact (hb ⟨bI_t h6, bI_t h15⟩).elim
    · refine W_bipush d_208_18 (v := (-2)) (by decide) ?_
      refine W_iret d_208_20 rt_208 rfl ?_
      exact ⟨rfl, rfl⟩
theorem q_208b {d : Nat} {g : mG} {N : Nat} {P : Nat → mC} {Y : tR} {S : Nat → Int32} {K : Nat → tR} (hK : SHR K Y) {s o : Nat} (hs : s < 4) (ho : o < 4) {i j w : Int32} (hb : ¬ (¬ K s 1 0 = -1 ∧ ¬ K o 1 0 = -1)) (hd : 4 ≤ d) : Ex d 208 [.ref 92, .int (nI s), .int i, .int (nI o), .int j, .int w] (N, H3 g P (mm Y S)) (some (.int (-11))) (N, H3 g P (mm Y S)) := by
  refine Ex.of ?_
  show Wp _ 208 0 [.ref 92, .int (nI s), .int i, .int (nI o), .int j, .int w, .null, .null, .null, .null] [] _ _
  refine W_iload_n d_208_0 rfl ?_
  refine W_iconst d_208_1 (v := 0) (by decide) ?_
  refine W_iconst d_208_2 (v := 3) (by decide) ?_
  refine W_callS d_208_3 o_208 k_7_96 (by omega) x_135 rfl (Nat.le_of_ble_eq_true rfl) ?_
  refine W_if_eq (tgt := 18) d_208_6 (by decide) (fun h6 => absurd h6 (fun q => bI_f q ⟨nI_pos' (by omega), nI_le (a := s) (b := 3) (by omega) (by decide)⟩)) (fun h6 => ?_)
  refine W_iload_n d_208_9 rfl ?_
  refine W_iconst d_208_10 (v := 0) (by decide) ?_
  refine W_iconst d_208_11 (v := 3) (by decide) ?_
  refine W_callS d_208_12 o_208 k_7_96 (by omega) x_135 rfl (Nat.le_of_ble_eq_true rfl) ?_
  refine W_if_ne (tgt := 21) d_208_15 (by decide) (fun h15 => ?_) (fun h15 => absurd h15 (fun q => bI_f q ⟨nI_pos' (by omega), nI_le (a := o) (b := 3) (by omega) (by decide)⟩))
  refine W_aload_n d_208_21 rfl (by decide) ?_
  refine W_getf d_208_22 o_208 k_7_47 rfl rfl ?_
  refine W_iload_n d_208_25 rfl ?_
  refine W_mld (a := 11) d_208_26 rfl (by decide) (n := 4) rfl (vp_in_nI (by omega) (by decide)) ((congrArg (Y 11) (nI_clamp (by omega))).trans (hK s hs).1) ?_
  refine W_iconst d_208_27 (v := (-1)) (by decide) ?_
  refine W_icmp_eq (tgt := 41) d_208_28 (by decide) (fun h28 => ?_) (fun h28 => ?_)
  · refine W_bipush d_208_41 (v := (-11)) (by decide) ?_
    refine W_iret d_208_43 rt_208 rfl ?_
    exact ⟨rfl, rfl⟩
  · refine W_aload_n d_208_31 rfl (by decide) ?_
    refine W_getf d_208_32 o_208 k_7_47 rfl rfl ?_
    refine W_iload_n d_208_35 rfl ?_
    refine W_mld (a := 11) d_208_36 rfl (by decide) (n := 4) rfl (vp_in_nI (by omega) (by decide)) ((congrArg (Y 11) (nI_clamp (by omega))).trans (hK o ho).1) ?_
    refine W_iconst d_208_37 (v := (-1)) (by decide) ?_
    refine W_icmp_ne (tgt := 44) d_208_38 (by decide) (fun h38 => ?_) (fun h38 => ?_)
    · exact (hb ⟨h28, h38⟩).elim
    · refine W_bipush d_208_41 (v := (-11)) (by decide) ?_
      refine W_iret d_208_43 rt_208 rfl ?_
      exact ⟨rfl, rfl⟩
theorem q_208c {d : Nat} {g : mG} {N : Nat} {P : Nat → mC} {Y : tR} {S : Nat → Int32} {K : Nat → tR} (hK : SHR K Y) {s o : Nat} (hs : s < 4) (ho : o < 4) {i j w : Int32} (hm : ¬ K s 1 0 = -1 ∧ ¬ K o 1 0 = -1) (hb : ¬ K s 1 0 = K o 1 0) (hd : 4 ≤ d) : Ex d 208 [.ref 92, .int (nI s), .int i, .int (nI o), .int j, .int w] (N, H3 g P (mm Y S)) (some (.int (-13))) (N, H3 g P (mm Y S)) := by
  refine Ex.of ?_
  show Wp _ 208 0 [.ref 92, .int (nI s), .int i, .int (nI o), .int j, .int w, .null, .null, .null, .null] [] _ _
  refine W_iload_n d_208_0 rfl ?_
  refine W_iconst d_208_1 (v := 0) (by decide) ?_
  refine W_iconst d_208_2 (v := 3) (by decide) ?_
  refine W_callS d_208_3 o_208 k_7_96 (by omega) x_135 rfl (Nat.le_of_ble_eq_true rfl) ?_
  refine W_if_eq (tgt := 18) d_208_6 (by decide) (fun h6 => absurd h6 (fun q => bI_f q ⟨nI_pos' (by omega), nI_le (a := s) (b := 3) (by omega) (by decide)⟩)) (fun h6 => ?_)
  refine W_iload_n d_208_9 rfl ?_
  refine W_iconst d_208_10 (v := 0) (by decide) ?_
  refine W_iconst d_208_11 (v := 3) (by decide) ?_
  refine W_callS d_208_12 o_208 k_7_96 (by omega) x_135 rfl (Nat.le_of_ble_eq_true rfl) ?_
  refine W_if_ne (tgt := 21) d_208_15 (by decide) (fun h15 => ?_) (fun h15 => absurd h15 (fun q => bI_f q ⟨nI_pos' (by omega), nI_le (a := o) (b := 3) (by omega) (by decide)⟩))
  refine W_aload_n d_208_21 rfl (by decide) ?_
  refine W_getf d_208_22 o_208 k_7_47 rfl rfl ?_
  refine W_iload_n d_208_25 rfl ?_
  refine W_mld (a := 11) d_208_26 rfl (by decide) (n := 4) rfl (vp_in_nI (by omega) (by decide)) ((congrArg (Y 11) (nI_clamp (by omega))).trans (hK s hs).1) ?_
  refine W_iconst d_208_27 (v := (-1)) (by decide) ?_
  refine W_icmp_eq (tgt := 41) d_208_28 (by decide) (fun h28 => absurd h28 hm.1) (fun h28 => ?_)
  refine W_aload_n d_208_31 rfl (by decide) ?_
  refine W_getf d_208_32 o_208 k_7_47 rfl rfl ?_
  refine W_iload_n d_208_35 rfl ?_
  refine W_mld (a := 11) d_208_36 rfl (by decide) (n := 4) rfl (vp_in_nI (by omega) (by decide)) ((congrArg (Y 11) (nI_clamp (by omega))).trans (hK o ho).1) ?_
  refine W_iconst d_208_37 (v := (-1)) (by decide) ?_
  refine W_icmp_ne (tgt := 44) d_208_38 (by decide) (fun h38 => ?_) (fun h38 => absurd h38 hm.2)
  refine W_aload_n d_208_44 rfl (by decide) ?_
  refine W_getf d_208_45 o_208 k_7_47 rfl rfl ?_
  refine W_iload_n d_208_48 rfl ?_
  refine W_mld (a := 11) d_208_49 rfl (by decide) (n := 4) rfl (vp_in_nI (by omega) (by decide)) ((congrArg (Y 11) (nI_clamp (by omega))).trans (hK s hs).1) ?_
  refine W_aload_n d_208_50 rfl (by decide) ?_
  refine W_getf d_208_51 o_208 k_7_47 rfl rfl ?_
  refine W_iload_n d_208_54 rfl ?_
  refine W_mld (a := 11) d_208_55 rfl (by decide) (n := 4) rfl (vp_in_nI (by omega) (by decide)) ((congrArg (Y 11) (nI_clamp (by omega))).trans (hK o ho).1) ?_
  refine W_icmp_eq (tgt := 62) d_208_56 (by decide) (fun h56 => absurd h56 hb) (fun h56 => ?_)
  refine W_bipush d_208_59 (v := (-13)) (by decide) ?_
  refine W_iret d_208_61 rt_208 rfl ?_
  exact ⟨rfl, rfl⟩
theorem q_208d {d : Nat} {g : mG} {N : Nat} {P : Nat → mC} {Y : tR} {S : Nat → Int32} {K : Nat → tR} (hK : SHR K Y) {s o : Nat} (hs : s < 4) (ho : o < 4) {i j w : Int32} (hm : ¬ K s 1 0 = -1 ∧ ¬ K o 1 0 = -1) (he : K s 1 0 = K o 1 0) {sa sb_ : Nat} (hsa : K s 1 1 = nI sa) (hsb : K o 1 1 = nI sb_) (ha : sa ≤ 40) (hb_ : sb_ ≤ 40) (hb : ¬ ((0 ≤ i ∧ 0 ≤ w ∧ w ≤ nI sa - i) ∧ (0 ≤ j ∧ 0 ≤ w ∧ w ≤ nI sb_ - j))) (hd : 4 ≤ d) : Ex d 208 [.ref 92, .int (nI s), .int i, .int (nI o), .int j, .int w] (N, H3 g P (mm Y S)) (some (.int (-12))) (N, H3 g P (mm Y S)) := by
  refine Ex.of ?_
  show Wp _ 208 0 [.ref 92, .int (nI s), .int i, .int (nI o), .int j, .int w, .null, .null, .null, .null] [] _ _
  refine W_iload_n d_208_0 rfl ?_
  refine W_iconst d_208_1 (v := 0) (by decide) ?_
  refine W_iconst d_208_2 (v := 3) (by decide) ?_
  refine W_callS d_208_3 o_208 k_7_96 (by omega) x_135 rfl (Nat.le_of_ble_eq_true rfl) ?_
  refine W_if_eq (tgt := 18) d_208_6 (by decide) (fun h6 => absurd h6 (fun q => bI_f q ⟨nI_pos' (by omega), nI_le (a := s) (b := 3) (by omega) (by decide)⟩)) (fun h6 => ?_)
  refine W_iload_n d_208_9 rfl ?_
  refine W_iconst d_208_10 (v := 0) (by decide) ?_
  refine W_iconst d_208_11 (v := 3) (by decide) ?_
  refine W_callS d_208_12 o_208 k_7_96 (by omega) x_135 rfl (Nat.le_of_ble_eq_true rfl) ?_
  refine W_if_ne (tgt := 21) d_208_15 (by decide) (fun h15 => ?_) (fun h15 => absurd h15 (fun q => bI_f q ⟨nI_pos' (by omega), nI_le (a := o) (b := 3) (by omega) (by decide)⟩))
  refine W_aload_n d_208_21 rfl (by decide) ?_
  refine W_getf d_208_22 o_208 k_7_47 rfl rfl ?_
  refine W_iload_n d_208_25 rfl ?_
  refine W_mld (a := 11) d_208_26 rfl (by decide) (n := 4) rfl (vp_in_nI (by omega) (by decide)) ((congrArg (Y 11) (nI_clamp (by omega))).trans (hK s hs).1) ?_
  refine W_iconst d_208_27 (v := (-1)) (by decide) ?_
  refine W_icmp_eq (tgt := 41) d_208_28 (by decide) (fun h28 => absurd h28 hm.1) (fun h28 => ?_)
  refine W_aload_n d_208_31 rfl (by decide) ?_
  refine W_getf d_208_32 o_208 k_7_47 rfl rfl ?_
  refine W_iload_n d_208_35 rfl ?_
  refine W_mld (a := 11) d_208_36 rfl (by decide) (n := 4) rfl (vp_in_nI (by omega) (by decide)) ((congrArg (Y 11) (nI_clamp (by omega))).trans (hK o ho).1) ?_
  refine W_iconst d_208_37 (v := (-1)) (by decide) ?_
  refine W_icmp_ne (tgt := 44) d_208_38 (by decide) (fun h38 => ?_) (fun h38 => absurd h38 hm.2)
  refine W_aload_n d_208_44 rfl (by decide) ?_
  refine W_getf d_208_45 o_208 k_7_47 rfl rfl ?_
  refine W_iload_n d_208_48 rfl ?_
  refine W_mld (a := 11) d_208_49 rfl (by decide) (n := 4) rfl (vp_in_nI (by omega) (by decide)) ((congrArg (Y 11) (nI_clamp (by omega))).trans (hK s hs).1) ?_
  refine W_aload_n d_208_50 rfl (by decide) ?_
  refine W_getf d_208_51 o_208 k_7_47 rfl rfl ?_
  refine W_iload_n d_208_54 rfl ?_
  refine W_mld (a := 11) d_208_55 rfl (by decide) (n := 4) rfl (vp_in_nI (by omega) (by decide)) ((congrArg (Y 11) (nI_clamp (by omega))).trans (hK o ho).1) ?_
  refine W_icmp_eq (tgt := 62) d_208_56 (by decide) (fun h56 => ?_) (fun h56 => absurd he h56)
  refine W_iload d_208_62 rfl ?_
  refine W_if_lt (tgt := 124) d_208_64 (by decide) (fun h64 => ?_) (fun h64 => ?_)
  · refine W_bipush d_208_124 (v := (-12)) (by decide) ?_
    refine W_iret d_208_126 rt_208 rfl ?_
    exact ⟨rfl, rfl⟩
  · refine W_iload_n d_208_67 rfl ?_
    refine W_if_lt (tgt := 124) d_208_68 (by decide) (fun h68 => ?_) (fun h68 => ?_)
    · refine W_bipush d_208_124 (v := (-12)) (by decide) ?_
      refine W_iret d_208_126 rt_208 rfl ?_
      exact ⟨rfl, rfl⟩
    · refine W_iload d_208_71 rfl ?_
      refine W_if_lt (tgt := 124) d_208_73 (by decide) (fun h73 => ?_) (fun h73 => ?_)
      · refine W_bipush d_208_124 (v := (-12)) (by decide) ?_
        refine W_iret d_208_126 rt_208 rfl ?_
        exact ⟨rfl, rfl⟩
      · refine W_iload_n d_208_76 rfl ?_
        refine W_aload_n d_208_77 rfl (by decide) ?_
        refine W_getf d_208_78 o_208 k_7_50 rfl rfl ?_
        refine W_iload_n d_208_81 rfl ?_
        refine W_mld (a := 12) d_208_82 rfl (by decide) (n := 4) rfl (vp_in_nI (by omega) (by decide)) ((congrArg (Y 12) (nI_clamp (by omega))).trans ((hK s hs).2.1.trans hsa)) ?_
        refine W_icmp_gt (tgt := 124) d_208_83 (by decide) (fun h83 => ?_) (fun h83 => ?_)
        · refine W_bipush d_208_124 (v := (-12)) (by decide) ?_
          refine W_iret d_208_126 rt_208 rfl ?_
          exact ⟨rfl, rfl⟩
        · refine W_iload d_208_86 rfl ?_
          refine W_aload_n d_208_88 rfl (by decide) ?_
          refine W_getf d_208_89 o_208 k_7_50 rfl rfl ?_
          refine W_iload_n d_208_92 rfl ?_
          refine W_mld (a := 12) d_208_93 rfl (by decide) (n := 4) rfl (vp_in_nI (by omega) (by decide)) ((congrArg (Y 12) (nI_clamp (by omega))).trans ((hK o ho).2.1.trans hsb)) ?_
          refine W_icmp_gt (tgt := 124) d_208_94 (by decide) (fun h94 => ?_) (fun h94 => ?_)
          · refine W_bipush d_208_124 (v := (-12)) (by decide) ?_
            refine W_iret d_208_126 rt_208 rfl ?_
            exact ⟨rfl, rfl⟩
          · refine W_iload d_208_97 rfl ?_
            refine W_aload_n d_208_99 rfl (by decide) ?_
            refine W_getf d_208_100 o_208 k_7_50 rfl rfl ?_
            refine W_iload_n d_208_103 rfl ?_
            refine W_mld (a := 12) d_208_104 rfl (by decide) (n := 4) rfl (vp_in_nI (by omega) (by decide)) ((congrArg (Y 12) (nI_clamp (by omega))).trans ((hK s hs).2.1.trans hsa)) ?_
            refine W_iload_n d_208_105 rfl ?_
            refine W_isub d_208_106 ?_
            refine W_icmp_gt (tgt := 124) d_208_107 (by decide) (fun h107 => ?_) (fun h107 => ?_)
            · refine W_bipush d_208_124 (v := (-12)) (by decide) ?_
              refine W_iret d_208_126 rt_208 rfl ?_
              exact ⟨rfl, rfl⟩
            · refine W_iload d_208_110 rfl ?_
              refine W_aload_n d_208_112 rfl (by decide) ?_
              refine W_getf d_208_113 o_208 k_7_50 rfl rfl ?_
              refine W_iload_n d_208_116 rfl ?_
              refine W_mld (a := 12) d_208_117 rfl (by decide) (n := 4) rfl (vp_in_nI (by omega) (by decide)) ((congrArg (Y 12) (nI_clamp (by omega))).trans ((hK o ho).2.1.trans hsb)) ?_
              refine W_iload d_208_118 rfl ?_
              refine W_isub d_208_120 ?_
              refine W_icmp_le (tgt := 127) d_208_121 (by decide) (fun h121 => ?_) (fun h121 => ?_)
              · exact (hb ⟨⟨Int32.not_lt.mp h68, Int32.not_lt.mp h64, Int32.not_lt.mp h107⟩, Int32.not_lt.mp h73, Int32.not_lt.mp h64, h121⟩).elim
              · refine W_bipush d_208_124 (v := (-12)) (by decide) ?_
                refine W_iret d_208_126 rt_208 rfl ?_
                exact ⟨rfl, rfl⟩
/-- what is copied when x numbers have gone over: the last ones first if the source lies ahead -/
def cpy (f : Nat → Int32) (a b w x : Nat) : Nat → Int32 := fun q => if a < b then (if b + (w - x) ≤ q ∧ q < b + w then f (a + (q - b)) else f q) else (if b ≤ q ∧ q < b + x then f (a + (q - b)) else f q)
theorem lq_208 {d : Nat} {g : mG} {N : Nat} {P : Nat → mC} {Y0 : tR} {S0 : Nat → Int32} {s o i j w : Nat} (hs : s < 4) (ho : o < 4) (h1 : i + w ≤ 40) (h2 : j + w ≤ 40) {Q : Option Value → mM → Prop} (kk : ∀ (Y : tR) (S : Nat → Int32) (c : Value), ((∀ a, ¬ a = 13 → Y a = Y0 a) ∧ S = S0 ∧ Y 13 = cpy (Y0 13) (40 * s + i) (40 * o + j) w w) → Wp d 208 201 [.ref 92, .int (nI s), .int (nI i), .int (nI o), .int (nI j), .int (nI w), .int (nI (40 * s + i)), .int (nI (40 * o + j)), .int (nI w), c] [] (N, H3 g P (mm Y S)) Q) : ∀ (k x : Nat) (Y : tR) (S : Nat → Int32) (c : Value), x + k = w → ((∀ a, ¬ a = 13 → Y a = Y0 a) ∧ S = S0 ∧ Y 13 = cpy (Y0 13) (40 * s + i) (40 * o + j) w x) → Wp d 208 147 [.ref 92, .int (nI s), .int (nI i), .int (nI o), .int (nI j), .int (nI w), .int (nI (40 * s + i)), .int (nI (40 * o + j)), .int (nI x), c] [] (N, H3 g P (mm Y S)) Q := by
  intro k
  induction k with
  | zero =>
    intro x Y S c hi hI
    have ei : x = w := by omega
    refine W_iload d_208_147 rfl ?_
    refine W_iload d_208_149 rfl ?_
    refine W_icmp_ge (tgt := 201) d_208_151 (by decide) (fun h151 => ?_) (fun h151 => absurd (nI_le (a := w) (b := x) (by omega) (by omega)) h151)
    rw [ei] at hI ⊢
    exact kk _ _ _ hI
  | succ k ih =>
    intro x Y S c hi hI
    refine W_iload d_208_147 rfl ?_
    refine W_iload d_208_149 rfl ?_
    refine W_icmp_ge (tgt := 201) d_208_151 (by decide) (fun h151 => absurd h151 (nI_ge (a := x) (b := w) (by omega) (by omega))) (fun h151 => ?_)
    refine W_iload d_208_154 rfl ?_
    refine W_iload d_208_156 rfl ?_
    refine W_icmp_ge (tgt := 171) d_208_158 (by decide) (fun h158 => ?_) (fun h158 => ?_)
    · have q158 : ¬ 40 * s + i < 40 * o + j := Nat.not_lt.mpr <| (nI_leI (a := 40 * o + j) (b := 40 * s + i) (by omega) (by omega)).mp h158
      refine W_iload d_208_171 rfl ?_
      refine W_istore d_208_173 rfl ?_
      refine W_aload_n d_208_175 rfl (by decide) ?_
      refine W_getf d_208_176 o_208 k_7_53 rfl rfl ?_
      refine W_iload d_208_179 rfl ?_
      refine W_iload d_208_181 rfl ?_
      refine W_iadd d_208_183 ?_
      rw [show ((nI (40 * o + j) + nI x : Int32)) = nI (40 * o + j + x) from nI_add (40 * o + j) x]
      refine W_aload_n d_208_184 rfl (by decide) ?_
      refine W_getf d_208_185 o_208 k_7_53 rfl rfl ?_
      refine W_iload d_208_188 rfl ?_
      refine W_iload d_208_190 rfl ?_
      refine W_iadd d_208_192 ?_
      rw [show ((nI (40 * s + i) + nI x : Int32)) = nI (40 * s + i + x) from nI_add (40 * s + i) x]
      refine W_mld (a := 13) d_208_193 rfl (by decide) (n := 160) rfl (vp_in_nI (by omega) (by decide)) (congrArg _ (nI_clamp (by omega))) ?_
      refine W_mst (a := 13) d_208_194 rfl (by decide) (n := 160) rfl (vp_in_nI (by omega) (by decide)) (nI_clamp (by omega)) ?_
      refine W_iinc (v := 1) d_208_195 rfl (by decide) rfl ?_
      rw [show ((nI x + 1 : Int32)) = nI (x + 1) from nI_add x 1]
      refine W_goto (tgt := 147) d_208_198 (by decide) ?_
      refine ih (x + 1) _ _ _ (by omega) ⟨fun a ha => (u2_row ha).trans (hI.1 a ha), hI.2.1, ?_⟩
      funext q
      rw [u2_ap, hI.2.2]
      unfold cpy
      rw [if_neg q158, if_neg q158, if_neg q158]
      by_cases e : q = 40 * o + j + (x)
      · rw [if_pos ⟨rfl, e⟩, if_neg (by omega), if_pos (by omega)]
        exact congrArg _ (by omega)
      · rw [if_neg (fun t => e t.2)]
        by_cases e2 : 40 * o + j ≤ q ∧ q < 40 * o + j + x
        · rw [if_pos e2, if_pos (by omega)]
        · rw [if_neg e2, if_neg (by omega)]
    · have q158 : 40 * s + i < 40 * o + j := Nat.not_le.mp <| mt (nI_leI (a := 40 * o + j) (b := 40 * s + i) (by omega) (by omega)).mpr h158
      refine W_iload d_208_161 rfl ?_
      refine W_iconst d_208_163 (v := 1) (by decide) ?_
      refine W_isub d_208_164 ?_
      rw [show ((nI w - 1 : Int32)) = nI (w - 1) from pk_sub (a := w) (b := 1) (by omega)]
      refine W_iload d_208_165 rfl ?_
      refine W_isub d_208_167 ?_
      rw [show ((nI (w - 1) - nI x : Int32)) = nI ((w - 1) - x) from pk_sub (a := w - 1) (b := x) (by omega)]
      refine W_goto (tgt := 173) d_208_168 (by decide) ?_
      refine W_istore d_208_173 rfl ?_
      refine W_aload_n d_208_175 rfl (by decide) ?_
      refine W_getf d_208_176 o_208 k_7_53 rfl rfl ?_
      refine W_iload d_208_179 rfl ?_
      refine W_iload d_208_181 rfl ?_
      refine W_iadd d_208_183 ?_
      rw [show ((nI (40 * o + j) + nI ((w - 1) - x) : Int32)) = nI (40 * o + j + ((w - 1) - x)) from nI_add (40 * o + j) ((w - 1) - x)]
      refine W_aload_n d_208_184 rfl (by decide) ?_
      refine W_getf d_208_185 o_208 k_7_53 rfl rfl ?_
      refine W_iload d_208_188 rfl ?_
      refine W_iload d_208_190 rfl ?_
      refine W_iadd d_208_192 ?_
      rw [show ((nI (40 * s + i) + nI ((w - 1) - x) : Int32)) = nI (40 * s + i + ((w - 1) - x)) from nI_add (40 * s + i) ((w - 1) - x)]
      refine W_mld (a := 13) d_208_193 rfl (by decide) (n := 160) rfl (vp_in_nI (by omega) (by decide)) (congrArg _ (nI_clamp (by omega))) ?_
      refine W_mst (a := 13) d_208_194 rfl (by decide) (n := 160) rfl (vp_in_nI (by omega) (by decide)) (nI_clamp (by omega)) ?_
      refine W_iinc (v := 1) d_208_195 rfl (by decide) rfl ?_
      rw [show ((nI x + 1 : Int32)) = nI (x + 1) from nI_add x 1]
      refine W_goto (tgt := 147) d_208_198 (by decide) ?_
      refine ih (x + 1) _ _ _ (by omega) ⟨fun a ha => (u2_row ha).trans (hI.1 a ha), hI.2.1, ?_⟩
      funext q
      rw [u2_ap, hI.2.2]
      unfold cpy
      rw [if_pos q158, if_pos q158, if_pos q158]
      by_cases e : q = 40 * o + j + (w - 1 - x)
      · rw [if_pos ⟨rfl, e⟩, if_neg (by omega), if_pos (by omega)]
        exact congrArg _ (by omega)
      · rw [if_neg (fun t => e t.2)]
        by_cases e2 : 40 * o + j + (w - x) ≤ q ∧ q < 40 * o + j + w
        · rw [if_pos e2, if_pos (by omega)]
        · rw [if_neg e2, if_neg (by omega)]
theorem q_208 {d : Nat} {g : mG} {N : Nat} {P : Nat → mC} {Y : tR} {S : Nat → Int32} {K : Nat → tR} (hK : SHR K Y) {s o : Nat} (hs : s < 4) (ho : o < 4) {i j w : Nat} (hm : ¬ K s 1 0 = -1 ∧ ¬ K o 1 0 = -1) (he : K s 1 0 = K o 1 0) {sa sb_ : Nat} (hsa : K s 1 1 = nI sa) (hsb : K o 1 1 = nI sb_) (ha : sa ≤ 40) (hb_ : sb_ ≤ 40) (h1 : i + w ≤ sa) (h2 : j + w ≤ sb_) (hd : 4 ≤ d) : Wp d 208 0 (ment 208 [.ref 92, .int (nI s), .int (nI i), .int (nI o), .int (nI j), .int (nI w)]) [] (N, H3 g P (mm Y S)) (fun v M' => v = some (.int (nI w)) ∧ ∃ Y', M' = (N, H3 g P (mm Y' S)) ∧ (∀ a, ¬ a = 13 → Y' a = Y a) ∧ Y' 13 = cpy (Y 13) (40 * s + i) (40 * o + j) w w) := by
  show Wp _ 208 0 [.ref 92, .int (nI s), .int (nI i), .int (nI o), .int (nI j), .int (nI w), .null, .null, .null, .null] [] _ _
  refine W_iload_n d_208_0 rfl ?_
  refine W_iconst d_208_1 (v := 0) (by decide) ?_
  refine W_iconst d_208_2 (v := 3) (by decide) ?_
  refine W_callS d_208_3 o_208 k_7_96 (by omega) x_135 rfl (Nat.le_of_ble_eq_true rfl) ?_
  refine W_if_eq (tgt := 18) d_208_6 (by decide) (fun h6 => absurd h6 (fun q => bI_f q ⟨nI_pos' (by omega), nI_le (a := s) (b := 3) (by omega) (by decide)⟩)) (fun h6 => ?_)
  refine W_iload_n d_208_9 rfl ?_
  refine W_iconst d_208_10 (v := 0) (by decide) ?_
  refine W_iconst d_208_11 (v := 3) (by decide) ?_
  refine W_callS d_208_12 o_208 k_7_96 (by omega) x_135 rfl (Nat.le_of_ble_eq_true rfl) ?_
  refine W_if_ne (tgt := 21) d_208_15 (by decide) (fun h15 => ?_) (fun h15 => absurd h15 (fun q => bI_f q ⟨nI_pos' (by omega), nI_le (a := o) (b := 3) (by omega) (by decide)⟩))
  refine W_aload_n d_208_21 rfl (by decide) ?_
  refine W_getf d_208_22 o_208 k_7_47 rfl rfl ?_
  refine W_iload_n d_208_25 rfl ?_
  refine W_mld (a := 11) d_208_26 rfl (by decide) (n := 4) rfl (vp_in_nI (by omega) (by decide)) ((congrArg (Y 11) (nI_clamp (by omega))).trans (hK s hs).1) ?_
  refine W_iconst d_208_27 (v := (-1)) (by decide) ?_
  refine W_icmp_eq (tgt := 41) d_208_28 (by decide) (fun h28 => absurd h28 hm.1) (fun h28 => ?_)
  refine W_aload_n d_208_31 rfl (by decide) ?_
  refine W_getf d_208_32 o_208 k_7_47 rfl rfl ?_
  refine W_iload_n d_208_35 rfl ?_
  refine W_mld (a := 11) d_208_36 rfl (by decide) (n := 4) rfl (vp_in_nI (by omega) (by decide)) ((congrArg (Y 11) (nI_clamp (by omega))).trans (hK o ho).1) ?_
  refine W_iconst d_208_37 (v := (-1)) (by decide) ?_
  refine W_icmp_ne (tgt := 44) d_208_38 (by decide) (fun h38 => ?_) (fun h38 => absurd h38 hm.2)
  refine W_aload_n d_208_44 rfl (by decide) ?_
  refine W_getf d_208_45 o_208 k_7_47 rfl rfl ?_
  refine W_iload_n d_208_48 rfl ?_
  refine W_mld (a := 11) d_208_49 rfl (by decide) (n := 4) rfl (vp_in_nI (by omega) (by decide)) ((congrArg (Y 11) (nI_clamp (by omega))).trans (hK s hs).1) ?_
  refine W_aload_n d_208_50 rfl (by decide) ?_
  refine W_getf d_208_51 o_208 k_7_47 rfl rfl ?_
  refine W_iload_n d_208_54 rfl ?_
  refine W_mld (a := 11) d_208_55 rfl (by decide) (n := 4) rfl (vp_in_nI (by omega) (by decide)) ((congrArg (Y 11) (nI_clamp (by omega))).trans (hK o ho).1) ?_
  refine W_icmp_eq (tgt := 62) d_208_56 (by decide) (fun h56 => ?_) (fun h56 => absurd he h56)
  refine W_iload d_208_62 rfl ?_
  refine W_if_lt (tgt := 124) d_208_64 (by decide) (fun h64 => absurd h64 (nI_nlt (a := w) (b := 0) (by omega) (by omega))) (fun h64 => ?_)
  refine W_iload_n d_208_67 rfl ?_
  refine W_if_lt (tgt := 124) d_208_68 (by decide) (fun h68 => absurd h68 (nI_nlt (a := i) (b := 0) (by omega) (by omega))) (fun h68 => ?_)
  refine W_iload d_208_71 rfl ?_
  refine W_if_lt (tgt := 124) d_208_73 (by decide) (fun h73 => absurd h73 (nI_nlt (a := j) (b := 0) (by omega) (by omega))) (fun h73 => ?_)
  refine W_iload_n d_208_76 rfl ?_
  refine W_aload_n d_208_77 rfl (by decide) ?_
  refine W_getf d_208_78 o_208 k_7_50 rfl rfl ?_
  refine W_iload_n d_208_81 rfl ?_
  refine W_mld (a := 12) d_208_82 rfl (by decide) (n := 4) rfl (vp_in_nI (by omega) (by decide)) ((congrArg (Y 12) (nI_clamp (by omega))).trans ((hK s hs).2.1.trans hsa)) ?_
  
  refine W_icmp_gt (tgt := 124) d_208_83 (by decide) (fun h83 => absurd h83 (nI_nlt (a := sa) (b := i) (by omega) (by omega))) (fun h83 => ?_)
  refine W_iload d_208_86 rfl ?_
  refine W_aload_n d_208_88 rfl (by decide) ?_
  refine W_getf d_208_89 o_208 k_7_50 rfl rfl ?_
  refine W_iload_n d_208_92 rfl ?_
  refine W_mld (a := 12) d_208_93 rfl (by decide) (n := 4) rfl (vp_in_nI (by omega) (by decide)) ((congrArg (Y 12) (nI_clamp (by omega))).trans ((hK o ho).2.1.trans hsb)) ?_
  
  refine W_icmp_gt (tgt := 124) d_208_94 (by decide) (fun h94 => absurd h94 (nI_nlt (a := sb_) (b := j) (by omega) (by omega))) (fun h94 => ?_)
  refine W_iload d_208_97 rfl ?_
  refine W_aload_n d_208_99 rfl (by decide) ?_
  refine W_getf d_208_100 o_208 k_7_50 rfl rfl ?_
  refine W_iload_n d_208_103 rfl ?_
  refine W_mld (a := 12) d_208_104 rfl (by decide) (n := 4) rfl (vp_in_nI (by omega) (by decide)) ((congrArg (Y 12) (nI_clamp (by omega))).trans ((hK s hs).2.1.trans hsa)) ?_
  
  refine W_iload_n d_208_105 rfl ?_
  refine W_isub d_208_106 ?_
  rw [show ((nI sa - nI i : Int32)) = nI (sa - i) from pk_sub (a := sa) (b := i) (by omega)]
  refine W_icmp_gt (tgt := 124) d_208_107 (by decide) (fun h107 => absurd h107 (nI_nlt (a := sa - i) (b := w) (by omega) (by omega))) (fun h107 => ?_)
  refine W_iload d_208_110 rfl ?_
  refine W_aload_n d_208_112 rfl (by decide) ?_
  refine W_getf d_208_113 o_208 k_7_50 rfl rfl ?_
  refine W_iload_n d_208_116 rfl ?_
  refine W_mld (a := 12) d_208_117 rfl (by decide) (n := 4) rfl (vp_in_nI (by omega) (by decide)) ((congrArg (Y 12) (nI_clamp (by omega))).trans ((hK o ho).2.1.trans hsb)) ?_
  
  refine W_iload d_208_118 rfl ?_
  refine W_isub d_208_120 ?_
  rw [show ((nI sb_ - nI j : Int32)) = nI (sb_ - j) from pk_sub (a := sb_) (b := j) (by omega)]
  refine W_icmp_le (tgt := 127) d_208_121 (by decide) (fun h121 => ?_) (fun h121 => absurd (nI_le (a := w) (b := sb_ - j) (by omega) (by omega)) h121)
  refine W_bipush d_208_127 (v := 40) (by decide) ?_
  refine W_iload_n d_208_129 rfl ?_
  refine W_imul d_208_130 ?_
  rw [show ((40 * nI s : Int32)) = nI (40 * s) from pk_mul 40 s]
  refine W_iload_n d_208_131 rfl ?_
  refine W_iadd d_208_132 ?_
  rw [show ((nI (40 * s) + nI i : Int32)) = nI (40 * s + i) from nI_add (40 * s) i]
  refine W_istore d_208_133 rfl ?_
  refine W_bipush d_208_135 (v := 40) (by decide) ?_
  refine W_iload_n d_208_137 rfl ?_
  refine W_imul d_208_138 ?_
  rw [show ((40 * nI o : Int32)) = nI (40 * o) from pk_mul 40 o]
  refine W_iload d_208_139 rfl ?_
  refine W_iadd d_208_141 ?_
  rw [show ((nI (40 * o) + nI j : Int32)) = nI (40 * o + j) from nI_add (40 * o) j]
  refine W_istore d_208_142 rfl ?_
  refine W_iconst d_208_144 (v := 0) (by decide) ?_
  refine W_istore d_208_145 rfl ?_
  refine lq_208 (Y0 := Y) (S0 := S) hs ho (by omega) (by omega) (fun Y2 S2 c h2 => ?_) w 0 _ _ _ (by omega) ⟨fun _ _ => rfl, rfl, ?_⟩
  rotate_left
  · funext q
    unfold cpy
    by_cases e : 40 * s + i < 40 * o + j
    · rw [if_pos e, if_neg (by omega)]
    · rw [if_neg e, if_neg (by omega)]
  obtain ⟨b1, b2, b3⟩ := h2
  subst b2
  refine W_iload d_208_201 rfl ?_
  refine W_iret d_208_203 rt_208 rfl ?_
  exact ⟨rfl, Y2, rfl, b1, b3⟩
theorem q_211a {d : Nat} {g : mG} {N : Nat} {P : Nat → mC} {Y : tR} {S : Nat → Int32} {v w : Int32} (hb : ¬ (0 ≤ w ∧ w ≤ 6)) (hd : 4 ≤ d) : Ex d 211 [.ref 92, .int v, .int w] (N, H3 g P (mm Y S)) (some (.long (-2))) (N, H3 g P (mm Y S)) := by
  refine Ex.of ?_
  show Wp _ 211 0 [.ref 92, .int v, .int w, .null] [] _ _
  refine W_iload_n d_211_0 rfl ?_
  refine W_iconst d_211_1 (v := 0) (by decide) ?_
  refine W_bipush d_211_2 (v := 6) (by decide) ?_
  refine W_callS d_211_4 o_211 k_7_96 (by omega) x_135 rfl (Nat.le_of_ble_eq_true rfl) ?_
  refine W_if_ne (tgt := 14) d_211_7 (by decide) (fun h7 => absurd (bI_ne.mpr hb) h7) (fun h7 => ?_)
  refine W_ldc2 d_211_10 o_211 k_7_292 (v := (-2)) (by decide) ?_
  refine W_lret d_211_13 rt_211 ?_
  exact ⟨rfl, rfl⟩
theorem q_211b {d : Nat} {g : mG} {N : Nat} {P : Nat → mC} {Y : tR} {S : Nat → Int32} {v w : Int32} (hw : 0 ≤ w ∧ w ≤ 6) (hb : ¬ (0 ≤ v ∧ v ≤ 17)) (hd : 4 ≤ d) : Ex d 211 [.ref 92, .int v, .int w] (N, H3 g P (mm Y S)) (some (.long (-12))) (N, H3 g P (mm Y S)) := by
  refine Ex.of ?_
  show Wp _ 211 0 [.ref 92, .int v, .int w, .null] [] _ _
  refine W_iload_n d_211_0 rfl ?_
  refine W_iconst d_211_1 (v := 0) (by decide) ?_
  refine W_bipush d_211_2 (v := 6) (by decide) ?_
  refine W_callS d_211_4 o_211 k_7_96 (by omega) x_135 rfl (Nat.le_of_ble_eq_true rfl) ?_
  refine W_if_ne (tgt := 14) d_211_7 (by decide) (fun h7 => ?_) (fun h7 => absurd h7 (fun q => bI_f q hw))
  refine W_iload_n d_211_14 rfl ?_
  refine W_iconst d_211_15 (v := 0) (by decide) ?_
  refine W_bipush d_211_16 (v := 17) (by decide) ?_
  refine W_callS d_211_18 o_211 k_7_96 (by omega) x_135 rfl (Nat.le_of_ble_eq_true rfl) ?_
  refine W_if_ne (tgt := 28) d_211_21 (by decide) (fun h21 => absurd (bI_ne.mpr hb) h21) (fun h21 => ?_)
  refine W_ldc2 d_211_24 o_211 k_7_294 (v := (-12)) (by decide) ?_
  refine W_lret d_211_27 rt_211 ?_
  exact ⟨rfl, rfl⟩
theorem q_211p {d : Nat} {g : mG} {N : Nat} {P : Nat → mC} {Y : tR} {S : Nat → Int32} {v : Nat} (h12 : 12 ≤ v) (h17 : v ≤ 17) (hd : 4 ≤ d) : Ex d 211 [.ref 92, .int (nI v), .int 6] (N, H3 g P (mm Y S)) (some (.long ((Y 3 (v - 12)).toInt64))) (N, H3 g P (mm Y S)) := by
  refine Ex.of ?_
  show Wp _ 211 0 [.ref 92, .int (nI v), .int 6, .null] [] _ _
  refine W_iload_n d_211_0 rfl ?_
  refine W_iconst d_211_1 (v := 0) (by decide) ?_
  refine W_bipush d_211_2 (v := 6) (by decide) ?_
  refine W_callS d_211_4 o_211 k_7_96 (by omega) x_135 rfl (Nat.le_of_ble_eq_true rfl) ?_
  refine W_if_ne (tgt := 14) d_211_7 (by decide) (fun h7 => ?_) (fun h7 => absurd h7 (fun q => bI_f q (by decide)))
  refine W_iload_n d_211_14 rfl ?_
  refine W_iconst d_211_15 (v := 0) (by decide) ?_
  refine W_bipush d_211_16 (v := 17) (by decide) ?_
  refine W_callS d_211_18 o_211 k_7_96 (by omega) x_135 rfl (Nat.le_of_ble_eq_true rfl) ?_
  refine W_if_ne (tgt := 28) d_211_21 (by decide) (fun h21 => ?_) (fun h21 => absurd h21 (fun q => bI_f q ⟨nI_pos' (by omega), nI_le (a := v) (b := 17) (by omega) (by decide)⟩))
  refine W_iload_n d_211_28 rfl ?_
  refine W_bipush d_211_29 (v := 12) (by decide) ?_
  refine W_icmp_lt (tgt := 59) d_211_31 (by decide) (fun h31 => absurd h31 (nI_nlt (a := v) (b := 12) (by omega) (by omega))) (fun h31 => ?_)
  refine W_aload_n d_211_34 rfl (by decide) ?_
  refine W_getf d_211_35 o_211 k_7_19 rfl rfl ?_
  refine W_iload_n d_211_38 rfl ?_
  refine W_bipush d_211_39 (v := 12) (by decide) ?_
  refine W_isub d_211_41 ?_
  rw [show ((nI v - 12 : Int32)) = nI (v - 12) from pk_sub (a := v) (b := 12) (by omega)]
  refine W_mld (a := 3) d_211_42 rfl (by decide) (n := 6) rfl (vp_in_nI (by omega) (by decide)) (congrArg _ (nI_clamp (by omega))) ?_
  refine W_istore_n d_211_43 rfl ?_
  refine W_iload_n d_211_44 rfl ?_
  refine W_bipush d_211_45 (v := 6) (by decide) ?_
  refine W_icmp_ne (tgt := 55) d_211_47 (by decide) (fun h47 => absurd h47 (by decide)) (fun _ => ?_)
  refine W_iload_n d_211_50 rfl ?_
  refine W_i2l d_211_51 ?_
  refine W_goto (tgt := 58) d_211_52 (by decide) ?_
  refine W_lret d_211_58 rt_211 ?_
  exact ⟨rfl, rfl⟩
theorem q_211n {d : Nat} {g : mG} {N : Nat} {P : Nat → mC} {Y : tR} {S : Nat → Int32} {v : Nat} {w : Int32} (hw : 0 ≤ w ∧ w ≤ 6) (h12 : 12 ≤ v) (h17 : v ≤ 17) (hn6 : ¬ w = 6) (hd : 4 ≤ d) : Ex d 211 [.ref 92, .int (nI v), .int w] (N, H3 g P (mm Y S)) (some (.long (-13))) (N, H3 g P (mm Y S)) := by
  refine Ex.of ?_
  show Wp _ 211 0 [.ref 92, .int (nI v), .int w, .null] [] _ _
  refine W_iload_n d_211_0 rfl ?_
  refine W_iconst d_211_1 (v := 0) (by decide) ?_
  refine W_bipush d_211_2 (v := 6) (by decide) ?_
  refine W_callS d_211_4 o_211 k_7_96 (by omega) x_135 rfl (Nat.le_of_ble_eq_true rfl) ?_
  refine W_if_ne (tgt := 14) d_211_7 (by decide) (fun h7 => ?_) (fun h7 => absurd h7 (fun q => bI_f q hw))
  refine W_iload_n d_211_14 rfl ?_
  refine W_iconst d_211_15 (v := 0) (by decide) ?_
  refine W_bipush d_211_16 (v := 17) (by decide) ?_
  refine W_callS d_211_18 o_211 k_7_96 (by omega) x_135 rfl (Nat.le_of_ble_eq_true rfl) ?_
  refine W_if_ne (tgt := 28) d_211_21 (by decide) (fun h21 => ?_) (fun h21 => absurd h21 (fun q => bI_f q ⟨nI_pos' (by omega), nI_le (a := v) (b := 17) (by omega) (by decide)⟩))
  refine W_iload_n d_211_28 rfl ?_
  refine W_bipush d_211_29 (v := 12) (by decide) ?_
  refine W_icmp_lt (tgt := 59) d_211_31 (by decide) (fun h31 => absurd h31 (nI_nlt (a := v) (b := 12) (by omega) (by omega))) (fun h31 => ?_)
  refine W_aload_n d_211_34 rfl (by decide) ?_
  refine W_getf d_211_35 o_211 k_7_19 rfl rfl ?_
  refine W_iload_n d_211_38 rfl ?_
  refine W_bipush d_211_39 (v := 12) (by decide) ?_
  refine W_isub d_211_41 ?_
  rw [show ((nI v - 12 : Int32)) = nI (v - 12) from pk_sub (a := v) (b := 12) (by omega)]
  refine W_mld (a := 3) d_211_42 rfl (by decide) (n := 6) rfl (vp_in_nI (by omega) (by decide)) (congrArg _ (nI_clamp (by omega))) ?_
  refine W_istore_n d_211_43 rfl ?_
  refine W_iload_n d_211_44 rfl ?_
  refine W_bipush d_211_45 (v := 6) (by decide) ?_
  refine W_icmp_ne (tgt := 55) d_211_47 (by decide) (fun h47 => ?_) (fun h47 => absurd h47 hn6)
  refine W_ldc2 d_211_55 o_211 k_7_296 (v := (-13)) (by decide) ?_
  refine W_lret d_211_58 rt_211 ?_
  exact ⟨rfl, rfl⟩
theorem q_211o {d : Nat} {g : mG} {N : Nat} {P : Nat → mC} {Y : tR} {S : Nat → Int32} {n : Nat} (hS0 : S 0 = nI n) (hn12 : n ≤ 12) {v : Nat} {w : Int32} (hw : 0 ≤ w ∧ w ≤ 6) (h12 : v < 12) (hb : ¬ v < n) (hd : 4 ≤ d) : Ex d 211 [.ref 92, .int (nI v), .int w] (N, H3 g P (mm Y S)) (some (.long (-11))) (N, H3 g P (mm Y S)) := by
  refine Ex.of ?_
  show Wp _ 211 0 [.ref 92, .int (nI v), .int w, .null] [] _ _
  refine W_iload_n d_211_0 rfl ?_
  refine W_iconst d_211_1 (v := 0) (by decide) ?_
  refine W_bipush d_211_2 (v := 6) (by decide) ?_
  refine W_callS d_211_4 o_211 k_7_96 (by omega) x_135 rfl (Nat.le_of_ble_eq_true rfl) ?_
  refine W_if_ne (tgt := 14) d_211_7 (by decide) (fun h7 => ?_) (fun h7 => absurd h7 (fun q => bI_f q hw))
  refine W_iload_n d_211_14 rfl ?_
  refine W_iconst d_211_15 (v := 0) (by decide) ?_
  refine W_bipush d_211_16 (v := 17) (by decide) ?_
  refine W_callS d_211_18 o_211 k_7_96 (by omega) x_135 rfl (Nat.le_of_ble_eq_true rfl) ?_
  refine W_if_ne (tgt := 28) d_211_21 (by decide) (fun h21 => ?_) (fun h21 => absurd h21 (fun q => bI_f q ⟨nI_pos' (by omega), nI_le (a := v) (b := 17) (by omega) (by decide)⟩))
  refine W_iload_n d_211_28 rfl ?_
  refine W_bipush d_211_29 (v := 12) (by decide) ?_
  refine W_icmp_lt (tgt := 59) d_211_31 (by decide) (fun h31 => ?_) (fun h31 => absurd (nI_lt (a := v) (b := 12) (by omega) (by omega)) h31)
  refine W_iload_n d_211_59 rfl ?_
  refine W_aload_n d_211_60 rfl (by decide) ?_
  refine W_getf d_211_61 o_211 k_7_93 rfl rfl ?_
  rw [hS0]
  refine W_icmp_lt (tgt := 73) d_211_64 (by decide) (fun h64 => absurd h64 (nI_nlt (a := v) (b := n) (by omega) (by omega))) (fun h64 => ?_)
  refine W_ldc2 d_211_67 o_211 k_7_298 (v := (-11)) (by decide) ?_
  refine W_goto (tgt := 100) d_211_70 (by decide) ?_
  refine W_lret d_211_100 rt_211 ?_
  exact ⟨rfl, rfl⟩
def und (k w : Int32) : Bool := decide (w = 0 ∨ k = w ∨ (w = 1 ∧ k = 3) ∨ (w = 2 ∧ k = 4))
theorem und_kch {k : Nat} (hk : k < 6) {w : Int32} (hw : 0 ≤ w ∧ w ≤ 5) : und (nI k) w = decide (w ∈ kch k) := by
  obtain ⟨c, hc, rfl⟩ := nI_of2 (x := w) (M := 5) (n := 5) rfl (Int32.not_lt.mpr hw.1) hw.2
  have key : ∀ k, k < 6 → ∀ c, c < 6 → und (nI k) (nI c) = decide (nI c ∈ kch k) := by decide +kernel
  exact key k hk c (by omega)
theorem q_210 {d : Nat} {M : mM} {k w : Int32} (hd : 0 ≤ d) : Ex d 210 [.int k, .int w] M (some (.int (bI (und k w)))) M := by
  refine Ex.of ?_
  show Wp _ 210 0 [.int k, .int w] [] _ _
  refine W_iload_n d_210_0 rfl ?_
  refine W_if_eq (tgt := 29) d_210_1 (by decide) (fun h1 => ?_) (fun h1 => ?_)
  · refine W_iconst d_210_29 (v := 1) (by decide) ?_
    refine W_goto (tgt := 34) d_210_30 (by decide) ?_
    refine W_iret d_210_34 rt_210 rfl ?_
    refine ⟨congrArg (fun z => some (Value.int z)) ?_, rfl⟩
    first | exact bI_1 (by simp [h1]) | exact bI_1 (by simp_all) | exact bI_0 (by simp_all)
  · refine W_iload_n d_210_4 rfl ?_
    refine W_iload_n d_210_5 rfl ?_
    refine W_icmp_eq (tgt := 29) d_210_6 (by decide) (fun h6 => ?_) (fun h6 => ?_)
    · refine W_iconst d_210_29 (v := 1) (by decide) ?_
      refine W_goto (tgt := 34) d_210_30 (by decide) ?_
      refine W_iret d_210_34 rt_210 rfl ?_
      refine ⟨congrArg (fun z => some (Value.int z)) ?_, rfl⟩
      first | exact bI_1 (by simp [h1, h6]) | exact bI_1 (by simp_all) | exact bI_0 (by simp_all)
    · refine W_iload_n d_210_9 rfl ?_
      refine W_iconst d_210_10 (v := 1) (by decide) ?_
      refine W_icmp_ne (tgt := 19) d_210_11 (by decide) (fun h11 => ?_) (fun h11 => ?_)
      · refine W_iload_n d_210_19 rfl ?_
        refine W_iconst d_210_20 (v := 2) (by decide) ?_
        refine W_icmp_ne (tgt := 33) d_210_21 (by decide) (fun h21 => ?_) (fun h21 => ?_)
        · refine W_iconst d_210_33 (v := 0) (by decide) ?_
          refine W_iret d_210_34 rt_210 rfl ?_
          refine ⟨congrArg (fun z => some (Value.int z)) ?_, rfl⟩
          first | exact bI_1 (by simp [h1, h6, h11, h21]) | exact bI_1 (by simp_all) | exact bI_0 (by simp_all)
        · refine W_iload_n d_210_24 rfl ?_
          refine W_iconst d_210_25 (v := 4) (by decide) ?_
          refine W_icmp_ne (tgt := 33) d_210_26 (by decide) (fun h26 => ?_) (fun h26 => ?_)
          · refine W_iconst d_210_33 (v := 0) (by decide) ?_
            refine W_iret d_210_34 rt_210 rfl ?_
            refine ⟨congrArg (fun z => some (Value.int z)) ?_, rfl⟩
            first | exact bI_1 (by simp [h1, h6, h11, h21, h26]) | exact bI_1 (by simp_all) | exact bI_0 (by simp_all)
          · refine W_iconst d_210_29 (v := 1) (by decide) ?_
            refine W_goto (tgt := 34) d_210_30 (by decide) ?_
            refine W_iret d_210_34 rt_210 rfl ?_
            refine ⟨congrArg (fun z => some (Value.int z)) ?_, rfl⟩
            first | exact bI_1 (by simp [h1, h6, h11, h21, h26]) | exact bI_1 (by simp_all) | exact bI_0 (by simp_all)
      · refine W_iload_n d_210_14 rfl ?_
        refine W_iconst d_210_15 (v := 3) (by decide) ?_
        refine W_icmp_eq (tgt := 29) d_210_16 (by decide) (fun h16 => ?_) (fun h16 => ?_)
        · refine W_iconst d_210_29 (v := 1) (by decide) ?_
          refine W_goto (tgt := 34) d_210_30 (by decide) ?_
          refine W_iret d_210_34 rt_210 rfl ?_
          refine ⟨congrArg (fun z => some (Value.int z)) ?_, rfl⟩
          first | exact bI_1 (by simp [h1, h6, h11, h16]) | exact bI_1 (by simp_all) | exact bI_0 (by simp_all)
        · refine W_iload_n d_210_19 rfl ?_
          refine W_iconst d_210_20 (v := 2) (by decide) ?_
          refine W_icmp_ne (tgt := 33) d_210_21 (by decide) (fun h21 => ?_) (fun h21 => ?_)
          · refine W_iconst d_210_33 (v := 0) (by decide) ?_
            refine W_iret d_210_34 rt_210 rfl ?_
            refine ⟨congrArg (fun z => some (Value.int z)) ?_, rfl⟩
            first | exact bI_1 (by simp [h1, h6, h11, h16, h21]) | exact bI_1 (by simp_all) | exact bI_0 (by simp_all)
          · refine W_iload_n d_210_24 rfl ?_
            refine W_iconst d_210_25 (v := 4) (by decide) ?_
            refine W_icmp_ne (tgt := 33) d_210_26 (by decide) (fun h26 => ?_) (fun h26 => ?_)
            · refine W_iconst d_210_33 (v := 0) (by decide) ?_
              refine W_iret d_210_34 rt_210 rfl ?_
              exact absurd (h11.symm.trans h21) (by decide)
            · refine W_iconst d_210_29 (v := 1) (by decide) ?_
              refine W_goto (tgt := 34) d_210_30 (by decide) ?_
              refine W_iret d_210_34 rt_210 rfl ?_
              exact absurd (h11.symm.trans h21) (by decide)
theorem six_of {w : Int32} (hw : 0 ≤ w ∧ w ≤ 6) : (w < 6 ∧ 0 ≤ w ∧ w ≤ 5) ∨ w = 6 := by
  simp only [← Int32.toInt_inj, Int32.lt_iff_toInt_lt, Int32.le_iff_toInt_le, show (6 : Int32).toInt = 6 from rfl, show (5 : Int32).toInt = 5 from rfl, show (0 : Int32).toInt = 0 from rfl] at *
  omega
theorem not6 {k : Nat} (hk : k < 6) : ¬ (6 : Int32) ∈ kch k := by
  have key : ∀ k, k < 6 → ¬ (6 : Int32) ∈ kch k := by decide +kernel
  exact key k hk
theorem q_211 {d : Nat} {g : mG} {N : Nat} {P : Nat → mC} {Y : tR} {S : Nat → Int32} {n : Nat} (hS0 : S 0 = nI n) (hn12 : n ≤ 12) {v : Nat} {w : Int32} (hw : 0 ≤ w ∧ w ≤ 6) (hv : v < n) {k : Nat} (hk6 : k < 6) (hk : Y 0 v = nI k) (hd : 4 ≤ d) : Ex d 211 [.ref 92, .int (nI v), .int w] (N, H3 g P (mm Y S)) (some (.long (if w ∈ kch k then (nI v).toInt64 else -13))) (N, H3 g P (mm Y S)) := by
  refine Ex.of ?_
  show Wp _ 211 0 [.ref 92, .int (nI v), .int w, .null] [] _ _
  refine W_iload_n d_211_0 rfl ?_
  refine W_iconst d_211_1 (v := 0) (by decide) ?_
  refine W_bipush d_211_2 (v := 6) (by decide) ?_
  refine W_callS d_211_4 o_211 k_7_96 (by omega) x_135 rfl (Nat.le_of_ble_eq_true rfl) ?_
  refine W_if_ne (tgt := 14) d_211_7 (by decide) (fun h7 => ?_) (fun h7 => absurd h7 (fun q => bI_f q hw))
  refine W_iload_n d_211_14 rfl ?_
  refine W_iconst d_211_15 (v := 0) (by decide) ?_
  refine W_bipush d_211_16 (v := 17) (by decide) ?_
  refine W_callS d_211_18 o_211 k_7_96 (by omega) x_135 rfl (Nat.le_of_ble_eq_true rfl) ?_
  refine W_if_ne (tgt := 28) d_211_21 (by decide) (fun h21 => ?_) (fun h21 => absurd h21 (fun q => bI_f q ⟨nI_pos' (by omega), nI_le (a := v) (b := 17) (by omega) (by decide)⟩))
  refine W_iload_n d_211_28 rfl ?_
  refine W_bipush d_211_29 (v := 12) (by decide) ?_
  refine W_icmp_lt (tgt := 59) d_211_31 (by decide) (fun h31 => ?_) (fun h31 => absurd (nI_lt (a := v) (b := 12) (by omega) (by omega)) h31)
  refine W_iload_n d_211_59 rfl ?_
  refine W_aload_n d_211_60 rfl (by decide) ?_
  refine W_getf d_211_61 o_211 k_7_93 rfl rfl ?_
  rw [hS0]
  refine W_icmp_lt (tgt := 73) d_211_64 (by decide) (fun h64 => ?_) (fun h64 => absurd (nI_lt (a := v) (b := n) (by omega) (by omega)) h64)
  refine W_iload_n d_211_73 rfl ?_
  refine W_bipush d_211_74 (v := 6) (by decide) ?_
  refine W_icmp_ge (tgt := 97) d_211_76 (by decide) (fun h76 => ?_) (fun h76 => ?_)
  · refine W_ldc2 d_211_97 o_211 k_7_296 (v := (-13)) (by decide) ?_
    refine W_lret d_211_100 rt_211 ?_
    rcases six_of hw with h | h
    · exact absurd h.1 (Int32.not_lt.mpr h76)
    · subst h
      exact ⟨congrArg (fun z => some (Value.long z)) (if_neg (not6 hk6)).symm, rfl⟩
  · refine W_aload_n d_211_79 rfl (by decide) ?_
    refine W_getf d_211_80 o_211 k_7_7 rfl rfl ?_
    refine W_iload_n d_211_83 rfl ?_
    refine W_mld (a := 0) d_211_84 rfl (by decide) (n := 12) rfl (vp_in_nI (by omega) (by decide)) ((congrArg (Y 0) (nI_clamp (by omega))).trans hk) ?_
    refine W_iload_n d_211_85 rfl ?_
    refine W_callS d_211_86 o_211 k_7_300 (by omega) (q_210 (by omega)) rfl (Nat.le_of_ble_eq_true rfl) ?_
    refine W_if_eq (tgt := 97) d_211_89 (by decide) (fun h89 => ?_) (fun h89 => ?_)
    · refine W_ldc2 d_211_97 o_211 k_7_296 (v := (-13)) (by decide) ?_
      refine W_lret d_211_100 rt_211 ?_
      have h5 : 0 ≤ w ∧ w ≤ 5 := by
        rcases six_of hw with h | h
        · exact h.2
        · subst h; exact absurd (Int32.le_refl 6) h76
      rw [und_kch hk6 h5] at h89
      exact ⟨congrArg (fun z => some (Value.long z)) (if_neg (bI_f h89)).symm, rfl⟩
    · refine W_iload_n d_211_92 rfl ?_
      refine W_i2l d_211_93 ?_
      refine W_goto (tgt := 100) d_211_94 (by decide) ?_
      refine W_lret d_211_100 rt_211 ?_
      have h5 : 0 ≤ w ∧ w ≤ 5 := by
        rcases six_of hw with h | h
        · exact h.2
        · subst h; exact absurd (Int32.le_refl 6) h76
      rw [und_kch hk6 h5] at h89
      exact ⟨congrArg (fun z => some (Value.long z)) (if_pos (bI_t h89)).symm, rfl⟩
