/-! THE MODEL: hours in thought (wip/whole/gen30.py) -/
def FRb (Y : tR) (S : Nat → Int32) (Y' : tR) (S' : Nat → Int32) : Prop := (∀ i, ¬ (i = 19 ∨ i = 20) → Y' i = Y i) ∧ (∀ j, ¬ j = 34 → S' j = S j)
theorem lp_174 {d : Nat} {g : mG} {N : Nat} {P : Nat → mC} {Y0 : tR} {S0 : Nat → Int32} (hd : 0 ≤ d) {Q : Option Value → mM → Prop} (kk : ∀ (Y2 : tR) (S2 : Nat → Int32), ((∀ j, j < 12 → Y2 19 j = 0 ∧ Y2 20 j = 0) ∧ (∀ a, ¬ (a = 19 ∨ a = 20) → Y2 a = Y0 a) ∧ S2 = S0) → Wp d 174 33 [.ref 92, .int (nI 12)] [] (N, H3 g P (mm Y2 S2)) Q) : ∀ (k i : Nat) (Y : tR) (S : Nat → Int32), i + k = 12 → ((∀ j, j < i → Y 19 j = 0 ∧ Y 20 j = 0) ∧ (∀ a, ¬ (a = 19 ∨ a = 20) → Y a = Y0 a) ∧ S = S0) → Wp d 174 7 [.ref 92, .int (nI i)] [] (N, H3 g P (mm Y S)) Q := by
  intro k
  induction k with
  | zero =>
    intro i Y S hi hI
    have ei : i = 12 := by omega
    refine W_iload_n d_174_7 rfl ?_
    refine W_bipush d_174_8 (v := 12) (by decide) ?_
    refine W_icmp_ge (tgt := 33) d_174_10 (by decide) (fun h10 => ?_) (fun h10 => absurd (nI_le (a := 12) (b := i) (by omega) (by omega)) h10)
    rw [ei] at hI ⊢
    exact kk _ _ hI
  | succ k ih =>
    intro i Y S hi hI
    refine W_iload_n d_174_7 rfl ?_
    refine W_bipush d_174_8 (v := 12) (by decide) ?_
    refine W_icmp_ge (tgt := 33) d_174_10 (by decide) (fun h10 => absurd h10 (nI_ge (a := i) (b := 12) (by omega) (by omega))) (fun h10 => ?_)
    refine W_aload_n d_174_13 rfl (by decide) ?_
    refine W_getf d_174_14 o_174 k_7_71 rfl rfl ?_
    refine W_iload_n d_174_17 rfl ?_
    refine W_iconst d_174_18 (v := 0) (by decide) ?_
    refine W_mst (a := 19) d_174_19 rfl (by decide) (n := 12) rfl (vp_in_nI (by omega) (by decide)) (nI_clamp (by omega)) ?_
    refine W_aload_n d_174_20 rfl (by decide) ?_
    refine W_getf d_174_21 o_174 k_7_74 rfl rfl ?_
    refine W_iload_n d_174_24 rfl ?_
    refine W_iconst d_174_25 (v := 0) (by decide) ?_
    refine W_mst (a := 20) d_174_26 rfl (by decide) (n := 12) rfl (vp_in_nI (by omega) (by decide)) (nI_clamp (by omega)) ?_
    refine W_iinc (v := 1) d_174_27 rfl (by decide) rfl ?_
    rw [show ((nI i + 1 : Int32)) = nI (i + 1) from nI_add i 1]
    refine W_goto (tgt := 7) d_174_30 (by decide) ?_
    refine ih (i + 1) _ _ (by omega) ⟨fun j hj => ?_, fun a ha => ?_, hI.2.2⟩
    · rw [u2_ap, u2_ap, u2_ap, u2_ap]
      by_cases e : j = i
      · simp [e]
      · simp [e, hI.1 j (by omega)]
    · rw [u2_row (by omega), u2_row (by omega)]; exact hI.2.1 a ha
theorem x_174 {d : Nat} {g : mG} {N : Nat} {P : Nat → mC} {Y : tR} {S : Nat → Int32} : Wp d 174 0 (ment 174 [.ref 92]) [] (N, H3 g P (mm Y S)) (fun v M' => v = none ∧ ∃ Y' S', M' = (N, H3 g P (mm Y' S')) ∧ (∀ j, j < 12 → Y' 19 j = 0 ∧ Y' 20 j = 0) ∧ S' 34 = 0 ∧ FRb Y S Y' S') := by
  show Wp _ 174 0 [.ref 92, .null] [] _ _
  refine W_aload_n d_174_0 rfl (by decide) ?_
  refine W_iconst d_174_1 (v := 0) (by decide) ?_
  refine W_putf d_174_2 o_174 k_7_199 rfl (Nat.le_of_ble_eq_true rfl) rfl mm_s34 ?_
  refine W_iconst d_174_5 (v := 0) (by decide) ?_
  refine W_istore_n d_174_6 rfl ?_
  refine lp_174 (Y0 := Y) (S0 := va_up S 34 0) (Nat.zero_le _) (fun Y2 S2 h2 => ?_) 12 0 _ _ (by omega) ⟨fun j hj => absurd hj (by omega), fun a _ => rfl, rfl⟩
  refine W_ret d_174_33 rt_174 ?_
  refine ⟨rfl, _, _, rfl, h2.1, by rw [h2.2.2]; exact va_same _ _ _, h2.2.1, fun j hj => by rw [h2.2.2]; exact va_oth _ _ hj⟩
theorem lp_175 {d : Nat} {g : mG} {N : Nat} {P : Nat → mC} {Y : tR} {S : Nat → Int32} {n : Nat} (hn : S 0 = nI n) (hn12 : n ≤ 12) {X : tR} (hX : ∀ j, j < n → Y 19 j = X 7 j) {Q : Option Value → mM → Prop} (kk : Wp d 175 27 [.ref 92, .int (sm7 X n), .int (nI n)] [] (N, H3 g P (mm Y S)) Q) : ∀ k i, i + k = n → Wp d 175 4 [.ref 92, .int (sm7 X i), .int (nI i)] [] (N, H3 g P (mm Y S)) Q := by
  intro k
  induction k with
  | zero =>
    intro i hi
    have ei : i = n := by omega
    refine W_iload_n d_175_4 rfl ?_
    refine W_aload_n d_175_5 rfl (by decide) ?_
    refine W_getf d_175_6 o_175 k_7_93 rfl rfl ?_
    rw [hn]
    refine W_icmp_ge (tgt := 27) d_175_9 (by decide) (fun h9 => ?_) (fun h9 => absurd (nI_le (a := n) (b := i) (by omega) (by omega)) h9)
    rw [ei]
    exact kk
  | succ k ih =>
    intro i hi
    refine W_iload_n d_175_4 rfl ?_
    refine W_aload_n d_175_5 rfl (by decide) ?_
    refine W_getf d_175_6 o_175 k_7_93 rfl rfl ?_
    rw [hn]
    refine W_icmp_ge (tgt := 27) d_175_9 (by decide) (fun h9 => absurd h9 (nI_ge (a := i) (b := n) (by omega) (by omega))) (fun h9 => ?_)
    refine W_iload_n d_175_12 rfl ?_
    refine W_aload_n d_175_13 rfl (by decide) ?_
    refine W_getf d_175_14 o_175 k_7_71 rfl rfl ?_
    refine W_iload_n d_175_17 rfl ?_
    refine W_mld (a := 19) d_175_18 rfl (by decide) (n := 12) rfl (vp_in_nI (by omega) (by decide)) ((congrArg (Y 19) (nI_clamp (by omega))).trans (hX i (by omega))) ?_
    refine W_iadd d_175_19 ?_
    refine W_istore_n d_175_20 rfl ?_
    refine W_iinc (v := 1) d_175_21 rfl (by decide) rfl ?_
    rw [show ((nI i + 1 : Int32)) = nI (i + 1) from nI_add i 1]
    refine W_goto (tgt := 4) d_175_24 (by decide) ?_
    exact ih (i + 1) (by omega)
theorem x_175 {d : Nat} {g : mG} {N : Nat} {P : Nat → mC} {Y : tR} {S : Nat → Int32} {n : Nat} (hn : S 0 = nI n) (hn12 : n ≤ 12) {X : tR} (hX : ∀ j, j < n → Y 19 j = X 7 j) : Ex d 175 [.ref 92] (N, H3 g P (mm Y S)) (some (.int (sm7 X n))) (N, H3 g P (mm Y S)) := by
  refine Ex.of ?_
  show Wp _ 175 0 [.ref 92, .null, .null] [] _ _
  refine W_iconst d_175_0 (v := 0) (by decide) ?_
  refine W_istore_n d_175_1 rfl ?_
  refine W_iconst d_175_2 (v := 0) (by decide) ?_
  refine W_istore_n d_175_3 rfl ?_
  refine lp_175 (X := X) hn hn12 hX ?_ n 0 (by omega)
  refine W_iload_n d_175_27 rfl ?_
  refine W_iret d_175_28 rt_175 rfl ?_
  exact ⟨rfl, rfl⟩
theorem lp_176 {d : Nat} {g : mG} {N : Nat} {P : Nat → mC} {Y : tR} {S : Nat → Int32} {n : Nat} (hn : S 0 = nI n) (hn12 : n ≤ 12) {X : tR} (hX : ∀ j, j < n → Y 20 j = X 8 j) {Q : Option Value → mM → Prop} (kk : Wp d 176 27 [.ref 92, .int (sm8 X n), .int (nI n)] [] (N, H3 g P (mm Y S)) Q) : ∀ k i, i + k = n → Wp d 176 4 [.ref 92, .int (sm8 X i), .int (nI i)] [] (N, H3 g P (mm Y S)) Q := by
  intro k
  induction k with
  | zero =>
    intro i hi
    have ei : i = n := by omega
    refine W_iload_n d_176_4 rfl ?_
    refine W_aload_n d_176_5 rfl (by decide) ?_
    refine W_getf d_176_6 o_176 k_7_93 rfl rfl ?_
    rw [hn]
    refine W_icmp_ge (tgt := 27) d_176_9 (by decide) (fun h9 => ?_) (fun h9 => absurd (nI_le (a := n) (b := i) (by omega) (by omega)) h9)
    rw [ei]
    exact kk
  | succ k ih =>
    intro i hi
    refine W_iload_n d_176_4 rfl ?_
    refine W_aload_n d_176_5 rfl (by decide) ?_
    refine W_getf d_176_6 o_176 k_7_93 rfl rfl ?_
    rw [hn]
    refine W_icmp_ge (tgt := 27) d_176_9 (by decide) (fun h9 => absurd h9 (nI_ge (a := i) (b := n) (by omega) (by omega))) (fun h9 => ?_)
    refine W_iload_n d_176_12 rfl ?_
    refine W_aload_n d_176_13 rfl (by decide) ?_
    refine W_getf d_176_14 o_176 k_7_74 rfl rfl ?_
    refine W_iload_n d_176_17 rfl ?_
    refine W_mld (a := 20) d_176_18 rfl (by decide) (n := 12) rfl (vp_in_nI (by omega) (by decide)) ((congrArg (Y 20) (nI_clamp (by omega))).trans (hX i (by omega))) ?_
    refine W_iadd d_176_19 ?_
    refine W_istore_n d_176_20 rfl ?_
    refine W_iinc (v := 1) d_176_21 rfl (by decide) rfl ?_
    rw [show ((nI i + 1 : Int32)) = nI (i + 1) from nI_add i 1]
    refine W_goto (tgt := 4) d_176_24 (by decide) ?_
    exact ih (i + 1) (by omega)
theorem x_176 {d : Nat} {g : mG} {N : Nat} {P : Nat → mC} {Y : tR} {S : Nat → Int32} {n : Nat} (hn : S 0 = nI n) (hn12 : n ≤ 12) {X : tR} (hX : ∀ j, j < n → Y 20 j = X 8 j) : Ex d 176 [.ref 92] (N, H3 g P (mm Y S)) (some (.int (sm8 X n))) (N, H3 g P (mm Y S)) := by
  refine Ex.of ?_
  show Wp _ 176 0 [.ref 92, .null, .null] [] _ _
  refine W_iconst d_176_0 (v := 0) (by decide) ?_
  refine W_istore_n d_176_1 rfl ?_
  refine W_iconst d_176_2 (v := 0) (by decide) ?_
  refine W_istore_n d_176_3 rfl ?_
  refine lp_176 (X := X) hn hn12 hX ?_ n 0 (by omega)
  refine W_iload_n d_176_27 rfl ?_
  refine W_iret d_176_28 rt_176 rfl ?_
  exact ⟨rfl, rfl⟩
def mx7 (X : tR) : Nat → Int32
  | 0 => 0
  | i + 1 => if X 7 i ≤ mx7 X i then mx7 X i else X 7 i
theorem lp_177 {d : Nat} {g : mG} {N : Nat} {P : Nat → mC} {Y : tR} {S : Nat → Int32} {n : Nat} (hn : S 0 = nI n) (hn12 : n ≤ 12) {X : tR} (hX : ∀ j, j < n → Y 19 j = X 7 j) {Q : Option Value → mM → Prop} (kk : Wp d 177 39 [.ref 92, .int (mx7 X n), .int (nI n)] [] (N, H3 g P (mm Y S)) Q) : ∀ k i, i + k = n → Wp d 177 4 [.ref 92, .int (mx7 X i), .int (nI i)] [] (N, H3 g P (mm Y S)) Q := by
  intro k
  induction k with
  | zero =>
    intro i hi
    have ei : i = n := by omega
    refine W_iload_n d_177_4 rfl ?_
    refine W_aload_n d_177_5 rfl (by decide) ?_
    refine W_getf d_177_6 o_177 k_7_93 rfl rfl ?_
    rw [hn]
    refine W_icmp_ge (tgt := 39) d_177_9 (by decide) (fun h9 => ?_) (fun h9 => absurd (nI_le (a := n) (b := i) (by omega) (by omega)) h9)
    rw [ei]
    exact kk
  | succ k ih =>
    intro i hi
    refine W_iload_n d_177_4 rfl ?_
    refine W_aload_n d_177_5 rfl (by decide) ?_
    refine W_getf d_177_6 o_177 k_7_93 rfl rfl ?_
    rw [hn]
    refine W_icmp_ge (tgt := 39) d_177_9 (by decide) (fun h9 => absurd h9 (nI_ge (a := i) (b := n) (by omega) (by omega))) (fun h9 => ?_)
    refine W_aload_n d_177_12 rfl (by decide) ?_
    refine W_getf d_177_13 o_177 k_7_71 rfl rfl ?_
    refine W_iload_n d_177_16 rfl ?_
    refine W_mld (a := 19) d_177_17 rfl (by decide) (n := 12) rfl (vp_in_nI (by omega) (by decide)) ((congrArg (Y 19) (nI_clamp (by omega))).trans (hX i (by omega))) ?_
    refine W_iload_n d_177_18 rfl ?_
    refine W_icmp_le (tgt := 31) d_177_19 (by decide) (fun h19 => ?_) (fun h19 => ?_)
    · refine W_iload_n d_177_31 rfl ?_
      refine W_istore_n d_177_32 rfl ?_
      refine W_iinc (v := 1) d_177_33 rfl (by decide) rfl ?_
      rw [show ((nI i + 1 : Int32)) = nI (i + 1) from nI_add i 1]
      refine W_goto (tgt := 4) d_177_36 (by decide) ?_
      have h9 := ih (i + 1) (by omega)
      rw [mx7, if_pos h19] at h9
      exact h9
    · refine W_aload_n d_177_22 rfl (by decide) ?_
      refine W_getf d_177_23 o_177 k_7_71 rfl rfl ?_
      refine W_iload_n d_177_26 rfl ?_
      refine W_mld (a := 19) d_177_27 rfl (by decide) (n := 12) rfl (vp_in_nI (by omega) (by decide)) ((congrArg (Y 19) (nI_clamp (by omega))).trans (hX i (by omega))) ?_
      refine W_goto (tgt := 32) d_177_28 (by decide) ?_
      refine W_istore_n d_177_32 rfl ?_
      refine W_iinc (v := 1) d_177_33 rfl (by decide) rfl ?_
      rw [show ((nI i + 1 : Int32)) = nI (i + 1) from nI_add i 1]
      refine W_goto (tgt := 4) d_177_36 (by decide) ?_
      have h9 := ih (i + 1) (by omega)
      rw [mx7, if_neg h19] at h9
      exact h9
theorem x_177 {d : Nat} {g : mG} {N : Nat} {P : Nat → mC} {Y : tR} {S : Nat → Int32} {n : Nat} (hn : S 0 = nI n) (hn12 : n ≤ 12) {X : tR} (hX : ∀ j, j < n → Y 19 j = X 7 j) : Ex d 177 [.ref 92] (N, H3 g P (mm Y S)) (some (.int (mx7 X n))) (N, H3 g P (mm Y S)) := by
  refine Ex.of ?_
  show Wp _ 177 0 [.ref 92, .null, .null] [] _ _
  refine W_iconst d_177_0 (v := 0) (by decide) ?_
  refine W_istore_n d_177_1 rfl ?_
  refine W_iconst d_177_2 (v := 0) (by decide) ?_
  refine W_istore_n d_177_3 rfl ?_
  refine lp_177 (X := X) hn hn12 hX ?_ n 0 (by omega)
  refine W_iload_n d_177_39 rfl ?_
  refine W_iret d_177_40 rt_177 rfl ?_
  exact ⟨rfl, rfl⟩
theorem lp_182 {d : Nat} {g : mG} {N : Nat} {P : Nat → mC} {Y : tR} {S : Nat → Int32} {n : Nat} (hn : S 0 = nI n) (hn12 : n ≤ 12) {X : tR} (hX : ∀ j, j < n → Y 19 j = X 7 j) {Q : Option Value → mM → Prop} (kk : Wp d 182 57 [.ref 92, .int (bz X n).1, .int (bz X n).2, .int (nI n)] [] (N, H3 g P (mm Y S)) Q) : ∀ k i, i + k = n → Wp d 182 6 [.ref 92, .int (bz X i).1, .int (bz X i).2, .int (nI i)] [] (N, H3 g P (mm Y S)) Q := by
  intro k
  induction k with
  | zero =>
    intro i hi
    have ei : i = n := by omega
    refine W_iload_n d_182_6 rfl ?_
    refine W_aload_n d_182_7 rfl (by decide) ?_
    refine W_getf d_182_8 o_182 k_7_93 rfl rfl ?_
    rw [hn]
    refine W_icmp_ge (tgt := 57) d_182_11 (by decide) (fun h11 => ?_) (fun h11 => absurd (nI_le (a := n) (b := i) (by omega) (by omega)) h11)
    rw [ei]
    exact kk
  | succ k ih =>
    intro i hi
    refine W_iload_n d_182_6 rfl ?_
    refine W_aload_n d_182_7 rfl (by decide) ?_
    refine W_getf d_182_8 o_182 k_7_93 rfl rfl ?_
    rw [hn]
    refine W_icmp_ge (tgt := 57) d_182_11 (by decide) (fun h11 => absurd h11 (nI_ge (a := i) (b := n) (by omega) (by omega))) (fun h11 => ?_)
    refine W_aload_n d_182_14 rfl (by decide) ?_
    refine W_getf d_182_15 o_182 k_7_71 rfl rfl ?_
    refine W_iload_n d_182_18 rfl ?_
    refine W_mld (a := 19) d_182_19 rfl (by decide) (n := 12) rfl (vp_in_nI (by omega) (by decide)) ((congrArg (Y 19) (nI_clamp (by omega))).trans (hX i (by omega))) ?_
    refine W_iload_n d_182_20 rfl ?_
    refine W_icmp_le (tgt := 28) d_182_21 (by decide) (fun h21 => ?_) (fun h21 => ?_)
    · refine W_iload_n d_182_28 rfl ?_
      refine W_istore_n d_182_29 rfl ?_
      refine W_aload_n d_182_30 rfl (by decide) ?_
      refine W_getf d_182_31 o_182 k_7_71 rfl rfl ?_
      refine W_iload_n d_182_34 rfl ?_
      refine W_mld (a := 19) d_182_35 rfl (by decide) (n := 12) rfl (vp_in_nI (by omega) (by decide)) ((congrArg (Y 19) (nI_clamp (by omega))).trans (hX i (by omega))) ?_
      refine W_iload_n d_182_36 rfl ?_
      refine W_icmp_le (tgt := 49) d_182_37 (by decide) (fun h37 => ?_) (fun h37 => absurd h21 h37)
      refine W_iload_n d_182_49 rfl ?_
      refine W_istore_n d_182_50 rfl ?_
      refine W_iinc (v := 1) d_182_51 rfl (by decide) rfl ?_
      rw [show ((nI i + 1 : Int32)) = nI (i + 1) from nI_add i 1]
      refine W_goto (tgt := 6) d_182_54 (by decide) ?_
      have h9 := ih (i + 1) (by omega)
      rw [bz, if_pos h21] at h9
      exact h9
    · refine W_iload_n d_182_24 rfl ?_
      refine W_goto (tgt := 29) d_182_25 (by decide) ?_
      refine W_istore_n d_182_29 rfl ?_
      refine W_aload_n d_182_30 rfl (by decide) ?_
      refine W_getf d_182_31 o_182 k_7_71 rfl rfl ?_
      refine W_iload_n d_182_34 rfl ?_
      refine W_mld (a := 19) d_182_35 rfl (by decide) (n := 12) rfl (vp_in_nI (by omega) (by decide)) ((congrArg (Y 19) (nI_clamp (by omega))).trans (hX i (by omega))) ?_
      refine W_iload_n d_182_36 rfl ?_
      refine W_icmp_le (tgt := 49) d_182_37 (by decide) (fun h37 => absurd h37 h21) (fun h37 => ?_)
      refine W_aload_n d_182_40 rfl (by decide) ?_
      refine W_getf d_182_41 o_182 k_7_71 rfl rfl ?_
      refine W_iload_n d_182_44 rfl ?_
      refine W_mld (a := 19) d_182_45 rfl (by decide) (n := 12) rfl (vp_in_nI (by omega) (by decide)) ((congrArg (Y 19) (nI_clamp (by omega))).trans (hX i (by omega))) ?_
      refine W_goto (tgt := 50) d_182_46 (by decide) ?_
      refine W_istore_n d_182_50 rfl ?_
      refine W_iinc (v := 1) d_182_51 rfl (by decide) rfl ?_
      rw [show ((nI i + 1 : Int32)) = nI (i + 1) from nI_add i 1]
      refine W_goto (tgt := 6) d_182_54 (by decide) ?_
      have h9 := ih (i + 1) (by omega)
      rw [bz, if_neg h21] at h9
      exact h9
theorem x_182 {d : Nat} {g : mG} {N : Nat} {P : Nat → mC} {Y : tR} {S : Nat → Int32} {n : Nat} (hn : S 0 = nI n) (hn12 : n ≤ 12) {X : tR} (hX : ∀ j, j < n → Y 19 j = X 7 j) : Ex d 182 [.ref 92] (N, H3 g P (mm Y S)) (some (.int (bz X n).1)) (N, H3 g P (mm Y S)) := by
  refine Ex.of ?_
  show Wp _ 182 0 [.ref 92, .null, .null, .null] [] _ _
  refine W_iconst d_182_0 (v := (-1)) (by decide) ?_
  refine W_istore_n d_182_1 rfl ?_
  refine W_iconst d_182_2 (v := (-1)) (by decide) ?_
  refine W_istore_n d_182_3 rfl ?_
  refine W_iconst d_182_4 (v := 0) (by decide) ?_
  refine W_istore_n d_182_5 rfl ?_
  refine lp_182 (X := X) hn hn12 hX ?_ n 0 (by omega)
  refine W_iload_n d_182_57 rfl ?_
  refine W_iret d_182_58 rt_182 rfl ?_
  exact ⟨rfl, rfl⟩
theorem lp_179a {d : Nat} {g : mG} {N : Nat} {P : Nat → mC} {Y0 : tR} {S0 : Nat → Int32} (hd : 0 ≤ d) {Q : Option Value → mM → Prop} (kk : ∀ (Y2 : tR) (S2 : Nat → Int32), ((∀ j, j < 60 → Y2 21 j = Y0 2 j) ∧ (∀ a, ¬ a = 21 → Y2 a = Y0 a) ∧ S2 = S0) → Wp d 179 26 [.ref 92, .int (nI 60)] [] (N, H3 g P (mm Y2 S2)) Q) : ∀ (k i : Nat) (Y : tR) (S : Nat → Int32), i + k = 60 → ((∀ j, j < i → Y 21 j = Y0 2 j) ∧ (∀ a, ¬ a = 21 → Y a = Y0 a) ∧ S = S0) → Wp d 179 2 [.ref 92, .int (nI i)] [] (N, H3 g P (mm Y S)) Q := by
  intro k
  induction k with
  | zero =>
    intro i Y S hi hI
    have ei : i = 60 := by omega
    refine W_iload_n d_179_2 rfl ?_
    refine W_bipush d_179_3 (v := 60) (by decide) ?_
    refine W_icmp_ge (tgt := 26) d_179_5 (by decide) (fun h5 => ?_) (fun h5 => absurd (nI_le (a := 60) (b := i) (by omega) (by omega)) h5)
    rw [ei] at hI ⊢
    exact kk _ _ hI
  | succ k ih =>
    intro i Y S hi hI
    refine W_iload_n d_179_2 rfl ?_
    refine W_bipush d_179_3 (v := 60) (by decide) ?_
    refine W_icmp_ge (tgt := 26) d_179_5 (by decide) (fun h5 => absurd h5 (nI_ge (a := i) (b := 60) (by omega) (by omega))) (fun h5 => ?_)
    refine W_aload_n d_179_8 rfl (by decide) ?_
    refine W_getf d_179_9 o_179 k_7_77 rfl rfl ?_
    refine W_iload_n d_179_12 rfl ?_
    refine W_aload_n d_179_13 rfl (by decide) ?_
    refine W_getf d_179_14 o_179 k_7_16 rfl rfl ?_
    refine W_iload_n d_179_17 rfl ?_
    refine W_mld (a := 2) d_179_18 rfl (by decide) (n := 60) rfl (vp_in_nI (by omega) (by decide)) (congrArg _ (nI_clamp (by omega))) ?_
    refine W_mst (a := 21) d_179_19 rfl (by decide) (n := 66) rfl (vp_in_nI (by omega) (by decide)) (nI_clamp (by omega)) ?_
    refine W_iinc (v := 1) d_179_20 rfl (by decide) rfl ?_
    rw [show ((nI i + 1 : Int32)) = nI (i + 1) from nI_add i 1]
    refine W_goto (tgt := 2) d_179_23 (by decide) ?_
    refine ih (i + 1) _ _ (by omega) ⟨fun j hj => ?_, fun a ha => (u2_row ha).trans (hI.2.1 a ha), hI.2.2⟩
    rw [u2_ap]
    by_cases e : j = i
    · rw [if_pos ⟨rfl, e⟩, e, hI.2.1 2 (by decide)]
    · rw [if_neg (fun q => e q.2)]; exact hI.1 j (by omega)
theorem lp_179b {d : Nat} {g : mG} {N : Nat} {P : Nat → mC} {Y0 : tR} {S0 : Nat → Int32} (hd : 0 ≤ d) {Q : Option Value → mM → Prop} (kk : ∀ (Y2 : tR) (S2 : Nat → Int32), ((∀ j, j < 60 → Y2 21 j = Y0 2 j) ∧ (∀ j, j < 6 → Y2 21 (60 + j) = Y0 3 j) ∧ (∀ a, ¬ a = 21 → Y2 a = Y0 a) ∧ S2 = S0) → Wp d 179 55 [.ref 92, .int (nI 6)] [] (N, H3 g P (mm Y2 S2)) Q) : ∀ (k i : Nat) (Y : tR) (S : Nat → Int32), i + k = 6 → ((∀ j, j < 60 → Y 21 j = Y0 2 j) ∧ (∀ j, j < i → Y 21 (60 + j) = Y0 3 j) ∧ (∀ a, ¬ a = 21 → Y a = Y0 a) ∧ S = S0) → Wp d 179 28 [.ref 92, .int (nI i)] [] (N, H3 g P (mm Y S)) Q := by
  intro k
  induction k with
  | zero =>
    intro i Y S hi hI
    have ei : i = 6 := by omega
    refine W_iload_n d_179_28 rfl ?_
    refine W_bipush d_179_29 (v := 6) (by decide) ?_
    refine W_icmp_ge (tgt := 55) d_179_31 (by decide) (fun h31 => ?_) (fun h31 => absurd (nI_le (a := 6) (b := i) (by omega) (by omega)) h31)
    rw [ei] at hI ⊢
    exact kk _ _ hI
  | succ k ih =>
    intro i Y S hi hI
    refine W_iload_n d_179_28 rfl ?_
    refine W_bipush d_179_29 (v := 6) (by decide) ?_
    refine W_icmp_ge (tgt := 55) d_179_31 (by decide) (fun h31 => absurd h31 (nI_ge (a := i) (b := 6) (by omega) (by omega))) (fun h31 => ?_)
    refine W_aload_n d_179_34 rfl (by decide) ?_
    refine W_getf d_179_35 o_179 k_7_77 rfl rfl ?_
    refine W_bipush d_179_38 (v := 60) (by decide) ?_
    refine W_iload_n d_179_40 rfl ?_
    refine W_iadd d_179_41 ?_
    rw [show ((60 + nI i : Int32)) = nI (60 + i) from nI_add 60 i]
    refine W_aload_n d_179_42 rfl (by decide) ?_
    refine W_getf d_179_43 o_179 k_7_19 rfl rfl ?_
    refine W_iload_n d_179_46 rfl ?_
    refine W_mld (a := 3) d_179_47 rfl (by decide) (n := 6) rfl (vp_in_nI (by omega) (by decide)) (congrArg _ (nI_clamp (by omega))) ?_
    refine W_mst (a := 21) d_179_48 rfl (by decide) (n := 66) rfl (vp_in_nI (by omega) (by decide)) (nI_clamp (by omega)) ?_
    refine W_iinc (v := 1) d_179_49 rfl (by decide) rfl ?_
    rw [show ((nI i + 1 : Int32)) = nI (i + 1) from nI_add i 1]
    refine W_goto (tgt := 28) d_179_52 (by decide) ?_
    refine ih (i + 1) _ _ (by omega) ⟨fun j hj => ?_, fun j hj => ?_, fun a ha => (u2_row ha).trans (hI.2.2.1 a ha), hI.2.2.2⟩
    · rw [u2_ap, if_neg (by omega)]; exact hI.1 j hj
    · rw [u2_ap]
      by_cases e : j = i
      · rw [if_pos ⟨rfl, by omega⟩, e, hI.2.2.1 3 (by decide)]
      · rw [if_neg (by omega)]; exact hI.2.1 j (by omega)
def FRk (Y : tR) (S : Nat → Int32) (Y' : tR) (S' : Nat → Int32) : Prop := (∀ i, ¬ (i = 19 ∨ i = 20 ∨ i = 21) → Y' i = Y i) ∧ (∀ j, ¬ (j = 34 ∨ j = 38) → S' j = S j) ∧ (∀ j, j < 60 → Y' 21 j = Y 2 j) ∧ (∀ j, j < 6 → Y' 21 (60 + j) = Y 3 j) ∧ S' 38 = S 8 ∧ (∀ j, j < 12 → Y' 19 j = 0 ∧ Y' 20 j = 0) ∧ S' 34 = 0
theorem x_179 {d : Nat} {g : mG} {N : Nat} {P : Nat → mC} {Y : tR} {S : Nat → Int32} (hd : 1 ≤ d) : Wp d 179 0 (ment 179 [.ref 92]) [] (N, H3 g P (mm Y S)) (fun v M' => v = none ∧ ∃ Y' S', M' = (N, H3 g P (mm Y' S')) ∧ FRk Y S Y' S') := by
  show Wp _ 179 0 [.ref 92, .null] [] _ _
  refine W_iconst d_179_0 (v := 0) (by decide) ?_
  refine W_istore_n d_179_1 rfl ?_
  refine lp_179a (Y0 := Y) (S0 := S) (Nat.zero_le _) (fun Y2 S2 h2 => ?_) 60 0 _ _ (by omega) ⟨fun j hj => absurd hj (by omega), fun a _ => rfl, rfl⟩
  refine W_iconst d_179_26 (v := 0) (by decide) ?_
  refine W_istore_n d_179_27 rfl ?_
  refine lp_179b (Y0 := Y) (S0 := S) (Nat.zero_le _) (fun Y3 S3 h3 => ?_) 6 0 _ _ (by omega) ⟨h2.1, fun j hj => absurd hj (by omega), h2.2.1, h2.2.2⟩
  refine W_aload_n d_179_55 rfl (by decide) ?_
  refine W_aload_n d_179_56 rfl (by decide) ?_
  refine W_getf d_179_57 o_179 k_7_103 rfl rfl ?_
  refine W_putf d_179_60 o_179 k_7_226 rfl (Nat.le_of_ble_eq_true rfl) rfl mm_s38 ?_
  refine W_aload_n d_179_63 rfl (by decide) ?_
  refine W_callVQ d_179_64 o_179 (Or.inl k_7_217) (by omega) (x_174) rfl (mrecv_of rfl o_174.symm) rfl (Nat.le_of_ble_eq_true rfl) ?_
  rintro _ _ ⟨rfl, Y4, S4, rfl, h4, h5, h6⟩
  refine W_ret d_179_67 rt_179 ?_
  obtain ⟨q1, q2, q3, q4⟩ := h3
  subst q4
  refine ⟨rfl, _, _, rfl, fun i hi => (h6.1 i (by omega)).trans (q3 i (by omega)), fun j hj => (h6.2 j (by omega)).trans (va_oth _ _ (by omega)), fun j hj => (congrFun (h6.1 21 (by decide)) j).trans (q1 j hj), fun j hj => (congrFun (h6.1 21 (by decide)) _).trans (q2 j hj), (h6.2 38 (by decide)).trans (va_same _ _ _), h4, h5⟩
def FRl (n : Nat) (Y : tR) (S : Nat → Int32) (Y' : tR) (S' : Nat → Int32) : Prop := (∀ i, ¬ (i = 2 ∨ i = 3 ∨ i = 22) → Y' i = Y i) ∧ (∀ j, ¬ (j = 8 ∨ j = 40) → S' j = S j) ∧ (∀ j, j < 60 → Y' 2 j = Y 21 j) ∧ (∀ j, j < 6 → Y' 3 j = Y 21 (60 + j)) ∧ S' 8 = S 38 ∧ (∀ j, j < n → Y' 22 j = Y 2 (5 * j)) ∧ S' 40 = hh (MA Y S) n
theorem lp_180a {d : Nat} {g : mG} {N : Nat} {P : Nat → mC} {Y0 : tR} {S0 : Nat → Int32} {n : Nat} (hn : S0 0 = nI n) (hn12 : n ≤ 12) (hd : 0 ≤ d) {Q : Option Value → mM → Prop} (kk : ∀ (Y2 : tR) (S2 : Nat → Int32), ((∀ j, j < n → Y2 22 j = Y0 2 (5 * j)) ∧ (∀ a, ¬ a = 22 → Y2 a = Y0 a) ∧ S2 40 = hh (MA Y0 S0) n ∧ (∀ j, ¬ j = 40 → S2 j = S0 j)) → Wp d 180 73 [.ref 92, .int (nI n)] [] (N, H3 g P (mm Y2 S2)) Q) : ∀ (k i : Nat) (Y : tR) (S : Nat → Int32), i + k = n → ((∀ j, j < i → Y 22 j = Y0 2 (5 * j)) ∧ (∀ a, ¬ a = 22 → Y a = Y0 a) ∧ S 40 = hh (MA Y0 S0) i ∧ (∀ j, ¬ j = 40 → S j = S0 j)) → Wp d 180 7 [.ref 92, .int (nI i)] [] (N, H3 g P (mm Y S)) Q := by
  intro k
  induction k with
  | zero =>
    intro i Y S hi hI
    have ei : i = n := by omega
    have e0 : S 0 = nI n := (hI.2.2.2 0 (by decide)).trans hn
    refine W_iload_n d_180_7 rfl ?_
    refine W_aload_n d_180_8 rfl (by decide) ?_
    refine W_getf d_180_9 o_180 k_7_93 rfl rfl ?_
    rw [e0]
    refine W_icmp_ge (tgt := 73) d_180_12 (by decide) (fun h12 => ?_) (fun h12 => absurd (nI_le (a := n) (b := i) (by omega) (by omega)) h12)
    rw [ei] at hI ⊢
    exact kk _ _ hI
  | succ k ih =>
    intro i Y S hi hI
    have e0 : S 0 = nI n := (hI.2.2.2 0 (by decide)).trans hn
    refine W_iload_n d_180_7 rfl ?_
    refine W_aload_n d_180_8 rfl (by decide) ?_
    refine W_getf d_180_9 o_180 k_7_93 rfl rfl ?_
    rw [e0]
    refine W_icmp_ge (tgt := 73) d_180_12 (by decide) (fun h12 => absurd h12 (nI_ge (a := i) (b := n) (by omega) (by omega))) (fun h12 => ?_)
    refine W_aload_n d_180_15 rfl (by decide) ?_
    refine W_getf d_180_16 o_180 k_7_80 rfl rfl ?_
    refine W_iload_n d_180_19 rfl ?_
    refine W_aload_n d_180_20 rfl (by decide) ?_
    refine W_getf d_180_21 o_180 k_7_16 rfl rfl ?_
    refine W_iconst d_180_24 (v := 5) (by decide) ?_
    refine W_iload_n d_180_25 rfl ?_
    refine W_imul d_180_26 ?_
    rw [show ((5 * nI i : Int32)) = nI (5 * i) from pk_mul 5 i]
    refine W_mld (a := 2) d_180_27 rfl (by decide) (n := 60) rfl (vp_in_nI (by omega) (by decide)) (congrArg (Y 2) (nI_clamp (by omega))) ?_
    refine W_mst (a := 22) d_180_28 rfl (by decide) (n := 12) rfl (vp_in_nI (by omega) (by decide)) (nI_clamp (by omega)) ?_
    refine W_aload_n d_180_29 rfl (by decide) ?_
    refine W_aload_n d_180_30 rfl (by decide) ?_
    refine W_getf d_180_31 o_180 k_7_16 rfl rfl ?_
    refine W_iconst d_180_34 (v := 5) (by decide) ?_
    refine W_iload_n d_180_35 rfl ?_
    refine W_imul d_180_36 ?_
    rw [show ((5 * nI i : Int32)) = nI (5 * i) from pk_mul 5 i]
    refine W_iconst d_180_37 (v := 1) (by decide) ?_
    refine W_iadd d_180_38 ?_
    rw [show ((nI (5 * i) + 1 : Int32)) = nI (5 * i + 1) from nI_add (5 * i) 1]
    refine W_mld (a := 2) d_180_39 rfl (by decide) (n := 60) rfl (vp_in_nI (by omega) (by decide)) (congrArg (u2 Y 22 i (Y 2 (5 * i)) 2) (nI_clamp (by omega))) ?_
    refine W_aload_n d_180_40 rfl (by decide) ?_
    refine W_getf d_180_41 o_180 k_7_229 rfl rfl ?_
    refine W_icmp_le (tgt := 60) d_180_44 (by decide) (fun h44 => ?_) (fun h44 => ?_)
    · refine W_aload_n d_180_60 rfl (by decide) ?_
      refine W_getf d_180_61 o_180 k_7_229 rfl rfl ?_
      refine W_putf d_180_64 o_180 k_7_229 rfl (Nat.le_of_ble_eq_true rfl) rfl mm_s40 ?_
      refine W_iinc (v := 1) d_180_67 rfl (by decide) rfl ?_
      rw [show ((nI i + 1 : Int32)) = nI (i + 1) from nI_add i 1]
      refine W_goto (tgt := 7) d_180_70 (by decide) ?_
      refine ih (i + 1) _ _ (by omega) ⟨fun j hj => ?_, fun a ha => (u2_row ha).trans (hI.2.1 a ha), (va_same _ _ _).trans ?_, fun j hj => (va_oth _ _ hj).trans (hI.2.2.2 j hj)⟩
      · rw [u2_ap]
        by_cases e : j = i
        · rw [if_pos ⟨rfl, e⟩, e, hI.2.1 2 (by decide)]
        · rw [if_neg (fun q => e q.2)]; exact hI.1 j (by omega)
      · have e2 : u2 Y 22 i (Y 2 (5 * i)) 2 (5 * i + 1) = MA Y0 S0 3 i := (congrFun (u2_row (by decide)) _).trans (congrFun (hI.2.1 2 (by decide)) _)
        rw [e2, hI.2.2.1] at h44
        simp only [hh]
        unfold i_max
        rw [if_neg]
        · exact hI.2.2.1
        · exact Int32.not_lt.mpr h44
    · refine W_aload_n d_180_47 rfl (by decide) ?_
      refine W_getf d_180_48 o_180 k_7_16 rfl rfl ?_
      refine W_iconst d_180_51 (v := 5) (by decide) ?_
      refine W_iload_n d_180_52 rfl ?_
      refine W_imul d_180_53 ?_
      rw [show ((5 * nI i : Int32)) = nI (5 * i) from pk_mul 5 i]
      refine W_iconst d_180_54 (v := 1) (by decide) ?_
      refine W_iadd d_180_55 ?_
      rw [show ((nI (5 * i) + 1 : Int32)) = nI (5 * i + 1) from nI_add (5 * i) 1]
      refine W_mld (a := 2) d_180_56 rfl (by decide) (n := 60) rfl (vp_in_nI (by omega) (by decide)) (congrArg (u2 Y 22 i (Y 2 (5 * i)) 2) (nI_clamp (by omega))) ?_
      refine W_goto (tgt := 64) d_180_57 (by decide) ?_
      refine W_putf d_180_64 o_180 k_7_229 rfl (Nat.le_of_ble_eq_true rfl) rfl mm_s40 ?_
      refine W_iinc (v := 1) d_180_67 rfl (by decide) rfl ?_
      rw [show ((nI i + 1 : Int32)) = nI (i + 1) from nI_add i 1]
      refine W_goto (tgt := 7) d_180_70 (by decide) ?_
      refine ih (i + 1) _ _ (by omega) ⟨fun j hj => ?_, fun a ha => (u2_row ha).trans (hI.2.1 a ha), (va_same _ _ _).trans ?_, fun j hj => (va_oth _ _ hj).trans (hI.2.2.2 j hj)⟩
      · rw [u2_ap]
        by_cases e : j = i
        · rw [if_pos ⟨rfl, e⟩, e, hI.2.1 2 (by decide)]
        · rw [if_neg (fun q => e q.2)]; exact hI.1 j (by omega)
      · have e2 : u2 Y 22 i (Y 2 (5 * i)) 2 (5 * i + 1) = MA Y0 S0 3 i := (congrFun (u2_row (by decide)) _).trans (congrFun (hI.2.1 2 (by decide)) _)
        rw [e2, hI.2.2.1] at h44
        simp only [hh]
        unfold i_max
        rw [if_pos]
        · exact e2
        · exact Int32.not_le.mp h44
theorem lp_180b {d : Nat} {g : mG} {N : Nat} {P : Nat → mC} {Y0 : tR} {S0 : Nat → Int32} (hd : 0 ≤ d) {Q : Option Value → mM → Prop} (kk : ∀ (Y2 : tR) (S2 : Nat → Int32), ((∀ j, j < 60 → Y2 2 j = Y0 21 j) ∧ (∀ a, ¬ a = 2 → Y2 a = Y0 a) ∧ S2 = S0) → Wp d 180 99 [.ref 92, .int (nI 60)] [] (N, H3 g P (mm Y2 S2)) Q) : ∀ (k i : Nat) (Y : tR) (S : Nat → Int32), i + k = 60 → ((∀ j, j < i → Y 2 j = Y0 21 j) ∧ (∀ a, ¬ a = 2 → Y a = Y0 a) ∧ S = S0) → Wp d 180 75 [.ref 92, .int (nI i)] [] (N, H3 g P (mm Y S)) Q := by
  intro k
  induction k with
  | zero =>
    intro i Y S hi hI
    have ei : i = 60 := by omega
    refine W_iload_n d_180_75 rfl ?_
    refine W_bipush d_180_76 (v := 60) (by decide) ?_
    refine W_icmp_ge (tgt := 99) d_180_78 (by decide) (fun h78 => ?_) (fun h78 => absurd (nI_le (a := 60) (b := i) (by omega) (by omega)) h78)
    rw [ei] at hI ⊢
    exact kk _ _ hI
  | succ k ih =>
    intro i Y S hi hI
    refine W_iload_n d_180_75 rfl ?_
    refine W_bipush d_180_76 (v := 60) (by decide) ?_
    refine W_icmp_ge (tgt := 99) d_180_78 (by decide) (fun h78 => absurd h78 (nI_ge (a := i) (b := 60) (by omega) (by omega))) (fun h78 => ?_)
    refine W_aload_n d_180_81 rfl (by decide) ?_
    refine W_getf d_180_82 o_180 k_7_16 rfl rfl ?_
    refine W_iload_n d_180_85 rfl ?_
    refine W_aload_n d_180_86 rfl (by decide) ?_
    refine W_getf d_180_87 o_180 k_7_77 rfl rfl ?_
    refine W_iload_n d_180_90 rfl ?_
    refine W_mld (a := 21) d_180_91 rfl (by decide) (n := 66) rfl (vp_in_nI (by omega) (by decide)) (congrArg _ (nI_clamp (by omega))) ?_
    refine W_mst (a := 2) d_180_92 rfl (by decide) (n := 60) rfl (vp_in_nI (by omega) (by decide)) (nI_clamp (by omega)) ?_
    refine W_iinc (v := 1) d_180_93 rfl (by decide) rfl ?_
    rw [show ((nI i + 1 : Int32)) = nI (i + 1) from nI_add i 1]
    refine W_goto (tgt := 75) d_180_96 (by decide) ?_
    refine ih (i + 1) _ _ (by omega) ⟨fun j hj => ?_, fun a ha => (u2_row ha).trans (hI.2.1 a ha), hI.2.2⟩
    rw [u2_ap]
    by_cases e : j = i
    · rw [if_pos ⟨rfl, e⟩, e, hI.2.1 21 (by decide)]
    · rw [if_neg (fun q => e q.2)]; exact hI.1 j (by omega)
theorem lp_180c {d : Nat} {g : mG} {N : Nat} {P : Nat → mC} {Y0 : tR} {S0 : Nat → Int32} (hd : 0 ≤ d) {Q : Option Value → mM → Prop} (kk : ∀ (Y2 : tR) (S2 : Nat → Int32), ((∀ j, j < 6 → Y2 3 j = Y0 21 (60 + j)) ∧ (∀ a, ¬ a = 3 → Y2 a = Y0 a) ∧ S2 = S0) → Wp d 180 128 [.ref 92, .int (nI 6)] [] (N, H3 g P (mm Y2 S2)) Q) : ∀ (k i : Nat) (Y : tR) (S : Nat → Int32), i + k = 6 → ((∀ j, j < i → Y 3 j = Y0 21 (60 + j)) ∧ (∀ a, ¬ a = 3 → Y a = Y0 a) ∧ S = S0) → Wp d 180 101 [.ref 92, .int (nI i)] [] (N, H3 g P (mm Y S)) Q := by
  intro k
  induction k with
  | zero =>
    intro i Y S hi hI
    have ei : i = 6 := by omega
    refine W_iload_n d_180_101 rfl ?_
    refine W_bipush d_180_102 (v := 6) (by decide) ?_
    refine W_icmp_ge (tgt := 128) d_180_104 (by decide) (fun h104 => ?_) (fun h104 => absurd (nI_le (a := 6) (b := i) (by omega) (by omega)) h104)
    rw [ei] at hI ⊢
    exact kk _ _ hI
  | succ k ih =>
    intro i Y S hi hI
    refine W_iload_n d_180_101 rfl ?_
    refine W_bipush d_180_102 (v := 6) (by decide) ?_
    refine W_icmp_ge (tgt := 128) d_180_104 (by decide) (fun h104 => absurd h104 (nI_ge (a := i) (b := 6) (by omega) (by omega))) (fun h104 => ?_)
    refine W_aload_n d_180_107 rfl (by decide) ?_
    refine W_getf d_180_108 o_180 k_7_19 rfl rfl ?_
    refine W_iload_n d_180_111 rfl ?_
    refine W_aload_n d_180_112 rfl (by decide) ?_
    refine W_getf d_180_113 o_180 k_7_77 rfl rfl ?_
    refine W_bipush d_180_116 (v := 60) (by decide) ?_
    refine W_iload_n d_180_118 rfl ?_
    refine W_iadd d_180_119 ?_
    rw [show ((60 + nI i : Int32)) = nI (60 + i) from nI_add 60 i]
    refine W_mld (a := 21) d_180_120 rfl (by decide) (n := 66) rfl (vp_in_nI (by omega) (by decide)) (congrArg _ (nI_clamp (by omega))) ?_
    refine W_mst (a := 3) d_180_121 rfl (by decide) (n := 6) rfl (vp_in_nI (by omega) (by decide)) (nI_clamp (by omega)) ?_
    refine W_iinc (v := 1) d_180_122 rfl (by decide) rfl ?_
    rw [show ((nI i + 1 : Int32)) = nI (i + 1) from nI_add i 1]
    refine W_goto (tgt := 101) d_180_125 (by decide) ?_
    refine ih (i + 1) _ _ (by omega) ⟨fun j hj => ?_, fun a ha => (u2_row ha).trans (hI.2.1 a ha), hI.2.2⟩
    rw [u2_ap]
    by_cases e : j = i
    · rw [if_pos ⟨rfl, e⟩, e, hI.2.1 21 (by decide)]
    · rw [if_neg (fun q => e q.2)]; exact hI.1 j (by omega)
theorem x_180 {d : Nat} {g : mG} {N : Nat} {P : Nat → mC} {Y : tR} {S : Nat → Int32} {n : Nat} (hn : S 0 = nI n) (hn12 : n ≤ 12) : Wp d 180 0 (ment 180 [.ref 92]) [] (N, H3 g P (mm Y S)) (fun v M' => v = none ∧ ∃ Y' S', M' = (N, H3 g P (mm Y' S')) ∧ FRl n Y S Y' S') := by
  show Wp _ 180 0 [.ref 92, .null] [] _ _
  refine W_aload_n d_180_0 rfl (by decide) ?_
  refine W_iconst d_180_1 (v := (-1)) (by decide) ?_
  refine W_putf d_180_2 o_180 k_7_229 rfl (Nat.le_of_ble_eq_true rfl) rfl mm_s40 ?_
  refine W_iconst d_180_5 (v := 0) (by decide) ?_
  refine W_istore_n d_180_6 rfl ?_
  refine lp_180a (Y0 := Y) (S0 := S) hn hn12 (Nat.zero_le _) (fun Y2 S2 h2 => ?_) n 0 _ _ (by omega) ⟨fun j hj => absurd hj (by omega), fun a _ => rfl, rfl, fun j hj => va_oth _ _ hj⟩
  refine W_iconst d_180_73 (v := 0) (by decide) ?_
  refine W_istore_n d_180_74 rfl ?_
  refine lp_180b (Y0 := Y2) (S0 := S2) (Nat.zero_le _) (fun Y3 S3 h3 => ?_) 60 0 _ _ (by omega) ⟨fun j hj => absurd hj (by omega), fun a _ => rfl, rfl⟩
  refine W_iconst d_180_99 (v := 0) (by decide) ?_
  refine W_istore_n d_180_100 rfl ?_
  refine lp_180c (Y0 := Y3) (S0 := S3) (Nat.zero_le _) (fun Y4 S4 h4 => ?_) 6 0 _ _ (by omega) ⟨fun j hj => absurd hj (by omega), fun a _ => rfl, rfl⟩
  refine W_aload_n d_180_128 rfl (by decide) ?_
  refine W_aload_n d_180_129 rfl (by decide) ?_
  refine W_getf d_180_130 o_180 k_7_226 rfl rfl ?_
  refine W_putf d_180_133 o_180 k_7_103 rfl (Nat.le_of_ble_eq_true rfl) rfl mm_s8 ?_
  refine W_ret d_180_136 rt_180 ?_
  obtain ⟨a1, a2, a3, a4⟩ := h2
  obtain ⟨b1, b2, b3⟩ := h3
  obtain ⟨c1, c2, c3⟩ := h4
  subst b3; subst c3
  refine ⟨rfl, _, _, rfl, fun i hi => (c2 i (by omega)).trans ((b2 i (by omega)).trans (a2 i (by omega))), fun j hj => (va_oth _ _ (by omega)).trans (a4 j (by omega)), fun j hj => (congrFun (c2 2 (by decide)) j).trans ((b1 j hj).trans (congrFun (a2 21 (by decide)) j)), fun j hj => (c1 j hj).trans ((congrFun (b2 21 (by decide)) _).trans (congrFun (a2 21 (by decide)) _)), (va_same _ _ _).trans (a4 38 (by decide)), fun j hj => (congrFun (c2 22 (by decide)) j).trans ((congrFun (b2 22 (by decide)) j).trans (a1 j hj)), (va_oth _ _ (by decide)).trans a3⟩
