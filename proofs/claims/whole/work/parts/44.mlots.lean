/-! THE MODEL: film, drawn, odds (wip/whole/gen44.py) -/
theorem i16_id {v : Int32} (h : 0 ≤ v.toInt ∧ v.toInt ≤ 999) : v.toInt16.toInt32 = v := by
  obtain ⟨c, hc, rfl⟩ := nI_of (x := v) (by rw [Int32.lt_iff_toInt_lt, show (0 : Int32).toInt = 0 from rfl]; omega)
  rw [nI_toInt hc] at h
  have key : ∀ c, c < 1000 → (nI c).toInt16.toInt32 = nI c := by decide +kernel
  exact key c (by omega)
/-- the sheets behind a film -/
def FLY (n s : Nat) (W : Nat → Int32) (Y Y' : tR) : Prop := (∀ i, ¬ (i = 11 ∨ i = 12 ∨ i = 13) → Y' i = Y i) ∧ Y' 11 = va_up (Y 11) s 1 ∧ Y' 12 = va_up (Y 12) s (nI n) ∧ (∀ k, k < 40 → Y' 13 (40 * s + k) = if k < n then W k else 0) ∧ ∀ k, ¬ (40 * s ≤ k ∧ k < 40 * s + 40) → Y' 13 k = Y 13 k
theorem lq_199 {d : Nat} {g : mG} {N : Nat} {P : Nat → mC} {Y0 : tR} {S0 : Nat → Int32} {n m s : Nat} (hn0 : S0 0 = nI n) (hn12 : n ≤ 12) (hs : s < 4) {W : Nat → Int32} (hV : ∀ j, j < n → Y0 22 j = W j) (hd : 1 ≤ d) {Q : Option Value → mM → Prop} (kk : ∀ (Y : tR) (S : Nat → Int32), ((∀ a, ¬ a = 13 → Y a = Y0 a) ∧ S = S0 ∧ (∀ k, k < 40 → Y 13 (40 * s + k) = if k < n then W k else 0) ∧ ∀ k, ¬ (40 * s ≤ k ∧ k < 40 * s + 40) → Y 13 k = Y0 13 k) → Wp d 199 90 [.ref 92, .int (nI s), .int (nI m), .int (nI 40)] [] (N, H3 g P (mm Y S)) Q) : ∀ (k i : Nat) (Y : tR) (S : Nat → Int32), i + k = 40 → ((∀ a, ¬ a = 13 → Y a = Y0 a) ∧ S = S0 ∧ (∀ k, k < i → Y 13 (40 * s + k) = if k < n then W k else 0) ∧ ∀ k, ¬ (40 * s ≤ k ∧ k < 40 * s + 40) → Y 13 k = Y0 13 k) → Wp d 199 43 [.ref 92, .int (nI s), .int (nI m), .int (nI i)] [] (N, H3 g P (mm Y S)) Q := by
  intro k
  induction k with
  | zero =>
    intro i Y S hi hI
    have ei : i = 40 := by omega
    refine W_iload_n d_199_43 rfl ?_
    refine W_bipush d_199_44 (v := 40) (by decide) ?_
    refine W_icmp_ge (tgt := 90) d_199_46 (by decide) (fun h46 => ?_) (fun h46 => absurd (nI_le (a := 40) (b := i) (by omega) (by omega)) h46)
    rw [ei] at hI ⊢
    exact kk _ _ hI
  | succ k ih =>
    intro i Y S hi hI
    have hn : S 0 = nI n := by rw [hI.2.1]; exact hn0
    refine W_iload_n d_199_43 rfl ?_
    refine W_bipush d_199_44 (v := 40) (by decide) ?_
    refine W_icmp_ge (tgt := 90) d_199_46 (by decide) (fun h46 => absurd h46 (nI_ge (a := i) (b := 40) (by omega) (by omega))) (fun h46 => ?_)
    refine W_aload_n d_199_49 rfl (by decide) ?_
    refine W_getf d_199_50 o_199 k_7_53 rfl rfl ?_
    refine W_bipush d_199_53 (v := 40) (by decide) ?_
    refine W_iload_n d_199_55 rfl ?_
    refine W_imul d_199_56 ?_
    rw [show ((40 * nI s : Int32)) = nI (40 * s) from pk_mul 40 s]
    refine W_iload_n d_199_57 rfl ?_
    refine W_iadd d_199_58 ?_
    rw [show ((nI (40 * s) + nI i : Int32)) = nI (40 * s + i) from nI_add (40 * s) i]
    refine W_iload_n d_199_59 rfl ?_
    refine W_aload_n d_199_60 rfl (by decide) ?_
    refine W_getf d_199_61 o_199 k_7_93 rfl rfl ?_
    rw [hn]
    refine W_icmp_ge (tgt := 82) d_199_64 (by decide) (fun h64 => ?_) (fun h64 => ?_)
    · have q64 : n ≤ i := (nI_leI (a := n) (b := i) (by omega) (by omega)).mp h64
      refine W_iconst d_199_82 (v := 0) (by decide) ?_
      refine W_mst (a := 13) d_199_83 rfl (by decide) (n := 160) rfl (vp_in_nI (by omega) (by decide)) (nI_clamp (by omega)) ?_
      refine W_iinc (v := 1) d_199_84 rfl (by decide) rfl ?_
      rw [show ((nI i + 1 : Int32)) = nI (i + 1) from nI_add i 1]
      refine W_goto (tgt := 43) d_199_87 (by decide) ?_
      refine ih (i + 1) _ _ (by omega) ⟨fun a ha => (u2_row ha).trans (hI.1 a ha), hI.2.1, fun k hk => ?_, fun k hk => ?_⟩
      · rw [u2_ap]
        by_cases e : k = i
        · rw [if_pos ⟨rfl, by omega⟩, e, if_neg (by omega)]
        · rw [if_neg (by omega)]; exact hI.2.2.1 k (by omega)
      · rw [u2_ap, if_neg (by omega)]; exact hI.2.2.2 k hk
    · have q64 : ¬ n ≤ i := mt (nI_leI (a := n) (b := i) (by omega) (by omega)).mpr h64
      have q64b : i < n := by omega
      refine W_aload_n d_199_67 rfl (by decide) ?_
      refine W_getf d_199_68 o_199 k_7_80 rfl rfl ?_
      refine W_iload_n d_199_71 rfl ?_
      refine W_iconst d_199_72 (v := 0) (by decide) ?_
      refine W_bipush d_199_73 (v := 11) (by decide) ?_
      refine W_callS d_199_75 o_199 k_7_176 (by omega) x_136 rfl (Nat.le_of_ble_eq_true rfl) ?_
      rw [i_wi_nI (by omega)]
      refine W_mld (a := 22) d_199_78 rfl (by decide) (n := 12) rfl (vp_in_nI (by omega) (by decide)) ((congrArg (Y 22) (nI_clamp (by omega))).trans ((congrFun (hI.1 22 (by decide)) i).trans (hV i (by omega)))) ?_
      refine W_goto (tgt := 83) d_199_79 (by decide) ?_
      refine W_mst (a := 13) d_199_83 rfl (by decide) (n := 160) rfl (vp_in_nI (by omega) (by decide)) (nI_clamp (by omega)) ?_
      refine W_iinc (v := 1) d_199_84 rfl (by decide) rfl ?_
      rw [show ((nI i + 1 : Int32)) = nI (i + 1) from nI_add i 1]
      refine W_goto (tgt := 43) d_199_87 (by decide) ?_
      refine ih (i + 1) _ _ (by omega) ⟨fun a ha => (u2_row ha).trans (hI.1 a ha), hI.2.1, fun k hk => ?_, fun k hk => ?_⟩
      · rw [u2_ap]
        by_cases e : k = i
        · rw [if_pos ⟨rfl, by omega⟩, e, if_pos q64b]
        · rw [if_neg (by omega)]; exact hI.2.2.1 k (by omega)
      · rw [u2_ap, if_neg (by omega)]; exact hI.2.2.2 k hk
theorem q_199 {d : Nat} {g : mG} {N : Nat} {P : Nat → mC} {Y : tR} {S : Nat → Int32} {R Lr : tR} {z : Nat → Nat} {n p t : Nat} (hX : MS Y S R Lr z n p t) (hW : WB n R) {m : Nat} (hm : m ≤ 48) {s : Nat} (hs : s < 4) (hd : 9 ≤ d) : Wp d 199 0 (ment 199 [.ref 92, .int (nI s), .int (nI m)]) [] (N, H3 g P (mm Y S)) (fun v M' => v = some (.int (nI n)) ∧ ∃ Y1 Y' S', M' = (N, H3 g P (mm Y' S')) ∧ FRq Y S Y1 S' ∧ FLY n s (gon R Lr z n p m 2) Y1 Y') := by
  have hn12 := hX.2.2.1
  have hp6 := hX.2.2.2.2.1
  have hS0 := hX.n0
  have hS5 := hX.p0
  show Wp _ 199 0 [.ref 92, .int (nI s), .int (nI m), .null] [] _ _
  refine W_iload_n d_199_0 rfl ?_
  refine W_iconst d_199_1 (v := 0) (by decide) ?_
  refine W_iconst d_199_2 (v := 3) (by decide) ?_
  refine W_callS d_199_3 o_199 k_7_96 (by omega) x_135 rfl (Nat.le_of_ble_eq_true rfl) ?_
  refine W_if_eq (tgt := 16) d_199_6 (by decide) (fun h6 => absurd h6 (fun q => bI_f q ⟨nI_pos' (by omega), nI_le (a := s) (b := 3) (by omega) (by decide)⟩)) (fun h6 => ?_)
  refine W_iload_n d_199_9 rfl ?_
  refine W_callS d_199_10 o_199 k_7_244 (by omega) (x_139 (by omega)) rfl (Nat.le_of_ble_eq_true rfl) ?_
  refine W_if_ne (tgt := 19) d_199_13 (by decide) (fun h13 => ?_) (fun h13 => absurd h13 (fun q => bI_f q ⟨nI_pos' (by omega), nI_le (a := m) (b := 48) hm (by decide)⟩))
  refine W_aload_n d_199_19 rfl (by decide) ?_
  refine W_iload_n d_199_20 rfl ?_
  refine W_callVQ d_199_21 o_199 (Or.inl k_7_247) (by omega) (x_181 hX (m := m) (by omega) (by omega)) rfl (mrecv_of rfl o_181.symm) rfl (Nat.le_of_ble_eq_true rfl) ?_
  rintro _ _ ⟨rfl, Y1, S1, rfl, hF1, hG1⟩
  refine W_aload_n d_199_24 rfl (by decide) ?_
  refine W_getf d_199_25 o_199 k_7_47 rfl rfl ?_
  refine W_iload_n d_199_28 rfl ?_
  refine W_iconst d_199_29 (v := 1) (by decide) ?_
  refine W_mst (a := 11) d_199_30 rfl (by decide) (n := 4) rfl (vp_in_nI (by omega) (by decide)) (nI_clamp (by omega)) ?_
  refine W_aload_n d_199_31 rfl (by decide) ?_
  refine W_getf d_199_32 o_199 k_7_50 rfl rfl ?_
  refine W_iload_n d_199_35 rfl ?_
  have hn1 : S1 0 = nI n := (hF1.2.1 0 (by decide)).trans hS0
  refine W_aload_n d_199_36 rfl (by decide) ?_
  refine W_getf d_199_37 o_199 k_7_93 rfl rfl ?_
  rw [hn1]
  refine W_mst (a := 12) d_199_40 rfl (by decide) (n := 4) rfl (vp_in_nI (by omega) (by decide)) (nI_clamp (by omega)) ?_
  refine W_iconst d_199_41 (v := 0) (by decide) ?_
  refine W_istore_n d_199_42 rfl ?_
  refine lq_199 (Y0 := u2 (u2 Y1 11 s 1) 12 s (nI n)) (S0 := S1) (W := gon R Lr z n p m 2) hn1 hn12 hs (fun j hj => (hG1.1 j hj).2.2) (by omega) (fun Y2 S2 h2 => ?_) 40 0 _ _ (by omega) ⟨fun _ _ => rfl, rfl, fun k hk => absurd hk (by omega), fun _ _ => rfl⟩
  obtain ⟨b1, b2, b3, b4⟩ := h2
  subst b2
  refine W_aload_n d_199_90 rfl (by decide) ?_
  refine W_getf d_199_91 o_199 k_7_93 rfl rfl ?_
  rw [hn1]
  refine W_iret d_199_94 rt_199 rfl ?_
  refine ⟨rfl, Y1, Y2, _, rfl, hF1.c, (fun i hi => (b1 i (by omega)).trans ((u2_row (by omega)).trans (u2_row (by omega)))), ?_, ?_, b3, fun k hk => b4 k hk⟩
  · rw [b1 11 (by decide), u2_row (by decide)]; rfl
  · rw [b1 12 (by decide)]; rfl
theorem q_199a {d : Nat} {g : mG} {N : Nat} {P : Nat → mC} {Y : tR} {S : Nat → Int32} {R Lr : tR} {z : Nat → Nat} {n p t : Nat} (hX : MS Y S R Lr z n p t) (hW : WB n R) {v w : Int32} (hb : ¬ ((0 ≤ v ∧ v ≤ 3) ∧ (0 ≤ w ∧ w ≤ 48))) (hd : 3 ≤ d) : Ex d 199 [.ref 92, .int v, .int w] (N, H3 g P (mm Y S)) (some (.int (-2))) (N, H3 g P (mm Y S)) := by
  have hn12 := hX.2.2.1
  have hp6 := hX.2.2.2.2.1
  have hS0 := hX.n0
  have hS5 := hX.p0
  refine Ex.of ?_
  show Wp _ 199 0 [.ref 92, .int v, .int w, .null] [] _ _
  refine W_iload_n d_199_0 rfl ?_
  refine W_iconst d_199_1 (v := 0) (by decide) ?_
  refine W_iconst d_199_2 (v := 3) (by decide) ?_
  refine W_callS d_199_3 o_199 k_7_96 (by omega) x_135 rfl (Nat.le_of_ble_eq_true rfl) ?_
  refine W_if_eq (tgt := 16) d_199_6 (by decide) (fun h6 => ?_) (fun h6 => ?_)
  · refine W_bipush d_199_16 (v := (-2)) (by decide) ?_
    refine W_iret d_199_18 rt_199 rfl ?_
    exact ⟨rfl, rfl⟩
  · refine W_iload_n d_199_9 rfl ?_
    refine W_callS d_199_10 o_199 k_7_244 (by omega) (x_139 (by omega)) rfl (Nat.le_of_ble_eq_true rfl) ?_
    refine W_if_ne (tgt := 19) d_199_13 (by decide) (fun h13 => ?_) (fun h13 => ?_)
    · exact (hb ⟨bI_t h6, bI_t h13⟩).elim
    · refine W_bipush d_199_16 (v := (-2)) (by decide) ?_
      refine W_iret d_199_18 rt_199 rfl ?_
      exact ⟨rfl, rfl⟩
theorem q_201 {d : Nat} {g : mG} {N : Nat} {P : Nat → mC} {Y : tR} {S : Nat → Int32} {R Lr : tR} {z : Nat → Nat} {n p t : Nat} (hX : MS Y S R Lr z n p t) (hW : WB n R) {m : Nat} (hm : m ≤ 48) {sd : Int32} (hsd : 0 ≤ sd ∧ sd ≤ 99999) {mw : Nat} (hmw : mw ≤ 994) (hm4 : mw % 10 ≤ 4) (hd : 9 ≤ d) : Wp d 201 0 (ment 201 [.ref 92, .int sd, .int (nI m), .int (nI mw)]) [] (N, H3 g P (mm Y S)) (fun v M' => v = some (.int (ans_ (win R (sd.toInt64 + 1) Lr z n p (nI (mw / 10)) m) n (nI (mw % 10)))) ∧ ∃ Y' S', M' = (N, H3 g P (mm Y' S')) ∧ FRq Y S Y' S') := by
  have hn12 := hX.2.2.1
  have hp6 := hX.2.2.2.2.1
  have hS0 := hX.n0
  have hS5 := hX.p0
  show Wp _ 201 0 [.ref 92, .int sd, .int (nI m), .int (nI mw)] [] _ _
  refine W_iload_n d_201_0 rfl ?_
  refine W_iconst d_201_1 (v := 0) (by decide) ?_
  refine W_ldcwI d_201_2 o_201 k_7_274 (v := 99999) (by decide) ?_
  refine W_callS d_201_5 o_201 k_7_96 (by omega) x_135 rfl (Nat.le_of_ble_eq_true rfl) ?_
  refine W_if_eq (tgt := 37) d_201_8 (by decide) (fun h8 => absurd h8 (fun q => bI_f q hsd)) (fun h8 => ?_)
  refine W_iload_n d_201_11 rfl ?_
  refine W_callS d_201_12 o_201 k_7_244 (by omega) (x_139 (by omega)) rfl (Nat.le_of_ble_eq_true rfl) ?_
  refine W_if_eq (tgt := 37) d_201_15 (by decide) (fun h15 => absurd h15 (fun q => bI_f q ⟨nI_pos' (by omega), nI_le (a := m) (b := 48) hm (by decide)⟩)) (fun h15 => ?_)
  refine W_iload_n d_201_18 rfl ?_
  refine W_iconst d_201_19 (v := 0) (by decide) ?_
  refine W_sipush d_201_20 (v := 994) (by decide) ?_
  refine W_callS d_201_23 o_201 k_7_96 (by omega) x_135 rfl (Nat.le_of_ble_eq_true rfl) ?_
  refine W_if_eq (tgt := 37) d_201_26 (by decide) (fun h26 => absurd h26 (fun q => bI_f q ⟨nI_pos' (by omega), nI_le (a := mw) (b := 994) hmw (by decide)⟩)) (fun h26 => ?_)
  refine W_iload_n d_201_29 rfl ?_
  refine W_bipush d_201_30 (v := 10) (by decide) ?_
  refine W_irem d_201_32 (by decide) ?_
  rw [show ((nI mw - nI mw / 10 * 10 : Int32)) = nI (mw % 10) from pk_rem (a := mw) (d := 10) (by omega) (by decide) (by decide)]
  refine W_iconst d_201_33 (v := 4) (by decide) ?_
  refine W_icmp_le (tgt := 40) d_201_34 (by decide) (fun h34 => ?_) (fun h34 => absurd (nI_le (a := mw % 10) (b := 4) (by omega) (by omega)) h34)
  refine W_aload_n d_201_40 rfl (by decide) ?_
  refine W_iload_n d_201_41 rfl ?_
  refine W_iload_n d_201_42 rfl ?_
  refine W_iload_n d_201_43 rfl ?_
  refine W_bipush d_201_44 (v := 10) (by decide) ?_
  refine W_idiv d_201_46 (by decide) ?_
  rw [show ((nI mw / 10 : Int32)) = nI (mw / 10) from pk_div (a := mw) (d := 10) (by omega) (by decide) (by decide)]
  refine W_callVQ d_201_47 o_201 (Or.inl k_7_275) (by omega) (x_200 hX (m := m) (by omega) (sd := sd) (most := nI (mw / 10)) (most1 (by omega)) (by omega)) rfl (mrecv_of rfl o_200.symm) rfl (Nat.le_of_ble_eq_true rfl) ?_
  rintro _ _ ⟨rfl, Y1, S1, rfl, hF1, hG1⟩
  refine W_aload_n d_201_50 rfl (by decide) ?_
  refine W_iload_n d_201_51 rfl ?_
  refine W_bipush d_201_52 (v := 10) (by decide) ?_
  refine W_irem d_201_54 (by decide) ?_
  rw [show ((nI mw - nI mw / 10 * 10 : Int32)) = nI (mw % 10) from pk_rem (a := mw) (d := 10) (by omega) (by decide) (by decide)]
  refine W_callV d_201_55 o_201 (Or.inl k_7_250) (by omega) (x_183 (X := win R (sd.toInt64 + 1) Lr z n p (nI (mw / 10)) m) ((hF1.2.1 0 (by decide)).trans hS0) hn12 hG1 ⟨nI_pos' (by omega), nI_le (a := mw % 10) (b := 4) hm4 (by decide)⟩ (by omega)) rfl (mrecv_of rfl o_183.symm) rfl (Nat.le_of_ble_eq_true rfl) ?_
  refine W_iret d_201_58 rt_201 rfl ?_
  exact ⟨rfl, _, _, rfl, hF1.c⟩
theorem q_201a {d : Nat} {g : mG} {N : Nat} {P : Nat → mC} {Y : tR} {S : Nat → Int32} {R Lr : tR} {z : Nat → Nat} {n p t : Nat} (hX : MS Y S R Lr z n p t) (hW : WB n R) {v w u : Int32} (hb : ¬ ((0 ≤ v ∧ v ≤ 99999) ∧ (0 ≤ w ∧ w ≤ 48) ∧ (0 ≤ u ∧ u ≤ 994) ∧ i_mod u 10 ≤ 4)) (hd : 3 ≤ d) : Ex d 201 [.ref 92, .int v, .int w, .int u] (N, H3 g P (mm Y S)) (some (.int (-2))) (N, H3 g P (mm Y S)) := by
  have hn12 := hX.2.2.1
  have hp6 := hX.2.2.2.2.1
  have hS0 := hX.n0
  have hS5 := hX.p0
  refine Ex.of ?_
  show Wp _ 201 0 [.ref 92, .int v, .int w, .int u] [] _ _
  refine W_iload_n d_201_0 rfl ?_
  refine W_iconst d_201_1 (v := 0) (by decide) ?_
  refine W_ldcwI d_201_2 o_201 k_7_274 (v := 99999) (by decide) ?_
  refine W_callS d_201_5 o_201 k_7_96 (by omega) x_135 rfl (Nat.le_of_ble_eq_true rfl) ?_
  refine W_if_eq (tgt := 37) d_201_8 (by decide) (fun h8 => ?_) (fun h8 => ?_)
  · refine W_bipush d_201_37 (v := (-2)) (by decide) ?_
    refine W_iret d_201_39 rt_201 rfl ?_
    exact ⟨rfl, rfl⟩
  · refine W_iload_n d_201_11 rfl ?_
    refine W_callS d_201_12 o_201 k_7_244 (by omega) (x_139 (by omega)) rfl (Nat.le_of_ble_eq_true rfl) ?_
    refine W_if_eq (tgt := 37) d_201_15 (by decide) (fun h15 => ?_) (fun h15 => ?_)
    · refine W_bipush d_201_37 (v := (-2)) (by decide) ?_
      refine W_iret d_201_39 rt_201 rfl ?_
      exact ⟨rfl, rfl⟩
    · refine W_iload_n d_201_18 rfl ?_
      refine W_iconst d_201_19 (v := 0) (by decide) ?_
      refine W_sipush d_201_20 (v := 994) (by decide) ?_
      refine W_callS d_201_23 o_201 k_7_96 (by omega) x_135 rfl (Nat.le_of_ble_eq_true rfl) ?_
      refine W_if_eq (tgt := 37) d_201_26 (by decide) (fun h26 => ?_) (fun h26 => ?_)
      · refine W_bipush d_201_37 (v := (-2)) (by decide) ?_
        refine W_iret d_201_39 rt_201 rfl ?_
        exact ⟨rfl, rfl⟩
      · refine W_iload_n d_201_29 rfl ?_
        refine W_bipush d_201_30 (v := 10) (by decide) ?_
        refine W_irem d_201_32 (by decide) ?_
        refine W_iconst d_201_33 (v := 4) (by decide) ?_
        refine W_icmp_le (tgt := 40) d_201_34 (by decide) (fun h34 => ?_) (fun h34 => ?_)
        · exact (hb ⟨bI_t h8, bI_t h15, bI_t h26, h34⟩).elim
        · refine W_bipush d_201_37 (v := (-2)) (by decide) ?_
          refine W_iret d_201_39 rt_201 rfl ?_
          exact ⟨rfl, rfl⟩
def gd : Nat → Nat → Nat → Nat
  | 0, u, _ => u
  | k + 1, u, v => if v = 0 then u else gd k v (u % v)
theorem gd_cdv : ∀ b, b ≤ 20 → ∀ a, a ≤ b → 1 ≤ a → cdv a b b = gd b a b ∧ 0 < gd b a b ∧ gd b a b ≤ 20 := by
  have key : ∀ b, b < 21 → ∀ a, a < 21 → a ≤ b → 1 ≤ a → cdv a b b = gd b a b ∧ 0 < gd b a b ∧ gd b a b ≤ 20 := by decide +kernel
  exact fun b hb a ha h1 => key b (by omega) a (by omega) ha h1
theorem cdv_0 : ∀ b, b ≤ 20 → 1 ≤ b → cdv 0 b b = b := by
  have key : ∀ b, b < 21 → 1 ≤ b → cdv 0 b b = b := by decide +kernel
  exact fun b hb h1 => key b (by omega) h1
theorem lg_0 {u : Nat} (h : u < 2 ^ 31) : lg_cmp (lN u) 0 = 0 ↔ u = 0 := by
  unfold lg_cmp
  by_cases e : u = 0
  · subst e; decide
  · have h1 : lN u > 0 := (lN_lt (a := 0) (b := u) (by decide) h).mpr (by omega)
    rw [if_pos h1]
    exact ⟨fun q => absurd q (by decide), fun q => absurd q e⟩
def lowV (a b : Nat) (pt : Int32) : Int64 := if a = 0 then pt.toInt64 else (if pt = 0 then lN a else lN b) / lN (gd b a b)
theorem lq_202 {d : Nat} {M : mM} {a b : Nat} {pt : Int32} {Q : Option Value → mM → Prop} : ∀ (k u v : Nat) (c e : Value), u < 2 ^ 31 → v < 2 ^ 31 → v ≤ k → (∀ c e, Wp d 202 41 [.long (lN a), .null, .long (lN b), .null, .int pt, .long (lN (gd k u v)), .null, .long (lN 0), .null, c, e] [] M Q) → Wp d 202 16 [.long (lN a), .null, .long (lN b), .null, .int pt, .long (lN u), .null, .long (lN v), .null, c, e] [] M Q := by
  intro k
  induction k with
  | zero =>
    intro u v c e hu hv hk kk
    have e0 : v = 0 := by omega
    subst e0
    refine W_lload d_202_16 rfl ?_
    refine W_lconst d_202_18 (v := 0) (by decide) ?_
    refine W_lcmp d_202_19 ?_
    refine W_if_eq (tgt := 41) d_202_20 (by decide) (fun h20 => ?_) (fun h20 => absurd ((lg_0 (by omega)).mpr (by omega)) h20)
    exact kk _ _
  | succ k ih =>
    intro u v c e hu hv hk kk
    by_cases e0 : v = 0
    · skip
      refine W_lload d_202_16 rfl ?_
      refine W_lconst d_202_18 (v := 0) (by decide) ?_
      refine W_lcmp d_202_19 ?_
      refine W_if_eq (tgt := 41) d_202_20 (by decide) (fun h20 => ?_) (fun h20 => absurd ((lg_0 (by omega)).mpr e0) h20)
      rw [gd, if_pos e0] at kk
      rw [e0]
      exact kk _ _
    · skip
      refine W_lload d_202_16 rfl ?_
      refine W_lconst d_202_18 (v := 0) (by decide) ?_
      refine W_lcmp d_202_19 ?_
      refine W_if_eq (tgt := 41) d_202_20 (by decide) (fun h20 => absurd h20 (fun q => e0 ((lg_0 (by omega)).mp q))) (fun h20 => ?_)
      refine W_lload d_202_23 rfl ?_
      refine W_lload d_202_25 rfl ?_
      refine W_lrem d_202_27 (fun q => e0 ((lN_eq (a := v) (b := 0) (by omega) (by decide)).mp q)) ?_
      rw [pk_lRem (a := u) (b := v) (by omega) (by omega) (by omega)]
      refine W_lstore d_202_28 rfl ?_
      refine W_lload d_202_30 rfl ?_
      refine W_lstore d_202_32 rfl ?_
      refine W_lload d_202_34 rfl ?_
      refine W_lstore d_202_36 rfl ?_
      refine W_goto (tgt := 16) d_202_38 (by decide) ?_
      have hm := Nat.mod_lt u (show v > 0 by omega)
      rw [gd, if_neg e0] at kk
      exact ih v (u % v) _ _ (by omega) (by omega) (by omega) kk
theorem q_202 {d : Nat} {M : mM} {a b : Nat} (hb : b ≤ 20) (hab : a ≤ b) {pt : Int32} : Ex d 202 [.long (lN a), .long (lN b), .int pt] M (some (.long (lowV a b pt))) M := by
  refine Ex.of ?_
  show Wp _ 202 0 [.long (lN a), .null, .long (lN b), .null, .int pt, .null, .null, .null, .null, .null, .null] [] _ _
  refine W_lload_n d_202_0 rfl ?_
  refine W_lconst d_202_1 (v := 0) (by decide) ?_
  refine W_lcmp d_202_2 ?_
  refine W_if_ne (tgt := 10) d_202_3 (by decide) (fun h3 => ?_) (fun h3 => ?_)
  · refine W_lload_n d_202_10 rfl ?_
    refine W_lstore d_202_11 rfl ?_
    refine W_lload_n d_202_13 rfl ?_
    refine W_lstore d_202_14 rfl ?_
    refine lq_202 b a b _ _ (by omega) (by omega) (Nat.le_refl _) (fun c e => ?_)
    have h0 : ¬ a = 0 := fun q => h3 ((lg_0 (by omega)).mpr q)
    refine W_iload d_202_41 rfl ?_
    refine W_if_ne (tgt := 50) d_202_43 (by decide) (fun h43 => ?_) (fun h43 => ?_)
    · refine W_lload_n d_202_50 rfl ?_
      refine W_lload d_202_51 rfl ?_
      refine W_ldiv d_202_53 (fun q => absurd ((lN_eq (a := gd b a b) (b := 0) (by have := (gd_cdv b hb a hab (by omega)).2.2; omega) (by decide)).mp q) (by have := (gd_cdv b hb a hab (by omega)).2.1; omega)) ?_
      refine W_lret d_202_54 rt_202 ?_
      refine ⟨congrArg (fun z => some (Value.long z)) ?_, rfl⟩
      unfold lowV
      rw [if_neg h0, if_neg h43]
    · refine W_lload_n d_202_46 rfl ?_
      refine W_goto (tgt := 51) d_202_47 (by decide) ?_
      refine W_lload d_202_51 rfl ?_
      refine W_ldiv d_202_53 (fun q => absurd ((lN_eq (a := gd b a b) (b := 0) (by have := (gd_cdv b hb a hab (by omega)).2.2; omega) (by decide)).mp q) (by have := (gd_cdv b hb a hab (by omega)).2.1; omega)) ?_
      refine W_lret d_202_54 rt_202 ?_
      refine ⟨congrArg (fun z => some (Value.long z)) ?_, rfl⟩
      unfold lowV
      rw [if_neg h0, if_pos h43]
  · refine W_iload d_202_6 rfl ?_
    refine W_i2l d_202_8 ?_
    refine W_lret d_202_9 rt_202 ?_
    exact ⟨congrArg (fun z => some (Value.long z)) (if_pos ((lg_0 (by omega)).mp h3)).symm, rfl⟩
theorem lq_203 {d : Nat} {g : mG} {N : Nat} {P : Nat → mC} {Y0 : tR} {S0 : Nat → Int32} {R Lr : tR} {z : Nat → Nat} {n p t : Nat} (hX : MS Y0 S0 R Lr z n p t) (hW : WB n R) {hz : Nat} (hz31 : hz < 2 ^ 31) (hm : hz / 100 ≤ 48) (hs1 : 1 ≤ hz % 100) (hs2 : hz % 100 ≤ 20) {j : Nat} (hj : j < n) {mo : Nat} (hmo : mo ≤ 99) {sd pt : Int32} (hd : 9 ≤ d) {Q : Option Value → mM → Prop} (kk : ∀ (Y : tR) (S : Nat → Int32) , (FRq Y0 S0 Y S) → Wp d 203 134 [.ref 92, .int sd, .int (nI hz), .int (nI j), .int (nI mo), .int pt, .int 1, .long (lN (odc (fun i => win R ((sd + nI i).toInt64 + 1) Lr z n p (nI mo) (hz / 100) 8 j) (hz % 100))), .null, .int (nI (hz % 100))] [] (N, H3 g P (mm Y S)) Q) : ∀ (k i : Nat) (Y : tR) (S : Nat → Int32) , i + k = (hz % 100) → (FRq Y0 S0 Y S) → Wp d 203 86 [.ref 92, .int sd, .int (nI hz), .int (nI j), .int (nI mo), .int pt, .int 1, .long (lN (odc (fun i => win R ((sd + nI i).toInt64 + 1) Lr z n p (nI mo) (hz / 100) 8 j) i)), .null, .int (nI i)] [] (N, H3 g P (mm Y S)) Q := by
  have hn12 := hX.2.2.1
  have hp6 := hX.2.2.2.2.1
  intro k
  induction k with
  | zero =>
    intro i Y S  hi hI
    have ei : i = (hz % 100) := by omega
    refine W_iload d_203_86 rfl ?_
    refine W_iload_n d_203_88 rfl ?_
    refine W_bipush d_203_89 (v := 100) (by decide) ?_
    refine W_irem d_203_91 (by decide) ?_
    rw [show ((nI hz - nI hz / 100 * 100 : Int32)) = nI (hz % 100) from pk_rem (a := hz) (d := 100) (by omega) (by decide) (by decide)]
    refine W_icmp_ge (tgt := 134) d_203_92 (by decide) (fun h92 => ?_) (fun h92 => absurd (nI_le (a := hz % 100) (b := i) (by omega) (by omega)) h92)
    rw [ei]
    exact kk _ _ hI
  | succ k ih =>
    intro i Y S  hi hI
    refine W_iload d_203_86 rfl ?_
    refine W_iload_n d_203_88 rfl ?_
    refine W_bipush d_203_89 (v := 100) (by decide) ?_
    refine W_irem d_203_91 (by decide) ?_
    rw [show ((nI hz - nI hz / 100 * 100 : Int32)) = nI (hz % 100) from pk_rem (a := hz) (d := 100) (by omega) (by decide) (by decide)]
    refine W_icmp_ge (tgt := 134) d_203_92 (by decide) (fun h92 => absurd h92 (nI_ge (a := i) (b := hz % 100) (by omega) (by omega))) (fun h92 => ?_)
    refine W_aload_n d_203_95 rfl (by decide) ?_
    refine W_iload_n d_203_96 rfl ?_
    refine W_iload d_203_97 rfl ?_
    refine W_iadd d_203_99 ?_
    refine W_iload_n d_203_100 rfl ?_
    refine W_bipush d_203_101 (v := 100) (by decide) ?_
    refine W_idiv d_203_103 (by decide) ?_
    rw [show ((nI hz / 100 : Int32)) = nI (hz / 100) from pk_div (a := hz) (d := 100) (by omega) (by decide) (by decide)]
    refine W_iload d_203_104 rfl ?_
    refine W_callVQ d_203_106 o_203 (Or.inl k_7_275) (by omega) (x_200 (hX.q hI) (m := hz / 100) (by omega) (sd := sd + nI i) (most := nI mo) (most1 (by omega)) (by omega)) rfl (mrecv_of rfl o_200.symm) rfl (Nat.le_of_ble_eq_true rfl) ?_
    rintro _ _ ⟨rfl, Y1, S1, rfl, hF1, hG1⟩
    refine W_lload d_203_109 rfl ?_
    refine W_aload_n d_203_111 rfl (by decide) ?_
    refine W_getf d_203_112 o_203 k_7_74 rfl rfl ?_
    refine W_iload_n d_203_115 rfl ?_
    refine W_mld (a := 20) d_203_116 rfl (by decide) (n := 12) rfl (vp_in_nI (by omega) (by decide)) ((congrArg (Y1 20) (nI_clamp (by omega))).trans (hG1.1 j hj).2.1) ?_
    refine W_if_ne (tgt := 124) d_203_117 (by decide) (fun h117 => ?_) (fun h117 => ?_)
    · refine W_lconst d_203_124 (v := 0) (by decide) ?_
      refine W_ladd d_203_125 ?_
      refine W_lstore d_203_126 rfl ?_
      refine W_iinc (v := 1) d_203_128 rfl (by decide) rfl ?_
      rw [show ((nI i + 1 : Int32)) = nI (i + 1) from nI_add i 1]
      refine W_goto (tgt := 86) d_203_131 (by decide) ?_
      have h9 := ih (i + 1) _ _ (by omega) (FRc.g hI hF1)
      rw [odc, if_neg (show ¬ (fun i => win R ((sd + nI i).toInt64 + 1) Lr z n p (nI mo) (hz / 100) 8 j) i = 0 from h117)] at h9
      rw [show lN (odc (fun i => win R ((sd + nI i).toInt64 + 1) Lr z n p (nI mo) (hz / 100) 8 j) i) + 0 = lN (odc (fun i => win R ((sd + nI i).toInt64 + 1) Lr z n p (nI mo) (hz / 100) 8 j) i) from Int64.add_zero _]
      exact h9
    · refine W_lconst d_203_120 (v := 1) (by decide) ?_
      refine W_goto (tgt := 125) d_203_121 (by decide) ?_
      refine W_ladd d_203_125 ?_
      refine W_lstore d_203_126 rfl ?_
      refine W_iinc (v := 1) d_203_128 rfl (by decide) rfl ?_
      rw [show ((nI i + 1 : Int32)) = nI (i + 1) from nI_add i 1]
      refine W_goto (tgt := 86) d_203_131 (by decide) ?_
      have h9 := ih (i + 1) _ _ (by omega) (FRc.g hI hF1)
      rw [odc, if_pos (show (fun i => win R ((sd + nI i).toInt64 + 1) Lr z n p (nI mo) (hz / 100) 8 j) i = 0 from h117)] at h9
      rw [show lN (odc (fun i => win R ((sd + nI i).toInt64 + 1) Lr z n p (nI mo) (hz / 100) 8 j) i) + 1 = lN ((odc (fun i => win R ((sd + nI i).toInt64 + 1) Lr z n p (nI mo) (hz / 100) 8 j) i) + 1) from lN_1 _]
      exact h9
theorem q_203 {d : Nat} {g : mG} {N : Nat} {P : Nat → mC} {Y : tR} {S : Nat → Int32} {R Lr : tR} {z : Nat → Nat} {n p t : Nat} (hX : MS Y S R Lr z n p t) (hW : WB n R) {sd : Int32} (hsd : 0 ≤ sd ∧ sd ≤ 99999) {hz : Nat} (hz31 : hz < 2 ^ 31) (hm : hz / 100 ≤ 48) (hs1 : 1 ≤ hz % 100) (hs2 : hz % 100 ≤ 20) {j : Nat} (hj : j < n) {mo : Nat} (hmo : mo ≤ 99) {pt : Int32} (hpt : 0 ≤ pt ∧ pt ≤ 1) (hd : 9 ≤ d) : Wp d 203 0 (ment 203 [.ref 92, .int sd, .int (nI hz), .int (nI j), .int (nI mo), .int pt]) [] (N, H3 g P (mm Y S)) (fun v M' => v = some (.long (lowV (odc (fun i => win R ((sd + nI i).toInt64 + 1) Lr z n p (nI mo) (hz / 100) 8 j) (hz % 100)) (hz % 100) pt)) ∧ ∃ Y' S', M' = (N, H3 g P (mm Y' S')) ∧ FRq Y S Y' S') := by
  have hn12 := hX.2.2.1
  have hp6 := hX.2.2.2.2.1
  have hS0 := hX.n0
  have hS5 := hX.p0
  show Wp _ 203 0 [.ref 92, .int sd, .int (nI hz), .int (nI j), .int (nI mo), .int pt, .null, .null, .null, .null] [] _ _
  refine W_iload_n d_203_0 rfl ?_
  refine W_iconst d_203_1 (v := 0) (by decide) ?_
  refine W_ldcwI d_203_2 o_203 k_7_274 (v := 99999) (by decide) ?_
  refine W_callS d_203_5 o_203 k_7_96 (by omega) x_135 rfl (Nat.le_of_ble_eq_true rfl) ?_
  refine W_if_eq (tgt := 68) d_203_8 (by decide) (fun h8 => absurd h8 (fun q => bI_f q hsd)) (fun h8 => ?_)
  refine W_iload_n d_203_11 rfl ?_
  refine W_iconst d_203_12 (v := 0) (by decide) ?_
  refine W_sipush d_203_13 (v := 4820) (by decide) ?_
  refine W_callS d_203_16 o_203 k_7_96 (by omega) x_135 rfl (Nat.le_of_ble_eq_true rfl) ?_
  refine W_if_eq (tgt := 68) d_203_19 (by decide) (fun h19 => absurd h19 (fun q => bI_f q ⟨nI_pos' (by omega), nI_le (a := hz) (b := 4820) (by omega) (by decide)⟩)) (fun h19 => ?_)
  refine W_iload_n d_203_22 rfl ?_
  refine W_bipush d_203_23 (v := 100) (by decide) ?_
  refine W_irem d_203_25 (by decide) ?_
  rw [show ((nI hz - nI hz / 100 * 100 : Int32)) = nI (hz % 100) from pk_rem (a := hz) (d := 100) (by omega) (by decide) (by decide)]
  refine W_iconst d_203_26 (v := 1) (by decide) ?_
  refine W_bipush d_203_27 (v := 20) (by decide) ?_
  refine W_callS d_203_29 o_203 k_7_96 (by omega) x_135 rfl (Nat.le_of_ble_eq_true rfl) ?_
  refine W_if_eq (tgt := 68) d_203_32 (by decide) (fun h32 => absurd h32 (fun q => bI_f q ⟨nI_le (a := 1) (b := hz % 100) hs1 (by omega), nI_le (a := hz % 100) (b := 20) hs2 (by decide)⟩)) (fun h32 => ?_)
  refine W_aload_n d_203_35 rfl (by decide) ?_
  refine W_iload_n d_203_36 rfl ?_
  refine W_callV d_203_37 o_203 (Or.inl k_7_182) (by omega) (x_137 hS0 hn12 (by omega)) rfl (mrecv_of rfl o_137.symm) rfl (Nat.le_of_ble_eq_true rfl) ?_
  refine W_if_eq (tgt := 68) d_203_40 (by decide) (fun h40 => absurd h40 (fun q => bI_f q ⟨nI_pos' (by omega), nI_lt hj (by omega)⟩)) (fun h40 => ?_)
  refine W_iload d_203_43 rfl ?_
  refine W_iconst d_203_45 (v := 0) (by decide) ?_
  refine W_bipush d_203_46 (v := 99) (by decide) ?_
  refine W_callS d_203_48 o_203 k_7_96 (by omega) x_135 rfl (Nat.le_of_ble_eq_true rfl) ?_
  refine W_if_eq (tgt := 68) d_203_51 (by decide) (fun h51 => absurd h51 (fun q => bI_f q ⟨nI_pos' (by omega), nI_le (a := mo) (b := 99) hmo (by decide)⟩)) (fun h51 => ?_)
  refine W_iload d_203_54 rfl ?_
  refine W_iconst d_203_56 (v := 0) (by decide) ?_
  refine W_iconst d_203_57 (v := 1) (by decide) ?_
  refine W_callS d_203_58 o_203 k_7_96 (by omega) x_135 rfl (Nat.le_of_ble_eq_true rfl) ?_
  refine W_if_eq (tgt := 68) d_203_61 (by decide) (fun h61 => absurd h61 (fun q => bI_f q hpt)) (fun h61 => ?_)
  refine W_iconst d_203_64 (v := 1) (by decide) ?_
  refine W_goto (tgt := 69) d_203_65 (by decide) ?_
  refine W_istore d_203_69 rfl ?_
  refine W_iload d_203_71 rfl ?_
  refine W_if_ne (tgt := 80) d_203_73 (by decide) (fun _ => ?_) (fun h73 => absurd h73 (by decide))
  refine W_lconst d_203_80 (v := 0) (by decide) ?_
  refine W_lstore d_203_81 rfl ?_
  refine W_iconst d_203_83 (v := 0) (by decide) ?_
  refine W_istore d_203_84 rfl ?_
  refine lq_203 (Y0 := Y) (S0 := S) hX hW hz31 hm hs1 hs2 hj hmo hd (fun Y1 S1 hI => ?_) (hz % 100) 0 _ _ (by omega) FRq.refl
  refine W_lload d_203_134 rfl ?_
  refine W_iload_n d_203_136 rfl ?_
  refine W_bipush d_203_137 (v := 100) (by decide) ?_
  refine W_irem d_203_139 (by decide) ?_
  rw [show ((nI hz - nI hz / 100 * 100 : Int32)) = nI (hz % 100) from pk_rem (a := hz) (d := 100) (by omega) (by decide) (by decide)]
  refine W_i2l d_203_140 ?_
  rw [nI_l (n := hz % 100) (by omega)]
  refine W_iload d_203_141 rfl ?_
  refine W_callS d_203_143 o_203 k_7_281 (by omega) (q_202 hs2 (odc_le _ _)) rfl (Nat.le_of_ble_eq_true rfl) ?_
  refine W_lret d_203_146 rt_203 ?_
  exact ⟨rfl, _, _, rfl, hI⟩
theorem q_203a {d : Nat} {g : mG} {N : Nat} {P : Nat → mC} {Y : tR} {S : Nat → Int32} {R Lr : tR} {z : Nat → Nat} {n p t : Nat} (hX : MS Y S R Lr z n p t) (hW : WB n R) {v hz w u pt : Int32} (hb : ¬ ((0 ≤ v ∧ v ≤ 99999) ∧ (0 ≤ hz ∧ hz ≤ 4820) ∧ (1 ≤ i_mod hz 100 ∧ i_mod hz 100 ≤ 20) ∧ (0 ≤ w ∧ w < nI n) ∧ (0 ≤ u ∧ u ≤ 99) ∧ (0 ≤ pt ∧ pt ≤ 1))) (hd : 3 ≤ d) : Ex d 203 [.ref 92, .int v, .int hz, .int w, .int u, .int pt] (N, H3 g P (mm Y S)) (some (.long (-4611686018427387904))) (N, H3 g P (mm Y S)) := by
  have hn12 := hX.2.2.1
  have hp6 := hX.2.2.2.2.1
  have hS0 := hX.n0
  have hS5 := hX.p0
  refine Ex.of ?_
  show Wp _ 203 0 [.ref 92, .int v, .int hz, .int w, .int u, .int pt, .null, .null, .null, .null] [] _ _
  refine W_iload_n d_203_0 rfl ?_
  refine W_iconst d_203_1 (v := 0) (by decide) ?_
  refine W_ldcwI d_203_2 o_203 k_7_274 (v := 99999) (by decide) ?_
  refine W_callS d_203_5 o_203 k_7_96 (by omega) x_135 rfl (Nat.le_of_ble_eq_true rfl) ?_
  refine W_if_eq (tgt := 68) d_203_8 (by decide) (fun h8 => ?_) (fun h8 => ?_)
  · refine W_iconst d_203_68 (v := 0) (by decide) ?_
    refine W_istore d_203_69 rfl ?_
    refine W_iload d_203_71 rfl ?_
    refine W_if_ne (tgt := 80) d_203_73 (by decide) (fun h73 => absurd h73 (by decide)) (fun _ => ?_)
    refine W_ldc2 d_203_76 o_203 k_7_279 (v := (-4611686018427387904)) (by decide) ?_
    refine W_lret d_203_79 rt_203 ?_
    exact ⟨rfl, rfl⟩
  · refine W_iload_n d_203_11 rfl ?_
    refine W_iconst d_203_12 (v := 0) (by decide) ?_
    refine W_sipush d_203_13 (v := 4820) (by decide) ?_
    refine W_callS d_203_16 o_203 k_7_96 (by omega) x_135 rfl (Nat.le_of_ble_eq_true rfl) ?_
    refine W_if_eq (tgt := 68) d_203_19 (by decide) (fun h19 => ?_) (fun h19 => ?_)
    · refine W_iconst d_203_68 (v := 0) (by decide) ?_
      refine W_istore d_203_69 rfl ?_
      refine W_iload d_203_71 rfl ?_
      refine W_if_ne (tgt := 80) d_203_73 (by decide) (fun h73 => absurd h73 (by decide)) (fun _ => ?_)
      refine W_ldc2 d_203_76 o_203 k_7_279 (v := (-4611686018427387904)) (by decide) ?_
      refine W_lret d_203_79 rt_203 ?_
      exact ⟨rfl, rfl⟩
    · refine W_iload_n d_203_22 rfl ?_
      refine W_bipush d_203_23 (v := 100) (by decide) ?_
      refine W_irem d_203_25 (by decide) ?_
      refine W_iconst d_203_26 (v := 1) (by decide) ?_
      refine W_bipush d_203_27 (v := 20) (by decide) ?_
      refine W_callS d_203_29 o_203 k_7_96 (by omega) x_135 rfl (Nat.le_of_ble_eq_true rfl) ?_
      refine W_if_eq (tgt := 68) d_203_32 (by decide) (fun h32 => ?_) (fun h32 => ?_)
      · refine W_iconst d_203_68 (v := 0) (by decide) ?_
        refine W_istore d_203_69 rfl ?_
        refine W_iload d_203_71 rfl ?_
        refine W_if_ne (tgt := 80) d_203_73 (by decide) (fun h73 => absurd h73 (by decide)) (fun _ => ?_)
        refine W_ldc2 d_203_76 o_203 k_7_279 (v := (-4611686018427387904)) (by decide) ?_
        refine W_lret d_203_79 rt_203 ?_
        exact ⟨rfl, rfl⟩
      · refine W_aload_n d_203_35 rfl (by decide) ?_
        refine W_iload_n d_203_36 rfl ?_
        refine W_callV d_203_37 o_203 (Or.inl k_7_182) (by omega) (x_137 hS0 hn12 (by omega)) rfl (mrecv_of rfl o_137.symm) rfl (Nat.le_of_ble_eq_true rfl) ?_
        refine W_if_eq (tgt := 68) d_203_40 (by decide) (fun h40 => ?_) (fun h40 => ?_)
        · refine W_iconst d_203_68 (v := 0) (by decide) ?_
          refine W_istore d_203_69 rfl ?_
          refine W_iload d_203_71 rfl ?_
          refine W_if_ne (tgt := 80) d_203_73 (by decide) (fun h73 => absurd h73 (by decide)) (fun _ => ?_)
          refine W_ldc2 d_203_76 o_203 k_7_279 (v := (-4611686018427387904)) (by decide) ?_
          refine W_lret d_203_79 rt_203 ?_
          exact ⟨rfl, rfl⟩
        · refine W_iload d_203_43 rfl ?_
          refine W_iconst d_203_45 (v := 0) (by decide) ?_
          refine W_bipush d_203_46 (v := 99) (by decide) ?_
          refine W_callS d_203_48 o_203 k_7_96 (by omega) x_135 rfl (Nat.le_of_ble_eq_true rfl) ?_
          refine W_if_eq (tgt := 68) d_203_51 (by decide) (fun h51 => ?_) (fun h51 => ?_)
          · refine W_iconst d_203_68 (v := 0) (by decide) ?_
            refine W_istore d_203_69 rfl ?_
            refine W_iload d_203_71 rfl ?_
            refine W_if_ne (tgt := 80) d_203_73 (by decide) (fun h73 => absurd h73 (by decide)) (fun _ => ?_)
            refine W_ldc2 d_203_76 o_203 k_7_279 (v := (-4611686018427387904)) (by decide) ?_
            refine W_lret d_203_79 rt_203 ?_
            exact ⟨rfl, rfl⟩
          · refine W_iload d_203_54 rfl ?_
            refine W_iconst d_203_56 (v := 0) (by decide) ?_
            refine W_iconst d_203_57 (v := 1) (by decide) ?_
            refine W_callS d_203_58 o_203 k_7_96 (by omega) x_135 rfl (Nat.le_of_ble_eq_true rfl) ?_
            refine W_if_eq (tgt := 68) d_203_61 (by decide) (fun h61 => ?_) (fun h61 => ?_)
            · refine W_iconst d_203_68 (v := 0) (by decide) ?_
              refine W_istore d_203_69 rfl ?_
              refine W_iload d_203_71 rfl ?_
              refine W_if_ne (tgt := 80) d_203_73 (by decide) (fun h73 => absurd h73 (by decide)) (fun _ => ?_)
              refine W_ldc2 d_203_76 o_203 k_7_279 (v := (-4611686018427387904)) (by decide) ?_
              refine W_lret d_203_79 rt_203 ?_
              exact ⟨rfl, rfl⟩
            · exact (hb ⟨bI_t h8, bI_t h19, bI_t h32, bI_t h40, bI_t h51, bI_t h61⟩).elim
