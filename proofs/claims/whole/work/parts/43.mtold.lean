/-! THE MODEL: told walls (wip/whole/gen43.py) -/
/-- the model's sheets are these -/
def SHR (K : Nat → tR) (Y : tR) : Prop := ∀ s, s < 4 → Y 11 s = K s 1 0 ∧ Y 12 s = K s 1 1 ∧ ∀ k, k < 40 → Y 13 (40 * s + k) = K s 0 k
theorem SHR.c {K : Nat → tR} {C : Nat → Nat → Prop} {Y Y1 : tR} {S S1 : Nat → Int32} (h : SHR K Y) (hI : FRc C Y S Y1 S1) : SHR K Y1 := by
  intro s hs
  rw [hI.1 11 (by unfold SPC; omega), hI.1 12 (by unfold SPC; omega), hI.1 13 (by unfold SPC; omega)]
  exact h s hs
theorem SHR.u {K : Nat → tR} {Y : tR} {a k : Nat} {v : Int32} (h : SHR K Y) (ha : ¬ (a = 11 ∨ a = 12 ∨ a = 13)) : SHR K (u2 Y a k v) := by
  intro s hs
  rw [u2_row (show ¬ 11 = a by omega), u2_row (show ¬ 12 = a by omega), u2_row (show ¬ 13 = a by omega)]
  exact h s hs
theorem q_192 {d : Nat} {g : mG} {N : Nat} {P : Nat → mC} {Y : tR} {S : Nat → Int32} {K : Nat → tR} (hK : SHR K Y) {v : Int32} {n : Nat} (hn : S 0 = nI n) (hd : 3 ≤ d) : Ex d 192 [.ref 92, .int v] (N, H3 g P (mm Y S)) (some (.int (rfv K n v))) (N, H3 g P (mm Y S)) := by
  by_cases hb : 0 ≤ v ∧ v ≤ 3
  · obtain ⟨s, hs, rfl⟩ := sheet_ix hb
    rw [rfv_in hs]
    refine Ex.of ?_
    show Wp _ 192 0 [.ref 92, .int (nI s)] [] _ _
    refine W_iload_n d_192_0 rfl ?_
    refine W_iconst d_192_1 (v := 0) (by decide) ?_
    refine W_iconst d_192_2 (v := 3) (by decide) ?_
    refine W_callS d_192_3 o_192 k_7_96 (by omega) x_135 rfl (Nat.le_of_ble_eq_true rfl) ?_
    refine W_if_ne (tgt := 12) d_192_6 (by decide) (fun h6 => ?_) (fun h6 => absurd h6 (fun q => bI_f q ⟨nI_pos' (by omega), nI_le (a := s) (b := 3) (by omega) (by decide)⟩))
    refine W_aload_n d_192_12 rfl (by decide) ?_
    refine W_getf d_192_13 o_192 k_7_47 rfl rfl ?_
    refine W_iload_n d_192_16 rfl ?_
    refine W_mld (a := 11) d_192_17 rfl (by decide) (n := 4) rfl (vp_in_nI (by omega) (by decide)) ((congrArg (Y 11) (nI_clamp (by omega))).trans (hK s hs).1) ?_
    refine W_iconst d_192_18 (v := (-1)) (by decide) ?_
    refine W_icmp_ne (tgt := 25) d_192_19 (by decide) (fun h19 => ?_) (fun h19 => ?_)
    · refine W_aload_n d_192_25 rfl (by decide) ?_
      refine W_getf d_192_26 o_192 k_7_50 rfl rfl ?_
      refine W_iload_n d_192_29 rfl ?_
      refine W_mld (a := 12) d_192_30 rfl (by decide) (n := 4) rfl (vp_in_nI (by omega) (by decide)) ((congrArg (Y 12) (nI_clamp (by omega))).trans (hK s hs).2.1) ?_
      refine W_aload_n d_192_31 rfl (by decide) ?_
      refine W_getf d_192_32 o_192 k_7_93 rfl rfl ?_
      rw [hn]
      refine W_icmp_ne (tgt := 42) d_192_35 (by decide) (fun h35 => ?_) (fun h35 => ?_)
      · refine W_bipush d_192_42 (v := (-2)) (by decide) ?_
        refine W_iret d_192_44 rt_192 rfl ?_
        exact ⟨congrArg (fun z => some (Value.int z)) ((if_neg h19).trans (if_neg h35)).symm, rfl⟩
      · refine W_iconst d_192_38 (v := 0) (by decide) ?_
        refine W_goto (tgt := 44) d_192_39 (by decide) ?_
        refine W_iret d_192_44 rt_192 rfl ?_
        exact ⟨congrArg (fun z => some (Value.int z)) ((if_neg h19).trans (if_pos h35)).symm, rfl⟩
    · refine W_bipush d_192_22 (v := (-11)) (by decide) ?_
      refine W_iret d_192_24 rt_192 rfl ?_
      exact ⟨congrArg (fun z => some (Value.int z)) (if_pos h19).symm, rfl⟩
  · rw [show rfv K n v = -2 from if_neg hb]
    refine Ex.of ?_
    show Wp _ 192 0 [.ref 92, .int v] [] _ _
    refine W_iload_n d_192_0 rfl ?_
    refine W_iconst d_192_1 (v := 0) (by decide) ?_
    refine W_iconst d_192_2 (v := 3) (by decide) ?_
    refine W_callS d_192_3 o_192 k_7_96 (by omega) x_135 rfl (Nat.le_of_ble_eq_true rfl) ?_
    refine W_if_ne (tgt := 12) d_192_6 (by decide) (fun h6 => absurd (bI_ne.mpr hb) h6) (fun h6 => ?_)
    refine W_bipush d_192_9 (v := (-2)) (by decide) ?_
    refine W_iret d_192_11 rt_192 rfl ?_
    exact ⟨rfl, rfl⟩
theorem q_193r {d : Nat} {g : mG} {N : Nat} {P : Nat → mC} {Y : tR} {S : Nat → Int32} {K : Nat → tR} (hK : SHR K Y) {v w : Int32} {n : Nat} (hn : S 0 = nI n) (hb : ¬ rfv K n v = 0) (hd : 4 ≤ d) : Ex d 193 [.ref 92, .int v, .int w] (N, H3 g P (mm Y S)) (some (.int (rfv K n v))) (N, H3 g P (mm Y S)) := by
  refine Ex.of ?_
  show Wp _ 193 0 [.ref 92, .int v, .int w, .null] [] _ _
  refine W_aload_n d_193_0 rfl (by decide) ?_
  refine W_iload_n d_193_1 rfl ?_
  refine W_callV d_193_2 o_193 (Or.inl k_7_261) (by omega) (q_192 hK hn (by omega)) rfl (mrecv_of rfl o_192.symm) rfl (Nat.le_of_ble_eq_true rfl) ?_
  refine W_istore_n d_193_5 rfl ?_
  refine W_iload_n d_193_6 rfl ?_
  refine W_if_eq (tgt := 14) d_193_7 (by decide) (fun h7 => absurd h7 hb) (fun h7 => ?_)
  refine W_iload_n d_193_10 rfl ?_
  refine W_goto (tgt := 27) d_193_11 (by decide) ?_
  refine W_iret d_193_27 rt_193 rfl ?_
  exact ⟨rfl, rfl⟩
theorem q_193h {d : Nat} {g : mG} {N : Nat} {P : Nat → mC} {Y : tR} {S : Nat → Int32} {K : Nat → tR} (hK : SHR K Y) {v w : Int32} {n : Nat} (hn : S 0 = nI n) (hr : rfv K n v = 0) (hb : ¬ (0 ≤ w ∧ w ≤ 48)) (hd : 4 ≤ d) : Ex d 193 [.ref 92, .int v, .int w] (N, H3 g P (mm Y S)) (some (.int (-7))) (N, H3 g P (mm Y S)) := by
  refine Ex.of ?_
  show Wp _ 193 0 [.ref 92, .int v, .int w, .null] [] _ _
  refine W_aload_n d_193_0 rfl (by decide) ?_
  refine W_iload_n d_193_1 rfl ?_
  refine W_callV d_193_2 o_193 (Or.inl k_7_261) (by omega) (q_192 hK hn (by omega)) rfl (mrecv_of rfl o_192.symm) rfl (Nat.le_of_ble_eq_true rfl) ?_
  refine W_istore_n d_193_5 rfl ?_
  refine W_iload_n d_193_6 rfl ?_
  refine W_if_eq (tgt := 14) d_193_7 (by decide) (fun h7 => ?_) (fun h7 => absurd hr h7)
  refine W_iload_n d_193_14 rfl ?_
  refine W_callS d_193_15 o_193 k_7_244 (by omega) (x_139 (by omega)) rfl (Nat.le_of_ble_eq_true rfl) ?_
  refine W_if_eq (tgt := 25) d_193_18 (by decide) (fun h18 => ?_) (fun h18 => absurd (bI_ne.mpr hb) h18)
  refine W_bipush d_193_25 (v := (-7)) (by decide) ?_
  refine W_iret d_193_27 rt_193 rfl ?_
  exact ⟨rfl, rfl⟩
theorem q_193 {d : Nat} {g : mG} {N : Nat} {P : Nat → mC} {Y : tR} {S : Nat → Int32} {K : Nat → tR} (hK : SHR K Y) {v w : Int32} {n : Nat} (hn : S 0 = nI n) (hr : rfv K n v = 0) (hb : 0 ≤ w ∧ w ≤ 48) (hd : 4 ≤ d) : Ex d 193 [.ref 92, .int v, .int w] (N, H3 g P (mm Y S)) (some (.int (0))) (N, H3 g P (mm Y S)) := by
  refine Ex.of ?_
  show Wp _ 193 0 [.ref 92, .int v, .int w, .null] [] _ _
  refine W_aload_n d_193_0 rfl (by decide) ?_
  refine W_iload_n d_193_1 rfl ?_
  refine W_callV d_193_2 o_193 (Or.inl k_7_261) (by omega) (q_192 hK hn (by omega)) rfl (mrecv_of rfl o_192.symm) rfl (Nat.le_of_ble_eq_true rfl) ?_
  refine W_istore_n d_193_5 rfl ?_
  refine W_iload_n d_193_6 rfl ?_
  refine W_if_eq (tgt := 14) d_193_7 (by decide) (fun h7 => ?_) (fun h7 => absurd hr h7)
  refine W_iload_n d_193_14 rfl ?_
  refine W_callS d_193_15 o_193 k_7_244 (by omega) (x_139 (by omega)) rfl (Nat.le_of_ble_eq_true rfl) ?_
  refine W_if_eq (tgt := 25) d_193_18 (by decide) (fun h18 => absurd h18 (fun q => bI_f q hb)) (fun h18 => ?_)
  refine W_iconst d_193_21 (v := 0) (by decide) ?_
  refine W_goto (tgt := 27) d_193_22 (by decide) ?_
  refine W_iret d_193_27 rt_193 rfl ?_
  exact ⟨rfl, rfl⟩
theorem lq_194 {d : Nat} {g : mG} {N : Nat} {P : Nat → mC} {Y : tR} {S : Nat → Int32} {K : Nat → tR} (hK : SHR K Y) {n m s : Nat} (hn : S 0 = nI n) (hn12 : n ≤ 12) (hs : s < 4) {W : Nat → Int32} (hV : ∀ j, j < n → Y 22 j = W j) {Q : Option Value → mM → Prop} : ∀ (k i : Nat), i + k = n → Q (some (.int (fo (K s 0) W k i))) (N, H3 g P (mm Y S)) → Wp d 194 7 [.ref 92, .int (nI s), .int (nI m), .int (nI i)] [] (N, H3 g P (mm Y S)) Q := by
  intro k
  induction k with
  | zero =>
    intro i hi hQ
    refine W_iload_n d_194_7 rfl ?_
    refine W_aload_n d_194_8 rfl (by decide) ?_
    refine W_getf d_194_9 o_194 k_7_93 rfl rfl ?_
    rw [hn]
    refine W_icmp_ge (tgt := 43) d_194_12 (by decide) (fun h12 => ?_) (fun h12 => absurd (nI_le (a := n) (b := i) (by omega) (by omega)) h12)
    refine W_iconst d_194_43 (v := (-1)) (by decide) ?_
    refine W_iret d_194_44 rt_194 rfl ?_
    exact hQ
  | succ k ih =>
    intro i hi hQ
    refine W_iload_n d_194_7 rfl ?_
    refine W_aload_n d_194_8 rfl (by decide) ?_
    refine W_getf d_194_9 o_194 k_7_93 rfl rfl ?_
    rw [hn]
    refine W_icmp_ge (tgt := 43) d_194_12 (by decide) (fun h12 => absurd h12 (nI_ge (a := i) (b := n) (by omega) (by omega))) (fun h12 => ?_)
    refine W_aload_n d_194_15 rfl (by decide) ?_
    refine W_getf d_194_16 o_194 k_7_53 rfl rfl ?_
    refine W_bipush d_194_19 (v := 40) (by decide) ?_
    refine W_iload_n d_194_21 rfl ?_
    refine W_imul d_194_22 ?_
    rw [show ((40 * nI s : Int32)) = nI (40 * s) from pk_mul 40 s]
    refine W_iload_n d_194_23 rfl ?_
    refine W_iadd d_194_24 ?_
    rw [show ((nI (40 * s) + nI i : Int32)) = nI (40 * s + i) from nI_add (40 * s) i]
    refine W_mld (a := 13) d_194_25 rfl (by decide) (n := 160) rfl (vp_in_nI (by omega) (by decide)) ((congrArg (Y 13) (nI_clamp (by omega))).trans ((hK s hs).2.2 i (by omega))) ?_
    refine W_aload_n d_194_26 rfl (by decide) ?_
    refine W_getf d_194_27 o_194 k_7_80 rfl rfl ?_
    refine W_iload_n d_194_30 rfl ?_
    refine W_mld (a := 22) d_194_31 rfl (by decide) (n := 12) rfl (vp_in_nI (by omega) (by decide)) ((congrArg (Y 22) (nI_clamp (by omega))).trans (hV i (by omega))) ?_
    refine W_icmp_eq (tgt := 37) d_194_32 (by decide) (fun h32 => ?_) (fun h32 => ?_)
    · refine W_iinc (v := 1) d_194_37 rfl (by decide) rfl ?_
      rw [show ((nI i + 1 : Int32)) = nI (i + 1) from nI_add i 1]
      refine W_goto (tgt := 7) d_194_40 (by decide) ?_
      rw [fo, if_pos h32] at hQ
      exact ih (i + 1) (by omega) hQ
    · refine W_iload_n d_194_35 rfl ?_
      refine W_iret d_194_36 rt_194 rfl ?_
      rw [fo, if_neg h32] at hQ
      exact hQ
theorem q_194 {d : Nat} {g : mG} {N : Nat} {P : Nat → mC} {Y : tR} {S : Nat → Int32} {R Lr : tR} {z : Nat → Nat} {n p t : Nat} (hX : MS Y S R Lr z n p t) {K : Nat → tR} (hK : SHR K Y) {m : Nat} (hm : m ≤ 48) {s : Nat} (hs : s < 4) (hd : 8 ≤ d) : Wp d 194 0 (ment 194 [.ref 92, .int (nI s), .int (nI m)]) [] (N, H3 g P (mm Y S)) (fun v M' => v = some (.int (fo (K s 0) (gon R Lr z n p m 2) n 0)) ∧ ∃ Y' S', M' = (N, H3 g P (mm Y' S')) ∧ FRg Y S Y' S') := by
  show Wp _ 194 0 [.ref 92, .int (nI s), .int (nI m), .null] [] _ _
  refine W_aload_n d_194_0 rfl (by decide) ?_
  refine W_iload_n d_194_1 rfl ?_
  refine W_callVQ d_194_2 o_194 (Or.inl k_7_247) (by omega) (x_181 hX (m := m) (by omega) (by omega)) rfl (mrecv_of rfl o_181.symm) rfl (Nat.le_of_ble_eq_true rfl) ?_
  rintro _ _ ⟨rfl, Y1, S1, rfl, hF1, hG1⟩
  refine W_iconst d_194_5 (v := 0) (by decide) ?_
  refine W_istore_n d_194_6 rfl ?_
  exact lq_194 (K := K) (hK.c (FRg.c (C := C0) hF1)) (n := n) ((hF1.2.1 0 (by decide)).trans hX.n0) hX.2.2.1 hs (W := gon R Lr z n p m 2) (fun j hj => (hG1.1 j hj).2.2) n 0 (by omega) ⟨rfl, _, _, rfl, hF1⟩
theorem q_195 {d : Nat} {g : mG} {N : Nat} {P : Nat → mC} {Y : tR} {S : Nat → Int32} {R Lr : tR} {z : Nat → Nat} {n p t : Nat} (hX : MS Y S R Lr z n p t) (hW : WB n R) {K : Nat → tR} (hK : SHR K Y) {m : Nat} (hm : m ≤ 48) {s : Nat} (hs : s < 4) (hr : rfv K n (nI s) = 0) (hd : 9 ≤ d) : Wp d 195 0 (ment 195 [.ref 92, .int (nI s), .int (nI m)]) [] (N, H3 g P (mm Y S)) (fun v M' => v = some (.int (fo (K s 0) (gon R Lr z n p m 2) n 0)) ∧ ∃ Y' S', M' = (N, H3 g P (mm Y' S')) ∧ FRq Y S Y' S') := by
  have hn12 := hX.2.2.1
  have hp6 := hX.2.2.2.2.1
  have hS0 := hX.n0
  have hS5 := hX.p0
  show Wp _ 195 0 [.ref 92, .int (nI s), .int (nI m), .null] [] _ _
  refine W_aload_n d_195_0 rfl (by decide) ?_
  refine W_iload_n d_195_1 rfl ?_
  refine W_iload_n d_195_2 rfl ?_
  refine W_callV d_195_3 o_195 (Or.inl k_7_264) (by omega) (q_193 hK hX.n0 hr ⟨nI_pos' (by omega), nI_le (a := m) (b := 48) hm (by decide)⟩ (by omega)) rfl (mrecv_of rfl o_193.symm) rfl (Nat.le_of_ble_eq_true rfl) ?_
  refine W_istore_n d_195_6 rfl ?_
  refine W_iload_n d_195_7 rfl ?_
  refine W_if_ne (tgt := 20) d_195_8 (by decide) (fun h8 => absurd (by decide) h8) (fun h8 => ?_)
  refine W_aload_n d_195_11 rfl (by decide) ?_
  refine W_iload_n d_195_12 rfl ?_
  refine W_iload_n d_195_13 rfl ?_
  refine W_callVQ d_195_14 o_195 (Or.inl k_7_267) (by omega) (q_194 hX hK hm hs (by omega)) rfl (mrecv_of rfl o_194.symm) rfl (Nat.le_of_ble_eq_true rfl) ?_
  rintro _ _ ⟨rfl, Y1, S1, rfl, hF1⟩
  refine W_goto (tgt := 21) d_195_17 (by decide) ?_
  refine W_iret d_195_21 rt_195 rfl ?_
  exact ⟨rfl, _, _, rfl, hF1.c⟩
theorem q_195a {d : Nat} {g : mG} {N : Nat} {P : Nat → mC} {Y : tR} {S : Nat → Int32} {R Lr : tR} {z : Nat → Nat} {n p t : Nat} (hX : MS Y S R Lr z n p t) (hW : WB n R) {K : Nat → tR} (hK : SHR K Y) {v w : Int32} (hb : ¬ rfv K n v = 0) (hd : 5 ≤ d) : Ex d 195 [.ref 92, .int v, .int w] (N, H3 g P (mm Y S)) (some (.int (rfv K n v))) (N, H3 g P (mm Y S)) := by
  refine Ex.of ?_
  show Wp _ 195 0 [.ref 92, .int v, .int w, .null] [] _ _
  refine W_aload_n d_195_0 rfl (by decide) ?_
  refine W_iload_n d_195_1 rfl ?_
  refine W_iload_n d_195_2 rfl ?_
  refine W_callV d_195_3 o_195 (Or.inl k_7_264) (by omega) (q_193r hK hX.n0 hb (by omega)) rfl (mrecv_of rfl o_193.symm) rfl (Nat.le_of_ble_eq_true rfl) ?_
  refine W_istore_n d_195_6 rfl ?_
  refine W_iload_n d_195_7 rfl ?_
  refine W_if_ne (tgt := 20) d_195_8 (by decide) (fun h8 => ?_) (fun h8 => absurd h8 hb)
  refine W_iload_n d_195_20 rfl ?_
  refine W_iret d_195_21 rt_195 rfl ?_
  exact ⟨rfl, rfl⟩
theorem q_195b {d : Nat} {g : mG} {N : Nat} {P : Nat → mC} {Y : tR} {S : Nat → Int32} {R Lr : tR} {z : Nat → Nat} {n p t : Nat} (hX : MS Y S R Lr z n p t) (hW : WB n R) {K : Nat → tR} (hK : SHR K Y) {v w : Int32} (hr : rfv K n v = 0) (hb : ¬ (0 ≤ w ∧ w ≤ 48)) (hd : 5 ≤ d) : Ex d 195 [.ref 92, .int v, .int w] (N, H3 g P (mm Y S)) (some (.int (-7))) (N, H3 g P (mm Y S)) := by
  refine Ex.of ?_
  show Wp _ 195 0 [.ref 92, .int v, .int w, .null] [] _ _
  refine W_aload_n d_195_0 rfl (by decide) ?_
  refine W_iload_n d_195_1 rfl ?_
  refine W_iload_n d_195_2 rfl ?_
  refine W_callV d_195_3 o_195 (Or.inl k_7_264) (by omega) (q_193h hK hX.n0 hr hb (by omega)) rfl (mrecv_of rfl o_193.symm) rfl (Nat.le_of_ble_eq_true rfl) ?_
  refine W_istore_n d_195_6 rfl ?_
  refine W_iload_n d_195_7 rfl ?_
  refine W_if_ne (tgt := 20) d_195_8 (by decide) (fun h8 => ?_) (fun h8 => absurd h8 (by decide))
  refine W_iload_n d_195_20 rfl ?_
  refine W_iret d_195_21 rt_195 rfl ?_
  exact ⟨rfl, rfl⟩
theorem u2_same {Y : tR} {a k : Nat} : u2 Y a k (Y a k) = Y := by
  unfold u2
  rw [va_self, va_self]
theorem u2_comm {Y : tR} {a k b i : Nat} {v w : Int32} (h : ¬ a = b) : u2 (u2 Y a k v) b i w = u2 (u2 Y b i w) a k v := by
  funext c e
  rw [u2_ap, u2_ap, u2_ap, u2_ap]
  by_cases h1 : c = b ∧ e = i
  · rw [if_pos h1, if_neg (by omega), if_pos h1]
  · rw [if_neg h1]
    by_cases h2 : c = a ∧ e = k
    · rw [if_pos h2, if_pos h2]
    · rw [if_neg h2, if_neg h2, if_neg h1]
/-- the three cells over what was laid back -/
def lay3 (Y Y0 : tR) (j : Nat) : tR := u2 (u2 (u2 Y 0 j (Y0 0 j)) 1 j (Y0 1 j)) 2 (5 * j + 3) (Y0 2 (5 * j + 3))
theorem lay3_0 {Y Y0 : tR} {j : Nat} {v : Int32} : u2 (lay3 Y Y0 j) 0 j v = u2 (u2 (u2 Y 0 j v) 1 j (Y0 1 j)) 2 (5 * j + 3) (Y0 2 (5 * j + 3)) := by
  unfold lay3
  rw [u2_comm (a := 2) (b := 0) (by decide), u2_comm (a := 1) (b := 0) (by decide), u2_u2]
theorem lay3_1 {Y Y0 : tR} {j : Nat} {v : Int32} : u2 (lay3 Y Y0 j) 1 j v = u2 (u2 (u2 Y 0 j (Y0 0 j)) 1 j v) 2 (5 * j + 3) (Y0 2 (5 * j + 3)) := by
  unfold lay3
  rw [u2_comm (a := 2) (b := 1) (by decide), u2_u2]
theorem lay3_2 {Y Y0 : tR} {j : Nat} {v : Int32} : u2 (lay3 Y Y0 j) 2 (5 * j + 3) v = u2 (u2 (u2 Y 0 j (Y0 0 j)) 1 j (Y0 1 j)) 2 (5 * j + 3) v := by
  unfold lay3
  rw [u2_u2]
theorem set_more {Y : tR} {S : Nat → Int32} {R Lr : tR} {z : Nat → Nat} {n p t j : Nat} {v : Int32} (hms : MS Y S R Lr z n p t) : MS (u2 Y 1 j v) S (chg R j 6 v) Lr z n p t :=
  hms.set (R' := chg R j 6 v) (mes_1 (A := fun _ => R) (r := 0) hms.1 rfl) rfl rfl rfl (lm_u (by decide)) hms.2.2.2.2.2.2.2.2.2
theorem set_at {Y : tR} {S : Nat → Int32} {R Lr : tR} {z : Nat → Nat} {n p t j : Nat} {v : Int32} (hms : MS Y S R Lr z n p t) : MS (u2 Y 2 (5 * j + 3) v) S (chg R j 3 v) Lr z n p t :=
  hms.set (R' := chg R j 3 v) (mes_r3 (A := fun _ => R) (r := 0) hms.1 rfl) rfl rfl rfl (lm_u (by decide)) hms.2.2.2.2.2.2.2.2.2
theorem FRc.u3c {j : Nat} {Y Y1 : tR} {S S1 : Nat → Int32} {a b c : Int32} (h : FRc (fun a k => ((a = 0 ∨ a = 1) ∧ k = j) ∨ (a = 2 ∧ k = 5 * j + 3)) Y S Y1 S1) : FRc (fun a k => ((a = 0 ∨ a = 1) ∧ k = j) ∨ (a = 2 ∧ k = 5 * j + 3)) Y S (u2 (u2 (u2 Y1 0 j a) 1 j b) 2 (5 * j + 3) c) S1 :=
  ((h.u (a := 0) (k := j) (v := a) (Or.inl ⟨Or.inl rfl, rfl⟩) (by decide)).u (a := 1) (k := j) (v := b) (Or.inl ⟨Or.inr rfl, rfl⟩) (by decide)).u (a := 2) (k := 5 * j + 3) (v := c) (Or.inr ⟨rfl, rfl⟩) (by decide)
theorem lq_196_0 {d : Nat} {g : mG} {N : Nat} {P : Nat → mC} {Y0 : tR} {S0 : Nat → Int32} {R Lr : tR} {z : Nat → Nat} {n p t : Nat} (hX : MS Y0 S0 R Lr z n p t) (hW : WB n R) {m : Nat} (hm : m ≤ 48) {K : Nat → tR} (hK : SHR K Y0) {j s : Nat} (hj : j < n) (hs : s < 4) {rv : Int32} (hd : 9 ≤ d) {Q : Option Value → mM → Prop} (kk : ∀ (Y : tR) (S : Nat → Int32) , (FRc (fun a k => ((a = 0 ∨ a = 1) ∧ k = j) ∨ (a = 2 ∧ k = 5 * j + 3)) Y0 S0 Y S) → Wp d 196 197 [.ref 92, .int (nI s), .int (nI m), .int (nI j), .int 0, .int rv, .int (Y0 0 j), .int (Y0 1 j), .int (Y0 2 (5 * j + 3)), .int (btf (fun v => fo (K s 0) (gon (chg R j 5 (nI v)) Lr z n p m 2) n 0) 6), .int (nI 6)] [] (N, H3 g P (mm Y S)) Q) : ∀ (k i : Nat) (Y : tR) (S : Nat → Int32) , i + k = 6 → (FRc (fun a k => ((a = 0 ∨ a = 1) ∧ k = j) ∨ (a = 2 ∧ k = 5 * j + 3)) Y0 S0 Y S) → Wp d 196 80 [.ref 92, .int (nI s), .int (nI m), .int (nI j), .int 0, .int rv, .int (Y0 0 j), .int (Y0 1 j), .int (Y0 2 (5 * j + 3)), .int (btf (fun v => fo (K s 0) (gon (chg R j 5 (nI v)) Lr z n p m 2) n 0) i), .int (nI i)] [] (N, H3 g P (mm Y S)) Q := by
  have hn12 := hX.2.2.1
  have hp6 := hX.2.2.2.2.1
  intro k
  induction k with
  | zero =>
    intro i Y S  hi hI
    have ei : i = 6 := by omega
    refine W_iload d_196_80 rfl ?_
    refine W_iload d_196_82 rfl ?_
    refine W_if_ne (tgt := 92) d_196_84 (by decide) (fun h84 => absurd h84 (by decide)) (fun _ => ?_)
    refine W_bipush d_196_87 (v := 6) (by decide) ?_
    refine W_goto (tgt := 105) d_196_89 (by decide) ?_
    refine W_icmp_ge (tgt := 197) d_196_105 (by decide) (fun h105 => ?_) (fun h105 => absurd (nI_le (a := 6) (b := i) (by omega) (by omega)) h105)
    rw [ei]
    exact kk _ _ hI
  | succ k ih =>
    intro i Y S  hi hI
    refine W_iload d_196_80 rfl ?_
    refine W_iload d_196_82 rfl ?_
    refine W_if_ne (tgt := 92) d_196_84 (by decide) (fun h84 => absurd h84 (by decide)) (fun _ => ?_)
    refine W_bipush d_196_87 (v := 6) (by decide) ?_
    refine W_goto (tgt := 105) d_196_89 (by decide) ?_
    refine W_icmp_ge (tgt := 197) d_196_105 (by decide) (fun h105 => absurd h105 (nI_ge (a := i) (b := 6) (by omega) (by omega))) (fun h105 => ?_)
    refine W_aload_n d_196_108 rfl (by decide) ?_
    refine W_getf d_196_109 o_196 k_7_7 rfl rfl ?_
    refine W_iload_n d_196_112 rfl ?_
    refine W_iload d_196_113 rfl ?_
    refine W_if_ne (tgt := 123) d_196_115 (by decide) (fun h115 => absurd h115 (by decide)) (fun _ => ?_)
    refine W_iload d_196_118 rfl ?_
    refine W_goto (tgt := 125) d_196_120 (by decide) ?_
    refine W_mst (a := 0) d_196_125 rfl (by decide) (n := 12) rfl (vp_in_nI (by omega) (by decide)) (nI_clamp (by omega)) ?_
    refine W_aload_n d_196_126 rfl (by decide) ?_
    refine W_getf d_196_127 o_196 k_7_13 rfl rfl ?_
    refine W_iload_n d_196_130 rfl ?_
    refine W_iload d_196_131 rfl ?_
    refine W_iconst d_196_133 (v := 1) (by decide) ?_
    refine W_icmp_ne (tgt := 142) d_196_134 (by decide) (fun _ => ?_) (fun h134 => absurd h134 (by decide))
    refine W_iload d_196_142 rfl ?_
    refine W_mst (a := 1) d_196_144 rfl (by decide) (n := 12) rfl (vp_in_nI (by omega) (by decide)) (nI_clamp (by omega)) ?_
    refine W_aload_n d_196_145 rfl (by decide) ?_
    refine W_getf d_196_146 o_196 k_7_16 rfl rfl ?_
    refine W_iconst d_196_149 (v := 5) (by decide) ?_
    refine W_iload_n d_196_150 rfl ?_
    refine W_imul d_196_151 ?_
    rw [show ((5 * nI j : Int32)) = nI (5 * j) from pk_mul 5 j]
    refine W_iconst d_196_152 (v := 3) (by decide) ?_
    refine W_iadd d_196_153 ?_
    rw [show ((nI (5 * j) + 3 : Int32)) = nI (5 * j + 3) from nI_add (5 * j) 3]
    refine W_iload d_196_154 rfl ?_
    refine W_iconst d_196_156 (v := 2) (by decide) ?_
    refine W_icmp_ne (tgt := 165) d_196_157 (by decide) (fun _ => ?_) (fun h157 => absurd h157 (by decide))
    refine W_iload d_196_165 rfl ?_
    refine W_mst (a := 2) d_196_167 rfl (by decide) (n := 60) rfl (vp_in_nI (by omega) (by decide)) (nI_clamp (by omega)) ?_
    have hms : MS (u2 (u2 (u2 Y 0 j (nI i)) 1 j (Y0 1 j)) 2 (5 * j + 3) (Y0 2 (5 * j + 3))) S (chg R j 5 (nI i)) Lr z n p t := lay3_0 ▸ set_kind (j := j) (v := nI i) (hX.q (close_012 hI))
    have hFs : FRc (fun a k => ((a = 0 ∨ a = 1) ∧ k = j) ∨ (a = 2 ∧ k = 5 * j + 3)) Y0 S0 (u2 (u2 (u2 Y 0 j (nI i)) 1 j (Y0 1 j)) 2 (5 * j + 3) (Y0 2 (5 * j + 3))) S := hI.u3c
    refine W_iload d_196_168 rfl ?_
    refine W_aload_n d_196_170 rfl (by decide) ?_
    refine W_iload_n d_196_171 rfl ?_
    refine W_iload_n d_196_172 rfl ?_
    refine W_callVQ d_196_173 o_196 (Or.inl k_7_267) (by omega) (q_194 hms (hK.c hFs) hm hs (by omega)) rfl (mrecv_of rfl o_194.symm) rfl (Nat.le_of_ble_eq_true rfl) ?_
    rintro _ _ ⟨rfl, Y1, S1, rfl, hF1⟩
    refine W_iconst d_196_176 (v := (-1)) (by decide) ?_
    refine W_icmp_ne (tgt := 187) d_196_177 (by decide) (fun h177 => ?_) (fun h177 => ?_)
    · refine W_iconst d_196_187 (v := 0) (by decide) ?_
      refine W_ior d_196_188 ?_
      refine W_istore d_196_189 rfl ?_
      refine W_iinc (v := 1) d_196_191 rfl (by decide) rfl ?_
      rw [show ((nI i + 1 : Int32)) = nI (i + 1) from nI_add i 1]
      refine W_goto (tgt := 80) d_196_194 (by decide) ?_
      have h9 := ih (i + 1) _ _ (by omega) (hFs.g hF1)
      rw [btf, if_neg (show ¬ (fun v => fo (K s 0) (gon (chg R j 5 (nI v)) Lr z n p m 2) n 0) i = -1 from h177)] at h9
      rw [show btf (fun v => fo (K s 0) (gon (chg R j 5 (nI v)) Lr z n p m 2) n 0) i ||| 0 = btf (fun v => fo (K s 0) (gon (chg R j 5 (nI v)) Lr z n p m 2) n 0) i from Int32.or_zero]
      exact h9
    · refine W_iconst d_196_180 (v := 1) (by decide) ?_
      refine W_iload d_196_181 rfl ?_
      refine W_ishl d_196_183 ?_
      refine W_goto (tgt := 188) d_196_184 (by decide) ?_
      refine W_ior d_196_188 ?_
      refine W_istore d_196_189 rfl ?_
      refine W_iinc (v := 1) d_196_191 rfl (by decide) rfl ?_
      rw [show ((nI i + 1 : Int32)) = nI (i + 1) from nI_add i 1]
      refine W_goto (tgt := 80) d_196_194 (by decide) ?_
      have h9 := ih (i + 1) _ _ (by omega) (hFs.g hF1)
      rw [btf, if_pos (show (fun v => fo (K s 0) (gon (chg R j 5 (nI v)) Lr z n p m 2) n 0) i = -1 from h177)] at h9
      exact h9
theorem q_196_0 {d : Nat} {g : mG} {N : Nat} {P : Nat → mC} {Y : tR} {S : Nat → Int32} {R Lr : tR} {z : Nat → Nat} {n p t : Nat} (hX : MS Y S R Lr z n p t) (hW : WB n R) {K : Nat → tR} (hK : SHR K Y) {m : Nat} (hm : m ≤ 48) {s : Nat} (hs : s < 4) (hr : rfv K n (nI s) = 0) {j : Nat} (hj : j < n) (hd : 9 ≤ d) : Wp d 196 0 (ment 196 [.ref 92, .int (nI s), .int (nI m), .int (nI j), .int 0]) [] (N, H3 g P (mm Y S)) (fun v M' => v = some (.int (btf (fun v => fo (K s 0) (gon (chg R j 5 (nI v)) Lr z n p m 2) n 0) 6)) ∧ ∃ Y' S', M' = (N, H3 g P (mm Y' S')) ∧ FRq Y S Y' S') := by
  have hn12 := hX.2.2.1
  have hp6 := hX.2.2.2.2.1
  have hS0 := hX.n0
  have hS5 := hX.p0
  show Wp _ 196 0 [.ref 92, .int (nI s), .int (nI m), .int (nI j), .int 0, .null, .null, .null, .null, .null, .null] [] _ _
  refine W_aload_n d_196_0 rfl (by decide) ?_
  refine W_iload_n d_196_1 rfl ?_
  refine W_callV d_196_2 o_196 (Or.inl k_7_261) (by omega) (q_192 hK hS0 (by omega)) rfl (mrecv_of rfl o_192.symm) rfl (Nat.le_of_ble_eq_true rfl) ?_
  refine W_istore d_196_5 rfl ?_
  refine W_iload d_196_7 rfl ?_
  refine W_if_eq (tgt := 15) d_196_9 (by decide) (fun h9 => ?_) (fun h9 => absurd hr h9)
  refine W_aload_n d_196_15 rfl (by decide) ?_
  refine W_iload_n d_196_16 rfl ?_
  refine W_callV d_196_17 o_196 (Or.inl k_7_182) (by omega) (x_137 hS0 hn12 (by omega)) rfl (mrecv_of rfl o_137.symm) rfl (Nat.le_of_ble_eq_true rfl) ?_
  refine W_if_ne (tgt := 26) d_196_20 (by decide) (fun h20 => ?_) (fun h20 => absurd h20 (fun q => bI_f q ⟨nI_pos' (by omega), nI_lt hj (by omega)⟩))
  refine W_iload_n d_196_26 rfl ?_
  refine W_callS d_196_27 o_196 k_7_244 (by omega) (x_139 (by omega)) rfl (Nat.le_of_ble_eq_true rfl) ?_
  refine W_if_eq (tgt := 43) d_196_30 (by decide) (fun h30 => absurd h30 (fun q => bI_f q ⟨nI_pos' (by omega), nI_le (a := m) (b := 48) hm (by decide)⟩)) (fun h30 => ?_)
  refine W_iload d_196_33 rfl ?_
  refine W_iconst d_196_35 (v := 0) (by decide) ?_
  refine W_iconst d_196_36 (v := 2) (by decide) ?_
  refine W_callS d_196_37 o_196 k_7_96 (by omega) x_135 rfl (Nat.le_of_ble_eq_true rfl) ?_
  refine W_if_ne (tgt := 46) d_196_40 (by decide) (fun h40 => ?_) (fun h40 => absurd h40 (fun q => bI_f q (by decide)))
  refine W_aload_n d_196_46 rfl (by decide) ?_
  refine W_getf d_196_47 o_196 k_7_7 rfl rfl ?_
  refine W_iload_n d_196_50 rfl ?_
  refine W_mld (a := 0) d_196_51 rfl (by decide) (n := 12) rfl (vp_in_nI (by omega) (by decide)) (congrArg (Y 0) (nI_clamp (by omega))) ?_
  refine W_istore d_196_52 rfl ?_
  refine W_aload_n d_196_54 rfl (by decide) ?_
  refine W_getf d_196_55 o_196 k_7_13 rfl rfl ?_
  refine W_iload_n d_196_58 rfl ?_
  refine W_mld (a := 1) d_196_59 rfl (by decide) (n := 12) rfl (vp_in_nI (by omega) (by decide)) (congrArg (Y 1) (nI_clamp (by omega))) ?_
  refine W_istore d_196_60 rfl ?_
  refine W_aload_n d_196_62 rfl (by decide) ?_
  refine W_getf d_196_63 o_196 k_7_16 rfl rfl ?_
  refine W_iconst d_196_66 (v := 5) (by decide) ?_
  refine W_iload_n d_196_67 rfl ?_
  refine W_imul d_196_68 ?_
  rw [show ((5 * nI j : Int32)) = nI (5 * j) from pk_mul 5 j]
  refine W_iconst d_196_69 (v := 3) (by decide) ?_
  refine W_iadd d_196_70 ?_
  rw [show ((nI (5 * j) + 3 : Int32)) = nI (5 * j + 3) from nI_add (5 * j) 3]
  refine W_mld (a := 2) d_196_71 rfl (by decide) (n := 60) rfl (vp_in_nI (by omega) (by decide)) (congrArg (Y 2) (nI_clamp (by omega))) ?_
  refine W_istore d_196_72 rfl ?_
  refine W_iconst d_196_74 (v := 0) (by decide) ?_
  refine W_istore d_196_75 rfl ?_
  refine W_iconst d_196_77 (v := 0) (by decide) ?_
  refine W_istore d_196_78 rfl ?_
  refine lq_196_0 (Y0 := Y) (S0 := S) hX hW hm hK hj hs hd (fun Y1 S1 hI => ?_) 6 0 _ _ (by omega) FRc.refl
  refine W_aload_n d_196_197 rfl (by decide) ?_
  refine W_getf d_196_198 o_196 k_7_7 rfl rfl ?_
  refine W_iload_n d_196_201 rfl ?_
  refine W_iload d_196_202 rfl ?_
  refine W_mst (a := 0) d_196_204 rfl (by decide) (n := 12) rfl (vp_in_nI (by omega) (by decide)) (nI_clamp (by omega)) ?_
  refine W_aload_n d_196_205 rfl (by decide) ?_
  refine W_getf d_196_206 o_196 k_7_13 rfl rfl ?_
  refine W_iload_n d_196_209 rfl ?_
  refine W_iload d_196_210 rfl ?_
  refine W_mst (a := 1) d_196_212 rfl (by decide) (n := 12) rfl (vp_in_nI (by omega) (by decide)) (nI_clamp (by omega)) ?_
  refine W_aload_n d_196_213 rfl (by decide) ?_
  refine W_getf d_196_214 o_196 k_7_16 rfl rfl ?_
  refine W_iconst d_196_217 (v := 5) (by decide) ?_
  refine W_iload_n d_196_218 rfl ?_
  refine W_imul d_196_219 ?_
  rw [show ((5 * nI j : Int32)) = nI (5 * j) from pk_mul 5 j]
  refine W_iconst d_196_220 (v := 3) (by decide) ?_
  refine W_iadd d_196_221 ?_
  rw [show ((nI (5 * j) + 3 : Int32)) = nI (5 * j + 3) from nI_add (5 * j) 3]
  refine W_iload d_196_222 rfl ?_
  refine W_mst (a := 2) d_196_224 rfl (by decide) (n := 60) rfl (vp_in_nI (by omega) (by decide)) (nI_clamp (by omega)) ?_
  refine W_iload d_196_225 rfl ?_
  refine W_iret d_196_227 rt_196 rfl ?_
  exact ⟨rfl, _, _, rfl, close_012 hI⟩
theorem lq_196_1 {d : Nat} {g : mG} {N : Nat} {P : Nat → mC} {Y0 : tR} {S0 : Nat → Int32} {R Lr : tR} {z : Nat → Nat} {n p t : Nat} (hX : MS Y0 S0 R Lr z n p t) (hW : WB n R) {m : Nat} (hm : m ≤ 48) {K : Nat → tR} (hK : SHR K Y0) {j s : Nat} (hj : j < n) (hs : s < 4) {rv : Int32} (hd : 9 ≤ d) {Q : Option Value → mM → Prop} (kk : ∀ (Y : tR) (S : Nat → Int32) , (FRc (fun a k => ((a = 0 ∨ a = 1) ∧ k = j) ∨ (a = 2 ∧ k = 5 * j + 3)) Y0 S0 Y S) → Wp d 196 197 [.ref 92, .int (nI s), .int (nI m), .int (nI j), .int 1, .int rv, .int (Y0 0 j), .int (Y0 1 j), .int (Y0 2 (5 * j + 3)), .int (btf (fun v => fo (K s 0) (gon (chg R j 6 (nI v)) Lr z n p m 2) n 0) 10), .int (nI 10)] [] (N, H3 g P (mm Y S)) Q) : ∀ (k i : Nat) (Y : tR) (S : Nat → Int32) , i + k = 10 → (FRc (fun a k => ((a = 0 ∨ a = 1) ∧ k = j) ∨ (a = 2 ∧ k = 5 * j + 3)) Y0 S0 Y S) → Wp d 196 80 [.ref 92, .int (nI s), .int (nI m), .int (nI j), .int 1, .int rv, .int (Y0 0 j), .int (Y0 1 j), .int (Y0 2 (5 * j + 3)), .int (btf (fun v => fo (K s 0) (gon (chg R j 6 (nI v)) Lr z n p m 2) n 0) i), .int (nI i)] [] (N, H3 g P (mm Y S)) Q := by
  have hn12 := hX.2.2.1
  have hp6 := hX.2.2.2.2.1
  intro k
  induction k with
  | zero =>
    intro i Y S  hi hI
    have ei : i = 10 := by omega
    refine W_iload d_196_80 rfl ?_
    refine W_iload d_196_82 rfl ?_
    refine W_if_ne (tgt := 92) d_196_84 (by decide) (fun _ => ?_) (fun h84 => absurd h84 (by decide))
    refine W_iload d_196_92 rfl ?_
    refine W_iconst d_196_94 (v := 1) (by decide) ?_
    refine W_icmp_ne (tgt := 103) d_196_95 (by decide) (fun h95 => absurd h95 (by decide)) (fun _ => ?_)
    refine W_bipush d_196_98 (v := 10) (by decide) ?_
    refine W_goto (tgt := 105) d_196_100 (by decide) ?_
    refine W_icmp_ge (tgt := 197) d_196_105 (by decide) (fun h105 => ?_) (fun h105 => absurd (nI_le (a := 10) (b := i) (by omega) (by omega)) h105)
    rw [ei]
    exact kk _ _ hI
  | succ k ih =>
    intro i Y S  hi hI
    refine W_iload d_196_80 rfl ?_
    refine W_iload d_196_82 rfl ?_
    refine W_if_ne (tgt := 92) d_196_84 (by decide) (fun _ => ?_) (fun h84 => absurd h84 (by decide))
    refine W_iload d_196_92 rfl ?_
    refine W_iconst d_196_94 (v := 1) (by decide) ?_
    refine W_icmp_ne (tgt := 103) d_196_95 (by decide) (fun h95 => absurd h95 (by decide)) (fun _ => ?_)
    refine W_bipush d_196_98 (v := 10) (by decide) ?_
    refine W_goto (tgt := 105) d_196_100 (by decide) ?_
    refine W_icmp_ge (tgt := 197) d_196_105 (by decide) (fun h105 => absurd h105 (nI_ge (a := i) (b := 10) (by omega) (by omega))) (fun h105 => ?_)
    refine W_aload_n d_196_108 rfl (by decide) ?_
    refine W_getf d_196_109 o_196 k_7_7 rfl rfl ?_
    refine W_iload_n d_196_112 rfl ?_
    refine W_iload d_196_113 rfl ?_
    refine W_if_ne (tgt := 123) d_196_115 (by decide) (fun _ => ?_) (fun h115 => absurd h115 (by decide))
    refine W_iload d_196_123 rfl ?_
    refine W_mst (a := 0) d_196_125 rfl (by decide) (n := 12) rfl (vp_in_nI (by omega) (by decide)) (nI_clamp (by omega)) ?_
    refine W_aload_n d_196_126 rfl (by decide) ?_
    refine W_getf d_196_127 o_196 k_7_13 rfl rfl ?_
    refine W_iload_n d_196_130 rfl ?_
    refine W_iload d_196_131 rfl ?_
    refine W_iconst d_196_133 (v := 1) (by decide) ?_
    refine W_icmp_ne (tgt := 142) d_196_134 (by decide) (fun h134 => absurd h134 (by decide)) (fun _ => ?_)
    refine W_iload d_196_137 rfl ?_
    refine W_goto (tgt := 144) d_196_139 (by decide) ?_
    refine W_mst (a := 1) d_196_144 rfl (by decide) (n := 12) rfl (vp_in_nI (by omega) (by decide)) (nI_clamp (by omega)) ?_
    refine W_aload_n d_196_145 rfl (by decide) ?_
    refine W_getf d_196_146 o_196 k_7_16 rfl rfl ?_
    refine W_iconst d_196_149 (v := 5) (by decide) ?_
    refine W_iload_n d_196_150 rfl ?_
    refine W_imul d_196_151 ?_
    rw [show ((5 * nI j : Int32)) = nI (5 * j) from pk_mul 5 j]
    refine W_iconst d_196_152 (v := 3) (by decide) ?_
    refine W_iadd d_196_153 ?_
    rw [show ((nI (5 * j) + 3 : Int32)) = nI (5 * j + 3) from nI_add (5 * j) 3]
    refine W_iload d_196_154 rfl ?_
    refine W_iconst d_196_156 (v := 2) (by decide) ?_
    refine W_icmp_ne (tgt := 165) d_196_157 (by decide) (fun _ => ?_) (fun h157 => absurd h157 (by decide))
    refine W_iload d_196_165 rfl ?_
    refine W_mst (a := 2) d_196_167 rfl (by decide) (n := 60) rfl (vp_in_nI (by omega) (by decide)) (nI_clamp (by omega)) ?_
    have hms : MS (u2 (u2 (u2 Y 0 j (Y0 0 j)) 1 j (nI i)) 2 (5 * j + 3) (Y0 2 (5 * j + 3))) S (chg R j 6 (nI i)) Lr z n p t := lay3_1 ▸ set_more (j := j) (v := nI i) (hX.q (close_012 hI))
    have hFs : FRc (fun a k => ((a = 0 ∨ a = 1) ∧ k = j) ∨ (a = 2 ∧ k = 5 * j + 3)) Y0 S0 (u2 (u2 (u2 Y 0 j (Y0 0 j)) 1 j (nI i)) 2 (5 * j + 3) (Y0 2 (5 * j + 3))) S := hI.u3c
    refine W_iload d_196_168 rfl ?_
    refine W_aload_n d_196_170 rfl (by decide) ?_
    refine W_iload_n d_196_171 rfl ?_
    refine W_iload_n d_196_172 rfl ?_
    refine W_callVQ d_196_173 o_196 (Or.inl k_7_267) (by omega) (q_194 hms (hK.c hFs) hm hs (by omega)) rfl (mrecv_of rfl o_194.symm) rfl (Nat.le_of_ble_eq_true rfl) ?_
    rintro _ _ ⟨rfl, Y1, S1, rfl, hF1⟩
    refine W_iconst d_196_176 (v := (-1)) (by decide) ?_
    refine W_icmp_ne (tgt := 187) d_196_177 (by decide) (fun h177 => ?_) (fun h177 => ?_)
    · refine W_iconst d_196_187 (v := 0) (by decide) ?_
      refine W_ior d_196_188 ?_
      refine W_istore d_196_189 rfl ?_
      refine W_iinc (v := 1) d_196_191 rfl (by decide) rfl ?_
      rw [show ((nI i + 1 : Int32)) = nI (i + 1) from nI_add i 1]
      refine W_goto (tgt := 80) d_196_194 (by decide) ?_
      have h9 := ih (i + 1) _ _ (by omega) (hFs.g hF1)
      rw [btf, if_neg (show ¬ (fun v => fo (K s 0) (gon (chg R j 6 (nI v)) Lr z n p m 2) n 0) i = -1 from h177)] at h9
      rw [show btf (fun v => fo (K s 0) (gon (chg R j 6 (nI v)) Lr z n p m 2) n 0) i ||| 0 = btf (fun v => fo (K s 0) (gon (chg R j 6 (nI v)) Lr z n p m 2) n 0) i from Int32.or_zero]
      exact h9
    · refine W_iconst d_196_180 (v := 1) (by decide) ?_
      refine W_iload d_196_181 rfl ?_
      refine W_ishl d_196_183 ?_
      refine W_goto (tgt := 188) d_196_184 (by decide) ?_
      refine W_ior d_196_188 ?_
      refine W_istore d_196_189 rfl ?_
      refine W_iinc (v := 1) d_196_191 rfl (by decide) rfl ?_
      rw [show ((nI i + 1 : Int32)) = nI (i + 1) from nI_add i 1]
      refine W_goto (tgt := 80) d_196_194 (by decide) ?_
      have h9 := ih (i + 1) _ _ (by omega) (hFs.g hF1)
      rw [btf, if_pos (show (fun v => fo (K s 0) (gon (chg R j 6 (nI v)) Lr z n p m 2) n 0) i = -1 from h177)] at h9
      exact h9
theorem q_196_1 {d : Nat} {g : mG} {N : Nat} {P : Nat → mC} {Y : tR} {S : Nat → Int32} {R Lr : tR} {z : Nat → Nat} {n p t : Nat} (hX : MS Y S R Lr z n p t) (hW : WB n R) {K : Nat → tR} (hK : SHR K Y) {m : Nat} (hm : m ≤ 48) {s : Nat} (hs : s < 4) (hr : rfv K n (nI s) = 0) {j : Nat} (hj : j < n) (hd : 9 ≤ d) : Wp d 196 0 (ment 196 [.ref 92, .int (nI s), .int (nI m), .int (nI j), .int 1]) [] (N, H3 g P (mm Y S)) (fun v M' => v = some (.int (btf (fun v => fo (K s 0) (gon (chg R j 6 (nI v)) Lr z n p m 2) n 0) 10)) ∧ ∃ Y' S', M' = (N, H3 g P (mm Y' S')) ∧ FRq Y S Y' S') := by
  have hn12 := hX.2.2.1
  have hp6 := hX.2.2.2.2.1
  have hS0 := hX.n0
  have hS5 := hX.p0
  show Wp _ 196 0 [.ref 92, .int (nI s), .int (nI m), .int (nI j), .int 1, .null, .null, .null, .null, .null, .null] [] _ _
  refine W_aload_n d_196_0 rfl (by decide) ?_
  refine W_iload_n d_196_1 rfl ?_
  refine W_callV d_196_2 o_196 (Or.inl k_7_261) (by omega) (q_192 hK hS0 (by omega)) rfl (mrecv_of rfl o_192.symm) rfl (Nat.le_of_ble_eq_true rfl) ?_
  refine W_istore d_196_5 rfl ?_
  refine W_iload d_196_7 rfl ?_
  refine W_if_eq (tgt := 15) d_196_9 (by decide) (fun h9 => ?_) (fun h9 => absurd hr h9)
  refine W_aload_n d_196_15 rfl (by decide) ?_
  refine W_iload_n d_196_16 rfl ?_
  refine W_callV d_196_17 o_196 (Or.inl k_7_182) (by omega) (x_137 hS0 hn12 (by omega)) rfl (mrecv_of rfl o_137.symm) rfl (Nat.le_of_ble_eq_true rfl) ?_
  refine W_if_ne (tgt := 26) d_196_20 (by decide) (fun h20 => ?_) (fun h20 => absurd h20 (fun q => bI_f q ⟨nI_pos' (by omega), nI_lt hj (by omega)⟩))
  refine W_iload_n d_196_26 rfl ?_
  refine W_callS d_196_27 o_196 k_7_244 (by omega) (x_139 (by omega)) rfl (Nat.le_of_ble_eq_true rfl) ?_
  refine W_if_eq (tgt := 43) d_196_30 (by decide) (fun h30 => absurd h30 (fun q => bI_f q ⟨nI_pos' (by omega), nI_le (a := m) (b := 48) hm (by decide)⟩)) (fun h30 => ?_)
  refine W_iload d_196_33 rfl ?_
  refine W_iconst d_196_35 (v := 0) (by decide) ?_
  refine W_iconst d_196_36 (v := 2) (by decide) ?_
  refine W_callS d_196_37 o_196 k_7_96 (by omega) x_135 rfl (Nat.le_of_ble_eq_true rfl) ?_
  refine W_if_ne (tgt := 46) d_196_40 (by decide) (fun h40 => ?_) (fun h40 => absurd h40 (fun q => bI_f q (by decide)))
  refine W_aload_n d_196_46 rfl (by decide) ?_
  refine W_getf d_196_47 o_196 k_7_7 rfl rfl ?_
  refine W_iload_n d_196_50 rfl ?_
  refine W_mld (a := 0) d_196_51 rfl (by decide) (n := 12) rfl (vp_in_nI (by omega) (by decide)) (congrArg (Y 0) (nI_clamp (by omega))) ?_
  refine W_istore d_196_52 rfl ?_
  refine W_aload_n d_196_54 rfl (by decide) ?_
  refine W_getf d_196_55 o_196 k_7_13 rfl rfl ?_
  refine W_iload_n d_196_58 rfl ?_
  refine W_mld (a := 1) d_196_59 rfl (by decide) (n := 12) rfl (vp_in_nI (by omega) (by decide)) (congrArg (Y 1) (nI_clamp (by omega))) ?_
  refine W_istore d_196_60 rfl ?_
  refine W_aload_n d_196_62 rfl (by decide) ?_
  refine W_getf d_196_63 o_196 k_7_16 rfl rfl ?_
  refine W_iconst d_196_66 (v := 5) (by decide) ?_
  refine W_iload_n d_196_67 rfl ?_
  refine W_imul d_196_68 ?_
  rw [show ((5 * nI j : Int32)) = nI (5 * j) from pk_mul 5 j]
  refine W_iconst d_196_69 (v := 3) (by decide) ?_
  refine W_iadd d_196_70 ?_
  rw [show ((nI (5 * j) + 3 : Int32)) = nI (5 * j + 3) from nI_add (5 * j) 3]
  refine W_mld (a := 2) d_196_71 rfl (by decide) (n := 60) rfl (vp_in_nI (by omega) (by decide)) (congrArg (Y 2) (nI_clamp (by omega))) ?_
  refine W_istore d_196_72 rfl ?_
  refine W_iconst d_196_74 (v := 0) (by decide) ?_
  refine W_istore d_196_75 rfl ?_
  refine W_iconst d_196_77 (v := 0) (by decide) ?_
  refine W_istore d_196_78 rfl ?_
  refine lq_196_1 (Y0 := Y) (S0 := S) hX hW hm hK hj hs hd (fun Y1 S1 hI => ?_) 10 0 _ _ (by omega) FRc.refl
  refine W_aload_n d_196_197 rfl (by decide) ?_
  refine W_getf d_196_198 o_196 k_7_7 rfl rfl ?_
  refine W_iload_n d_196_201 rfl ?_
  refine W_iload d_196_202 rfl ?_
  refine W_mst (a := 0) d_196_204 rfl (by decide) (n := 12) rfl (vp_in_nI (by omega) (by decide)) (nI_clamp (by omega)) ?_
  refine W_aload_n d_196_205 rfl (by decide) ?_
  refine W_getf d_196_206 o_196 k_7_13 rfl rfl ?_
  refine W_iload_n d_196_209 rfl ?_
  refine W_iload d_196_210 rfl ?_
  refine W_mst (a := 1) d_196_212 rfl (by decide) (n := 12) rfl (vp_in_nI (by omega) (by decide)) (nI_clamp (by omega)) ?_
  refine W_aload_n d_196_213 rfl (by decide) ?_
  refine W_getf d_196_214 o_196 k_7_16 rfl rfl ?_
  refine W_iconst d_196_217 (v := 5) (by decide) ?_
  refine W_iload_n d_196_218 rfl ?_
  refine W_imul d_196_219 ?_
  rw [show ((5 * nI j : Int32)) = nI (5 * j) from pk_mul 5 j]
  refine W_iconst d_196_220 (v := 3) (by decide) ?_
  refine W_iadd d_196_221 ?_
  rw [show ((nI (5 * j) + 3 : Int32)) = nI (5 * j + 3) from nI_add (5 * j) 3]
  refine W_iload d_196_222 rfl ?_
  refine W_mst (a := 2) d_196_224 rfl (by decide) (n := 60) rfl (vp_in_nI (by omega) (by decide)) (nI_clamp (by omega)) ?_
  refine W_iload d_196_225 rfl ?_
  refine W_iret d_196_227 rt_196 rfl ?_
  exact ⟨rfl, _, _, rfl, close_012 hI⟩
theorem lq_196_2 {d : Nat} {g : mG} {N : Nat} {P : Nat → mC} {Y0 : tR} {S0 : Nat → Int32} {R Lr : tR} {z : Nat → Nat} {n p t : Nat} (hX : MS Y0 S0 R Lr z n p t) (hW : WB n R) {m : Nat} (hm : m ≤ 48) {K : Nat → tR} (hK : SHR K Y0) {j s : Nat} (hj : j < n) (hs : s < 4) {rv : Int32} (hd : 9 ≤ d) {Q : Option Value → mM → Prop} (kk : ∀ (Y : tR) (S : Nat → Int32) , (FRc (fun a k => ((a = 0 ∨ a = 1) ∧ k = j) ∨ (a = 2 ∧ k = 5 * j + 3)) Y0 S0 Y S) → Wp d 196 197 [.ref 92, .int (nI s), .int (nI m), .int (nI j), .int 2, .int rv, .int (Y0 0 j), .int (Y0 1 j), .int (Y0 2 (5 * j + 3)), .int (btf (fun v => fo (K s 0) (gon (chg R j 3 (nI v)) Lr z n p m 2) n 0) 24), .int (nI 24)] [] (N, H3 g P (mm Y S)) Q) : ∀ (k i : Nat) (Y : tR) (S : Nat → Int32) , i + k = 24 → (FRc (fun a k => ((a = 0 ∨ a = 1) ∧ k = j) ∨ (a = 2 ∧ k = 5 * j + 3)) Y0 S0 Y S) → Wp d 196 80 [.ref 92, .int (nI s), .int (nI m), .int (nI j), .int 2, .int rv, .int (Y0 0 j), .int (Y0 1 j), .int (Y0 2 (5 * j + 3)), .int (btf (fun v => fo (K s 0) (gon (chg R j 3 (nI v)) Lr z n p m 2) n 0) i), .int (nI i)] [] (N, H3 g P (mm Y S)) Q := by
  have hn12 := hX.2.2.1
  have hp6 := hX.2.2.2.2.1
  intro k
  induction k with
  | zero =>
    intro i Y S  hi hI
    have ei : i = 24 := by omega
    refine W_iload d_196_80 rfl ?_
    refine W_iload d_196_82 rfl ?_
    refine W_if_ne (tgt := 92) d_196_84 (by decide) (fun _ => ?_) (fun h84 => absurd h84 (by decide))
    refine W_iload d_196_92 rfl ?_
    refine W_iconst d_196_94 (v := 1) (by decide) ?_
    refine W_icmp_ne (tgt := 103) d_196_95 (by decide) (fun _ => ?_) (fun h95 => absurd h95 (by decide))
    refine W_bipush d_196_103 (v := 24) (by decide) ?_
    refine W_icmp_ge (tgt := 197) d_196_105 (by decide) (fun h105 => ?_) (fun h105 => absurd (nI_le (a := 24) (b := i) (by omega) (by omega)) h105)
    rw [ei]
    exact kk _ _ hI
  | succ k ih =>
    intro i Y S  hi hI
    refine W_iload d_196_80 rfl ?_
    refine W_iload d_196_82 rfl ?_
    refine W_if_ne (tgt := 92) d_196_84 (by decide) (fun _ => ?_) (fun h84 => absurd h84 (by decide))
    refine W_iload d_196_92 rfl ?_
    refine W_iconst d_196_94 (v := 1) (by decide) ?_
    refine W_icmp_ne (tgt := 103) d_196_95 (by decide) (fun _ => ?_) (fun h95 => absurd h95 (by decide))
    refine W_bipush d_196_103 (v := 24) (by decide) ?_
    refine W_icmp_ge (tgt := 197) d_196_105 (by decide) (fun h105 => absurd h105 (nI_ge (a := i) (b := 24) (by omega) (by omega))) (fun h105 => ?_)
    refine W_aload_n d_196_108 rfl (by decide) ?_
    refine W_getf d_196_109 o_196 k_7_7 rfl rfl ?_
    refine W_iload_n d_196_112 rfl ?_
    refine W_iload d_196_113 rfl ?_
    refine W_if_ne (tgt := 123) d_196_115 (by decide) (fun _ => ?_) (fun h115 => absurd h115 (by decide))
    refine W_iload d_196_123 rfl ?_
    refine W_mst (a := 0) d_196_125 rfl (by decide) (n := 12) rfl (vp_in_nI (by omega) (by decide)) (nI_clamp (by omega)) ?_
    refine W_aload_n d_196_126 rfl (by decide) ?_
    refine W_getf d_196_127 o_196 k_7_13 rfl rfl ?_
    refine W_iload_n d_196_130 rfl ?_
    refine W_iload d_196_131 rfl ?_
    refine W_iconst d_196_133 (v := 1) (by decide) ?_
    refine W_icmp_ne (tgt := 142) d_196_134 (by decide) (fun _ => ?_) (fun h134 => absurd h134 (by decide))
    refine W_iload d_196_142 rfl ?_
    refine W_mst (a := 1) d_196_144 rfl (by decide) (n := 12) rfl (vp_in_nI (by omega) (by decide)) (nI_clamp (by omega)) ?_
    refine W_aload_n d_196_145 rfl (by decide) ?_
    refine W_getf d_196_146 o_196 k_7_16 rfl rfl ?_
    refine W_iconst d_196_149 (v := 5) (by decide) ?_
    refine W_iload_n d_196_150 rfl ?_
    refine W_imul d_196_151 ?_
    rw [show ((5 * nI j : Int32)) = nI (5 * j) from pk_mul 5 j]
    refine W_iconst d_196_152 (v := 3) (by decide) ?_
    refine W_iadd d_196_153 ?_
    rw [show ((nI (5 * j) + 3 : Int32)) = nI (5 * j + 3) from nI_add (5 * j) 3]
    refine W_iload d_196_154 rfl ?_
    refine W_iconst d_196_156 (v := 2) (by decide) ?_
    refine W_icmp_ne (tgt := 165) d_196_157 (by decide) (fun h157 => absurd h157 (by decide)) (fun _ => ?_)
    refine W_iload d_196_160 rfl ?_
    refine W_goto (tgt := 167) d_196_162 (by decide) ?_
    refine W_mst (a := 2) d_196_167 rfl (by decide) (n := 60) rfl (vp_in_nI (by omega) (by decide)) (nI_clamp (by omega)) ?_
    have hms : MS (u2 (u2 (u2 Y 0 j (Y0 0 j)) 1 j (Y0 1 j)) 2 (5 * j + 3) (nI i)) S (chg R j 3 (nI i)) Lr z n p t := lay3_2 ▸ set_at (j := j) (v := nI i) (hX.q (close_012 hI))
    have hFs : FRc (fun a k => ((a = 0 ∨ a = 1) ∧ k = j) ∨ (a = 2 ∧ k = 5 * j + 3)) Y0 S0 (u2 (u2 (u2 Y 0 j (Y0 0 j)) 1 j (Y0 1 j)) 2 (5 * j + 3) (nI i)) S := hI.u3c
    refine W_iload d_196_168 rfl ?_
    refine W_aload_n d_196_170 rfl (by decide) ?_
    refine W_iload_n d_196_171 rfl ?_
    refine W_iload_n d_196_172 rfl ?_
    refine W_callVQ d_196_173 o_196 (Or.inl k_7_267) (by omega) (q_194 hms (hK.c hFs) hm hs (by omega)) rfl (mrecv_of rfl o_194.symm) rfl (Nat.le_of_ble_eq_true rfl) ?_
    rintro _ _ ⟨rfl, Y1, S1, rfl, hF1⟩
    refine W_iconst d_196_176 (v := (-1)) (by decide) ?_
    refine W_icmp_ne (tgt := 187) d_196_177 (by decide) (fun h177 => ?_) (fun h177 => ?_)
    · refine W_iconst d_196_187 (v := 0) (by decide) ?_
      refine W_ior d_196_188 ?_
      refine W_istore d_196_189 rfl ?_
      refine W_iinc (v := 1) d_196_191 rfl (by decide) rfl ?_
      rw [show ((nI i + 1 : Int32)) = nI (i + 1) from nI_add i 1]
      refine W_goto (tgt := 80) d_196_194 (by decide) ?_
      have h9 := ih (i + 1) _ _ (by omega) (hFs.g hF1)
      rw [btf, if_neg (show ¬ (fun v => fo (K s 0) (gon (chg R j 3 (nI v)) Lr z n p m 2) n 0) i = -1 from h177)] at h9
      rw [show btf (fun v => fo (K s 0) (gon (chg R j 3 (nI v)) Lr z n p m 2) n 0) i ||| 0 = btf (fun v => fo (K s 0) (gon (chg R j 3 (nI v)) Lr z n p m 2) n 0) i from Int32.or_zero]
      exact h9
    · refine W_iconst d_196_180 (v := 1) (by decide) ?_
      refine W_iload d_196_181 rfl ?_
      refine W_ishl d_196_183 ?_
      refine W_goto (tgt := 188) d_196_184 (by decide) ?_
      refine W_ior d_196_188 ?_
      refine W_istore d_196_189 rfl ?_
      refine W_iinc (v := 1) d_196_191 rfl (by decide) rfl ?_
      rw [show ((nI i + 1 : Int32)) = nI (i + 1) from nI_add i 1]
      refine W_goto (tgt := 80) d_196_194 (by decide) ?_
      have h9 := ih (i + 1) _ _ (by omega) (hFs.g hF1)
      rw [btf, if_pos (show (fun v => fo (K s 0) (gon (chg R j 3 (nI v)) Lr z n p m 2) n 0) i = -1 from h177)] at h9
      exact h9
theorem q_196_2 {d : Nat} {g : mG} {N : Nat} {P : Nat → mC} {Y : tR} {S : Nat → Int32} {R Lr : tR} {z : Nat → Nat} {n p t : Nat} (hX : MS Y S R Lr z n p t) (hW : WB n R) {K : Nat → tR} (hK : SHR K Y) {m : Nat} (hm : m ≤ 48) {s : Nat} (hs : s < 4) (hr : rfv K n (nI s) = 0) {j : Nat} (hj : j < n) (hd : 9 ≤ d) : Wp d 196 0 (ment 196 [.ref 92, .int (nI s), .int (nI m), .int (nI j), .int 2]) [] (N, H3 g P (mm Y S)) (fun v M' => v = some (.int (btf (fun v => fo (K s 0) (gon (chg R j 3 (nI v)) Lr z n p m 2) n 0) 24)) ∧ ∃ Y' S', M' = (N, H3 g P (mm Y' S')) ∧ FRq Y S Y' S') := by
  have hn12 := hX.2.2.1
  have hp6 := hX.2.2.2.2.1
  have hS0 := hX.n0
  have hS5 := hX.p0
  show Wp _ 196 0 [.ref 92, .int (nI s), .int (nI m), .int (nI j), .int 2, .null, .null, .null, .null, .null, .null] [] _ _
  refine W_aload_n d_196_0 rfl (by decide) ?_
  refine W_iload_n d_196_1 rfl ?_
  refine W_callV d_196_2 o_196 (Or.inl k_7_261) (by omega) (q_192 hK hS0 (by omega)) rfl (mrecv_of rfl o_192.symm) rfl (Nat.le_of_ble_eq_true rfl) ?_
  refine W_istore d_196_5 rfl ?_
  refine W_iload d_196_7 rfl ?_
  refine W_if_eq (tgt := 15) d_196_9 (by decide) (fun h9 => ?_) (fun h9 => absurd hr h9)
  refine W_aload_n d_196_15 rfl (by decide) ?_
  refine W_iload_n d_196_16 rfl ?_
  refine W_callV d_196_17 o_196 (Or.inl k_7_182) (by omega) (x_137 hS0 hn12 (by omega)) rfl (mrecv_of rfl o_137.symm) rfl (Nat.le_of_ble_eq_true rfl) ?_
  refine W_if_ne (tgt := 26) d_196_20 (by decide) (fun h20 => ?_) (fun h20 => absurd h20 (fun q => bI_f q ⟨nI_pos' (by omega), nI_lt hj (by omega)⟩))
  refine W_iload_n d_196_26 rfl ?_
  refine W_callS d_196_27 o_196 k_7_244 (by omega) (x_139 (by omega)) rfl (Nat.le_of_ble_eq_true rfl) ?_
  refine W_if_eq (tgt := 43) d_196_30 (by decide) (fun h30 => absurd h30 (fun q => bI_f q ⟨nI_pos' (by omega), nI_le (a := m) (b := 48) hm (by decide)⟩)) (fun h30 => ?_)
  refine W_iload d_196_33 rfl ?_
  refine W_iconst d_196_35 (v := 0) (by decide) ?_
  refine W_iconst d_196_36 (v := 2) (by decide) ?_
  refine W_callS d_196_37 o_196 k_7_96 (by omega) x_135 rfl (Nat.le_of_ble_eq_true rfl) ?_
  refine W_if_ne (tgt := 46) d_196_40 (by decide) (fun h40 => ?_) (fun h40 => absurd h40 (fun q => bI_f q (by decide)))
  refine W_aload_n d_196_46 rfl (by decide) ?_
  refine W_getf d_196_47 o_196 k_7_7 rfl rfl ?_
  refine W_iload_n d_196_50 rfl ?_
  refine W_mld (a := 0) d_196_51 rfl (by decide) (n := 12) rfl (vp_in_nI (by omega) (by decide)) (congrArg (Y 0) (nI_clamp (by omega))) ?_
  refine W_istore d_196_52 rfl ?_
  refine W_aload_n d_196_54 rfl (by decide) ?_
  refine W_getf d_196_55 o_196 k_7_13 rfl rfl ?_
  refine W_iload_n d_196_58 rfl ?_
  refine W_mld (a := 1) d_196_59 rfl (by decide) (n := 12) rfl (vp_in_nI (by omega) (by decide)) (congrArg (Y 1) (nI_clamp (by omega))) ?_
  refine W_istore d_196_60 rfl ?_
  refine W_aload_n d_196_62 rfl (by decide) ?_
  refine W_getf d_196_63 o_196 k_7_16 rfl rfl ?_
  refine W_iconst d_196_66 (v := 5) (by decide) ?_
  refine W_iload_n d_196_67 rfl ?_
  refine W_imul d_196_68 ?_
  rw [show ((5 * nI j : Int32)) = nI (5 * j) from pk_mul 5 j]
  refine W_iconst d_196_69 (v := 3) (by decide) ?_
  refine W_iadd d_196_70 ?_
  rw [show ((nI (5 * j) + 3 : Int32)) = nI (5 * j + 3) from nI_add (5 * j) 3]
  refine W_mld (a := 2) d_196_71 rfl (by decide) (n := 60) rfl (vp_in_nI (by omega) (by decide)) (congrArg (Y 2) (nI_clamp (by omega))) ?_
  refine W_istore d_196_72 rfl ?_
  refine W_iconst d_196_74 (v := 0) (by decide) ?_
  refine W_istore d_196_75 rfl ?_
  refine W_iconst d_196_77 (v := 0) (by decide) ?_
  refine W_istore d_196_78 rfl ?_
  refine lq_196_2 (Y0 := Y) (S0 := S) hX hW hm hK hj hs hd (fun Y1 S1 hI => ?_) 24 0 _ _ (by omega) FRc.refl
  refine W_aload_n d_196_197 rfl (by decide) ?_
  refine W_getf d_196_198 o_196 k_7_7 rfl rfl ?_
  refine W_iload_n d_196_201 rfl ?_
  refine W_iload d_196_202 rfl ?_
  refine W_mst (a := 0) d_196_204 rfl (by decide) (n := 12) rfl (vp_in_nI (by omega) (by decide)) (nI_clamp (by omega)) ?_
  refine W_aload_n d_196_205 rfl (by decide) ?_
  refine W_getf d_196_206 o_196 k_7_13 rfl rfl ?_
  refine W_iload_n d_196_209 rfl ?_
  refine W_iload d_196_210 rfl ?_
  refine W_mst (a := 1) d_196_212 rfl (by decide) (n := 12) rfl (vp_in_nI (by omega) (by decide)) (nI_clamp (by omega)) ?_
  refine W_aload_n d_196_213 rfl (by decide) ?_
  refine W_getf d_196_214 o_196 k_7_16 rfl rfl ?_
  refine W_iconst d_196_217 (v := 5) (by decide) ?_
  refine W_iload_n d_196_218 rfl ?_
  refine W_imul d_196_219 ?_
  rw [show ((5 * nI j : Int32)) = nI (5 * j) from pk_mul 5 j]
  refine W_iconst d_196_220 (v := 3) (by decide) ?_
  refine W_iadd d_196_221 ?_
  rw [show ((nI (5 * j) + 3 : Int32)) = nI (5 * j + 3) from nI_add (5 * j) 3]
  refine W_iload d_196_222 rfl ?_
  refine W_mst (a := 2) d_196_224 rfl (by decide) (n := 60) rfl (vp_in_nI (by omega) (by decide)) (nI_clamp (by omega)) ?_
  refine W_iload d_196_225 rfl ?_
  refine W_iret d_196_227 rt_196 rfl ?_
  exact ⟨rfl, _, _, rfl, close_012 hI⟩
theorem q_196a {d : Nat} {g : mG} {N : Nat} {P : Nat → mC} {Y : tR} {S : Nat → Int32} {R Lr : tR} {z : Nat → Nat} {n p t : Nat} (hX : MS Y S R Lr z n p t) (hW : WB n R) {K : Nat → tR} (hK : SHR K Y) {v w u so : Int32} (hb : ¬ rfv K n v = 0) (hd : 5 ≤ d) : Ex d 196 [.ref 92, .int v, .int w, .int u, .int so] (N, H3 g P (mm Y S)) (some (.int (rfv K n v))) (N, H3 g P (mm Y S)) := by
  have hn12 := hX.2.2.1
  have hp6 := hX.2.2.2.2.1
  have hS0 := hX.n0
  have hS5 := hX.p0
  refine Ex.of ?_
  show Wp _ 196 0 [.ref 92, .int v, .int w, .int u, .int so, .null, .null, .null, .null, .null, .null] [] _ _
  refine W_aload_n d_196_0 rfl (by decide) ?_
  refine W_iload_n d_196_1 rfl ?_
  refine W_callV d_196_2 o_196 (Or.inl k_7_261) (by omega) (q_192 hK hS0 (by omega)) rfl (mrecv_of rfl o_192.symm) rfl (Nat.le_of_ble_eq_true rfl) ?_
  refine W_istore d_196_5 rfl ?_
  refine W_iload d_196_7 rfl ?_
  refine W_if_eq (tgt := 15) d_196_9 (by decide) (fun h9 => absurd h9 hb) (fun h9 => ?_)
  refine W_iload d_196_12 rfl ?_
  refine W_iret d_196_14 rt_196 rfl ?_
  exact ⟨rfl, rfl⟩
theorem q_196b {d : Nat} {g : mG} {N : Nat} {P : Nat → mC} {Y : tR} {S : Nat → Int32} {R Lr : tR} {z : Nat → Nat} {n p t : Nat} (hX : MS Y S R Lr z n p t) (hW : WB n R) {K : Nat → tR} (hK : SHR K Y) {v w u so : Int32} (hr : rfv K n v = 0) (hb : ¬ (0 ≤ u ∧ u < nI n)) (hd : 5 ≤ d) : Ex d 196 [.ref 92, .int v, .int w, .int u, .int so] (N, H3 g P (mm Y S)) (some (.int (-5))) (N, H3 g P (mm Y S)) := by
  have hn12 := hX.2.2.1
  have hp6 := hX.2.2.2.2.1
  have hS0 := hX.n0
  have hS5 := hX.p0
  refine Ex.of ?_
  show Wp _ 196 0 [.ref 92, .int v, .int w, .int u, .int so, .null, .null, .null, .null, .null, .null] [] _ _
  refine W_aload_n d_196_0 rfl (by decide) ?_
  refine W_iload_n d_196_1 rfl ?_
  refine W_callV d_196_2 o_196 (Or.inl k_7_261) (by omega) (q_192 hK hS0 (by omega)) rfl (mrecv_of rfl o_192.symm) rfl (Nat.le_of_ble_eq_true rfl) ?_
  refine W_istore d_196_5 rfl ?_
  refine W_iload d_196_7 rfl ?_
  refine W_if_eq (tgt := 15) d_196_9 (by decide) (fun h9 => ?_) (fun h9 => absurd hr h9)
  refine W_aload_n d_196_15 rfl (by decide) ?_
  refine W_iload_n d_196_16 rfl ?_
  refine W_callV d_196_17 o_196 (Or.inl k_7_182) (by omega) (x_137 hS0 hn12 (by omega)) rfl (mrecv_of rfl o_137.symm) rfl (Nat.le_of_ble_eq_true rfl) ?_
  refine W_if_ne (tgt := 26) d_196_20 (by decide) (fun h20 => absurd (bI_ne.mpr hb) h20) (fun h20 => ?_)
  refine W_bipush d_196_23 (v := (-5)) (by decide) ?_
  refine W_iret d_196_25 rt_196 rfl ?_
  exact ⟨rfl, rfl⟩
theorem q_196c {d : Nat} {g : mG} {N : Nat} {P : Nat → mC} {Y : tR} {S : Nat → Int32} {R Lr : tR} {z : Nat → Nat} {n p t : Nat} (hX : MS Y S R Lr z n p t) (hW : WB n R) {K : Nat → tR} (hK : SHR K Y) {v w u so : Int32} (hr : rfv K n v = 0) (ha : 0 ≤ u ∧ u < nI n) (hb : ¬ ((0 ≤ w ∧ w ≤ 48) ∧ 0 ≤ so ∧ so ≤ 2)) (hd : 5 ≤ d) : Ex d 196 [.ref 92, .int v, .int w, .int u, .int so] (N, H3 g P (mm Y S)) (some (.int (-7))) (N, H3 g P (mm Y S)) := by
  have hn12 := hX.2.2.1
  have hp6 := hX.2.2.2.2.1
  have hS0 := hX.n0
  have hS5 := hX.p0
  refine Ex.of ?_
  show Wp _ 196 0 [.ref 92, .int v, .int w, .int u, .int so, .null, .null, .null, .null, .null, .null] [] _ _
  refine W_aload_n d_196_0 rfl (by decide) ?_
  refine W_iload_n d_196_1 rfl ?_
  refine W_callV d_196_2 o_196 (Or.inl k_7_261) (by omega) (q_192 hK hS0 (by omega)) rfl (mrecv_of rfl o_192.symm) rfl (Nat.le_of_ble_eq_true rfl) ?_
  refine W_istore d_196_5 rfl ?_
  refine W_iload d_196_7 rfl ?_
  refine W_if_eq (tgt := 15) d_196_9 (by decide) (fun h9 => ?_) (fun h9 => absurd hr h9)
  refine W_aload_n d_196_15 rfl (by decide) ?_
  refine W_iload_n d_196_16 rfl ?_
  refine W_callV d_196_17 o_196 (Or.inl k_7_182) (by omega) (x_137 hS0 hn12 (by omega)) rfl (mrecv_of rfl o_137.symm) rfl (Nat.le_of_ble_eq_true rfl) ?_
  refine W_if_ne (tgt := 26) d_196_20 (by decide) (fun h20 => ?_) (fun h20 => absurd h20 (fun q => bI_f q ha))
  refine W_iload_n d_196_26 rfl ?_
  refine W_callS d_196_27 o_196 k_7_244 (by omega) (x_139 (by omega)) rfl (Nat.le_of_ble_eq_true rfl) ?_
  refine W_if_eq (tgt := 43) d_196_30 (by decide) (fun h30 => ?_) (fun h30 => ?_)
  · refine W_bipush d_196_43 (v := (-7)) (by decide) ?_
    refine W_iret d_196_45 rt_196 rfl ?_
    exact ⟨rfl, rfl⟩
  · refine W_iload d_196_33 rfl ?_
    refine W_iconst d_196_35 (v := 0) (by decide) ?_
    refine W_iconst d_196_36 (v := 2) (by decide) ?_
    refine W_callS d_196_37 o_196 k_7_96 (by omega) x_135 rfl (Nat.le_of_ble_eq_true rfl) ?_
    refine W_if_ne (tgt := 46) d_196_40 (by decide) (fun h40 => ?_) (fun h40 => ?_)
    · exact (hb ⟨bI_t h30, bI_t h40⟩).elim
    · refine W_bipush d_196_43 (v := (-7)) (by decide) ?_
      refine W_iret d_196_45 rt_196 rfl ?_
      exact ⟨rfl, rfl⟩
theorem lq_197 {d : Nat} {g : mG} {N : Nat} {P : Nat → mC} {Y0 : tR} {S0 : Nat → Int32} {R Lr : tR} {z : Nat → Nat} {n p t : Nat} (hX : MS Y0 S0 R Lr z n p t) (hW : WB n R) {K : Nat → tR} (hK : SHR K Y0) {s : Nat} (hs : s < 4) {w rv : Int32} (hd : 9 ≤ d) {Q : Option Value → mM → Prop} (kk : ∀ (Y : tR) (S : Nat → Int32) (a : Value), (FRq Y0 S0 Y S) → Wp d 197 99 [.ref 92, .int (nI s), .int w, .int rv, .int (hrf (fun i => fo (K s 0) (gon R Lr z n p i 2) n 0) 49).1, .int (hrf (fun i => fo (K s 0) (gon R Lr z n p i 2) n 0) 49).2, .int (nI 49), a] [] (N, H3 g P (mm Y S)) Q) : ∀ (k i : Nat) (Y : tR) (S : Nat → Int32) (a : Value), i + k = 49 → (FRq Y0 S0 Y S) → Wp d 197 33 [.ref 92, .int (nI s), .int w, .int rv, .int (hrf (fun i => fo (K s 0) (gon R Lr z n p i 2) n 0) i).1, .int (hrf (fun i => fo (K s 0) (gon R Lr z n p i 2) n 0) i).2, .int (nI i), a] [] (N, H3 g P (mm Y S)) Q := by
  have hn12 := hX.2.2.1
  have hp6 := hX.2.2.2.2.1
  intro k
  induction k with
  | zero =>
    intro i Y S a hi hI
    have ei : i = 49 := by omega
    refine W_iload d_197_33 rfl ?_
    refine W_bipush d_197_35 (v := 48) (by decide) ?_
    refine W_icmp_gt (tgt := 99) d_197_37 (by decide) (fun h37 => ?_) (fun h37 => absurd (nI_lt (a := 48) (b := i) (by omega) (by omega)) h37)
    rw [ei]
    exact kk _ _ _ hI
  | succ k ih =>
    intro i Y S a hi hI
    refine W_iload d_197_33 rfl ?_
    refine W_bipush d_197_35 (v := 48) (by decide) ?_
    refine W_icmp_gt (tgt := 99) d_197_37 (by decide) (fun h37 => absurd h37 (nI_nlt (a := 48) (b := i) (by omega) (by omega))) (fun h37 => ?_)
    refine W_aload_n d_197_40 rfl (by decide) ?_
    refine W_iload_n d_197_41 rfl ?_
    refine W_iload d_197_42 rfl ?_
    refine W_callVQ d_197_44 o_197 (Or.inl k_7_267) (by omega) (q_194 (hX.q hI) (hK.c hI) (m := i) (by omega) hs (by omega)) rfl (mrecv_of rfl o_194.symm) rfl (Nat.le_of_ble_eq_true rfl) ?_
    rintro _ _ ⟨rfl, Y1, S1, rfl, hF1⟩
    refine W_iconst d_197_47 (v := (-1)) (by decide) ?_
    refine W_icmp_ne (tgt := 55) d_197_48 (by decide) (fun h48 => ?_) (fun h48 => ?_)
    · refine W_iconst d_197_55 (v := 0) (by decide) ?_
      refine W_istore d_197_56 rfl ?_
      refine W_iload d_197_58 rfl ?_
      refine W_iload d_197_60 rfl ?_
      refine W_if_eq (tgt := 69) d_197_62 (by decide) (fun _ => ?_) (fun h62 => absurd h62 (by decide))
      refine W_iconst d_197_69 (v := 0) (by decide) ?_
      refine W_iadd d_197_70 ?_
      refine W_istore d_197_71 rfl ?_
      refine W_iload d_197_73 rfl ?_
      refine W_if_eq (tgt := 89) d_197_75 (by decide) (fun _ => ?_) (fun h75 => absurd h75 (by decide))
      refine W_iload d_197_89 rfl ?_
      refine W_istore d_197_91 rfl ?_
      refine W_iinc (v := 1) d_197_93 rfl (by decide) rfl ?_
      rw [show ((nI i + 1 : Int32)) = nI (i + 1) from nI_add i 1]
      refine W_goto (tgt := 33) d_197_96 (by decide) ?_
      have h9 := fun a => ih (i + 1) _ _ a (by omega) (FRc.g hI hF1)
      rw [hrf, if_neg (show ¬ (fun i => fo (K s 0) (gon R Lr z n p i 2) n 0) i = -1 from h48)] at h9
      rw [Int32.add_zero]
      exact h9 _
    · refine W_iconst d_197_51 (v := 1) (by decide) ?_
      refine W_goto (tgt := 56) d_197_52 (by decide) ?_
      refine W_istore d_197_56 rfl ?_
      refine W_iload d_197_58 rfl ?_
      refine W_iload d_197_60 rfl ?_
      refine W_if_eq (tgt := 69) d_197_62 (by decide) (fun h62 => absurd h62 (by decide)) (fun _ => ?_)
      refine W_iconst d_197_65 (v := 1) (by decide) ?_
      refine W_goto (tgt := 70) d_197_66 (by decide) ?_
      refine W_iadd d_197_70 ?_
      refine W_istore d_197_71 rfl ?_
      refine W_iload d_197_73 rfl ?_
      refine W_if_eq (tgt := 89) d_197_75 (by decide) (fun h75 => absurd h75 (by decide)) (fun _ => ?_)
      refine W_iload d_197_78 rfl ?_
      refine W_iconst d_197_80 (v := (-1)) (by decide) ?_
      refine W_icmp_ne (tgt := 89) d_197_81 (by decide) (fun h81 => ?_) (fun h81 => ?_)
      · refine W_iload d_197_89 rfl ?_
        refine W_istore d_197_91 rfl ?_
        refine W_iinc (v := 1) d_197_93 rfl (by decide) rfl ?_
        rw [show ((nI i + 1 : Int32)) = nI (i + 1) from nI_add i 1]
        refine W_goto (tgt := 33) d_197_96 (by decide) ?_
        have h9 := fun a => ih (i + 1) _ _ a (by omega) (FRc.g hI hF1)
        rw [hrf, if_pos (show (fun i => fo (K s 0) (gon R Lr z n p i 2) n 0) i = -1 from h48), if_neg h81] at h9
        exact h9 _
      · refine W_iload d_197_84 rfl ?_
        refine W_goto (tgt := 91) d_197_86 (by decide) ?_
        refine W_istore d_197_91 rfl ?_
        refine W_iinc (v := 1) d_197_93 rfl (by decide) rfl ?_
        rw [show ((nI i + 1 : Int32)) = nI (i + 1) from nI_add i 1]
        refine W_goto (tgt := 33) d_197_96 (by decide) ?_
        have h9 := fun a => ih (i + 1) _ _ a (by omega) (FRc.g hI hF1)
        rw [hrf, if_pos (show (fun i => fo (K s 0) (gon R Lr z n p i 2) n 0) i = -1 from h48), if_pos h81] at h9
        exact h9 _
theorem q_197 {d : Nat} {g : mG} {N : Nat} {P : Nat → mC} {Y : tR} {S : Nat → Int32} {R Lr : tR} {z : Nat → Nat} {n p t : Nat} (hX : MS Y S R Lr z n p t) (hW : WB n R) {K : Nat → tR} (hK : SHR K Y) {s : Nat} (hs : s < 4) (hr : rfv K n (nI s) = 0) {w : Int32} (hw : 0 ≤ w ∧ w ≤ 1) (hd : 9 ≤ d) : Wp d 197 0 (ment 197 [.ref 92, .int (nI s), .int w]) [] (N, H3 g P (mm Y S)) (fun v M' => v = some (.int (pk w (hrf (fun i => fo (K s 0) (gon R Lr z n p i 2) n 0) 49))) ∧ ∃ Y' S', M' = (N, H3 g P (mm Y' S')) ∧ FRq Y S Y' S') := by
  have hn12 := hX.2.2.1
  have hp6 := hX.2.2.2.2.1
  have hS0 := hX.n0
  have hS5 := hX.p0
  show Wp _ 197 0 [.ref 92, .int (nI s), .int w, .null, .null, .null, .null, .null] [] _ _
  refine W_aload_n d_197_0 rfl (by decide) ?_
  refine W_iload_n d_197_1 rfl ?_
  refine W_callV d_197_2 o_197 (Or.inl k_7_261) (by omega) (q_192 hK hS0 (by omega)) rfl (mrecv_of rfl o_192.symm) rfl (Nat.le_of_ble_eq_true rfl) ?_
  refine W_istore_n d_197_5 rfl ?_
  refine W_iload_n d_197_6 rfl ?_
  refine W_if_eq (tgt := 12) d_197_7 (by decide) (fun h7 => ?_) (fun h7 => absurd hr h7)
  refine W_iload_n d_197_12 rfl ?_
  refine W_iconst d_197_13 (v := 0) (by decide) ?_
  refine W_iconst d_197_14 (v := 1) (by decide) ?_
  refine W_callS d_197_15 o_197 k_7_96 (by omega) x_135 rfl (Nat.le_of_ble_eq_true rfl) ?_
  refine W_if_ne (tgt := 24) d_197_18 (by decide) (fun h18 => ?_) (fun h18 => absurd h18 (fun q => bI_f q hw))
  refine W_iconst d_197_24 (v := 0) (by decide) ?_
  refine W_istore d_197_25 rfl ?_
  refine W_iconst d_197_27 (v := (-1)) (by decide) ?_
  refine W_istore d_197_28 rfl ?_
  refine W_iconst d_197_30 (v := 0) (by decide) ?_
  refine W_istore d_197_31 rfl ?_
  refine lq_197 (Y0 := Y) (S0 := S) hX hW hK hs hd (fun Y1 S1 a hI => ?_) 49 0 _ _ _ (by omega) FRq.refl
  refine W_iload_n d_197_99 rfl ?_
  refine W_if_ne (tgt := 108) d_197_100 (by decide) (fun h100 => ?_) (fun h100 => ?_)
  · refine W_iload d_197_108 rfl ?_
    refine W_iret d_197_110 rt_197 rfl ?_
    exact ⟨congrArg (fun z => some (Value.int z)) (if_neg h100).symm, _, _, rfl, hI⟩
  · refine W_iload d_197_103 rfl ?_
    refine W_goto (tgt := 110) d_197_105 (by decide) ?_
    refine W_iret d_197_110 rt_197 rfl ?_
    exact ⟨congrArg (fun z => some (Value.int z)) (if_pos h100).symm, _, _, rfl, hI⟩
theorem q_197a {d : Nat} {g : mG} {N : Nat} {P : Nat → mC} {Y : tR} {S : Nat → Int32} {R Lr : tR} {z : Nat → Nat} {n p t : Nat} (hX : MS Y S R Lr z n p t) (hW : WB n R) {K : Nat → tR} (hK : SHR K Y) {v w : Int32} (hb : ¬ rfv K n v = 0) (hd : 5 ≤ d) : Ex d 197 [.ref 92, .int v, .int w] (N, H3 g P (mm Y S)) (some (.int (rfv K n v))) (N, H3 g P (mm Y S)) := by
  have hn12 := hX.2.2.1
  have hp6 := hX.2.2.2.2.1
  have hS0 := hX.n0
  have hS5 := hX.p0
  refine Ex.of ?_
  show Wp _ 197 0 [.ref 92, .int v, .int w, .null, .null, .null, .null, .null] [] _ _
  refine W_aload_n d_197_0 rfl (by decide) ?_
  refine W_iload_n d_197_1 rfl ?_
  refine W_callV d_197_2 o_197 (Or.inl k_7_261) (by omega) (q_192 hK hS0 (by omega)) rfl (mrecv_of rfl o_192.symm) rfl (Nat.le_of_ble_eq_true rfl) ?_
  refine W_istore_n d_197_5 rfl ?_
  refine W_iload_n d_197_6 rfl ?_
  refine W_if_eq (tgt := 12) d_197_7 (by decide) (fun h7 => absurd h7 hb) (fun h7 => ?_)
  refine W_iload_n d_197_10 rfl ?_
  refine W_iret d_197_11 rt_197 rfl ?_
  exact ⟨rfl, rfl⟩
theorem q_197b {d : Nat} {g : mG} {N : Nat} {P : Nat → mC} {Y : tR} {S : Nat → Int32} {R Lr : tR} {z : Nat → Nat} {n p t : Nat} (hX : MS Y S R Lr z n p t) (hW : WB n R) {K : Nat → tR} (hK : SHR K Y) {v w : Int32} (hr : rfv K n v = 0) (hb : ¬ (0 ≤ w ∧ w ≤ 1)) (hd : 5 ≤ d) : Ex d 197 [.ref 92, .int v, .int w] (N, H3 g P (mm Y S)) (some (.int (-7))) (N, H3 g P (mm Y S)) := by
  have hn12 := hX.2.2.1
  have hp6 := hX.2.2.2.2.1
  have hS0 := hX.n0
  have hS5 := hX.p0
  refine Ex.of ?_
  show Wp _ 197 0 [.ref 92, .int v, .int w, .null, .null, .null, .null, .null] [] _ _
  refine W_aload_n d_197_0 rfl (by decide) ?_
  refine W_iload_n d_197_1 rfl ?_
  refine W_callV d_197_2 o_197 (Or.inl k_7_261) (by omega) (q_192 hK hS0 (by omega)) rfl (mrecv_of rfl o_192.symm) rfl (Nat.le_of_ble_eq_true rfl) ?_
  refine W_istore_n d_197_5 rfl ?_
  refine W_iload_n d_197_6 rfl ?_
  refine W_if_eq (tgt := 12) d_197_7 (by decide) (fun h7 => ?_) (fun h7 => absurd hr h7)
  refine W_iload_n d_197_12 rfl ?_
  refine W_iconst d_197_13 (v := 0) (by decide) ?_
  refine W_iconst d_197_14 (v := 1) (by decide) ?_
  refine W_callS d_197_15 o_197 k_7_96 (by omega) x_135 rfl (Nat.le_of_ble_eq_true rfl) ?_
  refine W_if_ne (tgt := 24) d_197_18 (by decide) (fun h18 => absurd (bI_ne.mpr hb) h18) (fun h18 => ?_)
  refine W_bipush d_197_21 (v := (-7)) (by decide) ?_
  refine W_iret d_197_23 rt_197 rfl ?_
  exact ⟨rfl, rfl⟩
theorem set_law {Y : tR} {S : Nat → Int32} {R Lr Lr' : tR} {z z' : Nat → Nat} {n p t t' : Nat} (ht' : t' < 6) (hL' : Lw Lr' z') (hM' : LM Y t' Lr' z') {w : Int32} (hms : MS Y (va_up S 15 w) R Lr z n p t) : MS Y (va_up S 15 (nI t')) (lwr R t') Lr' z' n p t' := by
  obtain ⟨hq, hn, hn12, hp, hp6, hlw, ht, hL, hM, hB⟩ := hms
  have e := mes_s15 (A := fun _ => R) (r := 0) (v := nI t') hq rfl
  rw [show va_up (va_up S 15 w) 15 (nI t') = va_up S 15 (nI t') from funext fun i => by unfold va_up; by_cases h : i = 15 <;> simp [h]] at e
  refine ⟨e, ?_, hn12, ?_, hp6, ?_, ht', hL', hM', fun j hj => ?_⟩
  · exact hn
  · exact hp
  · unfold lwr
    rw [u3_ap, if_pos ⟨rfl, rfl, rfl⟩]
  · exact hB j hj
theorem lq_198 {d : Nat} {g : mG} {N : Nat} {P : Nat → mC} {Y0 : tR} {S0 : Nat → Int32} {R Lr : tR} {z : Nat → Nat} {n p t : Nat} (hX : MS Y0 S0 R Lr z n p t) (hW : WB n R) {m : Nat} (hm : m ≤ 48) {K : Nat → tR} (hK : SHR K Y0) {tc : Nat} (htc : S0 14 = nI tc) (ht6 : tc ≤ 6) {T : Nat → tR} {zs : Nat → Nat → Nat} (hLs : ∀ i, i < tc → Lw (T i) (zs i) ∧ LM Y0 i (T i) (zs i)) {s : Nat} (hs : s < 4) {rv : Int32} (hd : 9 ≤ d) {Q : Option Value → mM → Prop} (kk : ∀ (Y : tR) (S : Nat → Int32) , (FRc (fun a k => a = 99 ∧ k = 15) Y0 S0 Y S) → Wp d 198 69 [.ref 92, .int (nI s), .int (nI m), .int rv, .int (S0 15), .int (btf (fun i => fo (K s 0) (gon (lwr R i) (T i) (zs i) n p m 2) n 0) tc), .int (nI tc)] [] (N, H3 g P (mm Y S)) Q) : ∀ (k i : Nat) (Y : tR) (S : Nat → Int32) , i + k = tc → (FRc (fun a k => a = 99 ∧ k = 15) Y0 S0 Y S) → Wp d 198 25 [.ref 92, .int (nI s), .int (nI m), .int rv, .int (S0 15), .int (btf (fun i => fo (K s 0) (gon (lwr R i) (T i) (zs i) n p m 2) n 0) i), .int (nI i)] [] (N, H3 g P (mm Y S)) Q := by
  have hn12 := hX.2.2.1
  have hp6 := hX.2.2.2.2.1
  intro k
  induction k with
  | zero =>
    intro i Y S  hi hI
    have ei : i = tc := by omega
    have htx : S 14 = nI tc := (hI.2.2.2.2 14 (by decide) (fun q => absurd q.2 (by decide))).trans htc
    refine W_iload d_198_25 rfl ?_
    refine W_aload_n d_198_27 rfl (by decide) ?_
    refine W_getf d_198_28 o_198 k_7_106 rfl rfl ?_
    rw [htx]
    refine W_icmp_ge (tgt := 69) d_198_31 (by decide) (fun h31 => ?_) (fun h31 => absurd (nI_le (a := tc) (b := i) (by omega) (by omega)) h31)
    rw [ei]
    exact kk _ _ hI
  | succ k ih =>
    intro i Y S  hi hI
    have htx : S 14 = nI tc := (hI.2.2.2.2 14 (by decide) (fun q => absurd q.2 (by decide))).trans htc
    refine W_iload d_198_25 rfl ?_
    refine W_aload_n d_198_27 rfl (by decide) ?_
    refine W_getf d_198_28 o_198 k_7_106 rfl rfl ?_
    rw [htx]
    refine W_icmp_ge (tgt := 69) d_198_31 (by decide) (fun h31 => absurd h31 (nI_ge (a := i) (b := tc) (by omega) (by omega))) (fun h31 => ?_)
    refine W_aload_n d_198_34 rfl (by decide) ?_
    refine W_iload d_198_35 rfl ?_
    refine W_putf d_198_37 o_198 k_7_109 rfl (Nat.le_of_ble_eq_true rfl) rfl mm_s15 ?_
    have hms := set_law (t' := i) (by omega) (hLs i (by omega)).1 (FRc.lm hI (hLs i (by omega)).2) (hX.q ((hI.s (j := 15) (v := S0 15) ⟨rfl, rfl⟩).close (fun k _ q => absurd q.1 (by decide)) (fun k _ q => absurd q.1 (by decide)) (fun k _ q => absurd q.1 (by decide)) (fun k _ q => absurd q.1 (by decide)) (fun k _ q => absurd q.1 (by decide)) (fun k q => by rw [q.2]; exact va_same _ _ _)))
    have hFs : FRc (fun a k => a = 99 ∧ k = 15) Y0 S0 Y (va_up S 15 (nI i)) := hI.s ⟨rfl, rfl⟩
    refine W_iload d_198_40 rfl ?_
    refine W_aload_n d_198_42 rfl (by decide) ?_
    refine W_iload_n d_198_43 rfl ?_
    refine W_iload_n d_198_44 rfl ?_
    refine W_callVQ d_198_45 o_198 (Or.inl k_7_267) (by omega) (q_194 hms (hK.c hFs) hm hs (by omega)) rfl (mrecv_of rfl o_194.symm) rfl (Nat.le_of_ble_eq_true rfl) ?_
    rintro _ _ ⟨rfl, Y1, S1, rfl, hF1⟩
    refine W_iconst d_198_48 (v := (-1)) (by decide) ?_
    refine W_icmp_ne (tgt := 59) d_198_49 (by decide) (fun h49 => ?_) (fun h49 => ?_)
    · refine W_iconst d_198_59 (v := 0) (by decide) ?_
      refine W_ior d_198_60 ?_
      refine W_istore d_198_61 rfl ?_
      refine W_iinc (v := 1) d_198_63 rfl (by decide) rfl ?_
      rw [show ((nI i + 1 : Int32)) = nI (i + 1) from nI_add i 1]
      refine W_goto (tgt := 25) d_198_66 (by decide) ?_
      have h9 := ih (i + 1) _ _ (by omega) (hFs.g hF1)
      rw [btf, if_neg (show ¬ (fun i => fo (K s 0) (gon (lwr R i) (T i) (zs i) n p m 2) n 0) i = -1 from h49)] at h9
      rw [show btf (fun i => fo (K s 0) (gon (lwr R i) (T i) (zs i) n p m 2) n 0) i ||| 0 = btf (fun i => fo (K s 0) (gon (lwr R i) (T i) (zs i) n p m 2) n 0) i from Int32.or_zero]
      exact h9
    · refine W_iconst d_198_52 (v := 1) (by decide) ?_
      refine W_iload d_198_53 rfl ?_
      refine W_ishl d_198_55 ?_
      refine W_goto (tgt := 60) d_198_56 (by decide) ?_
      refine W_ior d_198_60 ?_
      refine W_istore d_198_61 rfl ?_
      refine W_iinc (v := 1) d_198_63 rfl (by decide) rfl ?_
      rw [show ((nI i + 1 : Int32)) = nI (i + 1) from nI_add i 1]
      refine W_goto (tgt := 25) d_198_66 (by decide) ?_
      have h9 := ih (i + 1) _ _ (by omega) (hFs.g hF1)
      rw [btf, if_pos (show (fun i => fo (K s 0) (gon (lwr R i) (T i) (zs i) n p m 2) n 0) i = -1 from h49)] at h9
      exact h9
theorem q_198 {d : Nat} {g : mG} {N : Nat} {P : Nat → mC} {Y : tR} {S : Nat → Int32} {R Lr : tR} {z : Nat → Nat} {n p t : Nat} (hX : MS Y S R Lr z n p t) (hW : WB n R) {K : Nat → tR} (hK : SHR K Y) {m : Nat} (hm : m ≤ 48) {tc : Nat} (htc : S 14 = nI tc) (ht6 : tc ≤ 6) {T : Nat → tR} {zs : Nat → Nat → Nat} (hLs : ∀ i, i < tc → Lw (T i) (zs i) ∧ LM Y i (T i) (zs i)) {s : Nat} (hs : s < 4) (hr : rfv K n (nI s) = 0) (hd : 9 ≤ d) : Wp d 198 0 (ment 198 [.ref 92, .int (nI s), .int (nI m)]) [] (N, H3 g P (mm Y S)) (fun v M' => v = some (.int (btf (fun i => fo (K s 0) (gon (lwr R i) (T i) (zs i) n p m 2) n 0) tc)) ∧ ∃ Y' S', M' = (N, H3 g P (mm Y' S')) ∧ FRq Y S Y' S') := by
  have hn12 := hX.2.2.1
  have hp6 := hX.2.2.2.2.1
  have hS0 := hX.n0
  have hS5 := hX.p0
  show Wp _ 198 0 [.ref 92, .int (nI s), .int (nI m), .null, .null, .null, .null] [] _ _
  refine W_aload_n d_198_0 rfl (by decide) ?_
  refine W_iload_n d_198_1 rfl ?_
  refine W_iload_n d_198_2 rfl ?_
  refine W_callV d_198_3 o_198 (Or.inl k_7_264) (by omega) (q_193 hK hX.n0 hr ⟨nI_pos' (by omega), nI_le (a := m) (b := 48) hm (by decide)⟩ (by omega)) rfl (mrecv_of rfl o_193.symm) rfl (Nat.le_of_ble_eq_true rfl) ?_
  refine W_istore_n d_198_6 rfl ?_
  refine W_iload_n d_198_7 rfl ?_
  refine W_if_eq (tgt := 13) d_198_8 (by decide) (fun h8 => ?_) (fun h8 => absurd rfl h8)
  refine W_aload_n d_198_13 rfl (by decide) ?_
  refine W_getf d_198_14 o_198 k_7_109 rfl rfl ?_
  refine W_istore d_198_17 rfl ?_
  refine W_iconst d_198_19 (v := 0) (by decide) ?_
  refine W_istore d_198_20 rfl ?_
  refine W_iconst d_198_22 (v := 0) (by decide) ?_
  refine W_istore d_198_23 rfl ?_
  refine lq_198 (Y0 := Y) (S0 := S) hX hW hm hK htc ht6 hLs hs hd (fun Y1 S1 hI => ?_) tc 0 _ _ (by omega) FRc.refl
  refine W_aload_n d_198_69 rfl (by decide) ?_
  refine W_iload d_198_70 rfl ?_
  refine W_putf d_198_72 o_198 k_7_109 rfl (Nat.le_of_ble_eq_true rfl) rfl mm_s15 ?_
  refine W_iload d_198_75 rfl ?_
  refine W_iret d_198_77 rt_198 rfl ?_
  exact ⟨rfl, _, _, rfl, ((hI.s (j := 15) (v := S 15) ⟨rfl, rfl⟩).close (fun k _ q => absurd q.1 (by decide)) (fun k _ q => absurd q.1 (by decide)) (fun k _ q => absurd q.1 (by decide)) (fun k _ q => absurd q.1 (by decide)) (fun k _ q => absurd q.1 (by decide)) (fun k q => by rw [q.2]; exact va_same _ _ _))⟩
theorem q_198a {d : Nat} {g : mG} {N : Nat} {P : Nat → mC} {Y : tR} {S : Nat → Int32} {R Lr : tR} {z : Nat → Nat} {n p t : Nat} (hX : MS Y S R Lr z n p t) (hW : WB n R) {K : Nat → tR} (hK : SHR K Y) {v w : Int32} (hb : ¬ rfv K n v = 0) (hd : 5 ≤ d) : Ex d 198 [.ref 92, .int v, .int w] (N, H3 g P (mm Y S)) (some (.int (rfv K n v))) (N, H3 g P (mm Y S)) := by
  refine Ex.of ?_
  show Wp _ 198 0 [.ref 92, .int v, .int w, .null, .null, .null, .null] [] _ _
  refine W_aload_n d_198_0 rfl (by decide) ?_
  refine W_iload_n d_198_1 rfl ?_
  refine W_iload_n d_198_2 rfl ?_
  refine W_callV d_198_3 o_198 (Or.inl k_7_264) (by omega) (q_193r hK hX.n0 hb (by omega)) rfl (mrecv_of rfl o_193.symm) rfl (Nat.le_of_ble_eq_true rfl) ?_
  refine W_istore_n d_198_6 rfl ?_
  refine W_iload_n d_198_7 rfl ?_
  refine W_if_eq (tgt := 13) d_198_8 (by decide) (fun h8 => absurd h8 hb) (fun h8 => ?_)
  refine W_iload_n d_198_11 rfl ?_
  refine W_iret d_198_12 rt_198 rfl ?_
  exact ⟨rfl, rfl⟩
theorem q_198b {d : Nat} {g : mG} {N : Nat} {P : Nat → mC} {Y : tR} {S : Nat → Int32} {R Lr : tR} {z : Nat → Nat} {n p t : Nat} (hX : MS Y S R Lr z n p t) (hW : WB n R) {K : Nat → tR} (hK : SHR K Y) {v w : Int32} (hr : rfv K n v = 0) (hb : ¬ (0 ≤ w ∧ w ≤ 48)) (hd : 5 ≤ d) : Ex d 198 [.ref 92, .int v, .int w] (N, H3 g P (mm Y S)) (some (.int (-7))) (N, H3 g P (mm Y S)) := by
  refine Ex.of ?_
  show Wp _ 198 0 [.ref 92, .int v, .int w, .null, .null, .null, .null] [] _ _
  refine W_aload_n d_198_0 rfl (by decide) ?_
  refine W_iload_n d_198_1 rfl ?_
  refine W_iload_n d_198_2 rfl ?_
  refine W_callV d_198_3 o_198 (Or.inl k_7_264) (by omega) (q_193h hK hX.n0 hr hb (by omega)) rfl (mrecv_of rfl o_193.symm) rfl (Nat.le_of_ble_eq_true rfl) ?_
  refine W_istore_n d_198_6 rfl ?_
  refine W_iload_n d_198_7 rfl ?_
  refine W_if_eq (tgt := 13) d_198_8 (by decide) (fun h8 => absurd h8 (by decide)) (fun h8 => ?_)
  refine W_iload_n d_198_11 rfl ?_
  refine W_iret d_198_12 rt_198 rfl ?_
  exact ⟨rfl, rfl⟩
